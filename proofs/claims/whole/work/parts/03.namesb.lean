theorem dX0_init_0 : decode cX0_init 0 = .ok (.aload_n 0, 1) := by decide +kernel
theorem dX0_init_1 : decode cX0_init 1 = .ok (.invokespecial 3, 3) := by decide +kernel
theorem dX0_init_4 : decode cX0_init 4 = .ok (.aload_n 0, 1) := by decide +kernel
theorem dX0_init_5 : decode cX0_init 5 = .ok (.iconst 4, 1) := by decide +kernel
theorem dX0_init_6 : decode cX0_init 6 = .ok (.putfield 9, 3) := by decide +kernel
theorem dX0_init_9 : decode cX0_init 9 = .ok (.aload_n 0, 1) := by decide +kernel
theorem dX0_init_10 : decode cX0_init 10 = .ok (.iconst 4, 1) := by decide +kernel
theorem dX0_init_11 : decode cX0_init 11 = .ok (.putfield 15, 3) := by decide +kernel
theorem dX0_init_14 : decode cX0_init 14 = .ok (.aload_n 0, 1) := by decide +kernel
theorem dX0_init_15 : decode cX0_init 15 = .ok (.lconst 0, 1) := by decide +kernel
theorem dX0_init_16 : decode cX0_init 16 = .ok (.putfield 18, 3) := by decide +kernel
theorem dX0_init_19 : decode cX0_init 19 = .ok (.return_, 1) := by decide +kernel
theorem dX0_layOut_0 : decode cX0_layOut 0 = .ok (.aload_n 0, 1) := by decide +kernel
theorem dX0_layOut_1 : decode cX0_layOut 1 = .ok (.iload_n 1, 1) := by decide +kernel
theorem dX0_layOut_2 : decode cX0_layOut 2 = .ok (.putfield 9, 3) := by decide +kernel
theorem dX0_layOut_5 : decode cX0_layOut 5 = .ok (.aload_n 0, 1) := by decide +kernel
theorem dX0_layOut_6 : decode cX0_layOut 6 = .ok (.iload_n 2, 1) := by decide +kernel
theorem dX0_layOut_7 : decode cX0_layOut 7 = .ok (.putfield 15, 3) := by decide +kernel
theorem dX0_layOut_10 : decode cX0_layOut 10 = .ok (.aload_n 0, 1) := by decide +kernel
theorem dX0_layOut_11 : decode cX0_layOut 11 = .ok (.lconst 0, 1) := by decide +kernel
theorem dX0_layOut_12 : decode cX0_layOut 12 = .ok (.putfield 18, 3) := by decide +kernel
theorem dX0_layOut_15 : decode cX0_layOut 15 = .ok (.return_, 1) := by decide +kernel
theorem dX0_copyGrid_0 : decode cX0_copyGrid 0 = .ok (.aload_n 0, 1) := by decide +kernel
theorem dX0_copyGrid_1 : decode cX0_copyGrid 1 = .ok (.aload_n 1, 1) := by decide +kernel
theorem dX0_copyGrid_2 : decode cX0_copyGrid 2 = .ok (.getfield 9, 3) := by decide +kernel
theorem dX0_copyGrid_5 : decode cX0_copyGrid 5 = .ok (.putfield 9, 3) := by decide +kernel
theorem dX0_copyGrid_8 : decode cX0_copyGrid 8 = .ok (.aload_n 0, 1) := by decide +kernel
theorem dX0_copyGrid_9 : decode cX0_copyGrid 9 = .ok (.aload_n 1, 1) := by decide +kernel
theorem dX0_copyGrid_10 : decode cX0_copyGrid 10 = .ok (.getfield 15, 3) := by decide +kernel
theorem dX0_copyGrid_13 : decode cX0_copyGrid 13 = .ok (.putfield 15, 3) := by decide +kernel
theorem dX0_copyGrid_16 : decode cX0_copyGrid 16 = .ok (.aload_n 0, 1) := by decide +kernel
theorem dX0_copyGrid_17 : decode cX0_copyGrid 17 = .ok (.aload_n 1, 1) := by decide +kernel
theorem dX0_copyGrid_18 : decode cX0_copyGrid 18 = .ok (.getfield 18, 3) := by decide +kernel
theorem dX0_copyGrid_21 : decode cX0_copyGrid 21 = .ok (.putfield 18, 3) := by decide +kernel
theorem dX0_copyGrid_24 : decode cX0_copyGrid 24 = .ok (.return_, 1) := by decide +kernel
theorem dX0_boxes_0 : decode cX0_boxes 0 = .ok (.aload_n 0, 1) := by decide +kernel
theorem dX0_boxes_1 : decode cX0_boxes 1 = .ok (.getfield 9, 3) := by decide +kernel
theorem dX0_boxes_4 : decode cX0_boxes 4 = .ok (.aload_n 0, 1) := by decide +kernel
theorem dX0_boxes_5 : decode cX0_boxes 5 = .ok (.getfield 15, 3) := by decide +kernel
theorem dX0_boxes_8 : decode cX0_boxes 8 = .ok (.imul, 1) := by decide +kernel
theorem dX0_boxes_9 : decode cX0_boxes 9 = .ok (.ireturn, 1) := by decide +kernel
theorem dX0_has_0 : decode cX0_has 0 = .ok (.iload_n 1, 1) := by decide +kernel
theorem dX0_has_1 : decode cX0_has 1 = .ok (.ifCond .lt 20, 3) := by decide +kernel
theorem dX0_has_4 : decode cX0_has 4 = .ok (.iload_n 1, 1) := by decide +kernel
theorem dX0_has_5 : decode cX0_has 5 = .ok (.aload_n 0, 1) := by decide +kernel
theorem dX0_has_6 : decode cX0_has 6 = .ok (.getfield 9, 3) := by decide +kernel
theorem dX0_has_9 : decode cX0_has 9 = .ok (.aload_n 0, 1) := by decide +kernel
theorem dX0_has_10 : decode cX0_has 10 = .ok (.getfield 15, 3) := by decide +kernel
theorem dX0_has_13 : decode cX0_has 13 = .ok (.imul, 1) := by decide +kernel
theorem dX0_has_14 : decode cX0_has 14 = .ok (.if_icmp .ge 7, 3) := by decide +kernel
theorem dX0_has_17 : decode cX0_has 17 = .ok (.iconst 1, 1) := by decide +kernel
theorem dX0_has_18 : decode cX0_has 18 = .ok (.goto 4, 3) := by decide +kernel
theorem dX0_has_21 : decode cX0_has 21 = .ok (.iconst 0, 1) := by decide +kernel
theorem dX0_has_22 : decode cX0_has 22 = .ok (.ireturn, 1) := by decide +kernel
theorem dX0_beside_0 : decode cX0_beside 0 = .ok (.aload_n 0, 1) := by decide +kernel
theorem dX0_beside_1 : decode cX0_beside 1 = .ok (.getfield 9, 3) := by decide +kernel
theorem dX0_beside_4 : decode cX0_beside 4 = .ok (.iconst 1, 1) := by decide +kernel
theorem dX0_beside_5 : decode cX0_beside 5 = .ok (.if_icmp .ge 5, 3) := by decide +kernel
theorem dX0_beside_8 : decode cX0_beside 8 = .ok (.iconst (-1), 1) := by decide +kernel
theorem dX0_beside_9 : decode cX0_beside 9 = .ok (.ireturn, 1) := by decide +kernel
theorem dX0_beside_10 : decode cX0_beside 10 = .ok (.iload_n 1, 1) := by decide +kernel
theorem dX0_beside_11 : decode cX0_beside 11 = .ok (.aload_n 0, 1) := by decide +kernel
theorem dX0_beside_12 : decode cX0_beside 12 = .ok (.getfield 9, 3) := by decide +kernel
theorem dX0_beside_15 : decode cX0_beside 15 = .ok (.irem, 1) := by decide +kernel
theorem dX0_beside_16 : decode cX0_beside 16 = .ok (.istore_n 3, 1) := by decide +kernel
theorem dX0_beside_17 : decode cX0_beside 17 = .ok (.iload_n 1, 1) := by decide +kernel
theorem dX0_beside_18 : decode cX0_beside 18 = .ok (.aload_n 0, 1) := by decide +kernel
theorem dX0_beside_19 : decode cX0_beside 19 = .ok (.getfield 9, 3) := by decide +kernel
theorem dX0_beside_22 : decode cX0_beside 22 = .ok (.idiv, 1) := by decide +kernel
theorem dX0_beside_23 : decode cX0_beside 23 = .ok (.istore 4, 2) := by decide +kernel
theorem dX0_beside_25 : decode cX0_beside 25 = .ok (.iload_n 2, 1) := by decide +kernel
theorem dX0_beside_26 : decode cX0_beside 26 = .ok (.tableswitch 98 0 3 #[30, 48, 60, 82], 30) := by decide +kernel
theorem dX0_beside_56 : decode cX0_beside 56 = .ok (.iload_n 3, 1) := by decide +kernel
theorem dX0_beside_57 : decode cX0_beside 57 = .ok (.aload_n 0, 1) := by decide +kernel
theorem dX0_beside_58 : decode cX0_beside 58 = .ok (.getfield 9, 3) := by decide +kernel
theorem dX0_beside_61 : decode cX0_beside 61 = .ok (.iconst 1, 1) := by decide +kernel
theorem dX0_beside_62 : decode cX0_beside 62 = .ok (.isub, 1) := by decide +kernel
theorem dX0_beside_63 : decode cX0_beside 63 = .ok (.if_icmp .ge 9, 3) := by decide +kernel
theorem dX0_beside_66 : decode cX0_beside 66 = .ok (.iload_n 1, 1) := by decide +kernel
theorem dX0_beside_67 : decode cX0_beside 67 = .ok (.iconst 1, 1) := by decide +kernel
theorem dX0_beside_68 : decode cX0_beside 68 = .ok (.iadd, 1) := by decide +kernel
theorem dX0_beside_69 : decode cX0_beside 69 = .ok (.goto 4, 3) := by decide +kernel
theorem dX0_beside_72 : decode cX0_beside 72 = .ok (.iconst (-1), 1) := by decide +kernel
theorem dX0_beside_73 : decode cX0_beside 73 = .ok (.ireturn, 1) := by decide +kernel
theorem dX0_beside_74 : decode cX0_beside 74 = .ok (.iload_n 3, 1) := by decide +kernel
theorem dX0_beside_75 : decode cX0_beside 75 = .ok (.ifCond .le 9, 3) := by decide +kernel
theorem dX0_beside_78 : decode cX0_beside 78 = .ok (.iload_n 1, 1) := by decide +kernel
theorem dX0_beside_79 : decode cX0_beside 79 = .ok (.iconst 1, 1) := by decide +kernel
theorem dX0_beside_80 : decode cX0_beside 80 = .ok (.isub, 1) := by decide +kernel
theorem dX0_beside_81 : decode cX0_beside 81 = .ok (.goto 4, 3) := by decide +kernel
theorem dX0_beside_84 : decode cX0_beside 84 = .ok (.iconst (-1), 1) := by decide +kernel
theorem dX0_beside_85 : decode cX0_beside 85 = .ok (.ireturn, 1) := by decide +kernel
theorem dX0_beside_86 : decode cX0_beside 86 = .ok (.iload 4, 2) := by decide +kernel
theorem dX0_beside_88 : decode cX0_beside 88 = .ok (.aload_n 0, 1) := by decide +kernel
theorem dX0_beside_89 : decode cX0_beside 89 = .ok (.getfield 15, 3) := by decide +kernel
theorem dX0_beside_92 : decode cX0_beside 92 = .ok (.iconst 1, 1) := by decide +kernel
theorem dX0_beside_93 : decode cX0_beside 93 = .ok (.isub, 1) := by decide +kernel
theorem dX0_beside_94 : decode cX0_beside 94 = .ok (.if_icmp .ge 12, 3) := by decide +kernel
theorem dX0_beside_97 : decode cX0_beside 97 = .ok (.iload_n 1, 1) := by decide +kernel
theorem dX0_beside_98 : decode cX0_beside 98 = .ok (.aload_n 0, 1) := by decide +kernel
theorem dX0_beside_99 : decode cX0_beside 99 = .ok (.getfield 9, 3) := by decide +kernel
theorem dX0_beside_102 : decode cX0_beside 102 = .ok (.iadd, 1) := by decide +kernel
theorem dX0_beside_103 : decode cX0_beside 103 = .ok (.goto 4, 3) := by decide +kernel
theorem dX0_beside_106 : decode cX0_beside 106 = .ok (.iconst (-1), 1) := by decide +kernel
theorem dX0_beside_107 : decode cX0_beside 107 = .ok (.ireturn, 1) := by decide +kernel
theorem dX0_beside_108 : decode cX0_beside 108 = .ok (.iload 4, 2) := by decide +kernel
theorem dX0_beside_110 : decode cX0_beside 110 = .ok (.ifCond .le 12, 3) := by decide +kernel
theorem dX0_beside_113 : decode cX0_beside 113 = .ok (.iload_n 1, 1) := by decide +kernel
theorem dX0_beside_114 : decode cX0_beside 114 = .ok (.aload_n 0, 1) := by decide +kernel
theorem dX0_beside_115 : decode cX0_beside 115 = .ok (.getfield 9, 3) := by decide +kernel
theorem dX0_beside_118 : decode cX0_beside 118 = .ok (.isub, 1) := by decide +kernel
theorem dX0_beside_119 : decode cX0_beside 119 = .ok (.goto 4, 3) := by decide +kernel
theorem dX0_beside_122 : decode cX0_beside 122 = .ok (.iconst (-1), 1) := by decide +kernel
theorem dX0_beside_123 : decode cX0_beside 123 = .ok (.ireturn, 1) := by decide +kernel
theorem dX0_beside_124 : decode cX0_beside 124 = .ok (.iconst (-1), 1) := by decide +kernel
theorem dX0_beside_125 : decode cX0_beside 125 = .ok (.ireturn, 1) := by decide +kernel
theorem dX0_distance_0 : decode cX0_distance 0 = .ok (.aload_n 0, 1) := by decide +kernel
theorem dX0_distance_1 : decode cX0_distance 1 = .ok (.getfield 9, 3) := by decide +kernel
theorem dX0_distance_4 : decode cX0_distance 4 = .ok (.iconst 1, 1) := by decide +kernel
theorem dX0_distance_5 : decode cX0_distance 5 = .ok (.if_icmp .ge 5, 3) := by decide +kernel
theorem dX0_distance_8 : decode cX0_distance 8 = .ok (.iconst 0, 1) := by decide +kernel
theorem dX0_distance_9 : decode cX0_distance 9 = .ok (.ireturn, 1) := by decide +kernel
theorem dX0_distance_10 : decode cX0_distance 10 = .ok (.iload_n 1, 1) := by decide +kernel
theorem dX0_distance_11 : decode cX0_distance 11 = .ok (.aload_n 0, 1) := by decide +kernel
theorem dX0_distance_12 : decode cX0_distance 12 = .ok (.getfield 9, 3) := by decide +kernel
theorem dX0_distance_15 : decode cX0_distance 15 = .ok (.irem, 1) := by decide +kernel
theorem dX0_distance_16 : decode cX0_distance 16 = .ok (.iload_n 2, 1) := by decide +kernel
theorem dX0_distance_17 : decode cX0_distance 17 = .ok (.aload_n 0, 1) := by decide +kernel
theorem dX0_distance_18 : decode cX0_distance 18 = .ok (.getfield 9, 3) := by decide +kernel
theorem dX0_distance_21 : decode cX0_distance 21 = .ok (.irem, 1) := by decide +kernel
theorem dX0_distance_22 : decode cX0_distance 22 = .ok (.isub, 1) := by decide +kernel
theorem dX0_distance_23 : decode cX0_distance 23 = .ok (.invokestatic 22, 3) := by decide +kernel
theorem dX0_distance_26 : decode cX0_distance 26 = .ok (.iload_n 1, 1) := by decide +kernel
theorem dX0_distance_27 : decode cX0_distance 27 = .ok (.aload_n 0, 1) := by decide +kernel
theorem dX0_distance_28 : decode cX0_distance 28 = .ok (.getfield 9, 3) := by decide +kernel
theorem dX0_distance_31 : decode cX0_distance 31 = .ok (.idiv, 1) := by decide +kernel
theorem dX0_distance_32 : decode cX0_distance 32 = .ok (.iload_n 2, 1) := by decide +kernel
theorem dX0_distance_33 : decode cX0_distance 33 = .ok (.aload_n 0, 1) := by decide +kernel
theorem dX0_distance_34 : decode cX0_distance 34 = .ok (.getfield 9, 3) := by decide +kernel
theorem dX0_distance_37 : decode cX0_distance 37 = .ok (.idiv, 1) := by decide +kernel
theorem dX0_distance_38 : decode cX0_distance 38 = .ok (.isub, 1) := by decide +kernel
theorem dX0_distance_39 : decode cX0_distance 39 = .ok (.invokestatic 22, 3) := by decide +kernel
theorem dX0_distance_42 : decode cX0_distance 42 = .ok (.iadd, 1) := by decide +kernel
theorem dX0_distance_43 : decode cX0_distance 43 = .ok (.ireturn, 1) := by decide +kernel
set_option maxRecDepth 20000 in
theorem ggX0_linkAt_X0_beside : GoodIn wsX0_linkAt wsX0_beside := goodIn_r _ [9, 10, 11, 12, 13, 14] (by decide +kernel) (by decide +kernel)
set_option maxRecDepth 20000 in
theorem gX0_linkAt_X0_beside : GoodIn wsX0_linkAt (wsV RX0 28 RX0 yX0_beside wsX0_beside) := goodIn_app (goodIn_of _ (by decide +kernel)) ggX0_linkAt_X0_beside
theorem dX0_linkAt_0 : decode cX0_linkAt 0 = .ok (.aload_n 0, 1) := by decide +kernel
theorem dX0_linkAt_1 : decode cX0_linkAt 1 = .ok (.iload_n 1, 1) := by decide +kernel
theorem dX0_linkAt_2 : decode cX0_linkAt 2 = .ok (.iload_n 2, 1) := by decide +kernel
theorem dX0_linkAt_3 : decode cX0_linkAt 3 = .ok (.invokevirtual 28, 3) := by decide +kernel
theorem dX0_linkAt_6 : decode cX0_linkAt 6 = .ok (.istore_n 3, 1) := by decide +kernel
theorem dX0_linkAt_7 : decode cX0_linkAt 7 = .ok (.iload_n 3, 1) := by decide +kernel
theorem dX0_linkAt_8 : decode cX0_linkAt 8 = .ok (.iconst (-1), 1) := by decide +kernel
theorem dX0_linkAt_9 : decode cX0_linkAt 9 = .ok (.if_icmp .ne 5, 3) := by decide +kernel
theorem dX0_linkAt_12 : decode cX0_linkAt 12 = .ok (.iconst (-1), 1) := by decide +kernel
theorem dX0_linkAt_13 : decode cX0_linkAt 13 = .ok (.ireturn, 1) := by decide +kernel
theorem dX0_linkAt_14 : decode cX0_linkAt 14 = .ok (.iconst 2, 1) := by decide +kernel
theorem dX0_linkAt_15 : decode cX0_linkAt 15 = .ok (.iload_n 1, 1) := by decide +kernel
theorem dX0_linkAt_16 : decode cX0_linkAt 16 = .ok (.iload_n 3, 1) := by decide +kernel
theorem dX0_linkAt_17 : decode cX0_linkAt 17 = .ok (.invokestatic 32, 3) := by decide +kernel
theorem dX0_linkAt_20 : decode cX0_linkAt 20 = .ok (.imul, 1) := by decide +kernel
theorem dX0_linkAt_21 : decode cX0_linkAt 21 = .ok (.iload_n 2, 1) := by decide +kernel
theorem dX0_linkAt_22 : decode cX0_linkAt 22 = .ok (.ifCond .eq 8, 3) := by decide +kernel
theorem dX0_linkAt_25 : decode cX0_linkAt 25 = .ok (.iload_n 2, 1) := by decide +kernel
theorem dX0_linkAt_26 : decode cX0_linkAt 26 = .ok (.iconst 1, 1) := by decide +kernel
theorem dX0_linkAt_27 : decode cX0_linkAt 27 = .ok (.if_icmp .ne 7, 3) := by decide +kernel
theorem dX0_linkAt_30 : decode cX0_linkAt 30 = .ok (.iconst 0, 1) := by decide +kernel
theorem dX0_linkAt_31 : decode cX0_linkAt 31 = .ok (.goto 4, 3) := by decide +kernel
theorem dX0_linkAt_34 : decode cX0_linkAt 34 = .ok (.iconst 1, 1) := by decide +kernel
theorem dX0_linkAt_35 : decode cX0_linkAt 35 = .ok (.iadd, 1) := by decide +kernel
theorem dX0_linkAt_36 : decode cX0_linkAt 36 = .ok (.ireturn, 1) := by decide +kernel
theorem dX0_boxOfLink_0 : decode cX0_boxOfLink 0 = .ok (.iload_n 0, 1) := by decide +kernel
theorem dX0_boxOfLink_1 : decode cX0_boxOfLink 1 = .ok (.iconst 2, 1) := by decide +kernel
theorem dX0_boxOfLink_2 : decode cX0_boxOfLink 2 = .ok (.idiv, 1) := by decide +kernel
theorem dX0_boxOfLink_3 : decode cX0_boxOfLink 3 = .ok (.ireturn, 1) := by decide +kernel
theorem dX0_sideOfLink_0 : decode cX0_sideOfLink 0 = .ok (.iload_n 0, 1) := by decide +kernel
theorem dX0_sideOfLink_1 : decode cX0_sideOfLink 1 = .ok (.iconst 2, 1) := by decide +kernel
theorem dX0_sideOfLink_2 : decode cX0_sideOfLink 2 = .ok (.irem, 1) := by decide +kernel
theorem dX0_sideOfLink_3 : decode cX0_sideOfLink 3 = .ok (.ifCond .ne 7, 3) := by decide +kernel
theorem dX0_sideOfLink_6 : decode cX0_sideOfLink 6 = .ok (.iconst 0, 1) := by decide +kernel
theorem dX0_sideOfLink_7 : decode cX0_sideOfLink 7 = .ok (.goto 4, 3) := by decide +kernel
theorem dX0_sideOfLink_10 : decode cX0_sideOfLink 10 = .ok (.iconst 2, 1) := by decide +kernel
theorem dX0_sideOfLink_11 : decode cX0_sideOfLink 11 = .ok (.ireturn, 1) := by decide +kernel
set_option maxRecDepth 20000 in
theorem ggX0_isLink_X0_boxOfLink : GoodIn wsX0_isLink wsX0_boxOfLink := goodIn_r _ [4] (by decide +kernel) (by decide +kernel)
set_option maxRecDepth 20000 in
theorem gX0_isLink_X0_boxOfLink : GoodIn wsX0_isLink (va_wsS RX0 35 yX0_boxOfLink wsX0_boxOfLink) := goodIn_app (goodIn_of _ (by decide +kernel)) ggX0_isLink_X0_boxOfLink
set_option maxRecDepth 20000 in
theorem ggX0_isLink_X0_sideOfLink : GoodIn wsX0_isLink wsX0_sideOfLink := goodIn_r _ [7] (by decide +kernel) (by decide +kernel)
set_option maxRecDepth 20000 in
theorem gX0_isLink_X0_sideOfLink : GoodIn wsX0_isLink (va_wsS RX0 38 yX0_sideOfLink wsX0_sideOfLink) := goodIn_app (goodIn_of _ (by decide +kernel)) ggX0_isLink_X0_sideOfLink
set_option maxRecDepth 20000 in
theorem ggX0_isLink_X0_beside : GoodIn wsX0_isLink wsX0_beside := goodIn_r _ [11, 12, 13, 14, 15, 16] (by decide +kernel) (by decide +kernel)
set_option maxRecDepth 20000 in
theorem gX0_isLink_X0_beside : GoodIn wsX0_isLink (wsV RX0 28 RX0 yX0_beside wsX0_beside) := goodIn_app (goodIn_of _ (by decide +kernel)) ggX0_isLink_X0_beside
theorem dX0_isLink_0 : decode cX0_isLink 0 = .ok (.aload_n 0, 1) := by decide +kernel
theorem dX0_isLink_1 : decode cX0_isLink 1 = .ok (.iload_n 1, 1) := by decide +kernel
theorem dX0_isLink_2 : decode cX0_isLink 2 = .ok (.invokestatic 35, 3) := by decide +kernel
theorem dX0_isLink_5 : decode cX0_isLink 5 = .ok (.iload_n 1, 1) := by decide +kernel
theorem dX0_isLink_6 : decode cX0_isLink 6 = .ok (.invokestatic 38, 3) := by decide +kernel
theorem dX0_isLink_9 : decode cX0_isLink 9 = .ok (.invokevirtual 28, 3) := by decide +kernel
theorem dX0_isLink_12 : decode cX0_isLink 12 = .ok (.iconst (-1), 1) := by decide +kernel
theorem dX0_isLink_13 : decode cX0_isLink 13 = .ok (.if_icmp .eq 7, 3) := by decide +kernel
theorem dX0_isLink_16 : decode cX0_isLink 16 = .ok (.iconst 1, 1) := by decide +kernel
theorem dX0_isLink_17 : decode cX0_isLink 17 = .ok (.goto 4, 3) := by decide +kernel
theorem dX0_isLink_20 : decode cX0_isLink 20 = .ok (.iconst 0, 1) := by decide +kernel
theorem dX0_isLink_21 : decode cX0_isLink 21 = .ok (.ireturn, 1) := by decide +kernel
theorem dX0_isWhole_0 : decode cX0_isWhole 0 = .ok (.aload_n 0, 1) := by decide +kernel
theorem dX0_isWhole_1 : decode cX0_isWhole 1 = .ok (.getfield 18, 3) := by decide +kernel
theorem dX0_isWhole_4 : decode cX0_isWhole 4 = .ok (.iload_n 1, 1) := by decide +kernel
theorem dX0_isWhole_5 : decode cX0_isWhole 5 = .ok (.lushr, 1) := by decide +kernel
theorem dX0_isWhole_6 : decode cX0_isWhole 6 = .ok (.lconst 1, 1) := by decide +kernel
theorem dX0_isWhole_7 : decode cX0_isWhole 7 = .ok (.land, 1) := by decide +kernel
theorem dX0_isWhole_8 : decode cX0_isWhole 8 = .ok (.lconst 0, 1) := by decide +kernel
theorem dX0_isWhole_9 : decode cX0_isWhole 9 = .ok (.lcmp, 1) := by decide +kernel
theorem dX0_isWhole_10 : decode cX0_isWhole 10 = .ok (.ifCond .ne 7, 3) := by decide +kernel
theorem dX0_isWhole_13 : decode cX0_isWhole 13 = .ok (.iconst 1, 1) := by decide +kernel
theorem dX0_isWhole_14 : decode cX0_isWhole 14 = .ok (.goto 4, 3) := by decide +kernel
theorem dX0_isWhole_17 : decode cX0_isWhole 17 = .ok (.iconst 0, 1) := by decide +kernel
theorem dX0_isWhole_18 : decode cX0_isWhole 18 = .ok (.ireturn, 1) := by decide +kernel
theorem dX0_makeWhole_0 : decode cX0_makeWhole 0 = .ok (.lconst 1, 1) := by decide +kernel
theorem dX0_makeWhole_1 : decode cX0_makeWhole 1 = .ok (.iload_n 1, 1) := by decide +kernel
theorem dX0_makeWhole_2 : decode cX0_makeWhole 2 = .ok (.lshl, 1) := by decide +kernel
theorem dX0_makeWhole_3 : decode cX0_makeWhole 3 = .ok (.lstore_n 3, 1) := by decide +kernel
theorem dX0_makeWhole_4 : decode cX0_makeWhole 4 = .ok (.aload_n 0, 1) := by decide +kernel
theorem dX0_makeWhole_5 : decode cX0_makeWhole 5 = .ok (.iload_n 2, 1) := by decide +kernel
theorem dX0_makeWhole_6 : decode cX0_makeWhole 6 = .ok (.ifCond .eq 16, 3) := by decide +kernel
theorem dX0_makeWhole_9 : decode cX0_makeWhole 9 = .ok (.aload_n 0, 1) := by decide +kernel
theorem dX0_makeWhole_10 : decode cX0_makeWhole 10 = .ok (.getfield 18, 3) := by decide +kernel
theorem dX0_makeWhole_13 : decode cX0_makeWhole 13 = .ok (.lload_n 3, 1) := by decide +kernel
theorem dX0_makeWhole_14 : decode cX0_makeWhole 14 = .ok (.ldc2_w 41, 3) := by decide +kernel
theorem dX0_makeWhole_17 : decode cX0_makeWhole 17 = .ok (.lxor, 1) := by decide +kernel
theorem dX0_makeWhole_18 : decode cX0_makeWhole 18 = .ok (.land, 1) := by decide +kernel
theorem dX0_makeWhole_19 : decode cX0_makeWhole 19 = .ok (.goto 9, 3) := by decide +kernel
theorem dX0_makeWhole_22 : decode cX0_makeWhole 22 = .ok (.aload_n 0, 1) := by decide +kernel
theorem dX0_makeWhole_23 : decode cX0_makeWhole 23 = .ok (.getfield 18, 3) := by decide +kernel
theorem dX0_makeWhole_26 : decode cX0_makeWhole 26 = .ok (.lload_n 3, 1) := by decide +kernel
theorem dX0_makeWhole_27 : decode cX0_makeWhole 27 = .ok (.lor, 1) := by decide +kernel
theorem dX0_makeWhole_28 : decode cX0_makeWhole 28 = .ok (.putfield 18, 3) := by decide +kernel
theorem dX0_makeWhole_31 : decode cX0_makeWhole 31 = .ok (.return_, 1) := by decide +kernel
set_option maxRecDepth 20000 in
theorem ggX0_brokenLinks_J13_bitCount_95d88 : GoodIn wsX0_brokenLinks wsJ13_bitCount_95d88 := goodIn_r _ [5, 6, 7, 8] (by decide +kernel) (by decide +kernel)
set_option maxRecDepth 20000 in
theorem gX0_brokenLinks_J13_bitCount_95d88 : GoodIn wsX0_brokenLinks (va_wsS RX0 43 yJ13_bitCount_95d88 wsJ13_bitCount_95d88) := goodIn_app (goodIn_of _ (by decide +kernel)) ggX0_brokenLinks_J13_bitCount_95d88
theorem dX0_brokenLinks_0 : decode cX0_brokenLinks 0 = .ok (.aload_n 0, 1) := by decide +kernel
theorem dX0_brokenLinks_1 : decode cX0_brokenLinks 1 = .ok (.getfield 18, 3) := by decide +kernel
theorem dX0_brokenLinks_4 : decode cX0_brokenLinks 4 = .ok (.invokestatic 43, 3) := by decide +kernel
theorem dX0_brokenLinks_7 : decode cX0_brokenLinks 7 = .ok (.ireturn, 1) := by decide +kernel
theorem dX1_init_0 : decode cX1_init 0 = .ok (.aload_n 0, 1) := by decide +kernel
theorem dX1_init_1 : decode cX1_init 1 = .ok (.invokespecial 3, 3) := by decide +kernel
theorem dX1_init_4 : decode cX1_init 4 = .ok (.aload_n 0, 1) := by decide +kernel
theorem dX1_init_5 : decode cX1_init 5 = .ok (.bipush 40, 2) := by decide +kernel
theorem dX1_init_7 : decode cX1_init 7 = .ok (.newarray .boolean, 2) := by decide +kernel
theorem dX1_init_9 : decode cX1_init 9 = .ok (.putfield 9, 3) := by decide +kernel
theorem dX1_init_12 : decode cX1_init 12 = .ok (.return_, 1) := by decide +kernel
set_option maxRecDepth 20000 in
theorem ggX1_holds_X1_find : GoodIn wsX1_holds wsX1_find := goodIn_r _ [7, 1, 8, 2, 9, 10, 11, 12, 6, 13, 14, 15, 16, 17, 18, 19, 20, 21, 22, 23, 24, 25, 26, 27, 28, 29, 30, 31, 32, 33, 34, 35, 36, 37, 38, 39, 40, 41, 42, 43, 44, 45, 46, 47, 48, 49, 50, 51, 52, 53, 54, 55, 56, 57, 58, 59, 60, 61, 62, 63, 64, 65, 66, 67, 68, 69, 70, 71, 72, 73, 74, 75, 76, 77, 78, 79, 80, 87, 88, 89, 90, 91, 92, 94, 95, 96, 97, 98, 99, 100, 101, 102, 103, 104, 93, 105, 106, 107, 108, 109, 110, 111, 112, 113] (by decide +kernel) (by decide +kernel)
set_option maxRecDepth 20000 in
theorem gX1_holds_X1_find : GoodIn wsX1_holds (wsV RX1 15 RX1 yX1_find wsX1_find) := goodIn_app (goodIn_of _ (by decide +kernel)) ggX1_holds_X1_find
set_option maxRecDepth 20000 in
theorem ggX1_holds_X2_has : GoodIn wsX1_holds wsX2_has := goodIn_r _ [85, 86, 94, 95, 96, 97, 98, 99, 100, 101, 102, 103, 104] (by decide +kernel) (by decide +kernel)
set_option maxRecDepth 20000 in
theorem gX1_holds_X2_has : GoodIn wsX1_holds (wsV RX1 25 RX2 yX2_has wsX2_has) := goodIn_app (goodIn_of _ (by decide +kernel)) ggX1_holds_X2_has
theorem dX1_holds_0 : decode cX1_holds 0 = .ok (.aload_n 0, 1) := by decide +kernel
theorem dX1_holds_1 : decode cX1_holds 1 = .ok (.aload_n 1, 1) := by decide +kernel
theorem dX1_holds_2 : decode cX1_holds 2 = .ok (.aload_n 2, 1) := by decide +kernel
theorem dX1_holds_3 : decode cX1_holds 3 = .ok (.invokevirtual 15, 3) := by decide +kernel
theorem dX1_holds_6 : decode cX1_holds 6 = .ok (.aload_n 1, 1) := by decide +kernel
theorem dX1_holds_7 : decode cX1_holds 7 = .ok (.getfield 19, 3) := by decide +kernel
theorem dX1_holds_10 : decode cX1_holds 10 = .ok (.iload_n 3, 1) := by decide +kernel
theorem dX1_holds_11 : decode cX1_holds 11 = .ok (.invokevirtual 25, 3) := by decide +kernel
theorem dX1_holds_14 : decode cX1_holds 14 = .ok (.ifCond .eq 16, 3) := by decide +kernel
theorem dX1_holds_17 : decode cX1_holds 17 = .ok (.aload_n 0, 1) := by decide +kernel
theorem dX1_holds_18 : decode cX1_holds 18 = .ok (.getfield 9, 3) := by decide +kernel
theorem dX1_holds_21 : decode cX1_holds 21 = .ok (.iload_n 3, 1) := by decide +kernel
theorem dX1_holds_22 : decode cX1_holds 22 = .ok (.baload, 1) := by decide +kernel
theorem dX1_holds_23 : decode cX1_holds 23 = .ok (.ifCond .eq 7, 3) := by decide +kernel
theorem dX1_holds_26 : decode cX1_holds 26 = .ok (.iconst 1, 1) := by decide +kernel
theorem dX1_holds_27 : decode cX1_holds 27 = .ok (.goto 4, 3) := by decide +kernel
theorem dX1_holds_30 : decode cX1_holds 30 = .ok (.iconst 0, 1) := by decide +kernel
theorem dX1_holds_31 : decode cX1_holds 31 = .ok (.ireturn, 1) := by decide +kernel
set_option maxRecDepth 20000 in
theorem ggX1_size_X1_find : GoodIn wsX1_size wsX1_find := goodIn_r _ [8, 1, 2, 3, 9, 10, 11, 12, 7, 13, 14, 15, 16, 17, 18, 19, 20, 21, 22, 23, 24, 25, 26, 27, 28, 29, 30, 31, 32, 33, 34, 35, 36, 37, 38, 39, 40, 41, 42, 43, 44, 45, 46, 47, 48, 49, 50, 51, 52, 53, 54, 55, 56, 57, 58, 59, 60, 61, 62, 63, 64, 65, 66, 67, 68, 69, 70, 71, 72, 73, 74, 75, 76, 77, 78, 79, 80, 81, 82, 83, 84, 85, 86, 87, 88, 89, 90, 91, 92, 93, 94, 95, 96, 97, 98, 99, 100, 101, 102, 103, 104, 105, 106, 107] (by decide +kernel) (by decide +kernel)
set_option maxRecDepth 20000 in
theorem gX1_size_X1_find : GoodIn wsX1_size (wsV RX1 15 RX1 yX1_find wsX1_find) := goodIn_app (goodIn_of _ (by decide +kernel)) ggX1_size_X1_find
theorem dX1_size_0 : decode cX1_size 0 = .ok (.aload_n 0, 1) := by decide +kernel
theorem dX1_size_1 : decode cX1_size 1 = .ok (.aload_n 1, 1) := by decide +kernel
theorem dX1_size_2 : decode cX1_size 2 = .ok (.aload_n 2, 1) := by decide +kernel
theorem dX1_size_3 : decode cX1_size 3 = .ok (.invokevirtual 15, 3) := by decide +kernel
theorem dX1_size_6 : decode cX1_size 6 = .ok (.iconst 0, 1) := by decide +kernel
theorem dX1_size_7 : decode cX1_size 7 = .ok (.istore_n 3, 1) := by decide +kernel
theorem dX1_size_8 : decode cX1_size 8 = .ok (.iconst 0, 1) := by decide +kernel
theorem dX1_size_9 : decode cX1_size 9 = .ok (.istore 4, 2) := by decide +kernel
theorem dX1_size_11 : decode cX1_size 11 = .ok (.iload 4, 2) := by decide +kernel
theorem dX1_size_13 : decode cX1_size 13 = .ok (.aload_n 1, 1) := by decide +kernel
theorem dX1_size_14 : decode cX1_size 14 = .ok (.getfield 19, 3) := by decide +kernel
theorem dX1_size_17 : decode cX1_size 17 = .ok (.getfield 31, 3) := by decide +kernel
theorem dX1_size_20 : decode cX1_size 20 = .ok (.if_icmp .ge 22, 3) := by decide +kernel
theorem dX1_size_23 : decode cX1_size 23 = .ok (.aload_n 0, 1) := by decide +kernel
theorem dX1_size_24 : decode cX1_size 24 = .ok (.getfield 9, 3) := by decide +kernel
theorem dX1_size_27 : decode cX1_size 27 = .ok (.iload 4, 2) := by decide +kernel
theorem dX1_size_29 : decode cX1_size 29 = .ok (.baload, 1) := by decide +kernel
theorem dX1_size_30 : decode cX1_size 30 = .ok (.ifCond .eq 6, 3) := by decide +kernel
theorem dX1_size_33 : decode cX1_size 33 = .ok (.iinc 3 1, 3) := by decide +kernel
theorem dX1_size_36 : decode cX1_size 36 = .ok (.iinc 4 1, 3) := by decide +kernel
theorem dX1_size_39 : decode cX1_size 39 = .ok (.goto (-28), 3) := by decide +kernel
theorem dX1_size_42 : decode cX1_size 42 = .ok (.iload_n 3, 1) := by decide +kernel
theorem dX1_size_43 : decode cX1_size 43 = .ok (.ireturn, 1) := by decide +kernel
set_option maxRecDepth 20000 in
theorem ggX1_find_X1_canGoOn : GoodIn wsX1_find wsX1_canGoOn := goodIn_r _ [9, 1, 10, 11, 12, 13, 14, 15, 16, 17, 18, 19, 20, 21, 22, 23, 24, 25, 26, 27, 28, 29, 30, 31, 32, 33, 34, 35, 36, 37, 38, 39, 40, 41, 42, 43, 44, 45, 46, 47, 48, 49, 50, 51, 52, 53, 54, 55, 56, 57, 58, 59, 60, 61, 62, 63, 64, 65, 66, 67, 68, 69, 70, 71, 72, 73, 74, 75, 8, 76, 2, 4, 3, 77, 78, 79, 80, 81, 82, 83, 84, 85, 86, 87, 88, 89, 90, 91, 92, 93, 95, 96, 97, 98, 99, 100, 101, 102, 103, 94] (by decide +kernel) (by decide +kernel)
set_option maxRecDepth 20000 in
theorem gX1_find_X1_canGoOn : GoodIn wsX1_find (wsV RX1 39 RX1 yX1_canGoOn wsX1_canGoOn) := goodIn_app (goodIn_of _ (by decide +kernel)) ggX1_find_X1_canGoOn
theorem dX1_find_0 : decode cX1_find 0 = .ok (.aload_n 1, 1) := by decide +kernel
theorem dX1_find_1 : decode cX1_find 1 = .ok (.getfield 19, 3) := by decide +kernel
theorem dX1_find_4 : decode cX1_find 4 = .ok (.getfield 31, 3) := by decide +kernel
theorem dX1_find_7 : decode cX1_find 7 = .ok (.istore_n 3, 1) := by decide +kernel
theorem dX1_find_8 : decode cX1_find 8 = .ok (.iconst 0, 1) := by decide +kernel
theorem dX1_find_9 : decode cX1_find 9 = .ok (.istore 4, 2) := by decide +kernel
theorem dX1_find_11 : decode cX1_find 11 = .ok (.iload 4, 2) := by decide +kernel
theorem dX1_find_13 : decode cX1_find 13 = .ok (.iload_n 3, 1) := by decide +kernel
theorem dX1_find_14 : decode cX1_find 14 = .ok (.if_icmp .ge 35, 3) := by decide +kernel
theorem dX1_find_17 : decode cX1_find 17 = .ok (.aload_n 0, 1) := by decide +kernel
theorem dX1_find_18 : decode cX1_find 18 = .ok (.getfield 9, 3) := by decide +kernel
theorem dX1_find_21 : decode cX1_find 21 = .ok (.iload 4, 2) := by decide +kernel
theorem dX1_find_23 : decode cX1_find 23 = .ok (.aload_n 1, 1) := by decide +kernel
theorem dX1_find_24 : decode cX1_find 24 = .ok (.getfield 19, 3) := by decide +kernel
theorem dX1_find_27 : decode cX1_find 27 = .ok (.getfield 35, 3) := by decide +kernel
theorem dX1_find_30 : decode cX1_find 30 = .ok (.iload 4, 2) := by decide +kernel
theorem dX1_find_32 : decode cX1_find 32 = .ok (.iaload, 1) := by decide +kernel
theorem dX1_find_33 : decode cX1_find 33 = .ok (.iconst 1, 1) := by decide +kernel
theorem dX1_find_34 : decode cX1_find 34 = .ok (.if_icmp .ne 7, 3) := by decide +kernel
theorem dX1_find_37 : decode cX1_find 37 = .ok (.iconst 1, 1) := by decide +kernel
theorem dX1_find_38 : decode cX1_find 38 = .ok (.goto 4, 3) := by decide +kernel
theorem dX1_find_41 : decode cX1_find 41 = .ok (.iconst 0, 1) := by decide +kernel
theorem dX1_find_42 : decode cX1_find 42 = .ok (.bastore, 1) := by decide +kernel
theorem dX1_find_43 : decode cX1_find 43 = .ok (.iinc 4 1, 3) := by decide +kernel
theorem dX1_find_46 : decode cX1_find 46 = .ok (.goto (-35), 3) := by decide +kernel
theorem dX1_find_49 : decode cX1_find 49 = .ok (.iconst 1, 1) := by decide +kernel
theorem dX1_find_50 : decode cX1_find 50 = .ok (.istore 4, 2) := by decide +kernel
theorem dX1_find_52 : decode cX1_find 52 = .ok (.iconst 0, 1) := by decide +kernel
theorem dX1_find_53 : decode cX1_find 53 = .ok (.istore 5, 2) := by decide +kernel
theorem dX1_find_55 : decode cX1_find 55 = .ok (.iload 5, 2) := by decide +kernel
theorem dX1_find_57 : decode cX1_find 57 = .ok (.bipush 40, 2) := by decide +kernel
theorem dX1_find_59 : decode cX1_find 59 = .ok (.if_icmp .gt 64, 3) := by decide +kernel
theorem dX1_find_62 : decode cX1_find 62 = .ok (.iload 4, 2) := by decide +kernel
theorem dX1_find_64 : decode cX1_find 64 = .ok (.ifCond .eq 59, 3) := by decide +kernel
theorem dX1_find_67 : decode cX1_find 67 = .ok (.iconst 0, 1) := by decide +kernel
theorem dX1_find_68 : decode cX1_find 68 = .ok (.istore 4, 2) := by decide +kernel
theorem dX1_find_70 : decode cX1_find 70 = .ok (.iconst 0, 1) := by decide +kernel
theorem dX1_find_71 : decode cX1_find 71 = .ok (.istore 6, 2) := by decide +kernel
theorem dX1_find_73 : decode cX1_find 73 = .ok (.iload 6, 2) := by decide +kernel
theorem dX1_find_75 : decode cX1_find 75 = .ok (.iload_n 3, 1) := by decide +kernel
theorem dX1_find_76 : decode cX1_find 76 = .ok (.if_icmp .ge 41, 3) := by decide +kernel
theorem dX1_find_79 : decode cX1_find 79 = .ok (.aload_n 0, 1) := by decide +kernel
theorem dX1_find_80 : decode cX1_find 80 = .ok (.getfield 9, 3) := by decide +kernel
theorem dX1_find_83 : decode cX1_find 83 = .ok (.iload 6, 2) := by decide +kernel
theorem dX1_find_85 : decode cX1_find 85 = .ok (.baload, 1) := by decide +kernel
theorem dX1_find_86 : decode cX1_find 86 = .ok (.ifCond .eq 25, 3) := by decide +kernel
theorem dX1_find_89 : decode cX1_find 89 = .ok (.aload_n 0, 1) := by decide +kernel
theorem dX1_find_90 : decode cX1_find 90 = .ok (.aload_n 1, 1) := by decide +kernel
theorem dX1_find_91 : decode cX1_find 91 = .ok (.aload_n 2, 1) := by decide +kernel
theorem dX1_find_92 : decode cX1_find 92 = .ok (.iload 6, 2) := by decide +kernel
theorem dX1_find_94 : decode cX1_find 94 = .ok (.invokevirtual 39, 3) := by decide +kernel
theorem dX1_find_97 : decode cX1_find 97 = .ok (.ifCond .eq 14, 3) := by decide +kernel
theorem dX1_find_100 : decode cX1_find 100 = .ok (.aload_n 0, 1) := by decide +kernel
theorem dX1_find_101 : decode cX1_find 101 = .ok (.getfield 9, 3) := by decide +kernel
theorem dX1_find_104 : decode cX1_find 104 = .ok (.iload 6, 2) := by decide +kernel
theorem dX1_find_106 : decode cX1_find 106 = .ok (.iconst 0, 1) := by decide +kernel
theorem dX1_find_107 : decode cX1_find 107 = .ok (.bastore, 1) := by decide +kernel
theorem dX1_find_108 : decode cX1_find 108 = .ok (.iconst 1, 1) := by decide +kernel
theorem dX1_find_109 : decode cX1_find 109 = .ok (.istore 4, 2) := by decide +kernel
theorem dX1_find_111 : decode cX1_find 111 = .ok (.iinc 6 1, 3) := by decide +kernel
theorem dX1_find_114 : decode cX1_find 114 = .ok (.goto (-41), 3) := by decide +kernel
theorem dX1_find_117 : decode cX1_find 117 = .ok (.iinc 5 1, 3) := by decide +kernel
theorem dX1_find_120 : decode cX1_find 120 = .ok (.goto (-65), 3) := by decide +kernel
theorem dX1_find_123 : decode cX1_find 123 = .ok (.return_, 1) := by decide +kernel
set_option maxRecDepth 20000 in
theorem ggX1_canGoOn_X5_isPossible : GoodIn wsX1_canGoOn wsX5_isPossible := goodIn_r _ [7, 8, 9, 10, 11, 12, 13, 14, 15, 16, 17, 18, 19, 20, 21, 22, 23, 24, 25, 26, 27, 28, 29, 30, 31, 32, 33, 34, 35, 36, 37, 6, 38, 39, 40, 41, 42, 43, 44, 45, 46, 47, 48, 49, 50, 51, 52, 53, 54, 73, 74, 75, 76, 77, 78, 79, 80, 81, 82, 83, 84, 85, 86, 87, 88, 89, 90, 91, 92, 93, 94, 95, 96, 97, 98] (by decide +kernel) (by decide +kernel)
set_option maxRecDepth 20000 in
theorem gX1_canGoOn_X5_isPossible : GoodIn wsX1_canGoOn (wsV RX1 43 RX5 yX5_isPossible wsX5_isPossible) := goodIn_app (goodIn_of _ (by decide +kernel)) ggX1_canGoOn_X5_isPossible
set_option maxRecDepth 20000 in
theorem ggX1_canGoOn_X4_boxBehind : GoodIn wsX1_canGoOn wsX4_boxBehind := goodIn_r _ [20, 21, 90, 91, 92, 93, 94, 95] (by decide +kernel) (by decide +kernel)
set_option maxRecDepth 20000 in
theorem gX1_canGoOn_X4_boxBehind : GoodIn wsX1_canGoOn (wsV RX1 50 RX4 yX4_boxBehind wsX4_boxBehind) := goodIn_app (goodIn_of _ (by decide +kernel)) ggX1_canGoOn_X4_boxBehind
set_option maxRecDepth 20000 in
theorem ggX1_canGoOn_X5_letsIn : GoodIn wsX1_canGoOn wsX5_letsIn := goodIn_r _ [59, 8, 11, 60, 61, 62, 6, 63, 64, 39, 73, 74, 75, 76, 77, 78, 79, 80, 81, 82, 83, 84, 85, 86, 87, 88, 89] (by decide +kernel) (by decide +kernel)
set_option maxRecDepth 20000 in
theorem gX1_canGoOn_X5_letsIn : GoodIn wsX1_canGoOn (wsV RX1 56 RX5 yX5_letsIn wsX5_letsIn) := goodIn_app (goodIn_of _ (by decide +kernel)) ggX1_canGoOn_X5_letsIn
set_option maxRecDepth 20000 in
theorem ggX1_canGoOn_X1_hasFreePacket : GoodIn wsX1_canGoOn wsX1_hasFreePacket := goodIn_r _ [69, 70, 71, 2, 72, 79, 80, 81, 82, 83, 84, 85, 86, 87, 88, 89, 99] (by decide +kernel) (by decide +kernel)
set_option maxRecDepth 20000 in
theorem gX1_canGoOn_X1_hasFreePacket : GoodIn wsX1_canGoOn (wsV RX1 60 RX1 yX1_hasFreePacket wsX1_hasFreePacket) := goodIn_app (goodIn_of _ (by decide +kernel)) ggX1_canGoOn_X1_hasFreePacket
theorem dX1_canGoOn_0 : decode cX1_canGoOn 0 = .ok (.iconst 0, 1) := by decide +kernel
theorem dX1_canGoOn_1 : decode cX1_canGoOn 1 = .ok (.istore 4, 2) := by decide +kernel
theorem dX1_canGoOn_3 : decode cX1_canGoOn 3 = .ok (.iload 4, 2) := by decide +kernel
theorem dX1_canGoOn_5 : decode cX1_canGoOn 5 = .ok (.iconst 4, 1) := by decide +kernel
theorem dX1_canGoOn_6 : decode cX1_canGoOn 6 = .ok (.if_icmp .ge 62, 3) := by decide +kernel
theorem dX1_canGoOn_9 : decode cX1_canGoOn 9 = .ok (.aload_n 1, 1) := by decide +kernel
theorem dX1_canGoOn_10 : decode cX1_canGoOn 10 = .ok (.aload_n 2, 1) := by decide +kernel
theorem dX1_canGoOn_11 : decode cX1_canGoOn 11 = .ok (.iload_n 3, 1) := by decide +kernel
theorem dX1_canGoOn_12 : decode cX1_canGoOn 12 = .ok (.iload 4, 2) := by decide +kernel
theorem dX1_canGoOn_14 : decode cX1_canGoOn 14 = .ok (.invokevirtual 43, 3) := by decide +kernel
theorem dX1_canGoOn_17 : decode cX1_canGoOn 17 = .ok (.ifCond .eq 45, 3) := by decide +kernel
theorem dX1_canGoOn_20 : decode cX1_canGoOn 20 = .ok (.aload_n 2, 1) := by decide +kernel
theorem dX1_canGoOn_21 : decode cX1_canGoOn 21 = .ok (.aload_n 1, 1) := by decide +kernel
theorem dX1_canGoOn_22 : decode cX1_canGoOn 22 = .ok (.getfield 19, 3) := by decide +kernel
theorem dX1_canGoOn_25 : decode cX1_canGoOn 25 = .ok (.getfield 47, 3) := by decide +kernel
theorem dX1_canGoOn_28 : decode cX1_canGoOn 28 = .ok (.iload_n 3, 1) := by decide +kernel
theorem dX1_canGoOn_29 : decode cX1_canGoOn 29 = .ok (.iaload, 1) := by decide +kernel
theorem dX1_canGoOn_30 : decode cX1_canGoOn 30 = .ok (.iload 4, 2) := by decide +kernel
theorem dX1_canGoOn_32 : decode cX1_canGoOn 32 = .ok (.invokevirtual 50, 3) := by decide +kernel
theorem dX1_canGoOn_35 : decode cX1_canGoOn 35 = .ok (.istore 5, 2) := by decide +kernel
theorem dX1_canGoOn_37 : decode cX1_canGoOn 37 = .ok (.aload_n 1, 1) := by decide +kernel
theorem dX1_canGoOn_38 : decode cX1_canGoOn 38 = .ok (.iload_n 3, 1) := by decide +kernel
theorem dX1_canGoOn_39 : decode cX1_canGoOn 39 = .ok (.iload 5, 2) := by decide +kernel
theorem dX1_canGoOn_41 : decode cX1_canGoOn 41 = .ok (.invokevirtual 56, 3) := by decide +kernel
theorem dX1_canGoOn_44 : decode cX1_canGoOn 44 = .ok (.ifCond .ne 16, 3) := by decide +kernel
theorem dX1_canGoOn_47 : decode cX1_canGoOn 47 = .ok (.aload_n 0, 1) := by decide +kernel
theorem dX1_canGoOn_48 : decode cX1_canGoOn 48 = .ok (.aload_n 1, 1) := by decide +kernel
theorem dX1_canGoOn_49 : decode cX1_canGoOn 49 = .ok (.getfield 19, 3) := by decide +kernel
theorem dX1_canGoOn_52 : decode cX1_canGoOn 52 = .ok (.iload 5, 2) := by decide +kernel
theorem dX1_canGoOn_54 : decode cX1_canGoOn 54 = .ok (.invokevirtual 60, 3) := by decide +kernel
theorem dX1_canGoOn_57 : decode cX1_canGoOn 57 = .ok (.ifCond .eq 5, 3) := by decide +kernel
theorem dX1_canGoOn_60 : decode cX1_canGoOn 60 = .ok (.iconst 1, 1) := by decide +kernel
theorem dX1_canGoOn_61 : decode cX1_canGoOn 61 = .ok (.ireturn, 1) := by decide +kernel
theorem dX1_canGoOn_62 : decode cX1_canGoOn 62 = .ok (.iinc 4 1, 3) := by decide +kernel
theorem dX1_canGoOn_65 : decode cX1_canGoOn 65 = .ok (.goto (-62), 3) := by decide +kernel
theorem dX1_canGoOn_68 : decode cX1_canGoOn 68 = .ok (.iconst 0, 1) := by decide +kernel
theorem dX1_canGoOn_69 : decode cX1_canGoOn 69 = .ok (.ireturn, 1) := by decide +kernel
theorem dX1_hasFreePacket_0 : decode cX1_hasFreePacket 0 = .ok (.iconst 0, 1) := by decide +kernel
theorem dX1_hasFreePacket_1 : decode cX1_hasFreePacket 1 = .ok (.istore_n 3, 1) := by decide +kernel
theorem dX1_hasFreePacket_2 : decode cX1_hasFreePacket 2 = .ok (.iload_n 3, 1) := by decide +kernel
theorem dX1_hasFreePacket_3 : decode cX1_hasFreePacket 3 = .ok (.aload_n 1, 1) := by decide +kernel
theorem dX1_hasFreePacket_4 : decode cX1_hasFreePacket 4 = .ok (.getfield 31, 3) := by decide +kernel
theorem dX1_hasFreePacket_7 : decode cX1_hasFreePacket 7 = .ok (.if_icmp .ge 40, 3) := by decide +kernel
theorem dX1_hasFreePacket_10 : decode cX1_hasFreePacket 10 = .ok (.aload_n 1, 1) := by decide +kernel
theorem dX1_hasFreePacket_11 : decode cX1_hasFreePacket 11 = .ok (.getfield 35, 3) := by decide +kernel
theorem dX1_hasFreePacket_14 : decode cX1_hasFreePacket 14 = .ok (.iload_n 3, 1) := by decide +kernel
theorem dX1_hasFreePacket_15 : decode cX1_hasFreePacket 15 = .ok (.iaload, 1) := by decide +kernel
theorem dX1_hasFreePacket_16 : decode cX1_hasFreePacket 16 = .ok (.iconst 1, 1) := by decide +kernel
theorem dX1_hasFreePacket_17 : decode cX1_hasFreePacket 17 = .ok (.if_icmp .ne 24, 3) := by decide +kernel
theorem dX1_hasFreePacket_20 : decode cX1_hasFreePacket 20 = .ok (.aload_n 1, 1) := by decide +kernel
theorem dX1_hasFreePacket_21 : decode cX1_hasFreePacket 21 = .ok (.getfield 47, 3) := by decide +kernel
theorem dX1_hasFreePacket_24 : decode cX1_hasFreePacket 24 = .ok (.iload_n 3, 1) := by decide +kernel
theorem dX1_hasFreePacket_25 : decode cX1_hasFreePacket 25 = .ok (.iaload, 1) := by decide +kernel
theorem dX1_hasFreePacket_26 : decode cX1_hasFreePacket 26 = .ok (.iload_n 2, 1) := by decide +kernel
theorem dX1_hasFreePacket_27 : decode cX1_hasFreePacket 27 = .ok (.if_icmp .ne 14, 3) := by decide +kernel
theorem dX1_hasFreePacket_30 : decode cX1_hasFreePacket 30 = .ok (.aload_n 0, 1) := by decide +kernel
theorem dX1_hasFreePacket_31 : decode cX1_hasFreePacket 31 = .ok (.getfield 9, 3) := by decide +kernel
theorem dX1_hasFreePacket_34 : decode cX1_hasFreePacket 34 = .ok (.iload_n 3, 1) := by decide +kernel
theorem dX1_hasFreePacket_35 : decode cX1_hasFreePacket 35 = .ok (.baload, 1) := by decide +kernel
theorem dX1_hasFreePacket_36 : decode cX1_hasFreePacket 36 = .ok (.ifCond .ne 5, 3) := by decide +kernel
theorem dX1_hasFreePacket_39 : decode cX1_hasFreePacket 39 = .ok (.iconst 1, 1) := by decide +kernel
theorem dX1_hasFreePacket_40 : decode cX1_hasFreePacket 40 = .ok (.ireturn, 1) := by decide +kernel
theorem dX1_hasFreePacket_41 : decode cX1_hasFreePacket 41 = .ok (.iinc 3 1, 3) := by decide +kernel
theorem dX1_hasFreePacket_44 : decode cX1_hasFreePacket 44 = .ok (.goto (-42), 3) := by decide +kernel
theorem dX1_hasFreePacket_47 : decode cX1_hasFreePacket 47 = .ok (.iconst 0, 1) := by decide +kernel
theorem dX1_hasFreePacket_48 : decode cX1_hasFreePacket 48 = .ok (.ireturn, 1) := by decide +kernel
theorem dX2_init_0 : decode cX2_init 0 = .ok (.aload_n 0, 1) := by decide +kernel
theorem dX2_init_1 : decode cX2_init 1 = .ok (.invokespecial 3, 3) := by decide +kernel
theorem dX2_init_4 : decode cX2_init 4 = .ok (.aload_n 0, 1) := by decide +kernel
theorem dX2_init_5 : decode cX2_init 5 = .ok (.iconst 0, 1) := by decide +kernel
theorem dX2_init_6 : decode cX2_init 6 = .ok (.putfield 9, 3) := by decide +kernel
theorem dX2_init_9 : decode cX2_init 9 = .ok (.aload_n 0, 1) := by decide +kernel
theorem dX2_init_10 : decode cX2_init 10 = .ok (.bipush 40, 2) := by decide +kernel
theorem dX2_init_12 : decode cX2_init 12 = .ok (.newarray .int, 2) := by decide +kernel
theorem dX2_init_14 : decode cX2_init 14 = .ok (.putfield 15, 3) := by decide +kernel
theorem dX2_init_17 : decode cX2_init 17 = .ok (.aload_n 0, 1) := by decide +kernel
theorem dX2_init_18 : decode cX2_init 18 = .ok (.bipush 40, 2) := by decide +kernel
theorem dX2_init_20 : decode cX2_init 20 = .ok (.newarray .int, 2) := by decide +kernel
theorem dX2_init_22 : decode cX2_init 22 = .ok (.putfield 19, 3) := by decide +kernel
theorem dX2_init_25 : decode cX2_init 25 = .ok (.aload_n 0, 1) := by decide +kernel
theorem dX2_init_26 : decode cX2_init 26 = .ok (.bipush 40, 2) := by decide +kernel
theorem dX2_init_28 : decode cX2_init 28 = .ok (.newarray .int, 2) := by decide +kernel
theorem dX2_init_30 : decode cX2_init 30 = .ok (.putfield 22, 3) := by decide +kernel
theorem dX2_init_33 : decode cX2_init 33 = .ok (.aload_n 0, 1) := by decide +kernel
theorem dX2_init_34 : decode cX2_init 34 = .ok (.bipush 40, 2) := by decide +kernel
theorem dX2_init_36 : decode cX2_init 36 = .ok (.newarray .int, 2) := by decide +kernel
theorem dX2_init_38 : decode cX2_init 38 = .ok (.putfield 25, 3) := by decide +kernel
theorem dX2_init_41 : decode cX2_init 41 = .ok (.aload_n 0, 1) := by decide +kernel
theorem dX2_init_42 : decode cX2_init 42 = .ok (.bipush 40, 2) := by decide +kernel
theorem dX2_init_44 : decode cX2_init 44 = .ok (.newarray .int, 2) := by decide +kernel
theorem dX2_init_46 : decode cX2_init 46 = .ok (.putfield 28, 3) := by decide +kernel
theorem dX2_init_49 : decode cX2_init 49 = .ok (.aload_n 0, 1) := by decide +kernel
theorem dX2_init_50 : decode cX2_init 50 = .ok (.bipush 40, 2) := by decide +kernel
theorem dX2_init_52 : decode cX2_init 52 = .ok (.newarray .int, 2) := by decide +kernel
theorem dX2_init_54 : decode cX2_init 54 = .ok (.putfield 31, 3) := by decide +kernel
theorem dX2_init_57 : decode cX2_init 57 = .ok (.aload_n 0, 1) := by decide +kernel
theorem dX2_init_58 : decode cX2_init 58 = .ok (.bipush 40, 2) := by decide +kernel
theorem dX2_init_60 : decode cX2_init 60 = .ok (.newarray .int, 2) := by decide +kernel
theorem dX2_init_62 : decode cX2_init 62 = .ok (.putfield 34, 3) := by decide +kernel
theorem dX2_init_65 : decode cX2_init 65 = .ok (.aload_n 0, 1) := by decide +kernel
theorem dX2_init_66 : decode cX2_init 66 = .ok (.bipush 40, 2) := by decide +kernel
theorem dX2_init_68 : decode cX2_init 68 = .ok (.newarray .int, 2) := by decide +kernel
theorem dX2_init_70 : decode cX2_init 70 = .ok (.putfield 37, 3) := by decide +kernel
theorem dX2_init_73 : decode cX2_init 73 = .ok (.aload_n 0, 1) := by decide +kernel
theorem dX2_init_74 : decode cX2_init 74 = .ok (.bipush 40, 2) := by decide +kernel
theorem dX2_init_76 : decode cX2_init 76 = .ok (.newarray .int, 2) := by decide +kernel
theorem dX2_init_78 : decode cX2_init 78 = .ok (.putfield 40, 3) := by decide +kernel
theorem dX2_init_81 : decode cX2_init 81 = .ok (.aload_n 0, 1) := by decide +kernel
theorem dX2_init_82 : decode cX2_init 82 = .ok (.bipush 40, 2) := by decide +kernel
theorem dX2_init_84 : decode cX2_init 84 = .ok (.newarray .int, 2) := by decide +kernel
theorem dX2_init_86 : decode cX2_init 86 = .ok (.putfield 43, 3) := by decide +kernel
theorem dX2_init_89 : decode cX2_init 89 = .ok (.return_, 1) := by decide +kernel
theorem dX2_copyPackets_0 : decode cX2_copyPackets 0 = .ok (.aload_n 0, 1) := by decide +kernel
theorem dX2_copyPackets_1 : decode cX2_copyPackets 1 = .ok (.aload_n 1, 1) := by decide +kernel
theorem dX2_copyPackets_2 : decode cX2_copyPackets 2 = .ok (.getfield 9, 3) := by decide +kernel
theorem dX2_copyPackets_5 : decode cX2_copyPackets 5 = .ok (.putfield 9, 3) := by decide +kernel
theorem dX2_copyPackets_8 : decode cX2_copyPackets 8 = .ok (.aload_n 1, 1) := by decide +kernel
theorem dX2_copyPackets_9 : decode cX2_copyPackets 9 = .ok (.getfield 15, 3) := by decide +kernel
theorem dX2_copyPackets_12 : decode cX2_copyPackets 12 = .ok (.iconst 0, 1) := by decide +kernel
theorem dX2_copyPackets_13 : decode cX2_copyPackets 13 = .ok (.aload_n 0, 1) := by decide +kernel
theorem dX2_copyPackets_14 : decode cX2_copyPackets 14 = .ok (.getfield 15, 3) := by decide +kernel
theorem dX2_copyPackets_17 : decode cX2_copyPackets 17 = .ok (.iconst 0, 1) := by decide +kernel
theorem dX2_copyPackets_18 : decode cX2_copyPackets 18 = .ok (.bipush 40, 2) := by decide +kernel
theorem dX2_copyPackets_20 : decode cX2_copyPackets 20 = .ok (.invokestatic 46, 3) := by decide +kernel
theorem dX2_copyPackets_23 : decode cX2_copyPackets 23 = .ok (.aload_n 1, 1) := by decide +kernel
theorem dX2_copyPackets_24 : decode cX2_copyPackets 24 = .ok (.getfield 19, 3) := by decide +kernel
theorem dX2_copyPackets_27 : decode cX2_copyPackets 27 = .ok (.iconst 0, 1) := by decide +kernel
theorem dX2_copyPackets_28 : decode cX2_copyPackets 28 = .ok (.aload_n 0, 1) := by decide +kernel
theorem dX2_copyPackets_29 : decode cX2_copyPackets 29 = .ok (.getfield 19, 3) := by decide +kernel
theorem dX2_copyPackets_32 : decode cX2_copyPackets 32 = .ok (.iconst 0, 1) := by decide +kernel
theorem dX2_copyPackets_33 : decode cX2_copyPackets 33 = .ok (.bipush 40, 2) := by decide +kernel
theorem dX2_copyPackets_35 : decode cX2_copyPackets 35 = .ok (.invokestatic 46, 3) := by decide +kernel
theorem dX2_copyPackets_38 : decode cX2_copyPackets 38 = .ok (.aload_n 1, 1) := by decide +kernel
theorem dX2_copyPackets_39 : decode cX2_copyPackets 39 = .ok (.getfield 22, 3) := by decide +kernel
theorem dX2_copyPackets_42 : decode cX2_copyPackets 42 = .ok (.iconst 0, 1) := by decide +kernel
theorem dX2_copyPackets_43 : decode cX2_copyPackets 43 = .ok (.aload_n 0, 1) := by decide +kernel
theorem dX2_copyPackets_44 : decode cX2_copyPackets 44 = .ok (.getfield 22, 3) := by decide +kernel
theorem dX2_copyPackets_47 : decode cX2_copyPackets 47 = .ok (.iconst 0, 1) := by decide +kernel
theorem dX2_copyPackets_48 : decode cX2_copyPackets 48 = .ok (.bipush 40, 2) := by decide +kernel
theorem dX2_copyPackets_50 : decode cX2_copyPackets 50 = .ok (.invokestatic 46, 3) := by decide +kernel
theorem dX2_copyPackets_53 : decode cX2_copyPackets 53 = .ok (.aload_n 1, 1) := by decide +kernel
theorem dX2_copyPackets_54 : decode cX2_copyPackets 54 = .ok (.getfield 25, 3) := by decide +kernel
theorem dX2_copyPackets_57 : decode cX2_copyPackets 57 = .ok (.iconst 0, 1) := by decide +kernel
theorem dX2_copyPackets_58 : decode cX2_copyPackets 58 = .ok (.aload_n 0, 1) := by decide +kernel
theorem dX2_copyPackets_59 : decode cX2_copyPackets 59 = .ok (.getfield 25, 3) := by decide +kernel
theorem dX2_copyPackets_62 : decode cX2_copyPackets 62 = .ok (.iconst 0, 1) := by decide +kernel
theorem dX2_copyPackets_63 : decode cX2_copyPackets 63 = .ok (.bipush 40, 2) := by decide +kernel
theorem dX2_copyPackets_65 : decode cX2_copyPackets 65 = .ok (.invokestatic 46, 3) := by decide +kernel
theorem dX2_copyPackets_68 : decode cX2_copyPackets 68 = .ok (.aload_n 1, 1) := by decide +kernel
theorem dX2_copyPackets_69 : decode cX2_copyPackets 69 = .ok (.getfield 28, 3) := by decide +kernel
theorem dX2_copyPackets_72 : decode cX2_copyPackets 72 = .ok (.iconst 0, 1) := by decide +kernel
theorem dX2_copyPackets_73 : decode cX2_copyPackets 73 = .ok (.aload_n 0, 1) := by decide +kernel
theorem dX2_copyPackets_74 : decode cX2_copyPackets 74 = .ok (.getfield 28, 3) := by decide +kernel
theorem dX2_copyPackets_77 : decode cX2_copyPackets 77 = .ok (.iconst 0, 1) := by decide +kernel
theorem dX2_copyPackets_78 : decode cX2_copyPackets 78 = .ok (.bipush 40, 2) := by decide +kernel
theorem dX2_copyPackets_80 : decode cX2_copyPackets 80 = .ok (.invokestatic 46, 3) := by decide +kernel
theorem dX2_copyPackets_83 : decode cX2_copyPackets 83 = .ok (.aload_n 1, 1) := by decide +kernel
theorem dX2_copyPackets_84 : decode cX2_copyPackets 84 = .ok (.getfield 31, 3) := by decide +kernel
theorem dX2_copyPackets_87 : decode cX2_copyPackets 87 = .ok (.iconst 0, 1) := by decide +kernel
theorem dX2_copyPackets_88 : decode cX2_copyPackets 88 = .ok (.aload_n 0, 1) := by decide +kernel
theorem dX2_copyPackets_89 : decode cX2_copyPackets 89 = .ok (.getfield 31, 3) := by decide +kernel
theorem dX2_copyPackets_92 : decode cX2_copyPackets 92 = .ok (.iconst 0, 1) := by decide +kernel
theorem dX2_copyPackets_93 : decode cX2_copyPackets 93 = .ok (.bipush 40, 2) := by decide +kernel
theorem dX2_copyPackets_95 : decode cX2_copyPackets 95 = .ok (.invokestatic 46, 3) := by decide +kernel
theorem dX2_copyPackets_98 : decode cX2_copyPackets 98 = .ok (.aload_n 1, 1) := by decide +kernel
theorem dX2_copyPackets_99 : decode cX2_copyPackets 99 = .ok (.getfield 34, 3) := by decide +kernel
theorem dX2_copyPackets_102 : decode cX2_copyPackets 102 = .ok (.iconst 0, 1) := by decide +kernel
theorem dX2_copyPackets_103 : decode cX2_copyPackets 103 = .ok (.aload_n 0, 1) := by decide +kernel
theorem dX2_copyPackets_104 : decode cX2_copyPackets 104 = .ok (.getfield 34, 3) := by decide +kernel
theorem dX2_copyPackets_107 : decode cX2_copyPackets 107 = .ok (.iconst 0, 1) := by decide +kernel
theorem dX2_copyPackets_108 : decode cX2_copyPackets 108 = .ok (.bipush 40, 2) := by decide +kernel
theorem dX2_copyPackets_110 : decode cX2_copyPackets 110 = .ok (.invokestatic 46, 3) := by decide +kernel
theorem dX2_copyPackets_113 : decode cX2_copyPackets 113 = .ok (.aload_n 1, 1) := by decide +kernel
theorem dX2_copyPackets_114 : decode cX2_copyPackets 114 = .ok (.getfield 37, 3) := by decide +kernel
theorem dX2_copyPackets_117 : decode cX2_copyPackets 117 = .ok (.iconst 0, 1) := by decide +kernel
theorem dX2_copyPackets_118 : decode cX2_copyPackets 118 = .ok (.aload_n 0, 1) := by decide +kernel
theorem dX2_copyPackets_119 : decode cX2_copyPackets 119 = .ok (.getfield 37, 3) := by decide +kernel
theorem dX2_copyPackets_122 : decode cX2_copyPackets 122 = .ok (.iconst 0, 1) := by decide +kernel
theorem dX2_copyPackets_123 : decode cX2_copyPackets 123 = .ok (.bipush 40, 2) := by decide +kernel
theorem dX2_copyPackets_125 : decode cX2_copyPackets 125 = .ok (.invokestatic 46, 3) := by decide +kernel
theorem dX2_copyPackets_128 : decode cX2_copyPackets 128 = .ok (.aload_n 1, 1) := by decide +kernel
theorem dX2_copyPackets_129 : decode cX2_copyPackets 129 = .ok (.getfield 40, 3) := by decide +kernel
theorem dX2_copyPackets_132 : decode cX2_copyPackets 132 = .ok (.iconst 0, 1) := by decide +kernel
theorem dX2_copyPackets_133 : decode cX2_copyPackets 133 = .ok (.aload_n 0, 1) := by decide +kernel
theorem dX2_copyPackets_134 : decode cX2_copyPackets 134 = .ok (.getfield 40, 3) := by decide +kernel
theorem dX2_copyPackets_137 : decode cX2_copyPackets 137 = .ok (.iconst 0, 1) := by decide +kernel
theorem dX2_copyPackets_138 : decode cX2_copyPackets 138 = .ok (.bipush 40, 2) := by decide +kernel
theorem dX2_copyPackets_140 : decode cX2_copyPackets 140 = .ok (.invokestatic 46, 3) := by decide +kernel
theorem dX2_copyPackets_143 : decode cX2_copyPackets 143 = .ok (.aload_n 1, 1) := by decide +kernel
theorem dX2_copyPackets_144 : decode cX2_copyPackets 144 = .ok (.getfield 43, 3) := by decide +kernel
theorem dX2_copyPackets_147 : decode cX2_copyPackets 147 = .ok (.iconst 0, 1) := by decide +kernel
theorem dX2_copyPackets_148 : decode cX2_copyPackets 148 = .ok (.aload_n 0, 1) := by decide +kernel
theorem dX2_copyPackets_149 : decode cX2_copyPackets 149 = .ok (.getfield 43, 3) := by decide +kernel
theorem dX2_copyPackets_152 : decode cX2_copyPackets 152 = .ok (.iconst 0, 1) := by decide +kernel
theorem dX2_copyPackets_153 : decode cX2_copyPackets 153 = .ok (.bipush 40, 2) := by decide +kernel
theorem dX2_copyPackets_155 : decode cX2_copyPackets 155 = .ok (.invokestatic 46, 3) := by decide +kernel
theorem dX2_copyPackets_158 : decode cX2_copyPackets 158 = .ok (.return_, 1) := by decide +kernel
theorem dX2_has_0 : decode cX2_has 0 = .ok (.iload_n 1, 1) := by decide +kernel
theorem dX2_has_1 : decode cX2_has 1 = .ok (.ifCond .lt 15, 3) := by decide +kernel
theorem dX2_has_4 : decode cX2_has 4 = .ok (.iload_n 1, 1) := by decide +kernel
theorem dX2_has_5 : decode cX2_has 5 = .ok (.aload_n 0, 1) := by decide +kernel
theorem dX2_has_6 : decode cX2_has 6 = .ok (.getfield 9, 3) := by decide +kernel
theorem dX2_has_9 : decode cX2_has 9 = .ok (.if_icmp .ge 7, 3) := by decide +kernel
theorem dX2_has_12 : decode cX2_has 12 = .ok (.iconst 1, 1) := by decide +kernel
theorem dX2_has_13 : decode cX2_has 13 = .ok (.goto 4, 3) := by decide +kernel
theorem dX2_has_16 : decode cX2_has 16 = .ok (.iconst 0, 1) := by decide +kernel
theorem dX2_has_17 : decode cX2_has 17 = .ok (.ireturn, 1) := by decide +kernel
theorem dX2_add_0 : decode cX2_add 0 = .ok (.aload_n 0, 1) := by decide +kernel
theorem dX2_add_1 : decode cX2_add 1 = .ok (.getfield 9, 3) := by decide +kernel
theorem dX2_add_4 : decode cX2_add 4 = .ok (.istore 4, 2) := by decide +kernel
theorem dX2_add_6 : decode cX2_add 6 = .ok (.iload 4, 2) := by decide +kernel
theorem dX2_add_8 : decode cX2_add 8 = .ok (.bipush 40, 2) := by decide +kernel
theorem dX2_add_10 : decode cX2_add 10 = .ok (.if_icmp .lt 6, 3) := by decide +kernel
theorem dX2_add_13 : decode cX2_add 13 = .ok (.bipush (-4), 2) := by decide +kernel
theorem dX2_add_15 : decode cX2_add 15 = .ok (.ireturn, 1) := by decide +kernel
theorem dX2_add_16 : decode cX2_add 16 = .ok (.aload_n 0, 1) := by decide +kernel
theorem dX2_add_17 : decode cX2_add 17 = .ok (.getfield 15, 3) := by decide +kernel
theorem dX2_add_20 : decode cX2_add 20 = .ok (.iload 4, 2) := by decide +kernel
theorem dX2_add_22 : decode cX2_add 22 = .ok (.iload_n 1, 1) := by decide +kernel
theorem dX2_add_23 : decode cX2_add 23 = .ok (.iastore, 1) := by decide +kernel
theorem dX2_add_24 : decode cX2_add 24 = .ok (.aload_n 0, 1) := by decide +kernel
theorem dX2_add_25 : decode cX2_add 25 = .ok (.getfield 19, 3) := by decide +kernel
theorem dX2_add_28 : decode cX2_add 28 = .ok (.iload 4, 2) := by decide +kernel
theorem dX2_add_30 : decode cX2_add 30 = .ok (.iload_n 2, 1) := by decide +kernel
theorem dX2_add_31 : decode cX2_add 31 = .ok (.iastore, 1) := by decide +kernel
theorem dX2_add_32 : decode cX2_add 32 = .ok (.aload_n 0, 1) := by decide +kernel
theorem dX2_add_33 : decode cX2_add 33 = .ok (.getfield 22, 3) := by decide +kernel
theorem dX2_add_36 : decode cX2_add 36 = .ok (.iload 4, 2) := by decide +kernel
theorem dX2_add_38 : decode cX2_add 38 = .ok (.iconst 0, 1) := by decide +kernel
theorem dX2_add_39 : decode cX2_add 39 = .ok (.iastore, 1) := by decide +kernel
theorem dX2_add_40 : decode cX2_add 40 = .ok (.aload_n 0, 1) := by decide +kernel
theorem dX2_add_41 : decode cX2_add 41 = .ok (.getfield 25, 3) := by decide +kernel
theorem dX2_add_44 : decode cX2_add 44 = .ok (.iload 4, 2) := by decide +kernel
theorem dX2_add_46 : decode cX2_add 46 = .ok (.iload_n 1, 1) := by decide +kernel
theorem dX2_add_47 : decode cX2_add 47 = .ok (.iastore, 1) := by decide +kernel
theorem dX2_add_48 : decode cX2_add 48 = .ok (.aload_n 0, 1) := by decide +kernel
theorem dX2_add_49 : decode cX2_add 49 = .ok (.getfield 28, 3) := by decide +kernel
theorem dX2_add_52 : decode cX2_add 52 = .ok (.iload 4, 2) := by decide +kernel
theorem dX2_add_54 : decode cX2_add 54 = .ok (.iconst 0, 1) := by decide +kernel
theorem dX2_add_55 : decode cX2_add 55 = .ok (.iastore, 1) := by decide +kernel
theorem dX2_add_56 : decode cX2_add 56 = .ok (.aload_n 0, 1) := by decide +kernel
theorem dX2_add_57 : decode cX2_add 57 = .ok (.getfield 31, 3) := by decide +kernel
theorem dX2_add_60 : decode cX2_add 60 = .ok (.iload 4, 2) := by decide +kernel
theorem dX2_add_62 : decode cX2_add 62 = .ok (.iconst 0, 1) := by decide +kernel
theorem dX2_add_63 : decode cX2_add 63 = .ok (.iastore, 1) := by decide +kernel
theorem dX2_add_64 : decode cX2_add 64 = .ok (.aload_n 0, 1) := by decide +kernel
theorem dX2_add_65 : decode cX2_add 65 = .ok (.getfield 34, 3) := by decide +kernel
theorem dX2_add_68 : decode cX2_add 68 = .ok (.iload 4, 2) := by decide +kernel
theorem dX2_add_70 : decode cX2_add 70 = .ok (.iconst 0, 1) := by decide +kernel
theorem dX2_add_71 : decode cX2_add 71 = .ok (.iastore, 1) := by decide +kernel
theorem dX2_add_72 : decode cX2_add 72 = .ok (.aload_n 0, 1) := by decide +kernel
theorem dX2_add_73 : decode cX2_add 73 = .ok (.getfield 37, 3) := by decide +kernel
theorem dX2_add_76 : decode cX2_add 76 = .ok (.iload 4, 2) := by decide +kernel
theorem dX2_add_78 : decode cX2_add 78 = .ok (.iload_n 3, 1) := by decide +kernel
theorem dX2_add_79 : decode cX2_add 79 = .ok (.iastore, 1) := by decide +kernel
theorem dX2_add_80 : decode cX2_add 80 = .ok (.aload_n 0, 1) := by decide +kernel
theorem dX2_add_81 : decode cX2_add 81 = .ok (.getfield 40, 3) := by decide +kernel
theorem dX2_add_84 : decode cX2_add 84 = .ok (.iload 4, 2) := by decide +kernel
theorem dX2_add_86 : decode cX2_add 86 = .ok (.bipush (-6), 2) := by decide +kernel
theorem dX2_add_88 : decode cX2_add 88 = .ok (.iastore, 1) := by decide +kernel
theorem dX2_add_89 : decode cX2_add 89 = .ok (.aload_n 0, 1) := by decide +kernel
theorem dX2_add_90 : decode cX2_add 90 = .ok (.getfield 43, 3) := by decide +kernel
theorem dX2_add_93 : decode cX2_add 93 = .ok (.iload 4, 2) := by decide +kernel
theorem dX2_add_95 : decode cX2_add 95 = .ok (.iconst 0, 1) := by decide +kernel
theorem dX2_add_96 : decode cX2_add 96 = .ok (.iastore, 1) := by decide +kernel
theorem dX2_add_97 : decode cX2_add 97 = .ok (.aload_n 0, 1) := by decide +kernel
theorem dX2_add_98 : decode cX2_add 98 = .ok (.dup, 1) := by decide +kernel
theorem dX2_add_99 : decode cX2_add 99 = .ok (.getfield 9, 3) := by decide +kernel
theorem dX2_add_102 : decode cX2_add 102 = .ok (.iconst 1, 1) := by decide +kernel
theorem dX2_add_103 : decode cX2_add 103 = .ok (.iadd, 1) := by decide +kernel
theorem dX2_add_104 : decode cX2_add 104 = .ok (.putfield 9, 3) := by decide +kernel
theorem dX2_add_107 : decode cX2_add 107 = .ok (.iload 4, 2) := by decide +kernel
theorem dX2_add_109 : decode cX2_add 109 = .ok (.ireturn, 1) := by decide +kernel
theorem dX2_noteMove_0 : decode cX2_noteMove 0 = .ok (.aload_n 0, 1) := by decide +kernel
theorem dX2_noteMove_1 : decode cX2_noteMove 1 = .ok (.getfield 25, 3) := by decide +kernel
theorem dX2_noteMove_4 : decode cX2_noteMove 4 = .ok (.iload_n 1, 1) := by decide +kernel
theorem dX2_noteMove_5 : decode cX2_noteMove 5 = .ok (.iload_n 2, 1) := by decide +kernel
theorem dX2_noteMove_6 : decode cX2_noteMove 6 = .ok (.iastore, 1) := by decide +kernel
theorem dX2_noteMove_7 : decode cX2_noteMove 7 = .ok (.aload_n 0, 1) := by decide +kernel
theorem dX2_noteMove_8 : decode cX2_noteMove 8 = .ok (.getfield 28, 3) := by decide +kernel
theorem dX2_noteMove_11 : decode cX2_noteMove 11 = .ok (.iload_n 1, 1) := by decide +kernel
theorem dX2_noteMove_12 : decode cX2_noteMove 12 = .ok (.dup2, 1) := by decide +kernel
theorem dX2_noteMove_13 : decode cX2_noteMove 13 = .ok (.iaload, 1) := by decide +kernel
theorem dX2_noteMove_14 : decode cX2_noteMove 14 = .ok (.iconst 1, 1) := by decide +kernel
theorem dX2_noteMove_15 : decode cX2_noteMove 15 = .ok (.iadd, 1) := by decide +kernel
theorem dX2_noteMove_16 : decode cX2_noteMove 16 = .ok (.iastore, 1) := by decide +kernel
theorem dX2_noteMove_17 : decode cX2_noteMove 17 = .ok (.iload 4, 2) := by decide +kernel
theorem dX2_noteMove_19 : decode cX2_noteMove 19 = .ok (.ifCond .eq 13, 3) := by decide +kernel
theorem dX2_noteMove_22 : decode cX2_noteMove 22 = .ok (.aload_n 0, 1) := by decide +kernel
theorem dX2_noteMove_23 : decode cX2_noteMove 23 = .ok (.getfield 31, 3) := by decide +kernel
theorem dX2_noteMove_26 : decode cX2_noteMove 26 = .ok (.iload_n 1, 1) := by decide +kernel
theorem dX2_noteMove_27 : decode cX2_noteMove 27 = .ok (.dup2, 1) := by decide +kernel
theorem dX2_noteMove_28 : decode cX2_noteMove 28 = .ok (.iaload, 1) := by decide +kernel
theorem dX2_noteMove_29 : decode cX2_noteMove 29 = .ok (.iconst 1, 1) := by decide +kernel
theorem dX2_noteMove_30 : decode cX2_noteMove 30 = .ok (.iadd, 1) := by decide +kernel
theorem dX2_noteMove_31 : decode cX2_noteMove 31 = .ok (.iastore, 1) := by decide +kernel
theorem dX2_noteMove_32 : decode cX2_noteMove 32 = .ok (.iload_n 3, 1) := by decide +kernel
theorem dX2_noteMove_33 : decode cX2_noteMove 33 = .ok (.ifCond .eq 10, 3) := by decide +kernel
theorem dX2_noteMove_36 : decode cX2_noteMove 36 = .ok (.aload_n 0, 1) := by decide +kernel
theorem dX2_noteMove_37 : decode cX2_noteMove 37 = .ok (.getfield 43, 3) := by decide +kernel
theorem dX2_noteMove_40 : decode cX2_noteMove 40 = .ok (.iload_n 1, 1) := by decide +kernel
theorem dX2_noteMove_41 : decode cX2_noteMove 41 = .ok (.iconst 1, 1) := by decide +kernel
theorem dX2_noteMove_42 : decode cX2_noteMove 42 = .ok (.iastore, 1) := by decide +kernel
theorem dX2_noteMove_43 : decode cX2_noteMove 43 = .ok (.return_, 1) := by decide +kernel
theorem dX2_countIn_0 : decode cX2_countIn 0 = .ok (.iconst 0, 1) := by decide +kernel
theorem dX2_countIn_1 : decode cX2_countIn 1 = .ok (.istore_n 2, 1) := by decide +kernel
theorem dX2_countIn_2 : decode cX2_countIn 2 = .ok (.iconst 0, 1) := by decide +kernel
theorem dX2_countIn_3 : decode cX2_countIn 3 = .ok (.istore_n 3, 1) := by decide +kernel
theorem dX2_countIn_4 : decode cX2_countIn 4 = .ok (.iload_n 3, 1) := by decide +kernel
theorem dX2_countIn_5 : decode cX2_countIn 5 = .ok (.aload_n 0, 1) := by decide +kernel
theorem dX2_countIn_6 : decode cX2_countIn 6 = .ok (.getfield 9, 3) := by decide +kernel
theorem dX2_countIn_9 : decode cX2_countIn 9 = .ok (.if_icmp .ge 22, 3) := by decide +kernel
theorem dX2_countIn_12 : decode cX2_countIn 12 = .ok (.aload_n 0, 1) := by decide +kernel
theorem dX2_countIn_13 : decode cX2_countIn 13 = .ok (.getfield 22, 3) := by decide +kernel
theorem dX2_countIn_16 : decode cX2_countIn 16 = .ok (.iload_n 3, 1) := by decide +kernel
theorem dX2_countIn_17 : decode cX2_countIn 17 = .ok (.iaload, 1) := by decide +kernel
theorem dX2_countIn_18 : decode cX2_countIn 18 = .ok (.iload_n 1, 1) := by decide +kernel
theorem dX2_countIn_19 : decode cX2_countIn 19 = .ok (.if_icmp .ne 6, 3) := by decide +kernel
theorem dX2_countIn_22 : decode cX2_countIn 22 = .ok (.iinc 2 1, 3) := by decide +kernel
theorem dX2_countIn_25 : decode cX2_countIn 25 = .ok (.iinc 3 1, 3) := by decide +kernel
theorem dX2_countIn_28 : decode cX2_countIn 28 = .ok (.goto (-24), 3) := by decide +kernel
theorem dX2_countIn_31 : decode cX2_countIn 31 = .ok (.iload_n 2, 1) := by decide +kernel
theorem dX2_countIn_32 : decode cX2_countIn 32 = .ok (.ireturn, 1) := by decide +kernel
theorem dX2_countAt_0 : decode cX2_countAt 0 = .ok (.iconst 0, 1) := by decide +kernel
theorem dX2_countAt_1 : decode cX2_countAt 1 = .ok (.istore_n 3, 1) := by decide +kernel
theorem dX2_countAt_2 : decode cX2_countAt 2 = .ok (.iconst 0, 1) := by decide +kernel
theorem dX2_countAt_3 : decode cX2_countAt 3 = .ok (.istore 4, 2) := by decide +kernel
theorem dX2_countAt_5 : decode cX2_countAt 5 = .ok (.iload 4, 2) := by decide +kernel
theorem dX2_countAt_7 : decode cX2_countAt 7 = .ok (.aload_n 0, 1) := by decide +kernel
theorem dX2_countAt_8 : decode cX2_countAt 8 = .ok (.getfield 9, 3) := by decide +kernel
theorem dX2_countAt_11 : decode cX2_countAt 11 = .ok (.if_icmp .ge 34, 3) := by decide +kernel
theorem dX2_countAt_14 : decode cX2_countAt 14 = .ok (.aload_n 0, 1) := by decide +kernel
theorem dX2_countAt_15 : decode cX2_countAt 15 = .ok (.getfield 22, 3) := by decide +kernel
theorem dX2_countAt_18 : decode cX2_countAt 18 = .ok (.iload 4, 2) := by decide +kernel
theorem dX2_countAt_20 : decode cX2_countAt 20 = .ok (.iaload, 1) := by decide +kernel
theorem dX2_countAt_21 : decode cX2_countAt 21 = .ok (.iload_n 1, 1) := by decide +kernel
theorem dX2_countAt_22 : decode cX2_countAt 22 = .ok (.if_icmp .ne 17, 3) := by decide +kernel
theorem dX2_countAt_25 : decode cX2_countAt 25 = .ok (.aload_n 0, 1) := by decide +kernel
theorem dX2_countAt_26 : decode cX2_countAt 26 = .ok (.getfield 25, 3) := by decide +kernel
theorem dX2_countAt_29 : decode cX2_countAt 29 = .ok (.iload 4, 2) := by decide +kernel
theorem dX2_countAt_31 : decode cX2_countAt 31 = .ok (.iaload, 1) := by decide +kernel
theorem dX2_countAt_32 : decode cX2_countAt 32 = .ok (.iload_n 2, 1) := by decide +kernel
theorem dX2_countAt_33 : decode cX2_countAt 33 = .ok (.if_icmp .ne 6, 3) := by decide +kernel
theorem dX2_countAt_36 : decode cX2_countAt 36 = .ok (.iinc 3 1, 3) := by decide +kernel
theorem dX2_countAt_39 : decode cX2_countAt 39 = .ok (.iinc 4 1, 3) := by decide +kernel
theorem dX2_countAt_42 : decode cX2_countAt 42 = .ok (.goto (-37), 3) := by decide +kernel
theorem dX2_countAt_45 : decode cX2_countAt 45 = .ok (.iload_n 3, 1) := by decide +kernel
theorem dX2_countAt_46 : decode cX2_countAt 46 = .ok (.ireturn, 1) := by decide +kernel
theorem dX2_sum_0 : decode cX2_sum 0 = .ok (.iconst 0, 1) := by decide +kernel
theorem dX2_sum_1 : decode cX2_sum 1 = .ok (.istore_n 2, 1) := by decide +kernel
theorem dX2_sum_2 : decode cX2_sum 2 = .ok (.iconst 0, 1) := by decide +kernel
theorem dX2_sum_3 : decode cX2_sum 3 = .ok (.istore_n 3, 1) := by decide +kernel
theorem dX2_sum_4 : decode cX2_sum 4 = .ok (.iload_n 3, 1) := by decide +kernel
theorem dX2_sum_5 : decode cX2_sum 5 = .ok (.aload_n 0, 1) := by decide +kernel
theorem dX2_sum_6 : decode cX2_sum 6 = .ok (.getfield 9, 3) := by decide +kernel
theorem dX2_sum_9 : decode cX2_sum 9 = .ok (.if_icmp .ge 15, 3) := by decide +kernel
theorem dX2_sum_12 : decode cX2_sum 12 = .ok (.iload_n 2, 1) := by decide +kernel
theorem dX2_sum_13 : decode cX2_sum 13 = .ok (.aload_n 1, 1) := by decide +kernel
theorem dX2_sum_14 : decode cX2_sum 14 = .ok (.iload_n 3, 1) := by decide +kernel
theorem dX2_sum_15 : decode cX2_sum 15 = .ok (.iaload, 1) := by decide +kernel
theorem dX2_sum_16 : decode cX2_sum 16 = .ok (.iadd, 1) := by decide +kernel
theorem dX2_sum_17 : decode cX2_sum 17 = .ok (.istore_n 2, 1) := by decide +kernel
theorem dX2_sum_18 : decode cX2_sum 18 = .ok (.iinc 3 1, 3) := by decide +kernel
theorem dX2_sum_21 : decode cX2_sum 21 = .ok (.goto (-17), 3) := by decide +kernel
theorem dX2_sum_24 : decode cX2_sum 24 = .ok (.iload_n 2, 1) := by decide +kernel
theorem dX2_sum_25 : decode cX2_sum 25 = .ok (.ireturn, 1) := by decide +kernel
theorem dX3_init_0 : decode cX3_init 0 = .ok (.aload_n 0, 1) := by decide +kernel
theorem dX3_init_1 : decode cX3_init 1 = .ok (.invokespecial 5, 3) := by decide +kernel
theorem dX3_init_4 : decode cX3_init 4 = .ok (.aload_n 0, 1) := by decide +kernel
theorem dX3_init_5 : decode cX3_init 5 = .ok (.bipush 80, 2) := by decide +kernel
theorem dX3_init_7 : decode cX3_init 7 = .ok (.newarray .char, 2) := by decide +kernel
theorem dX3_init_9 : decode cX3_init 9 = .ok (.putfield 11, 3) := by decide +kernel
theorem dX3_init_12 : decode cX3_init 12 = .ok (.aload_n 0, 1) := by decide +kernel
theorem dX3_init_13 : decode cX3_init 13 = .ok (.iconst 0, 1) := by decide +kernel
theorem dX3_init_14 : decode cX3_init 14 = .ok (.putfield 15, 3) := by decide +kernel
theorem dX3_init_17 : decode cX3_init 17 = .ok (.aload_n 0, 1) := by decide +kernel
theorem dX3_init_18 : decode cX3_init 18 = .ok (.iconst 0, 1) := by decide +kernel
theorem dX3_init_19 : decode cX3_init 19 = .ok (.putfield 19, 3) := by decide +kernel
theorem dX3_init_22 : decode cX3_init 22 = .ok (.aload_n 0, 1) := by decide +kernel
theorem dX3_init_23 : decode cX3_init 23 = .ok (.bipush 27, 2) := by decide +kernel
theorem dX3_init_25 : decode cX3_init 25 = .ok (.newarray .int, 2) := by decide +kernel
theorem dX3_init_27 : decode cX3_init 27 = .ok (.putfield 22, 3) := by decide +kernel
theorem dX3_init_30 : decode cX3_init 30 = .ok (.aload_n 0, 1) := by decide +kernel
theorem dX3_init_31 : decode cX3_init 31 = .ok (.bipush 27, 2) := by decide +kernel
theorem dX3_init_33 : decode cX3_init 33 = .ok (.newarray .int, 2) := by decide +kernel
theorem dX3_init_35 : decode cX3_init 35 = .ok (.putfield 26, 3) := by decide +kernel
theorem dX3_init_38 : decode cX3_init 38 = .ok (.aload_n 0, 1) := by decide +kernel
theorem dX3_init_39 : decode cX3_init 39 = .ok (.bipush 27, 2) := by decide +kernel
theorem dX3_init_41 : decode cX3_init 41 = .ok (.newarray .int, 2) := by decide +kernel
theorem dX3_init_43 : decode cX3_init 43 = .ok (.putfield 29, 3) := by decide +kernel
theorem dX3_init_46 : decode cX3_init 46 = .ok (.aload_n 0, 1) := by decide +kernel
theorem dX3_init_47 : decode cX3_init 47 = .ok (.iconst 0, 1) := by decide +kernel
theorem dX3_init_48 : decode cX3_init 48 = .ok (.putfield 32, 3) := by decide +kernel
theorem dX3_init_51 : decode cX3_init 51 = .ok (.return_, 1) := by decide +kernel
theorem dX3_countCharacters_0 : decode cX3_countCharacters 0 = .ok (.iconst 0, 1) := by decide +kernel
theorem dX3_countCharacters_1 : decode cX3_countCharacters 1 = .ok (.istore_n 2, 1) := by decide +kernel
theorem dX3_countCharacters_2 : decode cX3_countCharacters 2 = .ok (.lload_n 0, 1) := by decide +kernel
theorem dX3_countCharacters_3 : decode cX3_countCharacters 3 = .ok (.lstore_n 3, 1) := by decide +kernel
theorem dX3_countCharacters_4 : decode cX3_countCharacters 4 = .ok (.iconst 0, 1) := by decide +kernel
theorem dX3_countCharacters_5 : decode cX3_countCharacters 5 = .ok (.istore 5, 2) := by decide +kernel
theorem dX3_countCharacters_7 : decode cX3_countCharacters 7 = .ok (.iload 5, 2) := by decide +kernel
theorem dX3_countCharacters_9 : decode cX3_countCharacters 9 = .ok (.bipush 8, 2) := by decide +kernel
theorem dX3_countCharacters_11 : decode cX3_countCharacters 11 = .ok (.if_icmp .ge 47, 3) := by decide +kernel
theorem dX3_countCharacters_14 : decode cX3_countCharacters 14 = .ok (.lload_n 3, 1) := by decide +kernel
theorem dX3_countCharacters_15 : decode cX3_countCharacters 15 = .ok (.lconst 0, 1) := by decide +kernel
theorem dX3_countCharacters_16 : decode cX3_countCharacters 16 = .ok (.lcmp, 1) := by decide +kernel
theorem dX3_countCharacters_17 : decode cX3_countCharacters 17 = .ok (.ifCond .eq 41, 3) := by decide +kernel
theorem dX3_countCharacters_20 : decode cX3_countCharacters 20 = .ok (.lload_n 3, 1) := by decide +kernel
theorem dX3_countCharacters_21 : decode cX3_countCharacters 21 = .ok (.ldc2_w 35, 3) := by decide +kernel
theorem dX3_countCharacters_24 : decode cX3_countCharacters 24 = .ok (.land, 1) := by decide +kernel
theorem dX3_countCharacters_25 : decode cX3_countCharacters 25 = .ok (.l2i, 1) := by decide +kernel
theorem dX3_countCharacters_26 : decode cX3_countCharacters 26 = .ok (.istore 6, 2) := by decide +kernel
theorem dX3_countCharacters_28 : decode cX3_countCharacters 28 = .ok (.iload 6, 2) := by decide +kernel
theorem dX3_countCharacters_30 : decode cX3_countCharacters 30 = .ok (.bipush 33, 2) := by decide +kernel
theorem dX3_countCharacters_32 : decode cX3_countCharacters 32 = .ok (.if_icmp .lt 10, 3) := by decide +kernel
theorem dX3_countCharacters_35 : decode cX3_countCharacters 35 = .ok (.iload 6, 2) := by decide +kernel
theorem dX3_countCharacters_37 : decode cX3_countCharacters 37 = .ok (.bipush 126, 2) := by decide +kernel
theorem dX3_countCharacters_39 : decode cX3_countCharacters 39 = .ok (.if_icmp .le 5, 3) := by decide +kernel
theorem dX3_countCharacters_42 : decode cX3_countCharacters 42 = .ok (.iconst 0, 1) := by decide +kernel
theorem dX3_countCharacters_43 : decode cX3_countCharacters 43 = .ok (.ireturn, 1) := by decide +kernel
theorem dX3_countCharacters_44 : decode cX3_countCharacters 44 = .ok (.iinc 2 1, 3) := by decide +kernel
theorem dX3_countCharacters_47 : decode cX3_countCharacters 47 = .ok (.lload_n 3, 1) := by decide +kernel
theorem dX3_countCharacters_48 : decode cX3_countCharacters 48 = .ok (.bipush 8, 2) := by decide +kernel
theorem dX3_countCharacters_50 : decode cX3_countCharacters 50 = .ok (.lushr, 1) := by decide +kernel
theorem dX3_countCharacters_51 : decode cX3_countCharacters 51 = .ok (.lstore_n 3, 1) := by decide +kernel
theorem dX3_countCharacters_52 : decode cX3_countCharacters 52 = .ok (.iinc 5 1, 3) := by decide +kernel
theorem dX3_countCharacters_55 : decode cX3_countCharacters 55 = .ok (.goto (-48), 3) := by decide +kernel
theorem dX3_countCharacters_58 : decode cX3_countCharacters 58 = .ok (.iload_n 2, 1) := by decide +kernel
theorem dX3_countCharacters_59 : decode cX3_countCharacters 59 = .ok (.ireturn, 1) := by decide +kernel
theorem dX3_fits_0 : decode cX3_fits 0 = .ok (.aload_n 0, 1) := by decide +kernel
theorem dX3_fits_1 : decode cX3_fits 1 = .ok (.getfield 15, 3) := by decide +kernel
theorem dX3_fits_4 : decode cX3_fits 4 = .ok (.iload_n 1, 1) := by decide +kernel
theorem dX3_fits_5 : decode cX3_fits 5 = .ok (.iadd, 1) := by decide +kernel
theorem dX3_fits_6 : decode cX3_fits 6 = .ok (.bipush 80, 2) := by decide +kernel
theorem dX3_fits_8 : decode cX3_fits 8 = .ok (.if_icmp .gt 7, 3) := by decide +kernel
theorem dX3_fits_11 : decode cX3_fits 11 = .ok (.iconst 1, 1) := by decide +kernel
theorem dX3_fits_12 : decode cX3_fits 12 = .ok (.goto 4, 3) := by decide +kernel
theorem dX3_fits_15 : decode cX3_fits 15 = .ok (.iconst 0, 1) := by decide +kernel
theorem dX3_fits_16 : decode cX3_fits 16 = .ok (.ireturn, 1) := by decide +kernel
set_option maxRecDepth 20000 in
theorem ggX3_append_X3_fits : GoodIn wsX3_append wsX3_fits := goodIn_r _ [8, 2, 9, 10, 11, 12, 13, 14, 15] (by decide +kernel) (by decide +kernel)
set_option maxRecDepth 20000 in
theorem gX3_append_X3_fits : GoodIn wsX3_append (wsV RX3 37 RX3 yX3_fits wsX3_fits) := goodIn_app (goodIn_of _ (by decide +kernel)) ggX3_append_X3_fits
theorem dX3_append_0 : decode cX3_append 0 = .ok (.iconst 0, 1) := by decide +kernel
theorem dX3_append_1 : decode cX3_append 1 = .ok (.istore 4, 2) := by decide +kernel
theorem dX3_append_3 : decode cX3_append 3 = .ok (.iload 4, 2) := by decide +kernel
theorem dX3_append_5 : decode cX3_append 5 = .ok (.iload_n 3, 1) := by decide +kernel
theorem dX3_append_6 : decode cX3_append 6 = .ok (.if_icmp .ge 50, 3) := by decide +kernel
theorem dX3_append_9 : decode cX3_append 9 = .ok (.aload_n 0, 1) := by decide +kernel
theorem dX3_append_10 : decode cX3_append 10 = .ok (.iload_n 3, 1) := by decide +kernel
theorem dX3_append_11 : decode cX3_append 11 = .ok (.invokevirtual 37, 3) := by decide +kernel
theorem dX3_append_14 : decode cX3_append 14 = .ok (.ifCond .eq 42, 3) := by decide +kernel
theorem dX3_append_17 : decode cX3_append 17 = .ok (.bipush 8, 2) := by decide +kernel
theorem dX3_append_19 : decode cX3_append 19 = .ok (.iload_n 3, 1) := by decide +kernel
theorem dX3_append_20 : decode cX3_append 20 = .ok (.iconst 1, 1) := by decide +kernel
theorem dX3_append_21 : decode cX3_append 21 = .ok (.isub, 1) := by decide +kernel
theorem dX3_append_22 : decode cX3_append 22 = .ok (.iload 4, 2) := by decide +kernel
theorem dX3_append_24 : decode cX3_append 24 = .ok (.isub, 1) := by decide +kernel
theorem dX3_append_25 : decode cX3_append 25 = .ok (.imul, 1) := by decide +kernel
theorem dX3_append_26 : decode cX3_append 26 = .ok (.istore 5, 2) := by decide +kernel
theorem dX3_append_28 : decode cX3_append 28 = .ok (.aload_n 0, 1) := by decide +kernel
theorem dX3_append_29 : decode cX3_append 29 = .ok (.getfield 11, 3) := by decide +kernel
theorem dX3_append_32 : decode cX3_append 32 = .ok (.aload_n 0, 1) := by decide +kernel
theorem dX3_append_33 : decode cX3_append 33 = .ok (.getfield 15, 3) := by decide +kernel
theorem dX3_append_36 : decode cX3_append 36 = .ok (.iload 4, 2) := by decide +kernel
theorem dX3_append_38 : decode cX3_append 38 = .ok (.iadd, 1) := by decide +kernel
theorem dX3_append_39 : decode cX3_append 39 = .ok (.lload_n 1, 1) := by decide +kernel
theorem dX3_append_40 : decode cX3_append 40 = .ok (.iload 5, 2) := by decide +kernel
theorem dX3_append_42 : decode cX3_append 42 = .ok (.lushr, 1) := by decide +kernel
theorem dX3_append_43 : decode cX3_append 43 = .ok (.ldc2_w 35, 3) := by decide +kernel
theorem dX3_append_46 : decode cX3_append 46 = .ok (.land, 1) := by decide +kernel
theorem dX3_append_47 : decode cX3_append 47 = .ok (.l2i, 1) := by decide +kernel
theorem dX3_append_48 : decode cX3_append 48 = .ok (.i2c, 1) := by decide +kernel
theorem dX3_append_49 : decode cX3_append 49 = .ok (.castore, 1) := by decide +kernel
theorem dX3_append_50 : decode cX3_append 50 = .ok (.iinc 4 1, 3) := by decide +kernel
theorem dX3_append_53 : decode cX3_append 53 = .ok (.goto (-50), 3) := by decide +kernel
theorem dX3_append_56 : decode cX3_append 56 = .ok (.aload_n 0, 1) := by decide +kernel
theorem dX3_append_57 : decode cX3_append 57 = .ok (.dup, 1) := by decide +kernel
theorem dX3_append_58 : decode cX3_append 58 = .ok (.getfield 15, 3) := by decide +kernel
theorem dX3_append_61 : decode cX3_append 61 = .ok (.iload_n 3, 1) := by decide +kernel
theorem dX3_append_62 : decode cX3_append 62 = .ok (.iadd, 1) := by decide +kernel
theorem dX3_append_63 : decode cX3_append 63 = .ok (.putfield 15, 3) := by decide +kernel
theorem dX3_append_66 : decode cX3_append 66 = .ok (.return_, 1) := by decide +kernel
set_option maxRecDepth 20000 in
theorem ggX3_readOrders_X3_readOrder : GoodIn wsX3_readOrders wsX3_readOrder := goodIn_r _ [8, 1, 2, 9, 10, 11, 12, 13, 14, 7, 15, 3, 16, 17, 18, 19, 20, 21, 22, 23, 24, 25, 26, 27, 28, 29, 30, 31, 32, 33, 34, 35, 36, 37, 38, 39, 40, 41, 42] (by decide +kernel) (by decide +kernel)
set_option maxRecDepth 20000 in
theorem gX3_readOrders_X3_readOrder : GoodIn wsX3_readOrders (wsV RX3 41 RX3 yX3_readOrder wsX3_readOrder) := goodIn_app (goodIn_of _ (by decide +kernel)) ggX3_readOrders_X3_readOrder
set_option maxRecDepth 20000 in
theorem ggX3_readOrders_X3_readSign : GoodIn wsX3_readOrders wsX3_readSign := goodIn_r _ [28, 1, 12, 13, 14, 7, 15, 3, 16, 36, 37, 38, 39, 40, 41, 42] (by decide +kernel) (by decide +kernel)
set_option maxRecDepth 20000 in
theorem gX3_readOrders_X3_readSign : GoodIn wsX3_readOrders (wsV RX3 45 RX3 yX3_readSign wsX3_readSign) := goodIn_app (goodIn_of _ (by decide +kernel)) ggX3_readOrders_X3_readSign
theorem dX3_readOrders_0 : decode cX3_readOrders 0 = .ok (.aload_n 0, 1) := by decide +kernel
theorem dX3_readOrders_1 : decode cX3_readOrders 1 = .ok (.iconst 0, 1) := by decide +kernel
theorem dX3_readOrders_2 : decode cX3_readOrders 2 = .ok (.putfield 32, 3) := by decide +kernel
theorem dX3_readOrders_5 : decode cX3_readOrders 5 = .ok (.aload_n 0, 1) := by decide +kernel
theorem dX3_readOrders_6 : decode cX3_readOrders 6 = .ok (.iconst 0, 1) := by decide +kernel
theorem dX3_readOrders_7 : decode cX3_readOrders 7 = .ok (.putfield 19, 3) := by decide +kernel
theorem dX3_readOrders_10 : decode cX3_readOrders 10 = .ok (.iconst 0, 1) := by decide +kernel
theorem dX3_readOrders_11 : decode cX3_readOrders 11 = .ok (.istore_n 1, 1) := by decide +kernel
theorem dX3_readOrders_12 : decode cX3_readOrders 12 = .ok (.iload_n 1, 1) := by decide +kernel
theorem dX3_readOrders_13 : decode cX3_readOrders 13 = .ok (.bipush 27, 2) := by decide +kernel
theorem dX3_readOrders_15 : decode cX3_readOrders 15 = .ok (.if_icmp .ge 49, 3) := by decide +kernel
theorem dX3_readOrders_18 : decode cX3_readOrders 18 = .ok (.aload_n 0, 1) := by decide +kernel
theorem dX3_readOrders_19 : decode cX3_readOrders 19 = .ok (.invokevirtual 41, 3) := by decide +kernel
theorem dX3_readOrders_22 : decode cX3_readOrders 22 = .ok (.ifCond .ne 8, 3) := by decide +kernel
theorem dX3_readOrders_25 : decode cX3_readOrders 25 = .ok (.aload_n 0, 1) := by decide +kernel
theorem dX3_readOrders_26 : decode cX3_readOrders 26 = .ok (.getfield 32, 3) := by decide +kernel
theorem dX3_readOrders_29 : decode cX3_readOrders 29 = .ok (.ireturn, 1) := by decide +kernel
theorem dX3_readOrders_30 : decode cX3_readOrders 30 = .ok (.aload_n 0, 1) := by decide +kernel
theorem dX3_readOrders_31 : decode cX3_readOrders 31 = .ok (.getfield 32, 3) := by decide +kernel
theorem dX3_readOrders_34 : decode cX3_readOrders 34 = .ok (.aload_n 0, 1) := by decide +kernel
theorem dX3_readOrders_35 : decode cX3_readOrders 35 = .ok (.getfield 15, 3) := by decide +kernel
theorem dX3_readOrders_38 : decode cX3_readOrders 38 = .ok (.if_icmp .lt 6, 3) := by decide +kernel
theorem dX3_readOrders_41 : decode cX3_readOrders 41 = .ok (.bipush (-6), 2) := by decide +kernel
theorem dX3_readOrders_43 : decode cX3_readOrders 43 = .ok (.ireturn, 1) := by decide +kernel
theorem dX3_readOrders_44 : decode cX3_readOrders 44 = .ok (.aload_n 0, 1) := by decide +kernel
theorem dX3_readOrders_45 : decode cX3_readOrders 45 = .ok (.bipush 59, 2) := by decide +kernel
theorem dX3_readOrders_47 : decode cX3_readOrders 47 = .ok (.invokevirtual 45, 3) := by decide +kernel
theorem dX3_readOrders_50 : decode cX3_readOrders 50 = .ok (.ifCond .ne 8, 3) := by decide +kernel
theorem dX3_readOrders_53 : decode cX3_readOrders 53 = .ok (.aload_n 0, 1) := by decide +kernel
theorem dX3_readOrders_54 : decode cX3_readOrders 54 = .ok (.getfield 32, 3) := by decide +kernel
theorem dX3_readOrders_57 : decode cX3_readOrders 57 = .ok (.ireturn, 1) := by decide +kernel
theorem dX3_readOrders_58 : decode cX3_readOrders 58 = .ok (.iinc 1 1, 3) := by decide +kernel
theorem dX3_readOrders_61 : decode cX3_readOrders 61 = .ok (.goto (-49), 3) := by decide +kernel
theorem dX3_readOrders_64 : decode cX3_readOrders 64 = .ok (.aload_n 0, 1) := by decide +kernel
theorem dX3_readOrders_65 : decode cX3_readOrders 65 = .ok (.getfield 32, 3) := by decide +kernel
theorem dX3_readOrders_68 : decode cX3_readOrders 68 = .ok (.ireturn, 1) := by decide +kernel
set_option maxRecDepth 20000 in
theorem ggX3_readOrder_X3_signHere : GoodIn wsX3_readOrder wsX3_signHere := goodIn_r _ [10, 1, 11, 12, 32, 33, 34, 35, 36, 37, 38] (by decide +kernel) (by decide +kernel)
set_option maxRecDepth 20000 in
theorem gX3_readOrder_X3_signHere : GoodIn wsX3_readOrder (wsV RX3 49 RX3 yX3_signHere wsX3_signHere) := goodIn_app (goodIn_of _ (by decide +kernel)) ggX3_readOrder_X3_signHere
set_option maxRecDepth 20000 in
theorem ggX3_readOrder_X3_readNumber : GoodIn wsX3_readOrder wsX3_readNumber := goodIn_r _ [16, 17, 18, 19, 9, 20, 1, 6, 7, 8, 10, 11, 12, 32, 33, 34, 35, 36, 37, 38] (by decide +kernel) (by decide +kernel)
set_option maxRecDepth 20000 in
theorem gX3_readOrder_X3_readNumber : GoodIn wsX3_readOrder (wsV RX3 53 RX3 yX3_readNumber wsX3_readNumber) := goodIn_app (goodIn_of _ (by decide +kernel)) ggX3_readOrder_X3_readNumber
set_option maxRecDepth 20000 in
theorem ggX3_readOrder_X3_readSign : GoodIn wsX3_readOrder wsX3_readSign := goodIn_r _ [24, 1, 6, 7, 8, 9, 10, 11, 12, 32, 33, 34, 35, 36, 37, 38] (by decide +kernel) (by decide +kernel)
set_option maxRecDepth 20000 in
theorem gX3_readOrder_X3_readSign : GoodIn wsX3_readOrder (wsV RX3 45 RX3 yX3_readSign wsX3_readSign) := goodIn_app (goodIn_of _ (by decide +kernel)) ggX3_readOrder_X3_readSign
set_option maxRecDepth 20000 in
theorem ggX3_readOrder_X3_readSide : GoodIn wsX3_readOrder wsX3_readSide := goodIn_r _ [28, 1, 6, 7, 8, 9, 10, 11, 12, 29, 30, 31, 32, 33, 34, 35, 36, 37, 38] (by decide +kernel) (by decide +kernel)
set_option maxRecDepth 20000 in
theorem gX3_readOrder_X3_readSide : GoodIn wsX3_readOrder (wsV RX3 57 RX3 yX3_readSide wsX3_readSide) := goodIn_app (goodIn_of _ (by decide +kernel)) ggX3_readOrder_X3_readSide
theorem dX3_readOrder_0 : decode cX3_readOrder 0 = .ok (.aload_n 0, 1) := by decide +kernel
theorem dX3_readOrder_1 : decode cX3_readOrder 1 = .ok (.invokevirtual 49, 3) := by decide +kernel
theorem dX3_readOrder_4 : decode cX3_readOrder 4 = .ok (.istore_n 1, 1) := by decide +kernel
theorem dX3_readOrder_5 : decode cX3_readOrder 5 = .ok (.iload_n 1, 1) := by decide +kernel
theorem dX3_readOrder_6 : decode cX3_readOrder 6 = .ok (.bipush 115, 2) := by decide +kernel
theorem dX3_readOrder_8 : decode cX3_readOrder 8 = .ok (.if_icmp .eq 23, 3) := by decide +kernel
theorem dX3_readOrder_11 : decode cX3_readOrder 11 = .ok (.iload_n 1, 1) := by decide +kernel
theorem dX3_readOrder_12 : decode cX3_readOrder 12 = .ok (.bipush 98, 2) := by decide +kernel
theorem dX3_readOrder_14 : decode cX3_readOrder 14 = .ok (.if_icmp .eq 17, 3) := by decide +kernel
theorem dX3_readOrder_17 : decode cX3_readOrder 17 = .ok (.iload_n 1, 1) := by decide +kernel
theorem dX3_readOrder_18 : decode cX3_readOrder 18 = .ok (.bipush 109, 2) := by decide +kernel
theorem dX3_readOrder_20 : decode cX3_readOrder 20 = .ok (.if_icmp .eq 11, 3) := by decide +kernel
theorem dX3_readOrder_23 : decode cX3_readOrder 23 = .ok (.iload_n 1, 1) := by decide +kernel
theorem dX3_readOrder_24 : decode cX3_readOrder 24 = .ok (.bipush 116, 2) := by decide +kernel
theorem dX3_readOrder_26 : decode cX3_readOrder 26 = .ok (.if_icmp .eq 5, 3) := by decide +kernel
theorem dX3_readOrder_29 : decode cX3_readOrder 29 = .ok (.iconst 0, 1) := by decide +kernel
theorem dX3_readOrder_30 : decode cX3_readOrder 30 = .ok (.ireturn, 1) := by decide +kernel
theorem dX3_readOrder_31 : decode cX3_readOrder 31 = .ok (.aload_n 0, 1) := by decide +kernel
theorem dX3_readOrder_32 : decode cX3_readOrder 32 = .ok (.dup, 1) := by decide +kernel
theorem dX3_readOrder_33 : decode cX3_readOrder 33 = .ok (.getfield 32, 3) := by decide +kernel
theorem dX3_readOrder_36 : decode cX3_readOrder 36 = .ok (.iconst 1, 1) := by decide +kernel
theorem dX3_readOrder_37 : decode cX3_readOrder 37 = .ok (.iadd, 1) := by decide +kernel
theorem dX3_readOrder_38 : decode cX3_readOrder 38 = .ok (.putfield 32, 3) := by decide +kernel
theorem dX3_readOrder_41 : decode cX3_readOrder 41 = .ok (.aload_n 0, 1) := by decide +kernel
theorem dX3_readOrder_42 : decode cX3_readOrder 42 = .ok (.invokevirtual 53, 3) := by decide +kernel
theorem dX3_readOrder_45 : decode cX3_readOrder 45 = .ok (.istore_n 2, 1) := by decide +kernel
theorem dX3_readOrder_46 : decode cX3_readOrder 46 = .ok (.iload_n 2, 1) := by decide +kernel
theorem dX3_readOrder_47 : decode cX3_readOrder 47 = .ok (.iconst (-1), 1) := by decide +kernel
theorem dX3_readOrder_48 : decode cX3_readOrder 48 = .ok (.if_icmp .ne 5, 3) := by decide +kernel
theorem dX3_readOrder_51 : decode cX3_readOrder 51 = .ok (.iconst 0, 1) := by decide +kernel
theorem dX3_readOrder_52 : decode cX3_readOrder 52 = .ok (.ireturn, 1) := by decide +kernel
theorem dX3_readOrder_53 : decode cX3_readOrder 53 = .ok (.iconst 0, 1) := by decide +kernel
theorem dX3_readOrder_54 : decode cX3_readOrder 54 = .ok (.istore_n 3, 1) := by decide +kernel
theorem dX3_readOrder_55 : decode cX3_readOrder 55 = .ok (.iload_n 1, 1) := by decide +kernel
theorem dX3_readOrder_56 : decode cX3_readOrder 56 = .ok (.bipush 115, 2) := by decide +kernel
theorem dX3_readOrder_58 : decode cX3_readOrder 58 = .ok (.if_icmp .ne 24, 3) := by decide +kernel
theorem dX3_readOrder_61 : decode cX3_readOrder 61 = .ok (.aload_n 0, 1) := by decide +kernel
theorem dX3_readOrder_62 : decode cX3_readOrder 62 = .ok (.bipush 62, 2) := by decide +kernel
theorem dX3_readOrder_64 : decode cX3_readOrder 64 = .ok (.invokevirtual 45, 3) := by decide +kernel
theorem dX3_readOrder_67 : decode cX3_readOrder 67 = .ok (.ifCond .eq 10, 3) := by decide +kernel
theorem dX3_readOrder_70 : decode cX3_readOrder 70 = .ok (.aload_n 0, 1) := by decide +kernel
theorem dX3_readOrder_71 : decode cX3_readOrder 71 = .ok (.invokevirtual 53, 3) := by decide +kernel
theorem dX3_readOrder_74 : decode cX3_readOrder 74 = .ok (.goto 4, 3) := by decide +kernel
theorem dX3_readOrder_77 : decode cX3_readOrder 77 = .ok (.iconst (-1), 1) := by decide +kernel
theorem dX3_readOrder_78 : decode cX3_readOrder 78 = .ok (.istore_n 3, 1) := by decide +kernel
theorem dX3_readOrder_79 : decode cX3_readOrder 79 = .ok (.goto 14, 3) := by decide +kernel
theorem dX3_readOrder_82 : decode cX3_readOrder 82 = .ok (.iload_n 1, 1) := by decide +kernel
theorem dX3_readOrder_83 : decode cX3_readOrder 83 = .ok (.bipush 116, 2) := by decide +kernel
theorem dX3_readOrder_85 : decode cX3_readOrder 85 = .ok (.if_icmp .eq 8, 3) := by decide +kernel
theorem dX3_readOrder_88 : decode cX3_readOrder 88 = .ok (.aload_n 0, 1) := by decide +kernel
theorem dX3_readOrder_89 : decode cX3_readOrder 89 = .ok (.invokevirtual 57, 3) := by decide +kernel
theorem dX3_readOrder_92 : decode cX3_readOrder 92 = .ok (.istore_n 3, 1) := by decide +kernel
theorem dX3_readOrder_93 : decode cX3_readOrder 93 = .ok (.iload_n 3, 1) := by decide +kernel
theorem dX3_readOrder_94 : decode cX3_readOrder 94 = .ok (.ifCond .lt 12, 3) := by decide +kernel
theorem dX3_readOrder_97 : decode cX3_readOrder 97 = .ok (.aload_n 0, 1) := by decide +kernel
theorem dX3_readOrder_98 : decode cX3_readOrder 98 = .ok (.getfield 19, 3) := by decide +kernel
theorem dX3_readOrder_101 : decode cX3_readOrder 101 = .ok (.bipush 27, 2) := by decide +kernel
theorem dX3_readOrder_103 : decode cX3_readOrder 103 = .ok (.if_icmp .lt 5, 3) := by decide +kernel
theorem dX3_readOrder_106 : decode cX3_readOrder 106 = .ok (.iconst 0, 1) := by decide +kernel
theorem dX3_readOrder_107 : decode cX3_readOrder 107 = .ok (.ireturn, 1) := by decide +kernel
theorem dX3_readOrder_108 : decode cX3_readOrder 108 = .ok (.aload_n 0, 1) := by decide +kernel
theorem dX3_readOrder_109 : decode cX3_readOrder 109 = .ok (.getfield 22, 3) := by decide +kernel
theorem dX3_readOrder_112 : decode cX3_readOrder 112 = .ok (.aload_n 0, 1) := by decide +kernel
theorem dX3_readOrder_113 : decode cX3_readOrder 113 = .ok (.getfield 19, 3) := by decide +kernel
theorem dX3_readOrder_116 : decode cX3_readOrder 116 = .ok (.iload_n 1, 1) := by decide +kernel
theorem dX3_readOrder_117 : decode cX3_readOrder 117 = .ok (.iastore, 1) := by decide +kernel
theorem dX3_readOrder_118 : decode cX3_readOrder 118 = .ok (.aload_n 0, 1) := by decide +kernel
theorem dX3_readOrder_119 : decode cX3_readOrder 119 = .ok (.getfield 26, 3) := by decide +kernel
theorem dX3_readOrder_122 : decode cX3_readOrder 122 = .ok (.aload_n 0, 1) := by decide +kernel
theorem dX3_readOrder_123 : decode cX3_readOrder 123 = .ok (.getfield 19, 3) := by decide +kernel
theorem dX3_readOrder_126 : decode cX3_readOrder 126 = .ok (.iload_n 2, 1) := by decide +kernel
theorem dX3_readOrder_127 : decode cX3_readOrder 127 = .ok (.iastore, 1) := by decide +kernel
theorem dX3_readOrder_128 : decode cX3_readOrder 128 = .ok (.aload_n 0, 1) := by decide +kernel
theorem dX3_readOrder_129 : decode cX3_readOrder 129 = .ok (.getfield 29, 3) := by decide +kernel
theorem dX3_readOrder_132 : decode cX3_readOrder 132 = .ok (.aload_n 0, 1) := by decide +kernel
theorem dX3_readOrder_133 : decode cX3_readOrder 133 = .ok (.getfield 19, 3) := by decide +kernel
theorem dX3_readOrder_136 : decode cX3_readOrder 136 = .ok (.iload_n 3, 1) := by decide +kernel
theorem dX3_readOrder_137 : decode cX3_readOrder 137 = .ok (.iastore, 1) := by decide +kernel
theorem dX3_readOrder_138 : decode cX3_readOrder 138 = .ok (.aload_n 0, 1) := by decide +kernel
theorem dX3_readOrder_139 : decode cX3_readOrder 139 = .ok (.dup, 1) := by decide +kernel
theorem dX3_readOrder_140 : decode cX3_readOrder 140 = .ok (.getfield 19, 3) := by decide +kernel
theorem dX3_readOrder_143 : decode cX3_readOrder 143 = .ok (.iconst 1, 1) := by decide +kernel
theorem dX3_readOrder_144 : decode cX3_readOrder 144 = .ok (.iadd, 1) := by decide +kernel
theorem dX3_readOrder_145 : decode cX3_readOrder 145 = .ok (.putfield 19, 3) := by decide +kernel
theorem dX3_readOrder_148 : decode cX3_readOrder 148 = .ok (.iconst 1, 1) := by decide +kernel
theorem dX3_readOrder_149 : decode cX3_readOrder 149 = .ok (.ireturn, 1) := by decide +kernel
theorem dX3_signHere_0 : decode cX3_signHere 0 = .ok (.aload_n 0, 1) := by decide +kernel
theorem dX3_signHere_1 : decode cX3_signHere 1 = .ok (.getfield 32, 3) := by decide +kernel
theorem dX3_signHere_4 : decode cX3_signHere 4 = .ok (.ifCond .lt 35, 3) := by decide +kernel
theorem dX3_signHere_7 : decode cX3_signHere 7 = .ok (.aload_n 0, 1) := by decide +kernel
theorem dX3_signHere_8 : decode cX3_signHere 8 = .ok (.getfield 32, 3) := by decide +kernel
theorem dX3_signHere_11 : decode cX3_signHere 11 = .ok (.aload_n 0, 1) := by decide +kernel
theorem dX3_signHere_12 : decode cX3_signHere 12 = .ok (.getfield 15, 3) := by decide +kernel
theorem dX3_signHere_15 : decode cX3_signHere 15 = .ok (.if_icmp .ge 24, 3) := by decide +kernel
theorem dX3_signHere_18 : decode cX3_signHere 18 = .ok (.aload_n 0, 1) := by decide +kernel
theorem dX3_signHere_19 : decode cX3_signHere 19 = .ok (.getfield 32, 3) := by decide +kernel
theorem dX3_signHere_22 : decode cX3_signHere 22 = .ok (.bipush 80, 2) := by decide +kernel
theorem dX3_signHere_24 : decode cX3_signHere 24 = .ok (.if_icmp .ge 15, 3) := by decide +kernel
theorem dX3_signHere_27 : decode cX3_signHere 27 = .ok (.aload_n 0, 1) := by decide +kernel
theorem dX3_signHere_28 : decode cX3_signHere 28 = .ok (.getfield 11, 3) := by decide +kernel
theorem dX3_signHere_31 : decode cX3_signHere 31 = .ok (.aload_n 0, 1) := by decide +kernel
theorem dX3_signHere_32 : decode cX3_signHere 32 = .ok (.getfield 32, 3) := by decide +kernel
theorem dX3_signHere_35 : decode cX3_signHere 35 = .ok (.caload, 1) := by decide +kernel
theorem dX3_signHere_36 : decode cX3_signHere 36 = .ok (.goto 4, 3) := by decide +kernel
theorem dX3_signHere_39 : decode cX3_signHere 39 = .ok (.iconst 0, 1) := by decide +kernel
theorem dX3_signHere_40 : decode cX3_signHere 40 = .ok (.ireturn, 1) := by decide +kernel
set_option maxRecDepth 20000 in
theorem ggX3_readSign_X3_signHere : GoodIn wsX3_readSign wsX3_signHere := goodIn_r _ [6, 1, 7, 8, 9, 10, 11, 12, 13, 14, 15] (by decide +kernel) (by decide +kernel)
set_option maxRecDepth 20000 in
theorem gX3_readSign_X3_signHere : GoodIn wsX3_readSign (wsV RX3 49 RX3 yX3_signHere wsX3_signHere) := goodIn_app (goodIn_of _ (by decide +kernel)) ggX3_readSign_X3_signHere
theorem dX3_readSign_0 : decode cX3_readSign 0 = .ok (.aload_n 0, 1) := by decide +kernel
theorem dX3_readSign_1 : decode cX3_readSign 1 = .ok (.invokevirtual 49, 3) := by decide +kernel
theorem dX3_readSign_4 : decode cX3_readSign 4 = .ok (.iload_n 1, 1) := by decide +kernel
theorem dX3_readSign_5 : decode cX3_readSign 5 = .ok (.if_icmp .eq 5, 3) := by decide +kernel
theorem dX3_readSign_8 : decode cX3_readSign 8 = .ok (.iconst 0, 1) := by decide +kernel
theorem dX3_readSign_9 : decode cX3_readSign 9 = .ok (.ireturn, 1) := by decide +kernel
theorem dX3_readSign_10 : decode cX3_readSign 10 = .ok (.aload_n 0, 1) := by decide +kernel
theorem dX3_readSign_11 : decode cX3_readSign 11 = .ok (.dup, 1) := by decide +kernel
theorem dX3_readSign_12 : decode cX3_readSign 12 = .ok (.getfield 32, 3) := by decide +kernel
theorem dX3_readSign_15 : decode cX3_readSign 15 = .ok (.iconst 1, 1) := by decide +kernel
theorem dX3_readSign_16 : decode cX3_readSign 16 = .ok (.iadd, 1) := by decide +kernel
theorem dX3_readSign_17 : decode cX3_readSign 17 = .ok (.putfield 32, 3) := by decide +kernel
theorem dX3_readSign_20 : decode cX3_readSign 20 = .ok (.iconst 1, 1) := by decide +kernel
theorem dX3_readSign_21 : decode cX3_readSign 21 = .ok (.ireturn, 1) := by decide +kernel
set_option maxRecDepth 20000 in
theorem ggX3_readNumber_X3_readDigit : GoodIn wsX3_readNumber wsX3_readDigit := goodIn_r _ [5, 6, 7, 8, 9, 4, 10, 11, 12, 13, 14, 15, 16, 17, 18, 19] (by decide +kernel) (by decide +kernel)
set_option maxRecDepth 20000 in
theorem gX3_readNumber_X3_readDigit : GoodIn wsX3_readNumber (wsV RX3 60 RX3 yX3_readDigit wsX3_readDigit) := goodIn_app (goodIn_of _ (by decide +kernel)) ggX3_readNumber_X3_readDigit
theorem dX3_readNumber_0 : decode cX3_readNumber 0 = .ok (.aload_n 0, 1) := by decide +kernel
theorem dX3_readNumber_1 : decode cX3_readNumber 1 = .ok (.invokevirtual 60, 3) := by decide +kernel
theorem dX3_readNumber_4 : decode cX3_readNumber 4 = .ok (.istore_n 1, 1) := by decide +kernel
theorem dX3_readNumber_5 : decode cX3_readNumber 5 = .ok (.iload_n 1, 1) := by decide +kernel
theorem dX3_readNumber_6 : decode cX3_readNumber 6 = .ok (.ifCond .gt 5, 3) := by decide +kernel
theorem dX3_readNumber_9 : decode cX3_readNumber 9 = .ok (.iload_n 1, 1) := by decide +kernel
theorem dX3_readNumber_10 : decode cX3_readNumber 10 = .ok (.ireturn, 1) := by decide +kernel
theorem dX3_readNumber_11 : decode cX3_readNumber 11 = .ok (.aload_n 0, 1) := by decide +kernel
theorem dX3_readNumber_12 : decode cX3_readNumber 12 = .ok (.invokevirtual 60, 3) := by decide +kernel
theorem dX3_readNumber_15 : decode cX3_readNumber 15 = .ok (.istore_n 2, 1) := by decide +kernel
theorem dX3_readNumber_16 : decode cX3_readNumber 16 = .ok (.iload_n 2, 1) := by decide +kernel
theorem dX3_readNumber_17 : decode cX3_readNumber 17 = .ok (.iconst (-1), 1) := by decide +kernel
theorem dX3_readNumber_18 : decode cX3_readNumber 18 = .ok (.if_icmp .ne 7, 3) := by decide +kernel
theorem dX3_readNumber_21 : decode cX3_readNumber 21 = .ok (.iload_n 1, 1) := by decide +kernel
theorem dX3_readNumber_22 : decode cX3_readNumber 22 = .ok (.goto 9, 3) := by decide +kernel
theorem dX3_readNumber_25 : decode cX3_readNumber 25 = .ok (.bipush 10, 2) := by decide +kernel
theorem dX3_readNumber_27 : decode cX3_readNumber 27 = .ok (.iload_n 1, 1) := by decide +kernel
theorem dX3_readNumber_28 : decode cX3_readNumber 28 = .ok (.imul, 1) := by decide +kernel
theorem dX3_readNumber_29 : decode cX3_readNumber 29 = .ok (.iload_n 2, 1) := by decide +kernel
theorem dX3_readNumber_30 : decode cX3_readNumber 30 = .ok (.iadd, 1) := by decide +kernel
theorem dX3_readNumber_31 : decode cX3_readNumber 31 = .ok (.ireturn, 1) := by decide +kernel
set_option maxRecDepth 20000 in
theorem ggX3_readDigit_X3_signHere : GoodIn wsX3_readDigit wsX3_signHere := goodIn_r _ [6, 1, 7, 8, 9, 10, 11, 12, 13, 14, 15] (by decide +kernel) (by decide +kernel)
set_option maxRecDepth 20000 in
theorem gX3_readDigit_X3_signHere : GoodIn wsX3_readDigit (wsV RX3 49 RX3 yX3_signHere wsX3_signHere) := goodIn_app (goodIn_of _ (by decide +kernel)) ggX3_readDigit_X3_signHere
theorem dX3_readDigit_0 : decode cX3_readDigit 0 = .ok (.aload_n 0, 1) := by decide +kernel
theorem dX3_readDigit_1 : decode cX3_readDigit 1 = .ok (.invokevirtual 49, 3) := by decide +kernel
theorem dX3_readDigit_4 : decode cX3_readDigit 4 = .ok (.istore_n 1, 1) := by decide +kernel
theorem dX3_readDigit_5 : decode cX3_readDigit 5 = .ok (.iload_n 1, 1) := by decide +kernel
theorem dX3_readDigit_6 : decode cX3_readDigit 6 = .ok (.bipush 48, 2) := by decide +kernel
theorem dX3_readDigit_8 : decode cX3_readDigit 8 = .ok (.if_icmp .lt 9, 3) := by decide +kernel
theorem dX3_readDigit_11 : decode cX3_readDigit 11 = .ok (.iload_n 1, 1) := by decide +kernel
theorem dX3_readDigit_12 : decode cX3_readDigit 12 = .ok (.bipush 57, 2) := by decide +kernel
theorem dX3_readDigit_14 : decode cX3_readDigit 14 = .ok (.if_icmp .le 5, 3) := by decide +kernel
theorem dX3_readDigit_17 : decode cX3_readDigit 17 = .ok (.iconst (-1), 1) := by decide +kernel
theorem dX3_readDigit_18 : decode cX3_readDigit 18 = .ok (.ireturn, 1) := by decide +kernel
theorem dX3_readDigit_19 : decode cX3_readDigit 19 = .ok (.aload_n 0, 1) := by decide +kernel
theorem dX3_readDigit_20 : decode cX3_readDigit 20 = .ok (.dup, 1) := by decide +kernel
theorem dX3_readDigit_21 : decode cX3_readDigit 21 = .ok (.getfield 32, 3) := by decide +kernel
theorem dX3_readDigit_24 : decode cX3_readDigit 24 = .ok (.iconst 1, 1) := by decide +kernel
theorem dX3_readDigit_25 : decode cX3_readDigit 25 = .ok (.iadd, 1) := by decide +kernel
theorem dX3_readDigit_26 : decode cX3_readDigit 26 = .ok (.putfield 32, 3) := by decide +kernel
theorem dX3_readDigit_29 : decode cX3_readDigit 29 = .ok (.iload_n 1, 1) := by decide +kernel
theorem dX3_readDigit_30 : decode cX3_readDigit 30 = .ok (.bipush 48, 2) := by decide +kernel
theorem dX3_readDigit_32 : decode cX3_readDigit 32 = .ok (.isub, 1) := by decide +kernel
theorem dX3_readDigit_33 : decode cX3_readDigit 33 = .ok (.ireturn, 1) := by decide +kernel
set_option maxRecDepth 20000 in
theorem ggX3_readSide_X3_signHere : GoodIn wsX3_readSide wsX3_signHere := goodIn_r _ [6, 1, 7, 8, 12, 13, 14, 15, 16, 17, 18] (by decide +kernel) (by decide +kernel)
set_option maxRecDepth 20000 in
theorem gX3_readSide_X3_signHere : GoodIn wsX3_readSide (wsV RX3 49 RX3 yX3_signHere wsX3_signHere) := goodIn_app (goodIn_of _ (by decide +kernel)) ggX3_readSide_X3_signHere
set_option maxRecDepth 20000 in
theorem ggX3_readSide_X3_sideOfSign : GoodIn wsX3_readSide wsX3_sideOfSign := goodIn_r _ [11] (by decide +kernel) (by decide +kernel)
set_option maxRecDepth 20000 in
theorem gX3_readSide_X3_sideOfSign : GoodIn wsX3_readSide (va_wsS RX3 63 yX3_sideOfSign wsX3_sideOfSign) := goodIn_app (goodIn_of _ (by decide +kernel)) ggX3_readSide_X3_sideOfSign
theorem dX3_readSide_0 : decode cX3_readSide 0 = .ok (.aload_n 0, 1) := by decide +kernel
theorem dX3_readSide_1 : decode cX3_readSide 1 = .ok (.invokevirtual 49, 3) := by decide +kernel
theorem dX3_readSide_4 : decode cX3_readSide 4 = .ok (.istore_n 1, 1) := by decide +kernel
theorem dX3_readSide_5 : decode cX3_readSide 5 = .ok (.iload_n 1, 1) := by decide +kernel
theorem dX3_readSide_6 : decode cX3_readSide 6 = .ok (.invokestatic 63, 3) := by decide +kernel
theorem dX3_readSide_9 : decode cX3_readSide 9 = .ok (.istore_n 2, 1) := by decide +kernel
theorem dX3_readSide_10 : decode cX3_readSide 10 = .ok (.iload_n 2, 1) := by decide +kernel
theorem dX3_readSide_11 : decode cX3_readSide 11 = .ok (.iconst (-1), 1) := by decide +kernel
theorem dX3_readSide_12 : decode cX3_readSide 12 = .ok (.if_icmp .eq 13, 3) := by decide +kernel
theorem dX3_readSide_15 : decode cX3_readSide 15 = .ok (.aload_n 0, 1) := by decide +kernel
theorem dX3_readSide_16 : decode cX3_readSide 16 = .ok (.dup, 1) := by decide +kernel
theorem dX3_readSide_17 : decode cX3_readSide 17 = .ok (.getfield 32, 3) := by decide +kernel
theorem dX3_readSide_20 : decode cX3_readSide 20 = .ok (.iconst 1, 1) := by decide +kernel
theorem dX3_readSide_21 : decode cX3_readSide 21 = .ok (.iadd, 1) := by decide +kernel
theorem dX3_readSide_22 : decode cX3_readSide 22 = .ok (.putfield 32, 3) := by decide +kernel
theorem dX3_readSide_25 : decode cX3_readSide 25 = .ok (.iload_n 2, 1) := by decide +kernel
theorem dX3_readSide_26 : decode cX3_readSide 26 = .ok (.ireturn, 1) := by decide +kernel
theorem dX3_sideOfSign_0 : decode cX3_sideOfSign 0 = .ok (.iload_n 0, 1) := by decide +kernel
theorem dX3_sideOfSign_1 : decode cX3_sideOfSign 1 = .ok (.lookupswitch 51 #[(101, 43), (110, 47), (115, 49), (119, 45)], 43) := by decide +kernel
theorem dX3_sideOfSign_44 : decode cX3_sideOfSign 44 = .ok (.iconst 0, 1) := by decide +kernel
theorem dX3_sideOfSign_45 : decode cX3_sideOfSign 45 = .ok (.ireturn, 1) := by decide +kernel
theorem dX3_sideOfSign_46 : decode cX3_sideOfSign 46 = .ok (.iconst 1, 1) := by decide +kernel
theorem dX3_sideOfSign_47 : decode cX3_sideOfSign 47 = .ok (.ireturn, 1) := by decide +kernel
theorem dX3_sideOfSign_48 : decode cX3_sideOfSign 48 = .ok (.iconst 2, 1) := by decide +kernel
theorem dX3_sideOfSign_49 : decode cX3_sideOfSign 49 = .ok (.ireturn, 1) := by decide +kernel
theorem dX3_sideOfSign_50 : decode cX3_sideOfSign 50 = .ok (.iconst 3, 1) := by decide +kernel
theorem dX3_sideOfSign_51 : decode cX3_sideOfSign 51 = .ok (.ireturn, 1) := by decide +kernel
theorem dX3_sideOfSign_52 : decode cX3_sideOfSign 52 = .ok (.iconst (-1), 1) := by decide +kernel
theorem dX3_sideOfSign_53 : decode cX3_sideOfSign 53 = .ok (.ireturn, 1) := by decide +kernel
theorem dX4_init_0 : decode cX4_init 0 = .ok (.aload_n 0, 1) := by decide +kernel
theorem dX4_init_1 : decode cX4_init 1 = .ok (.invokespecial 3, 3) := by decide +kernel
theorem dX4_init_4 : decode cX4_init 4 = .ok (.aload_n 0, 1) := by decide +kernel
theorem dX4_init_5 : decode cX4_init 5 = .ok (.iconst 0, 1) := by decide +kernel
theorem dX4_init_6 : decode cX4_init 6 = .ok (.putfield 9, 3) := by decide +kernel
theorem dX4_init_9 : decode cX4_init 9 = .ok (.aload_n 0, 1) := by decide +kernel
theorem dX4_init_10 : decode cX4_init 10 = .ok (.bipush 100, 2) := by decide +kernel
theorem dX4_init_12 : decode cX4_init 12 = .ok (.newarray .int, 2) := by decide +kernel
theorem dX4_init_14 : decode cX4_init 14 = .ok (.putfield 15, 3) := by decide +kernel
theorem dX4_init_17 : decode cX4_init 17 = .ok (.aload_n 0, 1) := by decide +kernel
theorem dX4_init_18 : decode cX4_init 18 = .ok (.sipush 1250, 3) := by decide +kernel
theorem dX4_init_21 : decode cX4_init 21 = .ok (.newarray .int, 2) := by decide +kernel
theorem dX4_init_23 : decode cX4_init 23 = .ok (.putfield 19, 3) := by decide +kernel
theorem dX4_init_26 : decode cX4_init 26 = .ok (.aload_n 0, 1) := by decide +kernel
theorem dX4_init_27 : decode cX4_init 27 = .ok (.bipush 50, 2) := by decide +kernel
theorem dX4_init_29 : decode cX4_init 29 = .ok (.newarray .int, 2) := by decide +kernel
theorem dX4_init_31 : decode cX4_init 31 = .ok (.putfield 22, 3) := by decide +kernel
theorem dX4_init_34 : decode cX4_init 34 = .ok (.aload_n 0, 1) := by decide +kernel
theorem dX4_init_35 : decode cX4_init 35 = .ok (.bipush 50, 2) := by decide +kernel
theorem dX4_init_37 : decode cX4_init 37 = .ok (.newarray .int, 2) := by decide +kernel
theorem dX4_init_39 : decode cX4_init 39 = .ok (.putfield 25, 3) := by decide +kernel
theorem dX4_init_42 : decode cX4_init 42 = .ok (.aload_n 0, 1) := by decide +kernel
theorem dX4_init_43 : decode cX4_init 43 = .ok (.iconst 0, 1) := by decide +kernel
theorem dX4_init_44 : decode cX4_init 44 = .ok (.putfield 28, 3) := by decide +kernel
theorem dX4_init_47 : decode cX4_init 47 = .ok (.return_, 1) := by decide +kernel
set_option maxRecDepth 20000 in
theorem ggX4_learn_X0_boxes : GoodIn wsX4_learn wsX0_boxes := goodIn_r _ [7, 8, 9, 65, 66, 67] (by decide +kernel) (by decide +kernel)
set_option maxRecDepth 20000 in
theorem gX4_learn_X0_boxes : GoodIn wsX4_learn (wsV RX4 32 RX0 yX0_boxes wsX0_boxes) := goodIn_app (goodIn_of _ (by decide +kernel)) ggX4_learn_X0_boxes
set_option maxRecDepth 20000 in
theorem ggX4_learn_X0_linkAt : GoodIn wsX4_learn wsX0_linkAt := goodIn_r _ [13, 14, 15, 16, 17, 18, 19, 20, 6, 21, 8, 9, 65, 66, 67] (by decide +kernel) (by decide +kernel)
set_option maxRecDepth 20000 in
theorem gX4_learn_X0_linkAt : GoodIn wsX4_learn (wsV RX4 38 RX0 yX0_linkAt wsX0_linkAt) := goodIn_app (goodIn_of _ (by decide +kernel)) ggX4_learn_X0_linkAt
set_option maxRecDepth 20000 in
theorem ggX4_learn_X0_isWhole : GoodIn wsX4_learn wsX0_isWhole := goodIn_r _ [25, 26, 65, 66, 67] (by decide +kernel) (by decide +kernel)
set_option maxRecDepth 20000 in
theorem gX4_learn_X0_isWhole : GoodIn wsX4_learn (wsV RX4 42 RX0 yX0_isWhole wsX0_isWhole) := goodIn_app (goodIn_of _ (by decide +kernel)) ggX4_learn_X0_isWhole
set_option maxRecDepth 20000 in
theorem ggX4_learn_X0_beside : GoodIn wsX4_learn wsX0_beside := goodIn_r _ [21, 8, 9, 65, 66, 67] (by decide +kernel) (by decide +kernel)
set_option maxRecDepth 20000 in
theorem gX4_learn_X0_beside : GoodIn wsX4_learn (wsV RX4 46 RX0 yX0_beside wsX0_beside) := goodIn_app (goodIn_of _ (by decide +kernel)) ggX4_learn_X0_beside
set_option maxRecDepth 20000 in
theorem ggX4_learn_X4_search : GoodIn wsX4_learn wsX4_search := goodIn_r _ [32, 33, 34, 35, 36, 37, 38, 31, 39, 40, 41, 42, 43, 44, 45, 46, 47, 48, 49, 50, 51, 2, 52, 53, 54, 55, 1, 56, 57, 58, 59, 60, 61, 62, 63, 64] (by decide +kernel) (by decide +kernel)
set_option maxRecDepth 20000 in
theorem gX4_learn_X4_search : GoodIn wsX4_learn (wsV RX4 49 RX4 yX4_search wsX4_search) := goodIn_app (goodIn_of _ (by decide +kernel)) ggX4_learn_X4_search
theorem dX4_learn_0 : decode cX4_learn 0 = .ok (.aload_n 1, 1) := by decide +kernel
theorem dX4_learn_1 : decode cX4_learn 1 = .ok (.invokevirtual 32, 3) := by decide +kernel
theorem dX4_learn_4 : decode cX4_learn 4 = .ok (.istore_n 3, 1) := by decide +kernel
theorem dX4_learn_5 : decode cX4_learn 5 = .ok (.aload_n 0, 1) := by decide +kernel
theorem dX4_learn_6 : decode cX4_learn 6 = .ok (.iload_n 2, 1) := by decide +kernel
theorem dX4_learn_7 : decode cX4_learn 7 = .ok (.iconst 1, 1) := by decide +kernel
theorem dX4_learn_8 : decode cX4_learn 8 = .ok (.if_icmp .ne 7, 3) := by decide +kernel
theorem dX4_learn_11 : decode cX4_learn 11 = .ok (.iconst 1, 1) := by decide +kernel
theorem dX4_learn_12 : decode cX4_learn 12 = .ok (.goto 4, 3) := by decide +kernel
theorem dX4_learn_15 : decode cX4_learn 15 = .ok (.iconst 0, 1) := by decide +kernel
theorem dX4_learn_16 : decode cX4_learn 16 = .ok (.putfield 9, 3) := by decide +kernel
theorem dX4_learn_19 : decode cX4_learn 19 = .ok (.iconst 0, 1) := by decide +kernel
theorem dX4_learn_20 : decode cX4_learn 20 = .ok (.istore 4, 2) := by decide +kernel
theorem dX4_learn_22 : decode cX4_learn 22 = .ok (.iload 4, 2) := by decide +kernel
theorem dX4_learn_24 : decode cX4_learn 24 = .ok (.iload_n 3, 1) := by decide +kernel
theorem dX4_learn_25 : decode cX4_learn 25 = .ok (.if_icmp .ge 85, 3) := by decide +kernel
theorem dX4_learn_28 : decode cX4_learn 28 = .ok (.iconst 0, 1) := by decide +kernel
theorem dX4_learn_29 : decode cX4_learn 29 = .ok (.istore 5, 2) := by decide +kernel
theorem dX4_learn_31 : decode cX4_learn 31 = .ok (.iload 5, 2) := by decide +kernel
theorem dX4_learn_33 : decode cX4_learn 33 = .ok (.iconst 4, 1) := by decide +kernel
theorem dX4_learn_34 : decode cX4_learn 34 = .ok (.if_icmp .ge 70, 3) := by decide +kernel
theorem dX4_learn_37 : decode cX4_learn 37 = .ok (.aload_n 1, 1) := by decide +kernel
theorem dX4_learn_38 : decode cX4_learn 38 = .ok (.iload 4, 2) := by decide +kernel
theorem dX4_learn_40 : decode cX4_learn 40 = .ok (.iload 5, 2) := by decide +kernel
theorem dX4_learn_42 : decode cX4_learn 42 = .ok (.invokevirtual 38, 3) := by decide +kernel
theorem dX4_learn_45 : decode cX4_learn 45 = .ok (.istore 6, 2) := by decide +kernel
theorem dX4_learn_47 : decode cX4_learn 47 = .ok (.iload 6, 2) := by decide +kernel
theorem dX4_learn_49 : decode cX4_learn 49 = .ok (.iconst (-1), 1) := by decide +kernel
theorem dX4_learn_50 : decode cX4_learn 50 = .ok (.if_icmp .eq 16, 3) := by decide +kernel
theorem dX4_learn_53 : decode cX4_learn 53 = .ok (.aload_n 1, 1) := by decide +kernel
theorem dX4_learn_54 : decode cX4_learn 54 = .ok (.iload 6, 2) := by decide +kernel
theorem dX4_learn_56 : decode cX4_learn 56 = .ok (.invokevirtual 42, 3) := by decide +kernel
theorem dX4_learn_59 : decode cX4_learn 59 = .ok (.ifCond .eq 7, 3) := by decide +kernel
theorem dX4_learn_62 : decode cX4_learn 62 = .ok (.iconst 1, 1) := by decide +kernel
theorem dX4_learn_63 : decode cX4_learn 63 = .ok (.goto 4, 3) := by decide +kernel
theorem dX4_learn_66 : decode cX4_learn 66 = .ok (.iconst 0, 1) := by decide +kernel
theorem dX4_learn_67 : decode cX4_learn 67 = .ok (.istore 7, 2) := by decide +kernel
theorem dX4_learn_69 : decode cX4_learn 69 = .ok (.aload_n 0, 1) := by decide +kernel
theorem dX4_learn_70 : decode cX4_learn 70 = .ok (.getfield 15, 3) := by decide +kernel
theorem dX4_learn_73 : decode cX4_learn 73 = .ok (.iload 4, 2) := by decide +kernel
theorem dX4_learn_75 : decode cX4_learn 75 = .ok (.iconst 4, 1) := by decide +kernel
theorem dX4_learn_76 : decode cX4_learn 76 = .ok (.imul, 1) := by decide +kernel
theorem dX4_learn_77 : decode cX4_learn 77 = .ok (.iload 5, 2) := by decide +kernel
theorem dX4_learn_79 : decode cX4_learn 79 = .ok (.iadd, 1) := by decide +kernel
theorem dX4_learn_80 : decode cX4_learn 80 = .ok (.iload 7, 2) := by decide +kernel
theorem dX4_learn_82 : decode cX4_learn 82 = .ok (.ifCond .eq 14, 3) := by decide +kernel
theorem dX4_learn_85 : decode cX4_learn 85 = .ok (.aload_n 1, 1) := by decide +kernel
theorem dX4_learn_86 : decode cX4_learn 86 = .ok (.iload 4, 2) := by decide +kernel
theorem dX4_learn_88 : decode cX4_learn 88 = .ok (.iload 5, 2) := by decide +kernel
theorem dX4_learn_90 : decode cX4_learn 90 = .ok (.invokevirtual 46, 3) := by decide +kernel
theorem dX4_learn_93 : decode cX4_learn 93 = .ok (.goto 4, 3) := by decide +kernel
theorem dX4_learn_96 : decode cX4_learn 96 = .ok (.iconst (-1), 1) := by decide +kernel
theorem dX4_learn_97 : decode cX4_learn 97 = .ok (.iastore, 1) := by decide +kernel
theorem dX4_learn_98 : decode cX4_learn 98 = .ok (.iinc 5 1, 3) := by decide +kernel
theorem dX4_learn_101 : decode cX4_learn 101 = .ok (.goto (-70), 3) := by decide +kernel
theorem dX4_learn_104 : decode cX4_learn 104 = .ok (.iinc 4 1, 3) := by decide +kernel
theorem dX4_learn_107 : decode cX4_learn 107 = .ok (.goto (-85), 3) := by decide +kernel
theorem dX4_learn_110 : decode cX4_learn 110 = .ok (.iconst 0, 1) := by decide +kernel
theorem dX4_learn_111 : decode cX4_learn 111 = .ok (.istore 4, 2) := by decide +kernel
theorem dX4_learn_113 : decode cX4_learn 113 = .ok (.iload 4, 2) := by decide +kernel
theorem dX4_learn_115 : decode cX4_learn 115 = .ok (.iload_n 3, 1) := by decide +kernel
theorem dX4_learn_116 : decode cX4_learn 116 = .ok (.if_icmp .ge 15, 3) := by decide +kernel
theorem dX4_learn_119 : decode cX4_learn 119 = .ok (.aload_n 0, 1) := by decide +kernel
theorem dX4_learn_120 : decode cX4_learn 120 = .ok (.iload 4, 2) := by decide +kernel
theorem dX4_learn_122 : decode cX4_learn 122 = .ok (.invokevirtual 49, 3) := by decide +kernel
theorem dX4_learn_125 : decode cX4_learn 125 = .ok (.iinc 4 1, 3) := by decide +kernel
theorem dX4_learn_128 : decode cX4_learn 128 = .ok (.goto (-15), 3) := by decide +kernel
theorem dX4_learn_131 : decode cX4_learn 131 = .ok (.return_, 1) := by decide +kernel
theorem dX4_boxBehind_0 : decode cX4_boxBehind 0 = .ok (.iload_n 1, 1) := by decide +kernel
theorem dX4_boxBehind_1 : decode cX4_boxBehind 1 = .ok (.iconst 4, 1) := by decide +kernel
theorem dX4_boxBehind_2 : decode cX4_boxBehind 2 = .ok (.imul, 1) := by decide +kernel
theorem dX4_boxBehind_3 : decode cX4_boxBehind 3 = .ok (.iload_n 2, 1) := by decide +kernel
theorem dX4_boxBehind_4 : decode cX4_boxBehind 4 = .ok (.iadd, 1) := by decide +kernel
theorem dX4_boxBehind_5 : decode cX4_boxBehind 5 = .ok (.istore_n 3, 1) := by decide +kernel
theorem dX4_boxBehind_6 : decode cX4_boxBehind 6 = .ok (.iload_n 3, 1) := by decide +kernel
theorem dX4_boxBehind_7 : decode cX4_boxBehind 7 = .ok (.ifCond .lt 21, 3) := by decide +kernel
theorem dX4_boxBehind_10 : decode cX4_boxBehind 10 = .ok (.iload_n 3, 1) := by decide +kernel
theorem dX4_boxBehind_11 : decode cX4_boxBehind 11 = .ok (.aload_n 0, 1) := by decide +kernel
theorem dX4_boxBehind_12 : decode cX4_boxBehind 12 = .ok (.getfield 15, 3) := by decide +kernel
theorem dX4_boxBehind_15 : decode cX4_boxBehind 15 = .ok (.arraylength, 1) := by decide +kernel
theorem dX4_boxBehind_16 : decode cX4_boxBehind 16 = .ok (.if_icmp .ge 12, 3) := by decide +kernel
theorem dX4_boxBehind_19 : decode cX4_boxBehind 19 = .ok (.aload_n 0, 1) := by decide +kernel
theorem dX4_boxBehind_20 : decode cX4_boxBehind 20 = .ok (.getfield 15, 3) := by decide +kernel
theorem dX4_boxBehind_23 : decode cX4_boxBehind 23 = .ok (.iload_n 3, 1) := by decide +kernel
theorem dX4_boxBehind_24 : decode cX4_boxBehind 24 = .ok (.iaload, 1) := by decide +kernel
theorem dX4_boxBehind_25 : decode cX4_boxBehind 25 = .ok (.goto 4, 3) := by decide +kernel
theorem dX4_boxBehind_28 : decode cX4_boxBehind 28 = .ok (.iconst (-1), 1) := by decide +kernel
theorem dX4_boxBehind_29 : decode cX4_boxBehind 29 = .ok (.ireturn, 1) := by decide +kernel
set_option maxRecDepth 20000 in
theorem ggX4_length_X4_spot : GoodIn wsX4_length wsX4_spot := goodIn_r _ [5] (by decide +kernel) (by decide +kernel)
set_option maxRecDepth 20000 in
theorem gX4_length_X4_spot : GoodIn wsX4_length (va_wsS RX4 53 yX4_spot wsX4_spot) := goodIn_app (goodIn_of _ (by decide +kernel)) ggX4_length_X4_spot
theorem dX4_length_0 : decode cX4_length 0 = .ok (.iload_n 3, 1) := by decide +kernel
theorem dX4_length_1 : decode cX4_length 1 = .ok (.bipush 50, 2) := by decide +kernel
theorem dX4_length_3 : decode cX4_length 3 = .ok (.imul, 1) := by decide +kernel
theorem dX4_length_4 : decode cX4_length 4 = .ok (.iload_n 1, 1) := by decide +kernel
theorem dX4_length_5 : decode cX4_length 5 = .ok (.iload_n 2, 1) := by decide +kernel
theorem dX4_length_6 : decode cX4_length 6 = .ok (.invokestatic 53, 3) := by decide +kernel
theorem dX4_length_9 : decode cX4_length 9 = .ok (.iadd, 1) := by decide +kernel
theorem dX4_length_10 : decode cX4_length 10 = .ok (.istore 4, 2) := by decide +kernel
theorem dX4_length_12 : decode cX4_length 12 = .ok (.iload 4, 2) := by decide +kernel
theorem dX4_length_14 : decode cX4_length 14 = .ok (.ifCond .lt 23, 3) := by decide +kernel
theorem dX4_length_17 : decode cX4_length 17 = .ok (.iload 4, 2) := by decide +kernel
theorem dX4_length_19 : decode cX4_length 19 = .ok (.aload_n 0, 1) := by decide +kernel
theorem dX4_length_20 : decode cX4_length 20 = .ok (.getfield 19, 3) := by decide +kernel
theorem dX4_length_23 : decode cX4_length 23 = .ok (.arraylength, 1) := by decide +kernel
theorem dX4_length_24 : decode cX4_length 24 = .ok (.if_icmp .ge 13, 3) := by decide +kernel
theorem dX4_length_27 : decode cX4_length 27 = .ok (.aload_n 0, 1) := by decide +kernel
theorem dX4_length_28 : decode cX4_length 28 = .ok (.getfield 19, 3) := by decide +kernel
theorem dX4_length_31 : decode cX4_length 31 = .ok (.iload 4, 2) := by decide +kernel
theorem dX4_length_33 : decode cX4_length 33 = .ok (.iaload, 1) := by decide +kernel
theorem dX4_length_34 : decode cX4_length 34 = .ok (.goto 6, 3) := by decide +kernel
theorem dX4_length_37 : decode cX4_length 37 = .ok (.sipush 1000, 3) := by decide +kernel
theorem dX4_length_40 : decode cX4_length 40 = .ok (.ireturn, 1) := by decide +kernel
set_option maxRecDepth 20000 in
theorem ggX4_lengthAfter_X4_boxBehind : GoodIn wsX4_lengthAfter wsX4_boxBehind := goodIn_r _ [5, 6, 20, 21, 22, 23, 24, 25] (by decide +kernel) (by decide +kernel)
set_option maxRecDepth 20000 in
theorem gX4_lengthAfter_X4_boxBehind : GoodIn wsX4_lengthAfter (wsV RX4 56 RX4 yX4_boxBehind wsX4_boxBehind) := goodIn_app (goodIn_of _ (by decide +kernel)) ggX4_lengthAfter_X4_boxBehind
set_option maxRecDepth 20000 in
theorem ggX4_lengthAfter_X4_mayMove : GoodIn wsX4_lengthAfter wsX4_mayMove := goodIn_r _ [10, 11, 20, 21, 22, 23, 24, 25] (by decide +kernel) (by decide +kernel)
set_option maxRecDepth 20000 in
theorem gX4_lengthAfter_X4_mayMove : GoodIn wsX4_lengthAfter (wsV RX4 59 RX4 yX4_mayMove wsX4_mayMove) := goodIn_app (goodIn_of _ (by decide +kernel)) ggX4_lengthAfter_X4_mayMove
set_option maxRecDepth 20000 in
theorem ggX4_lengthAfter_X4_length : GoodIn wsX4_lengthAfter wsX4_length := goodIn_r _ [15, 16, 17, 18, 4, 19, 20, 21, 22, 23, 24, 25] (by decide +kernel) (by decide +kernel)
set_option maxRecDepth 20000 in
theorem gX4_lengthAfter_X4_length : GoodIn wsX4_lengthAfter (wsV RX4 63 RX4 yX4_length wsX4_length) := goodIn_app (goodIn_of _ (by decide +kernel)) ggX4_lengthAfter_X4_length
theorem dX4_lengthAfter_0 : decode cX4_lengthAfter 0 = .ok (.aload_n 0, 1) := by decide +kernel
theorem dX4_lengthAfter_1 : decode cX4_lengthAfter 1 = .ok (.iload_n 1, 1) := by decide +kernel
theorem dX4_lengthAfter_2 : decode cX4_lengthAfter 2 = .ok (.iload_n 3, 1) := by decide +kernel
theorem dX4_lengthAfter_3 : decode cX4_lengthAfter 3 = .ok (.invokevirtual 56, 3) := by decide +kernel
theorem dX4_lengthAfter_6 : decode cX4_lengthAfter 6 = .ok (.istore 5, 2) := by decide +kernel
theorem dX4_lengthAfter_8 : decode cX4_lengthAfter 8 = .ok (.iload 5, 2) := by decide +kernel
theorem dX4_lengthAfter_10 : decode cX4_lengthAfter 10 = .ok (.iconst (-1), 1) := by decide +kernel
theorem dX4_lengthAfter_11 : decode cX4_lengthAfter 11 = .ok (.if_icmp .eq 12, 3) := by decide +kernel
theorem dX4_lengthAfter_14 : decode cX4_lengthAfter 14 = .ok (.aload_n 0, 1) := by decide +kernel
theorem dX4_lengthAfter_15 : decode cX4_lengthAfter 15 = .ok (.iload_n 2, 1) := by decide +kernel
theorem dX4_lengthAfter_16 : decode cX4_lengthAfter 16 = .ok (.iload_n 3, 1) := by decide +kernel
theorem dX4_lengthAfter_17 : decode cX4_lengthAfter 17 = .ok (.invokevirtual 59, 3) := by decide +kernel
theorem dX4_lengthAfter_20 : decode cX4_lengthAfter 20 = .ok (.ifCond .ne 7, 3) := by decide +kernel
theorem dX4_lengthAfter_23 : decode cX4_lengthAfter 23 = .ok (.sipush 1000, 3) := by decide +kernel
theorem dX4_lengthAfter_26 : decode cX4_lengthAfter 26 = .ok (.ireturn, 1) := by decide +kernel
theorem dX4_lengthAfter_27 : decode cX4_lengthAfter 27 = .ok (.aload_n 0, 1) := by decide +kernel
theorem dX4_lengthAfter_28 : decode cX4_lengthAfter 28 = .ok (.iload 5, 2) := by decide +kernel
theorem dX4_lengthAfter_30 : decode cX4_lengthAfter 30 = .ok (.iload_n 3, 1) := by decide +kernel
theorem dX4_lengthAfter_31 : decode cX4_lengthAfter 31 = .ok (.ifCond .ne 7, 3) := by decide +kernel
theorem dX4_lengthAfter_34 : decode cX4_lengthAfter 34 = .ok (.iload_n 2, 1) := by decide +kernel
theorem dX4_lengthAfter_35 : decode cX4_lengthAfter 35 = .ok (.goto 4, 3) := by decide +kernel
theorem dX4_lengthAfter_38 : decode cX4_lengthAfter 38 = .ok (.iconst 1, 1) := by decide +kernel
theorem dX4_lengthAfter_39 : decode cX4_lengthAfter 39 = .ok (.iload 4, 2) := by decide +kernel
theorem dX4_lengthAfter_41 : decode cX4_lengthAfter 41 = .ok (.invokevirtual 63, 3) := by decide +kernel
theorem dX4_lengthAfter_44 : decode cX4_lengthAfter 44 = .ok (.ireturn, 1) := by decide +kernel
set_option maxRecDepth 20000 in
theorem ggX4_shortestWays_X4_search : GoodIn wsX4_shortestWays wsX4_search := goodIn_r _ [6, 7, 1, 8, 9, 10, 11, 5, 12, 13, 14, 15, 16, 17, 18, 19, 20, 21, 22, 23, 24, 25, 26, 27, 28, 29, 30, 31, 32, 33, 34, 35, 36, 37, 38, 39] (by decide +kernel) (by decide +kernel)
set_option maxRecDepth 20000 in
theorem gX4_shortestWays_X4_search : GoodIn wsX4_shortestWays (wsV RX4 49 RX4 yX4_search wsX4_search) := goodIn_app (goodIn_of _ (by decide +kernel)) ggX4_shortestWays_X4_search
set_option maxRecDepth 20000 in
theorem ggX4_shortestWays_X4_spot : GoodIn wsX4_shortestWays wsX4_spot := goodIn_r _ [12] (by decide +kernel) (by decide +kernel)
set_option maxRecDepth 20000 in
theorem gX4_shortestWays_X4_spot : GoodIn wsX4_shortestWays (va_wsS RX4 53 yX4_spot wsX4_spot) := goodIn_app (goodIn_of _ (by decide +kernel)) ggX4_shortestWays_X4_spot
theorem dX4_shortestWays_0 : decode cX4_shortestWays 0 = .ok (.aload_n 0, 1) := by decide +kernel
theorem dX4_shortestWays_1 : decode cX4_shortestWays 1 = .ok (.iload_n 2, 1) := by decide +kernel
theorem dX4_shortestWays_2 : decode cX4_shortestWays 2 = .ok (.invokevirtual 49, 3) := by decide +kernel
theorem dX4_shortestWays_5 : decode cX4_shortestWays 5 = .ok (.aload_n 0, 1) := by decide +kernel
theorem dX4_shortestWays_6 : decode cX4_shortestWays 6 = .ok (.getfield 22, 3) := by decide +kernel
theorem dX4_shortestWays_9 : decode cX4_shortestWays 9 = .ok (.iload_n 1, 1) := by decide +kernel
theorem dX4_shortestWays_10 : decode cX4_shortestWays 10 = .ok (.iconst 0, 1) := by decide +kernel
theorem dX4_shortestWays_11 : decode cX4_shortestWays 11 = .ok (.invokestatic 53, 3) := by decide +kernel
theorem dX4_shortestWays_14 : decode cX4_shortestWays 14 = .ok (.iaload, 1) := by decide +kernel
theorem dX4_shortestWays_15 : decode cX4_shortestWays 15 = .ok (.ireturn, 1) := by decide +kernel
theorem dX4_spot_0 : decode cX4_spot 0 = .ok (.iload_n 1, 1) := by decide +kernel
theorem dX4_spot_1 : decode cX4_spot 1 = .ok (.bipush 25, 2) := by decide +kernel
theorem dX4_spot_3 : decode cX4_spot 3 = .ok (.imul, 1) := by decide +kernel
theorem dX4_spot_4 : decode cX4_spot 4 = .ok (.iload_n 0, 1) := by decide +kernel
theorem dX4_spot_5 : decode cX4_spot 5 = .ok (.iadd, 1) := by decide +kernel
theorem dX4_spot_6 : decode cX4_spot 6 = .ok (.ireturn, 1) := by decide +kernel
theorem dX4_mayMove_0 : decode cX4_mayMove 0 = .ok (.aload_n 0, 1) := by decide +kernel
theorem dX4_mayMove_1 : decode cX4_mayMove 1 = .ok (.getfield 9, 3) := by decide +kernel
theorem dX4_mayMove_4 : decode cX4_mayMove 4 = .ok (.ifCond .eq 11, 3) := by decide +kernel
theorem dX4_mayMove_7 : decode cX4_mayMove 7 = .ok (.iload_n 1, 1) := by decide +kernel
theorem dX4_mayMove_8 : decode cX4_mayMove 8 = .ok (.ifCond .eq 7, 3) := by decide +kernel
theorem dX4_mayMove_11 : decode cX4_mayMove 11 = .ok (.iload_n 2, 1) := by decide +kernel
theorem dX4_mayMove_12 : decode cX4_mayMove 12 = .ok (.ifCond .eq 7, 3) := by decide +kernel
theorem dX4_mayMove_15 : decode cX4_mayMove 15 = .ok (.iconst 1, 1) := by decide +kernel
theorem dX4_mayMove_16 : decode cX4_mayMove 16 = .ok (.goto 4, 3) := by decide +kernel
theorem dX4_mayMove_19 : decode cX4_mayMove 19 = .ok (.iconst 0, 1) := by decide +kernel
theorem dX4_mayMove_20 : decode cX4_mayMove 20 = .ok (.ireturn, 1) := by decide +kernel
set_option maxRecDepth 20000 in
theorem ggX4_search_X4_spot : GoodIn wsX4_search wsX4_spot := goodIn_r _ [8] (by decide +kernel) (by decide +kernel)
set_option maxRecDepth 20000 in
theorem gX4_search_X4_spot : GoodIn wsX4_search (va_wsS RX4 53 yX4_spot wsX4_spot) := goodIn_app (goodIn_of _ (by decide +kernel)) ggX4_search_X4_spot
set_option maxRecDepth 20000 in
theorem ggX4_search_X4_reach : GoodIn wsX4_search wsX4_reach := goodIn_r _ [12, 1, 3, 4, 2, 30, 31, 32, 33, 34, 35] (by decide +kernel) (by decide +kernel)
set_option maxRecDepth 20000 in
theorem gX4_search_X4_reach : GoodIn wsX4_search (wsV RX4 67 RX4 yX4_reach wsX4_reach) := goodIn_app (goodIn_of _ (by decide +kernel)) ggX4_search_X4_reach
set_option maxRecDepth 20000 in
theorem ggX4_search_X4_stepBack : GoodIn wsX4_search wsX4_stepBack := goodIn_r _ [16, 1, 2, 5, 6, 7, 8, 17, 18, 19, 20, 21, 22, 23, 24, 25, 26, 9, 10, 11, 12, 3, 4, 27, 28, 29, 30, 31, 32, 33, 34, 35] (by decide +kernel) (by decide +kernel)
set_option maxRecDepth 20000 in
theorem gX4_search_X4_stepBack : GoodIn wsX4_search (wsV RX4 71 RX4 yX4_stepBack wsX4_stepBack) := goodIn_app (goodIn_of _ (by decide +kernel)) ggX4_search_X4_stepBack
theorem dX4_search_0 : decode cX4_search 0 = .ok (.iconst 0, 1) := by decide +kernel
theorem dX4_search_1 : decode cX4_search 1 = .ok (.istore_n 2, 1) := by decide +kernel
theorem dX4_search_2 : decode cX4_search 2 = .ok (.iload_n 2, 1) := by decide +kernel
theorem dX4_search_3 : decode cX4_search 3 = .ok (.bipush 50, 2) := by decide +kernel
theorem dX4_search_5 : decode cX4_search 5 = .ok (.if_icmp .ge 30, 3) := by decide +kernel
theorem dX4_search_8 : decode cX4_search 8 = .ok (.aload_n 0, 1) := by decide +kernel
theorem dX4_search_9 : decode cX4_search 9 = .ok (.getfield 19, 3) := by decide +kernel
theorem dX4_search_12 : decode cX4_search 12 = .ok (.iload_n 1, 1) := by decide +kernel
theorem dX4_search_13 : decode cX4_search 13 = .ok (.bipush 50, 2) := by decide +kernel
theorem dX4_search_15 : decode cX4_search 15 = .ok (.imul, 1) := by decide +kernel
theorem dX4_search_16 : decode cX4_search 16 = .ok (.iload_n 2, 1) := by decide +kernel
theorem dX4_search_17 : decode cX4_search 17 = .ok (.iadd, 1) := by decide +kernel
theorem dX4_search_18 : decode cX4_search 18 = .ok (.sipush 1000, 3) := by decide +kernel
theorem dX4_search_21 : decode cX4_search 21 = .ok (.iastore, 1) := by decide +kernel
theorem dX4_search_22 : decode cX4_search 22 = .ok (.aload_n 0, 1) := by decide +kernel
theorem dX4_search_23 : decode cX4_search 23 = .ok (.getfield 22, 3) := by decide +kernel
theorem dX4_search_26 : decode cX4_search 26 = .ok (.iload_n 2, 1) := by decide +kernel
theorem dX4_search_27 : decode cX4_search 27 = .ok (.iconst 0, 1) := by decide +kernel
theorem dX4_search_28 : decode cX4_search 28 = .ok (.iastore, 1) := by decide +kernel
theorem dX4_search_29 : decode cX4_search 29 = .ok (.iinc 2 1, 3) := by decide +kernel
theorem dX4_search_32 : decode cX4_search 32 = .ok (.goto (-30), 3) := by decide +kernel
theorem dX4_search_35 : decode cX4_search 35 = .ok (.aload_n 0, 1) := by decide +kernel
theorem dX4_search_36 : decode cX4_search 36 = .ok (.iconst 0, 1) := by decide +kernel
theorem dX4_search_37 : decode cX4_search 37 = .ok (.putfield 28, 3) := by decide +kernel
theorem dX4_search_40 : decode cX4_search 40 = .ok (.aload_n 0, 1) := by decide +kernel
theorem dX4_search_41 : decode cX4_search 41 = .ok (.iload_n 1, 1) := by decide +kernel
theorem dX4_search_42 : decode cX4_search 42 = .ok (.iload_n 1, 1) := by decide +kernel
theorem dX4_search_43 : decode cX4_search 43 = .ok (.iconst 0, 1) := by decide +kernel
theorem dX4_search_44 : decode cX4_search 44 = .ok (.invokestatic 53, 3) := by decide +kernel
theorem dX4_search_47 : decode cX4_search 47 = .ok (.iconst 0, 1) := by decide +kernel
theorem dX4_search_48 : decode cX4_search 48 = .ok (.iconst 1, 1) := by decide +kernel
theorem dX4_search_49 : decode cX4_search 49 = .ok (.invokevirtual 67, 3) := by decide +kernel
theorem dX4_search_52 : decode cX4_search 52 = .ok (.aload_n 0, 1) := by decide +kernel
theorem dX4_search_53 : decode cX4_search 53 = .ok (.iload_n 1, 1) := by decide +kernel
theorem dX4_search_54 : decode cX4_search 54 = .ok (.iload_n 1, 1) := by decide +kernel
theorem dX4_search_55 : decode cX4_search 55 = .ok (.iconst 1, 1) := by decide +kernel
theorem dX4_search_56 : decode cX4_search 56 = .ok (.invokestatic 53, 3) := by decide +kernel
theorem dX4_search_59 : decode cX4_search 59 = .ok (.iconst 0, 1) := by decide +kernel
theorem dX4_search_60 : decode cX4_search 60 = .ok (.iconst 1, 1) := by decide +kernel
theorem dX4_search_61 : decode cX4_search 61 = .ok (.invokevirtual 67, 3) := by decide +kernel
theorem dX4_search_64 : decode cX4_search 64 = .ok (.iconst 0, 1) := by decide +kernel
theorem dX4_search_65 : decode cX4_search 65 = .ok (.istore_n 2, 1) := by decide +kernel
theorem dX4_search_66 : decode cX4_search 66 = .ok (.iload_n 2, 1) := by decide +kernel
theorem dX4_search_67 : decode cX4_search 67 = .ok (.aload_n 0, 1) := by decide +kernel
theorem dX4_search_68 : decode cX4_search 68 = .ok (.getfield 28, 3) := by decide +kernel
theorem dX4_search_71 : decode cX4_search 71 = .ok (.if_icmp .ge 38, 3) := by decide +kernel
theorem dX4_search_74 : decode cX4_search 74 = .ok (.iload_n 2, 1) := by decide +kernel
theorem dX4_search_75 : decode cX4_search 75 = .ok (.bipush 50, 2) := by decide +kernel
theorem dX4_search_77 : decode cX4_search 77 = .ok (.if_icmp .ge 32, 3) := by decide +kernel
theorem dX4_search_80 : decode cX4_search 80 = .ok (.aload_n 0, 1) := by decide +kernel
theorem dX4_search_81 : decode cX4_search 81 = .ok (.iload_n 1, 1) := by decide +kernel
theorem dX4_search_82 : decode cX4_search 82 = .ok (.aload_n 0, 1) := by decide +kernel
theorem dX4_search_83 : decode cX4_search 83 = .ok (.getfield 25, 3) := by decide +kernel
theorem dX4_search_86 : decode cX4_search 86 = .ok (.iload_n 2, 1) := by decide +kernel
theorem dX4_search_87 : decode cX4_search 87 = .ok (.iaload, 1) := by decide +kernel
theorem dX4_search_88 : decode cX4_search 88 = .ok (.bipush 25, 2) := by decide +kernel
theorem dX4_search_90 : decode cX4_search 90 = .ok (.irem, 1) := by decide +kernel
theorem dX4_search_91 : decode cX4_search 91 = .ok (.aload_n 0, 1) := by decide +kernel
theorem dX4_search_92 : decode cX4_search 92 = .ok (.getfield 25, 3) := by decide +kernel
theorem dX4_search_95 : decode cX4_search 95 = .ok (.iload_n 2, 1) := by decide +kernel
theorem dX4_search_96 : decode cX4_search 96 = .ok (.iaload, 1) := by decide +kernel
theorem dX4_search_97 : decode cX4_search 97 = .ok (.bipush 25, 2) := by decide +kernel
theorem dX4_search_99 : decode cX4_search 99 = .ok (.idiv, 1) := by decide +kernel
theorem dX4_search_100 : decode cX4_search 100 = .ok (.invokevirtual 71, 3) := by decide +kernel
theorem dX4_search_103 : decode cX4_search 103 = .ok (.iinc 2 1, 3) := by decide +kernel
theorem dX4_search_106 : decode cX4_search 106 = .ok (.goto (-40), 3) := by decide +kernel
theorem dX4_search_109 : decode cX4_search 109 = .ok (.return_, 1) := by decide +kernel
set_option maxRecDepth 20000 in
theorem ggX4_stepBack_X4_spot : GoodIn wsX4_stepBack wsX4_spot := goodIn_r _ [6] (by decide +kernel) (by decide +kernel)
set_option maxRecDepth 20000 in
theorem gX4_stepBack_X4_spot : GoodIn wsX4_stepBack (va_wsS RX4 53 yX4_spot wsX4_spot) := goodIn_app (goodIn_of _ (by decide +kernel)) ggX4_stepBack_X4_spot
set_option maxRecDepth 20000 in
theorem ggX4_stepBack_X4_boxBehind : GoodIn wsX4_stepBack wsX4_boxBehind := goodIn_r _ [10, 11, 26, 27, 28, 29, 30, 31] (by decide +kernel) (by decide +kernel)
set_option maxRecDepth 20000 in
theorem gX4_stepBack_X4_boxBehind : GoodIn wsX4_stepBack (wsV RX4 56 RX4 yX4_boxBehind wsX4_boxBehind) := goodIn_app (goodIn_of _ (by decide +kernel)) ggX4_stepBack_X4_boxBehind
set_option maxRecDepth 20000 in
theorem ggX4_stepBack_X4_mayMove : GoodIn wsX4_stepBack wsX4_mayMove := goodIn_r _ [15, 16, 26, 27, 28, 29, 30, 31] (by decide +kernel) (by decide +kernel)
set_option maxRecDepth 20000 in
theorem gX4_stepBack_X4_mayMove : GoodIn wsX4_stepBack (wsV RX4 59 RX4 yX4_mayMove wsX4_mayMove) := goodIn_app (goodIn_of _ (by decide +kernel)) ggX4_stepBack_X4_mayMove
set_option maxRecDepth 20000 in
theorem ggX4_stepBack_X4_reach : GoodIn wsX4_stepBack wsX4_reach := goodIn_r _ [20, 1, 21, 22, 2, 26, 27, 28, 29, 30, 31] (by decide +kernel) (by decide +kernel)
set_option maxRecDepth 20000 in
theorem gX4_stepBack_X4_reach : GoodIn wsX4_stepBack (wsV RX4 67 RX4 yX4_reach wsX4_reach) := goodIn_app (goodIn_of _ (by decide +kernel)) ggX4_stepBack_X4_reach
set_option maxRecDepth 20000 in
theorem ggX4_stepBack_X4_opposite : GoodIn wsX4_stepBack wsX4_opposite := goodIn_r _ [25] (by decide +kernel) (by decide +kernel)
set_option maxRecDepth 20000 in
theorem gX4_stepBack_X4_opposite : GoodIn wsX4_stepBack (va_wsS RX4 75 yX4_opposite wsX4_opposite) := goodIn_app (goodIn_of _ (by decide +kernel)) ggX4_stepBack_X4_opposite
theorem dX4_stepBack_0 : decode cX4_stepBack 0 = .ok (.iload_n 2, 1) := by decide +kernel
theorem dX4_stepBack_1 : decode cX4_stepBack 1 = .ok (.iload_n 3, 1) := by decide +kernel
theorem dX4_stepBack_2 : decode cX4_stepBack 2 = .ok (.invokestatic 53, 3) := by decide +kernel
theorem dX4_stepBack_5 : decode cX4_stepBack 5 = .ok (.istore 4, 2) := by decide +kernel
theorem dX4_stepBack_7 : decode cX4_stepBack 7 = .ok (.aload_n 0, 1) := by decide +kernel
theorem dX4_stepBack_8 : decode cX4_stepBack 8 = .ok (.getfield 19, 3) := by decide +kernel
theorem dX4_stepBack_11 : decode cX4_stepBack 11 = .ok (.iload_n 1, 1) := by decide +kernel
theorem dX4_stepBack_12 : decode cX4_stepBack 12 = .ok (.bipush 50, 2) := by decide +kernel
theorem dX4_stepBack_14 : decode cX4_stepBack 14 = .ok (.imul, 1) := by decide +kernel
theorem dX4_stepBack_15 : decode cX4_stepBack 15 = .ok (.iload 4, 2) := by decide +kernel
theorem dX4_stepBack_17 : decode cX4_stepBack 17 = .ok (.iadd, 1) := by decide +kernel
theorem dX4_stepBack_18 : decode cX4_stepBack 18 = .ok (.iaload, 1) := by decide +kernel
theorem dX4_stepBack_19 : decode cX4_stepBack 19 = .ok (.iconst 1, 1) := by decide +kernel
theorem dX4_stepBack_20 : decode cX4_stepBack 20 = .ok (.iadd, 1) := by decide +kernel
theorem dX4_stepBack_21 : decode cX4_stepBack 21 = .ok (.istore 5, 2) := by decide +kernel
theorem dX4_stepBack_23 : decode cX4_stepBack 23 = .ok (.aload_n 0, 1) := by decide +kernel
theorem dX4_stepBack_24 : decode cX4_stepBack 24 = .ok (.iload_n 2, 1) := by decide +kernel
theorem dX4_stepBack_25 : decode cX4_stepBack 25 = .ok (.iconst 1, 1) := by decide +kernel
theorem dX4_stepBack_26 : decode cX4_stepBack 26 = .ok (.invokevirtual 56, 3) := by decide +kernel
theorem dX4_stepBack_29 : decode cX4_stepBack 29 = .ok (.istore 6, 2) := by decide +kernel
theorem dX4_stepBack_31 : decode cX4_stepBack 31 = .ok (.iload 6, 2) := by decide +kernel
theorem dX4_stepBack_33 : decode cX4_stepBack 33 = .ok (.iconst (-1), 1) := by decide +kernel
theorem dX4_stepBack_34 : decode cX4_stepBack 34 = .ok (.if_icmp .eq 32, 3) := by decide +kernel
theorem dX4_stepBack_37 : decode cX4_stepBack 37 = .ok (.aload_n 0, 1) := by decide +kernel
theorem dX4_stepBack_38 : decode cX4_stepBack 38 = .ok (.iload_n 3, 1) := by decide +kernel
theorem dX4_stepBack_39 : decode cX4_stepBack 39 = .ok (.iconst 0, 1) := by decide +kernel
theorem dX4_stepBack_40 : decode cX4_stepBack 40 = .ok (.invokevirtual 59, 3) := by decide +kernel
theorem dX4_stepBack_43 : decode cX4_stepBack 43 = .ok (.ifCond .eq 23, 3) := by decide +kernel
theorem dX4_stepBack_46 : decode cX4_stepBack 46 = .ok (.aload_n 0, 1) := by decide +kernel
theorem dX4_stepBack_47 : decode cX4_stepBack 47 = .ok (.iload_n 1, 1) := by decide +kernel
theorem dX4_stepBack_48 : decode cX4_stepBack 48 = .ok (.iload 6, 2) := by decide +kernel
theorem dX4_stepBack_50 : decode cX4_stepBack 50 = .ok (.iload_n 3, 1) := by decide +kernel
theorem dX4_stepBack_51 : decode cX4_stepBack 51 = .ok (.invokestatic 53, 3) := by decide +kernel
theorem dX4_stepBack_54 : decode cX4_stepBack 54 = .ok (.iload 5, 2) := by decide +kernel
theorem dX4_stepBack_56 : decode cX4_stepBack 56 = .ok (.aload_n 0, 1) := by decide +kernel
theorem dX4_stepBack_57 : decode cX4_stepBack 57 = .ok (.getfield 22, 3) := by decide +kernel
theorem dX4_stepBack_60 : decode cX4_stepBack 60 = .ok (.iload 4, 2) := by decide +kernel
theorem dX4_stepBack_62 : decode cX4_stepBack 62 = .ok (.iaload, 1) := by decide +kernel
theorem dX4_stepBack_63 : decode cX4_stepBack 63 = .ok (.invokevirtual 67, 3) := by decide +kernel
theorem dX4_stepBack_66 : decode cX4_stepBack 66 = .ok (.iconst 1, 1) := by decide +kernel
theorem dX4_stepBack_67 : decode cX4_stepBack 67 = .ok (.istore 7, 2) := by decide +kernel
theorem dX4_stepBack_69 : decode cX4_stepBack 69 = .ok (.iload 7, 2) := by decide +kernel
theorem dX4_stepBack_71 : decode cX4_stepBack 71 = .ok (.iconst 4, 1) := by decide +kernel
theorem dX4_stepBack_72 : decode cX4_stepBack 72 = .ok (.if_icmp .ge 72, 3) := by decide +kernel
theorem dX4_stepBack_75 : decode cX4_stepBack 75 = .ok (.iload_n 3, 1) := by decide +kernel
theorem dX4_stepBack_76 : decode cX4_stepBack 76 = .ok (.iconst 1, 1) := by decide +kernel
theorem dX4_stepBack_77 : decode cX4_stepBack 77 = .ok (.if_icmp .ne 67, 3) := by decide +kernel
theorem dX4_stepBack_80 : decode cX4_stepBack 80 = .ok (.aload_n 0, 1) := by decide +kernel
theorem dX4_stepBack_81 : decode cX4_stepBack 81 = .ok (.iload_n 2, 1) := by decide +kernel
theorem dX4_stepBack_82 : decode cX4_stepBack 82 = .ok (.iload 7, 2) := by decide +kernel
theorem dX4_stepBack_84 : decode cX4_stepBack 84 = .ok (.invokestatic 75, 3) := by decide +kernel
theorem dX4_stepBack_87 : decode cX4_stepBack 87 = .ok (.invokevirtual 56, 3) := by decide +kernel
theorem dX4_stepBack_90 : decode cX4_stepBack 90 = .ok (.istore 8, 2) := by decide +kernel
theorem dX4_stepBack_92 : decode cX4_stepBack 92 = .ok (.iload 8, 2) := by decide +kernel
theorem dX4_stepBack_94 : decode cX4_stepBack 94 = .ok (.iconst (-1), 1) := by decide +kernel
theorem dX4_stepBack_95 : decode cX4_stepBack 95 = .ok (.if_icmp .eq 43, 3) := by decide +kernel
theorem dX4_stepBack_98 : decode cX4_stepBack 98 = .ok (.aload_n 0, 1) := by decide +kernel
theorem dX4_stepBack_99 : decode cX4_stepBack 99 = .ok (.iload_n 1, 1) := by decide +kernel
theorem dX4_stepBack_100 : decode cX4_stepBack 100 = .ok (.iload 8, 2) := by decide +kernel
theorem dX4_stepBack_102 : decode cX4_stepBack 102 = .ok (.iconst 0, 1) := by decide +kernel
theorem dX4_stepBack_103 : decode cX4_stepBack 103 = .ok (.invokestatic 53, 3) := by decide +kernel
theorem dX4_stepBack_106 : decode cX4_stepBack 106 = .ok (.iload 5, 2) := by decide +kernel
theorem dX4_stepBack_108 : decode cX4_stepBack 108 = .ok (.aload_n 0, 1) := by decide +kernel
theorem dX4_stepBack_109 : decode cX4_stepBack 109 = .ok (.getfield 22, 3) := by decide +kernel
theorem dX4_stepBack_112 : decode cX4_stepBack 112 = .ok (.iload 4, 2) := by decide +kernel
theorem dX4_stepBack_114 : decode cX4_stepBack 114 = .ok (.iaload, 1) := by decide +kernel
theorem dX4_stepBack_115 : decode cX4_stepBack 115 = .ok (.invokevirtual 67, 3) := by decide +kernel
theorem dX4_stepBack_118 : decode cX4_stepBack 118 = .ok (.aload_n 0, 1) := by decide +kernel
theorem dX4_stepBack_119 : decode cX4_stepBack 119 = .ok (.iload_n 1, 1) := by decide +kernel
theorem dX4_stepBack_120 : decode cX4_stepBack 120 = .ok (.iload 8, 2) := by decide +kernel
theorem dX4_stepBack_122 : decode cX4_stepBack 122 = .ok (.iconst 1, 1) := by decide +kernel
theorem dX4_stepBack_123 : decode cX4_stepBack 123 = .ok (.invokestatic 53, 3) := by decide +kernel
theorem dX4_stepBack_126 : decode cX4_stepBack 126 = .ok (.iload 5, 2) := by decide +kernel
theorem dX4_stepBack_128 : decode cX4_stepBack 128 = .ok (.aload_n 0, 1) := by decide +kernel
theorem dX4_stepBack_129 : decode cX4_stepBack 129 = .ok (.getfield 22, 3) := by decide +kernel
theorem dX4_stepBack_132 : decode cX4_stepBack 132 = .ok (.iload 4, 2) := by decide +kernel
theorem dX4_stepBack_134 : decode cX4_stepBack 134 = .ok (.iaload, 1) := by decide +kernel
theorem dX4_stepBack_135 : decode cX4_stepBack 135 = .ok (.invokevirtual 67, 3) := by decide +kernel
theorem dX4_stepBack_138 : decode cX4_stepBack 138 = .ok (.iinc 7 1, 3) := by decide +kernel
theorem dX4_stepBack_141 : decode cX4_stepBack 141 = .ok (.goto (-72), 3) := by decide +kernel
theorem dX4_stepBack_144 : decode cX4_stepBack 144 = .ok (.return_, 1) := by decide +kernel
theorem dX4_opposite_0 : decode cX4_opposite 0 = .ok (.iload_n 0, 1) := by decide +kernel
theorem dX4_opposite_1 : decode cX4_opposite 1 = .ok (.tableswitch 33 0 2 #[27, 29, 31], 27) := by decide +kernel
theorem dX4_opposite_28 : decode cX4_opposite 28 = .ok (.iconst 1, 1) := by decide +kernel
theorem dX4_opposite_29 : decode cX4_opposite 29 = .ok (.ireturn, 1) := by decide +kernel
theorem dX4_opposite_30 : decode cX4_opposite 30 = .ok (.iconst 0, 1) := by decide +kernel
theorem dX4_opposite_31 : decode cX4_opposite 31 = .ok (.ireturn, 1) := by decide +kernel
theorem dX4_opposite_32 : decode cX4_opposite 32 = .ok (.iconst 3, 1) := by decide +kernel
theorem dX4_opposite_33 : decode cX4_opposite 33 = .ok (.ireturn, 1) := by decide +kernel
theorem dX4_opposite_34 : decode cX4_opposite 34 = .ok (.iconst 2, 1) := by decide +kernel
theorem dX4_opposite_35 : decode cX4_opposite 35 = .ok (.ireturn, 1) := by decide +kernel
theorem dX4_reach_0 : decode cX4_reach 0 = .ok (.aload_n 0, 1) := by decide +kernel
theorem dX4_reach_1 : decode cX4_reach 1 = .ok (.getfield 19, 3) := by decide +kernel
theorem dX4_reach_4 : decode cX4_reach 4 = .ok (.iload_n 1, 1) := by decide +kernel
theorem dX4_reach_5 : decode cX4_reach 5 = .ok (.bipush 50, 2) := by decide +kernel
theorem dX4_reach_7 : decode cX4_reach 7 = .ok (.imul, 1) := by decide +kernel
theorem dX4_reach_8 : decode cX4_reach 8 = .ok (.iload_n 2, 1) := by decide +kernel
theorem dX4_reach_9 : decode cX4_reach 9 = .ok (.iadd, 1) := by decide +kernel
theorem dX4_reach_10 : decode cX4_reach 10 = .ok (.iaload, 1) := by decide +kernel
theorem dX4_reach_11 : decode cX4_reach 11 = .ok (.istore 5, 2) := by decide +kernel
theorem dX4_reach_13 : decode cX4_reach 13 = .ok (.iload 5, 2) := by decide +kernel
theorem dX4_reach_15 : decode cX4_reach 15 = .ok (.sipush 1000, 3) := by decide +kernel
theorem dX4_reach_18 : decode cX4_reach 18 = .ok (.if_icmp .ne 44, 3) := by decide +kernel
theorem dX4_reach_21 : decode cX4_reach 21 = .ok (.aload_n 0, 1) := by decide +kernel
theorem dX4_reach_22 : decode cX4_reach 22 = .ok (.getfield 28, 3) := by decide +kernel
theorem dX4_reach_25 : decode cX4_reach 25 = .ok (.bipush 50, 2) := by decide +kernel
theorem dX4_reach_27 : decode cX4_reach 27 = .ok (.if_icmp .ge 35, 3) := by decide +kernel
theorem dX4_reach_30 : decode cX4_reach 30 = .ok (.aload_n 0, 1) := by decide +kernel
theorem dX4_reach_31 : decode cX4_reach 31 = .ok (.getfield 19, 3) := by decide +kernel
theorem dX4_reach_34 : decode cX4_reach 34 = .ok (.iload_n 1, 1) := by decide +kernel
theorem dX4_reach_35 : decode cX4_reach 35 = .ok (.bipush 50, 2) := by decide +kernel
theorem dX4_reach_37 : decode cX4_reach 37 = .ok (.imul, 1) := by decide +kernel
theorem dX4_reach_38 : decode cX4_reach 38 = .ok (.iload_n 2, 1) := by decide +kernel
theorem dX4_reach_39 : decode cX4_reach 39 = .ok (.iadd, 1) := by decide +kernel
theorem dX4_reach_40 : decode cX4_reach 40 = .ok (.iload_n 3, 1) := by decide +kernel
theorem dX4_reach_41 : decode cX4_reach 41 = .ok (.iastore, 1) := by decide +kernel
theorem dX4_reach_42 : decode cX4_reach 42 = .ok (.aload_n 0, 1) := by decide +kernel
theorem dX4_reach_43 : decode cX4_reach 43 = .ok (.getfield 25, 3) := by decide +kernel
theorem dX4_reach_46 : decode cX4_reach 46 = .ok (.aload_n 0, 1) := by decide +kernel
theorem dX4_reach_47 : decode cX4_reach 47 = .ok (.getfield 28, 3) := by decide +kernel
theorem dX4_reach_50 : decode cX4_reach 50 = .ok (.iload_n 2, 1) := by decide +kernel
theorem dX4_reach_51 : decode cX4_reach 51 = .ok (.iastore, 1) := by decide +kernel
theorem dX4_reach_52 : decode cX4_reach 52 = .ok (.aload_n 0, 1) := by decide +kernel
theorem dX4_reach_53 : decode cX4_reach 53 = .ok (.dup, 1) := by decide +kernel
theorem dX4_reach_54 : decode cX4_reach 54 = .ok (.getfield 28, 3) := by decide +kernel
theorem dX4_reach_57 : decode cX4_reach 57 = .ok (.iconst 1, 1) := by decide +kernel
theorem dX4_reach_58 : decode cX4_reach 58 = .ok (.iadd, 1) := by decide +kernel
theorem dX4_reach_59 : decode cX4_reach 59 = .ok (.putfield 28, 3) := by decide +kernel
theorem dX4_reach_62 : decode cX4_reach 62 = .ok (.iload 5, 2) := by decide +kernel
theorem dX4_reach_64 : decode cX4_reach 64 = .ok (.iload_n 3, 1) := by decide +kernel
theorem dX4_reach_65 : decode cX4_reach 65 = .ok (.if_icmp .lt 14, 3) := by decide +kernel
theorem dX4_reach_68 : decode cX4_reach 68 = .ok (.aload_n 0, 1) := by decide +kernel
theorem dX4_reach_69 : decode cX4_reach 69 = .ok (.getfield 22, 3) := by decide +kernel
theorem dX4_reach_72 : decode cX4_reach 72 = .ok (.iload_n 2, 1) := by decide +kernel
theorem dX4_reach_73 : decode cX4_reach 73 = .ok (.dup2, 1) := by decide +kernel
theorem dX4_reach_74 : decode cX4_reach 74 = .ok (.iaload, 1) := by decide +kernel
theorem dX4_reach_75 : decode cX4_reach 75 = .ok (.iload 4, 2) := by decide +kernel
theorem dX4_reach_77 : decode cX4_reach 77 = .ok (.iadd, 1) := by decide +kernel
theorem dX4_reach_78 : decode cX4_reach 78 = .ok (.iastore, 1) := by decide +kernel
theorem dX4_reach_79 : decode cX4_reach 79 = .ok (.return_, 1) := by decide +kernel
set_option maxRecDepth 20000 in
theorem ggX5_init_X0_init : GoodIn wsX5_init wsX0_init := goodIn_r _ [18, 19, 2, 3, 20, 21, 22, 43, 44, 45] (by decide +kernel) (by decide +kernel)
set_option maxRecDepth 20000 in
theorem gX5_init_X0_init_n17 : GoodIn wsX5_init (wsX0_init) := ggX5_init_X0_init
set_option maxRecDepth 20000 in
theorem ggX5_init_X2_init : GoodIn wsX5_init wsX2_init := goodIn_r _ [24, 25, 2, 3, 26, 4, 27, 28, 29, 30, 31, 32, 33, 34, 35, 36, 46, 47, 48, 49, 50, 51, 52, 53, 54, 55, 56] (by decide +kernel) (by decide +kernel)
set_option maxRecDepth 20000 in
theorem gX5_init_X2_init_n24 : GoodIn wsX5_init (wsX2_init) := ggX5_init_X2_init
theorem dX5_init_0 : decode cX5_init 0 = .ok (.aload_n 0, 1) := by decide +kernel
theorem dX5_init_1 : decode cX5_init 1 = .ok (.invokespecial 3, 3) := by decide +kernel
theorem dX5_init_4 : decode cX5_init 4 = .ok (.aload_n 0, 1) := by decide +kernel
theorem dX5_init_5 : decode cX5_init 5 = .ok (.iconst 3, 1) := by decide +kernel
theorem dX5_init_6 : decode cX5_init 6 = .ok (.newarray .int, 2) := by decide +kernel
theorem dX5_init_8 : decode cX5_init 8 = .ok (.dup, 1) := by decide +kernel
theorem dX5_init_9 : decode cX5_init 9 = .ok (.iconst 0, 1) := by decide +kernel
theorem dX5_init_10 : decode cX5_init 10 = .ok (.iconst 1, 1) := by decide +kernel
theorem dX5_init_11 : decode cX5_init 11 = .ok (.iastore, 1) := by decide +kernel
theorem dX5_init_12 : decode cX5_init 12 = .ok (.dup, 1) := by decide +kernel
theorem dX5_init_13 : decode cX5_init 13 = .ok (.iconst 1, 1) := by decide +kernel
theorem dX5_init_14 : decode cX5_init 14 = .ok (.iconst 0, 1) := by decide +kernel
theorem dX5_init_15 : decode cX5_init 15 = .ok (.iastore, 1) := by decide +kernel
theorem dX5_init_16 : decode cX5_init 16 = .ok (.dup, 1) := by decide +kernel
theorem dX5_init_17 : decode cX5_init 17 = .ok (.iconst 2, 1) := by decide +kernel
theorem dX5_init_18 : decode cX5_init 18 = .ok (.iconst 1, 1) := by decide +kernel
theorem dX5_init_19 : decode cX5_init 19 = .ok (.iastore, 1) := by decide +kernel
theorem dX5_init_20 : decode cX5_init 20 = .ok (.putfield 9, 3) := by decide +kernel
theorem dX5_init_23 : decode cX5_init 23 = .ok (.aload_n 0, 1) := by decide +kernel
theorem dX5_init_24 : decode cX5_init 24 = .ok (.new 15, 3) := by decide +kernel
theorem dX5_init_27 : decode cX5_init 27 = .ok (.dup, 1) := by decide +kernel
theorem dX5_init_28 : decode cX5_init 28 = .ok (.invokespecial 17, 3) := by decide +kernel
theorem dX5_init_31 : decode cX5_init 31 = .ok (.putfield 18, 3) := by decide +kernel
theorem dX5_init_34 : decode cX5_init 34 = .ok (.aload_n 0, 1) := by decide +kernel
theorem dX5_init_35 : decode cX5_init 35 = .ok (.new 22, 3) := by decide +kernel
theorem dX5_init_38 : decode cX5_init 38 = .ok (.dup, 1) := by decide +kernel
theorem dX5_init_39 : decode cX5_init 39 = .ok (.invokespecial 24, 3) := by decide +kernel
theorem dX5_init_42 : decode cX5_init 42 = .ok (.putfield 25, 3) := by decide +kernel
theorem dX5_init_45 : decode cX5_init 45 = .ok (.aload_n 0, 1) := by decide +kernel
theorem dX5_init_46 : decode cX5_init 46 = .ok (.bipush 25, 2) := by decide +kernel
theorem dX5_init_48 : decode cX5_init 48 = .ok (.newarray .int, 2) := by decide +kernel
theorem dX5_init_50 : decode cX5_init 50 = .ok (.putfield 29, 3) := by decide +kernel
theorem dX5_init_53 : decode cX5_init 53 = .ok (.aload_n 0, 1) := by decide +kernel
theorem dX5_init_54 : decode cX5_init 54 = .ok (.bipush 100, 2) := by decide +kernel
theorem dX5_init_56 : decode cX5_init 56 = .ok (.newarray .int, 2) := by decide +kernel
theorem dX5_init_58 : decode cX5_init 58 = .ok (.putfield 32, 3) := by decide +kernel
theorem dX5_init_61 : decode cX5_init 61 = .ok (.aload_n 0, 1) := by decide +kernel
theorem dX5_init_62 : decode cX5_init 62 = .ok (.iconst 0, 1) := by decide +kernel
theorem dX5_init_63 : decode cX5_init 63 = .ok (.putfield 35, 3) := by decide +kernel
theorem dX5_init_66 : decode cX5_init 66 = .ok (.return_, 1) := by decide +kernel
set_option maxRecDepth 20000 in
theorem ggX5_copyState_X0_copyGrid : GoodIn wsX5_copyState wsX0_copyGrid := goodIn_r _ [15, 16, 17, 18, 42, 43, 44] (by decide +kernel) (by decide +kernel)
set_option maxRecDepth 20000 in
theorem gX5_copyState_X0_copyGrid : GoodIn wsX5_copyState (wsV RX5 45 RX0 yX0_copyGrid wsX0_copyGrid) := goodIn_app (goodIn_of _ (by decide +kernel)) ggX5_copyState_X0_copyGrid
set_option maxRecDepth 20000 in
theorem ggX5_copyState_X2_copyPackets : GoodIn wsX5_copyState wsX2_copyPackets := goodIn_r _ [23, 24, 25, 26, 3, 4, 5, 27, 28, 29, 30, 31, 32, 33, 34, 35, 45, 46, 47, 48, 49, 50, 51, 52, 53, 54, 55] (by decide +kernel) (by decide +kernel)
set_option maxRecDepth 20000 in
theorem gX5_copyState_X2_copyPackets : GoodIn wsX5_copyState (wsV RX5 49 RX2 yX2_copyPackets wsX2_copyPackets) := goodIn_app (goodIn_of _ (by decide +kernel)) ggX5_copyState_X2_copyPackets
theorem dX5_copyState_0 : decode cX5_copyState 0 = .ok (.aload_n 0, 1) := by decide +kernel
theorem dX5_copyState_1 : decode cX5_copyState 1 = .ok (.ifnull 7, 3) := by decide +kernel
theorem dX5_copyState_4 : decode cX5_copyState 4 = .ok (.aload_n 1, 1) := by decide +kernel
theorem dX5_copyState_5 : decode cX5_copyState 5 = .ok (.ifnonnull 4, 3) := by decide +kernel
theorem dX5_copyState_8 : decode cX5_copyState 8 = .ok (.return_, 1) := by decide +kernel
theorem dX5_copyState_9 : decode cX5_copyState 9 = .ok (.aload_n 0, 1) := by decide +kernel
theorem dX5_copyState_10 : decode cX5_copyState 10 = .ok (.getfield 9, 3) := by decide +kernel
theorem dX5_copyState_13 : decode cX5_copyState 13 = .ok (.iconst 0, 1) := by decide +kernel
theorem dX5_copyState_14 : decode cX5_copyState 14 = .ok (.aload_n 1, 1) := by decide +kernel
theorem dX5_copyState_15 : decode cX5_copyState 15 = .ok (.getfield 9, 3) := by decide +kernel
theorem dX5_copyState_18 : decode cX5_copyState 18 = .ok (.iconst 0, 1) := by decide +kernel
theorem dX5_copyState_19 : decode cX5_copyState 19 = .ok (.iconst 3, 1) := by decide +kernel
theorem dX5_copyState_20 : decode cX5_copyState 20 = .ok (.invokestatic 39, 3) := by decide +kernel
theorem dX5_copyState_23 : decode cX5_copyState 23 = .ok (.aload_n 1, 1) := by decide +kernel
theorem dX5_copyState_24 : decode cX5_copyState 24 = .ok (.getfield 18, 3) := by decide +kernel
theorem dX5_copyState_27 : decode cX5_copyState 27 = .ok (.aload_n 0, 1) := by decide +kernel
theorem dX5_copyState_28 : decode cX5_copyState 28 = .ok (.getfield 18, 3) := by decide +kernel
theorem dX5_copyState_31 : decode cX5_copyState 31 = .ok (.invokevirtual 45, 3) := by decide +kernel
theorem dX5_copyState_34 : decode cX5_copyState 34 = .ok (.aload_n 1, 1) := by decide +kernel
theorem dX5_copyState_35 : decode cX5_copyState 35 = .ok (.getfield 25, 3) := by decide +kernel
theorem dX5_copyState_38 : decode cX5_copyState 38 = .ok (.aload_n 0, 1) := by decide +kernel
theorem dX5_copyState_39 : decode cX5_copyState 39 = .ok (.getfield 25, 3) := by decide +kernel
theorem dX5_copyState_42 : decode cX5_copyState 42 = .ok (.invokevirtual 49, 3) := by decide +kernel
theorem dX5_copyState_45 : decode cX5_copyState 45 = .ok (.aload_n 0, 1) := by decide +kernel
theorem dX5_copyState_46 : decode cX5_copyState 46 = .ok (.getfield 29, 3) := by decide +kernel
theorem dX5_copyState_49 : decode cX5_copyState 49 = .ok (.iconst 0, 1) := by decide +kernel
theorem dX5_copyState_50 : decode cX5_copyState 50 = .ok (.aload_n 1, 1) := by decide +kernel
theorem dX5_copyState_51 : decode cX5_copyState 51 = .ok (.getfield 29, 3) := by decide +kernel
theorem dX5_copyState_54 : decode cX5_copyState 54 = .ok (.iconst 0, 1) := by decide +kernel
theorem dX5_copyState_55 : decode cX5_copyState 55 = .ok (.bipush 25, 2) := by decide +kernel
theorem dX5_copyState_57 : decode cX5_copyState 57 = .ok (.invokestatic 39, 3) := by decide +kernel
theorem dX5_copyState_60 : decode cX5_copyState 60 = .ok (.aload_n 0, 1) := by decide +kernel
theorem dX5_copyState_61 : decode cX5_copyState 61 = .ok (.getfield 32, 3) := by decide +kernel
theorem dX5_copyState_64 : decode cX5_copyState 64 = .ok (.iconst 0, 1) := by decide +kernel
theorem dX5_copyState_65 : decode cX5_copyState 65 = .ok (.aload_n 1, 1) := by decide +kernel
theorem dX5_copyState_66 : decode cX5_copyState 66 = .ok (.getfield 32, 3) := by decide +kernel
theorem dX5_copyState_69 : decode cX5_copyState 69 = .ok (.iconst 0, 1) := by decide +kernel
theorem dX5_copyState_70 : decode cX5_copyState 70 = .ok (.bipush 100, 2) := by decide +kernel
theorem dX5_copyState_72 : decode cX5_copyState 72 = .ok (.invokestatic 39, 3) := by decide +kernel
theorem dX5_copyState_75 : decode cX5_copyState 75 = .ok (.aload_n 1, 1) := by decide +kernel
theorem dX5_copyState_76 : decode cX5_copyState 76 = .ok (.aload_n 0, 1) := by decide +kernel
theorem dX5_copyState_77 : decode cX5_copyState 77 = .ok (.getfield 35, 3) := by decide +kernel
theorem dX5_copyState_80 : decode cX5_copyState 80 = .ok (.putfield 35, 3) := by decide +kernel
theorem dX5_copyState_83 : decode cX5_copyState 83 = .ok (.return_, 1) := by decide +kernel
theorem dX5_hasRoom_0 : decode cX5_hasRoom 0 = .ok (.iload_n 1, 1) := by decide +kernel
theorem dX5_hasRoom_1 : decode cX5_hasRoom 1 = .ok (.ifCond .lt 31, 3) := by decide +kernel
theorem dX5_hasRoom_4 : decode cX5_hasRoom 4 = .ok (.iload_n 1, 1) := by decide +kernel
theorem dX5_hasRoom_5 : decode cX5_hasRoom 5 = .ok (.aload_n 0, 1) := by decide +kernel
theorem dX5_hasRoom_6 : decode cX5_hasRoom 6 = .ok (.getfield 29, 3) := by decide +kernel
theorem dX5_hasRoom_9 : decode cX5_hasRoom 9 = .ok (.arraylength, 1) := by decide +kernel
theorem dX5_hasRoom_10 : decode cX5_hasRoom 10 = .ok (.if_icmp .ge 22, 3) := by decide +kernel
theorem dX5_hasRoom_13 : decode cX5_hasRoom 13 = .ok (.aload_n 0, 1) := by decide +kernel
theorem dX5_hasRoom_14 : decode cX5_hasRoom 14 = .ok (.getfield 29, 3) := by decide +kernel
theorem dX5_hasRoom_17 : decode cX5_hasRoom 17 = .ok (.iload_n 1, 1) := by decide +kernel
theorem dX5_hasRoom_18 : decode cX5_hasRoom 18 = .ok (.iaload, 1) := by decide +kernel
theorem dX5_hasRoom_19 : decode cX5_hasRoom 19 = .ok (.aload_n 0, 1) := by decide +kernel
theorem dX5_hasRoom_20 : decode cX5_hasRoom 20 = .ok (.getfield 9, 3) := by decide +kernel
theorem dX5_hasRoom_23 : decode cX5_hasRoom 23 = .ok (.iconst 2, 1) := by decide +kernel
theorem dX5_hasRoom_24 : decode cX5_hasRoom 24 = .ok (.iaload, 1) := by decide +kernel
theorem dX5_hasRoom_25 : decode cX5_hasRoom 25 = .ok (.if_icmp .ge 7, 3) := by decide +kernel
theorem dX5_hasRoom_28 : decode cX5_hasRoom 28 = .ok (.iconst 1, 1) := by decide +kernel
theorem dX5_hasRoom_29 : decode cX5_hasRoom 29 = .ok (.goto 4, 3) := by decide +kernel
theorem dX5_hasRoom_32 : decode cX5_hasRoom 32 = .ok (.iconst 0, 1) := by decide +kernel
theorem dX5_hasRoom_33 : decode cX5_hasRoom 33 = .ok (.ireturn, 1) := by decide +kernel
set_option maxRecDepth 20000 in
theorem ggX5_wayLength_X4_length : GoodIn wsX5_wayLength wsX4_length := goodIn_r _ [7, 8, 9, 10, 6, 11, 28, 29, 30, 31, 32, 33] (by decide +kernel) (by decide +kernel)
set_option maxRecDepth 20000 in
theorem gX5_wayLength_X4_length : GoodIn wsX5_wayLength (wsV RX5 53 RX4 yX4_length wsX4_length) := goodIn_app (goodIn_of _ (by decide +kernel)) ggX5_wayLength_X4_length
set_option maxRecDepth 20000 in
theorem ggX5_wayLength_X0_distance : GoodIn wsX5_wayLength wsX0_distance := goodIn_r _ [16, 17, 18, 19, 20, 21, 34, 35, 36] (by decide +kernel) (by decide +kernel)
set_option maxRecDepth 20000 in
theorem gX5_wayLength_X0_distance : GoodIn wsX5_wayLength (wsV RX5 59 RX0 yX0_distance wsX0_distance) := goodIn_app (goodIn_of _ (by decide +kernel)) ggX5_wayLength_X0_distance
theorem dX5_wayLength_0 : decode cX5_wayLength 0 = .ok (.aload_n 1, 1) := by decide +kernel
theorem dX5_wayLength_1 : decode cX5_wayLength 1 = .ok (.iload_n 2, 1) := by decide +kernel
theorem dX5_wayLength_2 : decode cX5_wayLength 2 = .ok (.iconst 0, 1) := by decide +kernel
theorem dX5_wayLength_3 : decode cX5_wayLength 3 = .ok (.iload_n 3, 1) := by decide +kernel
theorem dX5_wayLength_4 : decode cX5_wayLength 4 = .ok (.invokevirtual 53, 3) := by decide +kernel
theorem dX5_wayLength_7 : decode cX5_wayLength 7 = .ok (.istore 4, 2) := by decide +kernel
theorem dX5_wayLength_9 : decode cX5_wayLength 9 = .ok (.iload 4, 2) := by decide +kernel
theorem dX5_wayLength_11 : decode cX5_wayLength 11 = .ok (.aload_n 0, 1) := by decide +kernel
theorem dX5_wayLength_12 : decode cX5_wayLength 12 = .ok (.getfield 18, 3) := by decide +kernel
theorem dX5_wayLength_15 : decode cX5_wayLength 15 = .ok (.iload_n 2, 1) := by decide +kernel
theorem dX5_wayLength_16 : decode cX5_wayLength 16 = .ok (.iload_n 3, 1) := by decide +kernel
theorem dX5_wayLength_17 : decode cX5_wayLength 17 = .ok (.invokevirtual 59, 3) := by decide +kernel
theorem dX5_wayLength_20 : decode cX5_wayLength 20 = .ok (.iconst 2, 1) := by decide +kernel
theorem dX5_wayLength_21 : decode cX5_wayLength 21 = .ok (.aload_n 0, 1) := by decide +kernel
theorem dX5_wayLength_22 : decode cX5_wayLength 22 = .ok (.getfield 9, 3) := by decide +kernel
theorem dX5_wayLength_25 : decode cX5_wayLength 25 = .ok (.iconst 1, 1) := by decide +kernel
theorem dX5_wayLength_26 : decode cX5_wayLength 26 = .ok (.iaload, 1) := by decide +kernel
theorem dX5_wayLength_27 : decode cX5_wayLength 27 = .ok (.imul, 1) := by decide +kernel
theorem dX5_wayLength_28 : decode cX5_wayLength 28 = .ok (.iadd, 1) := by decide +kernel
theorem dX5_wayLength_29 : decode cX5_wayLength 29 = .ok (.if_icmp .gt 8, 3) := by decide +kernel
theorem dX5_wayLength_32 : decode cX5_wayLength 32 = .ok (.iload 4, 2) := by decide +kernel
theorem dX5_wayLength_34 : decode cX5_wayLength 34 = .ok (.goto 5, 3) := by decide +kernel
theorem dX5_wayLength_37 : decode cX5_wayLength 37 = .ok (.bipush (-6), 2) := by decide +kernel
theorem dX5_wayLength_39 : decode cX5_wayLength 39 = .ok (.ireturn, 1) := by decide +kernel
set_option maxRecDepth 20000 in
theorem ggX5_wayLengthOf_X4_length : GoodIn wsX5_wayLengthOf wsX4_length := goodIn_r _ [9, 10, 11, 12, 8, 13, 52, 53, 54, 55, 56, 57] (by decide +kernel) (by decide +kernel)
set_option maxRecDepth 20000 in
theorem gX5_wayLengthOf_X4_length : GoodIn wsX5_wayLengthOf (wsV RX5 53 RX4 yX4_length wsX4_length) := goodIn_app (goodIn_of _ (by decide +kernel)) ggX5_wayLengthOf_X4_length
set_option maxRecDepth 20000 in
theorem ggX5_wayLengthOf_X5_mostMoves : GoodIn wsX5_wayLengthOf wsX5_mostMoves := goodIn_r _ [18, 19, 1, 20, 21, 22, 23, 24, 25, 2, 4, 26, 27, 28, 29, 30, 31, 32, 33, 34, 35, 36, 37, 38, 39, 40, 41, 42, 43, 44, 45, 46, 47, 48, 49, 50, 51, 58, 59, 60] (by decide +kernel) (by decide +kernel)
set_option maxRecDepth 20000 in
theorem gX5_wayLengthOf_X5_mostMoves : GoodIn wsX5_wayLengthOf (wsV RX5 72 RX5 yX5_mostMoves wsX5_mostMoves) := goodIn_app (goodIn_of _ (by decide +kernel)) ggX5_wayLengthOf_X5_mostMoves
theorem dX5_wayLengthOf_0 : decode cX5_wayLengthOf 0 = .ok (.aload_n 1, 1) := by decide +kernel
theorem dX5_wayLengthOf_1 : decode cX5_wayLengthOf 1 = .ok (.aload_n 0, 1) := by decide +kernel
theorem dX5_wayLengthOf_2 : decode cX5_wayLengthOf 2 = .ok (.getfield 25, 3) := by decide +kernel
theorem dX5_wayLengthOf_5 : decode cX5_wayLengthOf 5 = .ok (.getfield 63, 3) := by decide +kernel
theorem dX5_wayLengthOf_8 : decode cX5_wayLengthOf 8 = .ok (.iload_n 2, 1) := by decide +kernel
theorem dX5_wayLengthOf_9 : decode cX5_wayLengthOf 9 = .ok (.iaload, 1) := by decide +kernel
theorem dX5_wayLengthOf_10 : decode cX5_wayLengthOf 10 = .ok (.aload_n 0, 1) := by decide +kernel
theorem dX5_wayLengthOf_11 : decode cX5_wayLengthOf 11 = .ok (.getfield 25, 3) := by decide +kernel
theorem dX5_wayLengthOf_14 : decode cX5_wayLengthOf 14 = .ok (.getfield 66, 3) := by decide +kernel
theorem dX5_wayLengthOf_17 : decode cX5_wayLengthOf 17 = .ok (.iload_n 2, 1) := by decide +kernel
theorem dX5_wayLengthOf_18 : decode cX5_wayLengthOf 18 = .ok (.iaload, 1) := by decide +kernel
theorem dX5_wayLengthOf_19 : decode cX5_wayLengthOf 19 = .ok (.aload_n 0, 1) := by decide +kernel
theorem dX5_wayLengthOf_20 : decode cX5_wayLengthOf 20 = .ok (.getfield 25, 3) := by decide +kernel
theorem dX5_wayLengthOf_23 : decode cX5_wayLengthOf 23 = .ok (.getfield 69, 3) := by decide +kernel
theorem dX5_wayLengthOf_26 : decode cX5_wayLengthOf 26 = .ok (.iload_n 2, 1) := by decide +kernel
theorem dX5_wayLengthOf_27 : decode cX5_wayLengthOf 27 = .ok (.iaload, 1) := by decide +kernel
theorem dX5_wayLengthOf_28 : decode cX5_wayLengthOf 28 = .ok (.invokevirtual 53, 3) := by decide +kernel
theorem dX5_wayLengthOf_31 : decode cX5_wayLengthOf 31 = .ok (.istore_n 3, 1) := by decide +kernel
theorem dX5_wayLengthOf_32 : decode cX5_wayLengthOf 32 = .ok (.iload_n 3, 1) := by decide +kernel
theorem dX5_wayLengthOf_33 : decode cX5_wayLengthOf 33 = .ok (.aload_n 0, 1) := by decide +kernel
theorem dX5_wayLengthOf_34 : decode cX5_wayLengthOf 34 = .ok (.iload_n 2, 1) := by decide +kernel
theorem dX5_wayLengthOf_35 : decode cX5_wayLengthOf 35 = .ok (.invokevirtual 72, 3) := by decide +kernel
theorem dX5_wayLengthOf_38 : decode cX5_wayLengthOf 38 = .ok (.if_icmp .gt 7, 3) := by decide +kernel
theorem dX5_wayLengthOf_41 : decode cX5_wayLengthOf 41 = .ok (.iload_n 3, 1) := by decide +kernel
theorem dX5_wayLengthOf_42 : decode cX5_wayLengthOf 42 = .ok (.goto 5, 3) := by decide +kernel
theorem dX5_wayLengthOf_45 : decode cX5_wayLengthOf 45 = .ok (.bipush (-6), 2) := by decide +kernel
theorem dX5_wayLengthOf_47 : decode cX5_wayLengthOf 47 = .ok (.ireturn, 1) := by decide +kernel
set_option maxRecDepth 20000 in
theorem ggX5_mostMoves_X0_distance : GoodIn wsX5_mostMoves wsX0_distance := goodIn_r _ [15, 16, 17, 18, 6, 19, 37, 38, 39] (by decide +kernel) (by decide +kernel)
set_option maxRecDepth 20000 in
theorem gX5_mostMoves_X0_distance : GoodIn wsX5_mostMoves (wsV RX5 59 RX0 yX0_distance wsX0_distance) := goodIn_app (goodIn_of _ (by decide +kernel)) ggX5_mostMoves_X0_distance
theorem dX5_mostMoves_0 : decode cX5_mostMoves 0 = .ok (.iconst 0, 1) := by decide +kernel
theorem dX5_mostMoves_1 : decode cX5_mostMoves 1 = .ok (.aload_n 0, 1) := by decide +kernel
theorem dX5_mostMoves_2 : decode cX5_mostMoves 2 = .ok (.getfield 9, 3) := by decide +kernel
theorem dX5_mostMoves_5 : decode cX5_mostMoves 5 = .ok (.iconst 1, 1) := by decide +kernel
theorem dX5_mostMoves_6 : decode cX5_mostMoves 6 = .ok (.iaload, 1) := by decide +kernel
theorem dX5_mostMoves_7 : decode cX5_mostMoves 7 = .ok (.aload_n 0, 1) := by decide +kernel
theorem dX5_mostMoves_8 : decode cX5_mostMoves 8 = .ok (.getfield 25, 3) := by decide +kernel
theorem dX5_mostMoves_11 : decode cX5_mostMoves 11 = .ok (.getfield 76, 3) := by decide +kernel
theorem dX5_mostMoves_14 : decode cX5_mostMoves 14 = .ok (.iload_n 1, 1) := by decide +kernel
theorem dX5_mostMoves_15 : decode cX5_mostMoves 15 = .ok (.iaload, 1) := by decide +kernel
theorem dX5_mostMoves_16 : decode cX5_mostMoves 16 = .ok (.isub, 1) := by decide +kernel
theorem dX5_mostMoves_17 : decode cX5_mostMoves 17 = .ok (.invokestatic 79, 3) := by decide +kernel
theorem dX5_mostMoves_20 : decode cX5_mostMoves 20 = .ok (.istore_n 2, 1) := by decide +kernel
theorem dX5_mostMoves_21 : decode cX5_mostMoves 21 = .ok (.aload_n 0, 1) := by decide +kernel
theorem dX5_mostMoves_22 : decode cX5_mostMoves 22 = .ok (.getfield 18, 3) := by decide +kernel
theorem dX5_mostMoves_25 : decode cX5_mostMoves 25 = .ok (.aload_n 0, 1) := by decide +kernel
theorem dX5_mostMoves_26 : decode cX5_mostMoves 26 = .ok (.getfield 25, 3) := by decide +kernel
theorem dX5_mostMoves_29 : decode cX5_mostMoves 29 = .ok (.getfield 63, 3) := by decide +kernel
theorem dX5_mostMoves_32 : decode cX5_mostMoves 32 = .ok (.iload_n 1, 1) := by decide +kernel
theorem dX5_mostMoves_33 : decode cX5_mostMoves 33 = .ok (.iaload, 1) := by decide +kernel
theorem dX5_mostMoves_34 : decode cX5_mostMoves 34 = .ok (.aload_n 0, 1) := by decide +kernel
theorem dX5_mostMoves_35 : decode cX5_mostMoves 35 = .ok (.getfield 25, 3) := by decide +kernel
theorem dX5_mostMoves_38 : decode cX5_mostMoves 38 = .ok (.getfield 69, 3) := by decide +kernel
theorem dX5_mostMoves_41 : decode cX5_mostMoves 41 = .ok (.iload_n 1, 1) := by decide +kernel
theorem dX5_mostMoves_42 : decode cX5_mostMoves 42 = .ok (.iaload, 1) := by decide +kernel
theorem dX5_mostMoves_43 : decode cX5_mostMoves 43 = .ok (.invokevirtual 59, 3) := by decide +kernel
theorem dX5_mostMoves_46 : decode cX5_mostMoves 46 = .ok (.iconst 2, 1) := by decide +kernel
theorem dX5_mostMoves_47 : decode cX5_mostMoves 47 = .ok (.iload_n 2, 1) := by decide +kernel
theorem dX5_mostMoves_48 : decode cX5_mostMoves 48 = .ok (.imul, 1) := by decide +kernel
theorem dX5_mostMoves_49 : decode cX5_mostMoves 49 = .ok (.iadd, 1) := by decide +kernel
theorem dX5_mostMoves_50 : decode cX5_mostMoves 50 = .ok (.ireturn, 1) := by decide +kernel
set_option maxRecDepth 20000 in
theorem ggX5_isPossible_X4_lengthAfter : GoodIn wsX5_isPossible wsX4_lengthAfter := goodIn_r _ [9, 10, 11, 12, 8, 13, 14, 15, 16, 17, 18, 19, 20, 21, 22, 23, 24, 25, 26, 27, 66, 67, 68, 69, 70, 71] (by decide +kernel) (by decide +kernel)
set_option maxRecDepth 20000 in
theorem gX5_isPossible_X4_lengthAfter : GoodIn wsX5_isPossible (wsV RX5 84 RX4 yX4_lengthAfter wsX4_lengthAfter) := goodIn_app (goodIn_of _ (by decide +kernel)) ggX5_isPossible_X4_lengthAfter
set_option maxRecDepth 20000 in
theorem ggX5_isPossible_X5_mostMoves : GoodIn wsX5_isPossible wsX5_mostMoves := goodIn_r _ [32, 33, 1, 34, 35, 36, 37, 38, 39, 2, 4, 40, 41, 42, 43, 44, 45, 46, 47, 48, 49, 50, 51, 52, 53, 54, 55, 56, 57, 58, 59, 60, 61, 62, 63, 64, 65, 72, 73, 74] (by decide +kernel) (by decide +kernel)
set_option maxRecDepth 20000 in
theorem gX5_isPossible_X5_mostMoves : GoodIn wsX5_isPossible (wsV RX5 72 RX5 yX5_mostMoves wsX5_mostMoves) := goodIn_app (goodIn_of _ (by decide +kernel)) ggX5_isPossible_X5_mostMoves
theorem dX5_isPossible_0 : decode cX5_isPossible 0 = .ok (.aload_n 1, 1) := by decide +kernel
theorem dX5_isPossible_1 : decode cX5_isPossible 1 = .ok (.aload_n 0, 1) := by decide +kernel
theorem dX5_isPossible_2 : decode cX5_isPossible 2 = .ok (.getfield 25, 3) := by decide +kernel
theorem dX5_isPossible_5 : decode cX5_isPossible 5 = .ok (.getfield 63, 3) := by decide +kernel
theorem dX5_isPossible_8 : decode cX5_isPossible 8 = .ok (.iload_n 2, 1) := by decide +kernel
theorem dX5_isPossible_9 : decode cX5_isPossible 9 = .ok (.iaload, 1) := by decide +kernel
theorem dX5_isPossible_10 : decode cX5_isPossible 10 = .ok (.aload_n 0, 1) := by decide +kernel
theorem dX5_isPossible_11 : decode cX5_isPossible 11 = .ok (.getfield 25, 3) := by decide +kernel
theorem dX5_isPossible_14 : decode cX5_isPossible 14 = .ok (.getfield 66, 3) := by decide +kernel
theorem dX5_isPossible_17 : decode cX5_isPossible 17 = .ok (.iload_n 2, 1) := by decide +kernel
theorem dX5_isPossible_18 : decode cX5_isPossible 18 = .ok (.iaload, 1) := by decide +kernel
theorem dX5_isPossible_19 : decode cX5_isPossible 19 = .ok (.iload_n 3, 1) := by decide +kernel
theorem dX5_isPossible_20 : decode cX5_isPossible 20 = .ok (.aload_n 0, 1) := by decide +kernel
theorem dX5_isPossible_21 : decode cX5_isPossible 21 = .ok (.getfield 25, 3) := by decide +kernel
theorem dX5_isPossible_24 : decode cX5_isPossible 24 = .ok (.getfield 69, 3) := by decide +kernel
theorem dX5_isPossible_27 : decode cX5_isPossible 27 = .ok (.iload_n 2, 1) := by decide +kernel
theorem dX5_isPossible_28 : decode cX5_isPossible 28 = .ok (.iaload, 1) := by decide +kernel
theorem dX5_isPossible_29 : decode cX5_isPossible 29 = .ok (.invokevirtual 84, 3) := by decide +kernel
theorem dX5_isPossible_32 : decode cX5_isPossible 32 = .ok (.aload_n 0, 1) := by decide +kernel
theorem dX5_isPossible_33 : decode cX5_isPossible 33 = .ok (.iload_n 2, 1) := by decide +kernel
theorem dX5_isPossible_34 : decode cX5_isPossible 34 = .ok (.invokevirtual 72, 3) := by decide +kernel
theorem dX5_isPossible_37 : decode cX5_isPossible 37 = .ok (.if_icmp .ge 7, 3) := by decide +kernel
theorem dX5_isPossible_40 : decode cX5_isPossible 40 = .ok (.iconst 1, 1) := by decide +kernel
theorem dX5_isPossible_41 : decode cX5_isPossible 41 = .ok (.goto 4, 3) := by decide +kernel
theorem dX5_isPossible_44 : decode cX5_isPossible 44 = .ok (.iconst 0, 1) := by decide +kernel
theorem dX5_isPossible_45 : decode cX5_isPossible 45 = .ok (.ireturn, 1) := by decide +kernel
set_option maxRecDepth 20000 in
theorem ggX5_firstSide_X5_mostMoves : GoodIn wsX5_firstSide wsX5_mostMoves := goodIn_r _ [10, 11, 1, 12, 13, 14, 15, 16, 17, 3, 5, 18, 19, 20, 21, 22, 23, 24, 25, 26, 60, 61, 62, 63, 64, 65, 66, 67, 68, 69, 70, 71, 72, 73, 74, 75, 76, 77, 78, 79] (by decide +kernel) (by decide +kernel)
set_option maxRecDepth 20000 in
theorem gX5_firstSide_X5_mostMoves : GoodIn wsX5_firstSide (wsV RX5 72 RX5 yX5_mostMoves wsX5_mostMoves) := goodIn_app (goodIn_of _ (by decide +kernel)) ggX5_firstSide_X5_mostMoves
set_option maxRecDepth 20000 in
theorem ggX5_firstSide_X4_lengthAfter : GoodIn wsX5_firstSide wsX4_lengthAfter := goodIn_r _ [31, 32, 33, 34, 30, 35, 36, 37, 38, 39, 40, 41, 42, 43, 44, 45, 46, 47, 48, 49, 80, 81, 82, 83, 84, 85] (by decide +kernel) (by decide +kernel)
set_option maxRecDepth 20000 in
theorem gX5_firstSide_X4_lengthAfter : GoodIn wsX5_firstSide (wsV RX5 84 RX4 yX4_lengthAfter wsX4_lengthAfter) := goodIn_app (goodIn_of _ (by decide +kernel)) ggX5_firstSide_X4_lengthAfter
set_option maxRecDepth 20000 in
theorem ggX5_firstSide_X4_boxBehind : GoodIn wsX5_firstSide wsX4_boxBehind := goodIn_r _ [35, 36, 80, 81, 82, 83, 84, 85] (by decide +kernel) (by decide +kernel)
set_option maxRecDepth 20000 in
theorem gX5_firstSide_X4_boxBehind : GoodIn wsX5_firstSide (wsV RX5 91 RX4 yX4_boxBehind wsX4_boxBehind) := goodIn_app (goodIn_of _ (by decide +kernel)) ggX5_firstSide_X4_boxBehind
set_option maxRecDepth 20000 in
theorem ggX5_firstSide_X5_letsIn : GoodIn wsX5_firstSide wsX5_letsIn := goodIn_r _ [54, 1, 5, 55, 56, 57, 9, 58, 59, 11, 60, 61, 62, 63, 64, 65, 66, 67, 68, 69, 70, 71, 72, 73, 74, 75, 76] (by decide +kernel) (by decide +kernel)
set_option maxRecDepth 20000 in
theorem gX5_firstSide_X5_letsIn : GoodIn wsX5_firstSide (wsV RX5 94 RX5 yX5_letsIn wsX5_letsIn) := goodIn_app (goodIn_of _ (by decide +kernel)) ggX5_firstSide_X5_letsIn
theorem dX5_firstSide_0 : decode cX5_firstSide 0 = .ok (.bipush (-6), 2) := by decide +kernel
theorem dX5_firstSide_2 : decode cX5_firstSide 2 = .ok (.istore 4, 2) := by decide +kernel
theorem dX5_firstSide_4 : decode cX5_firstSide 4 = .ok (.aload_n 0, 1) := by decide +kernel
theorem dX5_firstSide_5 : decode cX5_firstSide 5 = .ok (.getfield 25, 3) := by decide +kernel
theorem dX5_firstSide_8 : decode cX5_firstSide 8 = .ok (.getfield 88, 3) := by decide +kernel
theorem dX5_firstSide_11 : decode cX5_firstSide 11 = .ok (.iload_n 2, 1) := by decide +kernel
theorem dX5_firstSide_12 : decode cX5_firstSide 12 = .ok (.iaload, 1) := by decide +kernel
theorem dX5_firstSide_13 : decode cX5_firstSide 13 = .ok (.iconst 2, 1) := by decide +kernel
theorem dX5_firstSide_14 : decode cX5_firstSide 14 = .ok (.if_icmp .ne 6, 3) := by decide +kernel
theorem dX5_firstSide_17 : decode cX5_firstSide 17 = .ok (.iload 4, 2) := by decide +kernel
theorem dX5_firstSide_19 : decode cX5_firstSide 19 = .ok (.ireturn, 1) := by decide +kernel
theorem dX5_firstSide_20 : decode cX5_firstSide 20 = .ok (.aload_n 0, 1) := by decide +kernel
theorem dX5_firstSide_21 : decode cX5_firstSide 21 = .ok (.getfield 25, 3) := by decide +kernel
theorem dX5_firstSide_24 : decode cX5_firstSide 24 = .ok (.getfield 63, 3) := by decide +kernel
theorem dX5_firstSide_27 : decode cX5_firstSide 27 = .ok (.iload_n 2, 1) := by decide +kernel
theorem dX5_firstSide_28 : decode cX5_firstSide 28 = .ok (.iaload, 1) := by decide +kernel
theorem dX5_firstSide_29 : decode cX5_firstSide 29 = .ok (.istore 5, 2) := by decide +kernel
theorem dX5_firstSide_31 : decode cX5_firstSide 31 = .ok (.aload_n 0, 1) := by decide +kernel
theorem dX5_firstSide_32 : decode cX5_firstSide 32 = .ok (.iload_n 2, 1) := by decide +kernel
theorem dX5_firstSide_33 : decode cX5_firstSide 33 = .ok (.invokevirtual 72, 3) := by decide +kernel
theorem dX5_firstSide_36 : decode cX5_firstSide 36 = .ok (.istore 6, 2) := by decide +kernel
theorem dX5_firstSide_38 : decode cX5_firstSide 38 = .ok (.iconst 0, 1) := by decide +kernel
theorem dX5_firstSide_39 : decode cX5_firstSide 39 = .ok (.istore 7, 2) := by decide +kernel
theorem dX5_firstSide_41 : decode cX5_firstSide 41 = .ok (.iload 7, 2) := by decide +kernel
theorem dX5_firstSide_43 : decode cX5_firstSide 43 = .ok (.iconst 4, 1) := by decide +kernel
theorem dX5_firstSide_44 : decode cX5_firstSide 44 = .ok (.if_icmp .ge 72, 3) := by decide +kernel
theorem dX5_firstSide_47 : decode cX5_firstSide 47 = .ok (.aload_n 1, 1) := by decide +kernel
theorem dX5_firstSide_48 : decode cX5_firstSide 48 = .ok (.iload 5, 2) := by decide +kernel
theorem dX5_firstSide_50 : decode cX5_firstSide 50 = .ok (.aload_n 0, 1) := by decide +kernel
theorem dX5_firstSide_51 : decode cX5_firstSide 51 = .ok (.getfield 25, 3) := by decide +kernel
theorem dX5_firstSide_54 : decode cX5_firstSide 54 = .ok (.getfield 66, 3) := by decide +kernel
theorem dX5_firstSide_57 : decode cX5_firstSide 57 = .ok (.iload_n 2, 1) := by decide +kernel
theorem dX5_firstSide_58 : decode cX5_firstSide 58 = .ok (.iaload, 1) := by decide +kernel
theorem dX5_firstSide_59 : decode cX5_firstSide 59 = .ok (.iload 7, 2) := by decide +kernel
theorem dX5_firstSide_61 : decode cX5_firstSide 61 = .ok (.aload_n 0, 1) := by decide +kernel
theorem dX5_firstSide_62 : decode cX5_firstSide 62 = .ok (.getfield 25, 3) := by decide +kernel
theorem dX5_firstSide_65 : decode cX5_firstSide 65 = .ok (.getfield 69, 3) := by decide +kernel
theorem dX5_firstSide_68 : decode cX5_firstSide 68 = .ok (.iload_n 2, 1) := by decide +kernel
theorem dX5_firstSide_69 : decode cX5_firstSide 69 = .ok (.iaload, 1) := by decide +kernel
theorem dX5_firstSide_70 : decode cX5_firstSide 70 = .ok (.invokevirtual 84, 3) := by decide +kernel
theorem dX5_firstSide_73 : decode cX5_firstSide 73 = .ok (.istore 8, 2) := by decide +kernel
theorem dX5_firstSide_75 : decode cX5_firstSide 75 = .ok (.iload 8, 2) := by decide +kernel
theorem dX5_firstSide_77 : decode cX5_firstSide 77 = .ok (.iload 6, 2) := by decide +kernel
theorem dX5_firstSide_79 : decode cX5_firstSide 79 = .ok (.if_icmp .ge 31, 3) := by decide +kernel
theorem dX5_firstSide_82 : decode cX5_firstSide 82 = .ok (.iload_n 3, 1) := by decide +kernel
theorem dX5_firstSide_83 : decode cX5_firstSide 83 = .ok (.ifCond .eq 19, 3) := by decide +kernel
theorem dX5_firstSide_86 : decode cX5_firstSide 86 = .ok (.aload_n 0, 1) := by decide +kernel
theorem dX5_firstSide_87 : decode cX5_firstSide 87 = .ok (.iload_n 2, 1) := by decide +kernel
theorem dX5_firstSide_88 : decode cX5_firstSide 88 = .ok (.aload_n 1, 1) := by decide +kernel
theorem dX5_firstSide_89 : decode cX5_firstSide 89 = .ok (.iload 5, 2) := by decide +kernel
theorem dX5_firstSide_91 : decode cX5_firstSide 91 = .ok (.iload 7, 2) := by decide +kernel
theorem dX5_firstSide_93 : decode cX5_firstSide 93 = .ok (.invokevirtual 91, 3) := by decide +kernel
theorem dX5_firstSide_96 : decode cX5_firstSide 96 = .ok (.invokevirtual 94, 3) := by decide +kernel
theorem dX5_firstSide_99 : decode cX5_firstSide 99 = .ok (.ifCond .eq 11, 3) := by decide +kernel
theorem dX5_firstSide_102 : decode cX5_firstSide 102 = .ok (.iload 7, 2) := by decide +kernel
theorem dX5_firstSide_104 : decode cX5_firstSide 104 = .ok (.istore 4, 2) := by decide +kernel
theorem dX5_firstSide_106 : decode cX5_firstSide 106 = .ok (.iload 8, 2) := by decide +kernel
theorem dX5_firstSide_108 : decode cX5_firstSide 108 = .ok (.istore 6, 2) := by decide +kernel
theorem dX5_firstSide_110 : decode cX5_firstSide 110 = .ok (.iinc 7 1, 3) := by decide +kernel
theorem dX5_firstSide_113 : decode cX5_firstSide 113 = .ok (.goto (-72), 3) := by decide +kernel
theorem dX5_firstSide_116 : decode cX5_firstSide 116 = .ok (.iload 4, 2) := by decide +kernel
theorem dX5_firstSide_118 : decode cX5_firstSide 118 = .ok (.ireturn, 1) := by decide +kernel
set_option maxRecDepth 20000 in
theorem ggX5_letsIn_X5_hasRoom : GoodIn wsX5_letsIn wsX5_hasRoom := goodIn_r _ [7, 8, 9, 10, 11, 12, 13, 14, 15] (by decide +kernel) (by decide +kernel)
set_option maxRecDepth 20000 in
theorem gX5_letsIn_X5_hasRoom : GoodIn wsX5_letsIn (wsV RX5 98 RX5 yX5_hasRoom wsX5_hasRoom) := goodIn_app (goodIn_of _ (by decide +kernel)) ggX5_letsIn_X5_hasRoom
theorem dX5_letsIn_0 : decode cX5_letsIn 0 = .ok (.iload_n 2, 1) := by decide +kernel
theorem dX5_letsIn_1 : decode cX5_letsIn 1 = .ok (.aload_n 0, 1) := by decide +kernel
theorem dX5_letsIn_2 : decode cX5_letsIn 2 = .ok (.getfield 25, 3) := by decide +kernel
theorem dX5_letsIn_5 : decode cX5_letsIn 5 = .ok (.getfield 69, 3) := by decide +kernel
theorem dX5_letsIn_8 : decode cX5_letsIn 8 = .ok (.iload_n 1, 1) := by decide +kernel
theorem dX5_letsIn_9 : decode cX5_letsIn 9 = .ok (.iaload, 1) := by decide +kernel
theorem dX5_letsIn_10 : decode cX5_letsIn 10 = .ok (.if_icmp .eq 11, 3) := by decide +kernel
theorem dX5_letsIn_13 : decode cX5_letsIn 13 = .ok (.aload_n 0, 1) := by decide +kernel
theorem dX5_letsIn_14 : decode cX5_letsIn 14 = .ok (.iload_n 2, 1) := by decide +kernel
theorem dX5_letsIn_15 : decode cX5_letsIn 15 = .ok (.invokevirtual 98, 3) := by decide +kernel
theorem dX5_letsIn_18 : decode cX5_letsIn 18 = .ok (.ifCond .eq 7, 3) := by decide +kernel
theorem dX5_letsIn_21 : decode cX5_letsIn 21 = .ok (.iconst 1, 1) := by decide +kernel
theorem dX5_letsIn_22 : decode cX5_letsIn 22 = .ok (.goto 4, 3) := by decide +kernel
theorem dX5_letsIn_25 : decode cX5_letsIn 25 = .ok (.iconst 0, 1) := by decide +kernel
theorem dX5_letsIn_26 : decode cX5_letsIn 26 = .ok (.ireturn, 1) := by decide +kernel
set_option maxRecDepth 20000 in
theorem ggX5_connectedPairs_X0_boxes : GoodIn wsX5_connectedPairs wsX0_boxes := goodIn_r _ [6, 7, 8, 38, 39, 40] (by decide +kernel) (by decide +kernel)
set_option maxRecDepth 20000 in
theorem gX5_connectedPairs_X0_boxes : GoodIn wsX5_connectedPairs (wsV RX5 102 RX0 yX0_boxes wsX0_boxes) := goodIn_app (goodIn_of _ (by decide +kernel)) ggX5_connectedPairs_X0_boxes
set_option maxRecDepth 20000 in
theorem ggX5_connectedPairs_X5_wayLength : GoodIn wsX5_connectedPairs wsX5_wayLength := goodIn_r _ [13, 1, 14, 15, 16, 17, 18, 19, 20, 21, 22, 23, 24, 25, 26, 5, 27, 7, 28, 29, 30, 31, 32, 33, 34, 35, 36, 37, 41, 42, 43, 44, 45, 46, 38, 39, 40] (by decide +kernel) (by decide +kernel)
set_option maxRecDepth 20000 in
theorem gX5_connectedPairs_X5_wayLength : GoodIn wsX5_connectedPairs (wsV RX5 106 RX5 yX5_wayLength wsX5_wayLength) := goodIn_app (goodIn_of _ (by decide +kernel)) ggX5_connectedPairs_X5_wayLength
theorem dX5_connectedPairs_0 : decode cX5_connectedPairs 0 = .ok (.iconst 0, 1) := by decide +kernel
theorem dX5_connectedPairs_1 : decode cX5_connectedPairs 1 = .ok (.istore_n 2, 1) := by decide +kernel
theorem dX5_connectedPairs_2 : decode cX5_connectedPairs 2 = .ok (.aload_n 0, 1) := by decide +kernel
theorem dX5_connectedPairs_3 : decode cX5_connectedPairs 3 = .ok (.getfield 18, 3) := by decide +kernel
theorem dX5_connectedPairs_6 : decode cX5_connectedPairs 6 = .ok (.invokevirtual 102, 3) := by decide +kernel
theorem dX5_connectedPairs_9 : decode cX5_connectedPairs 9 = .ok (.istore_n 3, 1) := by decide +kernel
theorem dX5_connectedPairs_10 : decode cX5_connectedPairs 10 = .ok (.iconst 0, 1) := by decide +kernel
theorem dX5_connectedPairs_11 : decode cX5_connectedPairs 11 = .ok (.istore 4, 2) := by decide +kernel
theorem dX5_connectedPairs_13 : decode cX5_connectedPairs 13 = .ok (.iload 4, 2) := by decide +kernel
theorem dX5_connectedPairs_15 : decode cX5_connectedPairs 15 = .ok (.iload_n 3, 1) := by decide +kernel
theorem dX5_connectedPairs_16 : decode cX5_connectedPairs 16 = .ok (.if_icmp .ge 48, 3) := by decide +kernel
theorem dX5_connectedPairs_19 : decode cX5_connectedPairs 19 = .ok (.iconst 0, 1) := by decide +kernel
theorem dX5_connectedPairs_20 : decode cX5_connectedPairs 20 = .ok (.istore 5, 2) := by decide +kernel
theorem dX5_connectedPairs_22 : decode cX5_connectedPairs 22 = .ok (.iload 5, 2) := by decide +kernel
theorem dX5_connectedPairs_24 : decode cX5_connectedPairs 24 = .ok (.iload_n 3, 1) := by decide +kernel
theorem dX5_connectedPairs_25 : decode cX5_connectedPairs 25 = .ok (.if_icmp .ge 33, 3) := by decide +kernel
theorem dX5_connectedPairs_28 : decode cX5_connectedPairs 28 = .ok (.iload 4, 2) := by decide +kernel
theorem dX5_connectedPairs_30 : decode cX5_connectedPairs 30 = .ok (.iload 5, 2) := by decide +kernel
theorem dX5_connectedPairs_32 : decode cX5_connectedPairs 32 = .ok (.if_icmp .eq 20, 3) := by decide +kernel
theorem dX5_connectedPairs_35 : decode cX5_connectedPairs 35 = .ok (.aload_n 0, 1) := by decide +kernel
theorem dX5_connectedPairs_36 : decode cX5_connectedPairs 36 = .ok (.aload_n 1, 1) := by decide +kernel
theorem dX5_connectedPairs_37 : decode cX5_connectedPairs 37 = .ok (.iload 4, 2) := by decide +kernel
theorem dX5_connectedPairs_39 : decode cX5_connectedPairs 39 = .ok (.iload 5, 2) := by decide +kernel
theorem dX5_connectedPairs_41 : decode cX5_connectedPairs 41 = .ok (.invokevirtual 106, 3) := by decide +kernel
theorem dX5_connectedPairs_44 : decode cX5_connectedPairs 44 = .ok (.bipush (-6), 2) := by decide +kernel
theorem dX5_connectedPairs_46 : decode cX5_connectedPairs 46 = .ok (.if_icmp .eq 6, 3) := by decide +kernel
theorem dX5_connectedPairs_49 : decode cX5_connectedPairs 49 = .ok (.iinc 2 1, 3) := by decide +kernel
theorem dX5_connectedPairs_52 : decode cX5_connectedPairs 52 = .ok (.iinc 5 1, 3) := by decide +kernel
theorem dX5_connectedPairs_55 : decode cX5_connectedPairs 55 = .ok (.goto (-33), 3) := by decide +kernel
theorem dX5_connectedPairs_58 : decode cX5_connectedPairs 58 = .ok (.iinc 4 1, 3) := by decide +kernel
theorem dX5_connectedPairs_61 : decode cX5_connectedPairs 61 = .ok (.goto (-48), 3) := by decide +kernel
theorem dX5_connectedPairs_64 : decode cX5_connectedPairs 64 = .ok (.iload_n 2, 1) := by decide +kernel
theorem dX5_connectedPairs_65 : decode cX5_connectedPairs 65 = .ok (.ireturn, 1) := by decide +kernel
set_option maxRecDepth 20000 in
theorem ggX5_passTicks_X5_comesInside : GoodIn wsX5_passTicks wsX5_comesInside := goodIn_r _ [10, 1, 11, 3, 12, 13, 14, 15, 9, 16, 17, 86, 87, 88, 89, 90, 91, 92, 93, 94, 95, 96, 97, 98, 99, 100, 101, 102] (by decide +kernel) (by decide +kernel)
set_option maxRecDepth 20000 in
theorem gX5_passTicks_X5_comesInside : GoodIn wsX5_passTicks (wsV RX5 113 RX5 yX5_comesInside wsX5_comesInside) := goodIn_app (goodIn_of _ (by decide +kernel)) ggX5_passTicks_X5_comesInside
set_option maxRecDepth 20000 in
theorem ggX5_passTicks_X5_movesOn : GoodIn wsX5_passTicks wsX5_movesOn := goodIn_r _ [21, 1, 11, 22, 12, 23, 24, 3, 25, 5, 26, 27, 28, 9, 29, 30, 31, 32, 33, 34, 17, 35, 36, 37, 38, 39, 40, 41, 42, 43, 44, 45, 46, 47, 48, 49, 50, 51, 52, 53, 54, 55, 56, 57, 58, 59, 60, 61, 62, 63, 64, 65, 66, 67, 68, 69, 70, 71, 72, 73, 74, 75, 76, 13, 14, 15, 16, 77, 78, 79, 80, 81, 82, 83, 84, 85, 86, 87, 88, 89, 90, 91, 92, 93, 94, 95, 96, 97, 98, 99, 100, 101, 102, 103, 104, 105, 106, 107, 108, 109, 110, 111] (by decide +kernel) (by decide +kernel)
set_option maxRecDepth 20000 in
theorem gX5_passTicks_X5_movesOn : GoodIn wsX5_passTicks (wsV RX5 116 RX5 yX5_movesOn wsX5_movesOn) := goodIn_app (goodIn_of _ (by decide +kernel)) ggX5_passTicks_X5_movesOn
theorem dX5_passTicks_0 : decode cX5_passTicks 0 = .ok (.iconst 0, 1) := by decide +kernel
theorem dX5_passTicks_1 : decode cX5_passTicks 1 = .ok (.istore_n 3, 1) := by decide +kernel
theorem dX5_passTicks_2 : decode cX5_passTicks 2 = .ok (.iload_n 3, 1) := by decide +kernel
theorem dX5_passTicks_3 : decode cX5_passTicks 3 = .ok (.iload_n 2, 1) := by decide +kernel
theorem dX5_passTicks_4 : decode cX5_passTicks 4 = .ok (.if_icmp .ge 108, 3) := by decide +kernel
theorem dX5_passTicks_7 : decode cX5_passTicks 7 = .ok (.iconst 0, 1) := by decide +kernel
theorem dX5_passTicks_8 : decode cX5_passTicks 8 = .ok (.istore 4, 2) := by decide +kernel
theorem dX5_passTicks_10 : decode cX5_passTicks 10 = .ok (.iload 4, 2) := by decide +kernel
theorem dX5_passTicks_12 : decode cX5_passTicks 12 = .ok (.aload_n 0, 1) := by decide +kernel
theorem dX5_passTicks_13 : decode cX5_passTicks 13 = .ok (.getfield 25, 3) := by decide +kernel
theorem dX5_passTicks_16 : decode cX5_passTicks 16 = .ok (.getfield 110, 3) := by decide +kernel
theorem dX5_passTicks_19 : decode cX5_passTicks 19 = .ok (.if_icmp .ge 77, 3) := by decide +kernel
theorem dX5_passTicks_22 : decode cX5_passTicks 22 = .ok (.aload_n 0, 1) := by decide +kernel
theorem dX5_passTicks_23 : decode cX5_passTicks 23 = .ok (.getfield 25, 3) := by decide +kernel
theorem dX5_passTicks_26 : decode cX5_passTicks 26 = .ok (.getfield 88, 3) := by decide +kernel
theorem dX5_passTicks_29 : decode cX5_passTicks 29 = .ok (.iload 4, 2) := by decide +kernel
theorem dX5_passTicks_31 : decode cX5_passTicks 31 = .ok (.iaload, 1) := by decide +kernel
theorem dX5_passTicks_32 : decode cX5_passTicks 32 = .ok (.istore 5, 2) := by decide +kernel
theorem dX5_passTicks_34 : decode cX5_passTicks 34 = .ok (.iload 5, 2) := by decide +kernel
theorem dX5_passTicks_36 : decode cX5_passTicks 36 = .ok (.ifCond .ne 12, 3) := by decide +kernel
theorem dX5_passTicks_39 : decode cX5_passTicks 39 = .ok (.aload_n 0, 1) := by decide +kernel
theorem dX5_passTicks_40 : decode cX5_passTicks 40 = .ok (.iload 4, 2) := by decide +kernel
theorem dX5_passTicks_42 : decode cX5_passTicks 42 = .ok (.invokevirtual 113, 3) := by decide +kernel
theorem dX5_passTicks_45 : decode cX5_passTicks 45 = .ok (.ifCond .eq 19, 3) := by decide +kernel
theorem dX5_passTicks_48 : decode cX5_passTicks 48 = .ok (.iload 5, 2) := by decide +kernel
theorem dX5_passTicks_50 : decode cX5_passTicks 50 = .ok (.iconst 1, 1) := by decide +kernel
theorem dX5_passTicks_51 : decode cX5_passTicks 51 = .ok (.if_icmp .ne 17, 3) := by decide +kernel
theorem dX5_passTicks_54 : decode cX5_passTicks 54 = .ok (.aload_n 0, 1) := by decide +kernel
theorem dX5_passTicks_55 : decode cX5_passTicks 55 = .ok (.aload_n 1, 1) := by decide +kernel
theorem dX5_passTicks_56 : decode cX5_passTicks 56 = .ok (.iload 4, 2) := by decide +kernel
theorem dX5_passTicks_58 : decode cX5_passTicks 58 = .ok (.invokevirtual 116, 3) := by decide +kernel
theorem dX5_passTicks_61 : decode cX5_passTicks 61 = .ok (.ifCond .ne 7, 3) := by decide +kernel
theorem dX5_passTicks_64 : decode cX5_passTicks 64 = .ok (.iconst 1, 1) := by decide +kernel
theorem dX5_passTicks_65 : decode cX5_passTicks 65 = .ok (.goto 4, 3) := by decide +kernel
theorem dX5_passTicks_68 : decode cX5_passTicks 68 = .ok (.iconst 0, 1) := by decide +kernel
theorem dX5_passTicks_69 : decode cX5_passTicks 69 = .ok (.istore 6, 2) := by decide +kernel
theorem dX5_passTicks_71 : decode cX5_passTicks 71 = .ok (.iload 6, 2) := by decide +kernel
theorem dX5_passTicks_73 : decode cX5_passTicks 73 = .ok (.ifCond .eq 17, 3) := by decide +kernel
theorem dX5_passTicks_76 : decode cX5_passTicks 76 = .ok (.aload_n 0, 1) := by decide +kernel
theorem dX5_passTicks_77 : decode cX5_passTicks 77 = .ok (.getfield 25, 3) := by decide +kernel
theorem dX5_passTicks_80 : decode cX5_passTicks 80 = .ok (.getfield 120, 3) := by decide +kernel
theorem dX5_passTicks_83 : decode cX5_passTicks 83 = .ok (.iload 4, 2) := by decide +kernel
theorem dX5_passTicks_85 : decode cX5_passTicks 85 = .ok (.dup2, 1) := by decide +kernel
theorem dX5_passTicks_86 : decode cX5_passTicks 86 = .ok (.iaload, 1) := by decide +kernel
theorem dX5_passTicks_87 : decode cX5_passTicks 87 = .ok (.iconst 1, 1) := by decide +kernel
theorem dX5_passTicks_88 : decode cX5_passTicks 88 = .ok (.iadd, 1) := by decide +kernel
theorem dX5_passTicks_89 : decode cX5_passTicks 89 = .ok (.iastore, 1) := by decide +kernel
theorem dX5_passTicks_90 : decode cX5_passTicks 90 = .ok (.iinc 4 1, 3) := by decide +kernel
theorem dX5_passTicks_93 : decode cX5_passTicks 93 = .ok (.goto (-83), 3) := by decide +kernel
theorem dX5_passTicks_96 : decode cX5_passTicks 96 = .ok (.aload_n 0, 1) := by decide +kernel
theorem dX5_passTicks_97 : decode cX5_passTicks 97 = .ok (.dup, 1) := by decide +kernel
theorem dX5_passTicks_98 : decode cX5_passTicks 98 = .ok (.getfield 35, 3) := by decide +kernel
theorem dX5_passTicks_101 : decode cX5_passTicks 101 = .ok (.iconst 1, 1) := by decide +kernel
theorem dX5_passTicks_102 : decode cX5_passTicks 102 = .ok (.iadd, 1) := by decide +kernel
theorem dX5_passTicks_103 : decode cX5_passTicks 103 = .ok (.putfield 35, 3) := by decide +kernel
theorem dX5_passTicks_106 : decode cX5_passTicks 106 = .ok (.iinc 3 1, 3) := by decide +kernel
theorem dX5_passTicks_109 : decode cX5_passTicks 109 = .ok (.goto (-107), 3) := by decide +kernel
theorem dX5_passTicks_112 : decode cX5_passTicks 112 = .ok (.return_, 1) := by decide +kernel
set_option maxRecDepth 20000 in
theorem ggX5_comesInside_X5_hasRoom : GoodIn wsX5_comesInside wsX5_hasRoom := goodIn_r _ [9, 4, 10, 11, 12, 13, 14, 15, 16] (by decide +kernel) (by decide +kernel)
set_option maxRecDepth 20000 in
theorem gX5_comesInside_X5_hasRoom : GoodIn wsX5_comesInside (wsV RX5 98 RX5 yX5_hasRoom wsX5_hasRoom) := goodIn_app (goodIn_of _ (by decide +kernel)) ggX5_comesInside_X5_hasRoom
theorem dX5_comesInside_0 : decode cX5_comesInside 0 = .ok (.aload_n 0, 1) := by decide +kernel
theorem dX5_comesInside_1 : decode cX5_comesInside 1 = .ok (.getfield 25, 3) := by decide +kernel
theorem dX5_comesInside_4 : decode cX5_comesInside 4 = .ok (.getfield 63, 3) := by decide +kernel
theorem dX5_comesInside_7 : decode cX5_comesInside 7 = .ok (.iload_n 1, 1) := by decide +kernel
theorem dX5_comesInside_8 : decode cX5_comesInside 8 = .ok (.iaload, 1) := by decide +kernel
theorem dX5_comesInside_9 : decode cX5_comesInside 9 = .ok (.istore_n 2, 1) := by decide +kernel
theorem dX5_comesInside_10 : decode cX5_comesInside 10 = .ok (.aload_n 0, 1) := by decide +kernel
theorem dX5_comesInside_11 : decode cX5_comesInside 11 = .ok (.iload_n 2, 1) := by decide +kernel
theorem dX5_comesInside_12 : decode cX5_comesInside 12 = .ok (.invokevirtual 98, 3) := by decide +kernel
theorem dX5_comesInside_15 : decode cX5_comesInside 15 = .ok (.ifCond .ne 5, 3) := by decide +kernel
theorem dX5_comesInside_18 : decode cX5_comesInside 18 = .ok (.iconst 0, 1) := by decide +kernel
theorem dX5_comesInside_19 : decode cX5_comesInside 19 = .ok (.ireturn, 1) := by decide +kernel
theorem dX5_comesInside_20 : decode cX5_comesInside 20 = .ok (.aload_n 0, 1) := by decide +kernel
theorem dX5_comesInside_21 : decode cX5_comesInside 21 = .ok (.getfield 25, 3) := by decide +kernel
theorem dX5_comesInside_24 : decode cX5_comesInside 24 = .ok (.getfield 88, 3) := by decide +kernel
theorem dX5_comesInside_27 : decode cX5_comesInside 27 = .ok (.iload_n 1, 1) := by decide +kernel
theorem dX5_comesInside_28 : decode cX5_comesInside 28 = .ok (.iconst 1, 1) := by decide +kernel
theorem dX5_comesInside_29 : decode cX5_comesInside 29 = .ok (.iastore, 1) := by decide +kernel
theorem dX5_comesInside_30 : decode cX5_comesInside 30 = .ok (.aload_n 0, 1) := by decide +kernel
theorem dX5_comesInside_31 : decode cX5_comesInside 31 = .ok (.getfield 29, 3) := by decide +kernel
theorem dX5_comesInside_34 : decode cX5_comesInside 34 = .ok (.iload_n 2, 1) := by decide +kernel
theorem dX5_comesInside_35 : decode cX5_comesInside 35 = .ok (.dup2, 1) := by decide +kernel
theorem dX5_comesInside_36 : decode cX5_comesInside 36 = .ok (.iaload, 1) := by decide +kernel
theorem dX5_comesInside_37 : decode cX5_comesInside 37 = .ok (.iconst 1, 1) := by decide +kernel
theorem dX5_comesInside_38 : decode cX5_comesInside 38 = .ok (.iadd, 1) := by decide +kernel
theorem dX5_comesInside_39 : decode cX5_comesInside 39 = .ok (.iastore, 1) := by decide +kernel
theorem dX5_comesInside_40 : decode cX5_comesInside 40 = .ok (.iconst 1, 1) := by decide +kernel
theorem dX5_comesInside_41 : decode cX5_comesInside 41 = .ok (.ireturn, 1) := by decide +kernel
set_option maxRecDepth 20000 in
theorem ggX5_movesOn_X5_firstSide : GoodIn wsX5_movesOn wsX5_firstSide := goodIn_r _ [14, 1, 7, 2, 15, 3, 16, 17, 18, 13, 19, 20, 21, 22, 23, 24, 25, 6, 26, 27, 28, 29, 30, 31, 32, 33, 34, 35, 36, 37, 38, 39, 40, 41, 42, 43, 44, 45, 46, 47, 48, 49, 50, 51, 52, 53, 54, 55, 56, 57, 58, 59, 60, 61, 62, 63, 64, 65, 66, 4, 76, 77, 78, 79, 80, 81, 82, 83, 84, 85, 86, 87, 88, 89, 90, 91, 92, 93, 94, 95, 96, 97, 98, 99, 100, 101] (by decide +kernel) (by decide +kernel)
set_option maxRecDepth 20000 in
theorem gX5_movesOn_X5_firstSide : GoodIn wsX5_movesOn (wsV RX5 123 RX5 yX5_firstSide wsX5_firstSide) := goodIn_app (goodIn_of _ (by decide +kernel)) ggX5_movesOn_X5_firstSide
set_option maxRecDepth 20000 in
theorem ggX5_movesOn_X4_boxBehind : GoodIn wsX5_movesOn wsX4_boxBehind := goodIn_r _ [43, 44, 96, 97, 98, 99, 100, 101] (by decide +kernel) (by decide +kernel)
set_option maxRecDepth 20000 in
theorem gX5_movesOn_X4_boxBehind : GoodIn wsX5_movesOn (wsV RX5 91 RX4 yX4_boxBehind wsX4_boxBehind) := goodIn_app (goodIn_of _ (by decide +kernel)) ggX5_movesOn_X4_boxBehind
set_option maxRecDepth 20000 in
theorem ggX5_movesOn_X0_distance : GoodIn wsX5_movesOn wsX0_distance := goodIn_r _ [30, 31, 32, 33, 24, 34, 93, 94, 95] (by decide +kernel) (by decide +kernel)
set_option maxRecDepth 20000 in
theorem gX5_movesOn_X0_distance : GoodIn wsX5_movesOn (wsV RX5 59 RX0 yX0_distance wsX0_distance) := goodIn_app (goodIn_of _ (by decide +kernel)) ggX5_movesOn_X0_distance
set_option maxRecDepth 20000 in
theorem ggX5_movesOn_X2_noteMove : GoodIn wsX5_movesOn wsX2_noteMove := goodIn_r _ [71, 72, 73, 74, 75, 82, 83, 84, 85, 86, 87, 88, 89, 90, 91, 92] (by decide +kernel) (by decide +kernel)
set_option maxRecDepth 20000 in
theorem gX5_movesOn_X2_noteMove : GoodIn wsX5_movesOn (wsV RX5 127 RX2 yX2_noteMove wsX2_noteMove) := goodIn_app (goodIn_of _ (by decide +kernel)) ggX5_movesOn_X2_noteMove
theorem dX5_movesOn_0 : decode cX5_movesOn 0 = .ok (.aload_n 0, 1) := by decide +kernel
theorem dX5_movesOn_1 : decode cX5_movesOn 1 = .ok (.aload_n 1, 1) := by decide +kernel
theorem dX5_movesOn_2 : decode cX5_movesOn 2 = .ok (.iload_n 2, 1) := by decide +kernel
theorem dX5_movesOn_3 : decode cX5_movesOn 3 = .ok (.iconst 1, 1) := by decide +kernel
theorem dX5_movesOn_4 : decode cX5_movesOn 4 = .ok (.invokevirtual 123, 3) := by decide +kernel
theorem dX5_movesOn_7 : decode cX5_movesOn 7 = .ok (.istore_n 3, 1) := by decide +kernel
theorem dX5_movesOn_8 : decode cX5_movesOn 8 = .ok (.iload_n 3, 1) := by decide +kernel
theorem dX5_movesOn_9 : decode cX5_movesOn 9 = .ok (.bipush (-6), 2) := by decide +kernel
theorem dX5_movesOn_11 : decode cX5_movesOn 11 = .ok (.if_icmp .ne 5, 3) := by decide +kernel
theorem dX5_movesOn_14 : decode cX5_movesOn 14 = .ok (.iconst 0, 1) := by decide +kernel
theorem dX5_movesOn_15 : decode cX5_movesOn 15 = .ok (.ireturn, 1) := by decide +kernel
theorem dX5_movesOn_16 : decode cX5_movesOn 16 = .ok (.aload_n 0, 1) := by decide +kernel
theorem dX5_movesOn_17 : decode cX5_movesOn 17 = .ok (.getfield 25, 3) := by decide +kernel
theorem dX5_movesOn_20 : decode cX5_movesOn 20 = .ok (.getfield 63, 3) := by decide +kernel
theorem dX5_movesOn_23 : decode cX5_movesOn 23 = .ok (.iload_n 2, 1) := by decide +kernel
theorem dX5_movesOn_24 : decode cX5_movesOn 24 = .ok (.iaload, 1) := by decide +kernel
theorem dX5_movesOn_25 : decode cX5_movesOn 25 = .ok (.istore 4, 2) := by decide +kernel
theorem dX5_movesOn_27 : decode cX5_movesOn 27 = .ok (.aload_n 0, 1) := by decide +kernel
theorem dX5_movesOn_28 : decode cX5_movesOn 28 = .ok (.getfield 25, 3) := by decide +kernel
theorem dX5_movesOn_31 : decode cX5_movesOn 31 = .ok (.getfield 69, 3) := by decide +kernel
theorem dX5_movesOn_34 : decode cX5_movesOn 34 = .ok (.iload_n 2, 1) := by decide +kernel
theorem dX5_movesOn_35 : decode cX5_movesOn 35 = .ok (.iaload, 1) := by decide +kernel
theorem dX5_movesOn_36 : decode cX5_movesOn 36 = .ok (.istore 5, 2) := by decide +kernel
theorem dX5_movesOn_38 : decode cX5_movesOn 38 = .ok (.aload_n 1, 1) := by decide +kernel
theorem dX5_movesOn_39 : decode cX5_movesOn 39 = .ok (.iload 4, 2) := by decide +kernel
theorem dX5_movesOn_41 : decode cX5_movesOn 41 = .ok (.iload_n 3, 1) := by decide +kernel
theorem dX5_movesOn_42 : decode cX5_movesOn 42 = .ok (.invokevirtual 91, 3) := by decide +kernel
theorem dX5_movesOn_45 : decode cX5_movesOn 45 = .ok (.istore 6, 2) := by decide +kernel
theorem dX5_movesOn_47 : decode cX5_movesOn 47 = .ok (.aload_n 0, 1) := by decide +kernel
theorem dX5_movesOn_48 : decode cX5_movesOn 48 = .ok (.getfield 29, 3) := by decide +kernel
theorem dX5_movesOn_51 : decode cX5_movesOn 51 = .ok (.iload 4, 2) := by decide +kernel
theorem dX5_movesOn_53 : decode cX5_movesOn 53 = .ok (.dup2, 1) := by decide +kernel
theorem dX5_movesOn_54 : decode cX5_movesOn 54 = .ok (.iaload, 1) := by decide +kernel
theorem dX5_movesOn_55 : decode cX5_movesOn 55 = .ok (.iconst 1, 1) := by decide +kernel
theorem dX5_movesOn_56 : decode cX5_movesOn 56 = .ok (.isub, 1) := by decide +kernel
theorem dX5_movesOn_57 : decode cX5_movesOn 57 = .ok (.iastore, 1) := by decide +kernel
theorem dX5_movesOn_58 : decode cX5_movesOn 58 = .ok (.aload_n 0, 1) := by decide +kernel
theorem dX5_movesOn_59 : decode cX5_movesOn 59 = .ok (.getfield 32, 3) := by decide +kernel
theorem dX5_movesOn_62 : decode cX5_movesOn 62 = .ok (.iload 4, 2) := by decide +kernel
theorem dX5_movesOn_64 : decode cX5_movesOn 64 = .ok (.iconst 4, 1) := by decide +kernel
theorem dX5_movesOn_65 : decode cX5_movesOn 65 = .ok (.imul, 1) := by decide +kernel
theorem dX5_movesOn_66 : decode cX5_movesOn 66 = .ok (.iload_n 3, 1) := by decide +kernel
theorem dX5_movesOn_67 : decode cX5_movesOn 67 = .ok (.iadd, 1) := by decide +kernel
theorem dX5_movesOn_68 : decode cX5_movesOn 68 = .ok (.dup2, 1) := by decide +kernel
theorem dX5_movesOn_69 : decode cX5_movesOn 69 = .ok (.iaload, 1) := by decide +kernel
theorem dX5_movesOn_70 : decode cX5_movesOn 70 = .ok (.iconst 1, 1) := by decide +kernel
theorem dX5_movesOn_71 : decode cX5_movesOn 71 = .ok (.iadd, 1) := by decide +kernel
theorem dX5_movesOn_72 : decode cX5_movesOn 72 = .ok (.iastore, 1) := by decide +kernel
theorem dX5_movesOn_73 : decode cX5_movesOn 73 = .ok (.aload_n 0, 1) := by decide +kernel
theorem dX5_movesOn_74 : decode cX5_movesOn 74 = .ok (.getfield 25, 3) := by decide +kernel
theorem dX5_movesOn_77 : decode cX5_movesOn 77 = .ok (.iload_n 2, 1) := by decide +kernel
theorem dX5_movesOn_78 : decode cX5_movesOn 78 = .ok (.iload 6, 2) := by decide +kernel
theorem dX5_movesOn_80 : decode cX5_movesOn 80 = .ok (.iload_n 3, 1) := by decide +kernel
theorem dX5_movesOn_81 : decode cX5_movesOn 81 = .ok (.aload_n 0, 1) := by decide +kernel
theorem dX5_movesOn_82 : decode cX5_movesOn 82 = .ok (.getfield 18, 3) := by decide +kernel
theorem dX5_movesOn_85 : decode cX5_movesOn 85 = .ok (.iload 6, 2) := by decide +kernel
theorem dX5_movesOn_87 : decode cX5_movesOn 87 = .ok (.iload 5, 2) := by decide +kernel
theorem dX5_movesOn_89 : decode cX5_movesOn 89 = .ok (.invokevirtual 59, 3) := by decide +kernel
theorem dX5_movesOn_92 : decode cX5_movesOn 92 = .ok (.aload_n 0, 1) := by decide +kernel
theorem dX5_movesOn_93 : decode cX5_movesOn 93 = .ok (.getfield 18, 3) := by decide +kernel
theorem dX5_movesOn_96 : decode cX5_movesOn 96 = .ok (.iload 4, 2) := by decide +kernel
theorem dX5_movesOn_98 : decode cX5_movesOn 98 = .ok (.iload 5, 2) := by decide +kernel
theorem dX5_movesOn_100 : decode cX5_movesOn 100 = .ok (.invokevirtual 59, 3) := by decide +kernel
theorem dX5_movesOn_103 : decode cX5_movesOn 103 = .ok (.if_icmp .le 7, 3) := by decide +kernel
theorem dX5_movesOn_106 : decode cX5_movesOn 106 = .ok (.iconst 1, 1) := by decide +kernel
theorem dX5_movesOn_107 : decode cX5_movesOn 107 = .ok (.goto 4, 3) := by decide +kernel
theorem dX5_movesOn_110 : decode cX5_movesOn 110 = .ok (.iconst 0, 1) := by decide +kernel
theorem dX5_movesOn_111 : decode cX5_movesOn 111 = .ok (.invokevirtual 127, 3) := by decide +kernel
theorem dX5_movesOn_114 : decode cX5_movesOn 114 = .ok (.iload 6, 2) := by decide +kernel
theorem dX5_movesOn_116 : decode cX5_movesOn 116 = .ok (.iload 5, 2) := by decide +kernel
theorem dX5_movesOn_118 : decode cX5_movesOn 118 = .ok (.if_icmp .ne 29, 3) := by decide +kernel
theorem dX5_movesOn_121 : decode cX5_movesOn 121 = .ok (.aload_n 0, 1) := by decide +kernel
theorem dX5_movesOn_122 : decode cX5_movesOn 122 = .ok (.getfield 25, 3) := by decide +kernel
theorem dX5_movesOn_125 : decode cX5_movesOn 125 = .ok (.getfield 88, 3) := by decide +kernel
theorem dX5_movesOn_128 : decode cX5_movesOn 128 = .ok (.iload_n 2, 1) := by decide +kernel
theorem dX5_movesOn_129 : decode cX5_movesOn 129 = .ok (.iconst 2, 1) := by decide +kernel
theorem dX5_movesOn_130 : decode cX5_movesOn 130 = .ok (.iastore, 1) := by decide +kernel
theorem dX5_movesOn_131 : decode cX5_movesOn 131 = .ok (.aload_n 0, 1) := by decide +kernel
theorem dX5_movesOn_132 : decode cX5_movesOn 132 = .ok (.getfield 25, 3) := by decide +kernel
theorem dX5_movesOn_135 : decode cX5_movesOn 135 = .ok (.getfield 131, 3) := by decide +kernel
theorem dX5_movesOn_138 : decode cX5_movesOn 138 = .ok (.iload_n 2, 1) := by decide +kernel
theorem dX5_movesOn_139 : decode cX5_movesOn 139 = .ok (.aload_n 0, 1) := by decide +kernel
theorem dX5_movesOn_140 : decode cX5_movesOn 140 = .ok (.getfield 35, 3) := by decide +kernel
theorem dX5_movesOn_143 : decode cX5_movesOn 143 = .ok (.iastore, 1) := by decide +kernel
theorem dX5_movesOn_144 : decode cX5_movesOn 144 = .ok (.goto 14, 3) := by decide +kernel
theorem dX5_movesOn_147 : decode cX5_movesOn 147 = .ok (.aload_n 0, 1) := by decide +kernel
theorem dX5_movesOn_148 : decode cX5_movesOn 148 = .ok (.getfield 29, 3) := by decide +kernel
theorem dX5_movesOn_151 : decode cX5_movesOn 151 = .ok (.iload 6, 2) := by decide +kernel
theorem dX5_movesOn_153 : decode cX5_movesOn 153 = .ok (.dup2, 1) := by decide +kernel
theorem dX5_movesOn_154 : decode cX5_movesOn 154 = .ok (.iaload, 1) := by decide +kernel
theorem dX5_movesOn_155 : decode cX5_movesOn 155 = .ok (.iconst 1, 1) := by decide +kernel
theorem dX5_movesOn_156 : decode cX5_movesOn 156 = .ok (.iadd, 1) := by decide +kernel
theorem dX5_movesOn_157 : decode cX5_movesOn 157 = .ok (.iastore, 1) := by decide +kernel
theorem dX5_movesOn_158 : decode cX5_movesOn 158 = .ok (.iconst 1, 1) := by decide +kernel
theorem dX5_movesOn_159 : decode cX5_movesOn 159 = .ok (.ireturn, 1) := by decide +kernel
set_option maxRecDepth 20000 in
theorem ggX6_init_X5_init : GoodIn wsX6_init wsX5_init := goodIn_r _ [28, 29, 2, 3, 30, 31, 32, 33, 34, 35, 36, 37, 38, 39, 40, 41, 42, 43, 44, 45, 46, 47, 48, 49, 50, 51, 52, 53, 54, 55, 56, 57, 58, 59, 60, 61, 62, 145, 146, 147, 148, 149, 150, 175, 176, 177, 178, 179, 180, 181, 182, 183, 184, 185, 186, 187, 188] (by decide +kernel) (by decide +kernel)
set_option maxRecDepth 20000 in
theorem gX6_init_X5_init_n11 : GoodIn wsX6_init (wsX5_init) := ggX6_init_X5_init
set_option maxRecDepth 20000 in
theorem ggX6_init_X4_init : GoodIn wsX6_init wsX4_init := goodIn_r _ [64, 65, 2, 3, 66, 30, 67, 68, 69, 70, 71, 161, 162, 163, 164, 165, 166] (by decide +kernel) (by decide +kernel)
set_option maxRecDepth 20000 in
theorem gX6_init_X4_init_n18 : GoodIn wsX6_init (wsX4_init) := ggX6_init_X4_init
set_option maxRecDepth 20000 in
theorem ggX6_init_X1_init : GoodIn wsX6_init wsX1_init := goodIn_r _ [73, 74, 2, 3, 25, 75, 167] (by decide +kernel) (by decide +kernel)
set_option maxRecDepth 20000 in
theorem gX6_init_X1_init_n31 : GoodIn wsX6_init (wsX1_init) := ggX6_init_X1_init
set_option maxRecDepth 20000 in
theorem ggX6_init_X3_init : GoodIn wsX6_init wsX3_init := goodIn_r _ [77, 78, 2, 3, 79, 80, 81, 82, 30, 83, 84, 85, 86, 168, 169, 170, 171, 172, 173, 174] (by decide +kernel) (by decide +kernel)
set_option maxRecDepth 20000 in
theorem gX6_init_X3_init_n38 : GoodIn wsX6_init (wsX3_init) := ggX6_init_X3_init
set_option maxRecDepth 20000 in
theorem ggX6_init_X6_learnRoutes : GoodIn wsX6_init wsX6_learnRoutes := goodIn_r _ [91, 11, 7, 92, 93, 94, 95, 96, 10, 97, 66, 67, 98, 99, 100, 34, 101, 46, 47, 102, 103, 104, 105, 106, 107, 108, 109, 110, 111, 112, 113, 114, 115, 116, 117, 48, 118, 119, 120, 121, 122, 68, 69, 71, 70, 123, 124, 125, 126, 127, 128, 129, 130, 131, 132, 133, 134, 135, 136, 137, 138, 139, 140, 141, 142, 143, 144, 151, 152, 153, 154, 155, 156, 157, 158, 159, 160, 145, 146, 147, 148, 149, 150, 161, 162, 163, 164, 165, 166, 175, 176, 177] (by decide +kernel) (by decide +kernel)
set_option maxRecDepth 20000 in
theorem gX6_init_X6_learnRoutes : GoodIn wsX6_init (wsV RX6 58 RX6 yX6_learnRoutes wsX6_learnRoutes) := goodIn_app (goodIn_of _ (by decide +kernel)) ggX6_init_X6_learnRoutes
theorem dX6_init_0 : decode cX6_init 0 = .ok (.aload_n 0, 1) := by decide +kernel
theorem dX6_init_1 : decode cX6_init 1 = .ok (.invokespecial 3, 3) := by decide +kernel
theorem dX6_init_4 : decode cX6_init 4 = .ok (.aload_n 0, 1) := by decide +kernel
theorem dX6_init_5 : decode cX6_init 5 = .ok (.new 9, 3) := by decide +kernel
theorem dX6_init_8 : decode cX6_init 8 = .ok (.dup, 1) := by decide +kernel
theorem dX6_init_9 : decode cX6_init 9 = .ok (.invokespecial 11, 3) := by decide +kernel
theorem dX6_init_12 : decode cX6_init 12 = .ok (.putfield 12, 3) := by decide +kernel
theorem dX6_init_15 : decode cX6_init 15 = .ok (.aload_n 0, 1) := by decide +kernel
theorem dX6_init_16 : decode cX6_init 16 = .ok (.new 16, 3) := by decide +kernel
theorem dX6_init_19 : decode cX6_init 19 = .ok (.dup, 1) := by decide +kernel
theorem dX6_init_20 : decode cX6_init 20 = .ok (.invokespecial 18, 3) := by decide +kernel
theorem dX6_init_23 : decode cX6_init 23 = .ok (.putfield 19, 3) := by decide +kernel
theorem dX6_init_26 : decode cX6_init 26 = .ok (.aload_n 0, 1) := by decide +kernel
theorem dX6_init_27 : decode cX6_init 27 = .ok (.new 9, 3) := by decide +kernel
theorem dX6_init_30 : decode cX6_init 30 = .ok (.dup, 1) := by decide +kernel
theorem dX6_init_31 : decode cX6_init 31 = .ok (.invokespecial 11, 3) := by decide +kernel
theorem dX6_init_34 : decode cX6_init 34 = .ok (.putfield 23, 3) := by decide +kernel
theorem dX6_init_37 : decode cX6_init 37 = .ok (.aload_n 0, 1) := by decide +kernel
theorem dX6_init_38 : decode cX6_init 38 = .ok (.new 16, 3) := by decide +kernel
theorem dX6_init_41 : decode cX6_init 41 = .ok (.dup, 1) := by decide +kernel
theorem dX6_init_42 : decode cX6_init 42 = .ok (.invokespecial 18, 3) := by decide +kernel
theorem dX6_init_45 : decode cX6_init 45 = .ok (.putfield 26, 3) := by decide +kernel
theorem dX6_init_48 : decode cX6_init 48 = .ok (.aload_n 0, 1) := by decide +kernel
theorem dX6_init_49 : decode cX6_init 49 = .ok (.new 29, 3) := by decide +kernel
theorem dX6_init_52 : decode cX6_init 52 = .ok (.dup, 1) := by decide +kernel
theorem dX6_init_53 : decode cX6_init 53 = .ok (.invokespecial 31, 3) := by decide +kernel
theorem dX6_init_56 : decode cX6_init 56 = .ok (.putfield 32, 3) := by decide +kernel
theorem dX6_init_59 : decode cX6_init 59 = .ok (.aload_n 0, 1) := by decide +kernel
theorem dX6_init_60 : decode cX6_init 60 = .ok (.new 36, 3) := by decide +kernel
theorem dX6_init_63 : decode cX6_init 63 = .ok (.dup, 1) := by decide +kernel
theorem dX6_init_64 : decode cX6_init 64 = .ok (.invokespecial 38, 3) := by decide +kernel
theorem dX6_init_67 : decode cX6_init 67 = .ok (.putfield 39, 3) := by decide +kernel
theorem dX6_init_70 : decode cX6_init 70 = .ok (.aload_n 0, 1) := by decide +kernel
theorem dX6_init_71 : decode cX6_init 71 = .ok (.bipush 6, 2) := by decide +kernel
theorem dX6_init_73 : decode cX6_init 73 = .ok (.anewarray 9, 3) := by decide +kernel
theorem dX6_init_76 : decode cX6_init 76 = .ok (.putfield 43, 3) := by decide +kernel
theorem dX6_init_79 : decode cX6_init 79 = .ok (.aload_n 0, 1) := by decide +kernel
theorem dX6_init_80 : decode cX6_init 80 = .ok (.iconst 0, 1) := by decide +kernel
theorem dX6_init_81 : decode cX6_init 81 = .ok (.putfield 47, 3) := by decide +kernel
theorem dX6_init_84 : decode cX6_init 84 = .ok (.aload_n 0, 1) := by decide +kernel
theorem dX6_init_85 : decode cX6_init 85 = .ok (.iconst 2, 1) := by decide +kernel
theorem dX6_init_86 : decode cX6_init 86 = .ok (.anewarray 9, 3) := by decide +kernel
theorem dX6_init_89 : decode cX6_init 89 = .ok (.putfield 51, 3) := by decide +kernel
theorem dX6_init_92 : decode cX6_init 92 = .ok (.aload_n 0, 1) := by decide +kernel
theorem dX6_init_93 : decode cX6_init 93 = .ok (.iconst 2, 1) := by decide +kernel
theorem dX6_init_94 : decode cX6_init 94 = .ok (.newarray .boolean, 2) := by decide +kernel
theorem dX6_init_96 : decode cX6_init 96 = .ok (.putfield 54, 3) := by decide +kernel
theorem dX6_init_99 : decode cX6_init 99 = .ok (.iconst 0, 1) := by decide +kernel
theorem dX6_init_100 : decode cX6_init 100 = .ok (.istore_n 1, 1) := by decide +kernel
theorem dX6_init_101 : decode cX6_init 101 = .ok (.iload_n 1, 1) := by decide +kernel
theorem dX6_init_102 : decode cX6_init 102 = .ok (.bipush 6, 2) := by decide +kernel
theorem dX6_init_104 : decode cX6_init 104 = .ok (.if_icmp .ge 22, 3) := by decide +kernel
theorem dX6_init_107 : decode cX6_init 107 = .ok (.aload_n 0, 1) := by decide +kernel
theorem dX6_init_108 : decode cX6_init 108 = .ok (.getfield 43, 3) := by decide +kernel
theorem dX6_init_111 : decode cX6_init 111 = .ok (.iload_n 1, 1) := by decide +kernel
theorem dX6_init_112 : decode cX6_init 112 = .ok (.new 9, 3) := by decide +kernel
theorem dX6_init_115 : decode cX6_init 115 = .ok (.dup, 1) := by decide +kernel
theorem dX6_init_116 : decode cX6_init 116 = .ok (.invokespecial 11, 3) := by decide +kernel
theorem dX6_init_119 : decode cX6_init 119 = .ok (.aastore, 1) := by decide +kernel
theorem dX6_init_120 : decode cX6_init 120 = .ok (.iinc 1 1, 3) := by decide +kernel
theorem dX6_init_123 : decode cX6_init 123 = .ok (.goto (-22), 3) := by decide +kernel
theorem dX6_init_126 : decode cX6_init 126 = .ok (.iconst 0, 1) := by decide +kernel
theorem dX6_init_127 : decode cX6_init 127 = .ok (.istore_n 1, 1) := by decide +kernel
theorem dX6_init_128 : decode cX6_init 128 = .ok (.iload_n 1, 1) := by decide +kernel
theorem dX6_init_129 : decode cX6_init 129 = .ok (.iconst 2, 1) := by decide +kernel
theorem dX6_init_130 : decode cX6_init 130 = .ok (.if_icmp .ge 22, 3) := by decide +kernel
theorem dX6_init_133 : decode cX6_init 133 = .ok (.aload_n 0, 1) := by decide +kernel
theorem dX6_init_134 : decode cX6_init 134 = .ok (.getfield 51, 3) := by decide +kernel
theorem dX6_init_137 : decode cX6_init 137 = .ok (.iload_n 1, 1) := by decide +kernel
theorem dX6_init_138 : decode cX6_init 138 = .ok (.new 9, 3) := by decide +kernel
theorem dX6_init_141 : decode cX6_init 141 = .ok (.dup, 1) := by decide +kernel
theorem dX6_init_142 : decode cX6_init 142 = .ok (.invokespecial 11, 3) := by decide +kernel
theorem dX6_init_145 : decode cX6_init 145 = .ok (.aastore, 1) := by decide +kernel
theorem dX6_init_146 : decode cX6_init 146 = .ok (.iinc 1 1, 3) := by decide +kernel
theorem dX6_init_149 : decode cX6_init 149 = .ok (.goto (-21), 3) := by decide +kernel
theorem dX6_init_152 : decode cX6_init 152 = .ok (.aload_n 0, 1) := by decide +kernel
theorem dX6_init_153 : decode cX6_init 153 = .ok (.invokevirtual 58, 3) := by decide +kernel
theorem dX6_init_156 : decode cX6_init 156 = .ok (.return_, 1) := by decide +kernel
set_option maxRecDepth 20000 in
theorem ggX6_set_X6_leastOfSetting : GoodIn wsX6_set wsX6_leastOfSetting := goodIn_r _ [6] (by decide +kernel) (by decide +kernel)
set_option maxRecDepth 20000 in
theorem gX6_set_X6_leastOfSetting : GoodIn wsX6_set (va_wsS RX6 61 yX6_leastOfSetting wsX6_leastOfSetting) := goodIn_app (goodIn_of _ (by decide +kernel)) ggX6_set_X6_leastOfSetting
set_option maxRecDepth 20000 in
theorem ggX6_set_X6_mostOfSetting : GoodIn wsX6_set wsX6_mostOfSetting := goodIn_r _ [9] (by decide +kernel) (by decide +kernel)
set_option maxRecDepth 20000 in
theorem gX6_set_X6_mostOfSetting : GoodIn wsX6_set (va_wsS RX6 65 yX6_mostOfSetting wsX6_mostOfSetting) := goodIn_app (goodIn_of _ (by decide +kernel)) ggX6_set_X6_mostOfSetting
set_option maxRecDepth 20000 in
theorem ggX6_set_X6_recordState : GoodIn wsX6_set wsX6_recordState := goodIn_r _ [13, 14, 1, 15, 16, 17, 18, 5, 19, 20, 21, 22, 23, 24, 25, 26, 27, 28, 29, 30, 31, 32, 33, 34, 35, 36, 37, 38, 39, 40, 41, 42, 43, 44, 45, 46, 47, 48, 49, 50, 51, 52, 53, 54, 55, 56, 57, 58, 123, 124, 125, 126, 127, 128, 129, 130, 131, 132, 133, 134, 135, 136, 137, 138, 139, 140, 141, 142, 143, 144, 145, 146, 147, 148, 149, 150, 151, 152] (by decide +kernel) (by decide +kernel)
set_option maxRecDepth 20000 in
theorem gX6_set_X6_recordState : GoodIn wsX6_set (wsV RX6 68 RX6 yX6_recordState wsX6_recordState) := goodIn_app (goodIn_of _ (by decide +kernel)) ggX6_set_X6_recordState
set_option maxRecDepth 20000 in
theorem ggX6_set_X6_learnRoutes : GoodIn wsX6_set wsX6_learnRoutes := goodIn_r _ [62, 63, 1, 64, 2, 65, 66, 67, 68, 69, 70, 71, 72, 73, 74, 37, 75, 39, 40, 76, 77, 78, 79, 80, 81, 82, 83, 84, 85, 86, 87, 88, 89, 90, 91, 41, 92, 93, 94, 95, 96, 97, 98, 99, 100, 101, 102, 103, 104, 105, 106, 107, 108, 109, 110, 111, 112, 113, 114, 115, 116, 117, 118, 119, 120, 121, 122, 123, 124, 125, 126, 127, 128, 129, 130, 131, 132, 133, 134, 135, 136, 137, 138, 153, 154, 155, 156, 157, 158, 139, 140, 141] (by decide +kernel) (by decide +kernel)
set_option maxRecDepth 20000 in
theorem gX6_set_X6_learnRoutes : GoodIn wsX6_set (wsV RX6 58 RX6 yX6_learnRoutes wsX6_learnRoutes) := goodIn_app (goodIn_of _ (by decide +kernel)) ggX6_set_X6_learnRoutes
theorem dX6_set_0 : decode cX6_set 0 = .ok (.iload_n 1, 1) := by decide +kernel
theorem dX6_set_1 : decode cX6_set 1 = .ok (.ifCond .lt 8, 3) := by decide +kernel
theorem dX6_set_4 : decode cX6_set 4 = .ok (.iload_n 1, 1) := by decide +kernel
theorem dX6_set_5 : decode cX6_set 5 = .ok (.iconst 3, 1) := by decide +kernel
theorem dX6_set_6 : decode cX6_set 6 = .ok (.if_icmp .lt 6, 3) := by decide +kernel
theorem dX6_set_9 : decode cX6_set 9 = .ok (.bipush (-2), 2) := by decide +kernel
theorem dX6_set_11 : decode cX6_set 11 = .ok (.ireturn, 1) := by decide +kernel
theorem dX6_set_12 : decode cX6_set 12 = .ok (.iload_n 2, 1) := by decide +kernel
theorem dX6_set_13 : decode cX6_set 13 = .ok (.iload_n 1, 1) := by decide +kernel
theorem dX6_set_14 : decode cX6_set 14 = .ok (.invokestatic 61, 3) := by decide +kernel
theorem dX6_set_17 : decode cX6_set 17 = .ok (.if_icmp .lt 11, 3) := by decide +kernel
theorem dX6_set_20 : decode cX6_set 20 = .ok (.iload_n 2, 1) := by decide +kernel
theorem dX6_set_21 : decode cX6_set 21 = .ok (.iload_n 1, 1) := by decide +kernel
theorem dX6_set_22 : decode cX6_set 22 = .ok (.invokestatic 65, 3) := by decide +kernel
theorem dX6_set_25 : decode cX6_set 25 = .ok (.if_icmp .le 6, 3) := by decide +kernel
theorem dX6_set_28 : decode cX6_set 28 = .ok (.bipush (-2), 2) := by decide +kernel
theorem dX6_set_30 : decode cX6_set 30 = .ok (.ireturn, 1) := by decide +kernel
theorem dX6_set_31 : decode cX6_set 31 = .ok (.aload_n 0, 1) := by decide +kernel
theorem dX6_set_32 : decode cX6_set 32 = .ok (.invokevirtual 68, 3) := by decide +kernel
theorem dX6_set_35 : decode cX6_set 35 = .ok (.aload_n 0, 1) := by decide +kernel
theorem dX6_set_36 : decode cX6_set 36 = .ok (.getfield 12, 3) := by decide +kernel
theorem dX6_set_39 : decode cX6_set 39 = .ok (.getfield 71, 3) := by decide +kernel
theorem dX6_set_42 : decode cX6_set 42 = .ok (.iload_n 1, 1) := by decide +kernel
theorem dX6_set_43 : decode cX6_set 43 = .ok (.iaload, 1) := by decide +kernel
theorem dX6_set_44 : decode cX6_set 44 = .ok (.istore_n 3, 1) := by decide +kernel
theorem dX6_set_45 : decode cX6_set 45 = .ok (.aload_n 0, 1) := by decide +kernel
theorem dX6_set_46 : decode cX6_set 46 = .ok (.getfield 12, 3) := by decide +kernel
theorem dX6_set_49 : decode cX6_set 49 = .ok (.getfield 71, 3) := by decide +kernel
theorem dX6_set_52 : decode cX6_set 52 = .ok (.iload_n 1, 1) := by decide +kernel
theorem dX6_set_53 : decode cX6_set 53 = .ok (.iload_n 2, 1) := by decide +kernel
theorem dX6_set_54 : decode cX6_set 54 = .ok (.iastore, 1) := by decide +kernel
theorem dX6_set_55 : decode cX6_set 55 = .ok (.aload_n 0, 1) := by decide +kernel
theorem dX6_set_56 : decode cX6_set 56 = .ok (.invokevirtual 58, 3) := by decide +kernel
theorem dX6_set_59 : decode cX6_set 59 = .ok (.iload_n 3, 1) := by decide +kernel
theorem dX6_set_60 : decode cX6_set 60 = .ok (.ireturn, 1) := by decide +kernel
set_option maxRecDepth 20000 in
theorem ggX6_mesh_X6_isLine : GoodIn wsX6_mesh wsX6_isLine := goodIn_r _ [8] (by decide +kernel) (by decide +kernel)
set_option maxRecDepth 20000 in
theorem gX6_mesh_X6_isLine : GoodIn wsX6_mesh (va_wsS RX6 75 yX6_isLine wsX6_isLine) := goodIn_app (goodIn_of _ (by decide +kernel)) ggX6_mesh_X6_isLine
set_option maxRecDepth 20000 in
theorem ggX6_mesh_X6_recordState : GoodIn wsX6_mesh wsX6_recordState := goodIn_r _ [12, 13, 1, 14, 15, 16, 17, 7, 18, 19, 20, 21, 22, 23, 24, 25, 26, 27, 28, 29, 30, 31, 32, 33, 34, 35, 36, 37, 38, 39, 40, 41, 42, 43, 44, 45, 46, 47, 48, 49, 50, 51, 52, 53, 54, 55, 56, 57, 127, 128, 129, 130, 131, 132, 133, 134, 135, 136, 137, 138, 139, 140, 141, 142, 154, 155, 156, 143, 144, 145, 146, 147, 148, 149, 150, 151, 152, 153] (by decide +kernel) (by decide +kernel)
set_option maxRecDepth 20000 in
theorem gX6_mesh_X6_recordState : GoodIn wsX6_mesh (wsV RX6 68 RX6 yX6_recordState wsX6_recordState) := goodIn_app (goodIn_of _ (by decide +kernel)) ggX6_mesh_X6_recordState
set_option maxRecDepth 20000 in
theorem ggX6_mesh_X0_layOut : GoodIn wsX6_mesh wsX0_layOut := goodIn_r _ [61, 38, 39, 40, 154, 155, 156] (by decide +kernel) (by decide +kernel)
set_option maxRecDepth 20000 in
theorem gX6_mesh_X0_layOut : GoodIn wsX6_mesh (wsV RX6 92 RX0 yX0_layOut wsX0_layOut) := goodIn_app (goodIn_of _ (by decide +kernel)) ggX6_mesh_X0_layOut
set_option maxRecDepth 20000 in
theorem ggX6_mesh_X6_learnRoutes : GoodIn wsX6_mesh wsX6_learnRoutes := goodIn_r _ [65, 66, 1, 4, 67, 68, 69, 70, 71, 72, 73, 74, 75, 76, 77, 36, 78, 38, 39, 79, 80, 81, 82, 83, 84, 85, 86, 87, 88, 89, 90, 91, 92, 93, 94, 40, 95, 96, 97, 98, 99, 100, 101, 102, 103, 104, 105, 106, 107, 108, 109, 110, 111, 112, 113, 114, 115, 116, 117, 118, 119, 120, 121, 122, 123, 124, 125, 127, 128, 129, 130, 131, 132, 133, 134, 135, 136, 137, 138, 139, 140, 141, 142, 157, 158, 159, 160, 161, 162, 154, 155, 156] (by decide +kernel) (by decide +kernel)
set_option maxRecDepth 20000 in
theorem gX6_mesh_X6_learnRoutes : GoodIn wsX6_mesh (wsV RX6 58 RX6 yX6_learnRoutes wsX6_learnRoutes) := goodIn_app (goodIn_of _ (by decide +kernel)) ggX6_mesh_X6_learnRoutes
set_option maxRecDepth 20000 in
theorem ggX6_mesh_X0_boxes : GoodIn wsX6_mesh wsX0_boxes := goodIn_r _ [78, 38, 39, 154, 155, 156] (by decide +kernel) (by decide +kernel)
set_option maxRecDepth 20000 in
theorem gX6_mesh_X0_boxes : GoodIn wsX6_mesh (wsV RX6 98 RX0 yX0_boxes wsX0_boxes) := goodIn_app (goodIn_of _ (by decide +kernel)) ggX6_mesh_X0_boxes
theorem dX6_mesh_0 : decode cX6_mesh 0 = .ok (.iload_n 1, 1) := by decide +kernel
theorem dX6_mesh_1 : decode cX6_mesh 1 = .ok (.invokestatic 75, 3) := by decide +kernel
theorem dX6_mesh_4 : decode cX6_mesh 4 = .ok (.ifCond .eq 10, 3) := by decide +kernel
theorem dX6_mesh_7 : decode cX6_mesh 7 = .ok (.iload_n 2, 1) := by decide +kernel
theorem dX6_mesh_8 : decode cX6_mesh 8 = .ok (.invokestatic 75, 3) := by decide +kernel
theorem dX6_mesh_11 : decode cX6_mesh 11 = .ok (.ifCond .ne 6, 3) := by decide +kernel
theorem dX6_mesh_14 : decode cX6_mesh 14 = .ok (.bipush (-2), 2) := by decide +kernel
theorem dX6_mesh_16 : decode cX6_mesh 16 = .ok (.ireturn, 1) := by decide +kernel
theorem dX6_mesh_17 : decode cX6_mesh 17 = .ok (.aload_n 0, 1) := by decide +kernel
theorem dX6_mesh_18 : decode cX6_mesh 18 = .ok (.getfield 12, 3) := by decide +kernel
theorem dX6_mesh_21 : decode cX6_mesh 21 = .ok (.getfield 79, 3) := by decide +kernel
theorem dX6_mesh_24 : decode cX6_mesh 24 = .ok (.getfield 83, 3) := by decide +kernel
theorem dX6_mesh_27 : decode cX6_mesh 27 = .ok (.ifCond .le 6, 3) := by decide +kernel
theorem dX6_mesh_30 : decode cX6_mesh 30 = .ok (.bipush (-5), 2) := by decide +kernel
theorem dX6_mesh_32 : decode cX6_mesh 32 = .ok (.ireturn, 1) := by decide +kernel
theorem dX6_mesh_33 : decode cX6_mesh 33 = .ok (.aload_n 0, 1) := by decide +kernel
theorem dX6_mesh_34 : decode cX6_mesh 34 = .ok (.invokevirtual 68, 3) := by decide +kernel
theorem dX6_mesh_37 : decode cX6_mesh 37 = .ok (.aload_n 0, 1) := by decide +kernel
theorem dX6_mesh_38 : decode cX6_mesh 38 = .ok (.getfield 12, 3) := by decide +kernel
theorem dX6_mesh_41 : decode cX6_mesh 41 = .ok (.getfield 88, 3) := by decide +kernel
theorem dX6_mesh_44 : decode cX6_mesh 44 = .ok (.iload_n 1, 1) := by decide +kernel
theorem dX6_mesh_45 : decode cX6_mesh 45 = .ok (.iload_n 2, 1) := by decide +kernel
theorem dX6_mesh_46 : decode cX6_mesh 46 = .ok (.invokevirtual 92, 3) := by decide +kernel
theorem dX6_mesh_49 : decode cX6_mesh 49 = .ok (.aload_n 0, 1) := by decide +kernel
theorem dX6_mesh_50 : decode cX6_mesh 50 = .ok (.invokevirtual 58, 3) := by decide +kernel
theorem dX6_mesh_53 : decode cX6_mesh 53 = .ok (.aload_n 0, 1) := by decide +kernel
theorem dX6_mesh_54 : decode cX6_mesh 54 = .ok (.getfield 12, 3) := by decide +kernel
theorem dX6_mesh_57 : decode cX6_mesh 57 = .ok (.getfield 88, 3) := by decide +kernel
theorem dX6_mesh_60 : decode cX6_mesh 60 = .ok (.invokevirtual 98, 3) := by decide +kernel
theorem dX6_mesh_63 : decode cX6_mesh 63 = .ok (.ireturn, 1) := by decide +kernel
set_option maxRecDepth 20000 in
theorem ggX6_link_X6_linkError : GoodIn wsX6_link wsX6_linkError := goodIn_r _ [5, 6, 7, 8, 9, 10, 11, 12, 13, 14, 15, 16, 4, 17, 18, 19, 20, 21, 140, 141, 142, 143, 144, 145, 146, 147, 148, 149, 150, 151, 152, 153, 154, 155, 156, 157, 158] (by decide +kernel) (by decide +kernel)
set_option maxRecDepth 20000 in
theorem gX6_link_X6_linkError : GoodIn wsX6_link (wsV RX6 102 RX6 yX6_linkError wsX6_linkError) := goodIn_app (goodIn_of _ (by decide +kernel)) ggX6_link_X6_linkError
set_option maxRecDepth 20000 in
theorem ggX6_link_X6_recordState : GoodIn wsX6_link wsX6_recordState := goodIn_r _ [25, 26, 6, 27, 28, 29, 30, 4, 31, 32, 33, 34, 35, 36, 37, 38, 39, 40, 41, 42, 43, 44, 45, 46, 47, 48, 11, 49, 13, 14, 50, 51, 52, 53, 54, 55, 56, 57, 58, 59, 60, 61, 62, 63, 64, 65, 66, 67, 140, 141, 142, 143, 144, 145, 146, 147, 148, 149, 150, 151, 152, 153, 154, 155, 156, 157, 158, 159, 160, 161, 162, 163, 164, 165, 166, 167, 168, 169] (by decide +kernel) (by decide +kernel)
set_option maxRecDepth 20000 in
theorem gX6_link_X6_recordState : GoodIn wsX6_link (wsV RX6 68 RX6 yX6_recordState wsX6_recordState) := goodIn_app (goodIn_of _ (by decide +kernel)) ggX6_link_X6_recordState
set_option maxRecDepth 20000 in
theorem ggX6_link_X6_changeLink : GoodIn wsX6_link wsX6_changeLink := goodIn_r _ [71, 6, 7, 72, 73, 74, 11, 75, 76, 77, 78, 79, 80, 19, 20, 21, 13, 14, 81, 82, 83, 84, 50, 85, 86, 87, 88, 89, 90, 91, 92, 4, 93, 94, 95, 96, 97, 98, 99, 100, 101, 102, 103, 104, 105, 106, 107, 108, 109, 110, 111, 112, 113, 114, 115, 116, 117, 118, 119, 120, 121, 122, 123, 124, 125, 126, 127, 128, 129, 130, 131, 132, 133, 134, 135, 136, 137, 138, 139, 140, 141, 142, 143, 144, 145, 146, 147, 148, 149, 150, 151, 152, 153, 154, 155, 156, 157, 158, 170, 171, 172, 173, 174, 175] (by decide +kernel) (by decide +kernel)
set_option maxRecDepth 20000 in
theorem gX6_link_X6_changeLink : GoodIn wsX6_link (wsV RX6 106 RX6 yX6_changeLink wsX6_changeLink) := goodIn_app (goodIn_of _ (by decide +kernel)) ggX6_link_X6_changeLink
theorem dX6_link_0 : decode cX6_link 0 = .ok (.aload_n 0, 1) := by decide +kernel
theorem dX6_link_1 : decode cX6_link 1 = .ok (.iload_n 1, 1) := by decide +kernel
theorem dX6_link_2 : decode cX6_link 2 = .ok (.iload_n 2, 1) := by decide +kernel
theorem dX6_link_3 : decode cX6_link 3 = .ok (.iload_n 3, 1) := by decide +kernel
theorem dX6_link_4 : decode cX6_link 4 = .ok (.invokevirtual 102, 3) := by decide +kernel
theorem dX6_link_7 : decode cX6_link 7 = .ok (.istore 4, 2) := by decide +kernel
theorem dX6_link_9 : decode cX6_link 9 = .ok (.iload 4, 2) := by decide +kernel
theorem dX6_link_11 : decode cX6_link 11 = .ok (.ifCond .eq 6, 3) := by decide +kernel
theorem dX6_link_14 : decode cX6_link 14 = .ok (.iload 4, 2) := by decide +kernel
theorem dX6_link_16 : decode cX6_link 16 = .ok (.ireturn, 1) := by decide +kernel
theorem dX6_link_17 : decode cX6_link 17 = .ok (.aload_n 0, 1) := by decide +kernel
theorem dX6_link_18 : decode cX6_link 18 = .ok (.invokevirtual 68, 3) := by decide +kernel
theorem dX6_link_21 : decode cX6_link 21 = .ok (.aload_n 0, 1) := by decide +kernel
theorem dX6_link_22 : decode cX6_link 22 = .ok (.iload_n 1, 1) := by decide +kernel
theorem dX6_link_23 : decode cX6_link 23 = .ok (.iload_n 2, 1) := by decide +kernel
theorem dX6_link_24 : decode cX6_link 24 = .ok (.iload_n 3, 1) := by decide +kernel
theorem dX6_link_25 : decode cX6_link 25 = .ok (.invokevirtual 106, 3) := by decide +kernel
theorem dX6_link_28 : decode cX6_link 28 = .ok (.ireturn, 1) := by decide +kernel
set_option maxRecDepth 20000 in
theorem ggX6_send_X6_sendError : GoodIn wsX6_send wsX6_sendError := goodIn_r _ [8, 1, 9, 2, 10, 11, 12, 13, 14, 15, 16, 17, 18, 19, 20, 21, 22, 23, 24, 25, 26, 27, 28, 29, 30, 31, 32, 33, 34, 35, 36, 37, 38, 39, 40, 41, 42, 90, 91, 92, 93, 94, 95, 96, 97, 98, 99, 100, 101, 102, 103, 104, 105, 106, 107, 108, 109, 110, 111, 112, 113, 114, 115, 116, 117, 118, 119, 120, 121, 122, 123, 124, 125] (by decide +kernel) (by decide +kernel)
set_option maxRecDepth 20000 in
theorem gX6_send_X6_sendError : GoodIn wsX6_send (wsV RX6 109 RX6 yX6_sendError wsX6_sendError) := goodIn_app (goodIn_of _ (by decide +kernel)) ggX6_send_X6_sendError
set_option maxRecDepth 20000 in
theorem ggX6_send_X6_recordState : GoodIn wsX6_send wsX6_recordState := goodIn_r _ [46, 47, 1, 48, 49, 50, 51, 7, 52, 53, 54, 22, 55, 25, 56, 57, 58, 59, 24, 60, 61, 62, 63, 64, 65, 66, 15, 67, 17, 18, 68, 69, 70, 71, 72, 73, 74, 75, 76, 77, 78, 79, 80, 81, 82, 83, 84, 85, 90, 91, 92, 93, 94, 95, 96, 97, 98, 99, 100, 101, 102, 103, 104, 105, 117, 118, 119, 106, 107, 108, 109, 110, 111, 112, 113, 114, 115, 116] (by decide +kernel) (by decide +kernel)
set_option maxRecDepth 20000 in
theorem gX6_send_X6_recordState : GoodIn wsX6_send (wsV RX6 68 RX6 yX6_recordState wsX6_recordState) := goodIn_app (goodIn_of _ (by decide +kernel)) ggX6_send_X6_recordState
set_option maxRecDepth 20000 in
theorem ggX6_send_X2_add : GoodIn wsX6_send wsX2_add := goodIn_r _ [89, 74, 75, 77, 78, 79, 80, 81, 82, 83, 84, 85, 106, 107, 108, 109, 110, 111, 112, 113, 114, 115, 116] (by decide +kernel) (by decide +kernel)
set_option maxRecDepth 20000 in
theorem gX6_send_X2_add : GoodIn wsX6_send (wsV RX6 116 RX2 yX2_add wsX2_add) := goodIn_app (goodIn_of _ (by decide +kernel)) ggX6_send_X2_add
theorem dX6_send_0 : decode cX6_send 0 = .ok (.aload_n 0, 1) := by decide +kernel
theorem dX6_send_1 : decode cX6_send 1 = .ok (.iload_n 1, 1) := by decide +kernel
theorem dX6_send_2 : decode cX6_send 2 = .ok (.iload_n 2, 1) := by decide +kernel
theorem dX6_send_3 : decode cX6_send 3 = .ok (.invokevirtual 109, 3) := by decide +kernel
theorem dX6_send_6 : decode cX6_send 6 = .ok (.istore_n 3, 1) := by decide +kernel
theorem dX6_send_7 : decode cX6_send 7 = .ok (.iload_n 3, 1) := by decide +kernel
theorem dX6_send_8 : decode cX6_send 8 = .ok (.ifCond .eq 5, 3) := by decide +kernel
theorem dX6_send_11 : decode cX6_send 11 = .ok (.iload_n 3, 1) := by decide +kernel
theorem dX6_send_12 : decode cX6_send 12 = .ok (.ireturn, 1) := by decide +kernel
theorem dX6_send_13 : decode cX6_send 13 = .ok (.aload_n 0, 1) := by decide +kernel
theorem dX6_send_14 : decode cX6_send 14 = .ok (.invokevirtual 68, 3) := by decide +kernel
theorem dX6_send_17 : decode cX6_send 17 = .ok (.aload_n 0, 1) := by decide +kernel
theorem dX6_send_18 : decode cX6_send 18 = .ok (.getfield 12, 3) := by decide +kernel
theorem dX6_send_21 : decode cX6_send 21 = .ok (.getfield 79, 3) := by decide +kernel
theorem dX6_send_24 : decode cX6_send 24 = .ok (.iload_n 1, 1) := by decide +kernel
theorem dX6_send_25 : decode cX6_send 25 = .ok (.iload_n 2, 1) := by decide +kernel
theorem dX6_send_26 : decode cX6_send 26 = .ok (.aload_n 0, 1) := by decide +kernel
theorem dX6_send_27 : decode cX6_send 27 = .ok (.getfield 12, 3) := by decide +kernel
theorem dX6_send_30 : decode cX6_send 30 = .ok (.getfield 113, 3) := by decide +kernel
theorem dX6_send_33 : decode cX6_send 33 = .ok (.invokevirtual 116, 3) := by decide +kernel
theorem dX6_send_36 : decode cX6_send 36 = .ok (.ireturn, 1) := by decide +kernel
set_option maxRecDepth 20000 in
theorem ggX6_ticks_X6_isTicks : GoodIn wsX6_ticks wsX6_isTicks := goodIn_r _ [7] (by decide +kernel) (by decide +kernel)
set_option maxRecDepth 20000 in
theorem gX6_ticks_X6_isTicks : GoodIn wsX6_ticks (va_wsS RX6 119 yX6_isTicks wsX6_isTicks) := goodIn_app (goodIn_of _ (by decide +kernel)) ggX6_ticks_X6_isTicks
set_option maxRecDepth 20000 in
theorem ggX6_ticks_X6_recordState : GoodIn wsX6_ticks wsX6_recordState := goodIn_r _ [11, 12, 1, 13, 14, 15, 16, 6, 17, 18, 19, 20, 21, 22, 23, 24, 25, 26, 27, 28, 29, 30, 31, 32, 33, 34, 35, 36, 37, 38, 39, 40, 41, 42, 43, 44, 45, 46, 47, 48, 49, 50, 51, 52, 53, 54, 55, 56, 132, 133, 134, 135, 136, 137, 138, 139, 140, 141, 142, 143, 144, 145, 146, 147, 148, 149, 150, 151, 152, 153, 154, 155, 156, 157, 158, 159, 160, 161] (by decide +kernel) (by decide +kernel)
set_option maxRecDepth 20000 in
theorem gX6_ticks_X6_recordState : GoodIn wsX6_ticks (wsV RX6 68 RX6 yX6_recordState wsX6_recordState) := goodIn_app (goodIn_of _ (by decide +kernel)) ggX6_ticks_X6_recordState
set_option maxRecDepth 20000 in
theorem ggX6_ticks_X5_passTicks : GoodIn wsX6_ticks wsX5_passTicks := goodIn_r _ [60, 28, 61, 62, 63, 31, 64, 65, 66, 20, 67, 68, 29, 69, 70, 71, 72, 22, 73, 74, 75, 76, 77, 30, 27, 78, 79, 80, 81, 82, 83, 84, 85, 86, 87, 88, 89, 90, 91, 92, 93, 94, 95, 35, 96, 37, 97, 98, 99, 100, 101, 102, 103, 104, 105, 106, 107, 108, 109, 110, 111, 112, 113, 114, 115, 116, 117, 118, 119, 120, 121, 122, 123, 124, 125, 126, 127, 128, 129, 130, 43, 131, 50, 51, 52, 56, 142, 143, 144, 145, 146, 147, 151, 152, 153, 154, 155, 156, 157, 158, 159, 160, 161, 148, 149, 150, 162, 163, 164, 165, 166, 167] (by decide +kernel) (by decide +kernel)
set_option maxRecDepth 20000 in
theorem gX6_ticks_X5_passTicks : GoodIn wsX6_ticks (wsV RX6 122 RX5 yX5_passTicks wsX5_passTicks) := goodIn_app (goodIn_of _ (by decide +kernel)) ggX6_ticks_X5_passTicks
theorem dX6_ticks_0 : decode cX6_ticks 0 = .ok (.iload_n 1, 1) := by decide +kernel
theorem dX6_ticks_1 : decode cX6_ticks 1 = .ok (.invokestatic 119, 3) := by decide +kernel
theorem dX6_ticks_4 : decode cX6_ticks 4 = .ok (.ifCond .ne 6, 3) := by decide +kernel
theorem dX6_ticks_7 : decode cX6_ticks 7 = .ok (.bipush (-2), 2) := by decide +kernel
theorem dX6_ticks_9 : decode cX6_ticks 9 = .ok (.ireturn, 1) := by decide +kernel
theorem dX6_ticks_10 : decode cX6_ticks 10 = .ok (.aload_n 0, 1) := by decide +kernel
theorem dX6_ticks_11 : decode cX6_ticks 11 = .ok (.invokevirtual 68, 3) := by decide +kernel
theorem dX6_ticks_14 : decode cX6_ticks 14 = .ok (.aload_n 0, 1) := by decide +kernel
theorem dX6_ticks_15 : decode cX6_ticks 15 = .ok (.getfield 12, 3) := by decide +kernel
theorem dX6_ticks_18 : decode cX6_ticks 18 = .ok (.aload_n 0, 1) := by decide +kernel
theorem dX6_ticks_19 : decode cX6_ticks 19 = .ok (.getfield 19, 3) := by decide +kernel
theorem dX6_ticks_22 : decode cX6_ticks 22 = .ok (.iload_n 1, 1) := by decide +kernel
theorem dX6_ticks_23 : decode cX6_ticks 23 = .ok (.invokevirtual 122, 3) := by decide +kernel
theorem dX6_ticks_26 : decode cX6_ticks 26 = .ok (.aload_n 0, 1) := by decide +kernel
theorem dX6_ticks_27 : decode cX6_ticks 27 = .ok (.getfield 12, 3) := by decide +kernel
theorem dX6_ticks_30 : decode cX6_ticks 30 = .ok (.getfield 113, 3) := by decide +kernel
theorem dX6_ticks_33 : decode cX6_ticks 33 = .ok (.ireturn, 1) := by decide +kernel
set_option maxRecDepth 20000 in
theorem ggX6_ofPacket_X2_has : GoodIn wsX6_ofPacket wsX2_has := goodIn_r _ [19, 20, 134, 135, 136, 137, 138, 139, 140, 141, 142, 143, 144] (by decide +kernel) (by decide +kernel)
set_option maxRecDepth 20000 in
theorem gX6_ofPacket_X2_has : GoodIn wsX6_ofPacket (wsV RX6 126 RX2 yX2_has wsX2_has) := goodIn_app (goodIn_of _ (by decide +kernel)) ggX6_ofPacket_X2_has
set_option maxRecDepth 20000 in
theorem ggX6_ofPacket_X5_wayLengthOf : GoodIn wsX6_ofPacket wsX5_wayLengthOf := goodIn_r _ [25, 26, 27, 28, 29, 30, 31, 32, 33, 34, 35, 36, 37, 38, 39, 40, 41, 24, 42, 43, 44, 45, 46, 47, 48, 49, 50, 51, 52, 53, 54, 55, 56, 57, 58, 128, 129, 130, 131, 132, 133, 134, 135, 136, 137, 138, 139, 140, 141, 142, 143, 144, 145, 146, 147, 148, 149, 150, 151, 152, 153] (by decide +kernel) (by decide +kernel)
set_option maxRecDepth 20000 in
theorem gX6_ofPacket_X5_wayLengthOf : GoodIn wsX6_ofPacket (wsV RX6 159 RX5 yX5_wayLengthOf wsX5_wayLengthOf) := goodIn_app (goodIn_of _ (by decide +kernel)) ggX6_ofPacket_X5_wayLengthOf
set_option maxRecDepth 20000 in
theorem ggX6_ofPacket_X5_firstSide : GoodIn wsX6_ofPacket wsX5_firstSide := goodIn_r _ [62, 26, 63, 27, 28, 29, 39, 40, 41, 24, 42, 43, 44, 45, 46, 47, 48, 49, 50, 51, 52, 53, 54, 55, 56, 57, 58, 64, 65, 66, 33, 67, 68, 69, 70, 71, 72, 73, 74, 75, 76, 77, 78, 31, 32, 34, 35, 36, 37, 38, 79, 80, 81, 82, 83, 84, 85, 86, 87, 88, 128, 129, 130, 131, 132, 133, 134, 135, 136, 137, 138, 139, 140, 141, 142, 143, 144, 151, 152, 153, 145, 146, 147, 148, 149, 150] (by decide +kernel) (by decide +kernel)
set_option maxRecDepth 20000 in
theorem gX6_ofPacket_X5_firstSide : GoodIn wsX6_ofPacket (wsV RX6 163 RX5 yX5_firstSide wsX5_firstSide) := goodIn_app (goodIn_of _ (by decide +kernel)) ggX6_ofPacket_X5_firstSide
set_option maxRecDepth 20000 in
theorem ggX6_ofPacket_X1_holds : GoodIn wsX6_ofPacket wsX1_holds := goodIn_r _ [93, 94, 95, 96, 97, 98, 92, 99, 100, 101, 102, 103, 104, 105, 106, 107, 108, 109, 24, 110, 26, 27, 28, 29, 64, 65, 66, 33, 67, 68, 69, 70, 71, 72, 73, 74, 75, 76, 77, 78, 31, 32, 34, 35, 36, 37, 38, 39, 40, 41, 42, 43, 44, 45, 46, 47, 48, 49, 50, 51, 52, 53, 54, 55, 56, 57, 58, 111, 112, 81, 82, 83, 84, 85, 86, 87, 88, 113, 114, 115, 116, 117, 16, 17, 18, 19, 20, 128, 129, 130, 131, 132, 133, 154, 134, 135, 136, 137, 138, 139, 140, 141, 142, 143, 144, 145, 146, 147, 148, 149, 150, 151, 152, 153] (by decide +kernel) (by decide +kernel)
set_option maxRecDepth 20000 in
theorem gX6_ofPacket_X1_holds : GoodIn wsX6_ofPacket (wsV RX6 167 RX1 yX1_holds wsX1_holds) := goodIn_app (goodIn_of _ (by decide +kernel)) ggX6_ofPacket_X1_holds
theorem dX6_ofPacket_0 : decode cX6_ofPacket 0 = .ok (.aload_n 0, 1) := by decide +kernel
theorem dX6_ofPacket_1 : decode cX6_ofPacket 1 = .ok (.getfield 12, 3) := by decide +kernel
theorem dX6_ofPacket_4 : decode cX6_ofPacket 4 = .ok (.getfield 79, 3) := by decide +kernel
theorem dX6_ofPacket_7 : decode cX6_ofPacket 7 = .ok (.astore_n 3, 1) := by decide +kernel
theorem dX6_ofPacket_8 : decode cX6_ofPacket 8 = .ok (.aload_n 3, 1) := by decide +kernel
theorem dX6_ofPacket_9 : decode cX6_ofPacket 9 = .ok (.iload_n 1, 1) := by decide +kernel
theorem dX6_ofPacket_10 : decode cX6_ofPacket 10 = .ok (.invokevirtual 126, 3) := by decide +kernel
theorem dX6_ofPacket_13 : decode cX6_ofPacket 13 = .ok (.ifCond .ne 5, 3) := by decide +kernel
theorem dX6_ofPacket_16 : decode cX6_ofPacket 16 = .ok (.iconst (-1), 1) := by decide +kernel
theorem dX6_ofPacket_17 : decode cX6_ofPacket 17 = .ok (.ireturn, 1) := by decide +kernel
theorem dX6_ofPacket_18 : decode cX6_ofPacket 18 = .ok (.iload_n 2, 1) := by decide +kernel
theorem dX6_ofPacket_19 : decode cX6_ofPacket 19 = .ok (.tableswitch 187 0 12 #[65, 72, 79, 86, 93, 100, 107, 114, 121, 128, 135, 148, 162], 65) := by decide +kernel
theorem dX6_ofPacket_84 : decode cX6_ofPacket 84 = .ok (.aload_n 3, 1) := by decide +kernel
theorem dX6_ofPacket_85 : decode cX6_ofPacket 85 = .ok (.getfield 129, 3) := by decide +kernel
theorem dX6_ofPacket_88 : decode cX6_ofPacket 88 = .ok (.iload_n 1, 1) := by decide +kernel
theorem dX6_ofPacket_89 : decode cX6_ofPacket 89 = .ok (.iaload, 1) := by decide +kernel
theorem dX6_ofPacket_90 : decode cX6_ofPacket 90 = .ok (.ireturn, 1) := by decide +kernel
theorem dX6_ofPacket_91 : decode cX6_ofPacket 91 = .ok (.aload_n 3, 1) := by decide +kernel
theorem dX6_ofPacket_92 : decode cX6_ofPacket 92 = .ok (.getfield 132, 3) := by decide +kernel
theorem dX6_ofPacket_95 : decode cX6_ofPacket 95 = .ok (.iload_n 1, 1) := by decide +kernel
theorem dX6_ofPacket_96 : decode cX6_ofPacket 96 = .ok (.iaload, 1) := by decide +kernel
theorem dX6_ofPacket_97 : decode cX6_ofPacket 97 = .ok (.ireturn, 1) := by decide +kernel
theorem dX6_ofPacket_98 : decode cX6_ofPacket 98 = .ok (.aload_n 3, 1) := by decide +kernel
theorem dX6_ofPacket_99 : decode cX6_ofPacket 99 = .ok (.getfield 135, 3) := by decide +kernel
theorem dX6_ofPacket_102 : decode cX6_ofPacket 102 = .ok (.iload_n 1, 1) := by decide +kernel
theorem dX6_ofPacket_103 : decode cX6_ofPacket 103 = .ok (.iaload, 1) := by decide +kernel
theorem dX6_ofPacket_104 : decode cX6_ofPacket 104 = .ok (.ireturn, 1) := by decide +kernel
theorem dX6_ofPacket_105 : decode cX6_ofPacket 105 = .ok (.aload_n 3, 1) := by decide +kernel
theorem dX6_ofPacket_106 : decode cX6_ofPacket 106 = .ok (.getfield 138, 3) := by decide +kernel
theorem dX6_ofPacket_109 : decode cX6_ofPacket 109 = .ok (.iload_n 1, 1) := by decide +kernel
theorem dX6_ofPacket_110 : decode cX6_ofPacket 110 = .ok (.iaload, 1) := by decide +kernel
theorem dX6_ofPacket_111 : decode cX6_ofPacket 111 = .ok (.ireturn, 1) := by decide +kernel
theorem dX6_ofPacket_112 : decode cX6_ofPacket 112 = .ok (.aload_n 3, 1) := by decide +kernel
theorem dX6_ofPacket_113 : decode cX6_ofPacket 113 = .ok (.getfield 141, 3) := by decide +kernel
theorem dX6_ofPacket_116 : decode cX6_ofPacket 116 = .ok (.iload_n 1, 1) := by decide +kernel
theorem dX6_ofPacket_117 : decode cX6_ofPacket 117 = .ok (.iaload, 1) := by decide +kernel
theorem dX6_ofPacket_118 : decode cX6_ofPacket 118 = .ok (.ireturn, 1) := by decide +kernel
theorem dX6_ofPacket_119 : decode cX6_ofPacket 119 = .ok (.aload_n 3, 1) := by decide +kernel
theorem dX6_ofPacket_120 : decode cX6_ofPacket 120 = .ok (.getfield 144, 3) := by decide +kernel
theorem dX6_ofPacket_123 : decode cX6_ofPacket 123 = .ok (.iload_n 1, 1) := by decide +kernel
theorem dX6_ofPacket_124 : decode cX6_ofPacket 124 = .ok (.iaload, 1) := by decide +kernel
theorem dX6_ofPacket_125 : decode cX6_ofPacket 125 = .ok (.ireturn, 1) := by decide +kernel
theorem dX6_ofPacket_126 : decode cX6_ofPacket 126 = .ok (.aload_n 3, 1) := by decide +kernel
theorem dX6_ofPacket_127 : decode cX6_ofPacket 127 = .ok (.getfield 147, 3) := by decide +kernel
theorem dX6_ofPacket_130 : decode cX6_ofPacket 130 = .ok (.iload_n 1, 1) := by decide +kernel
theorem dX6_ofPacket_131 : decode cX6_ofPacket 131 = .ok (.iaload, 1) := by decide +kernel
theorem dX6_ofPacket_132 : decode cX6_ofPacket 132 = .ok (.ireturn, 1) := by decide +kernel
theorem dX6_ofPacket_133 : decode cX6_ofPacket 133 = .ok (.aload_n 3, 1) := by decide +kernel
theorem dX6_ofPacket_134 : decode cX6_ofPacket 134 = .ok (.getfield 150, 3) := by decide +kernel
theorem dX6_ofPacket_137 : decode cX6_ofPacket 137 = .ok (.iload_n 1, 1) := by decide +kernel
theorem dX6_ofPacket_138 : decode cX6_ofPacket 138 = .ok (.iaload, 1) := by decide +kernel
theorem dX6_ofPacket_139 : decode cX6_ofPacket 139 = .ok (.ireturn, 1) := by decide +kernel
theorem dX6_ofPacket_140 : decode cX6_ofPacket 140 = .ok (.aload_n 3, 1) := by decide +kernel
theorem dX6_ofPacket_141 : decode cX6_ofPacket 141 = .ok (.getfield 153, 3) := by decide +kernel
theorem dX6_ofPacket_144 : decode cX6_ofPacket 144 = .ok (.iload_n 1, 1) := by decide +kernel
theorem dX6_ofPacket_145 : decode cX6_ofPacket 145 = .ok (.iaload, 1) := by decide +kernel
theorem dX6_ofPacket_146 : decode cX6_ofPacket 146 = .ok (.ireturn, 1) := by decide +kernel
theorem dX6_ofPacket_147 : decode cX6_ofPacket 147 = .ok (.aload_n 3, 1) := by decide +kernel
theorem dX6_ofPacket_148 : decode cX6_ofPacket 148 = .ok (.getfield 156, 3) := by decide +kernel
theorem dX6_ofPacket_151 : decode cX6_ofPacket 151 = .ok (.iload_n 1, 1) := by decide +kernel
theorem dX6_ofPacket_152 : decode cX6_ofPacket 152 = .ok (.iaload, 1) := by decide +kernel
theorem dX6_ofPacket_153 : decode cX6_ofPacket 153 = .ok (.ireturn, 1) := by decide +kernel
theorem dX6_ofPacket_154 : decode cX6_ofPacket 154 = .ok (.aload_n 0, 1) := by decide +kernel
theorem dX6_ofPacket_155 : decode cX6_ofPacket 155 = .ok (.getfield 12, 3) := by decide +kernel
theorem dX6_ofPacket_158 : decode cX6_ofPacket 158 = .ok (.aload_n 0, 1) := by decide +kernel
theorem dX6_ofPacket_159 : decode cX6_ofPacket 159 = .ok (.getfield 19, 3) := by decide +kernel
theorem dX6_ofPacket_162 : decode cX6_ofPacket 162 = .ok (.iload_n 1, 1) := by decide +kernel
theorem dX6_ofPacket_163 : decode cX6_ofPacket 163 = .ok (.invokevirtual 159, 3) := by decide +kernel
theorem dX6_ofPacket_166 : decode cX6_ofPacket 166 = .ok (.ireturn, 1) := by decide +kernel
theorem dX6_ofPacket_167 : decode cX6_ofPacket 167 = .ok (.aload_n 0, 1) := by decide +kernel
theorem dX6_ofPacket_168 : decode cX6_ofPacket 168 = .ok (.getfield 12, 3) := by decide +kernel
theorem dX6_ofPacket_171 : decode cX6_ofPacket 171 = .ok (.aload_n 0, 1) := by decide +kernel
theorem dX6_ofPacket_172 : decode cX6_ofPacket 172 = .ok (.getfield 19, 3) := by decide +kernel
theorem dX6_ofPacket_175 : decode cX6_ofPacket 175 = .ok (.iload_n 1, 1) := by decide +kernel
theorem dX6_ofPacket_176 : decode cX6_ofPacket 176 = .ok (.iconst 0, 1) := by decide +kernel
theorem dX6_ofPacket_177 : decode cX6_ofPacket 177 = .ok (.invokevirtual 163, 3) := by decide +kernel
theorem dX6_ofPacket_180 : decode cX6_ofPacket 180 = .ok (.ireturn, 1) := by decide +kernel
theorem dX6_ofPacket_181 : decode cX6_ofPacket 181 = .ok (.aload_n 0, 1) := by decide +kernel
theorem dX6_ofPacket_182 : decode cX6_ofPacket 182 = .ok (.getfield 32, 3) := by decide +kernel
theorem dX6_ofPacket_185 : decode cX6_ofPacket 185 = .ok (.aload_n 0, 1) := by decide +kernel
theorem dX6_ofPacket_186 : decode cX6_ofPacket 186 = .ok (.getfield 12, 3) := by decide +kernel
theorem dX6_ofPacket_189 : decode cX6_ofPacket 189 = .ok (.aload_n 0, 1) := by decide +kernel
theorem dX6_ofPacket_190 : decode cX6_ofPacket 190 = .ok (.getfield 19, 3) := by decide +kernel
theorem dX6_ofPacket_193 : decode cX6_ofPacket 193 = .ok (.iload_n 1, 1) := by decide +kernel
theorem dX6_ofPacket_194 : decode cX6_ofPacket 194 = .ok (.invokevirtual 167, 3) := by decide +kernel
theorem dX6_ofPacket_197 : decode cX6_ofPacket 197 = .ok (.ifCond .eq 7, 3) := by decide +kernel
theorem dX6_ofPacket_200 : decode cX6_ofPacket 200 = .ok (.iconst 1, 1) := by decide +kernel
theorem dX6_ofPacket_201 : decode cX6_ofPacket 201 = .ok (.goto 4, 3) := by decide +kernel
theorem dX6_ofPacket_204 : decode cX6_ofPacket 204 = .ok (.iconst 0, 1) := by decide +kernel
theorem dX6_ofPacket_205 : decode cX6_ofPacket 205 = .ok (.ireturn, 1) := by decide +kernel
theorem dX6_ofPacket_206 : decode cX6_ofPacket 206 = .ok (.bipush (-2), 2) := by decide +kernel
theorem dX6_ofPacket_208 : decode cX6_ofPacket 208 = .ok (.ireturn, 1) := by decide +kernel
set_option maxRecDepth 20000 in
theorem ggX6_ofBox_X0_has : GoodIn wsX6_ofBox wsX0_has := goodIn_r _ [9, 10, 11, 58, 59, 60] (by decide +kernel) (by decide +kernel)
set_option maxRecDepth 20000 in
theorem gX6_ofBox_X0_has : GoodIn wsX6_ofBox (wsV RX6 171 RX0 yX0_has wsX0_has) := goodIn_app (goodIn_of _ (by decide +kernel)) ggX6_ofBox_X0_has
set_option maxRecDepth 20000 in
theorem ggX6_ofBox_X2_countAt : GoodIn wsX6_ofBox wsX2_countAt := goodIn_r _ [16, 17, 18, 19, 61, 62, 63, 64, 65, 66, 67, 68, 69, 70, 71] (by decide +kernel) (by decide +kernel)
set_option maxRecDepth 20000 in
theorem gX6_ofBox_X2_countAt : GoodIn wsX6_ofBox (wsV RX6 172 RX2 yX2_countAt wsX2_countAt) := goodIn_app (goodIn_of _ (by decide +kernel)) ggX6_ofBox_X2_countAt
set_option maxRecDepth 20000 in
theorem ggX6_ofBox_X6_linkState : GoodIn wsX6_ofBox wsX6_linkState := goodIn_r _ [24, 1, 2, 25, 26, 27, 8, 28, 29, 30, 31, 32, 33, 34, 35, 36, 10, 11, 37, 38, 39, 40, 41, 42, 43, 44, 45, 46, 47, 48, 49, 50, 51, 52, 53, 54, 55, 56, 57, 58, 59, 60] (by decide +kernel) (by decide +kernel)
set_option maxRecDepth 20000 in
theorem gX6_ofBox_X6_linkState : GoodIn wsX6_ofBox (wsV RX6 175 RX6 yX6_linkState wsX6_linkState) := goodIn_app (goodIn_of _ (by decide +kernel)) ggX6_ofBox_X6_linkState
theorem dX6_ofBox_0 : decode cX6_ofBox 0 = .ok (.aload_n 0, 1) := by decide +kernel
theorem dX6_ofBox_1 : decode cX6_ofBox 1 = .ok (.getfield 12, 3) := by decide +kernel
theorem dX6_ofBox_4 : decode cX6_ofBox 4 = .ok (.getfield 88, 3) := by decide +kernel
theorem dX6_ofBox_7 : decode cX6_ofBox 7 = .ok (.iload_n 1, 1) := by decide +kernel
theorem dX6_ofBox_8 : decode cX6_ofBox 8 = .ok (.invokevirtual 171, 3) := by decide +kernel
theorem dX6_ofBox_11 : decode cX6_ofBox 11 = .ok (.ifCond .ne 5, 3) := by decide +kernel
theorem dX6_ofBox_14 : decode cX6_ofBox 14 = .ok (.iconst (-1), 1) := by decide +kernel
theorem dX6_ofBox_15 : decode cX6_ofBox 15 = .ok (.ireturn, 1) := by decide +kernel
theorem dX6_ofBox_16 : decode cX6_ofBox 16 = .ok (.iload_n 2, 1) := by decide +kernel
theorem dX6_ofBox_17 : decode cX6_ofBox 17 = .ok (.ifCond .lt 9, 3) := by decide +kernel
theorem dX6_ofBox_20 : decode cX6_ofBox 20 = .ok (.iload_n 2, 1) := by decide +kernel
theorem dX6_ofBox_21 : decode cX6_ofBox 21 = .ok (.bipush 10, 2) := by decide +kernel
theorem dX6_ofBox_23 : decode cX6_ofBox 23 = .ok (.if_icmp .le 6, 3) := by decide +kernel
theorem dX6_ofBox_26 : decode cX6_ofBox 26 = .ok (.bipush (-2), 2) := by decide +kernel
theorem dX6_ofBox_28 : decode cX6_ofBox 28 = .ok (.ireturn, 1) := by decide +kernel
theorem dX6_ofBox_29 : decode cX6_ofBox 29 = .ok (.iload_n 2, 1) := by decide +kernel
theorem dX6_ofBox_30 : decode cX6_ofBox 30 = .ok (.tableswitch 90 0 6 #[42, 55, 68, 81, 81, 81, 81], 42) := by decide +kernel
theorem dX6_ofBox_72 : decode cX6_ofBox 72 = .ok (.aload_n 0, 1) := by decide +kernel
theorem dX6_ofBox_73 : decode cX6_ofBox 73 = .ok (.getfield 12, 3) := by decide +kernel
theorem dX6_ofBox_76 : decode cX6_ofBox 76 = .ok (.getfield 79, 3) := by decide +kernel
theorem dX6_ofBox_79 : decode cX6_ofBox 79 = .ok (.iconst 1, 1) := by decide +kernel
theorem dX6_ofBox_80 : decode cX6_ofBox 80 = .ok (.iload_n 1, 1) := by decide +kernel
theorem dX6_ofBox_81 : decode cX6_ofBox 81 = .ok (.invokevirtual 172, 3) := by decide +kernel
theorem dX6_ofBox_84 : decode cX6_ofBox 84 = .ok (.ireturn, 1) := by decide +kernel
theorem dX6_ofBox_85 : decode cX6_ofBox 85 = .ok (.aload_n 0, 1) := by decide +kernel
theorem dX6_ofBox_86 : decode cX6_ofBox 86 = .ok (.getfield 12, 3) := by decide +kernel
theorem dX6_ofBox_89 : decode cX6_ofBox 89 = .ok (.getfield 79, 3) := by decide +kernel
theorem dX6_ofBox_92 : decode cX6_ofBox 92 = .ok (.iconst 0, 1) := by decide +kernel
theorem dX6_ofBox_93 : decode cX6_ofBox 93 = .ok (.iload_n 1, 1) := by decide +kernel
theorem dX6_ofBox_94 : decode cX6_ofBox 94 = .ok (.invokevirtual 172, 3) := by decide +kernel
theorem dX6_ofBox_97 : decode cX6_ofBox 97 = .ok (.ireturn, 1) := by decide +kernel
theorem dX6_ofBox_98 : decode cX6_ofBox 98 = .ok (.aload_n 0, 1) := by decide +kernel
theorem dX6_ofBox_99 : decode cX6_ofBox 99 = .ok (.getfield 12, 3) := by decide +kernel
theorem dX6_ofBox_102 : decode cX6_ofBox 102 = .ok (.getfield 79, 3) := by decide +kernel
theorem dX6_ofBox_105 : decode cX6_ofBox 105 = .ok (.iconst 2, 1) := by decide +kernel
theorem dX6_ofBox_106 : decode cX6_ofBox 106 = .ok (.iload_n 1, 1) := by decide +kernel
theorem dX6_ofBox_107 : decode cX6_ofBox 107 = .ok (.invokevirtual 172, 3) := by decide +kernel
theorem dX6_ofBox_110 : decode cX6_ofBox 110 = .ok (.ireturn, 1) := by decide +kernel
theorem dX6_ofBox_111 : decode cX6_ofBox 111 = .ok (.aload_n 0, 1) := by decide +kernel
theorem dX6_ofBox_112 : decode cX6_ofBox 112 = .ok (.iload_n 1, 1) := by decide +kernel
theorem dX6_ofBox_113 : decode cX6_ofBox 113 = .ok (.iload_n 2, 1) := by decide +kernel
theorem dX6_ofBox_114 : decode cX6_ofBox 114 = .ok (.iconst 3, 1) := by decide +kernel
theorem dX6_ofBox_115 : decode cX6_ofBox 115 = .ok (.isub, 1) := by decide +kernel
theorem dX6_ofBox_116 : decode cX6_ofBox 116 = .ok (.invokevirtual 175, 3) := by decide +kernel
theorem dX6_ofBox_119 : decode cX6_ofBox 119 = .ok (.ireturn, 1) := by decide +kernel
theorem dX6_ofBox_120 : decode cX6_ofBox 120 = .ok (.aload_n 0, 1) := by decide +kernel
theorem dX6_ofBox_121 : decode cX6_ofBox 121 = .ok (.getfield 12, 3) := by decide +kernel
theorem dX6_ofBox_124 : decode cX6_ofBox 124 = .ok (.getfield 178, 3) := by decide +kernel
theorem dX6_ofBox_127 : decode cX6_ofBox 127 = .ok (.iload_n 1, 1) := by decide +kernel
theorem dX6_ofBox_128 : decode cX6_ofBox 128 = .ok (.iconst 4, 1) := by decide +kernel
theorem dX6_ofBox_129 : decode cX6_ofBox 129 = .ok (.imul, 1) := by decide +kernel
theorem dX6_ofBox_130 : decode cX6_ofBox 130 = .ok (.iload_n 2, 1) := by decide +kernel
theorem dX6_ofBox_131 : decode cX6_ofBox 131 = .ok (.iadd, 1) := by decide +kernel
theorem dX6_ofBox_132 : decode cX6_ofBox 132 = .ok (.bipush 7, 2) := by decide +kernel
theorem dX6_ofBox_134 : decode cX6_ofBox 134 = .ok (.isub, 1) := by decide +kernel
theorem dX6_ofBox_135 : decode cX6_ofBox 135 = .ok (.iaload, 1) := by decide +kernel
theorem dX6_ofBox_136 : decode cX6_ofBox 136 = .ok (.ireturn, 1) := by decide +kernel
set_option maxRecDepth 20000 in
theorem ggX6_count_X0_boxes : GoodIn wsX6_count wsX0_boxes := goodIn_r _ [20, 21, 22, 144, 145, 146] (by decide +kernel) (by decide +kernel)
set_option maxRecDepth 20000 in
theorem gX6_count_X0_boxes : GoodIn wsX6_count (wsV RX6 98 RX0 yX0_boxes wsX0_boxes) := goodIn_app (goodIn_of _ (by decide +kernel)) ggX6_count_X0_boxes
set_option maxRecDepth 20000 in
theorem ggX6_count_X2_countIn : GoodIn wsX6_count wsX2_countIn := goodIn_r _ [27, 28, 29, 147, 148, 149, 150, 151, 152, 153, 154, 155, 156, 157] (by decide +kernel) (by decide +kernel)
set_option maxRecDepth 20000 in
theorem gX6_count_X2_countIn : GoodIn wsX6_count (wsV RX6 184 RX2 yX2_countIn wsX2_countIn) := goodIn_app (goodIn_of _ (by decide +kernel)) ggX6_count_X2_countIn
set_option maxRecDepth 20000 in
theorem ggX6_count_X2_sum : GoodIn wsX6_count wsX2_sum := goodIn_r _ [33, 28, 147, 148, 149, 150, 151, 152, 153, 154, 155, 156, 157] (by decide +kernel) (by decide +kernel)
set_option maxRecDepth 20000 in
theorem gX6_count_X2_sum : GoodIn wsX6_count (wsV RX6 187 RX2 yX2_sum wsX2_sum) := goodIn_app (goodIn_of _ (by decide +kernel)) ggX6_count_X2_sum
set_option maxRecDepth 20000 in
theorem ggX6_count_X1_size : GoodIn wsX6_count wsX1_size := goodIn_r _ [38, 39, 40, 41, 42, 43, 44, 37, 45, 46, 47, 48, 49, 50, 51, 52, 53, 54, 55, 56, 57, 58, 59, 60, 61, 62, 63, 64, 65, 66, 67, 68, 69, 70, 71, 72, 73, 74, 75, 76, 77, 78, 79, 80, 81, 82, 83, 84, 85, 86, 87, 88, 89, 90, 91, 92, 93, 94, 95, 96, 97, 19, 98, 21, 99, 100, 101, 102, 103, 104, 105, 106, 107, 108, 109, 110, 111, 112, 113, 114, 115, 138, 139, 140, 141, 142, 143, 147, 148, 149, 150, 151, 152, 153, 154, 155, 156, 157, 165, 166, 167, 168, 169, 170, 171, 144, 145, 146] (by decide +kernel) (by decide +kernel)
set_option maxRecDepth 20000 in
theorem gX6_count_X1_size : GoodIn wsX6_count (wsV RX6 191 RX1 yX1_size wsX1_size) := goodIn_app (goodIn_of _ (by decide +kernel)) ggX6_count_X1_size
set_option maxRecDepth 20000 in
theorem ggX6_count_X0_brokenLinks : GoodIn wsX6_count wsX0_brokenLinks := goodIn_r _ [119, 120, 121, 122, 123, 124, 125, 126, 127, 144, 145, 146] (by decide +kernel) (by decide +kernel)
set_option maxRecDepth 20000 in
theorem gX6_count_X0_brokenLinks : GoodIn wsX6_count (wsV RX6 195 RX0 yX0_brokenLinks wsX0_brokenLinks) := goodIn_app (goodIn_of _ (by decide +kernel)) ggX6_count_X0_brokenLinks
theorem dX6_count_0 : decode cX6_count 0 = .ok (.aload_n 0, 1) := by decide +kernel
theorem dX6_count_1 : decode cX6_count 1 = .ok (.getfield 12, 3) := by decide +kernel
theorem dX6_count_4 : decode cX6_count 4 = .ok (.getfield 79, 3) := by decide +kernel
theorem dX6_count_7 : decode cX6_count 7 = .ok (.astore_n 2, 1) := by decide +kernel
theorem dX6_count_8 : decode cX6_count 8 = .ok (.iload_n 1, 1) := by decide +kernel
theorem dX6_count_9 : decode cX6_count 9 = .ok (.tableswitch 233 0 16 #[83, 91, 102, 113, 118, 124, 130, 136, 145, 154, 163, 179, 190, 198, 203, 213, 223], 83) := by decide +kernel
theorem dX6_count_92 : decode cX6_count 92 = .ok (.aload_n 0, 1) := by decide +kernel
theorem dX6_count_93 : decode cX6_count 93 = .ok (.getfield 12, 3) := by decide +kernel
theorem dX6_count_96 : decode cX6_count 96 = .ok (.getfield 113, 3) := by decide +kernel
theorem dX6_count_99 : decode cX6_count 99 = .ok (.ireturn, 1) := by decide +kernel
theorem dX6_count_100 : decode cX6_count 100 = .ok (.aload_n 0, 1) := by decide +kernel
theorem dX6_count_101 : decode cX6_count 101 = .ok (.getfield 12, 3) := by decide +kernel
theorem dX6_count_104 : decode cX6_count 104 = .ok (.getfield 88, 3) := by decide +kernel
theorem dX6_count_107 : decode cX6_count 107 = .ok (.invokevirtual 98, 3) := by decide +kernel
theorem dX6_count_110 : decode cX6_count 110 = .ok (.ireturn, 1) := by decide +kernel
theorem dX6_count_111 : decode cX6_count 111 = .ok (.aload_n 0, 1) := by decide +kernel
theorem dX6_count_112 : decode cX6_count 112 = .ok (.getfield 12, 3) := by decide +kernel
theorem dX6_count_115 : decode cX6_count 115 = .ok (.getfield 88, 3) := by decide +kernel
theorem dX6_count_118 : decode cX6_count 118 = .ok (.getfield 181, 3) := by decide +kernel
theorem dX6_count_121 : decode cX6_count 121 = .ok (.ireturn, 1) := by decide +kernel
theorem dX6_count_122 : decode cX6_count 122 = .ok (.aload_n 2, 1) := by decide +kernel
theorem dX6_count_123 : decode cX6_count 123 = .ok (.getfield 83, 3) := by decide +kernel
theorem dX6_count_126 : decode cX6_count 126 = .ok (.ireturn, 1) := by decide +kernel
theorem dX6_count_127 : decode cX6_count 127 = .ok (.aload_n 2, 1) := by decide +kernel
theorem dX6_count_128 : decode cX6_count 128 = .ok (.iconst 0, 1) := by decide +kernel
theorem dX6_count_129 : decode cX6_count 129 = .ok (.invokevirtual 184, 3) := by decide +kernel
theorem dX6_count_132 : decode cX6_count 132 = .ok (.ireturn, 1) := by decide +kernel
theorem dX6_count_133 : decode cX6_count 133 = .ok (.aload_n 2, 1) := by decide +kernel
theorem dX6_count_134 : decode cX6_count 134 = .ok (.iconst 1, 1) := by decide +kernel
theorem dX6_count_135 : decode cX6_count 135 = .ok (.invokevirtual 184, 3) := by decide +kernel
theorem dX6_count_138 : decode cX6_count 138 = .ok (.ireturn, 1) := by decide +kernel
theorem dX6_count_139 : decode cX6_count 139 = .ok (.aload_n 2, 1) := by decide +kernel
theorem dX6_count_140 : decode cX6_count 140 = .ok (.iconst 2, 1) := by decide +kernel
theorem dX6_count_141 : decode cX6_count 141 = .ok (.invokevirtual 184, 3) := by decide +kernel
theorem dX6_count_144 : decode cX6_count 144 = .ok (.ireturn, 1) := by decide +kernel
theorem dX6_count_145 : decode cX6_count 145 = .ok (.aload_n 2, 1) := by decide +kernel
theorem dX6_count_146 : decode cX6_count 146 = .ok (.aload_n 2, 1) := by decide +kernel
theorem dX6_count_147 : decode cX6_count 147 = .ok (.getfield 141, 3) := by decide +kernel
theorem dX6_count_150 : decode cX6_count 150 = .ok (.invokevirtual 187, 3) := by decide +kernel
theorem dX6_count_153 : decode cX6_count 153 = .ok (.ireturn, 1) := by decide +kernel
theorem dX6_count_154 : decode cX6_count 154 = .ok (.aload_n 2, 1) := by decide +kernel
theorem dX6_count_155 : decode cX6_count 155 = .ok (.aload_n 2, 1) := by decide +kernel
theorem dX6_count_156 : decode cX6_count 156 = .ok (.getfield 144, 3) := by decide +kernel
theorem dX6_count_159 : decode cX6_count 159 = .ok (.invokevirtual 187, 3) := by decide +kernel
theorem dX6_count_162 : decode cX6_count 162 = .ok (.ireturn, 1) := by decide +kernel
theorem dX6_count_163 : decode cX6_count 163 = .ok (.aload_n 2, 1) := by decide +kernel
theorem dX6_count_164 : decode cX6_count 164 = .ok (.aload_n 2, 1) := by decide +kernel
theorem dX6_count_165 : decode cX6_count 165 = .ok (.getfield 147, 3) := by decide +kernel
theorem dX6_count_168 : decode cX6_count 168 = .ok (.invokevirtual 187, 3) := by decide +kernel
theorem dX6_count_171 : decode cX6_count 171 = .ok (.ireturn, 1) := by decide +kernel
theorem dX6_count_172 : decode cX6_count 172 = .ok (.aload_n 0, 1) := by decide +kernel
theorem dX6_count_173 : decode cX6_count 173 = .ok (.getfield 32, 3) := by decide +kernel
theorem dX6_count_176 : decode cX6_count 176 = .ok (.aload_n 0, 1) := by decide +kernel
theorem dX6_count_177 : decode cX6_count 177 = .ok (.getfield 12, 3) := by decide +kernel
theorem dX6_count_180 : decode cX6_count 180 = .ok (.aload_n 0, 1) := by decide +kernel
theorem dX6_count_181 : decode cX6_count 181 = .ok (.getfield 19, 3) := by decide +kernel
theorem dX6_count_184 : decode cX6_count 184 = .ok (.invokevirtual 191, 3) := by decide +kernel
theorem dX6_count_187 : decode cX6_count 187 = .ok (.ireturn, 1) := by decide +kernel
theorem dX6_count_188 : decode cX6_count 188 = .ok (.aload_n 0, 1) := by decide +kernel
theorem dX6_count_189 : decode cX6_count 189 = .ok (.getfield 12, 3) := by decide +kernel
theorem dX6_count_192 : decode cX6_count 192 = .ok (.getfield 88, 3) := by decide +kernel
theorem dX6_count_195 : decode cX6_count 195 = .ok (.invokevirtual 195, 3) := by decide +kernel
theorem dX6_count_198 : decode cX6_count 198 = .ok (.ireturn, 1) := by decide +kernel
theorem dX6_count_199 : decode cX6_count 199 = .ok (.aload_n 0, 1) := by decide +kernel
theorem dX6_count_200 : decode cX6_count 200 = .ok (.getfield 39, 3) := by decide +kernel
theorem dX6_count_203 : decode cX6_count 203 = .ok (.getfield 198, 3) := by decide +kernel
theorem dX6_count_206 : decode cX6_count 206 = .ok (.ireturn, 1) := by decide +kernel
theorem dX6_count_207 : decode cX6_count 207 = .ok (.aload_n 0, 1) := by decide +kernel
theorem dX6_count_208 : decode cX6_count 208 = .ok (.getfield 47, 3) := by decide +kernel
theorem dX6_count_211 : decode cX6_count 211 = .ok (.ireturn, 1) := by decide +kernel
theorem dX6_count_212 : decode cX6_count 212 = .ok (.aload_n 0, 1) := by decide +kernel
theorem dX6_count_213 : decode cX6_count 213 = .ok (.getfield 12, 3) := by decide +kernel
theorem dX6_count_216 : decode cX6_count 216 = .ok (.getfield 71, 3) := by decide +kernel
theorem dX6_count_219 : decode cX6_count 219 = .ok (.iconst 0, 1) := by decide +kernel
theorem dX6_count_220 : decode cX6_count 220 = .ok (.iaload, 1) := by decide +kernel
theorem dX6_count_221 : decode cX6_count 221 = .ok (.ireturn, 1) := by decide +kernel
theorem dX6_count_222 : decode cX6_count 222 = .ok (.aload_n 0, 1) := by decide +kernel
theorem dX6_count_223 : decode cX6_count 223 = .ok (.getfield 12, 3) := by decide +kernel
theorem dX6_count_226 : decode cX6_count 226 = .ok (.getfield 71, 3) := by decide +kernel
theorem dX6_count_229 : decode cX6_count 229 = .ok (.iconst 1, 1) := by decide +kernel
theorem dX6_count_230 : decode cX6_count 230 = .ok (.iaload, 1) := by decide +kernel
theorem dX6_count_231 : decode cX6_count 231 = .ok (.ireturn, 1) := by decide +kernel
theorem dX6_count_232 : decode cX6_count 232 = .ok (.aload_n 0, 1) := by decide +kernel
theorem dX6_count_233 : decode cX6_count 233 = .ok (.getfield 12, 3) := by decide +kernel
theorem dX6_count_236 : decode cX6_count 236 = .ok (.getfield 71, 3) := by decide +kernel
theorem dX6_count_239 : decode cX6_count 239 = .ok (.iconst 2, 1) := by decide +kernel
theorem dX6_count_240 : decode cX6_count 240 = .ok (.iaload, 1) := by decide +kernel
theorem dX6_count_241 : decode cX6_count 241 = .ok (.ireturn, 1) := by decide +kernel
theorem dX6_count_242 : decode cX6_count 242 = .ok (.bipush (-2), 2) := by decide +kernel
theorem dX6_count_244 : decode cX6_count 244 = .ok (.ireturn, 1) := by decide +kernel
set_option maxRecDepth 20000 in
theorem ggX6_leastWay_X0_has : GoodIn wsX6_leastWay wsX0_has := goodIn_r _ [8, 9, 10, 51, 52, 53] (by decide +kernel) (by decide +kernel)
set_option maxRecDepth 20000 in
theorem gX6_leastWay_X0_has : GoodIn wsX6_leastWay (wsV RX6 171 RX0 yX0_has wsX0_has) := goodIn_app (goodIn_of _ (by decide +kernel)) ggX6_leastWay_X0_has
set_option maxRecDepth 20000 in
theorem ggX6_leastWay_X5_wayLength : GoodIn wsX6_leastWay wsX5_wayLength := goodIn_r _ [15, 16, 17, 18, 19, 20, 21, 22, 23, 24, 25, 26, 27, 28, 29, 7, 30, 9, 31, 32, 33, 34, 45, 46, 47, 48, 49, 50, 54, 55, 56, 57, 58, 59, 51, 52, 53] (by decide +kernel) (by decide +kernel)
set_option maxRecDepth 20000 in
theorem gX6_leastWay_X5_wayLength : GoodIn wsX6_leastWay (wsV RX6 201 RX5 yX5_wayLength wsX5_wayLength) := goodIn_app (goodIn_of _ (by decide +kernel)) ggX6_leastWay_X5_wayLength
theorem dX6_leastWay_0 : decode cX6_leastWay 0 = .ok (.aload_n 0, 1) := by decide +kernel
theorem dX6_leastWay_1 : decode cX6_leastWay 1 = .ok (.getfield 12, 3) := by decide +kernel
theorem dX6_leastWay_4 : decode cX6_leastWay 4 = .ok (.getfield 88, 3) := by decide +kernel
theorem dX6_leastWay_7 : decode cX6_leastWay 7 = .ok (.iload_n 1, 1) := by decide +kernel
theorem dX6_leastWay_8 : decode cX6_leastWay 8 = .ok (.invokevirtual 171, 3) := by decide +kernel
theorem dX6_leastWay_11 : decode cX6_leastWay 11 = .ok (.ifCond .eq 17, 3) := by decide +kernel
theorem dX6_leastWay_14 : decode cX6_leastWay 14 = .ok (.aload_n 0, 1) := by decide +kernel
theorem dX6_leastWay_15 : decode cX6_leastWay 15 = .ok (.getfield 12, 3) := by decide +kernel
theorem dX6_leastWay_18 : decode cX6_leastWay 18 = .ok (.getfield 88, 3) := by decide +kernel
theorem dX6_leastWay_21 : decode cX6_leastWay 21 = .ok (.iload_n 2, 1) := by decide +kernel
theorem dX6_leastWay_22 : decode cX6_leastWay 22 = .ok (.invokevirtual 171, 3) := by decide +kernel
theorem dX6_leastWay_25 : decode cX6_leastWay 25 = .ok (.ifCond .ne 5, 3) := by decide +kernel
theorem dX6_leastWay_28 : decode cX6_leastWay 28 = .ok (.iconst (-1), 1) := by decide +kernel
theorem dX6_leastWay_29 : decode cX6_leastWay 29 = .ok (.ireturn, 1) := by decide +kernel
theorem dX6_leastWay_30 : decode cX6_leastWay 30 = .ok (.aload_n 0, 1) := by decide +kernel
theorem dX6_leastWay_31 : decode cX6_leastWay 31 = .ok (.getfield 12, 3) := by decide +kernel
theorem dX6_leastWay_34 : decode cX6_leastWay 34 = .ok (.aload_n 0, 1) := by decide +kernel
theorem dX6_leastWay_35 : decode cX6_leastWay 35 = .ok (.getfield 19, 3) := by decide +kernel
theorem dX6_leastWay_38 : decode cX6_leastWay 38 = .ok (.iload_n 1, 1) := by decide +kernel
theorem dX6_leastWay_39 : decode cX6_leastWay 39 = .ok (.iload_n 2, 1) := by decide +kernel
theorem dX6_leastWay_40 : decode cX6_leastWay 40 = .ok (.invokevirtual 201, 3) := by decide +kernel
theorem dX6_leastWay_43 : decode cX6_leastWay 43 = .ok (.ireturn, 1) := by decide +kernel
set_option maxRecDepth 20000 in
theorem ggX6_ways_X0_has : GoodIn wsX6_ways wsX0_has := goodIn_r _ [8, 9, 10, 83, 84, 85] (by decide +kernel) (by decide +kernel)
set_option maxRecDepth 20000 in
theorem gX6_ways_X0_has : GoodIn wsX6_ways (wsV RX6 171 RX0 yX0_has wsX0_has) := goodIn_app (goodIn_of _ (by decide +kernel)) ggX6_ways_X0_has
set_option maxRecDepth 20000 in
theorem ggX6_ways_X5_wayLength : GoodIn wsX6_ways wsX5_wayLength := goodIn_r _ [15, 16, 17, 18, 19, 20, 21, 22, 23, 24, 25, 26, 27, 28, 29, 7, 30, 9, 31, 32, 33, 34, 77, 78, 79, 80, 81, 82, 86, 87, 88, 89, 90, 91, 83, 84, 85] (by decide +kernel) (by decide +kernel)
set_option maxRecDepth 20000 in
theorem gX6_ways_X5_wayLength : GoodIn wsX6_ways (wsV RX6 201 RX5 yX5_wayLength wsX5_wayLength) := goodIn_app (goodIn_of _ (by decide +kernel)) ggX6_ways_X5_wayLength
set_option maxRecDepth 20000 in
theorem ggX6_ways_X4_shortestWays : GoodIn wsX6_ways wsX4_shortestWays := goodIn_r _ [38, 39, 40, 41, 42, 21, 43, 23, 44, 45, 24, 25, 26, 46, 47, 48, 49, 50, 51, 52, 53, 54, 55, 56, 57, 58, 59, 60, 61, 62, 63, 64, 65, 66, 86, 87, 88, 89, 90, 91] (by decide +kernel) (by decide +kernel)
set_option maxRecDepth 20000 in
theorem gX6_ways_X4_shortestWays : GoodIn wsX6_ways (wsV RX6 205 RX4 yX4_shortestWays wsX4_shortestWays) := goodIn_app (goodIn_of _ (by decide +kernel)) ggX6_ways_X4_shortestWays
theorem dX6_ways_0 : decode cX6_ways 0 = .ok (.aload_n 0, 1) := by decide +kernel
theorem dX6_ways_1 : decode cX6_ways 1 = .ok (.getfield 12, 3) := by decide +kernel
theorem dX6_ways_4 : decode cX6_ways 4 = .ok (.getfield 88, 3) := by decide +kernel
theorem dX6_ways_7 : decode cX6_ways 7 = .ok (.iload_n 1, 1) := by decide +kernel
theorem dX6_ways_8 : decode cX6_ways 8 = .ok (.invokevirtual 171, 3) := by decide +kernel
theorem dX6_ways_11 : decode cX6_ways 11 = .ok (.ifCond .eq 17, 3) := by decide +kernel
theorem dX6_ways_14 : decode cX6_ways 14 = .ok (.aload_n 0, 1) := by decide +kernel
theorem dX6_ways_15 : decode cX6_ways 15 = .ok (.getfield 12, 3) := by decide +kernel
theorem dX6_ways_18 : decode cX6_ways 18 = .ok (.getfield 88, 3) := by decide +kernel
theorem dX6_ways_21 : decode cX6_ways 21 = .ok (.iload_n 2, 1) := by decide +kernel
theorem dX6_ways_22 : decode cX6_ways 22 = .ok (.invokevirtual 171, 3) := by decide +kernel
theorem dX6_ways_25 : decode cX6_ways 25 = .ok (.ifCond .ne 5, 3) := by decide +kernel
theorem dX6_ways_28 : decode cX6_ways 28 = .ok (.iconst (-1), 1) := by decide +kernel
theorem dX6_ways_29 : decode cX6_ways 29 = .ok (.ireturn, 1) := by decide +kernel
theorem dX6_ways_30 : decode cX6_ways 30 = .ok (.aload_n 0, 1) := by decide +kernel
theorem dX6_ways_31 : decode cX6_ways 31 = .ok (.getfield 12, 3) := by decide +kernel
theorem dX6_ways_34 : decode cX6_ways 34 = .ok (.aload_n 0, 1) := by decide +kernel
theorem dX6_ways_35 : decode cX6_ways 35 = .ok (.getfield 19, 3) := by decide +kernel
theorem dX6_ways_38 : decode cX6_ways 38 = .ok (.iload_n 1, 1) := by decide +kernel
theorem dX6_ways_39 : decode cX6_ways 39 = .ok (.iload_n 2, 1) := by decide +kernel
theorem dX6_ways_40 : decode cX6_ways 40 = .ok (.invokevirtual 201, 3) := by decide +kernel
theorem dX6_ways_43 : decode cX6_ways 43 = .ok (.bipush (-6), 2) := by decide +kernel
theorem dX6_ways_45 : decode cX6_ways 45 = .ok (.if_icmp .ne 5, 3) := by decide +kernel
theorem dX6_ways_48 : decode cX6_ways 48 = .ok (.iconst 0, 1) := by decide +kernel
theorem dX6_ways_49 : decode cX6_ways 49 = .ok (.ireturn, 1) := by decide +kernel
theorem dX6_ways_50 : decode cX6_ways 50 = .ok (.aload_n 0, 1) := by decide +kernel
theorem dX6_ways_51 : decode cX6_ways 51 = .ok (.getfield 19, 3) := by decide +kernel
theorem dX6_ways_54 : decode cX6_ways 54 = .ok (.iload_n 1, 1) := by decide +kernel
theorem dX6_ways_55 : decode cX6_ways 55 = .ok (.iload_n 2, 1) := by decide +kernel
theorem dX6_ways_56 : decode cX6_ways 56 = .ok (.invokevirtual 205, 3) := by decide +kernel
theorem dX6_ways_59 : decode cX6_ways 59 = .ok (.ireturn, 1) := by decide +kernel
set_option maxRecDepth 20000 in
theorem ggX6_pairs_X5_connectedPairs : GoodIn wsX6_pairs wsX5_connectedPairs := goodIn_r _ [7, 8, 9, 10, 11, 12, 13, 14, 15, 16, 17, 18, 6, 19, 20, 21, 22, 23, 24, 25, 26, 27, 28, 29, 30, 31, 32, 33, 34, 35, 36, 37, 48, 49, 50, 51, 52, 53, 54, 55, 56, 57, 58, 59, 60, 61, 62] (by decide +kernel) (by decide +kernel)
set_option maxRecDepth 20000 in
theorem gX6_pairs_X5_connectedPairs : GoodIn wsX6_pairs (wsV RX6 208 RX5 yX5_connectedPairs wsX5_connectedPairs) := goodIn_app (goodIn_of _ (by decide +kernel)) ggX6_pairs_X5_connectedPairs
theorem dX6_pairs_0 : decode cX6_pairs 0 = .ok (.aload_n 0, 1) := by decide +kernel
theorem dX6_pairs_1 : decode cX6_pairs 1 = .ok (.getfield 12, 3) := by decide +kernel
theorem dX6_pairs_4 : decode cX6_pairs 4 = .ok (.aload_n 0, 1) := by decide +kernel
theorem dX6_pairs_5 : decode cX6_pairs 5 = .ok (.getfield 19, 3) := by decide +kernel
theorem dX6_pairs_8 : decode cX6_pairs 8 = .ok (.invokevirtual 208, 3) := by decide +kernel
theorem dX6_pairs_11 : decode cX6_pairs 11 = .ok (.ireturn, 1) := by decide +kernel
set_option maxRecDepth 20000 in
theorem ggX6_worstLink_X6_findWorstLink : GoodIn wsX6_worstLink wsX6_findWorstLink := goodIn_r _ [5, 6, 7, 8, 9, 10, 11, 12, 13, 14, 15, 16, 17, 18, 19, 20, 21, 22, 23, 24, 25, 26, 27, 28, 29, 30, 31, 32, 33, 34, 35, 36, 4, 37, 38, 39, 40, 41, 42, 43, 44, 45, 46, 47, 48, 49, 50, 51, 52, 53, 54, 55, 56, 57, 58, 59, 60, 61, 62, 63, 64, 65, 66, 67, 68, 69, 70, 71, 72, 73, 74, 75, 76, 77, 78, 79, 80, 81, 82, 83, 84, 85, 86, 87, 88, 89, 90, 91, 92, 93, 94, 95, 96, 97, 98, 99, 100, 101, 102, 103, 104, 105, 106, 107, 108, 109, 110, 111, 112, 113, 114, 115, 116, 117, 118, 119, 120, 121, 122, 123, 124, 125, 126, 127, 128, 129, 130, 131, 132, 133, 134, 135, 136, 137, 138, 139, 140, 141, 142, 143, 144, 145, 146, 147, 148, 151, 152, 153, 154, 155, 156, 157, 158, 159, 160, 161, 162, 163, 164, 165, 166, 167, 168, 169, 170, 171, 172, 173, 174, 175, 176, 177, 178, 179, 180, 181, 182, 183, 184, 185, 186] (by decide +kernel) (by decide +kernel)
set_option maxRecDepth 20000 in
theorem gX6_worstLink_X6_findWorstLink : GoodIn wsX6_worstLink (wsV RX6 212 RX6 yX6_findWorstLink wsX6_findWorstLink) := goodIn_app (goodIn_of _ (by decide +kernel)) ggX6_worstLink_X6_findWorstLink
set_option maxRecDepth 20000 in
theorem ggX6_worstLink_X0_boxOfLink : GoodIn wsX6_worstLink wsX0_boxOfLink := goodIn_r _ [21] (by decide +kernel) (by decide +kernel)
set_option maxRecDepth 20000 in
theorem gX6_worstLink_X0_boxOfLink : GoodIn wsX6_worstLink (va_wsS RX6 215 yX0_boxOfLink wsX0_boxOfLink) := goodIn_app (goodIn_of _ (by decide +kernel)) ggX6_worstLink_X0_boxOfLink
set_option maxRecDepth 20000 in
theorem ggX6_worstLink_X0_sideOfLink : GoodIn wsX6_worstLink wsX0_sideOfLink := goodIn_r _ [24] (by decide +kernel) (by decide +kernel)
set_option maxRecDepth 20000 in
theorem gX6_worstLink_X0_sideOfLink : GoodIn wsX6_worstLink (va_wsS RX6 218 yX0_sideOfLink wsX0_sideOfLink) := goodIn_app (goodIn_of _ (by decide +kernel)) ggX6_worstLink_X0_sideOfLink
set_option maxRecDepth 20000 in
theorem ggX6_worstLink_X6_pairsWithout : GoodIn wsX6_worstLink wsX6_pairsWithout := goodIn_r _ [37, 6, 38, 7, 39, 40, 41, 42, 43, 44, 45, 46, 47, 48, 49, 50, 51, 52, 53, 54, 55, 56, 57, 11, 58, 13, 14, 33, 59, 60, 61, 62, 63, 64, 65, 66, 67, 68, 69, 70, 71, 72, 73, 74, 75, 76, 77, 78, 79, 80, 81, 82, 83, 84, 85, 86, 87, 88, 9, 10, 12, 89, 90, 91, 92, 93, 94, 95, 96, 25, 26, 27, 28, 97, 30, 31, 32, 98, 99, 100, 101, 102, 103, 104, 105, 106, 107, 108, 109, 110, 111, 112, 113, 114, 115, 116, 117, 118, 119, 120, 121, 122, 123, 124, 125, 126, 127, 128, 129, 130, 131, 132, 133, 134, 135, 136, 137, 138, 139, 140, 141, 142, 143, 144, 145, 146, 147, 148, 151, 152, 153, 154, 155, 156, 157, 158, 159, 160, 161, 162, 163, 164, 165, 166, 167, 168, 169, 170, 171, 172, 173, 174, 175, 176, 177, 178, 179, 180, 181, 182, 183, 184, 185, 186] (by decide +kernel) (by decide +kernel)
set_option maxRecDepth 20000 in
theorem gX6_worstLink_X6_pairsWithout : GoodIn wsX6_worstLink (wsV RX6 221 RX6 yX6_pairsWithout wsX6_pairsWithout) := goodIn_app (goodIn_of _ (by decide +kernel)) ggX6_worstLink_X6_pairsWithout
theorem dX6_worstLink_0 : decode cX6_worstLink 0 = .ok (.iload_n 1, 1) := by decide +kernel
theorem dX6_worstLink_1 : decode cX6_worstLink 1 = .ok (.ifCond .lt 8, 3) := by decide +kernel
theorem dX6_worstLink_4 : decode cX6_worstLink 4 = .ok (.iload_n 1, 1) := by decide +kernel
theorem dX6_worstLink_5 : decode cX6_worstLink 5 = .ok (.iconst 2, 1) := by decide +kernel
theorem dX6_worstLink_6 : decode cX6_worstLink 6 = .ok (.if_icmp .le 6, 3) := by decide +kernel
theorem dX6_worstLink_9 : decode cX6_worstLink 9 = .ok (.bipush (-2), 2) := by decide +kernel
theorem dX6_worstLink_11 : decode cX6_worstLink 11 = .ok (.ireturn, 1) := by decide +kernel
theorem dX6_worstLink_12 : decode cX6_worstLink 12 = .ok (.aload_n 0, 1) := by decide +kernel
theorem dX6_worstLink_13 : decode cX6_worstLink 13 = .ok (.invokevirtual 212, 3) := by decide +kernel
theorem dX6_worstLink_16 : decode cX6_worstLink 16 = .ok (.istore_n 2, 1) := by decide +kernel
theorem dX6_worstLink_17 : decode cX6_worstLink 17 = .ok (.iload_n 2, 1) := by decide +kernel
theorem dX6_worstLink_18 : decode cX6_worstLink 18 = .ok (.iconst (-1), 1) := by decide +kernel
theorem dX6_worstLink_19 : decode cX6_worstLink 19 = .ok (.if_icmp .ne 6, 3) := by decide +kernel
theorem dX6_worstLink_22 : decode cX6_worstLink 22 = .ok (.bipush (-6), 2) := by decide +kernel
theorem dX6_worstLink_24 : decode cX6_worstLink 24 = .ok (.ireturn, 1) := by decide +kernel
theorem dX6_worstLink_25 : decode cX6_worstLink 25 = .ok (.iload_n 1, 1) := by decide +kernel
theorem dX6_worstLink_26 : decode cX6_worstLink 26 = .ok (.lookupswitch 36 #[(0, 26), (1, 31)], 26) := by decide +kernel
theorem dX6_worstLink_52 : decode cX6_worstLink 52 = .ok (.iload_n 2, 1) := by decide +kernel
theorem dX6_worstLink_53 : decode cX6_worstLink 53 = .ok (.invokestatic 215, 3) := by decide +kernel
theorem dX6_worstLink_56 : decode cX6_worstLink 56 = .ok (.ireturn, 1) := by decide +kernel
theorem dX6_worstLink_57 : decode cX6_worstLink 57 = .ok (.iload_n 2, 1) := by decide +kernel
theorem dX6_worstLink_58 : decode cX6_worstLink 58 = .ok (.invokestatic 218, 3) := by decide +kernel
theorem dX6_worstLink_61 : decode cX6_worstLink 61 = .ok (.ireturn, 1) := by decide +kernel
theorem dX6_worstLink_62 : decode cX6_worstLink 62 = .ok (.aload_n 0, 1) := by decide +kernel
theorem dX6_worstLink_63 : decode cX6_worstLink 63 = .ok (.iload_n 2, 1) := by decide +kernel
theorem dX6_worstLink_64 : decode cX6_worstLink 64 = .ok (.invokevirtual 221, 3) := by decide +kernel
theorem dX6_worstLink_67 : decode cX6_worstLink 67 = .ok (.ireturn, 1) := by decide +kernel
theorem dX6_busiest_0 : decode cX6_busiest 0 = .ok (.iload_n 1, 1) := by decide +kernel
theorem dX6_busiest_1 : decode cX6_busiest 1 = .ok (.ifCond .lt 8, 3) := by decide +kernel
theorem dX6_busiest_4 : decode cX6_busiest 4 = .ok (.iload_n 1, 1) := by decide +kernel
theorem dX6_busiest_5 : decode cX6_busiest 5 = .ok (.iconst 2, 1) := by decide +kernel
theorem dX6_busiest_6 : decode cX6_busiest 6 = .ok (.if_icmp .le 6, 3) := by decide +kernel
theorem dX6_busiest_9 : decode cX6_busiest 9 = .ok (.bipush (-2), 2) := by decide +kernel
theorem dX6_busiest_11 : decode cX6_busiest 11 = .ok (.ireturn, 1) := by decide +kernel
theorem dX6_busiest_12 : decode cX6_busiest 12 = .ok (.iconst 0, 1) := by decide +kernel
theorem dX6_busiest_13 : decode cX6_busiest 13 = .ok (.istore_n 2, 1) := by decide +kernel
theorem dX6_busiest_14 : decode cX6_busiest 14 = .ok (.iconst 1, 1) := by decide +kernel
theorem dX6_busiest_15 : decode cX6_busiest 15 = .ok (.istore_n 3, 1) := by decide +kernel
theorem dX6_busiest_16 : decode cX6_busiest 16 = .ok (.iload_n 3, 1) := by decide +kernel
theorem dX6_busiest_17 : decode cX6_busiest 17 = .ok (.bipush 100, 2) := by decide +kernel
theorem dX6_busiest_19 : decode cX6_busiest 19 = .ok (.if_icmp .ge 32, 3) := by decide +kernel
theorem dX6_busiest_22 : decode cX6_busiest 22 = .ok (.aload_n 0, 1) := by decide +kernel
theorem dX6_busiest_23 : decode cX6_busiest 23 = .ok (.getfield 12, 3) := by decide +kernel
theorem dX6_busiest_26 : decode cX6_busiest 26 = .ok (.getfield 178, 3) := by decide +kernel
theorem dX6_busiest_29 : decode cX6_busiest 29 = .ok (.iload_n 3, 1) := by decide +kernel
theorem dX6_busiest_30 : decode cX6_busiest 30 = .ok (.iaload, 1) := by decide +kernel
theorem dX6_busiest_31 : decode cX6_busiest 31 = .ok (.aload_n 0, 1) := by decide +kernel
theorem dX6_busiest_32 : decode cX6_busiest 32 = .ok (.getfield 12, 3) := by decide +kernel
theorem dX6_busiest_35 : decode cX6_busiest 35 = .ok (.getfield 178, 3) := by decide +kernel
theorem dX6_busiest_38 : decode cX6_busiest 38 = .ok (.iload_n 2, 1) := by decide +kernel
theorem dX6_busiest_39 : decode cX6_busiest 39 = .ok (.iaload, 1) := by decide +kernel
theorem dX6_busiest_40 : decode cX6_busiest 40 = .ok (.if_icmp .le 5, 3) := by decide +kernel
theorem dX6_busiest_43 : decode cX6_busiest 43 = .ok (.iload_n 3, 1) := by decide +kernel
theorem dX6_busiest_44 : decode cX6_busiest 44 = .ok (.istore_n 2, 1) := by decide +kernel
theorem dX6_busiest_45 : decode cX6_busiest 45 = .ok (.iinc 3 1, 3) := by decide +kernel
theorem dX6_busiest_48 : decode cX6_busiest 48 = .ok (.goto (-32), 3) := by decide +kernel
theorem dX6_busiest_51 : decode cX6_busiest 51 = .ok (.aload_n 0, 1) := by decide +kernel
theorem dX6_busiest_52 : decode cX6_busiest 52 = .ok (.getfield 12, 3) := by decide +kernel
theorem dX6_busiest_55 : decode cX6_busiest 55 = .ok (.getfield 178, 3) := by decide +kernel
theorem dX6_busiest_58 : decode cX6_busiest 58 = .ok (.iload_n 2, 1) := by decide +kernel
theorem dX6_busiest_59 : decode cX6_busiest 59 = .ok (.iaload, 1) := by decide +kernel
theorem dX6_busiest_60 : decode cX6_busiest 60 = .ok (.ifCond .ne 6, 3) := by decide +kernel
theorem dX6_busiest_63 : decode cX6_busiest 63 = .ok (.bipush (-6), 2) := by decide +kernel
theorem dX6_busiest_65 : decode cX6_busiest 65 = .ok (.ireturn, 1) := by decide +kernel
theorem dX6_busiest_66 : decode cX6_busiest 66 = .ok (.iload_n 1, 1) := by decide +kernel
theorem dX6_busiest_67 : decode cX6_busiest 67 = .ok (.lookupswitch 33 #[(0, 25), (1, 29)], 25) := by decide +kernel
theorem dX6_busiest_92 : decode cX6_busiest 92 = .ok (.iload_n 2, 1) := by decide +kernel
theorem dX6_busiest_93 : decode cX6_busiest 93 = .ok (.iconst 4, 1) := by decide +kernel
theorem dX6_busiest_94 : decode cX6_busiest 94 = .ok (.idiv, 1) := by decide +kernel
theorem dX6_busiest_95 : decode cX6_busiest 95 = .ok (.ireturn, 1) := by decide +kernel
theorem dX6_busiest_96 : decode cX6_busiest 96 = .ok (.iload_n 2, 1) := by decide +kernel
theorem dX6_busiest_97 : decode cX6_busiest 97 = .ok (.iconst 4, 1) := by decide +kernel
theorem dX6_busiest_98 : decode cX6_busiest 98 = .ok (.irem, 1) := by decide +kernel
theorem dX6_busiest_99 : decode cX6_busiest 99 = .ok (.ireturn, 1) := by decide +kernel
theorem dX6_busiest_100 : decode cX6_busiest 100 = .ok (.aload_n 0, 1) := by decide +kernel
theorem dX6_busiest_101 : decode cX6_busiest 101 = .ok (.getfield 12, 3) := by decide +kernel
theorem dX6_busiest_104 : decode cX6_busiest 104 = .ok (.getfield 178, 3) := by decide +kernel
theorem dX6_busiest_107 : decode cX6_busiest 107 = .ok (.iload_n 2, 1) := by decide +kernel
theorem dX6_busiest_108 : decode cX6_busiest 108 = .ok (.iaload, 1) := by decide +kernel
theorem dX6_busiest_109 : decode cX6_busiest 109 = .ok (.ireturn, 1) := by decide +kernel
set_option maxRecDepth 20000 in
theorem ggX6_arrivesIn_X2_has : GoodIn wsX6_arrivesIn wsX2_has := goodIn_r _ [10, 11, 140, 141, 142, 143, 144, 145, 146, 147, 148, 149, 150] (by decide +kernel) (by decide +kernel)
set_option maxRecDepth 20000 in
theorem gX6_arrivesIn_X2_has : GoodIn wsX6_arrivesIn (wsV RX6 126 RX2 yX2_has wsX2_has) := goodIn_app (goodIn_of _ (by decide +kernel)) ggX6_arrivesIn_X2_has
set_option maxRecDepth 20000 in
theorem ggX6_arrivesIn_X5_copyState : GoodIn wsX6_arrivesIn wsX5_copyState := goodIn_r _ [15, 16, 17, 18, 19, 20, 21, 22, 23, 24, 25, 26, 27, 28, 29, 30, 31, 32, 33, 34, 35, 36, 9, 37, 11, 38, 39, 40, 41, 42, 43, 44, 45, 46, 47, 48, 134, 135, 136, 137, 138, 139, 151, 152, 153, 140, 141, 142, 143, 144, 145, 146, 147, 148, 149, 150] (by decide +kernel) (by decide +kernel)
set_option maxRecDepth 20000 in
theorem gX6_arrivesIn_X5_copyState : GoodIn wsX6_arrivesIn (va_wsS RX6 224 yX5_copyState wsX5_copyState) := goodIn_app (goodIn_of _ (by decide +kernel)) ggX6_arrivesIn_X5_copyState
set_option maxRecDepth 20000 in
theorem ggX6_arrivesIn_X5_passTicks : GoodIn wsX6_arrivesIn wsX5_passTicks := goodIn_r _ [52, 22, 53, 54, 55, 25, 56, 57, 58, 14, 59, 60, 23, 61, 62, 63, 64, 16, 65, 66, 67, 68, 69, 24, 21, 70, 71, 72, 73, 74, 75, 76, 77, 78, 79, 80, 81, 82, 83, 84, 85, 86, 87, 29, 88, 31, 89, 90, 91, 92, 93, 94, 95, 96, 97, 98, 99, 100, 101, 102, 103, 104, 105, 106, 107, 108, 109, 110, 111, 112, 113, 114, 115, 116, 117, 118, 119, 120, 121, 122, 9, 123, 42, 43, 44, 48, 134, 135, 136, 137, 138, 139, 140, 141, 142, 143, 144, 145, 146, 147, 148, 149, 150, 151, 152, 153, 154, 155, 156, 157, 158, 159] (by decide +kernel) (by decide +kernel)
set_option maxRecDepth 20000 in
theorem gX6_arrivesIn_X5_passTicks : GoodIn wsX6_arrivesIn (wsV RX6 122 RX5 yX5_passTicks wsX5_passTicks) := goodIn_app (goodIn_of _ (by decide +kernel)) ggX6_arrivesIn_X5_passTicks
theorem dX6_arrivesIn_0 : decode cX6_arrivesIn 0 = .ok (.aload_n 0, 1) := by decide +kernel
theorem dX6_arrivesIn_1 : decode cX6_arrivesIn 1 = .ok (.getfield 12, 3) := by decide +kernel
theorem dX6_arrivesIn_4 : decode cX6_arrivesIn 4 = .ok (.getfield 79, 3) := by decide +kernel
theorem dX6_arrivesIn_7 : decode cX6_arrivesIn 7 = .ok (.iload_n 1, 1) := by decide +kernel
theorem dX6_arrivesIn_8 : decode cX6_arrivesIn 8 = .ok (.invokevirtual 126, 3) := by decide +kernel
theorem dX6_arrivesIn_11 : decode cX6_arrivesIn 11 = .ok (.ifCond .ne 5, 3) := by decide +kernel
theorem dX6_arrivesIn_14 : decode cX6_arrivesIn 14 = .ok (.iconst (-1), 1) := by decide +kernel
theorem dX6_arrivesIn_15 : decode cX6_arrivesIn 15 = .ok (.ireturn, 1) := by decide +kernel
theorem dX6_arrivesIn_16 : decode cX6_arrivesIn 16 = .ok (.aload_n 0, 1) := by decide +kernel
theorem dX6_arrivesIn_17 : decode cX6_arrivesIn 17 = .ok (.getfield 12, 3) := by decide +kernel
theorem dX6_arrivesIn_20 : decode cX6_arrivesIn 20 = .ok (.aload_n 0, 1) := by decide +kernel
theorem dX6_arrivesIn_21 : decode cX6_arrivesIn 21 = .ok (.getfield 23, 3) := by decide +kernel
theorem dX6_arrivesIn_24 : decode cX6_arrivesIn 24 = .ok (.invokestatic 224, 3) := by decide +kernel
theorem dX6_arrivesIn_27 : decode cX6_arrivesIn 27 = .ok (.iconst 0, 1) := by decide +kernel
theorem dX6_arrivesIn_28 : decode cX6_arrivesIn 28 = .ok (.istore_n 2, 1) := by decide +kernel
theorem dX6_arrivesIn_29 : decode cX6_arrivesIn 29 = .ok (.iload_n 2, 1) := by decide +kernel
theorem dX6_arrivesIn_30 : decode cX6_arrivesIn 30 = .ok (.sipush 300, 3) := by decide +kernel
theorem dX6_arrivesIn_33 : decode cX6_arrivesIn 33 = .ok (.if_icmp .gt 39, 3) := by decide +kernel
theorem dX6_arrivesIn_36 : decode cX6_arrivesIn 36 = .ok (.aload_n 0, 1) := by decide +kernel
theorem dX6_arrivesIn_37 : decode cX6_arrivesIn 37 = .ok (.getfield 23, 3) := by decide +kernel
theorem dX6_arrivesIn_40 : decode cX6_arrivesIn 40 = .ok (.getfield 79, 3) := by decide +kernel
theorem dX6_arrivesIn_43 : decode cX6_arrivesIn 43 = .ok (.getfield 135, 3) := by decide +kernel
theorem dX6_arrivesIn_46 : decode cX6_arrivesIn 46 = .ok (.iload_n 1, 1) := by decide +kernel
theorem dX6_arrivesIn_47 : decode cX6_arrivesIn 47 = .ok (.iaload, 1) := by decide +kernel
theorem dX6_arrivesIn_48 : decode cX6_arrivesIn 48 = .ok (.iconst 2, 1) := by decide +kernel
theorem dX6_arrivesIn_49 : decode cX6_arrivesIn 49 = .ok (.if_icmp .ne 5, 3) := by decide +kernel
theorem dX6_arrivesIn_52 : decode cX6_arrivesIn 52 = .ok (.iload_n 2, 1) := by decide +kernel
theorem dX6_arrivesIn_53 : decode cX6_arrivesIn 53 = .ok (.ireturn, 1) := by decide +kernel
theorem dX6_arrivesIn_54 : decode cX6_arrivesIn 54 = .ok (.aload_n 0, 1) := by decide +kernel
theorem dX6_arrivesIn_55 : decode cX6_arrivesIn 55 = .ok (.getfield 23, 3) := by decide +kernel
theorem dX6_arrivesIn_58 : decode cX6_arrivesIn 58 = .ok (.aload_n 0, 1) := by decide +kernel
theorem dX6_arrivesIn_59 : decode cX6_arrivesIn 59 = .ok (.getfield 19, 3) := by decide +kernel
theorem dX6_arrivesIn_62 : decode cX6_arrivesIn 62 = .ok (.iconst 1, 1) := by decide +kernel
theorem dX6_arrivesIn_63 : decode cX6_arrivesIn 63 = .ok (.invokevirtual 122, 3) := by decide +kernel
theorem dX6_arrivesIn_66 : decode cX6_arrivesIn 66 = .ok (.iinc 2 1, 3) := by decide +kernel
theorem dX6_arrivesIn_69 : decode cX6_arrivesIn 69 = .ok (.goto (-40), 3) := by decide +kernel
theorem dX6_arrivesIn_72 : decode cX6_arrivesIn 72 = .ok (.bipush (-6), 2) := by decide +kernel
theorem dX6_arrivesIn_74 : decode cX6_arrivesIn 74 = .ok (.ireturn, 1) := by decide +kernel
set_option maxRecDepth 20000 in
theorem ggX6_arrivedBy_X6_isTicks : GoodIn wsX6_arrivedBy wsX6_isTicks := goodIn_r _ [8] (by decide +kernel) (by decide +kernel)
set_option maxRecDepth 20000 in
theorem gX6_arrivedBy_X6_isTicks : GoodIn wsX6_arrivedBy (va_wsS RX6 119 yX6_isTicks wsX6_isTicks) := goodIn_app (goodIn_of _ (by decide +kernel)) ggX6_arrivedBy_X6_isTicks
set_option maxRecDepth 20000 in
theorem ggX6_arrivedBy_X5_copyState : GoodIn wsX6_arrivedBy wsX5_copyState := goodIn_r _ [12, 13, 14, 15, 16, 17, 18, 19, 20, 21, 22, 23, 24, 25, 26, 27, 28, 29, 30, 31, 32, 33, 34, 35, 36, 37, 38, 39, 40, 41, 42, 43, 44, 45, 46, 47, 137, 138, 139, 140, 141, 142, 143, 144, 145, 146, 147, 148, 149, 150, 151, 152, 153, 154, 155, 156] (by decide +kernel) (by decide +kernel)
set_option maxRecDepth 20000 in
theorem gX6_arrivedBy_X5_copyState : GoodIn wsX6_arrivedBy (va_wsS RX6 224 yX5_copyState wsX5_copyState) := goodIn_app (goodIn_of _ (by decide +kernel)) ggX6_arrivedBy_X5_copyState
set_option maxRecDepth 20000 in
theorem ggX6_arrivedBy_X5_passTicks : GoodIn wsX6_arrivedBy wsX5_passTicks := goodIn_r _ [51, 19, 52, 53, 54, 22, 55, 56, 57, 11, 58, 59, 20, 60, 61, 62, 63, 13, 64, 65, 66, 67, 68, 21, 18, 69, 70, 71, 72, 73, 74, 75, 76, 77, 78, 79, 80, 81, 82, 83, 84, 85, 86, 26, 87, 28, 88, 89, 90, 91, 92, 93, 94, 95, 96, 97, 98, 99, 100, 101, 102, 103, 104, 105, 106, 107, 108, 109, 110, 111, 112, 113, 114, 115, 116, 117, 118, 119, 120, 121, 34, 122, 41, 42, 43, 47, 137, 138, 139, 140, 141, 142, 146, 147, 148, 149, 150, 151, 152, 153, 154, 155, 156, 143, 144, 145, 157, 158, 159, 160, 161, 162] (by decide +kernel) (by decide +kernel)
set_option maxRecDepth 20000 in
theorem gX6_arrivedBy_X5_passTicks : GoodIn wsX6_arrivedBy (wsV RX6 122 RX5 yX5_passTicks wsX5_passTicks) := goodIn_app (goodIn_of _ (by decide +kernel)) ggX6_arrivedBy_X5_passTicks
set_option maxRecDepth 20000 in
theorem ggX6_arrivedBy_X2_countIn : GoodIn wsX6_arrivedBy wsX2_countIn := goodIn_r _ [126, 36, 40, 146, 147, 148, 149, 150, 151, 152, 153, 154, 155, 156] (by decide +kernel) (by decide +kernel)
set_option maxRecDepth 20000 in
theorem gX6_arrivedBy_X2_countIn : GoodIn wsX6_arrivedBy (wsV RX6 184 RX2 yX2_countIn wsX2_countIn) := goodIn_app (goodIn_of _ (by decide +kernel)) ggX6_arrivedBy_X2_countIn
theorem dX6_arrivedBy_0 : decode cX6_arrivedBy 0 = .ok (.iload_n 1, 1) := by decide +kernel
theorem dX6_arrivedBy_1 : decode cX6_arrivedBy 1 = .ok (.invokestatic 119, 3) := by decide +kernel
theorem dX6_arrivedBy_4 : decode cX6_arrivedBy 4 = .ok (.ifCond .ne 6, 3) := by decide +kernel
theorem dX6_arrivedBy_7 : decode cX6_arrivedBy 7 = .ok (.bipush (-2), 2) := by decide +kernel
theorem dX6_arrivedBy_9 : decode cX6_arrivedBy 9 = .ok (.ireturn, 1) := by decide +kernel
theorem dX6_arrivedBy_10 : decode cX6_arrivedBy 10 = .ok (.aload_n 0, 1) := by decide +kernel
theorem dX6_arrivedBy_11 : decode cX6_arrivedBy 11 = .ok (.getfield 12, 3) := by decide +kernel
theorem dX6_arrivedBy_14 : decode cX6_arrivedBy 14 = .ok (.aload_n 0, 1) := by decide +kernel
theorem dX6_arrivedBy_15 : decode cX6_arrivedBy 15 = .ok (.getfield 23, 3) := by decide +kernel
theorem dX6_arrivedBy_18 : decode cX6_arrivedBy 18 = .ok (.invokestatic 224, 3) := by decide +kernel
theorem dX6_arrivedBy_21 : decode cX6_arrivedBy 21 = .ok (.aload_n 0, 1) := by decide +kernel
theorem dX6_arrivedBy_22 : decode cX6_arrivedBy 22 = .ok (.getfield 23, 3) := by decide +kernel
theorem dX6_arrivedBy_25 : decode cX6_arrivedBy 25 = .ok (.aload_n 0, 1) := by decide +kernel
theorem dX6_arrivedBy_26 : decode cX6_arrivedBy 26 = .ok (.getfield 19, 3) := by decide +kernel
theorem dX6_arrivedBy_29 : decode cX6_arrivedBy 29 = .ok (.iload_n 1, 1) := by decide +kernel
theorem dX6_arrivedBy_30 : decode cX6_arrivedBy 30 = .ok (.invokevirtual 122, 3) := by decide +kernel
theorem dX6_arrivedBy_33 : decode cX6_arrivedBy 33 = .ok (.aload_n 0, 1) := by decide +kernel
theorem dX6_arrivedBy_34 : decode cX6_arrivedBy 34 = .ok (.getfield 23, 3) := by decide +kernel
theorem dX6_arrivedBy_37 : decode cX6_arrivedBy 37 = .ok (.getfield 79, 3) := by decide +kernel
theorem dX6_arrivedBy_40 : decode cX6_arrivedBy 40 = .ok (.iconst 2, 1) := by decide +kernel
theorem dX6_arrivedBy_41 : decode cX6_arrivedBy 41 = .ok (.invokevirtual 184, 3) := by decide +kernel
theorem dX6_arrivedBy_44 : decode cX6_arrivedBy 44 = .ok (.ireturn, 1) := by decide +kernel
set_option maxRecDepth 20000 in
theorem ggX6_put_X3_countCharacters : GoodIn wsX6_put wsX3_countCharacters := goodIn_r _ [6, 7] (by decide +kernel) (by decide +kernel)
set_option maxRecDepth 20000 in
theorem gX6_put_X3_countCharacters : GoodIn wsX6_put (va_wsS RX6 228 yX3_countCharacters wsX3_countCharacters) := goodIn_app (goodIn_of _ (by decide +kernel)) ggX6_put_X3_countCharacters
set_option maxRecDepth 20000 in
theorem ggX6_put_X3_fits : GoodIn wsX6_put wsX3_fits := goodIn_r _ [11, 12, 29, 30, 31, 32, 33, 34, 35] (by decide +kernel) (by decide +kernel)
set_option maxRecDepth 20000 in
theorem gX6_put_X3_fits : GoodIn wsX6_put (wsV RX6 232 RX3 yX3_fits wsX3_fits) := goodIn_app (goodIn_of _ (by decide +kernel)) ggX6_put_X3_fits
set_option maxRecDepth 20000 in
theorem ggX6_put_X3_append : GoodIn wsX6_put wsX3_append := goodIn_r _ [16, 17, 12, 7, 18, 9, 10, 5, 11, 29, 30, 31, 32, 33, 34, 35] (by decide +kernel) (by decide +kernel)
set_option maxRecDepth 20000 in
theorem gX6_put_X3_append : GoodIn wsX6_put (wsV RX6 235 RX3 yX3_append wsX3_append) := goodIn_app (goodIn_of _ (by decide +kernel)) ggX6_put_X3_append
theorem dX6_put_0 : decode cX6_put 0 = .ok (.lload_n 1, 1) := by decide +kernel
theorem dX6_put_1 : decode cX6_put 1 = .ok (.invokestatic 228, 3) := by decide +kernel
theorem dX6_put_4 : decode cX6_put 4 = .ok (.istore_n 3, 1) := by decide +kernel
theorem dX6_put_5 : decode cX6_put 5 = .ok (.iload_n 3, 1) := by decide +kernel
theorem dX6_put_6 : decode cX6_put 6 = .ok (.ifCond .ne 6, 3) := by decide +kernel
theorem dX6_put_9 : decode cX6_put 9 = .ok (.bipush (-2), 2) := by decide +kernel
theorem dX6_put_11 : decode cX6_put 11 = .ok (.ireturn, 1) := by decide +kernel
theorem dX6_put_12 : decode cX6_put 12 = .ok (.aload_n 0, 1) := by decide +kernel
theorem dX6_put_13 : decode cX6_put 13 = .ok (.getfield 39, 3) := by decide +kernel
theorem dX6_put_16 : decode cX6_put 16 = .ok (.iload_n 3, 1) := by decide +kernel
theorem dX6_put_17 : decode cX6_put 17 = .ok (.invokevirtual 232, 3) := by decide +kernel
theorem dX6_put_20 : decode cX6_put 20 = .ok (.ifCond .ne 6, 3) := by decide +kernel
theorem dX6_put_23 : decode cX6_put 23 = .ok (.bipush (-4), 2) := by decide +kernel
theorem dX6_put_25 : decode cX6_put 25 = .ok (.ireturn, 1) := by decide +kernel
theorem dX6_put_26 : decode cX6_put 26 = .ok (.aload_n 0, 1) := by decide +kernel
theorem dX6_put_27 : decode cX6_put 27 = .ok (.getfield 39, 3) := by decide +kernel
theorem dX6_put_30 : decode cX6_put 30 = .ok (.lload_n 1, 1) := by decide +kernel
theorem dX6_put_31 : decode cX6_put 31 = .ok (.iload_n 3, 1) := by decide +kernel
theorem dX6_put_32 : decode cX6_put 32 = .ok (.invokevirtual 235, 3) := by decide +kernel
theorem dX6_put_35 : decode cX6_put 35 = .ok (.aload_n 0, 1) := by decide +kernel
theorem dX6_put_36 : decode cX6_put 36 = .ok (.getfield 39, 3) := by decide +kernel
theorem dX6_put_39 : decode cX6_put 39 = .ok (.getfield 198, 3) := by decide +kernel
theorem dX6_put_42 : decode cX6_put 42 = .ok (.ireturn, 1) := by decide +kernel
theorem dX6_wipe_0 : decode cX6_wipe 0 = .ok (.aload_n 0, 1) := by decide +kernel
theorem dX6_wipe_1 : decode cX6_wipe 1 = .ok (.getfield 39, 3) := by decide +kernel
theorem dX6_wipe_4 : decode cX6_wipe 4 = .ok (.getfield 198, 3) := by decide +kernel
theorem dX6_wipe_7 : decode cX6_wipe 7 = .ok (.istore_n 1, 1) := by decide +kernel
theorem dX6_wipe_8 : decode cX6_wipe 8 = .ok (.aload_n 0, 1) := by decide +kernel
theorem dX6_wipe_9 : decode cX6_wipe 9 = .ok (.getfield 39, 3) := by decide +kernel
theorem dX6_wipe_12 : decode cX6_wipe 12 = .ok (.iconst 0, 1) := by decide +kernel
theorem dX6_wipe_13 : decode cX6_wipe 13 = .ok (.putfield 198, 3) := by decide +kernel
theorem dX6_wipe_16 : decode cX6_wipe 16 = .ok (.iload_n 1, 1) := by decide +kernel
theorem dX6_wipe_17 : decode cX6_wipe 17 = .ok (.ireturn, 1) := by decide +kernel
set_option maxRecDepth 20000 in
theorem ggX6_fault_X3_readOrders : GoodIn wsX6_fault wsX3_readOrders := goodIn_r _ [6, 7, 8, 9, 10, 11, 12, 5, 13, 14, 15, 16, 17, 18, 19, 20, 21, 22, 23, 24, 25, 26, 27, 28, 29, 30, 31, 32, 33, 34, 35, 36, 37, 38, 39, 40, 51, 52, 53, 54, 55, 56, 57] (by decide +kernel) (by decide +kernel)
set_option maxRecDepth 20000 in
theorem gX6_fault_X3_readOrders : GoodIn wsX6_fault (wsV RX6 239 RX3 yX3_readOrders wsX3_readOrders) := goodIn_app (goodIn_of _ (by decide +kernel)) ggX6_fault_X3_readOrders
theorem dX6_fault_0 : decode cX6_fault 0 = .ok (.aload_n 0, 1) := by decide +kernel
theorem dX6_fault_1 : decode cX6_fault 1 = .ok (.getfield 39, 3) := by decide +kernel
theorem dX6_fault_4 : decode cX6_fault 4 = .ok (.invokevirtual 239, 3) := by decide +kernel
theorem dX6_fault_7 : decode cX6_fault 7 = .ok (.ireturn, 1) := by decide +kernel
set_option maxRecDepth 20000 in
theorem ggX6_carryOut_X3_readOrders : GoodIn wsX6_carryOut wsX3_readOrders := goodIn_r _ [8, 9, 10, 11, 12, 13, 14, 7, 15, 16, 17, 18, 19, 20, 21, 22, 23, 24, 25, 26, 27, 28, 29, 30, 31, 32, 33, 34, 35, 36, 37, 38, 39, 40, 41, 42, 277, 278, 279, 280, 281, 282, 283] (by decide +kernel) (by decide +kernel)
set_option maxRecDepth 20000 in
theorem gX6_carryOut_X3_readOrders : GoodIn wsX6_carryOut (wsV RX6 239 RX3 yX3_readOrders wsX3_readOrders) := goodIn_app (goodIn_of _ (by decide +kernel)) ggX6_carryOut_X3_readOrders
set_option maxRecDepth 20000 in
theorem ggX6_carryOut_X6_recordState : GoodIn wsX6_carryOut wsX6_recordState := goodIn_r _ [47, 48, 49, 50, 51, 52, 53, 46, 54, 55, 56, 57, 58, 59, 60, 61, 62, 63, 64, 65, 66, 67, 68, 69, 70, 71, 72, 73, 74, 75, 76, 77, 78, 79, 80, 81, 82, 83, 84, 85, 86, 87, 88, 89, 90, 91, 92, 93, 267, 268, 269, 270, 271, 272, 273, 274, 275, 276, 284, 285, 286, 287, 288, 289, 290, 291, 292, 293, 294, 295, 296, 297, 298, 299, 300, 301, 302, 303] (by decide +kernel) (by decide +kernel)
set_option maxRecDepth 20000 in
theorem gX6_carryOut_X6_recordState : GoodIn wsX6_carryOut (wsV RX6 68 RX6 yX6_recordState wsX6_recordState) := goodIn_app (goodIn_of _ (by decide +kernel)) ggX6_carryOut_X6_recordState
set_option maxRecDepth 20000 in
theorem ggX6_carryOut_X6_obey : GoodIn wsX6_carryOut wsX6_obey := goodIn_r _ [97, 1, 3, 98, 99, 100, 49, 101, 102, 103, 104, 105, 106, 46, 107, 108, 109, 110, 111, 112, 72, 113, 74, 75, 114, 115, 116, 57, 117, 64, 59, 118, 119, 120, 121, 122, 123, 124, 125, 126, 127, 128, 129, 130, 131, 132, 133, 134, 135, 136, 137, 80, 138, 82, 83, 85, 86, 87, 88, 89, 90, 91, 92, 93, 139, 140, 141, 142, 143, 144, 145, 146, 147, 148, 149, 150, 151, 152, 153, 154, 155, 156, 157, 158, 159, 160, 161, 162, 163, 164, 165, 76, 166, 167, 168, 169, 170, 171, 172, 173, 174, 175, 176, 177, 178, 179, 180, 181, 182, 183, 184, 185, 186, 187, 188, 189, 190, 191, 192, 193, 194, 195, 196, 197, 198, 199, 200, 201, 202, 203, 204, 205, 206, 207, 208, 209, 210, 211, 212, 213, 214, 215, 216, 217, 218, 219, 220, 221, 65, 222, 223, 224, 68, 225, 226, 227, 228, 229, 66, 230, 231, 232, 233, 234, 235, 236, 237, 238, 67, 239, 240, 241, 242, 243, 244, 245, 246, 247, 248, 249, 250, 251, 252, 253, 254, 255, 256, 257, 258, 259, 260, 261, 262, 263, 264, 265, 266, 267, 268, 269, 270, 271, 272, 273, 274, 275, 276, 277, 278, 279, 280, 281, 282, 283, 284, 285, 286, 287, 288, 289, 293, 294, 295, 296, 297, 298, 299, 300, 301, 302, 303, 290, 291, 292, 304, 305, 306, 307, 308, 309] (by decide +kernel) (by decide +kernel)
set_option maxRecDepth 20000 in
theorem gX6_carryOut_X6_obey : GoodIn wsX6_carryOut (wsV RX6 245 RX6 yX6_obey wsX6_obey) := goodIn_app (goodIn_of _ (by decide +kernel)) ggX6_carryOut_X6_obey
theorem dX6_carryOut_0 : decode cX6_carryOut 0 = .ok (.aload_n 0, 1) := by decide +kernel
theorem dX6_carryOut_1 : decode cX6_carryOut 1 = .ok (.getfield 39, 3) := by decide +kernel
theorem dX6_carryOut_4 : decode cX6_carryOut 4 = .ok (.invokevirtual 239, 3) := by decide +kernel
theorem dX6_carryOut_7 : decode cX6_carryOut 7 = .ok (.bipush (-6), 2) := by decide +kernel
theorem dX6_carryOut_9 : decode cX6_carryOut 9 = .ok (.if_icmp .eq 6, 3) := by decide +kernel
theorem dX6_carryOut_12 : decode cX6_carryOut 12 = .ok (.bipush (-3), 2) := by decide +kernel
theorem dX6_carryOut_14 : decode cX6_carryOut 14 = .ok (.ireturn, 1) := by decide +kernel
theorem dX6_carryOut_15 : decode cX6_carryOut 15 = .ok (.aload_n 0, 1) := by decide +kernel
theorem dX6_carryOut_16 : decode cX6_carryOut 16 = .ok (.invokevirtual 68, 3) := by decide +kernel
theorem dX6_carryOut_19 : decode cX6_carryOut 19 = .ok (.aload_n 0, 1) := by decide +kernel
theorem dX6_carryOut_20 : decode cX6_carryOut 20 = .ok (.getfield 39, 3) := by decide +kernel
theorem dX6_carryOut_23 : decode cX6_carryOut 23 = .ok (.iconst 0, 1) := by decide +kernel
theorem dX6_carryOut_24 : decode cX6_carryOut 24 = .ok (.putfield 198, 3) := by decide +kernel
theorem dX6_carryOut_27 : decode cX6_carryOut 27 = .ok (.iconst 0, 1) := by decide +kernel
theorem dX6_carryOut_28 : decode cX6_carryOut 28 = .ok (.istore_n 1, 1) := by decide +kernel
theorem dX6_carryOut_29 : decode cX6_carryOut 29 = .ok (.iload_n 1, 1) := by decide +kernel
theorem dX6_carryOut_30 : decode cX6_carryOut 30 = .ok (.aload_n 0, 1) := by decide +kernel
theorem dX6_carryOut_31 : decode cX6_carryOut 31 = .ok (.getfield 39, 3) := by decide +kernel
theorem dX6_carryOut_34 : decode cX6_carryOut 34 = .ok (.getfield 242, 3) := by decide +kernel
theorem dX6_carryOut_37 : decode cX6_carryOut 37 = .ok (.if_icmp .ge 19, 3) := by decide +kernel
theorem dX6_carryOut_40 : decode cX6_carryOut 40 = .ok (.aload_n 0, 1) := by decide +kernel
theorem dX6_carryOut_41 : decode cX6_carryOut 41 = .ok (.iload_n 1, 1) := by decide +kernel
theorem dX6_carryOut_42 : decode cX6_carryOut 42 = .ok (.invokevirtual 245, 3) := by decide +kernel
theorem dX6_carryOut_45 : decode cX6_carryOut 45 = .ok (.ifCond .ne 5, 3) := by decide +kernel
theorem dX6_carryOut_48 : decode cX6_carryOut 48 = .ok (.iload_n 1, 1) := by decide +kernel
theorem dX6_carryOut_49 : decode cX6_carryOut 49 = .ok (.ireturn, 1) := by decide +kernel
theorem dX6_carryOut_50 : decode cX6_carryOut 50 = .ok (.iinc 1 1, 3) := by decide +kernel
theorem dX6_carryOut_53 : decode cX6_carryOut 53 = .ok (.goto (-24), 3) := by decide +kernel
theorem dX6_carryOut_56 : decode cX6_carryOut 56 = .ok (.aload_n 0, 1) := by decide +kernel
theorem dX6_carryOut_57 : decode cX6_carryOut 57 = .ok (.getfield 39, 3) := by decide +kernel
theorem dX6_carryOut_60 : decode cX6_carryOut 60 = .ok (.getfield 242, 3) := by decide +kernel
theorem dX6_carryOut_63 : decode cX6_carryOut 63 = .ok (.ireturn, 1) := by decide +kernel
set_option maxRecDepth 20000 in
theorem ggX6_undo_X5_copyState : GoodIn wsX6_undo wsX5_copyState := goodIn_r _ [7, 8, 9, 10, 11, 12, 13, 14, 15, 16, 17, 18, 19, 20, 21, 22, 23, 24, 25, 26, 27, 28, 29, 30, 31, 32, 33, 34, 35, 36, 37, 38, 39, 40, 41, 42, 119, 120, 121, 122, 123, 124, 125, 126, 127, 128, 129, 130, 131, 132, 133, 134, 135, 136, 137, 138] (by decide +kernel) (by decide +kernel)
set_option maxRecDepth 20000 in
theorem gX6_undo_X5_copyState : GoodIn wsX6_undo (va_wsS RX6 224 yX5_copyState wsX5_copyState) := goodIn_app (goodIn_of _ (by decide +kernel)) ggX6_undo_X5_copyState
set_option maxRecDepth 20000 in
theorem ggX6_undo_X6_learnRoutes : GoodIn wsX6_undo wsX6_learnRoutes := goodIn_r _ [47, 48, 3, 49, 50, 51, 52, 53, 54, 55, 56, 57, 58, 59, 60, 21, 61, 23, 24, 62, 63, 64, 65, 66, 67, 68, 69, 70, 71, 72, 73, 74, 75, 76, 77, 25, 78, 79, 80, 81, 82, 83, 84, 85, 86, 87, 88, 89, 90, 91, 92, 93, 94, 95, 96, 97, 98, 99, 100, 101, 102, 103, 104, 105, 106, 107, 108, 109, 110, 111, 112, 113, 114, 115, 116, 117, 118, 119, 120, 121, 122, 123, 124, 139, 140, 141, 142, 143, 144, 125, 126, 127] (by decide +kernel) (by decide +kernel)
set_option maxRecDepth 20000 in
theorem gX6_undo_X6_learnRoutes : GoodIn wsX6_undo (wsV RX6 58 RX6 yX6_learnRoutes wsX6_learnRoutes) := goodIn_app (goodIn_of _ (by decide +kernel)) ggX6_undo_X6_learnRoutes
theorem dX6_undo_0 : decode cX6_undo 0 = .ok (.aload_n 0, 1) := by decide +kernel
theorem dX6_undo_1 : decode cX6_undo 1 = .ok (.getfield 47, 3) := by decide +kernel
theorem dX6_undo_4 : decode cX6_undo 4 = .ok (.iconst 1, 1) := by decide +kernel
theorem dX6_undo_5 : decode cX6_undo 5 = .ok (.if_icmp .lt 12, 3) := by decide +kernel
theorem dX6_undo_8 : decode cX6_undo 8 = .ok (.aload_n 0, 1) := by decide +kernel
theorem dX6_undo_9 : decode cX6_undo 9 = .ok (.getfield 47, 3) := by decide +kernel
theorem dX6_undo_12 : decode cX6_undo 12 = .ok (.bipush 6, 2) := by decide +kernel
theorem dX6_undo_14 : decode cX6_undo 14 = .ok (.if_icmp .le 6, 3) := by decide +kernel
theorem dX6_undo_17 : decode cX6_undo 17 = .ok (.bipush (-5), 2) := by decide +kernel
theorem dX6_undo_19 : decode cX6_undo 19 = .ok (.ireturn, 1) := by decide +kernel
theorem dX6_undo_20 : decode cX6_undo 20 = .ok (.aload_n 0, 1) := by decide +kernel
theorem dX6_undo_21 : decode cX6_undo 21 = .ok (.dup, 1) := by decide +kernel
theorem dX6_undo_22 : decode cX6_undo 22 = .ok (.getfield 47, 3) := by decide +kernel
theorem dX6_undo_25 : decode cX6_undo 25 = .ok (.iconst 1, 1) := by decide +kernel
theorem dX6_undo_26 : decode cX6_undo 26 = .ok (.isub, 1) := by decide +kernel
theorem dX6_undo_27 : decode cX6_undo 27 = .ok (.putfield 47, 3) := by decide +kernel
theorem dX6_undo_30 : decode cX6_undo 30 = .ok (.aload_n 0, 1) := by decide +kernel
theorem dX6_undo_31 : decode cX6_undo 31 = .ok (.getfield 43, 3) := by decide +kernel
theorem dX6_undo_34 : decode cX6_undo 34 = .ok (.aload_n 0, 1) := by decide +kernel
theorem dX6_undo_35 : decode cX6_undo 35 = .ok (.getfield 47, 3) := by decide +kernel
theorem dX6_undo_38 : decode cX6_undo 38 = .ok (.aaload, 1) := by decide +kernel
theorem dX6_undo_39 : decode cX6_undo 39 = .ok (.aload_n 0, 1) := by decide +kernel
theorem dX6_undo_40 : decode cX6_undo 40 = .ok (.getfield 12, 3) := by decide +kernel
theorem dX6_undo_43 : decode cX6_undo 43 = .ok (.invokestatic 224, 3) := by decide +kernel
theorem dX6_undo_46 : decode cX6_undo 46 = .ok (.aload_n 0, 1) := by decide +kernel
theorem dX6_undo_47 : decode cX6_undo 47 = .ok (.invokevirtual 58, 3) := by decide +kernel
theorem dX6_undo_50 : decode cX6_undo 50 = .ok (.aload_n 0, 1) := by decide +kernel
theorem dX6_undo_51 : decode cX6_undo 51 = .ok (.getfield 47, 3) := by decide +kernel
theorem dX6_undo_54 : decode cX6_undo 54 = .ok (.ireturn, 1) := by decide +kernel
set_option maxRecDepth 20000 in
theorem ggX6_save_X6_isSlot : GoodIn wsX6_save wsX6_isSlot := goodIn_r _ [8] (by decide +kernel) (by decide +kernel)
set_option maxRecDepth 20000 in
theorem gX6_save_X6_isSlot : GoodIn wsX6_save (va_wsS RX6 248 yX6_isSlot wsX6_isSlot) := goodIn_app (goodIn_of _ (by decide +kernel)) ggX6_save_X6_isSlot
set_option maxRecDepth 20000 in
theorem ggX6_save_X5_copyState : GoodIn wsX6_save wsX5_copyState := goodIn_r _ [12, 13, 14, 15, 16, 17, 18, 19, 20, 21, 22, 23, 24, 25, 26, 27, 28, 29, 30, 31, 32, 33, 34, 35, 36, 37, 38, 39, 40, 41, 42, 43, 44, 45, 46, 47, 58, 59, 60, 61, 62, 63, 64, 65, 66, 67, 68, 69, 70, 71, 72, 73, 74, 75, 76, 77] (by decide +kernel) (by decide +kernel)
set_option maxRecDepth 20000 in
theorem gX6_save_X5_copyState : GoodIn wsX6_save (va_wsS RX6 224 yX5_copyState wsX5_copyState) := goodIn_app (goodIn_of _ (by decide +kernel)) ggX6_save_X5_copyState
theorem dX6_save_0 : decode cX6_save 0 = .ok (.iload_n 1, 1) := by decide +kernel
theorem dX6_save_1 : decode cX6_save 1 = .ok (.invokestatic 248, 3) := by decide +kernel
theorem dX6_save_4 : decode cX6_save 4 = .ok (.ifCond .ne 6, 3) := by decide +kernel
theorem dX6_save_7 : decode cX6_save 7 = .ok (.bipush (-2), 2) := by decide +kernel
theorem dX6_save_9 : decode cX6_save 9 = .ok (.ireturn, 1) := by decide +kernel
theorem dX6_save_10 : decode cX6_save 10 = .ok (.aload_n 0, 1) := by decide +kernel
theorem dX6_save_11 : decode cX6_save 11 = .ok (.getfield 12, 3) := by decide +kernel
theorem dX6_save_14 : decode cX6_save 14 = .ok (.aload_n 0, 1) := by decide +kernel
theorem dX6_save_15 : decode cX6_save 15 = .ok (.getfield 51, 3) := by decide +kernel
theorem dX6_save_18 : decode cX6_save 18 = .ok (.iload_n 1, 1) := by decide +kernel
theorem dX6_save_19 : decode cX6_save 19 = .ok (.aaload, 1) := by decide +kernel
theorem dX6_save_20 : decode cX6_save 20 = .ok (.invokestatic 224, 3) := by decide +kernel
theorem dX6_save_23 : decode cX6_save 23 = .ok (.aload_n 0, 1) := by decide +kernel
theorem dX6_save_24 : decode cX6_save 24 = .ok (.getfield 54, 3) := by decide +kernel
theorem dX6_save_27 : decode cX6_save 27 = .ok (.iload_n 1, 1) := by decide +kernel
theorem dX6_save_28 : decode cX6_save 28 = .ok (.iconst 1, 1) := by decide +kernel
theorem dX6_save_29 : decode cX6_save 29 = .ok (.bastore, 1) := by decide +kernel
theorem dX6_save_30 : decode cX6_save 30 = .ok (.aload_n 0, 1) := by decide +kernel
theorem dX6_save_31 : decode cX6_save 31 = .ok (.getfield 12, 3) := by decide +kernel
theorem dX6_save_34 : decode cX6_save 34 = .ok (.getfield 113, 3) := by decide +kernel
theorem dX6_save_37 : decode cX6_save 37 = .ok (.ireturn, 1) := by decide +kernel
set_option maxRecDepth 20000 in
theorem ggX6_restore_X6_isSlot : GoodIn wsX6_restore wsX6_isSlot := goodIn_r _ [8] (by decide +kernel) (by decide +kernel)
set_option maxRecDepth 20000 in
theorem gX6_restore_X6_isSlot : GoodIn wsX6_restore (va_wsS RX6 248 yX6_isSlot wsX6_isSlot) := goodIn_app (goodIn_of _ (by decide +kernel)) ggX6_restore_X6_isSlot
set_option maxRecDepth 20000 in
theorem ggX6_restore_X6_recordState : GoodIn wsX6_restore wsX6_recordState := goodIn_r _ [12, 13, 3, 14, 15, 16, 17, 7, 18, 19, 20, 21, 22, 23, 24, 25, 26, 27, 28, 29, 30, 31, 32, 33, 34, 35, 36, 37, 38, 39, 40, 41, 42, 43, 44, 45, 46, 47, 48, 49, 50, 51, 52, 53, 54, 55, 56, 57, 123, 124, 125, 126, 127, 128, 129, 130, 131, 132, 133, 134, 135, 136, 137, 138, 139, 140, 141, 142, 143, 144, 145, 146, 147, 148, 149, 150, 151, 152] (by decide +kernel) (by decide +kernel)
set_option maxRecDepth 20000 in
theorem gX6_restore_X6_recordState : GoodIn wsX6_restore (wsV RX6 68 RX6 yX6_recordState wsX6_recordState) := goodIn_app (goodIn_of _ (by decide +kernel)) ggX6_restore_X6_recordState
set_option maxRecDepth 20000 in
theorem ggX6_restore_X5_copyState : GoodIn wsX6_restore wsX5_copyState := goodIn_r _ [22, 23, 24, 25, 26, 27, 28, 29, 30, 31, 32, 33, 34, 35, 36, 37, 38, 39, 40, 41, 42, 43, 44, 45, 46, 47, 48, 49, 50, 51, 52, 53, 54, 55, 56, 57, 133, 134, 135, 136, 137, 138, 139, 140, 141, 142, 143, 144, 145, 146, 147, 148, 149, 150, 151, 152] (by decide +kernel) (by decide +kernel)
set_option maxRecDepth 20000 in
theorem gX6_restore_X5_copyState : GoodIn wsX6_restore (va_wsS RX6 224 yX5_copyState wsX5_copyState) := goodIn_app (goodIn_of _ (by decide +kernel)) ggX6_restore_X5_copyState
set_option maxRecDepth 20000 in
theorem ggX6_restore_X6_learnRoutes : GoodIn wsX6_restore wsX6_learnRoutes := goodIn_r _ [61, 62, 3, 63, 64, 65, 66, 67, 68, 69, 70, 71, 72, 73, 74, 36, 75, 38, 39, 76, 77, 78, 79, 80, 81, 82, 83, 84, 85, 86, 87, 88, 89, 90, 91, 40, 92, 93, 94, 95, 96, 97, 98, 99, 100, 101, 102, 103, 104, 105, 106, 107, 108, 109, 110, 111, 112, 113, 114, 115, 116, 117, 118, 119, 120, 121, 122, 123, 124, 125, 126, 127, 128, 129, 130, 131, 132, 133, 134, 135, 136, 137, 138, 153, 154, 155, 156, 157, 158, 139, 140, 141] (by decide +kernel) (by decide +kernel)
set_option maxRecDepth 20000 in
theorem gX6_restore_X6_learnRoutes : GoodIn wsX6_restore (wsV RX6 58 RX6 yX6_learnRoutes wsX6_learnRoutes) := goodIn_app (goodIn_of _ (by decide +kernel)) ggX6_restore_X6_learnRoutes
theorem dX6_restore_0 : decode cX6_restore 0 = .ok (.iload_n 1, 1) := by decide +kernel
theorem dX6_restore_1 : decode cX6_restore 1 = .ok (.invokestatic 248, 3) := by decide +kernel
theorem dX6_restore_4 : decode cX6_restore 4 = .ok (.ifCond .ne 6, 3) := by decide +kernel
theorem dX6_restore_7 : decode cX6_restore 7 = .ok (.bipush (-2), 2) := by decide +kernel
theorem dX6_restore_9 : decode cX6_restore 9 = .ok (.ireturn, 1) := by decide +kernel
theorem dX6_restore_10 : decode cX6_restore 10 = .ok (.aload_n 0, 1) := by decide +kernel
theorem dX6_restore_11 : decode cX6_restore 11 = .ok (.getfield 54, 3) := by decide +kernel
theorem dX6_restore_14 : decode cX6_restore 14 = .ok (.iload_n 1, 1) := by decide +kernel
theorem dX6_restore_15 : decode cX6_restore 15 = .ok (.baload, 1) := by decide +kernel
theorem dX6_restore_16 : decode cX6_restore 16 = .ok (.ifCond .ne 6, 3) := by decide +kernel
theorem dX6_restore_19 : decode cX6_restore 19 = .ok (.bipush (-5), 2) := by decide +kernel
theorem dX6_restore_21 : decode cX6_restore 21 = .ok (.ireturn, 1) := by decide +kernel
theorem dX6_restore_22 : decode cX6_restore 22 = .ok (.aload_n 0, 1) := by decide +kernel
theorem dX6_restore_23 : decode cX6_restore 23 = .ok (.invokevirtual 68, 3) := by decide +kernel
theorem dX6_restore_26 : decode cX6_restore 26 = .ok (.aload_n 0, 1) := by decide +kernel
theorem dX6_restore_27 : decode cX6_restore 27 = .ok (.getfield 51, 3) := by decide +kernel
theorem dX6_restore_30 : decode cX6_restore 30 = .ok (.iload_n 1, 1) := by decide +kernel
theorem dX6_restore_31 : decode cX6_restore 31 = .ok (.aaload, 1) := by decide +kernel
theorem dX6_restore_32 : decode cX6_restore 32 = .ok (.aload_n 0, 1) := by decide +kernel
theorem dX6_restore_33 : decode cX6_restore 33 = .ok (.getfield 12, 3) := by decide +kernel
theorem dX6_restore_36 : decode cX6_restore 36 = .ok (.invokestatic 224, 3) := by decide +kernel
theorem dX6_restore_39 : decode cX6_restore 39 = .ok (.aload_n 0, 1) := by decide +kernel
theorem dX6_restore_40 : decode cX6_restore 40 = .ok (.invokevirtual 58, 3) := by decide +kernel
theorem dX6_restore_43 : decode cX6_restore 43 = .ok (.aload_n 0, 1) := by decide +kernel
theorem dX6_restore_44 : decode cX6_restore 44 = .ok (.getfield 12, 3) := by decide +kernel
theorem dX6_restore_47 : decode cX6_restore 47 = .ok (.getfield 113, 3) := by decide +kernel
theorem dX6_restore_50 : decode cX6_restore 50 = .ok (.ireturn, 1) := by decide +kernel
theorem dX6_leastOfSetting_0 : decode cX6_leastOfSetting 0 = .ok (.iload_n 0, 1) := by decide +kernel
theorem dX6_leastOfSetting_1 : decode cX6_leastOfSetting 1 = .ok (.iconst 2, 1) := by decide +kernel
theorem dX6_leastOfSetting_2 : decode cX6_leastOfSetting 2 = .ok (.if_icmp .ne 7, 3) := by decide +kernel
theorem dX6_leastOfSetting_5 : decode cX6_leastOfSetting 5 = .ok (.iconst 1, 1) := by decide +kernel
theorem dX6_leastOfSetting_6 : decode cX6_leastOfSetting 6 = .ok (.goto 4, 3) := by decide +kernel
theorem dX6_leastOfSetting_9 : decode cX6_leastOfSetting 9 = .ok (.iconst 0, 1) := by decide +kernel
theorem dX6_leastOfSetting_10 : decode cX6_leastOfSetting 10 = .ok (.ireturn, 1) := by decide +kernel
theorem dX6_mostOfSetting_0 : decode cX6_mostOfSetting 0 = .ok (.iload_n 0, 1) := by decide +kernel
theorem dX6_mostOfSetting_1 : decode cX6_mostOfSetting 1 = .ok (.ifCond .ne 7, 3) := by decide +kernel
theorem dX6_mostOfSetting_4 : decode cX6_mostOfSetting 4 = .ok (.iconst 1, 1) := by decide +kernel
theorem dX6_mostOfSetting_5 : decode cX6_mostOfSetting 5 = .ok (.goto 4, 3) := by decide +kernel
theorem dX6_mostOfSetting_8 : decode cX6_mostOfSetting 8 = .ok (.iconst 4, 1) := by decide +kernel
theorem dX6_mostOfSetting_9 : decode cX6_mostOfSetting 9 = .ok (.ireturn, 1) := by decide +kernel
theorem dX6_isLine_0 : decode cX6_isLine 0 = .ok (.iload_n 0, 1) := by decide +kernel
theorem dX6_isLine_1 : decode cX6_isLine 1 = .ok (.iconst 2, 1) := by decide +kernel
theorem dX6_isLine_2 : decode cX6_isLine 2 = .ok (.if_icmp .lt 12, 3) := by decide +kernel
theorem dX6_isLine_5 : decode cX6_isLine 5 = .ok (.iload_n 0, 1) := by decide +kernel
theorem dX6_isLine_6 : decode cX6_isLine 6 = .ok (.iconst 5, 1) := by decide +kernel
theorem dX6_isLine_7 : decode cX6_isLine 7 = .ok (.if_icmp .gt 7, 3) := by decide +kernel
theorem dX6_isLine_10 : decode cX6_isLine 10 = .ok (.iconst 1, 1) := by decide +kernel
theorem dX6_isLine_11 : decode cX6_isLine 11 = .ok (.goto 4, 3) := by decide +kernel
theorem dX6_isLine_14 : decode cX6_isLine 14 = .ok (.iconst 0, 1) := by decide +kernel
theorem dX6_isLine_15 : decode cX6_isLine 15 = .ok (.ireturn, 1) := by decide +kernel
theorem dX6_isSide_0 : decode cX6_isSide 0 = .ok (.iload_n 0, 1) := by decide +kernel
theorem dX6_isSide_1 : decode cX6_isSide 1 = .ok (.ifCond .lt 12, 3) := by decide +kernel
theorem dX6_isSide_4 : decode cX6_isSide 4 = .ok (.iload_n 0, 1) := by decide +kernel
theorem dX6_isSide_5 : decode cX6_isSide 5 = .ok (.iconst 4, 1) := by decide +kernel
theorem dX6_isSide_6 : decode cX6_isSide 6 = .ok (.if_icmp .ge 7, 3) := by decide +kernel
theorem dX6_isSide_9 : decode cX6_isSide 9 = .ok (.iconst 1, 1) := by decide +kernel
theorem dX6_isSide_10 : decode cX6_isSide 10 = .ok (.goto 4, 3) := by decide +kernel
theorem dX6_isSide_13 : decode cX6_isSide 13 = .ok (.iconst 0, 1) := by decide +kernel
theorem dX6_isSide_14 : decode cX6_isSide 14 = .ok (.ireturn, 1) := by decide +kernel
theorem dX6_isTicks_0 : decode cX6_isTicks 0 = .ok (.iload_n 0, 1) := by decide +kernel
theorem dX6_isTicks_1 : decode cX6_isTicks 1 = .ok (.iconst 1, 1) := by decide +kernel
theorem dX6_isTicks_2 : decode cX6_isTicks 2 = .ok (.if_icmp .lt 14, 3) := by decide +kernel
theorem dX6_isTicks_5 : decode cX6_isTicks 5 = .ok (.iload_n 0, 1) := by decide +kernel
theorem dX6_isTicks_6 : decode cX6_isTicks 6 = .ok (.sipush 300, 3) := by decide +kernel
theorem dX6_isTicks_9 : decode cX6_isTicks 9 = .ok (.if_icmp .gt 7, 3) := by decide +kernel
theorem dX6_isTicks_12 : decode cX6_isTicks 12 = .ok (.iconst 1, 1) := by decide +kernel
theorem dX6_isTicks_13 : decode cX6_isTicks 13 = .ok (.goto 4, 3) := by decide +kernel
theorem dX6_isTicks_16 : decode cX6_isTicks 16 = .ok (.iconst 0, 1) := by decide +kernel
theorem dX6_isTicks_17 : decode cX6_isTicks 17 = .ok (.ireturn, 1) := by decide +kernel
theorem dX6_isSlot_0 : decode cX6_isSlot 0 = .ok (.iload_n 0, 1) := by decide +kernel
theorem dX6_isSlot_1 : decode cX6_isSlot 1 = .ok (.ifCond .lt 12, 3) := by decide +kernel
theorem dX6_isSlot_4 : decode cX6_isSlot 4 = .ok (.iload_n 0, 1) := by decide +kernel
theorem dX6_isSlot_5 : decode cX6_isSlot 5 = .ok (.iconst 2, 1) := by decide +kernel
theorem dX6_isSlot_6 : decode cX6_isSlot 6 = .ok (.if_icmp .ge 7, 3) := by decide +kernel
theorem dX6_isSlot_9 : decode cX6_isSlot 9 = .ok (.iconst 1, 1) := by decide +kernel
theorem dX6_isSlot_10 : decode cX6_isSlot 10 = .ok (.goto 4, 3) := by decide +kernel
theorem dX6_isSlot_13 : decode cX6_isSlot 13 = .ok (.iconst 0, 1) := by decide +kernel
theorem dX6_isSlot_14 : decode cX6_isSlot 14 = .ok (.ireturn, 1) := by decide +kernel
set_option maxRecDepth 20000 in
theorem ggX6_linkError_X0_has : GoodIn wsX6_linkError wsX0_has := goodIn_r _ [7, 8, 9, 34, 35, 36] (by decide +kernel) (by decide +kernel)
set_option maxRecDepth 20000 in
theorem gX6_linkError_X0_has : GoodIn wsX6_linkError (wsV RX6 171 RX0 yX0_has wsX0_has) := goodIn_app (goodIn_of _ (by decide +kernel)) ggX6_linkError_X0_has
set_option maxRecDepth 20000 in
theorem ggX6_linkError_X6_isSide : GoodIn wsX6_linkError wsX6_isSide := goodIn_r _ [13] (by decide +kernel) (by decide +kernel)
set_option maxRecDepth 20000 in
theorem gX6_linkError_X6_isSide : GoodIn wsX6_linkError (va_wsS RX6 251 yX6_isSide wsX6_isSide) := goodIn_app (goodIn_of _ (by decide +kernel)) ggX6_linkError_X6_isSide
set_option maxRecDepth 20000 in
theorem ggX6_linkError_X0_beside : GoodIn wsX6_linkError wsX0_beside := goodIn_r _ [17, 8, 9, 34, 35, 36] (by decide +kernel) (by decide +kernel)
set_option maxRecDepth 20000 in
theorem gX6_linkError_X0_beside : GoodIn wsX6_linkError (wsV RX6 254 RX0 yX0_beside wsX0_beside) := goodIn_app (goodIn_of _ (by decide +kernel)) ggX6_linkError_X0_beside
theorem dX6_linkError_0 : decode cX6_linkError 0 = .ok (.aload_n 0, 1) := by decide +kernel
theorem dX6_linkError_1 : decode cX6_linkError 1 = .ok (.getfield 12, 3) := by decide +kernel
theorem dX6_linkError_4 : decode cX6_linkError 4 = .ok (.getfield 88, 3) := by decide +kernel
theorem dX6_linkError_7 : decode cX6_linkError 7 = .ok (.iload_n 1, 1) := by decide +kernel
theorem dX6_linkError_8 : decode cX6_linkError 8 = .ok (.invokevirtual 171, 3) := by decide +kernel
theorem dX6_linkError_11 : decode cX6_linkError 11 = .ok (.ifCond .ne 5, 3) := by decide +kernel
theorem dX6_linkError_14 : decode cX6_linkError 14 = .ok (.iconst (-1), 1) := by decide +kernel
theorem dX6_linkError_15 : decode cX6_linkError 15 = .ok (.ireturn, 1) := by decide +kernel
theorem dX6_linkError_16 : decode cX6_linkError 16 = .ok (.iload_n 2, 1) := by decide +kernel
theorem dX6_linkError_17 : decode cX6_linkError 17 = .ok (.invokestatic 251, 3) := by decide +kernel
theorem dX6_linkError_20 : decode cX6_linkError 20 = .ok (.ifCond .eq 21, 3) := by decide +kernel
theorem dX6_linkError_23 : decode cX6_linkError 23 = .ok (.aload_n 0, 1) := by decide +kernel
theorem dX6_linkError_24 : decode cX6_linkError 24 = .ok (.getfield 12, 3) := by decide +kernel
theorem dX6_linkError_27 : decode cX6_linkError 27 = .ok (.getfield 88, 3) := by decide +kernel
theorem dX6_linkError_30 : decode cX6_linkError 30 = .ok (.iload_n 1, 1) := by decide +kernel
theorem dX6_linkError_31 : decode cX6_linkError 31 = .ok (.iload_n 2, 1) := by decide +kernel
theorem dX6_linkError_32 : decode cX6_linkError 32 = .ok (.invokevirtual 254, 3) := by decide +kernel
theorem dX6_linkError_35 : decode cX6_linkError 35 = .ok (.iconst (-1), 1) := by decide +kernel
theorem dX6_linkError_36 : decode cX6_linkError 36 = .ok (.if_icmp .ne 5, 3) := by decide +kernel
theorem dX6_linkError_39 : decode cX6_linkError 39 = .ok (.iconst (-1), 1) := by decide +kernel
theorem dX6_linkError_40 : decode cX6_linkError 40 = .ok (.ireturn, 1) := by decide +kernel
theorem dX6_linkError_41 : decode cX6_linkError 41 = .ok (.iload_n 2, 1) := by decide +kernel
theorem dX6_linkError_42 : decode cX6_linkError 42 = .ok (.invokestatic 251, 3) := by decide +kernel
theorem dX6_linkError_45 : decode cX6_linkError 45 = .ok (.ifCond .eq 16, 3) := by decide +kernel
theorem dX6_linkError_48 : decode cX6_linkError 48 = .ok (.iload_n 3, 1) := by decide +kernel
theorem dX6_linkError_49 : decode cX6_linkError 49 = .ok (.ifCond .eq 8, 3) := by decide +kernel
theorem dX6_linkError_52 : decode cX6_linkError 52 = .ok (.iload_n 3, 1) := by decide +kernel
theorem dX6_linkError_53 : decode cX6_linkError 53 = .ok (.iconst 1, 1) := by decide +kernel
theorem dX6_linkError_54 : decode cX6_linkError 54 = .ok (.if_icmp .ne 7, 3) := by decide +kernel
theorem dX6_linkError_57 : decode cX6_linkError 57 = .ok (.iconst 0, 1) := by decide +kernel
theorem dX6_linkError_58 : decode cX6_linkError 58 = .ok (.goto 5, 3) := by decide +kernel
theorem dX6_linkError_61 : decode cX6_linkError 61 = .ok (.bipush (-2), 2) := by decide +kernel
theorem dX6_linkError_63 : decode cX6_linkError 63 = .ok (.ireturn, 1) := by decide +kernel
set_option maxRecDepth 20000 in
theorem ggX6_sendError_X0_has : GoodIn wsX6_sendError wsX0_has := goodIn_r _ [10, 11, 12, 64, 65, 66] (by decide +kernel) (by decide +kernel)
set_option maxRecDepth 20000 in
theorem gX6_sendError_X0_has : GoodIn wsX6_sendError (wsV RX6 171 RX0 yX0_has wsX0_has) := goodIn_app (goodIn_of _ (by decide +kernel)) ggX6_sendError_X0_has
set_option maxRecDepth 20000 in
theorem ggX6_sendError_X5_wayLength : GoodIn wsX6_sendError wsX5_wayLength := goodIn_r _ [17, 18, 19, 20, 21, 22, 23, 24, 25, 26, 27, 28, 29, 30, 31, 9, 32, 11, 33, 34, 35, 36, 47, 48, 49, 50, 51, 52, 67, 68, 69, 70, 71, 72, 64, 65, 66] (by decide +kernel) (by decide +kernel)
set_option maxRecDepth 20000 in
theorem gX6_sendError_X5_wayLength : GoodIn wsX6_sendError (wsV RX6 201 RX5 yX5_wayLength wsX5_wayLength) := goodIn_app (goodIn_of _ (by decide +kernel)) ggX6_sendError_X5_wayLength
theorem dX6_sendError_0 : decode cX6_sendError 0 = .ok (.aload_n 0, 1) := by decide +kernel
theorem dX6_sendError_1 : decode cX6_sendError 1 = .ok (.getfield 12, 3) := by decide +kernel
theorem dX6_sendError_4 : decode cX6_sendError 4 = .ok (.getfield 88, 3) := by decide +kernel
theorem dX6_sendError_7 : decode cX6_sendError 7 = .ok (.iload_n 1, 1) := by decide +kernel
theorem dX6_sendError_8 : decode cX6_sendError 8 = .ok (.invokevirtual 171, 3) := by decide +kernel
theorem dX6_sendError_11 : decode cX6_sendError 11 = .ok (.ifCond .eq 22, 3) := by decide +kernel
theorem dX6_sendError_14 : decode cX6_sendError 14 = .ok (.aload_n 0, 1) := by decide +kernel
theorem dX6_sendError_15 : decode cX6_sendError 15 = .ok (.getfield 12, 3) := by decide +kernel
theorem dX6_sendError_18 : decode cX6_sendError 18 = .ok (.getfield 88, 3) := by decide +kernel
theorem dX6_sendError_21 : decode cX6_sendError 21 = .ok (.iload_n 2, 1) := by decide +kernel
theorem dX6_sendError_22 : decode cX6_sendError 22 = .ok (.invokevirtual 171, 3) := by decide +kernel
theorem dX6_sendError_25 : decode cX6_sendError 25 = .ok (.ifCond .eq 8, 3) := by decide +kernel
theorem dX6_sendError_28 : decode cX6_sendError 28 = .ok (.iload_n 1, 1) := by decide +kernel
theorem dX6_sendError_29 : decode cX6_sendError 29 = .ok (.iload_n 2, 1) := by decide +kernel
theorem dX6_sendError_30 : decode cX6_sendError 30 = .ok (.if_icmp .ne 5, 3) := by decide +kernel
theorem dX6_sendError_33 : decode cX6_sendError 33 = .ok (.iconst (-1), 1) := by decide +kernel
theorem dX6_sendError_34 : decode cX6_sendError 34 = .ok (.ireturn, 1) := by decide +kernel
theorem dX6_sendError_35 : decode cX6_sendError 35 = .ok (.aload_n 0, 1) := by decide +kernel
theorem dX6_sendError_36 : decode cX6_sendError 36 = .ok (.getfield 12, 3) := by decide +kernel
theorem dX6_sendError_39 : decode cX6_sendError 39 = .ok (.getfield 79, 3) := by decide +kernel
theorem dX6_sendError_42 : decode cX6_sendError 42 = .ok (.getfield 83, 3) := by decide +kernel
theorem dX6_sendError_45 : decode cX6_sendError 45 = .ok (.bipush 40, 2) := by decide +kernel
theorem dX6_sendError_47 : decode cX6_sendError 47 = .ok (.if_icmp .lt 6, 3) := by decide +kernel
theorem dX6_sendError_50 : decode cX6_sendError 50 = .ok (.bipush (-4), 2) := by decide +kernel
theorem dX6_sendError_52 : decode cX6_sendError 52 = .ok (.ireturn, 1) := by decide +kernel
theorem dX6_sendError_53 : decode cX6_sendError 53 = .ok (.aload_n 0, 1) := by decide +kernel
theorem dX6_sendError_54 : decode cX6_sendError 54 = .ok (.getfield 12, 3) := by decide +kernel
theorem dX6_sendError_57 : decode cX6_sendError 57 = .ok (.aload_n 0, 1) := by decide +kernel
theorem dX6_sendError_58 : decode cX6_sendError 58 = .ok (.getfield 19, 3) := by decide +kernel
theorem dX6_sendError_61 : decode cX6_sendError 61 = .ok (.iload_n 1, 1) := by decide +kernel
theorem dX6_sendError_62 : decode cX6_sendError 62 = .ok (.iload_n 2, 1) := by decide +kernel
theorem dX6_sendError_63 : decode cX6_sendError 63 = .ok (.invokevirtual 201, 3) := by decide +kernel
theorem dX6_sendError_66 : decode cX6_sendError 66 = .ok (.bipush (-6), 2) := by decide +kernel
theorem dX6_sendError_68 : decode cX6_sendError 68 = .ok (.if_icmp .ne 8, 3) := by decide +kernel
theorem dX6_sendError_71 : decode cX6_sendError 71 = .ok (.bipush (-5), 2) := by decide +kernel
theorem dX6_sendError_73 : decode cX6_sendError 73 = .ok (.goto 4, 3) := by decide +kernel
theorem dX6_sendError_76 : decode cX6_sendError 76 = .ok (.iconst 0, 1) := by decide +kernel
theorem dX6_sendError_77 : decode cX6_sendError 77 = .ok (.ireturn, 1) := by decide +kernel
set_option maxRecDepth 20000 in
theorem ggX6_learnRoutes_X4_learn : GoodIn wsX6_learnRoutes wsX4_learn := goodIn_r _ [9, 10, 11, 12, 13, 14, 15, 16, 17, 18, 19, 20, 21, 22, 23, 24, 25, 26, 27, 28, 29, 30, 31, 32, 33, 34, 35, 36, 37, 38, 39, 8, 40, 41, 42, 43, 44, 45, 46, 47, 48, 49, 50, 51, 52, 53, 54, 55, 56, 57, 58, 59, 60, 61, 62, 63, 64, 65, 66, 83, 84, 85, 86, 87, 88, 89, 90, 91] (by decide +kernel) (by decide +kernel)
set_option maxRecDepth 20000 in
theorem gX6_learnRoutes_X4_learn : GoodIn wsX6_learnRoutes (wsV RX6 257 RX4 yX4_learn wsX4_learn) := goodIn_app (goodIn_of _ (by decide +kernel)) ggX6_learnRoutes_X4_learn
theorem dX6_learnRoutes_0 : decode cX6_learnRoutes 0 = .ok (.aload_n 0, 1) := by decide +kernel
theorem dX6_learnRoutes_1 : decode cX6_learnRoutes 1 = .ok (.getfield 19, 3) := by decide +kernel
theorem dX6_learnRoutes_4 : decode cX6_learnRoutes 4 = .ok (.aload_n 0, 1) := by decide +kernel
theorem dX6_learnRoutes_5 : decode cX6_learnRoutes 5 = .ok (.getfield 12, 3) := by decide +kernel
theorem dX6_learnRoutes_8 : decode cX6_learnRoutes 8 = .ok (.getfield 88, 3) := by decide +kernel
theorem dX6_learnRoutes_11 : decode cX6_learnRoutes 11 = .ok (.aload_n 0, 1) := by decide +kernel
theorem dX6_learnRoutes_12 : decode cX6_learnRoutes 12 = .ok (.getfield 12, 3) := by decide +kernel
theorem dX6_learnRoutes_15 : decode cX6_learnRoutes 15 = .ok (.getfield 71, 3) := by decide +kernel
theorem dX6_learnRoutes_18 : decode cX6_learnRoutes 18 = .ok (.iconst 0, 1) := by decide +kernel
theorem dX6_learnRoutes_19 : decode cX6_learnRoutes 19 = .ok (.iaload, 1) := by decide +kernel
theorem dX6_learnRoutes_20 : decode cX6_learnRoutes 20 = .ok (.invokevirtual 257, 3) := by decide +kernel
theorem dX6_learnRoutes_23 : decode cX6_learnRoutes 23 = .ok (.return_, 1) := by decide +kernel
set_option maxRecDepth 20000 in
theorem ggX6_changeLink_X0_linkAt : GoodIn wsX6_changeLink wsX0_linkAt := goodIn_r _ [7, 8, 9, 10, 11, 12, 13, 14, 6, 15, 16, 17, 95, 96, 97] (by decide +kernel) (by decide +kernel)
set_option maxRecDepth 20000 in
theorem gX6_changeLink_X0_linkAt : GoodIn wsX6_changeLink (wsV RX6 261 RX0 yX0_linkAt wsX0_linkAt) := goodIn_app (goodIn_of _ (by decide +kernel)) ggX6_changeLink_X0_linkAt
set_option maxRecDepth 20000 in
theorem ggX6_changeLink_X0_isWhole : GoodIn wsX6_changeLink wsX0_isWhole := goodIn_r _ [21, 22, 95, 96, 97] (by decide +kernel) (by decide +kernel)
set_option maxRecDepth 20000 in
theorem gX6_changeLink_X0_isWhole : GoodIn wsX6_changeLink (wsV RX6 264 RX0 yX0_isWhole wsX0_isWhole) := goodIn_app (goodIn_of _ (by decide +kernel)) ggX6_changeLink_X0_isWhole
set_option maxRecDepth 20000 in
theorem ggX6_changeLink_X0_makeWhole : GoodIn wsX6_changeLink wsX0_makeWhole := goodIn_r _ [26, 22, 27, 95, 96, 97] (by decide +kernel) (by decide +kernel)
set_option maxRecDepth 20000 in
theorem gX6_changeLink_X0_makeWhole : GoodIn wsX6_changeLink (wsV RX6 267 RX0 yX0_makeWhole wsX0_makeWhole) := goodIn_app (goodIn_of _ (by decide +kernel)) ggX6_changeLink_X0_makeWhole
set_option maxRecDepth 20000 in
theorem ggX6_changeLink_X6_learnRoutes : GoodIn wsX6_changeLink wsX6_learnRoutes := goodIn_r _ [32, 33, 1, 2, 34, 35, 36, 37, 38, 39, 40, 41, 42, 43, 44, 6, 45, 16, 17, 46, 4, 5, 7, 8, 9, 10, 11, 12, 13, 14, 15, 47, 19, 20, 21, 22, 48, 49, 50, 51, 52, 53, 54, 55, 56, 57, 58, 59, 60, 61, 62, 63, 64, 65, 66, 67, 68, 69, 70, 71, 72, 73, 74, 75, 76, 77, 78, 79, 80, 81, 82, 83, 84, 85, 86, 87, 88, 89, 90, 91, 92, 93, 94, 98, 99, 100, 101, 102, 103, 95, 96, 97] (by decide +kernel) (by decide +kernel)
set_option maxRecDepth 20000 in
theorem gX6_changeLink_X6_learnRoutes : GoodIn wsX6_changeLink (wsV RX6 58 RX6 yX6_learnRoutes wsX6_learnRoutes) := goodIn_app (goodIn_of _ (by decide +kernel)) ggX6_changeLink_X6_learnRoutes
theorem dX6_changeLink_0 : decode cX6_changeLink 0 = .ok (.aload_n 0, 1) := by decide +kernel
theorem dX6_changeLink_1 : decode cX6_changeLink 1 = .ok (.getfield 12, 3) := by decide +kernel
theorem dX6_changeLink_4 : decode cX6_changeLink 4 = .ok (.getfield 88, 3) := by decide +kernel
theorem dX6_changeLink_7 : decode cX6_changeLink 7 = .ok (.iload_n 1, 1) := by decide +kernel
theorem dX6_changeLink_8 : decode cX6_changeLink 8 = .ok (.iload_n 2, 1) := by decide +kernel
theorem dX6_changeLink_9 : decode cX6_changeLink 9 = .ok (.invokevirtual 261, 3) := by decide +kernel
theorem dX6_changeLink_12 : decode cX6_changeLink 12 = .ok (.istore 4, 2) := by decide +kernel
theorem dX6_changeLink_14 : decode cX6_changeLink 14 = .ok (.aload_n 0, 1) := by decide +kernel
theorem dX6_changeLink_15 : decode cX6_changeLink 15 = .ok (.getfield 12, 3) := by decide +kernel
theorem dX6_changeLink_18 : decode cX6_changeLink 18 = .ok (.getfield 88, 3) := by decide +kernel
theorem dX6_changeLink_21 : decode cX6_changeLink 21 = .ok (.iload 4, 2) := by decide +kernel
theorem dX6_changeLink_23 : decode cX6_changeLink 23 = .ok (.invokevirtual 264, 3) := by decide +kernel
theorem dX6_changeLink_26 : decode cX6_changeLink 26 = .ok (.ifCond .eq 7, 3) := by decide +kernel
theorem dX6_changeLink_29 : decode cX6_changeLink 29 = .ok (.iconst 1, 1) := by decide +kernel
theorem dX6_changeLink_30 : decode cX6_changeLink 30 = .ok (.goto 4, 3) := by decide +kernel
theorem dX6_changeLink_33 : decode cX6_changeLink 33 = .ok (.iconst 0, 1) := by decide +kernel
theorem dX6_changeLink_34 : decode cX6_changeLink 34 = .ok (.istore 5, 2) := by decide +kernel
theorem dX6_changeLink_36 : decode cX6_changeLink 36 = .ok (.aload_n 0, 1) := by decide +kernel
theorem dX6_changeLink_37 : decode cX6_changeLink 37 = .ok (.getfield 12, 3) := by decide +kernel
theorem dX6_changeLink_40 : decode cX6_changeLink 40 = .ok (.getfield 88, 3) := by decide +kernel
theorem dX6_changeLink_43 : decode cX6_changeLink 43 = .ok (.iload 4, 2) := by decide +kernel
theorem dX6_changeLink_45 : decode cX6_changeLink 45 = .ok (.iload_n 3, 1) := by decide +kernel
theorem dX6_changeLink_46 : decode cX6_changeLink 46 = .ok (.iconst 1, 1) := by decide +kernel
theorem dX6_changeLink_47 : decode cX6_changeLink 47 = .ok (.if_icmp .ne 7, 3) := by decide +kernel
theorem dX6_changeLink_50 : decode cX6_changeLink 50 = .ok (.iconst 1, 1) := by decide +kernel
theorem dX6_changeLink_51 : decode cX6_changeLink 51 = .ok (.goto 4, 3) := by decide +kernel
theorem dX6_changeLink_54 : decode cX6_changeLink 54 = .ok (.iconst 0, 1) := by decide +kernel
theorem dX6_changeLink_55 : decode cX6_changeLink 55 = .ok (.invokevirtual 267, 3) := by decide +kernel
theorem dX6_changeLink_58 : decode cX6_changeLink 58 = .ok (.aload_n 0, 1) := by decide +kernel
theorem dX6_changeLink_59 : decode cX6_changeLink 59 = .ok (.invokevirtual 58, 3) := by decide +kernel
theorem dX6_changeLink_62 : decode cX6_changeLink 62 = .ok (.iload 5, 2) := by decide +kernel
theorem dX6_changeLink_64 : decode cX6_changeLink 64 = .ok (.ireturn, 1) := by decide +kernel
set_option maxRecDepth 20000 in
theorem ggX6_obey_X6_sendError : GoodIn wsX6_obey wsX6_sendError := goodIn_r _ [14, 6, 15, 7, 16, 9, 17, 18, 19, 20, 21, 22, 23, 24, 25, 26, 27, 28, 29, 30, 31, 32, 33, 34, 35, 36, 37, 38, 39, 40, 41, 42, 43, 44, 45, 46, 47, 197, 198, 199, 200, 201, 202, 203, 204, 205, 206, 214, 215, 216, 217, 218, 219, 220, 221, 222, 223, 224, 225, 226, 227, 228, 229, 230, 231, 232, 233, 234, 235, 236, 237, 238, 239] (by decide +kernel) (by decide +kernel)
set_option maxRecDepth 20000 in
theorem gX6_obey_X6_sendError : GoodIn wsX6_obey (wsV RX6 109 RX6 yX6_sendError wsX6_sendError) := goodIn_app (goodIn_of _ (by decide +kernel)) ggX6_obey_X6_sendError
set_option maxRecDepth 20000 in
theorem ggX6_obey_X2_add : GoodIn wsX6_obey wsX2_add := goodIn_r _ [52, 53, 54, 55, 56, 57, 58, 59, 60, 61, 62, 63, 220, 221, 222, 223, 224, 225, 226, 227, 228, 229, 230] (by decide +kernel) (by decide +kernel)
set_option maxRecDepth 20000 in
theorem gX6_obey_X2_add : GoodIn wsX6_obey (wsV RX6 116 RX2 yX2_add wsX2_add) := goodIn_app (goodIn_of _ (by decide +kernel)) ggX6_obey_X2_add
set_option maxRecDepth 20000 in
theorem ggX6_obey_X6_linkError : GoodIn wsX6_obey wsX6_linkError := goodIn_r _ [67, 6, 15, 17, 18, 19, 20, 21, 22, 23, 68, 69, 13, 70, 71, 72, 73, 74, 197, 198, 199, 200, 201, 202, 203, 204, 205, 206, 214, 215, 216, 217, 218, 219, 231, 232, 233] (by decide +kernel) (by decide +kernel)
set_option maxRecDepth 20000 in
theorem gX6_obey_X6_linkError : GoodIn wsX6_obey (wsV RX6 102 RX6 yX6_linkError wsX6_linkError) := goodIn_app (goodIn_of _ (by decide +kernel)) ggX6_obey_X6_linkError
set_option maxRecDepth 20000 in
theorem ggX6_obey_X6_changeLink : GoodIn wsX6_obey wsX6_changeLink := goodIn_r _ [78, 6, 15, 79, 80, 81, 20, 82, 83, 84, 46, 85, 86, 72, 73, 74, 22, 23, 87, 88, 89, 90, 91, 92, 93, 94, 95, 96, 97, 98, 99, 13, 100, 9, 101, 102, 103, 104, 34, 105, 106, 107, 108, 109, 110, 111, 112, 113, 114, 115, 116, 117, 118, 36, 119, 120, 121, 37, 38, 39, 122, 123, 124, 125, 126, 127, 128, 129, 130, 131, 132, 133, 134, 135, 136, 137, 138, 139, 140, 197, 198, 199, 200, 201, 202, 203, 204, 205, 206, 214, 215, 216, 217, 218, 219, 231, 232, 233, 234, 235, 236, 237, 238, 239] (by decide +kernel) (by decide +kernel)
set_option maxRecDepth 20000 in
theorem gX6_obey_X6_changeLink : GoodIn wsX6_obey (wsV RX6 106 RX6 yX6_changeLink wsX6_changeLink) := goodIn_app (goodIn_of _ (by decide +kernel)) ggX6_obey_X6_changeLink
set_option maxRecDepth 20000 in
theorem ggX6_obey_X6_isTicks : GoodIn wsX6_obey wsX6_isTicks := goodIn_r _ [143] (by decide +kernel) (by decide +kernel)
set_option maxRecDepth 20000 in
theorem gX6_obey_X6_isTicks : GoodIn wsX6_obey (va_wsS RX6 119 yX6_isTicks wsX6_isTicks) := goodIn_app (goodIn_of _ (by decide +kernel)) ggX6_obey_X6_isTicks
set_option maxRecDepth 20000 in
theorem ggX6_obey_X5_passTicks : GoodIn wsX6_obey wsX5_passTicks := goodIn_r _ [147, 148, 149, 150, 151, 152, 153, 154, 155, 27, 156, 157, 158, 159, 160, 161, 162, 30, 163, 164, 165, 166, 167, 168, 29, 169, 170, 171, 172, 173, 174, 175, 176, 177, 178, 179, 180, 181, 46, 182, 40, 41, 42, 20, 43, 22, 44, 45, 47, 183, 184, 185, 34, 186, 130, 131, 132, 133, 107, 134, 135, 136, 137, 106, 187, 32, 33, 35, 36, 37, 38, 39, 188, 189, 190, 191, 192, 193, 194, 195, 51, 196, 57, 58, 59, 63, 214, 215, 216, 217, 218, 219, 220, 221, 222, 223, 224, 225, 226, 227, 228, 229, 230, 231, 232, 233, 234, 235, 236, 237, 238, 239] (by decide +kernel) (by decide +kernel)
set_option maxRecDepth 20000 in
theorem gX6_obey_X5_passTicks : GoodIn wsX6_obey (wsV RX6 122 RX5 yX5_passTicks wsX5_passTicks) := goodIn_app (goodIn_of _ (by decide +kernel)) ggX6_obey_X5_passTicks
theorem dX6_obey_0 : decode cX6_obey 0 = .ok (.iload_n 1, 1) := by decide +kernel
theorem dX6_obey_1 : decode cX6_obey 1 = .ok (.ifCond .lt 14, 3) := by decide +kernel
theorem dX6_obey_4 : decode cX6_obey 4 = .ok (.iload_n 1, 1) := by decide +kernel
theorem dX6_obey_5 : decode cX6_obey 5 = .ok (.aload_n 0, 1) := by decide +kernel
theorem dX6_obey_6 : decode cX6_obey 6 = .ok (.getfield 39, 3) := by decide +kernel
theorem dX6_obey_9 : decode cX6_obey 9 = .ok (.getfield 242, 3) := by decide +kernel
theorem dX6_obey_12 : decode cX6_obey 12 = .ok (.if_icmp .lt 5, 3) := by decide +kernel
theorem dX6_obey_15 : decode cX6_obey 15 = .ok (.iconst 0, 1) := by decide +kernel
theorem dX6_obey_16 : decode cX6_obey 16 = .ok (.ireturn, 1) := by decide +kernel
theorem dX6_obey_17 : decode cX6_obey 17 = .ok (.aload_n 0, 1) := by decide +kernel
theorem dX6_obey_18 : decode cX6_obey 18 = .ok (.getfield 39, 3) := by decide +kernel
theorem dX6_obey_21 : decode cX6_obey 21 = .ok (.getfield 271, 3) := by decide +kernel
theorem dX6_obey_24 : decode cX6_obey 24 = .ok (.iload_n 1, 1) := by decide +kernel
theorem dX6_obey_25 : decode cX6_obey 25 = .ok (.iaload, 1) := by decide +kernel
theorem dX6_obey_26 : decode cX6_obey 26 = .ok (.istore_n 2, 1) := by decide +kernel
theorem dX6_obey_27 : decode cX6_obey 27 = .ok (.aload_n 0, 1) := by decide +kernel
theorem dX6_obey_28 : decode cX6_obey 28 = .ok (.getfield 39, 3) := by decide +kernel
theorem dX6_obey_31 : decode cX6_obey 31 = .ok (.getfield 274, 3) := by decide +kernel
theorem dX6_obey_34 : decode cX6_obey 34 = .ok (.iload_n 1, 1) := by decide +kernel
theorem dX6_obey_35 : decode cX6_obey 35 = .ok (.iaload, 1) := by decide +kernel
theorem dX6_obey_36 : decode cX6_obey 36 = .ok (.istore_n 3, 1) := by decide +kernel
theorem dX6_obey_37 : decode cX6_obey 37 = .ok (.aload_n 0, 1) := by decide +kernel
theorem dX6_obey_38 : decode cX6_obey 38 = .ok (.getfield 39, 3) := by decide +kernel
theorem dX6_obey_41 : decode cX6_obey 41 = .ok (.getfield 277, 3) := by decide +kernel
theorem dX6_obey_44 : decode cX6_obey 44 = .ok (.iload_n 1, 1) := by decide +kernel
theorem dX6_obey_45 : decode cX6_obey 45 = .ok (.iaload, 1) := by decide +kernel
theorem dX6_obey_46 : decode cX6_obey 46 = .ok (.lookupswitch 123 #[(98, 71), (109, 97), (115, 34)], 34) := by decide +kernel
theorem dX6_obey_80 : decode cX6_obey 80 = .ok (.aload_n 0, 1) := by decide +kernel
theorem dX6_obey_81 : decode cX6_obey 81 = .ok (.iload_n 2, 1) := by decide +kernel
theorem dX6_obey_82 : decode cX6_obey 82 = .ok (.iload_n 3, 1) := by decide +kernel
theorem dX6_obey_83 : decode cX6_obey 83 = .ok (.invokevirtual 109, 3) := by decide +kernel
theorem dX6_obey_86 : decode cX6_obey 86 = .ok (.ifCond .ne 29, 3) := by decide +kernel
theorem dX6_obey_89 : decode cX6_obey 89 = .ok (.aload_n 0, 1) := by decide +kernel
theorem dX6_obey_90 : decode cX6_obey 90 = .ok (.getfield 12, 3) := by decide +kernel
theorem dX6_obey_93 : decode cX6_obey 93 = .ok (.getfield 79, 3) := by decide +kernel
theorem dX6_obey_96 : decode cX6_obey 96 = .ok (.iload_n 2, 1) := by decide +kernel
theorem dX6_obey_97 : decode cX6_obey 97 = .ok (.iload_n 3, 1) := by decide +kernel
theorem dX6_obey_98 : decode cX6_obey 98 = .ok (.aload_n 0, 1) := by decide +kernel
theorem dX6_obey_99 : decode cX6_obey 99 = .ok (.getfield 12, 3) := by decide +kernel
theorem dX6_obey_102 : decode cX6_obey 102 = .ok (.getfield 113, 3) := by decide +kernel
theorem dX6_obey_105 : decode cX6_obey 105 = .ok (.invokevirtual 116, 3) := by decide +kernel
theorem dX6_obey_108 : decode cX6_obey 108 = .ok (.ifCond .lt 7, 3) := by decide +kernel
theorem dX6_obey_111 : decode cX6_obey 111 = .ok (.iconst 1, 1) := by decide +kernel
theorem dX6_obey_112 : decode cX6_obey 112 = .ok (.goto 4, 3) := by decide +kernel
theorem dX6_obey_115 : decode cX6_obey 115 = .ok (.iconst 0, 1) := by decide +kernel
theorem dX6_obey_116 : decode cX6_obey 116 = .ok (.ireturn, 1) := by decide +kernel
theorem dX6_obey_117 : decode cX6_obey 117 = .ok (.aload_n 0, 1) := by decide +kernel
theorem dX6_obey_118 : decode cX6_obey 118 = .ok (.iload_n 2, 1) := by decide +kernel
theorem dX6_obey_119 : decode cX6_obey 119 = .ok (.iload_n 3, 1) := by decide +kernel
theorem dX6_obey_120 : decode cX6_obey 120 = .ok (.iconst 0, 1) := by decide +kernel
theorem dX6_obey_121 : decode cX6_obey 121 = .ok (.invokevirtual 102, 3) := by decide +kernel
theorem dX6_obey_124 : decode cX6_obey 124 = .ok (.ifCond .ne 17, 3) := by decide +kernel
theorem dX6_obey_127 : decode cX6_obey 127 = .ok (.aload_n 0, 1) := by decide +kernel
theorem dX6_obey_128 : decode cX6_obey 128 = .ok (.iload_n 2, 1) := by decide +kernel
theorem dX6_obey_129 : decode cX6_obey 129 = .ok (.iload_n 3, 1) := by decide +kernel
theorem dX6_obey_130 : decode cX6_obey 130 = .ok (.iconst 0, 1) := by decide +kernel
theorem dX6_obey_131 : decode cX6_obey 131 = .ok (.invokevirtual 106, 3) := by decide +kernel
theorem dX6_obey_134 : decode cX6_obey 134 = .ok (.ifCond .lt 7, 3) := by decide +kernel
theorem dX6_obey_137 : decode cX6_obey 137 = .ok (.iconst 1, 1) := by decide +kernel
theorem dX6_obey_138 : decode cX6_obey 138 = .ok (.goto 4, 3) := by decide +kernel
theorem dX6_obey_141 : decode cX6_obey 141 = .ok (.iconst 0, 1) := by decide +kernel
theorem dX6_obey_142 : decode cX6_obey 142 = .ok (.ireturn, 1) := by decide +kernel
theorem dX6_obey_143 : decode cX6_obey 143 = .ok (.aload_n 0, 1) := by decide +kernel
theorem dX6_obey_144 : decode cX6_obey 144 = .ok (.iload_n 2, 1) := by decide +kernel
theorem dX6_obey_145 : decode cX6_obey 145 = .ok (.iload_n 3, 1) := by decide +kernel
theorem dX6_obey_146 : decode cX6_obey 146 = .ok (.iconst 1, 1) := by decide +kernel
theorem dX6_obey_147 : decode cX6_obey 147 = .ok (.invokevirtual 102, 3) := by decide +kernel
theorem dX6_obey_150 : decode cX6_obey 150 = .ok (.ifCond .ne 17, 3) := by decide +kernel
theorem dX6_obey_153 : decode cX6_obey 153 = .ok (.aload_n 0, 1) := by decide +kernel
theorem dX6_obey_154 : decode cX6_obey 154 = .ok (.iload_n 2, 1) := by decide +kernel
theorem dX6_obey_155 : decode cX6_obey 155 = .ok (.iload_n 3, 1) := by decide +kernel
theorem dX6_obey_156 : decode cX6_obey 156 = .ok (.iconst 1, 1) := by decide +kernel
theorem dX6_obey_157 : decode cX6_obey 157 = .ok (.invokevirtual 106, 3) := by decide +kernel
theorem dX6_obey_160 : decode cX6_obey 160 = .ok (.ifCond .lt 7, 3) := by decide +kernel
theorem dX6_obey_163 : decode cX6_obey 163 = .ok (.iconst 1, 1) := by decide +kernel
theorem dX6_obey_164 : decode cX6_obey 164 = .ok (.goto 4, 3) := by decide +kernel
theorem dX6_obey_167 : decode cX6_obey 167 = .ok (.iconst 0, 1) := by decide +kernel
theorem dX6_obey_168 : decode cX6_obey 168 = .ok (.ireturn, 1) := by decide +kernel
theorem dX6_obey_169 : decode cX6_obey 169 = .ok (.iload_n 2, 1) := by decide +kernel
theorem dX6_obey_170 : decode cX6_obey 170 = .ok (.invokestatic 119, 3) := by decide +kernel
theorem dX6_obey_173 : decode cX6_obey 173 = .ok (.ifCond .ne 5, 3) := by decide +kernel
theorem dX6_obey_176 : decode cX6_obey 176 = .ok (.iconst 0, 1) := by decide +kernel
theorem dX6_obey_177 : decode cX6_obey 177 = .ok (.ireturn, 1) := by decide +kernel
theorem dX6_obey_178 : decode cX6_obey 178 = .ok (.aload_n 0, 1) := by decide +kernel
theorem dX6_obey_179 : decode cX6_obey 179 = .ok (.getfield 12, 3) := by decide +kernel
theorem dX6_obey_182 : decode cX6_obey 182 = .ok (.aload_n 0, 1) := by decide +kernel
theorem dX6_obey_183 : decode cX6_obey 183 = .ok (.getfield 19, 3) := by decide +kernel
theorem dX6_obey_186 : decode cX6_obey 186 = .ok (.iload_n 2, 1) := by decide +kernel
theorem dX6_obey_187 : decode cX6_obey 187 = .ok (.invokevirtual 122, 3) := by decide +kernel
theorem dX6_obey_190 : decode cX6_obey 190 = .ok (.iconst 1, 1) := by decide +kernel
theorem dX6_obey_191 : decode cX6_obey 191 = .ok (.ireturn, 1) := by decide +kernel
set_option maxRecDepth 20000 in
theorem ggX6_recordState_X6_dropOldestState : GoodIn wsX6_recordState wsX6_dropOldestState := goodIn_r _ [8, 3, 1, 48, 49, 50, 51, 52, 53, 54, 55, 56, 57] (by decide +kernel) (by decide +kernel)
set_option maxRecDepth 20000 in
theorem gX6_recordState_X6_dropOldestState : GoodIn wsX6_recordState (wsV RX6 280 RX6 yX6_dropOldestState wsX6_dropOldestState) := goodIn_app (goodIn_of _ (by decide +kernel)) ggX6_recordState_X6_dropOldestState
set_option maxRecDepth 20000 in
theorem ggX6_recordState_X5_copyState : GoodIn wsX6_recordState wsX5_copyState := goodIn_r _ [12, 13, 14, 15, 16, 17, 18, 19, 20, 21, 22, 23, 24, 25, 26, 27, 28, 29, 30, 31, 32, 33, 34, 35, 36, 37, 38, 39, 40, 41, 42, 43, 44, 45, 46, 47, 58, 59, 60, 61, 62, 63, 64, 65, 66, 67, 68, 69, 70, 71, 72, 73, 74, 75, 76, 77] (by decide +kernel) (by decide +kernel)
set_option maxRecDepth 20000 in
theorem gX6_recordState_X5_copyState : GoodIn wsX6_recordState (va_wsS RX6 224 yX5_copyState wsX5_copyState) := goodIn_app (goodIn_of _ (by decide +kernel)) ggX6_recordState_X5_copyState
theorem dX6_recordState_0 : decode cX6_recordState 0 = .ok (.aload_n 0, 1) := by decide +kernel
theorem dX6_recordState_1 : decode cX6_recordState 1 = .ok (.getfield 47, 3) := by decide +kernel
theorem dX6_recordState_4 : decode cX6_recordState 4 = .ok (.bipush 6, 2) := by decide +kernel
theorem dX6_recordState_6 : decode cX6_recordState 6 = .ok (.if_icmp .lt 7, 3) := by decide +kernel
theorem dX6_recordState_9 : decode cX6_recordState 9 = .ok (.aload_n 0, 1) := by decide +kernel
theorem dX6_recordState_10 : decode cX6_recordState 10 = .ok (.invokevirtual 280, 3) := by decide +kernel
theorem dX6_recordState_13 : decode cX6_recordState 13 = .ok (.aload_n 0, 1) := by decide +kernel
theorem dX6_recordState_14 : decode cX6_recordState 14 = .ok (.getfield 12, 3) := by decide +kernel
theorem dX6_recordState_17 : decode cX6_recordState 17 = .ok (.aload_n 0, 1) := by decide +kernel
theorem dX6_recordState_18 : decode cX6_recordState 18 = .ok (.getfield 43, 3) := by decide +kernel
theorem dX6_recordState_21 : decode cX6_recordState 21 = .ok (.aload_n 0, 1) := by decide +kernel
theorem dX6_recordState_22 : decode cX6_recordState 22 = .ok (.getfield 47, 3) := by decide +kernel
theorem dX6_recordState_25 : decode cX6_recordState 25 = .ok (.aaload, 1) := by decide +kernel
theorem dX6_recordState_26 : decode cX6_recordState 26 = .ok (.invokestatic 224, 3) := by decide +kernel
theorem dX6_recordState_29 : decode cX6_recordState 29 = .ok (.aload_n 0, 1) := by decide +kernel
theorem dX6_recordState_30 : decode cX6_recordState 30 = .ok (.dup, 1) := by decide +kernel
theorem dX6_recordState_31 : decode cX6_recordState 31 = .ok (.getfield 47, 3) := by decide +kernel
theorem dX6_recordState_34 : decode cX6_recordState 34 = .ok (.iconst 1, 1) := by decide +kernel
theorem dX6_recordState_35 : decode cX6_recordState 35 = .ok (.iadd, 1) := by decide +kernel
theorem dX6_recordState_36 : decode cX6_recordState 36 = .ok (.putfield 47, 3) := by decide +kernel
theorem dX6_recordState_39 : decode cX6_recordState 39 = .ok (.return_, 1) := by decide +kernel
theorem dX6_dropOldestState_0 : decode cX6_dropOldestState 0 = .ok (.aload_n 0, 1) := by decide +kernel
theorem dX6_dropOldestState_1 : decode cX6_dropOldestState 1 = .ok (.getfield 43, 3) := by decide +kernel
theorem dX6_dropOldestState_4 : decode cX6_dropOldestState 4 = .ok (.iconst 0, 1) := by decide +kernel
theorem dX6_dropOldestState_5 : decode cX6_dropOldestState 5 = .ok (.aaload, 1) := by decide +kernel
theorem dX6_dropOldestState_6 : decode cX6_dropOldestState 6 = .ok (.astore_n 1, 1) := by decide +kernel
theorem dX6_dropOldestState_7 : decode cX6_dropOldestState 7 = .ok (.iconst 1, 1) := by decide +kernel
theorem dX6_dropOldestState_8 : decode cX6_dropOldestState 8 = .ok (.istore_n 2, 1) := by decide +kernel
theorem dX6_dropOldestState_9 : decode cX6_dropOldestState 9 = .ok (.iload_n 2, 1) := by decide +kernel
theorem dX6_dropOldestState_10 : decode cX6_dropOldestState 10 = .ok (.bipush 6, 2) := by decide +kernel
theorem dX6_dropOldestState_12 : decode cX6_dropOldestState 12 = .ok (.if_icmp .ge 23, 3) := by decide +kernel
theorem dX6_dropOldestState_15 : decode cX6_dropOldestState 15 = .ok (.aload_n 0, 1) := by decide +kernel
theorem dX6_dropOldestState_16 : decode cX6_dropOldestState 16 = .ok (.getfield 43, 3) := by decide +kernel
theorem dX6_dropOldestState_19 : decode cX6_dropOldestState 19 = .ok (.iload_n 2, 1) := by decide +kernel
theorem dX6_dropOldestState_20 : decode cX6_dropOldestState 20 = .ok (.iconst 1, 1) := by decide +kernel
theorem dX6_dropOldestState_21 : decode cX6_dropOldestState 21 = .ok (.isub, 1) := by decide +kernel
theorem dX6_dropOldestState_22 : decode cX6_dropOldestState 22 = .ok (.aload_n 0, 1) := by decide +kernel
theorem dX6_dropOldestState_23 : decode cX6_dropOldestState 23 = .ok (.getfield 43, 3) := by decide +kernel
theorem dX6_dropOldestState_26 : decode cX6_dropOldestState 26 = .ok (.iload_n 2, 1) := by decide +kernel
theorem dX6_dropOldestState_27 : decode cX6_dropOldestState 27 = .ok (.aaload, 1) := by decide +kernel
theorem dX6_dropOldestState_28 : decode cX6_dropOldestState 28 = .ok (.aastore, 1) := by decide +kernel
theorem dX6_dropOldestState_29 : decode cX6_dropOldestState 29 = .ok (.iinc 2 1, 3) := by decide +kernel
theorem dX6_dropOldestState_32 : decode cX6_dropOldestState 32 = .ok (.goto (-23), 3) := by decide +kernel
theorem dX6_dropOldestState_35 : decode cX6_dropOldestState 35 = .ok (.aload_n 0, 1) := by decide +kernel
theorem dX6_dropOldestState_36 : decode cX6_dropOldestState 36 = .ok (.getfield 43, 3) := by decide +kernel
theorem dX6_dropOldestState_39 : decode cX6_dropOldestState 39 = .ok (.iconst 5, 1) := by decide +kernel
theorem dX6_dropOldestState_40 : decode cX6_dropOldestState 40 = .ok (.aload_n 1, 1) := by decide +kernel
theorem dX6_dropOldestState_41 : decode cX6_dropOldestState 41 = .ok (.aastore, 1) := by decide +kernel
theorem dX6_dropOldestState_42 : decode cX6_dropOldestState 42 = .ok (.aload_n 0, 1) := by decide +kernel
theorem dX6_dropOldestState_43 : decode cX6_dropOldestState 43 = .ok (.iconst 5, 1) := by decide +kernel
theorem dX6_dropOldestState_44 : decode cX6_dropOldestState 44 = .ok (.putfield 47, 3) := by decide +kernel
theorem dX6_dropOldestState_47 : decode cX6_dropOldestState 47 = .ok (.return_, 1) := by decide +kernel
set_option maxRecDepth 20000 in
theorem ggX6_linkState_X0_linkAt : GoodIn wsX6_linkState wsX0_linkAt := goodIn_r _ [7, 8, 9, 10, 11, 12, 13, 14, 6, 15, 16, 17, 39, 40, 41] (by decide +kernel) (by decide +kernel)
set_option maxRecDepth 20000 in
theorem gX6_linkState_X0_linkAt : GoodIn wsX6_linkState (wsV RX6 261 RX0 yX0_linkAt wsX0_linkAt) := goodIn_app (goodIn_of _ (by decide +kernel)) ggX6_linkState_X0_linkAt
set_option maxRecDepth 20000 in
theorem ggX6_linkState_X0_isWhole : GoodIn wsX6_linkState wsX0_isWhole := goodIn_r _ [21, 22, 39, 40, 41] (by decide +kernel) (by decide +kernel)
set_option maxRecDepth 20000 in
theorem gX6_linkState_X0_isWhole : GoodIn wsX6_linkState (wsV RX6 264 RX0 yX0_isWhole wsX0_isWhole) := goodIn_app (goodIn_of _ (by decide +kernel)) ggX6_linkState_X0_isWhole
theorem dX6_linkState_0 : decode cX6_linkState 0 = .ok (.aload_n 0, 1) := by decide +kernel
theorem dX6_linkState_1 : decode cX6_linkState 1 = .ok (.getfield 12, 3) := by decide +kernel
theorem dX6_linkState_4 : decode cX6_linkState 4 = .ok (.getfield 88, 3) := by decide +kernel
theorem dX6_linkState_7 : decode cX6_linkState 7 = .ok (.iload_n 1, 1) := by decide +kernel
theorem dX6_linkState_8 : decode cX6_linkState 8 = .ok (.iload_n 2, 1) := by decide +kernel
theorem dX6_linkState_9 : decode cX6_linkState 9 = .ok (.invokevirtual 261, 3) := by decide +kernel
theorem dX6_linkState_12 : decode cX6_linkState 12 = .ok (.istore_n 3, 1) := by decide +kernel
theorem dX6_linkState_13 : decode cX6_linkState 13 = .ok (.iload_n 3, 1) := by decide +kernel
theorem dX6_linkState_14 : decode cX6_linkState 14 = .ok (.iconst (-1), 1) := by decide +kernel
theorem dX6_linkState_15 : decode cX6_linkState 15 = .ok (.if_icmp .ne 6, 3) := by decide +kernel
theorem dX6_linkState_18 : decode cX6_linkState 18 = .ok (.bipush (-6), 2) := by decide +kernel
theorem dX6_linkState_20 : decode cX6_linkState 20 = .ok (.ireturn, 1) := by decide +kernel
theorem dX6_linkState_21 : decode cX6_linkState 21 = .ok (.aload_n 0, 1) := by decide +kernel
theorem dX6_linkState_22 : decode cX6_linkState 22 = .ok (.getfield 12, 3) := by decide +kernel
theorem dX6_linkState_25 : decode cX6_linkState 25 = .ok (.getfield 88, 3) := by decide +kernel
theorem dX6_linkState_28 : decode cX6_linkState 28 = .ok (.iload_n 3, 1) := by decide +kernel
theorem dX6_linkState_29 : decode cX6_linkState 29 = .ok (.invokevirtual 264, 3) := by decide +kernel
theorem dX6_linkState_32 : decode cX6_linkState 32 = .ok (.ifCond .eq 7, 3) := by decide +kernel
theorem dX6_linkState_35 : decode cX6_linkState 35 = .ok (.iconst 1, 1) := by decide +kernel
theorem dX6_linkState_36 : decode cX6_linkState 36 = .ok (.goto 4, 3) := by decide +kernel
theorem dX6_linkState_39 : decode cX6_linkState 39 = .ok (.iconst 0, 1) := by decide +kernel
theorem dX6_linkState_40 : decode cX6_linkState 40 = .ok (.ireturn, 1) := by decide +kernel
set_option maxRecDepth 20000 in
theorem ggX6_findWorstLink_X0_boxes : GoodIn wsX6_findWorstLink wsX0_boxes := goodIn_r _ [7, 8, 9, 161, 162, 163] (by decide +kernel) (by decide +kernel)
set_option maxRecDepth 20000 in
theorem gX6_findWorstLink_X0_boxes : GoodIn wsX6_findWorstLink (wsV RX6 98 RX0 yX0_boxes wsX0_boxes) := goodIn_app (goodIn_of _ (by decide +kernel)) ggX6_findWorstLink_X0_boxes
set_option maxRecDepth 20000 in
theorem ggX6_findWorstLink_X0_isLink : GoodIn wsX6_findWorstLink wsX0_isLink := goodIn_r _ [13, 14, 15, 6, 16, 17, 18, 19, 20, 21, 22, 23, 8, 9, 161, 162, 163] (by decide +kernel) (by decide +kernel)
set_option maxRecDepth 20000 in
theorem gX6_findWorstLink_X0_isLink : GoodIn wsX6_findWorstLink (wsV RX6 283 RX0 yX0_isLink wsX0_isLink) := goodIn_app (goodIn_of _ (by decide +kernel)) ggX6_findWorstLink_X0_isLink
set_option maxRecDepth 20000 in
theorem ggX6_findWorstLink_X0_isWhole : GoodIn wsX6_findWorstLink wsX0_isWhole := goodIn_r _ [27, 28, 161, 162, 163] (by decide +kernel) (by decide +kernel)
set_option maxRecDepth 20000 in
theorem gX6_findWorstLink_X0_isWhole : GoodIn wsX6_findWorstLink (wsV RX6 264 RX0 yX0_isWhole wsX0_isWhole) := goodIn_app (goodIn_of _ (by decide +kernel)) ggX6_findWorstLink_X0_isWhole
set_option maxRecDepth 20000 in
theorem ggX6_findWorstLink_X6_pairsWithout : GoodIn wsX6_findWorstLink wsX6_pairsWithout := goodIn_r _ [33, 1, 34, 2, 35, 36, 37, 38, 39, 40, 41, 42, 43, 44, 45, 46, 47, 48, 49, 50, 51, 52, 53, 6, 54, 8, 9, 28, 55, 56, 57, 58, 59, 60, 61, 62, 63, 64, 65, 66, 67, 68, 69, 70, 71, 72, 73, 74, 75, 76, 77, 78, 79, 80, 81, 82, 83, 84, 4, 5, 7, 85, 86, 87, 88, 89, 90, 91, 92, 20, 21, 22, 23, 93, 25, 26, 27, 94, 95, 96, 97, 98, 99, 100, 101, 102, 103, 104, 105, 106, 107, 108, 109, 110, 111, 112, 113, 114, 115, 116, 117, 118, 119, 120, 121, 122, 123, 124, 125, 126, 127, 128, 129, 130, 131, 132, 133, 134, 135, 136, 137, 138, 139, 140, 141, 142, 143, 144, 145, 146, 147, 148, 149, 150, 151, 152, 153, 154, 155, 156, 157, 158, 159, 160, 161, 162, 163, 164, 165, 166, 167, 168, 169, 170, 171, 172, 173, 174, 175, 176, 177, 178, 179, 180] (by decide +kernel) (by decide +kernel)
set_option maxRecDepth 20000 in
theorem gX6_findWorstLink_X6_pairsWithout : GoodIn wsX6_findWorstLink (wsV RX6 221 RX6 yX6_pairsWithout wsX6_pairsWithout) := goodIn_app (goodIn_of _ (by decide +kernel)) ggX6_findWorstLink_X6_pairsWithout
theorem dX6_findWorstLink_0 : decode cX6_findWorstLink 0 = .ok (.iconst (-1), 1) := by decide +kernel
theorem dX6_findWorstLink_1 : decode cX6_findWorstLink 1 = .ok (.istore_n 1, 1) := by decide +kernel
theorem dX6_findWorstLink_2 : decode cX6_findWorstLink 2 = .ok (.iconst 0, 1) := by decide +kernel
theorem dX6_findWorstLink_3 : decode cX6_findWorstLink 3 = .ok (.istore_n 2, 1) := by decide +kernel
theorem dX6_findWorstLink_4 : decode cX6_findWorstLink 4 = .ok (.iconst 0, 1) := by decide +kernel
theorem dX6_findWorstLink_5 : decode cX6_findWorstLink 5 = .ok (.istore_n 3, 1) := by decide +kernel
theorem dX6_findWorstLink_6 : decode cX6_findWorstLink 6 = .ok (.iload_n 3, 1) := by decide +kernel
theorem dX6_findWorstLink_7 : decode cX6_findWorstLink 7 = .ok (.iconst 2, 1) := by decide +kernel
theorem dX6_findWorstLink_8 : decode cX6_findWorstLink 8 = .ok (.aload_n 0, 1) := by decide +kernel
theorem dX6_findWorstLink_9 : decode cX6_findWorstLink 9 = .ok (.getfield 12, 3) := by decide +kernel
theorem dX6_findWorstLink_12 : decode cX6_findWorstLink 12 = .ok (.getfield 88, 3) := by decide +kernel
theorem dX6_findWorstLink_15 : decode cX6_findWorstLink 15 = .ok (.invokevirtual 98, 3) := by decide +kernel
theorem dX6_findWorstLink_18 : decode cX6_findWorstLink 18 = .ok (.imul, 1) := by decide +kernel
theorem dX6_findWorstLink_19 : decode cX6_findWorstLink 19 = .ok (.if_icmp .ge 60, 3) := by decide +kernel
theorem dX6_findWorstLink_22 : decode cX6_findWorstLink 22 = .ok (.aload_n 0, 1) := by decide +kernel
theorem dX6_findWorstLink_23 : decode cX6_findWorstLink 23 = .ok (.getfield 12, 3) := by decide +kernel
theorem dX6_findWorstLink_26 : decode cX6_findWorstLink 26 = .ok (.getfield 88, 3) := by decide +kernel
theorem dX6_findWorstLink_29 : decode cX6_findWorstLink 29 = .ok (.iload_n 3, 1) := by decide +kernel
theorem dX6_findWorstLink_30 : decode cX6_findWorstLink 30 = .ok (.invokevirtual 283, 3) := by decide +kernel
theorem dX6_findWorstLink_33 : decode cX6_findWorstLink 33 = .ok (.ifCond .eq 40, 3) := by decide +kernel
theorem dX6_findWorstLink_36 : decode cX6_findWorstLink 36 = .ok (.aload_n 0, 1) := by decide +kernel
theorem dX6_findWorstLink_37 : decode cX6_findWorstLink 37 = .ok (.getfield 12, 3) := by decide +kernel
theorem dX6_findWorstLink_40 : decode cX6_findWorstLink 40 = .ok (.getfield 88, 3) := by decide +kernel
theorem dX6_findWorstLink_43 : decode cX6_findWorstLink 43 = .ok (.iload_n 3, 1) := by decide +kernel
theorem dX6_findWorstLink_44 : decode cX6_findWorstLink 44 = .ok (.invokevirtual 264, 3) := by decide +kernel
theorem dX6_findWorstLink_47 : decode cX6_findWorstLink 47 = .ok (.ifCond .eq 26, 3) := by decide +kernel
theorem dX6_findWorstLink_50 : decode cX6_findWorstLink 50 = .ok (.aload_n 0, 1) := by decide +kernel
theorem dX6_findWorstLink_51 : decode cX6_findWorstLink 51 = .ok (.iload_n 3, 1) := by decide +kernel
theorem dX6_findWorstLink_52 : decode cX6_findWorstLink 52 = .ok (.invokevirtual 221, 3) := by decide +kernel
theorem dX6_findWorstLink_55 : decode cX6_findWorstLink 55 = .ok (.istore 4, 2) := by decide +kernel
theorem dX6_findWorstLink_57 : decode cX6_findWorstLink 57 = .ok (.iload_n 1, 1) := by decide +kernel
theorem dX6_findWorstLink_58 : decode cX6_findWorstLink 58 = .ok (.iconst (-1), 1) := by decide +kernel
theorem dX6_findWorstLink_59 : decode cX6_findWorstLink 59 = .ok (.if_icmp .eq 9, 3) := by decide +kernel
theorem dX6_findWorstLink_62 : decode cX6_findWorstLink 62 = .ok (.iload 4, 2) := by decide +kernel
theorem dX6_findWorstLink_64 : decode cX6_findWorstLink 64 = .ok (.iload_n 2, 1) := by decide +kernel
theorem dX6_findWorstLink_65 : decode cX6_findWorstLink 65 = .ok (.if_icmp .ge 8, 3) := by decide +kernel
theorem dX6_findWorstLink_68 : decode cX6_findWorstLink 68 = .ok (.iload_n 3, 1) := by decide +kernel
theorem dX6_findWorstLink_69 : decode cX6_findWorstLink 69 = .ok (.istore_n 1, 1) := by decide +kernel
theorem dX6_findWorstLink_70 : decode cX6_findWorstLink 70 = .ok (.iload 4, 2) := by decide +kernel
theorem dX6_findWorstLink_72 : decode cX6_findWorstLink 72 = .ok (.istore_n 2, 1) := by decide +kernel
theorem dX6_findWorstLink_73 : decode cX6_findWorstLink 73 = .ok (.iinc 3 1, 3) := by decide +kernel
theorem dX6_findWorstLink_76 : decode cX6_findWorstLink 76 = .ok (.goto (-70), 3) := by decide +kernel
theorem dX6_findWorstLink_79 : decode cX6_findWorstLink 79 = .ok (.iload_n 1, 1) := by decide +kernel
theorem dX6_findWorstLink_80 : decode cX6_findWorstLink 80 = .ok (.ireturn, 1) := by decide +kernel
set_option maxRecDepth 20000 in
theorem ggX6_pairsWithout_X5_copyState : GoodIn wsX6_pairsWithout wsX5_copyState := goodIn_r _ [9, 10, 11, 12, 13, 14, 15, 16, 17, 18, 19, 20, 21, 22, 23, 24, 25, 26, 27, 28, 29, 30, 31, 32, 33, 34, 35, 36, 37, 38, 39, 40, 41, 42, 43, 44, 138, 139, 140, 141, 142, 143, 144, 145, 146, 147, 148, 149, 150, 151, 152, 153, 154, 155, 156, 157] (by decide +kernel) (by decide +kernel)
set_option maxRecDepth 20000 in
theorem gX6_pairsWithout_X5_copyState : GoodIn wsX6_pairsWithout (va_wsS RX6 224 yX5_copyState wsX5_copyState) := goodIn_app (goodIn_of _ (by decide +kernel)) ggX6_pairsWithout_X5_copyState
set_option maxRecDepth 20000 in
theorem ggX6_pairsWithout_X0_makeWhole : GoodIn wsX6_pairsWithout wsX0_makeWhole := goodIn_r _ [48, 27, 49, 144, 145, 146] (by decide +kernel) (by decide +kernel)
set_option maxRecDepth 20000 in
theorem gX6_pairsWithout_X0_makeWhole : GoodIn wsX6_pairsWithout (wsV RX6 267 RX0 yX0_makeWhole wsX0_makeWhole) := goodIn_app (goodIn_of _ (by decide +kernel)) ggX6_pairsWithout_X0_makeWhole
set_option maxRecDepth 20000 in
theorem ggX6_pairsWithout_X4_learn : GoodIn wsX6_pairsWithout wsX4_learn := goodIn_r _ [54, 55, 56, 57, 58, 59, 23, 60, 25, 26, 61, 62, 63, 64, 65, 66, 67, 68, 69, 70, 71, 72, 73, 74, 75, 76, 27, 77, 78, 79, 80, 53, 81, 82, 83, 84, 85, 86, 87, 88, 89, 90, 91, 92, 93, 94, 95, 96, 97, 98, 99, 100, 101, 102, 103, 104, 105, 106, 107, 158, 159, 160, 161, 162, 163, 144, 145, 146] (by decide +kernel) (by decide +kernel)
set_option maxRecDepth 20000 in
theorem gX6_pairsWithout_X4_learn : GoodIn wsX6_pairsWithout (wsV RX6 257 RX4 yX4_learn wsX4_learn) := goodIn_app (goodIn_of _ (by decide +kernel)) ggX6_pairsWithout_X4_learn
set_option maxRecDepth 20000 in
theorem ggX6_pairsWithout_X5_connectedPairs : GoodIn wsX6_pairsWithout wsX5_connectedPairs := goodIn_r _ [111, 15, 112, 58, 59, 23, 60, 25, 26, 113, 114, 115, 8, 116, 10, 117, 118, 119, 53, 120, 82, 86, 87, 88, 121, 122, 123, 124, 125, 126, 67, 127, 138, 139, 140, 141, 142, 143, 144, 145, 146, 158, 159, 160, 161, 162, 163] (by decide +kernel) (by decide +kernel)
set_option maxRecDepth 20000 in
theorem gX6_pairsWithout_X5_connectedPairs : GoodIn wsX6_pairsWithout (wsV RX6 208 RX5 yX5_connectedPairs wsX5_connectedPairs) := goodIn_app (goodIn_of _ (by decide +kernel)) ggX6_pairsWithout_X5_connectedPairs
theorem dX6_pairsWithout_0 : decode cX6_pairsWithout 0 = .ok (.aload_n 0, 1) := by decide +kernel
theorem dX6_pairsWithout_1 : decode cX6_pairsWithout 1 = .ok (.getfield 12, 3) := by decide +kernel
theorem dX6_pairsWithout_4 : decode cX6_pairsWithout 4 = .ok (.aload_n 0, 1) := by decide +kernel
theorem dX6_pairsWithout_5 : decode cX6_pairsWithout 5 = .ok (.getfield 23, 3) := by decide +kernel
