theorem dX0_init_0 : decode cX0_init 0 = .ok (.aload_n 0, 1) := by decide +kernel
theorem dX0_init_1 : decode cX0_init 1 = .ok (.invokespecial 3, 3) := by decide +kernel
theorem dX0_init_4 : decode cX0_init 4 = .ok (.aload_n 0, 1) := by decide +kernel
theorem dX0_init_5 : decode cX0_init 5 = .ok (.iconst 4, 1) := by decide +kernel
theorem dX0_init_6 : decode cX0_init 6 = .ok (.putfield 9, 3) := by decide +kernel
theorem dX0_init_9 : decode cX0_init 9 = .ok (.aload_n 0, 1) := by decide +kernel
theorem dX0_init_10 : decode cX0_init 10 = .ok (.iconst 4, 1) := by decide +kernel
theorem dX0_init_11 : decode cX0_init 11 = .ok (.putfield 15, 3) := by decide +kernel
theorem dX0_init_14 : decode cX0_init 14 = .ok (.aload_n 0, 1) := by decide +kernel
theorem dX0_init_15 : decode cX0_init 15 = .ok (.lconst 0, 1) := by decide +kernel
theorem dX0_init_16 : decode cX0_init 16 = .ok (.putfield 18, 3) := by decide +kernel
theorem dX0_init_19 : decode cX0_init 19 = .ok (.return_, 1) := by decide +kernel
theorem dX0_layOut_0 : decode cX0_layOut 0 = .ok (.aload_n 0, 1) := by decide +kernel
theorem dX0_layOut_1 : decode cX0_layOut 1 = .ok (.iload_n 1, 1) := by decide +kernel
theorem dX0_layOut_2 : decode cX0_layOut 2 = .ok (.putfield 9, 3) := by decide +kernel
theorem dX0_layOut_5 : decode cX0_layOut 5 = .ok (.aload_n 0, 1) := by decide +kernel
theorem dX0_layOut_6 : decode cX0_layOut 6 = .ok (.iload_n 2, 1) := by decide +kernel
theorem dX0_layOut_7 : decode cX0_layOut 7 = .ok (.putfield 15, 3) := by decide +kernel
theorem dX0_layOut_10 : decode cX0_layOut 10 = .ok (.aload_n 0, 1) := by decide +kernel
theorem dX0_layOut_11 : decode cX0_layOut 11 = .ok (.lconst 0, 1) := by decide +kernel
theorem dX0_layOut_12 : decode cX0_layOut 12 = .ok (.putfield 18, 3) := by decide +kernel
theorem dX0_layOut_15 : decode cX0_layOut 15 = .ok (.return_, 1) := by decide +kernel
theorem dX0_copyGrid_0 : decode cX0_copyGrid 0 = .ok (.aload_n 0, 1) := by decide +kernel
theorem dX0_copyGrid_1 : decode cX0_copyGrid 1 = .ok (.aload_n 1, 1) := by decide +kernel
theorem dX0_copyGrid_2 : decode cX0_copyGrid 2 = .ok (.getfield 9, 3) := by decide +kernel
theorem dX0_copyGrid_5 : decode cX0_copyGrid 5 = .ok (.putfield 9, 3) := by decide +kernel
theorem dX0_copyGrid_8 : decode cX0_copyGrid 8 = .ok (.aload_n 0, 1) := by decide +kernel
theorem dX0_copyGrid_9 : decode cX0_copyGrid 9 = .ok (.aload_n 1, 1) := by decide +kernel
theorem dX0_copyGrid_10 : decode cX0_copyGrid 10 = .ok (.getfield 15, 3) := by decide +kernel
theorem dX0_copyGrid_13 : decode cX0_copyGrid 13 = .ok (.putfield 15, 3) := by decide +kernel
theorem dX0_copyGrid_16 : decode cX0_copyGrid 16 = .ok (.aload_n 0, 1) := by decide +kernel
theorem dX0_copyGrid_17 : decode cX0_copyGrid 17 = .ok (.aload_n 1, 1) := by decide +kernel
theorem dX0_copyGrid_18 : decode cX0_copyGrid 18 = .ok (.getfield 18, 3) := by decide +kernel
theorem dX0_copyGrid_21 : decode cX0_copyGrid 21 = .ok (.putfield 18, 3) := by decide +kernel
theorem dX0_copyGrid_24 : decode cX0_copyGrid 24 = .ok (.return_, 1) := by decide +kernel
theorem dX0_boxes_0 : decode cX0_boxes 0 = .ok (.aload_n 0, 1) := by decide +kernel
theorem dX0_boxes_1 : decode cX0_boxes 1 = .ok (.getfield 9, 3) := by decide +kernel
theorem dX0_boxes_4 : decode cX0_boxes 4 = .ok (.aload_n 0, 1) := by decide +kernel
theorem dX0_boxes_5 : decode cX0_boxes 5 = .ok (.getfield 15, 3) := by decide +kernel
theorem dX0_boxes_8 : decode cX0_boxes 8 = .ok (.imul, 1) := by decide +kernel
theorem dX0_boxes_9 : decode cX0_boxes 9 = .ok (.ireturn, 1) := by decide +kernel
theorem dX0_has_0 : decode cX0_has 0 = .ok (.iload_n 1, 1) := by decide +kernel
theorem dX0_has_1 : decode cX0_has 1 = .ok (.ifCond .lt 20, 3) := by decide +kernel
theorem dX0_has_4 : decode cX0_has 4 = .ok (.iload_n 1, 1) := by decide +kernel
theorem dX0_has_5 : decode cX0_has 5 = .ok (.aload_n 0, 1) := by decide +kernel
theorem dX0_has_6 : decode cX0_has 6 = .ok (.getfield 9, 3) := by decide +kernel
theorem dX0_has_9 : decode cX0_has 9 = .ok (.aload_n 0, 1) := by decide +kernel
theorem dX0_has_10 : decode cX0_has 10 = .ok (.getfield 15, 3) := by decide +kernel
theorem dX0_has_13 : decode cX0_has 13 = .ok (.imul, 1) := by decide +kernel
theorem dX0_has_14 : decode cX0_has 14 = .ok (.if_icmp .ge 7, 3) := by decide +kernel
theorem dX0_has_17 : decode cX0_has 17 = .ok (.iconst 1, 1) := by decide +kernel
theorem dX0_has_18 : decode cX0_has 18 = .ok (.goto 4, 3) := by decide +kernel
theorem dX0_has_21 : decode cX0_has 21 = .ok (.iconst 0, 1) := by decide +kernel
theorem dX0_has_22 : decode cX0_has 22 = .ok (.ireturn, 1) := by decide +kernel
theorem dX0_beside_0 : decode cX0_beside 0 = .ok (.aload_n 0, 1) := by decide +kernel
theorem dX0_beside_1 : decode cX0_beside 1 = .ok (.getfield 9, 3) := by decide +kernel
theorem dX0_beside_4 : decode cX0_beside 4 = .ok (.iconst 1, 1) := by decide +kernel
theorem dX0_beside_5 : decode cX0_beside 5 = .ok (.if_icmp .ge 5, 3) := by decide +kernel
theorem dX0_beside_8 : decode cX0_beside 8 = .ok (.iconst (-1), 1) := by decide +kernel
theorem dX0_beside_9 : decode cX0_beside 9 = .ok (.ireturn, 1) := by decide +kernel
theorem dX0_beside_10 : decode cX0_beside 10 = .ok (.iload_n 1, 1) := by decide +kernel
theorem dX0_beside_11 : decode cX0_beside 11 = .ok (.aload_n 0, 1) := by decide +kernel
theorem dX0_beside_12 : decode cX0_beside 12 = .ok (.getfield 9, 3) := by decide +kernel
theorem dX0_beside_15 : decode cX0_beside 15 = .ok (.irem, 1) := by decide +kernel
theorem dX0_beside_16 : decode cX0_beside 16 = .ok (.istore_n 3, 1) := by decide +kernel
theorem dX0_beside_17 : decode cX0_beside 17 = .ok (.iload_n 1, 1) := by decide +kernel
theorem dX0_beside_18 : decode cX0_beside 18 = .ok (.aload_n 0, 1) := by decide +kernel
theorem dX0_beside_19 : decode cX0_beside 19 = .ok (.getfield 9, 3) := by decide +kernel
theorem dX0_beside_22 : decode cX0_beside 22 = .ok (.idiv, 1) := by decide +kernel
theorem dX0_beside_23 : decode cX0_beside 23 = .ok (.istore 4, 2) := by decide +kernel
theorem dX0_beside_25 : decode cX0_beside 25 = .ok (.iload_n 2, 1) := by decide +kernel
theorem dX0_beside_26 : decode cX0_beside 26 = .ok (.tableswitch 98 0 3 #[30, 48, 60, 82], 30) := by decide +kernel
theorem dX0_beside_56 : decode cX0_beside 56 = .ok (.iload_n 3, 1) := by decide +kernel
theorem dX0_beside_57 : decode cX0_beside 57 = .ok (.aload_n 0, 1) := by decide +kernel
theorem dX0_beside_58 : decode cX0_beside 58 = .ok (.getfield 9, 3) := by decide +kernel
theorem dX0_beside_61 : decode cX0_beside 61 = .ok (.iconst 1, 1) := by decide +kernel
theorem dX0_beside_62 : decode cX0_beside 62 = .ok (.isub, 1) := by decide +kernel
theorem dX0_beside_63 : decode cX0_beside 63 = .ok (.if_icmp .ge 9, 3) := by decide +kernel
theorem dX0_beside_66 : decode cX0_beside 66 = .ok (.iload_n 1, 1) := by decide +kernel
theorem dX0_beside_67 : decode cX0_beside 67 = .ok (.iconst 1, 1) := by decide +kernel
theorem dX0_beside_68 : decode cX0_beside 68 = .ok (.iadd, 1) := by decide +kernel
theorem dX0_beside_69 : decode cX0_beside 69 = .ok (.goto 4, 3) := by decide +kernel
theorem dX0_beside_72 : decode cX0_beside 72 = .ok (.iconst (-1), 1) := by decide +kernel
theorem dX0_beside_73 : decode cX0_beside 73 = .ok (.ireturn, 1) := by decide +kernel
theorem dX0_beside_74 : decode cX0_beside 74 = .ok (.iload_n 3, 1) := by decide +kernel
theorem dX0_beside_75 : decode cX0_beside 75 = .ok (.ifCond .le 9, 3) := by decide +kernel
theorem dX0_beside_78 : decode cX0_beside 78 = .ok (.iload_n 1, 1) := by decide +kernel
theorem dX0_beside_79 : decode cX0_beside 79 = .ok (.iconst 1, 1) := by decide +kernel
theorem dX0_beside_80 : decode cX0_beside 80 = .ok (.isub, 1) := by decide +kernel
theorem dX0_beside_81 : decode cX0_beside 81 = .ok (.goto 4, 3) := by decide +kernel
theorem dX0_beside_84 : decode cX0_beside 84 = .ok (.iconst (-1), 1) := by decide +kernel
theorem dX0_beside_85 : decode cX0_beside 85 = .ok (.ireturn, 1) := by decide +kernel
theorem dX0_beside_86 : decode cX0_beside 86 = .ok (.iload 4, 2) := by decide +kernel
theorem dX0_beside_88 : decode cX0_beside 88 = .ok (.aload_n 0, 1) := by decide +kernel
theorem dX0_beside_89 : decode cX0_beside 89 = .ok (.getfield 15, 3) := by decide +kernel
theorem dX0_beside_92 : decode cX0_beside 92 = .ok (.iconst 1, 1) := by decide +kernel
theorem dX0_beside_93 : decode cX0_beside 93 = .ok (.isub, 1) := by decide +kernel
theorem dX0_beside_94 : decode cX0_beside 94 = .ok (.if_icmp .ge 12, 3) := by decide +kernel
theorem dX0_beside_97 : decode cX0_beside 97 = .ok (.iload_n 1, 1) := by decide +kernel
theorem dX0_beside_98 : decode cX0_beside 98 = .ok (.aload_n 0, 1) := by decide +kernel
theorem dX0_beside_99 : decode cX0_beside 99 = .ok (.getfield 9, 3) := by decide +kernel
theorem dX0_beside_102 : decode cX0_beside 102 = .ok (.iadd, 1) := by decide +kernel
theorem dX0_beside_103 : decode cX0_beside 103 = .ok (.goto 4, 3) := by decide +kernel
theorem dX0_beside_106 : decode cX0_beside 106 = .ok (.iconst (-1), 1) := by decide +kernel
theorem dX0_beside_107 : decode cX0_beside 107 = .ok (.ireturn, 1) := by decide +kernel
theorem dX0_beside_108 : decode cX0_beside 108 = .ok (.iload 4, 2) := by decide +kernel
theorem dX0_beside_110 : decode cX0_beside 110 = .ok (.ifCond .le 12, 3) := by decide +kernel
theorem dX0_beside_113 : decode cX0_beside 113 = .ok (.iload_n 1, 1) := by decide +kernel
theorem dX0_beside_114 : decode cX0_beside 114 = .ok (.aload_n 0, 1) := by decide +kernel
theorem dX0_beside_115 : decode cX0_beside 115 = .ok (.getfield 9, 3) := by decide +kernel
theorem dX0_beside_118 : decode cX0_beside 118 = .ok (.isub, 1) := by decide +kernel
theorem dX0_beside_119 : decode cX0_beside 119 = .ok (.goto 4, 3) := by decide +kernel
theorem dX0_beside_122 : decode cX0_beside 122 = .ok (.iconst (-1), 1) := by decide +kernel
theorem dX0_beside_123 : decode cX0_beside 123 = .ok (.ireturn, 1) := by decide +kernel
theorem dX0_beside_124 : decode cX0_beside 124 = .ok (.iconst (-1), 1) := by decide +kernel
theorem dX0_beside_125 : decode cX0_beside 125 = .ok (.ireturn, 1) := by decide +kernel
theorem dX0_distance_0 : decode cX0_distance 0 = .ok (.aload_n 0, 1) := by decide +kernel
theorem dX0_distance_1 : decode cX0_distance 1 = .ok (.getfield 9, 3) := by decide +kernel
theorem dX0_distance_4 : decode cX0_distance 4 = .ok (.iconst 1, 1) := by decide +kernel
theorem dX0_distance_5 : decode cX0_distance 5 = .ok (.if_icmp .ge 5, 3) := by decide +kernel
theorem dX0_distance_8 : decode cX0_distance 8 = .ok (.iconst 0, 1) := by decide +kernel
theorem dX0_distance_9 : decode cX0_distance 9 = .ok (.ireturn, 1) := by decide +kernel
theorem dX0_distance_10 : decode cX0_distance 10 = .ok (.iload_n 1, 1) := by decide +kernel
theorem dX0_distance_11 : decode cX0_distance 11 = .ok (.aload_n 0, 1) := by decide +kernel
theorem dX0_distance_12 : decode cX0_distance 12 = .ok (.getfield 9, 3) := by decide +kernel
theorem dX0_distance_15 : decode cX0_distance 15 = .ok (.irem, 1) := by decide +kernel
theorem dX0_distance_16 : decode cX0_distance 16 = .ok (.iload_n 2, 1) := by decide +kernel
theorem dX0_distance_17 : decode cX0_distance 17 = .ok (.aload_n 0, 1) := by decide +kernel
theorem dX0_distance_18 : decode cX0_distance 18 = .ok (.getfield 9, 3) := by decide +kernel
theorem dX0_distance_21 : decode cX0_distance 21 = .ok (.irem, 1) := by decide +kernel
theorem dX0_distance_22 : decode cX0_distance 22 = .ok (.isub, 1) := by decide +kernel
theorem dX0_distance_23 : decode cX0_distance 23 = .ok (.invokestatic 22, 3) := by decide +kernel
theorem dX0_distance_26 : decode cX0_distance 26 = .ok (.iload_n 1, 1) := by decide +kernel
theorem dX0_distance_27 : decode cX0_distance 27 = .ok (.aload_n 0, 1) := by decide +kernel
theorem dX0_distance_28 : decode cX0_distance 28 = .ok (.getfield 9, 3) := by decide +kernel
theorem dX0_distance_31 : decode cX0_distance 31 = .ok (.idiv, 1) := by decide +kernel
theorem dX0_distance_32 : decode cX0_distance 32 = .ok (.iload_n 2, 1) := by decide +kernel
theorem dX0_distance_33 : decode cX0_distance 33 = .ok (.aload_n 0, 1) := by decide +kernel
theorem dX0_distance_34 : decode cX0_distance 34 = .ok (.getfield 9, 3) := by decide +kernel
theorem dX0_distance_37 : decode cX0_distance 37 = .ok (.idiv, 1) := by decide +kernel
theorem dX0_distance_38 : decode cX0_distance 38 = .ok (.isub, 1) := by decide +kernel
theorem dX0_distance_39 : decode cX0_distance 39 = .ok (.invokestatic 22, 3) := by decide +kernel
theorem dX0_distance_42 : decode cX0_distance 42 = .ok (.iadd, 1) := by decide +kernel
theorem dX0_distance_43 : decode cX0_distance 43 = .ok (.ireturn, 1) := by decide +kernel
theorem dX0_linkAt_0 : decode cX0_linkAt 0 = .ok (.aload_n 0, 1) := by decide +kernel
theorem dX0_linkAt_1 : decode cX0_linkAt 1 = .ok (.iload_n 1, 1) := by decide +kernel
theorem dX0_linkAt_2 : decode cX0_linkAt 2 = .ok (.iload_n 2, 1) := by decide +kernel
theorem dX0_linkAt_3 : decode cX0_linkAt 3 = .ok (.invokevirtual 28, 3) := by decide +kernel
theorem dX0_linkAt_6 : decode cX0_linkAt 6 = .ok (.istore_n 3, 1) := by decide +kernel
theorem dX0_linkAt_7 : decode cX0_linkAt 7 = .ok (.iload_n 3, 1) := by decide +kernel
theorem dX0_linkAt_8 : decode cX0_linkAt 8 = .ok (.iconst (-1), 1) := by decide +kernel
theorem dX0_linkAt_9 : decode cX0_linkAt 9 = .ok (.if_icmp .ne 5, 3) := by decide +kernel
theorem dX0_linkAt_12 : decode cX0_linkAt 12 = .ok (.iconst (-1), 1) := by decide +kernel
theorem dX0_linkAt_13 : decode cX0_linkAt 13 = .ok (.ireturn, 1) := by decide +kernel
theorem dX0_linkAt_14 : decode cX0_linkAt 14 = .ok (.iconst 2, 1) := by decide +kernel
theorem dX0_linkAt_15 : decode cX0_linkAt 15 = .ok (.iload_n 1, 1) := by decide +kernel
theorem dX0_linkAt_16 : decode cX0_linkAt 16 = .ok (.iload_n 3, 1) := by decide +kernel
theorem dX0_linkAt_17 : decode cX0_linkAt 17 = .ok (.invokestatic 32, 3) := by decide +kernel
theorem dX0_linkAt_20 : decode cX0_linkAt 20 = .ok (.imul, 1) := by decide +kernel
theorem dX0_linkAt_21 : decode cX0_linkAt 21 = .ok (.iload_n 2, 1) := by decide +kernel
theorem dX0_linkAt_22 : decode cX0_linkAt 22 = .ok (.ifCond .eq 8, 3) := by decide +kernel
theorem dX0_linkAt_25 : decode cX0_linkAt 25 = .ok (.iload_n 2, 1) := by decide +kernel
theorem dX0_linkAt_26 : decode cX0_linkAt 26 = .ok (.iconst 1, 1) := by decide +kernel
theorem dX0_linkAt_27 : decode cX0_linkAt 27 = .ok (.if_icmp .ne 7, 3) := by decide +kernel
theorem dX0_linkAt_30 : decode cX0_linkAt 30 = .ok (.iconst 0, 1) := by decide +kernel
theorem dX0_linkAt_31 : decode cX0_linkAt 31 = .ok (.goto 4, 3) := by decide +kernel
theorem dX0_linkAt_34 : decode cX0_linkAt 34 = .ok (.iconst 1, 1) := by decide +kernel
theorem dX0_linkAt_35 : decode cX0_linkAt 35 = .ok (.iadd, 1) := by decide +kernel
theorem dX0_linkAt_36 : decode cX0_linkAt 36 = .ok (.ireturn, 1) := by decide +kernel
theorem dX0_boxOfLink_0 : decode cX0_boxOfLink 0 = .ok (.iload_n 0, 1) := by decide +kernel
theorem dX0_boxOfLink_1 : decode cX0_boxOfLink 1 = .ok (.iconst 2, 1) := by decide +kernel
theorem dX0_boxOfLink_2 : decode cX0_boxOfLink 2 = .ok (.idiv, 1) := by decide +kernel
theorem dX0_boxOfLink_3 : decode cX0_boxOfLink 3 = .ok (.ireturn, 1) := by decide +kernel
theorem dX0_sideOfLink_0 : decode cX0_sideOfLink 0 = .ok (.iload_n 0, 1) := by decide +kernel
theorem dX0_sideOfLink_1 : decode cX0_sideOfLink 1 = .ok (.iconst 2, 1) := by decide +kernel
theorem dX0_sideOfLink_2 : decode cX0_sideOfLink 2 = .ok (.irem, 1) := by decide +kernel
theorem dX0_sideOfLink_3 : decode cX0_sideOfLink 3 = .ok (.ifCond .ne 7, 3) := by decide +kernel
theorem dX0_sideOfLink_6 : decode cX0_sideOfLink 6 = .ok (.iconst 0, 1) := by decide +kernel
theorem dX0_sideOfLink_7 : decode cX0_sideOfLink 7 = .ok (.goto 4, 3) := by decide +kernel
theorem dX0_sideOfLink_10 : decode cX0_sideOfLink 10 = .ok (.iconst 2, 1) := by decide +kernel
theorem dX0_sideOfLink_11 : decode cX0_sideOfLink 11 = .ok (.ireturn, 1) := by decide +kernel
theorem dX0_isLink_0 : decode cX0_isLink 0 = .ok (.aload_n 0, 1) := by decide +kernel
theorem dX0_isLink_1 : decode cX0_isLink 1 = .ok (.iload_n 1, 1) := by decide +kernel
theorem dX0_isLink_2 : decode cX0_isLink 2 = .ok (.invokestatic 35, 3) := by decide +kernel
theorem dX0_isLink_5 : decode cX0_isLink 5 = .ok (.iload_n 1, 1) := by decide +kernel
theorem dX0_isLink_6 : decode cX0_isLink 6 = .ok (.invokestatic 38, 3) := by decide +kernel
theorem dX0_isLink_9 : decode cX0_isLink 9 = .ok (.invokevirtual 28, 3) := by decide +kernel
theorem dX0_isLink_12 : decode cX0_isLink 12 = .ok (.iconst (-1), 1) := by decide +kernel
theorem dX0_isLink_13 : decode cX0_isLink 13 = .ok (.if_icmp .eq 7, 3) := by decide +kernel
theorem dX0_isLink_16 : decode cX0_isLink 16 = .ok (.iconst 1, 1) := by decide +kernel
theorem dX0_isLink_17 : decode cX0_isLink 17 = .ok (.goto 4, 3) := by decide +kernel
theorem dX0_isLink_20 : decode cX0_isLink 20 = .ok (.iconst 0, 1) := by decide +kernel
theorem dX0_isLink_21 : decode cX0_isLink 21 = .ok (.ireturn, 1) := by decide +kernel
theorem dX0_isWhole_0 : decode cX0_isWhole 0 = .ok (.aload_n 0, 1) := by decide +kernel
theorem dX0_isWhole_1 : decode cX0_isWhole 1 = .ok (.getfield 18, 3) := by decide +kernel
theorem dX0_isWhole_4 : decode cX0_isWhole 4 = .ok (.iload_n 1, 1) := by decide +kernel
theorem dX0_isWhole_5 : decode cX0_isWhole 5 = .ok (.lushr, 1) := by decide +kernel
theorem dX0_isWhole_6 : decode cX0_isWhole 6 = .ok (.lconst 1, 1) := by decide +kernel
theorem dX0_isWhole_7 : decode cX0_isWhole 7 = .ok (.land, 1) := by decide +kernel
theorem dX0_isWhole_8 : decode cX0_isWhole 8 = .ok (.lconst 0, 1) := by decide +kernel
theorem dX0_isWhole_9 : decode cX0_isWhole 9 = .ok (.lcmp, 1) := by decide +kernel
theorem dX0_isWhole_10 : decode cX0_isWhole 10 = .ok (.ifCond .ne 7, 3) := by decide +kernel
theorem dX0_isWhole_13 : decode cX0_isWhole 13 = .ok (.iconst 1, 1) := by decide +kernel
theorem dX0_isWhole_14 : decode cX0_isWhole 14 = .ok (.goto 4, 3) := by decide +kernel
theorem dX0_isWhole_17 : decode cX0_isWhole 17 = .ok (.iconst 0, 1) := by decide +kernel
theorem dX0_isWhole_18 : decode cX0_isWhole 18 = .ok (.ireturn, 1) := by decide +kernel
theorem dX0_makeWhole_0 : decode cX0_makeWhole 0 = .ok (.lconst 1, 1) := by decide +kernel
theorem dX0_makeWhole_1 : decode cX0_makeWhole 1 = .ok (.iload_n 1, 1) := by decide +kernel
theorem dX0_makeWhole_2 : decode cX0_makeWhole 2 = .ok (.lshl, 1) := by decide +kernel
theorem dX0_makeWhole_3 : decode cX0_makeWhole 3 = .ok (.lstore_n 3, 1) := by decide +kernel
theorem dX0_makeWhole_4 : decode cX0_makeWhole 4 = .ok (.aload_n 0, 1) := by decide +kernel
theorem dX0_makeWhole_5 : decode cX0_makeWhole 5 = .ok (.iload_n 2, 1) := by decide +kernel
theorem dX0_makeWhole_6 : decode cX0_makeWhole 6 = .ok (.ifCond .eq 16, 3) := by decide +kernel
theorem dX0_makeWhole_9 : decode cX0_makeWhole 9 = .ok (.aload_n 0, 1) := by decide +kernel
theorem dX0_makeWhole_10 : decode cX0_makeWhole 10 = .ok (.getfield 18, 3) := by decide +kernel
theorem dX0_makeWhole_13 : decode cX0_makeWhole 13 = .ok (.lload_n 3, 1) := by decide +kernel
theorem dX0_makeWhole_14 : decode cX0_makeWhole 14 = .ok (.ldc2_w 41, 3) := by decide +kernel
theorem dX0_makeWhole_17 : decode cX0_makeWhole 17 = .ok (.lxor, 1) := by decide +kernel
theorem dX0_makeWhole_18 : decode cX0_makeWhole 18 = .ok (.land, 1) := by decide +kernel
theorem dX0_makeWhole_19 : decode cX0_makeWhole 19 = .ok (.goto 9, 3) := by decide +kernel
theorem dX0_makeWhole_22 : decode cX0_makeWhole 22 = .ok (.aload_n 0, 1) := by decide +kernel
theorem dX0_makeWhole_23 : decode cX0_makeWhole 23 = .ok (.getfield 18, 3) := by decide +kernel
theorem dX0_makeWhole_26 : decode cX0_makeWhole 26 = .ok (.lload_n 3, 1) := by decide +kernel
theorem dX0_makeWhole_27 : decode cX0_makeWhole 27 = .ok (.lor, 1) := by decide +kernel
theorem dX0_makeWhole_28 : decode cX0_makeWhole 28 = .ok (.putfield 18, 3) := by decide +kernel
theorem dX0_makeWhole_31 : decode cX0_makeWhole 31 = .ok (.return_, 1) := by decide +kernel
theorem dX0_brokenLinks_0 : decode cX0_brokenLinks 0 = .ok (.aload_n 0, 1) := by decide +kernel
theorem dX0_brokenLinks_1 : decode cX0_brokenLinks 1 = .ok (.getfield 18, 3) := by decide +kernel
theorem dX0_brokenLinks_4 : decode cX0_brokenLinks 4 = .ok (.invokestatic 43, 3) := by decide +kernel
theorem dX0_brokenLinks_7 : decode cX0_brokenLinks 7 = .ok (.ireturn, 1) := by decide +kernel
theorem dX1_init_0 : decode cX1_init 0 = .ok (.aload_n 0, 1) := by decide +kernel
theorem dX1_init_1 : decode cX1_init 1 = .ok (.invokespecial 3, 3) := by decide +kernel
theorem dX1_init_4 : decode cX1_init 4 = .ok (.aload_n 0, 1) := by decide +kernel
theorem dX1_init_5 : decode cX1_init 5 = .ok (.bipush 40, 2) := by decide +kernel
theorem dX1_init_7 : decode cX1_init 7 = .ok (.newarray .boolean, 2) := by decide +kernel
theorem dX1_init_9 : decode cX1_init 9 = .ok (.putfield 9, 3) := by decide +kernel
theorem dX1_init_12 : decode cX1_init 12 = .ok (.return_, 1) := by decide +kernel
theorem dX1_holds_0 : decode cX1_holds 0 = .ok (.aload_n 0, 1) := by decide +kernel
theorem dX1_holds_1 : decode cX1_holds 1 = .ok (.aload_n 1, 1) := by decide +kernel
theorem dX1_holds_2 : decode cX1_holds 2 = .ok (.aload_n 2, 1) := by decide +kernel
theorem dX1_holds_3 : decode cX1_holds 3 = .ok (.invokevirtual 15, 3) := by decide +kernel
theorem dX1_holds_6 : decode cX1_holds 6 = .ok (.aload_n 1, 1) := by decide +kernel
theorem dX1_holds_7 : decode cX1_holds 7 = .ok (.getfield 19, 3) := by decide +kernel
theorem dX1_holds_10 : decode cX1_holds 10 = .ok (.iload_n 3, 1) := by decide +kernel
theorem dX1_holds_11 : decode cX1_holds 11 = .ok (.invokevirtual 25, 3) := by decide +kernel
theorem dX1_holds_14 : decode cX1_holds 14 = .ok (.ifCond .eq 16, 3) := by decide +kernel
theorem dX1_holds_17 : decode cX1_holds 17 = .ok (.aload_n 0, 1) := by decide +kernel
theorem dX1_holds_18 : decode cX1_holds 18 = .ok (.getfield 9, 3) := by decide +kernel
theorem dX1_holds_21 : decode cX1_holds 21 = .ok (.iload_n 3, 1) := by decide +kernel
theorem dX1_holds_22 : decode cX1_holds 22 = .ok (.baload, 1) := by decide +kernel
theorem dX1_holds_23 : decode cX1_holds 23 = .ok (.ifCond .eq 7, 3) := by decide +kernel
theorem dX1_holds_26 : decode cX1_holds 26 = .ok (.iconst 1, 1) := by decide +kernel
theorem dX1_holds_27 : decode cX1_holds 27 = .ok (.goto 4, 3) := by decide +kernel
theorem dX1_holds_30 : decode cX1_holds 30 = .ok (.iconst 0, 1) := by decide +kernel
theorem dX1_holds_31 : decode cX1_holds 31 = .ok (.ireturn, 1) := by decide +kernel
theorem dX1_size_0 : decode cX1_size 0 = .ok (.aload_n 0, 1) := by decide +kernel
theorem dX1_size_1 : decode cX1_size 1 = .ok (.aload_n 1, 1) := by decide +kernel
theorem dX1_size_2 : decode cX1_size 2 = .ok (.aload_n 2, 1) := by decide +kernel
theorem dX1_size_3 : decode cX1_size 3 = .ok (.invokevirtual 15, 3) := by decide +kernel
theorem dX1_size_6 : decode cX1_size 6 = .ok (.iconst 0, 1) := by decide +kernel
theorem dX1_size_7 : decode cX1_size 7 = .ok (.istore_n 3, 1) := by decide +kernel
theorem dX1_size_8 : decode cX1_size 8 = .ok (.iconst 0, 1) := by decide +kernel
theorem dX1_size_9 : decode cX1_size 9 = .ok (.istore 4, 2) := by decide +kernel
theorem dX1_size_11 : decode cX1_size 11 = .ok (.iload 4, 2) := by decide +kernel
theorem dX1_size_13 : decode cX1_size 13 = .ok (.aload_n 1, 1) := by decide +kernel
theorem dX1_size_14 : decode cX1_size 14 = .ok (.getfield 19, 3) := by decide +kernel
theorem dX1_size_17 : decode cX1_size 17 = .ok (.getfield 31, 3) := by decide +kernel
theorem dX1_size_20 : decode cX1_size 20 = .ok (.if_icmp .ge 22, 3) := by decide +kernel
theorem dX1_size_23 : decode cX1_size 23 = .ok (.aload_n 0, 1) := by decide +kernel
theorem dX1_size_24 : decode cX1_size 24 = .ok (.getfield 9, 3) := by decide +kernel
theorem dX1_size_27 : decode cX1_size 27 = .ok (.iload 4, 2) := by decide +kernel
theorem dX1_size_29 : decode cX1_size 29 = .ok (.baload, 1) := by decide +kernel
theorem dX1_size_30 : decode cX1_size 30 = .ok (.ifCond .eq 6, 3) := by decide +kernel
theorem dX1_size_33 : decode cX1_size 33 = .ok (.iinc 3 1, 3) := by decide +kernel
theorem dX1_size_36 : decode cX1_size 36 = .ok (.iinc 4 1, 3) := by decide +kernel
theorem dX1_size_39 : decode cX1_size 39 = .ok (.goto (-28), 3) := by decide +kernel
theorem dX1_size_42 : decode cX1_size 42 = .ok (.iload_n 3, 1) := by decide +kernel
theorem dX1_size_43 : decode cX1_size 43 = .ok (.ireturn, 1) := by decide +kernel
theorem dX1_find_0 : decode cX1_find 0 = .ok (.aload_n 1, 1) := by decide +kernel
theorem dX1_find_1 : decode cX1_find 1 = .ok (.getfield 19, 3) := by decide +kernel
theorem dX1_find_4 : decode cX1_find 4 = .ok (.getfield 31, 3) := by decide +kernel
theorem dX1_find_7 : decode cX1_find 7 = .ok (.istore_n 3, 1) := by decide +kernel
theorem dX1_find_8 : decode cX1_find 8 = .ok (.iconst 0, 1) := by decide +kernel
theorem dX1_find_9 : decode cX1_find 9 = .ok (.istore 4, 2) := by decide +kernel
theorem dX1_find_11 : decode cX1_find 11 = .ok (.iload 4, 2) := by decide +kernel
theorem dX1_find_13 : decode cX1_find 13 = .ok (.iload_n 3, 1) := by decide +kernel
theorem dX1_find_14 : decode cX1_find 14 = .ok (.if_icmp .ge 35, 3) := by decide +kernel
theorem dX1_find_17 : decode cX1_find 17 = .ok (.aload_n 0, 1) := by decide +kernel
theorem dX1_find_18 : decode cX1_find 18 = .ok (.getfield 9, 3) := by decide +kernel
theorem dX1_find_21 : decode cX1_find 21 = .ok (.iload 4, 2) := by decide +kernel
theorem dX1_find_23 : decode cX1_find 23 = .ok (.aload_n 1, 1) := by decide +kernel
theorem dX1_find_24 : decode cX1_find 24 = .ok (.getfield 19, 3) := by decide +kernel
theorem dX1_find_27 : decode cX1_find 27 = .ok (.getfield 35, 3) := by decide +kernel
theorem dX1_find_30 : decode cX1_find 30 = .ok (.iload 4, 2) := by decide +kernel
theorem dX1_find_32 : decode cX1_find 32 = .ok (.iaload, 1) := by decide +kernel
theorem dX1_find_33 : decode cX1_find 33 = .ok (.iconst 1, 1) := by decide +kernel
theorem dX1_find_34 : decode cX1_find 34 = .ok (.if_icmp .ne 7, 3) := by decide +kernel
theorem dX1_find_37 : decode cX1_find 37 = .ok (.iconst 1, 1) := by decide +kernel
theorem dX1_find_38 : decode cX1_find 38 = .ok (.goto 4, 3) := by decide +kernel
theorem dX1_find_41 : decode cX1_find 41 = .ok (.iconst 0, 1) := by decide +kernel
theorem dX1_find_42 : decode cX1_find 42 = .ok (.bastore, 1) := by decide +kernel
theorem dX1_find_43 : decode cX1_find 43 = .ok (.iinc 4 1, 3) := by decide +kernel
theorem dX1_find_46 : decode cX1_find 46 = .ok (.goto (-35), 3) := by decide +kernel
theorem dX1_find_49 : decode cX1_find 49 = .ok (.iconst 1, 1) := by decide +kernel
theorem dX1_find_50 : decode cX1_find 50 = .ok (.istore 4, 2) := by decide +kernel
theorem dX1_find_52 : decode cX1_find 52 = .ok (.iconst 0, 1) := by decide +kernel
theorem dX1_find_53 : decode cX1_find 53 = .ok (.istore 5, 2) := by decide +kernel
theorem dX1_find_55 : decode cX1_find 55 = .ok (.iload 5, 2) := by decide +kernel
theorem dX1_find_57 : decode cX1_find 57 = .ok (.bipush 40, 2) := by decide +kernel
theorem dX1_find_59 : decode cX1_find 59 = .ok (.if_icmp .gt 64, 3) := by decide +kernel
theorem dX1_find_62 : decode cX1_find 62 = .ok (.iload 4, 2) := by decide +kernel
theorem dX1_find_64 : decode cX1_find 64 = .ok (.ifCond .eq 59, 3) := by decide +kernel
theorem dX1_find_67 : decode cX1_find 67 = .ok (.iconst 0, 1) := by decide +kernel
theorem dX1_find_68 : decode cX1_find 68 = .ok (.istore 4, 2) := by decide +kernel
theorem dX1_find_70 : decode cX1_find 70 = .ok (.iconst 0, 1) := by decide +kernel
theorem dX1_find_71 : decode cX1_find 71 = .ok (.istore 6, 2) := by decide +kernel
theorem dX1_find_73 : decode cX1_find 73 = .ok (.iload 6, 2) := by decide +kernel
theorem dX1_find_75 : decode cX1_find 75 = .ok (.iload_n 3, 1) := by decide +kernel
theorem dX1_find_76 : decode cX1_find 76 = .ok (.if_icmp .ge 41, 3) := by decide +kernel
theorem dX1_find_79 : decode cX1_find 79 = .ok (.aload_n 0, 1) := by decide +kernel
theorem dX1_find_80 : decode cX1_find 80 = .ok (.getfield 9, 3) := by decide +kernel
theorem dX1_find_83 : decode cX1_find 83 = .ok (.iload 6, 2) := by decide +kernel
theorem dX1_find_85 : decode cX1_find 85 = .ok (.baload, 1) := by decide +kernel
theorem dX1_find_86 : decode cX1_find 86 = .ok (.ifCond .eq 25, 3) := by decide +kernel
theorem dX1_find_89 : decode cX1_find 89 = .ok (.aload_n 0, 1) := by decide +kernel
theorem dX1_find_90 : decode cX1_find 90 = .ok (.aload_n 1, 1) := by decide +kernel
theorem dX1_find_91 : decode cX1_find 91 = .ok (.aload_n 2, 1) := by decide +kernel
theorem dX1_find_92 : decode cX1_find 92 = .ok (.iload 6, 2) := by decide +kernel
theorem dX1_find_94 : decode cX1_find 94 = .ok (.invokevirtual 39, 3) := by decide +kernel
theorem dX1_find_97 : decode cX1_find 97 = .ok (.ifCond .eq 14, 3) := by decide +kernel
theorem dX1_find_100 : decode cX1_find 100 = .ok (.aload_n 0, 1) := by decide +kernel
theorem dX1_find_101 : decode cX1_find 101 = .ok (.getfield 9, 3) := by decide +kernel
theorem dX1_find_104 : decode cX1_find 104 = .ok (.iload 6, 2) := by decide +kernel
theorem dX1_find_106 : decode cX1_find 106 = .ok (.iconst 0, 1) := by decide +kernel
theorem dX1_find_107 : decode cX1_find 107 = .ok (.bastore, 1) := by decide +kernel
theorem dX1_find_108 : decode cX1_find 108 = .ok (.iconst 1, 1) := by decide +kernel
theorem dX1_find_109 : decode cX1_find 109 = .ok (.istore 4, 2) := by decide +kernel
theorem dX1_find_111 : decode cX1_find 111 = .ok (.iinc 6 1, 3) := by decide +kernel
theorem dX1_find_114 : decode cX1_find 114 = .ok (.goto (-41), 3) := by decide +kernel
theorem dX1_find_117 : decode cX1_find 117 = .ok (.iinc 5 1, 3) := by decide +kernel
theorem dX1_find_120 : decode cX1_find 120 = .ok (.goto (-65), 3) := by decide +kernel
theorem dX1_find_123 : decode cX1_find 123 = .ok (.return_, 1) := by decide +kernel
theorem dX1_canGoOn_0 : decode cX1_canGoOn 0 = .ok (.iconst 0, 1) := by decide +kernel
theorem dX1_canGoOn_1 : decode cX1_canGoOn 1 = .ok (.istore 4, 2) := by decide +kernel
theorem dX1_canGoOn_3 : decode cX1_canGoOn 3 = .ok (.iload 4, 2) := by decide +kernel
theorem dX1_canGoOn_5 : decode cX1_canGoOn 5 = .ok (.iconst 4, 1) := by decide +kernel
theorem dX1_canGoOn_6 : decode cX1_canGoOn 6 = .ok (.if_icmp .ge 62, 3) := by decide +kernel
theorem dX1_canGoOn_9 : decode cX1_canGoOn 9 = .ok (.aload_n 1, 1) := by decide +kernel
theorem dX1_canGoOn_10 : decode cX1_canGoOn 10 = .ok (.aload_n 2, 1) := by decide +kernel
theorem dX1_canGoOn_11 : decode cX1_canGoOn 11 = .ok (.iload_n 3, 1) := by decide +kernel
theorem dX1_canGoOn_12 : decode cX1_canGoOn 12 = .ok (.iload 4, 2) := by decide +kernel
theorem dX1_canGoOn_14 : decode cX1_canGoOn 14 = .ok (.invokevirtual 43, 3) := by decide +kernel
theorem dX1_canGoOn_17 : decode cX1_canGoOn 17 = .ok (.ifCond .eq 45, 3) := by decide +kernel
theorem dX1_canGoOn_20 : decode cX1_canGoOn 20 = .ok (.aload_n 2, 1) := by decide +kernel
theorem dX1_canGoOn_21 : decode cX1_canGoOn 21 = .ok (.aload_n 1, 1) := by decide +kernel
theorem dX1_canGoOn_22 : decode cX1_canGoOn 22 = .ok (.getfield 19, 3) := by decide +kernel
theorem dX1_canGoOn_25 : decode cX1_canGoOn 25 = .ok (.getfield 47, 3) := by decide +kernel
theorem dX1_canGoOn_28 : decode cX1_canGoOn 28 = .ok (.iload_n 3, 1) := by decide +kernel
theorem dX1_canGoOn_29 : decode cX1_canGoOn 29 = .ok (.iaload, 1) := by decide +kernel
theorem dX1_canGoOn_30 : decode cX1_canGoOn 30 = .ok (.iload 4, 2) := by decide +kernel
theorem dX1_canGoOn_32 : decode cX1_canGoOn 32 = .ok (.invokevirtual 50, 3) := by decide +kernel
theorem dX1_canGoOn_35 : decode cX1_canGoOn 35 = .ok (.istore 5, 2) := by decide +kernel
theorem dX1_canGoOn_37 : decode cX1_canGoOn 37 = .ok (.aload_n 1, 1) := by decide +kernel
theorem dX1_canGoOn_38 : decode cX1_canGoOn 38 = .ok (.iload_n 3, 1) := by decide +kernel
theorem dX1_canGoOn_39 : decode cX1_canGoOn 39 = .ok (.iload 5, 2) := by decide +kernel
theorem dX1_canGoOn_41 : decode cX1_canGoOn 41 = .ok (.invokevirtual 56, 3) := by decide +kernel
theorem dX1_canGoOn_44 : decode cX1_canGoOn 44 = .ok (.ifCond .ne 16, 3) := by decide +kernel
theorem dX1_canGoOn_47 : decode cX1_canGoOn 47 = .ok (.aload_n 0, 1) := by decide +kernel
theorem dX1_canGoOn_48 : decode cX1_canGoOn 48 = .ok (.aload_n 1, 1) := by decide +kernel
theorem dX1_canGoOn_49 : decode cX1_canGoOn 49 = .ok (.getfield 19, 3) := by decide +kernel
theorem dX1_canGoOn_52 : decode cX1_canGoOn 52 = .ok (.iload 5, 2) := by decide +kernel
theorem dX1_canGoOn_54 : decode cX1_canGoOn 54 = .ok (.invokevirtual 60, 3) := by decide +kernel
theorem dX1_canGoOn_57 : decode cX1_canGoOn 57 = .ok (.ifCond .eq 5, 3) := by decide +kernel
theorem dX1_canGoOn_60 : decode cX1_canGoOn 60 = .ok (.iconst 1, 1) := by decide +kernel
theorem dX1_canGoOn_61 : decode cX1_canGoOn 61 = .ok (.ireturn, 1) := by decide +kernel
theorem dX1_canGoOn_62 : decode cX1_canGoOn 62 = .ok (.iinc 4 1, 3) := by decide +kernel
theorem dX1_canGoOn_65 : decode cX1_canGoOn 65 = .ok (.goto (-62), 3) := by decide +kernel
theorem dX1_canGoOn_68 : decode cX1_canGoOn 68 = .ok (.iconst 0, 1) := by decide +kernel
theorem dX1_canGoOn_69 : decode cX1_canGoOn 69 = .ok (.ireturn, 1) := by decide +kernel
theorem dX1_hasFreePacket_0 : decode cX1_hasFreePacket 0 = .ok (.iconst 0, 1) := by decide +kernel
theorem dX1_hasFreePacket_1 : decode cX1_hasFreePacket 1 = .ok (.istore_n 3, 1) := by decide +kernel
theorem dX1_hasFreePacket_2 : decode cX1_hasFreePacket 2 = .ok (.iload_n 3, 1) := by decide +kernel
theorem dX1_hasFreePacket_3 : decode cX1_hasFreePacket 3 = .ok (.aload_n 1, 1) := by decide +kernel
theorem dX1_hasFreePacket_4 : decode cX1_hasFreePacket 4 = .ok (.getfield 31, 3) := by decide +kernel
theorem dX1_hasFreePacket_7 : decode cX1_hasFreePacket 7 = .ok (.if_icmp .ge 40, 3) := by decide +kernel
theorem dX1_hasFreePacket_10 : decode cX1_hasFreePacket 10 = .ok (.aload_n 1, 1) := by decide +kernel
theorem dX1_hasFreePacket_11 : decode cX1_hasFreePacket 11 = .ok (.getfield 35, 3) := by decide +kernel
theorem dX1_hasFreePacket_14 : decode cX1_hasFreePacket 14 = .ok (.iload_n 3, 1) := by decide +kernel
theorem dX1_hasFreePacket_15 : decode cX1_hasFreePacket 15 = .ok (.iaload, 1) := by decide +kernel
theorem dX1_hasFreePacket_16 : decode cX1_hasFreePacket 16 = .ok (.iconst 1, 1) := by decide +kernel
theorem dX1_hasFreePacket_17 : decode cX1_hasFreePacket 17 = .ok (.if_icmp .ne 24, 3) := by decide +kernel
theorem dX1_hasFreePacket_20 : decode cX1_hasFreePacket 20 = .ok (.aload_n 1, 1) := by decide +kernel
theorem dX1_hasFreePacket_21 : decode cX1_hasFreePacket 21 = .ok (.getfield 47, 3) := by decide +kernel
theorem dX1_hasFreePacket_24 : decode cX1_hasFreePacket 24 = .ok (.iload_n 3, 1) := by decide +kernel
theorem dX1_hasFreePacket_25 : decode cX1_hasFreePacket 25 = .ok (.iaload, 1) := by decide +kernel
theorem dX1_hasFreePacket_26 : decode cX1_hasFreePacket 26 = .ok (.iload_n 2, 1) := by decide +kernel
theorem dX1_hasFreePacket_27 : decode cX1_hasFreePacket 27 = .ok (.if_icmp .ne 14, 3) := by decide +kernel
theorem dX1_hasFreePacket_30 : decode cX1_hasFreePacket 30 = .ok (.aload_n 0, 1) := by decide +kernel
theorem dX1_hasFreePacket_31 : decode cX1_hasFreePacket 31 = .ok (.getfield 9, 3) := by decide +kernel
theorem dX1_hasFreePacket_34 : decode cX1_hasFreePacket 34 = .ok (.iload_n 3, 1) := by decide +kernel
theorem dX1_hasFreePacket_35 : decode cX1_hasFreePacket 35 = .ok (.baload, 1) := by decide +kernel
theorem dX1_hasFreePacket_36 : decode cX1_hasFreePacket 36 = .ok (.ifCond .ne 5, 3) := by decide +kernel
theorem dX1_hasFreePacket_39 : decode cX1_hasFreePacket 39 = .ok (.iconst 1, 1) := by decide +kernel
theorem dX1_hasFreePacket_40 : decode cX1_hasFreePacket 40 = .ok (.ireturn, 1) := by decide +kernel
theorem dX1_hasFreePacket_41 : decode cX1_hasFreePacket 41 = .ok (.iinc 3 1, 3) := by decide +kernel
theorem dX1_hasFreePacket_44 : decode cX1_hasFreePacket 44 = .ok (.goto (-42), 3) := by decide +kernel
theorem dX1_hasFreePacket_47 : decode cX1_hasFreePacket 47 = .ok (.iconst 0, 1) := by decide +kernel
theorem dX1_hasFreePacket_48 : decode cX1_hasFreePacket 48 = .ok (.ireturn, 1) := by decide +kernel
theorem dX2_init_0 : decode cX2_init 0 = .ok (.aload_n 0, 1) := by decide +kernel
theorem dX2_init_1 : decode cX2_init 1 = .ok (.invokespecial 3, 3) := by decide +kernel
theorem dX2_init_4 : decode cX2_init 4 = .ok (.aload_n 0, 1) := by decide +kernel
theorem dX2_init_5 : decode cX2_init 5 = .ok (.iconst 0, 1) := by decide +kernel
theorem dX2_init_6 : decode cX2_init 6 = .ok (.putfield 9, 3) := by decide +kernel
theorem dX2_init_9 : decode cX2_init 9 = .ok (.aload_n 0, 1) := by decide +kernel
theorem dX2_init_10 : decode cX2_init 10 = .ok (.bipush 40, 2) := by decide +kernel
theorem dX2_init_12 : decode cX2_init 12 = .ok (.newarray .int, 2) := by decide +kernel
theorem dX2_init_14 : decode cX2_init 14 = .ok (.putfield 15, 3) := by decide +kernel
theorem dX2_init_17 : decode cX2_init 17 = .ok (.aload_n 0, 1) := by decide +kernel
theorem dX2_init_18 : decode cX2_init 18 = .ok (.bipush 40, 2) := by decide +kernel
theorem dX2_init_20 : decode cX2_init 20 = .ok (.newarray .int, 2) := by decide +kernel
theorem dX2_init_22 : decode cX2_init 22 = .ok (.putfield 19, 3) := by decide +kernel
theorem dX2_init_25 : decode cX2_init 25 = .ok (.aload_n 0, 1) := by decide +kernel
theorem dX2_init_26 : decode cX2_init 26 = .ok (.bipush 40, 2) := by decide +kernel
theorem dX2_init_28 : decode cX2_init 28 = .ok (.newarray .int, 2) := by decide +kernel
theorem dX2_init_30 : decode cX2_init 30 = .ok (.putfield 22, 3) := by decide +kernel
theorem dX2_init_33 : decode cX2_init 33 = .ok (.aload_n 0, 1) := by decide +kernel
theorem dX2_init_34 : decode cX2_init 34 = .ok (.bipush 40, 2) := by decide +kernel
theorem dX2_init_36 : decode cX2_init 36 = .ok (.newarray .int, 2) := by decide +kernel
theorem dX2_init_38 : decode cX2_init 38 = .ok (.putfield 25, 3) := by decide +kernel
theorem dX2_init_41 : decode cX2_init 41 = .ok (.aload_n 0, 1) := by decide +kernel
theorem dX2_init_42 : decode cX2_init 42 = .ok (.bipush 40, 2) := by decide +kernel
theorem dX2_init_44 : decode cX2_init 44 = .ok (.newarray .int, 2) := by decide +kernel
theorem dX2_init_46 : decode cX2_init 46 = .ok (.putfield 28, 3) := by decide +kernel
theorem dX2_init_49 : decode cX2_init 49 = .ok (.aload_n 0, 1) := by decide +kernel
theorem dX2_init_50 : decode cX2_init 50 = .ok (.bipush 40, 2) := by decide +kernel
theorem dX2_init_52 : decode cX2_init 52 = .ok (.newarray .int, 2) := by decide +kernel
theorem dX2_init_54 : decode cX2_init 54 = .ok (.putfield 31, 3) := by decide +kernel
theorem dX2_init_57 : decode cX2_init 57 = .ok (.aload_n 0, 1) := by decide +kernel
theorem dX2_init_58 : decode cX2_init 58 = .ok (.bipush 40, 2) := by decide +kernel
theorem dX2_init_60 : decode cX2_init 60 = .ok (.newarray .int, 2) := by decide +kernel
theorem dX2_init_62 : decode cX2_init 62 = .ok (.putfield 34, 3) := by decide +kernel
theorem dX2_init_65 : decode cX2_init 65 = .ok (.aload_n 0, 1) := by decide +kernel
theorem dX2_init_66 : decode cX2_init 66 = .ok (.bipush 40, 2) := by decide +kernel
theorem dX2_init_68 : decode cX2_init 68 = .ok (.newarray .int, 2) := by decide +kernel
theorem dX2_init_70 : decode cX2_init 70 = .ok (.putfield 37, 3) := by decide +kernel
theorem dX2_init_73 : decode cX2_init 73 = .ok (.aload_n 0, 1) := by decide +kernel
theorem dX2_init_74 : decode cX2_init 74 = .ok (.bipush 40, 2) := by decide +kernel
theorem dX2_init_76 : decode cX2_init 76 = .ok (.newarray .int, 2) := by decide +kernel
theorem dX2_init_78 : decode cX2_init 78 = .ok (.putfield 40, 3) := by decide +kernel
theorem dX2_init_81 : decode cX2_init 81 = .ok (.aload_n 0, 1) := by decide +kernel
theorem dX2_init_82 : decode cX2_init 82 = .ok (.bipush 40, 2) := by decide +kernel
theorem dX2_init_84 : decode cX2_init 84 = .ok (.newarray .int, 2) := by decide +kernel
theorem dX2_init_86 : decode cX2_init 86 = .ok (.putfield 43, 3) := by decide +kernel
theorem dX2_init_89 : decode cX2_init 89 = .ok (.return_, 1) := by decide +kernel
theorem dX2_copyPackets_0 : decode cX2_copyPackets 0 = .ok (.aload_n 0, 1) := by decide +kernel
theorem dX2_copyPackets_1 : decode cX2_copyPackets 1 = .ok (.aload_n 1, 1) := by decide +kernel
theorem dX2_copyPackets_2 : decode cX2_copyPackets 2 = .ok (.getfield 9, 3) := by decide +kernel
theorem dX2_copyPackets_5 : decode cX2_copyPackets 5 = .ok (.putfield 9, 3) := by decide +kernel
theorem dX2_copyPackets_8 : decode cX2_copyPackets 8 = .ok (.aload_n 1, 1) := by decide +kernel
theorem dX2_copyPackets_9 : decode cX2_copyPackets 9 = .ok (.getfield 15, 3) := by decide +kernel
theorem dX2_copyPackets_12 : decode cX2_copyPackets 12 = .ok (.iconst 0, 1) := by decide +kernel
theorem dX2_copyPackets_13 : decode cX2_copyPackets 13 = .ok (.aload_n 0, 1) := by decide +kernel
theorem dX2_copyPackets_14 : decode cX2_copyPackets 14 = .ok (.getfield 15, 3) := by decide +kernel
theorem dX2_copyPackets_17 : decode cX2_copyPackets 17 = .ok (.iconst 0, 1) := by decide +kernel
theorem dX2_copyPackets_18 : decode cX2_copyPackets 18 = .ok (.bipush 40, 2) := by decide +kernel
theorem dX2_copyPackets_20 : decode cX2_copyPackets 20 = .ok (.invokestatic 46, 3) := by decide +kernel
theorem dX2_copyPackets_23 : decode cX2_copyPackets 23 = .ok (.aload_n 1, 1) := by decide +kernel
theorem dX2_copyPackets_24 : decode cX2_copyPackets 24 = .ok (.getfield 19, 3) := by decide +kernel
theorem dX2_copyPackets_27 : decode cX2_copyPackets 27 = .ok (.iconst 0, 1) := by decide +kernel
theorem dX2_copyPackets_28 : decode cX2_copyPackets 28 = .ok (.aload_n 0, 1) := by decide +kernel
theorem dX2_copyPackets_29 : decode cX2_copyPackets 29 = .ok (.getfield 19, 3) := by decide +kernel
theorem dX2_copyPackets_32 : decode cX2_copyPackets 32 = .ok (.iconst 0, 1) := by decide +kernel
theorem dX2_copyPackets_33 : decode cX2_copyPackets 33 = .ok (.bipush 40, 2) := by decide +kernel
theorem dX2_copyPackets_35 : decode cX2_copyPackets 35 = .ok (.invokestatic 46, 3) := by decide +kernel
theorem dX2_copyPackets_38 : decode cX2_copyPackets 38 = .ok (.aload_n 1, 1) := by decide +kernel
theorem dX2_copyPackets_39 : decode cX2_copyPackets 39 = .ok (.getfield 22, 3) := by decide +kernel
theorem dX2_copyPackets_42 : decode cX2_copyPackets 42 = .ok (.iconst 0, 1) := by decide +kernel
theorem dX2_copyPackets_43 : decode cX2_copyPackets 43 = .ok (.aload_n 0, 1) := by decide +kernel
theorem dX2_copyPackets_44 : decode cX2_copyPackets 44 = .ok (.getfield 22, 3) := by decide +kernel
theorem dX2_copyPackets_47 : decode cX2_copyPackets 47 = .ok (.iconst 0, 1) := by decide +kernel
theorem dX2_copyPackets_48 : decode cX2_copyPackets 48 = .ok (.bipush 40, 2) := by decide +kernel
theorem dX2_copyPackets_50 : decode cX2_copyPackets 50 = .ok (.invokestatic 46, 3) := by decide +kernel
theorem dX2_copyPackets_53 : decode cX2_copyPackets 53 = .ok (.aload_n 1, 1) := by decide +kernel
theorem dX2_copyPackets_54 : decode cX2_copyPackets 54 = .ok (.getfield 25, 3) := by decide +kernel
theorem dX2_copyPackets_57 : decode cX2_copyPackets 57 = .ok (.iconst 0, 1) := by decide +kernel
theorem dX2_copyPackets_58 : decode cX2_copyPackets 58 = .ok (.aload_n 0, 1) := by decide +kernel
theorem dX2_copyPackets_59 : decode cX2_copyPackets 59 = .ok (.getfield 25, 3) := by decide +kernel
theorem dX2_copyPackets_62 : decode cX2_copyPackets 62 = .ok (.iconst 0, 1) := by decide +kernel
theorem dX2_copyPackets_63 : decode cX2_copyPackets 63 = .ok (.bipush 40, 2) := by decide +kernel
theorem dX2_copyPackets_65 : decode cX2_copyPackets 65 = .ok (.invokestatic 46, 3) := by decide +kernel
theorem dX2_copyPackets_68 : decode cX2_copyPackets 68 = .ok (.aload_n 1, 1) := by decide +kernel
theorem dX2_copyPackets_69 : decode cX2_copyPackets 69 = .ok (.getfield 28, 3) := by decide +kernel
theorem dX2_copyPackets_72 : decode cX2_copyPackets 72 = .ok (.iconst 0, 1) := by decide +kernel
theorem dX2_copyPackets_73 : decode cX2_copyPackets 73 = .ok (.aload_n 0, 1) := by decide +kernel
theorem dX2_copyPackets_74 : decode cX2_copyPackets 74 = .ok (.getfield 28, 3) := by decide +kernel
theorem dX2_copyPackets_77 : decode cX2_copyPackets 77 = .ok (.iconst 0, 1) := by decide +kernel
theorem dX2_copyPackets_78 : decode cX2_copyPackets 78 = .ok (.bipush 40, 2) := by decide +kernel
theorem dX2_copyPackets_80 : decode cX2_copyPackets 80 = .ok (.invokestatic 46, 3) := by decide +kernel
theorem dX2_copyPackets_83 : decode cX2_copyPackets 83 = .ok (.aload_n 1, 1) := by decide +kernel
theorem dX2_copyPackets_84 : decode cX2_copyPackets 84 = .ok (.getfield 31, 3) := by decide +kernel
theorem dX2_copyPackets_87 : decode cX2_copyPackets 87 = .ok (.iconst 0, 1) := by decide +kernel
theorem dX2_copyPackets_88 : decode cX2_copyPackets 88 = .ok (.aload_n 0, 1) := by decide +kernel
theorem dX2_copyPackets_89 : decode cX2_copyPackets 89 = .ok (.getfield 31, 3) := by decide +kernel
theorem dX2_copyPackets_92 : decode cX2_copyPackets 92 = .ok (.iconst 0, 1) := by decide +kernel
theorem dX2_copyPackets_93 : decode cX2_copyPackets 93 = .ok (.bipush 40, 2) := by decide +kernel
theorem dX2_copyPackets_95 : decode cX2_copyPackets 95 = .ok (.invokestatic 46, 3) := by decide +kernel
theorem dX2_copyPackets_98 : decode cX2_copyPackets 98 = .ok (.aload_n 1, 1) := by decide +kernel
theorem dX2_copyPackets_99 : decode cX2_copyPackets 99 = .ok (.getfield 34, 3) := by decide +kernel
theorem dX2_copyPackets_102 : decode cX2_copyPackets 102 = .ok (.iconst 0, 1) := by decide +kernel
theorem dX2_copyPackets_103 : decode cX2_copyPackets 103 = .ok (.aload_n 0, 1) := by decide +kernel
theorem dX2_copyPackets_104 : decode cX2_copyPackets 104 = .ok (.getfield 34, 3) := by decide +kernel
theorem dX2_copyPackets_107 : decode cX2_copyPackets 107 = .ok (.iconst 0, 1) := by decide +kernel
theorem dX2_copyPackets_108 : decode cX2_copyPackets 108 = .ok (.bipush 40, 2) := by decide +kernel
theorem dX2_copyPackets_110 : decode cX2_copyPackets 110 = .ok (.invokestatic 46, 3) := by decide +kernel
theorem dX2_copyPackets_113 : decode cX2_copyPackets 113 = .ok (.aload_n 1, 1) := by decide +kernel
theorem dX2_copyPackets_114 : decode cX2_copyPackets 114 = .ok (.getfield 37, 3) := by decide +kernel
theorem dX2_copyPackets_117 : decode cX2_copyPackets 117 = .ok (.iconst 0, 1) := by decide +kernel
theorem dX2_copyPackets_118 : decode cX2_copyPackets 118 = .ok (.aload_n 0, 1) := by decide +kernel
theorem dX2_copyPackets_119 : decode cX2_copyPackets 119 = .ok (.getfield 37, 3) := by decide +kernel
theorem dX2_copyPackets_122 : decode cX2_copyPackets 122 = .ok (.iconst 0, 1) := by decide +kernel
theorem dX2_copyPackets_123 : decode cX2_copyPackets 123 = .ok (.bipush 40, 2) := by decide +kernel
theorem dX2_copyPackets_125 : decode cX2_copyPackets 125 = .ok (.invokestatic 46, 3) := by decide +kernel
theorem dX2_copyPackets_128 : decode cX2_copyPackets 128 = .ok (.aload_n 1, 1) := by decide +kernel
theorem dX2_copyPackets_129 : decode cX2_copyPackets 129 = .ok (.getfield 40, 3) := by decide +kernel
theorem dX2_copyPackets_132 : decode cX2_copyPackets 132 = .ok (.iconst 0, 1) := by decide +kernel
theorem dX2_copyPackets_133 : decode cX2_copyPackets 133 = .ok (.aload_n 0, 1) := by decide +kernel
theorem dX2_copyPackets_134 : decode cX2_copyPackets 134 = .ok (.getfield 40, 3) := by decide +kernel
theorem dX2_copyPackets_137 : decode cX2_copyPackets 137 = .ok (.iconst 0, 1) := by decide +kernel
theorem dX2_copyPackets_138 : decode cX2_copyPackets 138 = .ok (.bipush 40, 2) := by decide +kernel
theorem dX2_copyPackets_140 : decode cX2_copyPackets 140 = .ok (.invokestatic 46, 3) := by decide +kernel
theorem dX2_copyPackets_143 : decode cX2_copyPackets 143 = .ok (.aload_n 1, 1) := by decide +kernel
theorem dX2_copyPackets_144 : decode cX2_copyPackets 144 = .ok (.getfield 43, 3) := by decide +kernel
theorem dX2_copyPackets_147 : decode cX2_copyPackets 147 = .ok (.iconst 0, 1) := by decide +kernel
theorem dX2_copyPackets_148 : decode cX2_copyPackets 148 = .ok (.aload_n 0, 1) := by decide +kernel
theorem dX2_copyPackets_149 : decode cX2_copyPackets 149 = .ok (.getfield 43, 3) := by decide +kernel
theorem dX2_copyPackets_152 : decode cX2_copyPackets 152 = .ok (.iconst 0, 1) := by decide +kernel
theorem dX2_copyPackets_153 : decode cX2_copyPackets 153 = .ok (.bipush 40, 2) := by decide +kernel
theorem dX2_copyPackets_155 : decode cX2_copyPackets 155 = .ok (.invokestatic 46, 3) := by decide +kernel
theorem dX2_copyPackets_158 : decode cX2_copyPackets 158 = .ok (.return_, 1) := by decide +kernel
theorem dX2_has_0 : decode cX2_has 0 = .ok (.iload_n 1, 1) := by decide +kernel
theorem dX2_has_1 : decode cX2_has 1 = .ok (.ifCond .lt 15, 3) := by decide +kernel
theorem dX2_has_4 : decode cX2_has 4 = .ok (.iload_n 1, 1) := by decide +kernel
theorem dX2_has_5 : decode cX2_has 5 = .ok (.aload_n 0, 1) := by decide +kernel
theorem dX2_has_6 : decode cX2_has 6 = .ok (.getfield 9, 3) := by decide +kernel
theorem dX2_has_9 : decode cX2_has 9 = .ok (.if_icmp .ge 7, 3) := by decide +kernel
theorem dX2_has_12 : decode cX2_has 12 = .ok (.iconst 1, 1) := by decide +kernel
theorem dX2_has_13 : decode cX2_has 13 = .ok (.goto 4, 3) := by decide +kernel
theorem dX2_has_16 : decode cX2_has 16 = .ok (.iconst 0, 1) := by decide +kernel
theorem dX2_has_17 : decode cX2_has 17 = .ok (.ireturn, 1) := by decide +kernel
theorem dX2_add_0 : decode cX2_add 0 = .ok (.aload_n 0, 1) := by decide +kernel
theorem dX2_add_1 : decode cX2_add 1 = .ok (.getfield 9, 3) := by decide +kernel
theorem dX2_add_4 : decode cX2_add 4 = .ok (.istore 4, 2) := by decide +kernel
theorem dX2_add_6 : decode cX2_add 6 = .ok (.iload 4, 2) := by decide +kernel
theorem dX2_add_8 : decode cX2_add 8 = .ok (.bipush 40, 2) := by decide +kernel
theorem dX2_add_10 : decode cX2_add 10 = .ok (.if_icmp .lt 6, 3) := by decide +kernel
theorem dX2_add_13 : decode cX2_add 13 = .ok (.bipush (-4), 2) := by decide +kernel
theorem dX2_add_15 : decode cX2_add 15 = .ok (.ireturn, 1) := by decide +kernel
theorem dX2_add_16 : decode cX2_add 16 = .ok (.aload_n 0, 1) := by decide +kernel
theorem dX2_add_17 : decode cX2_add 17 = .ok (.getfield 15, 3) := by decide +kernel
theorem dX2_add_20 : decode cX2_add 20 = .ok (.iload 4, 2) := by decide +kernel
theorem dX2_add_22 : decode cX2_add 22 = .ok (.iload_n 1, 1) := by decide +kernel
theorem dX2_add_23 : decode cX2_add 23 = .ok (.iastore, 1) := by decide +kernel
theorem dX2_add_24 : decode cX2_add 24 = .ok (.aload_n 0, 1) := by decide +kernel
theorem dX2_add_25 : decode cX2_add 25 = .ok (.getfield 19, 3) := by decide +kernel
theorem dX2_add_28 : decode cX2_add 28 = .ok (.iload 4, 2) := by decide +kernel
theorem dX2_add_30 : decode cX2_add 30 = .ok (.iload_n 2, 1) := by decide +kernel
theorem dX2_add_31 : decode cX2_add 31 = .ok (.iastore, 1) := by decide +kernel
theorem dX2_add_32 : decode cX2_add 32 = .ok (.aload_n 0, 1) := by decide +kernel
theorem dX2_add_33 : decode cX2_add 33 = .ok (.getfield 22, 3) := by decide +kernel
theorem dX2_add_36 : decode cX2_add 36 = .ok (.iload 4, 2) := by decide +kernel
theorem dX2_add_38 : decode cX2_add 38 = .ok (.iconst 0, 1) := by decide +kernel
theorem dX2_add_39 : decode cX2_add 39 = .ok (.iastore, 1) := by decide +kernel
theorem dX2_add_40 : decode cX2_add 40 = .ok (.aload_n 0, 1) := by decide +kernel
theorem dX2_add_41 : decode cX2_add 41 = .ok (.getfield 25, 3) := by decide +kernel
theorem dX2_add_44 : decode cX2_add 44 = .ok (.iload 4, 2) := by decide +kernel
theorem dX2_add_46 : decode cX2_add 46 = .ok (.iload_n 1, 1) := by decide +kernel
theorem dX2_add_47 : decode cX2_add 47 = .ok (.iastore, 1) := by decide +kernel
theorem dX2_add_48 : decode cX2_add 48 = .ok (.aload_n 0, 1) := by decide +kernel
theorem dX2_add_49 : decode cX2_add 49 = .ok (.getfield 28, 3) := by decide +kernel
theorem dX2_add_52 : decode cX2_add 52 = .ok (.iload 4, 2) := by decide +kernel
theorem dX2_add_54 : decode cX2_add 54 = .ok (.iconst 0, 1) := by decide +kernel
theorem dX2_add_55 : decode cX2_add 55 = .ok (.iastore, 1) := by decide +kernel
theorem dX2_add_56 : decode cX2_add 56 = .ok (.aload_n 0, 1) := by decide +kernel
theorem dX2_add_57 : decode cX2_add 57 = .ok (.getfield 31, 3) := by decide +kernel
theorem dX2_add_60 : decode cX2_add 60 = .ok (.iload 4, 2) := by decide +kernel
theorem dX2_add_62 : decode cX2_add 62 = .ok (.iconst 0, 1) := by decide +kernel
theorem dX2_add_63 : decode cX2_add 63 = .ok (.iastore, 1) := by decide +kernel
theorem dX2_add_64 : decode cX2_add 64 = .ok (.aload_n 0, 1) := by decide +kernel
theorem dX2_add_65 : decode cX2_add 65 = .ok (.getfield 34, 3) := by decide +kernel
theorem dX2_add_68 : decode cX2_add 68 = .ok (.iload 4, 2) := by decide +kernel
theorem dX2_add_70 : decode cX2_add 70 = .ok (.iconst 0, 1) := by decide +kernel
theorem dX2_add_71 : decode cX2_add 71 = .ok (.iastore, 1) := by decide +kernel
theorem dX2_add_72 : decode cX2_add 72 = .ok (.aload_n 0, 1) := by decide +kernel
theorem dX2_add_73 : decode cX2_add 73 = .ok (.getfield 37, 3) := by decide +kernel
theorem dX2_add_76 : decode cX2_add 76 = .ok (.iload 4, 2) := by decide +kernel
theorem dX2_add_78 : decode cX2_add 78 = .ok (.iload_n 3, 1) := by decide +kernel
theorem dX2_add_79 : decode cX2_add 79 = .ok (.iastore, 1) := by decide +kernel
theorem dX2_add_80 : decode cX2_add 80 = .ok (.aload_n 0, 1) := by decide +kernel
theorem dX2_add_81 : decode cX2_add 81 = .ok (.getfield 40, 3) := by decide +kernel
theorem dX2_add_84 : decode cX2_add 84 = .ok (.iload 4, 2) := by decide +kernel
theorem dX2_add_86 : decode cX2_add 86 = .ok (.bipush (-6), 2) := by decide +kernel
theorem dX2_add_88 : decode cX2_add 88 = .ok (.iastore, 1) := by decide +kernel
theorem dX2_add_89 : decode cX2_add 89 = .ok (.aload_n 0, 1) := by decide +kernel
theorem dX2_add_90 : decode cX2_add 90 = .ok (.getfield 43, 3) := by decide +kernel
theorem dX2_add_93 : decode cX2_add 93 = .ok (.iload 4, 2) := by decide +kernel
theorem dX2_add_95 : decode cX2_add 95 = .ok (.iconst 0, 1) := by decide +kernel
theorem dX2_add_96 : decode cX2_add 96 = .ok (.iastore, 1) := by decide +kernel
theorem dX2_add_97 : decode cX2_add 97 = .ok (.aload_n 0, 1) := by decide +kernel
theorem dX2_add_98 : decode cX2_add 98 = .ok (.dup, 1) := by decide +kernel
theorem dX2_add_99 : decode cX2_add 99 = .ok (.getfield 9, 3) := by decide +kernel
theorem dX2_add_102 : decode cX2_add 102 = .ok (.iconst 1, 1) := by decide +kernel
theorem dX2_add_103 : decode cX2_add 103 = .ok (.iadd, 1) := by decide +kernel
theorem dX2_add_104 : decode cX2_add 104 = .ok (.putfield 9, 3) := by decide +kernel
theorem dX2_add_107 : decode cX2_add 107 = .ok (.iload 4, 2) := by decide +kernel
theorem dX2_add_109 : decode cX2_add 109 = .ok (.ireturn, 1) := by decide +kernel
theorem dX2_noteMove_0 : decode cX2_noteMove 0 = .ok (.aload_n 0, 1) := by decide +kernel
theorem dX2_noteMove_1 : decode cX2_noteMove 1 = .ok (.getfield 25, 3) := by decide +kernel
theorem dX2_noteMove_4 : decode cX2_noteMove 4 = .ok (.iload_n 1, 1) := by decide +kernel
theorem dX2_noteMove_5 : decode cX2_noteMove 5 = .ok (.iload_n 2, 1) := by decide +kernel
theorem dX2_noteMove_6 : decode cX2_noteMove 6 = .ok (.iastore, 1) := by decide +kernel
theorem dX2_noteMove_7 : decode cX2_noteMove 7 = .ok (.aload_n 0, 1) := by decide +kernel
theorem dX2_noteMove_8 : decode cX2_noteMove 8 = .ok (.getfield 28, 3) := by decide +kernel
theorem dX2_noteMove_11 : decode cX2_noteMove 11 = .ok (.iload_n 1, 1) := by decide +kernel
theorem dX2_noteMove_12 : decode cX2_noteMove 12 = .ok (.dup2, 1) := by decide +kernel
theorem dX2_noteMove_13 : decode cX2_noteMove 13 = .ok (.iaload, 1) := by decide +kernel
theorem dX2_noteMove_14 : decode cX2_noteMove 14 = .ok (.iconst 1, 1) := by decide +kernel
theorem dX2_noteMove_15 : decode cX2_noteMove 15 = .ok (.iadd, 1) := by decide +kernel
theorem dX2_noteMove_16 : decode cX2_noteMove 16 = .ok (.iastore, 1) := by decide +kernel
theorem dX2_noteMove_17 : decode cX2_noteMove 17 = .ok (.iload 4, 2) := by decide +kernel
theorem dX2_noteMove_19 : decode cX2_noteMove 19 = .ok (.ifCond .eq 13, 3) := by decide +kernel
theorem dX2_noteMove_22 : decode cX2_noteMove 22 = .ok (.aload_n 0, 1) := by decide +kernel
theorem dX2_noteMove_23 : decode cX2_noteMove 23 = .ok (.getfield 31, 3) := by decide +kernel
theorem dX2_noteMove_26 : decode cX2_noteMove 26 = .ok (.iload_n 1, 1) := by decide +kernel
theorem dX2_noteMove_27 : decode cX2_noteMove 27 = .ok (.dup2, 1) := by decide +kernel
theorem dX2_noteMove_28 : decode cX2_noteMove 28 = .ok (.iaload, 1) := by decide +kernel
theorem dX2_noteMove_29 : decode cX2_noteMove 29 = .ok (.iconst 1, 1) := by decide +kernel
theorem dX2_noteMove_30 : decode cX2_noteMove 30 = .ok (.iadd, 1) := by decide +kernel
theorem dX2_noteMove_31 : decode cX2_noteMove 31 = .ok (.iastore, 1) := by decide +kernel
theorem dX2_noteMove_32 : decode cX2_noteMove 32 = .ok (.iload_n 3, 1) := by decide +kernel
theorem dX2_noteMove_33 : decode cX2_noteMove 33 = .ok (.ifCond .eq 10, 3) := by decide +kernel
theorem dX2_noteMove_36 : decode cX2_noteMove 36 = .ok (.aload_n 0, 1) := by decide +kernel
theorem dX2_noteMove_37 : decode cX2_noteMove 37 = .ok (.getfield 43, 3) := by decide +kernel
theorem dX2_noteMove_40 : decode cX2_noteMove 40 = .ok (.iload_n 1, 1) := by decide +kernel
theorem dX2_noteMove_41 : decode cX2_noteMove 41 = .ok (.iconst 1, 1) := by decide +kernel
theorem dX2_noteMove_42 : decode cX2_noteMove 42 = .ok (.iastore, 1) := by decide +kernel
theorem dX2_noteMove_43 : decode cX2_noteMove 43 = .ok (.return_, 1) := by decide +kernel
theorem dX2_countIn_0 : decode cX2_countIn 0 = .ok (.iconst 0, 1) := by decide +kernel
theorem dX2_countIn_1 : decode cX2_countIn 1 = .ok (.istore_n 2, 1) := by decide +kernel
theorem dX2_countIn_2 : decode cX2_countIn 2 = .ok (.iconst 0, 1) := by decide +kernel
theorem dX2_countIn_3 : decode cX2_countIn 3 = .ok (.istore_n 3, 1) := by decide +kernel
theorem dX2_countIn_4 : decode cX2_countIn 4 = .ok (.iload_n 3, 1) := by decide +kernel
theorem dX2_countIn_5 : decode cX2_countIn 5 = .ok (.aload_n 0, 1) := by decide +kernel
theorem dX2_countIn_6 : decode cX2_countIn 6 = .ok (.getfield 9, 3) := by decide +kernel
theorem dX2_countIn_9 : decode cX2_countIn 9 = .ok (.if_icmp .ge 22, 3) := by decide +kernel
theorem dX2_countIn_12 : decode cX2_countIn 12 = .ok (.aload_n 0, 1) := by decide +kernel
theorem dX2_countIn_13 : decode cX2_countIn 13 = .ok (.getfield 22, 3) := by decide +kernel
theorem dX2_countIn_16 : decode cX2_countIn 16 = .ok (.iload_n 3, 1) := by decide +kernel
theorem dX2_countIn_17 : decode cX2_countIn 17 = .ok (.iaload, 1) := by decide +kernel
theorem dX2_countIn_18 : decode cX2_countIn 18 = .ok (.iload_n 1, 1) := by decide +kernel
theorem dX2_countIn_19 : decode cX2_countIn 19 = .ok (.if_icmp .ne 6, 3) := by decide +kernel
theorem dX2_countIn_22 : decode cX2_countIn 22 = .ok (.iinc 2 1, 3) := by decide +kernel
theorem dX2_countIn_25 : decode cX2_countIn 25 = .ok (.iinc 3 1, 3) := by decide +kernel
theorem dX2_countIn_28 : decode cX2_countIn 28 = .ok (.goto (-24), 3) := by decide +kernel
theorem dX2_countIn_31 : decode cX2_countIn 31 = .ok (.iload_n 2, 1) := by decide +kernel
theorem dX2_countIn_32 : decode cX2_countIn 32 = .ok (.ireturn, 1) := by decide +kernel
theorem dX2_countAt_0 : decode cX2_countAt 0 = .ok (.iconst 0, 1) := by decide +kernel
theorem dX2_countAt_1 : decode cX2_countAt 1 = .ok (.istore_n 3, 1) := by decide +kernel
theorem dX2_countAt_2 : decode cX2_countAt 2 = .ok (.iconst 0, 1) := by decide +kernel
theorem dX2_countAt_3 : decode cX2_countAt 3 = .ok (.istore 4, 2) := by decide +kernel
theorem dX2_countAt_5 : decode cX2_countAt 5 = .ok (.iload 4, 2) := by decide +kernel
theorem dX2_countAt_7 : decode cX2_countAt 7 = .ok (.aload_n 0, 1) := by decide +kernel
theorem dX2_countAt_8 : decode cX2_countAt 8 = .ok (.getfield 9, 3) := by decide +kernel
theorem dX2_countAt_11 : decode cX2_countAt 11 = .ok (.if_icmp .ge 34, 3) := by decide +kernel
theorem dX2_countAt_14 : decode cX2_countAt 14 = .ok (.aload_n 0, 1) := by decide +kernel
theorem dX2_countAt_15 : decode cX2_countAt 15 = .ok (.getfield 22, 3) := by decide +kernel
theorem dX2_countAt_18 : decode cX2_countAt 18 = .ok (.iload 4, 2) := by decide +kernel
theorem dX2_countAt_20 : decode cX2_countAt 20 = .ok (.iaload, 1) := by decide +kernel
theorem dX2_countAt_21 : decode cX2_countAt 21 = .ok (.iload_n 1, 1) := by decide +kernel
theorem dX2_countAt_22 : decode cX2_countAt 22 = .ok (.if_icmp .ne 17, 3) := by decide +kernel
theorem dX2_countAt_25 : decode cX2_countAt 25 = .ok (.aload_n 0, 1) := by decide +kernel
theorem dX2_countAt_26 : decode cX2_countAt 26 = .ok (.getfield 25, 3) := by decide +kernel
theorem dX2_countAt_29 : decode cX2_countAt 29 = .ok (.iload 4, 2) := by decide +kernel
theorem dX2_countAt_31 : decode cX2_countAt 31 = .ok (.iaload, 1) := by decide +kernel
theorem dX2_countAt_32 : decode cX2_countAt 32 = .ok (.iload_n 2, 1) := by decide +kernel
theorem dX2_countAt_33 : decode cX2_countAt 33 = .ok (.if_icmp .ne 6, 3) := by decide +kernel
theorem dX2_countAt_36 : decode cX2_countAt 36 = .ok (.iinc 3 1, 3) := by decide +kernel
theorem dX2_countAt_39 : decode cX2_countAt 39 = .ok (.iinc 4 1, 3) := by decide +kernel
theorem dX2_countAt_42 : decode cX2_countAt 42 = .ok (.goto (-37), 3) := by decide +kernel
theorem dX2_countAt_45 : decode cX2_countAt 45 = .ok (.iload_n 3, 1) := by decide +kernel
theorem dX2_countAt_46 : decode cX2_countAt 46 = .ok (.ireturn, 1) := by decide +kernel
theorem dX2_sum_0 : decode cX2_sum 0 = .ok (.iconst 0, 1) := by decide +kernel
theorem dX2_sum_1 : decode cX2_sum 1 = .ok (.istore_n 2, 1) := by decide +kernel
theorem dX2_sum_2 : decode cX2_sum 2 = .ok (.iconst 0, 1) := by decide +kernel
theorem dX2_sum_3 : decode cX2_sum 3 = .ok (.istore_n 3, 1) := by decide +kernel
theorem dX2_sum_4 : decode cX2_sum 4 = .ok (.iload_n 3, 1) := by decide +kernel
theorem dX2_sum_5 : decode cX2_sum 5 = .ok (.aload_n 0, 1) := by decide +kernel
theorem dX2_sum_6 : decode cX2_sum 6 = .ok (.getfield 9, 3) := by decide +kernel
theorem dX2_sum_9 : decode cX2_sum 9 = .ok (.if_icmp .ge 15, 3) := by decide +kernel
theorem dX2_sum_12 : decode cX2_sum 12 = .ok (.iload_n 2, 1) := by decide +kernel
theorem dX2_sum_13 : decode cX2_sum 13 = .ok (.aload_n 1, 1) := by decide +kernel
theorem dX2_sum_14 : decode cX2_sum 14 = .ok (.iload_n 3, 1) := by decide +kernel
theorem dX2_sum_15 : decode cX2_sum 15 = .ok (.iaload, 1) := by decide +kernel
theorem dX2_sum_16 : decode cX2_sum 16 = .ok (.iadd, 1) := by decide +kernel
theorem dX2_sum_17 : decode cX2_sum 17 = .ok (.istore_n 2, 1) := by decide +kernel
theorem dX2_sum_18 : decode cX2_sum 18 = .ok (.iinc 3 1, 3) := by decide +kernel
theorem dX2_sum_21 : decode cX2_sum 21 = .ok (.goto (-17), 3) := by decide +kernel
theorem dX2_sum_24 : decode cX2_sum 24 = .ok (.iload_n 2, 1) := by decide +kernel
theorem dX2_sum_25 : decode cX2_sum 25 = .ok (.ireturn, 1) := by decide +kernel
theorem dX3_init_0 : decode cX3_init 0 = .ok (.aload_n 0, 1) := by decide +kernel
theorem dX3_init_1 : decode cX3_init 1 = .ok (.invokespecial 5, 3) := by decide +kernel
theorem dX3_init_4 : decode cX3_init 4 = .ok (.aload_n 0, 1) := by decide +kernel
theorem dX3_init_5 : decode cX3_init 5 = .ok (.bipush 80, 2) := by decide +kernel
theorem dX3_init_7 : decode cX3_init 7 = .ok (.newarray .char, 2) := by decide +kernel
theorem dX3_init_9 : decode cX3_init 9 = .ok (.putfield 11, 3) := by decide +kernel
theorem dX3_init_12 : decode cX3_init 12 = .ok (.aload_n 0, 1) := by decide +kernel
theorem dX3_init_13 : decode cX3_init 13 = .ok (.iconst 0, 1) := by decide +kernel
theorem dX3_init_14 : decode cX3_init 14 = .ok (.putfield 15, 3) := by decide +kernel
theorem dX3_init_17 : decode cX3_init 17 = .ok (.aload_n 0, 1) := by decide +kernel
theorem dX3_init_18 : decode cX3_init 18 = .ok (.iconst 0, 1) := by decide +kernel
theorem dX3_init_19 : decode cX3_init 19 = .ok (.putfield 19, 3) := by decide +kernel
theorem dX3_init_22 : decode cX3_init 22 = .ok (.aload_n 0, 1) := by decide +kernel
theorem dX3_init_23 : decode cX3_init 23 = .ok (.bipush 27, 2) := by decide +kernel
theorem dX3_init_25 : decode cX3_init 25 = .ok (.newarray .int, 2) := by decide +kernel
theorem dX3_init_27 : decode cX3_init 27 = .ok (.putfield 22, 3) := by decide +kernel
theorem dX3_init_30 : decode cX3_init 30 = .ok (.aload_n 0, 1) := by decide +kernel
theorem dX3_init_31 : decode cX3_init 31 = .ok (.bipush 27, 2) := by decide +kernel
theorem dX3_init_33 : decode cX3_init 33 = .ok (.newarray .int, 2) := by decide +kernel
theorem dX3_init_35 : decode cX3_init 35 = .ok (.putfield 26, 3) := by decide +kernel
theorem dX3_init_38 : decode cX3_init 38 = .ok (.aload_n 0, 1) := by decide +kernel
theorem dX3_init_39 : decode cX3_init 39 = .ok (.bipush 27, 2) := by decide +kernel
theorem dX3_init_41 : decode cX3_init 41 = .ok (.newarray .int, 2) := by decide +kernel
theorem dX3_init_43 : decode cX3_init 43 = .ok (.putfield 29, 3) := by decide +kernel
theorem dX3_init_46 : decode cX3_init 46 = .ok (.aload_n 0, 1) := by decide +kernel
theorem dX3_init_47 : decode cX3_init 47 = .ok (.iconst 0, 1) := by decide +kernel
theorem dX3_init_48 : decode cX3_init 48 = .ok (.putfield 32, 3) := by decide +kernel
theorem dX3_init_51 : decode cX3_init 51 = .ok (.return_, 1) := by decide +kernel
theorem dX3_countCharacters_0 : decode cX3_countCharacters 0 = .ok (.iconst 0, 1) := by decide +kernel
theorem dX3_countCharacters_1 : decode cX3_countCharacters 1 = .ok (.istore_n 2, 1) := by decide +kernel
theorem dX3_countCharacters_2 : decode cX3_countCharacters 2 = .ok (.lload_n 0, 1) := by decide +kernel
theorem dX3_countCharacters_3 : decode cX3_countCharacters 3 = .ok (.lstore_n 3, 1) := by decide +kernel
theorem dX3_countCharacters_4 : decode cX3_countCharacters 4 = .ok (.iconst 0, 1) := by decide +kernel
theorem dX3_countCharacters_5 : decode cX3_countCharacters 5 = .ok (.istore 5, 2) := by decide +kernel
theorem dX3_countCharacters_7 : decode cX3_countCharacters 7 = .ok (.iload 5, 2) := by decide +kernel
theorem dX3_countCharacters_9 : decode cX3_countCharacters 9 = .ok (.bipush 8, 2) := by decide +kernel
theorem dX3_countCharacters_11 : decode cX3_countCharacters 11 = .ok (.if_icmp .ge 47, 3) := by decide +kernel
theorem dX3_countCharacters_14 : decode cX3_countCharacters 14 = .ok (.lload_n 3, 1) := by decide +kernel
theorem dX3_countCharacters_15 : decode cX3_countCharacters 15 = .ok (.lconst 0, 1) := by decide +kernel
theorem dX3_countCharacters_16 : decode cX3_countCharacters 16 = .ok (.lcmp, 1) := by decide +kernel
theorem dX3_countCharacters_17 : decode cX3_countCharacters 17 = .ok (.ifCond .eq 41, 3) := by decide +kernel
theorem dX3_countCharacters_20 : decode cX3_countCharacters 20 = .ok (.lload_n 3, 1) := by decide +kernel
theorem dX3_countCharacters_21 : decode cX3_countCharacters 21 = .ok (.ldc2_w 35, 3) := by decide +kernel
theorem dX3_countCharacters_24 : decode cX3_countCharacters 24 = .ok (.land, 1) := by decide +kernel
theorem dX3_countCharacters_25 : decode cX3_countCharacters 25 = .ok (.l2i, 1) := by decide +kernel
theorem dX3_countCharacters_26 : decode cX3_countCharacters 26 = .ok (.istore 6, 2) := by decide +kernel
theorem dX3_countCharacters_28 : decode cX3_countCharacters 28 = .ok (.iload 6, 2) := by decide +kernel
theorem dX3_countCharacters_30 : decode cX3_countCharacters 30 = .ok (.bipush 33, 2) := by decide +kernel
theorem dX3_countCharacters_32 : decode cX3_countCharacters 32 = .ok (.if_icmp .lt 10, 3) := by decide +kernel
theorem dX3_countCharacters_35 : decode cX3_countCharacters 35 = .ok (.iload 6, 2) := by decide +kernel
theorem dX3_countCharacters_37 : decode cX3_countCharacters 37 = .ok (.bipush 126, 2) := by decide +kernel
theorem dX3_countCharacters_39 : decode cX3_countCharacters 39 = .ok (.if_icmp .le 5, 3) := by decide +kernel
theorem dX3_countCharacters_42 : decode cX3_countCharacters 42 = .ok (.iconst 0, 1) := by decide +kernel
theorem dX3_countCharacters_43 : decode cX3_countCharacters 43 = .ok (.ireturn, 1) := by decide +kernel
theorem dX3_countCharacters_44 : decode cX3_countCharacters 44 = .ok (.iinc 2 1, 3) := by decide +kernel
theorem dX3_countCharacters_47 : decode cX3_countCharacters 47 = .ok (.lload_n 3, 1) := by decide +kernel
theorem dX3_countCharacters_48 : decode cX3_countCharacters 48 = .ok (.bipush 8, 2) := by decide +kernel
theorem dX3_countCharacters_50 : decode cX3_countCharacters 50 = .ok (.lushr, 1) := by decide +kernel
theorem dX3_countCharacters_51 : decode cX3_countCharacters 51 = .ok (.lstore_n 3, 1) := by decide +kernel
theorem dX3_countCharacters_52 : decode cX3_countCharacters 52 = .ok (.iinc 5 1, 3) := by decide +kernel
theorem dX3_countCharacters_55 : decode cX3_countCharacters 55 = .ok (.goto (-48), 3) := by decide +kernel
theorem dX3_countCharacters_58 : decode cX3_countCharacters 58 = .ok (.iload_n 2, 1) := by decide +kernel
theorem dX3_countCharacters_59 : decode cX3_countCharacters 59 = .ok (.ireturn, 1) := by decide +kernel
theorem dX3_fits_0 : decode cX3_fits 0 = .ok (.aload_n 0, 1) := by decide +kernel
theorem dX3_fits_1 : decode cX3_fits 1 = .ok (.getfield 15, 3) := by decide +kernel
theorem dX3_fits_4 : decode cX3_fits 4 = .ok (.iload_n 1, 1) := by decide +kernel
theorem dX3_fits_5 : decode cX3_fits 5 = .ok (.iadd, 1) := by decide +kernel
theorem dX3_fits_6 : decode cX3_fits 6 = .ok (.bipush 80, 2) := by decide +kernel
theorem dX3_fits_8 : decode cX3_fits 8 = .ok (.if_icmp .gt 7, 3) := by decide +kernel
theorem dX3_fits_11 : decode cX3_fits 11 = .ok (.iconst 1, 1) := by decide +kernel
theorem dX3_fits_12 : decode cX3_fits 12 = .ok (.goto 4, 3) := by decide +kernel
theorem dX3_fits_15 : decode cX3_fits 15 = .ok (.iconst 0, 1) := by decide +kernel
theorem dX3_fits_16 : decode cX3_fits 16 = .ok (.ireturn, 1) := by decide +kernel
theorem dX3_append_0 : decode cX3_append 0 = .ok (.iconst 0, 1) := by decide +kernel
theorem dX3_append_1 : decode cX3_append 1 = .ok (.istore 4, 2) := by decide +kernel
theorem dX3_append_3 : decode cX3_append 3 = .ok (.iload 4, 2) := by decide +kernel
theorem dX3_append_5 : decode cX3_append 5 = .ok (.iload_n 3, 1) := by decide +kernel
theorem dX3_append_6 : decode cX3_append 6 = .ok (.if_icmp .ge 50, 3) := by decide +kernel
theorem dX3_append_9 : decode cX3_append 9 = .ok (.aload_n 0, 1) := by decide +kernel
theorem dX3_append_10 : decode cX3_append 10 = .ok (.iload_n 3, 1) := by decide +kernel
theorem dX3_append_11 : decode cX3_append 11 = .ok (.invokevirtual 37, 3) := by decide +kernel
theorem dX3_append_14 : decode cX3_append 14 = .ok (.ifCond .eq 42, 3) := by decide +kernel
theorem dX3_append_17 : decode cX3_append 17 = .ok (.bipush 8, 2) := by decide +kernel
theorem dX3_append_19 : decode cX3_append 19 = .ok (.iload_n 3, 1) := by decide +kernel
theorem dX3_append_20 : decode cX3_append 20 = .ok (.iconst 1, 1) := by decide +kernel
theorem dX3_append_21 : decode cX3_append 21 = .ok (.isub, 1) := by decide +kernel
theorem dX3_append_22 : decode cX3_append 22 = .ok (.iload 4, 2) := by decide +kernel
theorem dX3_append_24 : decode cX3_append 24 = .ok (.isub, 1) := by decide +kernel
theorem dX3_append_25 : decode cX3_append 25 = .ok (.imul, 1) := by decide +kernel
theorem dX3_append_26 : decode cX3_append 26 = .ok (.istore 5, 2) := by decide +kernel
theorem dX3_append_28 : decode cX3_append 28 = .ok (.aload_n 0, 1) := by decide +kernel
theorem dX3_append_29 : decode cX3_append 29 = .ok (.getfield 11, 3) := by decide +kernel
theorem dX3_append_32 : decode cX3_append 32 = .ok (.aload_n 0, 1) := by decide +kernel
theorem dX3_append_33 : decode cX3_append 33 = .ok (.getfield 15, 3) := by decide +kernel
theorem dX3_append_36 : decode cX3_append 36 = .ok (.iload 4, 2) := by decide +kernel
theorem dX3_append_38 : decode cX3_append 38 = .ok (.iadd, 1) := by decide +kernel
theorem dX3_append_39 : decode cX3_append 39 = .ok (.lload_n 1, 1) := by decide +kernel
theorem dX3_append_40 : decode cX3_append 40 = .ok (.iload 5, 2) := by decide +kernel
theorem dX3_append_42 : decode cX3_append 42 = .ok (.lushr, 1) := by decide +kernel
theorem dX3_append_43 : decode cX3_append 43 = .ok (.ldc2_w 35, 3) := by decide +kernel
theorem dX3_append_46 : decode cX3_append 46 = .ok (.land, 1) := by decide +kernel
theorem dX3_append_47 : decode cX3_append 47 = .ok (.l2i, 1) := by decide +kernel
theorem dX3_append_48 : decode cX3_append 48 = .ok (.i2c, 1) := by decide +kernel
theorem dX3_append_49 : decode cX3_append 49 = .ok (.castore, 1) := by decide +kernel
theorem dX3_append_50 : decode cX3_append 50 = .ok (.iinc 4 1, 3) := by decide +kernel
theorem dX3_append_53 : decode cX3_append 53 = .ok (.goto (-50), 3) := by decide +kernel
theorem dX3_append_56 : decode cX3_append 56 = .ok (.aload_n 0, 1) := by decide +kernel
theorem dX3_append_57 : decode cX3_append 57 = .ok (.dup, 1) := by decide +kernel
theorem dX3_append_58 : decode cX3_append 58 = .ok (.getfield 15, 3) := by decide +kernel
theorem dX3_append_61 : decode cX3_append 61 = .ok (.iload_n 3, 1) := by decide +kernel
theorem dX3_append_62 : decode cX3_append 62 = .ok (.iadd, 1) := by decide +kernel
theorem dX3_append_63 : decode cX3_append 63 = .ok (.putfield 15, 3) := by decide +kernel
theorem dX3_append_66 : decode cX3_append 66 = .ok (.return_, 1) := by decide +kernel
theorem dX3_readOrders_0 : decode cX3_readOrders 0 = .ok (.aload_n 0, 1) := by decide +kernel
theorem dX3_readOrders_1 : decode cX3_readOrders 1 = .ok (.iconst 0, 1) := by decide +kernel
theorem dX3_readOrders_2 : decode cX3_readOrders 2 = .ok (.putfield 32, 3) := by decide +kernel
theorem dX3_readOrders_5 : decode cX3_readOrders 5 = .ok (.aload_n 0, 1) := by decide +kernel
theorem dX3_readOrders_6 : decode cX3_readOrders 6 = .ok (.iconst 0, 1) := by decide +kernel
theorem dX3_readOrders_7 : decode cX3_readOrders 7 = .ok (.putfield 19, 3) := by decide +kernel
theorem dX3_readOrders_10 : decode cX3_readOrders 10 = .ok (.iconst 0, 1) := by decide +kernel
theorem dX3_readOrders_11 : decode cX3_readOrders 11 = .ok (.istore_n 1, 1) := by decide +kernel
theorem dX3_readOrders_12 : decode cX3_readOrders 12 = .ok (.iload_n 1, 1) := by decide +kernel
theorem dX3_readOrders_13 : decode cX3_readOrders 13 = .ok (.bipush 27, 2) := by decide +kernel
theorem dX3_readOrders_15 : decode cX3_readOrders 15 = .ok (.if_icmp .ge 49, 3) := by decide +kernel
theorem dX3_readOrders_18 : decode cX3_readOrders 18 = .ok (.aload_n 0, 1) := by decide +kernel
theorem dX3_readOrders_19 : decode cX3_readOrders 19 = .ok (.invokevirtual 41, 3) := by decide +kernel
theorem dX3_readOrders_22 : decode cX3_readOrders 22 = .ok (.ifCond .ne 8, 3) := by decide +kernel
theorem dX3_readOrders_25 : decode cX3_readOrders 25 = .ok (.aload_n 0, 1) := by decide +kernel
theorem dX3_readOrders_26 : decode cX3_readOrders 26 = .ok (.getfield 32, 3) := by decide +kernel
theorem dX3_readOrders_29 : decode cX3_readOrders 29 = .ok (.ireturn, 1) := by decide +kernel
theorem dX3_readOrders_30 : decode cX3_readOrders 30 = .ok (.aload_n 0, 1) := by decide +kernel
theorem dX3_readOrders_31 : decode cX3_readOrders 31 = .ok (.getfield 32, 3) := by decide +kernel
theorem dX3_readOrders_34 : decode cX3_readOrders 34 = .ok (.aload_n 0, 1) := by decide +kernel
theorem dX3_readOrders_35 : decode cX3_readOrders 35 = .ok (.getfield 15, 3) := by decide +kernel
theorem dX3_readOrders_38 : decode cX3_readOrders 38 = .ok (.if_icmp .lt 6, 3) := by decide +kernel
theorem dX3_readOrders_41 : decode cX3_readOrders 41 = .ok (.bipush (-6), 2) := by decide +kernel
theorem dX3_readOrders_43 : decode cX3_readOrders 43 = .ok (.ireturn, 1) := by decide +kernel
theorem dX3_readOrders_44 : decode cX3_readOrders 44 = .ok (.aload_n 0, 1) := by decide +kernel
theorem dX3_readOrders_45 : decode cX3_readOrders 45 = .ok (.bipush 59, 2) := by decide +kernel
theorem dX3_readOrders_47 : decode cX3_readOrders 47 = .ok (.invokevirtual 45, 3) := by decide +kernel
theorem dX3_readOrders_50 : decode cX3_readOrders 50 = .ok (.ifCond .ne 8, 3) := by decide +kernel
theorem dX3_readOrders_53 : decode cX3_readOrders 53 = .ok (.aload_n 0, 1) := by decide +kernel
theorem dX3_readOrders_54 : decode cX3_readOrders 54 = .ok (.getfield 32, 3) := by decide +kernel
theorem dX3_readOrders_57 : decode cX3_readOrders 57 = .ok (.ireturn, 1) := by decide +kernel
theorem dX3_readOrders_58 : decode cX3_readOrders 58 = .ok (.iinc 1 1, 3) := by decide +kernel
theorem dX3_readOrders_61 : decode cX3_readOrders 61 = .ok (.goto (-49), 3) := by decide +kernel
theorem dX3_readOrders_64 : decode cX3_readOrders 64 = .ok (.aload_n 0, 1) := by decide +kernel
theorem dX3_readOrders_65 : decode cX3_readOrders 65 = .ok (.getfield 32, 3) := by decide +kernel
theorem dX3_readOrders_68 : decode cX3_readOrders 68 = .ok (.ireturn, 1) := by decide +kernel
theorem dX3_readOrder_0 : decode cX3_readOrder 0 = .ok (.aload_n 0, 1) := by decide +kernel
theorem dX3_readOrder_1 : decode cX3_readOrder 1 = .ok (.invokevirtual 49, 3) := by decide +kernel
theorem dX3_readOrder_4 : decode cX3_readOrder 4 = .ok (.istore_n 1, 1) := by decide +kernel
theorem dX3_readOrder_5 : decode cX3_readOrder 5 = .ok (.iload_n 1, 1) := by decide +kernel
theorem dX3_readOrder_6 : decode cX3_readOrder 6 = .ok (.bipush 115, 2) := by decide +kernel
theorem dX3_readOrder_8 : decode cX3_readOrder 8 = .ok (.if_icmp .eq 23, 3) := by decide +kernel
theorem dX3_readOrder_11 : decode cX3_readOrder 11 = .ok (.iload_n 1, 1) := by decide +kernel
theorem dX3_readOrder_12 : decode cX3_readOrder 12 = .ok (.bipush 98, 2) := by decide +kernel
theorem dX3_readOrder_14 : decode cX3_readOrder 14 = .ok (.if_icmp .eq 17, 3) := by decide +kernel
theorem dX3_readOrder_17 : decode cX3_readOrder 17 = .ok (.iload_n 1, 1) := by decide +kernel
theorem dX3_readOrder_18 : decode cX3_readOrder 18 = .ok (.bipush 109, 2) := by decide +kernel
theorem dX3_readOrder_20 : decode cX3_readOrder 20 = .ok (.if_icmp .eq 11, 3) := by decide +kernel
theorem dX3_readOrder_23 : decode cX3_readOrder 23 = .ok (.iload_n 1, 1) := by decide +kernel
theorem dX3_readOrder_24 : decode cX3_readOrder 24 = .ok (.bipush 116, 2) := by decide +kernel
theorem dX3_readOrder_26 : decode cX3_readOrder 26 = .ok (.if_icmp .eq 5, 3) := by decide +kernel
theorem dX3_readOrder_29 : decode cX3_readOrder 29 = .ok (.iconst 0, 1) := by decide +kernel
theorem dX3_readOrder_30 : decode cX3_readOrder 30 = .ok (.ireturn, 1) := by decide +kernel
theorem dX3_readOrder_31 : decode cX3_readOrder 31 = .ok (.aload_n 0, 1) := by decide +kernel
theorem dX3_readOrder_32 : decode cX3_readOrder 32 = .ok (.dup, 1) := by decide +kernel
theorem dX3_readOrder_33 : decode cX3_readOrder 33 = .ok (.getfield 32, 3) := by decide +kernel
theorem dX3_readOrder_36 : decode cX3_readOrder 36 = .ok (.iconst 1, 1) := by decide +kernel
theorem dX3_readOrder_37 : decode cX3_readOrder 37 = .ok (.iadd, 1) := by decide +kernel
theorem dX3_readOrder_38 : decode cX3_readOrder 38 = .ok (.putfield 32, 3) := by decide +kernel
theorem dX3_readOrder_41 : decode cX3_readOrder 41 = .ok (.aload_n 0, 1) := by decide +kernel
theorem dX3_readOrder_42 : decode cX3_readOrder 42 = .ok (.invokevirtual 53, 3) := by decide +kernel
theorem dX3_readOrder_45 : decode cX3_readOrder 45 = .ok (.istore_n 2, 1) := by decide +kernel
theorem dX3_readOrder_46 : decode cX3_readOrder 46 = .ok (.iload_n 2, 1) := by decide +kernel
theorem dX3_readOrder_47 : decode cX3_readOrder 47 = .ok (.iconst (-1), 1) := by decide +kernel
theorem dX3_readOrder_48 : decode cX3_readOrder 48 = .ok (.if_icmp .ne 5, 3) := by decide +kernel
theorem dX3_readOrder_51 : decode cX3_readOrder 51 = .ok (.iconst 0, 1) := by decide +kernel
theorem dX3_readOrder_52 : decode cX3_readOrder 52 = .ok (.ireturn, 1) := by decide +kernel
theorem dX3_readOrder_53 : decode cX3_readOrder 53 = .ok (.iconst 0, 1) := by decide +kernel
theorem dX3_readOrder_54 : decode cX3_readOrder 54 = .ok (.istore_n 3, 1) := by decide +kernel
theorem dX3_readOrder_55 : decode cX3_readOrder 55 = .ok (.iload_n 1, 1) := by decide +kernel
theorem dX3_readOrder_56 : decode cX3_readOrder 56 = .ok (.bipush 115, 2) := by decide +kernel
theorem dX3_readOrder_58 : decode cX3_readOrder 58 = .ok (.if_icmp .ne 24, 3) := by decide +kernel
theorem dX3_readOrder_61 : decode cX3_readOrder 61 = .ok (.aload_n 0, 1) := by decide +kernel
theorem dX3_readOrder_62 : decode cX3_readOrder 62 = .ok (.bipush 62, 2) := by decide +kernel
theorem dX3_readOrder_64 : decode cX3_readOrder 64 = .ok (.invokevirtual 45, 3) := by decide +kernel
theorem dX3_readOrder_67 : decode cX3_readOrder 67 = .ok (.ifCond .eq 10, 3) := by decide +kernel
theorem dX3_readOrder_70 : decode cX3_readOrder 70 = .ok (.aload_n 0, 1) := by decide +kernel
theorem dX3_readOrder_71 : decode cX3_readOrder 71 = .ok (.invokevirtual 53, 3) := by decide +kernel
theorem dX3_readOrder_74 : decode cX3_readOrder 74 = .ok (.goto 4, 3) := by decide +kernel
theorem dX3_readOrder_77 : decode cX3_readOrder 77 = .ok (.iconst (-1), 1) := by decide +kernel
theorem dX3_readOrder_78 : decode cX3_readOrder 78 = .ok (.istore_n 3, 1) := by decide +kernel
theorem dX3_readOrder_79 : decode cX3_readOrder 79 = .ok (.goto 14, 3) := by decide +kernel
theorem dX3_readOrder_82 : decode cX3_readOrder 82 = .ok (.iload_n 1, 1) := by decide +kernel
theorem dX3_readOrder_83 : decode cX3_readOrder 83 = .ok (.bipush 116, 2) := by decide +kernel
theorem dX3_readOrder_85 : decode cX3_readOrder 85 = .ok (.if_icmp .eq 8, 3) := by decide +kernel
theorem dX3_readOrder_88 : decode cX3_readOrder 88 = .ok (.aload_n 0, 1) := by decide +kernel
theorem dX3_readOrder_89 : decode cX3_readOrder 89 = .ok (.invokevirtual 57, 3) := by decide +kernel
theorem dX3_readOrder_92 : decode cX3_readOrder 92 = .ok (.istore_n 3, 1) := by decide +kernel
theorem dX3_readOrder_93 : decode cX3_readOrder 93 = .ok (.iload_n 3, 1) := by decide +kernel
theorem dX3_readOrder_94 : decode cX3_readOrder 94 = .ok (.ifCond .lt 12, 3) := by decide +kernel
theorem dX3_readOrder_97 : decode cX3_readOrder 97 = .ok (.aload_n 0, 1) := by decide +kernel
theorem dX3_readOrder_98 : decode cX3_readOrder 98 = .ok (.getfield 19, 3) := by decide +kernel
theorem dX3_readOrder_101 : decode cX3_readOrder 101 = .ok (.bipush 27, 2) := by decide +kernel
theorem dX3_readOrder_103 : decode cX3_readOrder 103 = .ok (.if_icmp .lt 5, 3) := by decide +kernel
theorem dX3_readOrder_106 : decode cX3_readOrder 106 = .ok (.iconst 0, 1) := by decide +kernel
theorem dX3_readOrder_107 : decode cX3_readOrder 107 = .ok (.ireturn, 1) := by decide +kernel
theorem dX3_readOrder_108 : decode cX3_readOrder 108 = .ok (.aload_n 0, 1) := by decide +kernel
theorem dX3_readOrder_109 : decode cX3_readOrder 109 = .ok (.getfield 22, 3) := by decide +kernel
theorem dX3_readOrder_112 : decode cX3_readOrder 112 = .ok (.aload_n 0, 1) := by decide +kernel
theorem dX3_readOrder_113 : decode cX3_readOrder 113 = .ok (.getfield 19, 3) := by decide +kernel
theorem dX3_readOrder_116 : decode cX3_readOrder 116 = .ok (.iload_n 1, 1) := by decide +kernel
theorem dX3_readOrder_117 : decode cX3_readOrder 117 = .ok (.iastore, 1) := by decide +kernel
theorem dX3_readOrder_118 : decode cX3_readOrder 118 = .ok (.aload_n 0, 1) := by decide +kernel
theorem dX3_readOrder_119 : decode cX3_readOrder 119 = .ok (.getfield 26, 3) := by decide +kernel
theorem dX3_readOrder_122 : decode cX3_readOrder 122 = .ok (.aload_n 0, 1) := by decide +kernel
theorem dX3_readOrder_123 : decode cX3_readOrder 123 = .ok (.getfield 19, 3) := by decide +kernel
theorem dX3_readOrder_126 : decode cX3_readOrder 126 = .ok (.iload_n 2, 1) := by decide +kernel
theorem dX3_readOrder_127 : decode cX3_readOrder 127 = .ok (.iastore, 1) := by decide +kernel
theorem dX3_readOrder_128 : decode cX3_readOrder 128 = .ok (.aload_n 0, 1) := by decide +kernel
theorem dX3_readOrder_129 : decode cX3_readOrder 129 = .ok (.getfield 29, 3) := by decide +kernel
theorem dX3_readOrder_132 : decode cX3_readOrder 132 = .ok (.aload_n 0, 1) := by decide +kernel
theorem dX3_readOrder_133 : decode cX3_readOrder 133 = .ok (.getfield 19, 3) := by decide +kernel
theorem dX3_readOrder_136 : decode cX3_readOrder 136 = .ok (.iload_n 3, 1) := by decide +kernel
theorem dX3_readOrder_137 : decode cX3_readOrder 137 = .ok (.iastore, 1) := by decide +kernel
theorem dX3_readOrder_138 : decode cX3_readOrder 138 = .ok (.aload_n 0, 1) := by decide +kernel
theorem dX3_readOrder_139 : decode cX3_readOrder 139 = .ok (.dup, 1) := by decide +kernel
theorem dX3_readOrder_140 : decode cX3_readOrder 140 = .ok (.getfield 19, 3) := by decide +kernel
theorem dX3_readOrder_143 : decode cX3_readOrder 143 = .ok (.iconst 1, 1) := by decide +kernel
theorem dX3_readOrder_144 : decode cX3_readOrder 144 = .ok (.iadd, 1) := by decide +kernel
theorem dX3_readOrder_145 : decode cX3_readOrder 145 = .ok (.putfield 19, 3) := by decide +kernel
theorem dX3_readOrder_148 : decode cX3_readOrder 148 = .ok (.iconst 1, 1) := by decide +kernel
theorem dX3_readOrder_149 : decode cX3_readOrder 149 = .ok (.ireturn, 1) := by decide +kernel
theorem dX3_signHere_0 : decode cX3_signHere 0 = .ok (.aload_n 0, 1) := by decide +kernel
theorem dX3_signHere_1 : decode cX3_signHere 1 = .ok (.getfield 32, 3) := by decide +kernel
theorem dX3_signHere_4 : decode cX3_signHere 4 = .ok (.ifCond .lt 35, 3) := by decide +kernel
theorem dX3_signHere_7 : decode cX3_signHere 7 = .ok (.aload_n 0, 1) := by decide +kernel
theorem dX3_signHere_8 : decode cX3_signHere 8 = .ok (.getfield 32, 3) := by decide +kernel
theorem dX3_signHere_11 : decode cX3_signHere 11 = .ok (.aload_n 0, 1) := by decide +kernel
theorem dX3_signHere_12 : decode cX3_signHere 12 = .ok (.getfield 15, 3) := by decide +kernel
theorem dX3_signHere_15 : decode cX3_signHere 15 = .ok (.if_icmp .ge 24, 3) := by decide +kernel
theorem dX3_signHere_18 : decode cX3_signHere 18 = .ok (.aload_n 0, 1) := by decide +kernel
theorem dX3_signHere_19 : decode cX3_signHere 19 = .ok (.getfield 32, 3) := by decide +kernel
theorem dX3_signHere_22 : decode cX3_signHere 22 = .ok (.bipush 80, 2) := by decide +kernel
theorem dX3_signHere_24 : decode cX3_signHere 24 = .ok (.if_icmp .ge 15, 3) := by decide +kernel
theorem dX3_signHere_27 : decode cX3_signHere 27 = .ok (.aload_n 0, 1) := by decide +kernel
theorem dX3_signHere_28 : decode cX3_signHere 28 = .ok (.getfield 11, 3) := by decide +kernel
theorem dX3_signHere_31 : decode cX3_signHere 31 = .ok (.aload_n 0, 1) := by decide +kernel
theorem dX3_signHere_32 : decode cX3_signHere 32 = .ok (.getfield 32, 3) := by decide +kernel
theorem dX3_signHere_35 : decode cX3_signHere 35 = .ok (.caload, 1) := by decide +kernel
theorem dX3_signHere_36 : decode cX3_signHere 36 = .ok (.goto 4, 3) := by decide +kernel
theorem dX3_signHere_39 : decode cX3_signHere 39 = .ok (.iconst 0, 1) := by decide +kernel
theorem dX3_signHere_40 : decode cX3_signHere 40 = .ok (.ireturn, 1) := by decide +kernel
theorem dX3_readSign_0 : decode cX3_readSign 0 = .ok (.aload_n 0, 1) := by decide +kernel
theorem dX3_readSign_1 : decode cX3_readSign 1 = .ok (.invokevirtual 49, 3) := by decide +kernel
theorem dX3_readSign_4 : decode cX3_readSign 4 = .ok (.iload_n 1, 1) := by decide +kernel
theorem dX3_readSign_5 : decode cX3_readSign 5 = .ok (.if_icmp .eq 5, 3) := by decide +kernel
theorem dX3_readSign_8 : decode cX3_readSign 8 = .ok (.iconst 0, 1) := by decide +kernel
theorem dX3_readSign_9 : decode cX3_readSign 9 = .ok (.ireturn, 1) := by decide +kernel
theorem dX3_readSign_10 : decode cX3_readSign 10 = .ok (.aload_n 0, 1) := by decide +kernel
theorem dX3_readSign_11 : decode cX3_readSign 11 = .ok (.dup, 1) := by decide +kernel
theorem dX3_readSign_12 : decode cX3_readSign 12 = .ok (.getfield 32, 3) := by decide +kernel
theorem dX3_readSign_15 : decode cX3_readSign 15 = .ok (.iconst 1, 1) := by decide +kernel
theorem dX3_readSign_16 : decode cX3_readSign 16 = .ok (.iadd, 1) := by decide +kernel
theorem dX3_readSign_17 : decode cX3_readSign 17 = .ok (.putfield 32, 3) := by decide +kernel
theorem dX3_readSign_20 : decode cX3_readSign 20 = .ok (.iconst 1, 1) := by decide +kernel
theorem dX3_readSign_21 : decode cX3_readSign 21 = .ok (.ireturn, 1) := by decide +kernel
theorem dX3_readNumber_0 : decode cX3_readNumber 0 = .ok (.aload_n 0, 1) := by decide +kernel
theorem dX3_readNumber_1 : decode cX3_readNumber 1 = .ok (.invokevirtual 60, 3) := by decide +kernel
theorem dX3_readNumber_4 : decode cX3_readNumber 4 = .ok (.istore_n 1, 1) := by decide +kernel
theorem dX3_readNumber_5 : decode cX3_readNumber 5 = .ok (.iload_n 1, 1) := by decide +kernel
theorem dX3_readNumber_6 : decode cX3_readNumber 6 = .ok (.ifCond .gt 5, 3) := by decide +kernel
theorem dX3_readNumber_9 : decode cX3_readNumber 9 = .ok (.iload_n 1, 1) := by decide +kernel
theorem dX3_readNumber_10 : decode cX3_readNumber 10 = .ok (.ireturn, 1) := by decide +kernel
theorem dX3_readNumber_11 : decode cX3_readNumber 11 = .ok (.aload_n 0, 1) := by decide +kernel
theorem dX3_readNumber_12 : decode cX3_readNumber 12 = .ok (.invokevirtual 60, 3) := by decide +kernel
theorem dX3_readNumber_15 : decode cX3_readNumber 15 = .ok (.istore_n 2, 1) := by decide +kernel
theorem dX3_readNumber_16 : decode cX3_readNumber 16 = .ok (.iload_n 2, 1) := by decide +kernel
theorem dX3_readNumber_17 : decode cX3_readNumber 17 = .ok (.iconst (-1), 1) := by decide +kernel
theorem dX3_readNumber_18 : decode cX3_readNumber 18 = .ok (.if_icmp .ne 7, 3) := by decide +kernel
theorem dX3_readNumber_21 : decode cX3_readNumber 21 = .ok (.iload_n 1, 1) := by decide +kernel
theorem dX3_readNumber_22 : decode cX3_readNumber 22 = .ok (.goto 9, 3) := by decide +kernel
theorem dX3_readNumber_25 : decode cX3_readNumber 25 = .ok (.bipush 10, 2) := by decide +kernel
theorem dX3_readNumber_27 : decode cX3_readNumber 27 = .ok (.iload_n 1, 1) := by decide +kernel
theorem dX3_readNumber_28 : decode cX3_readNumber 28 = .ok (.imul, 1) := by decide +kernel
theorem dX3_readNumber_29 : decode cX3_readNumber 29 = .ok (.iload_n 2, 1) := by decide +kernel
theorem dX3_readNumber_30 : decode cX3_readNumber 30 = .ok (.iadd, 1) := by decide +kernel
theorem dX3_readNumber_31 : decode cX3_readNumber 31 = .ok (.ireturn, 1) := by decide +kernel
theorem dX3_readDigit_0 : decode cX3_readDigit 0 = .ok (.aload_n 0, 1) := by decide +kernel
theorem dX3_readDigit_1 : decode cX3_readDigit 1 = .ok (.invokevirtual 49, 3) := by decide +kernel
theorem dX3_readDigit_4 : decode cX3_readDigit 4 = .ok (.istore_n 1, 1) := by decide +kernel
theorem dX3_readDigit_5 : decode cX3_readDigit 5 = .ok (.iload_n 1, 1) := by decide +kernel
theorem dX3_readDigit_6 : decode cX3_readDigit 6 = .ok (.bipush 48, 2) := by decide +kernel
theorem dX3_readDigit_8 : decode cX3_readDigit 8 = .ok (.if_icmp .lt 9, 3) := by decide +kernel
theorem dX3_readDigit_11 : decode cX3_readDigit 11 = .ok (.iload_n 1, 1) := by decide +kernel
theorem dX3_readDigit_12 : decode cX3_readDigit 12 = .ok (.bipush 57, 2) := by decide +kernel
theorem dX3_readDigit_14 : decode cX3_readDigit 14 = .ok (.if_icmp .le 5, 3) := by decide +kernel
theorem dX3_readDigit_17 : decode cX3_readDigit 17 = .ok (.iconst (-1), 1) := by decide +kernel
theorem dX3_readDigit_18 : decode cX3_readDigit 18 = .ok (.ireturn, 1) := by decide +kernel
theorem dX3_readDigit_19 : decode cX3_readDigit 19 = .ok (.aload_n 0, 1) := by decide +kernel
theorem dX3_readDigit_20 : decode cX3_readDigit 20 = .ok (.dup, 1) := by decide +kernel
theorem dX3_readDigit_21 : decode cX3_readDigit 21 = .ok (.getfield 32, 3) := by decide +kernel
theorem dX3_readDigit_24 : decode cX3_readDigit 24 = .ok (.iconst 1, 1) := by decide +kernel
theorem dX3_readDigit_25 : decode cX3_readDigit 25 = .ok (.iadd, 1) := by decide +kernel
theorem dX3_readDigit_26 : decode cX3_readDigit 26 = .ok (.putfield 32, 3) := by decide +kernel
theorem dX3_readDigit_29 : decode cX3_readDigit 29 = .ok (.iload_n 1, 1) := by decide +kernel
theorem dX3_readDigit_30 : decode cX3_readDigit 30 = .ok (.bipush 48, 2) := by decide +kernel
theorem dX3_readDigit_32 : decode cX3_readDigit 32 = .ok (.isub, 1) := by decide +kernel
theorem dX3_readDigit_33 : decode cX3_readDigit 33 = .ok (.ireturn, 1) := by decide +kernel
theorem dX3_readSide_0 : decode cX3_readSide 0 = .ok (.aload_n 0, 1) := by decide +kernel
theorem dX3_readSide_1 : decode cX3_readSide 1 = .ok (.invokevirtual 49, 3) := by decide +kernel
theorem dX3_readSide_4 : decode cX3_readSide 4 = .ok (.istore_n 1, 1) := by decide +kernel
theorem dX3_readSide_5 : decode cX3_readSide 5 = .ok (.iload_n 1, 1) := by decide +kernel
theorem dX3_readSide_6 : decode cX3_readSide 6 = .ok (.invokestatic 63, 3) := by decide +kernel
theorem dX3_readSide_9 : decode cX3_readSide 9 = .ok (.istore_n 2, 1) := by decide +kernel
theorem dX3_readSide_10 : decode cX3_readSide 10 = .ok (.iload_n 2, 1) := by decide +kernel
theorem dX3_readSide_11 : decode cX3_readSide 11 = .ok (.iconst (-1), 1) := by decide +kernel
theorem dX3_readSide_12 : decode cX3_readSide 12 = .ok (.if_icmp .eq 13, 3) := by decide +kernel
theorem dX3_readSide_15 : decode cX3_readSide 15 = .ok (.aload_n 0, 1) := by decide +kernel
theorem dX3_readSide_16 : decode cX3_readSide 16 = .ok (.dup, 1) := by decide +kernel
theorem dX3_readSide_17 : decode cX3_readSide 17 = .ok (.getfield 32, 3) := by decide +kernel
theorem dX3_readSide_20 : decode cX3_readSide 20 = .ok (.iconst 1, 1) := by decide +kernel
theorem dX3_readSide_21 : decode cX3_readSide 21 = .ok (.iadd, 1) := by decide +kernel
theorem dX3_readSide_22 : decode cX3_readSide 22 = .ok (.putfield 32, 3) := by decide +kernel
theorem dX3_readSide_25 : decode cX3_readSide 25 = .ok (.iload_n 2, 1) := by decide +kernel
theorem dX3_readSide_26 : decode cX3_readSide 26 = .ok (.ireturn, 1) := by decide +kernel
theorem dX3_sideOfSign_0 : decode cX3_sideOfSign 0 = .ok (.iload_n 0, 1) := by decide +kernel
theorem dX3_sideOfSign_1 : decode cX3_sideOfSign 1 = .ok (.lookupswitch 51 #[(101, 43), (110, 47), (115, 49), (119, 45)], 43) := by decide +kernel
theorem dX3_sideOfSign_44 : decode cX3_sideOfSign 44 = .ok (.iconst 0, 1) := by decide +kernel
theorem dX3_sideOfSign_45 : decode cX3_sideOfSign 45 = .ok (.ireturn, 1) := by decide +kernel
theorem dX3_sideOfSign_46 : decode cX3_sideOfSign 46 = .ok (.iconst 1, 1) := by decide +kernel
theorem dX3_sideOfSign_47 : decode cX3_sideOfSign 47 = .ok (.ireturn, 1) := by decide +kernel
theorem dX3_sideOfSign_48 : decode cX3_sideOfSign 48 = .ok (.iconst 2, 1) := by decide +kernel
theorem dX3_sideOfSign_49 : decode cX3_sideOfSign 49 = .ok (.ireturn, 1) := by decide +kernel
theorem dX3_sideOfSign_50 : decode cX3_sideOfSign 50 = .ok (.iconst 3, 1) := by decide +kernel
theorem dX3_sideOfSign_51 : decode cX3_sideOfSign 51 = .ok (.ireturn, 1) := by decide +kernel
theorem dX3_sideOfSign_52 : decode cX3_sideOfSign 52 = .ok (.iconst (-1), 1) := by decide +kernel
theorem dX3_sideOfSign_53 : decode cX3_sideOfSign 53 = .ok (.ireturn, 1) := by decide +kernel
theorem dX4_init_0 : decode cX4_init 0 = .ok (.aload_n 0, 1) := by decide +kernel
theorem dX4_init_1 : decode cX4_init 1 = .ok (.invokespecial 3, 3) := by decide +kernel
theorem dX4_init_4 : decode cX4_init 4 = .ok (.aload_n 0, 1) := by decide +kernel
theorem dX4_init_5 : decode cX4_init 5 = .ok (.iconst 0, 1) := by decide +kernel
theorem dX4_init_6 : decode cX4_init 6 = .ok (.putfield 9, 3) := by decide +kernel
theorem dX4_init_9 : decode cX4_init 9 = .ok (.aload_n 0, 1) := by decide +kernel
theorem dX4_init_10 : decode cX4_init 10 = .ok (.bipush 100, 2) := by decide +kernel
theorem dX4_init_12 : decode cX4_init 12 = .ok (.newarray .int, 2) := by decide +kernel
theorem dX4_init_14 : decode cX4_init 14 = .ok (.putfield 15, 3) := by decide +kernel
theorem dX4_init_17 : decode cX4_init 17 = .ok (.aload_n 0, 1) := by decide +kernel
theorem dX4_init_18 : decode cX4_init 18 = .ok (.sipush 1250, 3) := by decide +kernel
theorem dX4_init_21 : decode cX4_init 21 = .ok (.newarray .int, 2) := by decide +kernel
theorem dX4_init_23 : decode cX4_init 23 = .ok (.putfield 19, 3) := by decide +kernel
theorem dX4_init_26 : decode cX4_init 26 = .ok (.aload_n 0, 1) := by decide +kernel
theorem dX4_init_27 : decode cX4_init 27 = .ok (.bipush 50, 2) := by decide +kernel
theorem dX4_init_29 : decode cX4_init 29 = .ok (.newarray .int, 2) := by decide +kernel
theorem dX4_init_31 : decode cX4_init 31 = .ok (.putfield 22, 3) := by decide +kernel
theorem dX4_init_34 : decode cX4_init 34 = .ok (.aload_n 0, 1) := by decide +kernel
theorem dX4_init_35 : decode cX4_init 35 = .ok (.bipush 50, 2) := by decide +kernel
theorem dX4_init_37 : decode cX4_init 37 = .ok (.newarray .int, 2) := by decide +kernel
theorem dX4_init_39 : decode cX4_init 39 = .ok (.putfield 25, 3) := by decide +kernel
theorem dX4_init_42 : decode cX4_init 42 = .ok (.aload_n 0, 1) := by decide +kernel
theorem dX4_init_43 : decode cX4_init 43 = .ok (.iconst 0, 1) := by decide +kernel
theorem dX4_init_44 : decode cX4_init 44 = .ok (.putfield 28, 3) := by decide +kernel
theorem dX4_init_47 : decode cX4_init 47 = .ok (.return_, 1) := by decide +kernel
theorem dX4_learn_0 : decode cX4_learn 0 = .ok (.aload_n 1, 1) := by decide +kernel
theorem dX4_learn_1 : decode cX4_learn 1 = .ok (.invokevirtual 32, 3) := by decide +kernel
theorem dX4_learn_4 : decode cX4_learn 4 = .ok (.istore_n 3, 1) := by decide +kernel
theorem dX4_learn_5 : decode cX4_learn 5 = .ok (.aload_n 0, 1) := by decide +kernel
theorem dX4_learn_6 : decode cX4_learn 6 = .ok (.iload_n 2, 1) := by decide +kernel
theorem dX4_learn_7 : decode cX4_learn 7 = .ok (.iconst 1, 1) := by decide +kernel
theorem dX4_learn_8 : decode cX4_learn 8 = .ok (.if_icmp .ne 7, 3) := by decide +kernel
theorem dX4_learn_11 : decode cX4_learn 11 = .ok (.iconst 1, 1) := by decide +kernel
theorem dX4_learn_12 : decode cX4_learn 12 = .ok (.goto 4, 3) := by decide +kernel
theorem dX4_learn_15 : decode cX4_learn 15 = .ok (.iconst 0, 1) := by decide +kernel
theorem dX4_learn_16 : decode cX4_learn 16 = .ok (.putfield 9, 3) := by decide +kernel
theorem dX4_learn_19 : decode cX4_learn 19 = .ok (.iconst 0, 1) := by decide +kernel
theorem dX4_learn_20 : decode cX4_learn 20 = .ok (.istore 4, 2) := by decide +kernel
theorem dX4_learn_22 : decode cX4_learn 22 = .ok (.iload 4, 2) := by decide +kernel
theorem dX4_learn_24 : decode cX4_learn 24 = .ok (.iload_n 3, 1) := by decide +kernel
theorem dX4_learn_25 : decode cX4_learn 25 = .ok (.if_icmp .ge 85, 3) := by decide +kernel
theorem dX4_learn_28 : decode cX4_learn 28 = .ok (.iconst 0, 1) := by decide +kernel
theorem dX4_learn_29 : decode cX4_learn 29 = .ok (.istore 5, 2) := by decide +kernel
theorem dX4_learn_31 : decode cX4_learn 31 = .ok (.iload 5, 2) := by decide +kernel
theorem dX4_learn_33 : decode cX4_learn 33 = .ok (.iconst 4, 1) := by decide +kernel
theorem dX4_learn_34 : decode cX4_learn 34 = .ok (.if_icmp .ge 70, 3) := by decide +kernel
theorem dX4_learn_37 : decode cX4_learn 37 = .ok (.aload_n 1, 1) := by decide +kernel
theorem dX4_learn_38 : decode cX4_learn 38 = .ok (.iload 4, 2) := by decide +kernel
theorem dX4_learn_40 : decode cX4_learn 40 = .ok (.iload 5, 2) := by decide +kernel
theorem dX4_learn_42 : decode cX4_learn 42 = .ok (.invokevirtual 38, 3) := by decide +kernel
theorem dX4_learn_45 : decode cX4_learn 45 = .ok (.istore 6, 2) := by decide +kernel
theorem dX4_learn_47 : decode cX4_learn 47 = .ok (.iload 6, 2) := by decide +kernel
theorem dX4_learn_49 : decode cX4_learn 49 = .ok (.iconst (-1), 1) := by decide +kernel
theorem dX4_learn_50 : decode cX4_learn 50 = .ok (.if_icmp .eq 16, 3) := by decide +kernel
theorem dX4_learn_53 : decode cX4_learn 53 = .ok (.aload_n 1, 1) := by decide +kernel
theorem dX4_learn_54 : decode cX4_learn 54 = .ok (.iload 6, 2) := by decide +kernel
theorem dX4_learn_56 : decode cX4_learn 56 = .ok (.invokevirtual 42, 3) := by decide +kernel
theorem dX4_learn_59 : decode cX4_learn 59 = .ok (.ifCond .eq 7, 3) := by decide +kernel
theorem dX4_learn_62 : decode cX4_learn 62 = .ok (.iconst 1, 1) := by decide +kernel
theorem dX4_learn_63 : decode cX4_learn 63 = .ok (.goto 4, 3) := by decide +kernel
theorem dX4_learn_66 : decode cX4_learn 66 = .ok (.iconst 0, 1) := by decide +kernel
theorem dX4_learn_67 : decode cX4_learn 67 = .ok (.istore 7, 2) := by decide +kernel
theorem dX4_learn_69 : decode cX4_learn 69 = .ok (.aload_n 0, 1) := by decide +kernel
theorem dX4_learn_70 : decode cX4_learn 70 = .ok (.getfield 15, 3) := by decide +kernel
theorem dX4_learn_73 : decode cX4_learn 73 = .ok (.iload 4, 2) := by decide +kernel
theorem dX4_learn_75 : decode cX4_learn 75 = .ok (.iconst 4, 1) := by decide +kernel
theorem dX4_learn_76 : decode cX4_learn 76 = .ok (.imul, 1) := by decide +kernel
theorem dX4_learn_77 : decode cX4_learn 77 = .ok (.iload 5, 2) := by decide +kernel
theorem dX4_learn_79 : decode cX4_learn 79 = .ok (.iadd, 1) := by decide +kernel
theorem dX4_learn_80 : decode cX4_learn 80 = .ok (.iload 7, 2) := by decide +kernel
theorem dX4_learn_82 : decode cX4_learn 82 = .ok (.ifCond .eq 14, 3) := by decide +kernel
theorem dX4_learn_85 : decode cX4_learn 85 = .ok (.aload_n 1, 1) := by decide +kernel
theorem dX4_learn_86 : decode cX4_learn 86 = .ok (.iload 4, 2) := by decide +kernel
theorem dX4_learn_88 : decode cX4_learn 88 = .ok (.iload 5, 2) := by decide +kernel
theorem dX4_learn_90 : decode cX4_learn 90 = .ok (.invokevirtual 46, 3) := by decide +kernel
theorem dX4_learn_93 : decode cX4_learn 93 = .ok (.goto 4, 3) := by decide +kernel
theorem dX4_learn_96 : decode cX4_learn 96 = .ok (.iconst (-1), 1) := by decide +kernel
theorem dX4_learn_97 : decode cX4_learn 97 = .ok (.iastore, 1) := by decide +kernel
theorem dX4_learn_98 : decode cX4_learn 98 = .ok (.iinc 5 1, 3) := by decide +kernel
theorem dX4_learn_101 : decode cX4_learn 101 = .ok (.goto (-70), 3) := by decide +kernel
theorem dX4_learn_104 : decode cX4_learn 104 = .ok (.iinc 4 1, 3) := by decide +kernel
theorem dX4_learn_107 : decode cX4_learn 107 = .ok (.goto (-85), 3) := by decide +kernel
theorem dX4_learn_110 : decode cX4_learn 110 = .ok (.iconst 0, 1) := by decide +kernel
theorem dX4_learn_111 : decode cX4_learn 111 = .ok (.istore 4, 2) := by decide +kernel
theorem dX4_learn_113 : decode cX4_learn 113 = .ok (.iload 4, 2) := by decide +kernel
theorem dX4_learn_115 : decode cX4_learn 115 = .ok (.iload_n 3, 1) := by decide +kernel
theorem dX4_learn_116 : decode cX4_learn 116 = .ok (.if_icmp .ge 15, 3) := by decide +kernel
theorem dX4_learn_119 : decode cX4_learn 119 = .ok (.aload_n 0, 1) := by decide +kernel
theorem dX4_learn_120 : decode cX4_learn 120 = .ok (.iload 4, 2) := by decide +kernel
theorem dX4_learn_122 : decode cX4_learn 122 = .ok (.invokevirtual 49, 3) := by decide +kernel
theorem dX4_learn_125 : decode cX4_learn 125 = .ok (.iinc 4 1, 3) := by decide +kernel
theorem dX4_learn_128 : decode cX4_learn 128 = .ok (.goto (-15), 3) := by decide +kernel
theorem dX4_learn_131 : decode cX4_learn 131 = .ok (.return_, 1) := by decide +kernel
theorem dX4_boxBehind_0 : decode cX4_boxBehind 0 = .ok (.iload_n 1, 1) := by decide +kernel
theorem dX4_boxBehind_1 : decode cX4_boxBehind 1 = .ok (.iconst 4, 1) := by decide +kernel
theorem dX4_boxBehind_2 : decode cX4_boxBehind 2 = .ok (.imul, 1) := by decide +kernel
theorem dX4_boxBehind_3 : decode cX4_boxBehind 3 = .ok (.iload_n 2, 1) := by decide +kernel
theorem dX4_boxBehind_4 : decode cX4_boxBehind 4 = .ok (.iadd, 1) := by decide +kernel
theorem dX4_boxBehind_5 : decode cX4_boxBehind 5 = .ok (.istore_n 3, 1) := by decide +kernel
theorem dX4_boxBehind_6 : decode cX4_boxBehind 6 = .ok (.iload_n 3, 1) := by decide +kernel
theorem dX4_boxBehind_7 : decode cX4_boxBehind 7 = .ok (.ifCond .lt 21, 3) := by decide +kernel
theorem dX4_boxBehind_10 : decode cX4_boxBehind 10 = .ok (.iload_n 3, 1) := by decide +kernel
theorem dX4_boxBehind_11 : decode cX4_boxBehind 11 = .ok (.aload_n 0, 1) := by decide +kernel
theorem dX4_boxBehind_12 : decode cX4_boxBehind 12 = .ok (.getfield 15, 3) := by decide +kernel
theorem dX4_boxBehind_15 : decode cX4_boxBehind 15 = .ok (.arraylength, 1) := by decide +kernel
theorem dX4_boxBehind_16 : decode cX4_boxBehind 16 = .ok (.if_icmp .ge 12, 3) := by decide +kernel
theorem dX4_boxBehind_19 : decode cX4_boxBehind 19 = .ok (.aload_n 0, 1) := by decide +kernel
theorem dX4_boxBehind_20 : decode cX4_boxBehind 20 = .ok (.getfield 15, 3) := by decide +kernel
theorem dX4_boxBehind_23 : decode cX4_boxBehind 23 = .ok (.iload_n 3, 1) := by decide +kernel
theorem dX4_boxBehind_24 : decode cX4_boxBehind 24 = .ok (.iaload, 1) := by decide +kernel
theorem dX4_boxBehind_25 : decode cX4_boxBehind 25 = .ok (.goto 4, 3) := by decide +kernel
theorem dX4_boxBehind_28 : decode cX4_boxBehind 28 = .ok (.iconst (-1), 1) := by decide +kernel
theorem dX4_boxBehind_29 : decode cX4_boxBehind 29 = .ok (.ireturn, 1) := by decide +kernel
theorem dX4_length_0 : decode cX4_length 0 = .ok (.iload_n 3, 1) := by decide +kernel
theorem dX4_length_1 : decode cX4_length 1 = .ok (.bipush 50, 2) := by decide +kernel
theorem dX4_length_3 : decode cX4_length 3 = .ok (.imul, 1) := by decide +kernel
theorem dX4_length_4 : decode cX4_length 4 = .ok (.iload_n 1, 1) := by decide +kernel
theorem dX4_length_5 : decode cX4_length 5 = .ok (.iload_n 2, 1) := by decide +kernel
theorem dX4_length_6 : decode cX4_length 6 = .ok (.invokestatic 53, 3) := by decide +kernel
theorem dX4_length_9 : decode cX4_length 9 = .ok (.iadd, 1) := by decide +kernel
theorem dX4_length_10 : decode cX4_length 10 = .ok (.istore 4, 2) := by decide +kernel
theorem dX4_length_12 : decode cX4_length 12 = .ok (.iload 4, 2) := by decide +kernel
theorem dX4_length_14 : decode cX4_length 14 = .ok (.ifCond .lt 23, 3) := by decide +kernel
theorem dX4_length_17 : decode cX4_length 17 = .ok (.iload 4, 2) := by decide +kernel
theorem dX4_length_19 : decode cX4_length 19 = .ok (.aload_n 0, 1) := by decide +kernel
theorem dX4_length_20 : decode cX4_length 20 = .ok (.getfield 19, 3) := by decide +kernel
theorem dX4_length_23 : decode cX4_length 23 = .ok (.arraylength, 1) := by decide +kernel
theorem dX4_length_24 : decode cX4_length 24 = .ok (.if_icmp .ge 13, 3) := by decide +kernel
theorem dX4_length_27 : decode cX4_length 27 = .ok (.aload_n 0, 1) := by decide +kernel
theorem dX4_length_28 : decode cX4_length 28 = .ok (.getfield 19, 3) := by decide +kernel
theorem dX4_length_31 : decode cX4_length 31 = .ok (.iload 4, 2) := by decide +kernel
theorem dX4_length_33 : decode cX4_length 33 = .ok (.iaload, 1) := by decide +kernel
theorem dX4_length_34 : decode cX4_length 34 = .ok (.goto 6, 3) := by decide +kernel
theorem dX4_length_37 : decode cX4_length 37 = .ok (.sipush 1000, 3) := by decide +kernel
theorem dX4_length_40 : decode cX4_length 40 = .ok (.ireturn, 1) := by decide +kernel
theorem dX4_lengthAfter_0 : decode cX4_lengthAfter 0 = .ok (.aload_n 0, 1) := by decide +kernel
theorem dX4_lengthAfter_1 : decode cX4_lengthAfter 1 = .ok (.iload_n 1, 1) := by decide +kernel
theorem dX4_lengthAfter_2 : decode cX4_lengthAfter 2 = .ok (.iload_n 3, 1) := by decide +kernel
theorem dX4_lengthAfter_3 : decode cX4_lengthAfter 3 = .ok (.invokevirtual 56, 3) := by decide +kernel
theorem dX4_lengthAfter_6 : decode cX4_lengthAfter 6 = .ok (.istore 5, 2) := by decide +kernel
theorem dX4_lengthAfter_8 : decode cX4_lengthAfter 8 = .ok (.iload 5, 2) := by decide +kernel
theorem dX4_lengthAfter_10 : decode cX4_lengthAfter 10 = .ok (.iconst (-1), 1) := by decide +kernel
theorem dX4_lengthAfter_11 : decode cX4_lengthAfter 11 = .ok (.if_icmp .eq 12, 3) := by decide +kernel
theorem dX4_lengthAfter_14 : decode cX4_lengthAfter 14 = .ok (.aload_n 0, 1) := by decide +kernel
theorem dX4_lengthAfter_15 : decode cX4_lengthAfter 15 = .ok (.iload_n 2, 1) := by decide +kernel
theorem dX4_lengthAfter_16 : decode cX4_lengthAfter 16 = .ok (.iload_n 3, 1) := by decide +kernel
theorem dX4_lengthAfter_17 : decode cX4_lengthAfter 17 = .ok (.invokevirtual 59, 3) := by decide +kernel
theorem dX4_lengthAfter_20 : decode cX4_lengthAfter 20 = .ok (.ifCond .ne 7, 3) := by decide +kernel
theorem dX4_lengthAfter_23 : decode cX4_lengthAfter 23 = .ok (.sipush 1000, 3) := by decide +kernel
theorem dX4_lengthAfter_26 : decode cX4_lengthAfter 26 = .ok (.ireturn, 1) := by decide +kernel
theorem dX4_lengthAfter_27 : decode cX4_lengthAfter 27 = .ok (.aload_n 0, 1) := by decide +kernel
theorem dX4_lengthAfter_28 : decode cX4_lengthAfter 28 = .ok (.iload 5, 2) := by decide +kernel
theorem dX4_lengthAfter_30 : decode cX4_lengthAfter 30 = .ok (.iload_n 3, 1) := by decide +kernel
theorem dX4_lengthAfter_31 : decode cX4_lengthAfter 31 = .ok (.ifCond .ne 7, 3) := by decide +kernel
theorem dX4_lengthAfter_34 : decode cX4_lengthAfter 34 = .ok (.iload_n 2, 1) := by decide +kernel
theorem dX4_lengthAfter_35 : decode cX4_lengthAfter 35 = .ok (.goto 4, 3) := by decide +kernel
theorem dX4_lengthAfter_38 : decode cX4_lengthAfter 38 = .ok (.iconst 1, 1) := by decide +kernel
theorem dX4_lengthAfter_39 : decode cX4_lengthAfter 39 = .ok (.iload 4, 2) := by decide +kernel
theorem dX4_lengthAfter_41 : decode cX4_lengthAfter 41 = .ok (.invokevirtual 63, 3) := by decide +kernel
theorem dX4_lengthAfter_44 : decode cX4_lengthAfter 44 = .ok (.ireturn, 1) := by decide +kernel
theorem dX4_shortestWays_0 : decode cX4_shortestWays 0 = .ok (.aload_n 0, 1) := by decide +kernel
theorem dX4_shortestWays_1 : decode cX4_shortestWays 1 = .ok (.iload_n 2, 1) := by decide +kernel
theorem dX4_shortestWays_2 : decode cX4_shortestWays 2 = .ok (.invokevirtual 49, 3) := by decide +kernel
theorem dX4_shortestWays_5 : decode cX4_shortestWays 5 = .ok (.aload_n 0, 1) := by decide +kernel
theorem dX4_shortestWays_6 : decode cX4_shortestWays 6 = .ok (.getfield 22, 3) := by decide +kernel
theorem dX4_shortestWays_9 : decode cX4_shortestWays 9 = .ok (.iload_n 1, 1) := by decide +kernel
theorem dX4_shortestWays_10 : decode cX4_shortestWays 10 = .ok (.iconst 0, 1) := by decide +kernel
theorem dX4_shortestWays_11 : decode cX4_shortestWays 11 = .ok (.invokestatic 53, 3) := by decide +kernel
theorem dX4_shortestWays_14 : decode cX4_shortestWays 14 = .ok (.iaload, 1) := by decide +kernel
theorem dX4_shortestWays_15 : decode cX4_shortestWays 15 = .ok (.ireturn, 1) := by decide +kernel
theorem dX4_spot_0 : decode cX4_spot 0 = .ok (.iload_n 1, 1) := by decide +kernel
theorem dX4_spot_1 : decode cX4_spot 1 = .ok (.bipush 25, 2) := by decide +kernel
theorem dX4_spot_3 : decode cX4_spot 3 = .ok (.imul, 1) := by decide +kernel
theorem dX4_spot_4 : decode cX4_spot 4 = .ok (.iload_n 0, 1) := by decide +kernel
theorem dX4_spot_5 : decode cX4_spot 5 = .ok (.iadd, 1) := by decide +kernel
theorem dX4_spot_6 : decode cX4_spot 6 = .ok (.ireturn, 1) := by decide +kernel
theorem dX4_mayMove_0 : decode cX4_mayMove 0 = .ok (.aload_n 0, 1) := by decide +kernel
theorem dX4_mayMove_1 : decode cX4_mayMove 1 = .ok (.getfield 9, 3) := by decide +kernel
theorem dX4_mayMove_4 : decode cX4_mayMove 4 = .ok (.ifCond .eq 11, 3) := by decide +kernel
theorem dX4_mayMove_7 : decode cX4_mayMove 7 = .ok (.iload_n 1, 1) := by decide +kernel
theorem dX4_mayMove_8 : decode cX4_mayMove 8 = .ok (.ifCond .eq 7, 3) := by decide +kernel
theorem dX4_mayMove_11 : decode cX4_mayMove 11 = .ok (.iload_n 2, 1) := by decide +kernel
theorem dX4_mayMove_12 : decode cX4_mayMove 12 = .ok (.ifCond .eq 7, 3) := by decide +kernel
theorem dX4_mayMove_15 : decode cX4_mayMove 15 = .ok (.iconst 1, 1) := by decide +kernel
theorem dX4_mayMove_16 : decode cX4_mayMove 16 = .ok (.goto 4, 3) := by decide +kernel
theorem dX4_mayMove_19 : decode cX4_mayMove 19 = .ok (.iconst 0, 1) := by decide +kernel
theorem dX4_mayMove_20 : decode cX4_mayMove 20 = .ok (.ireturn, 1) := by decide +kernel
theorem dX4_search_0 : decode cX4_search 0 = .ok (.iconst 0, 1) := by decide +kernel
theorem dX4_search_1 : decode cX4_search 1 = .ok (.istore_n 2, 1) := by decide +kernel
theorem dX4_search_2 : decode cX4_search 2 = .ok (.iload_n 2, 1) := by decide +kernel
theorem dX4_search_3 : decode cX4_search 3 = .ok (.bipush 50, 2) := by decide +kernel
theorem dX4_search_5 : decode cX4_search 5 = .ok (.if_icmp .ge 30, 3) := by decide +kernel
theorem dX4_search_8 : decode cX4_search 8 = .ok (.aload_n 0, 1) := by decide +kernel
theorem dX4_search_9 : decode cX4_search 9 = .ok (.getfield 19, 3) := by decide +kernel
theorem dX4_search_12 : decode cX4_search 12 = .ok (.iload_n 1, 1) := by decide +kernel
theorem dX4_search_13 : decode cX4_search 13 = .ok (.bipush 50, 2) := by decide +kernel
theorem dX4_search_15 : decode cX4_search 15 = .ok (.imul, 1) := by decide +kernel
theorem dX4_search_16 : decode cX4_search 16 = .ok (.iload_n 2, 1) := by decide +kernel
theorem dX4_search_17 : decode cX4_search 17 = .ok (.iadd, 1) := by decide +kernel
theorem dX4_search_18 : decode cX4_search 18 = .ok (.sipush 1000, 3) := by decide +kernel
theorem dX4_search_21 : decode cX4_search 21 = .ok (.iastore, 1) := by decide +kernel
theorem dX4_search_22 : decode cX4_search 22 = .ok (.aload_n 0, 1) := by decide +kernel
theorem dX4_search_23 : decode cX4_search 23 = .ok (.getfield 22, 3) := by decide +kernel
theorem dX4_search_26 : decode cX4_search 26 = .ok (.iload_n 2, 1) := by decide +kernel
theorem dX4_search_27 : decode cX4_search 27 = .ok (.iconst 0, 1) := by decide +kernel
theorem dX4_search_28 : decode cX4_search 28 = .ok (.iastore, 1) := by decide +kernel
theorem dX4_search_29 : decode cX4_search 29 = .ok (.iinc 2 1, 3) := by decide +kernel
theorem dX4_search_32 : decode cX4_search 32 = .ok (.goto (-30), 3) := by decide +kernel
theorem dX4_search_35 : decode cX4_search 35 = .ok (.aload_n 0, 1) := by decide +kernel
theorem dX4_search_36 : decode cX4_search 36 = .ok (.iconst 0, 1) := by decide +kernel
theorem dX4_search_37 : decode cX4_search 37 = .ok (.putfield 28, 3) := by decide +kernel
theorem dX4_search_40 : decode cX4_search 40 = .ok (.aload_n 0, 1) := by decide +kernel
theorem dX4_search_41 : decode cX4_search 41 = .ok (.iload_n 1, 1) := by decide +kernel
theorem dX4_search_42 : decode cX4_search 42 = .ok (.iload_n 1, 1) := by decide +kernel
theorem dX4_search_43 : decode cX4_search 43 = .ok (.iconst 0, 1) := by decide +kernel
theorem dX4_search_44 : decode cX4_search 44 = .ok (.invokestatic 53, 3) := by decide +kernel
theorem dX4_search_47 : decode cX4_search 47 = .ok (.iconst 0, 1) := by decide +kernel
theorem dX4_search_48 : decode cX4_search 48 = .ok (.iconst 1, 1) := by decide +kernel
theorem dX4_search_49 : decode cX4_search 49 = .ok (.invokevirtual 67, 3) := by decide +kernel
theorem dX4_search_52 : decode cX4_search 52 = .ok (.aload_n 0, 1) := by decide +kernel
theorem dX4_search_53 : decode cX4_search 53 = .ok (.iload_n 1, 1) := by decide +kernel
theorem dX4_search_54 : decode cX4_search 54 = .ok (.iload_n 1, 1) := by decide +kernel
theorem dX4_search_55 : decode cX4_search 55 = .ok (.iconst 1, 1) := by decide +kernel
theorem dX4_search_56 : decode cX4_search 56 = .ok (.invokestatic 53, 3) := by decide +kernel
theorem dX4_search_59 : decode cX4_search 59 = .ok (.iconst 0, 1) := by decide +kernel
theorem dX4_search_60 : decode cX4_search 60 = .ok (.iconst 1, 1) := by decide +kernel
theorem dX4_search_61 : decode cX4_search 61 = .ok (.invokevirtual 67, 3) := by decide +kernel
theorem dX4_search_64 : decode cX4_search 64 = .ok (.iconst 0, 1) := by decide +kernel
theorem dX4_search_65 : decode cX4_search 65 = .ok (.istore_n 2, 1) := by decide +kernel
theorem dX4_search_66 : decode cX4_search 66 = .ok (.iload_n 2, 1) := by decide +kernel
theorem dX4_search_67 : decode cX4_search 67 = .ok (.aload_n 0, 1) := by decide +kernel
theorem dX4_search_68 : decode cX4_search 68 = .ok (.getfield 28, 3) := by decide +kernel
theorem dX4_search_71 : decode cX4_search 71 = .ok (.if_icmp .ge 38, 3) := by decide +kernel
theorem dX4_search_74 : decode cX4_search 74 = .ok (.iload_n 2, 1) := by decide +kernel
theorem dX4_search_75 : decode cX4_search 75 = .ok (.bipush 50, 2) := by decide +kernel
theorem dX4_search_77 : decode cX4_search 77 = .ok (.if_icmp .ge 32, 3) := by decide +kernel
theorem dX4_search_80 : decode cX4_search 80 = .ok (.aload_n 0, 1) := by decide +kernel
theorem dX4_search_81 : decode cX4_search 81 = .ok (.iload_n 1, 1) := by decide +kernel
theorem dX4_search_82 : decode cX4_search 82 = .ok (.aload_n 0, 1) := by decide +kernel
theorem dX4_search_83 : decode cX4_search 83 = .ok (.getfield 25, 3) := by decide +kernel
theorem dX4_search_86 : decode cX4_search 86 = .ok (.iload_n 2, 1) := by decide +kernel
theorem dX4_search_87 : decode cX4_search 87 = .ok (.iaload, 1) := by decide +kernel
theorem dX4_search_88 : decode cX4_search 88 = .ok (.bipush 25, 2) := by decide +kernel
theorem dX4_search_90 : decode cX4_search 90 = .ok (.irem, 1) := by decide +kernel
theorem dX4_search_91 : decode cX4_search 91 = .ok (.aload_n 0, 1) := by decide +kernel
theorem dX4_search_92 : decode cX4_search 92 = .ok (.getfield 25, 3) := by decide +kernel
theorem dX4_search_95 : decode cX4_search 95 = .ok (.iload_n 2, 1) := by decide +kernel
theorem dX4_search_96 : decode cX4_search 96 = .ok (.iaload, 1) := by decide +kernel
theorem dX4_search_97 : decode cX4_search 97 = .ok (.bipush 25, 2) := by decide +kernel
theorem dX4_search_99 : decode cX4_search 99 = .ok (.idiv, 1) := by decide +kernel
theorem dX4_search_100 : decode cX4_search 100 = .ok (.invokevirtual 71, 3) := by decide +kernel
theorem dX4_search_103 : decode cX4_search 103 = .ok (.iinc 2 1, 3) := by decide +kernel
theorem dX4_search_106 : decode cX4_search 106 = .ok (.goto (-40), 3) := by decide +kernel
theorem dX4_search_109 : decode cX4_search 109 = .ok (.return_, 1) := by decide +kernel
theorem dX4_stepBack_0 : decode cX4_stepBack 0 = .ok (.iload_n 2, 1) := by decide +kernel
theorem dX4_stepBack_1 : decode cX4_stepBack 1 = .ok (.iload_n 3, 1) := by decide +kernel
theorem dX4_stepBack_2 : decode cX4_stepBack 2 = .ok (.invokestatic 53, 3) := by decide +kernel
theorem dX4_stepBack_5 : decode cX4_stepBack 5 = .ok (.istore 4, 2) := by decide +kernel
theorem dX4_stepBack_7 : decode cX4_stepBack 7 = .ok (.aload_n 0, 1) := by decide +kernel
theorem dX4_stepBack_8 : decode cX4_stepBack 8 = .ok (.getfield 19, 3) := by decide +kernel
theorem dX4_stepBack_11 : decode cX4_stepBack 11 = .ok (.iload_n 1, 1) := by decide +kernel
theorem dX4_stepBack_12 : decode cX4_stepBack 12 = .ok (.bipush 50, 2) := by decide +kernel
theorem dX4_stepBack_14 : decode cX4_stepBack 14 = .ok (.imul, 1) := by decide +kernel
theorem dX4_stepBack_15 : decode cX4_stepBack 15 = .ok (.iload 4, 2) := by decide +kernel
theorem dX4_stepBack_17 : decode cX4_stepBack 17 = .ok (.iadd, 1) := by decide +kernel
theorem dX4_stepBack_18 : decode cX4_stepBack 18 = .ok (.iaload, 1) := by decide +kernel
theorem dX4_stepBack_19 : decode cX4_stepBack 19 = .ok (.iconst 1, 1) := by decide +kernel
theorem dX4_stepBack_20 : decode cX4_stepBack 20 = .ok (.iadd, 1) := by decide +kernel
theorem dX4_stepBack_21 : decode cX4_stepBack 21 = .ok (.istore 5, 2) := by decide +kernel
theorem dX4_stepBack_23 : decode cX4_stepBack 23 = .ok (.aload_n 0, 1) := by decide +kernel
theorem dX4_stepBack_24 : decode cX4_stepBack 24 = .ok (.iload_n 2, 1) := by decide +kernel
theorem dX4_stepBack_25 : decode cX4_stepBack 25 = .ok (.iconst 1, 1) := by decide +kernel
theorem dX4_stepBack_26 : decode cX4_stepBack 26 = .ok (.invokevirtual 56, 3) := by decide +kernel
theorem dX4_stepBack_29 : decode cX4_stepBack 29 = .ok (.istore 6, 2) := by decide +kernel
theorem dX4_stepBack_31 : decode cX4_stepBack 31 = .ok (.iload 6, 2) := by decide +kernel
theorem dX4_stepBack_33 : decode cX4_stepBack 33 = .ok (.iconst (-1), 1) := by decide +kernel
theorem dX4_stepBack_34 : decode cX4_stepBack 34 = .ok (.if_icmp .eq 32, 3) := by decide +kernel
theorem dX4_stepBack_37 : decode cX4_stepBack 37 = .ok (.aload_n 0, 1) := by decide +kernel
theorem dX4_stepBack_38 : decode cX4_stepBack 38 = .ok (.iload_n 3, 1) := by decide +kernel
theorem dX4_stepBack_39 : decode cX4_stepBack 39 = .ok (.iconst 0, 1) := by decide +kernel
theorem dX4_stepBack_40 : decode cX4_stepBack 40 = .ok (.invokevirtual 59, 3) := by decide +kernel
theorem dX4_stepBack_43 : decode cX4_stepBack 43 = .ok (.ifCond .eq 23, 3) := by decide +kernel
theorem dX4_stepBack_46 : decode cX4_stepBack 46 = .ok (.aload_n 0, 1) := by decide +kernel
theorem dX4_stepBack_47 : decode cX4_stepBack 47 = .ok (.iload_n 1, 1) := by decide +kernel
theorem dX4_stepBack_48 : decode cX4_stepBack 48 = .ok (.iload 6, 2) := by decide +kernel
theorem dX4_stepBack_50 : decode cX4_stepBack 50 = .ok (.iload_n 3, 1) := by decide +kernel
theorem dX4_stepBack_51 : decode cX4_stepBack 51 = .ok (.invokestatic 53, 3) := by decide +kernel
theorem dX4_stepBack_54 : decode cX4_stepBack 54 = .ok (.iload 5, 2) := by decide +kernel
theorem dX4_stepBack_56 : decode cX4_stepBack 56 = .ok (.aload_n 0, 1) := by decide +kernel
theorem dX4_stepBack_57 : decode cX4_stepBack 57 = .ok (.getfield 22, 3) := by decide +kernel
theorem dX4_stepBack_60 : decode cX4_stepBack 60 = .ok (.iload 4, 2) := by decide +kernel
theorem dX4_stepBack_62 : decode cX4_stepBack 62 = .ok (.iaload, 1) := by decide +kernel
theorem dX4_stepBack_63 : decode cX4_stepBack 63 = .ok (.invokevirtual 67, 3) := by decide +kernel
theorem dX4_stepBack_66 : decode cX4_stepBack 66 = .ok (.iconst 1, 1) := by decide +kernel
theorem dX4_stepBack_67 : decode cX4_stepBack 67 = .ok (.istore 7, 2) := by decide +kernel
theorem dX4_stepBack_69 : decode cX4_stepBack 69 = .ok (.iload 7, 2) := by decide +kernel
theorem dX4_stepBack_71 : decode cX4_stepBack 71 = .ok (.iconst 4, 1) := by decide +kernel
theorem dX4_stepBack_72 : decode cX4_stepBack 72 = .ok (.if_icmp .ge 72, 3) := by decide +kernel
theorem dX4_stepBack_75 : decode cX4_stepBack 75 = .ok (.iload_n 3, 1) := by decide +kernel
theorem dX4_stepBack_76 : decode cX4_stepBack 76 = .ok (.iconst 1, 1) := by decide +kernel
theorem dX4_stepBack_77 : decode cX4_stepBack 77 = .ok (.if_icmp .ne 67, 3) := by decide +kernel
theorem dX4_stepBack_80 : decode cX4_stepBack 80 = .ok (.aload_n 0, 1) := by decide +kernel
theorem dX4_stepBack_81 : decode cX4_stepBack 81 = .ok (.iload_n 2, 1) := by decide +kernel
theorem dX4_stepBack_82 : decode cX4_stepBack 82 = .ok (.iload 7, 2) := by decide +kernel
theorem dX4_stepBack_84 : decode cX4_stepBack 84 = .ok (.invokestatic 75, 3) := by decide +kernel
theorem dX4_stepBack_87 : decode cX4_stepBack 87 = .ok (.invokevirtual 56, 3) := by decide +kernel
theorem dX4_stepBack_90 : decode cX4_stepBack 90 = .ok (.istore 8, 2) := by decide +kernel
theorem dX4_stepBack_92 : decode cX4_stepBack 92 = .ok (.iload 8, 2) := by decide +kernel
theorem dX4_stepBack_94 : decode cX4_stepBack 94 = .ok (.iconst (-1), 1) := by decide +kernel
theorem dX4_stepBack_95 : decode cX4_stepBack 95 = .ok (.if_icmp .eq 43, 3) := by decide +kernel
theorem dX4_stepBack_98 : decode cX4_stepBack 98 = .ok (.aload_n 0, 1) := by decide +kernel
theorem dX4_stepBack_99 : decode cX4_stepBack 99 = .ok (.iload_n 1, 1) := by decide +kernel
theorem dX4_stepBack_100 : decode cX4_stepBack 100 = .ok (.iload 8, 2) := by decide +kernel
theorem dX4_stepBack_102 : decode cX4_stepBack 102 = .ok (.iconst 0, 1) := by decide +kernel
theorem dX4_stepBack_103 : decode cX4_stepBack 103 = .ok (.invokestatic 53, 3) := by decide +kernel
theorem dX4_stepBack_106 : decode cX4_stepBack 106 = .ok (.iload 5, 2) := by decide +kernel
theorem dX4_stepBack_108 : decode cX4_stepBack 108 = .ok (.aload_n 0, 1) := by decide +kernel
theorem dX4_stepBack_109 : decode cX4_stepBack 109 = .ok (.getfield 22, 3) := by decide +kernel
theorem dX4_stepBack_112 : decode cX4_stepBack 112 = .ok (.iload 4, 2) := by decide +kernel
theorem dX4_stepBack_114 : decode cX4_stepBack 114 = .ok (.iaload, 1) := by decide +kernel
theorem dX4_stepBack_115 : decode cX4_stepBack 115 = .ok (.invokevirtual 67, 3) := by decide +kernel
theorem dX4_stepBack_118 : decode cX4_stepBack 118 = .ok (.aload_n 0, 1) := by decide +kernel
theorem dX4_stepBack_119 : decode cX4_stepBack 119 = .ok (.iload_n 1, 1) := by decide +kernel
theorem dX4_stepBack_120 : decode cX4_stepBack 120 = .ok (.iload 8, 2) := by decide +kernel
theorem dX4_stepBack_122 : decode cX4_stepBack 122 = .ok (.iconst 1, 1) := by decide +kernel
theorem dX4_stepBack_123 : decode cX4_stepBack 123 = .ok (.invokestatic 53, 3) := by decide +kernel
theorem dX4_stepBack_126 : decode cX4_stepBack 126 = .ok (.iload 5, 2) := by decide +kernel
theorem dX4_stepBack_128 : decode cX4_stepBack 128 = .ok (.aload_n 0, 1) := by decide +kernel
theorem dX4_stepBack_129 : decode cX4_stepBack 129 = .ok (.getfield 22, 3) := by decide +kernel
theorem dX4_stepBack_132 : decode cX4_stepBack 132 = .ok (.iload 4, 2) := by decide +kernel
theorem dX4_stepBack_134 : decode cX4_stepBack 134 = .ok (.iaload, 1) := by decide +kernel
theorem dX4_stepBack_135 : decode cX4_stepBack 135 = .ok (.invokevirtual 67, 3) := by decide +kernel
theorem dX4_stepBack_138 : decode cX4_stepBack 138 = .ok (.iinc 7 1, 3) := by decide +kernel
theorem dX4_stepBack_141 : decode cX4_stepBack 141 = .ok (.goto (-72), 3) := by decide +kernel
theorem dX4_stepBack_144 : decode cX4_stepBack 144 = .ok (.return_, 1) := by decide +kernel
theorem dX4_opposite_0 : decode cX4_opposite 0 = .ok (.iload_n 0, 1) := by decide +kernel
theorem dX4_opposite_1 : decode cX4_opposite 1 = .ok (.tableswitch 33 0 2 #[27, 29, 31], 27) := by decide +kernel
theorem dX4_opposite_28 : decode cX4_opposite 28 = .ok (.iconst 1, 1) := by decide +kernel
theorem dX4_opposite_29 : decode cX4_opposite 29 = .ok (.ireturn, 1) := by decide +kernel
theorem dX4_opposite_30 : decode cX4_opposite 30 = .ok (.iconst 0, 1) := by decide +kernel
theorem dX4_opposite_31 : decode cX4_opposite 31 = .ok (.ireturn, 1) := by decide +kernel
theorem dX4_opposite_32 : decode cX4_opposite 32 = .ok (.iconst 3, 1) := by decide +kernel
theorem dX4_opposite_33 : decode cX4_opposite 33 = .ok (.ireturn, 1) := by decide +kernel
theorem dX4_opposite_34 : decode cX4_opposite 34 = .ok (.iconst 2, 1) := by decide +kernel
theorem dX4_opposite_35 : decode cX4_opposite 35 = .ok (.ireturn, 1) := by decide +kernel
theorem dX4_reach_0 : decode cX4_reach 0 = .ok (.aload_n 0, 1) := by decide +kernel
theorem dX4_reach_1 : decode cX4_reach 1 = .ok (.getfield 19, 3) := by decide +kernel
theorem dX4_reach_4 : decode cX4_reach 4 = .ok (.iload_n 1, 1) := by decide +kernel
theorem dX4_reach_5 : decode cX4_reach 5 = .ok (.bipush 50, 2) := by decide +kernel
theorem dX4_reach_7 : decode cX4_reach 7 = .ok (.imul, 1) := by decide +kernel
theorem dX4_reach_8 : decode cX4_reach 8 = .ok (.iload_n 2, 1) := by decide +kernel
theorem dX4_reach_9 : decode cX4_reach 9 = .ok (.iadd, 1) := by decide +kernel
theorem dX4_reach_10 : decode cX4_reach 10 = .ok (.iaload, 1) := by decide +kernel
theorem dX4_reach_11 : decode cX4_reach 11 = .ok (.istore 5, 2) := by decide +kernel
theorem dX4_reach_13 : decode cX4_reach 13 = .ok (.iload 5, 2) := by decide +kernel
theorem dX4_reach_15 : decode cX4_reach 15 = .ok (.sipush 1000, 3) := by decide +kernel
theorem dX4_reach_18 : decode cX4_reach 18 = .ok (.if_icmp .ne 44, 3) := by decide +kernel
theorem dX4_reach_21 : decode cX4_reach 21 = .ok (.aload_n 0, 1) := by decide +kernel
theorem dX4_reach_22 : decode cX4_reach 22 = .ok (.getfield 28, 3) := by decide +kernel
theorem dX4_reach_25 : decode cX4_reach 25 = .ok (.bipush 50, 2) := by decide +kernel
theorem dX4_reach_27 : decode cX4_reach 27 = .ok (.if_icmp .ge 35, 3) := by decide +kernel
theorem dX4_reach_30 : decode cX4_reach 30 = .ok (.aload_n 0, 1) := by decide +kernel
theorem dX4_reach_31 : decode cX4_reach 31 = .ok (.getfield 19, 3) := by decide +kernel
theorem dX4_reach_34 : decode cX4_reach 34 = .ok (.iload_n 1, 1) := by decide +kernel
theorem dX4_reach_35 : decode cX4_reach 35 = .ok (.bipush 50, 2) := by decide +kernel
theorem dX4_reach_37 : decode cX4_reach 37 = .ok (.imul, 1) := by decide +kernel
theorem dX4_reach_38 : decode cX4_reach 38 = .ok (.iload_n 2, 1) := by decide +kernel
theorem dX4_reach_39 : decode cX4_reach 39 = .ok (.iadd, 1) := by decide +kernel
theorem dX4_reach_40 : decode cX4_reach 40 = .ok (.iload_n 3, 1) := by decide +kernel
theorem dX4_reach_41 : decode cX4_reach 41 = .ok (.iastore, 1) := by decide +kernel
theorem dX4_reach_42 : decode cX4_reach 42 = .ok (.aload_n 0, 1) := by decide +kernel
theorem dX4_reach_43 : decode cX4_reach 43 = .ok (.getfield 25, 3) := by decide +kernel
theorem dX4_reach_46 : decode cX4_reach 46 = .ok (.aload_n 0, 1) := by decide +kernel
theorem dX4_reach_47 : decode cX4_reach 47 = .ok (.getfield 28, 3) := by decide +kernel
theorem dX4_reach_50 : decode cX4_reach 50 = .ok (.iload_n 2, 1) := by decide +kernel
theorem dX4_reach_51 : decode cX4_reach 51 = .ok (.iastore, 1) := by decide +kernel
theorem dX4_reach_52 : decode cX4_reach 52 = .ok (.aload_n 0, 1) := by decide +kernel
theorem dX4_reach_53 : decode cX4_reach 53 = .ok (.dup, 1) := by decide +kernel
theorem dX4_reach_54 : decode cX4_reach 54 = .ok (.getfield 28, 3) := by decide +kernel
theorem dX4_reach_57 : decode cX4_reach 57 = .ok (.iconst 1, 1) := by decide +kernel
theorem dX4_reach_58 : decode cX4_reach 58 = .ok (.iadd, 1) := by decide +kernel
theorem dX4_reach_59 : decode cX4_reach 59 = .ok (.putfield 28, 3) := by decide +kernel
theorem dX4_reach_62 : decode cX4_reach 62 = .ok (.iload 5, 2) := by decide +kernel
theorem dX4_reach_64 : decode cX4_reach 64 = .ok (.iload_n 3, 1) := by decide +kernel
theorem dX4_reach_65 : decode cX4_reach 65 = .ok (.if_icmp .lt 14, 3) := by decide +kernel
theorem dX4_reach_68 : decode cX4_reach 68 = .ok (.aload_n 0, 1) := by decide +kernel
theorem dX4_reach_69 : decode cX4_reach 69 = .ok (.getfield 22, 3) := by decide +kernel
theorem dX4_reach_72 : decode cX4_reach 72 = .ok (.iload_n 2, 1) := by decide +kernel
theorem dX4_reach_73 : decode cX4_reach 73 = .ok (.dup2, 1) := by decide +kernel
theorem dX4_reach_74 : decode cX4_reach 74 = .ok (.iaload, 1) := by decide +kernel
theorem dX4_reach_75 : decode cX4_reach 75 = .ok (.iload 4, 2) := by decide +kernel
theorem dX4_reach_77 : decode cX4_reach 77 = .ok (.iadd, 1) := by decide +kernel
theorem dX4_reach_78 : decode cX4_reach 78 = .ok (.iastore, 1) := by decide +kernel
theorem dX4_reach_79 : decode cX4_reach 79 = .ok (.return_, 1) := by decide +kernel
theorem dX5_init_0 : decode cX5_init 0 = .ok (.aload_n 0, 1) := by decide +kernel
theorem dX5_init_1 : decode cX5_init 1 = .ok (.invokespecial 3, 3) := by decide +kernel
theorem dX5_init_4 : decode cX5_init 4 = .ok (.aload_n 0, 1) := by decide +kernel
theorem dX5_init_5 : decode cX5_init 5 = .ok (.iconst 3, 1) := by decide +kernel
theorem dX5_init_6 : decode cX5_init 6 = .ok (.newarray .int, 2) := by decide +kernel
theorem dX5_init_8 : decode cX5_init 8 = .ok (.dup, 1) := by decide +kernel
theorem dX5_init_9 : decode cX5_init 9 = .ok (.iconst 0, 1) := by decide +kernel
theorem dX5_init_10 : decode cX5_init 10 = .ok (.iconst 1, 1) := by decide +kernel
theorem dX5_init_11 : decode cX5_init 11 = .ok (.iastore, 1) := by decide +kernel
theorem dX5_init_12 : decode cX5_init 12 = .ok (.dup, 1) := by decide +kernel
theorem dX5_init_13 : decode cX5_init 13 = .ok (.iconst 1, 1) := by decide +kernel
theorem dX5_init_14 : decode cX5_init 14 = .ok (.iconst 0, 1) := by decide +kernel
theorem dX5_init_15 : decode cX5_init 15 = .ok (.iastore, 1) := by decide +kernel
theorem dX5_init_16 : decode cX5_init 16 = .ok (.dup, 1) := by decide +kernel
theorem dX5_init_17 : decode cX5_init 17 = .ok (.iconst 2, 1) := by decide +kernel
theorem dX5_init_18 : decode cX5_init 18 = .ok (.iconst 1, 1) := by decide +kernel
theorem dX5_init_19 : decode cX5_init 19 = .ok (.iastore, 1) := by decide +kernel
theorem dX5_init_20 : decode cX5_init 20 = .ok (.putfield 9, 3) := by decide +kernel
theorem dX5_init_23 : decode cX5_init 23 = .ok (.aload_n 0, 1) := by decide +kernel
theorem dX5_init_24 : decode cX5_init 24 = .ok (.new 15, 3) := by decide +kernel
theorem dX5_init_27 : decode cX5_init 27 = .ok (.dup, 1) := by decide +kernel
theorem dX5_init_28 : decode cX5_init 28 = .ok (.invokespecial 17, 3) := by decide +kernel
theorem dX5_init_31 : decode cX5_init 31 = .ok (.putfield 18, 3) := by decide +kernel
theorem dX5_init_34 : decode cX5_init 34 = .ok (.aload_n 0, 1) := by decide +kernel
theorem dX5_init_35 : decode cX5_init 35 = .ok (.new 22, 3) := by decide +kernel
theorem dX5_init_38 : decode cX5_init 38 = .ok (.dup, 1) := by decide +kernel
theorem dX5_init_39 : decode cX5_init 39 = .ok (.invokespecial 24, 3) := by decide +kernel
theorem dX5_init_42 : decode cX5_init 42 = .ok (.putfield 25, 3) := by decide +kernel
theorem dX5_init_45 : decode cX5_init 45 = .ok (.aload_n 0, 1) := by decide +kernel
theorem dX5_init_46 : decode cX5_init 46 = .ok (.bipush 25, 2) := by decide +kernel
theorem dX5_init_48 : decode cX5_init 48 = .ok (.newarray .int, 2) := by decide +kernel
theorem dX5_init_50 : decode cX5_init 50 = .ok (.putfield 29, 3) := by decide +kernel
theorem dX5_init_53 : decode cX5_init 53 = .ok (.aload_n 0, 1) := by decide +kernel
theorem dX5_init_54 : decode cX5_init 54 = .ok (.bipush 100, 2) := by decide +kernel
theorem dX5_init_56 : decode cX5_init 56 = .ok (.newarray .int, 2) := by decide +kernel
theorem dX5_init_58 : decode cX5_init 58 = .ok (.putfield 32, 3) := by decide +kernel
theorem dX5_init_61 : decode cX5_init 61 = .ok (.aload_n 0, 1) := by decide +kernel
theorem dX5_init_62 : decode cX5_init 62 = .ok (.iconst 0, 1) := by decide +kernel
theorem dX5_init_63 : decode cX5_init 63 = .ok (.putfield 35, 3) := by decide +kernel
theorem dX5_init_66 : decode cX5_init 66 = .ok (.return_, 1) := by decide +kernel
theorem dX5_copyState_0 : decode cX5_copyState 0 = .ok (.aload_n 0, 1) := by decide +kernel
theorem dX5_copyState_1 : decode cX5_copyState 1 = .ok (.ifnull 7, 3) := by decide +kernel
theorem dX5_copyState_4 : decode cX5_copyState 4 = .ok (.aload_n 1, 1) := by decide +kernel
theorem dX5_copyState_5 : decode cX5_copyState 5 = .ok (.ifnonnull 4, 3) := by decide +kernel
theorem dX5_copyState_8 : decode cX5_copyState 8 = .ok (.return_, 1) := by decide +kernel
theorem dX5_copyState_9 : decode cX5_copyState 9 = .ok (.aload_n 0, 1) := by decide +kernel
theorem dX5_copyState_10 : decode cX5_copyState 10 = .ok (.getfield 9, 3) := by decide +kernel
theorem dX5_copyState_13 : decode cX5_copyState 13 = .ok (.iconst 0, 1) := by decide +kernel
theorem dX5_copyState_14 : decode cX5_copyState 14 = .ok (.aload_n 1, 1) := by decide +kernel
theorem dX5_copyState_15 : decode cX5_copyState 15 = .ok (.getfield 9, 3) := by decide +kernel
theorem dX5_copyState_18 : decode cX5_copyState 18 = .ok (.iconst 0, 1) := by decide +kernel
theorem dX5_copyState_19 : decode cX5_copyState 19 = .ok (.iconst 3, 1) := by decide +kernel
theorem dX5_copyState_20 : decode cX5_copyState 20 = .ok (.invokestatic 39, 3) := by decide +kernel
theorem dX5_copyState_23 : decode cX5_copyState 23 = .ok (.aload_n 1, 1) := by decide +kernel
theorem dX5_copyState_24 : decode cX5_copyState 24 = .ok (.getfield 18, 3) := by decide +kernel
theorem dX5_copyState_27 : decode cX5_copyState 27 = .ok (.aload_n 0, 1) := by decide +kernel
theorem dX5_copyState_28 : decode cX5_copyState 28 = .ok (.getfield 18, 3) := by decide +kernel
theorem dX5_copyState_31 : decode cX5_copyState 31 = .ok (.invokevirtual 45, 3) := by decide +kernel
theorem dX5_copyState_34 : decode cX5_copyState 34 = .ok (.aload_n 1, 1) := by decide +kernel
theorem dX5_copyState_35 : decode cX5_copyState 35 = .ok (.getfield 25, 3) := by decide +kernel
theorem dX5_copyState_38 : decode cX5_copyState 38 = .ok (.aload_n 0, 1) := by decide +kernel
theorem dX5_copyState_39 : decode cX5_copyState 39 = .ok (.getfield 25, 3) := by decide +kernel
theorem dX5_copyState_42 : decode cX5_copyState 42 = .ok (.invokevirtual 49, 3) := by decide +kernel
theorem dX5_copyState_45 : decode cX5_copyState 45 = .ok (.aload_n 0, 1) := by decide +kernel
theorem dX5_copyState_46 : decode cX5_copyState 46 = .ok (.getfield 29, 3) := by decide +kernel
theorem dX5_copyState_49 : decode cX5_copyState 49 = .ok (.iconst 0, 1) := by decide +kernel
theorem dX5_copyState_50 : decode cX5_copyState 50 = .ok (.aload_n 1, 1) := by decide +kernel
theorem dX5_copyState_51 : decode cX5_copyState 51 = .ok (.getfield 29, 3) := by decide +kernel
theorem dX5_copyState_54 : decode cX5_copyState 54 = .ok (.iconst 0, 1) := by decide +kernel
theorem dX5_copyState_55 : decode cX5_copyState 55 = .ok (.bipush 25, 2) := by decide +kernel
theorem dX5_copyState_57 : decode cX5_copyState 57 = .ok (.invokestatic 39, 3) := by decide +kernel
theorem dX5_copyState_60 : decode cX5_copyState 60 = .ok (.aload_n 0, 1) := by decide +kernel
theorem dX5_copyState_61 : decode cX5_copyState 61 = .ok (.getfield 32, 3) := by decide +kernel
theorem dX5_copyState_64 : decode cX5_copyState 64 = .ok (.iconst 0, 1) := by decide +kernel
theorem dX5_copyState_65 : decode cX5_copyState 65 = .ok (.aload_n 1, 1) := by decide +kernel
theorem dX5_copyState_66 : decode cX5_copyState 66 = .ok (.getfield 32, 3) := by decide +kernel
theorem dX5_copyState_69 : decode cX5_copyState 69 = .ok (.iconst 0, 1) := by decide +kernel
theorem dX5_copyState_70 : decode cX5_copyState 70 = .ok (.bipush 100, 2) := by decide +kernel
theorem dX5_copyState_72 : decode cX5_copyState 72 = .ok (.invokestatic 39, 3) := by decide +kernel
theorem dX5_copyState_75 : decode cX5_copyState 75 = .ok (.aload_n 1, 1) := by decide +kernel
theorem dX5_copyState_76 : decode cX5_copyState 76 = .ok (.aload_n 0, 1) := by decide +kernel
theorem dX5_copyState_77 : decode cX5_copyState 77 = .ok (.getfield 35, 3) := by decide +kernel
theorem dX5_copyState_80 : decode cX5_copyState 80 = .ok (.putfield 35, 3) := by decide +kernel
theorem dX5_copyState_83 : decode cX5_copyState 83 = .ok (.return_, 1) := by decide +kernel
theorem dX5_hasRoom_0 : decode cX5_hasRoom 0 = .ok (.iload_n 1, 1) := by decide +kernel
theorem dX5_hasRoom_1 : decode cX5_hasRoom 1 = .ok (.ifCond .lt 31, 3) := by decide +kernel
theorem dX5_hasRoom_4 : decode cX5_hasRoom 4 = .ok (.iload_n 1, 1) := by decide +kernel
theorem dX5_hasRoom_5 : decode cX5_hasRoom 5 = .ok (.aload_n 0, 1) := by decide +kernel
theorem dX5_hasRoom_6 : decode cX5_hasRoom 6 = .ok (.getfield 29, 3) := by decide +kernel
theorem dX5_hasRoom_9 : decode cX5_hasRoom 9 = .ok (.arraylength, 1) := by decide +kernel
theorem dX5_hasRoom_10 : decode cX5_hasRoom 10 = .ok (.if_icmp .ge 22, 3) := by decide +kernel
theorem dX5_hasRoom_13 : decode cX5_hasRoom 13 = .ok (.aload_n 0, 1) := by decide +kernel
theorem dX5_hasRoom_14 : decode cX5_hasRoom 14 = .ok (.getfield 29, 3) := by decide +kernel
theorem dX5_hasRoom_17 : decode cX5_hasRoom 17 = .ok (.iload_n 1, 1) := by decide +kernel
theorem dX5_hasRoom_18 : decode cX5_hasRoom 18 = .ok (.iaload, 1) := by decide +kernel
theorem dX5_hasRoom_19 : decode cX5_hasRoom 19 = .ok (.aload_n 0, 1) := by decide +kernel
theorem dX5_hasRoom_20 : decode cX5_hasRoom 20 = .ok (.getfield 9, 3) := by decide +kernel
theorem dX5_hasRoom_23 : decode cX5_hasRoom 23 = .ok (.iconst 2, 1) := by decide +kernel
theorem dX5_hasRoom_24 : decode cX5_hasRoom 24 = .ok (.iaload, 1) := by decide +kernel
theorem dX5_hasRoom_25 : decode cX5_hasRoom 25 = .ok (.if_icmp .ge 7, 3) := by decide +kernel
theorem dX5_hasRoom_28 : decode cX5_hasRoom 28 = .ok (.iconst 1, 1) := by decide +kernel
theorem dX5_hasRoom_29 : decode cX5_hasRoom 29 = .ok (.goto 4, 3) := by decide +kernel
theorem dX5_hasRoom_32 : decode cX5_hasRoom 32 = .ok (.iconst 0, 1) := by decide +kernel
theorem dX5_hasRoom_33 : decode cX5_hasRoom 33 = .ok (.ireturn, 1) := by decide +kernel
theorem dX5_wayLength_0 : decode cX5_wayLength 0 = .ok (.aload_n 1, 1) := by decide +kernel
theorem dX5_wayLength_1 : decode cX5_wayLength 1 = .ok (.iload_n 2, 1) := by decide +kernel
theorem dX5_wayLength_2 : decode cX5_wayLength 2 = .ok (.iconst 0, 1) := by decide +kernel
theorem dX5_wayLength_3 : decode cX5_wayLength 3 = .ok (.iload_n 3, 1) := by decide +kernel
theorem dX5_wayLength_4 : decode cX5_wayLength 4 = .ok (.invokevirtual 53, 3) := by decide +kernel
theorem dX5_wayLength_7 : decode cX5_wayLength 7 = .ok (.istore 4, 2) := by decide +kernel
theorem dX5_wayLength_9 : decode cX5_wayLength 9 = .ok (.iload 4, 2) := by decide +kernel
theorem dX5_wayLength_11 : decode cX5_wayLength 11 = .ok (.aload_n 0, 1) := by decide +kernel
theorem dX5_wayLength_12 : decode cX5_wayLength 12 = .ok (.getfield 18, 3) := by decide +kernel
theorem dX5_wayLength_15 : decode cX5_wayLength 15 = .ok (.iload_n 2, 1) := by decide +kernel
theorem dX5_wayLength_16 : decode cX5_wayLength 16 = .ok (.iload_n 3, 1) := by decide +kernel
theorem dX5_wayLength_17 : decode cX5_wayLength 17 = .ok (.invokevirtual 59, 3) := by decide +kernel
theorem dX5_wayLength_20 : decode cX5_wayLength 20 = .ok (.iconst 2, 1) := by decide +kernel
theorem dX5_wayLength_21 : decode cX5_wayLength 21 = .ok (.aload_n 0, 1) := by decide +kernel
theorem dX5_wayLength_22 : decode cX5_wayLength 22 = .ok (.getfield 9, 3) := by decide +kernel
theorem dX5_wayLength_25 : decode cX5_wayLength 25 = .ok (.iconst 1, 1) := by decide +kernel
theorem dX5_wayLength_26 : decode cX5_wayLength 26 = .ok (.iaload, 1) := by decide +kernel
theorem dX5_wayLength_27 : decode cX5_wayLength 27 = .ok (.imul, 1) := by decide +kernel
theorem dX5_wayLength_28 : decode cX5_wayLength 28 = .ok (.iadd, 1) := by decide +kernel
theorem dX5_wayLength_29 : decode cX5_wayLength 29 = .ok (.if_icmp .gt 8, 3) := by decide +kernel
theorem dX5_wayLength_32 : decode cX5_wayLength 32 = .ok (.iload 4, 2) := by decide +kernel
theorem dX5_wayLength_34 : decode cX5_wayLength 34 = .ok (.goto 5, 3) := by decide +kernel
theorem dX5_wayLength_37 : decode cX5_wayLength 37 = .ok (.bipush (-6), 2) := by decide +kernel
theorem dX5_wayLength_39 : decode cX5_wayLength 39 = .ok (.ireturn, 1) := by decide +kernel
theorem dX5_wayLengthOf_0 : decode cX5_wayLengthOf 0 = .ok (.aload_n 1, 1) := by decide +kernel
theorem dX5_wayLengthOf_1 : decode cX5_wayLengthOf 1 = .ok (.aload_n 0, 1) := by decide +kernel
theorem dX5_wayLengthOf_2 : decode cX5_wayLengthOf 2 = .ok (.getfield 25, 3) := by decide +kernel
theorem dX5_wayLengthOf_5 : decode cX5_wayLengthOf 5 = .ok (.getfield 63, 3) := by decide +kernel
theorem dX5_wayLengthOf_8 : decode cX5_wayLengthOf 8 = .ok (.iload_n 2, 1) := by decide +kernel
theorem dX5_wayLengthOf_9 : decode cX5_wayLengthOf 9 = .ok (.iaload, 1) := by decide +kernel
theorem dX5_wayLengthOf_10 : decode cX5_wayLengthOf 10 = .ok (.aload_n 0, 1) := by decide +kernel
theorem dX5_wayLengthOf_11 : decode cX5_wayLengthOf 11 = .ok (.getfield 25, 3) := by decide +kernel
theorem dX5_wayLengthOf_14 : decode cX5_wayLengthOf 14 = .ok (.getfield 66, 3) := by decide +kernel
theorem dX5_wayLengthOf_17 : decode cX5_wayLengthOf 17 = .ok (.iload_n 2, 1) := by decide +kernel
theorem dX5_wayLengthOf_18 : decode cX5_wayLengthOf 18 = .ok (.iaload, 1) := by decide +kernel
theorem dX5_wayLengthOf_19 : decode cX5_wayLengthOf 19 = .ok (.aload_n 0, 1) := by decide +kernel
theorem dX5_wayLengthOf_20 : decode cX5_wayLengthOf 20 = .ok (.getfield 25, 3) := by decide +kernel
theorem dX5_wayLengthOf_23 : decode cX5_wayLengthOf 23 = .ok (.getfield 69, 3) := by decide +kernel
theorem dX5_wayLengthOf_26 : decode cX5_wayLengthOf 26 = .ok (.iload_n 2, 1) := by decide +kernel
theorem dX5_wayLengthOf_27 : decode cX5_wayLengthOf 27 = .ok (.iaload, 1) := by decide +kernel
theorem dX5_wayLengthOf_28 : decode cX5_wayLengthOf 28 = .ok (.invokevirtual 53, 3) := by decide +kernel
theorem dX5_wayLengthOf_31 : decode cX5_wayLengthOf 31 = .ok (.istore_n 3, 1) := by decide +kernel
theorem dX5_wayLengthOf_32 : decode cX5_wayLengthOf 32 = .ok (.iload_n 3, 1) := by decide +kernel
theorem dX5_wayLengthOf_33 : decode cX5_wayLengthOf 33 = .ok (.aload_n 0, 1) := by decide +kernel
theorem dX5_wayLengthOf_34 : decode cX5_wayLengthOf 34 = .ok (.iload_n 2, 1) := by decide +kernel
theorem dX5_wayLengthOf_35 : decode cX5_wayLengthOf 35 = .ok (.invokevirtual 72, 3) := by decide +kernel
theorem dX5_wayLengthOf_38 : decode cX5_wayLengthOf 38 = .ok (.if_icmp .gt 7, 3) := by decide +kernel
theorem dX5_wayLengthOf_41 : decode cX5_wayLengthOf 41 = .ok (.iload_n 3, 1) := by decide +kernel
theorem dX5_wayLengthOf_42 : decode cX5_wayLengthOf 42 = .ok (.goto 5, 3) := by decide +kernel
theorem dX5_wayLengthOf_45 : decode cX5_wayLengthOf 45 = .ok (.bipush (-6), 2) := by decide +kernel
theorem dX5_wayLengthOf_47 : decode cX5_wayLengthOf 47 = .ok (.ireturn, 1) := by decide +kernel
theorem dX5_mostMoves_0 : decode cX5_mostMoves 0 = .ok (.iconst 0, 1) := by decide +kernel
theorem dX5_mostMoves_1 : decode cX5_mostMoves 1 = .ok (.aload_n 0, 1) := by decide +kernel
theorem dX5_mostMoves_2 : decode cX5_mostMoves 2 = .ok (.getfield 9, 3) := by decide +kernel
theorem dX5_mostMoves_5 : decode cX5_mostMoves 5 = .ok (.iconst 1, 1) := by decide +kernel
theorem dX5_mostMoves_6 : decode cX5_mostMoves 6 = .ok (.iaload, 1) := by decide +kernel
theorem dX5_mostMoves_7 : decode cX5_mostMoves 7 = .ok (.aload_n 0, 1) := by decide +kernel
theorem dX5_mostMoves_8 : decode cX5_mostMoves 8 = .ok (.getfield 25, 3) := by decide +kernel
theorem dX5_mostMoves_11 : decode cX5_mostMoves 11 = .ok (.getfield 76, 3) := by decide +kernel
theorem dX5_mostMoves_14 : decode cX5_mostMoves 14 = .ok (.iload_n 1, 1) := by decide +kernel
theorem dX5_mostMoves_15 : decode cX5_mostMoves 15 = .ok (.iaload, 1) := by decide +kernel
theorem dX5_mostMoves_16 : decode cX5_mostMoves 16 = .ok (.isub, 1) := by decide +kernel
theorem dX5_mostMoves_17 : decode cX5_mostMoves 17 = .ok (.invokestatic 79, 3) := by decide +kernel
theorem dX5_mostMoves_20 : decode cX5_mostMoves 20 = .ok (.istore_n 2, 1) := by decide +kernel
theorem dX5_mostMoves_21 : decode cX5_mostMoves 21 = .ok (.aload_n 0, 1) := by decide +kernel
theorem dX5_mostMoves_22 : decode cX5_mostMoves 22 = .ok (.getfield 18, 3) := by decide +kernel
theorem dX5_mostMoves_25 : decode cX5_mostMoves 25 = .ok (.aload_n 0, 1) := by decide +kernel
theorem dX5_mostMoves_26 : decode cX5_mostMoves 26 = .ok (.getfield 25, 3) := by decide +kernel
theorem dX5_mostMoves_29 : decode cX5_mostMoves 29 = .ok (.getfield 63, 3) := by decide +kernel
theorem dX5_mostMoves_32 : decode cX5_mostMoves 32 = .ok (.iload_n 1, 1) := by decide +kernel
theorem dX5_mostMoves_33 : decode cX5_mostMoves 33 = .ok (.iaload, 1) := by decide +kernel
theorem dX5_mostMoves_34 : decode cX5_mostMoves 34 = .ok (.aload_n 0, 1) := by decide +kernel
theorem dX5_mostMoves_35 : decode cX5_mostMoves 35 = .ok (.getfield 25, 3) := by decide +kernel
theorem dX5_mostMoves_38 : decode cX5_mostMoves 38 = .ok (.getfield 69, 3) := by decide +kernel
theorem dX5_mostMoves_41 : decode cX5_mostMoves 41 = .ok (.iload_n 1, 1) := by decide +kernel
theorem dX5_mostMoves_42 : decode cX5_mostMoves 42 = .ok (.iaload, 1) := by decide +kernel
theorem dX5_mostMoves_43 : decode cX5_mostMoves 43 = .ok (.invokevirtual 59, 3) := by decide +kernel
theorem dX5_mostMoves_46 : decode cX5_mostMoves 46 = .ok (.iconst 2, 1) := by decide +kernel
theorem dX5_mostMoves_47 : decode cX5_mostMoves 47 = .ok (.iload_n 2, 1) := by decide +kernel
theorem dX5_mostMoves_48 : decode cX5_mostMoves 48 = .ok (.imul, 1) := by decide +kernel
theorem dX5_mostMoves_49 : decode cX5_mostMoves 49 = .ok (.iadd, 1) := by decide +kernel
theorem dX5_mostMoves_50 : decode cX5_mostMoves 50 = .ok (.ireturn, 1) := by decide +kernel
theorem dX5_isPossible_0 : decode cX5_isPossible 0 = .ok (.aload_n 1, 1) := by decide +kernel
theorem dX5_isPossible_1 : decode cX5_isPossible 1 = .ok (.aload_n 0, 1) := by decide +kernel
theorem dX5_isPossible_2 : decode cX5_isPossible 2 = .ok (.getfield 25, 3) := by decide +kernel
theorem dX5_isPossible_5 : decode cX5_isPossible 5 = .ok (.getfield 63, 3) := by decide +kernel
theorem dX5_isPossible_8 : decode cX5_isPossible 8 = .ok (.iload_n 2, 1) := by decide +kernel
theorem dX5_isPossible_9 : decode cX5_isPossible 9 = .ok (.iaload, 1) := by decide +kernel
theorem dX5_isPossible_10 : decode cX5_isPossible 10 = .ok (.aload_n 0, 1) := by decide +kernel
theorem dX5_isPossible_11 : decode cX5_isPossible 11 = .ok (.getfield 25, 3) := by decide +kernel
theorem dX5_isPossible_14 : decode cX5_isPossible 14 = .ok (.getfield 66, 3) := by decide +kernel
theorem dX5_isPossible_17 : decode cX5_isPossible 17 = .ok (.iload_n 2, 1) := by decide +kernel
theorem dX5_isPossible_18 : decode cX5_isPossible 18 = .ok (.iaload, 1) := by decide +kernel
theorem dX5_isPossible_19 : decode cX5_isPossible 19 = .ok (.iload_n 3, 1) := by decide +kernel
theorem dX5_isPossible_20 : decode cX5_isPossible 20 = .ok (.aload_n 0, 1) := by decide +kernel
theorem dX5_isPossible_21 : decode cX5_isPossible 21 = .ok (.getfield 25, 3) := by decide +kernel
theorem dX5_isPossible_24 : decode cX5_isPossible 24 = .ok (.getfield 69, 3) := by decide +kernel
theorem dX5_isPossible_27 : decode cX5_isPossible 27 = .ok (.iload_n 2, 1) := by decide +kernel
theorem dX5_isPossible_28 : decode cX5_isPossible 28 = .ok (.iaload, 1) := by decide +kernel
theorem dX5_isPossible_29 : decode cX5_isPossible 29 = .ok (.invokevirtual 84, 3) := by decide +kernel
theorem dX5_isPossible_32 : decode cX5_isPossible 32 = .ok (.aload_n 0, 1) := by decide +kernel
theorem dX5_isPossible_33 : decode cX5_isPossible 33 = .ok (.iload_n 2, 1) := by decide +kernel
theorem dX5_isPossible_34 : decode cX5_isPossible 34 = .ok (.invokevirtual 72, 3) := by decide +kernel
theorem dX5_isPossible_37 : decode cX5_isPossible 37 = .ok (.if_icmp .ge 7, 3) := by decide +kernel
theorem dX5_isPossible_40 : decode cX5_isPossible 40 = .ok (.iconst 1, 1) := by decide +kernel
theorem dX5_isPossible_41 : decode cX5_isPossible 41 = .ok (.goto 4, 3) := by decide +kernel
theorem dX5_isPossible_44 : decode cX5_isPossible 44 = .ok (.iconst 0, 1) := by decide +kernel
theorem dX5_isPossible_45 : decode cX5_isPossible 45 = .ok (.ireturn, 1) := by decide +kernel
theorem dX5_firstSide_0 : decode cX5_firstSide 0 = .ok (.bipush (-6), 2) := by decide +kernel
theorem dX5_firstSide_2 : decode cX5_firstSide 2 = .ok (.istore 4, 2) := by decide +kernel
theorem dX5_firstSide_4 : decode cX5_firstSide 4 = .ok (.aload_n 0, 1) := by decide +kernel
theorem dX5_firstSide_5 : decode cX5_firstSide 5 = .ok (.getfield 25, 3) := by decide +kernel
theorem dX5_firstSide_8 : decode cX5_firstSide 8 = .ok (.getfield 88, 3) := by decide +kernel
theorem dX5_firstSide_11 : decode cX5_firstSide 11 = .ok (.iload_n 2, 1) := by decide +kernel
theorem dX5_firstSide_12 : decode cX5_firstSide 12 = .ok (.iaload, 1) := by decide +kernel
theorem dX5_firstSide_13 : decode cX5_firstSide 13 = .ok (.iconst 2, 1) := by decide +kernel
theorem dX5_firstSide_14 : decode cX5_firstSide 14 = .ok (.if_icmp .ne 6, 3) := by decide +kernel
theorem dX5_firstSide_17 : decode cX5_firstSide 17 = .ok (.iload 4, 2) := by decide +kernel
theorem dX5_firstSide_19 : decode cX5_firstSide 19 = .ok (.ireturn, 1) := by decide +kernel
theorem dX5_firstSide_20 : decode cX5_firstSide 20 = .ok (.aload_n 0, 1) := by decide +kernel
theorem dX5_firstSide_21 : decode cX5_firstSide 21 = .ok (.getfield 25, 3) := by decide +kernel
theorem dX5_firstSide_24 : decode cX5_firstSide 24 = .ok (.getfield 63, 3) := by decide +kernel
theorem dX5_firstSide_27 : decode cX5_firstSide 27 = .ok (.iload_n 2, 1) := by decide +kernel
theorem dX5_firstSide_28 : decode cX5_firstSide 28 = .ok (.iaload, 1) := by decide +kernel
theorem dX5_firstSide_29 : decode cX5_firstSide 29 = .ok (.istore 5, 2) := by decide +kernel
theorem dX5_firstSide_31 : decode cX5_firstSide 31 = .ok (.aload_n 0, 1) := by decide +kernel
theorem dX5_firstSide_32 : decode cX5_firstSide 32 = .ok (.iload_n 2, 1) := by decide +kernel
theorem dX5_firstSide_33 : decode cX5_firstSide 33 = .ok (.invokevirtual 72, 3) := by decide +kernel
theorem dX5_firstSide_36 : decode cX5_firstSide 36 = .ok (.istore 6, 2) := by decide +kernel
theorem dX5_firstSide_38 : decode cX5_firstSide 38 = .ok (.iconst 0, 1) := by decide +kernel
theorem dX5_firstSide_39 : decode cX5_firstSide 39 = .ok (.istore 7, 2) := by decide +kernel
theorem dX5_firstSide_41 : decode cX5_firstSide 41 = .ok (.iload 7, 2) := by decide +kernel
theorem dX5_firstSide_43 : decode cX5_firstSide 43 = .ok (.iconst 4, 1) := by decide +kernel
theorem dX5_firstSide_44 : decode cX5_firstSide 44 = .ok (.if_icmp .ge 72, 3) := by decide +kernel
theorem dX5_firstSide_47 : decode cX5_firstSide 47 = .ok (.aload_n 1, 1) := by decide +kernel
theorem dX5_firstSide_48 : decode cX5_firstSide 48 = .ok (.iload 5, 2) := by decide +kernel
theorem dX5_firstSide_50 : decode cX5_firstSide 50 = .ok (.aload_n 0, 1) := by decide +kernel
theorem dX5_firstSide_51 : decode cX5_firstSide 51 = .ok (.getfield 25, 3) := by decide +kernel
theorem dX5_firstSide_54 : decode cX5_firstSide 54 = .ok (.getfield 66, 3) := by decide +kernel
theorem dX5_firstSide_57 : decode cX5_firstSide 57 = .ok (.iload_n 2, 1) := by decide +kernel
theorem dX5_firstSide_58 : decode cX5_firstSide 58 = .ok (.iaload, 1) := by decide +kernel
theorem dX5_firstSide_59 : decode cX5_firstSide 59 = .ok (.iload 7, 2) := by decide +kernel
theorem dX5_firstSide_61 : decode cX5_firstSide 61 = .ok (.aload_n 0, 1) := by decide +kernel
theorem dX5_firstSide_62 : decode cX5_firstSide 62 = .ok (.getfield 25, 3) := by decide +kernel
theorem dX5_firstSide_65 : decode cX5_firstSide 65 = .ok (.getfield 69, 3) := by decide +kernel
theorem dX5_firstSide_68 : decode cX5_firstSide 68 = .ok (.iload_n 2, 1) := by decide +kernel
theorem dX5_firstSide_69 : decode cX5_firstSide 69 = .ok (.iaload, 1) := by decide +kernel
theorem dX5_firstSide_70 : decode cX5_firstSide 70 = .ok (.invokevirtual 84, 3) := by decide +kernel
theorem dX5_firstSide_73 : decode cX5_firstSide 73 = .ok (.istore 8, 2) := by decide +kernel
theorem dX5_firstSide_75 : decode cX5_firstSide 75 = .ok (.iload 8, 2) := by decide +kernel
theorem dX5_firstSide_77 : decode cX5_firstSide 77 = .ok (.iload 6, 2) := by decide +kernel
theorem dX5_firstSide_79 : decode cX5_firstSide 79 = .ok (.if_icmp .ge 31, 3) := by decide +kernel
theorem dX5_firstSide_82 : decode cX5_firstSide 82 = .ok (.iload_n 3, 1) := by decide +kernel
theorem dX5_firstSide_83 : decode cX5_firstSide 83 = .ok (.ifCond .eq 19, 3) := by decide +kernel
theorem dX5_firstSide_86 : decode cX5_firstSide 86 = .ok (.aload_n 0, 1) := by decide +kernel
theorem dX5_firstSide_87 : decode cX5_firstSide 87 = .ok (.iload_n 2, 1) := by decide +kernel
theorem dX5_firstSide_88 : decode cX5_firstSide 88 = .ok (.aload_n 1, 1) := by decide +kernel
theorem dX5_firstSide_89 : decode cX5_firstSide 89 = .ok (.iload 5, 2) := by decide +kernel
theorem dX5_firstSide_91 : decode cX5_firstSide 91 = .ok (.iload 7, 2) := by decide +kernel
theorem dX5_firstSide_93 : decode cX5_firstSide 93 = .ok (.invokevirtual 91, 3) := by decide +kernel
theorem dX5_firstSide_96 : decode cX5_firstSide 96 = .ok (.invokevirtual 94, 3) := by decide +kernel
theorem dX5_firstSide_99 : decode cX5_firstSide 99 = .ok (.ifCond .eq 11, 3) := by decide +kernel
theorem dX5_firstSide_102 : decode cX5_firstSide 102 = .ok (.iload 7, 2) := by decide +kernel
theorem dX5_firstSide_104 : decode cX5_firstSide 104 = .ok (.istore 4, 2) := by decide +kernel
theorem dX5_firstSide_106 : decode cX5_firstSide 106 = .ok (.iload 8, 2) := by decide +kernel
theorem dX5_firstSide_108 : decode cX5_firstSide 108 = .ok (.istore 6, 2) := by decide +kernel
theorem dX5_firstSide_110 : decode cX5_firstSide 110 = .ok (.iinc 7 1, 3) := by decide +kernel
theorem dX5_firstSide_113 : decode cX5_firstSide 113 = .ok (.goto (-72), 3) := by decide +kernel
theorem dX5_firstSide_116 : decode cX5_firstSide 116 = .ok (.iload 4, 2) := by decide +kernel
theorem dX5_firstSide_118 : decode cX5_firstSide 118 = .ok (.ireturn, 1) := by decide +kernel
theorem dX5_letsIn_0 : decode cX5_letsIn 0 = .ok (.iload_n 2, 1) := by decide +kernel
theorem dX5_letsIn_1 : decode cX5_letsIn 1 = .ok (.aload_n 0, 1) := by decide +kernel
theorem dX5_letsIn_2 : decode cX5_letsIn 2 = .ok (.getfield 25, 3) := by decide +kernel
theorem dX5_letsIn_5 : decode cX5_letsIn 5 = .ok (.getfield 69, 3) := by decide +kernel
theorem dX5_letsIn_8 : decode cX5_letsIn 8 = .ok (.iload_n 1, 1) := by decide +kernel
theorem dX5_letsIn_9 : decode cX5_letsIn 9 = .ok (.iaload, 1) := by decide +kernel
theorem dX5_letsIn_10 : decode cX5_letsIn 10 = .ok (.if_icmp .eq 11, 3) := by decide +kernel
theorem dX5_letsIn_13 : decode cX5_letsIn 13 = .ok (.aload_n 0, 1) := by decide +kernel
theorem dX5_letsIn_14 : decode cX5_letsIn 14 = .ok (.iload_n 2, 1) := by decide +kernel
theorem dX5_letsIn_15 : decode cX5_letsIn 15 = .ok (.invokevirtual 98, 3) := by decide +kernel
theorem dX5_letsIn_18 : decode cX5_letsIn 18 = .ok (.ifCond .eq 7, 3) := by decide +kernel
theorem dX5_letsIn_21 : decode cX5_letsIn 21 = .ok (.iconst 1, 1) := by decide +kernel
theorem dX5_letsIn_22 : decode cX5_letsIn 22 = .ok (.goto 4, 3) := by decide +kernel
theorem dX5_letsIn_25 : decode cX5_letsIn 25 = .ok (.iconst 0, 1) := by decide +kernel
theorem dX5_letsIn_26 : decode cX5_letsIn 26 = .ok (.ireturn, 1) := by decide +kernel
theorem dX5_connectedPairs_0 : decode cX5_connectedPairs 0 = .ok (.iconst 0, 1) := by decide +kernel
theorem dX5_connectedPairs_1 : decode cX5_connectedPairs 1 = .ok (.istore_n 2, 1) := by decide +kernel
theorem dX5_connectedPairs_2 : decode cX5_connectedPairs 2 = .ok (.aload_n 0, 1) := by decide +kernel
theorem dX5_connectedPairs_3 : decode cX5_connectedPairs 3 = .ok (.getfield 18, 3) := by decide +kernel
theorem dX5_connectedPairs_6 : decode cX5_connectedPairs 6 = .ok (.invokevirtual 102, 3) := by decide +kernel
theorem dX5_connectedPairs_9 : decode cX5_connectedPairs 9 = .ok (.istore_n 3, 1) := by decide +kernel
theorem dX5_connectedPairs_10 : decode cX5_connectedPairs 10 = .ok (.iconst 0, 1) := by decide +kernel
theorem dX5_connectedPairs_11 : decode cX5_connectedPairs 11 = .ok (.istore 4, 2) := by decide +kernel
theorem dX5_connectedPairs_13 : decode cX5_connectedPairs 13 = .ok (.iload 4, 2) := by decide +kernel
theorem dX5_connectedPairs_15 : decode cX5_connectedPairs 15 = .ok (.iload_n 3, 1) := by decide +kernel
theorem dX5_connectedPairs_16 : decode cX5_connectedPairs 16 = .ok (.if_icmp .ge 48, 3) := by decide +kernel
theorem dX5_connectedPairs_19 : decode cX5_connectedPairs 19 = .ok (.iconst 0, 1) := by decide +kernel
theorem dX5_connectedPairs_20 : decode cX5_connectedPairs 20 = .ok (.istore 5, 2) := by decide +kernel
theorem dX5_connectedPairs_22 : decode cX5_connectedPairs 22 = .ok (.iload 5, 2) := by decide +kernel
theorem dX5_connectedPairs_24 : decode cX5_connectedPairs 24 = .ok (.iload_n 3, 1) := by decide +kernel
theorem dX5_connectedPairs_25 : decode cX5_connectedPairs 25 = .ok (.if_icmp .ge 33, 3) := by decide +kernel
theorem dX5_connectedPairs_28 : decode cX5_connectedPairs 28 = .ok (.iload 4, 2) := by decide +kernel
theorem dX5_connectedPairs_30 : decode cX5_connectedPairs 30 = .ok (.iload 5, 2) := by decide +kernel
theorem dX5_connectedPairs_32 : decode cX5_connectedPairs 32 = .ok (.if_icmp .eq 20, 3) := by decide +kernel
theorem dX5_connectedPairs_35 : decode cX5_connectedPairs 35 = .ok (.aload_n 0, 1) := by decide +kernel
theorem dX5_connectedPairs_36 : decode cX5_connectedPairs 36 = .ok (.aload_n 1, 1) := by decide +kernel
theorem dX5_connectedPairs_37 : decode cX5_connectedPairs 37 = .ok (.iload 4, 2) := by decide +kernel
theorem dX5_connectedPairs_39 : decode cX5_connectedPairs 39 = .ok (.iload 5, 2) := by decide +kernel
theorem dX5_connectedPairs_41 : decode cX5_connectedPairs 41 = .ok (.invokevirtual 106, 3) := by decide +kernel
theorem dX5_connectedPairs_44 : decode cX5_connectedPairs 44 = .ok (.bipush (-6), 2) := by decide +kernel
theorem dX5_connectedPairs_46 : decode cX5_connectedPairs 46 = .ok (.if_icmp .eq 6, 3) := by decide +kernel
theorem dX5_connectedPairs_49 : decode cX5_connectedPairs 49 = .ok (.iinc 2 1, 3) := by decide +kernel
theorem dX5_connectedPairs_52 : decode cX5_connectedPairs 52 = .ok (.iinc 5 1, 3) := by decide +kernel
theorem dX5_connectedPairs_55 : decode cX5_connectedPairs 55 = .ok (.goto (-33), 3) := by decide +kernel
theorem dX5_connectedPairs_58 : decode cX5_connectedPairs 58 = .ok (.iinc 4 1, 3) := by decide +kernel
theorem dX5_connectedPairs_61 : decode cX5_connectedPairs 61 = .ok (.goto (-48), 3) := by decide +kernel
theorem dX5_connectedPairs_64 : decode cX5_connectedPairs 64 = .ok (.iload_n 2, 1) := by decide +kernel
theorem dX5_connectedPairs_65 : decode cX5_connectedPairs 65 = .ok (.ireturn, 1) := by decide +kernel
theorem dX5_passTicks_0 : decode cX5_passTicks 0 = .ok (.iconst 0, 1) := by decide +kernel
theorem dX5_passTicks_1 : decode cX5_passTicks 1 = .ok (.istore_n 3, 1) := by decide +kernel
theorem dX5_passTicks_2 : decode cX5_passTicks 2 = .ok (.iload_n 3, 1) := by decide +kernel
theorem dX5_passTicks_3 : decode cX5_passTicks 3 = .ok (.iload_n 2, 1) := by decide +kernel
theorem dX5_passTicks_4 : decode cX5_passTicks 4 = .ok (.if_icmp .ge 108, 3) := by decide +kernel
theorem dX5_passTicks_7 : decode cX5_passTicks 7 = .ok (.iconst 0, 1) := by decide +kernel
theorem dX5_passTicks_8 : decode cX5_passTicks 8 = .ok (.istore 4, 2) := by decide +kernel
theorem dX5_passTicks_10 : decode cX5_passTicks 10 = .ok (.iload 4, 2) := by decide +kernel
theorem dX5_passTicks_12 : decode cX5_passTicks 12 = .ok (.aload_n 0, 1) := by decide +kernel
theorem dX5_passTicks_13 : decode cX5_passTicks 13 = .ok (.getfield 25, 3) := by decide +kernel
theorem dX5_passTicks_16 : decode cX5_passTicks 16 = .ok (.getfield 110, 3) := by decide +kernel
theorem dX5_passTicks_19 : decode cX5_passTicks 19 = .ok (.if_icmp .ge 77, 3) := by decide +kernel
theorem dX5_passTicks_22 : decode cX5_passTicks 22 = .ok (.aload_n 0, 1) := by decide +kernel
theorem dX5_passTicks_23 : decode cX5_passTicks 23 = .ok (.getfield 25, 3) := by decide +kernel
theorem dX5_passTicks_26 : decode cX5_passTicks 26 = .ok (.getfield 88, 3) := by decide +kernel
theorem dX5_passTicks_29 : decode cX5_passTicks 29 = .ok (.iload 4, 2) := by decide +kernel
theorem dX5_passTicks_31 : decode cX5_passTicks 31 = .ok (.iaload, 1) := by decide +kernel
theorem dX5_passTicks_32 : decode cX5_passTicks 32 = .ok (.istore 5, 2) := by decide +kernel
theorem dX5_passTicks_34 : decode cX5_passTicks 34 = .ok (.iload 5, 2) := by decide +kernel
theorem dX5_passTicks_36 : decode cX5_passTicks 36 = .ok (.ifCond .ne 12, 3) := by decide +kernel
theorem dX5_passTicks_39 : decode cX5_passTicks 39 = .ok (.aload_n 0, 1) := by decide +kernel
theorem dX5_passTicks_40 : decode cX5_passTicks 40 = .ok (.iload 4, 2) := by decide +kernel
theorem dX5_passTicks_42 : decode cX5_passTicks 42 = .ok (.invokevirtual 113, 3) := by decide +kernel
theorem dX5_passTicks_45 : decode cX5_passTicks 45 = .ok (.ifCond .eq 19, 3) := by decide +kernel
theorem dX5_passTicks_48 : decode cX5_passTicks 48 = .ok (.iload 5, 2) := by decide +kernel
theorem dX5_passTicks_50 : decode cX5_passTicks 50 = .ok (.iconst 1, 1) := by decide +kernel
theorem dX5_passTicks_51 : decode cX5_passTicks 51 = .ok (.if_icmp .ne 17, 3) := by decide +kernel
theorem dX5_passTicks_54 : decode cX5_passTicks 54 = .ok (.aload_n 0, 1) := by decide +kernel
theorem dX5_passTicks_55 : decode cX5_passTicks 55 = .ok (.aload_n 1, 1) := by decide +kernel
theorem dX5_passTicks_56 : decode cX5_passTicks 56 = .ok (.iload 4, 2) := by decide +kernel
theorem dX5_passTicks_58 : decode cX5_passTicks 58 = .ok (.invokevirtual 116, 3) := by decide +kernel
theorem dX5_passTicks_61 : decode cX5_passTicks 61 = .ok (.ifCond .ne 7, 3) := by decide +kernel
theorem dX5_passTicks_64 : decode cX5_passTicks 64 = .ok (.iconst 1, 1) := by decide +kernel
theorem dX5_passTicks_65 : decode cX5_passTicks 65 = .ok (.goto 4, 3) := by decide +kernel
theorem dX5_passTicks_68 : decode cX5_passTicks 68 = .ok (.iconst 0, 1) := by decide +kernel
theorem dX5_passTicks_69 : decode cX5_passTicks 69 = .ok (.istore 6, 2) := by decide +kernel
theorem dX5_passTicks_71 : decode cX5_passTicks 71 = .ok (.iload 6, 2) := by decide +kernel
theorem dX5_passTicks_73 : decode cX5_passTicks 73 = .ok (.ifCond .eq 17, 3) := by decide +kernel
theorem dX5_passTicks_76 : decode cX5_passTicks 76 = .ok (.aload_n 0, 1) := by decide +kernel
theorem dX5_passTicks_77 : decode cX5_passTicks 77 = .ok (.getfield 25, 3) := by decide +kernel
theorem dX5_passTicks_80 : decode cX5_passTicks 80 = .ok (.getfield 120, 3) := by decide +kernel
theorem dX5_passTicks_83 : decode cX5_passTicks 83 = .ok (.iload 4, 2) := by decide +kernel
theorem dX5_passTicks_85 : decode cX5_passTicks 85 = .ok (.dup2, 1) := by decide +kernel
theorem dX5_passTicks_86 : decode cX5_passTicks 86 = .ok (.iaload, 1) := by decide +kernel
theorem dX5_passTicks_87 : decode cX5_passTicks 87 = .ok (.iconst 1, 1) := by decide +kernel
theorem dX5_passTicks_88 : decode cX5_passTicks 88 = .ok (.iadd, 1) := by decide +kernel
theorem dX5_passTicks_89 : decode cX5_passTicks 89 = .ok (.iastore, 1) := by decide +kernel
theorem dX5_passTicks_90 : decode cX5_passTicks 90 = .ok (.iinc 4 1, 3) := by decide +kernel
theorem dX5_passTicks_93 : decode cX5_passTicks 93 = .ok (.goto (-83), 3) := by decide +kernel
theorem dX5_passTicks_96 : decode cX5_passTicks 96 = .ok (.aload_n 0, 1) := by decide +kernel
theorem dX5_passTicks_97 : decode cX5_passTicks 97 = .ok (.dup, 1) := by decide +kernel
theorem dX5_passTicks_98 : decode cX5_passTicks 98 = .ok (.getfield 35, 3) := by decide +kernel
theorem dX5_passTicks_101 : decode cX5_passTicks 101 = .ok (.iconst 1, 1) := by decide +kernel
theorem dX5_passTicks_102 : decode cX5_passTicks 102 = .ok (.iadd, 1) := by decide +kernel
theorem dX5_passTicks_103 : decode cX5_passTicks 103 = .ok (.putfield 35, 3) := by decide +kernel
theorem dX5_passTicks_106 : decode cX5_passTicks 106 = .ok (.iinc 3 1, 3) := by decide +kernel
theorem dX5_passTicks_109 : decode cX5_passTicks 109 = .ok (.goto (-107), 3) := by decide +kernel
theorem dX5_passTicks_112 : decode cX5_passTicks 112 = .ok (.return_, 1) := by decide +kernel
theorem dX5_comesInside_0 : decode cX5_comesInside 0 = .ok (.aload_n 0, 1) := by decide +kernel
theorem dX5_comesInside_1 : decode cX5_comesInside 1 = .ok (.getfield 25, 3) := by decide +kernel
theorem dX5_comesInside_4 : decode cX5_comesInside 4 = .ok (.getfield 63, 3) := by decide +kernel
theorem dX5_comesInside_7 : decode cX5_comesInside 7 = .ok (.iload_n 1, 1) := by decide +kernel
theorem dX5_comesInside_8 : decode cX5_comesInside 8 = .ok (.iaload, 1) := by decide +kernel
theorem dX5_comesInside_9 : decode cX5_comesInside 9 = .ok (.istore_n 2, 1) := by decide +kernel
theorem dX5_comesInside_10 : decode cX5_comesInside 10 = .ok (.aload_n 0, 1) := by decide +kernel
theorem dX5_comesInside_11 : decode cX5_comesInside 11 = .ok (.iload_n 2, 1) := by decide +kernel
theorem dX5_comesInside_12 : decode cX5_comesInside 12 = .ok (.invokevirtual 98, 3) := by decide +kernel
theorem dX5_comesInside_15 : decode cX5_comesInside 15 = .ok (.ifCond .ne 5, 3) := by decide +kernel
theorem dX5_comesInside_18 : decode cX5_comesInside 18 = .ok (.iconst 0, 1) := by decide +kernel
theorem dX5_comesInside_19 : decode cX5_comesInside 19 = .ok (.ireturn, 1) := by decide +kernel
theorem dX5_comesInside_20 : decode cX5_comesInside 20 = .ok (.aload_n 0, 1) := by decide +kernel
theorem dX5_comesInside_21 : decode cX5_comesInside 21 = .ok (.getfield 25, 3) := by decide +kernel
theorem dX5_comesInside_24 : decode cX5_comesInside 24 = .ok (.getfield 88, 3) := by decide +kernel
theorem dX5_comesInside_27 : decode cX5_comesInside 27 = .ok (.iload_n 1, 1) := by decide +kernel
theorem dX5_comesInside_28 : decode cX5_comesInside 28 = .ok (.iconst 1, 1) := by decide +kernel
theorem dX5_comesInside_29 : decode cX5_comesInside 29 = .ok (.iastore, 1) := by decide +kernel
theorem dX5_comesInside_30 : decode cX5_comesInside 30 = .ok (.aload_n 0, 1) := by decide +kernel
theorem dX5_comesInside_31 : decode cX5_comesInside 31 = .ok (.getfield 29, 3) := by decide +kernel
theorem dX5_comesInside_34 : decode cX5_comesInside 34 = .ok (.iload_n 2, 1) := by decide +kernel
theorem dX5_comesInside_35 : decode cX5_comesInside 35 = .ok (.dup2, 1) := by decide +kernel
theorem dX5_comesInside_36 : decode cX5_comesInside 36 = .ok (.iaload, 1) := by decide +kernel
theorem dX5_comesInside_37 : decode cX5_comesInside 37 = .ok (.iconst 1, 1) := by decide +kernel
theorem dX5_comesInside_38 : decode cX5_comesInside 38 = .ok (.iadd, 1) := by decide +kernel
theorem dX5_comesInside_39 : decode cX5_comesInside 39 = .ok (.iastore, 1) := by decide +kernel
theorem dX5_comesInside_40 : decode cX5_comesInside 40 = .ok (.iconst 1, 1) := by decide +kernel
theorem dX5_comesInside_41 : decode cX5_comesInside 41 = .ok (.ireturn, 1) := by decide +kernel
theorem dX5_movesOn_0 : decode cX5_movesOn 0 = .ok (.aload_n 0, 1) := by decide +kernel
theorem dX5_movesOn_1 : decode cX5_movesOn 1 = .ok (.aload_n 1, 1) := by decide +kernel
theorem dX5_movesOn_2 : decode cX5_movesOn 2 = .ok (.iload_n 2, 1) := by decide +kernel
theorem dX5_movesOn_3 : decode cX5_movesOn 3 = .ok (.iconst 1, 1) := by decide +kernel
theorem dX5_movesOn_4 : decode cX5_movesOn 4 = .ok (.invokevirtual 123, 3) := by decide +kernel
theorem dX5_movesOn_7 : decode cX5_movesOn 7 = .ok (.istore_n 3, 1) := by decide +kernel
theorem dX5_movesOn_8 : decode cX5_movesOn 8 = .ok (.iload_n 3, 1) := by decide +kernel
theorem dX5_movesOn_9 : decode cX5_movesOn 9 = .ok (.bipush (-6), 2) := by decide +kernel
theorem dX5_movesOn_11 : decode cX5_movesOn 11 = .ok (.if_icmp .ne 5, 3) := by decide +kernel
theorem dX5_movesOn_14 : decode cX5_movesOn 14 = .ok (.iconst 0, 1) := by decide +kernel
theorem dX5_movesOn_15 : decode cX5_movesOn 15 = .ok (.ireturn, 1) := by decide +kernel
theorem dX5_movesOn_16 : decode cX5_movesOn 16 = .ok (.aload_n 0, 1) := by decide +kernel
theorem dX5_movesOn_17 : decode cX5_movesOn 17 = .ok (.getfield 25, 3) := by decide +kernel
theorem dX5_movesOn_20 : decode cX5_movesOn 20 = .ok (.getfield 63, 3) := by decide +kernel
theorem dX5_movesOn_23 : decode cX5_movesOn 23 = .ok (.iload_n 2, 1) := by decide +kernel
theorem dX5_movesOn_24 : decode cX5_movesOn 24 = .ok (.iaload, 1) := by decide +kernel
theorem dX5_movesOn_25 : decode cX5_movesOn 25 = .ok (.istore 4, 2) := by decide +kernel
theorem dX5_movesOn_27 : decode cX5_movesOn 27 = .ok (.aload_n 0, 1) := by decide +kernel
theorem dX5_movesOn_28 : decode cX5_movesOn 28 = .ok (.getfield 25, 3) := by decide +kernel
theorem dX5_movesOn_31 : decode cX5_movesOn 31 = .ok (.getfield 69, 3) := by decide +kernel
theorem dX5_movesOn_34 : decode cX5_movesOn 34 = .ok (.iload_n 2, 1) := by decide +kernel
theorem dX5_movesOn_35 : decode cX5_movesOn 35 = .ok (.iaload, 1) := by decide +kernel
theorem dX5_movesOn_36 : decode cX5_movesOn 36 = .ok (.istore 5, 2) := by decide +kernel
theorem dX5_movesOn_38 : decode cX5_movesOn 38 = .ok (.aload_n 1, 1) := by decide +kernel
theorem dX5_movesOn_39 : decode cX5_movesOn 39 = .ok (.iload 4, 2) := by decide +kernel
theorem dX5_movesOn_41 : decode cX5_movesOn 41 = .ok (.iload_n 3, 1) := by decide +kernel
theorem dX5_movesOn_42 : decode cX5_movesOn 42 = .ok (.invokevirtual 91, 3) := by decide +kernel
theorem dX5_movesOn_45 : decode cX5_movesOn 45 = .ok (.istore 6, 2) := by decide +kernel
theorem dX5_movesOn_47 : decode cX5_movesOn 47 = .ok (.aload_n 0, 1) := by decide +kernel
theorem dX5_movesOn_48 : decode cX5_movesOn 48 = .ok (.getfield 29, 3) := by decide +kernel
theorem dX5_movesOn_51 : decode cX5_movesOn 51 = .ok (.iload 4, 2) := by decide +kernel
theorem dX5_movesOn_53 : decode cX5_movesOn 53 = .ok (.dup2, 1) := by decide +kernel
theorem dX5_movesOn_54 : decode cX5_movesOn 54 = .ok (.iaload, 1) := by decide +kernel
theorem dX5_movesOn_55 : decode cX5_movesOn 55 = .ok (.iconst 1, 1) := by decide +kernel
theorem dX5_movesOn_56 : decode cX5_movesOn 56 = .ok (.isub, 1) := by decide +kernel
theorem dX5_movesOn_57 : decode cX5_movesOn 57 = .ok (.iastore, 1) := by decide +kernel
theorem dX5_movesOn_58 : decode cX5_movesOn 58 = .ok (.aload_n 0, 1) := by decide +kernel
theorem dX5_movesOn_59 : decode cX5_movesOn 59 = .ok (.getfield 32, 3) := by decide +kernel
theorem dX5_movesOn_62 : decode cX5_movesOn 62 = .ok (.iload 4, 2) := by decide +kernel
theorem dX5_movesOn_64 : decode cX5_movesOn 64 = .ok (.iconst 4, 1) := by decide +kernel
theorem dX5_movesOn_65 : decode cX5_movesOn 65 = .ok (.imul, 1) := by decide +kernel
theorem dX5_movesOn_66 : decode cX5_movesOn 66 = .ok (.iload_n 3, 1) := by decide +kernel
theorem dX5_movesOn_67 : decode cX5_movesOn 67 = .ok (.iadd, 1) := by decide +kernel
theorem dX5_movesOn_68 : decode cX5_movesOn 68 = .ok (.dup2, 1) := by decide +kernel
theorem dX5_movesOn_69 : decode cX5_movesOn 69 = .ok (.iaload, 1) := by decide +kernel
theorem dX5_movesOn_70 : decode cX5_movesOn 70 = .ok (.iconst 1, 1) := by decide +kernel
theorem dX5_movesOn_71 : decode cX5_movesOn 71 = .ok (.iadd, 1) := by decide +kernel
theorem dX5_movesOn_72 : decode cX5_movesOn 72 = .ok (.iastore, 1) := by decide +kernel
theorem dX5_movesOn_73 : decode cX5_movesOn 73 = .ok (.aload_n 0, 1) := by decide +kernel
theorem dX5_movesOn_74 : decode cX5_movesOn 74 = .ok (.getfield 25, 3) := by decide +kernel
theorem dX5_movesOn_77 : decode cX5_movesOn 77 = .ok (.iload_n 2, 1) := by decide +kernel
theorem dX5_movesOn_78 : decode cX5_movesOn 78 = .ok (.iload 6, 2) := by decide +kernel
theorem dX5_movesOn_80 : decode cX5_movesOn 80 = .ok (.iload_n 3, 1) := by decide +kernel
theorem dX5_movesOn_81 : decode cX5_movesOn 81 = .ok (.aload_n 0, 1) := by decide +kernel
theorem dX5_movesOn_82 : decode cX5_movesOn 82 = .ok (.getfield 18, 3) := by decide +kernel
theorem dX5_movesOn_85 : decode cX5_movesOn 85 = .ok (.iload 6, 2) := by decide +kernel
theorem dX5_movesOn_87 : decode cX5_movesOn 87 = .ok (.iload 5, 2) := by decide +kernel
theorem dX5_movesOn_89 : decode cX5_movesOn 89 = .ok (.invokevirtual 59, 3) := by decide +kernel
theorem dX5_movesOn_92 : decode cX5_movesOn 92 = .ok (.aload_n 0, 1) := by decide +kernel
theorem dX5_movesOn_93 : decode cX5_movesOn 93 = .ok (.getfield 18, 3) := by decide +kernel
theorem dX5_movesOn_96 : decode cX5_movesOn 96 = .ok (.iload 4, 2) := by decide +kernel
theorem dX5_movesOn_98 : decode cX5_movesOn 98 = .ok (.iload 5, 2) := by decide +kernel
theorem dX5_movesOn_100 : decode cX5_movesOn 100 = .ok (.invokevirtual 59, 3) := by decide +kernel
theorem dX5_movesOn_103 : decode cX5_movesOn 103 = .ok (.if_icmp .le 7, 3) := by decide +kernel
theorem dX5_movesOn_106 : decode cX5_movesOn 106 = .ok (.iconst 1, 1) := by decide +kernel
theorem dX5_movesOn_107 : decode cX5_movesOn 107 = .ok (.goto 4, 3) := by decide +kernel
theorem dX5_movesOn_110 : decode cX5_movesOn 110 = .ok (.iconst 0, 1) := by decide +kernel
theorem dX5_movesOn_111 : decode cX5_movesOn 111 = .ok (.invokevirtual 127, 3) := by decide +kernel
theorem dX5_movesOn_114 : decode cX5_movesOn 114 = .ok (.iload 6, 2) := by decide +kernel
theorem dX5_movesOn_116 : decode cX5_movesOn 116 = .ok (.iload 5, 2) := by decide +kernel
theorem dX5_movesOn_118 : decode cX5_movesOn 118 = .ok (.if_icmp .ne 29, 3) := by decide +kernel
theorem dX5_movesOn_121 : decode cX5_movesOn 121 = .ok (.aload_n 0, 1) := by decide +kernel
theorem dX5_movesOn_122 : decode cX5_movesOn 122 = .ok (.getfield 25, 3) := by decide +kernel
theorem dX5_movesOn_125 : decode cX5_movesOn 125 = .ok (.getfield 88, 3) := by decide +kernel
theorem dX5_movesOn_128 : decode cX5_movesOn 128 = .ok (.iload_n 2, 1) := by decide +kernel
theorem dX5_movesOn_129 : decode cX5_movesOn 129 = .ok (.iconst 2, 1) := by decide +kernel
theorem dX5_movesOn_130 : decode cX5_movesOn 130 = .ok (.iastore, 1) := by decide +kernel
theorem dX5_movesOn_131 : decode cX5_movesOn 131 = .ok (.aload_n 0, 1) := by decide +kernel
theorem dX5_movesOn_132 : decode cX5_movesOn 132 = .ok (.getfield 25, 3) := by decide +kernel
theorem dX5_movesOn_135 : decode cX5_movesOn 135 = .ok (.getfield 131, 3) := by decide +kernel
theorem dX5_movesOn_138 : decode cX5_movesOn 138 = .ok (.iload_n 2, 1) := by decide +kernel
theorem dX5_movesOn_139 : decode cX5_movesOn 139 = .ok (.aload_n 0, 1) := by decide +kernel
theorem dX5_movesOn_140 : decode cX5_movesOn 140 = .ok (.getfield 35, 3) := by decide +kernel
theorem dX5_movesOn_143 : decode cX5_movesOn 143 = .ok (.iastore, 1) := by decide +kernel
theorem dX5_movesOn_144 : decode cX5_movesOn 144 = .ok (.goto 14, 3) := by decide +kernel
theorem dX5_movesOn_147 : decode cX5_movesOn 147 = .ok (.aload_n 0, 1) := by decide +kernel
theorem dX5_movesOn_148 : decode cX5_movesOn 148 = .ok (.getfield 29, 3) := by decide +kernel
theorem dX5_movesOn_151 : decode cX5_movesOn 151 = .ok (.iload 6, 2) := by decide +kernel
theorem dX5_movesOn_153 : decode cX5_movesOn 153 = .ok (.dup2, 1) := by decide +kernel
theorem dX5_movesOn_154 : decode cX5_movesOn 154 = .ok (.iaload, 1) := by decide +kernel
theorem dX5_movesOn_155 : decode cX5_movesOn 155 = .ok (.iconst 1, 1) := by decide +kernel
theorem dX5_movesOn_156 : decode cX5_movesOn 156 = .ok (.iadd, 1) := by decide +kernel
theorem dX5_movesOn_157 : decode cX5_movesOn 157 = .ok (.iastore, 1) := by decide +kernel
theorem dX5_movesOn_158 : decode cX5_movesOn 158 = .ok (.iconst 1, 1) := by decide +kernel
theorem dX5_movesOn_159 : decode cX5_movesOn 159 = .ok (.ireturn, 1) := by decide +kernel
theorem dX6_init_0 : decode cX6_init 0 = .ok (.aload_n 0, 1) := by decide +kernel
theorem dX6_init_1 : decode cX6_init 1 = .ok (.invokespecial 3, 3) := by decide +kernel
theorem dX6_init_4 : decode cX6_init 4 = .ok (.aload_n 0, 1) := by decide +kernel
theorem dX6_init_5 : decode cX6_init 5 = .ok (.new 9, 3) := by decide +kernel
theorem dX6_init_8 : decode cX6_init 8 = .ok (.dup, 1) := by decide +kernel
theorem dX6_init_9 : decode cX6_init 9 = .ok (.invokespecial 11, 3) := by decide +kernel
theorem dX6_init_12 : decode cX6_init 12 = .ok (.putfield 12, 3) := by decide +kernel
theorem dX6_init_15 : decode cX6_init 15 = .ok (.aload_n 0, 1) := by decide +kernel
theorem dX6_init_16 : decode cX6_init 16 = .ok (.new 16, 3) := by decide +kernel
theorem dX6_init_19 : decode cX6_init 19 = .ok (.dup, 1) := by decide +kernel
theorem dX6_init_20 : decode cX6_init 20 = .ok (.invokespecial 18, 3) := by decide +kernel
theorem dX6_init_23 : decode cX6_init 23 = .ok (.putfield 19, 3) := by decide +kernel
theorem dX6_init_26 : decode cX6_init 26 = .ok (.aload_n 0, 1) := by decide +kernel
theorem dX6_init_27 : decode cX6_init 27 = .ok (.new 9, 3) := by decide +kernel
theorem dX6_init_30 : decode cX6_init 30 = .ok (.dup, 1) := by decide +kernel
theorem dX6_init_31 : decode cX6_init 31 = .ok (.invokespecial 11, 3) := by decide +kernel
theorem dX6_init_34 : decode cX6_init 34 = .ok (.putfield 23, 3) := by decide +kernel
theorem dX6_init_37 : decode cX6_init 37 = .ok (.aload_n 0, 1) := by decide +kernel
theorem dX6_init_38 : decode cX6_init 38 = .ok (.new 16, 3) := by decide +kernel
theorem dX6_init_41 : decode cX6_init 41 = .ok (.dup, 1) := by decide +kernel
theorem dX6_init_42 : decode cX6_init 42 = .ok (.invokespecial 18, 3) := by decide +kernel
theorem dX6_init_45 : decode cX6_init 45 = .ok (.putfield 26, 3) := by decide +kernel
theorem dX6_init_48 : decode cX6_init 48 = .ok (.aload_n 0, 1) := by decide +kernel
theorem dX6_init_49 : decode cX6_init 49 = .ok (.new 29, 3) := by decide +kernel
theorem dX6_init_52 : decode cX6_init 52 = .ok (.dup, 1) := by decide +kernel
theorem dX6_init_53 : decode cX6_init 53 = .ok (.invokespecial 31, 3) := by decide +kernel
theorem dX6_init_56 : decode cX6_init 56 = .ok (.putfield 32, 3) := by decide +kernel
theorem dX6_init_59 : decode cX6_init 59 = .ok (.aload_n 0, 1) := by decide +kernel
theorem dX6_init_60 : decode cX6_init 60 = .ok (.new 36, 3) := by decide +kernel
theorem dX6_init_63 : decode cX6_init 63 = .ok (.dup, 1) := by decide +kernel
theorem dX6_init_64 : decode cX6_init 64 = .ok (.invokespecial 38, 3) := by decide +kernel
theorem dX6_init_67 : decode cX6_init 67 = .ok (.putfield 39, 3) := by decide +kernel
theorem dX6_init_70 : decode cX6_init 70 = .ok (.aload_n 0, 1) := by decide +kernel
theorem dX6_init_71 : decode cX6_init 71 = .ok (.bipush 6, 2) := by decide +kernel
theorem dX6_init_73 : decode cX6_init 73 = .ok (.anewarray 9, 3) := by decide +kernel
theorem dX6_init_76 : decode cX6_init 76 = .ok (.putfield 43, 3) := by decide +kernel
theorem dX6_init_79 : decode cX6_init 79 = .ok (.aload_n 0, 1) := by decide +kernel
theorem dX6_init_80 : decode cX6_init 80 = .ok (.iconst 0, 1) := by decide +kernel
theorem dX6_init_81 : decode cX6_init 81 = .ok (.putfield 47, 3) := by decide +kernel
theorem dX6_init_84 : decode cX6_init 84 = .ok (.aload_n 0, 1) := by decide +kernel
theorem dX6_init_85 : decode cX6_init 85 = .ok (.iconst 2, 1) := by decide +kernel
theorem dX6_init_86 : decode cX6_init 86 = .ok (.anewarray 9, 3) := by decide +kernel
theorem dX6_init_89 : decode cX6_init 89 = .ok (.putfield 51, 3) := by decide +kernel
theorem dX6_init_92 : decode cX6_init 92 = .ok (.aload_n 0, 1) := by decide +kernel
theorem dX6_init_93 : decode cX6_init 93 = .ok (.iconst 2, 1) := by decide +kernel
theorem dX6_init_94 : decode cX6_init 94 = .ok (.newarray .boolean, 2) := by decide +kernel
theorem dX6_init_96 : decode cX6_init 96 = .ok (.putfield 54, 3) := by decide +kernel
theorem dX6_init_99 : decode cX6_init 99 = .ok (.iconst 0, 1) := by decide +kernel
theorem dX6_init_100 : decode cX6_init 100 = .ok (.istore_n 1, 1) := by decide +kernel
theorem dX6_init_101 : decode cX6_init 101 = .ok (.iload_n 1, 1) := by decide +kernel
theorem dX6_init_102 : decode cX6_init 102 = .ok (.bipush 6, 2) := by decide +kernel
theorem dX6_init_104 : decode cX6_init 104 = .ok (.if_icmp .ge 22, 3) := by decide +kernel
theorem dX6_init_107 : decode cX6_init 107 = .ok (.aload_n 0, 1) := by decide +kernel
theorem dX6_init_108 : decode cX6_init 108 = .ok (.getfield 43, 3) := by decide +kernel
theorem dX6_init_111 : decode cX6_init 111 = .ok (.iload_n 1, 1) := by decide +kernel
theorem dX6_init_112 : decode cX6_init 112 = .ok (.new 9, 3) := by decide +kernel
theorem dX6_init_115 : decode cX6_init 115 = .ok (.dup, 1) := by decide +kernel
theorem dX6_init_116 : decode cX6_init 116 = .ok (.invokespecial 11, 3) := by decide +kernel
theorem dX6_init_119 : decode cX6_init 119 = .ok (.aastore, 1) := by decide +kernel
theorem dX6_init_120 : decode cX6_init 120 = .ok (.iinc 1 1, 3) := by decide +kernel
theorem dX6_init_123 : decode cX6_init 123 = .ok (.goto (-22), 3) := by decide +kernel
theorem dX6_init_126 : decode cX6_init 126 = .ok (.iconst 0, 1) := by decide +kernel
theorem dX6_init_127 : decode cX6_init 127 = .ok (.istore_n 1, 1) := by decide +kernel
theorem dX6_init_128 : decode cX6_init 128 = .ok (.iload_n 1, 1) := by decide +kernel
theorem dX6_init_129 : decode cX6_init 129 = .ok (.iconst 2, 1) := by decide +kernel
theorem dX6_init_130 : decode cX6_init 130 = .ok (.if_icmp .ge 22, 3) := by decide +kernel
theorem dX6_init_133 : decode cX6_init 133 = .ok (.aload_n 0, 1) := by decide +kernel
theorem dX6_init_134 : decode cX6_init 134 = .ok (.getfield 51, 3) := by decide +kernel
theorem dX6_init_137 : decode cX6_init 137 = .ok (.iload_n 1, 1) := by decide +kernel
theorem dX6_init_138 : decode cX6_init 138 = .ok (.new 9, 3) := by decide +kernel
theorem dX6_init_141 : decode cX6_init 141 = .ok (.dup, 1) := by decide +kernel
theorem dX6_init_142 : decode cX6_init 142 = .ok (.invokespecial 11, 3) := by decide +kernel
theorem dX6_init_145 : decode cX6_init 145 = .ok (.aastore, 1) := by decide +kernel
theorem dX6_init_146 : decode cX6_init 146 = .ok (.iinc 1 1, 3) := by decide +kernel
theorem dX6_init_149 : decode cX6_init 149 = .ok (.goto (-21), 3) := by decide +kernel
theorem dX6_init_152 : decode cX6_init 152 = .ok (.aload_n 0, 1) := by decide +kernel
theorem dX6_init_153 : decode cX6_init 153 = .ok (.invokevirtual 58, 3) := by decide +kernel
theorem dX6_init_156 : decode cX6_init 156 = .ok (.return_, 1) := by decide +kernel
theorem dX6_set_0 : decode cX6_set 0 = .ok (.iload_n 1, 1) := by decide +kernel
theorem dX6_set_1 : decode cX6_set 1 = .ok (.ifCond .lt 8, 3) := by decide +kernel
theorem dX6_set_4 : decode cX6_set 4 = .ok (.iload_n 1, 1) := by decide +kernel
theorem dX6_set_5 : decode cX6_set 5 = .ok (.iconst 3, 1) := by decide +kernel
theorem dX6_set_6 : decode cX6_set 6 = .ok (.if_icmp .lt 6, 3) := by decide +kernel
theorem dX6_set_9 : decode cX6_set 9 = .ok (.bipush (-2), 2) := by decide +kernel
theorem dX6_set_11 : decode cX6_set 11 = .ok (.ireturn, 1) := by decide +kernel
theorem dX6_set_12 : decode cX6_set 12 = .ok (.iload_n 2, 1) := by decide +kernel
theorem dX6_set_13 : decode cX6_set 13 = .ok (.iload_n 1, 1) := by decide +kernel
theorem dX6_set_14 : decode cX6_set 14 = .ok (.invokestatic 61, 3) := by decide +kernel
theorem dX6_set_17 : decode cX6_set 17 = .ok (.if_icmp .lt 11, 3) := by decide +kernel
theorem dX6_set_20 : decode cX6_set 20 = .ok (.iload_n 2, 1) := by decide +kernel
theorem dX6_set_21 : decode cX6_set 21 = .ok (.iload_n 1, 1) := by decide +kernel
theorem dX6_set_22 : decode cX6_set 22 = .ok (.invokestatic 65, 3) := by decide +kernel
theorem dX6_set_25 : decode cX6_set 25 = .ok (.if_icmp .le 6, 3) := by decide +kernel
theorem dX6_set_28 : decode cX6_set 28 = .ok (.bipush (-2), 2) := by decide +kernel
theorem dX6_set_30 : decode cX6_set 30 = .ok (.ireturn, 1) := by decide +kernel
theorem dX6_set_31 : decode cX6_set 31 = .ok (.aload_n 0, 1) := by decide +kernel
theorem dX6_set_32 : decode cX6_set 32 = .ok (.invokevirtual 68, 3) := by decide +kernel
theorem dX6_set_35 : decode cX6_set 35 = .ok (.aload_n 0, 1) := by decide +kernel
theorem dX6_set_36 : decode cX6_set 36 = .ok (.getfield 12, 3) := by decide +kernel
theorem dX6_set_39 : decode cX6_set 39 = .ok (.getfield 71, 3) := by decide +kernel
theorem dX6_set_42 : decode cX6_set 42 = .ok (.iload_n 1, 1) := by decide +kernel
theorem dX6_set_43 : decode cX6_set 43 = .ok (.iaload, 1) := by decide +kernel
theorem dX6_set_44 : decode cX6_set 44 = .ok (.istore_n 3, 1) := by decide +kernel
theorem dX6_set_45 : decode cX6_set 45 = .ok (.aload_n 0, 1) := by decide +kernel
theorem dX6_set_46 : decode cX6_set 46 = .ok (.getfield 12, 3) := by decide +kernel
theorem dX6_set_49 : decode cX6_set 49 = .ok (.getfield 71, 3) := by decide +kernel
theorem dX6_set_52 : decode cX6_set 52 = .ok (.iload_n 1, 1) := by decide +kernel
theorem dX6_set_53 : decode cX6_set 53 = .ok (.iload_n 2, 1) := by decide +kernel
theorem dX6_set_54 : decode cX6_set 54 = .ok (.iastore, 1) := by decide +kernel
theorem dX6_set_55 : decode cX6_set 55 = .ok (.aload_n 0, 1) := by decide +kernel
theorem dX6_set_56 : decode cX6_set 56 = .ok (.invokevirtual 58, 3) := by decide +kernel
theorem dX6_set_59 : decode cX6_set 59 = .ok (.iload_n 3, 1) := by decide +kernel
theorem dX6_set_60 : decode cX6_set 60 = .ok (.ireturn, 1) := by decide +kernel
theorem dX6_mesh_0 : decode cX6_mesh 0 = .ok (.iload_n 1, 1) := by decide +kernel
theorem dX6_mesh_1 : decode cX6_mesh 1 = .ok (.invokestatic 75, 3) := by decide +kernel
theorem dX6_mesh_4 : decode cX6_mesh 4 = .ok (.ifCond .eq 10, 3) := by decide +kernel
theorem dX6_mesh_7 : decode cX6_mesh 7 = .ok (.iload_n 2, 1) := by decide +kernel
theorem dX6_mesh_8 : decode cX6_mesh 8 = .ok (.invokestatic 75, 3) := by decide +kernel
theorem dX6_mesh_11 : decode cX6_mesh 11 = .ok (.ifCond .ne 6, 3) := by decide +kernel
theorem dX6_mesh_14 : decode cX6_mesh 14 = .ok (.bipush (-2), 2) := by decide +kernel
theorem dX6_mesh_16 : decode cX6_mesh 16 = .ok (.ireturn, 1) := by decide +kernel
theorem dX6_mesh_17 : decode cX6_mesh 17 = .ok (.aload_n 0, 1) := by decide +kernel
theorem dX6_mesh_18 : decode cX6_mesh 18 = .ok (.getfield 12, 3) := by decide +kernel
theorem dX6_mesh_21 : decode cX6_mesh 21 = .ok (.getfield 79, 3) := by decide +kernel
theorem dX6_mesh_24 : decode cX6_mesh 24 = .ok (.getfield 83, 3) := by decide +kernel
theorem dX6_mesh_27 : decode cX6_mesh 27 = .ok (.ifCond .le 6, 3) := by decide +kernel
theorem dX6_mesh_30 : decode cX6_mesh 30 = .ok (.bipush (-5), 2) := by decide +kernel
theorem dX6_mesh_32 : decode cX6_mesh 32 = .ok (.ireturn, 1) := by decide +kernel
theorem dX6_mesh_33 : decode cX6_mesh 33 = .ok (.aload_n 0, 1) := by decide +kernel
theorem dX6_mesh_34 : decode cX6_mesh 34 = .ok (.invokevirtual 68, 3) := by decide +kernel
theorem dX6_mesh_37 : decode cX6_mesh 37 = .ok (.aload_n 0, 1) := by decide +kernel
theorem dX6_mesh_38 : decode cX6_mesh 38 = .ok (.getfield 12, 3) := by decide +kernel
theorem dX6_mesh_41 : decode cX6_mesh 41 = .ok (.getfield 88, 3) := by decide +kernel
theorem dX6_mesh_44 : decode cX6_mesh 44 = .ok (.iload_n 1, 1) := by decide +kernel
theorem dX6_mesh_45 : decode cX6_mesh 45 = .ok (.iload_n 2, 1) := by decide +kernel
theorem dX6_mesh_46 : decode cX6_mesh 46 = .ok (.invokevirtual 92, 3) := by decide +kernel
theorem dX6_mesh_49 : decode cX6_mesh 49 = .ok (.aload_n 0, 1) := by decide +kernel
theorem dX6_mesh_50 : decode cX6_mesh 50 = .ok (.invokevirtual 58, 3) := by decide +kernel
theorem dX6_mesh_53 : decode cX6_mesh 53 = .ok (.aload_n 0, 1) := by decide +kernel
theorem dX6_mesh_54 : decode cX6_mesh 54 = .ok (.getfield 12, 3) := by decide +kernel
theorem dX6_mesh_57 : decode cX6_mesh 57 = .ok (.getfield 88, 3) := by decide +kernel
theorem dX6_mesh_60 : decode cX6_mesh 60 = .ok (.invokevirtual 98, 3) := by decide +kernel
theorem dX6_mesh_63 : decode cX6_mesh 63 = .ok (.ireturn, 1) := by decide +kernel
theorem dX6_link_0 : decode cX6_link 0 = .ok (.aload_n 0, 1) := by decide +kernel
theorem dX6_link_1 : decode cX6_link 1 = .ok (.iload_n 1, 1) := by decide +kernel
theorem dX6_link_2 : decode cX6_link 2 = .ok (.iload_n 2, 1) := by decide +kernel
theorem dX6_link_3 : decode cX6_link 3 = .ok (.iload_n 3, 1) := by decide +kernel
theorem dX6_link_4 : decode cX6_link 4 = .ok (.invokevirtual 102, 3) := by decide +kernel
theorem dX6_link_7 : decode cX6_link 7 = .ok (.istore 4, 2) := by decide +kernel
theorem dX6_link_9 : decode cX6_link 9 = .ok (.iload 4, 2) := by decide +kernel
theorem dX6_link_11 : decode cX6_link 11 = .ok (.ifCond .eq 6, 3) := by decide +kernel
theorem dX6_link_14 : decode cX6_link 14 = .ok (.iload 4, 2) := by decide +kernel
theorem dX6_link_16 : decode cX6_link 16 = .ok (.ireturn, 1) := by decide +kernel
theorem dX6_link_17 : decode cX6_link 17 = .ok (.aload_n 0, 1) := by decide +kernel
theorem dX6_link_18 : decode cX6_link 18 = .ok (.invokevirtual 68, 3) := by decide +kernel
theorem dX6_link_21 : decode cX6_link 21 = .ok (.aload_n 0, 1) := by decide +kernel
theorem dX6_link_22 : decode cX6_link 22 = .ok (.iload_n 1, 1) := by decide +kernel
theorem dX6_link_23 : decode cX6_link 23 = .ok (.iload_n 2, 1) := by decide +kernel
theorem dX6_link_24 : decode cX6_link 24 = .ok (.iload_n 3, 1) := by decide +kernel
theorem dX6_link_25 : decode cX6_link 25 = .ok (.invokevirtual 106, 3) := by decide +kernel
theorem dX6_link_28 : decode cX6_link 28 = .ok (.ireturn, 1) := by decide +kernel
theorem dX6_send_0 : decode cX6_send 0 = .ok (.aload_n 0, 1) := by decide +kernel
theorem dX6_send_1 : decode cX6_send 1 = .ok (.iload_n 1, 1) := by decide +kernel
theorem dX6_send_2 : decode cX6_send 2 = .ok (.iload_n 2, 1) := by decide +kernel
theorem dX6_send_3 : decode cX6_send 3 = .ok (.invokevirtual 109, 3) := by decide +kernel
theorem dX6_send_6 : decode cX6_send 6 = .ok (.istore_n 3, 1) := by decide +kernel
theorem dX6_send_7 : decode cX6_send 7 = .ok (.iload_n 3, 1) := by decide +kernel
theorem dX6_send_8 : decode cX6_send 8 = .ok (.ifCond .eq 5, 3) := by decide +kernel
theorem dX6_send_11 : decode cX6_send 11 = .ok (.iload_n 3, 1) := by decide +kernel
theorem dX6_send_12 : decode cX6_send 12 = .ok (.ireturn, 1) := by decide +kernel
theorem dX6_send_13 : decode cX6_send 13 = .ok (.aload_n 0, 1) := by decide +kernel
theorem dX6_send_14 : decode cX6_send 14 = .ok (.invokevirtual 68, 3) := by decide +kernel
theorem dX6_send_17 : decode cX6_send 17 = .ok (.aload_n 0, 1) := by decide +kernel
theorem dX6_send_18 : decode cX6_send 18 = .ok (.getfield 12, 3) := by decide +kernel
theorem dX6_send_21 : decode cX6_send 21 = .ok (.getfield 79, 3) := by decide +kernel
theorem dX6_send_24 : decode cX6_send 24 = .ok (.iload_n 1, 1) := by decide +kernel
theorem dX6_send_25 : decode cX6_send 25 = .ok (.iload_n 2, 1) := by decide +kernel
theorem dX6_send_26 : decode cX6_send 26 = .ok (.aload_n 0, 1) := by decide +kernel
theorem dX6_send_27 : decode cX6_send 27 = .ok (.getfield 12, 3) := by decide +kernel
theorem dX6_send_30 : decode cX6_send 30 = .ok (.getfield 113, 3) := by decide +kernel
theorem dX6_send_33 : decode cX6_send 33 = .ok (.invokevirtual 116, 3) := by decide +kernel
theorem dX6_send_36 : decode cX6_send 36 = .ok (.ireturn, 1) := by decide +kernel
theorem dX6_ticks_0 : decode cX6_ticks 0 = .ok (.iload_n 1, 1) := by decide +kernel
theorem dX6_ticks_1 : decode cX6_ticks 1 = .ok (.invokestatic 119, 3) := by decide +kernel
theorem dX6_ticks_4 : decode cX6_ticks 4 = .ok (.ifCond .ne 6, 3) := by decide +kernel
theorem dX6_ticks_7 : decode cX6_ticks 7 = .ok (.bipush (-2), 2) := by decide +kernel
theorem dX6_ticks_9 : decode cX6_ticks 9 = .ok (.ireturn, 1) := by decide +kernel
theorem dX6_ticks_10 : decode cX6_ticks 10 = .ok (.aload_n 0, 1) := by decide +kernel
theorem dX6_ticks_11 : decode cX6_ticks 11 = .ok (.invokevirtual 68, 3) := by decide +kernel
theorem dX6_ticks_14 : decode cX6_ticks 14 = .ok (.aload_n 0, 1) := by decide +kernel
theorem dX6_ticks_15 : decode cX6_ticks 15 = .ok (.getfield 12, 3) := by decide +kernel
theorem dX6_ticks_18 : decode cX6_ticks 18 = .ok (.aload_n 0, 1) := by decide +kernel
theorem dX6_ticks_19 : decode cX6_ticks 19 = .ok (.getfield 19, 3) := by decide +kernel
theorem dX6_ticks_22 : decode cX6_ticks 22 = .ok (.iload_n 1, 1) := by decide +kernel
theorem dX6_ticks_23 : decode cX6_ticks 23 = .ok (.invokevirtual 122, 3) := by decide +kernel
theorem dX6_ticks_26 : decode cX6_ticks 26 = .ok (.aload_n 0, 1) := by decide +kernel
theorem dX6_ticks_27 : decode cX6_ticks 27 = .ok (.getfield 12, 3) := by decide +kernel
theorem dX6_ticks_30 : decode cX6_ticks 30 = .ok (.getfield 113, 3) := by decide +kernel
theorem dX6_ticks_33 : decode cX6_ticks 33 = .ok (.ireturn, 1) := by decide +kernel
theorem dX6_ofPacket_0 : decode cX6_ofPacket 0 = .ok (.aload_n 0, 1) := by decide +kernel
theorem dX6_ofPacket_1 : decode cX6_ofPacket 1 = .ok (.getfield 12, 3) := by decide +kernel
theorem dX6_ofPacket_4 : decode cX6_ofPacket 4 = .ok (.getfield 79, 3) := by decide +kernel
theorem dX6_ofPacket_7 : decode cX6_ofPacket 7 = .ok (.astore_n 3, 1) := by decide +kernel
theorem dX6_ofPacket_8 : decode cX6_ofPacket 8 = .ok (.aload_n 3, 1) := by decide +kernel
theorem dX6_ofPacket_9 : decode cX6_ofPacket 9 = .ok (.iload_n 1, 1) := by decide +kernel
theorem dX6_ofPacket_10 : decode cX6_ofPacket 10 = .ok (.invokevirtual 126, 3) := by decide +kernel
theorem dX6_ofPacket_13 : decode cX6_ofPacket 13 = .ok (.ifCond .ne 5, 3) := by decide +kernel
theorem dX6_ofPacket_16 : decode cX6_ofPacket 16 = .ok (.iconst (-1), 1) := by decide +kernel
theorem dX6_ofPacket_17 : decode cX6_ofPacket 17 = .ok (.ireturn, 1) := by decide +kernel
theorem dX6_ofPacket_18 : decode cX6_ofPacket 18 = .ok (.iload_n 2, 1) := by decide +kernel
theorem dX6_ofPacket_19 : decode cX6_ofPacket 19 = .ok (.tableswitch 187 0 12 #[65, 72, 79, 86, 93, 100, 107, 114, 121, 128, 135, 148, 162], 65) := by decide +kernel
theorem dX6_ofPacket_84 : decode cX6_ofPacket 84 = .ok (.aload_n 3, 1) := by decide +kernel
theorem dX6_ofPacket_85 : decode cX6_ofPacket 85 = .ok (.getfield 129, 3) := by decide +kernel
theorem dX6_ofPacket_88 : decode cX6_ofPacket 88 = .ok (.iload_n 1, 1) := by decide +kernel
theorem dX6_ofPacket_89 : decode cX6_ofPacket 89 = .ok (.iaload, 1) := by decide +kernel
theorem dX6_ofPacket_90 : decode cX6_ofPacket 90 = .ok (.ireturn, 1) := by decide +kernel
theorem dX6_ofPacket_91 : decode cX6_ofPacket 91 = .ok (.aload_n 3, 1) := by decide +kernel
theorem dX6_ofPacket_92 : decode cX6_ofPacket 92 = .ok (.getfield 132, 3) := by decide +kernel
theorem dX6_ofPacket_95 : decode cX6_ofPacket 95 = .ok (.iload_n 1, 1) := by decide +kernel
theorem dX6_ofPacket_96 : decode cX6_ofPacket 96 = .ok (.iaload, 1) := by decide +kernel
theorem dX6_ofPacket_97 : decode cX6_ofPacket 97 = .ok (.ireturn, 1) := by decide +kernel
theorem dX6_ofPacket_98 : decode cX6_ofPacket 98 = .ok (.aload_n 3, 1) := by decide +kernel
theorem dX6_ofPacket_99 : decode cX6_ofPacket 99 = .ok (.getfield 135, 3) := by decide +kernel
theorem dX6_ofPacket_102 : decode cX6_ofPacket 102 = .ok (.iload_n 1, 1) := by decide +kernel
theorem dX6_ofPacket_103 : decode cX6_ofPacket 103 = .ok (.iaload, 1) := by decide +kernel
theorem dX6_ofPacket_104 : decode cX6_ofPacket 104 = .ok (.ireturn, 1) := by decide +kernel
theorem dX6_ofPacket_105 : decode cX6_ofPacket 105 = .ok (.aload_n 3, 1) := by decide +kernel
theorem dX6_ofPacket_106 : decode cX6_ofPacket 106 = .ok (.getfield 138, 3) := by decide +kernel
theorem dX6_ofPacket_109 : decode cX6_ofPacket 109 = .ok (.iload_n 1, 1) := by decide +kernel
theorem dX6_ofPacket_110 : decode cX6_ofPacket 110 = .ok (.iaload, 1) := by decide +kernel
theorem dX6_ofPacket_111 : decode cX6_ofPacket 111 = .ok (.ireturn, 1) := by decide +kernel
theorem dX6_ofPacket_112 : decode cX6_ofPacket 112 = .ok (.aload_n 3, 1) := by decide +kernel
theorem dX6_ofPacket_113 : decode cX6_ofPacket 113 = .ok (.getfield 141, 3) := by decide +kernel
theorem dX6_ofPacket_116 : decode cX6_ofPacket 116 = .ok (.iload_n 1, 1) := by decide +kernel
theorem dX6_ofPacket_117 : decode cX6_ofPacket 117 = .ok (.iaload, 1) := by decide +kernel
theorem dX6_ofPacket_118 : decode cX6_ofPacket 118 = .ok (.ireturn, 1) := by decide +kernel
theorem dX6_ofPacket_119 : decode cX6_ofPacket 119 = .ok (.aload_n 3, 1) := by decide +kernel
theorem dX6_ofPacket_120 : decode cX6_ofPacket 120 = .ok (.getfield 144, 3) := by decide +kernel
theorem dX6_ofPacket_123 : decode cX6_ofPacket 123 = .ok (.iload_n 1, 1) := by decide +kernel
theorem dX6_ofPacket_124 : decode cX6_ofPacket 124 = .ok (.iaload, 1) := by decide +kernel
theorem dX6_ofPacket_125 : decode cX6_ofPacket 125 = .ok (.ireturn, 1) := by decide +kernel
theorem dX6_ofPacket_126 : decode cX6_ofPacket 126 = .ok (.aload_n 3, 1) := by decide +kernel
theorem dX6_ofPacket_127 : decode cX6_ofPacket 127 = .ok (.getfield 147, 3) := by decide +kernel
theorem dX6_ofPacket_130 : decode cX6_ofPacket 130 = .ok (.iload_n 1, 1) := by decide +kernel
theorem dX6_ofPacket_131 : decode cX6_ofPacket 131 = .ok (.iaload, 1) := by decide +kernel
theorem dX6_ofPacket_132 : decode cX6_ofPacket 132 = .ok (.ireturn, 1) := by decide +kernel
theorem dX6_ofPacket_133 : decode cX6_ofPacket 133 = .ok (.aload_n 3, 1) := by decide +kernel
theorem dX6_ofPacket_134 : decode cX6_ofPacket 134 = .ok (.getfield 150, 3) := by decide +kernel
theorem dX6_ofPacket_137 : decode cX6_ofPacket 137 = .ok (.iload_n 1, 1) := by decide +kernel
theorem dX6_ofPacket_138 : decode cX6_ofPacket 138 = .ok (.iaload, 1) := by decide +kernel
theorem dX6_ofPacket_139 : decode cX6_ofPacket 139 = .ok (.ireturn, 1) := by decide +kernel
theorem dX6_ofPacket_140 : decode cX6_ofPacket 140 = .ok (.aload_n 3, 1) := by decide +kernel
theorem dX6_ofPacket_141 : decode cX6_ofPacket 141 = .ok (.getfield 153, 3) := by decide +kernel
theorem dX6_ofPacket_144 : decode cX6_ofPacket 144 = .ok (.iload_n 1, 1) := by decide +kernel
theorem dX6_ofPacket_145 : decode cX6_ofPacket 145 = .ok (.iaload, 1) := by decide +kernel
theorem dX6_ofPacket_146 : decode cX6_ofPacket 146 = .ok (.ireturn, 1) := by decide +kernel
theorem dX6_ofPacket_147 : decode cX6_ofPacket 147 = .ok (.aload_n 3, 1) := by decide +kernel
theorem dX6_ofPacket_148 : decode cX6_ofPacket 148 = .ok (.getfield 156, 3) := by decide +kernel
theorem dX6_ofPacket_151 : decode cX6_ofPacket 151 = .ok (.iload_n 1, 1) := by decide +kernel
theorem dX6_ofPacket_152 : decode cX6_ofPacket 152 = .ok (.iaload, 1) := by decide +kernel
theorem dX6_ofPacket_153 : decode cX6_ofPacket 153 = .ok (.ireturn, 1) := by decide +kernel
theorem dX6_ofPacket_154 : decode cX6_ofPacket 154 = .ok (.aload_n 0, 1) := by decide +kernel
theorem dX6_ofPacket_155 : decode cX6_ofPacket 155 = .ok (.getfield 12, 3) := by decide +kernel
theorem dX6_ofPacket_158 : decode cX6_ofPacket 158 = .ok (.aload_n 0, 1) := by decide +kernel
theorem dX6_ofPacket_159 : decode cX6_ofPacket 159 = .ok (.getfield 19, 3) := by decide +kernel
theorem dX6_ofPacket_162 : decode cX6_ofPacket 162 = .ok (.iload_n 1, 1) := by decide +kernel
theorem dX6_ofPacket_163 : decode cX6_ofPacket 163 = .ok (.invokevirtual 159, 3) := by decide +kernel
theorem dX6_ofPacket_166 : decode cX6_ofPacket 166 = .ok (.ireturn, 1) := by decide +kernel
theorem dX6_ofPacket_167 : decode cX6_ofPacket 167 = .ok (.aload_n 0, 1) := by decide +kernel
theorem dX6_ofPacket_168 : decode cX6_ofPacket 168 = .ok (.getfield 12, 3) := by decide +kernel
theorem dX6_ofPacket_171 : decode cX6_ofPacket 171 = .ok (.aload_n 0, 1) := by decide +kernel
theorem dX6_ofPacket_172 : decode cX6_ofPacket 172 = .ok (.getfield 19, 3) := by decide +kernel
theorem dX6_ofPacket_175 : decode cX6_ofPacket 175 = .ok (.iload_n 1, 1) := by decide +kernel
theorem dX6_ofPacket_176 : decode cX6_ofPacket 176 = .ok (.iconst 0, 1) := by decide +kernel
theorem dX6_ofPacket_177 : decode cX6_ofPacket 177 = .ok (.invokevirtual 163, 3) := by decide +kernel
theorem dX6_ofPacket_180 : decode cX6_ofPacket 180 = .ok (.ireturn, 1) := by decide +kernel
theorem dX6_ofPacket_181 : decode cX6_ofPacket 181 = .ok (.aload_n 0, 1) := by decide +kernel
theorem dX6_ofPacket_182 : decode cX6_ofPacket 182 = .ok (.getfield 32, 3) := by decide +kernel
theorem dX6_ofPacket_185 : decode cX6_ofPacket 185 = .ok (.aload_n 0, 1) := by decide +kernel
theorem dX6_ofPacket_186 : decode cX6_ofPacket 186 = .ok (.getfield 12, 3) := by decide +kernel
theorem dX6_ofPacket_189 : decode cX6_ofPacket 189 = .ok (.aload_n 0, 1) := by decide +kernel
theorem dX6_ofPacket_190 : decode cX6_ofPacket 190 = .ok (.getfield 19, 3) := by decide +kernel
theorem dX6_ofPacket_193 : decode cX6_ofPacket 193 = .ok (.iload_n 1, 1) := by decide +kernel
theorem dX6_ofPacket_194 : decode cX6_ofPacket 194 = .ok (.invokevirtual 167, 3) := by decide +kernel
theorem dX6_ofPacket_197 : decode cX6_ofPacket 197 = .ok (.ifCond .eq 7, 3) := by decide +kernel
theorem dX6_ofPacket_200 : decode cX6_ofPacket 200 = .ok (.iconst 1, 1) := by decide +kernel
theorem dX6_ofPacket_201 : decode cX6_ofPacket 201 = .ok (.goto 4, 3) := by decide +kernel
theorem dX6_ofPacket_204 : decode cX6_ofPacket 204 = .ok (.iconst 0, 1) := by decide +kernel
theorem dX6_ofPacket_205 : decode cX6_ofPacket 205 = .ok (.ireturn, 1) := by decide +kernel
theorem dX6_ofPacket_206 : decode cX6_ofPacket 206 = .ok (.bipush (-2), 2) := by decide +kernel
theorem dX6_ofPacket_208 : decode cX6_ofPacket 208 = .ok (.ireturn, 1) := by decide +kernel
theorem dX6_ofBox_0 : decode cX6_ofBox 0 = .ok (.aload_n 0, 1) := by decide +kernel
theorem dX6_ofBox_1 : decode cX6_ofBox 1 = .ok (.getfield 12, 3) := by decide +kernel
theorem dX6_ofBox_4 : decode cX6_ofBox 4 = .ok (.getfield 88, 3) := by decide +kernel
theorem dX6_ofBox_7 : decode cX6_ofBox 7 = .ok (.iload_n 1, 1) := by decide +kernel
theorem dX6_ofBox_8 : decode cX6_ofBox 8 = .ok (.invokevirtual 171, 3) := by decide +kernel
theorem dX6_ofBox_11 : decode cX6_ofBox 11 = .ok (.ifCond .ne 5, 3) := by decide +kernel
theorem dX6_ofBox_14 : decode cX6_ofBox 14 = .ok (.iconst (-1), 1) := by decide +kernel
theorem dX6_ofBox_15 : decode cX6_ofBox 15 = .ok (.ireturn, 1) := by decide +kernel
theorem dX6_ofBox_16 : decode cX6_ofBox 16 = .ok (.iload_n 2, 1) := by decide +kernel
theorem dX6_ofBox_17 : decode cX6_ofBox 17 = .ok (.ifCond .lt 9, 3) := by decide +kernel
theorem dX6_ofBox_20 : decode cX6_ofBox 20 = .ok (.iload_n 2, 1) := by decide +kernel
theorem dX6_ofBox_21 : decode cX6_ofBox 21 = .ok (.bipush 10, 2) := by decide +kernel
theorem dX6_ofBox_23 : decode cX6_ofBox 23 = .ok (.if_icmp .le 6, 3) := by decide +kernel
theorem dX6_ofBox_26 : decode cX6_ofBox 26 = .ok (.bipush (-2), 2) := by decide +kernel
theorem dX6_ofBox_28 : decode cX6_ofBox 28 = .ok (.ireturn, 1) := by decide +kernel
theorem dX6_ofBox_29 : decode cX6_ofBox 29 = .ok (.iload_n 2, 1) := by decide +kernel
theorem dX6_ofBox_30 : decode cX6_ofBox 30 = .ok (.tableswitch 90 0 6 #[42, 55, 68, 81, 81, 81, 81], 42) := by decide +kernel
theorem dX6_ofBox_72 : decode cX6_ofBox 72 = .ok (.aload_n 0, 1) := by decide +kernel
theorem dX6_ofBox_73 : decode cX6_ofBox 73 = .ok (.getfield 12, 3) := by decide +kernel
theorem dX6_ofBox_76 : decode cX6_ofBox 76 = .ok (.getfield 79, 3) := by decide +kernel
theorem dX6_ofBox_79 : decode cX6_ofBox 79 = .ok (.iconst 1, 1) := by decide +kernel
theorem dX6_ofBox_80 : decode cX6_ofBox 80 = .ok (.iload_n 1, 1) := by decide +kernel
theorem dX6_ofBox_81 : decode cX6_ofBox 81 = .ok (.invokevirtual 172, 3) := by decide +kernel
theorem dX6_ofBox_84 : decode cX6_ofBox 84 = .ok (.ireturn, 1) := by decide +kernel
theorem dX6_ofBox_85 : decode cX6_ofBox 85 = .ok (.aload_n 0, 1) := by decide +kernel
theorem dX6_ofBox_86 : decode cX6_ofBox 86 = .ok (.getfield 12, 3) := by decide +kernel
theorem dX6_ofBox_89 : decode cX6_ofBox 89 = .ok (.getfield 79, 3) := by decide +kernel
theorem dX6_ofBox_92 : decode cX6_ofBox 92 = .ok (.iconst 0, 1) := by decide +kernel
theorem dX6_ofBox_93 : decode cX6_ofBox 93 = .ok (.iload_n 1, 1) := by decide +kernel
theorem dX6_ofBox_94 : decode cX6_ofBox 94 = .ok (.invokevirtual 172, 3) := by decide +kernel
theorem dX6_ofBox_97 : decode cX6_ofBox 97 = .ok (.ireturn, 1) := by decide +kernel
theorem dX6_ofBox_98 : decode cX6_ofBox 98 = .ok (.aload_n 0, 1) := by decide +kernel
theorem dX6_ofBox_99 : decode cX6_ofBox 99 = .ok (.getfield 12, 3) := by decide +kernel
theorem dX6_ofBox_102 : decode cX6_ofBox 102 = .ok (.getfield 79, 3) := by decide +kernel
theorem dX6_ofBox_105 : decode cX6_ofBox 105 = .ok (.iconst 2, 1) := by decide +kernel
theorem dX6_ofBox_106 : decode cX6_ofBox 106 = .ok (.iload_n 1, 1) := by decide +kernel
theorem dX6_ofBox_107 : decode cX6_ofBox 107 = .ok (.invokevirtual 172, 3) := by decide +kernel
theorem dX6_ofBox_110 : decode cX6_ofBox 110 = .ok (.ireturn, 1) := by decide +kernel
theorem dX6_ofBox_111 : decode cX6_ofBox 111 = .ok (.aload_n 0, 1) := by decide +kernel
theorem dX6_ofBox_112 : decode cX6_ofBox 112 = .ok (.iload_n 1, 1) := by decide +kernel
theorem dX6_ofBox_113 : decode cX6_ofBox 113 = .ok (.iload_n 2, 1) := by decide +kernel
theorem dX6_ofBox_114 : decode cX6_ofBox 114 = .ok (.iconst 3, 1) := by decide +kernel
theorem dX6_ofBox_115 : decode cX6_ofBox 115 = .ok (.isub, 1) := by decide +kernel
theorem dX6_ofBox_116 : decode cX6_ofBox 116 = .ok (.invokevirtual 175, 3) := by decide +kernel
theorem dX6_ofBox_119 : decode cX6_ofBox 119 = .ok (.ireturn, 1) := by decide +kernel
theorem dX6_ofBox_120 : decode cX6_ofBox 120 = .ok (.aload_n 0, 1) := by decide +kernel
theorem dX6_ofBox_121 : decode cX6_ofBox 121 = .ok (.getfield 12, 3) := by decide +kernel
theorem dX6_ofBox_124 : decode cX6_ofBox 124 = .ok (.getfield 178, 3) := by decide +kernel
theorem dX6_ofBox_127 : decode cX6_ofBox 127 = .ok (.iload_n 1, 1) := by decide +kernel
theorem dX6_ofBox_128 : decode cX6_ofBox 128 = .ok (.iconst 4, 1) := by decide +kernel
theorem dX6_ofBox_129 : decode cX6_ofBox 129 = .ok (.imul, 1) := by decide +kernel
theorem dX6_ofBox_130 : decode cX6_ofBox 130 = .ok (.iload_n 2, 1) := by decide +kernel
theorem dX6_ofBox_131 : decode cX6_ofBox 131 = .ok (.iadd, 1) := by decide +kernel
theorem dX6_ofBox_132 : decode cX6_ofBox 132 = .ok (.bipush 7, 2) := by decide +kernel
theorem dX6_ofBox_134 : decode cX6_ofBox 134 = .ok (.isub, 1) := by decide +kernel
theorem dX6_ofBox_135 : decode cX6_ofBox 135 = .ok (.iaload, 1) := by decide +kernel
theorem dX6_ofBox_136 : decode cX6_ofBox 136 = .ok (.ireturn, 1) := by decide +kernel
theorem dX6_count_0 : decode cX6_count 0 = .ok (.aload_n 0, 1) := by decide +kernel
theorem dX6_count_1 : decode cX6_count 1 = .ok (.getfield 12, 3) := by decide +kernel
theorem dX6_count_4 : decode cX6_count 4 = .ok (.getfield 79, 3) := by decide +kernel
theorem dX6_count_7 : decode cX6_count 7 = .ok (.astore_n 2, 1) := by decide +kernel
theorem dX6_count_8 : decode cX6_count 8 = .ok (.iload_n 1, 1) := by decide +kernel
theorem dX6_count_9 : decode cX6_count 9 = .ok (.tableswitch 233 0 16 #[83, 91, 102, 113, 118, 124, 130, 136, 145, 154, 163, 179, 190, 198, 203, 213, 223], 83) := by decide +kernel
theorem dX6_count_92 : decode cX6_count 92 = .ok (.aload_n 0, 1) := by decide +kernel
theorem dX6_count_93 : decode cX6_count 93 = .ok (.getfield 12, 3) := by decide +kernel
theorem dX6_count_96 : decode cX6_count 96 = .ok (.getfield 113, 3) := by decide +kernel
theorem dX6_count_99 : decode cX6_count 99 = .ok (.ireturn, 1) := by decide +kernel
theorem dX6_count_100 : decode cX6_count 100 = .ok (.aload_n 0, 1) := by decide +kernel
theorem dX6_count_101 : decode cX6_count 101 = .ok (.getfield 12, 3) := by decide +kernel
theorem dX6_count_104 : decode cX6_count 104 = .ok (.getfield 88, 3) := by decide +kernel
theorem dX6_count_107 : decode cX6_count 107 = .ok (.invokevirtual 98, 3) := by decide +kernel
theorem dX6_count_110 : decode cX6_count 110 = .ok (.ireturn, 1) := by decide +kernel
theorem dX6_count_111 : decode cX6_count 111 = .ok (.aload_n 0, 1) := by decide +kernel
theorem dX6_count_112 : decode cX6_count 112 = .ok (.getfield 12, 3) := by decide +kernel
theorem dX6_count_115 : decode cX6_count 115 = .ok (.getfield 88, 3) := by decide +kernel
theorem dX6_count_118 : decode cX6_count 118 = .ok (.getfield 181, 3) := by decide +kernel
theorem dX6_count_121 : decode cX6_count 121 = .ok (.ireturn, 1) := by decide +kernel
theorem dX6_count_122 : decode cX6_count 122 = .ok (.aload_n 2, 1) := by decide +kernel
theorem dX6_count_123 : decode cX6_count 123 = .ok (.getfield 83, 3) := by decide +kernel
theorem dX6_count_126 : decode cX6_count 126 = .ok (.ireturn, 1) := by decide +kernel
theorem dX6_count_127 : decode cX6_count 127 = .ok (.aload_n 2, 1) := by decide +kernel
theorem dX6_count_128 : decode cX6_count 128 = .ok (.iconst 0, 1) := by decide +kernel
theorem dX6_count_129 : decode cX6_count 129 = .ok (.invokevirtual 184, 3) := by decide +kernel
theorem dX6_count_132 : decode cX6_count 132 = .ok (.ireturn, 1) := by decide +kernel
theorem dX6_count_133 : decode cX6_count 133 = .ok (.aload_n 2, 1) := by decide +kernel
theorem dX6_count_134 : decode cX6_count 134 = .ok (.iconst 1, 1) := by decide +kernel
theorem dX6_count_135 : decode cX6_count 135 = .ok (.invokevirtual 184, 3) := by decide +kernel
theorem dX6_count_138 : decode cX6_count 138 = .ok (.ireturn, 1) := by decide +kernel
theorem dX6_count_139 : decode cX6_count 139 = .ok (.aload_n 2, 1) := by decide +kernel
theorem dX6_count_140 : decode cX6_count 140 = .ok (.iconst 2, 1) := by decide +kernel
theorem dX6_count_141 : decode cX6_count 141 = .ok (.invokevirtual 184, 3) := by decide +kernel
theorem dX6_count_144 : decode cX6_count 144 = .ok (.ireturn, 1) := by decide +kernel
theorem dX6_count_145 : decode cX6_count 145 = .ok (.aload_n 2, 1) := by decide +kernel
theorem dX6_count_146 : decode cX6_count 146 = .ok (.aload_n 2, 1) := by decide +kernel
theorem dX6_count_147 : decode cX6_count 147 = .ok (.getfield 141, 3) := by decide +kernel
theorem dX6_count_150 : decode cX6_count 150 = .ok (.invokevirtual 187, 3) := by decide +kernel
theorem dX6_count_153 : decode cX6_count 153 = .ok (.ireturn, 1) := by decide +kernel
theorem dX6_count_154 : decode cX6_count 154 = .ok (.aload_n 2, 1) := by decide +kernel
theorem dX6_count_155 : decode cX6_count 155 = .ok (.aload_n 2, 1) := by decide +kernel
theorem dX6_count_156 : decode cX6_count 156 = .ok (.getfield 144, 3) := by decide +kernel
theorem dX6_count_159 : decode cX6_count 159 = .ok (.invokevirtual 187, 3) := by decide +kernel
theorem dX6_count_162 : decode cX6_count 162 = .ok (.ireturn, 1) := by decide +kernel
theorem dX6_count_163 : decode cX6_count 163 = .ok (.aload_n 2, 1) := by decide +kernel
theorem dX6_count_164 : decode cX6_count 164 = .ok (.aload_n 2, 1) := by decide +kernel
theorem dX6_count_165 : decode cX6_count 165 = .ok (.getfield 147, 3) := by decide +kernel
theorem dX6_count_168 : decode cX6_count 168 = .ok (.invokevirtual 187, 3) := by decide +kernel
theorem dX6_count_171 : decode cX6_count 171 = .ok (.ireturn, 1) := by decide +kernel
theorem dX6_count_172 : decode cX6_count 172 = .ok (.aload_n 0, 1) := by decide +kernel
theorem dX6_count_173 : decode cX6_count 173 = .ok (.getfield 32, 3) := by decide +kernel
theorem dX6_count_176 : decode cX6_count 176 = .ok (.aload_n 0, 1) := by decide +kernel
theorem dX6_count_177 : decode cX6_count 177 = .ok (.getfield 12, 3) := by decide +kernel
theorem dX6_count_180 : decode cX6_count 180 = .ok (.aload_n 0, 1) := by decide +kernel
theorem dX6_count_181 : decode cX6_count 181 = .ok (.getfield 19, 3) := by decide +kernel
theorem dX6_count_184 : decode cX6_count 184 = .ok (.invokevirtual 191, 3) := by decide +kernel
theorem dX6_count_187 : decode cX6_count 187 = .ok (.ireturn, 1) := by decide +kernel
theorem dX6_count_188 : decode cX6_count 188 = .ok (.aload_n 0, 1) := by decide +kernel
theorem dX6_count_189 : decode cX6_count 189 = .ok (.getfield 12, 3) := by decide +kernel
theorem dX6_count_192 : decode cX6_count 192 = .ok (.getfield 88, 3) := by decide +kernel
theorem dX6_count_195 : decode cX6_count 195 = .ok (.invokevirtual 195, 3) := by decide +kernel
theorem dX6_count_198 : decode cX6_count 198 = .ok (.ireturn, 1) := by decide +kernel
theorem dX6_count_199 : decode cX6_count 199 = .ok (.aload_n 0, 1) := by decide +kernel
theorem dX6_count_200 : decode cX6_count 200 = .ok (.getfield 39, 3) := by decide +kernel
theorem dX6_count_203 : decode cX6_count 203 = .ok (.getfield 198, 3) := by decide +kernel
theorem dX6_count_206 : decode cX6_count 206 = .ok (.ireturn, 1) := by decide +kernel
theorem dX6_count_207 : decode cX6_count 207 = .ok (.aload_n 0, 1) := by decide +kernel
theorem dX6_count_208 : decode cX6_count 208 = .ok (.getfield 47, 3) := by decide +kernel
theorem dX6_count_211 : decode cX6_count 211 = .ok (.ireturn, 1) := by decide +kernel
theorem dX6_count_212 : decode cX6_count 212 = .ok (.aload_n 0, 1) := by decide +kernel
theorem dX6_count_213 : decode cX6_count 213 = .ok (.getfield 12, 3) := by decide +kernel
theorem dX6_count_216 : decode cX6_count 216 = .ok (.getfield 71, 3) := by decide +kernel
theorem dX6_count_219 : decode cX6_count 219 = .ok (.iconst 0, 1) := by decide +kernel
theorem dX6_count_220 : decode cX6_count 220 = .ok (.iaload, 1) := by decide +kernel
theorem dX6_count_221 : decode cX6_count 221 = .ok (.ireturn, 1) := by decide +kernel
theorem dX6_count_222 : decode cX6_count 222 = .ok (.aload_n 0, 1) := by decide +kernel
theorem dX6_count_223 : decode cX6_count 223 = .ok (.getfield 12, 3) := by decide +kernel
theorem dX6_count_226 : decode cX6_count 226 = .ok (.getfield 71, 3) := by decide +kernel
theorem dX6_count_229 : decode cX6_count 229 = .ok (.iconst 1, 1) := by decide +kernel
theorem dX6_count_230 : decode cX6_count 230 = .ok (.iaload, 1) := by decide +kernel
theorem dX6_count_231 : decode cX6_count 231 = .ok (.ireturn, 1) := by decide +kernel
theorem dX6_count_232 : decode cX6_count 232 = .ok (.aload_n 0, 1) := by decide +kernel
theorem dX6_count_233 : decode cX6_count 233 = .ok (.getfield 12, 3) := by decide +kernel
theorem dX6_count_236 : decode cX6_count 236 = .ok (.getfield 71, 3) := by decide +kernel
theorem dX6_count_239 : decode cX6_count 239 = .ok (.iconst 2, 1) := by decide +kernel
theorem dX6_count_240 : decode cX6_count 240 = .ok (.iaload, 1) := by decide +kernel
theorem dX6_count_241 : decode cX6_count 241 = .ok (.ireturn, 1) := by decide +kernel
theorem dX6_count_242 : decode cX6_count 242 = .ok (.bipush (-2), 2) := by decide +kernel
theorem dX6_count_244 : decode cX6_count 244 = .ok (.ireturn, 1) := by decide +kernel
theorem dX6_leastWay_0 : decode cX6_leastWay 0 = .ok (.aload_n 0, 1) := by decide +kernel
theorem dX6_leastWay_1 : decode cX6_leastWay 1 = .ok (.getfield 12, 3) := by decide +kernel
theorem dX6_leastWay_4 : decode cX6_leastWay 4 = .ok (.getfield 88, 3) := by decide +kernel
theorem dX6_leastWay_7 : decode cX6_leastWay 7 = .ok (.iload_n 1, 1) := by decide +kernel
theorem dX6_leastWay_8 : decode cX6_leastWay 8 = .ok (.invokevirtual 171, 3) := by decide +kernel
theorem dX6_leastWay_11 : decode cX6_leastWay 11 = .ok (.ifCond .eq 17, 3) := by decide +kernel
theorem dX6_leastWay_14 : decode cX6_leastWay 14 = .ok (.aload_n 0, 1) := by decide +kernel
theorem dX6_leastWay_15 : decode cX6_leastWay 15 = .ok (.getfield 12, 3) := by decide +kernel
theorem dX6_leastWay_18 : decode cX6_leastWay 18 = .ok (.getfield 88, 3) := by decide +kernel
theorem dX6_leastWay_21 : decode cX6_leastWay 21 = .ok (.iload_n 2, 1) := by decide +kernel
theorem dX6_leastWay_22 : decode cX6_leastWay 22 = .ok (.invokevirtual 171, 3) := by decide +kernel
theorem dX6_leastWay_25 : decode cX6_leastWay 25 = .ok (.ifCond .ne 5, 3) := by decide +kernel
theorem dX6_leastWay_28 : decode cX6_leastWay 28 = .ok (.iconst (-1), 1) := by decide +kernel
theorem dX6_leastWay_29 : decode cX6_leastWay 29 = .ok (.ireturn, 1) := by decide +kernel
theorem dX6_leastWay_30 : decode cX6_leastWay 30 = .ok (.aload_n 0, 1) := by decide +kernel
theorem dX6_leastWay_31 : decode cX6_leastWay 31 = .ok (.getfield 12, 3) := by decide +kernel
theorem dX6_leastWay_34 : decode cX6_leastWay 34 = .ok (.aload_n 0, 1) := by decide +kernel
theorem dX6_leastWay_35 : decode cX6_leastWay 35 = .ok (.getfield 19, 3) := by decide +kernel
theorem dX6_leastWay_38 : decode cX6_leastWay 38 = .ok (.iload_n 1, 1) := by decide +kernel
theorem dX6_leastWay_39 : decode cX6_leastWay 39 = .ok (.iload_n 2, 1) := by decide +kernel
theorem dX6_leastWay_40 : decode cX6_leastWay 40 = .ok (.invokevirtual 201, 3) := by decide +kernel
theorem dX6_leastWay_43 : decode cX6_leastWay 43 = .ok (.ireturn, 1) := by decide +kernel
theorem dX6_ways_0 : decode cX6_ways 0 = .ok (.aload_n 0, 1) := by decide +kernel
theorem dX6_ways_1 : decode cX6_ways 1 = .ok (.getfield 12, 3) := by decide +kernel
theorem dX6_ways_4 : decode cX6_ways 4 = .ok (.getfield 88, 3) := by decide +kernel
theorem dX6_ways_7 : decode cX6_ways 7 = .ok (.iload_n 1, 1) := by decide +kernel
theorem dX6_ways_8 : decode cX6_ways 8 = .ok (.invokevirtual 171, 3) := by decide +kernel
theorem dX6_ways_11 : decode cX6_ways 11 = .ok (.ifCond .eq 17, 3) := by decide +kernel
theorem dX6_ways_14 : decode cX6_ways 14 = .ok (.aload_n 0, 1) := by decide +kernel
theorem dX6_ways_15 : decode cX6_ways 15 = .ok (.getfield 12, 3) := by decide +kernel
theorem dX6_ways_18 : decode cX6_ways 18 = .ok (.getfield 88, 3) := by decide +kernel
theorem dX6_ways_21 : decode cX6_ways 21 = .ok (.iload_n 2, 1) := by decide +kernel
theorem dX6_ways_22 : decode cX6_ways 22 = .ok (.invokevirtual 171, 3) := by decide +kernel
theorem dX6_ways_25 : decode cX6_ways 25 = .ok (.ifCond .ne 5, 3) := by decide +kernel
theorem dX6_ways_28 : decode cX6_ways 28 = .ok (.iconst (-1), 1) := by decide +kernel
theorem dX6_ways_29 : decode cX6_ways 29 = .ok (.ireturn, 1) := by decide +kernel
theorem dX6_ways_30 : decode cX6_ways 30 = .ok (.aload_n 0, 1) := by decide +kernel
theorem dX6_ways_31 : decode cX6_ways 31 = .ok (.getfield 12, 3) := by decide +kernel
theorem dX6_ways_34 : decode cX6_ways 34 = .ok (.aload_n 0, 1) := by decide +kernel
theorem dX6_ways_35 : decode cX6_ways 35 = .ok (.getfield 19, 3) := by decide +kernel
theorem dX6_ways_38 : decode cX6_ways 38 = .ok (.iload_n 1, 1) := by decide +kernel
theorem dX6_ways_39 : decode cX6_ways 39 = .ok (.iload_n 2, 1) := by decide +kernel
theorem dX6_ways_40 : decode cX6_ways 40 = .ok (.invokevirtual 201, 3) := by decide +kernel
theorem dX6_ways_43 : decode cX6_ways 43 = .ok (.bipush (-6), 2) := by decide +kernel
theorem dX6_ways_45 : decode cX6_ways 45 = .ok (.if_icmp .ne 5, 3) := by decide +kernel
theorem dX6_ways_48 : decode cX6_ways 48 = .ok (.iconst 0, 1) := by decide +kernel
theorem dX6_ways_49 : decode cX6_ways 49 = .ok (.ireturn, 1) := by decide +kernel
theorem dX6_ways_50 : decode cX6_ways 50 = .ok (.aload_n 0, 1) := by decide +kernel
theorem dX6_ways_51 : decode cX6_ways 51 = .ok (.getfield 19, 3) := by decide +kernel
theorem dX6_ways_54 : decode cX6_ways 54 = .ok (.iload_n 1, 1) := by decide +kernel
theorem dX6_ways_55 : decode cX6_ways 55 = .ok (.iload_n 2, 1) := by decide +kernel
theorem dX6_ways_56 : decode cX6_ways 56 = .ok (.invokevirtual 205, 3) := by decide +kernel
theorem dX6_ways_59 : decode cX6_ways 59 = .ok (.ireturn, 1) := by decide +kernel
theorem dX6_pairs_0 : decode cX6_pairs 0 = .ok (.aload_n 0, 1) := by decide +kernel
theorem dX6_pairs_1 : decode cX6_pairs 1 = .ok (.getfield 12, 3) := by decide +kernel
theorem dX6_pairs_4 : decode cX6_pairs 4 = .ok (.aload_n 0, 1) := by decide +kernel
theorem dX6_pairs_5 : decode cX6_pairs 5 = .ok (.getfield 19, 3) := by decide +kernel
theorem dX6_pairs_8 : decode cX6_pairs 8 = .ok (.invokevirtual 208, 3) := by decide +kernel
theorem dX6_pairs_11 : decode cX6_pairs 11 = .ok (.ireturn, 1) := by decide +kernel
theorem dX6_worstLink_0 : decode cX6_worstLink 0 = .ok (.iload_n 1, 1) := by decide +kernel
theorem dX6_worstLink_1 : decode cX6_worstLink 1 = .ok (.ifCond .lt 8, 3) := by decide +kernel
theorem dX6_worstLink_4 : decode cX6_worstLink 4 = .ok (.iload_n 1, 1) := by decide +kernel
theorem dX6_worstLink_5 : decode cX6_worstLink 5 = .ok (.iconst 2, 1) := by decide +kernel
theorem dX6_worstLink_6 : decode cX6_worstLink 6 = .ok (.if_icmp .le 6, 3) := by decide +kernel
theorem dX6_worstLink_9 : decode cX6_worstLink 9 = .ok (.bipush (-2), 2) := by decide +kernel
theorem dX6_worstLink_11 : decode cX6_worstLink 11 = .ok (.ireturn, 1) := by decide +kernel
theorem dX6_worstLink_12 : decode cX6_worstLink 12 = .ok (.aload_n 0, 1) := by decide +kernel
theorem dX6_worstLink_13 : decode cX6_worstLink 13 = .ok (.invokevirtual 212, 3) := by decide +kernel
theorem dX6_worstLink_16 : decode cX6_worstLink 16 = .ok (.istore_n 2, 1) := by decide +kernel
theorem dX6_worstLink_17 : decode cX6_worstLink 17 = .ok (.iload_n 2, 1) := by decide +kernel
theorem dX6_worstLink_18 : decode cX6_worstLink 18 = .ok (.iconst (-1), 1) := by decide +kernel
theorem dX6_worstLink_19 : decode cX6_worstLink 19 = .ok (.if_icmp .ne 6, 3) := by decide +kernel
theorem dX6_worstLink_22 : decode cX6_worstLink 22 = .ok (.bipush (-6), 2) := by decide +kernel
theorem dX6_worstLink_24 : decode cX6_worstLink 24 = .ok (.ireturn, 1) := by decide +kernel
theorem dX6_worstLink_25 : decode cX6_worstLink 25 = .ok (.iload_n 1, 1) := by decide +kernel
theorem dX6_worstLink_26 : decode cX6_worstLink 26 = .ok (.lookupswitch 36 #[(0, 26), (1, 31)], 26) := by decide +kernel
theorem dX6_worstLink_52 : decode cX6_worstLink 52 = .ok (.iload_n 2, 1) := by decide +kernel
theorem dX6_worstLink_53 : decode cX6_worstLink 53 = .ok (.invokestatic 215, 3) := by decide +kernel
theorem dX6_worstLink_56 : decode cX6_worstLink 56 = .ok (.ireturn, 1) := by decide +kernel
theorem dX6_worstLink_57 : decode cX6_worstLink 57 = .ok (.iload_n 2, 1) := by decide +kernel
theorem dX6_worstLink_58 : decode cX6_worstLink 58 = .ok (.invokestatic 218, 3) := by decide +kernel
theorem dX6_worstLink_61 : decode cX6_worstLink 61 = .ok (.ireturn, 1) := by decide +kernel
theorem dX6_worstLink_62 : decode cX6_worstLink 62 = .ok (.aload_n 0, 1) := by decide +kernel
theorem dX6_worstLink_63 : decode cX6_worstLink 63 = .ok (.iload_n 2, 1) := by decide +kernel
theorem dX6_worstLink_64 : decode cX6_worstLink 64 = .ok (.invokevirtual 221, 3) := by decide +kernel
theorem dX6_worstLink_67 : decode cX6_worstLink 67 = .ok (.ireturn, 1) := by decide +kernel
theorem dX6_busiest_0 : decode cX6_busiest 0 = .ok (.iload_n 1, 1) := by decide +kernel
theorem dX6_busiest_1 : decode cX6_busiest 1 = .ok (.ifCond .lt 8, 3) := by decide +kernel
theorem dX6_busiest_4 : decode cX6_busiest 4 = .ok (.iload_n 1, 1) := by decide +kernel
theorem dX6_busiest_5 : decode cX6_busiest 5 = .ok (.iconst 2, 1) := by decide +kernel
theorem dX6_busiest_6 : decode cX6_busiest 6 = .ok (.if_icmp .le 6, 3) := by decide +kernel
theorem dX6_busiest_9 : decode cX6_busiest 9 = .ok (.bipush (-2), 2) := by decide +kernel
theorem dX6_busiest_11 : decode cX6_busiest 11 = .ok (.ireturn, 1) := by decide +kernel
theorem dX6_busiest_12 : decode cX6_busiest 12 = .ok (.iconst 0, 1) := by decide +kernel
theorem dX6_busiest_13 : decode cX6_busiest 13 = .ok (.istore_n 2, 1) := by decide +kernel
theorem dX6_busiest_14 : decode cX6_busiest 14 = .ok (.iconst 1, 1) := by decide +kernel
theorem dX6_busiest_15 : decode cX6_busiest 15 = .ok (.istore_n 3, 1) := by decide +kernel
theorem dX6_busiest_16 : decode cX6_busiest 16 = .ok (.iload_n 3, 1) := by decide +kernel
theorem dX6_busiest_17 : decode cX6_busiest 17 = .ok (.bipush 100, 2) := by decide +kernel
theorem dX6_busiest_19 : decode cX6_busiest 19 = .ok (.if_icmp .ge 32, 3) := by decide +kernel
theorem dX6_busiest_22 : decode cX6_busiest 22 = .ok (.aload_n 0, 1) := by decide +kernel
theorem dX6_busiest_23 : decode cX6_busiest 23 = .ok (.getfield 12, 3) := by decide +kernel
theorem dX6_busiest_26 : decode cX6_busiest 26 = .ok (.getfield 178, 3) := by decide +kernel
theorem dX6_busiest_29 : decode cX6_busiest 29 = .ok (.iload_n 3, 1) := by decide +kernel
theorem dX6_busiest_30 : decode cX6_busiest 30 = .ok (.iaload, 1) := by decide +kernel
theorem dX6_busiest_31 : decode cX6_busiest 31 = .ok (.aload_n 0, 1) := by decide +kernel
theorem dX6_busiest_32 : decode cX6_busiest 32 = .ok (.getfield 12, 3) := by decide +kernel
theorem dX6_busiest_35 : decode cX6_busiest 35 = .ok (.getfield 178, 3) := by decide +kernel
theorem dX6_busiest_38 : decode cX6_busiest 38 = .ok (.iload_n 2, 1) := by decide +kernel
theorem dX6_busiest_39 : decode cX6_busiest 39 = .ok (.iaload, 1) := by decide +kernel
theorem dX6_busiest_40 : decode cX6_busiest 40 = .ok (.if_icmp .le 5, 3) := by decide +kernel
theorem dX6_busiest_43 : decode cX6_busiest 43 = .ok (.iload_n 3, 1) := by decide +kernel
theorem dX6_busiest_44 : decode cX6_busiest 44 = .ok (.istore_n 2, 1) := by decide +kernel
theorem dX6_busiest_45 : decode cX6_busiest 45 = .ok (.iinc 3 1, 3) := by decide +kernel
theorem dX6_busiest_48 : decode cX6_busiest 48 = .ok (.goto (-32), 3) := by decide +kernel
theorem dX6_busiest_51 : decode cX6_busiest 51 = .ok (.aload_n 0, 1) := by decide +kernel
theorem dX6_busiest_52 : decode cX6_busiest 52 = .ok (.getfield 12, 3) := by decide +kernel
theorem dX6_busiest_55 : decode cX6_busiest 55 = .ok (.getfield 178, 3) := by decide +kernel
theorem dX6_busiest_58 : decode cX6_busiest 58 = .ok (.iload_n 2, 1) := by decide +kernel
theorem dX6_busiest_59 : decode cX6_busiest 59 = .ok (.iaload, 1) := by decide +kernel
theorem dX6_busiest_60 : decode cX6_busiest 60 = .ok (.ifCond .ne 6, 3) := by decide +kernel
theorem dX6_busiest_63 : decode cX6_busiest 63 = .ok (.bipush (-6), 2) := by decide +kernel
theorem dX6_busiest_65 : decode cX6_busiest 65 = .ok (.ireturn, 1) := by decide +kernel
theorem dX6_busiest_66 : decode cX6_busiest 66 = .ok (.iload_n 1, 1) := by decide +kernel
theorem dX6_busiest_67 : decode cX6_busiest 67 = .ok (.lookupswitch 33 #[(0, 25), (1, 29)], 25) := by decide +kernel
theorem dX6_busiest_92 : decode cX6_busiest 92 = .ok (.iload_n 2, 1) := by decide +kernel
theorem dX6_busiest_93 : decode cX6_busiest 93 = .ok (.iconst 4, 1) := by decide +kernel
theorem dX6_busiest_94 : decode cX6_busiest 94 = .ok (.idiv, 1) := by decide +kernel
theorem dX6_busiest_95 : decode cX6_busiest 95 = .ok (.ireturn, 1) := by decide +kernel
theorem dX6_busiest_96 : decode cX6_busiest 96 = .ok (.iload_n 2, 1) := by decide +kernel
theorem dX6_busiest_97 : decode cX6_busiest 97 = .ok (.iconst 4, 1) := by decide +kernel
theorem dX6_busiest_98 : decode cX6_busiest 98 = .ok (.irem, 1) := by decide +kernel
theorem dX6_busiest_99 : decode cX6_busiest 99 = .ok (.ireturn, 1) := by decide +kernel
theorem dX6_busiest_100 : decode cX6_busiest 100 = .ok (.aload_n 0, 1) := by decide +kernel
theorem dX6_busiest_101 : decode cX6_busiest 101 = .ok (.getfield 12, 3) := by decide +kernel
theorem dX6_busiest_104 : decode cX6_busiest 104 = .ok (.getfield 178, 3) := by decide +kernel
theorem dX6_busiest_107 : decode cX6_busiest 107 = .ok (.iload_n 2, 1) := by decide +kernel
theorem dX6_busiest_108 : decode cX6_busiest 108 = .ok (.iaload, 1) := by decide +kernel
theorem dX6_busiest_109 : decode cX6_busiest 109 = .ok (.ireturn, 1) := by decide +kernel
theorem dX6_arrivesIn_0 : decode cX6_arrivesIn 0 = .ok (.aload_n 0, 1) := by decide +kernel
theorem dX6_arrivesIn_1 : decode cX6_arrivesIn 1 = .ok (.getfield 12, 3) := by decide +kernel
theorem dX6_arrivesIn_4 : decode cX6_arrivesIn 4 = .ok (.getfield 79, 3) := by decide +kernel
theorem dX6_arrivesIn_7 : decode cX6_arrivesIn 7 = .ok (.iload_n 1, 1) := by decide +kernel
theorem dX6_arrivesIn_8 : decode cX6_arrivesIn 8 = .ok (.invokevirtual 126, 3) := by decide +kernel
theorem dX6_arrivesIn_11 : decode cX6_arrivesIn 11 = .ok (.ifCond .ne 5, 3) := by decide +kernel
theorem dX6_arrivesIn_14 : decode cX6_arrivesIn 14 = .ok (.iconst (-1), 1) := by decide +kernel
theorem dX6_arrivesIn_15 : decode cX6_arrivesIn 15 = .ok (.ireturn, 1) := by decide +kernel
theorem dX6_arrivesIn_16 : decode cX6_arrivesIn 16 = .ok (.aload_n 0, 1) := by decide +kernel
theorem dX6_arrivesIn_17 : decode cX6_arrivesIn 17 = .ok (.getfield 12, 3) := by decide +kernel
theorem dX6_arrivesIn_20 : decode cX6_arrivesIn 20 = .ok (.aload_n 0, 1) := by decide +kernel
theorem dX6_arrivesIn_21 : decode cX6_arrivesIn 21 = .ok (.getfield 23, 3) := by decide +kernel
theorem dX6_arrivesIn_24 : decode cX6_arrivesIn 24 = .ok (.invokestatic 224, 3) := by decide +kernel
theorem dX6_arrivesIn_27 : decode cX6_arrivesIn 27 = .ok (.iconst 0, 1) := by decide +kernel
theorem dX6_arrivesIn_28 : decode cX6_arrivesIn 28 = .ok (.istore_n 2, 1) := by decide +kernel
theorem dX6_arrivesIn_29 : decode cX6_arrivesIn 29 = .ok (.iload_n 2, 1) := by decide +kernel
theorem dX6_arrivesIn_30 : decode cX6_arrivesIn 30 = .ok (.sipush 300, 3) := by decide +kernel
theorem dX6_arrivesIn_33 : decode cX6_arrivesIn 33 = .ok (.if_icmp .gt 39, 3) := by decide +kernel
theorem dX6_arrivesIn_36 : decode cX6_arrivesIn 36 = .ok (.aload_n 0, 1) := by decide +kernel
theorem dX6_arrivesIn_37 : decode cX6_arrivesIn 37 = .ok (.getfield 23, 3) := by decide +kernel
theorem dX6_arrivesIn_40 : decode cX6_arrivesIn 40 = .ok (.getfield 79, 3) := by decide +kernel
theorem dX6_arrivesIn_43 : decode cX6_arrivesIn 43 = .ok (.getfield 135, 3) := by decide +kernel
theorem dX6_arrivesIn_46 : decode cX6_arrivesIn 46 = .ok (.iload_n 1, 1) := by decide +kernel
theorem dX6_arrivesIn_47 : decode cX6_arrivesIn 47 = .ok (.iaload, 1) := by decide +kernel
theorem dX6_arrivesIn_48 : decode cX6_arrivesIn 48 = .ok (.iconst 2, 1) := by decide +kernel
theorem dX6_arrivesIn_49 : decode cX6_arrivesIn 49 = .ok (.if_icmp .ne 5, 3) := by decide +kernel
theorem dX6_arrivesIn_52 : decode cX6_arrivesIn 52 = .ok (.iload_n 2, 1) := by decide +kernel
theorem dX6_arrivesIn_53 : decode cX6_arrivesIn 53 = .ok (.ireturn, 1) := by decide +kernel
theorem dX6_arrivesIn_54 : decode cX6_arrivesIn 54 = .ok (.aload_n 0, 1) := by decide +kernel
theorem dX6_arrivesIn_55 : decode cX6_arrivesIn 55 = .ok (.getfield 23, 3) := by decide +kernel
theorem dX6_arrivesIn_58 : decode cX6_arrivesIn 58 = .ok (.aload_n 0, 1) := by decide +kernel
theorem dX6_arrivesIn_59 : decode cX6_arrivesIn 59 = .ok (.getfield 19, 3) := by decide +kernel
theorem dX6_arrivesIn_62 : decode cX6_arrivesIn 62 = .ok (.iconst 1, 1) := by decide +kernel
theorem dX6_arrivesIn_63 : decode cX6_arrivesIn 63 = .ok (.invokevirtual 122, 3) := by decide +kernel
theorem dX6_arrivesIn_66 : decode cX6_arrivesIn 66 = .ok (.iinc 2 1, 3) := by decide +kernel
theorem dX6_arrivesIn_69 : decode cX6_arrivesIn 69 = .ok (.goto (-40), 3) := by decide +kernel
theorem dX6_arrivesIn_72 : decode cX6_arrivesIn 72 = .ok (.bipush (-6), 2) := by decide +kernel
theorem dX6_arrivesIn_74 : decode cX6_arrivesIn 74 = .ok (.ireturn, 1) := by decide +kernel
theorem dX6_arrivedBy_0 : decode cX6_arrivedBy 0 = .ok (.iload_n 1, 1) := by decide +kernel
theorem dX6_arrivedBy_1 : decode cX6_arrivedBy 1 = .ok (.invokestatic 119, 3) := by decide +kernel
theorem dX6_arrivedBy_4 : decode cX6_arrivedBy 4 = .ok (.ifCond .ne 6, 3) := by decide +kernel
theorem dX6_arrivedBy_7 : decode cX6_arrivedBy 7 = .ok (.bipush (-2), 2) := by decide +kernel
theorem dX6_arrivedBy_9 : decode cX6_arrivedBy 9 = .ok (.ireturn, 1) := by decide +kernel
theorem dX6_arrivedBy_10 : decode cX6_arrivedBy 10 = .ok (.aload_n 0, 1) := by decide +kernel
theorem dX6_arrivedBy_11 : decode cX6_arrivedBy 11 = .ok (.getfield 12, 3) := by decide +kernel
theorem dX6_arrivedBy_14 : decode cX6_arrivedBy 14 = .ok (.aload_n 0, 1) := by decide +kernel
theorem dX6_arrivedBy_15 : decode cX6_arrivedBy 15 = .ok (.getfield 23, 3) := by decide +kernel
theorem dX6_arrivedBy_18 : decode cX6_arrivedBy 18 = .ok (.invokestatic 224, 3) := by decide +kernel
theorem dX6_arrivedBy_21 : decode cX6_arrivedBy 21 = .ok (.aload_n 0, 1) := by decide +kernel
theorem dX6_arrivedBy_22 : decode cX6_arrivedBy 22 = .ok (.getfield 23, 3) := by decide +kernel
theorem dX6_arrivedBy_25 : decode cX6_arrivedBy 25 = .ok (.aload_n 0, 1) := by decide +kernel
theorem dX6_arrivedBy_26 : decode cX6_arrivedBy 26 = .ok (.getfield 19, 3) := by decide +kernel
theorem dX6_arrivedBy_29 : decode cX6_arrivedBy 29 = .ok (.iload_n 1, 1) := by decide +kernel
theorem dX6_arrivedBy_30 : decode cX6_arrivedBy 30 = .ok (.invokevirtual 122, 3) := by decide +kernel
theorem dX6_arrivedBy_33 : decode cX6_arrivedBy 33 = .ok (.aload_n 0, 1) := by decide +kernel
theorem dX6_arrivedBy_34 : decode cX6_arrivedBy 34 = .ok (.getfield 23, 3) := by decide +kernel
theorem dX6_arrivedBy_37 : decode cX6_arrivedBy 37 = .ok (.getfield 79, 3) := by decide +kernel
theorem dX6_arrivedBy_40 : decode cX6_arrivedBy 40 = .ok (.iconst 2, 1) := by decide +kernel
theorem dX6_arrivedBy_41 : decode cX6_arrivedBy 41 = .ok (.invokevirtual 184, 3) := by decide +kernel
theorem dX6_arrivedBy_44 : decode cX6_arrivedBy 44 = .ok (.ireturn, 1) := by decide +kernel
theorem dX6_put_0 : decode cX6_put 0 = .ok (.lload_n 1, 1) := by decide +kernel
theorem dX6_put_1 : decode cX6_put 1 = .ok (.invokestatic 228, 3) := by decide +kernel
theorem dX6_put_4 : decode cX6_put 4 = .ok (.istore_n 3, 1) := by decide +kernel
theorem dX6_put_5 : decode cX6_put 5 = .ok (.iload_n 3, 1) := by decide +kernel
theorem dX6_put_6 : decode cX6_put 6 = .ok (.ifCond .ne 6, 3) := by decide +kernel
theorem dX6_put_9 : decode cX6_put 9 = .ok (.bipush (-2), 2) := by decide +kernel
theorem dX6_put_11 : decode cX6_put 11 = .ok (.ireturn, 1) := by decide +kernel
theorem dX6_put_12 : decode cX6_put 12 = .ok (.aload_n 0, 1) := by decide +kernel
theorem dX6_put_13 : decode cX6_put 13 = .ok (.getfield 39, 3) := by decide +kernel
theorem dX6_put_16 : decode cX6_put 16 = .ok (.iload_n 3, 1) := by decide +kernel
theorem dX6_put_17 : decode cX6_put 17 = .ok (.invokevirtual 232, 3) := by decide +kernel
theorem dX6_put_20 : decode cX6_put 20 = .ok (.ifCond .ne 6, 3) := by decide +kernel
theorem dX6_put_23 : decode cX6_put 23 = .ok (.bipush (-4), 2) := by decide +kernel
theorem dX6_put_25 : decode cX6_put 25 = .ok (.ireturn, 1) := by decide +kernel
theorem dX6_put_26 : decode cX6_put 26 = .ok (.aload_n 0, 1) := by decide +kernel
theorem dX6_put_27 : decode cX6_put 27 = .ok (.getfield 39, 3) := by decide +kernel
theorem dX6_put_30 : decode cX6_put 30 = .ok (.lload_n 1, 1) := by decide +kernel
theorem dX6_put_31 : decode cX6_put 31 = .ok (.iload_n 3, 1) := by decide +kernel
theorem dX6_put_32 : decode cX6_put 32 = .ok (.invokevirtual 235, 3) := by decide +kernel
theorem dX6_put_35 : decode cX6_put 35 = .ok (.aload_n 0, 1) := by decide +kernel
theorem dX6_put_36 : decode cX6_put 36 = .ok (.getfield 39, 3) := by decide +kernel
theorem dX6_put_39 : decode cX6_put 39 = .ok (.getfield 198, 3) := by decide +kernel
theorem dX6_put_42 : decode cX6_put 42 = .ok (.ireturn, 1) := by decide +kernel
theorem dX6_wipe_0 : decode cX6_wipe 0 = .ok (.aload_n 0, 1) := by decide +kernel
theorem dX6_wipe_1 : decode cX6_wipe 1 = .ok (.getfield 39, 3) := by decide +kernel
theorem dX6_wipe_4 : decode cX6_wipe 4 = .ok (.getfield 198, 3) := by decide +kernel
theorem dX6_wipe_7 : decode cX6_wipe 7 = .ok (.istore_n 1, 1) := by decide +kernel
theorem dX6_wipe_8 : decode cX6_wipe 8 = .ok (.aload_n 0, 1) := by decide +kernel
theorem dX6_wipe_9 : decode cX6_wipe 9 = .ok (.getfield 39, 3) := by decide +kernel
theorem dX6_wipe_12 : decode cX6_wipe 12 = .ok (.iconst 0, 1) := by decide +kernel
theorem dX6_wipe_13 : decode cX6_wipe 13 = .ok (.putfield 198, 3) := by decide +kernel
theorem dX6_wipe_16 : decode cX6_wipe 16 = .ok (.iload_n 1, 1) := by decide +kernel
theorem dX6_wipe_17 : decode cX6_wipe 17 = .ok (.ireturn, 1) := by decide +kernel
theorem dX6_fault_0 : decode cX6_fault 0 = .ok (.aload_n 0, 1) := by decide +kernel
theorem dX6_fault_1 : decode cX6_fault 1 = .ok (.getfield 39, 3) := by decide +kernel
theorem dX6_fault_4 : decode cX6_fault 4 = .ok (.invokevirtual 239, 3) := by decide +kernel
theorem dX6_fault_7 : decode cX6_fault 7 = .ok (.ireturn, 1) := by decide +kernel
theorem dX6_carryOut_0 : decode cX6_carryOut 0 = .ok (.aload_n 0, 1) := by decide +kernel
theorem dX6_carryOut_1 : decode cX6_carryOut 1 = .ok (.getfield 39, 3) := by decide +kernel
theorem dX6_carryOut_4 : decode cX6_carryOut 4 = .ok (.invokevirtual 239, 3) := by decide +kernel
theorem dX6_carryOut_7 : decode cX6_carryOut 7 = .ok (.bipush (-6), 2) := by decide +kernel
theorem dX6_carryOut_9 : decode cX6_carryOut 9 = .ok (.if_icmp .eq 6, 3) := by decide +kernel
theorem dX6_carryOut_12 : decode cX6_carryOut 12 = .ok (.bipush (-3), 2) := by decide +kernel
theorem dX6_carryOut_14 : decode cX6_carryOut 14 = .ok (.ireturn, 1) := by decide +kernel
theorem dX6_carryOut_15 : decode cX6_carryOut 15 = .ok (.aload_n 0, 1) := by decide +kernel
theorem dX6_carryOut_16 : decode cX6_carryOut 16 = .ok (.invokevirtual 68, 3) := by decide +kernel
theorem dX6_carryOut_19 : decode cX6_carryOut 19 = .ok (.aload_n 0, 1) := by decide +kernel
theorem dX6_carryOut_20 : decode cX6_carryOut 20 = .ok (.getfield 39, 3) := by decide +kernel
theorem dX6_carryOut_23 : decode cX6_carryOut 23 = .ok (.iconst 0, 1) := by decide +kernel
theorem dX6_carryOut_24 : decode cX6_carryOut 24 = .ok (.putfield 198, 3) := by decide +kernel
theorem dX6_carryOut_27 : decode cX6_carryOut 27 = .ok (.iconst 0, 1) := by decide +kernel
theorem dX6_carryOut_28 : decode cX6_carryOut 28 = .ok (.istore_n 1, 1) := by decide +kernel
theorem dX6_carryOut_29 : decode cX6_carryOut 29 = .ok (.iload_n 1, 1) := by decide +kernel
theorem dX6_carryOut_30 : decode cX6_carryOut 30 = .ok (.aload_n 0, 1) := by decide +kernel
theorem dX6_carryOut_31 : decode cX6_carryOut 31 = .ok (.getfield 39, 3) := by decide +kernel
theorem dX6_carryOut_34 : decode cX6_carryOut 34 = .ok (.getfield 242, 3) := by decide +kernel
theorem dX6_carryOut_37 : decode cX6_carryOut 37 = .ok (.if_icmp .ge 19, 3) := by decide +kernel
theorem dX6_carryOut_40 : decode cX6_carryOut 40 = .ok (.aload_n 0, 1) := by decide +kernel
theorem dX6_carryOut_41 : decode cX6_carryOut 41 = .ok (.iload_n 1, 1) := by decide +kernel
theorem dX6_carryOut_42 : decode cX6_carryOut 42 = .ok (.invokevirtual 245, 3) := by decide +kernel
theorem dX6_carryOut_45 : decode cX6_carryOut 45 = .ok (.ifCond .ne 5, 3) := by decide +kernel
theorem dX6_carryOut_48 : decode cX6_carryOut 48 = .ok (.iload_n 1, 1) := by decide +kernel
theorem dX6_carryOut_49 : decode cX6_carryOut 49 = .ok (.ireturn, 1) := by decide +kernel
theorem dX6_carryOut_50 : decode cX6_carryOut 50 = .ok (.iinc 1 1, 3) := by decide +kernel
theorem dX6_carryOut_53 : decode cX6_carryOut 53 = .ok (.goto (-24), 3) := by decide +kernel
theorem dX6_carryOut_56 : decode cX6_carryOut 56 = .ok (.aload_n 0, 1) := by decide +kernel
theorem dX6_carryOut_57 : decode cX6_carryOut 57 = .ok (.getfield 39, 3) := by decide +kernel
theorem dX6_carryOut_60 : decode cX6_carryOut 60 = .ok (.getfield 242, 3) := by decide +kernel
theorem dX6_carryOut_63 : decode cX6_carryOut 63 = .ok (.ireturn, 1) := by decide +kernel
theorem dX6_undo_0 : decode cX6_undo 0 = .ok (.aload_n 0, 1) := by decide +kernel
theorem dX6_undo_1 : decode cX6_undo 1 = .ok (.getfield 47, 3) := by decide +kernel
theorem dX6_undo_4 : decode cX6_undo 4 = .ok (.iconst 1, 1) := by decide +kernel
theorem dX6_undo_5 : decode cX6_undo 5 = .ok (.if_icmp .lt 12, 3) := by decide +kernel
theorem dX6_undo_8 : decode cX6_undo 8 = .ok (.aload_n 0, 1) := by decide +kernel
theorem dX6_undo_9 : decode cX6_undo 9 = .ok (.getfield 47, 3) := by decide +kernel
theorem dX6_undo_12 : decode cX6_undo 12 = .ok (.bipush 6, 2) := by decide +kernel
theorem dX6_undo_14 : decode cX6_undo 14 = .ok (.if_icmp .le 6, 3) := by decide +kernel
theorem dX6_undo_17 : decode cX6_undo 17 = .ok (.bipush (-5), 2) := by decide +kernel
theorem dX6_undo_19 : decode cX6_undo 19 = .ok (.ireturn, 1) := by decide +kernel
theorem dX6_undo_20 : decode cX6_undo 20 = .ok (.aload_n 0, 1) := by decide +kernel
theorem dX6_undo_21 : decode cX6_undo 21 = .ok (.dup, 1) := by decide +kernel
theorem dX6_undo_22 : decode cX6_undo 22 = .ok (.getfield 47, 3) := by decide +kernel
theorem dX6_undo_25 : decode cX6_undo 25 = .ok (.iconst 1, 1) := by decide +kernel
theorem dX6_undo_26 : decode cX6_undo 26 = .ok (.isub, 1) := by decide +kernel
theorem dX6_undo_27 : decode cX6_undo 27 = .ok (.putfield 47, 3) := by decide +kernel
theorem dX6_undo_30 : decode cX6_undo 30 = .ok (.aload_n 0, 1) := by decide +kernel
theorem dX6_undo_31 : decode cX6_undo 31 = .ok (.getfield 43, 3) := by decide +kernel
theorem dX6_undo_34 : decode cX6_undo 34 = .ok (.aload_n 0, 1) := by decide +kernel
theorem dX6_undo_35 : decode cX6_undo 35 = .ok (.getfield 47, 3) := by decide +kernel
theorem dX6_undo_38 : decode cX6_undo 38 = .ok (.aaload, 1) := by decide +kernel
theorem dX6_undo_39 : decode cX6_undo 39 = .ok (.aload_n 0, 1) := by decide +kernel
theorem dX6_undo_40 : decode cX6_undo 40 = .ok (.getfield 12, 3) := by decide +kernel
theorem dX6_undo_43 : decode cX6_undo 43 = .ok (.invokestatic 224, 3) := by decide +kernel
theorem dX6_undo_46 : decode cX6_undo 46 = .ok (.aload_n 0, 1) := by decide +kernel
theorem dX6_undo_47 : decode cX6_undo 47 = .ok (.invokevirtual 58, 3) := by decide +kernel
theorem dX6_undo_50 : decode cX6_undo 50 = .ok (.aload_n 0, 1) := by decide +kernel
theorem dX6_undo_51 : decode cX6_undo 51 = .ok (.getfield 47, 3) := by decide +kernel
theorem dX6_undo_54 : decode cX6_undo 54 = .ok (.ireturn, 1) := by decide +kernel
theorem dX6_save_0 : decode cX6_save 0 = .ok (.iload_n 1, 1) := by decide +kernel
theorem dX6_save_1 : decode cX6_save 1 = .ok (.invokestatic 248, 3) := by decide +kernel
theorem dX6_save_4 : decode cX6_save 4 = .ok (.ifCond .ne 6, 3) := by decide +kernel
theorem dX6_save_7 : decode cX6_save 7 = .ok (.bipush (-2), 2) := by decide +kernel
theorem dX6_save_9 : decode cX6_save 9 = .ok (.ireturn, 1) := by decide +kernel
theorem dX6_save_10 : decode cX6_save 10 = .ok (.aload_n 0, 1) := by decide +kernel
theorem dX6_save_11 : decode cX6_save 11 = .ok (.getfield 12, 3) := by decide +kernel
theorem dX6_save_14 : decode cX6_save 14 = .ok (.aload_n 0, 1) := by decide +kernel
theorem dX6_save_15 : decode cX6_save 15 = .ok (.getfield 51, 3) := by decide +kernel
theorem dX6_save_18 : decode cX6_save 18 = .ok (.iload_n 1, 1) := by decide +kernel
theorem dX6_save_19 : decode cX6_save 19 = .ok (.aaload, 1) := by decide +kernel
theorem dX6_save_20 : decode cX6_save 20 = .ok (.invokestatic 224, 3) := by decide +kernel
theorem dX6_save_23 : decode cX6_save 23 = .ok (.aload_n 0, 1) := by decide +kernel
theorem dX6_save_24 : decode cX6_save 24 = .ok (.getfield 54, 3) := by decide +kernel
theorem dX6_save_27 : decode cX6_save 27 = .ok (.iload_n 1, 1) := by decide +kernel
theorem dX6_save_28 : decode cX6_save 28 = .ok (.iconst 1, 1) := by decide +kernel
theorem dX6_save_29 : decode cX6_save 29 = .ok (.bastore, 1) := by decide +kernel
theorem dX6_save_30 : decode cX6_save 30 = .ok (.aload_n 0, 1) := by decide +kernel
theorem dX6_save_31 : decode cX6_save 31 = .ok (.getfield 12, 3) := by decide +kernel
theorem dX6_save_34 : decode cX6_save 34 = .ok (.getfield 113, 3) := by decide +kernel
theorem dX6_save_37 : decode cX6_save 37 = .ok (.ireturn, 1) := by decide +kernel
theorem dX6_restore_0 : decode cX6_restore 0 = .ok (.iload_n 1, 1) := by decide +kernel
theorem dX6_restore_1 : decode cX6_restore 1 = .ok (.invokestatic 248, 3) := by decide +kernel
theorem dX6_restore_4 : decode cX6_restore 4 = .ok (.ifCond .ne 6, 3) := by decide +kernel
theorem dX6_restore_7 : decode cX6_restore 7 = .ok (.bipush (-2), 2) := by decide +kernel
theorem dX6_restore_9 : decode cX6_restore 9 = .ok (.ireturn, 1) := by decide +kernel
theorem dX6_restore_10 : decode cX6_restore 10 = .ok (.aload_n 0, 1) := by decide +kernel
theorem dX6_restore_11 : decode cX6_restore 11 = .ok (.getfield 54, 3) := by decide +kernel
theorem dX6_restore_14 : decode cX6_restore 14 = .ok (.iload_n 1, 1) := by decide +kernel
theorem dX6_restore_15 : decode cX6_restore 15 = .ok (.baload, 1) := by decide +kernel
theorem dX6_restore_16 : decode cX6_restore 16 = .ok (.ifCond .ne 6, 3) := by decide +kernel
theorem dX6_restore_19 : decode cX6_restore 19 = .ok (.bipush (-5), 2) := by decide +kernel
theorem dX6_restore_21 : decode cX6_restore 21 = .ok (.ireturn, 1) := by decide +kernel
theorem dX6_restore_22 : decode cX6_restore 22 = .ok (.aload_n 0, 1) := by decide +kernel
theorem dX6_restore_23 : decode cX6_restore 23 = .ok (.invokevirtual 68, 3) := by decide +kernel
theorem dX6_restore_26 : decode cX6_restore 26 = .ok (.aload_n 0, 1) := by decide +kernel
theorem dX6_restore_27 : decode cX6_restore 27 = .ok (.getfield 51, 3) := by decide +kernel
theorem dX6_restore_30 : decode cX6_restore 30 = .ok (.iload_n 1, 1) := by decide +kernel
theorem dX6_restore_31 : decode cX6_restore 31 = .ok (.aaload, 1) := by decide +kernel
theorem dX6_restore_32 : decode cX6_restore 32 = .ok (.aload_n 0, 1) := by decide +kernel
theorem dX6_restore_33 : decode cX6_restore 33 = .ok (.getfield 12, 3) := by decide +kernel
theorem dX6_restore_36 : decode cX6_restore 36 = .ok (.invokestatic 224, 3) := by decide +kernel
theorem dX6_restore_39 : decode cX6_restore 39 = .ok (.aload_n 0, 1) := by decide +kernel
theorem dX6_restore_40 : decode cX6_restore 40 = .ok (.invokevirtual 58, 3) := by decide +kernel
theorem dX6_restore_43 : decode cX6_restore 43 = .ok (.aload_n 0, 1) := by decide +kernel
theorem dX6_restore_44 : decode cX6_restore 44 = .ok (.getfield 12, 3) := by decide +kernel
theorem dX6_restore_47 : decode cX6_restore 47 = .ok (.getfield 113, 3) := by decide +kernel
theorem dX6_restore_50 : decode cX6_restore 50 = .ok (.ireturn, 1) := by decide +kernel
theorem dX6_leastOfSetting_0 : decode cX6_leastOfSetting 0 = .ok (.iload_n 0, 1) := by decide +kernel
theorem dX6_leastOfSetting_1 : decode cX6_leastOfSetting 1 = .ok (.iconst 2, 1) := by decide +kernel
theorem dX6_leastOfSetting_2 : decode cX6_leastOfSetting 2 = .ok (.if_icmp .ne 7, 3) := by decide +kernel
theorem dX6_leastOfSetting_5 : decode cX6_leastOfSetting 5 = .ok (.iconst 1, 1) := by decide +kernel
theorem dX6_leastOfSetting_6 : decode cX6_leastOfSetting 6 = .ok (.goto 4, 3) := by decide +kernel
theorem dX6_leastOfSetting_9 : decode cX6_leastOfSetting 9 = .ok (.iconst 0, 1) := by decide +kernel
theorem dX6_leastOfSetting_10 : decode cX6_leastOfSetting 10 = .ok (.ireturn, 1) := by decide +kernel
theorem dX6_mostOfSetting_0 : decode cX6_mostOfSetting 0 = .ok (.iload_n 0, 1) := by decide +kernel
theorem dX6_mostOfSetting_1 : decode cX6_mostOfSetting 1 = .ok (.ifCond .ne 7, 3) := by decide +kernel
theorem dX6_mostOfSetting_4 : decode cX6_mostOfSetting 4 = .ok (.iconst 1, 1) := by decide +kernel
theorem dX6_mostOfSetting_5 : decode cX6_mostOfSetting 5 = .ok (.goto 4, 3) := by decide +kernel
theorem dX6_mostOfSetting_8 : decode cX6_mostOfSetting 8 = .ok (.iconst 4, 1) := by decide +kernel
theorem dX6_mostOfSetting_9 : decode cX6_mostOfSetting 9 = .ok (.ireturn, 1) := by decide +kernel
theorem dX6_isLine_0 : decode cX6_isLine 0 = .ok (.iload_n 0, 1) := by decide +kernel
theorem dX6_isLine_1 : decode cX6_isLine 1 = .ok (.iconst 2, 1) := by decide +kernel
theorem dX6_isLine_2 : decode cX6_isLine 2 = .ok (.if_icmp .lt 12, 3) := by decide +kernel
theorem dX6_isLine_5 : decode cX6_isLine 5 = .ok (.iload_n 0, 1) := by decide +kernel
theorem dX6_isLine_6 : decode cX6_isLine 6 = .ok (.iconst 5, 1) := by decide +kernel
theorem dX6_isLine_7 : decode cX6_isLine 7 = .ok (.if_icmp .gt 7, 3) := by decide +kernel
theorem dX6_isLine_10 : decode cX6_isLine 10 = .ok (.iconst 1, 1) := by decide +kernel
theorem dX6_isLine_11 : decode cX6_isLine 11 = .ok (.goto 4, 3) := by decide +kernel
theorem dX6_isLine_14 : decode cX6_isLine 14 = .ok (.iconst 0, 1) := by decide +kernel
theorem dX6_isLine_15 : decode cX6_isLine 15 = .ok (.ireturn, 1) := by decide +kernel
theorem dX6_isSide_0 : decode cX6_isSide 0 = .ok (.iload_n 0, 1) := by decide +kernel
theorem dX6_isSide_1 : decode cX6_isSide 1 = .ok (.ifCond .lt 12, 3) := by decide +kernel
theorem dX6_isSide_4 : decode cX6_isSide 4 = .ok (.iload_n 0, 1) := by decide +kernel
theorem dX6_isSide_5 : decode cX6_isSide 5 = .ok (.iconst 4, 1) := by decide +kernel
theorem dX6_isSide_6 : decode cX6_isSide 6 = .ok (.if_icmp .ge 7, 3) := by decide +kernel
theorem dX6_isSide_9 : decode cX6_isSide 9 = .ok (.iconst 1, 1) := by decide +kernel
theorem dX6_isSide_10 : decode cX6_isSide 10 = .ok (.goto 4, 3) := by decide +kernel
theorem dX6_isSide_13 : decode cX6_isSide 13 = .ok (.iconst 0, 1) := by decide +kernel
theorem dX6_isSide_14 : decode cX6_isSide 14 = .ok (.ireturn, 1) := by decide +kernel
theorem dX6_isTicks_0 : decode cX6_isTicks 0 = .ok (.iload_n 0, 1) := by decide +kernel
theorem dX6_isTicks_1 : decode cX6_isTicks 1 = .ok (.iconst 1, 1) := by decide +kernel
theorem dX6_isTicks_2 : decode cX6_isTicks 2 = .ok (.if_icmp .lt 14, 3) := by decide +kernel
theorem dX6_isTicks_5 : decode cX6_isTicks 5 = .ok (.iload_n 0, 1) := by decide +kernel
theorem dX6_isTicks_6 : decode cX6_isTicks 6 = .ok (.sipush 300, 3) := by decide +kernel
theorem dX6_isTicks_9 : decode cX6_isTicks 9 = .ok (.if_icmp .gt 7, 3) := by decide +kernel
theorem dX6_isTicks_12 : decode cX6_isTicks 12 = .ok (.iconst 1, 1) := by decide +kernel
theorem dX6_isTicks_13 : decode cX6_isTicks 13 = .ok (.goto 4, 3) := by decide +kernel
theorem dX6_isTicks_16 : decode cX6_isTicks 16 = .ok (.iconst 0, 1) := by decide +kernel
theorem dX6_isTicks_17 : decode cX6_isTicks 17 = .ok (.ireturn, 1) := by decide +kernel
theorem dX6_isSlot_0 : decode cX6_isSlot 0 = .ok (.iload_n 0, 1) := by decide +kernel
theorem dX6_isSlot_1 : decode cX6_isSlot 1 = .ok (.ifCond .lt 12, 3) := by decide +kernel
theorem dX6_isSlot_4 : decode cX6_isSlot 4 = .ok (.iload_n 0, 1) := by decide +kernel
theorem dX6_isSlot_5 : decode cX6_isSlot 5 = .ok (.iconst 2, 1) := by decide +kernel
theorem dX6_isSlot_6 : decode cX6_isSlot 6 = .ok (.if_icmp .ge 7, 3) := by decide +kernel
theorem dX6_isSlot_9 : decode cX6_isSlot 9 = .ok (.iconst 1, 1) := by decide +kernel
theorem dX6_isSlot_10 : decode cX6_isSlot 10 = .ok (.goto 4, 3) := by decide +kernel
theorem dX6_isSlot_13 : decode cX6_isSlot 13 = .ok (.iconst 0, 1) := by decide +kernel
theorem dX6_isSlot_14 : decode cX6_isSlot 14 = .ok (.ireturn, 1) := by decide +kernel
theorem dX6_linkError_0 : decode cX6_linkError 0 = .ok (.aload_n 0, 1) := by decide +kernel
theorem dX6_linkError_1 : decode cX6_linkError 1 = .ok (.getfield 12, 3) := by decide +kernel
theorem dX6_linkError_4 : decode cX6_linkError 4 = .ok (.getfield 88, 3) := by decide +kernel
theorem dX6_linkError_7 : decode cX6_linkError 7 = .ok (.iload_n 1, 1) := by decide +kernel
theorem dX6_linkError_8 : decode cX6_linkError 8 = .ok (.invokevirtual 171, 3) := by decide +kernel
theorem dX6_linkError_11 : decode cX6_linkError 11 = .ok (.ifCond .ne 5, 3) := by decide +kernel
theorem dX6_linkError_14 : decode cX6_linkError 14 = .ok (.iconst (-1), 1) := by decide +kernel
theorem dX6_linkError_15 : decode cX6_linkError 15 = .ok (.ireturn, 1) := by decide +kernel
theorem dX6_linkError_16 : decode cX6_linkError 16 = .ok (.iload_n 2, 1) := by decide +kernel
theorem dX6_linkError_17 : decode cX6_linkError 17 = .ok (.invokestatic 251, 3) := by decide +kernel
theorem dX6_linkError_20 : decode cX6_linkError 20 = .ok (.ifCond .eq 21, 3) := by decide +kernel
theorem dX6_linkError_23 : decode cX6_linkError 23 = .ok (.aload_n 0, 1) := by decide +kernel
theorem dX6_linkError_24 : decode cX6_linkError 24 = .ok (.getfield 12, 3) := by decide +kernel
theorem dX6_linkError_27 : decode cX6_linkError 27 = .ok (.getfield 88, 3) := by decide +kernel
theorem dX6_linkError_30 : decode cX6_linkError 30 = .ok (.iload_n 1, 1) := by decide +kernel
theorem dX6_linkError_31 : decode cX6_linkError 31 = .ok (.iload_n 2, 1) := by decide +kernel
theorem dX6_linkError_32 : decode cX6_linkError 32 = .ok (.invokevirtual 254, 3) := by decide +kernel
theorem dX6_linkError_35 : decode cX6_linkError 35 = .ok (.iconst (-1), 1) := by decide +kernel
theorem dX6_linkError_36 : decode cX6_linkError 36 = .ok (.if_icmp .ne 5, 3) := by decide +kernel
theorem dX6_linkError_39 : decode cX6_linkError 39 = .ok (.iconst (-1), 1) := by decide +kernel
theorem dX6_linkError_40 : decode cX6_linkError 40 = .ok (.ireturn, 1) := by decide +kernel
theorem dX6_linkError_41 : decode cX6_linkError 41 = .ok (.iload_n 2, 1) := by decide +kernel
theorem dX6_linkError_42 : decode cX6_linkError 42 = .ok (.invokestatic 251, 3) := by decide +kernel
theorem dX6_linkError_45 : decode cX6_linkError 45 = .ok (.ifCond .eq 16, 3) := by decide +kernel
theorem dX6_linkError_48 : decode cX6_linkError 48 = .ok (.iload_n 3, 1) := by decide +kernel
theorem dX6_linkError_49 : decode cX6_linkError 49 = .ok (.ifCond .eq 8, 3) := by decide +kernel
theorem dX6_linkError_52 : decode cX6_linkError 52 = .ok (.iload_n 3, 1) := by decide +kernel
theorem dX6_linkError_53 : decode cX6_linkError 53 = .ok (.iconst 1, 1) := by decide +kernel
theorem dX6_linkError_54 : decode cX6_linkError 54 = .ok (.if_icmp .ne 7, 3) := by decide +kernel
theorem dX6_linkError_57 : decode cX6_linkError 57 = .ok (.iconst 0, 1) := by decide +kernel
theorem dX6_linkError_58 : decode cX6_linkError 58 = .ok (.goto 5, 3) := by decide +kernel
theorem dX6_linkError_61 : decode cX6_linkError 61 = .ok (.bipush (-2), 2) := by decide +kernel
theorem dX6_linkError_63 : decode cX6_linkError 63 = .ok (.ireturn, 1) := by decide +kernel
theorem dX6_sendError_0 : decode cX6_sendError 0 = .ok (.aload_n 0, 1) := by decide +kernel
theorem dX6_sendError_1 : decode cX6_sendError 1 = .ok (.getfield 12, 3) := by decide +kernel
theorem dX6_sendError_4 : decode cX6_sendError 4 = .ok (.getfield 88, 3) := by decide +kernel
theorem dX6_sendError_7 : decode cX6_sendError 7 = .ok (.iload_n 1, 1) := by decide +kernel
theorem dX6_sendError_8 : decode cX6_sendError 8 = .ok (.invokevirtual 171, 3) := by decide +kernel
theorem dX6_sendError_11 : decode cX6_sendError 11 = .ok (.ifCond .eq 22, 3) := by decide +kernel
theorem dX6_sendError_14 : decode cX6_sendError 14 = .ok (.aload_n 0, 1) := by decide +kernel
theorem dX6_sendError_15 : decode cX6_sendError 15 = .ok (.getfield 12, 3) := by decide +kernel
theorem dX6_sendError_18 : decode cX6_sendError 18 = .ok (.getfield 88, 3) := by decide +kernel
theorem dX6_sendError_21 : decode cX6_sendError 21 = .ok (.iload_n 2, 1) := by decide +kernel
theorem dX6_sendError_22 : decode cX6_sendError 22 = .ok (.invokevirtual 171, 3) := by decide +kernel
theorem dX6_sendError_25 : decode cX6_sendError 25 = .ok (.ifCond .eq 8, 3) := by decide +kernel
theorem dX6_sendError_28 : decode cX6_sendError 28 = .ok (.iload_n 1, 1) := by decide +kernel
theorem dX6_sendError_29 : decode cX6_sendError 29 = .ok (.iload_n 2, 1) := by decide +kernel
theorem dX6_sendError_30 : decode cX6_sendError 30 = .ok (.if_icmp .ne 5, 3) := by decide +kernel
theorem dX6_sendError_33 : decode cX6_sendError 33 = .ok (.iconst (-1), 1) := by decide +kernel
theorem dX6_sendError_34 : decode cX6_sendError 34 = .ok (.ireturn, 1) := by decide +kernel
theorem dX6_sendError_35 : decode cX6_sendError 35 = .ok (.aload_n 0, 1) := by decide +kernel
theorem dX6_sendError_36 : decode cX6_sendError 36 = .ok (.getfield 12, 3) := by decide +kernel
theorem dX6_sendError_39 : decode cX6_sendError 39 = .ok (.getfield 79, 3) := by decide +kernel
theorem dX6_sendError_42 : decode cX6_sendError 42 = .ok (.getfield 83, 3) := by decide +kernel
theorem dX6_sendError_45 : decode cX6_sendError 45 = .ok (.bipush 40, 2) := by decide +kernel
theorem dX6_sendError_47 : decode cX6_sendError 47 = .ok (.if_icmp .lt 6, 3) := by decide +kernel
theorem dX6_sendError_50 : decode cX6_sendError 50 = .ok (.bipush (-4), 2) := by decide +kernel
theorem dX6_sendError_52 : decode cX6_sendError 52 = .ok (.ireturn, 1) := by decide +kernel
theorem dX6_sendError_53 : decode cX6_sendError 53 = .ok (.aload_n 0, 1) := by decide +kernel
theorem dX6_sendError_54 : decode cX6_sendError 54 = .ok (.getfield 12, 3) := by decide +kernel
theorem dX6_sendError_57 : decode cX6_sendError 57 = .ok (.aload_n 0, 1) := by decide +kernel
theorem dX6_sendError_58 : decode cX6_sendError 58 = .ok (.getfield 19, 3) := by decide +kernel
theorem dX6_sendError_61 : decode cX6_sendError 61 = .ok (.iload_n 1, 1) := by decide +kernel
theorem dX6_sendError_62 : decode cX6_sendError 62 = .ok (.iload_n 2, 1) := by decide +kernel
theorem dX6_sendError_63 : decode cX6_sendError 63 = .ok (.invokevirtual 201, 3) := by decide +kernel
theorem dX6_sendError_66 : decode cX6_sendError 66 = .ok (.bipush (-6), 2) := by decide +kernel
theorem dX6_sendError_68 : decode cX6_sendError 68 = .ok (.if_icmp .ne 8, 3) := by decide +kernel
theorem dX6_sendError_71 : decode cX6_sendError 71 = .ok (.bipush (-5), 2) := by decide +kernel
theorem dX6_sendError_73 : decode cX6_sendError 73 = .ok (.goto 4, 3) := by decide +kernel
theorem dX6_sendError_76 : decode cX6_sendError 76 = .ok (.iconst 0, 1) := by decide +kernel
theorem dX6_sendError_77 : decode cX6_sendError 77 = .ok (.ireturn, 1) := by decide +kernel
theorem dX6_learnRoutes_0 : decode cX6_learnRoutes 0 = .ok (.aload_n 0, 1) := by decide +kernel
theorem dX6_learnRoutes_1 : decode cX6_learnRoutes 1 = .ok (.getfield 19, 3) := by decide +kernel
theorem dX6_learnRoutes_4 : decode cX6_learnRoutes 4 = .ok (.aload_n 0, 1) := by decide +kernel
theorem dX6_learnRoutes_5 : decode cX6_learnRoutes 5 = .ok (.getfield 12, 3) := by decide +kernel
theorem dX6_learnRoutes_8 : decode cX6_learnRoutes 8 = .ok (.getfield 88, 3) := by decide +kernel
theorem dX6_learnRoutes_11 : decode cX6_learnRoutes 11 = .ok (.aload_n 0, 1) := by decide +kernel
theorem dX6_learnRoutes_12 : decode cX6_learnRoutes 12 = .ok (.getfield 12, 3) := by decide +kernel
theorem dX6_learnRoutes_15 : decode cX6_learnRoutes 15 = .ok (.getfield 71, 3) := by decide +kernel
theorem dX6_learnRoutes_18 : decode cX6_learnRoutes 18 = .ok (.iconst 0, 1) := by decide +kernel
theorem dX6_learnRoutes_19 : decode cX6_learnRoutes 19 = .ok (.iaload, 1) := by decide +kernel
theorem dX6_learnRoutes_20 : decode cX6_learnRoutes 20 = .ok (.invokevirtual 257, 3) := by decide +kernel
theorem dX6_learnRoutes_23 : decode cX6_learnRoutes 23 = .ok (.return_, 1) := by decide +kernel
theorem dX6_changeLink_0 : decode cX6_changeLink 0 = .ok (.aload_n 0, 1) := by decide +kernel
theorem dX6_changeLink_1 : decode cX6_changeLink 1 = .ok (.getfield 12, 3) := by decide +kernel
theorem dX6_changeLink_4 : decode cX6_changeLink 4 = .ok (.getfield 88, 3) := by decide +kernel
theorem dX6_changeLink_7 : decode cX6_changeLink 7 = .ok (.iload_n 1, 1) := by decide +kernel
theorem dX6_changeLink_8 : decode cX6_changeLink 8 = .ok (.iload_n 2, 1) := by decide +kernel
theorem dX6_changeLink_9 : decode cX6_changeLink 9 = .ok (.invokevirtual 261, 3) := by decide +kernel
theorem dX6_changeLink_12 : decode cX6_changeLink 12 = .ok (.istore 4, 2) := by decide +kernel
theorem dX6_changeLink_14 : decode cX6_changeLink 14 = .ok (.aload_n 0, 1) := by decide +kernel
theorem dX6_changeLink_15 : decode cX6_changeLink 15 = .ok (.getfield 12, 3) := by decide +kernel
theorem dX6_changeLink_18 : decode cX6_changeLink 18 = .ok (.getfield 88, 3) := by decide +kernel
theorem dX6_changeLink_21 : decode cX6_changeLink 21 = .ok (.iload 4, 2) := by decide +kernel
theorem dX6_changeLink_23 : decode cX6_changeLink 23 = .ok (.invokevirtual 264, 3) := by decide +kernel
theorem dX6_changeLink_26 : decode cX6_changeLink 26 = .ok (.ifCond .eq 7, 3) := by decide +kernel
theorem dX6_changeLink_29 : decode cX6_changeLink 29 = .ok (.iconst 1, 1) := by decide +kernel
theorem dX6_changeLink_30 : decode cX6_changeLink 30 = .ok (.goto 4, 3) := by decide +kernel
theorem dX6_changeLink_33 : decode cX6_changeLink 33 = .ok (.iconst 0, 1) := by decide +kernel
theorem dX6_changeLink_34 : decode cX6_changeLink 34 = .ok (.istore 5, 2) := by decide +kernel
theorem dX6_changeLink_36 : decode cX6_changeLink 36 = .ok (.aload_n 0, 1) := by decide +kernel
theorem dX6_changeLink_37 : decode cX6_changeLink 37 = .ok (.getfield 12, 3) := by decide +kernel
theorem dX6_changeLink_40 : decode cX6_changeLink 40 = .ok (.getfield 88, 3) := by decide +kernel
theorem dX6_changeLink_43 : decode cX6_changeLink 43 = .ok (.iload 4, 2) := by decide +kernel
theorem dX6_changeLink_45 : decode cX6_changeLink 45 = .ok (.iload_n 3, 1) := by decide +kernel
theorem dX6_changeLink_46 : decode cX6_changeLink 46 = .ok (.iconst 1, 1) := by decide +kernel
theorem dX6_changeLink_47 : decode cX6_changeLink 47 = .ok (.if_icmp .ne 7, 3) := by decide +kernel
theorem dX6_changeLink_50 : decode cX6_changeLink 50 = .ok (.iconst 1, 1) := by decide +kernel
theorem dX6_changeLink_51 : decode cX6_changeLink 51 = .ok (.goto 4, 3) := by decide +kernel
theorem dX6_changeLink_54 : decode cX6_changeLink 54 = .ok (.iconst 0, 1) := by decide +kernel
theorem dX6_changeLink_55 : decode cX6_changeLink 55 = .ok (.invokevirtual 267, 3) := by decide +kernel
theorem dX6_changeLink_58 : decode cX6_changeLink 58 = .ok (.aload_n 0, 1) := by decide +kernel
theorem dX6_changeLink_59 : decode cX6_changeLink 59 = .ok (.invokevirtual 58, 3) := by decide +kernel
theorem dX6_changeLink_62 : decode cX6_changeLink 62 = .ok (.iload 5, 2) := by decide +kernel
theorem dX6_changeLink_64 : decode cX6_changeLink 64 = .ok (.ireturn, 1) := by decide +kernel
theorem dX6_obey_0 : decode cX6_obey 0 = .ok (.iload_n 1, 1) := by decide +kernel
theorem dX6_obey_1 : decode cX6_obey 1 = .ok (.ifCond .lt 14, 3) := by decide +kernel
theorem dX6_obey_4 : decode cX6_obey 4 = .ok (.iload_n 1, 1) := by decide +kernel
theorem dX6_obey_5 : decode cX6_obey 5 = .ok (.aload_n 0, 1) := by decide +kernel
theorem dX6_obey_6 : decode cX6_obey 6 = .ok (.getfield 39, 3) := by decide +kernel
theorem dX6_obey_9 : decode cX6_obey 9 = .ok (.getfield 242, 3) := by decide +kernel
theorem dX6_obey_12 : decode cX6_obey 12 = .ok (.if_icmp .lt 5, 3) := by decide +kernel
theorem dX6_obey_15 : decode cX6_obey 15 = .ok (.iconst 0, 1) := by decide +kernel
theorem dX6_obey_16 : decode cX6_obey 16 = .ok (.ireturn, 1) := by decide +kernel
theorem dX6_obey_17 : decode cX6_obey 17 = .ok (.aload_n 0, 1) := by decide +kernel
theorem dX6_obey_18 : decode cX6_obey 18 = .ok (.getfield 39, 3) := by decide +kernel
theorem dX6_obey_21 : decode cX6_obey 21 = .ok (.getfield 271, 3) := by decide +kernel
theorem dX6_obey_24 : decode cX6_obey 24 = .ok (.iload_n 1, 1) := by decide +kernel
theorem dX6_obey_25 : decode cX6_obey 25 = .ok (.iaload, 1) := by decide +kernel
theorem dX6_obey_26 : decode cX6_obey 26 = .ok (.istore_n 2, 1) := by decide +kernel
theorem dX6_obey_27 : decode cX6_obey 27 = .ok (.aload_n 0, 1) := by decide +kernel
theorem dX6_obey_28 : decode cX6_obey 28 = .ok (.getfield 39, 3) := by decide +kernel
theorem dX6_obey_31 : decode cX6_obey 31 = .ok (.getfield 274, 3) := by decide +kernel
theorem dX6_obey_34 : decode cX6_obey 34 = .ok (.iload_n 1, 1) := by decide +kernel
theorem dX6_obey_35 : decode cX6_obey 35 = .ok (.iaload, 1) := by decide +kernel
theorem dX6_obey_36 : decode cX6_obey 36 = .ok (.istore_n 3, 1) := by decide +kernel
theorem dX6_obey_37 : decode cX6_obey 37 = .ok (.aload_n 0, 1) := by decide +kernel
theorem dX6_obey_38 : decode cX6_obey 38 = .ok (.getfield 39, 3) := by decide +kernel
theorem dX6_obey_41 : decode cX6_obey 41 = .ok (.getfield 277, 3) := by decide +kernel
theorem dX6_obey_44 : decode cX6_obey 44 = .ok (.iload_n 1, 1) := by decide +kernel
theorem dX6_obey_45 : decode cX6_obey 45 = .ok (.iaload, 1) := by decide +kernel
theorem dX6_obey_46 : decode cX6_obey 46 = .ok (.lookupswitch 123 #[(98, 71), (109, 97), (115, 34)], 34) := by decide +kernel
theorem dX6_obey_80 : decode cX6_obey 80 = .ok (.aload_n 0, 1) := by decide +kernel
theorem dX6_obey_81 : decode cX6_obey 81 = .ok (.iload_n 2, 1) := by decide +kernel
theorem dX6_obey_82 : decode cX6_obey 82 = .ok (.iload_n 3, 1) := by decide +kernel
theorem dX6_obey_83 : decode cX6_obey 83 = .ok (.invokevirtual 109, 3) := by decide +kernel
theorem dX6_obey_86 : decode cX6_obey 86 = .ok (.ifCond .ne 29, 3) := by decide +kernel
theorem dX6_obey_89 : decode cX6_obey 89 = .ok (.aload_n 0, 1) := by decide +kernel
theorem dX6_obey_90 : decode cX6_obey 90 = .ok (.getfield 12, 3) := by decide +kernel
theorem dX6_obey_93 : decode cX6_obey 93 = .ok (.getfield 79, 3) := by decide +kernel
theorem dX6_obey_96 : decode cX6_obey 96 = .ok (.iload_n 2, 1) := by decide +kernel
theorem dX6_obey_97 : decode cX6_obey 97 = .ok (.iload_n 3, 1) := by decide +kernel
theorem dX6_obey_98 : decode cX6_obey 98 = .ok (.aload_n 0, 1) := by decide +kernel
theorem dX6_obey_99 : decode cX6_obey 99 = .ok (.getfield 12, 3) := by decide +kernel
theorem dX6_obey_102 : decode cX6_obey 102 = .ok (.getfield 113, 3) := by decide +kernel
theorem dX6_obey_105 : decode cX6_obey 105 = .ok (.invokevirtual 116, 3) := by decide +kernel
theorem dX6_obey_108 : decode cX6_obey 108 = .ok (.ifCond .lt 7, 3) := by decide +kernel
theorem dX6_obey_111 : decode cX6_obey 111 = .ok (.iconst 1, 1) := by decide +kernel
theorem dX6_obey_112 : decode cX6_obey 112 = .ok (.goto 4, 3) := by decide +kernel
theorem dX6_obey_115 : decode cX6_obey 115 = .ok (.iconst 0, 1) := by decide +kernel
theorem dX6_obey_116 : decode cX6_obey 116 = .ok (.ireturn, 1) := by decide +kernel
theorem dX6_obey_117 : decode cX6_obey 117 = .ok (.aload_n 0, 1) := by decide +kernel
theorem dX6_obey_118 : decode cX6_obey 118 = .ok (.iload_n 2, 1) := by decide +kernel
theorem dX6_obey_119 : decode cX6_obey 119 = .ok (.iload_n 3, 1) := by decide +kernel
theorem dX6_obey_120 : decode cX6_obey 120 = .ok (.iconst 0, 1) := by decide +kernel
theorem dX6_obey_121 : decode cX6_obey 121 = .ok (.invokevirtual 102, 3) := by decide +kernel
theorem dX6_obey_124 : decode cX6_obey 124 = .ok (.ifCond .ne 17, 3) := by decide +kernel
theorem dX6_obey_127 : decode cX6_obey 127 = .ok (.aload_n 0, 1) := by decide +kernel
theorem dX6_obey_128 : decode cX6_obey 128 = .ok (.iload_n 2, 1) := by decide +kernel
theorem dX6_obey_129 : decode cX6_obey 129 = .ok (.iload_n 3, 1) := by decide +kernel
theorem dX6_obey_130 : decode cX6_obey 130 = .ok (.iconst 0, 1) := by decide +kernel
theorem dX6_obey_131 : decode cX6_obey 131 = .ok (.invokevirtual 106, 3) := by decide +kernel
theorem dX6_obey_134 : decode cX6_obey 134 = .ok (.ifCond .lt 7, 3) := by decide +kernel
theorem dX6_obey_137 : decode cX6_obey 137 = .ok (.iconst 1, 1) := by decide +kernel
theorem dX6_obey_138 : decode cX6_obey 138 = .ok (.goto 4, 3) := by decide +kernel
theorem dX6_obey_141 : decode cX6_obey 141 = .ok (.iconst 0, 1) := by decide +kernel
theorem dX6_obey_142 : decode cX6_obey 142 = .ok (.ireturn, 1) := by decide +kernel
theorem dX6_obey_143 : decode cX6_obey 143 = .ok (.aload_n 0, 1) := by decide +kernel
theorem dX6_obey_144 : decode cX6_obey 144 = .ok (.iload_n 2, 1) := by decide +kernel
theorem dX6_obey_145 : decode cX6_obey 145 = .ok (.iload_n 3, 1) := by decide +kernel
theorem dX6_obey_146 : decode cX6_obey 146 = .ok (.iconst 1, 1) := by decide +kernel
theorem dX6_obey_147 : decode cX6_obey 147 = .ok (.invokevirtual 102, 3) := by decide +kernel
theorem dX6_obey_150 : decode cX6_obey 150 = .ok (.ifCond .ne 17, 3) := by decide +kernel
theorem dX6_obey_153 : decode cX6_obey 153 = .ok (.aload_n 0, 1) := by decide +kernel
theorem dX6_obey_154 : decode cX6_obey 154 = .ok (.iload_n 2, 1) := by decide +kernel
theorem dX6_obey_155 : decode cX6_obey 155 = .ok (.iload_n 3, 1) := by decide +kernel
theorem dX6_obey_156 : decode cX6_obey 156 = .ok (.iconst 1, 1) := by decide +kernel
theorem dX6_obey_157 : decode cX6_obey 157 = .ok (.invokevirtual 106, 3) := by decide +kernel
theorem dX6_obey_160 : decode cX6_obey 160 = .ok (.ifCond .lt 7, 3) := by decide +kernel
theorem dX6_obey_163 : decode cX6_obey 163 = .ok (.iconst 1, 1) := by decide +kernel
theorem dX6_obey_164 : decode cX6_obey 164 = .ok (.goto 4, 3) := by decide +kernel
theorem dX6_obey_167 : decode cX6_obey 167 = .ok (.iconst 0, 1) := by decide +kernel
theorem dX6_obey_168 : decode cX6_obey 168 = .ok (.ireturn, 1) := by decide +kernel
theorem dX6_obey_169 : decode cX6_obey 169 = .ok (.iload_n 2, 1) := by decide +kernel
theorem dX6_obey_170 : decode cX6_obey 170 = .ok (.invokestatic 119, 3) := by decide +kernel
theorem dX6_obey_173 : decode cX6_obey 173 = .ok (.ifCond .ne 5, 3) := by decide +kernel
theorem dX6_obey_176 : decode cX6_obey 176 = .ok (.iconst 0, 1) := by decide +kernel
theorem dX6_obey_177 : decode cX6_obey 177 = .ok (.ireturn, 1) := by decide +kernel
theorem dX6_obey_178 : decode cX6_obey 178 = .ok (.aload_n 0, 1) := by decide +kernel
theorem dX6_obey_179 : decode cX6_obey 179 = .ok (.getfield 12, 3) := by decide +kernel
theorem dX6_obey_182 : decode cX6_obey 182 = .ok (.aload_n 0, 1) := by decide +kernel
theorem dX6_obey_183 : decode cX6_obey 183 = .ok (.getfield 19, 3) := by decide +kernel
theorem dX6_obey_186 : decode cX6_obey 186 = .ok (.iload_n 2, 1) := by decide +kernel
theorem dX6_obey_187 : decode cX6_obey 187 = .ok (.invokevirtual 122, 3) := by decide +kernel
theorem dX6_obey_190 : decode cX6_obey 190 = .ok (.iconst 1, 1) := by decide +kernel
theorem dX6_obey_191 : decode cX6_obey 191 = .ok (.ireturn, 1) := by decide +kernel
theorem dX6_recordState_0 : decode cX6_recordState 0 = .ok (.aload_n 0, 1) := by decide +kernel
theorem dX6_recordState_1 : decode cX6_recordState 1 = .ok (.getfield 47, 3) := by decide +kernel
theorem dX6_recordState_4 : decode cX6_recordState 4 = .ok (.bipush 6, 2) := by decide +kernel
theorem dX6_recordState_6 : decode cX6_recordState 6 = .ok (.if_icmp .lt 7, 3) := by decide +kernel
theorem dX6_recordState_9 : decode cX6_recordState 9 = .ok (.aload_n 0, 1) := by decide +kernel
theorem dX6_recordState_10 : decode cX6_recordState 10 = .ok (.invokevirtual 280, 3) := by decide +kernel
theorem dX6_recordState_13 : decode cX6_recordState 13 = .ok (.aload_n 0, 1) := by decide +kernel
theorem dX6_recordState_14 : decode cX6_recordState 14 = .ok (.getfield 12, 3) := by decide +kernel
theorem dX6_recordState_17 : decode cX6_recordState 17 = .ok (.aload_n 0, 1) := by decide +kernel
theorem dX6_recordState_18 : decode cX6_recordState 18 = .ok (.getfield 43, 3) := by decide +kernel
theorem dX6_recordState_21 : decode cX6_recordState 21 = .ok (.aload_n 0, 1) := by decide +kernel
theorem dX6_recordState_22 : decode cX6_recordState 22 = .ok (.getfield 47, 3) := by decide +kernel
theorem dX6_recordState_25 : decode cX6_recordState 25 = .ok (.aaload, 1) := by decide +kernel
theorem dX6_recordState_26 : decode cX6_recordState 26 = .ok (.invokestatic 224, 3) := by decide +kernel
theorem dX6_recordState_29 : decode cX6_recordState 29 = .ok (.aload_n 0, 1) := by decide +kernel
theorem dX6_recordState_30 : decode cX6_recordState 30 = .ok (.dup, 1) := by decide +kernel
theorem dX6_recordState_31 : decode cX6_recordState 31 = .ok (.getfield 47, 3) := by decide +kernel
theorem dX6_recordState_34 : decode cX6_recordState 34 = .ok (.iconst 1, 1) := by decide +kernel
theorem dX6_recordState_35 : decode cX6_recordState 35 = .ok (.iadd, 1) := by decide +kernel
theorem dX6_recordState_36 : decode cX6_recordState 36 = .ok (.putfield 47, 3) := by decide +kernel
theorem dX6_recordState_39 : decode cX6_recordState 39 = .ok (.return_, 1) := by decide +kernel
theorem dX6_dropOldestState_0 : decode cX6_dropOldestState 0 = .ok (.aload_n 0, 1) := by decide +kernel
theorem dX6_dropOldestState_1 : decode cX6_dropOldestState 1 = .ok (.getfield 43, 3) := by decide +kernel
theorem dX6_dropOldestState_4 : decode cX6_dropOldestState 4 = .ok (.iconst 0, 1) := by decide +kernel
theorem dX6_dropOldestState_5 : decode cX6_dropOldestState 5 = .ok (.aaload, 1) := by decide +kernel
theorem dX6_dropOldestState_6 : decode cX6_dropOldestState 6 = .ok (.astore_n 1, 1) := by decide +kernel
theorem dX6_dropOldestState_7 : decode cX6_dropOldestState 7 = .ok (.iconst 1, 1) := by decide +kernel
theorem dX6_dropOldestState_8 : decode cX6_dropOldestState 8 = .ok (.istore_n 2, 1) := by decide +kernel
theorem dX6_dropOldestState_9 : decode cX6_dropOldestState 9 = .ok (.iload_n 2, 1) := by decide +kernel
theorem dX6_dropOldestState_10 : decode cX6_dropOldestState 10 = .ok (.bipush 6, 2) := by decide +kernel
theorem dX6_dropOldestState_12 : decode cX6_dropOldestState 12 = .ok (.if_icmp .ge 23, 3) := by decide +kernel
theorem dX6_dropOldestState_15 : decode cX6_dropOldestState 15 = .ok (.aload_n 0, 1) := by decide +kernel
theorem dX6_dropOldestState_16 : decode cX6_dropOldestState 16 = .ok (.getfield 43, 3) := by decide +kernel
theorem dX6_dropOldestState_19 : decode cX6_dropOldestState 19 = .ok (.iload_n 2, 1) := by decide +kernel
theorem dX6_dropOldestState_20 : decode cX6_dropOldestState 20 = .ok (.iconst 1, 1) := by decide +kernel
theorem dX6_dropOldestState_21 : decode cX6_dropOldestState 21 = .ok (.isub, 1) := by decide +kernel
theorem dX6_dropOldestState_22 : decode cX6_dropOldestState 22 = .ok (.aload_n 0, 1) := by decide +kernel
theorem dX6_dropOldestState_23 : decode cX6_dropOldestState 23 = .ok (.getfield 43, 3) := by decide +kernel
theorem dX6_dropOldestState_26 : decode cX6_dropOldestState 26 = .ok (.iload_n 2, 1) := by decide +kernel
theorem dX6_dropOldestState_27 : decode cX6_dropOldestState 27 = .ok (.aaload, 1) := by decide +kernel
theorem dX6_dropOldestState_28 : decode cX6_dropOldestState 28 = .ok (.aastore, 1) := by decide +kernel
theorem dX6_dropOldestState_29 : decode cX6_dropOldestState 29 = .ok (.iinc 2 1, 3) := by decide +kernel
theorem dX6_dropOldestState_32 : decode cX6_dropOldestState 32 = .ok (.goto (-23), 3) := by decide +kernel
theorem dX6_dropOldestState_35 : decode cX6_dropOldestState 35 = .ok (.aload_n 0, 1) := by decide +kernel
theorem dX6_dropOldestState_36 : decode cX6_dropOldestState 36 = .ok (.getfield 43, 3) := by decide +kernel
theorem dX6_dropOldestState_39 : decode cX6_dropOldestState 39 = .ok (.iconst 5, 1) := by decide +kernel
theorem dX6_dropOldestState_40 : decode cX6_dropOldestState 40 = .ok (.aload_n 1, 1) := by decide +kernel
theorem dX6_dropOldestState_41 : decode cX6_dropOldestState 41 = .ok (.aastore, 1) := by decide +kernel
theorem dX6_dropOldestState_42 : decode cX6_dropOldestState 42 = .ok (.aload_n 0, 1) := by decide +kernel
theorem dX6_dropOldestState_43 : decode cX6_dropOldestState 43 = .ok (.iconst 5, 1) := by decide +kernel
theorem dX6_dropOldestState_44 : decode cX6_dropOldestState 44 = .ok (.putfield 47, 3) := by decide +kernel
theorem dX6_dropOldestState_47 : decode cX6_dropOldestState 47 = .ok (.return_, 1) := by decide +kernel
theorem dX6_linkState_0 : decode cX6_linkState 0 = .ok (.aload_n 0, 1) := by decide +kernel
theorem dX6_linkState_1 : decode cX6_linkState 1 = .ok (.getfield 12, 3) := by decide +kernel
theorem dX6_linkState_4 : decode cX6_linkState 4 = .ok (.getfield 88, 3) := by decide +kernel
theorem dX6_linkState_7 : decode cX6_linkState 7 = .ok (.iload_n 1, 1) := by decide +kernel
theorem dX6_linkState_8 : decode cX6_linkState 8 = .ok (.iload_n 2, 1) := by decide +kernel
theorem dX6_linkState_9 : decode cX6_linkState 9 = .ok (.invokevirtual 261, 3) := by decide +kernel
theorem dX6_linkState_12 : decode cX6_linkState 12 = .ok (.istore_n 3, 1) := by decide +kernel
theorem dX6_linkState_13 : decode cX6_linkState 13 = .ok (.iload_n 3, 1) := by decide +kernel
theorem dX6_linkState_14 : decode cX6_linkState 14 = .ok (.iconst (-1), 1) := by decide +kernel
theorem dX6_linkState_15 : decode cX6_linkState 15 = .ok (.if_icmp .ne 6, 3) := by decide +kernel
theorem dX6_linkState_18 : decode cX6_linkState 18 = .ok (.bipush (-6), 2) := by decide +kernel
theorem dX6_linkState_20 : decode cX6_linkState 20 = .ok (.ireturn, 1) := by decide +kernel
theorem dX6_linkState_21 : decode cX6_linkState 21 = .ok (.aload_n 0, 1) := by decide +kernel
theorem dX6_linkState_22 : decode cX6_linkState 22 = .ok (.getfield 12, 3) := by decide +kernel
theorem dX6_linkState_25 : decode cX6_linkState 25 = .ok (.getfield 88, 3) := by decide +kernel
theorem dX6_linkState_28 : decode cX6_linkState 28 = .ok (.iload_n 3, 1) := by decide +kernel
theorem dX6_linkState_29 : decode cX6_linkState 29 = .ok (.invokevirtual 264, 3) := by decide +kernel
theorem dX6_linkState_32 : decode cX6_linkState 32 = .ok (.ifCond .eq 7, 3) := by decide +kernel
theorem dX6_linkState_35 : decode cX6_linkState 35 = .ok (.iconst 1, 1) := by decide +kernel
theorem dX6_linkState_36 : decode cX6_linkState 36 = .ok (.goto 4, 3) := by decide +kernel
theorem dX6_linkState_39 : decode cX6_linkState 39 = .ok (.iconst 0, 1) := by decide +kernel
theorem dX6_linkState_40 : decode cX6_linkState 40 = .ok (.ireturn, 1) := by decide +kernel
theorem dX6_findWorstLink_0 : decode cX6_findWorstLink 0 = .ok (.iconst (-1), 1) := by decide +kernel
theorem dX6_findWorstLink_1 : decode cX6_findWorstLink 1 = .ok (.istore_n 1, 1) := by decide +kernel
theorem dX6_findWorstLink_2 : decode cX6_findWorstLink 2 = .ok (.iconst 0, 1) := by decide +kernel
theorem dX6_findWorstLink_3 : decode cX6_findWorstLink 3 = .ok (.istore_n 2, 1) := by decide +kernel
theorem dX6_findWorstLink_4 : decode cX6_findWorstLink 4 = .ok (.iconst 0, 1) := by decide +kernel
theorem dX6_findWorstLink_5 : decode cX6_findWorstLink 5 = .ok (.istore_n 3, 1) := by decide +kernel
theorem dX6_findWorstLink_6 : decode cX6_findWorstLink 6 = .ok (.iload_n 3, 1) := by decide +kernel
theorem dX6_findWorstLink_7 : decode cX6_findWorstLink 7 = .ok (.iconst 2, 1) := by decide +kernel
theorem dX6_findWorstLink_8 : decode cX6_findWorstLink 8 = .ok (.aload_n 0, 1) := by decide +kernel
theorem dX6_findWorstLink_9 : decode cX6_findWorstLink 9 = .ok (.getfield 12, 3) := by decide +kernel
theorem dX6_findWorstLink_12 : decode cX6_findWorstLink 12 = .ok (.getfield 88, 3) := by decide +kernel
theorem dX6_findWorstLink_15 : decode cX6_findWorstLink 15 = .ok (.invokevirtual 98, 3) := by decide +kernel
theorem dX6_findWorstLink_18 : decode cX6_findWorstLink 18 = .ok (.imul, 1) := by decide +kernel
theorem dX6_findWorstLink_19 : decode cX6_findWorstLink 19 = .ok (.if_icmp .ge 60, 3) := by decide +kernel
theorem dX6_findWorstLink_22 : decode cX6_findWorstLink 22 = .ok (.aload_n 0, 1) := by decide +kernel
theorem dX6_findWorstLink_23 : decode cX6_findWorstLink 23 = .ok (.getfield 12, 3) := by decide +kernel
theorem dX6_findWorstLink_26 : decode cX6_findWorstLink 26 = .ok (.getfield 88, 3) := by decide +kernel
theorem dX6_findWorstLink_29 : decode cX6_findWorstLink 29 = .ok (.iload_n 3, 1) := by decide +kernel
theorem dX6_findWorstLink_30 : decode cX6_findWorstLink 30 = .ok (.invokevirtual 283, 3) := by decide +kernel
theorem dX6_findWorstLink_33 : decode cX6_findWorstLink 33 = .ok (.ifCond .eq 40, 3) := by decide +kernel
theorem dX6_findWorstLink_36 : decode cX6_findWorstLink 36 = .ok (.aload_n 0, 1) := by decide +kernel
theorem dX6_findWorstLink_37 : decode cX6_findWorstLink 37 = .ok (.getfield 12, 3) := by decide +kernel
theorem dX6_findWorstLink_40 : decode cX6_findWorstLink 40 = .ok (.getfield 88, 3) := by decide +kernel
theorem dX6_findWorstLink_43 : decode cX6_findWorstLink 43 = .ok (.iload_n 3, 1) := by decide +kernel
theorem dX6_findWorstLink_44 : decode cX6_findWorstLink 44 = .ok (.invokevirtual 264, 3) := by decide +kernel
theorem dX6_findWorstLink_47 : decode cX6_findWorstLink 47 = .ok (.ifCond .eq 26, 3) := by decide +kernel
theorem dX6_findWorstLink_50 : decode cX6_findWorstLink 50 = .ok (.aload_n 0, 1) := by decide +kernel
theorem dX6_findWorstLink_51 : decode cX6_findWorstLink 51 = .ok (.iload_n 3, 1) := by decide +kernel
theorem dX6_findWorstLink_52 : decode cX6_findWorstLink 52 = .ok (.invokevirtual 221, 3) := by decide +kernel
theorem dX6_findWorstLink_55 : decode cX6_findWorstLink 55 = .ok (.istore 4, 2) := by decide +kernel
theorem dX6_findWorstLink_57 : decode cX6_findWorstLink 57 = .ok (.iload_n 1, 1) := by decide +kernel
theorem dX6_findWorstLink_58 : decode cX6_findWorstLink 58 = .ok (.iconst (-1), 1) := by decide +kernel
theorem dX6_findWorstLink_59 : decode cX6_findWorstLink 59 = .ok (.if_icmp .eq 9, 3) := by decide +kernel
theorem dX6_findWorstLink_62 : decode cX6_findWorstLink 62 = .ok (.iload 4, 2) := by decide +kernel
theorem dX6_findWorstLink_64 : decode cX6_findWorstLink 64 = .ok (.iload_n 2, 1) := by decide +kernel
theorem dX6_findWorstLink_65 : decode cX6_findWorstLink 65 = .ok (.if_icmp .ge 8, 3) := by decide +kernel
theorem dX6_findWorstLink_68 : decode cX6_findWorstLink 68 = .ok (.iload_n 3, 1) := by decide +kernel
theorem dX6_findWorstLink_69 : decode cX6_findWorstLink 69 = .ok (.istore_n 1, 1) := by decide +kernel
theorem dX6_findWorstLink_70 : decode cX6_findWorstLink 70 = .ok (.iload 4, 2) := by decide +kernel
theorem dX6_findWorstLink_72 : decode cX6_findWorstLink 72 = .ok (.istore_n 2, 1) := by decide +kernel
theorem dX6_findWorstLink_73 : decode cX6_findWorstLink 73 = .ok (.iinc 3 1, 3) := by decide +kernel
theorem dX6_findWorstLink_76 : decode cX6_findWorstLink 76 = .ok (.goto (-70), 3) := by decide +kernel
theorem dX6_findWorstLink_79 : decode cX6_findWorstLink 79 = .ok (.iload_n 1, 1) := by decide +kernel
theorem dX6_findWorstLink_80 : decode cX6_findWorstLink 80 = .ok (.ireturn, 1) := by decide +kernel
theorem dX6_pairsWithout_0 : decode cX6_pairsWithout 0 = .ok (.aload_n 0, 1) := by decide +kernel
theorem dX6_pairsWithout_1 : decode cX6_pairsWithout 1 = .ok (.getfield 12, 3) := by decide +kernel
theorem dX6_pairsWithout_4 : decode cX6_pairsWithout 4 = .ok (.aload_n 0, 1) := by decide +kernel
theorem dX6_pairsWithout_5 : decode cX6_pairsWithout 5 = .ok (.getfield 23, 3) := by decide +kernel
theorem dX6_pairsWithout_8 : decode cX6_pairsWithout 8 = .ok (.invokestatic 224, 3) := by decide +kernel
theorem dX6_pairsWithout_11 : decode cX6_pairsWithout 11 = .ok (.aload_n 0, 1) := by decide +kernel
theorem dX6_pairsWithout_12 : decode cX6_pairsWithout 12 = .ok (.getfield 23, 3) := by decide +kernel
theorem dX6_pairsWithout_15 : decode cX6_pairsWithout 15 = .ok (.getfield 88, 3) := by decide +kernel
theorem dX6_pairsWithout_18 : decode cX6_pairsWithout 18 = .ok (.iload_n 1, 1) := by decide +kernel
theorem dX6_pairsWithout_19 : decode cX6_pairsWithout 19 = .ok (.iconst 0, 1) := by decide +kernel
theorem dX6_pairsWithout_20 : decode cX6_pairsWithout 20 = .ok (.invokevirtual 267, 3) := by decide +kernel
theorem dX6_pairsWithout_23 : decode cX6_pairsWithout 23 = .ok (.aload_n 0, 1) := by decide +kernel
theorem dX6_pairsWithout_24 : decode cX6_pairsWithout 24 = .ok (.getfield 26, 3) := by decide +kernel
theorem dX6_pairsWithout_27 : decode cX6_pairsWithout 27 = .ok (.aload_n 0, 1) := by decide +kernel
theorem dX6_pairsWithout_28 : decode cX6_pairsWithout 28 = .ok (.getfield 23, 3) := by decide +kernel
theorem dX6_pairsWithout_31 : decode cX6_pairsWithout 31 = .ok (.getfield 88, 3) := by decide +kernel
theorem dX6_pairsWithout_34 : decode cX6_pairsWithout 34 = .ok (.aload_n 0, 1) := by decide +kernel
theorem dX6_pairsWithout_35 : decode cX6_pairsWithout 35 = .ok (.getfield 23, 3) := by decide +kernel
theorem dX6_pairsWithout_38 : decode cX6_pairsWithout 38 = .ok (.getfield 71, 3) := by decide +kernel
theorem dX6_pairsWithout_41 : decode cX6_pairsWithout 41 = .ok (.iconst 0, 1) := by decide +kernel
theorem dX6_pairsWithout_42 : decode cX6_pairsWithout 42 = .ok (.iaload, 1) := by decide +kernel
theorem dX6_pairsWithout_43 : decode cX6_pairsWithout 43 = .ok (.invokevirtual 257, 3) := by decide +kernel
theorem dX6_pairsWithout_46 : decode cX6_pairsWithout 46 = .ok (.aload_n 0, 1) := by decide +kernel
theorem dX6_pairsWithout_47 : decode cX6_pairsWithout 47 = .ok (.getfield 23, 3) := by decide +kernel
theorem dX6_pairsWithout_50 : decode cX6_pairsWithout 50 = .ok (.aload_n 0, 1) := by decide +kernel
theorem dX6_pairsWithout_51 : decode cX6_pairsWithout 51 = .ok (.getfield 26, 3) := by decide +kernel
theorem dX6_pairsWithout_54 : decode cX6_pairsWithout 54 = .ok (.invokevirtual 208, 3) := by decide +kernel
theorem dX6_pairsWithout_57 : decode cX6_pairsWithout 57 = .ok (.ireturn, 1) := by decide +kernel
theorem dX7_init_0 : decode cX7_init 0 = .ok (.aload_n 0, 1) := by decide +kernel
theorem dX7_init_1 : decode cX7_init 1 = .ok (.invokespecial 1, 3) := by decide +kernel
theorem dX7_init_4 : decode cX7_init 4 = .ok (.aload_n 0, 1) := by decide +kernel
theorem dX7_init_5 : decode cX7_init 5 = .ok (.sipush 560, 3) := by decide +kernel
theorem dX7_init_8 : decode cX7_init 8 = .ok (.newarray .int, 2) := by decide +kernel
theorem dX7_init_10 : decode cX7_init 10 = .ok (.putfield 7, 3) := by decide +kernel
theorem dX7_init_13 : decode cX7_init 13 = .ok (.aload_n 0, 1) := by decide +kernel
theorem dX7_init_14 : decode cX7_init 14 = .ok (.sipush 560, 3) := by decide +kernel
theorem dX7_init_17 : decode cX7_init 17 = .ok (.newarray .int, 2) := by decide +kernel
theorem dX7_init_19 : decode cX7_init 19 = .ok (.putfield 13, 3) := by decide +kernel
theorem dX7_init_22 : decode cX7_init 22 = .ok (.aload_n 0, 1) := by decide +kernel
theorem dX7_init_23 : decode cX7_init 23 = .ok (.sipush 3360, 3) := by decide +kernel
theorem dX7_init_26 : decode cX7_init 26 = .ok (.newarray .int, 2) := by decide +kernel
theorem dX7_init_28 : decode cX7_init 28 = .ok (.putfield 16, 3) := by decide +kernel
theorem dX7_init_31 : decode cX7_init 31 = .ok (.aload_n 0, 1) := by decide +kernel
theorem dX7_init_32 : decode cX7_init 32 = .ok (.sipush 1120, 3) := by decide +kernel
theorem dX7_init_35 : decode cX7_init 35 = .ok (.newarray .int, 2) := by decide +kernel
theorem dX7_init_37 : decode cX7_init 37 = .ok (.putfield 19, 3) := by decide +kernel
theorem dX7_init_40 : decode cX7_init 40 = .ok (.aload_n 0, 1) := by decide +kernel
theorem dX7_init_41 : decode cX7_init 41 = .ok (.iconst 2, 1) := by decide +kernel
theorem dX7_init_42 : decode cX7_init 42 = .ok (.newarray .boolean, 2) := by decide +kernel
theorem dX7_init_44 : decode cX7_init 44 = .ok (.putfield 22, 3) := by decide +kernel
theorem dX7_init_47 : decode cX7_init 47 = .ok (.aload_n 0, 1) := by decide +kernel
theorem dX7_init_48 : decode cX7_init 48 = .ok (.bipush 80, 2) := by decide +kernel
theorem dX7_init_50 : decode cX7_init 50 = .ok (.newarray .int, 2) := by decide +kernel
theorem dX7_init_52 : decode cX7_init 52 = .ok (.putfield 26, 3) := by decide +kernel
theorem dX7_init_55 : decode cX7_init 55 = .ok (.aload_n 0, 1) := by decide +kernel
theorem dX7_init_56 : decode cX7_init 56 = .ok (.sipush 6250, 3) := by decide +kernel
theorem dX7_init_59 : decode cX7_init 59 = .ok (.newarray .int, 2) := by decide +kernel
theorem dX7_init_61 : decode cX7_init 61 = .ok (.putfield 29, 3) := by decide +kernel
theorem dX7_init_64 : decode cX7_init 64 = .ok (.aload_n 0, 1) := by decide +kernel
theorem dX7_init_65 : decode cX7_init 65 = .ok (.sipush 6250, 3) := by decide +kernel
theorem dX7_init_68 : decode cX7_init 68 = .ok (.newarray .int, 2) := by decide +kernel
theorem dX7_init_70 : decode cX7_init 70 = .ok (.putfield 32, 3) := by decide +kernel
theorem dX7_init_73 : decode cX7_init 73 = .ok (.aload_n 0, 1) := by decide +kernel
theorem dX7_init_74 : decode cX7_init 74 = .ok (.bipush 25, 2) := by decide +kernel
theorem dX7_init_76 : decode cX7_init 76 = .ok (.newarray .boolean, 2) := by decide +kernel
theorem dX7_init_78 : decode cX7_init 78 = .ok (.putfield 35, 3) := by decide +kernel
theorem dX7_init_81 : decode cX7_init 81 = .ok (.aload_n 0, 1) := by decide +kernel
theorem dX7_init_82 : decode cX7_init 82 = .ok (.iconst 4, 1) := by decide +kernel
theorem dX7_init_83 : decode cX7_init 83 = .ok (.newarray .int, 2) := by decide +kernel
theorem dX7_init_85 : decode cX7_init 85 = .ok (.putfield 38, 3) := by decide +kernel
theorem dX7_init_88 : decode cX7_init 88 = .ok (.aload_n 0, 1) := by decide +kernel
theorem dX7_init_89 : decode cX7_init 89 = .ok (.bipush 40, 2) := by decide +kernel
theorem dX7_init_91 : decode cX7_init 91 = .ok (.newarray .boolean, 2) := by decide +kernel
theorem dX7_init_93 : decode cX7_init 93 = .ok (.putfield 41, 3) := by decide +kernel
theorem dX7_init_96 : decode cX7_init 96 = .ok (.aload_n 0, 1) := by decide +kernel
theorem dX7_init_97 : decode cX7_init 97 = .ok (.sipush 240, 3) := by decide +kernel
theorem dX7_init_100 : decode cX7_init 100 = .ok (.newarray .int, 2) := by decide +kernel
theorem dX7_init_102 : decode cX7_init 102 = .ok (.putfield 44, 3) := by decide +kernel
theorem dX7_init_105 : decode cX7_init 105 = .ok (.aload_n 0, 1) := by decide +kernel
theorem dX7_init_106 : decode cX7_init 106 = .ok (.getfield 7, 3) := by decide +kernel
theorem dX7_init_109 : decode cX7_init 109 = .ok (.iconst 0, 1) := by decide +kernel
theorem dX7_init_110 : decode cX7_init 110 = .ok (.iconst 1, 1) := by decide +kernel
theorem dX7_init_111 : decode cX7_init 111 = .ok (.iastore, 1) := by decide +kernel
theorem dX7_init_112 : decode cX7_init 112 = .ok (.aload_n 0, 1) := by decide +kernel
theorem dX7_init_113 : decode cX7_init 113 = .ok (.getfield 7, 3) := by decide +kernel
theorem dX7_init_116 : decode cX7_init 116 = .ok (.iconst 2, 1) := by decide +kernel
theorem dX7_init_117 : decode cX7_init 117 = .ok (.iconst 1, 1) := by decide +kernel
theorem dX7_init_118 : decode cX7_init 118 = .ok (.iastore, 1) := by decide +kernel
theorem dX7_init_119 : decode cX7_init 119 = .ok (.aload_n 0, 1) := by decide +kernel
theorem dX7_init_120 : decode cX7_init 120 = .ok (.getfield 7, 3) := by decide +kernel
theorem dX7_init_123 : decode cX7_init 123 = .ok (.iconst 4, 1) := by decide +kernel
theorem dX7_init_124 : decode cX7_init 124 = .ok (.iconst 4, 1) := by decide +kernel
theorem dX7_init_125 : decode cX7_init 125 = .ok (.iastore, 1) := by decide +kernel
theorem dX7_init_126 : decode cX7_init 126 = .ok (.aload_n 0, 1) := by decide +kernel
theorem dX7_init_127 : decode cX7_init 127 = .ok (.getfield 7, 3) := by decide +kernel
theorem dX7_init_130 : decode cX7_init 130 = .ok (.iconst 5, 1) := by decide +kernel
theorem dX7_init_131 : decode cX7_init 131 = .ok (.iconst 4, 1) := by decide +kernel
theorem dX7_init_132 : decode cX7_init 132 = .ok (.iastore, 1) := by decide +kernel
theorem dX7_init_133 : decode cX7_init 133 = .ok (.return_, 1) := by decide +kernel
theorem dX7_in_0 : decode cX7_in 0 = .ok (.iload_n 0, 1) := by decide +kernel
theorem dX7_in_1 : decode cX7_in 1 = .ok (.iload_n 1, 1) := by decide +kernel
theorem dX7_in_2 : decode cX7_in 2 = .ok (.if_icmp .lt 12, 3) := by decide +kernel
theorem dX7_in_5 : decode cX7_in 5 = .ok (.iload_n 0, 1) := by decide +kernel
theorem dX7_in_6 : decode cX7_in 6 = .ok (.iload_n 2, 1) := by decide +kernel
theorem dX7_in_7 : decode cX7_in 7 = .ok (.if_icmp .gt 7, 3) := by decide +kernel
theorem dX7_in_10 : decode cX7_in 10 = .ok (.iconst 1, 1) := by decide +kernel
theorem dX7_in_11 : decode cX7_in 11 = .ok (.goto 4, 3) := by decide +kernel
theorem dX7_in_14 : decode cX7_in 14 = .ok (.iconst 0, 1) := by decide +kernel
theorem dX7_in_15 : decode cX7_in 15 = .ok (.ireturn, 1) := by decide +kernel
theorem dX7_record_0 : decode cX7_record 0 = .ok (.aload_n 0, 1) := by decide +kernel
theorem dX7_record_1 : decode cX7_record 1 = .ok (.getfield 47, 3) := by decide +kernel
theorem dX7_record_4 : decode cX7_record 4 = .ok (.ifCond .eq 4, 3) := by decide +kernel
theorem dX7_record_7 : decode cX7_record 7 = .ok (.return_, 1) := by decide +kernel
theorem dX7_record_8 : decode cX7_record 8 = .ok (.aload_n 0, 1) := by decide +kernel
theorem dX7_record_9 : decode cX7_record 9 = .ok (.getfield 51, 3) := by decide +kernel
theorem dX7_record_12 : decode cX7_record 12 = .ok (.bipush 6, 2) := by decide +kernel
theorem dX7_record_14 : decode cX7_record 14 = .ok (.if_icmp .ne 39, 3) := by decide +kernel
theorem dX7_record_17 : decode cX7_record 17 = .ok (.iconst 0, 1) := by decide +kernel
theorem dX7_record_18 : decode cX7_record 18 = .ok (.istore_n 1, 1) := by decide +kernel
theorem dX7_record_19 : decode cX7_record 19 = .ok (.iload_n 1, 1) := by decide +kernel
theorem dX7_record_20 : decode cX7_record 20 = .ok (.sipush 2800, 3) := by decide +kernel
theorem dX7_record_23 : decode cX7_record 23 = .ok (.if_icmp .ge 25, 3) := by decide +kernel
theorem dX7_record_26 : decode cX7_record 26 = .ok (.aload_n 0, 1) := by decide +kernel
theorem dX7_record_27 : decode cX7_record 27 = .ok (.getfield 16, 3) := by decide +kernel
theorem dX7_record_30 : decode cX7_record 30 = .ok (.iload_n 1, 1) := by decide +kernel
theorem dX7_record_31 : decode cX7_record 31 = .ok (.aload_n 0, 1) := by decide +kernel
theorem dX7_record_32 : decode cX7_record 32 = .ok (.getfield 16, 3) := by decide +kernel
theorem dX7_record_35 : decode cX7_record 35 = .ok (.iload_n 1, 1) := by decide +kernel
theorem dX7_record_36 : decode cX7_record 36 = .ok (.sipush 560, 3) := by decide +kernel
theorem dX7_record_39 : decode cX7_record 39 = .ok (.iadd, 1) := by decide +kernel
theorem dX7_record_40 : decode cX7_record 40 = .ok (.iaload, 1) := by decide +kernel
theorem dX7_record_41 : decode cX7_record 41 = .ok (.iastore, 1) := by decide +kernel
theorem dX7_record_42 : decode cX7_record 42 = .ok (.iinc 1 1, 3) := by decide +kernel
theorem dX7_record_45 : decode cX7_record 45 = .ok (.goto (-26), 3) := by decide +kernel
theorem dX7_record_48 : decode cX7_record 48 = .ok (.aload_n 0, 1) := by decide +kernel
theorem dX7_record_49 : decode cX7_record 49 = .ok (.iconst 5, 1) := by decide +kernel
theorem dX7_record_50 : decode cX7_record 50 = .ok (.putfield 51, 3) := by decide +kernel
theorem dX7_record_53 : decode cX7_record 53 = .ok (.iconst 0, 1) := by decide +kernel
theorem dX7_record_54 : decode cX7_record 54 = .ok (.istore_n 1, 1) := by decide +kernel
theorem dX7_record_55 : decode cX7_record 55 = .ok (.iload_n 1, 1) := by decide +kernel
theorem dX7_record_56 : decode cX7_record 56 = .ok (.sipush 560, 3) := by decide +kernel
theorem dX7_record_59 : decode cX7_record 59 = .ok (.if_icmp .ge 30, 3) := by decide +kernel
theorem dX7_record_62 : decode cX7_record 62 = .ok (.aload_n 0, 1) := by decide +kernel
theorem dX7_record_63 : decode cX7_record 63 = .ok (.getfield 16, 3) := by decide +kernel
theorem dX7_record_66 : decode cX7_record 66 = .ok (.aload_n 0, 1) := by decide +kernel
theorem dX7_record_67 : decode cX7_record 67 = .ok (.getfield 51, 3) := by decide +kernel
theorem dX7_record_70 : decode cX7_record 70 = .ok (.sipush 560, 3) := by decide +kernel
theorem dX7_record_73 : decode cX7_record 73 = .ok (.imul, 1) := by decide +kernel
theorem dX7_record_74 : decode cX7_record 74 = .ok (.iload_n 1, 1) := by decide +kernel
theorem dX7_record_75 : decode cX7_record 75 = .ok (.iadd, 1) := by decide +kernel
theorem dX7_record_76 : decode cX7_record 76 = .ok (.aload_n 0, 1) := by decide +kernel
theorem dX7_record_77 : decode cX7_record 77 = .ok (.getfield 7, 3) := by decide +kernel
theorem dX7_record_80 : decode cX7_record 80 = .ok (.iload_n 1, 1) := by decide +kernel
theorem dX7_record_81 : decode cX7_record 81 = .ok (.iaload, 1) := by decide +kernel
theorem dX7_record_82 : decode cX7_record 82 = .ok (.iastore, 1) := by decide +kernel
theorem dX7_record_83 : decode cX7_record 83 = .ok (.iinc 1 1, 3) := by decide +kernel
theorem dX7_record_86 : decode cX7_record 86 = .ok (.goto (-31), 3) := by decide +kernel
theorem dX7_record_89 : decode cX7_record 89 = .ok (.aload_n 0, 1) := by decide +kernel
theorem dX7_record_90 : decode cX7_record 90 = .ok (.dup, 1) := by decide +kernel
theorem dX7_record_91 : decode cX7_record 91 = .ok (.getfield 51, 3) := by decide +kernel
theorem dX7_record_94 : decode cX7_record 94 = .ok (.iconst 1, 1) := by decide +kernel
theorem dX7_record_95 : decode cX7_record 95 = .ok (.iadd, 1) := by decide +kernel
theorem dX7_record_96 : decode cX7_record 96 = .ok (.putfield 51, 3) := by decide +kernel
theorem dX7_record_99 : decode cX7_record 99 = .ok (.return_, 1) := by decide +kernel
theorem dX7_keep_0 : decode cX7_keep 0 = .ok (.iconst 0, 1) := by decide +kernel
theorem dX7_keep_1 : decode cX7_keep 1 = .ok (.istore_n 1, 1) := by decide +kernel
theorem dX7_keep_2 : decode cX7_keep 2 = .ok (.iload_n 1, 1) := by decide +kernel
theorem dX7_keep_3 : decode cX7_keep 3 = .ok (.sipush 560, 3) := by decide +kernel
theorem dX7_keep_6 : decode cX7_keep 6 = .ok (.if_icmp .ge 21, 3) := by decide +kernel
theorem dX7_keep_9 : decode cX7_keep 9 = .ok (.aload_n 0, 1) := by decide +kernel
theorem dX7_keep_10 : decode cX7_keep 10 = .ok (.getfield 13, 3) := by decide +kernel
theorem dX7_keep_13 : decode cX7_keep 13 = .ok (.iload_n 1, 1) := by decide +kernel
theorem dX7_keep_14 : decode cX7_keep 14 = .ok (.aload_n 0, 1) := by decide +kernel
theorem dX7_keep_15 : decode cX7_keep 15 = .ok (.getfield 7, 3) := by decide +kernel
theorem dX7_keep_18 : decode cX7_keep 18 = .ok (.iload_n 1, 1) := by decide +kernel
theorem dX7_keep_19 : decode cX7_keep 19 = .ok (.iaload, 1) := by decide +kernel
theorem dX7_keep_20 : decode cX7_keep 20 = .ok (.iastore, 1) := by decide +kernel
theorem dX7_keep_21 : decode cX7_keep 21 = .ok (.iinc 1 1, 3) := by decide +kernel
theorem dX7_keep_24 : decode cX7_keep 24 = .ok (.goto (-22), 3) := by decide +kernel
theorem dX7_keep_27 : decode cX7_keep 27 = .ok (.return_, 1) := by decide +kernel
theorem dX7_comeBack_0 : decode cX7_comeBack 0 = .ok (.iconst 0, 1) := by decide +kernel
theorem dX7_comeBack_1 : decode cX7_comeBack 1 = .ok (.istore_n 1, 1) := by decide +kernel
theorem dX7_comeBack_2 : decode cX7_comeBack 2 = .ok (.iload_n 1, 1) := by decide +kernel
theorem dX7_comeBack_3 : decode cX7_comeBack 3 = .ok (.sipush 560, 3) := by decide +kernel
theorem dX7_comeBack_6 : decode cX7_comeBack 6 = .ok (.if_icmp .ge 21, 3) := by decide +kernel
theorem dX7_comeBack_9 : decode cX7_comeBack 9 = .ok (.aload_n 0, 1) := by decide +kernel
theorem dX7_comeBack_10 : decode cX7_comeBack 10 = .ok (.getfield 7, 3) := by decide +kernel
theorem dX7_comeBack_13 : decode cX7_comeBack 13 = .ok (.iload_n 1, 1) := by decide +kernel
theorem dX7_comeBack_14 : decode cX7_comeBack 14 = .ok (.aload_n 0, 1) := by decide +kernel
theorem dX7_comeBack_15 : decode cX7_comeBack 15 = .ok (.getfield 13, 3) := by decide +kernel
theorem dX7_comeBack_18 : decode cX7_comeBack 18 = .ok (.iload_n 1, 1) := by decide +kernel
theorem dX7_comeBack_19 : decode cX7_comeBack 19 = .ok (.iaload, 1) := by decide +kernel
theorem dX7_comeBack_20 : decode cX7_comeBack 20 = .ok (.iastore, 1) := by decide +kernel
theorem dX7_comeBack_21 : decode cX7_comeBack 21 = .ok (.iinc 1 1, 3) := by decide +kernel
theorem dX7_comeBack_24 : decode cX7_comeBack 24 = .ok (.goto (-22), 3) := by decide +kernel
theorem dX7_comeBack_27 : decode cX7_comeBack 27 = .ok (.return_, 1) := by decide +kernel
theorem dX7_boxes_0 : decode cX7_boxes 0 = .ok (.aload_n 0, 1) := by decide +kernel
theorem dX7_boxes_1 : decode cX7_boxes 1 = .ok (.getfield 7, 3) := by decide +kernel
theorem dX7_boxes_4 : decode cX7_boxes 4 = .ok (.iconst 4, 1) := by decide +kernel
theorem dX7_boxes_5 : decode cX7_boxes 5 = .ok (.iaload, 1) := by decide +kernel
theorem dX7_boxes_6 : decode cX7_boxes 6 = .ok (.aload_n 0, 1) := by decide +kernel
theorem dX7_boxes_7 : decode cX7_boxes 7 = .ok (.getfield 7, 3) := by decide +kernel
theorem dX7_boxes_10 : decode cX7_boxes 10 = .ok (.iconst 5, 1) := by decide +kernel
theorem dX7_boxes_11 : decode cX7_boxes 11 = .ok (.iaload, 1) := by decide +kernel
theorem dX7_boxes_12 : decode cX7_boxes 12 = .ok (.imul, 1) := by decide +kernel
theorem dX7_boxes_13 : decode cX7_boxes 13 = .ok (.ireturn, 1) := by decide +kernel
theorem dX7_isBox_0 : decode cX7_isBox 0 = .ok (.iload_n 1, 1) := by decide +kernel
theorem dX7_isBox_1 : decode cX7_isBox 1 = .ok (.iconst 0, 1) := by decide +kernel
theorem dX7_isBox_2 : decode cX7_isBox 2 = .ok (.aload_n 0, 1) := by decide +kernel
theorem dX7_isBox_3 : decode cX7_isBox 3 = .ok (.invokevirtual 55, 3) := by decide +kernel
theorem dX7_isBox_6 : decode cX7_isBox 6 = .ok (.iconst 1, 1) := by decide +kernel
theorem dX7_isBox_7 : decode cX7_isBox 7 = .ok (.isub, 1) := by decide +kernel
theorem dX7_isBox_8 : decode cX7_isBox 8 = .ok (.invokestatic 59, 3) := by decide +kernel
theorem dX7_isBox_11 : decode cX7_isBox 11 = .ok (.ireturn, 1) := by decide +kernel
theorem dX7_beside_0 : decode cX7_beside 0 = .ok (.iload_n 1, 1) := by decide +kernel
theorem dX7_beside_1 : decode cX7_beside 1 = .ok (.aload_n 0, 1) := by decide +kernel
theorem dX7_beside_2 : decode cX7_beside 2 = .ok (.getfield 7, 3) := by decide +kernel
theorem dX7_beside_5 : decode cX7_beside 5 = .ok (.iconst 4, 1) := by decide +kernel
theorem dX7_beside_6 : decode cX7_beside 6 = .ok (.iaload, 1) := by decide +kernel
theorem dX7_beside_7 : decode cX7_beside 7 = .ok (.irem, 1) := by decide +kernel
theorem dX7_beside_8 : decode cX7_beside 8 = .ok (.istore_n 3, 1) := by decide +kernel
theorem dX7_beside_9 : decode cX7_beside 9 = .ok (.iload_n 1, 1) := by decide +kernel
theorem dX7_beside_10 : decode cX7_beside 10 = .ok (.aload_n 0, 1) := by decide +kernel
theorem dX7_beside_11 : decode cX7_beside 11 = .ok (.getfield 7, 3) := by decide +kernel
theorem dX7_beside_14 : decode cX7_beside 14 = .ok (.iconst 4, 1) := by decide +kernel
theorem dX7_beside_15 : decode cX7_beside 15 = .ok (.iaload, 1) := by decide +kernel
theorem dX7_beside_16 : decode cX7_beside 16 = .ok (.idiv, 1) := by decide +kernel
theorem dX7_beside_17 : decode cX7_beside 17 = .ok (.istore 4, 2) := by decide +kernel
theorem dX7_beside_19 : decode cX7_beside 19 = .ok (.iload_n 2, 1) := by decide +kernel
theorem dX7_beside_20 : decode cX7_beside 20 = .ok (.iconst 2, 1) := by decide +kernel
theorem dX7_beside_21 : decode cX7_beside 21 = .ok (.if_icmp .ge 53, 3) := by decide +kernel
theorem dX7_beside_24 : decode cX7_beside 24 = .ok (.iload_n 2, 1) := by decide +kernel
theorem dX7_beside_25 : decode cX7_beside 25 = .ok (.ifCond .ne 9, 3) := by decide +kernel
theorem dX7_beside_28 : decode cX7_beside 28 = .ok (.iload_n 3, 1) := by decide +kernel
theorem dX7_beside_29 : decode cX7_beside 29 = .ok (.iconst 1, 1) := by decide +kernel
theorem dX7_beside_30 : decode cX7_beside 30 = .ok (.iadd, 1) := by decide +kernel
theorem dX7_beside_31 : decode cX7_beside 31 = .ok (.goto 6, 3) := by decide +kernel
theorem dX7_beside_34 : decode cX7_beside 34 = .ok (.iload_n 3, 1) := by decide +kernel
theorem dX7_beside_35 : decode cX7_beside 35 = .ok (.iconst 1, 1) := by decide +kernel
theorem dX7_beside_36 : decode cX7_beside 36 = .ok (.isub, 1) := by decide +kernel
theorem dX7_beside_37 : decode cX7_beside 37 = .ok (.istore 5, 2) := by decide +kernel
theorem dX7_beside_39 : decode cX7_beside 39 = .ok (.iload 5, 2) := by decide +kernel
theorem dX7_beside_41 : decode cX7_beside 41 = .ok (.iconst 0, 1) := by decide +kernel
theorem dX7_beside_42 : decode cX7_beside 42 = .ok (.aload_n 0, 1) := by decide +kernel
theorem dX7_beside_43 : decode cX7_beside 43 = .ok (.getfield 7, 3) := by decide +kernel
theorem dX7_beside_46 : decode cX7_beside 46 = .ok (.iconst 4, 1) := by decide +kernel
theorem dX7_beside_47 : decode cX7_beside 47 = .ok (.iaload, 1) := by decide +kernel
theorem dX7_beside_48 : decode cX7_beside 48 = .ok (.iconst 1, 1) := by decide +kernel
theorem dX7_beside_49 : decode cX7_beside 49 = .ok (.isub, 1) := by decide +kernel
theorem dX7_beside_50 : decode cX7_beside 50 = .ok (.invokestatic 59, 3) := by decide +kernel
theorem dX7_beside_53 : decode cX7_beside 53 = .ok (.ifCond .eq 18, 3) := by decide +kernel
theorem dX7_beside_56 : decode cX7_beside 56 = .ok (.iload 4, 2) := by decide +kernel
theorem dX7_beside_58 : decode cX7_beside 58 = .ok (.aload_n 0, 1) := by decide +kernel
theorem dX7_beside_59 : decode cX7_beside 59 = .ok (.getfield 7, 3) := by decide +kernel
theorem dX7_beside_62 : decode cX7_beside 62 = .ok (.iconst 4, 1) := by decide +kernel
theorem dX7_beside_63 : decode cX7_beside 63 = .ok (.iaload, 1) := by decide +kernel
theorem dX7_beside_64 : decode cX7_beside 64 = .ok (.imul, 1) := by decide +kernel
theorem dX7_beside_65 : decode cX7_beside 65 = .ok (.iload 5, 2) := by decide +kernel
theorem dX7_beside_67 : decode cX7_beside 67 = .ok (.iadd, 1) := by decide +kernel
theorem dX7_beside_68 : decode cX7_beside 68 = .ok (.goto 5, 3) := by decide +kernel
theorem dX7_beside_71 : decode cX7_beside 71 = .ok (.bipush (-6), 2) := by decide +kernel
theorem dX7_beside_73 : decode cX7_beside 73 = .ok (.ireturn, 1) := by decide +kernel
theorem dX7_beside_74 : decode cX7_beside 74 = .ok (.iload_n 2, 1) := by decide +kernel
theorem dX7_beside_75 : decode cX7_beside 75 = .ok (.iconst 2, 1) := by decide +kernel
theorem dX7_beside_76 : decode cX7_beside 76 = .ok (.if_icmp .ne 10, 3) := by decide +kernel
theorem dX7_beside_79 : decode cX7_beside 79 = .ok (.iload 4, 2) := by decide +kernel
theorem dX7_beside_81 : decode cX7_beside 81 = .ok (.iconst 1, 1) := by decide +kernel
theorem dX7_beside_82 : decode cX7_beside 82 = .ok (.iadd, 1) := by decide +kernel
theorem dX7_beside_83 : decode cX7_beside 83 = .ok (.goto 7, 3) := by decide +kernel
theorem dX7_beside_86 : decode cX7_beside 86 = .ok (.iload 4, 2) := by decide +kernel
theorem dX7_beside_88 : decode cX7_beside 88 = .ok (.iconst 1, 1) := by decide +kernel
theorem dX7_beside_89 : decode cX7_beside 89 = .ok (.isub, 1) := by decide +kernel
theorem dX7_beside_90 : decode cX7_beside 90 = .ok (.istore 5, 2) := by decide +kernel
theorem dX7_beside_92 : decode cX7_beside 92 = .ok (.iload 5, 2) := by decide +kernel
theorem dX7_beside_94 : decode cX7_beside 94 = .ok (.iconst 0, 1) := by decide +kernel
theorem dX7_beside_95 : decode cX7_beside 95 = .ok (.aload_n 0, 1) := by decide +kernel
theorem dX7_beside_96 : decode cX7_beside 96 = .ok (.getfield 7, 3) := by decide +kernel
theorem dX7_beside_99 : decode cX7_beside 99 = .ok (.iconst 5, 1) := by decide +kernel
theorem dX7_beside_100 : decode cX7_beside 100 = .ok (.iaload, 1) := by decide +kernel
theorem dX7_beside_101 : decode cX7_beside 101 = .ok (.iconst 1, 1) := by decide +kernel
theorem dX7_beside_102 : decode cX7_beside 102 = .ok (.isub, 1) := by decide +kernel
theorem dX7_beside_103 : decode cX7_beside 103 = .ok (.invokestatic 59, 3) := by decide +kernel
theorem dX7_beside_106 : decode cX7_beside 106 = .ok (.ifCond .eq 17, 3) := by decide +kernel
theorem dX7_beside_109 : decode cX7_beside 109 = .ok (.iload 5, 2) := by decide +kernel
theorem dX7_beside_111 : decode cX7_beside 111 = .ok (.aload_n 0, 1) := by decide +kernel
theorem dX7_beside_112 : decode cX7_beside 112 = .ok (.getfield 7, 3) := by decide +kernel
theorem dX7_beside_115 : decode cX7_beside 115 = .ok (.iconst 4, 1) := by decide +kernel
theorem dX7_beside_116 : decode cX7_beside 116 = .ok (.iaload, 1) := by decide +kernel
theorem dX7_beside_117 : decode cX7_beside 117 = .ok (.imul, 1) := by decide +kernel
theorem dX7_beside_118 : decode cX7_beside 118 = .ok (.iload_n 3, 1) := by decide +kernel
theorem dX7_beside_119 : decode cX7_beside 119 = .ok (.iadd, 1) := by decide +kernel
theorem dX7_beside_120 : decode cX7_beside 120 = .ok (.goto 5, 3) := by decide +kernel
theorem dX7_beside_123 : decode cX7_beside 123 = .ok (.bipush (-6), 2) := by decide +kernel
theorem dX7_beside_125 : decode cX7_beside 125 = .ok (.ireturn, 1) := by decide +kernel
theorem dX7_linkOf_0 : decode cX7_linkOf 0 = .ok (.iload_n 2, 1) := by decide +kernel
theorem dX7_linkOf_1 : decode cX7_linkOf 1 = .ok (.ifCond .eq 8, 3) := by decide +kernel
theorem dX7_linkOf_4 : decode cX7_linkOf 4 = .ok (.iload_n 2, 1) := by decide +kernel
theorem dX7_linkOf_5 : decode cX7_linkOf 5 = .ok (.iconst 2, 1) := by decide +kernel
theorem dX7_linkOf_6 : decode cX7_linkOf 6 = .ok (.if_icmp .ne 7, 3) := by decide +kernel
theorem dX7_linkOf_9 : decode cX7_linkOf 9 = .ok (.iload_n 1, 1) := by decide +kernel
theorem dX7_linkOf_10 : decode cX7_linkOf 10 = .ok (.goto 9, 3) := by decide +kernel
theorem dX7_linkOf_13 : decode cX7_linkOf 13 = .ok (.aload_n 0, 1) := by decide +kernel
theorem dX7_linkOf_14 : decode cX7_linkOf 14 = .ok (.iload_n 1, 1) := by decide +kernel
theorem dX7_linkOf_15 : decode cX7_linkOf 15 = .ok (.iload_n 2, 1) := by decide +kernel
theorem dX7_linkOf_16 : decode cX7_linkOf 16 = .ok (.invokevirtual 63, 3) := by decide +kernel
theorem dX7_linkOf_19 : decode cX7_linkOf 19 = .ok (.istore_n 3, 1) := by decide +kernel
theorem dX7_linkOf_20 : decode cX7_linkOf 20 = .ok (.bipush 10, 2) := by decide +kernel
theorem dX7_linkOf_22 : decode cX7_linkOf 22 = .ok (.iconst 2, 1) := by decide +kernel
theorem dX7_linkOf_23 : decode cX7_linkOf 23 = .ok (.iload_n 3, 1) := by decide +kernel
theorem dX7_linkOf_24 : decode cX7_linkOf 24 = .ok (.imul, 1) := by decide +kernel
theorem dX7_linkOf_25 : decode cX7_linkOf 25 = .ok (.iadd, 1) := by decide +kernel
theorem dX7_linkOf_26 : decode cX7_linkOf 26 = .ok (.iload_n 2, 1) := by decide +kernel
theorem dX7_linkOf_27 : decode cX7_linkOf 27 = .ok (.iconst 2, 1) := by decide +kernel
theorem dX7_linkOf_28 : decode cX7_linkOf 28 = .ok (.if_icmp .ge 7, 3) := by decide +kernel
theorem dX7_linkOf_31 : decode cX7_linkOf 31 = .ok (.iconst 0, 1) := by decide +kernel
theorem dX7_linkOf_32 : decode cX7_linkOf 32 = .ok (.goto 4, 3) := by decide +kernel
theorem dX7_linkOf_35 : decode cX7_linkOf 35 = .ok (.iconst 1, 1) := by decide +kernel
theorem dX7_linkOf_36 : decode cX7_linkOf 36 = .ok (.iadd, 1) := by decide +kernel
theorem dX7_linkOf_37 : decode cX7_linkOf 37 = .ok (.ireturn, 1) := by decide +kernel
theorem dX7_isWhole_0 : decode cX7_isWhole 0 = .ok (.aload_n 0, 1) := by decide +kernel
theorem dX7_isWhole_1 : decode cX7_isWhole 1 = .ok (.iload_n 1, 1) := by decide +kernel
theorem dX7_isWhole_2 : decode cX7_isWhole 2 = .ok (.iload_n 2, 1) := by decide +kernel
theorem dX7_isWhole_3 : decode cX7_isWhole 3 = .ok (.invokevirtual 63, 3) := by decide +kernel
theorem dX7_isWhole_6 : decode cX7_isWhole 6 = .ok (.ifCond .lt 21, 3) := by decide +kernel
theorem dX7_isWhole_9 : decode cX7_isWhole 9 = .ok (.aload_n 0, 1) := by decide +kernel
theorem dX7_isWhole_10 : decode cX7_isWhole 10 = .ok (.getfield 7, 3) := by decide +kernel
theorem dX7_isWhole_13 : decode cX7_isWhole 13 = .ok (.aload_n 0, 1) := by decide +kernel
theorem dX7_isWhole_14 : decode cX7_isWhole 14 = .ok (.iload_n 1, 1) := by decide +kernel
theorem dX7_isWhole_15 : decode cX7_isWhole 15 = .ok (.iload_n 2, 1) := by decide +kernel
theorem dX7_isWhole_16 : decode cX7_isWhole 16 = .ok (.invokevirtual 67, 3) := by decide +kernel
theorem dX7_isWhole_19 : decode cX7_isWhole 19 = .ok (.iaload, 1) := by decide +kernel
theorem dX7_isWhole_20 : decode cX7_isWhole 20 = .ok (.ifCond .ne 7, 3) := by decide +kernel
theorem dX7_isWhole_23 : decode cX7_isWhole 23 = .ok (.iconst 1, 1) := by decide +kernel
theorem dX7_isWhole_24 : decode cX7_isWhole 24 = .ok (.goto 4, 3) := by decide +kernel
theorem dX7_isWhole_27 : decode cX7_isWhole 27 = .ok (.iconst 0, 1) := by decide +kernel
theorem dX7_isWhole_28 : decode cX7_isWhole 28 = .ok (.ireturn, 1) := by decide +kernel
theorem dX7_set_0 : decode cX7_set 0 = .ok (.iload_n 1, 1) := by decide +kernel
theorem dX7_set_1 : decode cX7_set 1 = .ok (.iconst 2, 1) := by decide +kernel
theorem dX7_set_2 : decode cX7_set 2 = .ok (.if_icmp .ne 7, 3) := by decide +kernel
theorem dX7_set_5 : decode cX7_set 5 = .ok (.iconst 1, 1) := by decide +kernel
theorem dX7_set_6 : decode cX7_set 6 = .ok (.goto 4, 3) := by decide +kernel
theorem dX7_set_9 : decode cX7_set 9 = .ok (.iconst 0, 1) := by decide +kernel
theorem dX7_set_10 : decode cX7_set 10 = .ok (.istore_n 3, 1) := by decide +kernel
theorem dX7_set_11 : decode cX7_set 11 = .ok (.iload_n 1, 1) := by decide +kernel
theorem dX7_set_12 : decode cX7_set 12 = .ok (.ifCond .ne 7, 3) := by decide +kernel
theorem dX7_set_15 : decode cX7_set 15 = .ok (.iconst 1, 1) := by decide +kernel
theorem dX7_set_16 : decode cX7_set 16 = .ok (.goto 4, 3) := by decide +kernel
theorem dX7_set_19 : decode cX7_set 19 = .ok (.iconst 4, 1) := by decide +kernel
theorem dX7_set_20 : decode cX7_set 20 = .ok (.istore 4, 2) := by decide +kernel
theorem dX7_set_22 : decode cX7_set 22 = .ok (.iload_n 1, 1) := by decide +kernel
theorem dX7_set_23 : decode cX7_set 23 = .ok (.iconst 0, 1) := by decide +kernel
theorem dX7_set_24 : decode cX7_set 24 = .ok (.iconst 2, 1) := by decide +kernel
theorem dX7_set_25 : decode cX7_set 25 = .ok (.invokestatic 59, 3) := by decide +kernel
theorem dX7_set_28 : decode cX7_set 28 = .ok (.ifCond .eq 13, 3) := by decide +kernel
theorem dX7_set_31 : decode cX7_set 31 = .ok (.iload_n 2, 1) := by decide +kernel
theorem dX7_set_32 : decode cX7_set 32 = .ok (.iload_n 3, 1) := by decide +kernel
theorem dX7_set_33 : decode cX7_set 33 = .ok (.iload 4, 2) := by decide +kernel
theorem dX7_set_35 : decode cX7_set 35 = .ok (.invokestatic 59, 3) := by decide +kernel
theorem dX7_set_38 : decode cX7_set 38 = .ok (.ifCond .ne 6, 3) := by decide +kernel
theorem dX7_set_41 : decode cX7_set 41 = .ok (.bipush (-2), 2) := by decide +kernel
theorem dX7_set_43 : decode cX7_set 43 = .ok (.ireturn, 1) := by decide +kernel
theorem dX7_set_44 : decode cX7_set 44 = .ok (.aload_n 0, 1) := by decide +kernel
theorem dX7_set_45 : decode cX7_set 45 = .ok (.invokevirtual 70, 3) := by decide +kernel
theorem dX7_set_48 : decode cX7_set 48 = .ok (.aload_n 0, 1) := by decide +kernel
theorem dX7_set_49 : decode cX7_set 49 = .ok (.getfield 7, 3) := by decide +kernel
theorem dX7_set_52 : decode cX7_set 52 = .ok (.iload_n 1, 1) := by decide +kernel
theorem dX7_set_53 : decode cX7_set 53 = .ok (.iaload, 1) := by decide +kernel
theorem dX7_set_54 : decode cX7_set 54 = .ok (.istore 5, 2) := by decide +kernel
theorem dX7_set_56 : decode cX7_set 56 = .ok (.aload_n 0, 1) := by decide +kernel
theorem dX7_set_57 : decode cX7_set 57 = .ok (.getfield 7, 3) := by decide +kernel
theorem dX7_set_60 : decode cX7_set 60 = .ok (.iload_n 1, 1) := by decide +kernel
theorem dX7_set_61 : decode cX7_set 61 = .ok (.iload_n 2, 1) := by decide +kernel
theorem dX7_set_62 : decode cX7_set 62 = .ok (.iastore, 1) := by decide +kernel
theorem dX7_set_63 : decode cX7_set 63 = .ok (.aload_n 0, 1) := by decide +kernel
theorem dX7_set_64 : decode cX7_set 64 = .ok (.invokevirtual 73, 3) := by decide +kernel
theorem dX7_set_67 : decode cX7_set 67 = .ok (.iload 5, 2) := by decide +kernel
theorem dX7_set_69 : decode cX7_set 69 = .ok (.ireturn, 1) := by decide +kernel
theorem dX7_mesh_0 : decode cX7_mesh 0 = .ok (.iload_n 1, 1) := by decide +kernel
theorem dX7_mesh_1 : decode cX7_mesh 1 = .ok (.iconst 2, 1) := by decide +kernel
theorem dX7_mesh_2 : decode cX7_mesh 2 = .ok (.iconst 5, 1) := by decide +kernel
theorem dX7_mesh_3 : decode cX7_mesh 3 = .ok (.invokestatic 59, 3) := by decide +kernel
theorem dX7_mesh_6 : decode cX7_mesh 6 = .ok (.ifCond .eq 12, 3) := by decide +kernel
theorem dX7_mesh_9 : decode cX7_mesh 9 = .ok (.iload_n 2, 1) := by decide +kernel
theorem dX7_mesh_10 : decode cX7_mesh 10 = .ok (.iconst 2, 1) := by decide +kernel
theorem dX7_mesh_11 : decode cX7_mesh 11 = .ok (.iconst 5, 1) := by decide +kernel
theorem dX7_mesh_12 : decode cX7_mesh 12 = .ok (.invokestatic 59, 3) := by decide +kernel
theorem dX7_mesh_15 : decode cX7_mesh 15 = .ok (.ifCond .ne 6, 3) := by decide +kernel
theorem dX7_mesh_18 : decode cX7_mesh 18 = .ok (.bipush (-2), 2) := by decide +kernel
theorem dX7_mesh_20 : decode cX7_mesh 20 = .ok (.ireturn, 1) := by decide +kernel
theorem dX7_mesh_21 : decode cX7_mesh 21 = .ok (.aload_n 0, 1) := by decide +kernel
theorem dX7_mesh_22 : decode cX7_mesh 22 = .ok (.getfield 7, 3) := by decide +kernel
theorem dX7_mesh_25 : decode cX7_mesh 25 = .ok (.bipush 6, 2) := by decide +kernel
theorem dX7_mesh_27 : decode cX7_mesh 27 = .ok (.iaload, 1) := by decide +kernel
theorem dX7_mesh_28 : decode cX7_mesh 28 = .ok (.ifCond .le 6, 3) := by decide +kernel
theorem dX7_mesh_31 : decode cX7_mesh 31 = .ok (.bipush (-5), 2) := by decide +kernel
theorem dX7_mesh_33 : decode cX7_mesh 33 = .ok (.ireturn, 1) := by decide +kernel
theorem dX7_mesh_34 : decode cX7_mesh 34 = .ok (.aload_n 0, 1) := by decide +kernel
theorem dX7_mesh_35 : decode cX7_mesh 35 = .ok (.invokevirtual 70, 3) := by decide +kernel
theorem dX7_mesh_38 : decode cX7_mesh 38 = .ok (.aload_n 0, 1) := by decide +kernel
theorem dX7_mesh_39 : decode cX7_mesh 39 = .ok (.getfield 7, 3) := by decide +kernel
theorem dX7_mesh_42 : decode cX7_mesh 42 = .ok (.iconst 4, 1) := by decide +kernel
theorem dX7_mesh_43 : decode cX7_mesh 43 = .ok (.iload_n 1, 1) := by decide +kernel
theorem dX7_mesh_44 : decode cX7_mesh 44 = .ok (.iastore, 1) := by decide +kernel
theorem dX7_mesh_45 : decode cX7_mesh 45 = .ok (.aload_n 0, 1) := by decide +kernel
theorem dX7_mesh_46 : decode cX7_mesh 46 = .ok (.getfield 7, 3) := by decide +kernel
theorem dX7_mesh_49 : decode cX7_mesh 49 = .ok (.iconst 5, 1) := by decide +kernel
theorem dX7_mesh_50 : decode cX7_mesh 50 = .ok (.iload_n 2, 1) := by decide +kernel
theorem dX7_mesh_51 : decode cX7_mesh 51 = .ok (.iastore, 1) := by decide +kernel
theorem dX7_mesh_52 : decode cX7_mesh 52 = .ok (.bipush 10, 2) := by decide +kernel
theorem dX7_mesh_54 : decode cX7_mesh 54 = .ok (.istore_n 3, 1) := by decide +kernel
theorem dX7_mesh_55 : decode cX7_mesh 55 = .ok (.iload_n 3, 1) := by decide +kernel
theorem dX7_mesh_56 : decode cX7_mesh 56 = .ok (.bipush 60, 2) := by decide +kernel
theorem dX7_mesh_58 : decode cX7_mesh 58 = .ok (.if_icmp .ge 16, 3) := by decide +kernel
theorem dX7_mesh_61 : decode cX7_mesh 61 = .ok (.aload_n 0, 1) := by decide +kernel
theorem dX7_mesh_62 : decode cX7_mesh 62 = .ok (.getfield 7, 3) := by decide +kernel
theorem dX7_mesh_65 : decode cX7_mesh 65 = .ok (.iload_n 3, 1) := by decide +kernel
theorem dX7_mesh_66 : decode cX7_mesh 66 = .ok (.iconst 0, 1) := by decide +kernel
theorem dX7_mesh_67 : decode cX7_mesh 67 = .ok (.iastore, 1) := by decide +kernel
theorem dX7_mesh_68 : decode cX7_mesh 68 = .ok (.iinc 3 1, 3) := by decide +kernel
theorem dX7_mesh_71 : decode cX7_mesh 71 = .ok (.goto (-16), 3) := by decide +kernel
theorem dX7_mesh_74 : decode cX7_mesh 74 = .ok (.aload_n 0, 1) := by decide +kernel
theorem dX7_mesh_75 : decode cX7_mesh 75 = .ok (.invokevirtual 73, 3) := by decide +kernel
theorem dX7_mesh_78 : decode cX7_mesh 78 = .ok (.aload_n 0, 1) := by decide +kernel
theorem dX7_mesh_79 : decode cX7_mesh 79 = .ok (.invokevirtual 55, 3) := by decide +kernel
theorem dX7_mesh_82 : decode cX7_mesh 82 = .ok (.ireturn, 1) := by decide +kernel
theorem dX7_link_0 : decode cX7_link 0 = .ok (.aload_n 0, 1) := by decide +kernel
theorem dX7_link_1 : decode cX7_link 1 = .ok (.iload_n 1, 1) := by decide +kernel
theorem dX7_link_2 : decode cX7_link 2 = .ok (.invokevirtual 76, 3) := by decide +kernel
theorem dX7_link_5 : decode cX7_link 5 = .ok (.ifCond .eq 21, 3) := by decide +kernel
theorem dX7_link_8 : decode cX7_link 8 = .ok (.iload_n 2, 1) := by decide +kernel
theorem dX7_link_9 : decode cX7_link 9 = .ok (.iconst 0, 1) := by decide +kernel
theorem dX7_link_10 : decode cX7_link 10 = .ok (.iconst 3, 1) := by decide +kernel
theorem dX7_link_11 : decode cX7_link 11 = .ok (.invokestatic 59, 3) := by decide +kernel
theorem dX7_link_14 : decode cX7_link 14 = .ok (.ifCond .eq 14, 3) := by decide +kernel
theorem dX7_link_17 : decode cX7_link 17 = .ok (.aload_n 0, 1) := by decide +kernel
theorem dX7_link_18 : decode cX7_link 18 = .ok (.iload_n 1, 1) := by decide +kernel
theorem dX7_link_19 : decode cX7_link 19 = .ok (.iload_n 2, 1) := by decide +kernel
theorem dX7_link_20 : decode cX7_link 20 = .ok (.invokevirtual 63, 3) := by decide +kernel
theorem dX7_link_23 : decode cX7_link 23 = .ok (.ifCond .ge 5, 3) := by decide +kernel
theorem dX7_link_26 : decode cX7_link 26 = .ok (.iconst (-1), 1) := by decide +kernel
theorem dX7_link_27 : decode cX7_link 27 = .ok (.ireturn, 1) := by decide +kernel
theorem dX7_link_28 : decode cX7_link 28 = .ok (.iload_n 2, 1) := by decide +kernel
theorem dX7_link_29 : decode cX7_link 29 = .ok (.iconst 0, 1) := by decide +kernel
theorem dX7_link_30 : decode cX7_link 30 = .ok (.iconst 3, 1) := by decide +kernel
theorem dX7_link_31 : decode cX7_link 31 = .ok (.invokestatic 59, 3) := by decide +kernel
theorem dX7_link_34 : decode cX7_link 34 = .ok (.ifCond .eq 12, 3) := by decide +kernel
theorem dX7_link_37 : decode cX7_link 37 = .ok (.iload_n 3, 1) := by decide +kernel
theorem dX7_link_38 : decode cX7_link 38 = .ok (.iconst 0, 1) := by decide +kernel
theorem dX7_link_39 : decode cX7_link 39 = .ok (.iconst 1, 1) := by decide +kernel
theorem dX7_link_40 : decode cX7_link 40 = .ok (.invokestatic 59, 3) := by decide +kernel
theorem dX7_link_43 : decode cX7_link 43 = .ok (.ifCond .ne 6, 3) := by decide +kernel
theorem dX7_link_46 : decode cX7_link 46 = .ok (.bipush (-2), 2) := by decide +kernel
theorem dX7_link_48 : decode cX7_link 48 = .ok (.ireturn, 1) := by decide +kernel
theorem dX7_link_49 : decode cX7_link 49 = .ok (.aload_n 0, 1) := by decide +kernel
theorem dX7_link_50 : decode cX7_link 50 = .ok (.invokevirtual 70, 3) := by decide +kernel
theorem dX7_link_53 : decode cX7_link 53 = .ok (.aload_n 0, 1) := by decide +kernel
theorem dX7_link_54 : decode cX7_link 54 = .ok (.iload_n 1, 1) := by decide +kernel
theorem dX7_link_55 : decode cX7_link 55 = .ok (.iload_n 2, 1) := by decide +kernel
theorem dX7_link_56 : decode cX7_link 56 = .ok (.invokevirtual 67, 3) := by decide +kernel
theorem dX7_link_59 : decode cX7_link 59 = .ok (.istore 4, 2) := by decide +kernel
theorem dX7_link_61 : decode cX7_link 61 = .ok (.iconst 1, 1) := by decide +kernel
theorem dX7_link_62 : decode cX7_link 62 = .ok (.aload_n 0, 1) := by decide +kernel
theorem dX7_link_63 : decode cX7_link 63 = .ok (.getfield 7, 3) := by decide +kernel
theorem dX7_link_66 : decode cX7_link 66 = .ok (.iload 4, 2) := by decide +kernel
theorem dX7_link_68 : decode cX7_link 68 = .ok (.iaload, 1) := by decide +kernel
theorem dX7_link_69 : decode cX7_link 69 = .ok (.isub, 1) := by decide +kernel
theorem dX7_link_70 : decode cX7_link 70 = .ok (.istore 5, 2) := by decide +kernel
theorem dX7_link_72 : decode cX7_link 72 = .ok (.aload_n 0, 1) := by decide +kernel
theorem dX7_link_73 : decode cX7_link 73 = .ok (.getfield 7, 3) := by decide +kernel
theorem dX7_link_76 : decode cX7_link 76 = .ok (.iload 4, 2) := by decide +kernel
theorem dX7_link_78 : decode cX7_link 78 = .ok (.iconst 1, 1) := by decide +kernel
theorem dX7_link_79 : decode cX7_link 79 = .ok (.iload_n 3, 1) := by decide +kernel
theorem dX7_link_80 : decode cX7_link 80 = .ok (.isub, 1) := by decide +kernel
theorem dX7_link_81 : decode cX7_link 81 = .ok (.iastore, 1) := by decide +kernel
theorem dX7_link_82 : decode cX7_link 82 = .ok (.aload_n 0, 1) := by decide +kernel
theorem dX7_link_83 : decode cX7_link 83 = .ok (.invokevirtual 73, 3) := by decide +kernel
theorem dX7_link_86 : decode cX7_link 86 = .ok (.iload 5, 2) := by decide +kernel
theorem dX7_link_88 : decode cX7_link 88 = .ok (.ireturn, 1) := by decide +kernel
theorem dX7_forget_0 : decode cX7_forget 0 = .ok (.iconst 0, 1) := by decide +kernel
theorem dX7_forget_1 : decode cX7_forget 1 = .ok (.istore_n 1, 1) := by decide +kernel
theorem dX7_forget_2 : decode cX7_forget 2 = .ok (.iload_n 1, 1) := by decide +kernel
theorem dX7_forget_3 : decode cX7_forget 3 = .ok (.bipush 25, 2) := by decide +kernel
theorem dX7_forget_5 : decode cX7_forget 5 = .ok (.if_icmp .ge 16, 3) := by decide +kernel
theorem dX7_forget_8 : decode cX7_forget 8 = .ok (.aload_n 0, 1) := by decide +kernel
theorem dX7_forget_9 : decode cX7_forget 9 = .ok (.getfield 35, 3) := by decide +kernel
theorem dX7_forget_12 : decode cX7_forget 12 = .ok (.iload_n 1, 1) := by decide +kernel
theorem dX7_forget_13 : decode cX7_forget 13 = .ok (.iconst 0, 1) := by decide +kernel
theorem dX7_forget_14 : decode cX7_forget 14 = .ok (.bastore, 1) := by decide +kernel
theorem dX7_forget_15 : decode cX7_forget 15 = .ok (.iinc 1 1, 3) := by decide +kernel
theorem dX7_forget_18 : decode cX7_forget 18 = .ok (.goto (-16), 3) := by decide +kernel
theorem dX7_forget_21 : decode cX7_forget 21 = .ok (.return_, 1) := by decide +kernel
theorem dX7_apart_0 : decode cX7_apart 0 = .ok (.iload_n 1, 1) := by decide +kernel
theorem dX7_apart_1 : decode cX7_apart 1 = .ok (.aload_n 0, 1) := by decide +kernel
theorem dX7_apart_2 : decode cX7_apart 2 = .ok (.getfield 7, 3) := by decide +kernel
theorem dX7_apart_5 : decode cX7_apart 5 = .ok (.iconst 4, 1) := by decide +kernel
theorem dX7_apart_6 : decode cX7_apart 6 = .ok (.iaload, 1) := by decide +kernel
theorem dX7_apart_7 : decode cX7_apart 7 = .ok (.irem, 1) := by decide +kernel
theorem dX7_apart_8 : decode cX7_apart 8 = .ok (.iload_n 2, 1) := by decide +kernel
theorem dX7_apart_9 : decode cX7_apart 9 = .ok (.aload_n 0, 1) := by decide +kernel
theorem dX7_apart_10 : decode cX7_apart 10 = .ok (.getfield 7, 3) := by decide +kernel
theorem dX7_apart_13 : decode cX7_apart 13 = .ok (.iconst 4, 1) := by decide +kernel
theorem dX7_apart_14 : decode cX7_apart 14 = .ok (.iaload, 1) := by decide +kernel
theorem dX7_apart_15 : decode cX7_apart 15 = .ok (.irem, 1) := by decide +kernel
theorem dX7_apart_16 : decode cX7_apart 16 = .ok (.isub, 1) := by decide +kernel
theorem dX7_apart_17 : decode cX7_apart 17 = .ok (.istore_n 3, 1) := by decide +kernel
theorem dX7_apart_18 : decode cX7_apart 18 = .ok (.iload_n 1, 1) := by decide +kernel
theorem dX7_apart_19 : decode cX7_apart 19 = .ok (.aload_n 0, 1) := by decide +kernel
theorem dX7_apart_20 : decode cX7_apart 20 = .ok (.getfield 7, 3) := by decide +kernel
theorem dX7_apart_23 : decode cX7_apart 23 = .ok (.iconst 4, 1) := by decide +kernel
theorem dX7_apart_24 : decode cX7_apart 24 = .ok (.iaload, 1) := by decide +kernel
theorem dX7_apart_25 : decode cX7_apart 25 = .ok (.idiv, 1) := by decide +kernel
theorem dX7_apart_26 : decode cX7_apart 26 = .ok (.iload_n 2, 1) := by decide +kernel
theorem dX7_apart_27 : decode cX7_apart 27 = .ok (.aload_n 0, 1) := by decide +kernel
theorem dX7_apart_28 : decode cX7_apart 28 = .ok (.getfield 7, 3) := by decide +kernel
theorem dX7_apart_31 : decode cX7_apart 31 = .ok (.iconst 4, 1) := by decide +kernel
theorem dX7_apart_32 : decode cX7_apart 32 = .ok (.iaload, 1) := by decide +kernel
theorem dX7_apart_33 : decode cX7_apart 33 = .ok (.idiv, 1) := by decide +kernel
theorem dX7_apart_34 : decode cX7_apart 34 = .ok (.isub, 1) := by decide +kernel
theorem dX7_apart_35 : decode cX7_apart 35 = .ok (.istore 4, 2) := by decide +kernel
theorem dX7_apart_37 : decode cX7_apart 37 = .ok (.iload_n 3, 1) := by decide +kernel
theorem dX7_apart_38 : decode cX7_apart 38 = .ok (.ifCond .ge 8, 3) := by decide +kernel
theorem dX7_apart_41 : decode cX7_apart 41 = .ok (.iload_n 3, 1) := by decide +kernel
theorem dX7_apart_42 : decode cX7_apart 42 = .ok (.ineg, 1) := by decide +kernel
theorem dX7_apart_43 : decode cX7_apart 43 = .ok (.goto 4, 3) := by decide +kernel
theorem dX7_apart_46 : decode cX7_apart 46 = .ok (.iload_n 3, 1) := by decide +kernel
theorem dX7_apart_47 : decode cX7_apart 47 = .ok (.iload 4, 2) := by decide +kernel
theorem dX7_apart_49 : decode cX7_apart 49 = .ok (.ifCond .ge 9, 3) := by decide +kernel
theorem dX7_apart_52 : decode cX7_apart 52 = .ok (.iload 4, 2) := by decide +kernel
theorem dX7_apart_54 : decode cX7_apart 54 = .ok (.ineg, 1) := by decide +kernel
theorem dX7_apart_55 : decode cX7_apart 55 = .ok (.goto 5, 3) := by decide +kernel
theorem dX7_apart_58 : decode cX7_apart 58 = .ok (.iload 4, 2) := by decide +kernel
theorem dX7_apart_60 : decode cX7_apart 60 = .ok (.iadd, 1) := by decide +kernel
theorem dX7_apart_61 : decode cX7_apart 61 = .ok (.ireturn, 1) := by decide +kernel
theorem dX7_isDetour_0 : decode cX7_isDetour 0 = .ok (.aload_n 0, 1) := by decide +kernel
theorem dX7_isDetour_1 : decode cX7_isDetour 1 = .ok (.iload_n 2, 1) := by decide +kernel
theorem dX7_isDetour_2 : decode cX7_isDetour 2 = .ok (.iload_n 3, 1) := by decide +kernel
theorem dX7_isDetour_3 : decode cX7_isDetour 3 = .ok (.invokevirtual 80, 3) := by decide +kernel
theorem dX7_isDetour_6 : decode cX7_isDetour 6 = .ok (.aload_n 0, 1) := by decide +kernel
theorem dX7_isDetour_7 : decode cX7_isDetour 7 = .ok (.iload_n 1, 1) := by decide +kernel
theorem dX7_isDetour_8 : decode cX7_isDetour 8 = .ok (.iload_n 3, 1) := by decide +kernel
theorem dX7_isDetour_9 : decode cX7_isDetour 9 = .ok (.invokevirtual 80, 3) := by decide +kernel
theorem dX7_isDetour_12 : decode cX7_isDetour 12 = .ok (.if_icmp .lt 7, 3) := by decide +kernel
theorem dX7_isDetour_15 : decode cX7_isDetour 15 = .ok (.iconst 1, 1) := by decide +kernel
theorem dX7_isDetour_16 : decode cX7_isDetour 16 = .ok (.goto 4, 3) := by decide +kernel
theorem dX7_isDetour_19 : decode cX7_isDetour 19 = .ok (.iconst 0, 1) := by decide +kernel
theorem dX7_isDetour_20 : decode cX7_isDetour 20 = .ok (.ireturn, 1) := by decide +kernel
theorem dX7_moved_0 : decode cX7_moved 0 = .ok (.iload_n 1, 1) := by decide +kernel
theorem dX7_moved_1 : decode cX7_moved 1 = .ok (.bipush 10, 2) := by decide +kernel
theorem dX7_moved_3 : decode cX7_moved 3 = .ok (.idiv, 1) := by decide +kernel
theorem dX7_moved_4 : decode cX7_moved 4 = .ok (.istore 4, 2) := by decide +kernel
theorem dX7_moved_6 : decode cX7_moved 6 = .ok (.iload_n 1, 1) := by decide +kernel
theorem dX7_moved_7 : decode cX7_moved 7 = .ok (.iconst 5, 1) := by decide +kernel
theorem dX7_moved_8 : decode cX7_moved 8 = .ok (.idiv, 1) := by decide +kernel
theorem dX7_moved_9 : decode cX7_moved 9 = .ok (.iconst 2, 1) := by decide +kernel
theorem dX7_moved_10 : decode cX7_moved 10 = .ok (.irem, 1) := by decide +kernel
theorem dX7_moved_11 : decode cX7_moved 11 = .ok (.istore 5, 2) := by decide +kernel
theorem dX7_moved_13 : decode cX7_moved 13 = .ok (.iload_n 1, 1) := by decide +kernel
theorem dX7_moved_14 : decode cX7_moved 14 = .ok (.iconst 5, 1) := by decide +kernel
theorem dX7_moved_15 : decode cX7_moved 15 = .ok (.irem, 1) := by decide +kernel
theorem dX7_moved_16 : decode cX7_moved 16 = .ok (.istore 6, 2) := by decide +kernel
theorem dX7_moved_18 : decode cX7_moved 18 = .ok (.aload_n 0, 1) := by decide +kernel
theorem dX7_moved_19 : decode cX7_moved 19 = .ok (.iload 4, 2) := by decide +kernel
theorem dX7_moved_21 : decode cX7_moved 21 = .ok (.iload_n 2, 1) := by decide +kernel
theorem dX7_moved_22 : decode cX7_moved 22 = .ok (.invokevirtual 83, 3) := by decide +kernel
theorem dX7_moved_25 : decode cX7_moved 25 = .ok (.ifCond .eq 23, 3) := by decide +kernel
theorem dX7_moved_28 : decode cX7_moved 28 = .ok (.aload_n 0, 1) := by decide +kernel
theorem dX7_moved_29 : decode cX7_moved 29 = .ok (.getfield 7, 3) := by decide +kernel
theorem dX7_moved_32 : decode cX7_moved 32 = .ok (.iconst 0, 1) := by decide +kernel
theorem dX7_moved_33 : decode cX7_moved 33 = .ok (.iaload, 1) := by decide +kernel
theorem dX7_moved_34 : decode cX7_moved 34 = .ok (.iconst 1, 1) := by decide +kernel
theorem dX7_moved_35 : decode cX7_moved 35 = .ok (.if_icmp .ne 16, 3) := by decide +kernel
theorem dX7_moved_38 : decode cX7_moved 38 = .ok (.iload_n 2, 1) := by decide +kernel
theorem dX7_moved_39 : decode cX7_moved 39 = .ok (.ifCond .ne 12, 3) := by decide +kernel
theorem dX7_moved_42 : decode cX7_moved 42 = .ok (.iload 5, 2) := by decide +kernel
theorem dX7_moved_44 : decode cX7_moved 44 = .ok (.iconst 1, 1) := by decide +kernel
theorem dX7_moved_45 : decode cX7_moved 45 = .ok (.if_icmp .ne 6, 3) := by decide +kernel
theorem dX7_moved_48 : decode cX7_moved 48 = .ok (.bipush (-6), 2) := by decide +kernel
theorem dX7_moved_50 : decode cX7_moved 50 = .ok (.ireturn, 1) := by decide +kernel
theorem dX7_moved_51 : decode cX7_moved 51 = .ok (.aload_n 0, 1) := by decide +kernel
theorem dX7_moved_52 : decode cX7_moved 52 = .ok (.iload 4, 2) := by decide +kernel
theorem dX7_moved_54 : decode cX7_moved 54 = .ok (.iload_n 2, 1) := by decide +kernel
theorem dX7_moved_55 : decode cX7_moved 55 = .ok (.invokevirtual 63, 3) := by decide +kernel
theorem dX7_moved_58 : decode cX7_moved 58 = .ok (.istore 7, 2) := by decide +kernel
theorem dX7_moved_60 : decode cX7_moved 60 = .ok (.aload_n 0, 1) := by decide +kernel
theorem dX7_moved_61 : decode cX7_moved 61 = .ok (.iload 4, 2) := by decide +kernel
theorem dX7_moved_63 : decode cX7_moved 63 = .ok (.iload 7, 2) := by decide +kernel
theorem dX7_moved_65 : decode cX7_moved 65 = .ok (.iload_n 3, 1) := by decide +kernel
theorem dX7_moved_66 : decode cX7_moved 66 = .ok (.invokevirtual 87, 3) := by decide +kernel
theorem dX7_moved_69 : decode cX7_moved 69 = .ok (.istore 8, 2) := by decide +kernel
theorem dX7_moved_71 : decode cX7_moved 71 = .ok (.iload 8, 2) := by decide +kernel
theorem dX7_moved_73 : decode cX7_moved 73 = .ok (.ifCond .eq 17, 3) := by decide +kernel
theorem dX7_moved_76 : decode cX7_moved 76 = .ok (.iload 6, 2) := by decide +kernel
theorem dX7_moved_78 : decode cX7_moved 78 = .ok (.aload_n 0, 1) := by decide +kernel
theorem dX7_moved_79 : decode cX7_moved 79 = .ok (.getfield 7, 3) := by decide +kernel
theorem dX7_moved_82 : decode cX7_moved 82 = .ok (.iconst 1, 1) := by decide +kernel
theorem dX7_moved_83 : decode cX7_moved 83 = .ok (.iaload, 1) := by decide +kernel
theorem dX7_moved_84 : decode cX7_moved 84 = .ok (.if_icmp .lt 6, 3) := by decide +kernel
theorem dX7_moved_87 : decode cX7_moved 87 = .ok (.bipush (-6), 2) := by decide +kernel
theorem dX7_moved_89 : decode cX7_moved 89 = .ok (.ireturn, 1) := by decide +kernel
theorem dX7_moved_90 : decode cX7_moved 90 = .ok (.bipush 10, 2) := by decide +kernel
theorem dX7_moved_92 : decode cX7_moved 92 = .ok (.iload 7, 2) := by decide +kernel
theorem dX7_moved_94 : decode cX7_moved 94 = .ok (.imul, 1) := by decide +kernel
theorem dX7_moved_95 : decode cX7_moved 95 = .ok (.iconst 5, 1) := by decide +kernel
theorem dX7_moved_96 : decode cX7_moved 96 = .ok (.iload_n 2, 1) := by decide +kernel
theorem dX7_moved_97 : decode cX7_moved 97 = .ok (.ifCond .ne 8, 3) := by decide +kernel
theorem dX7_moved_100 : decode cX7_moved 100 = .ok (.iload 5, 2) := by decide +kernel
theorem dX7_moved_102 : decode cX7_moved 102 = .ok (.goto 4, 3) := by decide +kernel
theorem dX7_moved_105 : decode cX7_moved 105 = .ok (.iconst 1, 1) := by decide +kernel
theorem dX7_moved_106 : decode cX7_moved 106 = .ok (.imul, 1) := by decide +kernel
theorem dX7_moved_107 : decode cX7_moved 107 = .ok (.iadd, 1) := by decide +kernel
theorem dX7_moved_108 : decode cX7_moved 108 = .ok (.iload 6, 2) := by decide +kernel
theorem dX7_moved_110 : decode cX7_moved 110 = .ok (.iadd, 1) := by decide +kernel
theorem dX7_moved_111 : decode cX7_moved 111 = .ok (.iload 8, 2) := by decide +kernel
theorem dX7_moved_113 : decode cX7_moved 113 = .ok (.ifCond .eq 7, 3) := by decide +kernel
theorem dX7_moved_116 : decode cX7_moved 116 = .ok (.iconst 1, 1) := by decide +kernel
theorem dX7_moved_117 : decode cX7_moved 117 = .ok (.goto 4, 3) := by decide +kernel
theorem dX7_moved_120 : decode cX7_moved 120 = .ok (.iconst 0, 1) := by decide +kernel
theorem dX7_moved_121 : decode cX7_moved 121 = .ok (.iadd, 1) := by decide +kernel
theorem dX7_moved_122 : decode cX7_moved 122 = .ok (.ireturn, 1) := by decide +kernel
theorem dX7_layFar_0 : decode cX7_layFar 0 = .ok (.aload_n 0, 1) := by decide +kernel
theorem dX7_layFar_1 : decode cX7_layFar 1 = .ok (.getfield 35, 3) := by decide +kernel
theorem dX7_layFar_4 : decode cX7_layFar 4 = .ok (.iload_n 1, 1) := by decide +kernel
theorem dX7_layFar_5 : decode cX7_layFar 5 = .ok (.baload, 1) := by decide +kernel
theorem dX7_layFar_6 : decode cX7_layFar 6 = .ok (.ifCond .eq 4, 3) := by decide +kernel
theorem dX7_layFar_9 : decode cX7_layFar 9 = .ok (.return_, 1) := by decide +kernel
theorem dX7_layFar_10 : decode cX7_layFar 10 = .ok (.aload_n 0, 1) := by decide +kernel
theorem dX7_layFar_11 : decode cX7_layFar 11 = .ok (.getfield 35, 3) := by decide +kernel
theorem dX7_layFar_14 : decode cX7_layFar 14 = .ok (.iload_n 1, 1) := by decide +kernel
theorem dX7_layFar_15 : decode cX7_layFar 15 = .ok (.iconst 1, 1) := by decide +kernel
theorem dX7_layFar_16 : decode cX7_layFar 16 = .ok (.bastore, 1) := by decide +kernel
theorem dX7_layFar_17 : decode cX7_layFar 17 = .ok (.sipush 250, 3) := by decide +kernel
theorem dX7_layFar_20 : decode cX7_layFar 20 = .ok (.iload_n 1, 1) := by decide +kernel
theorem dX7_layFar_21 : decode cX7_layFar 21 = .ok (.imul, 1) := by decide +kernel
theorem dX7_layFar_22 : decode cX7_layFar 22 = .ok (.istore_n 2, 1) := by decide +kernel
theorem dX7_layFar_23 : decode cX7_layFar 23 = .ok (.bipush 10, 2) := by decide +kernel
theorem dX7_layFar_25 : decode cX7_layFar 25 = .ok (.aload_n 0, 1) := by decide +kernel
theorem dX7_layFar_26 : decode cX7_layFar 26 = .ok (.invokevirtual 55, 3) := by decide +kernel
theorem dX7_layFar_29 : decode cX7_layFar 29 = .ok (.imul, 1) := by decide +kernel
theorem dX7_layFar_30 : decode cX7_layFar 30 = .ok (.istore_n 3, 1) := by decide +kernel
theorem dX7_layFar_31 : decode cX7_layFar 31 = .ok (.iconst 0, 1) := by decide +kernel
theorem dX7_layFar_32 : decode cX7_layFar 32 = .ok (.istore 4, 2) := by decide +kernel
theorem dX7_layFar_34 : decode cX7_layFar 34 = .ok (.iload 4, 2) := by decide +kernel
theorem dX7_layFar_36 : decode cX7_layFar 36 = .ok (.iload_n 3, 1) := by decide +kernel
theorem dX7_layFar_37 : decode cX7_layFar 37 = .ok (.if_icmp .ge 56, 3) := by decide +kernel
theorem dX7_layFar_40 : decode cX7_layFar 40 = .ok (.aload_n 0, 1) := by decide +kernel
theorem dX7_layFar_41 : decode cX7_layFar 41 = .ok (.getfield 29, 3) := by decide +kernel
theorem dX7_layFar_44 : decode cX7_layFar 44 = .ok (.iload_n 2, 1) := by decide +kernel
theorem dX7_layFar_45 : decode cX7_layFar 45 = .ok (.iload 4, 2) := by decide +kernel
theorem dX7_layFar_47 : decode cX7_layFar 47 = .ok (.iadd, 1) := by decide +kernel
theorem dX7_layFar_48 : decode cX7_layFar 48 = .ok (.iload 4, 2) := by decide +kernel
theorem dX7_layFar_50 : decode cX7_layFar 50 = .ok (.bipush 10, 2) := by decide +kernel
theorem dX7_layFar_52 : decode cX7_layFar 52 = .ok (.idiv, 1) := by decide +kernel
theorem dX7_layFar_53 : decode cX7_layFar 53 = .ok (.iload_n 1, 1) := by decide +kernel
theorem dX7_layFar_54 : decode cX7_layFar 54 = .ok (.if_icmp .ne 7, 3) := by decide +kernel
theorem dX7_layFar_57 : decode cX7_layFar 57 = .ok (.iconst 0, 1) := by decide +kernel
theorem dX7_layFar_58 : decode cX7_layFar 58 = .ok (.goto 5, 3) := by decide +kernel
theorem dX7_layFar_61 : decode cX7_layFar 61 = .ok (.bipush (-6), 2) := by decide +kernel
theorem dX7_layFar_63 : decode cX7_layFar 63 = .ok (.iastore, 1) := by decide +kernel
theorem dX7_layFar_64 : decode cX7_layFar 64 = .ok (.aload_n 0, 1) := by decide +kernel
theorem dX7_layFar_65 : decode cX7_layFar 65 = .ok (.getfield 32, 3) := by decide +kernel
theorem dX7_layFar_68 : decode cX7_layFar 68 = .ok (.iload_n 2, 1) := by decide +kernel
theorem dX7_layFar_69 : decode cX7_layFar 69 = .ok (.iload 4, 2) := by decide +kernel
theorem dX7_layFar_71 : decode cX7_layFar 71 = .ok (.iadd, 1) := by decide +kernel
theorem dX7_layFar_72 : decode cX7_layFar 72 = .ok (.iload 4, 2) := by decide +kernel
theorem dX7_layFar_74 : decode cX7_layFar 74 = .ok (.bipush 10, 2) := by decide +kernel
theorem dX7_layFar_76 : decode cX7_layFar 76 = .ok (.idiv, 1) := by decide +kernel
theorem dX7_layFar_77 : decode cX7_layFar 77 = .ok (.iload_n 1, 1) := by decide +kernel
theorem dX7_layFar_78 : decode cX7_layFar 78 = .ok (.if_icmp .ne 7, 3) := by decide +kernel
theorem dX7_layFar_81 : decode cX7_layFar 81 = .ok (.iconst 1, 1) := by decide +kernel
theorem dX7_layFar_82 : decode cX7_layFar 82 = .ok (.goto 4, 3) := by decide +kernel
theorem dX7_layFar_85 : decode cX7_layFar 85 = .ok (.iconst 0, 1) := by decide +kernel
theorem dX7_layFar_86 : decode cX7_layFar 86 = .ok (.iastore, 1) := by decide +kernel
theorem dX7_layFar_87 : decode cX7_layFar 87 = .ok (.iinc 4 1, 3) := by decide +kernel
theorem dX7_layFar_90 : decode cX7_layFar 90 = .ok (.goto (-56), 3) := by decide +kernel
theorem dX7_layFar_93 : decode cX7_layFar 93 = .ok (.iconst 1, 1) := by decide +kernel
theorem dX7_layFar_94 : decode cX7_layFar 94 = .ok (.istore 4, 2) := by decide +kernel
theorem dX7_layFar_96 : decode cX7_layFar 96 = .ok (.iconst 1, 1) := by decide +kernel
theorem dX7_layFar_97 : decode cX7_layFar 97 = .ok (.istore 5, 2) := by decide +kernel
theorem dX7_layFar_99 : decode cX7_layFar 99 = .ok (.iload 4, 2) := by decide +kernel
theorem dX7_layFar_101 : decode cX7_layFar 101 = .ok (.ifCond .eq 139, 3) := by decide +kernel
theorem dX7_layFar_104 : decode cX7_layFar 104 = .ok (.iconst 0, 1) := by decide +kernel
theorem dX7_layFar_105 : decode cX7_layFar 105 = .ok (.istore 4, 2) := by decide +kernel
theorem dX7_layFar_107 : decode cX7_layFar 107 = .ok (.iconst 0, 1) := by decide +kernel
theorem dX7_layFar_108 : decode cX7_layFar 108 = .ok (.istore 6, 2) := by decide +kernel
theorem dX7_layFar_110 : decode cX7_layFar 110 = .ok (.iload 6, 2) := by decide +kernel
theorem dX7_layFar_112 : decode cX7_layFar 112 = .ok (.iload_n 3, 1) := by decide +kernel
theorem dX7_layFar_113 : decode cX7_layFar 113 = .ok (.if_icmp .ge 121, 3) := by decide +kernel
theorem dX7_layFar_116 : decode cX7_layFar 116 = .ok (.aload_n 0, 1) := by decide +kernel
theorem dX7_layFar_117 : decode cX7_layFar 117 = .ok (.getfield 29, 3) := by decide +kernel
theorem dX7_layFar_120 : decode cX7_layFar 120 = .ok (.iload_n 2, 1) := by decide +kernel
theorem dX7_layFar_121 : decode cX7_layFar 121 = .ok (.iload 6, 2) := by decide +kernel
theorem dX7_layFar_123 : decode cX7_layFar 123 = .ok (.iadd, 1) := by decide +kernel
theorem dX7_layFar_124 : decode cX7_layFar 124 = .ok (.iaload, 1) := by decide +kernel
theorem dX7_layFar_125 : decode cX7_layFar 125 = .ok (.bipush (-6), 2) := by decide +kernel
theorem dX7_layFar_127 : decode cX7_layFar 127 = .ok (.if_icmp .ne 101, 3) := by decide +kernel
theorem dX7_layFar_130 : decode cX7_layFar 130 = .ok (.iconst 0, 1) := by decide +kernel
theorem dX7_layFar_131 : decode cX7_layFar 131 = .ok (.istore 7, 2) := by decide +kernel
theorem dX7_layFar_133 : decode cX7_layFar 133 = .ok (.iconst 0, 1) := by decide +kernel
theorem dX7_layFar_134 : decode cX7_layFar 134 = .ok (.istore 8, 2) := by decide +kernel
theorem dX7_layFar_136 : decode cX7_layFar 136 = .ok (.iload 8, 2) := by decide +kernel
theorem dX7_layFar_138 : decode cX7_layFar 138 = .ok (.iconst 4, 1) := by decide +kernel
theorem dX7_layFar_139 : decode cX7_layFar 139 = .ok (.if_icmp .ge 59, 3) := by decide +kernel
theorem dX7_layFar_142 : decode cX7_layFar 142 = .ok (.aload_n 0, 1) := by decide +kernel
theorem dX7_layFar_143 : decode cX7_layFar 143 = .ok (.iload 6, 2) := by decide +kernel
theorem dX7_layFar_145 : decode cX7_layFar 145 = .ok (.iload 8, 2) := by decide +kernel
theorem dX7_layFar_147 : decode cX7_layFar 147 = .ok (.iload_n 1, 1) := by decide +kernel
theorem dX7_layFar_148 : decode cX7_layFar 148 = .ok (.invokevirtual 90, 3) := by decide +kernel
theorem dX7_layFar_151 : decode cX7_layFar 151 = .ok (.istore 9, 2) := by decide +kernel
theorem dX7_layFar_153 : decode cX7_layFar 153 = .ok (.iload 7, 2) := by decide +kernel
theorem dX7_layFar_155 : decode cX7_layFar 155 = .ok (.iload 9, 2) := by decide +kernel
theorem dX7_layFar_157 : decode cX7_layFar 157 = .ok (.ifCond .lt 31, 3) := by decide +kernel
theorem dX7_layFar_160 : decode cX7_layFar 160 = .ok (.aload_n 0, 1) := by decide +kernel
theorem dX7_layFar_161 : decode cX7_layFar 161 = .ok (.getfield 29, 3) := by decide +kernel
theorem dX7_layFar_164 : decode cX7_layFar 164 = .ok (.iload_n 2, 1) := by decide +kernel
theorem dX7_layFar_165 : decode cX7_layFar 165 = .ok (.iload 9, 2) := by decide +kernel
theorem dX7_layFar_167 : decode cX7_layFar 167 = .ok (.iadd, 1) := by decide +kernel
theorem dX7_layFar_168 : decode cX7_layFar 168 = .ok (.iaload, 1) := by decide +kernel
theorem dX7_layFar_169 : decode cX7_layFar 169 = .ok (.iload 5, 2) := by decide +kernel
theorem dX7_layFar_171 : decode cX7_layFar 171 = .ok (.iconst 1, 1) := by decide +kernel
theorem dX7_layFar_172 : decode cX7_layFar 172 = .ok (.isub, 1) := by decide +kernel
theorem dX7_layFar_173 : decode cX7_layFar 173 = .ok (.if_icmp .ne 15, 3) := by decide +kernel
theorem dX7_layFar_176 : decode cX7_layFar 176 = .ok (.aload_n 0, 1) := by decide +kernel
theorem dX7_layFar_177 : decode cX7_layFar 177 = .ok (.getfield 32, 3) := by decide +kernel
theorem dX7_layFar_180 : decode cX7_layFar 180 = .ok (.iload_n 2, 1) := by decide +kernel
theorem dX7_layFar_181 : decode cX7_layFar 181 = .ok (.iload 9, 2) := by decide +kernel
theorem dX7_layFar_183 : decode cX7_layFar 183 = .ok (.iadd, 1) := by decide +kernel
theorem dX7_layFar_184 : decode cX7_layFar 184 = .ok (.iaload, 1) := by decide +kernel
theorem dX7_layFar_185 : decode cX7_layFar 185 = .ok (.goto 4, 3) := by decide +kernel
theorem dX7_layFar_188 : decode cX7_layFar 188 = .ok (.iconst 0, 1) := by decide +kernel
theorem dX7_layFar_189 : decode cX7_layFar 189 = .ok (.iadd, 1) := by decide +kernel
theorem dX7_layFar_190 : decode cX7_layFar 190 = .ok (.istore 7, 2) := by decide +kernel
theorem dX7_layFar_192 : decode cX7_layFar 192 = .ok (.iinc 8 1, 3) := by decide +kernel
theorem dX7_layFar_195 : decode cX7_layFar 195 = .ok (.goto (-59), 3) := by decide +kernel
theorem dX7_layFar_198 : decode cX7_layFar 198 = .ok (.iload 7, 2) := by decide +kernel
theorem dX7_layFar_200 : decode cX7_layFar 200 = .ok (.ifCond .le 28, 3) := by decide +kernel
theorem dX7_layFar_203 : decode cX7_layFar 203 = .ok (.aload_n 0, 1) := by decide +kernel
theorem dX7_layFar_204 : decode cX7_layFar 204 = .ok (.getfield 29, 3) := by decide +kernel
theorem dX7_layFar_207 : decode cX7_layFar 207 = .ok (.iload_n 2, 1) := by decide +kernel
theorem dX7_layFar_208 : decode cX7_layFar 208 = .ok (.iload 6, 2) := by decide +kernel
theorem dX7_layFar_210 : decode cX7_layFar 210 = .ok (.iadd, 1) := by decide +kernel
theorem dX7_layFar_211 : decode cX7_layFar 211 = .ok (.iload 5, 2) := by decide +kernel
theorem dX7_layFar_213 : decode cX7_layFar 213 = .ok (.iastore, 1) := by decide +kernel
theorem dX7_layFar_214 : decode cX7_layFar 214 = .ok (.aload_n 0, 1) := by decide +kernel
theorem dX7_layFar_215 : decode cX7_layFar 215 = .ok (.getfield 32, 3) := by decide +kernel
theorem dX7_layFar_218 : decode cX7_layFar 218 = .ok (.iload_n 2, 1) := by decide +kernel
theorem dX7_layFar_219 : decode cX7_layFar 219 = .ok (.iload 6, 2) := by decide +kernel
theorem dX7_layFar_221 : decode cX7_layFar 221 = .ok (.iadd, 1) := by decide +kernel
theorem dX7_layFar_222 : decode cX7_layFar 222 = .ok (.iload 7, 2) := by decide +kernel
theorem dX7_layFar_224 : decode cX7_layFar 224 = .ok (.iastore, 1) := by decide +kernel
theorem dX7_layFar_225 : decode cX7_layFar 225 = .ok (.iconst 1, 1) := by decide +kernel
theorem dX7_layFar_226 : decode cX7_layFar 226 = .ok (.istore 4, 2) := by decide +kernel
theorem dX7_layFar_228 : decode cX7_layFar 228 = .ok (.iinc 6 1, 3) := by decide +kernel
theorem dX7_layFar_231 : decode cX7_layFar 231 = .ok (.goto (-121), 3) := by decide +kernel
theorem dX7_layFar_234 : decode cX7_layFar 234 = .ok (.iinc 5 1, 3) := by decide +kernel
theorem dX7_layFar_237 : decode cX7_layFar 237 = .ok (.goto (-138), 3) := by decide +kernel
theorem dX7_layFar_240 : decode cX7_layFar 240 = .ok (.return_, 1) := by decide +kernel
theorem dX7_farOf_0 : decode cX7_farOf 0 = .ok (.aload_n 0, 1) := by decide +kernel
theorem dX7_farOf_1 : decode cX7_farOf 1 = .ok (.iload_n 2, 1) := by decide +kernel
theorem dX7_farOf_2 : decode cX7_farOf 2 = .ok (.invokevirtual 94, 3) := by decide +kernel
theorem dX7_farOf_5 : decode cX7_farOf 5 = .ok (.aload_n 0, 1) := by decide +kernel
theorem dX7_farOf_6 : decode cX7_farOf 6 = .ok (.getfield 29, 3) := by decide +kernel
theorem dX7_farOf_9 : decode cX7_farOf 9 = .ok (.sipush 250, 3) := by decide +kernel
theorem dX7_farOf_12 : decode cX7_farOf 12 = .ok (.iload_n 2, 1) := by decide +kernel
theorem dX7_farOf_13 : decode cX7_farOf 13 = .ok (.imul, 1) := by decide +kernel
theorem dX7_farOf_14 : decode cX7_farOf 14 = .ok (.iload_n 1, 1) := by decide +kernel
theorem dX7_farOf_15 : decode cX7_farOf 15 = .ok (.iadd, 1) := by decide +kernel
theorem dX7_farOf_16 : decode cX7_farOf 16 = .ok (.iaload, 1) := by decide +kernel
theorem dX7_farOf_17 : decode cX7_farOf 17 = .ok (.ireturn, 1) := by decide +kernel
theorem dX7_isPacket_0 : decode cX7_isPacket 0 = .ok (.iload_n 1, 1) := by decide +kernel
theorem dX7_isPacket_1 : decode cX7_isPacket 1 = .ok (.iconst 0, 1) := by decide +kernel
theorem dX7_isPacket_2 : decode cX7_isPacket 2 = .ok (.aload_n 0, 1) := by decide +kernel
theorem dX7_isPacket_3 : decode cX7_isPacket 3 = .ok (.getfield 7, 3) := by decide +kernel
theorem dX7_isPacket_6 : decode cX7_isPacket 6 = .ok (.bipush 6, 2) := by decide +kernel
theorem dX7_isPacket_8 : decode cX7_isPacket 8 = .ok (.iaload, 1) := by decide +kernel
theorem dX7_isPacket_9 : decode cX7_isPacket 9 = .ok (.iconst 1, 1) := by decide +kernel
theorem dX7_isPacket_10 : decode cX7_isPacket 10 = .ok (.isub, 1) := by decide +kernel
theorem dX7_isPacket_11 : decode cX7_isPacket 11 = .ok (.invokestatic 59, 3) := by decide +kernel
theorem dX7_isPacket_14 : decode cX7_isPacket 14 = .ok (.ireturn, 1) := by decide +kernel
theorem dX7_of_0 : decode cX7_of 0 = .ok (.aload_n 0, 1) := by decide +kernel
theorem dX7_of_1 : decode cX7_of 1 = .ok (.getfield 7, 3) := by decide +kernel
theorem dX7_of_4 : decode cX7_of 4 = .ok (.sipush 160, 3) := by decide +kernel
theorem dX7_of_7 : decode cX7_of 7 = .ok (.bipush 10, 2) := by decide +kernel
theorem dX7_of_9 : decode cX7_of 9 = .ok (.iload_n 1, 1) := by decide +kernel
theorem dX7_of_10 : decode cX7_of 10 = .ok (.imul, 1) := by decide +kernel
theorem dX7_of_11 : decode cX7_of 11 = .ok (.iadd, 1) := by decide +kernel
theorem dX7_of_12 : decode cX7_of 12 = .ok (.iload_n 2, 1) := by decide +kernel
theorem dX7_of_13 : decode cX7_of 13 = .ok (.iadd, 1) := by decide +kernel
theorem dX7_of_14 : decode cX7_of 14 = .ok (.iaload, 1) := by decide +kernel
theorem dX7_of_15 : decode cX7_of 15 = .ok (.ireturn, 1) := by decide +kernel
theorem dX7_book_0 : decode cX7_book 0 = .ok (.aload_n 0, 1) := by decide +kernel
theorem dX7_book_1 : decode cX7_book 1 = .ok (.getfield 7, 3) := by decide +kernel
theorem dX7_book_4 : decode cX7_book 4 = .ok (.sipush 160, 3) := by decide +kernel
theorem dX7_book_7 : decode cX7_book 7 = .ok (.bipush 10, 2) := by decide +kernel
theorem dX7_book_9 : decode cX7_book 9 = .ok (.iload_n 1, 1) := by decide +kernel
theorem dX7_book_10 : decode cX7_book 10 = .ok (.imul, 1) := by decide +kernel
theorem dX7_book_11 : decode cX7_book 11 = .ok (.iadd, 1) := by decide +kernel
theorem dX7_book_12 : decode cX7_book 12 = .ok (.iload_n 2, 1) := by decide +kernel
theorem dX7_book_13 : decode cX7_book 13 = .ok (.iadd, 1) := by decide +kernel
theorem dX7_book_14 : decode cX7_book 14 = .ok (.iload_n 3, 1) := by decide +kernel
theorem dX7_book_15 : decode cX7_book 15 = .ok (.iastore, 1) := by decide +kernel
theorem dX7_book_16 : decode cX7_book 16 = .ok (.return_, 1) := by decide +kernel
theorem dX7_standing_0 : decode cX7_standing 0 = .ok (.bipush 10, 2) := by decide +kernel
theorem dX7_standing_2 : decode cX7_standing 2 = .ok (.aload_n 0, 1) := by decide +kernel
theorem dX7_standing_3 : decode cX7_standing 3 = .ok (.iload_n 1, 1) := by decide +kernel
theorem dX7_standing_4 : decode cX7_standing 4 = .ok (.iconst 3, 1) := by decide +kernel
theorem dX7_standing_5 : decode cX7_standing 5 = .ok (.invokevirtual 98, 3) := by decide +kernel
theorem dX7_standing_8 : decode cX7_standing 8 = .ok (.imul, 1) := by decide +kernel
theorem dX7_standing_9 : decode cX7_standing 9 = .ok (.iconst 5, 1) := by decide +kernel
theorem dX7_standing_10 : decode cX7_standing 10 = .ok (.aload_n 0, 1) := by decide +kernel
theorem dX7_standing_11 : decode cX7_standing 11 = .ok (.iload_n 1, 1) := by decide +kernel
theorem dX7_standing_12 : decode cX7_standing 12 = .ok (.bipush 9, 2) := by decide +kernel
theorem dX7_standing_14 : decode cX7_standing 14 = .ok (.invokevirtual 98, 3) := by decide +kernel
theorem dX7_standing_17 : decode cX7_standing 17 = .ok (.imul, 1) := by decide +kernel
theorem dX7_standing_18 : decode cX7_standing 18 = .ok (.iadd, 1) := by decide +kernel
theorem dX7_standing_19 : decode cX7_standing 19 = .ok (.aload_n 0, 1) := by decide +kernel
theorem dX7_standing_20 : decode cX7_standing 20 = .ok (.iload_n 1, 1) := by decide +kernel
theorem dX7_standing_21 : decode cX7_standing 21 = .ok (.iconst 5, 1) := by decide +kernel
theorem dX7_standing_22 : decode cX7_standing 22 = .ok (.invokevirtual 98, 3) := by decide +kernel
theorem dX7_standing_25 : decode cX7_standing 25 = .ok (.iadd, 1) := by decide +kernel
theorem dX7_standing_26 : decode cX7_standing 26 = .ok (.ireturn, 1) := by decide +kernel
theorem dX7_lengthOf_0 : decode cX7_lengthOf 0 = .ok (.aload_n 0, 1) := by decide +kernel
theorem dX7_lengthOf_1 : decode cX7_lengthOf 1 = .ok (.aload_n 0, 1) := by decide +kernel
theorem dX7_lengthOf_2 : decode cX7_lengthOf 2 = .ok (.iload_n 1, 1) := by decide +kernel
theorem dX7_lengthOf_3 : decode cX7_lengthOf 3 = .ok (.invokevirtual 101, 3) := by decide +kernel
theorem dX7_lengthOf_6 : decode cX7_lengthOf 6 = .ok (.aload_n 0, 1) := by decide +kernel
theorem dX7_lengthOf_7 : decode cX7_lengthOf 7 = .ok (.iload_n 1, 1) := by decide +kernel
theorem dX7_lengthOf_8 : decode cX7_lengthOf 8 = .ok (.iconst 1, 1) := by decide +kernel
theorem dX7_lengthOf_9 : decode cX7_lengthOf 9 = .ok (.invokevirtual 98, 3) := by decide +kernel
theorem dX7_lengthOf_12 : decode cX7_lengthOf 12 = .ok (.invokevirtual 105, 3) := by decide +kernel
theorem dX7_lengthOf_15 : decode cX7_lengthOf 15 = .ok (.ireturn, 1) := by decide +kernel
theorem dX7_laySides_0 : decode cX7_laySides 0 = .ok (.iconst 0, 1) := by decide +kernel
theorem dX7_laySides_1 : decode cX7_laySides 1 = .ok (.istore_n 2, 1) := by decide +kernel
theorem dX7_laySides_2 : decode cX7_laySides 2 = .ok (.aload_n 0, 1) := by decide +kernel
theorem dX7_laySides_3 : decode cX7_laySides 3 = .ok (.iload_n 1, 1) := by decide +kernel
theorem dX7_laySides_4 : decode cX7_laySides 4 = .ok (.iconst 1, 1) := by decide +kernel
theorem dX7_laySides_5 : decode cX7_laySides 5 = .ok (.invokevirtual 98, 3) := by decide +kernel
theorem dX7_laySides_8 : decode cX7_laySides 8 = .ok (.istore_n 3, 1) := by decide +kernel
theorem dX7_laySides_9 : decode cX7_laySides 9 = .ok (.aload_n 0, 1) := by decide +kernel
theorem dX7_laySides_10 : decode cX7_laySides 10 = .ok (.iload_n 1, 1) := by decide +kernel
theorem dX7_laySides_11 : decode cX7_laySides 11 = .ok (.invokevirtual 101, 3) := by decide +kernel
theorem dX7_laySides_14 : decode cX7_laySides 14 = .ok (.istore 4, 2) := by decide +kernel
theorem dX7_laySides_16 : decode cX7_laySides 16 = .ok (.iconst 0, 1) := by decide +kernel
theorem dX7_laySides_17 : decode cX7_laySides 17 = .ok (.istore 5, 2) := by decide +kernel
theorem dX7_laySides_19 : decode cX7_laySides 19 = .ok (.iload 5, 2) := by decide +kernel
theorem dX7_laySides_21 : decode cX7_laySides 21 = .ok (.iconst 4, 1) := by decide +kernel
theorem dX7_laySides_22 : decode cX7_laySides 22 = .ok (.if_icmp .ge 108, 3) := by decide +kernel
theorem dX7_laySides_25 : decode cX7_laySides 25 = .ok (.aload_n 0, 1) := by decide +kernel
theorem dX7_laySides_26 : decode cX7_laySides 26 = .ok (.iload 4, 2) := by decide +kernel
theorem dX7_laySides_28 : decode cX7_laySides 28 = .ok (.iload 5, 2) := by decide +kernel
theorem dX7_laySides_30 : decode cX7_laySides 30 = .ok (.iload_n 3, 1) := by decide +kernel
theorem dX7_laySides_31 : decode cX7_laySides 31 = .ok (.invokevirtual 90, 3) := by decide +kernel
theorem dX7_laySides_34 : decode cX7_laySides 34 = .ok (.istore 6, 2) := by decide +kernel
theorem dX7_laySides_36 : decode cX7_laySides 36 = .ok (.iload 6, 2) := by decide +kernel
theorem dX7_laySides_38 : decode cX7_laySides 38 = .ok (.ifCond .lt 86, 3) := by decide +kernel
theorem dX7_laySides_41 : decode cX7_laySides 41 = .ok (.aload_n 0, 1) := by decide +kernel
theorem dX7_laySides_42 : decode cX7_laySides 42 = .ok (.iload 6, 2) := by decide +kernel
theorem dX7_laySides_44 : decode cX7_laySides 44 = .ok (.iload_n 3, 1) := by decide +kernel
theorem dX7_laySides_45 : decode cX7_laySides 45 = .ok (.invokevirtual 105, 3) := by decide +kernel
theorem dX7_laySides_48 : decode cX7_laySides 48 = .ok (.ifCond .lt 76, 3) := by decide +kernel
theorem dX7_laySides_51 : decode cX7_laySides 51 = .ok (.iload_n 2, 1) := by decide +kernel
theorem dX7_laySides_52 : decode cX7_laySides 52 = .ok (.istore 7, 2) := by decide +kernel
theorem dX7_laySides_54 : decode cX7_laySides 54 = .ok (.iload 7, 2) := by decide +kernel
theorem dX7_laySides_56 : decode cX7_laySides 56 = .ok (.ifCond .le 56, 3) := by decide +kernel
theorem dX7_laySides_59 : decode cX7_laySides 59 = .ok (.aload_n 0, 1) := by decide +kernel
theorem dX7_laySides_60 : decode cX7_laySides 60 = .ok (.aload_n 0, 1) := by decide +kernel
theorem dX7_laySides_61 : decode cX7_laySides 61 = .ok (.iload 4, 2) := by decide +kernel
theorem dX7_laySides_63 : decode cX7_laySides 63 = .ok (.aload_n 0, 1) := by decide +kernel
theorem dX7_laySides_64 : decode cX7_laySides 64 = .ok (.getfield 38, 3) := by decide +kernel
theorem dX7_laySides_67 : decode cX7_laySides 67 = .ok (.iload 7, 2) := by decide +kernel
theorem dX7_laySides_69 : decode cX7_laySides 69 = .ok (.iconst 1, 1) := by decide +kernel
theorem dX7_laySides_70 : decode cX7_laySides 70 = .ok (.isub, 1) := by decide +kernel
theorem dX7_laySides_71 : decode cX7_laySides 71 = .ok (.iaload, 1) := by decide +kernel
theorem dX7_laySides_72 : decode cX7_laySides 72 = .ok (.iload_n 3, 1) := by decide +kernel
theorem dX7_laySides_73 : decode cX7_laySides 73 = .ok (.invokevirtual 90, 3) := by decide +kernel
theorem dX7_laySides_76 : decode cX7_laySides 76 = .ok (.iload_n 3, 1) := by decide +kernel
theorem dX7_laySides_77 : decode cX7_laySides 77 = .ok (.invokevirtual 105, 3) := by decide +kernel
theorem dX7_laySides_80 : decode cX7_laySides 80 = .ok (.aload_n 0, 1) := by decide +kernel
theorem dX7_laySides_81 : decode cX7_laySides 81 = .ok (.iload 6, 2) := by decide +kernel
theorem dX7_laySides_83 : decode cX7_laySides 83 = .ok (.iload_n 3, 1) := by decide +kernel
theorem dX7_laySides_84 : decode cX7_laySides 84 = .ok (.invokevirtual 105, 3) := by decide +kernel
theorem dX7_laySides_87 : decode cX7_laySides 87 = .ok (.if_icmp .le 25, 3) := by decide +kernel
theorem dX7_laySides_90 : decode cX7_laySides 90 = .ok (.aload_n 0, 1) := by decide +kernel
theorem dX7_laySides_91 : decode cX7_laySides 91 = .ok (.getfield 38, 3) := by decide +kernel
theorem dX7_laySides_94 : decode cX7_laySides 94 = .ok (.iload 7, 2) := by decide +kernel
theorem dX7_laySides_96 : decode cX7_laySides 96 = .ok (.aload_n 0, 1) := by decide +kernel
theorem dX7_laySides_97 : decode cX7_laySides 97 = .ok (.getfield 38, 3) := by decide +kernel
theorem dX7_laySides_100 : decode cX7_laySides 100 = .ok (.iload 7, 2) := by decide +kernel
theorem dX7_laySides_102 : decode cX7_laySides 102 = .ok (.iconst 1, 1) := by decide +kernel
theorem dX7_laySides_103 : decode cX7_laySides 103 = .ok (.isub, 1) := by decide +kernel
theorem dX7_laySides_104 : decode cX7_laySides 104 = .ok (.iaload, 1) := by decide +kernel
theorem dX7_laySides_105 : decode cX7_laySides 105 = .ok (.iastore, 1) := by decide +kernel
theorem dX7_laySides_106 : decode cX7_laySides 106 = .ok (.iinc 7 (-1), 3) := by decide +kernel
theorem dX7_laySides_109 : decode cX7_laySides 109 = .ok (.goto (-55), 3) := by decide +kernel
theorem dX7_laySides_112 : decode cX7_laySides 112 = .ok (.aload_n 0, 1) := by decide +kernel
theorem dX7_laySides_113 : decode cX7_laySides 113 = .ok (.getfield 38, 3) := by decide +kernel
theorem dX7_laySides_116 : decode cX7_laySides 116 = .ok (.iload 7, 2) := by decide +kernel
theorem dX7_laySides_118 : decode cX7_laySides 118 = .ok (.iload 5, 2) := by decide +kernel
theorem dX7_laySides_120 : decode cX7_laySides 120 = .ok (.iastore, 1) := by decide +kernel
theorem dX7_laySides_121 : decode cX7_laySides 121 = .ok (.iinc 2 1, 3) := by decide +kernel
theorem dX7_laySides_124 : decode cX7_laySides 124 = .ok (.iinc 5 1, 3) := by decide +kernel
theorem dX7_laySides_127 : decode cX7_laySides 127 = .ok (.goto (-108), 3) := by decide +kernel
theorem dX7_laySides_130 : decode cX7_laySides 130 = .ok (.iload_n 2, 1) := by decide +kernel
theorem dX7_laySides_131 : decode cX7_laySides 131 = .ok (.ireturn, 1) := by decide +kernel
theorem dX7_insideOf_0 : decode cX7_insideOf 0 = .ok (.iconst 0, 1) := by decide +kernel
theorem dX7_insideOf_1 : decode cX7_insideOf 1 = .ok (.istore_n 2, 1) := by decide +kernel
theorem dX7_insideOf_2 : decode cX7_insideOf 2 = .ok (.iconst 0, 1) := by decide +kernel
theorem dX7_insideOf_3 : decode cX7_insideOf 3 = .ok (.istore_n 3, 1) := by decide +kernel
theorem dX7_insideOf_4 : decode cX7_insideOf 4 = .ok (.iload_n 3, 1) := by decide +kernel
theorem dX7_insideOf_5 : decode cX7_insideOf 5 = .ok (.aload_n 0, 1) := by decide +kernel
theorem dX7_insideOf_6 : decode cX7_insideOf 6 = .ok (.getfield 7, 3) := by decide +kernel
theorem dX7_insideOf_9 : decode cX7_insideOf 9 = .ok (.bipush 6, 2) := by decide +kernel
theorem dX7_insideOf_11 : decode cX7_insideOf 11 = .ok (.iaload, 1) := by decide +kernel
theorem dX7_insideOf_12 : decode cX7_insideOf 12 = .ok (.if_icmp .ge 37, 3) := by decide +kernel
theorem dX7_insideOf_15 : decode cX7_insideOf 15 = .ok (.iload_n 2, 1) := by decide +kernel
theorem dX7_insideOf_16 : decode cX7_insideOf 16 = .ok (.aload_n 0, 1) := by decide +kernel
theorem dX7_insideOf_17 : decode cX7_insideOf 17 = .ok (.iload_n 3, 1) := by decide +kernel
theorem dX7_insideOf_18 : decode cX7_insideOf 18 = .ok (.iconst 2, 1) := by decide +kernel
theorem dX7_insideOf_19 : decode cX7_insideOf 19 = .ok (.invokevirtual 98, 3) := by decide +kernel
theorem dX7_insideOf_22 : decode cX7_insideOf 22 = .ok (.iconst 1, 1) := by decide +kernel
theorem dX7_insideOf_23 : decode cX7_insideOf 23 = .ok (.if_icmp .ne 17, 3) := by decide +kernel
theorem dX7_insideOf_26 : decode cX7_insideOf 26 = .ok (.aload_n 0, 1) := by decide +kernel
theorem dX7_insideOf_27 : decode cX7_insideOf 27 = .ok (.iload_n 3, 1) := by decide +kernel
theorem dX7_insideOf_28 : decode cX7_insideOf 28 = .ok (.iconst 3, 1) := by decide +kernel
theorem dX7_insideOf_29 : decode cX7_insideOf 29 = .ok (.invokevirtual 98, 3) := by decide +kernel
theorem dX7_insideOf_32 : decode cX7_insideOf 32 = .ok (.iload_n 1, 1) := by decide +kernel
theorem dX7_insideOf_33 : decode cX7_insideOf 33 = .ok (.if_icmp .ne 7, 3) := by decide +kernel
theorem dX7_insideOf_36 : decode cX7_insideOf 36 = .ok (.iconst 1, 1) := by decide +kernel
theorem dX7_insideOf_37 : decode cX7_insideOf 37 = .ok (.goto 4, 3) := by decide +kernel
theorem dX7_insideOf_40 : decode cX7_insideOf 40 = .ok (.iconst 0, 1) := by decide +kernel
theorem dX7_insideOf_41 : decode cX7_insideOf 41 = .ok (.iadd, 1) := by decide +kernel
theorem dX7_insideOf_42 : decode cX7_insideOf 42 = .ok (.istore_n 2, 1) := by decide +kernel
theorem dX7_insideOf_43 : decode cX7_insideOf 43 = .ok (.iinc 3 1, 3) := by decide +kernel
theorem dX7_insideOf_46 : decode cX7_insideOf 46 = .ok (.goto (-42), 3) := by decide +kernel
theorem dX7_insideOf_49 : decode cX7_insideOf 49 = .ok (.iload_n 2, 1) := by decide +kernel
theorem dX7_insideOf_50 : decode cX7_insideOf 50 = .ok (.ireturn, 1) := by decide +kernel
theorem dX7_hasRoom_0 : decode cX7_hasRoom 0 = .ok (.aload_n 0, 1) := by decide +kernel
theorem dX7_hasRoom_1 : decode cX7_hasRoom 1 = .ok (.iload_n 1, 1) := by decide +kernel
theorem dX7_hasRoom_2 : decode cX7_hasRoom 2 = .ok (.invokevirtual 108, 3) := by decide +kernel
theorem dX7_hasRoom_5 : decode cX7_hasRoom 5 = .ok (.aload_n 0, 1) := by decide +kernel
theorem dX7_hasRoom_6 : decode cX7_hasRoom 6 = .ok (.getfield 7, 3) := by decide +kernel
theorem dX7_hasRoom_9 : decode cX7_hasRoom 9 = .ok (.iconst 2, 1) := by decide +kernel
theorem dX7_hasRoom_10 : decode cX7_hasRoom 10 = .ok (.iaload, 1) := by decide +kernel
theorem dX7_hasRoom_11 : decode cX7_hasRoom 11 = .ok (.if_icmp .ge 7, 3) := by decide +kernel
theorem dX7_hasRoom_14 : decode cX7_hasRoom 14 = .ok (.iconst 1, 1) := by decide +kernel
theorem dX7_hasRoom_15 : decode cX7_hasRoom 15 = .ok (.goto 4, 3) := by decide +kernel
theorem dX7_hasRoom_18 : decode cX7_hasRoom 18 = .ok (.iconst 0, 1) := by decide +kernel
theorem dX7_hasRoom_19 : decode cX7_hasRoom 19 = .ok (.ireturn, 1) := by decide +kernel
theorem dX7_send_0 : decode cX7_send 0 = .ok (.aload_n 0, 1) := by decide +kernel
theorem dX7_send_1 : decode cX7_send 1 = .ok (.iload_n 1, 1) := by decide +kernel
theorem dX7_send_2 : decode cX7_send 2 = .ok (.invokevirtual 76, 3) := by decide +kernel
theorem dX7_send_5 : decode cX7_send 5 = .ok (.ifCond .eq 16, 3) := by decide +kernel
theorem dX7_send_8 : decode cX7_send 8 = .ok (.aload_n 0, 1) := by decide +kernel
theorem dX7_send_9 : decode cX7_send 9 = .ok (.iload_n 2, 1) := by decide +kernel
theorem dX7_send_10 : decode cX7_send 10 = .ok (.invokevirtual 76, 3) := by decide +kernel
theorem dX7_send_13 : decode cX7_send 13 = .ok (.ifCond .eq 8, 3) := by decide +kernel
theorem dX7_send_16 : decode cX7_send 16 = .ok (.iload_n 1, 1) := by decide +kernel
theorem dX7_send_17 : decode cX7_send 17 = .ok (.iload_n 2, 1) := by decide +kernel
theorem dX7_send_18 : decode cX7_send 18 = .ok (.if_icmp .ne 5, 3) := by decide +kernel
theorem dX7_send_21 : decode cX7_send 21 = .ok (.iconst (-1), 1) := by decide +kernel
theorem dX7_send_22 : decode cX7_send 22 = .ok (.ireturn, 1) := by decide +kernel
theorem dX7_send_23 : decode cX7_send 23 = .ok (.aload_n 0, 1) := by decide +kernel
theorem dX7_send_24 : decode cX7_send 24 = .ok (.getfield 7, 3) := by decide +kernel
theorem dX7_send_27 : decode cX7_send 27 = .ok (.bipush 6, 2) := by decide +kernel
theorem dX7_send_29 : decode cX7_send 29 = .ok (.iaload, 1) := by decide +kernel
theorem dX7_send_30 : decode cX7_send 30 = .ok (.bipush 40, 2) := by decide +kernel
theorem dX7_send_32 : decode cX7_send 32 = .ok (.if_icmp .ne 6, 3) := by decide +kernel
theorem dX7_send_35 : decode cX7_send 35 = .ok (.bipush (-4), 2) := by decide +kernel
theorem dX7_send_37 : decode cX7_send 37 = .ok (.ireturn, 1) := by decide +kernel
theorem dX7_send_38 : decode cX7_send 38 = .ok (.aload_n 0, 1) := by decide +kernel
theorem dX7_send_39 : decode cX7_send 39 = .ok (.bipush 10, 2) := by decide +kernel
theorem dX7_send_41 : decode cX7_send 41 = .ok (.iload_n 1, 1) := by decide +kernel
theorem dX7_send_42 : decode cX7_send 42 = .ok (.imul, 1) := by decide +kernel
theorem dX7_send_43 : decode cX7_send 43 = .ok (.iload_n 2, 1) := by decide +kernel
theorem dX7_send_44 : decode cX7_send 44 = .ok (.invokevirtual 105, 3) := by decide +kernel
theorem dX7_send_47 : decode cX7_send 47 = .ok (.ifCond .ge 6, 3) := by decide +kernel
theorem dX7_send_50 : decode cX7_send 50 = .ok (.bipush (-5), 2) := by decide +kernel
theorem dX7_send_52 : decode cX7_send 52 = .ok (.ireturn, 1) := by decide +kernel
theorem dX7_send_53 : decode cX7_send 53 = .ok (.aload_n 0, 1) := by decide +kernel
theorem dX7_send_54 : decode cX7_send 54 = .ok (.invokevirtual 70, 3) := by decide +kernel
theorem dX7_send_57 : decode cX7_send 57 = .ok (.aload_n 0, 1) := by decide +kernel
theorem dX7_send_58 : decode cX7_send 58 = .ok (.getfield 7, 3) := by decide +kernel
theorem dX7_send_61 : decode cX7_send 61 = .ok (.bipush 6, 2) := by decide +kernel
theorem dX7_send_63 : decode cX7_send 63 = .ok (.iaload, 1) := by decide +kernel
theorem dX7_send_64 : decode cX7_send 64 = .ok (.istore_n 3, 1) := by decide +kernel
theorem dX7_send_65 : decode cX7_send 65 = .ok (.aload_n 0, 1) := by decide +kernel
theorem dX7_send_66 : decode cX7_send 66 = .ok (.getfield 7, 3) := by decide +kernel
theorem dX7_send_69 : decode cX7_send 69 = .ok (.bipush 6, 2) := by decide +kernel
theorem dX7_send_71 : decode cX7_send 71 = .ok (.dup2, 1) := by decide +kernel
theorem dX7_send_72 : decode cX7_send 72 = .ok (.iaload, 1) := by decide +kernel
theorem dX7_send_73 : decode cX7_send 73 = .ok (.iconst 1, 1) := by decide +kernel
theorem dX7_send_74 : decode cX7_send 74 = .ok (.iadd, 1) := by decide +kernel
theorem dX7_send_75 : decode cX7_send 75 = .ok (.iastore, 1) := by decide +kernel
theorem dX7_send_76 : decode cX7_send 76 = .ok (.iconst 0, 1) := by decide +kernel
theorem dX7_send_77 : decode cX7_send 77 = .ok (.istore 4, 2) := by decide +kernel
theorem dX7_send_79 : decode cX7_send 79 = .ok (.iload 4, 2) := by decide +kernel
theorem dX7_send_81 : decode cX7_send 81 = .ok (.bipush 10, 2) := by decide +kernel
theorem dX7_send_83 : decode cX7_send 83 = .ok (.if_icmp .ge 17, 3) := by decide +kernel
theorem dX7_send_86 : decode cX7_send 86 = .ok (.aload_n 0, 1) := by decide +kernel
theorem dX7_send_87 : decode cX7_send 87 = .ok (.iload_n 3, 1) := by decide +kernel
theorem dX7_send_88 : decode cX7_send 88 = .ok (.iload 4, 2) := by decide +kernel
theorem dX7_send_90 : decode cX7_send 90 = .ok (.iconst 0, 1) := by decide +kernel
theorem dX7_send_91 : decode cX7_send 91 = .ok (.invokevirtual 111, 3) := by decide +kernel
theorem dX7_send_94 : decode cX7_send 94 = .ok (.iinc 4 1, 3) := by decide +kernel
theorem dX7_send_97 : decode cX7_send 97 = .ok (.goto (-18), 3) := by decide +kernel
theorem dX7_send_100 : decode cX7_send 100 = .ok (.aload_n 0, 1) := by decide +kernel
theorem dX7_send_101 : decode cX7_send 101 = .ok (.iload_n 3, 1) := by decide +kernel
theorem dX7_send_102 : decode cX7_send 102 = .ok (.iconst 0, 1) := by decide +kernel
theorem dX7_send_103 : decode cX7_send 103 = .ok (.iload_n 1, 1) := by decide +kernel
theorem dX7_send_104 : decode cX7_send 104 = .ok (.invokevirtual 111, 3) := by decide +kernel
theorem dX7_send_107 : decode cX7_send 107 = .ok (.aload_n 0, 1) := by decide +kernel
theorem dX7_send_108 : decode cX7_send 108 = .ok (.iload_n 3, 1) := by decide +kernel
theorem dX7_send_109 : decode cX7_send 109 = .ok (.iconst 1, 1) := by decide +kernel
theorem dX7_send_110 : decode cX7_send 110 = .ok (.iload_n 2, 1) := by decide +kernel
theorem dX7_send_111 : decode cX7_send 111 = .ok (.invokevirtual 111, 3) := by decide +kernel
theorem dX7_send_114 : decode cX7_send 114 = .ok (.aload_n 0, 1) := by decide +kernel
theorem dX7_send_115 : decode cX7_send 115 = .ok (.iload_n 3, 1) := by decide +kernel
theorem dX7_send_116 : decode cX7_send 116 = .ok (.iconst 3, 1) := by decide +kernel
theorem dX7_send_117 : decode cX7_send 117 = .ok (.iload_n 1, 1) := by decide +kernel
theorem dX7_send_118 : decode cX7_send 118 = .ok (.invokevirtual 111, 3) := by decide +kernel
theorem dX7_send_121 : decode cX7_send 121 = .ok (.aload_n 0, 1) := by decide +kernel
theorem dX7_send_122 : decode cX7_send 122 = .ok (.iload_n 3, 1) := by decide +kernel
theorem dX7_send_123 : decode cX7_send 123 = .ok (.bipush 7, 2) := by decide +kernel
theorem dX7_send_125 : decode cX7_send 125 = .ok (.aload_n 0, 1) := by decide +kernel
theorem dX7_send_126 : decode cX7_send 126 = .ok (.getfield 7, 3) := by decide +kernel
theorem dX7_send_129 : decode cX7_send 129 = .ok (.iconst 3, 1) := by decide +kernel
theorem dX7_send_130 : decode cX7_send 130 = .ok (.iaload, 1) := by decide +kernel
theorem dX7_send_131 : decode cX7_send 131 = .ok (.invokevirtual 111, 3) := by decide +kernel
theorem dX7_send_134 : decode cX7_send 134 = .ok (.aload_n 0, 1) := by decide +kernel
theorem dX7_send_135 : decode cX7_send 135 = .ok (.iload_n 3, 1) := by decide +kernel
theorem dX7_send_136 : decode cX7_send 136 = .ok (.bipush 8, 2) := by decide +kernel
theorem dX7_send_138 : decode cX7_send 138 = .ok (.bipush (-6), 2) := by decide +kernel
theorem dX7_send_140 : decode cX7_send 140 = .ok (.invokevirtual 111, 3) := by decide +kernel
theorem dX7_send_143 : decode cX7_send 143 = .ok (.iload_n 3, 1) := by decide +kernel
theorem dX7_send_144 : decode cX7_send 144 = .ok (.ireturn, 1) := by decide +kernel
theorem dX7_goesTo_0 : decode cX7_goesTo 0 = .ok (.aload_n 0, 1) := by decide +kernel
theorem dX7_goesTo_1 : decode cX7_goesTo 1 = .ok (.iload_n 1, 1) := by decide +kernel
theorem dX7_goesTo_2 : decode cX7_goesTo 2 = .ok (.invokevirtual 115, 3) := by decide +kernel
theorem dX7_goesTo_5 : decode cX7_goesTo 5 = .ok (.istore_n 2, 1) := by decide +kernel
theorem dX7_goesTo_6 : decode cX7_goesTo 6 = .ok (.iconst 0, 1) := by decide +kernel
theorem dX7_goesTo_7 : decode cX7_goesTo 7 = .ok (.istore_n 3, 1) := by decide +kernel
theorem dX7_goesTo_8 : decode cX7_goesTo 8 = .ok (.iload_n 3, 1) := by decide +kernel
theorem dX7_goesTo_9 : decode cX7_goesTo 9 = .ok (.iload_n 2, 1) := by decide +kernel
theorem dX7_goesTo_10 : decode cX7_goesTo 10 = .ok (.if_icmp .ge 54, 3) := by decide +kernel
theorem dX7_goesTo_13 : decode cX7_goesTo 13 = .ok (.aload_n 0, 1) := by decide +kernel
theorem dX7_goesTo_14 : decode cX7_goesTo 14 = .ok (.aload_n 0, 1) := by decide +kernel
theorem dX7_goesTo_15 : decode cX7_goesTo 15 = .ok (.iload_n 1, 1) := by decide +kernel
theorem dX7_goesTo_16 : decode cX7_goesTo 16 = .ok (.iconst 3, 1) := by decide +kernel
theorem dX7_goesTo_17 : decode cX7_goesTo 17 = .ok (.invokevirtual 98, 3) := by decide +kernel
theorem dX7_goesTo_20 : decode cX7_goesTo 20 = .ok (.aload_n 0, 1) := by decide +kernel
theorem dX7_goesTo_21 : decode cX7_goesTo 21 = .ok (.getfield 38, 3) := by decide +kernel
theorem dX7_goesTo_24 : decode cX7_goesTo 24 = .ok (.iload_n 3, 1) := by decide +kernel
theorem dX7_goesTo_25 : decode cX7_goesTo 25 = .ok (.iaload, 1) := by decide +kernel
theorem dX7_goesTo_26 : decode cX7_goesTo 26 = .ok (.invokevirtual 63, 3) := by decide +kernel
theorem dX7_goesTo_29 : decode cX7_goesTo 29 = .ok (.istore 4, 2) := by decide +kernel
theorem dX7_goesTo_31 : decode cX7_goesTo 31 = .ok (.iload 4, 2) := by decide +kernel
theorem dX7_goesTo_33 : decode cX7_goesTo 33 = .ok (.aload_n 0, 1) := by decide +kernel
theorem dX7_goesTo_34 : decode cX7_goesTo 34 = .ok (.iload_n 1, 1) := by decide +kernel
theorem dX7_goesTo_35 : decode cX7_goesTo 35 = .ok (.iconst 1, 1) := by decide +kernel
theorem dX7_goesTo_36 : decode cX7_goesTo 36 = .ok (.invokevirtual 98, 3) := by decide +kernel
theorem dX7_goesTo_39 : decode cX7_goesTo 39 = .ok (.if_icmp .eq 12, 3) := by decide +kernel
theorem dX7_goesTo_42 : decode cX7_goesTo 42 = .ok (.aload_n 0, 1) := by decide +kernel
theorem dX7_goesTo_43 : decode cX7_goesTo 43 = .ok (.iload 4, 2) := by decide +kernel
theorem dX7_goesTo_45 : decode cX7_goesTo 45 = .ok (.invokevirtual 118, 3) := by decide +kernel
theorem dX7_goesTo_48 : decode cX7_goesTo 48 = .ok (.ifCond .eq 10, 3) := by decide +kernel
theorem dX7_goesTo_51 : decode cX7_goesTo 51 = .ok (.aload_n 0, 1) := by decide +kernel
theorem dX7_goesTo_52 : decode cX7_goesTo 52 = .ok (.getfield 38, 3) := by decide +kernel
theorem dX7_goesTo_55 : decode cX7_goesTo 55 = .ok (.iload_n 3, 1) := by decide +kernel
theorem dX7_goesTo_56 : decode cX7_goesTo 56 = .ok (.iaload, 1) := by decide +kernel
theorem dX7_goesTo_57 : decode cX7_goesTo 57 = .ok (.ireturn, 1) := by decide +kernel
theorem dX7_goesTo_58 : decode cX7_goesTo 58 = .ok (.iinc 3 1, 3) := by decide +kernel
theorem dX7_goesTo_61 : decode cX7_goesTo 61 = .ok (.goto (-53), 3) := by decide +kernel
theorem dX7_goesTo_64 : decode cX7_goesTo 64 = .ok (.bipush (-6), 2) := by decide +kernel
theorem dX7_goesTo_66 : decode cX7_goesTo 66 = .ok (.ireturn, 1) := by decide +kernel
theorem dX7_move_0 : decode cX7_move 0 = .ok (.aload_n 0, 1) := by decide +kernel
theorem dX7_move_1 : decode cX7_move 1 = .ok (.iload_n 1, 1) := by decide +kernel
theorem dX7_move_2 : decode cX7_move 2 = .ok (.iconst 3, 1) := by decide +kernel
theorem dX7_move_3 : decode cX7_move 3 = .ok (.invokevirtual 98, 3) := by decide +kernel
theorem dX7_move_6 : decode cX7_move 6 = .ok (.istore_n 3, 1) := by decide +kernel
theorem dX7_move_7 : decode cX7_move 7 = .ok (.aload_n 0, 1) := by decide +kernel
theorem dX7_move_8 : decode cX7_move 8 = .ok (.iload_n 1, 1) := by decide +kernel
theorem dX7_move_9 : decode cX7_move 9 = .ok (.iconst 1, 1) := by decide +kernel
theorem dX7_move_10 : decode cX7_move 10 = .ok (.invokevirtual 98, 3) := by decide +kernel
theorem dX7_move_13 : decode cX7_move 13 = .ok (.istore 4, 2) := by decide +kernel
theorem dX7_move_15 : decode cX7_move 15 = .ok (.aload_n 0, 1) := by decide +kernel
theorem dX7_move_16 : decode cX7_move 16 = .ok (.iload_n 3, 1) := by decide +kernel
theorem dX7_move_17 : decode cX7_move 17 = .ok (.iload_n 2, 1) := by decide +kernel
theorem dX7_move_18 : decode cX7_move 18 = .ok (.invokevirtual 63, 3) := by decide +kernel
theorem dX7_move_21 : decode cX7_move 21 = .ok (.istore 5, 2) := by decide +kernel
theorem dX7_move_23 : decode cX7_move 23 = .ok (.aload_n 0, 1) := by decide +kernel
theorem dX7_move_24 : decode cX7_move 24 = .ok (.iload_n 1, 1) := by decide +kernel
theorem dX7_move_25 : decode cX7_move 25 = .ok (.iconst 4, 1) := by decide +kernel
theorem dX7_move_26 : decode cX7_move 26 = .ok (.aload_n 0, 1) := by decide +kernel
theorem dX7_move_27 : decode cX7_move 27 = .ok (.iload_n 1, 1) := by decide +kernel
theorem dX7_move_28 : decode cX7_move 28 = .ok (.iconst 4, 1) := by decide +kernel
theorem dX7_move_29 : decode cX7_move 29 = .ok (.invokevirtual 98, 3) := by decide +kernel
theorem dX7_move_32 : decode cX7_move 32 = .ok (.iconst 1, 1) := by decide +kernel
theorem dX7_move_33 : decode cX7_move 33 = .ok (.iadd, 1) := by decide +kernel
theorem dX7_move_34 : decode cX7_move 34 = .ok (.invokevirtual 111, 3) := by decide +kernel
theorem dX7_move_37 : decode cX7_move 37 = .ok (.aload_n 0, 1) := by decide +kernel
theorem dX7_move_38 : decode cX7_move 38 = .ok (.iload_n 1, 1) := by decide +kernel
theorem dX7_move_39 : decode cX7_move 39 = .ok (.iconst 5, 1) := by decide +kernel
theorem dX7_move_40 : decode cX7_move 40 = .ok (.aload_n 0, 1) := by decide +kernel
theorem dX7_move_41 : decode cX7_move 41 = .ok (.iload_n 1, 1) := by decide +kernel
theorem dX7_move_42 : decode cX7_move 42 = .ok (.iconst 5, 1) := by decide +kernel
theorem dX7_move_43 : decode cX7_move 43 = .ok (.invokevirtual 98, 3) := by decide +kernel
theorem dX7_move_46 : decode cX7_move 46 = .ok (.aload_n 0, 1) := by decide +kernel
theorem dX7_move_47 : decode cX7_move 47 = .ok (.iload_n 3, 1) := by decide +kernel
theorem dX7_move_48 : decode cX7_move 48 = .ok (.iload 5, 2) := by decide +kernel
theorem dX7_move_50 : decode cX7_move 50 = .ok (.iload 4, 2) := by decide +kernel
theorem dX7_move_52 : decode cX7_move 52 = .ok (.invokevirtual 87, 3) := by decide +kernel
theorem dX7_move_55 : decode cX7_move 55 = .ok (.ifCond .eq 7, 3) := by decide +kernel
theorem dX7_move_58 : decode cX7_move 58 = .ok (.iconst 1, 1) := by decide +kernel
theorem dX7_move_59 : decode cX7_move 59 = .ok (.goto 4, 3) := by decide +kernel
theorem dX7_move_62 : decode cX7_move 62 = .ok (.iconst 0, 1) := by decide +kernel
theorem dX7_move_63 : decode cX7_move 63 = .ok (.iadd, 1) := by decide +kernel
theorem dX7_move_64 : decode cX7_move 64 = .ok (.invokevirtual 111, 3) := by decide +kernel
theorem dX7_move_67 : decode cX7_move 67 = .ok (.aload_n 0, 1) := by decide +kernel
theorem dX7_move_68 : decode cX7_move 68 = .ok (.iload_n 1, 1) := by decide +kernel
theorem dX7_move_69 : decode cX7_move 69 = .ok (.bipush 9, 2) := by decide +kernel
theorem dX7_move_71 : decode cX7_move 71 = .ok (.iload_n 2, 1) := by decide +kernel
theorem dX7_move_72 : decode cX7_move 72 = .ok (.ifCond .ne 13, 3) := by decide +kernel
theorem dX7_move_75 : decode cX7_move 75 = .ok (.aload_n 0, 1) := by decide +kernel
theorem dX7_move_76 : decode cX7_move 76 = .ok (.iload_n 1, 1) := by decide +kernel
theorem dX7_move_77 : decode cX7_move 77 = .ok (.bipush 9, 2) := by decide +kernel
theorem dX7_move_79 : decode cX7_move 79 = .ok (.invokevirtual 98, 3) := by decide +kernel
theorem dX7_move_82 : decode cX7_move 82 = .ok (.goto 4, 3) := by decide +kernel
theorem dX7_move_85 : decode cX7_move 85 = .ok (.iconst 1, 1) := by decide +kernel
theorem dX7_move_86 : decode cX7_move 86 = .ok (.invokevirtual 111, 3) := by decide +kernel
theorem dX7_move_89 : decode cX7_move 89 = .ok (.aload_n 0, 1) := by decide +kernel
theorem dX7_move_90 : decode cX7_move 90 = .ok (.iload_n 1, 1) := by decide +kernel
theorem dX7_move_91 : decode cX7_move 91 = .ok (.iconst 3, 1) := by decide +kernel
theorem dX7_move_92 : decode cX7_move 92 = .ok (.iload 5, 2) := by decide +kernel
theorem dX7_move_94 : decode cX7_move 94 = .ok (.invokevirtual 111, 3) := by decide +kernel
theorem dX7_move_97 : decode cX7_move 97 = .ok (.aload_n 0, 1) := by decide +kernel
theorem dX7_move_98 : decode cX7_move 98 = .ok (.getfield 7, 3) := by decide +kernel
theorem dX7_move_101 : decode cX7_move 101 = .ok (.bipush 60, 2) := by decide +kernel
theorem dX7_move_103 : decode cX7_move 103 = .ok (.iconst 4, 1) := by decide +kernel
theorem dX7_move_104 : decode cX7_move 104 = .ok (.iload_n 3, 1) := by decide +kernel
theorem dX7_move_105 : decode cX7_move 105 = .ok (.imul, 1) := by decide +kernel
theorem dX7_move_106 : decode cX7_move 106 = .ok (.iadd, 1) := by decide +kernel
theorem dX7_move_107 : decode cX7_move 107 = .ok (.iload_n 2, 1) := by decide +kernel
theorem dX7_move_108 : decode cX7_move 108 = .ok (.iadd, 1) := by decide +kernel
theorem dX7_move_109 : decode cX7_move 109 = .ok (.dup2, 1) := by decide +kernel
theorem dX7_move_110 : decode cX7_move 110 = .ok (.iaload, 1) := by decide +kernel
theorem dX7_move_111 : decode cX7_move 111 = .ok (.iconst 1, 1) := by decide +kernel
theorem dX7_move_112 : decode cX7_move 112 = .ok (.iadd, 1) := by decide +kernel
theorem dX7_move_113 : decode cX7_move 113 = .ok (.iastore, 1) := by decide +kernel
theorem dX7_move_114 : decode cX7_move 114 = .ok (.iload 5, 2) := by decide +kernel
theorem dX7_move_116 : decode cX7_move 116 = .ok (.iload 4, 2) := by decide +kernel
theorem dX7_move_118 : decode cX7_move 118 = .ok (.if_icmp .ne 23, 3) := by decide +kernel
theorem dX7_move_121 : decode cX7_move 121 = .ok (.aload_n 0, 1) := by decide +kernel
theorem dX7_move_122 : decode cX7_move 122 = .ok (.iload_n 1, 1) := by decide +kernel
theorem dX7_move_123 : decode cX7_move 123 = .ok (.iconst 2, 1) := by decide +kernel
theorem dX7_move_124 : decode cX7_move 124 = .ok (.iconst 2, 1) := by decide +kernel
theorem dX7_move_125 : decode cX7_move 125 = .ok (.invokevirtual 111, 3) := by decide +kernel
theorem dX7_move_128 : decode cX7_move 128 = .ok (.aload_n 0, 1) := by decide +kernel
theorem dX7_move_129 : decode cX7_move 129 = .ok (.iload_n 1, 1) := by decide +kernel
theorem dX7_move_130 : decode cX7_move 130 = .ok (.bipush 8, 2) := by decide +kernel
theorem dX7_move_132 : decode cX7_move 132 = .ok (.aload_n 0, 1) := by decide +kernel
theorem dX7_move_133 : decode cX7_move 133 = .ok (.getfield 7, 3) := by decide +kernel
theorem dX7_move_136 : decode cX7_move 136 = .ok (.iconst 3, 1) := by decide +kernel
theorem dX7_move_137 : decode cX7_move 137 = .ok (.iaload, 1) := by decide +kernel
theorem dX7_move_138 : decode cX7_move 138 = .ok (.invokevirtual 111, 3) := by decide +kernel
theorem dX7_move_141 : decode cX7_move 141 = .ok (.return_, 1) := by decide +kernel
theorem dX7_pass_0 : decode cX7_pass 0 = .ok (.iconst 0, 1) := by decide +kernel
theorem dX7_pass_1 : decode cX7_pass 1 = .ok (.istore_n 1, 1) := by decide +kernel
theorem dX7_pass_2 : decode cX7_pass 2 = .ok (.iload_n 1, 1) := by decide +kernel
theorem dX7_pass_3 : decode cX7_pass 3 = .ok (.aload_n 0, 1) := by decide +kernel
theorem dX7_pass_4 : decode cX7_pass 4 = .ok (.getfield 7, 3) := by decide +kernel
theorem dX7_pass_7 : decode cX7_pass 7 = .ok (.bipush 6, 2) := by decide +kernel
theorem dX7_pass_9 : decode cX7_pass 9 = .ok (.iaload, 1) := by decide +kernel
theorem dX7_pass_10 : decode cX7_pass 10 = .ok (.if_icmp .ge 116, 3) := by decide +kernel
theorem dX7_pass_13 : decode cX7_pass 13 = .ok (.aload_n 0, 1) := by decide +kernel
theorem dX7_pass_14 : decode cX7_pass 14 = .ok (.iload_n 1, 1) := by decide +kernel
theorem dX7_pass_15 : decode cX7_pass 15 = .ok (.iconst 2, 1) := by decide +kernel
theorem dX7_pass_16 : decode cX7_pass 16 = .ok (.invokevirtual 98, 3) := by decide +kernel
theorem dX7_pass_19 : decode cX7_pass 19 = .ok (.ifCond .ne 56, 3) := by decide +kernel
theorem dX7_pass_22 : decode cX7_pass 22 = .ok (.aload_n 0, 1) := by decide +kernel
theorem dX7_pass_23 : decode cX7_pass 23 = .ok (.aload_n 0, 1) := by decide +kernel
theorem dX7_pass_24 : decode cX7_pass 24 = .ok (.iload_n 1, 1) := by decide +kernel
theorem dX7_pass_25 : decode cX7_pass 25 = .ok (.iconst 3, 1) := by decide +kernel
theorem dX7_pass_26 : decode cX7_pass 26 = .ok (.invokevirtual 98, 3) := by decide +kernel
theorem dX7_pass_29 : decode cX7_pass 29 = .ok (.invokevirtual 118, 3) := by decide +kernel
theorem dX7_pass_32 : decode cX7_pass 32 = .ok (.istore_n 2, 1) := by decide +kernel
theorem dX7_pass_33 : decode cX7_pass 33 = .ok (.aload_n 0, 1) := by decide +kernel
theorem dX7_pass_34 : decode cX7_pass 34 = .ok (.iload_n 1, 1) := by decide +kernel
theorem dX7_pass_35 : decode cX7_pass 35 = .ok (.iconst 2, 1) := by decide +kernel
theorem dX7_pass_36 : decode cX7_pass 36 = .ok (.iload_n 2, 1) := by decide +kernel
theorem dX7_pass_37 : decode cX7_pass 37 = .ok (.ifCond .eq 7, 3) := by decide +kernel
theorem dX7_pass_40 : decode cX7_pass 40 = .ok (.iconst 1, 1) := by decide +kernel
theorem dX7_pass_41 : decode cX7_pass 41 = .ok (.goto 4, 3) := by decide +kernel
theorem dX7_pass_44 : decode cX7_pass 44 = .ok (.iconst 0, 1) := by decide +kernel
theorem dX7_pass_45 : decode cX7_pass 45 = .ok (.invokevirtual 111, 3) := by decide +kernel
theorem dX7_pass_48 : decode cX7_pass 48 = .ok (.aload_n 0, 1) := by decide +kernel
theorem dX7_pass_49 : decode cX7_pass 49 = .ok (.iload_n 1, 1) := by decide +kernel
theorem dX7_pass_50 : decode cX7_pass 50 = .ok (.bipush 6, 2) := by decide +kernel
theorem dX7_pass_52 : decode cX7_pass 52 = .ok (.aload_n 0, 1) := by decide +kernel
theorem dX7_pass_53 : decode cX7_pass 53 = .ok (.iload_n 1, 1) := by decide +kernel
theorem dX7_pass_54 : decode cX7_pass 54 = .ok (.bipush 6, 2) := by decide +kernel
theorem dX7_pass_56 : decode cX7_pass 56 = .ok (.invokevirtual 98, 3) := by decide +kernel
theorem dX7_pass_59 : decode cX7_pass 59 = .ok (.iload_n 2, 1) := by decide +kernel
theorem dX7_pass_60 : decode cX7_pass 60 = .ok (.ifCond .eq 7, 3) := by decide +kernel
theorem dX7_pass_63 : decode cX7_pass 63 = .ok (.iconst 0, 1) := by decide +kernel
theorem dX7_pass_64 : decode cX7_pass 64 = .ok (.goto 4, 3) := by decide +kernel
theorem dX7_pass_67 : decode cX7_pass 67 = .ok (.iconst 1, 1) := by decide +kernel
theorem dX7_pass_68 : decode cX7_pass 68 = .ok (.iadd, 1) := by decide +kernel
theorem dX7_pass_69 : decode cX7_pass 69 = .ok (.invokevirtual 111, 3) := by decide +kernel
theorem dX7_pass_72 : decode cX7_pass 72 = .ok (.goto 48, 3) := by decide +kernel
theorem dX7_pass_75 : decode cX7_pass 75 = .ok (.aload_n 0, 1) := by decide +kernel
theorem dX7_pass_76 : decode cX7_pass 76 = .ok (.iload_n 1, 1) := by decide +kernel
theorem dX7_pass_77 : decode cX7_pass 77 = .ok (.iconst 2, 1) := by decide +kernel
theorem dX7_pass_78 : decode cX7_pass 78 = .ok (.invokevirtual 98, 3) := by decide +kernel
theorem dX7_pass_81 : decode cX7_pass 81 = .ok (.iconst 1, 1) := by decide +kernel
theorem dX7_pass_82 : decode cX7_pass 82 = .ok (.if_icmp .ne 38, 3) := by decide +kernel
theorem dX7_pass_85 : decode cX7_pass 85 = .ok (.aload_n 0, 1) := by decide +kernel
theorem dX7_pass_86 : decode cX7_pass 86 = .ok (.iload_n 1, 1) := by decide +kernel
theorem dX7_pass_87 : decode cX7_pass 87 = .ok (.invokevirtual 121, 3) := by decide +kernel
theorem dX7_pass_90 : decode cX7_pass 90 = .ok (.istore_n 2, 1) := by decide +kernel
theorem dX7_pass_91 : decode cX7_pass 91 = .ok (.iload_n 2, 1) := by decide +kernel
theorem dX7_pass_92 : decode cX7_pass 92 = .ok (.ifCond .lt 12, 3) := by decide +kernel
theorem dX7_pass_95 : decode cX7_pass 95 = .ok (.aload_n 0, 1) := by decide +kernel
theorem dX7_pass_96 : decode cX7_pass 96 = .ok (.iload_n 1, 1) := by decide +kernel
theorem dX7_pass_97 : decode cX7_pass 97 = .ok (.iload_n 2, 1) := by decide +kernel
theorem dX7_pass_98 : decode cX7_pass 98 = .ok (.invokevirtual 124, 3) := by decide +kernel
theorem dX7_pass_101 : decode cX7_pass 101 = .ok (.goto 19, 3) := by decide +kernel
theorem dX7_pass_104 : decode cX7_pass 104 = .ok (.aload_n 0, 1) := by decide +kernel
theorem dX7_pass_105 : decode cX7_pass 105 = .ok (.iload_n 1, 1) := by decide +kernel
theorem dX7_pass_106 : decode cX7_pass 106 = .ok (.bipush 6, 2) := by decide +kernel
theorem dX7_pass_108 : decode cX7_pass 108 = .ok (.aload_n 0, 1) := by decide +kernel
theorem dX7_pass_109 : decode cX7_pass 109 = .ok (.iload_n 1, 1) := by decide +kernel
theorem dX7_pass_110 : decode cX7_pass 110 = .ok (.bipush 6, 2) := by decide +kernel
theorem dX7_pass_112 : decode cX7_pass 112 = .ok (.invokevirtual 98, 3) := by decide +kernel
theorem dX7_pass_115 : decode cX7_pass 115 = .ok (.iconst 1, 1) := by decide +kernel
theorem dX7_pass_116 : decode cX7_pass 116 = .ok (.iadd, 1) := by decide +kernel
theorem dX7_pass_117 : decode cX7_pass 117 = .ok (.invokevirtual 111, 3) := by decide +kernel
theorem dX7_pass_120 : decode cX7_pass 120 = .ok (.iinc 1 1, 3) := by decide +kernel
theorem dX7_pass_123 : decode cX7_pass 123 = .ok (.goto (-121), 3) := by decide +kernel
theorem dX7_pass_126 : decode cX7_pass 126 = .ok (.aload_n 0, 1) := by decide +kernel
theorem dX7_pass_127 : decode cX7_pass 127 = .ok (.getfield 7, 3) := by decide +kernel
theorem dX7_pass_130 : decode cX7_pass 130 = .ok (.iconst 3, 1) := by decide +kernel
theorem dX7_pass_131 : decode cX7_pass 131 = .ok (.dup2, 1) := by decide +kernel
theorem dX7_pass_132 : decode cX7_pass 132 = .ok (.iaload, 1) := by decide +kernel
theorem dX7_pass_133 : decode cX7_pass 133 = .ok (.iconst 1, 1) := by decide +kernel
theorem dX7_pass_134 : decode cX7_pass 134 = .ok (.iadd, 1) := by decide +kernel
theorem dX7_pass_135 : decode cX7_pass 135 = .ok (.iastore, 1) := by decide +kernel
theorem dX7_pass_136 : decode cX7_pass 136 = .ok (.return_, 1) := by decide +kernel
theorem dX7_ticks_0 : decode cX7_ticks 0 = .ok (.iload_n 1, 1) := by decide +kernel
theorem dX7_ticks_1 : decode cX7_ticks 1 = .ok (.iconst 1, 1) := by decide +kernel
theorem dX7_ticks_2 : decode cX7_ticks 2 = .ok (.sipush 300, 3) := by decide +kernel
theorem dX7_ticks_5 : decode cX7_ticks 5 = .ok (.invokestatic 59, 3) := by decide +kernel
theorem dX7_ticks_8 : decode cX7_ticks 8 = .ok (.ifCond .ne 6, 3) := by decide +kernel
theorem dX7_ticks_11 : decode cX7_ticks 11 = .ok (.bipush (-2), 2) := by decide +kernel
theorem dX7_ticks_13 : decode cX7_ticks 13 = .ok (.ireturn, 1) := by decide +kernel
theorem dX7_ticks_14 : decode cX7_ticks 14 = .ok (.aload_n 0, 1) := by decide +kernel
theorem dX7_ticks_15 : decode cX7_ticks 15 = .ok (.invokevirtual 70, 3) := by decide +kernel
theorem dX7_ticks_18 : decode cX7_ticks 18 = .ok (.iconst 0, 1) := by decide +kernel
theorem dX7_ticks_19 : decode cX7_ticks 19 = .ok (.istore_n 2, 1) := by decide +kernel
theorem dX7_ticks_20 : decode cX7_ticks 20 = .ok (.iload_n 2, 1) := by decide +kernel
theorem dX7_ticks_21 : decode cX7_ticks 21 = .ok (.iload_n 1, 1) := by decide +kernel
theorem dX7_ticks_22 : decode cX7_ticks 22 = .ok (.if_icmp .ge 13, 3) := by decide +kernel
theorem dX7_ticks_25 : decode cX7_ticks 25 = .ok (.aload_n 0, 1) := by decide +kernel
theorem dX7_ticks_26 : decode cX7_ticks 26 = .ok (.invokevirtual 128, 3) := by decide +kernel
theorem dX7_ticks_29 : decode cX7_ticks 29 = .ok (.iinc 2 1, 3) := by decide +kernel
theorem dX7_ticks_32 : decode cX7_ticks 32 = .ok (.goto (-12), 3) := by decide +kernel
theorem dX7_ticks_35 : decode cX7_ticks 35 = .ok (.aload_n 0, 1) := by decide +kernel
theorem dX7_ticks_36 : decode cX7_ticks 36 = .ok (.getfield 7, 3) := by decide +kernel
theorem dX7_ticks_39 : decode cX7_ticks 39 = .ok (.iconst 3, 1) := by decide +kernel
theorem dX7_ticks_40 : decode cX7_ticks 40 = .ok (.iaload, 1) := by decide +kernel
theorem dX7_ticks_41 : decode cX7_ticks 41 = .ok (.ireturn, 1) := by decide +kernel
theorem dX7_isFree_0 : decode cX7_isFree 0 = .ok (.aload_n 0, 1) := by decide +kernel
theorem dX7_isFree_1 : decode cX7_isFree 1 = .ok (.iload_n 1, 1) := by decide +kernel
theorem dX7_isFree_2 : decode cX7_isFree 2 = .ok (.invokevirtual 115, 3) := by decide +kernel
theorem dX7_isFree_5 : decode cX7_isFree 5 = .ok (.istore_n 2, 1) := by decide +kernel
theorem dX7_isFree_6 : decode cX7_isFree 6 = .ok (.iconst 0, 1) := by decide +kernel
theorem dX7_isFree_7 : decode cX7_isFree 7 = .ok (.istore_n 3, 1) := by decide +kernel
theorem dX7_isFree_8 : decode cX7_isFree 8 = .ok (.iconst 0, 1) := by decide +kernel
theorem dX7_isFree_9 : decode cX7_isFree 9 = .ok (.istore 4, 2) := by decide +kernel
theorem dX7_isFree_11 : decode cX7_isFree 11 = .ok (.iload 4, 2) := by decide +kernel
theorem dX7_isFree_13 : decode cX7_isFree 13 = .ok (.iload_n 2, 1) := by decide +kernel
theorem dX7_isFree_14 : decode cX7_isFree 14 = .ok (.if_icmp .ge 122, 3) := by decide +kernel
theorem dX7_isFree_17 : decode cX7_isFree 17 = .ok (.iload_n 3, 1) := by decide +kernel
theorem dX7_isFree_18 : decode cX7_isFree 18 = .ok (.ifCond .ne 118, 3) := by decide +kernel
theorem dX7_isFree_21 : decode cX7_isFree 21 = .ok (.aload_n 0, 1) := by decide +kernel
theorem dX7_isFree_22 : decode cX7_isFree 22 = .ok (.aload_n 0, 1) := by decide +kernel
theorem dX7_isFree_23 : decode cX7_isFree 23 = .ok (.iload_n 1, 1) := by decide +kernel
theorem dX7_isFree_24 : decode cX7_isFree 24 = .ok (.iconst 3, 1) := by decide +kernel
theorem dX7_isFree_25 : decode cX7_isFree 25 = .ok (.invokevirtual 98, 3) := by decide +kernel
theorem dX7_isFree_28 : decode cX7_isFree 28 = .ok (.aload_n 0, 1) := by decide +kernel
theorem dX7_isFree_29 : decode cX7_isFree 29 = .ok (.getfield 38, 3) := by decide +kernel
theorem dX7_isFree_32 : decode cX7_isFree 32 = .ok (.iload 4, 2) := by decide +kernel
theorem dX7_isFree_34 : decode cX7_isFree 34 = .ok (.iaload, 1) := by decide +kernel
theorem dX7_isFree_35 : decode cX7_isFree 35 = .ok (.invokevirtual 63, 3) := by decide +kernel
theorem dX7_isFree_38 : decode cX7_isFree 38 = .ok (.istore 5, 2) := by decide +kernel
theorem dX7_isFree_40 : decode cX7_isFree 40 = .ok (.iload 5, 2) := by decide +kernel
theorem dX7_isFree_42 : decode cX7_isFree 42 = .ok (.aload_n 0, 1) := by decide +kernel
theorem dX7_isFree_43 : decode cX7_isFree 43 = .ok (.iload_n 1, 1) := by decide +kernel
theorem dX7_isFree_44 : decode cX7_isFree 44 = .ok (.iconst 1, 1) := by decide +kernel
theorem dX7_isFree_45 : decode cX7_isFree 45 = .ok (.invokevirtual 98, 3) := by decide +kernel
theorem dX7_isFree_48 : decode cX7_isFree 48 = .ok (.if_icmp .eq 12, 3) := by decide +kernel
theorem dX7_isFree_51 : decode cX7_isFree 51 = .ok (.aload_n 0, 1) := by decide +kernel
theorem dX7_isFree_52 : decode cX7_isFree 52 = .ok (.iload 5, 2) := by decide +kernel
theorem dX7_isFree_54 : decode cX7_isFree 54 = .ok (.invokevirtual 118, 3) := by decide +kernel
theorem dX7_isFree_57 : decode cX7_isFree 57 = .ok (.ifCond .eq 7, 3) := by decide +kernel
theorem dX7_isFree_60 : decode cX7_isFree 60 = .ok (.iconst 1, 1) := by decide +kernel
theorem dX7_isFree_61 : decode cX7_isFree 61 = .ok (.goto 4, 3) := by decide +kernel
theorem dX7_isFree_64 : decode cX7_isFree 64 = .ok (.iconst 0, 1) := by decide +kernel
theorem dX7_isFree_65 : decode cX7_isFree 65 = .ok (.istore_n 3, 1) := by decide +kernel
theorem dX7_isFree_66 : decode cX7_isFree 66 = .ok (.iconst 0, 1) := by decide +kernel
theorem dX7_isFree_67 : decode cX7_isFree 67 = .ok (.istore 6, 2) := by decide +kernel
theorem dX7_isFree_69 : decode cX7_isFree 69 = .ok (.iload 6, 2) := by decide +kernel
theorem dX7_isFree_71 : decode cX7_isFree 71 = .ok (.aload_n 0, 1) := by decide +kernel
theorem dX7_isFree_72 : decode cX7_isFree 72 = .ok (.getfield 7, 3) := by decide +kernel
theorem dX7_isFree_75 : decode cX7_isFree 75 = .ok (.bipush 6, 2) := by decide +kernel
theorem dX7_isFree_77 : decode cX7_isFree 77 = .ok (.iaload, 1) := by decide +kernel
theorem dX7_isFree_78 : decode cX7_isFree 78 = .ok (.if_icmp .ge 52, 3) := by decide +kernel
theorem dX7_isFree_81 : decode cX7_isFree 81 = .ok (.iload_n 3, 1) := by decide +kernel
theorem dX7_isFree_82 : decode cX7_isFree 82 = .ok (.ifCond .ne 48, 3) := by decide +kernel
theorem dX7_isFree_85 : decode cX7_isFree 85 = .ok (.aload_n 0, 1) := by decide +kernel
theorem dX7_isFree_86 : decode cX7_isFree 86 = .ok (.iload 6, 2) := by decide +kernel
theorem dX7_isFree_88 : decode cX7_isFree 88 = .ok (.iconst 2, 1) := by decide +kernel
theorem dX7_isFree_89 : decode cX7_isFree 89 = .ok (.invokevirtual 98, 3) := by decide +kernel
theorem dX7_isFree_92 : decode cX7_isFree 92 = .ok (.iconst 1, 1) := by decide +kernel
theorem dX7_isFree_93 : decode cX7_isFree 93 = .ok (.if_icmp .ne 29, 3) := by decide +kernel
theorem dX7_isFree_96 : decode cX7_isFree 96 = .ok (.aload_n 0, 1) := by decide +kernel
theorem dX7_isFree_97 : decode cX7_isFree 97 = .ok (.iload 6, 2) := by decide +kernel
theorem dX7_isFree_99 : decode cX7_isFree 99 = .ok (.iconst 3, 1) := by decide +kernel
theorem dX7_isFree_100 : decode cX7_isFree 100 = .ok (.invokevirtual 98, 3) := by decide +kernel
theorem dX7_isFree_103 : decode cX7_isFree 103 = .ok (.iload 5, 2) := by decide +kernel
theorem dX7_isFree_105 : decode cX7_isFree 105 = .ok (.if_icmp .ne 17, 3) := by decide +kernel
theorem dX7_isFree_108 : decode cX7_isFree 108 = .ok (.aload_n 0, 1) := by decide +kernel
theorem dX7_isFree_109 : decode cX7_isFree 109 = .ok (.getfield 41, 3) := by decide +kernel
theorem dX7_isFree_112 : decode cX7_isFree 112 = .ok (.iload 6, 2) := by decide +kernel
theorem dX7_isFree_114 : decode cX7_isFree 114 = .ok (.baload, 1) := by decide +kernel
theorem dX7_isFree_115 : decode cX7_isFree 115 = .ok (.ifCond .ne 7, 3) := by decide +kernel
theorem dX7_isFree_118 : decode cX7_isFree 118 = .ok (.iconst 1, 1) := by decide +kernel
theorem dX7_isFree_119 : decode cX7_isFree 119 = .ok (.goto 4, 3) := by decide +kernel
theorem dX7_isFree_122 : decode cX7_isFree 122 = .ok (.iconst 0, 1) := by decide +kernel
theorem dX7_isFree_123 : decode cX7_isFree 123 = .ok (.istore_n 3, 1) := by decide +kernel
theorem dX7_isFree_124 : decode cX7_isFree 124 = .ok (.iinc 6 1, 3) := by decide +kernel
theorem dX7_isFree_127 : decode cX7_isFree 127 = .ok (.goto (-58), 3) := by decide +kernel
theorem dX7_isFree_130 : decode cX7_isFree 130 = .ok (.iinc 4 1, 3) := by decide +kernel
theorem dX7_isFree_133 : decode cX7_isFree 133 = .ok (.goto (-122), 3) := by decide +kernel
theorem dX7_isFree_136 : decode cX7_isFree 136 = .ok (.iload_n 3, 1) := by decide +kernel
theorem dX7_isFree_137 : decode cX7_isFree 137 = .ok (.ireturn, 1) := by decide +kernel
theorem dX7_layStuck_0 : decode cX7_layStuck 0 = .ok (.iconst 0, 1) := by decide +kernel
theorem dX7_layStuck_1 : decode cX7_layStuck 1 = .ok (.istore_n 1, 1) := by decide +kernel
theorem dX7_layStuck_2 : decode cX7_layStuck 2 = .ok (.iload_n 1, 1) := by decide +kernel
theorem dX7_layStuck_3 : decode cX7_layStuck 3 = .ok (.bipush 40, 2) := by decide +kernel
theorem dX7_layStuck_5 : decode cX7_layStuck 5 = .ok (.if_icmp .ge 41, 3) := by decide +kernel
theorem dX7_layStuck_8 : decode cX7_layStuck 8 = .ok (.aload_n 0, 1) := by decide +kernel
theorem dX7_layStuck_9 : decode cX7_layStuck 9 = .ok (.getfield 41, 3) := by decide +kernel
theorem dX7_layStuck_12 : decode cX7_layStuck 12 = .ok (.iload_n 1, 1) := by decide +kernel
theorem dX7_layStuck_13 : decode cX7_layStuck 13 = .ok (.iload_n 1, 1) := by decide +kernel
theorem dX7_layStuck_14 : decode cX7_layStuck 14 = .ok (.aload_n 0, 1) := by decide +kernel
theorem dX7_layStuck_15 : decode cX7_layStuck 15 = .ok (.getfield 7, 3) := by decide +kernel
theorem dX7_layStuck_18 : decode cX7_layStuck 18 = .ok (.bipush 6, 2) := by decide +kernel
theorem dX7_layStuck_20 : decode cX7_layStuck 20 = .ok (.iaload, 1) := by decide +kernel
theorem dX7_layStuck_21 : decode cX7_layStuck 21 = .ok (.if_icmp .ge 17, 3) := by decide +kernel
theorem dX7_layStuck_24 : decode cX7_layStuck 24 = .ok (.aload_n 0, 1) := by decide +kernel
theorem dX7_layStuck_25 : decode cX7_layStuck 25 = .ok (.iload_n 1, 1) := by decide +kernel
theorem dX7_layStuck_26 : decode cX7_layStuck 26 = .ok (.iconst 2, 1) := by decide +kernel
theorem dX7_layStuck_27 : decode cX7_layStuck 27 = .ok (.invokevirtual 98, 3) := by decide +kernel
theorem dX7_layStuck_30 : decode cX7_layStuck 30 = .ok (.iconst 1, 1) := by decide +kernel
theorem dX7_layStuck_31 : decode cX7_layStuck 31 = .ok (.if_icmp .ne 7, 3) := by decide +kernel
theorem dX7_layStuck_34 : decode cX7_layStuck 34 = .ok (.iconst 1, 1) := by decide +kernel
theorem dX7_layStuck_35 : decode cX7_layStuck 35 = .ok (.goto 4, 3) := by decide +kernel
theorem dX7_layStuck_38 : decode cX7_layStuck 38 = .ok (.iconst 0, 1) := by decide +kernel
theorem dX7_layStuck_39 : decode cX7_layStuck 39 = .ok (.bastore, 1) := by decide +kernel
theorem dX7_layStuck_40 : decode cX7_layStuck 40 = .ok (.iinc 1 1, 3) := by decide +kernel
theorem dX7_layStuck_43 : decode cX7_layStuck 43 = .ok (.goto (-41), 3) := by decide +kernel
theorem dX7_layStuck_46 : decode cX7_layStuck 46 = .ok (.iconst 1, 1) := by decide +kernel
theorem dX7_layStuck_47 : decode cX7_layStuck 47 = .ok (.istore_n 1, 1) := by decide +kernel
theorem dX7_layStuck_48 : decode cX7_layStuck 48 = .ok (.iload_n 1, 1) := by decide +kernel
theorem dX7_layStuck_49 : decode cX7_layStuck 49 = .ok (.ifCond .eq 53, 3) := by decide +kernel
theorem dX7_layStuck_52 : decode cX7_layStuck 52 = .ok (.iconst 0, 1) := by decide +kernel
theorem dX7_layStuck_53 : decode cX7_layStuck 53 = .ok (.istore_n 1, 1) := by decide +kernel
theorem dX7_layStuck_54 : decode cX7_layStuck 54 = .ok (.iconst 0, 1) := by decide +kernel
theorem dX7_layStuck_55 : decode cX7_layStuck 55 = .ok (.istore_n 2, 1) := by decide +kernel
theorem dX7_layStuck_56 : decode cX7_layStuck 56 = .ok (.iload_n 2, 1) := by decide +kernel
theorem dX7_layStuck_57 : decode cX7_layStuck 57 = .ok (.aload_n 0, 1) := by decide +kernel
theorem dX7_layStuck_58 : decode cX7_layStuck 58 = .ok (.getfield 7, 3) := by decide +kernel
theorem dX7_layStuck_61 : decode cX7_layStuck 61 = .ok (.bipush 6, 2) := by decide +kernel
theorem dX7_layStuck_63 : decode cX7_layStuck 63 = .ok (.iaload, 1) := by decide +kernel
theorem dX7_layStuck_64 : decode cX7_layStuck 64 = .ok (.if_icmp .ge 35, 3) := by decide +kernel
theorem dX7_layStuck_67 : decode cX7_layStuck 67 = .ok (.aload_n 0, 1) := by decide +kernel
theorem dX7_layStuck_68 : decode cX7_layStuck 68 = .ok (.getfield 41, 3) := by decide +kernel
theorem dX7_layStuck_71 : decode cX7_layStuck 71 = .ok (.iload_n 2, 1) := by decide +kernel
theorem dX7_layStuck_72 : decode cX7_layStuck 72 = .ok (.baload, 1) := by decide +kernel
theorem dX7_layStuck_73 : decode cX7_layStuck 73 = .ok (.ifCond .eq 20, 3) := by decide +kernel
theorem dX7_layStuck_76 : decode cX7_layStuck 76 = .ok (.aload_n 0, 1) := by decide +kernel
theorem dX7_layStuck_77 : decode cX7_layStuck 77 = .ok (.iload_n 2, 1) := by decide +kernel
theorem dX7_layStuck_78 : decode cX7_layStuck 78 = .ok (.invokevirtual 131, 3) := by decide +kernel
theorem dX7_layStuck_81 : decode cX7_layStuck 81 = .ok (.ifCond .eq 12, 3) := by decide +kernel
theorem dX7_layStuck_84 : decode cX7_layStuck 84 = .ok (.aload_n 0, 1) := by decide +kernel
theorem dX7_layStuck_85 : decode cX7_layStuck 85 = .ok (.getfield 41, 3) := by decide +kernel
theorem dX7_layStuck_88 : decode cX7_layStuck 88 = .ok (.iload_n 2, 1) := by decide +kernel
theorem dX7_layStuck_89 : decode cX7_layStuck 89 = .ok (.iconst 0, 1) := by decide +kernel
theorem dX7_layStuck_90 : decode cX7_layStuck 90 = .ok (.bastore, 1) := by decide +kernel
theorem dX7_layStuck_91 : decode cX7_layStuck 91 = .ok (.iconst 1, 1) := by decide +kernel
theorem dX7_layStuck_92 : decode cX7_layStuck 92 = .ok (.istore_n 1, 1) := by decide +kernel
theorem dX7_layStuck_93 : decode cX7_layStuck 93 = .ok (.iinc 2 1, 3) := by decide +kernel
theorem dX7_layStuck_96 : decode cX7_layStuck 96 = .ok (.goto (-40), 3) := by decide +kernel
theorem dX7_layStuck_99 : decode cX7_layStuck 99 = .ok (.goto (-51), 3) := by decide +kernel
theorem dX7_layStuck_102 : decode cX7_layStuck 102 = .ok (.iconst 0, 1) := by decide +kernel
theorem dX7_layStuck_103 : decode cX7_layStuck 103 = .ok (.istore_n 2, 1) := by decide +kernel
theorem dX7_layStuck_104 : decode cX7_layStuck 104 = .ok (.iconst 0, 1) := by decide +kernel
theorem dX7_layStuck_105 : decode cX7_layStuck 105 = .ok (.istore_n 3, 1) := by decide +kernel
theorem dX7_layStuck_106 : decode cX7_layStuck 106 = .ok (.iload_n 3, 1) := by decide +kernel
theorem dX7_layStuck_107 : decode cX7_layStuck 107 = .ok (.aload_n 0, 1) := by decide +kernel
theorem dX7_layStuck_108 : decode cX7_layStuck 108 = .ok (.getfield 7, 3) := by decide +kernel
theorem dX7_layStuck_111 : decode cX7_layStuck 111 = .ok (.bipush 6, 2) := by decide +kernel
theorem dX7_layStuck_113 : decode cX7_layStuck 113 = .ok (.iaload, 1) := by decide +kernel
theorem dX7_layStuck_114 : decode cX7_layStuck 114 = .ok (.if_icmp .ge 26, 3) := by decide +kernel
theorem dX7_layStuck_117 : decode cX7_layStuck 117 = .ok (.iload_n 2, 1) := by decide +kernel
theorem dX7_layStuck_118 : decode cX7_layStuck 118 = .ok (.aload_n 0, 1) := by decide +kernel
theorem dX7_layStuck_119 : decode cX7_layStuck 119 = .ok (.getfield 41, 3) := by decide +kernel
theorem dX7_layStuck_122 : decode cX7_layStuck 122 = .ok (.iload_n 3, 1) := by decide +kernel
theorem dX7_layStuck_123 : decode cX7_layStuck 123 = .ok (.baload, 1) := by decide +kernel
theorem dX7_layStuck_124 : decode cX7_layStuck 124 = .ok (.ifCond .eq 7, 3) := by decide +kernel
theorem dX7_layStuck_127 : decode cX7_layStuck 127 = .ok (.iconst 1, 1) := by decide +kernel
theorem dX7_layStuck_128 : decode cX7_layStuck 128 = .ok (.goto 4, 3) := by decide +kernel
theorem dX7_layStuck_131 : decode cX7_layStuck 131 = .ok (.iconst 0, 1) := by decide +kernel
theorem dX7_layStuck_132 : decode cX7_layStuck 132 = .ok (.iadd, 1) := by decide +kernel
theorem dX7_layStuck_133 : decode cX7_layStuck 133 = .ok (.istore_n 2, 1) := by decide +kernel
theorem dX7_layStuck_134 : decode cX7_layStuck 134 = .ok (.iinc 3 1, 3) := by decide +kernel
theorem dX7_layStuck_137 : decode cX7_layStuck 137 = .ok (.goto (-31), 3) := by decide +kernel
theorem dX7_layStuck_140 : decode cX7_layStuck 140 = .ok (.iload_n 2, 1) := by decide +kernel
theorem dX7_layStuck_141 : decode cX7_layStuck 141 = .ok (.ireturn, 1) := by decide +kernel
theorem dX7_ofPacket_0 : decode cX7_ofPacket 0 = .ok (.aload_n 0, 1) := by decide +kernel
theorem dX7_ofPacket_1 : decode cX7_ofPacket 1 = .ok (.iload_n 1, 1) := by decide +kernel
theorem dX7_ofPacket_2 : decode cX7_ofPacket 2 = .ok (.invokevirtual 134, 3) := by decide +kernel
theorem dX7_ofPacket_5 : decode cX7_ofPacket 5 = .ok (.ifCond .ne 5, 3) := by decide +kernel
theorem dX7_ofPacket_8 : decode cX7_ofPacket 8 = .ok (.iconst (-1), 1) := by decide +kernel
theorem dX7_ofPacket_9 : decode cX7_ofPacket 9 = .ok (.ireturn, 1) := by decide +kernel
theorem dX7_ofPacket_10 : decode cX7_ofPacket 10 = .ok (.iload_n 2, 1) := by decide +kernel
theorem dX7_ofPacket_11 : decode cX7_ofPacket 11 = .ok (.tableswitch 81 10 12 #[25, 31, 61], 25) := by decide +kernel
theorem dX7_ofPacket_36 : decode cX7_ofPacket 36 = .ok (.aload_n 0, 1) := by decide +kernel
theorem dX7_ofPacket_37 : decode cX7_ofPacket 37 = .ok (.iload_n 1, 1) := by decide +kernel
theorem dX7_ofPacket_38 : decode cX7_ofPacket 38 = .ok (.invokevirtual 137, 3) := by decide +kernel
theorem dX7_ofPacket_41 : decode cX7_ofPacket 41 = .ok (.ireturn, 1) := by decide +kernel
theorem dX7_ofPacket_42 : decode cX7_ofPacket 42 = .ok (.aload_n 0, 1) := by decide +kernel
theorem dX7_ofPacket_43 : decode cX7_ofPacket 43 = .ok (.iload_n 1, 1) := by decide +kernel
theorem dX7_ofPacket_44 : decode cX7_ofPacket 44 = .ok (.iconst 2, 1) := by decide +kernel
theorem dX7_ofPacket_45 : decode cX7_ofPacket 45 = .ok (.invokevirtual 98, 3) := by decide +kernel
theorem dX7_ofPacket_48 : decode cX7_ofPacket 48 = .ok (.iconst 2, 1) := by decide +kernel
theorem dX7_ofPacket_49 : decode cX7_ofPacket 49 = .ok (.if_icmp .eq 20, 3) := by decide +kernel
theorem dX7_ofPacket_52 : decode cX7_ofPacket 52 = .ok (.aload_n 0, 1) := by decide +kernel
theorem dX7_ofPacket_53 : decode cX7_ofPacket 53 = .ok (.iload_n 1, 1) := by decide +kernel
theorem dX7_ofPacket_54 : decode cX7_ofPacket 54 = .ok (.invokevirtual 115, 3) := by decide +kernel
theorem dX7_ofPacket_57 : decode cX7_ofPacket 57 = .ok (.ifCond .le 12, 3) := by decide +kernel
theorem dX7_ofPacket_60 : decode cX7_ofPacket 60 = .ok (.aload_n 0, 1) := by decide +kernel
theorem dX7_ofPacket_61 : decode cX7_ofPacket 61 = .ok (.getfield 38, 3) := by decide +kernel
theorem dX7_ofPacket_64 : decode cX7_ofPacket 64 = .ok (.iconst 0, 1) := by decide +kernel
theorem dX7_ofPacket_65 : decode cX7_ofPacket 65 = .ok (.iaload, 1) := by decide +kernel
theorem dX7_ofPacket_66 : decode cX7_ofPacket 66 = .ok (.goto 5, 3) := by decide +kernel
theorem dX7_ofPacket_69 : decode cX7_ofPacket 69 = .ok (.bipush (-6), 2) := by decide +kernel
theorem dX7_ofPacket_71 : decode cX7_ofPacket 71 = .ok (.ireturn, 1) := by decide +kernel
theorem dX7_ofPacket_72 : decode cX7_ofPacket 72 = .ok (.aload_n 0, 1) := by decide +kernel
theorem dX7_ofPacket_73 : decode cX7_ofPacket 73 = .ok (.invokevirtual 140, 3) := by decide +kernel
theorem dX7_ofPacket_76 : decode cX7_ofPacket 76 = .ok (.pop, 1) := by decide +kernel
theorem dX7_ofPacket_77 : decode cX7_ofPacket 77 = .ok (.aload_n 0, 1) := by decide +kernel
theorem dX7_ofPacket_78 : decode cX7_ofPacket 78 = .ok (.getfield 41, 3) := by decide +kernel
theorem dX7_ofPacket_81 : decode cX7_ofPacket 81 = .ok (.iload_n 1, 1) := by decide +kernel
theorem dX7_ofPacket_82 : decode cX7_ofPacket 82 = .ok (.baload, 1) := by decide +kernel
theorem dX7_ofPacket_83 : decode cX7_ofPacket 83 = .ok (.ifCond .eq 7, 3) := by decide +kernel
theorem dX7_ofPacket_86 : decode cX7_ofPacket 86 = .ok (.iconst 1, 1) := by decide +kernel
theorem dX7_ofPacket_87 : decode cX7_ofPacket 87 = .ok (.goto 4, 3) := by decide +kernel
theorem dX7_ofPacket_90 : decode cX7_ofPacket 90 = .ok (.iconst 0, 1) := by decide +kernel
theorem dX7_ofPacket_91 : decode cX7_ofPacket 91 = .ok (.ireturn, 1) := by decide +kernel
theorem dX7_ofPacket_92 : decode cX7_ofPacket 92 = .ok (.iload_n 2, 1) := by decide +kernel
theorem dX7_ofPacket_93 : decode cX7_ofPacket 93 = .ok (.iconst 0, 1) := by decide +kernel
theorem dX7_ofPacket_94 : decode cX7_ofPacket 94 = .ok (.bipush 9, 2) := by decide +kernel
theorem dX7_ofPacket_96 : decode cX7_ofPacket 96 = .ok (.invokestatic 59, 3) := by decide +kernel
theorem dX7_ofPacket_99 : decode cX7_ofPacket 99 = .ok (.ifCond .eq 12, 3) := by decide +kernel
theorem dX7_ofPacket_102 : decode cX7_ofPacket 102 = .ok (.aload_n 0, 1) := by decide +kernel
theorem dX7_ofPacket_103 : decode cX7_ofPacket 103 = .ok (.iload_n 1, 1) := by decide +kernel
theorem dX7_ofPacket_104 : decode cX7_ofPacket 104 = .ok (.iload_n 2, 1) := by decide +kernel
theorem dX7_ofPacket_105 : decode cX7_ofPacket 105 = .ok (.invokevirtual 98, 3) := by decide +kernel
theorem dX7_ofPacket_108 : decode cX7_ofPacket 108 = .ok (.goto 5, 3) := by decide +kernel
theorem dX7_ofPacket_111 : decode cX7_ofPacket 111 = .ok (.bipush (-2), 2) := by decide +kernel
theorem dX7_ofPacket_113 : decode cX7_ofPacket 113 = .ok (.ireturn, 1) := by decide +kernel
theorem dX7_packetsOf_0 : decode cX7_packetsOf 0 = .ok (.iconst 0, 1) := by decide +kernel
theorem dX7_packetsOf_1 : decode cX7_packetsOf 1 = .ok (.istore_n 3, 1) := by decide +kernel
theorem dX7_packetsOf_2 : decode cX7_packetsOf 2 = .ok (.iconst 0, 1) := by decide +kernel
theorem dX7_packetsOf_3 : decode cX7_packetsOf 3 = .ok (.istore 4, 2) := by decide +kernel
theorem dX7_packetsOf_5 : decode cX7_packetsOf 5 = .ok (.iload 4, 2) := by decide +kernel
theorem dX7_packetsOf_7 : decode cX7_packetsOf 7 = .ok (.aload_n 0, 1) := by decide +kernel
theorem dX7_packetsOf_8 : decode cX7_packetsOf 8 = .ok (.getfield 7, 3) := by decide +kernel
theorem dX7_packetsOf_11 : decode cX7_packetsOf 11 = .ok (.bipush 6, 2) := by decide +kernel
theorem dX7_packetsOf_13 : decode cX7_packetsOf 13 = .ok (.iaload, 1) := by decide +kernel
theorem dX7_packetsOf_14 : decode cX7_packetsOf 14 = .ok (.if_icmp .ge 43, 3) := by decide +kernel
theorem dX7_packetsOf_17 : decode cX7_packetsOf 17 = .ok (.iload_n 3, 1) := by decide +kernel
theorem dX7_packetsOf_18 : decode cX7_packetsOf 18 = .ok (.aload_n 0, 1) := by decide +kernel
theorem dX7_packetsOf_19 : decode cX7_packetsOf 19 = .ok (.iload 4, 2) := by decide +kernel
theorem dX7_packetsOf_21 : decode cX7_packetsOf 21 = .ok (.iconst 2, 1) := by decide +kernel
theorem dX7_packetsOf_22 : decode cX7_packetsOf 22 = .ok (.invokevirtual 98, 3) := by decide +kernel
theorem dX7_packetsOf_25 : decode cX7_packetsOf 25 = .ok (.iload_n 2, 1) := by decide +kernel
theorem dX7_packetsOf_26 : decode cX7_packetsOf 26 = .ok (.if_icmp .ne 22, 3) := by decide +kernel
theorem dX7_packetsOf_29 : decode cX7_packetsOf 29 = .ok (.iload_n 1, 1) := by decide +kernel
theorem dX7_packetsOf_30 : decode cX7_packetsOf 30 = .ok (.ifCond .lt 14, 3) := by decide +kernel
theorem dX7_packetsOf_33 : decode cX7_packetsOf 33 = .ok (.aload_n 0, 1) := by decide +kernel
theorem dX7_packetsOf_34 : decode cX7_packetsOf 34 = .ok (.iload 4, 2) := by decide +kernel
theorem dX7_packetsOf_36 : decode cX7_packetsOf 36 = .ok (.iconst 3, 1) := by decide +kernel
theorem dX7_packetsOf_37 : decode cX7_packetsOf 37 = .ok (.invokevirtual 98, 3) := by decide +kernel
theorem dX7_packetsOf_40 : decode cX7_packetsOf 40 = .ok (.iload_n 1, 1) := by decide +kernel
theorem dX7_packetsOf_41 : decode cX7_packetsOf 41 = .ok (.if_icmp .ne 7, 3) := by decide +kernel
theorem dX7_packetsOf_44 : decode cX7_packetsOf 44 = .ok (.iconst 1, 1) := by decide +kernel
theorem dX7_packetsOf_45 : decode cX7_packetsOf 45 = .ok (.goto 4, 3) := by decide +kernel
theorem dX7_packetsOf_48 : decode cX7_packetsOf 48 = .ok (.iconst 0, 1) := by decide +kernel
theorem dX7_packetsOf_49 : decode cX7_packetsOf 49 = .ok (.iadd, 1) := by decide +kernel
theorem dX7_packetsOf_50 : decode cX7_packetsOf 50 = .ok (.istore_n 3, 1) := by decide +kernel
theorem dX7_packetsOf_51 : decode cX7_packetsOf 51 = .ok (.iinc 4 1, 3) := by decide +kernel
theorem dX7_packetsOf_54 : decode cX7_packetsOf 54 = .ok (.goto (-49), 3) := by decide +kernel
theorem dX7_packetsOf_57 : decode cX7_packetsOf 57 = .ok (.iload_n 3, 1) := by decide +kernel
theorem dX7_packetsOf_58 : decode cX7_packetsOf 58 = .ok (.ireturn, 1) := by decide +kernel
theorem dX7_ofBox_0 : decode cX7_ofBox 0 = .ok (.aload_n 0, 1) := by decide +kernel
theorem dX7_ofBox_1 : decode cX7_ofBox 1 = .ok (.iload_n 1, 1) := by decide +kernel
theorem dX7_ofBox_2 : decode cX7_ofBox 2 = .ok (.invokevirtual 76, 3) := by decide +kernel
theorem dX7_ofBox_5 : decode cX7_ofBox 5 = .ok (.ifCond .ne 5, 3) := by decide +kernel
theorem dX7_ofBox_8 : decode cX7_ofBox 8 = .ok (.iconst (-1), 1) := by decide +kernel
theorem dX7_ofBox_9 : decode cX7_ofBox 9 = .ok (.ireturn, 1) := by decide +kernel
theorem dX7_ofBox_10 : decode cX7_ofBox 10 = .ok (.iload_n 2, 1) := by decide +kernel
theorem dX7_ofBox_11 : decode cX7_ofBox 11 = .ok (.iconst 3, 1) := by decide +kernel
theorem dX7_ofBox_12 : decode cX7_ofBox 12 = .ok (.bipush 6, 2) := by decide +kernel
theorem dX7_ofBox_14 : decode cX7_ofBox 14 = .ok (.invokestatic 59, 3) := by decide +kernel
theorem dX7_ofBox_17 : decode cX7_ofBox 17 = .ok (.ifCond .eq 36, 3) := by decide +kernel
theorem dX7_ofBox_20 : decode cX7_ofBox 20 = .ok (.aload_n 0, 1) := by decide +kernel
theorem dX7_ofBox_21 : decode cX7_ofBox 21 = .ok (.iload_n 1, 1) := by decide +kernel
theorem dX7_ofBox_22 : decode cX7_ofBox 22 = .ok (.iload_n 2, 1) := by decide +kernel
theorem dX7_ofBox_23 : decode cX7_ofBox 23 = .ok (.iconst 3, 1) := by decide +kernel
theorem dX7_ofBox_24 : decode cX7_ofBox 24 = .ok (.isub, 1) := by decide +kernel
theorem dX7_ofBox_25 : decode cX7_ofBox 25 = .ok (.invokevirtual 63, 3) := by decide +kernel
theorem dX7_ofBox_28 : decode cX7_ofBox 28 = .ok (.ifCond .ge 8, 3) := by decide +kernel
theorem dX7_ofBox_31 : decode cX7_ofBox 31 = .ok (.bipush (-6), 2) := by decide +kernel
theorem dX7_ofBox_33 : decode cX7_ofBox 33 = .ok (.goto 19, 3) := by decide +kernel
theorem dX7_ofBox_36 : decode cX7_ofBox 36 = .ok (.aload_n 0, 1) := by decide +kernel
theorem dX7_ofBox_37 : decode cX7_ofBox 37 = .ok (.iload_n 1, 1) := by decide +kernel
theorem dX7_ofBox_38 : decode cX7_ofBox 38 = .ok (.iload_n 2, 1) := by decide +kernel
theorem dX7_ofBox_39 : decode cX7_ofBox 39 = .ok (.iconst 3, 1) := by decide +kernel
theorem dX7_ofBox_40 : decode cX7_ofBox 40 = .ok (.isub, 1) := by decide +kernel
theorem dX7_ofBox_41 : decode cX7_ofBox 41 = .ok (.invokevirtual 83, 3) := by decide +kernel
theorem dX7_ofBox_44 : decode cX7_ofBox 44 = .ok (.ifCond .eq 7, 3) := by decide +kernel
theorem dX7_ofBox_47 : decode cX7_ofBox 47 = .ok (.iconst 1, 1) := by decide +kernel
theorem dX7_ofBox_48 : decode cX7_ofBox 48 = .ok (.goto 4, 3) := by decide +kernel
theorem dX7_ofBox_51 : decode cX7_ofBox 51 = .ok (.iconst 0, 1) := by decide +kernel
theorem dX7_ofBox_52 : decode cX7_ofBox 52 = .ok (.ireturn, 1) := by decide +kernel
theorem dX7_ofBox_53 : decode cX7_ofBox 53 = .ok (.iload_n 2, 1) := by decide +kernel
theorem dX7_ofBox_54 : decode cX7_ofBox 54 = .ok (.bipush 7, 2) := by decide +kernel
theorem dX7_ofBox_56 : decode cX7_ofBox 56 = .ok (.bipush 10, 2) := by decide +kernel
theorem dX7_ofBox_58 : decode cX7_ofBox 58 = .ok (.invokestatic 59, 3) := by decide +kernel
theorem dX7_ofBox_61 : decode cX7_ofBox 61 = .ok (.ifCond .eq 20, 3) := by decide +kernel
theorem dX7_ofBox_64 : decode cX7_ofBox 64 = .ok (.aload_n 0, 1) := by decide +kernel
theorem dX7_ofBox_65 : decode cX7_ofBox 65 = .ok (.getfield 7, 3) := by decide +kernel
theorem dX7_ofBox_68 : decode cX7_ofBox 68 = .ok (.bipush 60, 2) := by decide +kernel
theorem dX7_ofBox_70 : decode cX7_ofBox 70 = .ok (.iconst 4, 1) := by decide +kernel
theorem dX7_ofBox_71 : decode cX7_ofBox 71 = .ok (.iload_n 1, 1) := by decide +kernel
theorem dX7_ofBox_72 : decode cX7_ofBox 72 = .ok (.imul, 1) := by decide +kernel
theorem dX7_ofBox_73 : decode cX7_ofBox 73 = .ok (.iadd, 1) := by decide +kernel
theorem dX7_ofBox_74 : decode cX7_ofBox 74 = .ok (.iload_n 2, 1) := by decide +kernel
theorem dX7_ofBox_75 : decode cX7_ofBox 75 = .ok (.iadd, 1) := by decide +kernel
theorem dX7_ofBox_76 : decode cX7_ofBox 76 = .ok (.bipush 7, 2) := by decide +kernel
theorem dX7_ofBox_78 : decode cX7_ofBox 78 = .ok (.isub, 1) := by decide +kernel
theorem dX7_ofBox_79 : decode cX7_ofBox 79 = .ok (.iaload, 1) := by decide +kernel
theorem dX7_ofBox_80 : decode cX7_ofBox 80 = .ok (.ireturn, 1) := by decide +kernel
theorem dX7_ofBox_81 : decode cX7_ofBox 81 = .ok (.iload_n 2, 1) := by decide +kernel
theorem dX7_ofBox_82 : decode cX7_ofBox 82 = .ok (.ifCond .ne 12, 3) := by decide +kernel
theorem dX7_ofBox_85 : decode cX7_ofBox 85 = .ok (.aload_n 0, 1) := by decide +kernel
theorem dX7_ofBox_86 : decode cX7_ofBox 86 = .ok (.iload_n 1, 1) := by decide +kernel
theorem dX7_ofBox_87 : decode cX7_ofBox 87 = .ok (.iconst 1, 1) := by decide +kernel
theorem dX7_ofBox_88 : decode cX7_ofBox 88 = .ok (.invokevirtual 143, 3) := by decide +kernel
theorem dX7_ofBox_91 : decode cX7_ofBox 91 = .ok (.goto 33, 3) := by decide +kernel
theorem dX7_ofBox_94 : decode cX7_ofBox 94 = .ok (.iload_n 2, 1) := by decide +kernel
theorem dX7_ofBox_95 : decode cX7_ofBox 95 = .ok (.iconst 1, 1) := by decide +kernel
theorem dX7_ofBox_96 : decode cX7_ofBox 96 = .ok (.if_icmp .ne 12, 3) := by decide +kernel
theorem dX7_ofBox_99 : decode cX7_ofBox 99 = .ok (.aload_n 0, 1) := by decide +kernel
theorem dX7_ofBox_100 : decode cX7_ofBox 100 = .ok (.iload_n 1, 1) := by decide +kernel
theorem dX7_ofBox_101 : decode cX7_ofBox 101 = .ok (.iconst 0, 1) := by decide +kernel
theorem dX7_ofBox_102 : decode cX7_ofBox 102 = .ok (.invokevirtual 143, 3) := by decide +kernel
theorem dX7_ofBox_105 : decode cX7_ofBox 105 = .ok (.goto 19, 3) := by decide +kernel
theorem dX7_ofBox_108 : decode cX7_ofBox 108 = .ok (.iload_n 2, 1) := by decide +kernel
theorem dX7_ofBox_109 : decode cX7_ofBox 109 = .ok (.iconst 2, 1) := by decide +kernel
theorem dX7_ofBox_110 : decode cX7_ofBox 110 = .ok (.if_icmp .ne 12, 3) := by decide +kernel
theorem dX7_ofBox_113 : decode cX7_ofBox 113 = .ok (.aload_n 0, 1) := by decide +kernel
theorem dX7_ofBox_114 : decode cX7_ofBox 114 = .ok (.iload_n 1, 1) := by decide +kernel
theorem dX7_ofBox_115 : decode cX7_ofBox 115 = .ok (.iconst 2, 1) := by decide +kernel
theorem dX7_ofBox_116 : decode cX7_ofBox 116 = .ok (.invokevirtual 143, 3) := by decide +kernel
theorem dX7_ofBox_119 : decode cX7_ofBox 119 = .ok (.goto 5, 3) := by decide +kernel
theorem dX7_ofBox_122 : decode cX7_ofBox 122 = .ok (.bipush (-2), 2) := by decide +kernel
theorem dX7_ofBox_124 : decode cX7_ofBox 124 = .ok (.ireturn, 1) := by decide +kernel
theorem dX7_sum_0 : decode cX7_sum 0 = .ok (.iconst 0, 1) := by decide +kernel
theorem dX7_sum_1 : decode cX7_sum 1 = .ok (.istore_n 2, 1) := by decide +kernel
theorem dX7_sum_2 : decode cX7_sum 2 = .ok (.iconst 0, 1) := by decide +kernel
theorem dX7_sum_3 : decode cX7_sum 3 = .ok (.istore_n 3, 1) := by decide +kernel
theorem dX7_sum_4 : decode cX7_sum 4 = .ok (.iload_n 3, 1) := by decide +kernel
theorem dX7_sum_5 : decode cX7_sum 5 = .ok (.aload_n 0, 1) := by decide +kernel
theorem dX7_sum_6 : decode cX7_sum 6 = .ok (.getfield 7, 3) := by decide +kernel
theorem dX7_sum_9 : decode cX7_sum 9 = .ok (.bipush 6, 2) := by decide +kernel
theorem dX7_sum_11 : decode cX7_sum 11 = .ok (.iaload, 1) := by decide +kernel
theorem dX7_sum_12 : decode cX7_sum 12 = .ok (.if_icmp .ge 18, 3) := by decide +kernel
theorem dX7_sum_15 : decode cX7_sum 15 = .ok (.iload_n 2, 1) := by decide +kernel
theorem dX7_sum_16 : decode cX7_sum 16 = .ok (.aload_n 0, 1) := by decide +kernel
theorem dX7_sum_17 : decode cX7_sum 17 = .ok (.iload_n 3, 1) := by decide +kernel
theorem dX7_sum_18 : decode cX7_sum 18 = .ok (.iload_n 1, 1) := by decide +kernel
theorem dX7_sum_19 : decode cX7_sum 19 = .ok (.invokevirtual 98, 3) := by decide +kernel
theorem dX7_sum_22 : decode cX7_sum 22 = .ok (.iadd, 1) := by decide +kernel
theorem dX7_sum_23 : decode cX7_sum 23 = .ok (.istore_n 2, 1) := by decide +kernel
theorem dX7_sum_24 : decode cX7_sum 24 = .ok (.iinc 3 1, 3) := by decide +kernel
theorem dX7_sum_27 : decode cX7_sum 27 = .ok (.goto (-23), 3) := by decide +kernel
theorem dX7_sum_30 : decode cX7_sum 30 = .ok (.iload_n 2, 1) := by decide +kernel
theorem dX7_sum_31 : decode cX7_sum 31 = .ok (.ireturn, 1) := by decide +kernel
theorem dX7_broken_0 : decode cX7_broken 0 = .ok (.iconst 0, 1) := by decide +kernel
theorem dX7_broken_1 : decode cX7_broken 1 = .ok (.istore_n 1, 1) := by decide +kernel
theorem dX7_broken_2 : decode cX7_broken 2 = .ok (.bipush 10, 2) := by decide +kernel
theorem dX7_broken_4 : decode cX7_broken 4 = .ok (.istore_n 2, 1) := by decide +kernel
theorem dX7_broken_5 : decode cX7_broken 5 = .ok (.iload_n 2, 1) := by decide +kernel
theorem dX7_broken_6 : decode cX7_broken 6 = .ok (.bipush 60, 2) := by decide +kernel
theorem dX7_broken_8 : decode cX7_broken 8 = .ok (.if_icmp .ge 18, 3) := by decide +kernel
theorem dX7_broken_11 : decode cX7_broken 11 = .ok (.iload_n 1, 1) := by decide +kernel
theorem dX7_broken_12 : decode cX7_broken 12 = .ok (.aload_n 0, 1) := by decide +kernel
theorem dX7_broken_13 : decode cX7_broken 13 = .ok (.getfield 7, 3) := by decide +kernel
theorem dX7_broken_16 : decode cX7_broken 16 = .ok (.iload_n 2, 1) := by decide +kernel
theorem dX7_broken_17 : decode cX7_broken 17 = .ok (.iaload, 1) := by decide +kernel
theorem dX7_broken_18 : decode cX7_broken 18 = .ok (.iadd, 1) := by decide +kernel
theorem dX7_broken_19 : decode cX7_broken 19 = .ok (.istore_n 1, 1) := by decide +kernel
theorem dX7_broken_20 : decode cX7_broken 20 = .ok (.iinc 2 1, 3) := by decide +kernel
theorem dX7_broken_23 : decode cX7_broken 23 = .ok (.goto (-18), 3) := by decide +kernel
theorem dX7_broken_26 : decode cX7_broken 26 = .ok (.iload_n 1, 1) := by decide +kernel
theorem dX7_broken_27 : decode cX7_broken 27 = .ok (.ireturn, 1) := by decide +kernel
theorem dX7_count_0 : decode cX7_count 0 = .ok (.iload_n 1, 1) := by decide +kernel
theorem dX7_count_1 : decode cX7_count 1 = .ok (.iconst 4, 1) := by decide +kernel
theorem dX7_count_2 : decode cX7_count 2 = .ok (.bipush 6, 2) := by decide +kernel
theorem dX7_count_4 : decode cX7_count 4 = .ok (.invokestatic 59, 3) := by decide +kernel
theorem dX7_count_7 : decode cX7_count 7 = .ok (.ifCond .eq 13, 3) := by decide +kernel
theorem dX7_count_10 : decode cX7_count 10 = .ok (.aload_n 0, 1) := by decide +kernel
theorem dX7_count_11 : decode cX7_count 11 = .ok (.bipush (-6), 2) := by decide +kernel
theorem dX7_count_13 : decode cX7_count 13 = .ok (.iload_n 1, 1) := by decide +kernel
theorem dX7_count_14 : decode cX7_count 14 = .ok (.iconst 4, 1) := by decide +kernel
theorem dX7_count_15 : decode cX7_count 15 = .ok (.isub, 1) := by decide +kernel
theorem dX7_count_16 : decode cX7_count 16 = .ok (.invokevirtual 143, 3) := by decide +kernel
theorem dX7_count_19 : decode cX7_count 19 = .ok (.ireturn, 1) := by decide +kernel
theorem dX7_count_20 : decode cX7_count 20 = .ok (.iload_n 1, 1) := by decide +kernel
theorem dX7_count_21 : decode cX7_count 21 = .ok (.bipush 7, 2) := by decide +kernel
theorem dX7_count_23 : decode cX7_count 23 = .ok (.bipush 9, 2) := by decide +kernel
theorem dX7_count_25 : decode cX7_count 25 = .ok (.invokestatic 59, 3) := by decide +kernel
theorem dX7_count_28 : decode cX7_count 28 = .ok (.ifCond .eq 14, 3) := by decide +kernel
theorem dX7_count_31 : decode cX7_count 31 = .ok (.aload_n 0, 1) := by decide +kernel
theorem dX7_count_32 : decode cX7_count 32 = .ok (.iload_n 1, 1) := by decide +kernel
theorem dX7_count_33 : decode cX7_count 33 = .ok (.bipush 7, 2) := by decide +kernel
theorem dX7_count_35 : decode cX7_count 35 = .ok (.isub, 1) := by decide +kernel
theorem dX7_count_36 : decode cX7_count 36 = .ok (.iconst 4, 1) := by decide +kernel
theorem dX7_count_37 : decode cX7_count 37 = .ok (.iadd, 1) := by decide +kernel
theorem dX7_count_38 : decode cX7_count 38 = .ok (.invokevirtual 146, 3) := by decide +kernel
theorem dX7_count_41 : decode cX7_count 41 = .ok (.ireturn, 1) := by decide +kernel
theorem dX7_count_42 : decode cX7_count 42 = .ok (.iload_n 1, 1) := by decide +kernel
theorem dX7_count_43 : decode cX7_count 43 = .ok (.bipush 14, 2) := by decide +kernel
theorem dX7_count_45 : decode cX7_count 45 = .ok (.bipush 16, 2) := by decide +kernel
theorem dX7_count_47 : decode cX7_count 47 = .ok (.invokestatic 59, 3) := by decide +kernel
theorem dX7_count_50 : decode cX7_count 50 = .ok (.ifCond .eq 13, 3) := by decide +kernel
theorem dX7_count_53 : decode cX7_count 53 = .ok (.aload_n 0, 1) := by decide +kernel
theorem dX7_count_54 : decode cX7_count 54 = .ok (.getfield 7, 3) := by decide +kernel
theorem dX7_count_57 : decode cX7_count 57 = .ok (.iload_n 1, 1) := by decide +kernel
theorem dX7_count_58 : decode cX7_count 58 = .ok (.bipush 14, 2) := by decide +kernel
theorem dX7_count_60 : decode cX7_count 60 = .ok (.isub, 1) := by decide +kernel
theorem dX7_count_61 : decode cX7_count 61 = .ok (.iaload, 1) := by decide +kernel
theorem dX7_count_62 : decode cX7_count 62 = .ok (.ireturn, 1) := by decide +kernel
theorem dX7_count_63 : decode cX7_count 63 = .ok (.iload_n 1, 1) := by decide +kernel
theorem dX7_count_64 : decode cX7_count 64 = .ok (.tableswitch 110 0 12 #[68, 75, 80, 87, 110, 110, 110, 110, 110, 110, 95, 100, 105], 68) := by decide +kernel
theorem dX7_count_132 : decode cX7_count 132 = .ok (.aload_n 0, 1) := by decide +kernel
theorem dX7_count_133 : decode cX7_count 133 = .ok (.getfield 7, 3) := by decide +kernel
theorem dX7_count_136 : decode cX7_count 136 = .ok (.iconst 3, 1) := by decide +kernel
theorem dX7_count_137 : decode cX7_count 137 = .ok (.iaload, 1) := by decide +kernel
theorem dX7_count_138 : decode cX7_count 138 = .ok (.ireturn, 1) := by decide +kernel
theorem dX7_count_139 : decode cX7_count 139 = .ok (.aload_n 0, 1) := by decide +kernel
theorem dX7_count_140 : decode cX7_count 140 = .ok (.invokevirtual 55, 3) := by decide +kernel
theorem dX7_count_143 : decode cX7_count 143 = .ok (.ireturn, 1) := by decide +kernel
theorem dX7_count_144 : decode cX7_count 144 = .ok (.aload_n 0, 1) := by decide +kernel
theorem dX7_count_145 : decode cX7_count 145 = .ok (.getfield 7, 3) := by decide +kernel
theorem dX7_count_148 : decode cX7_count 148 = .ok (.iconst 4, 1) := by decide +kernel
theorem dX7_count_149 : decode cX7_count 149 = .ok (.iaload, 1) := by decide +kernel
theorem dX7_count_150 : decode cX7_count 150 = .ok (.ireturn, 1) := by decide +kernel
theorem dX7_count_151 : decode cX7_count 151 = .ok (.aload_n 0, 1) := by decide +kernel
theorem dX7_count_152 : decode cX7_count 152 = .ok (.getfield 7, 3) := by decide +kernel
theorem dX7_count_155 : decode cX7_count 155 = .ok (.bipush 6, 2) := by decide +kernel
theorem dX7_count_157 : decode cX7_count 157 = .ok (.iaload, 1) := by decide +kernel
theorem dX7_count_158 : decode cX7_count 158 = .ok (.ireturn, 1) := by decide +kernel
theorem dX7_count_159 : decode cX7_count 159 = .ok (.aload_n 0, 1) := by decide +kernel
theorem dX7_count_160 : decode cX7_count 160 = .ok (.invokevirtual 140, 3) := by decide +kernel
theorem dX7_count_163 : decode cX7_count 163 = .ok (.ireturn, 1) := by decide +kernel
theorem dX7_count_164 : decode cX7_count 164 = .ok (.aload_n 0, 1) := by decide +kernel
theorem dX7_count_165 : decode cX7_count 165 = .ok (.invokevirtual 149, 3) := by decide +kernel
theorem dX7_count_168 : decode cX7_count 168 = .ok (.ireturn, 1) := by decide +kernel
theorem dX7_count_169 : decode cX7_count 169 = .ok (.aload_n 0, 1) := by decide +kernel
theorem dX7_count_170 : decode cX7_count 170 = .ok (.getfield 152, 3) := by decide +kernel
theorem dX7_count_173 : decode cX7_count 173 = .ok (.ireturn, 1) := by decide +kernel
theorem dX7_count_174 : decode cX7_count 174 = .ok (.iload_n 1, 1) := by decide +kernel
theorem dX7_count_175 : decode cX7_count 175 = .ok (.bipush 13, 2) := by decide +kernel
theorem dX7_count_177 : decode cX7_count 177 = .ok (.if_icmp .ne 10, 3) := by decide +kernel
theorem dX7_count_180 : decode cX7_count 180 = .ok (.aload_n 0, 1) := by decide +kernel
theorem dX7_count_181 : decode cX7_count 181 = .ok (.getfield 51, 3) := by decide +kernel
theorem dX7_count_184 : decode cX7_count 184 = .ok (.goto 5, 3) := by decide +kernel
theorem dX7_count_187 : decode cX7_count 187 = .ok (.bipush (-2), 2) := by decide +kernel
theorem dX7_count_189 : decode cX7_count 189 = .ok (.ireturn, 1) := by decide +kernel
theorem dX7_leastWay_0 : decode cX7_leastWay 0 = .ok (.aload_n 0, 1) := by decide +kernel
theorem dX7_leastWay_1 : decode cX7_leastWay 1 = .ok (.iload_n 1, 1) := by decide +kernel
theorem dX7_leastWay_2 : decode cX7_leastWay 2 = .ok (.invokevirtual 76, 3) := by decide +kernel
theorem dX7_leastWay_5 : decode cX7_leastWay 5 = .ok (.ifCond .eq 23, 3) := by decide +kernel
theorem dX7_leastWay_8 : decode cX7_leastWay 8 = .ok (.aload_n 0, 1) := by decide +kernel
theorem dX7_leastWay_9 : decode cX7_leastWay 9 = .ok (.iload_n 2, 1) := by decide +kernel
theorem dX7_leastWay_10 : decode cX7_leastWay 10 = .ok (.invokevirtual 76, 3) := by decide +kernel
theorem dX7_leastWay_13 : decode cX7_leastWay 13 = .ok (.ifCond .eq 15, 3) := by decide +kernel
theorem dX7_leastWay_16 : decode cX7_leastWay 16 = .ok (.aload_n 0, 1) := by decide +kernel
theorem dX7_leastWay_17 : decode cX7_leastWay 17 = .ok (.bipush 10, 2) := by decide +kernel
theorem dX7_leastWay_19 : decode cX7_leastWay 19 = .ok (.iload_n 1, 1) := by decide +kernel
theorem dX7_leastWay_20 : decode cX7_leastWay 20 = .ok (.imul, 1) := by decide +kernel
theorem dX7_leastWay_21 : decode cX7_leastWay 21 = .ok (.iload_n 2, 1) := by decide +kernel
theorem dX7_leastWay_22 : decode cX7_leastWay 22 = .ok (.invokevirtual 105, 3) := by decide +kernel
theorem dX7_leastWay_25 : decode cX7_leastWay 25 = .ok (.goto 4, 3) := by decide +kernel
theorem dX7_leastWay_28 : decode cX7_leastWay 28 = .ok (.iconst (-1), 1) := by decide +kernel
theorem dX7_leastWay_29 : decode cX7_leastWay 29 = .ok (.ireturn, 1) := by decide +kernel
theorem dX7_ways_0 : decode cX7_ways 0 = .ok (.aload_n 0, 1) := by decide +kernel
theorem dX7_ways_1 : decode cX7_ways 1 = .ok (.iload_n 1, 1) := by decide +kernel
theorem dX7_ways_2 : decode cX7_ways 2 = .ok (.invokevirtual 76, 3) := by decide +kernel
theorem dX7_ways_5 : decode cX7_ways 5 = .ok (.ifCond .eq 11, 3) := by decide +kernel
theorem dX7_ways_8 : decode cX7_ways 8 = .ok (.aload_n 0, 1) := by decide +kernel
theorem dX7_ways_9 : decode cX7_ways 9 = .ok (.iload_n 2, 1) := by decide +kernel
theorem dX7_ways_10 : decode cX7_ways 10 = .ok (.invokevirtual 76, 3) := by decide +kernel
theorem dX7_ways_13 : decode cX7_ways 13 = .ok (.ifCond .ne 5, 3) := by decide +kernel
theorem dX7_ways_16 : decode cX7_ways 16 = .ok (.iconst (-1), 1) := by decide +kernel
theorem dX7_ways_17 : decode cX7_ways 17 = .ok (.ireturn, 1) := by decide +kernel
theorem dX7_ways_18 : decode cX7_ways 18 = .ok (.aload_n 0, 1) := by decide +kernel
theorem dX7_ways_19 : decode cX7_ways 19 = .ok (.iload_n 2, 1) := by decide +kernel
theorem dX7_ways_20 : decode cX7_ways 20 = .ok (.invokevirtual 94, 3) := by decide +kernel
theorem dX7_ways_23 : decode cX7_ways 23 = .ok (.aload_n 0, 1) := by decide +kernel
theorem dX7_ways_24 : decode cX7_ways 24 = .ok (.getfield 32, 3) := by decide +kernel
theorem dX7_ways_27 : decode cX7_ways 27 = .ok (.sipush 250, 3) := by decide +kernel
theorem dX7_ways_30 : decode cX7_ways 30 = .ok (.iload_n 2, 1) := by decide +kernel
theorem dX7_ways_31 : decode cX7_ways 31 = .ok (.imul, 1) := by decide +kernel
theorem dX7_ways_32 : decode cX7_ways 32 = .ok (.bipush 10, 2) := by decide +kernel
theorem dX7_ways_34 : decode cX7_ways 34 = .ok (.iload_n 1, 1) := by decide +kernel
theorem dX7_ways_35 : decode cX7_ways 35 = .ok (.imul, 1) := by decide +kernel
theorem dX7_ways_36 : decode cX7_ways 36 = .ok (.iadd, 1) := by decide +kernel
theorem dX7_ways_37 : decode cX7_ways 37 = .ok (.iaload, 1) := by decide +kernel
theorem dX7_ways_38 : decode cX7_ways 38 = .ok (.ireturn, 1) := by decide +kernel
theorem dX7_pairsNow_0 : decode cX7_pairsNow 0 = .ok (.iconst 0, 1) := by decide +kernel
theorem dX7_pairsNow_1 : decode cX7_pairsNow 1 = .ok (.istore_n 1, 1) := by decide +kernel
theorem dX7_pairsNow_2 : decode cX7_pairsNow 2 = .ok (.iconst 0, 1) := by decide +kernel
theorem dX7_pairsNow_3 : decode cX7_pairsNow 3 = .ok (.istore_n 2, 1) := by decide +kernel
theorem dX7_pairsNow_4 : decode cX7_pairsNow 4 = .ok (.iload_n 2, 1) := by decide +kernel
theorem dX7_pairsNow_5 : decode cX7_pairsNow 5 = .ok (.aload_n 0, 1) := by decide +kernel
theorem dX7_pairsNow_6 : decode cX7_pairsNow 6 = .ok (.invokevirtual 55, 3) := by decide +kernel
theorem dX7_pairsNow_9 : decode cX7_pairsNow 9 = .ok (.if_icmp .ge 50, 3) := by decide +kernel
theorem dX7_pairsNow_12 : decode cX7_pairsNow 12 = .ok (.iconst 0, 1) := by decide +kernel
theorem dX7_pairsNow_13 : decode cX7_pairsNow 13 = .ok (.istore_n 3, 1) := by decide +kernel
theorem dX7_pairsNow_14 : decode cX7_pairsNow 14 = .ok (.iload_n 3, 1) := by decide +kernel
theorem dX7_pairsNow_15 : decode cX7_pairsNow 15 = .ok (.aload_n 0, 1) := by decide +kernel
theorem dX7_pairsNow_16 : decode cX7_pairsNow 16 = .ok (.invokevirtual 55, 3) := by decide +kernel
theorem dX7_pairsNow_19 : decode cX7_pairsNow 19 = .ok (.if_icmp .ge 34, 3) := by decide +kernel
theorem dX7_pairsNow_22 : decode cX7_pairsNow 22 = .ok (.iload_n 1, 1) := by decide +kernel
theorem dX7_pairsNow_23 : decode cX7_pairsNow 23 = .ok (.iload_n 2, 1) := by decide +kernel
theorem dX7_pairsNow_24 : decode cX7_pairsNow 24 = .ok (.iload_n 3, 1) := by decide +kernel
theorem dX7_pairsNow_25 : decode cX7_pairsNow 25 = .ok (.if_icmp .eq 19, 3) := by decide +kernel
theorem dX7_pairsNow_28 : decode cX7_pairsNow 28 = .ok (.aload_n 0, 1) := by decide +kernel
theorem dX7_pairsNow_29 : decode cX7_pairsNow 29 = .ok (.bipush 10, 2) := by decide +kernel
theorem dX7_pairsNow_31 : decode cX7_pairsNow 31 = .ok (.iload_n 2, 1) := by decide +kernel
theorem dX7_pairsNow_32 : decode cX7_pairsNow 32 = .ok (.imul, 1) := by decide +kernel
theorem dX7_pairsNow_33 : decode cX7_pairsNow 33 = .ok (.iload_n 3, 1) := by decide +kernel
theorem dX7_pairsNow_34 : decode cX7_pairsNow 34 = .ok (.invokevirtual 105, 3) := by decide +kernel
theorem dX7_pairsNow_37 : decode cX7_pairsNow 37 = .ok (.ifCond .lt 7, 3) := by decide +kernel
theorem dX7_pairsNow_40 : decode cX7_pairsNow 40 = .ok (.iconst 1, 1) := by decide +kernel
theorem dX7_pairsNow_41 : decode cX7_pairsNow 41 = .ok (.goto 4, 3) := by decide +kernel
theorem dX7_pairsNow_44 : decode cX7_pairsNow 44 = .ok (.iconst 0, 1) := by decide +kernel
theorem dX7_pairsNow_45 : decode cX7_pairsNow 45 = .ok (.iadd, 1) := by decide +kernel
theorem dX7_pairsNow_46 : decode cX7_pairsNow 46 = .ok (.istore_n 1, 1) := by decide +kernel
theorem dX7_pairsNow_47 : decode cX7_pairsNow 47 = .ok (.iinc 3 1, 3) := by decide +kernel
theorem dX7_pairsNow_50 : decode cX7_pairsNow 50 = .ok (.goto (-36), 3) := by decide +kernel
theorem dX7_pairsNow_53 : decode cX7_pairsNow 53 = .ok (.iinc 2 1, 3) := by decide +kernel
theorem dX7_pairsNow_56 : decode cX7_pairsNow 56 = .ok (.goto (-52), 3) := by decide +kernel
theorem dX7_pairsNow_59 : decode cX7_pairsNow 59 = .ok (.iload_n 1, 1) := by decide +kernel
theorem dX7_pairsNow_60 : decode cX7_pairsNow 60 = .ok (.ireturn, 1) := by decide +kernel
theorem dX7_pairs_0 : decode cX7_pairs 0 = .ok (.aload_n 0, 1) := by decide +kernel
theorem dX7_pairs_1 : decode cX7_pairs 1 = .ok (.invokevirtual 155, 3) := by decide +kernel
theorem dX7_pairs_4 : decode cX7_pairs 4 = .ok (.ireturn, 1) := by decide +kernel
theorem dX7_worstLink_0 : decode cX7_worstLink 0 = .ok (.iload_n 1, 1) := by decide +kernel
theorem dX7_worstLink_1 : decode cX7_worstLink 1 = .ok (.iconst 0, 1) := by decide +kernel
theorem dX7_worstLink_2 : decode cX7_worstLink 2 = .ok (.iconst 2, 1) := by decide +kernel
theorem dX7_worstLink_3 : decode cX7_worstLink 3 = .ok (.invokestatic 59, 3) := by decide +kernel
theorem dX7_worstLink_6 : decode cX7_worstLink 6 = .ok (.ifCond .ne 6, 3) := by decide +kernel
theorem dX7_worstLink_9 : decode cX7_worstLink 9 = .ok (.bipush (-2), 2) := by decide +kernel
theorem dX7_worstLink_11 : decode cX7_worstLink 11 = .ok (.ireturn, 1) := by decide +kernel
theorem dX7_worstLink_12 : decode cX7_worstLink 12 = .ok (.bipush (-6), 2) := by decide +kernel
theorem dX7_worstLink_14 : decode cX7_worstLink 14 = .ok (.istore_n 2, 1) := by decide +kernel
theorem dX7_worstLink_15 : decode cX7_worstLink 15 = .ok (.iconst 0, 1) := by decide +kernel
theorem dX7_worstLink_16 : decode cX7_worstLink 16 = .ok (.istore_n 3, 1) := by decide +kernel
theorem dX7_worstLink_17 : decode cX7_worstLink 17 = .ok (.iconst 0, 1) := by decide +kernel
theorem dX7_worstLink_18 : decode cX7_worstLink 18 = .ok (.istore 4, 2) := by decide +kernel
theorem dX7_worstLink_20 : decode cX7_worstLink 20 = .ok (.iload 4, 2) := by decide +kernel
theorem dX7_worstLink_22 : decode cX7_worstLink 22 = .ok (.aload_n 0, 1) := by decide +kernel
theorem dX7_worstLink_23 : decode cX7_worstLink 23 = .ok (.invokevirtual 55, 3) := by decide +kernel
theorem dX7_worstLink_26 : decode cX7_worstLink 26 = .ok (.if_icmp .ge 98, 3) := by decide +kernel
theorem dX7_worstLink_29 : decode cX7_worstLink 29 = .ok (.iconst 0, 1) := by decide +kernel
theorem dX7_worstLink_30 : decode cX7_worstLink 30 = .ok (.istore 5, 2) := by decide +kernel
theorem dX7_worstLink_32 : decode cX7_worstLink 32 = .ok (.iload 5, 2) := by decide +kernel
theorem dX7_worstLink_34 : decode cX7_worstLink 34 = .ok (.iconst 2, 1) := by decide +kernel
theorem dX7_worstLink_35 : decode cX7_worstLink 35 = .ok (.if_icmp .gt 83, 3) := by decide +kernel
theorem dX7_worstLink_38 : decode cX7_worstLink 38 = .ok (.aload_n 0, 1) := by decide +kernel
theorem dX7_worstLink_39 : decode cX7_worstLink 39 = .ok (.iload 4, 2) := by decide +kernel
theorem dX7_worstLink_41 : decode cX7_worstLink 41 = .ok (.iload 5, 2) := by decide +kernel
theorem dX7_worstLink_43 : decode cX7_worstLink 43 = .ok (.invokevirtual 83, 3) := by decide +kernel
theorem dX7_worstLink_46 : decode cX7_worstLink 46 = .ok (.ifCond .eq 66, 3) := by decide +kernel
theorem dX7_worstLink_49 : decode cX7_worstLink 49 = .ok (.aload_n 0, 1) := by decide +kernel
theorem dX7_worstLink_50 : decode cX7_worstLink 50 = .ok (.getfield 7, 3) := by decide +kernel
theorem dX7_worstLink_53 : decode cX7_worstLink 53 = .ok (.aload_n 0, 1) := by decide +kernel
theorem dX7_worstLink_54 : decode cX7_worstLink 54 = .ok (.iload 4, 2) := by decide +kernel
theorem dX7_worstLink_56 : decode cX7_worstLink 56 = .ok (.iload 5, 2) := by decide +kernel
theorem dX7_worstLink_58 : decode cX7_worstLink 58 = .ok (.invokevirtual 67, 3) := by decide +kernel
theorem dX7_worstLink_61 : decode cX7_worstLink 61 = .ok (.iconst 1, 1) := by decide +kernel
theorem dX7_worstLink_62 : decode cX7_worstLink 62 = .ok (.iastore, 1) := by decide +kernel
theorem dX7_worstLink_63 : decode cX7_worstLink 63 = .ok (.aload_n 0, 1) := by decide +kernel
theorem dX7_worstLink_64 : decode cX7_worstLink 64 = .ok (.invokevirtual 73, 3) := by decide +kernel
theorem dX7_worstLink_67 : decode cX7_worstLink 67 = .ok (.aload_n 0, 1) := by decide +kernel
theorem dX7_worstLink_68 : decode cX7_worstLink 68 = .ok (.invokevirtual 155, 3) := by decide +kernel
theorem dX7_worstLink_71 : decode cX7_worstLink 71 = .ok (.istore 6, 2) := by decide +kernel
theorem dX7_worstLink_73 : decode cX7_worstLink 73 = .ok (.aload_n 0, 1) := by decide +kernel
theorem dX7_worstLink_74 : decode cX7_worstLink 74 = .ok (.getfield 7, 3) := by decide +kernel
theorem dX7_worstLink_77 : decode cX7_worstLink 77 = .ok (.aload_n 0, 1) := by decide +kernel
theorem dX7_worstLink_78 : decode cX7_worstLink 78 = .ok (.iload 4, 2) := by decide +kernel
theorem dX7_worstLink_80 : decode cX7_worstLink 80 = .ok (.iload 5, 2) := by decide +kernel
theorem dX7_worstLink_82 : decode cX7_worstLink 82 = .ok (.invokevirtual 67, 3) := by decide +kernel
theorem dX7_worstLink_85 : decode cX7_worstLink 85 = .ok (.iconst 0, 1) := by decide +kernel
theorem dX7_worstLink_86 : decode cX7_worstLink 86 = .ok (.iastore, 1) := by decide +kernel
theorem dX7_worstLink_87 : decode cX7_worstLink 87 = .ok (.aload_n 0, 1) := by decide +kernel
theorem dX7_worstLink_88 : decode cX7_worstLink 88 = .ok (.invokevirtual 73, 3) := by decide +kernel
theorem dX7_worstLink_91 : decode cX7_worstLink 91 = .ok (.iload_n 2, 1) := by decide +kernel
theorem dX7_worstLink_92 : decode cX7_worstLink 92 = .ok (.ifCond .lt 9, 3) := by decide +kernel
theorem dX7_worstLink_95 : decode cX7_worstLink 95 = .ok (.iload 6, 2) := by decide +kernel
theorem dX7_worstLink_97 : decode cX7_worstLink 97 = .ok (.iload_n 3, 1) := by decide +kernel
theorem dX7_worstLink_98 : decode cX7_worstLink 98 = .ok (.if_icmp .ge 14, 3) := by decide +kernel
theorem dX7_worstLink_101 : decode cX7_worstLink 101 = .ok (.iconst 4, 1) := by decide +kernel
theorem dX7_worstLink_102 : decode cX7_worstLink 102 = .ok (.iload 4, 2) := by decide +kernel
theorem dX7_worstLink_104 : decode cX7_worstLink 104 = .ok (.imul, 1) := by decide +kernel
theorem dX7_worstLink_105 : decode cX7_worstLink 105 = .ok (.iload 5, 2) := by decide +kernel
theorem dX7_worstLink_107 : decode cX7_worstLink 107 = .ok (.iadd, 1) := by decide +kernel
theorem dX7_worstLink_108 : decode cX7_worstLink 108 = .ok (.istore_n 2, 1) := by decide +kernel
theorem dX7_worstLink_109 : decode cX7_worstLink 109 = .ok (.iload 6, 2) := by decide +kernel
theorem dX7_worstLink_111 : decode cX7_worstLink 111 = .ok (.istore_n 3, 1) := by decide +kernel
theorem dX7_worstLink_112 : decode cX7_worstLink 112 = .ok (.iinc 5 2, 3) := by decide +kernel
theorem dX7_worstLink_115 : decode cX7_worstLink 115 = .ok (.goto (-83), 3) := by decide +kernel
theorem dX7_worstLink_118 : decode cX7_worstLink 118 = .ok (.iinc 4 1, 3) := by decide +kernel
theorem dX7_worstLink_121 : decode cX7_worstLink 121 = .ok (.goto (-101), 3) := by decide +kernel
theorem dX7_worstLink_124 : decode cX7_worstLink 124 = .ok (.iload_n 2, 1) := by decide +kernel
theorem dX7_worstLink_125 : decode cX7_worstLink 125 = .ok (.ifCond .ge 8, 3) := by decide +kernel
theorem dX7_worstLink_128 : decode cX7_worstLink 128 = .ok (.bipush (-6), 2) := by decide +kernel
theorem dX7_worstLink_130 : decode cX7_worstLink 130 = .ok (.goto 25, 3) := by decide +kernel
theorem dX7_worstLink_133 : decode cX7_worstLink 133 = .ok (.iload_n 1, 1) := by decide +kernel
theorem dX7_worstLink_134 : decode cX7_worstLink 134 = .ok (.ifCond .ne 9, 3) := by decide +kernel
theorem dX7_worstLink_137 : decode cX7_worstLink 137 = .ok (.iload_n 2, 1) := by decide +kernel
theorem dX7_worstLink_138 : decode cX7_worstLink 138 = .ok (.iconst 4, 1) := by decide +kernel
theorem dX7_worstLink_139 : decode cX7_worstLink 139 = .ok (.idiv, 1) := by decide +kernel
theorem dX7_worstLink_140 : decode cX7_worstLink 140 = .ok (.goto 15, 3) := by decide +kernel
theorem dX7_worstLink_143 : decode cX7_worstLink 143 = .ok (.iload_n 1, 1) := by decide +kernel
theorem dX7_worstLink_144 : decode cX7_worstLink 144 = .ok (.iconst 1, 1) := by decide +kernel
theorem dX7_worstLink_145 : decode cX7_worstLink 145 = .ok (.if_icmp .ne 9, 3) := by decide +kernel
theorem dX7_worstLink_148 : decode cX7_worstLink 148 = .ok (.iload_n 2, 1) := by decide +kernel
theorem dX7_worstLink_149 : decode cX7_worstLink 149 = .ok (.iconst 4, 1) := by decide +kernel
theorem dX7_worstLink_150 : decode cX7_worstLink 150 = .ok (.irem, 1) := by decide +kernel
theorem dX7_worstLink_151 : decode cX7_worstLink 151 = .ok (.goto 4, 3) := by decide +kernel
theorem dX7_worstLink_154 : decode cX7_worstLink 154 = .ok (.iload_n 3, 1) := by decide +kernel
theorem dX7_worstLink_155 : decode cX7_worstLink 155 = .ok (.ireturn, 1) := by decide +kernel
theorem dX7_busiest_0 : decode cX7_busiest 0 = .ok (.iload_n 1, 1) := by decide +kernel
theorem dX7_busiest_1 : decode cX7_busiest 1 = .ok (.iconst 0, 1) := by decide +kernel
theorem dX7_busiest_2 : decode cX7_busiest 2 = .ok (.iconst 2, 1) := by decide +kernel
theorem dX7_busiest_3 : decode cX7_busiest 3 = .ok (.invokestatic 59, 3) := by decide +kernel
theorem dX7_busiest_6 : decode cX7_busiest 6 = .ok (.ifCond .ne 6, 3) := by decide +kernel
theorem dX7_busiest_9 : decode cX7_busiest 9 = .ok (.bipush (-2), 2) := by decide +kernel
theorem dX7_busiest_11 : decode cX7_busiest 11 = .ok (.ireturn, 1) := by decide +kernel
theorem dX7_busiest_12 : decode cX7_busiest 12 = .ok (.iconst 0, 1) := by decide +kernel
theorem dX7_busiest_13 : decode cX7_busiest 13 = .ok (.istore_n 2, 1) := by decide +kernel
theorem dX7_busiest_14 : decode cX7_busiest 14 = .ok (.iconst 1, 1) := by decide +kernel
theorem dX7_busiest_15 : decode cX7_busiest 15 = .ok (.istore_n 3, 1) := by decide +kernel
theorem dX7_busiest_16 : decode cX7_busiest 16 = .ok (.iload_n 3, 1) := by decide +kernel
theorem dX7_busiest_17 : decode cX7_busiest 17 = .ok (.iconst 4, 1) := by decide +kernel
theorem dX7_busiest_18 : decode cX7_busiest 18 = .ok (.aload_n 0, 1) := by decide +kernel
theorem dX7_busiest_19 : decode cX7_busiest 19 = .ok (.invokevirtual 55, 3) := by decide +kernel
theorem dX7_busiest_22 : decode cX7_busiest 22 = .ok (.imul, 1) := by decide +kernel
theorem dX7_busiest_23 : decode cX7_busiest 23 = .ok (.if_icmp .ge 36, 3) := by decide +kernel
theorem dX7_busiest_26 : decode cX7_busiest 26 = .ok (.aload_n 0, 1) := by decide +kernel
theorem dX7_busiest_27 : decode cX7_busiest 27 = .ok (.getfield 7, 3) := by decide +kernel
theorem dX7_busiest_30 : decode cX7_busiest 30 = .ok (.bipush 60, 2) := by decide +kernel
theorem dX7_busiest_32 : decode cX7_busiest 32 = .ok (.iload_n 3, 1) := by decide +kernel
theorem dX7_busiest_33 : decode cX7_busiest 33 = .ok (.iadd, 1) := by decide +kernel
theorem dX7_busiest_34 : decode cX7_busiest 34 = .ok (.iaload, 1) := by decide +kernel
theorem dX7_busiest_35 : decode cX7_busiest 35 = .ok (.aload_n 0, 1) := by decide +kernel
theorem dX7_busiest_36 : decode cX7_busiest 36 = .ok (.getfield 7, 3) := by decide +kernel
theorem dX7_busiest_39 : decode cX7_busiest 39 = .ok (.bipush 60, 2) := by decide +kernel
theorem dX7_busiest_41 : decode cX7_busiest 41 = .ok (.iload_n 2, 1) := by decide +kernel
theorem dX7_busiest_42 : decode cX7_busiest 42 = .ok (.iadd, 1) := by decide +kernel
theorem dX7_busiest_43 : decode cX7_busiest 43 = .ok (.iaload, 1) := by decide +kernel
theorem dX7_busiest_44 : decode cX7_busiest 44 = .ok (.if_icmp .le 7, 3) := by decide +kernel
theorem dX7_busiest_47 : decode cX7_busiest 47 = .ok (.iload_n 3, 1) := by decide +kernel
theorem dX7_busiest_48 : decode cX7_busiest 48 = .ok (.goto 4, 3) := by decide +kernel
theorem dX7_busiest_51 : decode cX7_busiest 51 = .ok (.iload_n 2, 1) := by decide +kernel
theorem dX7_busiest_52 : decode cX7_busiest 52 = .ok (.istore_n 2, 1) := by decide +kernel
theorem dX7_busiest_53 : decode cX7_busiest 53 = .ok (.iinc 3 1, 3) := by decide +kernel
theorem dX7_busiest_56 : decode cX7_busiest 56 = .ok (.goto (-40), 3) := by decide +kernel
theorem dX7_busiest_59 : decode cX7_busiest 59 = .ok (.aload_n 0, 1) := by decide +kernel
theorem dX7_busiest_60 : decode cX7_busiest 60 = .ok (.getfield 7, 3) := by decide +kernel
theorem dX7_busiest_63 : decode cX7_busiest 63 = .ok (.bipush 60, 2) := by decide +kernel
theorem dX7_busiest_65 : decode cX7_busiest 65 = .ok (.iload_n 2, 1) := by decide +kernel
theorem dX7_busiest_66 : decode cX7_busiest 66 = .ok (.iadd, 1) := by decide +kernel
theorem dX7_busiest_67 : decode cX7_busiest 67 = .ok (.iaload, 1) := by decide +kernel
theorem dX7_busiest_68 : decode cX7_busiest 68 = .ok (.istore_n 3, 1) := by decide +kernel
theorem dX7_busiest_69 : decode cX7_busiest 69 = .ok (.iload_n 3, 1) := by decide +kernel
theorem dX7_busiest_70 : decode cX7_busiest 70 = .ok (.ifCond .ne 8, 3) := by decide +kernel
theorem dX7_busiest_73 : decode cX7_busiest 73 = .ok (.bipush (-6), 2) := by decide +kernel
theorem dX7_busiest_75 : decode cX7_busiest 75 = .ok (.goto 25, 3) := by decide +kernel
theorem dX7_busiest_78 : decode cX7_busiest 78 = .ok (.iload_n 1, 1) := by decide +kernel
theorem dX7_busiest_79 : decode cX7_busiest 79 = .ok (.ifCond .ne 9, 3) := by decide +kernel
theorem dX7_busiest_82 : decode cX7_busiest 82 = .ok (.iload_n 2, 1) := by decide +kernel
theorem dX7_busiest_83 : decode cX7_busiest 83 = .ok (.iconst 4, 1) := by decide +kernel
theorem dX7_busiest_84 : decode cX7_busiest 84 = .ok (.idiv, 1) := by decide +kernel
theorem dX7_busiest_85 : decode cX7_busiest 85 = .ok (.goto 15, 3) := by decide +kernel
theorem dX7_busiest_88 : decode cX7_busiest 88 = .ok (.iload_n 1, 1) := by decide +kernel
theorem dX7_busiest_89 : decode cX7_busiest 89 = .ok (.iconst 1, 1) := by decide +kernel
theorem dX7_busiest_90 : decode cX7_busiest 90 = .ok (.if_icmp .ne 9, 3) := by decide +kernel
theorem dX7_busiest_93 : decode cX7_busiest 93 = .ok (.iload_n 2, 1) := by decide +kernel
theorem dX7_busiest_94 : decode cX7_busiest 94 = .ok (.iconst 4, 1) := by decide +kernel
theorem dX7_busiest_95 : decode cX7_busiest 95 = .ok (.irem, 1) := by decide +kernel
theorem dX7_busiest_96 : decode cX7_busiest 96 = .ok (.goto 4, 3) := by decide +kernel
theorem dX7_busiest_99 : decode cX7_busiest 99 = .ok (.iload_n 3, 1) := by decide +kernel
theorem dX7_busiest_100 : decode cX7_busiest 100 = .ok (.ireturn, 1) := by decide +kernel
theorem dX7_arrivesIn_0 : decode cX7_arrivesIn 0 = .ok (.aload_n 0, 1) := by decide +kernel
theorem dX7_arrivesIn_1 : decode cX7_arrivesIn 1 = .ok (.iload_n 1, 1) := by decide +kernel
theorem dX7_arrivesIn_2 : decode cX7_arrivesIn 2 = .ok (.invokevirtual 134, 3) := by decide +kernel
theorem dX7_arrivesIn_5 : decode cX7_arrivesIn 5 = .ok (.ifCond .ne 5, 3) := by decide +kernel
theorem dX7_arrivesIn_8 : decode cX7_arrivesIn 8 = .ok (.iconst (-1), 1) := by decide +kernel
theorem dX7_arrivesIn_9 : decode cX7_arrivesIn 9 = .ok (.ireturn, 1) := by decide +kernel
theorem dX7_arrivesIn_10 : decode cX7_arrivesIn 10 = .ok (.aload_n 0, 1) := by decide +kernel
theorem dX7_arrivesIn_11 : decode cX7_arrivesIn 11 = .ok (.invokevirtual 158, 3) := by decide +kernel
theorem dX7_arrivesIn_14 : decode cX7_arrivesIn 14 = .ok (.iconst 0, 1) := by decide +kernel
theorem dX7_arrivesIn_15 : decode cX7_arrivesIn 15 = .ok (.istore_n 2, 1) := by decide +kernel
theorem dX7_arrivesIn_16 : decode cX7_arrivesIn 16 = .ok (.aload_n 0, 1) := by decide +kernel
theorem dX7_arrivesIn_17 : decode cX7_arrivesIn 17 = .ok (.iload_n 1, 1) := by decide +kernel
theorem dX7_arrivesIn_18 : decode cX7_arrivesIn 18 = .ok (.iconst 2, 1) := by decide +kernel
theorem dX7_arrivesIn_19 : decode cX7_arrivesIn 19 = .ok (.invokevirtual 98, 3) := by decide +kernel
theorem dX7_arrivesIn_22 : decode cX7_arrivesIn 22 = .ok (.iconst 2, 1) := by decide +kernel
theorem dX7_arrivesIn_23 : decode cX7_arrivesIn 23 = .ok (.if_icmp .eq 20, 3) := by decide +kernel
theorem dX7_arrivesIn_26 : decode cX7_arrivesIn 26 = .ok (.iload_n 2, 1) := by decide +kernel
theorem dX7_arrivesIn_27 : decode cX7_arrivesIn 27 = .ok (.sipush 300, 3) := by decide +kernel
theorem dX7_arrivesIn_30 : decode cX7_arrivesIn 30 = .ok (.if_icmp .ge 13, 3) := by decide +kernel
theorem dX7_arrivesIn_33 : decode cX7_arrivesIn 33 = .ok (.aload_n 0, 1) := by decide +kernel
theorem dX7_arrivesIn_34 : decode cX7_arrivesIn 34 = .ok (.invokevirtual 128, 3) := by decide +kernel
theorem dX7_arrivesIn_37 : decode cX7_arrivesIn 37 = .ok (.iinc 2 1, 3) := by decide +kernel
theorem dX7_arrivesIn_40 : decode cX7_arrivesIn 40 = .ok (.goto (-24), 3) := by decide +kernel
theorem dX7_arrivesIn_43 : decode cX7_arrivesIn 43 = .ok (.aload_n 0, 1) := by decide +kernel
theorem dX7_arrivesIn_44 : decode cX7_arrivesIn 44 = .ok (.iload_n 1, 1) := by decide +kernel
theorem dX7_arrivesIn_45 : decode cX7_arrivesIn 45 = .ok (.iconst 2, 1) := by decide +kernel
theorem dX7_arrivesIn_46 : decode cX7_arrivesIn 46 = .ok (.invokevirtual 98, 3) := by decide +kernel
theorem dX7_arrivesIn_49 : decode cX7_arrivesIn 49 = .ok (.iconst 2, 1) := by decide +kernel
theorem dX7_arrivesIn_50 : decode cX7_arrivesIn 50 = .ok (.if_icmp .ne 7, 3) := by decide +kernel
theorem dX7_arrivesIn_53 : decode cX7_arrivesIn 53 = .ok (.iload_n 2, 1) := by decide +kernel
theorem dX7_arrivesIn_54 : decode cX7_arrivesIn 54 = .ok (.goto 5, 3) := by decide +kernel
theorem dX7_arrivesIn_57 : decode cX7_arrivesIn 57 = .ok (.bipush (-6), 2) := by decide +kernel
theorem dX7_arrivesIn_59 : decode cX7_arrivesIn 59 = .ok (.istore_n 3, 1) := by decide +kernel
theorem dX7_arrivesIn_60 : decode cX7_arrivesIn 60 = .ok (.aload_n 0, 1) := by decide +kernel
theorem dX7_arrivesIn_61 : decode cX7_arrivesIn 61 = .ok (.invokevirtual 161, 3) := by decide +kernel
theorem dX7_arrivesIn_64 : decode cX7_arrivesIn 64 = .ok (.iload_n 3, 1) := by decide +kernel
theorem dX7_arrivesIn_65 : decode cX7_arrivesIn 65 = .ok (.ireturn, 1) := by decide +kernel
theorem dX7_arrivedBy_0 : decode cX7_arrivedBy 0 = .ok (.iload_n 1, 1) := by decide +kernel
theorem dX7_arrivedBy_1 : decode cX7_arrivedBy 1 = .ok (.iconst 1, 1) := by decide +kernel
theorem dX7_arrivedBy_2 : decode cX7_arrivedBy 2 = .ok (.sipush 300, 3) := by decide +kernel
theorem dX7_arrivedBy_5 : decode cX7_arrivedBy 5 = .ok (.invokestatic 59, 3) := by decide +kernel
theorem dX7_arrivedBy_8 : decode cX7_arrivedBy 8 = .ok (.ifCond .ne 6, 3) := by decide +kernel
theorem dX7_arrivedBy_11 : decode cX7_arrivedBy 11 = .ok (.bipush (-2), 2) := by decide +kernel
theorem dX7_arrivedBy_13 : decode cX7_arrivedBy 13 = .ok (.ireturn, 1) := by decide +kernel
theorem dX7_arrivedBy_14 : decode cX7_arrivedBy 14 = .ok (.aload_n 0, 1) := by decide +kernel
theorem dX7_arrivedBy_15 : decode cX7_arrivedBy 15 = .ok (.invokevirtual 158, 3) := by decide +kernel
theorem dX7_arrivedBy_18 : decode cX7_arrivedBy 18 = .ok (.iconst 0, 1) := by decide +kernel
theorem dX7_arrivedBy_19 : decode cX7_arrivedBy 19 = .ok (.istore_n 2, 1) := by decide +kernel
theorem dX7_arrivedBy_20 : decode cX7_arrivedBy 20 = .ok (.iload_n 2, 1) := by decide +kernel
theorem dX7_arrivedBy_21 : decode cX7_arrivedBy 21 = .ok (.iload_n 1, 1) := by decide +kernel
theorem dX7_arrivedBy_22 : decode cX7_arrivedBy 22 = .ok (.if_icmp .ge 13, 3) := by decide +kernel
theorem dX7_arrivedBy_25 : decode cX7_arrivedBy 25 = .ok (.aload_n 0, 1) := by decide +kernel
theorem dX7_arrivedBy_26 : decode cX7_arrivedBy 26 = .ok (.invokevirtual 128, 3) := by decide +kernel
theorem dX7_arrivedBy_29 : decode cX7_arrivedBy 29 = .ok (.iinc 2 1, 3) := by decide +kernel
theorem dX7_arrivedBy_32 : decode cX7_arrivedBy 32 = .ok (.goto (-12), 3) := by decide +kernel
theorem dX7_arrivedBy_35 : decode cX7_arrivedBy 35 = .ok (.aload_n 0, 1) := by decide +kernel
theorem dX7_arrivedBy_36 : decode cX7_arrivedBy 36 = .ok (.bipush (-6), 2) := by decide +kernel
theorem dX7_arrivedBy_38 : decode cX7_arrivedBy 38 = .ok (.iconst 2, 1) := by decide +kernel
theorem dX7_arrivedBy_39 : decode cX7_arrivedBy 39 = .ok (.invokevirtual 143, 3) := by decide +kernel
theorem dX7_arrivedBy_42 : decode cX7_arrivedBy 42 = .ok (.istore_n 2, 1) := by decide +kernel
theorem dX7_arrivedBy_43 : decode cX7_arrivedBy 43 = .ok (.aload_n 0, 1) := by decide +kernel
theorem dX7_arrivedBy_44 : decode cX7_arrivedBy 44 = .ok (.invokevirtual 161, 3) := by decide +kernel
theorem dX7_arrivedBy_47 : decode cX7_arrivedBy 47 = .ok (.iload_n 2, 1) := by decide +kernel
theorem dX7_arrivedBy_48 : decode cX7_arrivedBy 48 = .ok (.ireturn, 1) := by decide +kernel
theorem dX7_sign_0 : decode cX7_sign 0 = .ok (.aload_n 0, 1) := by decide +kernel
theorem dX7_sign_1 : decode cX7_sign 1 = .ok (.getfield 164, 3) := by decide +kernel
theorem dX7_sign_4 : decode cX7_sign 4 = .ok (.aload_n 0, 1) := by decide +kernel
theorem dX7_sign_5 : decode cX7_sign 5 = .ok (.getfield 152, 3) := by decide +kernel
theorem dX7_sign_8 : decode cX7_sign 8 = .ok (.if_icmp .ge 15, 3) := by decide +kernel
theorem dX7_sign_11 : decode cX7_sign 11 = .ok (.aload_n 0, 1) := by decide +kernel
theorem dX7_sign_12 : decode cX7_sign 12 = .ok (.getfield 26, 3) := by decide +kernel
theorem dX7_sign_15 : decode cX7_sign 15 = .ok (.aload_n 0, 1) := by decide +kernel
theorem dX7_sign_16 : decode cX7_sign 16 = .ok (.getfield 164, 3) := by decide +kernel
theorem dX7_sign_19 : decode cX7_sign 19 = .ok (.iaload, 1) := by decide +kernel
theorem dX7_sign_20 : decode cX7_sign 20 = .ok (.goto 4, 3) := by decide +kernel
theorem dX7_sign_23 : decode cX7_sign 23 = .ok (.iconst 0, 1) := by decide +kernel
theorem dX7_sign_24 : decode cX7_sign 24 = .ok (.ireturn, 1) := by decide +kernel
theorem dX7_number_0 : decode cX7_number 0 = .ok (.aload_n 0, 1) := by decide +kernel
theorem dX7_number_1 : decode cX7_number 1 = .ok (.invokevirtual 167, 3) := by decide +kernel
theorem dX7_number_4 : decode cX7_number 4 = .ok (.bipush 48, 2) := by decide +kernel
theorem dX7_number_6 : decode cX7_number 6 = .ok (.isub, 1) := by decide +kernel
theorem dX7_number_7 : decode cX7_number 7 = .ok (.istore_n 1, 1) := by decide +kernel
theorem dX7_number_8 : decode cX7_number 8 = .ok (.aload_n 0, 1) := by decide +kernel
theorem dX7_number_9 : decode cX7_number 9 = .ok (.aload_n 0, 1) := by decide +kernel
theorem dX7_number_10 : decode cX7_number 10 = .ok (.getfield 170, 3) := by decide +kernel
theorem dX7_number_13 : decode cX7_number 13 = .ok (.ifCond .ne 13, 3) := by decide +kernel
theorem dX7_number_16 : decode cX7_number 16 = .ok (.iload_n 1, 1) := by decide +kernel
theorem dX7_number_17 : decode cX7_number 17 = .ok (.iconst 0, 1) := by decide +kernel
theorem dX7_number_18 : decode cX7_number 18 = .ok (.bipush 9, 2) := by decide +kernel
theorem dX7_number_20 : decode cX7_number 20 = .ok (.invokestatic 59, 3) := by decide +kernel
theorem dX7_number_23 : decode cX7_number 23 = .ok (.ifCond .ne 7, 3) := by decide +kernel
theorem dX7_number_26 : decode cX7_number 26 = .ok (.iconst 1, 1) := by decide +kernel
theorem dX7_number_27 : decode cX7_number 27 = .ok (.goto 4, 3) := by decide +kernel
theorem dX7_number_30 : decode cX7_number 30 = .ok (.iconst 0, 1) := by decide +kernel
theorem dX7_number_31 : decode cX7_number 31 = .ok (.putfield 170, 3) := by decide +kernel
theorem dX7_number_34 : decode cX7_number 34 = .ok (.aload_n 0, 1) := by decide +kernel
theorem dX7_number_35 : decode cX7_number 35 = .ok (.getfield 170, 3) := by decide +kernel
theorem dX7_number_38 : decode cX7_number 38 = .ok (.ifCond .eq 5, 3) := by decide +kernel
theorem dX7_number_41 : decode cX7_number 41 = .ok (.iconst 0, 1) := by decide +kernel
theorem dX7_number_42 : decode cX7_number 42 = .ok (.ireturn, 1) := by decide +kernel
theorem dX7_number_43 : decode cX7_number 43 = .ok (.aload_n 0, 1) := by decide +kernel
theorem dX7_number_44 : decode cX7_number 44 = .ok (.dup, 1) := by decide +kernel
theorem dX7_number_45 : decode cX7_number 45 = .ok (.getfield 164, 3) := by decide +kernel
theorem dX7_number_48 : decode cX7_number 48 = .ok (.iconst 1, 1) := by decide +kernel
theorem dX7_number_49 : decode cX7_number 49 = .ok (.iadd, 1) := by decide +kernel
theorem dX7_number_50 : decode cX7_number 50 = .ok (.putfield 164, 3) := by decide +kernel
theorem dX7_number_53 : decode cX7_number 53 = .ok (.iload_n 1, 1) := by decide +kernel
theorem dX7_number_54 : decode cX7_number 54 = .ok (.ifCond .le 60, 3) := by decide +kernel
theorem dX7_number_57 : decode cX7_number 57 = .ok (.aload_n 0, 1) := by decide +kernel
theorem dX7_number_58 : decode cX7_number 58 = .ok (.invokevirtual 167, 3) := by decide +kernel
theorem dX7_number_61 : decode cX7_number 61 = .ok (.bipush 48, 2) := by decide +kernel
theorem dX7_number_63 : decode cX7_number 63 = .ok (.bipush 57, 2) := by decide +kernel
theorem dX7_number_65 : decode cX7_number 65 = .ok (.invokestatic 59, 3) := by decide +kernel
theorem dX7_number_68 : decode cX7_number 68 = .ok (.ifCond .eq 46, 3) := by decide +kernel
theorem dX7_number_71 : decode cX7_number 71 = .ok (.bipush 10, 2) := by decide +kernel
theorem dX7_number_73 : decode cX7_number 73 = .ok (.iload_n 1, 1) := by decide +kernel
theorem dX7_number_74 : decode cX7_number 74 = .ok (.imul, 1) := by decide +kernel
theorem dX7_number_75 : decode cX7_number 75 = .ok (.aload_n 0, 1) := by decide +kernel
theorem dX7_number_76 : decode cX7_number 76 = .ok (.invokevirtual 167, 3) := by decide +kernel
theorem dX7_number_79 : decode cX7_number 79 = .ok (.iadd, 1) := by decide +kernel
theorem dX7_number_80 : decode cX7_number 80 = .ok (.bipush 48, 2) := by decide +kernel
theorem dX7_number_82 : decode cX7_number 82 = .ok (.isub, 1) := by decide +kernel
theorem dX7_number_83 : decode cX7_number 83 = .ok (.bipush 99, 2) := by decide +kernel
theorem dX7_number_85 : decode cX7_number 85 = .ok (.if_icmp .gt 29, 3) := by decide +kernel
theorem dX7_number_88 : decode cX7_number 88 = .ok (.bipush 10, 2) := by decide +kernel
theorem dX7_number_90 : decode cX7_number 90 = .ok (.iload_n 1, 1) := by decide +kernel
theorem dX7_number_91 : decode cX7_number 91 = .ok (.imul, 1) := by decide +kernel
theorem dX7_number_92 : decode cX7_number 92 = .ok (.aload_n 0, 1) := by decide +kernel
theorem dX7_number_93 : decode cX7_number 93 = .ok (.invokevirtual 167, 3) := by decide +kernel
theorem dX7_number_96 : decode cX7_number 96 = .ok (.iadd, 1) := by decide +kernel
theorem dX7_number_97 : decode cX7_number 97 = .ok (.bipush 48, 2) := by decide +kernel
theorem dX7_number_99 : decode cX7_number 99 = .ok (.isub, 1) := by decide +kernel
theorem dX7_number_100 : decode cX7_number 100 = .ok (.istore_n 1, 1) := by decide +kernel
theorem dX7_number_101 : decode cX7_number 101 = .ok (.aload_n 0, 1) := by decide +kernel
theorem dX7_number_102 : decode cX7_number 102 = .ok (.dup, 1) := by decide +kernel
theorem dX7_number_103 : decode cX7_number 103 = .ok (.getfield 164, 3) := by decide +kernel
theorem dX7_number_106 : decode cX7_number 106 = .ok (.iconst 1, 1) := by decide +kernel
theorem dX7_number_107 : decode cX7_number 107 = .ok (.iadd, 1) := by decide +kernel
theorem dX7_number_108 : decode cX7_number 108 = .ok (.putfield 164, 3) := by decide +kernel
theorem dX7_number_111 : decode cX7_number 111 = .ok (.goto (-58), 3) := by decide +kernel
theorem dX7_number_114 : decode cX7_number 114 = .ok (.iload_n 1, 1) := by decide +kernel
theorem dX7_number_115 : decode cX7_number 115 = .ok (.ireturn, 1) := by decide +kernel
theorem dX7_side_0 : decode cX7_side 0 = .ok (.aload_n 0, 1) := by decide +kernel
theorem dX7_side_1 : decode cX7_side 1 = .ok (.invokevirtual 167, 3) := by decide +kernel
theorem dX7_side_4 : decode cX7_side 4 = .ok (.istore_n 1, 1) := by decide +kernel
theorem dX7_side_5 : decode cX7_side 5 = .ok (.iload_n 1, 1) := by decide +kernel
theorem dX7_side_6 : decode cX7_side 6 = .ok (.bipush 101, 2) := by decide +kernel
theorem dX7_side_8 : decode cX7_side 8 = .ok (.if_icmp .ne 7, 3) := by decide +kernel
theorem dX7_side_11 : decode cX7_side 11 = .ok (.iconst 0, 1) := by decide +kernel
theorem dX7_side_12 : decode cX7_side 12 = .ok (.goto 35, 3) := by decide +kernel
theorem dX7_side_15 : decode cX7_side 15 = .ok (.iload_n 1, 1) := by decide +kernel
theorem dX7_side_16 : decode cX7_side 16 = .ok (.bipush 119, 2) := by decide +kernel
theorem dX7_side_18 : decode cX7_side 18 = .ok (.if_icmp .ne 7, 3) := by decide +kernel
theorem dX7_side_21 : decode cX7_side 21 = .ok (.iconst 1, 1) := by decide +kernel
theorem dX7_side_22 : decode cX7_side 22 = .ok (.goto 25, 3) := by decide +kernel
theorem dX7_side_25 : decode cX7_side 25 = .ok (.iload_n 1, 1) := by decide +kernel
theorem dX7_side_26 : decode cX7_side 26 = .ok (.bipush 110, 2) := by decide +kernel
theorem dX7_side_28 : decode cX7_side 28 = .ok (.if_icmp .ne 7, 3) := by decide +kernel
theorem dX7_side_31 : decode cX7_side 31 = .ok (.iconst 2, 1) := by decide +kernel
theorem dX7_side_32 : decode cX7_side 32 = .ok (.goto 15, 3) := by decide +kernel
theorem dX7_side_35 : decode cX7_side 35 = .ok (.iload_n 1, 1) := by decide +kernel
theorem dX7_side_36 : decode cX7_side 36 = .ok (.bipush 115, 2) := by decide +kernel
theorem dX7_side_38 : decode cX7_side 38 = .ok (.if_icmp .ne 7, 3) := by decide +kernel
theorem dX7_side_41 : decode cX7_side 41 = .ok (.iconst 3, 1) := by decide +kernel
theorem dX7_side_42 : decode cX7_side 42 = .ok (.goto 5, 3) := by decide +kernel
theorem dX7_side_45 : decode cX7_side 45 = .ok (.bipush (-6), 2) := by decide +kernel
theorem dX7_side_47 : decode cX7_side 47 = .ok (.istore_n 2, 1) := by decide +kernel
theorem dX7_side_48 : decode cX7_side 48 = .ok (.aload_n 0, 1) := by decide +kernel
theorem dX7_side_49 : decode cX7_side 49 = .ok (.aload_n 0, 1) := by decide +kernel
theorem dX7_side_50 : decode cX7_side 50 = .ok (.getfield 170, 3) := by decide +kernel
theorem dX7_side_53 : decode cX7_side 53 = .ok (.ifCond .ne 7, 3) := by decide +kernel
theorem dX7_side_56 : decode cX7_side 56 = .ok (.iload_n 2, 1) := by decide +kernel
theorem dX7_side_57 : decode cX7_side 57 = .ok (.ifCond .ge 7, 3) := by decide +kernel
theorem dX7_side_60 : decode cX7_side 60 = .ok (.iconst 1, 1) := by decide +kernel
theorem dX7_side_61 : decode cX7_side 61 = .ok (.goto 4, 3) := by decide +kernel
theorem dX7_side_64 : decode cX7_side 64 = .ok (.iconst 0, 1) := by decide +kernel
theorem dX7_side_65 : decode cX7_side 65 = .ok (.putfield 170, 3) := by decide +kernel
theorem dX7_side_68 : decode cX7_side 68 = .ok (.aload_n 0, 1) := by decide +kernel
theorem dX7_side_69 : decode cX7_side 69 = .ok (.dup, 1) := by decide +kernel
theorem dX7_side_70 : decode cX7_side 70 = .ok (.getfield 164, 3) := by decide +kernel
theorem dX7_side_73 : decode cX7_side 73 = .ok (.aload_n 0, 1) := by decide +kernel
theorem dX7_side_74 : decode cX7_side 74 = .ok (.getfield 170, 3) := by decide +kernel
theorem dX7_side_77 : decode cX7_side 77 = .ok (.ifCond .eq 7, 3) := by decide +kernel
theorem dX7_side_80 : decode cX7_side 80 = .ok (.iconst 0, 1) := by decide +kernel
theorem dX7_side_81 : decode cX7_side 81 = .ok (.goto 4, 3) := by decide +kernel
theorem dX7_side_84 : decode cX7_side 84 = .ok (.iconst 1, 1) := by decide +kernel
theorem dX7_side_85 : decode cX7_side 85 = .ok (.iadd, 1) := by decide +kernel
theorem dX7_side_86 : decode cX7_side 86 = .ok (.putfield 164, 3) := by decide +kernel
theorem dX7_side_89 : decode cX7_side 89 = .ok (.iload_n 2, 1) := by decide +kernel
theorem dX7_side_90 : decode cX7_side 90 = .ok (.ireturn, 1) := by decide +kernel
theorem dX7_readOne_0 : decode cX7_readOne 0 = .ok (.iconst 3, 1) := by decide +kernel
theorem dX7_readOne_1 : decode cX7_readOne 1 = .ok (.aload_n 0, 1) := by decide +kernel
theorem dX7_readOne_2 : decode cX7_readOne 2 = .ok (.getfield 173, 3) := by decide +kernel
theorem dX7_readOne_5 : decode cX7_readOne 5 = .ok (.imul, 1) := by decide +kernel
theorem dX7_readOne_6 : decode cX7_readOne 6 = .ok (.istore_n 1, 1) := by decide +kernel
theorem dX7_readOne_7 : decode cX7_readOne 7 = .ok (.aload_n 0, 1) := by decide +kernel
theorem dX7_readOne_8 : decode cX7_readOne 8 = .ok (.invokevirtual 167, 3) := by decide +kernel
theorem dX7_readOne_11 : decode cX7_readOne 11 = .ok (.istore_n 2, 1) := by decide +kernel
theorem dX7_readOne_12 : decode cX7_readOne 12 = .ok (.aload_n 0, 1) := by decide +kernel
theorem dX7_readOne_13 : decode cX7_readOne 13 = .ok (.getfield 44, 3) := by decide +kernel
theorem dX7_readOne_16 : decode cX7_readOne 16 = .ok (.iload_n 1, 1) := by decide +kernel
theorem dX7_readOne_17 : decode cX7_readOne 17 = .ok (.iload_n 2, 1) := by decide +kernel
theorem dX7_readOne_18 : decode cX7_readOne 18 = .ok (.iastore, 1) := by decide +kernel
theorem dX7_readOne_19 : decode cX7_readOne 19 = .ok (.aload_n 0, 1) := by decide +kernel
theorem dX7_readOne_20 : decode cX7_readOne 20 = .ok (.iload_n 2, 1) := by decide +kernel
theorem dX7_readOne_21 : decode cX7_readOne 21 = .ok (.bipush 115, 2) := by decide +kernel
theorem dX7_readOne_23 : decode cX7_readOne 23 = .ok (.if_icmp .eq 25, 3) := by decide +kernel
theorem dX7_readOne_26 : decode cX7_readOne 26 = .ok (.iload_n 2, 1) := by decide +kernel
theorem dX7_readOne_27 : decode cX7_readOne 27 = .ok (.bipush 98, 2) := by decide +kernel
theorem dX7_readOne_29 : decode cX7_readOne 29 = .ok (.if_icmp .eq 19, 3) := by decide +kernel
theorem dX7_readOne_32 : decode cX7_readOne 32 = .ok (.iload_n 2, 1) := by decide +kernel
theorem dX7_readOne_33 : decode cX7_readOne 33 = .ok (.bipush 109, 2) := by decide +kernel
theorem dX7_readOne_35 : decode cX7_readOne 35 = .ok (.if_icmp .eq 13, 3) := by decide +kernel
theorem dX7_readOne_38 : decode cX7_readOne 38 = .ok (.iload_n 2, 1) := by decide +kernel
theorem dX7_readOne_39 : decode cX7_readOne 39 = .ok (.bipush 116, 2) := by decide +kernel
theorem dX7_readOne_41 : decode cX7_readOne 41 = .ok (.if_icmp .eq 7, 3) := by decide +kernel
theorem dX7_readOne_44 : decode cX7_readOne 44 = .ok (.iconst 1, 1) := by decide +kernel
theorem dX7_readOne_45 : decode cX7_readOne 45 = .ok (.goto 4, 3) := by decide +kernel
theorem dX7_readOne_48 : decode cX7_readOne 48 = .ok (.iconst 0, 1) := by decide +kernel
theorem dX7_readOne_49 : decode cX7_readOne 49 = .ok (.putfield 170, 3) := by decide +kernel
theorem dX7_readOne_52 : decode cX7_readOne 52 = .ok (.aload_n 0, 1) := by decide +kernel
theorem dX7_readOne_53 : decode cX7_readOne 53 = .ok (.getfield 170, 3) := by decide +kernel
theorem dX7_readOne_56 : decode cX7_readOne 56 = .ok (.ifCond .eq 4, 3) := by decide +kernel
theorem dX7_readOne_59 : decode cX7_readOne 59 = .ok (.return_, 1) := by decide +kernel
theorem dX7_readOne_60 : decode cX7_readOne 60 = .ok (.aload_n 0, 1) := by decide +kernel
theorem dX7_readOne_61 : decode cX7_readOne 61 = .ok (.dup, 1) := by decide +kernel
theorem dX7_readOne_62 : decode cX7_readOne 62 = .ok (.getfield 164, 3) := by decide +kernel
theorem dX7_readOne_65 : decode cX7_readOne 65 = .ok (.iconst 1, 1) := by decide +kernel
theorem dX7_readOne_66 : decode cX7_readOne 66 = .ok (.iadd, 1) := by decide +kernel
theorem dX7_readOne_67 : decode cX7_readOne 67 = .ok (.putfield 164, 3) := by decide +kernel
theorem dX7_readOne_70 : decode cX7_readOne 70 = .ok (.aload_n 0, 1) := by decide +kernel
theorem dX7_readOne_71 : decode cX7_readOne 71 = .ok (.getfield 44, 3) := by decide +kernel
theorem dX7_readOne_74 : decode cX7_readOne 74 = .ok (.iload_n 1, 1) := by decide +kernel
theorem dX7_readOne_75 : decode cX7_readOne 75 = .ok (.iconst 1, 1) := by decide +kernel
theorem dX7_readOne_76 : decode cX7_readOne 76 = .ok (.iadd, 1) := by decide +kernel
theorem dX7_readOne_77 : decode cX7_readOne 77 = .ok (.aload_n 0, 1) := by decide +kernel
theorem dX7_readOne_78 : decode cX7_readOne 78 = .ok (.invokevirtual 176, 3) := by decide +kernel
theorem dX7_readOne_81 : decode cX7_readOne 81 = .ok (.iastore, 1) := by decide +kernel
theorem dX7_readOne_82 : decode cX7_readOne 82 = .ok (.iload_n 2, 1) := by decide +kernel
theorem dX7_readOne_83 : decode cX7_readOne 83 = .ok (.bipush 115, 2) := by decide +kernel
theorem dX7_readOne_85 : decode cX7_readOne 85 = .ok (.if_icmp .ne 64, 3) := by decide +kernel
theorem dX7_readOne_88 : decode cX7_readOne 88 = .ok (.aload_n 0, 1) := by decide +kernel
theorem dX7_readOne_89 : decode cX7_readOne 89 = .ok (.aload_n 0, 1) := by decide +kernel
theorem dX7_readOne_90 : decode cX7_readOne 90 = .ok (.getfield 170, 3) := by decide +kernel
theorem dX7_readOne_93 : decode cX7_readOne 93 = .ok (.ifCond .ne 12, 3) := by decide +kernel
theorem dX7_readOne_96 : decode cX7_readOne 96 = .ok (.aload_n 0, 1) := by decide +kernel
theorem dX7_readOne_97 : decode cX7_readOne 97 = .ok (.invokevirtual 167, 3) := by decide +kernel
theorem dX7_readOne_100 : decode cX7_readOne 100 = .ok (.bipush 62, 2) := by decide +kernel
theorem dX7_readOne_102 : decode cX7_readOne 102 = .ok (.if_icmp .eq 7, 3) := by decide +kernel
theorem dX7_readOne_105 : decode cX7_readOne 105 = .ok (.iconst 1, 1) := by decide +kernel
theorem dX7_readOne_106 : decode cX7_readOne 106 = .ok (.goto 4, 3) := by decide +kernel
theorem dX7_readOne_109 : decode cX7_readOne 109 = .ok (.iconst 0, 1) := by decide +kernel
theorem dX7_readOne_110 : decode cX7_readOne 110 = .ok (.putfield 170, 3) := by decide +kernel
theorem dX7_readOne_113 : decode cX7_readOne 113 = .ok (.aload_n 0, 1) := by decide +kernel
theorem dX7_readOne_114 : decode cX7_readOne 114 = .ok (.dup, 1) := by decide +kernel
theorem dX7_readOne_115 : decode cX7_readOne 115 = .ok (.getfield 164, 3) := by decide +kernel
theorem dX7_readOne_118 : decode cX7_readOne 118 = .ok (.aload_n 0, 1) := by decide +kernel
theorem dX7_readOne_119 : decode cX7_readOne 119 = .ok (.getfield 170, 3) := by decide +kernel
theorem dX7_readOne_122 : decode cX7_readOne 122 = .ok (.ifCond .eq 7, 3) := by decide +kernel
theorem dX7_readOne_125 : decode cX7_readOne 125 = .ok (.iconst 0, 1) := by decide +kernel
theorem dX7_readOne_126 : decode cX7_readOne 126 = .ok (.goto 4, 3) := by decide +kernel
theorem dX7_readOne_129 : decode cX7_readOne 129 = .ok (.iconst 1, 1) := by decide +kernel
theorem dX7_readOne_130 : decode cX7_readOne 130 = .ok (.iadd, 1) := by decide +kernel
theorem dX7_readOne_131 : decode cX7_readOne 131 = .ok (.putfield 164, 3) := by decide +kernel
theorem dX7_readOne_134 : decode cX7_readOne 134 = .ok (.aload_n 0, 1) := by decide +kernel
theorem dX7_readOne_135 : decode cX7_readOne 135 = .ok (.getfield 44, 3) := by decide +kernel
theorem dX7_readOne_138 : decode cX7_readOne 138 = .ok (.iload_n 1, 1) := by decide +kernel
theorem dX7_readOne_139 : decode cX7_readOne 139 = .ok (.iconst 2, 1) := by decide +kernel
theorem dX7_readOne_140 : decode cX7_readOne 140 = .ok (.iadd, 1) := by decide +kernel
theorem dX7_readOne_141 : decode cX7_readOne 141 = .ok (.aload_n 0, 1) := by decide +kernel
theorem dX7_readOne_142 : decode cX7_readOne 142 = .ok (.invokevirtual 176, 3) := by decide +kernel
theorem dX7_readOne_145 : decode cX7_readOne 145 = .ok (.iastore, 1) := by decide +kernel
theorem dX7_readOne_146 : decode cX7_readOne 146 = .ok (.goto 21, 3) := by decide +kernel
theorem dX7_readOne_149 : decode cX7_readOne 149 = .ok (.iload_n 2, 1) := by decide +kernel
theorem dX7_readOne_150 : decode cX7_readOne 150 = .ok (.bipush 116, 2) := by decide +kernel
theorem dX7_readOne_152 : decode cX7_readOne 152 = .ok (.if_icmp .eq 15, 3) := by decide +kernel
theorem dX7_readOne_155 : decode cX7_readOne 155 = .ok (.aload_n 0, 1) := by decide +kernel
theorem dX7_readOne_156 : decode cX7_readOne 156 = .ok (.getfield 44, 3) := by decide +kernel
theorem dX7_readOne_159 : decode cX7_readOne 159 = .ok (.iload_n 1, 1) := by decide +kernel
theorem dX7_readOne_160 : decode cX7_readOne 160 = .ok (.iconst 2, 1) := by decide +kernel
theorem dX7_readOne_161 : decode cX7_readOne 161 = .ok (.iadd, 1) := by decide +kernel
theorem dX7_readOne_162 : decode cX7_readOne 162 = .ok (.aload_n 0, 1) := by decide +kernel
theorem dX7_readOne_163 : decode cX7_readOne 163 = .ok (.invokevirtual 179, 3) := by decide +kernel
theorem dX7_readOne_166 : decode cX7_readOne 166 = .ok (.iastore, 1) := by decide +kernel
theorem dX7_readOne_167 : decode cX7_readOne 167 = .ok (.aload_n 0, 1) := by decide +kernel
theorem dX7_readOne_168 : decode cX7_readOne 168 = .ok (.dup, 1) := by decide +kernel
theorem dX7_readOne_169 : decode cX7_readOne 169 = .ok (.getfield 173, 3) := by decide +kernel
theorem dX7_readOne_172 : decode cX7_readOne 172 = .ok (.iconst 1, 1) := by decide +kernel
theorem dX7_readOne_173 : decode cX7_readOne 173 = .ok (.iadd, 1) := by decide +kernel
theorem dX7_readOne_174 : decode cX7_readOne 174 = .ok (.putfield 173, 3) := by decide +kernel
theorem dX7_readOne_177 : decode cX7_readOne 177 = .ok (.return_, 1) := by decide +kernel
theorem dX7_faultOf_0 : decode cX7_faultOf 0 = .ok (.aload_n 0, 1) := by decide +kernel
theorem dX7_faultOf_1 : decode cX7_faultOf 1 = .ok (.iconst 0, 1) := by decide +kernel
theorem dX7_faultOf_2 : decode cX7_faultOf 2 = .ok (.putfield 164, 3) := by decide +kernel
theorem dX7_faultOf_5 : decode cX7_faultOf 5 = .ok (.aload_n 0, 1) := by decide +kernel
theorem dX7_faultOf_6 : decode cX7_faultOf 6 = .ok (.iconst 0, 1) := by decide +kernel
theorem dX7_faultOf_7 : decode cX7_faultOf 7 = .ok (.putfield 173, 3) := by decide +kernel
theorem dX7_faultOf_10 : decode cX7_faultOf 10 = .ok (.aload_n 0, 1) := by decide +kernel
theorem dX7_faultOf_11 : decode cX7_faultOf 11 = .ok (.iconst 0, 1) := by decide +kernel
theorem dX7_faultOf_12 : decode cX7_faultOf 12 = .ok (.putfield 170, 3) := by decide +kernel
theorem dX7_faultOf_15 : decode cX7_faultOf 15 = .ok (.aload_n 0, 1) := by decide +kernel
theorem dX7_faultOf_16 : decode cX7_faultOf 16 = .ok (.invokevirtual 182, 3) := by decide +kernel
theorem dX7_faultOf_19 : decode cX7_faultOf 19 = .ok (.aload_n 0, 1) := by decide +kernel
theorem dX7_faultOf_20 : decode cX7_faultOf 20 = .ok (.getfield 170, 3) := by decide +kernel
theorem dX7_faultOf_23 : decode cX7_faultOf 23 = .ok (.ifCond .ne 56, 3) := by decide +kernel
theorem dX7_faultOf_26 : decode cX7_faultOf 26 = .ok (.aload_n 0, 1) := by decide +kernel
theorem dX7_faultOf_27 : decode cX7_faultOf 27 = .ok (.getfield 164, 3) := by decide +kernel
theorem dX7_faultOf_30 : decode cX7_faultOf 30 = .ok (.aload_n 0, 1) := by decide +kernel
theorem dX7_faultOf_31 : decode cX7_faultOf 31 = .ok (.getfield 152, 3) := by decide +kernel
theorem dX7_faultOf_34 : decode cX7_faultOf 34 = .ok (.if_icmp .ge 45, 3) := by decide +kernel
theorem dX7_faultOf_37 : decode cX7_faultOf 37 = .ok (.aload_n 0, 1) := by decide +kernel
theorem dX7_faultOf_38 : decode cX7_faultOf 38 = .ok (.aload_n 0, 1) := by decide +kernel
theorem dX7_faultOf_39 : decode cX7_faultOf 39 = .ok (.invokevirtual 167, 3) := by decide +kernel
theorem dX7_faultOf_42 : decode cX7_faultOf 42 = .ok (.bipush 59, 2) := by decide +kernel
theorem dX7_faultOf_44 : decode cX7_faultOf 44 = .ok (.if_icmp .eq 7, 3) := by decide +kernel
theorem dX7_faultOf_47 : decode cX7_faultOf 47 = .ok (.iconst 1, 1) := by decide +kernel
theorem dX7_faultOf_48 : decode cX7_faultOf 48 = .ok (.goto 4, 3) := by decide +kernel
theorem dX7_faultOf_51 : decode cX7_faultOf 51 = .ok (.iconst 0, 1) := by decide +kernel
theorem dX7_faultOf_52 : decode cX7_faultOf 52 = .ok (.putfield 170, 3) := by decide +kernel
theorem dX7_faultOf_55 : decode cX7_faultOf 55 = .ok (.aload_n 0, 1) := by decide +kernel
theorem dX7_faultOf_56 : decode cX7_faultOf 56 = .ok (.getfield 170, 3) := by decide +kernel
theorem dX7_faultOf_59 : decode cX7_faultOf 59 = .ok (.ifCond .ne (-40), 3) := by decide +kernel
theorem dX7_faultOf_62 : decode cX7_faultOf 62 = .ok (.aload_n 0, 1) := by decide +kernel
theorem dX7_faultOf_63 : decode cX7_faultOf 63 = .ok (.dup, 1) := by decide +kernel
theorem dX7_faultOf_64 : decode cX7_faultOf 64 = .ok (.getfield 164, 3) := by decide +kernel
theorem dX7_faultOf_67 : decode cX7_faultOf 67 = .ok (.iconst 1, 1) := by decide +kernel
theorem dX7_faultOf_68 : decode cX7_faultOf 68 = .ok (.iadd, 1) := by decide +kernel
theorem dX7_faultOf_69 : decode cX7_faultOf 69 = .ok (.putfield 164, 3) := by decide +kernel
theorem dX7_faultOf_72 : decode cX7_faultOf 72 = .ok (.aload_n 0, 1) := by decide +kernel
theorem dX7_faultOf_73 : decode cX7_faultOf 73 = .ok (.invokevirtual 182, 3) := by decide +kernel
theorem dX7_faultOf_76 : decode cX7_faultOf 76 = .ok (.goto (-57), 3) := by decide +kernel
theorem dX7_faultOf_79 : decode cX7_faultOf 79 = .ok (.aload_n 0, 1) := by decide +kernel
theorem dX7_faultOf_80 : decode cX7_faultOf 80 = .ok (.getfield 170, 3) := by decide +kernel
theorem dX7_faultOf_83 : decode cX7_faultOf 83 = .ok (.ifCond .eq 10, 3) := by decide +kernel
theorem dX7_faultOf_86 : decode cX7_faultOf 86 = .ok (.aload_n 0, 1) := by decide +kernel
theorem dX7_faultOf_87 : decode cX7_faultOf 87 = .ok (.getfield 164, 3) := by decide +kernel
theorem dX7_faultOf_90 : decode cX7_faultOf 90 = .ok (.goto 5, 3) := by decide +kernel
theorem dX7_faultOf_93 : decode cX7_faultOf 93 = .ok (.bipush (-6), 2) := by decide +kernel
theorem dX7_faultOf_95 : decode cX7_faultOf 95 = .ok (.ireturn, 1) := by decide +kernel
theorem dX7_put_0 : decode cX7_put 0 = .ok (.iconst 0, 1) := by decide +kernel
theorem dX7_put_1 : decode cX7_put 1 = .ok (.istore_n 3, 1) := by decide +kernel
theorem dX7_put_2 : decode cX7_put 2 = .ok (.lload_n 1, 1) := by decide +kernel
theorem dX7_put_3 : decode cX7_put 3 = .ok (.lstore 4, 2) := by decide +kernel
theorem dX7_put_5 : decode cX7_put 5 = .ok (.lload 4, 2) := by decide +kernel
theorem dX7_put_7 : decode cX7_put 7 = .ok (.ldc2_w 185, 3) := by decide +kernel
theorem dX7_put_10 : decode cX7_put 10 = .ok (.land, 1) := by decide +kernel
theorem dX7_put_11 : decode cX7_put 11 = .ok (.lconst 0, 1) := by decide +kernel
theorem dX7_put_12 : decode cX7_put 12 = .ok (.lcmp, 1) := by decide +kernel
theorem dX7_put_13 : decode cX7_put 13 = .ok (.ifCond .eq 36, 3) := by decide +kernel
theorem dX7_put_16 : decode cX7_put 16 = .ok (.lload 4, 2) := by decide +kernel
theorem dX7_put_18 : decode cX7_put 18 = .ok (.ldc2_w 185, 3) := by decide +kernel
theorem dX7_put_21 : decode cX7_put 21 = .ok (.land, 1) := by decide +kernel
theorem dX7_put_22 : decode cX7_put 22 = .ok (.l2i, 1) := by decide +kernel
theorem dX7_put_23 : decode cX7_put 23 = .ok (.bipush 33, 2) := by decide +kernel
theorem dX7_put_25 : decode cX7_put 25 = .ok (.bipush 126, 2) := by decide +kernel
theorem dX7_put_27 : decode cX7_put 27 = .ok (.invokestatic 59, 3) := by decide +kernel
theorem dX7_put_30 : decode cX7_put 30 = .ok (.ifCond .ne 6, 3) := by decide +kernel
theorem dX7_put_33 : decode cX7_put 33 = .ok (.bipush (-2), 2) := by decide +kernel
theorem dX7_put_35 : decode cX7_put 35 = .ok (.ireturn, 1) := by decide +kernel
theorem dX7_put_36 : decode cX7_put 36 = .ok (.iinc 3 1, 3) := by decide +kernel
theorem dX7_put_39 : decode cX7_put 39 = .ok (.lload 4, 2) := by decide +kernel
theorem dX7_put_41 : decode cX7_put 41 = .ok (.bipush 8, 2) := by decide +kernel
theorem dX7_put_43 : decode cX7_put 43 = .ok (.lushr, 1) := by decide +kernel
theorem dX7_put_44 : decode cX7_put 44 = .ok (.lstore 4, 2) := by decide +kernel
theorem dX7_put_46 : decode cX7_put 46 = .ok (.goto (-41), 3) := by decide +kernel
theorem dX7_put_49 : decode cX7_put 49 = .ok (.lload 4, 2) := by decide +kernel
theorem dX7_put_51 : decode cX7_put 51 = .ok (.lconst 0, 1) := by decide +kernel
theorem dX7_put_52 : decode cX7_put 52 = .ok (.lcmp, 1) := by decide +kernel
theorem dX7_put_53 : decode cX7_put 53 = .ok (.ifCond .ne 7, 3) := by decide +kernel
theorem dX7_put_56 : decode cX7_put 56 = .ok (.iload_n 3, 1) := by decide +kernel
theorem dX7_put_57 : decode cX7_put 57 = .ok (.ifCond .ne 6, 3) := by decide +kernel
theorem dX7_put_60 : decode cX7_put 60 = .ok (.bipush (-2), 2) := by decide +kernel
theorem dX7_put_62 : decode cX7_put 62 = .ok (.ireturn, 1) := by decide +kernel
theorem dX7_put_63 : decode cX7_put 63 = .ok (.aload_n 0, 1) := by decide +kernel
theorem dX7_put_64 : decode cX7_put 64 = .ok (.getfield 152, 3) := by decide +kernel
theorem dX7_put_67 : decode cX7_put 67 = .ok (.iload_n 3, 1) := by decide +kernel
theorem dX7_put_68 : decode cX7_put 68 = .ok (.iadd, 1) := by decide +kernel
theorem dX7_put_69 : decode cX7_put 69 = .ok (.bipush 80, 2) := by decide +kernel
theorem dX7_put_71 : decode cX7_put 71 = .ok (.if_icmp .le 6, 3) := by decide +kernel
theorem dX7_put_74 : decode cX7_put 74 = .ok (.bipush (-4), 2) := by decide +kernel
theorem dX7_put_76 : decode cX7_put 76 = .ok (.ireturn, 1) := by decide +kernel
theorem dX7_put_77 : decode cX7_put 77 = .ok (.lload_n 1, 1) := by decide +kernel
theorem dX7_put_78 : decode cX7_put 78 = .ok (.lstore 4, 2) := by decide +kernel
theorem dX7_put_80 : decode cX7_put 80 = .ok (.iload_n 3, 1) := by decide +kernel
theorem dX7_put_81 : decode cX7_put 81 = .ok (.iconst 1, 1) := by decide +kernel
theorem dX7_put_82 : decode cX7_put 82 = .ok (.isub, 1) := by decide +kernel
theorem dX7_put_83 : decode cX7_put 83 = .ok (.istore 6, 2) := by decide +kernel
theorem dX7_put_85 : decode cX7_put 85 = .ok (.iload 6, 2) := by decide +kernel
theorem dX7_put_87 : decode cX7_put 87 = .ok (.ifCond .lt 35, 3) := by decide +kernel
theorem dX7_put_90 : decode cX7_put 90 = .ok (.aload_n 0, 1) := by decide +kernel
theorem dX7_put_91 : decode cX7_put 91 = .ok (.getfield 26, 3) := by decide +kernel
theorem dX7_put_94 : decode cX7_put 94 = .ok (.aload_n 0, 1) := by decide +kernel
theorem dX7_put_95 : decode cX7_put 95 = .ok (.getfield 152, 3) := by decide +kernel
theorem dX7_put_98 : decode cX7_put 98 = .ok (.iload 6, 2) := by decide +kernel
theorem dX7_put_100 : decode cX7_put 100 = .ok (.iadd, 1) := by decide +kernel
theorem dX7_put_101 : decode cX7_put 101 = .ok (.lload 4, 2) := by decide +kernel
theorem dX7_put_103 : decode cX7_put 103 = .ok (.ldc2_w 185, 3) := by decide +kernel
theorem dX7_put_106 : decode cX7_put 106 = .ok (.land, 1) := by decide +kernel
theorem dX7_put_107 : decode cX7_put 107 = .ok (.l2i, 1) := by decide +kernel
theorem dX7_put_108 : decode cX7_put 108 = .ok (.iastore, 1) := by decide +kernel
theorem dX7_put_109 : decode cX7_put 109 = .ok (.lload 4, 2) := by decide +kernel
theorem dX7_put_111 : decode cX7_put 111 = .ok (.bipush 8, 2) := by decide +kernel
theorem dX7_put_113 : decode cX7_put 113 = .ok (.lushr, 1) := by decide +kernel
theorem dX7_put_114 : decode cX7_put 114 = .ok (.lstore 4, 2) := by decide +kernel
theorem dX7_put_116 : decode cX7_put 116 = .ok (.iinc 6 (-1), 3) := by decide +kernel
theorem dX7_put_119 : decode cX7_put 119 = .ok (.goto (-34), 3) := by decide +kernel
theorem dX7_put_122 : decode cX7_put 122 = .ok (.aload_n 0, 1) := by decide +kernel
theorem dX7_put_123 : decode cX7_put 123 = .ok (.dup, 1) := by decide +kernel
theorem dX7_put_124 : decode cX7_put 124 = .ok (.getfield 152, 3) := by decide +kernel
theorem dX7_put_127 : decode cX7_put 127 = .ok (.iload_n 3, 1) := by decide +kernel
theorem dX7_put_128 : decode cX7_put 128 = .ok (.iadd, 1) := by decide +kernel
theorem dX7_put_129 : decode cX7_put 129 = .ok (.putfield 152, 3) := by decide +kernel
theorem dX7_put_132 : decode cX7_put 132 = .ok (.aload_n 0, 1) := by decide +kernel
theorem dX7_put_133 : decode cX7_put 133 = .ok (.getfield 152, 3) := by decide +kernel
theorem dX7_put_136 : decode cX7_put 136 = .ok (.ireturn, 1) := by decide +kernel
theorem dX7_wipe_0 : decode cX7_wipe 0 = .ok (.aload_n 0, 1) := by decide +kernel
theorem dX7_wipe_1 : decode cX7_wipe 1 = .ok (.getfield 152, 3) := by decide +kernel
theorem dX7_wipe_4 : decode cX7_wipe 4 = .ok (.istore_n 1, 1) := by decide +kernel
theorem dX7_wipe_5 : decode cX7_wipe 5 = .ok (.aload_n 0, 1) := by decide +kernel
theorem dX7_wipe_6 : decode cX7_wipe 6 = .ok (.iconst 0, 1) := by decide +kernel
theorem dX7_wipe_7 : decode cX7_wipe 7 = .ok (.putfield 152, 3) := by decide +kernel
theorem dX7_wipe_10 : decode cX7_wipe 10 = .ok (.iload_n 1, 1) := by decide +kernel
theorem dX7_wipe_11 : decode cX7_wipe 11 = .ok (.ireturn, 1) := by decide +kernel
theorem dX7_fault_0 : decode cX7_fault 0 = .ok (.aload_n 0, 1) := by decide +kernel
theorem dX7_fault_1 : decode cX7_fault 1 = .ok (.invokevirtual 187, 3) := by decide +kernel
theorem dX7_fault_4 : decode cX7_fault 4 = .ok (.ireturn, 1) := by decide +kernel
theorem dX7_carry_0 : decode cX7_carry 0 = .ok (.aload_n 0, 1) := by decide +kernel
theorem dX7_carry_1 : decode cX7_carry 1 = .ok (.getfield 44, 3) := by decide +kernel
theorem dX7_carry_4 : decode cX7_carry 4 = .ok (.iload_n 1, 1) := by decide +kernel
theorem dX7_carry_5 : decode cX7_carry 5 = .ok (.iconst 1, 1) := by decide +kernel
theorem dX7_carry_6 : decode cX7_carry 6 = .ok (.iadd, 1) := by decide +kernel
theorem dX7_carry_7 : decode cX7_carry 7 = .ok (.iaload, 1) := by decide +kernel
theorem dX7_carry_8 : decode cX7_carry 8 = .ok (.istore_n 2, 1) := by decide +kernel
theorem dX7_carry_9 : decode cX7_carry 9 = .ok (.aload_n 0, 1) := by decide +kernel
theorem dX7_carry_10 : decode cX7_carry 10 = .ok (.getfield 44, 3) := by decide +kernel
theorem dX7_carry_13 : decode cX7_carry 13 = .ok (.iload_n 1, 1) := by decide +kernel
theorem dX7_carry_14 : decode cX7_carry 14 = .ok (.iconst 2, 1) := by decide +kernel
theorem dX7_carry_15 : decode cX7_carry 15 = .ok (.iadd, 1) := by decide +kernel
theorem dX7_carry_16 : decode cX7_carry 16 = .ok (.iaload, 1) := by decide +kernel
theorem dX7_carry_17 : decode cX7_carry 17 = .ok (.istore_n 3, 1) := by decide +kernel
theorem dX7_carry_18 : decode cX7_carry 18 = .ok (.aload_n 0, 1) := by decide +kernel
theorem dX7_carry_19 : decode cX7_carry 19 = .ok (.getfield 44, 3) := by decide +kernel
theorem dX7_carry_22 : decode cX7_carry 22 = .ok (.iload_n 1, 1) := by decide +kernel
theorem dX7_carry_23 : decode cX7_carry 23 = .ok (.iaload, 1) := by decide +kernel
theorem dX7_carry_24 : decode cX7_carry 24 = .ok (.lookupswitch 59 #[(98, 43), (109, 51), (115, 36)], 36) := by decide +kernel
theorem dX7_carry_60 : decode cX7_carry 60 = .ok (.aload_n 0, 1) := by decide +kernel
theorem dX7_carry_61 : decode cX7_carry 61 = .ok (.iload_n 2, 1) := by decide +kernel
theorem dX7_carry_62 : decode cX7_carry 62 = .ok (.iload_n 3, 1) := by decide +kernel
theorem dX7_carry_63 : decode cX7_carry 63 = .ok (.invokevirtual 190, 3) := by decide +kernel
theorem dX7_carry_66 : decode cX7_carry 66 = .ok (.ireturn, 1) := by decide +kernel
theorem dX7_carry_67 : decode cX7_carry 67 = .ok (.aload_n 0, 1) := by decide +kernel
theorem dX7_carry_68 : decode cX7_carry 68 = .ok (.iload_n 2, 1) := by decide +kernel
theorem dX7_carry_69 : decode cX7_carry 69 = .ok (.iload_n 3, 1) := by decide +kernel
theorem dX7_carry_70 : decode cX7_carry 70 = .ok (.iconst 0, 1) := by decide +kernel
theorem dX7_carry_71 : decode cX7_carry 71 = .ok (.invokevirtual 193, 3) := by decide +kernel
theorem dX7_carry_74 : decode cX7_carry 74 = .ok (.ireturn, 1) := by decide +kernel
theorem dX7_carry_75 : decode cX7_carry 75 = .ok (.aload_n 0, 1) := by decide +kernel
theorem dX7_carry_76 : decode cX7_carry 76 = .ok (.iload_n 2, 1) := by decide +kernel
theorem dX7_carry_77 : decode cX7_carry 77 = .ok (.iload_n 3, 1) := by decide +kernel
theorem dX7_carry_78 : decode cX7_carry 78 = .ok (.iconst 1, 1) := by decide +kernel
theorem dX7_carry_79 : decode cX7_carry 79 = .ok (.invokevirtual 193, 3) := by decide +kernel
theorem dX7_carry_82 : decode cX7_carry 82 = .ok (.ireturn, 1) := by decide +kernel
theorem dX7_carry_83 : decode cX7_carry 83 = .ok (.aload_n 0, 1) := by decide +kernel
theorem dX7_carry_84 : decode cX7_carry 84 = .ok (.iload_n 2, 1) := by decide +kernel
theorem dX7_carry_85 : decode cX7_carry 85 = .ok (.invokevirtual 196, 3) := by decide +kernel
theorem dX7_carry_88 : decode cX7_carry 88 = .ok (.ireturn, 1) := by decide +kernel
theorem dX7_carryOut_0 : decode cX7_carryOut 0 = .ok (.aload_n 0, 1) := by decide +kernel
theorem dX7_carryOut_1 : decode cX7_carryOut 1 = .ok (.invokevirtual 187, 3) := by decide +kernel
theorem dX7_carryOut_4 : decode cX7_carryOut 4 = .ok (.bipush (-6), 2) := by decide +kernel
theorem dX7_carryOut_6 : decode cX7_carryOut 6 = .ok (.if_icmp .eq 6, 3) := by decide +kernel
theorem dX7_carryOut_9 : decode cX7_carryOut 9 = .ok (.bipush (-3), 2) := by decide +kernel
theorem dX7_carryOut_11 : decode cX7_carryOut 11 = .ok (.ireturn, 1) := by decide +kernel
theorem dX7_carryOut_12 : decode cX7_carryOut 12 = .ok (.aload_n 0, 1) := by decide +kernel
theorem dX7_carryOut_13 : decode cX7_carryOut 13 = .ok (.invokevirtual 70, 3) := by decide +kernel
theorem dX7_carryOut_16 : decode cX7_carryOut 16 = .ok (.aload_n 0, 1) := by decide +kernel
theorem dX7_carryOut_17 : decode cX7_carryOut 17 = .ok (.iconst 1, 1) := by decide +kernel
theorem dX7_carryOut_18 : decode cX7_carryOut 18 = .ok (.putfield 47, 3) := by decide +kernel
theorem dX7_carryOut_21 : decode cX7_carryOut 21 = .ok (.iconst 0, 1) := by decide +kernel
theorem dX7_carryOut_22 : decode cX7_carryOut 22 = .ok (.istore_n 1, 1) := by decide +kernel
theorem dX7_carryOut_23 : decode cX7_carryOut 23 = .ok (.iload_n 1, 1) := by decide +kernel
theorem dX7_carryOut_24 : decode cX7_carryOut 24 = .ok (.aload_n 0, 1) := by decide +kernel
theorem dX7_carryOut_25 : decode cX7_carryOut 25 = .ok (.getfield 173, 3) := by decide +kernel
theorem dX7_carryOut_28 : decode cX7_carryOut 28 = .ok (.if_icmp .ge 19, 3) := by decide +kernel
theorem dX7_carryOut_31 : decode cX7_carryOut 31 = .ok (.aload_n 0, 1) := by decide +kernel
theorem dX7_carryOut_32 : decode cX7_carryOut 32 = .ok (.iconst 3, 1) := by decide +kernel
theorem dX7_carryOut_33 : decode cX7_carryOut 33 = .ok (.iload_n 1, 1) := by decide +kernel
theorem dX7_carryOut_34 : decode cX7_carryOut 34 = .ok (.imul, 1) := by decide +kernel
theorem dX7_carryOut_35 : decode cX7_carryOut 35 = .ok (.invokevirtual 199, 3) := by decide +kernel
theorem dX7_carryOut_38 : decode cX7_carryOut 38 = .ok (.ifCond .lt 9, 3) := by decide +kernel
theorem dX7_carryOut_41 : decode cX7_carryOut 41 = .ok (.iinc 1 1, 3) := by decide +kernel
theorem dX7_carryOut_44 : decode cX7_carryOut 44 = .ok (.goto (-21), 3) := by decide +kernel
theorem dX7_carryOut_47 : decode cX7_carryOut 47 = .ok (.aload_n 0, 1) := by decide +kernel
theorem dX7_carryOut_48 : decode cX7_carryOut 48 = .ok (.iconst 0, 1) := by decide +kernel
theorem dX7_carryOut_49 : decode cX7_carryOut 49 = .ok (.putfield 47, 3) := by decide +kernel
theorem dX7_carryOut_52 : decode cX7_carryOut 52 = .ok (.aload_n 0, 1) := by decide +kernel
theorem dX7_carryOut_53 : decode cX7_carryOut 53 = .ok (.iconst 0, 1) := by decide +kernel
theorem dX7_carryOut_54 : decode cX7_carryOut 54 = .ok (.putfield 152, 3) := by decide +kernel
theorem dX7_carryOut_57 : decode cX7_carryOut 57 = .ok (.iload_n 1, 1) := by decide +kernel
theorem dX7_carryOut_58 : decode cX7_carryOut 58 = .ok (.ireturn, 1) := by decide +kernel
theorem dX7_undo_0 : decode cX7_undo 0 = .ok (.aload_n 0, 1) := by decide +kernel
theorem dX7_undo_1 : decode cX7_undo 1 = .ok (.getfield 51, 3) := by decide +kernel
theorem dX7_undo_4 : decode cX7_undo 4 = .ok (.ifCond .ne 6, 3) := by decide +kernel
theorem dX7_undo_7 : decode cX7_undo 7 = .ok (.bipush (-5), 2) := by decide +kernel
theorem dX7_undo_9 : decode cX7_undo 9 = .ok (.ireturn, 1) := by decide +kernel
theorem dX7_undo_10 : decode cX7_undo 10 = .ok (.aload_n 0, 1) := by decide +kernel
theorem dX7_undo_11 : decode cX7_undo 11 = .ok (.dup, 1) := by decide +kernel
theorem dX7_undo_12 : decode cX7_undo 12 = .ok (.getfield 51, 3) := by decide +kernel
theorem dX7_undo_15 : decode cX7_undo 15 = .ok (.iconst 1, 1) := by decide +kernel
theorem dX7_undo_16 : decode cX7_undo 16 = .ok (.isub, 1) := by decide +kernel
theorem dX7_undo_17 : decode cX7_undo 17 = .ok (.putfield 51, 3) := by decide +kernel
theorem dX7_undo_20 : decode cX7_undo 20 = .ok (.iconst 0, 1) := by decide +kernel
theorem dX7_undo_21 : decode cX7_undo 21 = .ok (.istore_n 1, 1) := by decide +kernel
theorem dX7_undo_22 : decode cX7_undo 22 = .ok (.iload_n 1, 1) := by decide +kernel
theorem dX7_undo_23 : decode cX7_undo 23 = .ok (.sipush 560, 3) := by decide +kernel
theorem dX7_undo_26 : decode cX7_undo 26 = .ok (.if_icmp .ge 30, 3) := by decide +kernel
theorem dX7_undo_29 : decode cX7_undo 29 = .ok (.aload_n 0, 1) := by decide +kernel
theorem dX7_undo_30 : decode cX7_undo 30 = .ok (.getfield 7, 3) := by decide +kernel
theorem dX7_undo_33 : decode cX7_undo 33 = .ok (.iload_n 1, 1) := by decide +kernel
theorem dX7_undo_34 : decode cX7_undo 34 = .ok (.aload_n 0, 1) := by decide +kernel
theorem dX7_undo_35 : decode cX7_undo 35 = .ok (.getfield 16, 3) := by decide +kernel
theorem dX7_undo_38 : decode cX7_undo 38 = .ok (.aload_n 0, 1) := by decide +kernel
theorem dX7_undo_39 : decode cX7_undo 39 = .ok (.getfield 51, 3) := by decide +kernel
theorem dX7_undo_42 : decode cX7_undo 42 = .ok (.sipush 560, 3) := by decide +kernel
theorem dX7_undo_45 : decode cX7_undo 45 = .ok (.imul, 1) := by decide +kernel
theorem dX7_undo_46 : decode cX7_undo 46 = .ok (.iload_n 1, 1) := by decide +kernel
theorem dX7_undo_47 : decode cX7_undo 47 = .ok (.iadd, 1) := by decide +kernel
theorem dX7_undo_48 : decode cX7_undo 48 = .ok (.iaload, 1) := by decide +kernel
theorem dX7_undo_49 : decode cX7_undo 49 = .ok (.iastore, 1) := by decide +kernel
theorem dX7_undo_50 : decode cX7_undo 50 = .ok (.iinc 1 1, 3) := by decide +kernel
theorem dX7_undo_53 : decode cX7_undo 53 = .ok (.goto (-31), 3) := by decide +kernel
theorem dX7_undo_56 : decode cX7_undo 56 = .ok (.aload_n 0, 1) := by decide +kernel
theorem dX7_undo_57 : decode cX7_undo 57 = .ok (.invokevirtual 73, 3) := by decide +kernel
theorem dX7_undo_60 : decode cX7_undo 60 = .ok (.aload_n 0, 1) := by decide +kernel
theorem dX7_undo_61 : decode cX7_undo 61 = .ok (.getfield 51, 3) := by decide +kernel
theorem dX7_undo_64 : decode cX7_undo 64 = .ok (.ireturn, 1) := by decide +kernel
theorem dX7_save_0 : decode cX7_save 0 = .ok (.iload_n 1, 1) := by decide +kernel
theorem dX7_save_1 : decode cX7_save 1 = .ok (.iconst 0, 1) := by decide +kernel
theorem dX7_save_2 : decode cX7_save 2 = .ok (.iconst 1, 1) := by decide +kernel
theorem dX7_save_3 : decode cX7_save 3 = .ok (.invokestatic 59, 3) := by decide +kernel
theorem dX7_save_6 : decode cX7_save 6 = .ok (.ifCond .ne 6, 3) := by decide +kernel
theorem dX7_save_9 : decode cX7_save 9 = .ok (.bipush (-2), 2) := by decide +kernel
theorem dX7_save_11 : decode cX7_save 11 = .ok (.ireturn, 1) := by decide +kernel
theorem dX7_save_12 : decode cX7_save 12 = .ok (.iconst 0, 1) := by decide +kernel
theorem dX7_save_13 : decode cX7_save 13 = .ok (.istore_n 2, 1) := by decide +kernel
theorem dX7_save_14 : decode cX7_save 14 = .ok (.iload_n 2, 1) := by decide +kernel
theorem dX7_save_15 : decode cX7_save 15 = .ok (.sipush 560, 3) := by decide +kernel
theorem dX7_save_18 : decode cX7_save 18 = .ok (.if_icmp .ge 27, 3) := by decide +kernel
theorem dX7_save_21 : decode cX7_save 21 = .ok (.aload_n 0, 1) := by decide +kernel
theorem dX7_save_22 : decode cX7_save 22 = .ok (.getfield 19, 3) := by decide +kernel
theorem dX7_save_25 : decode cX7_save 25 = .ok (.iload_n 1, 1) := by decide +kernel
theorem dX7_save_26 : decode cX7_save 26 = .ok (.sipush 560, 3) := by decide +kernel
theorem dX7_save_29 : decode cX7_save 29 = .ok (.imul, 1) := by decide +kernel
theorem dX7_save_30 : decode cX7_save 30 = .ok (.iload_n 2, 1) := by decide +kernel
theorem dX7_save_31 : decode cX7_save 31 = .ok (.iadd, 1) := by decide +kernel
theorem dX7_save_32 : decode cX7_save 32 = .ok (.aload_n 0, 1) := by decide +kernel
theorem dX7_save_33 : decode cX7_save 33 = .ok (.getfield 7, 3) := by decide +kernel
theorem dX7_save_36 : decode cX7_save 36 = .ok (.iload_n 2, 1) := by decide +kernel
theorem dX7_save_37 : decode cX7_save 37 = .ok (.iaload, 1) := by decide +kernel
theorem dX7_save_38 : decode cX7_save 38 = .ok (.iastore, 1) := by decide +kernel
theorem dX7_save_39 : decode cX7_save 39 = .ok (.iinc 2 1, 3) := by decide +kernel
theorem dX7_save_42 : decode cX7_save 42 = .ok (.goto (-28), 3) := by decide +kernel
theorem dX7_save_45 : decode cX7_save 45 = .ok (.aload_n 0, 1) := by decide +kernel
theorem dX7_save_46 : decode cX7_save 46 = .ok (.getfield 22, 3) := by decide +kernel
theorem dX7_save_49 : decode cX7_save 49 = .ok (.iload_n 1, 1) := by decide +kernel
theorem dX7_save_50 : decode cX7_save 50 = .ok (.iconst 1, 1) := by decide +kernel
theorem dX7_save_51 : decode cX7_save 51 = .ok (.bastore, 1) := by decide +kernel
theorem dX7_save_52 : decode cX7_save 52 = .ok (.aload_n 0, 1) := by decide +kernel
theorem dX7_save_53 : decode cX7_save 53 = .ok (.getfield 7, 3) := by decide +kernel
theorem dX7_save_56 : decode cX7_save 56 = .ok (.iconst 3, 1) := by decide +kernel
theorem dX7_save_57 : decode cX7_save 57 = .ok (.iaload, 1) := by decide +kernel
theorem dX7_save_58 : decode cX7_save 58 = .ok (.ireturn, 1) := by decide +kernel
theorem dX7_restore_0 : decode cX7_restore 0 = .ok (.iload_n 1, 1) := by decide +kernel
theorem dX7_restore_1 : decode cX7_restore 1 = .ok (.iconst 0, 1) := by decide +kernel
theorem dX7_restore_2 : decode cX7_restore 2 = .ok (.iconst 1, 1) := by decide +kernel
theorem dX7_restore_3 : decode cX7_restore 3 = .ok (.invokestatic 59, 3) := by decide +kernel
theorem dX7_restore_6 : decode cX7_restore 6 = .ok (.ifCond .ne 6, 3) := by decide +kernel
theorem dX7_restore_9 : decode cX7_restore 9 = .ok (.bipush (-2), 2) := by decide +kernel
theorem dX7_restore_11 : decode cX7_restore 11 = .ok (.ireturn, 1) := by decide +kernel
theorem dX7_restore_12 : decode cX7_restore 12 = .ok (.aload_n 0, 1) := by decide +kernel
theorem dX7_restore_13 : decode cX7_restore 13 = .ok (.getfield 22, 3) := by decide +kernel
theorem dX7_restore_16 : decode cX7_restore 16 = .ok (.iload_n 1, 1) := by decide +kernel
theorem dX7_restore_17 : decode cX7_restore 17 = .ok (.baload, 1) := by decide +kernel
theorem dX7_restore_18 : decode cX7_restore 18 = .ok (.ifCond .ne 6, 3) := by decide +kernel
theorem dX7_restore_21 : decode cX7_restore 21 = .ok (.bipush (-5), 2) := by decide +kernel
theorem dX7_restore_23 : decode cX7_restore 23 = .ok (.ireturn, 1) := by decide +kernel
theorem dX7_restore_24 : decode cX7_restore 24 = .ok (.aload_n 0, 1) := by decide +kernel
theorem dX7_restore_25 : decode cX7_restore 25 = .ok (.invokevirtual 70, 3) := by decide +kernel
theorem dX7_restore_28 : decode cX7_restore 28 = .ok (.iconst 0, 1) := by decide +kernel
theorem dX7_restore_29 : decode cX7_restore 29 = .ok (.istore_n 2, 1) := by decide +kernel
theorem dX7_restore_30 : decode cX7_restore 30 = .ok (.iload_n 2, 1) := by decide +kernel
theorem dX7_restore_31 : decode cX7_restore 31 = .ok (.sipush 560, 3) := by decide +kernel
theorem dX7_restore_34 : decode cX7_restore 34 = .ok (.if_icmp .ge 27, 3) := by decide +kernel
theorem dX7_restore_37 : decode cX7_restore 37 = .ok (.aload_n 0, 1) := by decide +kernel
theorem dX7_restore_38 : decode cX7_restore 38 = .ok (.getfield 7, 3) := by decide +kernel
theorem dX7_restore_41 : decode cX7_restore 41 = .ok (.iload_n 2, 1) := by decide +kernel
theorem dX7_restore_42 : decode cX7_restore 42 = .ok (.aload_n 0, 1) := by decide +kernel
theorem dX7_restore_43 : decode cX7_restore 43 = .ok (.getfield 19, 3) := by decide +kernel
theorem dX7_restore_46 : decode cX7_restore 46 = .ok (.iload_n 1, 1) := by decide +kernel
theorem dX7_restore_47 : decode cX7_restore 47 = .ok (.sipush 560, 3) := by decide +kernel
theorem dX7_restore_50 : decode cX7_restore 50 = .ok (.imul, 1) := by decide +kernel
theorem dX7_restore_51 : decode cX7_restore 51 = .ok (.iload_n 2, 1) := by decide +kernel
theorem dX7_restore_52 : decode cX7_restore 52 = .ok (.iadd, 1) := by decide +kernel
theorem dX7_restore_53 : decode cX7_restore 53 = .ok (.iaload, 1) := by decide +kernel
theorem dX7_restore_54 : decode cX7_restore 54 = .ok (.iastore, 1) := by decide +kernel
theorem dX7_restore_55 : decode cX7_restore 55 = .ok (.iinc 2 1, 3) := by decide +kernel
theorem dX7_restore_58 : decode cX7_restore 58 = .ok (.goto (-28), 3) := by decide +kernel
theorem dX7_restore_61 : decode cX7_restore 61 = .ok (.aload_n 0, 1) := by decide +kernel
theorem dX7_restore_62 : decode cX7_restore 62 = .ok (.invokevirtual 73, 3) := by decide +kernel
theorem dX7_restore_65 : decode cX7_restore 65 = .ok (.aload_n 0, 1) := by decide +kernel
theorem dX7_restore_66 : decode cX7_restore 66 = .ok (.getfield 7, 3) := by decide +kernel
theorem dX7_restore_69 : decode cX7_restore 69 = .ok (.iconst 3, 1) := by decide +kernel
theorem dX7_restore_70 : decode cX7_restore 70 = .ok (.iaload, 1) := by decide +kernel
theorem dX7_restore_71 : decode cX7_restore 71 = .ok (.ireturn, 1) := by decide +kernel
theorem dJ13_bitCount_95d88_0 : decode cJ13_bitCount_95d88 0 = .ok (.lload_n 0, 1) := by decide +kernel
theorem dJ13_bitCount_95d88_1 : decode cJ13_bitCount_95d88 1 = .ok (.lload_n 0, 1) := by decide +kernel
theorem dJ13_bitCount_95d88_2 : decode cJ13_bitCount_95d88 2 = .ok (.iconst 1, 1) := by decide +kernel
theorem dJ13_bitCount_95d88_3 : decode cJ13_bitCount_95d88 3 = .ok (.lushr, 1) := by decide +kernel
theorem dJ13_bitCount_95d88_4 : decode cJ13_bitCount_95d88 4 = .ok (.ldc2_w 314, 3) := by decide +kernel
theorem dJ13_bitCount_95d88_7 : decode cJ13_bitCount_95d88 7 = .ok (.land, 1) := by decide +kernel
theorem dJ13_bitCount_95d88_8 : decode cJ13_bitCount_95d88 8 = .ok (.lsub, 1) := by decide +kernel
theorem dJ13_bitCount_95d88_9 : decode cJ13_bitCount_95d88 9 = .ok (.lstore_n 0, 1) := by decide +kernel
theorem dJ13_bitCount_95d88_10 : decode cJ13_bitCount_95d88 10 = .ok (.lload_n 0, 1) := by decide +kernel
theorem dJ13_bitCount_95d88_11 : decode cJ13_bitCount_95d88 11 = .ok (.ldc2_w 316, 3) := by decide +kernel
theorem dJ13_bitCount_95d88_14 : decode cJ13_bitCount_95d88 14 = .ok (.land, 1) := by decide +kernel
theorem dJ13_bitCount_95d88_15 : decode cJ13_bitCount_95d88 15 = .ok (.lload_n 0, 1) := by decide +kernel
theorem dJ13_bitCount_95d88_16 : decode cJ13_bitCount_95d88 16 = .ok (.iconst 2, 1) := by decide +kernel
theorem dJ13_bitCount_95d88_17 : decode cJ13_bitCount_95d88 17 = .ok (.lushr, 1) := by decide +kernel
theorem dJ13_bitCount_95d88_18 : decode cJ13_bitCount_95d88 18 = .ok (.ldc2_w 316, 3) := by decide +kernel
theorem dJ13_bitCount_95d88_21 : decode cJ13_bitCount_95d88 21 = .ok (.land, 1) := by decide +kernel
theorem dJ13_bitCount_95d88_22 : decode cJ13_bitCount_95d88 22 = .ok (.ladd, 1) := by decide +kernel
theorem dJ13_bitCount_95d88_23 : decode cJ13_bitCount_95d88 23 = .ok (.lstore_n 0, 1) := by decide +kernel
theorem dJ13_bitCount_95d88_24 : decode cJ13_bitCount_95d88 24 = .ok (.lload_n 0, 1) := by decide +kernel
theorem dJ13_bitCount_95d88_25 : decode cJ13_bitCount_95d88 25 = .ok (.lload_n 0, 1) := by decide +kernel
theorem dJ13_bitCount_95d88_26 : decode cJ13_bitCount_95d88 26 = .ok (.iconst 4, 1) := by decide +kernel
theorem dJ13_bitCount_95d88_27 : decode cJ13_bitCount_95d88 27 = .ok (.lushr, 1) := by decide +kernel
theorem dJ13_bitCount_95d88_28 : decode cJ13_bitCount_95d88 28 = .ok (.ladd, 1) := by decide +kernel
theorem dJ13_bitCount_95d88_29 : decode cJ13_bitCount_95d88 29 = .ok (.ldc2_w 318, 3) := by decide +kernel
theorem dJ13_bitCount_95d88_32 : decode cJ13_bitCount_95d88 32 = .ok (.land, 1) := by decide +kernel
theorem dJ13_bitCount_95d88_33 : decode cJ13_bitCount_95d88 33 = .ok (.lstore_n 0, 1) := by decide +kernel
theorem dJ13_bitCount_95d88_34 : decode cJ13_bitCount_95d88 34 = .ok (.lload_n 0, 1) := by decide +kernel
theorem dJ13_bitCount_95d88_35 : decode cJ13_bitCount_95d88 35 = .ok (.lload_n 0, 1) := by decide +kernel
theorem dJ13_bitCount_95d88_36 : decode cJ13_bitCount_95d88 36 = .ok (.bipush 8, 2) := by decide +kernel
theorem dJ13_bitCount_95d88_38 : decode cJ13_bitCount_95d88 38 = .ok (.lushr, 1) := by decide +kernel
theorem dJ13_bitCount_95d88_39 : decode cJ13_bitCount_95d88 39 = .ok (.ladd, 1) := by decide +kernel
theorem dJ13_bitCount_95d88_40 : decode cJ13_bitCount_95d88 40 = .ok (.lstore_n 0, 1) := by decide +kernel
theorem dJ13_bitCount_95d88_41 : decode cJ13_bitCount_95d88 41 = .ok (.lload_n 0, 1) := by decide +kernel
theorem dJ13_bitCount_95d88_42 : decode cJ13_bitCount_95d88 42 = .ok (.lload_n 0, 1) := by decide +kernel
theorem dJ13_bitCount_95d88_43 : decode cJ13_bitCount_95d88 43 = .ok (.bipush 16, 2) := by decide +kernel
theorem dJ13_bitCount_95d88_45 : decode cJ13_bitCount_95d88 45 = .ok (.lushr, 1) := by decide +kernel
theorem dJ13_bitCount_95d88_46 : decode cJ13_bitCount_95d88 46 = .ok (.ladd, 1) := by decide +kernel
theorem dJ13_bitCount_95d88_47 : decode cJ13_bitCount_95d88 47 = .ok (.lstore_n 0, 1) := by decide +kernel
theorem dJ13_bitCount_95d88_48 : decode cJ13_bitCount_95d88 48 = .ok (.lload_n 0, 1) := by decide +kernel
theorem dJ13_bitCount_95d88_49 : decode cJ13_bitCount_95d88 49 = .ok (.lload_n 0, 1) := by decide +kernel
theorem dJ13_bitCount_95d88_50 : decode cJ13_bitCount_95d88 50 = .ok (.bipush 32, 2) := by decide +kernel
theorem dJ13_bitCount_95d88_52 : decode cJ13_bitCount_95d88 52 = .ok (.lushr, 1) := by decide +kernel
theorem dJ13_bitCount_95d88_53 : decode cJ13_bitCount_95d88 53 = .ok (.ladd, 1) := by decide +kernel
theorem dJ13_bitCount_95d88_54 : decode cJ13_bitCount_95d88 54 = .ok (.lstore_n 0, 1) := by decide +kernel
theorem dJ13_bitCount_95d88_55 : decode cJ13_bitCount_95d88 55 = .ok (.lload_n 0, 1) := by decide +kernel
theorem dJ13_bitCount_95d88_56 : decode cJ13_bitCount_95d88 56 = .ok (.l2i, 1) := by decide +kernel
theorem dJ13_bitCount_95d88_57 : decode cJ13_bitCount_95d88 57 = .ok (.bipush 127, 2) := by decide +kernel
theorem dJ13_bitCount_95d88_59 : decode cJ13_bitCount_95d88 59 = .ok (.iand, 1) := by decide +kernel
theorem dJ13_bitCount_95d88_60 : decode cJ13_bitCount_95d88 60 = .ok (.ireturn, 1) := by decide +kernel
theorem dJ9_abs_0f7a4_0 : decode cJ9_abs_0f7a4 0 = .ok (.iload_n 0, 1) := by decide +kernel
theorem dJ9_abs_0f7a4_1 : decode cJ9_abs_0f7a4 1 = .ok (.ifCond .ge 8, 3) := by decide +kernel
theorem dJ9_abs_0f7a4_4 : decode cJ9_abs_0f7a4 4 = .ok (.iload_n 0, 1) := by decide +kernel
theorem dJ9_abs_0f7a4_5 : decode cJ9_abs_0f7a4 5 = .ok (.ineg, 1) := by decide +kernel
theorem dJ9_abs_0f7a4_6 : decode cJ9_abs_0f7a4 6 = .ok (.goto 4, 3) := by decide +kernel
theorem dJ9_abs_0f7a4_9 : decode cJ9_abs_0f7a4 9 = .ok (.iload_n 0, 1) := by decide +kernel
theorem dJ9_abs_0f7a4_10 : decode cJ9_abs_0f7a4 10 = .ok (.ireturn, 1) := by decide +kernel
theorem dJ9_max_7cf53_0 : decode cJ9_max_7cf53 0 = .ok (.iload_n 0, 1) := by decide +kernel
theorem dJ9_max_7cf53_1 : decode cJ9_max_7cf53 1 = .ok (.iload_n 1, 1) := by decide +kernel
theorem dJ9_max_7cf53_2 : decode cJ9_max_7cf53 2 = .ok (.if_icmp .lt 7, 3) := by decide +kernel
theorem dJ9_max_7cf53_5 : decode cJ9_max_7cf53 5 = .ok (.iload_n 0, 1) := by decide +kernel
theorem dJ9_max_7cf53_6 : decode cJ9_max_7cf53 6 = .ok (.goto 4, 3) := by decide +kernel
theorem dJ9_max_7cf53_9 : decode cJ9_max_7cf53 9 = .ok (.iload_n 1, 1) := by decide +kernel
theorem dJ9_max_7cf53_10 : decode cJ9_max_7cf53 10 = .ok (.ireturn, 1) := by decide +kernel
theorem dJ9_min_7cf53_0 : decode cJ9_min_7cf53 0 = .ok (.iload_n 0, 1) := by decide +kernel
theorem dJ9_min_7cf53_1 : decode cJ9_min_7cf53 1 = .ok (.iload_n 1, 1) := by decide +kernel
theorem dJ9_min_7cf53_2 : decode cJ9_min_7cf53 2 = .ok (.if_icmp .gt 7, 3) := by decide +kernel
theorem dJ9_min_7cf53_5 : decode cJ9_min_7cf53 5 = .ok (.iload_n 0, 1) := by decide +kernel
theorem dJ9_min_7cf53_6 : decode cJ9_min_7cf53 6 = .ok (.goto 4, 3) := by decide +kernel
theorem dJ9_min_7cf53_9 : decode cJ9_min_7cf53 9 = .ok (.iload_n 1, 1) := by decide +kernel
theorem dJ9_min_7cf53_10 : decode cJ9_min_7cf53 10 = .ok (.ireturn, 1) := by decide +kernel
theorem dL_law_0 : decode cL_law 0 = .ok (.new 7, 3) := by decide +kernel
theorem dL_law_3 : decode cL_law 3 = .ok (.dup, 1) := by decide +kernel
theorem dL_law_4 : decode cL_law 4 = .ok (.invokespecial 9, 3) := by decide +kernel
theorem dL_law_7 : decode cL_law 7 = .ok (.astore_n 1, 1) := by decide +kernel
theorem dL_law_8 : decode cL_law 8 = .ok (.new 10, 3) := by decide +kernel
theorem dL_law_11 : decode cL_law 11 = .ok (.dup, 1) := by decide +kernel
theorem dL_law_12 : decode cL_law 12 = .ok (.invokespecial 12, 3) := by decide +kernel
theorem dL_law_15 : decode cL_law 15 = .ok (.astore_n 2, 1) := by decide +kernel
theorem dL_law_16 : decode cL_law 16 = .ok (.iconst 0, 1) := by decide +kernel
theorem dL_law_17 : decode cL_law 17 = .ok (.istore_n 3, 1) := by decide +kernel
theorem dL_law_18 : decode cL_law 18 = .ok (.iload_n 3, 1) := by decide +kernel
theorem dL_law_19 : decode cL_law 19 = .ok (.aload_n 0, 1) := by decide +kernel
theorem dL_law_20 : decode cL_law 20 = .ok (.arraylength, 1) := by decide +kernel
theorem dL_law_21 : decode cL_law 21 = .ok (.iconst 4, 1) := by decide +kernel
theorem dL_law_22 : decode cL_law 22 = .ok (.isub, 1) := by decide +kernel
theorem dL_law_23 : decode cL_law 23 = .ok (.if_icmp .gt 695, 3) := by decide +kernel
theorem dL_law_26 : decode cL_law 26 = .ok (.aload_n 0, 1) := by decide +kernel
theorem dL_law_27 : decode cL_law 27 = .ok (.iload_n 3, 1) := by decide +kernel
theorem dL_law_28 : decode cL_law 28 = .ok (.iaload, 1) := by decide +kernel
theorem dL_law_29 : decode cL_law 29 = .ok (.bipush 31, 2) := by decide +kernel
theorem dL_law_31 : decode cL_law 31 = .ok (.iand, 1) := by decide +kernel
theorem dL_law_32 : decode cL_law 32 = .ok (.tableswitch 680 0 21 #[104, 137, 170, 213, 246, 269, 302, 335, 358, 391, 424, 437, 460, 483, 506, 529, 582, 595, 608, 621, 634, 657], 104) := by decide +kernel
theorem dL_law_136 : decode cL_law 136 = .ok (.aload_n 1, 1) := by decide +kernel
theorem dL_law_137 : decode cL_law 137 = .ok (.aload_n 0, 1) := by decide +kernel
theorem dL_law_138 : decode cL_law 138 = .ok (.iload_n 3, 1) := by decide +kernel
theorem dL_law_139 : decode cL_law 139 = .ok (.iconst 1, 1) := by decide +kernel
theorem dL_law_140 : decode cL_law 140 = .ok (.iadd, 1) := by decide +kernel
theorem dL_law_141 : decode cL_law 141 = .ok (.iaload, 1) := by decide +kernel
theorem dL_law_142 : decode cL_law 142 = .ok (.aload_n 0, 1) := by decide +kernel
theorem dL_law_143 : decode cL_law 143 = .ok (.iload_n 3, 1) := by decide +kernel
theorem dL_law_144 : decode cL_law 144 = .ok (.iconst 2, 1) := by decide +kernel
theorem dL_law_145 : decode cL_law 145 = .ok (.iadd, 1) := by decide +kernel
theorem dL_law_146 : decode cL_law 146 = .ok (.iaload, 1) := by decide +kernel
theorem dL_law_147 : decode cL_law 147 = .ok (.invokevirtual 13, 3) := by decide +kernel
theorem dL_law_150 : decode cL_law 150 = .ok (.aload_n 2, 1) := by decide +kernel
theorem dL_law_151 : decode cL_law 151 = .ok (.aload_n 0, 1) := by decide +kernel
theorem dL_law_152 : decode cL_law 152 = .ok (.iload_n 3, 1) := by decide +kernel
theorem dL_law_153 : decode cL_law 153 = .ok (.iconst 1, 1) := by decide +kernel
theorem dL_law_154 : decode cL_law 154 = .ok (.iadd, 1) := by decide +kernel
theorem dL_law_155 : decode cL_law 155 = .ok (.iaload, 1) := by decide +kernel
theorem dL_law_156 : decode cL_law 156 = .ok (.aload_n 0, 1) := by decide +kernel
theorem dL_law_157 : decode cL_law 157 = .ok (.iload_n 3, 1) := by decide +kernel
theorem dL_law_158 : decode cL_law 158 = .ok (.iconst 2, 1) := by decide +kernel
theorem dL_law_159 : decode cL_law 159 = .ok (.iadd, 1) := by decide +kernel
theorem dL_law_160 : decode cL_law 160 = .ok (.iaload, 1) := by decide +kernel
theorem dL_law_161 : decode cL_law 161 = .ok (.invokevirtual 17, 3) := by decide +kernel
theorem dL_law_164 : decode cL_law 164 = .ok (.if_icmp .eq 548, 3) := by decide +kernel
theorem dL_law_167 : decode cL_law 167 = .ok (.iconst 0, 1) := by decide +kernel
theorem dL_law_168 : decode cL_law 168 = .ok (.ireturn, 1) := by decide +kernel
theorem dL_law_169 : decode cL_law 169 = .ok (.aload_n 1, 1) := by decide +kernel
theorem dL_law_170 : decode cL_law 170 = .ok (.aload_n 0, 1) := by decide +kernel
theorem dL_law_171 : decode cL_law 171 = .ok (.iload_n 3, 1) := by decide +kernel
theorem dL_law_172 : decode cL_law 172 = .ok (.iconst 1, 1) := by decide +kernel
theorem dL_law_173 : decode cL_law 173 = .ok (.iadd, 1) := by decide +kernel
theorem dL_law_174 : decode cL_law 174 = .ok (.iaload, 1) := by decide +kernel
theorem dL_law_175 : decode cL_law 175 = .ok (.aload_n 0, 1) := by decide +kernel
theorem dL_law_176 : decode cL_law 176 = .ok (.iload_n 3, 1) := by decide +kernel
theorem dL_law_177 : decode cL_law 177 = .ok (.iconst 2, 1) := by decide +kernel
theorem dL_law_178 : decode cL_law 178 = .ok (.iadd, 1) := by decide +kernel
theorem dL_law_179 : decode cL_law 179 = .ok (.iaload, 1) := by decide +kernel
theorem dL_law_180 : decode cL_law 180 = .ok (.invokevirtual 18, 3) := by decide +kernel
theorem dL_law_183 : decode cL_law 183 = .ok (.aload_n 2, 1) := by decide +kernel
theorem dL_law_184 : decode cL_law 184 = .ok (.aload_n 0, 1) := by decide +kernel
theorem dL_law_185 : decode cL_law 185 = .ok (.iload_n 3, 1) := by decide +kernel
theorem dL_law_186 : decode cL_law 186 = .ok (.iconst 1, 1) := by decide +kernel
theorem dL_law_187 : decode cL_law 187 = .ok (.iadd, 1) := by decide +kernel
theorem dL_law_188 : decode cL_law 188 = .ok (.iaload, 1) := by decide +kernel
theorem dL_law_189 : decode cL_law 189 = .ok (.aload_n 0, 1) := by decide +kernel
theorem dL_law_190 : decode cL_law 190 = .ok (.iload_n 3, 1) := by decide +kernel
theorem dL_law_191 : decode cL_law 191 = .ok (.iconst 2, 1) := by decide +kernel
theorem dL_law_192 : decode cL_law 192 = .ok (.iadd, 1) := by decide +kernel
theorem dL_law_193 : decode cL_law 193 = .ok (.iaload, 1) := by decide +kernel
theorem dL_law_194 : decode cL_law 194 = .ok (.invokevirtual 21, 3) := by decide +kernel
theorem dL_law_197 : decode cL_law 197 = .ok (.if_icmp .eq 515, 3) := by decide +kernel
theorem dL_law_200 : decode cL_law 200 = .ok (.iconst 0, 1) := by decide +kernel
theorem dL_law_201 : decode cL_law 201 = .ok (.ireturn, 1) := by decide +kernel
theorem dL_law_202 : decode cL_law 202 = .ok (.aload_n 1, 1) := by decide +kernel
theorem dL_law_203 : decode cL_law 203 = .ok (.aload_n 0, 1) := by decide +kernel
theorem dL_law_204 : decode cL_law 204 = .ok (.iload_n 3, 1) := by decide +kernel
theorem dL_law_205 : decode cL_law 205 = .ok (.iconst 1, 1) := by decide +kernel
theorem dL_law_206 : decode cL_law 206 = .ok (.iadd, 1) := by decide +kernel
theorem dL_law_207 : decode cL_law 207 = .ok (.iaload, 1) := by decide +kernel
theorem dL_law_208 : decode cL_law 208 = .ok (.aload_n 0, 1) := by decide +kernel
theorem dL_law_209 : decode cL_law 209 = .ok (.iload_n 3, 1) := by decide +kernel
theorem dL_law_210 : decode cL_law 210 = .ok (.iconst 2, 1) := by decide +kernel
theorem dL_law_211 : decode cL_law 211 = .ok (.iadd, 1) := by decide +kernel
theorem dL_law_212 : decode cL_law 212 = .ok (.iaload, 1) := by decide +kernel
theorem dL_law_213 : decode cL_law 213 = .ok (.aload_n 0, 1) := by decide +kernel
theorem dL_law_214 : decode cL_law 214 = .ok (.iload_n 3, 1) := by decide +kernel
theorem dL_law_215 : decode cL_law 215 = .ok (.iconst 3, 1) := by decide +kernel
theorem dL_law_216 : decode cL_law 216 = .ok (.iadd, 1) := by decide +kernel
theorem dL_law_217 : decode cL_law 217 = .ok (.iaload, 1) := by decide +kernel
theorem dL_law_218 : decode cL_law 218 = .ok (.invokevirtual 22, 3) := by decide +kernel
theorem dL_law_221 : decode cL_law 221 = .ok (.aload_n 2, 1) := by decide +kernel
theorem dL_law_222 : decode cL_law 222 = .ok (.aload_n 0, 1) := by decide +kernel
theorem dL_law_223 : decode cL_law 223 = .ok (.iload_n 3, 1) := by decide +kernel
theorem dL_law_224 : decode cL_law 224 = .ok (.iconst 1, 1) := by decide +kernel
theorem dL_law_225 : decode cL_law 225 = .ok (.iadd, 1) := by decide +kernel
theorem dL_law_226 : decode cL_law 226 = .ok (.iaload, 1) := by decide +kernel
theorem dL_law_227 : decode cL_law 227 = .ok (.aload_n 0, 1) := by decide +kernel
theorem dL_law_228 : decode cL_law 228 = .ok (.iload_n 3, 1) := by decide +kernel
theorem dL_law_229 : decode cL_law 229 = .ok (.iconst 2, 1) := by decide +kernel
theorem dL_law_230 : decode cL_law 230 = .ok (.iadd, 1) := by decide +kernel
theorem dL_law_231 : decode cL_law 231 = .ok (.iaload, 1) := by decide +kernel
theorem dL_law_232 : decode cL_law 232 = .ok (.aload_n 0, 1) := by decide +kernel
theorem dL_law_233 : decode cL_law 233 = .ok (.iload_n 3, 1) := by decide +kernel
theorem dL_law_234 : decode cL_law 234 = .ok (.iconst 3, 1) := by decide +kernel
theorem dL_law_235 : decode cL_law 235 = .ok (.iadd, 1) := by decide +kernel
theorem dL_law_236 : decode cL_law 236 = .ok (.iaload, 1) := by decide +kernel
theorem dL_law_237 : decode cL_law 237 = .ok (.invokevirtual 26, 3) := by decide +kernel
theorem dL_law_240 : decode cL_law 240 = .ok (.if_icmp .eq 472, 3) := by decide +kernel
theorem dL_law_243 : decode cL_law 243 = .ok (.iconst 0, 1) := by decide +kernel
theorem dL_law_244 : decode cL_law 244 = .ok (.ireturn, 1) := by decide +kernel
theorem dL_law_245 : decode cL_law 245 = .ok (.aload_n 1, 1) := by decide +kernel
theorem dL_law_246 : decode cL_law 246 = .ok (.aload_n 0, 1) := by decide +kernel
theorem dL_law_247 : decode cL_law 247 = .ok (.iload_n 3, 1) := by decide +kernel
theorem dL_law_248 : decode cL_law 248 = .ok (.iconst 1, 1) := by decide +kernel
theorem dL_law_249 : decode cL_law 249 = .ok (.iadd, 1) := by decide +kernel
theorem dL_law_250 : decode cL_law 250 = .ok (.iaload, 1) := by decide +kernel
theorem dL_law_251 : decode cL_law 251 = .ok (.aload_n 0, 1) := by decide +kernel
theorem dL_law_252 : decode cL_law 252 = .ok (.iload_n 3, 1) := by decide +kernel
theorem dL_law_253 : decode cL_law 253 = .ok (.iconst 2, 1) := by decide +kernel
theorem dL_law_254 : decode cL_law 254 = .ok (.iadd, 1) := by decide +kernel
theorem dL_law_255 : decode cL_law 255 = .ok (.iaload, 1) := by decide +kernel
theorem dL_law_256 : decode cL_law 256 = .ok (.invokevirtual 27, 3) := by decide +kernel
theorem dL_law_259 : decode cL_law 259 = .ok (.aload_n 2, 1) := by decide +kernel
theorem dL_law_260 : decode cL_law 260 = .ok (.aload_n 0, 1) := by decide +kernel
theorem dL_law_261 : decode cL_law 261 = .ok (.iload_n 3, 1) := by decide +kernel
theorem dL_law_262 : decode cL_law 262 = .ok (.iconst 1, 1) := by decide +kernel
theorem dL_law_263 : decode cL_law 263 = .ok (.iadd, 1) := by decide +kernel
theorem dL_law_264 : decode cL_law 264 = .ok (.iaload, 1) := by decide +kernel
theorem dL_law_265 : decode cL_law 265 = .ok (.aload_n 0, 1) := by decide +kernel
theorem dL_law_266 : decode cL_law 266 = .ok (.iload_n 3, 1) := by decide +kernel
theorem dL_law_267 : decode cL_law 267 = .ok (.iconst 2, 1) := by decide +kernel
theorem dL_law_268 : decode cL_law 268 = .ok (.iadd, 1) := by decide +kernel
theorem dL_law_269 : decode cL_law 269 = .ok (.iaload, 1) := by decide +kernel
theorem dL_law_270 : decode cL_law 270 = .ok (.invokevirtual 30, 3) := by decide +kernel
theorem dL_law_273 : decode cL_law 273 = .ok (.if_icmp .eq 439, 3) := by decide +kernel
theorem dL_law_276 : decode cL_law 276 = .ok (.iconst 0, 1) := by decide +kernel
theorem dL_law_277 : decode cL_law 277 = .ok (.ireturn, 1) := by decide +kernel
theorem dL_law_278 : decode cL_law 278 = .ok (.aload_n 1, 1) := by decide +kernel
theorem dL_law_279 : decode cL_law 279 = .ok (.aload_n 0, 1) := by decide +kernel
theorem dL_law_280 : decode cL_law 280 = .ok (.iload_n 3, 1) := by decide +kernel
theorem dL_law_281 : decode cL_law 281 = .ok (.iconst 1, 1) := by decide +kernel
theorem dL_law_282 : decode cL_law 282 = .ok (.iadd, 1) := by decide +kernel
theorem dL_law_283 : decode cL_law 283 = .ok (.iaload, 1) := by decide +kernel
theorem dL_law_284 : decode cL_law 284 = .ok (.invokevirtual 31, 3) := by decide +kernel
theorem dL_law_287 : decode cL_law 287 = .ok (.aload_n 2, 1) := by decide +kernel
theorem dL_law_288 : decode cL_law 288 = .ok (.aload_n 0, 1) := by decide +kernel
theorem dL_law_289 : decode cL_law 289 = .ok (.iload_n 3, 1) := by decide +kernel
theorem dL_law_290 : decode cL_law 290 = .ok (.iconst 1, 1) := by decide +kernel
theorem dL_law_291 : decode cL_law 291 = .ok (.iadd, 1) := by decide +kernel
theorem dL_law_292 : decode cL_law 292 = .ok (.iaload, 1) := by decide +kernel
theorem dL_law_293 : decode cL_law 293 = .ok (.invokevirtual 35, 3) := by decide +kernel
theorem dL_law_296 : decode cL_law 296 = .ok (.if_icmp .eq 416, 3) := by decide +kernel
theorem dL_law_299 : decode cL_law 299 = .ok (.iconst 0, 1) := by decide +kernel
theorem dL_law_300 : decode cL_law 300 = .ok (.ireturn, 1) := by decide +kernel
theorem dL_law_301 : decode cL_law 301 = .ok (.aload_n 1, 1) := by decide +kernel
theorem dL_law_302 : decode cL_law 302 = .ok (.aload_n 0, 1) := by decide +kernel
theorem dL_law_303 : decode cL_law 303 = .ok (.iload_n 3, 1) := by decide +kernel
theorem dL_law_304 : decode cL_law 304 = .ok (.iconst 1, 1) := by decide +kernel
theorem dL_law_305 : decode cL_law 305 = .ok (.iadd, 1) := by decide +kernel
theorem dL_law_306 : decode cL_law 306 = .ok (.iaload, 1) := by decide +kernel
theorem dL_law_307 : decode cL_law 307 = .ok (.aload_n 0, 1) := by decide +kernel
theorem dL_law_308 : decode cL_law 308 = .ok (.iload_n 3, 1) := by decide +kernel
theorem dL_law_309 : decode cL_law 309 = .ok (.iconst 2, 1) := by decide +kernel
theorem dL_law_310 : decode cL_law 310 = .ok (.iadd, 1) := by decide +kernel
theorem dL_law_311 : decode cL_law 311 = .ok (.iaload, 1) := by decide +kernel
theorem dL_law_312 : decode cL_law 312 = .ok (.invokevirtual 36, 3) := by decide +kernel
theorem dL_law_315 : decode cL_law 315 = .ok (.aload_n 2, 1) := by decide +kernel
theorem dL_law_316 : decode cL_law 316 = .ok (.aload_n 0, 1) := by decide +kernel
theorem dL_law_317 : decode cL_law 317 = .ok (.iload_n 3, 1) := by decide +kernel
theorem dL_law_318 : decode cL_law 318 = .ok (.iconst 1, 1) := by decide +kernel
theorem dL_law_319 : decode cL_law 319 = .ok (.iadd, 1) := by decide +kernel
theorem dL_law_320 : decode cL_law 320 = .ok (.iaload, 1) := by decide +kernel
theorem dL_law_321 : decode cL_law 321 = .ok (.aload_n 0, 1) := by decide +kernel
theorem dL_law_322 : decode cL_law 322 = .ok (.iload_n 3, 1) := by decide +kernel
theorem dL_law_323 : decode cL_law 323 = .ok (.iconst 2, 1) := by decide +kernel
theorem dL_law_324 : decode cL_law 324 = .ok (.iadd, 1) := by decide +kernel
theorem dL_law_325 : decode cL_law 325 = .ok (.iaload, 1) := by decide +kernel
theorem dL_law_326 : decode cL_law 326 = .ok (.invokevirtual 39, 3) := by decide +kernel
theorem dL_law_329 : decode cL_law 329 = .ok (.if_icmp .eq 383, 3) := by decide +kernel
theorem dL_law_332 : decode cL_law 332 = .ok (.iconst 0, 1) := by decide +kernel
theorem dL_law_333 : decode cL_law 333 = .ok (.ireturn, 1) := by decide +kernel
theorem dL_law_334 : decode cL_law 334 = .ok (.aload_n 1, 1) := by decide +kernel
theorem dL_law_335 : decode cL_law 335 = .ok (.aload_n 0, 1) := by decide +kernel
theorem dL_law_336 : decode cL_law 336 = .ok (.iload_n 3, 1) := by decide +kernel
theorem dL_law_337 : decode cL_law 337 = .ok (.iconst 1, 1) := by decide +kernel
theorem dL_law_338 : decode cL_law 338 = .ok (.iadd, 1) := by decide +kernel
theorem dL_law_339 : decode cL_law 339 = .ok (.iaload, 1) := by decide +kernel
theorem dL_law_340 : decode cL_law 340 = .ok (.aload_n 0, 1) := by decide +kernel
theorem dL_law_341 : decode cL_law 341 = .ok (.iload_n 3, 1) := by decide +kernel
theorem dL_law_342 : decode cL_law 342 = .ok (.iconst 2, 1) := by decide +kernel
theorem dL_law_343 : decode cL_law 343 = .ok (.iadd, 1) := by decide +kernel
theorem dL_law_344 : decode cL_law 344 = .ok (.iaload, 1) := by decide +kernel
theorem dL_law_345 : decode cL_law 345 = .ok (.invokevirtual 40, 3) := by decide +kernel
theorem dL_law_348 : decode cL_law 348 = .ok (.aload_n 2, 1) := by decide +kernel
theorem dL_law_349 : decode cL_law 349 = .ok (.aload_n 0, 1) := by decide +kernel
theorem dL_law_350 : decode cL_law 350 = .ok (.iload_n 3, 1) := by decide +kernel
theorem dL_law_351 : decode cL_law 351 = .ok (.iconst 1, 1) := by decide +kernel
theorem dL_law_352 : decode cL_law 352 = .ok (.iadd, 1) := by decide +kernel
theorem dL_law_353 : decode cL_law 353 = .ok (.iaload, 1) := by decide +kernel
theorem dL_law_354 : decode cL_law 354 = .ok (.aload_n 0, 1) := by decide +kernel
theorem dL_law_355 : decode cL_law 355 = .ok (.iload_n 3, 1) := by decide +kernel
theorem dL_law_356 : decode cL_law 356 = .ok (.iconst 2, 1) := by decide +kernel
theorem dL_law_357 : decode cL_law 357 = .ok (.iadd, 1) := by decide +kernel
theorem dL_law_358 : decode cL_law 358 = .ok (.iaload, 1) := by decide +kernel
theorem dL_law_359 : decode cL_law 359 = .ok (.invokevirtual 43, 3) := by decide +kernel
theorem dL_law_362 : decode cL_law 362 = .ok (.if_icmp .eq 350, 3) := by decide +kernel
theorem dL_law_365 : decode cL_law 365 = .ok (.iconst 0, 1) := by decide +kernel
theorem dL_law_366 : decode cL_law 366 = .ok (.ireturn, 1) := by decide +kernel
theorem dL_law_367 : decode cL_law 367 = .ok (.aload_n 1, 1) := by decide +kernel
theorem dL_law_368 : decode cL_law 368 = .ok (.aload_n 0, 1) := by decide +kernel
theorem dL_law_369 : decode cL_law 369 = .ok (.iload_n 3, 1) := by decide +kernel
theorem dL_law_370 : decode cL_law 370 = .ok (.iconst 1, 1) := by decide +kernel
theorem dL_law_371 : decode cL_law 371 = .ok (.iadd, 1) := by decide +kernel
theorem dL_law_372 : decode cL_law 372 = .ok (.iaload, 1) := by decide +kernel
theorem dL_law_373 : decode cL_law 373 = .ok (.invokevirtual 44, 3) := by decide +kernel
theorem dL_law_376 : decode cL_law 376 = .ok (.aload_n 2, 1) := by decide +kernel
theorem dL_law_377 : decode cL_law 377 = .ok (.aload_n 0, 1) := by decide +kernel
theorem dL_law_378 : decode cL_law 378 = .ok (.iload_n 3, 1) := by decide +kernel
theorem dL_law_379 : decode cL_law 379 = .ok (.iconst 1, 1) := by decide +kernel
theorem dL_law_380 : decode cL_law 380 = .ok (.iadd, 1) := by decide +kernel
theorem dL_law_381 : decode cL_law 381 = .ok (.iaload, 1) := by decide +kernel
theorem dL_law_382 : decode cL_law 382 = .ok (.invokevirtual 47, 3) := by decide +kernel
theorem dL_law_385 : decode cL_law 385 = .ok (.if_icmp .eq 327, 3) := by decide +kernel
theorem dL_law_388 : decode cL_law 388 = .ok (.iconst 0, 1) := by decide +kernel
theorem dL_law_389 : decode cL_law 389 = .ok (.ireturn, 1) := by decide +kernel
theorem dL_law_390 : decode cL_law 390 = .ok (.aload_n 1, 1) := by decide +kernel
theorem dL_law_391 : decode cL_law 391 = .ok (.aload_n 0, 1) := by decide +kernel
theorem dL_law_392 : decode cL_law 392 = .ok (.iload_n 3, 1) := by decide +kernel
theorem dL_law_393 : decode cL_law 393 = .ok (.iconst 1, 1) := by decide +kernel
theorem dL_law_394 : decode cL_law 394 = .ok (.iadd, 1) := by decide +kernel
theorem dL_law_395 : decode cL_law 395 = .ok (.iaload, 1) := by decide +kernel
theorem dL_law_396 : decode cL_law 396 = .ok (.aload_n 0, 1) := by decide +kernel
theorem dL_law_397 : decode cL_law 397 = .ok (.iload_n 3, 1) := by decide +kernel
theorem dL_law_398 : decode cL_law 398 = .ok (.iconst 2, 1) := by decide +kernel
theorem dL_law_399 : decode cL_law 399 = .ok (.iadd, 1) := by decide +kernel
theorem dL_law_400 : decode cL_law 400 = .ok (.iaload, 1) := by decide +kernel
theorem dL_law_401 : decode cL_law 401 = .ok (.invokevirtual 48, 3) := by decide +kernel
theorem dL_law_404 : decode cL_law 404 = .ok (.aload_n 2, 1) := by decide +kernel
theorem dL_law_405 : decode cL_law 405 = .ok (.aload_n 0, 1) := by decide +kernel
theorem dL_law_406 : decode cL_law 406 = .ok (.iload_n 3, 1) := by decide +kernel
theorem dL_law_407 : decode cL_law 407 = .ok (.iconst 1, 1) := by decide +kernel
theorem dL_law_408 : decode cL_law 408 = .ok (.iadd, 1) := by decide +kernel
theorem dL_law_409 : decode cL_law 409 = .ok (.iaload, 1) := by decide +kernel
theorem dL_law_410 : decode cL_law 410 = .ok (.aload_n 0, 1) := by decide +kernel
theorem dL_law_411 : decode cL_law 411 = .ok (.iload_n 3, 1) := by decide +kernel
theorem dL_law_412 : decode cL_law 412 = .ok (.iconst 2, 1) := by decide +kernel
theorem dL_law_413 : decode cL_law 413 = .ok (.iadd, 1) := by decide +kernel
theorem dL_law_414 : decode cL_law 414 = .ok (.iaload, 1) := by decide +kernel
theorem dL_law_415 : decode cL_law 415 = .ok (.invokevirtual 51, 3) := by decide +kernel
theorem dL_law_418 : decode cL_law 418 = .ok (.if_icmp .eq 294, 3) := by decide +kernel
theorem dL_law_421 : decode cL_law 421 = .ok (.iconst 0, 1) := by decide +kernel
theorem dL_law_422 : decode cL_law 422 = .ok (.ireturn, 1) := by decide +kernel
theorem dL_law_423 : decode cL_law 423 = .ok (.aload_n 1, 1) := by decide +kernel
theorem dL_law_424 : decode cL_law 424 = .ok (.aload_n 0, 1) := by decide +kernel
theorem dL_law_425 : decode cL_law 425 = .ok (.iload_n 3, 1) := by decide +kernel
theorem dL_law_426 : decode cL_law 426 = .ok (.iconst 1, 1) := by decide +kernel
theorem dL_law_427 : decode cL_law 427 = .ok (.iadd, 1) := by decide +kernel
theorem dL_law_428 : decode cL_law 428 = .ok (.iaload, 1) := by decide +kernel
theorem dL_law_429 : decode cL_law 429 = .ok (.aload_n 0, 1) := by decide +kernel
theorem dL_law_430 : decode cL_law 430 = .ok (.iload_n 3, 1) := by decide +kernel
theorem dL_law_431 : decode cL_law 431 = .ok (.iconst 2, 1) := by decide +kernel
theorem dL_law_432 : decode cL_law 432 = .ok (.iadd, 1) := by decide +kernel
theorem dL_law_433 : decode cL_law 433 = .ok (.iaload, 1) := by decide +kernel
theorem dL_law_434 : decode cL_law 434 = .ok (.invokevirtual 52, 3) := by decide +kernel
theorem dL_law_437 : decode cL_law 437 = .ok (.aload_n 2, 1) := by decide +kernel
theorem dL_law_438 : decode cL_law 438 = .ok (.aload_n 0, 1) := by decide +kernel
theorem dL_law_439 : decode cL_law 439 = .ok (.iload_n 3, 1) := by decide +kernel
theorem dL_law_440 : decode cL_law 440 = .ok (.iconst 1, 1) := by decide +kernel
theorem dL_law_441 : decode cL_law 441 = .ok (.iadd, 1) := by decide +kernel
theorem dL_law_442 : decode cL_law 442 = .ok (.iaload, 1) := by decide +kernel
theorem dL_law_443 : decode cL_law 443 = .ok (.aload_n 0, 1) := by decide +kernel
theorem dL_law_444 : decode cL_law 444 = .ok (.iload_n 3, 1) := by decide +kernel
theorem dL_law_445 : decode cL_law 445 = .ok (.iconst 2, 1) := by decide +kernel
theorem dL_law_446 : decode cL_law 446 = .ok (.iadd, 1) := by decide +kernel
theorem dL_law_447 : decode cL_law 447 = .ok (.iaload, 1) := by decide +kernel
theorem dL_law_448 : decode cL_law 448 = .ok (.invokevirtual 55, 3) := by decide +kernel
theorem dL_law_451 : decode cL_law 451 = .ok (.if_icmp .eq 261, 3) := by decide +kernel
theorem dL_law_454 : decode cL_law 454 = .ok (.iconst 0, 1) := by decide +kernel
theorem dL_law_455 : decode cL_law 455 = .ok (.ireturn, 1) := by decide +kernel
theorem dL_law_456 : decode cL_law 456 = .ok (.aload_n 1, 1) := by decide +kernel
theorem dL_law_457 : decode cL_law 457 = .ok (.invokevirtual 56, 3) := by decide +kernel
theorem dL_law_460 : decode cL_law 460 = .ok (.aload_n 2, 1) := by decide +kernel
theorem dL_law_461 : decode cL_law 461 = .ok (.invokevirtual 60, 3) := by decide +kernel
theorem dL_law_464 : decode cL_law 464 = .ok (.if_icmp .eq 248, 3) := by decide +kernel
theorem dL_law_467 : decode cL_law 467 = .ok (.iconst 0, 1) := by decide +kernel
theorem dL_law_468 : decode cL_law 468 = .ok (.ireturn, 1) := by decide +kernel
theorem dL_law_469 : decode cL_law 469 = .ok (.aload_n 1, 1) := by decide +kernel
theorem dL_law_470 : decode cL_law 470 = .ok (.aload_n 0, 1) := by decide +kernel
theorem dL_law_471 : decode cL_law 471 = .ok (.iload_n 3, 1) := by decide +kernel
theorem dL_law_472 : decode cL_law 472 = .ok (.iconst 1, 1) := by decide +kernel
theorem dL_law_473 : decode cL_law 473 = .ok (.iadd, 1) := by decide +kernel
theorem dL_law_474 : decode cL_law 474 = .ok (.iaload, 1) := by decide +kernel
theorem dL_law_475 : decode cL_law 475 = .ok (.invokevirtual 61, 3) := by decide +kernel
theorem dL_law_478 : decode cL_law 478 = .ok (.aload_n 2, 1) := by decide +kernel
theorem dL_law_479 : decode cL_law 479 = .ok (.aload_n 0, 1) := by decide +kernel
theorem dL_law_480 : decode cL_law 480 = .ok (.iload_n 3, 1) := by decide +kernel
theorem dL_law_481 : decode cL_law 481 = .ok (.iconst 1, 1) := by decide +kernel
theorem dL_law_482 : decode cL_law 482 = .ok (.iadd, 1) := by decide +kernel
theorem dL_law_483 : decode cL_law 483 = .ok (.iaload, 1) := by decide +kernel
theorem dL_law_484 : decode cL_law 484 = .ok (.invokevirtual 64, 3) := by decide +kernel
theorem dL_law_487 : decode cL_law 487 = .ok (.if_icmp .eq 225, 3) := by decide +kernel
theorem dL_law_490 : decode cL_law 490 = .ok (.iconst 0, 1) := by decide +kernel
theorem dL_law_491 : decode cL_law 491 = .ok (.ireturn, 1) := by decide +kernel
theorem dL_law_492 : decode cL_law 492 = .ok (.aload_n 1, 1) := by decide +kernel
theorem dL_law_493 : decode cL_law 493 = .ok (.aload_n 0, 1) := by decide +kernel
theorem dL_law_494 : decode cL_law 494 = .ok (.iload_n 3, 1) := by decide +kernel
theorem dL_law_495 : decode cL_law 495 = .ok (.iconst 1, 1) := by decide +kernel
theorem dL_law_496 : decode cL_law 496 = .ok (.iadd, 1) := by decide +kernel
theorem dL_law_497 : decode cL_law 497 = .ok (.iaload, 1) := by decide +kernel
theorem dL_law_498 : decode cL_law 498 = .ok (.invokevirtual 65, 3) := by decide +kernel
theorem dL_law_501 : decode cL_law 501 = .ok (.aload_n 2, 1) := by decide +kernel
theorem dL_law_502 : decode cL_law 502 = .ok (.aload_n 0, 1) := by decide +kernel
theorem dL_law_503 : decode cL_law 503 = .ok (.iload_n 3, 1) := by decide +kernel
theorem dL_law_504 : decode cL_law 504 = .ok (.iconst 1, 1) := by decide +kernel
theorem dL_law_505 : decode cL_law 505 = .ok (.iadd, 1) := by decide +kernel
theorem dL_law_506 : decode cL_law 506 = .ok (.iaload, 1) := by decide +kernel
theorem dL_law_507 : decode cL_law 507 = .ok (.invokevirtual 68, 3) := by decide +kernel
theorem dL_law_510 : decode cL_law 510 = .ok (.if_icmp .eq 202, 3) := by decide +kernel
theorem dL_law_513 : decode cL_law 513 = .ok (.iconst 0, 1) := by decide +kernel
theorem dL_law_514 : decode cL_law 514 = .ok (.ireturn, 1) := by decide +kernel
theorem dL_law_515 : decode cL_law 515 = .ok (.aload_n 1, 1) := by decide +kernel
theorem dL_law_516 : decode cL_law 516 = .ok (.aload_n 0, 1) := by decide +kernel
theorem dL_law_517 : decode cL_law 517 = .ok (.iload_n 3, 1) := by decide +kernel
theorem dL_law_518 : decode cL_law 518 = .ok (.iconst 1, 1) := by decide +kernel
theorem dL_law_519 : decode cL_law 519 = .ok (.iadd, 1) := by decide +kernel
theorem dL_law_520 : decode cL_law 520 = .ok (.iaload, 1) := by decide +kernel
theorem dL_law_521 : decode cL_law 521 = .ok (.invokevirtual 69, 3) := by decide +kernel
theorem dL_law_524 : decode cL_law 524 = .ok (.aload_n 2, 1) := by decide +kernel
theorem dL_law_525 : decode cL_law 525 = .ok (.aload_n 0, 1) := by decide +kernel
theorem dL_law_526 : decode cL_law 526 = .ok (.iload_n 3, 1) := by decide +kernel
theorem dL_law_527 : decode cL_law 527 = .ok (.iconst 1, 1) := by decide +kernel
theorem dL_law_528 : decode cL_law 528 = .ok (.iadd, 1) := by decide +kernel
theorem dL_law_529 : decode cL_law 529 = .ok (.iaload, 1) := by decide +kernel
theorem dL_law_530 : decode cL_law 530 = .ok (.invokevirtual 72, 3) := by decide +kernel
theorem dL_law_533 : decode cL_law 533 = .ok (.if_icmp .eq 179, 3) := by decide +kernel
theorem dL_law_536 : decode cL_law 536 = .ok (.iconst 0, 1) := by decide +kernel
theorem dL_law_537 : decode cL_law 537 = .ok (.ireturn, 1) := by decide +kernel
theorem dL_law_538 : decode cL_law 538 = .ok (.aload_n 1, 1) := by decide +kernel
theorem dL_law_539 : decode cL_law 539 = .ok (.aload_n 0, 1) := by decide +kernel
theorem dL_law_540 : decode cL_law 540 = .ok (.iload_n 3, 1) := by decide +kernel
theorem dL_law_541 : decode cL_law 541 = .ok (.iconst 1, 1) := by decide +kernel
theorem dL_law_542 : decode cL_law 542 = .ok (.iadd, 1) := by decide +kernel
theorem dL_law_543 : decode cL_law 543 = .ok (.iaload, 1) := by decide +kernel
theorem dL_law_544 : decode cL_law 544 = .ok (.invokevirtual 73, 3) := by decide +kernel
theorem dL_law_547 : decode cL_law 547 = .ok (.aload_n 2, 1) := by decide +kernel
theorem dL_law_548 : decode cL_law 548 = .ok (.aload_n 0, 1) := by decide +kernel
theorem dL_law_549 : decode cL_law 549 = .ok (.iload_n 3, 1) := by decide +kernel
theorem dL_law_550 : decode cL_law 550 = .ok (.iconst 1, 1) := by decide +kernel
theorem dL_law_551 : decode cL_law 551 = .ok (.iadd, 1) := by decide +kernel
theorem dL_law_552 : decode cL_law 552 = .ok (.iaload, 1) := by decide +kernel
theorem dL_law_553 : decode cL_law 553 = .ok (.invokevirtual 76, 3) := by decide +kernel
theorem dL_law_556 : decode cL_law 556 = .ok (.if_icmp .eq 156, 3) := by decide +kernel
theorem dL_law_559 : decode cL_law 559 = .ok (.iconst 0, 1) := by decide +kernel
theorem dL_law_560 : decode cL_law 560 = .ok (.ireturn, 1) := by decide +kernel
theorem dL_law_561 : decode cL_law 561 = .ok (.aload_n 1, 1) := by decide +kernel
theorem dL_law_562 : decode cL_law 562 = .ok (.aload_n 0, 1) := by decide +kernel
theorem dL_law_563 : decode cL_law 563 = .ok (.iload_n 3, 1) := by decide +kernel
theorem dL_law_564 : decode cL_law 564 = .ok (.iconst 1, 1) := by decide +kernel
theorem dL_law_565 : decode cL_law 565 = .ok (.iadd, 1) := by decide +kernel
theorem dL_law_566 : decode cL_law 566 = .ok (.iaload, 1) := by decide +kernel
theorem dL_law_567 : decode cL_law 567 = .ok (.i2l, 1) := by decide +kernel
theorem dL_law_568 : decode cL_law 568 = .ok (.bipush 32, 2) := by decide +kernel
theorem dL_law_570 : decode cL_law 570 = .ok (.lshl, 1) := by decide +kernel
theorem dL_law_571 : decode cL_law 571 = .ok (.aload_n 0, 1) := by decide +kernel
theorem dL_law_572 : decode cL_law 572 = .ok (.iload_n 3, 1) := by decide +kernel
theorem dL_law_573 : decode cL_law 573 = .ok (.iconst 2, 1) := by decide +kernel
theorem dL_law_574 : decode cL_law 574 = .ok (.iadd, 1) := by decide +kernel
theorem dL_law_575 : decode cL_law 575 = .ok (.iaload, 1) := by decide +kernel
theorem dL_law_576 : decode cL_law 576 = .ok (.i2l, 1) := by decide +kernel
theorem dL_law_577 : decode cL_law 577 = .ok (.ldc2_w 77, 3) := by decide +kernel
theorem dL_law_580 : decode cL_law 580 = .ok (.land, 1) := by decide +kernel
theorem dL_law_581 : decode cL_law 581 = .ok (.lor, 1) := by decide +kernel
theorem dL_law_582 : decode cL_law 582 = .ok (.invokevirtual 79, 3) := by decide +kernel
theorem dL_law_585 : decode cL_law 585 = .ok (.aload_n 2, 1) := by decide +kernel
theorem dL_law_586 : decode cL_law 586 = .ok (.aload_n 0, 1) := by decide +kernel
theorem dL_law_587 : decode cL_law 587 = .ok (.iload_n 3, 1) := by decide +kernel
theorem dL_law_588 : decode cL_law 588 = .ok (.iconst 1, 1) := by decide +kernel
theorem dL_law_589 : decode cL_law 589 = .ok (.iadd, 1) := by decide +kernel
theorem dL_law_590 : decode cL_law 590 = .ok (.iaload, 1) := by decide +kernel
theorem dL_law_591 : decode cL_law 591 = .ok (.i2l, 1) := by decide +kernel
theorem dL_law_592 : decode cL_law 592 = .ok (.bipush 32, 2) := by decide +kernel
theorem dL_law_594 : decode cL_law 594 = .ok (.lshl, 1) := by decide +kernel
theorem dL_law_595 : decode cL_law 595 = .ok (.aload_n 0, 1) := by decide +kernel
theorem dL_law_596 : decode cL_law 596 = .ok (.iload_n 3, 1) := by decide +kernel
theorem dL_law_597 : decode cL_law 597 = .ok (.iconst 2, 1) := by decide +kernel
theorem dL_law_598 : decode cL_law 598 = .ok (.iadd, 1) := by decide +kernel
theorem dL_law_599 : decode cL_law 599 = .ok (.iaload, 1) := by decide +kernel
theorem dL_law_600 : decode cL_law 600 = .ok (.i2l, 1) := by decide +kernel
theorem dL_law_601 : decode cL_law 601 = .ok (.ldc2_w 77, 3) := by decide +kernel
theorem dL_law_604 : decode cL_law 604 = .ok (.land, 1) := by decide +kernel
theorem dL_law_605 : decode cL_law 605 = .ok (.lor, 1) := by decide +kernel
theorem dL_law_606 : decode cL_law 606 = .ok (.invokevirtual 83, 3) := by decide +kernel
theorem dL_law_609 : decode cL_law 609 = .ok (.if_icmp .eq 103, 3) := by decide +kernel
theorem dL_law_612 : decode cL_law 612 = .ok (.iconst 0, 1) := by decide +kernel
theorem dL_law_613 : decode cL_law 613 = .ok (.ireturn, 1) := by decide +kernel
theorem dL_law_614 : decode cL_law 614 = .ok (.aload_n 1, 1) := by decide +kernel
theorem dL_law_615 : decode cL_law 615 = .ok (.invokevirtual 84, 3) := by decide +kernel
theorem dL_law_618 : decode cL_law 618 = .ok (.aload_n 2, 1) := by decide +kernel
theorem dL_law_619 : decode cL_law 619 = .ok (.invokevirtual 87, 3) := by decide +kernel
theorem dL_law_622 : decode cL_law 622 = .ok (.if_icmp .eq 90, 3) := by decide +kernel
theorem dL_law_625 : decode cL_law 625 = .ok (.iconst 0, 1) := by decide +kernel
theorem dL_law_626 : decode cL_law 626 = .ok (.ireturn, 1) := by decide +kernel
theorem dL_law_627 : decode cL_law 627 = .ok (.aload_n 1, 1) := by decide +kernel
theorem dL_law_628 : decode cL_law 628 = .ok (.invokevirtual 88, 3) := by decide +kernel
theorem dL_law_631 : decode cL_law 631 = .ok (.aload_n 2, 1) := by decide +kernel
theorem dL_law_632 : decode cL_law 632 = .ok (.invokevirtual 91, 3) := by decide +kernel
theorem dL_law_635 : decode cL_law 635 = .ok (.if_icmp .eq 77, 3) := by decide +kernel
theorem dL_law_638 : decode cL_law 638 = .ok (.iconst 0, 1) := by decide +kernel
theorem dL_law_639 : decode cL_law 639 = .ok (.ireturn, 1) := by decide +kernel
theorem dL_law_640 : decode cL_law 640 = .ok (.aload_n 1, 1) := by decide +kernel
theorem dL_law_641 : decode cL_law 641 = .ok (.invokevirtual 92, 3) := by decide +kernel
theorem dL_law_644 : decode cL_law 644 = .ok (.aload_n 2, 1) := by decide +kernel
theorem dL_law_645 : decode cL_law 645 = .ok (.invokevirtual 95, 3) := by decide +kernel
theorem dL_law_648 : decode cL_law 648 = .ok (.if_icmp .eq 64, 3) := by decide +kernel
theorem dL_law_651 : decode cL_law 651 = .ok (.iconst 0, 1) := by decide +kernel
theorem dL_law_652 : decode cL_law 652 = .ok (.ireturn, 1) := by decide +kernel
theorem dL_law_653 : decode cL_law 653 = .ok (.aload_n 1, 1) := by decide +kernel
theorem dL_law_654 : decode cL_law 654 = .ok (.invokevirtual 96, 3) := by decide +kernel
theorem dL_law_657 : decode cL_law 657 = .ok (.aload_n 2, 1) := by decide +kernel
theorem dL_law_658 : decode cL_law 658 = .ok (.invokevirtual 99, 3) := by decide +kernel
theorem dL_law_661 : decode cL_law 661 = .ok (.if_icmp .eq 51, 3) := by decide +kernel
theorem dL_law_664 : decode cL_law 664 = .ok (.iconst 0, 1) := by decide +kernel
theorem dL_law_665 : decode cL_law 665 = .ok (.ireturn, 1) := by decide +kernel
theorem dL_law_666 : decode cL_law 666 = .ok (.aload_n 1, 1) := by decide +kernel
theorem dL_law_667 : decode cL_law 667 = .ok (.aload_n 0, 1) := by decide +kernel
theorem dL_law_668 : decode cL_law 668 = .ok (.iload_n 3, 1) := by decide +kernel
theorem dL_law_669 : decode cL_law 669 = .ok (.iconst 1, 1) := by decide +kernel
theorem dL_law_670 : decode cL_law 670 = .ok (.iadd, 1) := by decide +kernel
theorem dL_law_671 : decode cL_law 671 = .ok (.iaload, 1) := by decide +kernel
theorem dL_law_672 : decode cL_law 672 = .ok (.invokevirtual 100, 3) := by decide +kernel
theorem dL_law_675 : decode cL_law 675 = .ok (.aload_n 2, 1) := by decide +kernel
theorem dL_law_676 : decode cL_law 676 = .ok (.aload_n 0, 1) := by decide +kernel
theorem dL_law_677 : decode cL_law 677 = .ok (.iload_n 3, 1) := by decide +kernel
theorem dL_law_678 : decode cL_law 678 = .ok (.iconst 1, 1) := by decide +kernel
theorem dL_law_679 : decode cL_law 679 = .ok (.iadd, 1) := by decide +kernel
theorem dL_law_680 : decode cL_law 680 = .ok (.iaload, 1) := by decide +kernel
theorem dL_law_681 : decode cL_law 681 = .ok (.invokevirtual 103, 3) := by decide +kernel
theorem dL_law_684 : decode cL_law 684 = .ok (.if_icmp .eq 28, 3) := by decide +kernel
theorem dL_law_687 : decode cL_law 687 = .ok (.iconst 0, 1) := by decide +kernel
theorem dL_law_688 : decode cL_law 688 = .ok (.ireturn, 1) := by decide +kernel
theorem dL_law_689 : decode cL_law 689 = .ok (.aload_n 1, 1) := by decide +kernel
theorem dL_law_690 : decode cL_law 690 = .ok (.aload_n 0, 1) := by decide +kernel
theorem dL_law_691 : decode cL_law 691 = .ok (.iload_n 3, 1) := by decide +kernel
theorem dL_law_692 : decode cL_law 692 = .ok (.iconst 1, 1) := by decide +kernel
theorem dL_law_693 : decode cL_law 693 = .ok (.iadd, 1) := by decide +kernel
theorem dL_law_694 : decode cL_law 694 = .ok (.iaload, 1) := by decide +kernel
theorem dL_law_695 : decode cL_law 695 = .ok (.invokevirtual 104, 3) := by decide +kernel
theorem dL_law_698 : decode cL_law 698 = .ok (.aload_n 2, 1) := by decide +kernel
theorem dL_law_699 : decode cL_law 699 = .ok (.aload_n 0, 1) := by decide +kernel
theorem dL_law_700 : decode cL_law 700 = .ok (.iload_n 3, 1) := by decide +kernel
theorem dL_law_701 : decode cL_law 701 = .ok (.iconst 1, 1) := by decide +kernel
theorem dL_law_702 : decode cL_law 702 = .ok (.iadd, 1) := by decide +kernel
theorem dL_law_703 : decode cL_law 703 = .ok (.iaload, 1) := by decide +kernel
theorem dL_law_704 : decode cL_law 704 = .ok (.invokevirtual 107, 3) := by decide +kernel
theorem dL_law_707 : decode cL_law 707 = .ok (.if_icmp .eq 5, 3) := by decide +kernel
theorem dL_law_710 : decode cL_law 710 = .ok (.iconst 0, 1) := by decide +kernel
theorem dL_law_711 : decode cL_law 711 = .ok (.ireturn, 1) := by decide +kernel
theorem dL_law_712 : decode cL_law 712 = .ok (.iinc 3 4, 3) := by decide +kernel
theorem dL_law_715 : decode cL_law 715 = .ok (.goto (-697), 3) := by decide +kernel
theorem dL_law_718 : decode cL_law 718 = .ok (.iconst 1, 1) := by decide +kernel
theorem dL_law_719 : decode cL_law 719 = .ok (.ireturn, 1) := by decide +kernel
