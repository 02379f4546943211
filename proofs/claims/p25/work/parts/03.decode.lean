theorem dX0_init_0 : decode cX0_init 0 = .ok (.aload_n 0, 1) := by decide +kernel
theorem dX0_init_1 : decode cX0_init 1 = .ok (.invokespecial 3, 3) := by decide +kernel
theorem dX0_init_4 : decode cX0_init 4 = .ok (.aload_n 0, 1) := by decide +kernel
theorem dX0_init_5 : decode cX0_init 5 = .ok (.iconst 4, 1) := by decide +kernel
theorem dX0_init_6 : decode cX0_init 6 = .ok (.putfield 9, 3) := by decide +kernel
theorem dX0_init_9 : decode cX0_init 9 = .ok (.aload_n 0, 1) := by decide +kernel
theorem dX0_init_10 : decode cX0_init 10 = .ok (.iconst 4, 1) := by decide +kernel
theorem dX0_init_11 : decode cX0_init 11 = .ok (.putfield 15, 3) := by decide +kernel
theorem dX0_init_14 : decode cX0_init 14 = .ok (.aload_n 0, 1) := by decide +kernel
theorem dX0_init_15 : decode cX0_init 15 = .ok (.lconst 0, 1) := by decide +kernel
theorem dX0_init_16 : decode cX0_init 16 = .ok (.putfield 18, 3) := by decide +kernel
theorem dX0_init_19 : decode cX0_init 19 = .ok (.return_, 1) := by decide +kernel
theorem dX0_layOut_0 : decode cX0_layOut 0 = .ok (.aload_n 0, 1) := by decide +kernel
theorem dX0_layOut_1 : decode cX0_layOut 1 = .ok (.iload_n 1, 1) := by decide +kernel
theorem dX0_layOut_2 : decode cX0_layOut 2 = .ok (.putfield 9, 3) := by decide +kernel
theorem dX0_layOut_5 : decode cX0_layOut 5 = .ok (.aload_n 0, 1) := by decide +kernel
theorem dX0_layOut_6 : decode cX0_layOut 6 = .ok (.iload_n 2, 1) := by decide +kernel
theorem dX0_layOut_7 : decode cX0_layOut 7 = .ok (.putfield 15, 3) := by decide +kernel
theorem dX0_layOut_10 : decode cX0_layOut 10 = .ok (.aload_n 0, 1) := by decide +kernel
theorem dX0_layOut_11 : decode cX0_layOut 11 = .ok (.lconst 0, 1) := by decide +kernel
theorem dX0_layOut_12 : decode cX0_layOut 12 = .ok (.putfield 18, 3) := by decide +kernel
theorem dX0_layOut_15 : decode cX0_layOut 15 = .ok (.return_, 1) := by decide +kernel
theorem dX0_copyGrid_0 : decode cX0_copyGrid 0 = .ok (.aload_n 0, 1) := by decide +kernel
theorem dX0_copyGrid_1 : decode cX0_copyGrid 1 = .ok (.aload_n 1, 1) := by decide +kernel
theorem dX0_copyGrid_2 : decode cX0_copyGrid 2 = .ok (.getfield 9, 3) := by decide +kernel
theorem dX0_copyGrid_5 : decode cX0_copyGrid 5 = .ok (.putfield 9, 3) := by decide +kernel
theorem dX0_copyGrid_8 : decode cX0_copyGrid 8 = .ok (.aload_n 0, 1) := by decide +kernel
theorem dX0_copyGrid_9 : decode cX0_copyGrid 9 = .ok (.aload_n 1, 1) := by decide +kernel
theorem dX0_copyGrid_10 : decode cX0_copyGrid 10 = .ok (.getfield 15, 3) := by decide +kernel
theorem dX0_copyGrid_13 : decode cX0_copyGrid 13 = .ok (.putfield 15, 3) := by decide +kernel
theorem dX0_copyGrid_16 : decode cX0_copyGrid 16 = .ok (.aload_n 0, 1) := by decide +kernel
theorem dX0_copyGrid_17 : decode cX0_copyGrid 17 = .ok (.aload_n 1, 1) := by decide +kernel
theorem dX0_copyGrid_18 : decode cX0_copyGrid 18 = .ok (.getfield 18, 3) := by decide +kernel
theorem dX0_copyGrid_21 : decode cX0_copyGrid 21 = .ok (.putfield 18, 3) := by decide +kernel
theorem dX0_copyGrid_24 : decode cX0_copyGrid 24 = .ok (.return_, 1) := by decide +kernel
theorem dX0_boxes_0 : decode cX0_boxes 0 = .ok (.aload_n 0, 1) := by decide +kernel
theorem dX0_boxes_1 : decode cX0_boxes 1 = .ok (.getfield 9, 3) := by decide +kernel
theorem dX0_boxes_4 : decode cX0_boxes 4 = .ok (.aload_n 0, 1) := by decide +kernel
theorem dX0_boxes_5 : decode cX0_boxes 5 = .ok (.getfield 15, 3) := by decide +kernel
theorem dX0_boxes_8 : decode cX0_boxes 8 = .ok (.imul, 1) := by decide +kernel
theorem dX0_boxes_9 : decode cX0_boxes 9 = .ok (.ireturn, 1) := by decide +kernel
theorem dX0_has_0 : decode cX0_has 0 = .ok (.iload_n 1, 1) := by decide +kernel
theorem dX0_has_1 : decode cX0_has 1 = .ok (.ifCond .lt 20, 3) := by decide +kernel
theorem dX0_has_4 : decode cX0_has 4 = .ok (.iload_n 1, 1) := by decide +kernel
theorem dX0_has_5 : decode cX0_has 5 = .ok (.aload_n 0, 1) := by decide +kernel
theorem dX0_has_6 : decode cX0_has 6 = .ok (.getfield 9, 3) := by decide +kernel
theorem dX0_has_9 : decode cX0_has 9 = .ok (.aload_n 0, 1) := by decide +kernel
theorem dX0_has_10 : decode cX0_has 10 = .ok (.getfield 15, 3) := by decide +kernel
theorem dX0_has_13 : decode cX0_has 13 = .ok (.imul, 1) := by decide +kernel
theorem dX0_has_14 : decode cX0_has 14 = .ok (.if_icmp .ge 7, 3) := by decide +kernel
theorem dX0_has_17 : decode cX0_has 17 = .ok (.iconst 1, 1) := by decide +kernel
theorem dX0_has_18 : decode cX0_has 18 = .ok (.goto 4, 3) := by decide +kernel
theorem dX0_has_21 : decode cX0_has 21 = .ok (.iconst 0, 1) := by decide +kernel
theorem dX0_has_22 : decode cX0_has 22 = .ok (.ireturn, 1) := by decide +kernel
theorem dX0_beside_0 : decode cX0_beside 0 = .ok (.aload_n 0, 1) := by decide +kernel
theorem dX0_beside_1 : decode cX0_beside 1 = .ok (.getfield 9, 3) := by decide +kernel
theorem dX0_beside_4 : decode cX0_beside 4 = .ok (.iconst 1, 1) := by decide +kernel
theorem dX0_beside_5 : decode cX0_beside 5 = .ok (.if_icmp .ge 5, 3) := by decide +kernel
theorem dX0_beside_8 : decode cX0_beside 8 = .ok (.iconst (-1), 1) := by decide +kernel
theorem dX0_beside_9 : decode cX0_beside 9 = .ok (.ireturn, 1) := by decide +kernel
theorem dX0_beside_10 : decode cX0_beside 10 = .ok (.iload_n 1, 1) := by decide +kernel
theorem dX0_beside_11 : decode cX0_beside 11 = .ok (.aload_n 0, 1) := by decide +kernel
theorem dX0_beside_12 : decode cX0_beside 12 = .ok (.getfield 9, 3) := by decide +kernel
theorem dX0_beside_15 : decode cX0_beside 15 = .ok (.irem, 1) := by decide +kernel
theorem dX0_beside_16 : decode cX0_beside 16 = .ok (.istore_n 3, 1) := by decide +kernel
theorem dX0_beside_17 : decode cX0_beside 17 = .ok (.iload_n 1, 1) := by decide +kernel
theorem dX0_beside_18 : decode cX0_beside 18 = .ok (.aload_n 0, 1) := by decide +kernel
theorem dX0_beside_19 : decode cX0_beside 19 = .ok (.getfield 9, 3) := by decide +kernel
theorem dX0_beside_22 : decode cX0_beside 22 = .ok (.idiv, 1) := by decide +kernel
theorem dX0_beside_23 : decode cX0_beside 23 = .ok (.istore 4, 2) := by decide +kernel
theorem dX0_beside_25 : decode cX0_beside 25 = .ok (.iload_n 2, 1) := by decide +kernel
theorem dX0_beside_26 : decode cX0_beside 26 = .ok (.tableswitch 98 0 3 #[30, 48, 60, 82], 30) := by decide +kernel
theorem dX0_beside_56 : decode cX0_beside 56 = .ok (.iload_n 3, 1) := by decide +kernel
theorem dX0_beside_57 : decode cX0_beside 57 = .ok (.aload_n 0, 1) := by decide +kernel
theorem dX0_beside_58 : decode cX0_beside 58 = .ok (.getfield 9, 3) := by decide +kernel
theorem dX0_beside_61 : decode cX0_beside 61 = .ok (.iconst 1, 1) := by decide +kernel
theorem dX0_beside_62 : decode cX0_beside 62 = .ok (.isub, 1) := by decide +kernel
theorem dX0_beside_63 : decode cX0_beside 63 = .ok (.if_icmp .ge 9, 3) := by decide +kernel
theorem dX0_beside_66 : decode cX0_beside 66 = .ok (.iload_n 1, 1) := by decide +kernel
theorem dX0_beside_67 : decode cX0_beside 67 = .ok (.iconst 1, 1) := by decide +kernel
theorem dX0_beside_68 : decode cX0_beside 68 = .ok (.iadd, 1) := by decide +kernel
theorem dX0_beside_69 : decode cX0_beside 69 = .ok (.goto 4, 3) := by decide +kernel
theorem dX0_beside_72 : decode cX0_beside 72 = .ok (.iconst (-1), 1) := by decide +kernel
theorem dX0_beside_73 : decode cX0_beside 73 = .ok (.ireturn, 1) := by decide +kernel
theorem dX0_beside_74 : decode cX0_beside 74 = .ok (.iload_n 3, 1) := by decide +kernel
theorem dX0_beside_75 : decode cX0_beside 75 = .ok (.ifCond .le 9, 3) := by decide +kernel
theorem dX0_beside_78 : decode cX0_beside 78 = .ok (.iload_n 1, 1) := by decide +kernel
theorem dX0_beside_79 : decode cX0_beside 79 = .ok (.iconst 1, 1) := by decide +kernel
theorem dX0_beside_80 : decode cX0_beside 80 = .ok (.isub, 1) := by decide +kernel
theorem dX0_beside_81 : decode cX0_beside 81 = .ok (.goto 4, 3) := by decide +kernel
theorem dX0_beside_84 : decode cX0_beside 84 = .ok (.iconst (-1), 1) := by decide +kernel
theorem dX0_beside_85 : decode cX0_beside 85 = .ok (.ireturn, 1) := by decide +kernel
theorem dX0_beside_86 : decode cX0_beside 86 = .ok (.iload 4, 2) := by decide +kernel
theorem dX0_beside_88 : decode cX0_beside 88 = .ok (.aload_n 0, 1) := by decide +kernel
theorem dX0_beside_89 : decode cX0_beside 89 = .ok (.getfield 15, 3) := by decide +kernel
theorem dX0_beside_92 : decode cX0_beside 92 = .ok (.iconst 1, 1) := by decide +kernel
theorem dX0_beside_93 : decode cX0_beside 93 = .ok (.isub, 1) := by decide +kernel
theorem dX0_beside_94 : decode cX0_beside 94 = .ok (.if_icmp .ge 12, 3) := by decide +kernel
theorem dX0_beside_97 : decode cX0_beside 97 = .ok (.iload_n 1, 1) := by decide +kernel
theorem dX0_beside_98 : decode cX0_beside 98 = .ok (.aload_n 0, 1) := by decide +kernel
theorem dX0_beside_99 : decode cX0_beside 99 = .ok (.getfield 9, 3) := by decide +kernel
theorem dX0_beside_102 : decode cX0_beside 102 = .ok (.iadd, 1) := by decide +kernel
theorem dX0_beside_103 : decode cX0_beside 103 = .ok (.goto 4, 3) := by decide +kernel
theorem dX0_beside_106 : decode cX0_beside 106 = .ok (.iconst (-1), 1) := by decide +kernel
theorem dX0_beside_107 : decode cX0_beside 107 = .ok (.ireturn, 1) := by decide +kernel
theorem dX0_beside_108 : decode cX0_beside 108 = .ok (.iload 4, 2) := by decide +kernel
theorem dX0_beside_110 : decode cX0_beside 110 = .ok (.ifCond .le 12, 3) := by decide +kernel
theorem dX0_beside_113 : decode cX0_beside 113 = .ok (.iload_n 1, 1) := by decide +kernel
theorem dX0_beside_114 : decode cX0_beside 114 = .ok (.aload_n 0, 1) := by decide +kernel
theorem dX0_beside_115 : decode cX0_beside 115 = .ok (.getfield 9, 3) := by decide +kernel
theorem dX0_beside_118 : decode cX0_beside 118 = .ok (.isub, 1) := by decide +kernel
theorem dX0_beside_119 : decode cX0_beside 119 = .ok (.goto 4, 3) := by decide +kernel
theorem dX0_beside_122 : decode cX0_beside 122 = .ok (.iconst (-1), 1) := by decide +kernel
theorem dX0_beside_123 : decode cX0_beside 123 = .ok (.ireturn, 1) := by decide +kernel
theorem dX0_beside_124 : decode cX0_beside 124 = .ok (.iconst (-1), 1) := by decide +kernel
theorem dX0_beside_125 : decode cX0_beside 125 = .ok (.ireturn, 1) := by decide +kernel
theorem dX0_distance_0 : decode cX0_distance 0 = .ok (.aload_n 0, 1) := by decide +kernel
theorem dX0_distance_1 : decode cX0_distance 1 = .ok (.getfield 9, 3) := by decide +kernel
theorem dX0_distance_4 : decode cX0_distance 4 = .ok (.iconst 1, 1) := by decide +kernel
theorem dX0_distance_5 : decode cX0_distance 5 = .ok (.if_icmp .ge 5, 3) := by decide +kernel
theorem dX0_distance_8 : decode cX0_distance 8 = .ok (.iconst 0, 1) := by decide +kernel
theorem dX0_distance_9 : decode cX0_distance 9 = .ok (.ireturn, 1) := by decide +kernel
theorem dX0_distance_10 : decode cX0_distance 10 = .ok (.iload_n 1, 1) := by decide +kernel
theorem dX0_distance_11 : decode cX0_distance 11 = .ok (.aload_n 0, 1) := by decide +kernel
theorem dX0_distance_12 : decode cX0_distance 12 = .ok (.getfield 9, 3) := by decide +kernel
theorem dX0_distance_15 : decode cX0_distance 15 = .ok (.irem, 1) := by decide +kernel
theorem dX0_distance_16 : decode cX0_distance 16 = .ok (.iload_n 2, 1) := by decide +kernel
theorem dX0_distance_17 : decode cX0_distance 17 = .ok (.aload_n 0, 1) := by decide +kernel
theorem dX0_distance_18 : decode cX0_distance 18 = .ok (.getfield 9, 3) := by decide +kernel
theorem dX0_distance_21 : decode cX0_distance 21 = .ok (.irem, 1) := by decide +kernel
theorem dX0_distance_22 : decode cX0_distance 22 = .ok (.isub, 1) := by decide +kernel
theorem dX0_distance_23 : decode cX0_distance 23 = .ok (.invokestatic 22, 3) := by decide +kernel
theorem dX0_distance_26 : decode cX0_distance 26 = .ok (.iload_n 1, 1) := by decide +kernel
theorem dX0_distance_27 : decode cX0_distance 27 = .ok (.aload_n 0, 1) := by decide +kernel
theorem dX0_distance_28 : decode cX0_distance 28 = .ok (.getfield 9, 3) := by decide +kernel
theorem dX0_distance_31 : decode cX0_distance 31 = .ok (.idiv, 1) := by decide +kernel
theorem dX0_distance_32 : decode cX0_distance 32 = .ok (.iload_n 2, 1) := by decide +kernel
theorem dX0_distance_33 : decode cX0_distance 33 = .ok (.aload_n 0, 1) := by decide +kernel
theorem dX0_distance_34 : decode cX0_distance 34 = .ok (.getfield 9, 3) := by decide +kernel
theorem dX0_distance_37 : decode cX0_distance 37 = .ok (.idiv, 1) := by decide +kernel
theorem dX0_distance_38 : decode cX0_distance 38 = .ok (.isub, 1) := by decide +kernel
theorem dX0_distance_39 : decode cX0_distance 39 = .ok (.invokestatic 22, 3) := by decide +kernel
theorem dX0_distance_42 : decode cX0_distance 42 = .ok (.iadd, 1) := by decide +kernel
theorem dX0_distance_43 : decode cX0_distance 43 = .ok (.ireturn, 1) := by decide +kernel
theorem dX0_linkAt_0 : decode cX0_linkAt 0 = .ok (.aload_n 0, 1) := by decide +kernel
theorem dX0_linkAt_1 : decode cX0_linkAt 1 = .ok (.iload_n 1, 1) := by decide +kernel
theorem dX0_linkAt_2 : decode cX0_linkAt 2 = .ok (.iload_n 2, 1) := by decide +kernel
theorem dX0_linkAt_3 : decode cX0_linkAt 3 = .ok (.invokevirtual 28, 3) := by decide +kernel
theorem dX0_linkAt_6 : decode cX0_linkAt 6 = .ok (.istore_n 3, 1) := by decide +kernel
theorem dX0_linkAt_7 : decode cX0_linkAt 7 = .ok (.iload_n 3, 1) := by decide +kernel
theorem dX0_linkAt_8 : decode cX0_linkAt 8 = .ok (.iconst (-1), 1) := by decide +kernel
theorem dX0_linkAt_9 : decode cX0_linkAt 9 = .ok (.if_icmp .ne 5, 3) := by decide +kernel
theorem dX0_linkAt_12 : decode cX0_linkAt 12 = .ok (.iconst (-1), 1) := by decide +kernel
theorem dX0_linkAt_13 : decode cX0_linkAt 13 = .ok (.ireturn, 1) := by decide +kernel
theorem dX0_linkAt_14 : decode cX0_linkAt 14 = .ok (.iconst 2, 1) := by decide +kernel
theorem dX0_linkAt_15 : decode cX0_linkAt 15 = .ok (.iload_n 1, 1) := by decide +kernel
theorem dX0_linkAt_16 : decode cX0_linkAt 16 = .ok (.iload_n 3, 1) := by decide +kernel
theorem dX0_linkAt_17 : decode cX0_linkAt 17 = .ok (.invokestatic 32, 3) := by decide +kernel
theorem dX0_linkAt_20 : decode cX0_linkAt 20 = .ok (.imul, 1) := by decide +kernel
theorem dX0_linkAt_21 : decode cX0_linkAt 21 = .ok (.iload_n 2, 1) := by decide +kernel
theorem dX0_linkAt_22 : decode cX0_linkAt 22 = .ok (.ifCond .eq 8, 3) := by decide +kernel
theorem dX0_linkAt_25 : decode cX0_linkAt 25 = .ok (.iload_n 2, 1) := by decide +kernel
theorem dX0_linkAt_26 : decode cX0_linkAt 26 = .ok (.iconst 1, 1) := by decide +kernel
theorem dX0_linkAt_27 : decode cX0_linkAt 27 = .ok (.if_icmp .ne 7, 3) := by decide +kernel
theorem dX0_linkAt_30 : decode cX0_linkAt 30 = .ok (.iconst 0, 1) := by decide +kernel
theorem dX0_linkAt_31 : decode cX0_linkAt 31 = .ok (.goto 4, 3) := by decide +kernel
theorem dX0_linkAt_34 : decode cX0_linkAt 34 = .ok (.iconst 1, 1) := by decide +kernel
theorem dX0_linkAt_35 : decode cX0_linkAt 35 = .ok (.iadd, 1) := by decide +kernel
theorem dX0_linkAt_36 : decode cX0_linkAt 36 = .ok (.ireturn, 1) := by decide +kernel
theorem dX0_isWhole_0 : decode cX0_isWhole 0 = .ok (.aload_n 0, 1) := by decide +kernel
theorem dX0_isWhole_1 : decode cX0_isWhole 1 = .ok (.getfield 18, 3) := by decide +kernel
theorem dX0_isWhole_4 : decode cX0_isWhole 4 = .ok (.iload_n 1, 1) := by decide +kernel
theorem dX0_isWhole_5 : decode cX0_isWhole 5 = .ok (.lushr, 1) := by decide +kernel
theorem dX0_isWhole_6 : decode cX0_isWhole 6 = .ok (.lconst 1, 1) := by decide +kernel
theorem dX0_isWhole_7 : decode cX0_isWhole 7 = .ok (.land, 1) := by decide +kernel
theorem dX0_isWhole_8 : decode cX0_isWhole 8 = .ok (.lconst 0, 1) := by decide +kernel
theorem dX0_isWhole_9 : decode cX0_isWhole 9 = .ok (.lcmp, 1) := by decide +kernel
theorem dX0_isWhole_10 : decode cX0_isWhole 10 = .ok (.ifCond .ne 7, 3) := by decide +kernel
theorem dX0_isWhole_13 : decode cX0_isWhole 13 = .ok (.iconst 1, 1) := by decide +kernel
theorem dX0_isWhole_14 : decode cX0_isWhole 14 = .ok (.goto 4, 3) := by decide +kernel
theorem dX0_isWhole_17 : decode cX0_isWhole 17 = .ok (.iconst 0, 1) := by decide +kernel
theorem dX0_isWhole_18 : decode cX0_isWhole 18 = .ok (.ireturn, 1) := by decide +kernel
theorem dX0_makeWhole_0 : decode cX0_makeWhole 0 = .ok (.lconst 1, 1) := by decide +kernel
theorem dX0_makeWhole_1 : decode cX0_makeWhole 1 = .ok (.iload_n 1, 1) := by decide +kernel
theorem dX0_makeWhole_2 : decode cX0_makeWhole 2 = .ok (.lshl, 1) := by decide +kernel
theorem dX0_makeWhole_3 : decode cX0_makeWhole 3 = .ok (.lstore_n 3, 1) := by decide +kernel
theorem dX0_makeWhole_4 : decode cX0_makeWhole 4 = .ok (.aload_n 0, 1) := by decide +kernel
theorem dX0_makeWhole_5 : decode cX0_makeWhole 5 = .ok (.iload_n 2, 1) := by decide +kernel
theorem dX0_makeWhole_6 : decode cX0_makeWhole 6 = .ok (.ifCond .eq 16, 3) := by decide +kernel
theorem dX0_makeWhole_9 : decode cX0_makeWhole 9 = .ok (.aload_n 0, 1) := by decide +kernel
theorem dX0_makeWhole_10 : decode cX0_makeWhole 10 = .ok (.getfield 18, 3) := by decide +kernel
theorem dX0_makeWhole_13 : decode cX0_makeWhole 13 = .ok (.lload_n 3, 1) := by decide +kernel
theorem dX0_makeWhole_14 : decode cX0_makeWhole 14 = .ok (.ldc2_w 41, 3) := by decide +kernel
theorem dX0_makeWhole_17 : decode cX0_makeWhole 17 = .ok (.lxor, 1) := by decide +kernel
theorem dX0_makeWhole_18 : decode cX0_makeWhole 18 = .ok (.land, 1) := by decide +kernel
theorem dX0_makeWhole_19 : decode cX0_makeWhole 19 = .ok (.goto 9, 3) := by decide +kernel
theorem dX0_makeWhole_22 : decode cX0_makeWhole 22 = .ok (.aload_n 0, 1) := by decide +kernel
theorem dX0_makeWhole_23 : decode cX0_makeWhole 23 = .ok (.getfield 18, 3) := by decide +kernel
theorem dX0_makeWhole_26 : decode cX0_makeWhole 26 = .ok (.lload_n 3, 1) := by decide +kernel
theorem dX0_makeWhole_27 : decode cX0_makeWhole 27 = .ok (.lor, 1) := by decide +kernel
theorem dX0_makeWhole_28 : decode cX0_makeWhole 28 = .ok (.putfield 18, 3) := by decide +kernel
theorem dX0_makeWhole_31 : decode cX0_makeWhole 31 = .ok (.return_, 1) := by decide +kernel
theorem dX0_brokenLinks_0 : decode cX0_brokenLinks 0 = .ok (.aload_n 0, 1) := by decide +kernel
theorem dX0_brokenLinks_1 : decode cX0_brokenLinks 1 = .ok (.getfield 18, 3) := by decide +kernel
theorem dX0_brokenLinks_4 : decode cX0_brokenLinks 4 = .ok (.invokestatic 43, 3) := by decide +kernel
theorem dX0_brokenLinks_7 : decode cX0_brokenLinks 7 = .ok (.ireturn, 1) := by decide +kernel
theorem dX1_init_0 : decode cX1_init 0 = .ok (.aload_n 0, 1) := by decide +kernel
theorem dX1_init_1 : decode cX1_init 1 = .ok (.invokespecial 3, 3) := by decide +kernel
theorem dX1_init_4 : decode cX1_init 4 = .ok (.aload_n 0, 1) := by decide +kernel
theorem dX1_init_5 : decode cX1_init 5 = .ok (.bipush 40, 2) := by decide +kernel
theorem dX1_init_7 : decode cX1_init 7 = .ok (.newarray .boolean, 2) := by decide +kernel
theorem dX1_init_9 : decode cX1_init 9 = .ok (.putfield 9, 3) := by decide +kernel
theorem dX1_init_12 : decode cX1_init 12 = .ok (.return_, 1) := by decide +kernel
theorem dX1_holds_0 : decode cX1_holds 0 = .ok (.aload_n 0, 1) := by decide +kernel
theorem dX1_holds_1 : decode cX1_holds 1 = .ok (.aload_n 1, 1) := by decide +kernel
theorem dX1_holds_2 : decode cX1_holds 2 = .ok (.aload_n 2, 1) := by decide +kernel
theorem dX1_holds_3 : decode cX1_holds 3 = .ok (.invokevirtual 15, 3) := by decide +kernel
theorem dX1_holds_6 : decode cX1_holds 6 = .ok (.aload_n 1, 1) := by decide +kernel
theorem dX1_holds_7 : decode cX1_holds 7 = .ok (.getfield 19, 3) := by decide +kernel
theorem dX1_holds_10 : decode cX1_holds 10 = .ok (.iload_n 3, 1) := by decide +kernel
theorem dX1_holds_11 : decode cX1_holds 11 = .ok (.invokevirtual 25, 3) := by decide +kernel
theorem dX1_holds_14 : decode cX1_holds 14 = .ok (.ifCond .eq 16, 3) := by decide +kernel
theorem dX1_holds_17 : decode cX1_holds 17 = .ok (.aload_n 0, 1) := by decide +kernel
theorem dX1_holds_18 : decode cX1_holds 18 = .ok (.getfield 9, 3) := by decide +kernel
theorem dX1_holds_21 : decode cX1_holds 21 = .ok (.iload_n 3, 1) := by decide +kernel
theorem dX1_holds_22 : decode cX1_holds 22 = .ok (.baload, 1) := by decide +kernel
theorem dX1_holds_23 : decode cX1_holds 23 = .ok (.ifCond .eq 7, 3) := by decide +kernel
theorem dX1_holds_26 : decode cX1_holds 26 = .ok (.iconst 1, 1) := by decide +kernel
theorem dX1_holds_27 : decode cX1_holds 27 = .ok (.goto 4, 3) := by decide +kernel
theorem dX1_holds_30 : decode cX1_holds 30 = .ok (.iconst 0, 1) := by decide +kernel
theorem dX1_holds_31 : decode cX1_holds 31 = .ok (.ireturn, 1) := by decide +kernel
theorem dX1_size_0 : decode cX1_size 0 = .ok (.aload_n 0, 1) := by decide +kernel
theorem dX1_size_1 : decode cX1_size 1 = .ok (.aload_n 1, 1) := by decide +kernel
theorem dX1_size_2 : decode cX1_size 2 = .ok (.aload_n 2, 1) := by decide +kernel
theorem dX1_size_3 : decode cX1_size 3 = .ok (.invokevirtual 15, 3) := by decide +kernel
theorem dX1_size_6 : decode cX1_size 6 = .ok (.iconst 0, 1) := by decide +kernel
theorem dX1_size_7 : decode cX1_size 7 = .ok (.istore_n 3, 1) := by decide +kernel
theorem dX1_size_8 : decode cX1_size 8 = .ok (.iconst 0, 1) := by decide +kernel
theorem dX1_size_9 : decode cX1_size 9 = .ok (.istore 4, 2) := by decide +kernel
theorem dX1_size_11 : decode cX1_size 11 = .ok (.iload 4, 2) := by decide +kernel
theorem dX1_size_13 : decode cX1_size 13 = .ok (.aload_n 1, 1) := by decide +kernel
theorem dX1_size_14 : decode cX1_size 14 = .ok (.getfield 19, 3) := by decide +kernel
theorem dX1_size_17 : decode cX1_size 17 = .ok (.getfield 31, 3) := by decide +kernel
theorem dX1_size_20 : decode cX1_size 20 = .ok (.if_icmp .ge 22, 3) := by decide +kernel
theorem dX1_size_23 : decode cX1_size 23 = .ok (.aload_n 0, 1) := by decide +kernel
theorem dX1_size_24 : decode cX1_size 24 = .ok (.getfield 9, 3) := by decide +kernel
theorem dX1_size_27 : decode cX1_size 27 = .ok (.iload 4, 2) := by decide +kernel
theorem dX1_size_29 : decode cX1_size 29 = .ok (.baload, 1) := by decide +kernel
theorem dX1_size_30 : decode cX1_size 30 = .ok (.ifCond .eq 6, 3) := by decide +kernel
theorem dX1_size_33 : decode cX1_size 33 = .ok (.iinc 3 1, 3) := by decide +kernel
theorem dX1_size_36 : decode cX1_size 36 = .ok (.iinc 4 1, 3) := by decide +kernel
theorem dX1_size_39 : decode cX1_size 39 = .ok (.goto (-28), 3) := by decide +kernel
theorem dX1_size_42 : decode cX1_size 42 = .ok (.iload_n 3, 1) := by decide +kernel
theorem dX1_size_43 : decode cX1_size 43 = .ok (.ireturn, 1) := by decide +kernel
theorem dX1_find_0 : decode cX1_find 0 = .ok (.aload_n 1, 1) := by decide +kernel
theorem dX1_find_1 : decode cX1_find 1 = .ok (.getfield 19, 3) := by decide +kernel
theorem dX1_find_4 : decode cX1_find 4 = .ok (.getfield 31, 3) := by decide +kernel
theorem dX1_find_7 : decode cX1_find 7 = .ok (.istore_n 3, 1) := by decide +kernel
theorem dX1_find_8 : decode cX1_find 8 = .ok (.iconst 0, 1) := by decide +kernel
theorem dX1_find_9 : decode cX1_find 9 = .ok (.istore 4, 2) := by decide +kernel
theorem dX1_find_11 : decode cX1_find 11 = .ok (.iload 4, 2) := by decide +kernel
theorem dX1_find_13 : decode cX1_find 13 = .ok (.iload_n 3, 1) := by decide +kernel
theorem dX1_find_14 : decode cX1_find 14 = .ok (.if_icmp .ge 35, 3) := by decide +kernel
theorem dX1_find_17 : decode cX1_find 17 = .ok (.aload_n 0, 1) := by decide +kernel
theorem dX1_find_18 : decode cX1_find 18 = .ok (.getfield 9, 3) := by decide +kernel
theorem dX1_find_21 : decode cX1_find 21 = .ok (.iload 4, 2) := by decide +kernel
theorem dX1_find_23 : decode cX1_find 23 = .ok (.aload_n 1, 1) := by decide +kernel
theorem dX1_find_24 : decode cX1_find 24 = .ok (.getfield 19, 3) := by decide +kernel
theorem dX1_find_27 : decode cX1_find 27 = .ok (.getfield 35, 3) := by decide +kernel
theorem dX1_find_30 : decode cX1_find 30 = .ok (.iload 4, 2) := by decide +kernel
theorem dX1_find_32 : decode cX1_find 32 = .ok (.iaload, 1) := by decide +kernel
theorem dX1_find_33 : decode cX1_find 33 = .ok (.iconst 1, 1) := by decide +kernel
theorem dX1_find_34 : decode cX1_find 34 = .ok (.if_icmp .ne 7, 3) := by decide +kernel
theorem dX1_find_37 : decode cX1_find 37 = .ok (.iconst 1, 1) := by decide +kernel
theorem dX1_find_38 : decode cX1_find 38 = .ok (.goto 4, 3) := by decide +kernel
theorem dX1_find_41 : decode cX1_find 41 = .ok (.iconst 0, 1) := by decide +kernel
theorem dX1_find_42 : decode cX1_find 42 = .ok (.bastore, 1) := by decide +kernel
theorem dX1_find_43 : decode cX1_find 43 = .ok (.iinc 4 1, 3) := by decide +kernel
theorem dX1_find_46 : decode cX1_find 46 = .ok (.goto (-35), 3) := by decide +kernel
theorem dX1_find_49 : decode cX1_find 49 = .ok (.iconst 1, 1) := by decide +kernel
theorem dX1_find_50 : decode cX1_find 50 = .ok (.istore 4, 2) := by decide +kernel
theorem dX1_find_52 : decode cX1_find 52 = .ok (.iconst 0, 1) := by decide +kernel
theorem dX1_find_53 : decode cX1_find 53 = .ok (.istore 5, 2) := by decide +kernel
theorem dX1_find_55 : decode cX1_find 55 = .ok (.iload 5, 2) := by decide +kernel
theorem dX1_find_57 : decode cX1_find 57 = .ok (.bipush 40, 2) := by decide +kernel
theorem dX1_find_59 : decode cX1_find 59 = .ok (.if_icmp .gt 64, 3) := by decide +kernel
theorem dX1_find_62 : decode cX1_find 62 = .ok (.iload 4, 2) := by decide +kernel
theorem dX1_find_64 : decode cX1_find 64 = .ok (.ifCond .eq 59, 3) := by decide +kernel
theorem dX1_find_67 : decode cX1_find 67 = .ok (.iconst 0, 1) := by decide +kernel
theorem dX1_find_68 : decode cX1_find 68 = .ok (.istore 4, 2) := by decide +kernel
theorem dX1_find_70 : decode cX1_find 70 = .ok (.iconst 0, 1) := by decide +kernel
theorem dX1_find_71 : decode cX1_find 71 = .ok (.istore 6, 2) := by decide +kernel
theorem dX1_find_73 : decode cX1_find 73 = .ok (.iload 6, 2) := by decide +kernel
theorem dX1_find_75 : decode cX1_find 75 = .ok (.iload_n 3, 1) := by decide +kernel
theorem dX1_find_76 : decode cX1_find 76 = .ok (.if_icmp .ge 41, 3) := by decide +kernel
theorem dX1_find_79 : decode cX1_find 79 = .ok (.aload_n 0, 1) := by decide +kernel
theorem dX1_find_80 : decode cX1_find 80 = .ok (.getfield 9, 3) := by decide +kernel
theorem dX1_find_83 : decode cX1_find 83 = .ok (.iload 6, 2) := by decide +kernel
theorem dX1_find_85 : decode cX1_find 85 = .ok (.baload, 1) := by decide +kernel
theorem dX1_find_86 : decode cX1_find 86 = .ok (.ifCond .eq 25, 3) := by decide +kernel
theorem dX1_find_89 : decode cX1_find 89 = .ok (.aload_n 0, 1) := by decide +kernel
theorem dX1_find_90 : decode cX1_find 90 = .ok (.aload_n 1, 1) := by decide +kernel
theorem dX1_find_91 : decode cX1_find 91 = .ok (.aload_n 2, 1) := by decide +kernel
theorem dX1_find_92 : decode cX1_find 92 = .ok (.iload 6, 2) := by decide +kernel
theorem dX1_find_94 : decode cX1_find 94 = .ok (.invokevirtual 39, 3) := by decide +kernel
theorem dX1_find_97 : decode cX1_find 97 = .ok (.ifCond .eq 14, 3) := by decide +kernel
theorem dX1_find_100 : decode cX1_find 100 = .ok (.aload_n 0, 1) := by decide +kernel
theorem dX1_find_101 : decode cX1_find 101 = .ok (.getfield 9, 3) := by decide +kernel
theorem dX1_find_104 : decode cX1_find 104 = .ok (.iload 6, 2) := by decide +kernel
theorem dX1_find_106 : decode cX1_find 106 = .ok (.iconst 0, 1) := by decide +kernel
theorem dX1_find_107 : decode cX1_find 107 = .ok (.bastore, 1) := by decide +kernel
theorem dX1_find_108 : decode cX1_find 108 = .ok (.iconst 1, 1) := by decide +kernel
theorem dX1_find_109 : decode cX1_find 109 = .ok (.istore 4, 2) := by decide +kernel
theorem dX1_find_111 : decode cX1_find 111 = .ok (.iinc 6 1, 3) := by decide +kernel
theorem dX1_find_114 : decode cX1_find 114 = .ok (.goto (-41), 3) := by decide +kernel
theorem dX1_find_117 : decode cX1_find 117 = .ok (.iinc 5 1, 3) := by decide +kernel
theorem dX1_find_120 : decode cX1_find 120 = .ok (.goto (-65), 3) := by decide +kernel
theorem dX1_find_123 : decode cX1_find 123 = .ok (.return_, 1) := by decide +kernel
theorem dX1_canGoOn_0 : decode cX1_canGoOn 0 = .ok (.iconst 0, 1) := by decide +kernel
theorem dX1_canGoOn_1 : decode cX1_canGoOn 1 = .ok (.istore 4, 2) := by decide +kernel
theorem dX1_canGoOn_3 : decode cX1_canGoOn 3 = .ok (.iload 4, 2) := by decide +kernel
theorem dX1_canGoOn_5 : decode cX1_canGoOn 5 = .ok (.iconst 4, 1) := by decide +kernel
theorem dX1_canGoOn_6 : decode cX1_canGoOn 6 = .ok (.if_icmp .ge 62, 3) := by decide +kernel
theorem dX1_canGoOn_9 : decode cX1_canGoOn 9 = .ok (.aload_n 1, 1) := by decide +kernel
theorem dX1_canGoOn_10 : decode cX1_canGoOn 10 = .ok (.aload_n 2, 1) := by decide +kernel
theorem dX1_canGoOn_11 : decode cX1_canGoOn 11 = .ok (.iload_n 3, 1) := by decide +kernel
theorem dX1_canGoOn_12 : decode cX1_canGoOn 12 = .ok (.iload 4, 2) := by decide +kernel
theorem dX1_canGoOn_14 : decode cX1_canGoOn 14 = .ok (.invokevirtual 43, 3) := by decide +kernel
theorem dX1_canGoOn_17 : decode cX1_canGoOn 17 = .ok (.ifCond .eq 45, 3) := by decide +kernel
theorem dX1_canGoOn_20 : decode cX1_canGoOn 20 = .ok (.aload_n 2, 1) := by decide +kernel
theorem dX1_canGoOn_21 : decode cX1_canGoOn 21 = .ok (.aload_n 1, 1) := by decide +kernel
theorem dX1_canGoOn_22 : decode cX1_canGoOn 22 = .ok (.getfield 19, 3) := by decide +kernel
theorem dX1_canGoOn_25 : decode cX1_canGoOn 25 = .ok (.getfield 47, 3) := by decide +kernel
theorem dX1_canGoOn_28 : decode cX1_canGoOn 28 = .ok (.iload_n 3, 1) := by decide +kernel
theorem dX1_canGoOn_29 : decode cX1_canGoOn 29 = .ok (.iaload, 1) := by decide +kernel
theorem dX1_canGoOn_30 : decode cX1_canGoOn 30 = .ok (.iload 4, 2) := by decide +kernel
theorem dX1_canGoOn_32 : decode cX1_canGoOn 32 = .ok (.invokevirtual 50, 3) := by decide +kernel
theorem dX1_canGoOn_35 : decode cX1_canGoOn 35 = .ok (.istore 5, 2) := by decide +kernel
theorem dX1_canGoOn_37 : decode cX1_canGoOn 37 = .ok (.aload_n 1, 1) := by decide +kernel
theorem dX1_canGoOn_38 : decode cX1_canGoOn 38 = .ok (.iload_n 3, 1) := by decide +kernel
theorem dX1_canGoOn_39 : decode cX1_canGoOn 39 = .ok (.iload 5, 2) := by decide +kernel
theorem dX1_canGoOn_41 : decode cX1_canGoOn 41 = .ok (.invokevirtual 56, 3) := by decide +kernel
theorem dX1_canGoOn_44 : decode cX1_canGoOn 44 = .ok (.ifCond .ne 16, 3) := by decide +kernel
theorem dX1_canGoOn_47 : decode cX1_canGoOn 47 = .ok (.aload_n 0, 1) := by decide +kernel
theorem dX1_canGoOn_48 : decode cX1_canGoOn 48 = .ok (.aload_n 1, 1) := by decide +kernel
theorem dX1_canGoOn_49 : decode cX1_canGoOn 49 = .ok (.getfield 19, 3) := by decide +kernel
theorem dX1_canGoOn_52 : decode cX1_canGoOn 52 = .ok (.iload 5, 2) := by decide +kernel
theorem dX1_canGoOn_54 : decode cX1_canGoOn 54 = .ok (.invokevirtual 60, 3) := by decide +kernel
theorem dX1_canGoOn_57 : decode cX1_canGoOn 57 = .ok (.ifCond .eq 5, 3) := by decide +kernel
theorem dX1_canGoOn_60 : decode cX1_canGoOn 60 = .ok (.iconst 1, 1) := by decide +kernel
theorem dX1_canGoOn_61 : decode cX1_canGoOn 61 = .ok (.ireturn, 1) := by decide +kernel
theorem dX1_canGoOn_62 : decode cX1_canGoOn 62 = .ok (.iinc 4 1, 3) := by decide +kernel
theorem dX1_canGoOn_65 : decode cX1_canGoOn 65 = .ok (.goto (-62), 3) := by decide +kernel
theorem dX1_canGoOn_68 : decode cX1_canGoOn 68 = .ok (.iconst 0, 1) := by decide +kernel
theorem dX1_canGoOn_69 : decode cX1_canGoOn 69 = .ok (.ireturn, 1) := by decide +kernel
theorem dX1_hasFreePacket_0 : decode cX1_hasFreePacket 0 = .ok (.iconst 0, 1) := by decide +kernel
theorem dX1_hasFreePacket_1 : decode cX1_hasFreePacket 1 = .ok (.istore_n 3, 1) := by decide +kernel
theorem dX1_hasFreePacket_2 : decode cX1_hasFreePacket 2 = .ok (.iload_n 3, 1) := by decide +kernel
theorem dX1_hasFreePacket_3 : decode cX1_hasFreePacket 3 = .ok (.aload_n 1, 1) := by decide +kernel
theorem dX1_hasFreePacket_4 : decode cX1_hasFreePacket 4 = .ok (.getfield 31, 3) := by decide +kernel
theorem dX1_hasFreePacket_7 : decode cX1_hasFreePacket 7 = .ok (.if_icmp .ge 40, 3) := by decide +kernel
theorem dX1_hasFreePacket_10 : decode cX1_hasFreePacket 10 = .ok (.aload_n 1, 1) := by decide +kernel
theorem dX1_hasFreePacket_11 : decode cX1_hasFreePacket 11 = .ok (.getfield 35, 3) := by decide +kernel
theorem dX1_hasFreePacket_14 : decode cX1_hasFreePacket 14 = .ok (.iload_n 3, 1) := by decide +kernel
theorem dX1_hasFreePacket_15 : decode cX1_hasFreePacket 15 = .ok (.iaload, 1) := by decide +kernel
theorem dX1_hasFreePacket_16 : decode cX1_hasFreePacket 16 = .ok (.iconst 1, 1) := by decide +kernel
theorem dX1_hasFreePacket_17 : decode cX1_hasFreePacket 17 = .ok (.if_icmp .ne 24, 3) := by decide +kernel
theorem dX1_hasFreePacket_20 : decode cX1_hasFreePacket 20 = .ok (.aload_n 1, 1) := by decide +kernel
theorem dX1_hasFreePacket_21 : decode cX1_hasFreePacket 21 = .ok (.getfield 47, 3) := by decide +kernel
theorem dX1_hasFreePacket_24 : decode cX1_hasFreePacket 24 = .ok (.iload_n 3, 1) := by decide +kernel
theorem dX1_hasFreePacket_25 : decode cX1_hasFreePacket 25 = .ok (.iaload, 1) := by decide +kernel
theorem dX1_hasFreePacket_26 : decode cX1_hasFreePacket 26 = .ok (.iload_n 2, 1) := by decide +kernel
theorem dX1_hasFreePacket_27 : decode cX1_hasFreePacket 27 = .ok (.if_icmp .ne 14, 3) := by decide +kernel
theorem dX1_hasFreePacket_30 : decode cX1_hasFreePacket 30 = .ok (.aload_n 0, 1) := by decide +kernel
theorem dX1_hasFreePacket_31 : decode cX1_hasFreePacket 31 = .ok (.getfield 9, 3) := by decide +kernel
theorem dX1_hasFreePacket_34 : decode cX1_hasFreePacket 34 = .ok (.iload_n 3, 1) := by decide +kernel
theorem dX1_hasFreePacket_35 : decode cX1_hasFreePacket 35 = .ok (.baload, 1) := by decide +kernel
theorem dX1_hasFreePacket_36 : decode cX1_hasFreePacket 36 = .ok (.ifCond .ne 5, 3) := by decide +kernel
theorem dX1_hasFreePacket_39 : decode cX1_hasFreePacket 39 = .ok (.iconst 1, 1) := by decide +kernel
theorem dX1_hasFreePacket_40 : decode cX1_hasFreePacket 40 = .ok (.ireturn, 1) := by decide +kernel
theorem dX1_hasFreePacket_41 : decode cX1_hasFreePacket 41 = .ok (.iinc 3 1, 3) := by decide +kernel
theorem dX1_hasFreePacket_44 : decode cX1_hasFreePacket 44 = .ok (.goto (-42), 3) := by decide +kernel
theorem dX1_hasFreePacket_47 : decode cX1_hasFreePacket 47 = .ok (.iconst 0, 1) := by decide +kernel
theorem dX1_hasFreePacket_48 : decode cX1_hasFreePacket 48 = .ok (.ireturn, 1) := by decide +kernel
theorem dX2_init_0 : decode cX2_init 0 = .ok (.aload_n 0, 1) := by decide +kernel
theorem dX2_init_1 : decode cX2_init 1 = .ok (.invokespecial 3, 3) := by decide +kernel
theorem dX2_init_4 : decode cX2_init 4 = .ok (.aload_n 0, 1) := by decide +kernel
theorem dX2_init_5 : decode cX2_init 5 = .ok (.iconst 0, 1) := by decide +kernel
theorem dX2_init_6 : decode cX2_init 6 = .ok (.putfield 9, 3) := by decide +kernel
theorem dX2_init_9 : decode cX2_init 9 = .ok (.aload_n 0, 1) := by decide +kernel
theorem dX2_init_10 : decode cX2_init 10 = .ok (.bipush 40, 2) := by decide +kernel
theorem dX2_init_12 : decode cX2_init 12 = .ok (.newarray .int, 2) := by decide +kernel
theorem dX2_init_14 : decode cX2_init 14 = .ok (.putfield 15, 3) := by decide +kernel
theorem dX2_init_17 : decode cX2_init 17 = .ok (.aload_n 0, 1) := by decide +kernel
theorem dX2_init_18 : decode cX2_init 18 = .ok (.bipush 40, 2) := by decide +kernel
theorem dX2_init_20 : decode cX2_init 20 = .ok (.newarray .int, 2) := by decide +kernel
theorem dX2_init_22 : decode cX2_init 22 = .ok (.putfield 19, 3) := by decide +kernel
theorem dX2_init_25 : decode cX2_init 25 = .ok (.aload_n 0, 1) := by decide +kernel
theorem dX2_init_26 : decode cX2_init 26 = .ok (.bipush 40, 2) := by decide +kernel
theorem dX2_init_28 : decode cX2_init 28 = .ok (.newarray .int, 2) := by decide +kernel
theorem dX2_init_30 : decode cX2_init 30 = .ok (.putfield 22, 3) := by decide +kernel
theorem dX2_init_33 : decode cX2_init 33 = .ok (.aload_n 0, 1) := by decide +kernel
theorem dX2_init_34 : decode cX2_init 34 = .ok (.bipush 40, 2) := by decide +kernel
theorem dX2_init_36 : decode cX2_init 36 = .ok (.newarray .int, 2) := by decide +kernel
theorem dX2_init_38 : decode cX2_init 38 = .ok (.putfield 25, 3) := by decide +kernel
theorem dX2_init_41 : decode cX2_init 41 = .ok (.aload_n 0, 1) := by decide +kernel
theorem dX2_init_42 : decode cX2_init 42 = .ok (.bipush 40, 2) := by decide +kernel
theorem dX2_init_44 : decode cX2_init 44 = .ok (.newarray .int, 2) := by decide +kernel
theorem dX2_init_46 : decode cX2_init 46 = .ok (.putfield 28, 3) := by decide +kernel
theorem dX2_init_49 : decode cX2_init 49 = .ok (.aload_n 0, 1) := by decide +kernel
theorem dX2_init_50 : decode cX2_init 50 = .ok (.bipush 40, 2) := by decide +kernel
theorem dX2_init_52 : decode cX2_init 52 = .ok (.newarray .int, 2) := by decide +kernel
theorem dX2_init_54 : decode cX2_init 54 = .ok (.putfield 31, 3) := by decide +kernel
theorem dX2_init_57 : decode cX2_init 57 = .ok (.aload_n 0, 1) := by decide +kernel
theorem dX2_init_58 : decode cX2_init 58 = .ok (.bipush 40, 2) := by decide +kernel
theorem dX2_init_60 : decode cX2_init 60 = .ok (.newarray .int, 2) := by decide +kernel
theorem dX2_init_62 : decode cX2_init 62 = .ok (.putfield 34, 3) := by decide +kernel
theorem dX2_init_65 : decode cX2_init 65 = .ok (.aload_n 0, 1) := by decide +kernel
theorem dX2_init_66 : decode cX2_init 66 = .ok (.bipush 40, 2) := by decide +kernel
theorem dX2_init_68 : decode cX2_init 68 = .ok (.newarray .int, 2) := by decide +kernel
theorem dX2_init_70 : decode cX2_init 70 = .ok (.putfield 37, 3) := by decide +kernel
theorem dX2_init_73 : decode cX2_init 73 = .ok (.aload_n 0, 1) := by decide +kernel
theorem dX2_init_74 : decode cX2_init 74 = .ok (.bipush 40, 2) := by decide +kernel
theorem dX2_init_76 : decode cX2_init 76 = .ok (.newarray .int, 2) := by decide +kernel
theorem dX2_init_78 : decode cX2_init 78 = .ok (.putfield 40, 3) := by decide +kernel
theorem dX2_init_81 : decode cX2_init 81 = .ok (.aload_n 0, 1) := by decide +kernel
theorem dX2_init_82 : decode cX2_init 82 = .ok (.bipush 40, 2) := by decide +kernel
theorem dX2_init_84 : decode cX2_init 84 = .ok (.newarray .int, 2) := by decide +kernel
theorem dX2_init_86 : decode cX2_init 86 = .ok (.putfield 43, 3) := by decide +kernel
theorem dX2_init_89 : decode cX2_init 89 = .ok (.return_, 1) := by decide +kernel
theorem dX2_copyPackets_0 : decode cX2_copyPackets 0 = .ok (.aload_n 0, 1) := by decide +kernel
theorem dX2_copyPackets_1 : decode cX2_copyPackets 1 = .ok (.aload_n 1, 1) := by decide +kernel
theorem dX2_copyPackets_2 : decode cX2_copyPackets 2 = .ok (.getfield 9, 3) := by decide +kernel
theorem dX2_copyPackets_5 : decode cX2_copyPackets 5 = .ok (.putfield 9, 3) := by decide +kernel
theorem dX2_copyPackets_8 : decode cX2_copyPackets 8 = .ok (.aload_n 1, 1) := by decide +kernel
theorem dX2_copyPackets_9 : decode cX2_copyPackets 9 = .ok (.getfield 15, 3) := by decide +kernel
theorem dX2_copyPackets_12 : decode cX2_copyPackets 12 = .ok (.iconst 0, 1) := by decide +kernel
theorem dX2_copyPackets_13 : decode cX2_copyPackets 13 = .ok (.aload_n 0, 1) := by decide +kernel
theorem dX2_copyPackets_14 : decode cX2_copyPackets 14 = .ok (.getfield 15, 3) := by decide +kernel
theorem dX2_copyPackets_17 : decode cX2_copyPackets 17 = .ok (.iconst 0, 1) := by decide +kernel
theorem dX2_copyPackets_18 : decode cX2_copyPackets 18 = .ok (.bipush 40, 2) := by decide +kernel
theorem dX2_copyPackets_20 : decode cX2_copyPackets 20 = .ok (.invokestatic 46, 3) := by decide +kernel
theorem dX2_copyPackets_23 : decode cX2_copyPackets 23 = .ok (.aload_n 1, 1) := by decide +kernel
theorem dX2_copyPackets_24 : decode cX2_copyPackets 24 = .ok (.getfield 19, 3) := by decide +kernel
theorem dX2_copyPackets_27 : decode cX2_copyPackets 27 = .ok (.iconst 0, 1) := by decide +kernel
theorem dX2_copyPackets_28 : decode cX2_copyPackets 28 = .ok (.aload_n 0, 1) := by decide +kernel
theorem dX2_copyPackets_29 : decode cX2_copyPackets 29 = .ok (.getfield 19, 3) := by decide +kernel
theorem dX2_copyPackets_32 : decode cX2_copyPackets 32 = .ok (.iconst 0, 1) := by decide +kernel
theorem dX2_copyPackets_33 : decode cX2_copyPackets 33 = .ok (.bipush 40, 2) := by decide +kernel
theorem dX2_copyPackets_35 : decode cX2_copyPackets 35 = .ok (.invokestatic 46, 3) := by decide +kernel
theorem dX2_copyPackets_38 : decode cX2_copyPackets 38 = .ok (.aload_n 1, 1) := by decide +kernel
theorem dX2_copyPackets_39 : decode cX2_copyPackets 39 = .ok (.getfield 22, 3) := by decide +kernel
theorem dX2_copyPackets_42 : decode cX2_copyPackets 42 = .ok (.iconst 0, 1) := by decide +kernel
theorem dX2_copyPackets_43 : decode cX2_copyPackets 43 = .ok (.aload_n 0, 1) := by decide +kernel
theorem dX2_copyPackets_44 : decode cX2_copyPackets 44 = .ok (.getfield 22, 3) := by decide +kernel
theorem dX2_copyPackets_47 : decode cX2_copyPackets 47 = .ok (.iconst 0, 1) := by decide +kernel
theorem dX2_copyPackets_48 : decode cX2_copyPackets 48 = .ok (.bipush 40, 2) := by decide +kernel
theorem dX2_copyPackets_50 : decode cX2_copyPackets 50 = .ok (.invokestatic 46, 3) := by decide +kernel
theorem dX2_copyPackets_53 : decode cX2_copyPackets 53 = .ok (.aload_n 1, 1) := by decide +kernel
theorem dX2_copyPackets_54 : decode cX2_copyPackets 54 = .ok (.getfield 25, 3) := by decide +kernel
theorem dX2_copyPackets_57 : decode cX2_copyPackets 57 = .ok (.iconst 0, 1) := by decide +kernel
theorem dX2_copyPackets_58 : decode cX2_copyPackets 58 = .ok (.aload_n 0, 1) := by decide +kernel
theorem dX2_copyPackets_59 : decode cX2_copyPackets 59 = .ok (.getfield 25, 3) := by decide +kernel
theorem dX2_copyPackets_62 : decode cX2_copyPackets 62 = .ok (.iconst 0, 1) := by decide +kernel
theorem dX2_copyPackets_63 : decode cX2_copyPackets 63 = .ok (.bipush 40, 2) := by decide +kernel
theorem dX2_copyPackets_65 : decode cX2_copyPackets 65 = .ok (.invokestatic 46, 3) := by decide +kernel
theorem dX2_copyPackets_68 : decode cX2_copyPackets 68 = .ok (.aload_n 1, 1) := by decide +kernel
theorem dX2_copyPackets_69 : decode cX2_copyPackets 69 = .ok (.getfield 28, 3) := by decide +kernel
theorem dX2_copyPackets_72 : decode cX2_copyPackets 72 = .ok (.iconst 0, 1) := by decide +kernel
theorem dX2_copyPackets_73 : decode cX2_copyPackets 73 = .ok (.aload_n 0, 1) := by decide +kernel
theorem dX2_copyPackets_74 : decode cX2_copyPackets 74 = .ok (.getfield 28, 3) := by decide +kernel
theorem dX2_copyPackets_77 : decode cX2_copyPackets 77 = .ok (.iconst 0, 1) := by decide +kernel
theorem dX2_copyPackets_78 : decode cX2_copyPackets 78 = .ok (.bipush 40, 2) := by decide +kernel
theorem dX2_copyPackets_80 : decode cX2_copyPackets 80 = .ok (.invokestatic 46, 3) := by decide +kernel
theorem dX2_copyPackets_83 : decode cX2_copyPackets 83 = .ok (.aload_n 1, 1) := by decide +kernel
theorem dX2_copyPackets_84 : decode cX2_copyPackets 84 = .ok (.getfield 31, 3) := by decide +kernel
theorem dX2_copyPackets_87 : decode cX2_copyPackets 87 = .ok (.iconst 0, 1) := by decide +kernel
theorem dX2_copyPackets_88 : decode cX2_copyPackets 88 = .ok (.aload_n 0, 1) := by decide +kernel
theorem dX2_copyPackets_89 : decode cX2_copyPackets 89 = .ok (.getfield 31, 3) := by decide +kernel
theorem dX2_copyPackets_92 : decode cX2_copyPackets 92 = .ok (.iconst 0, 1) := by decide +kernel
theorem dX2_copyPackets_93 : decode cX2_copyPackets 93 = .ok (.bipush 40, 2) := by decide +kernel
theorem dX2_copyPackets_95 : decode cX2_copyPackets 95 = .ok (.invokestatic 46, 3) := by decide +kernel
theorem dX2_copyPackets_98 : decode cX2_copyPackets 98 = .ok (.aload_n 1, 1) := by decide +kernel
theorem dX2_copyPackets_99 : decode cX2_copyPackets 99 = .ok (.getfield 34, 3) := by decide +kernel
theorem dX2_copyPackets_102 : decode cX2_copyPackets 102 = .ok (.iconst 0, 1) := by decide +kernel
theorem dX2_copyPackets_103 : decode cX2_copyPackets 103 = .ok (.aload_n 0, 1) := by decide +kernel
theorem dX2_copyPackets_104 : decode cX2_copyPackets 104 = .ok (.getfield 34, 3) := by decide +kernel
theorem dX2_copyPackets_107 : decode cX2_copyPackets 107 = .ok (.iconst 0, 1) := by decide +kernel
theorem dX2_copyPackets_108 : decode cX2_copyPackets 108 = .ok (.bipush 40, 2) := by decide +kernel
theorem dX2_copyPackets_110 : decode cX2_copyPackets 110 = .ok (.invokestatic 46, 3) := by decide +kernel
theorem dX2_copyPackets_113 : decode cX2_copyPackets 113 = .ok (.aload_n 1, 1) := by decide +kernel
theorem dX2_copyPackets_114 : decode cX2_copyPackets 114 = .ok (.getfield 37, 3) := by decide +kernel
theorem dX2_copyPackets_117 : decode cX2_copyPackets 117 = .ok (.iconst 0, 1) := by decide +kernel
theorem dX2_copyPackets_118 : decode cX2_copyPackets 118 = .ok (.aload_n 0, 1) := by decide +kernel
theorem dX2_copyPackets_119 : decode cX2_copyPackets 119 = .ok (.getfield 37, 3) := by decide +kernel
theorem dX2_copyPackets_122 : decode cX2_copyPackets 122 = .ok (.iconst 0, 1) := by decide +kernel
theorem dX2_copyPackets_123 : decode cX2_copyPackets 123 = .ok (.bipush 40, 2) := by decide +kernel
theorem dX2_copyPackets_125 : decode cX2_copyPackets 125 = .ok (.invokestatic 46, 3) := by decide +kernel
theorem dX2_copyPackets_128 : decode cX2_copyPackets 128 = .ok (.aload_n 1, 1) := by decide +kernel
theorem dX2_copyPackets_129 : decode cX2_copyPackets 129 = .ok (.getfield 40, 3) := by decide +kernel
theorem dX2_copyPackets_132 : decode cX2_copyPackets 132 = .ok (.iconst 0, 1) := by decide +kernel
theorem dX2_copyPackets_133 : decode cX2_copyPackets 133 = .ok (.aload_n 0, 1) := by decide +kernel
theorem dX2_copyPackets_134 : decode cX2_copyPackets 134 = .ok (.getfield 40, 3) := by decide +kernel
theorem dX2_copyPackets_137 : decode cX2_copyPackets 137 = .ok (.iconst 0, 1) := by decide +kernel
theorem dX2_copyPackets_138 : decode cX2_copyPackets 138 = .ok (.bipush 40, 2) := by decide +kernel
theorem dX2_copyPackets_140 : decode cX2_copyPackets 140 = .ok (.invokestatic 46, 3) := by decide +kernel
theorem dX2_copyPackets_143 : decode cX2_copyPackets 143 = .ok (.aload_n 1, 1) := by decide +kernel
theorem dX2_copyPackets_144 : decode cX2_copyPackets 144 = .ok (.getfield 43, 3) := by decide +kernel
theorem dX2_copyPackets_147 : decode cX2_copyPackets 147 = .ok (.iconst 0, 1) := by decide +kernel
theorem dX2_copyPackets_148 : decode cX2_copyPackets 148 = .ok (.aload_n 0, 1) := by decide +kernel
theorem dX2_copyPackets_149 : decode cX2_copyPackets 149 = .ok (.getfield 43, 3) := by decide +kernel
theorem dX2_copyPackets_152 : decode cX2_copyPackets 152 = .ok (.iconst 0, 1) := by decide +kernel
theorem dX2_copyPackets_153 : decode cX2_copyPackets 153 = .ok (.bipush 40, 2) := by decide +kernel
theorem dX2_copyPackets_155 : decode cX2_copyPackets 155 = .ok (.invokestatic 46, 3) := by decide +kernel
theorem dX2_copyPackets_158 : decode cX2_copyPackets 158 = .ok (.return_, 1) := by decide +kernel
theorem dX2_has_0 : decode cX2_has 0 = .ok (.iload_n 1, 1) := by decide +kernel
theorem dX2_has_1 : decode cX2_has 1 = .ok (.ifCond .lt 15, 3) := by decide +kernel
theorem dX2_has_4 : decode cX2_has 4 = .ok (.iload_n 1, 1) := by decide +kernel
theorem dX2_has_5 : decode cX2_has 5 = .ok (.aload_n 0, 1) := by decide +kernel
theorem dX2_has_6 : decode cX2_has 6 = .ok (.getfield 9, 3) := by decide +kernel
theorem dX2_has_9 : decode cX2_has 9 = .ok (.if_icmp .ge 7, 3) := by decide +kernel
theorem dX2_has_12 : decode cX2_has 12 = .ok (.iconst 1, 1) := by decide +kernel
theorem dX2_has_13 : decode cX2_has 13 = .ok (.goto 4, 3) := by decide +kernel
theorem dX2_has_16 : decode cX2_has 16 = .ok (.iconst 0, 1) := by decide +kernel
theorem dX2_has_17 : decode cX2_has 17 = .ok (.ireturn, 1) := by decide +kernel
theorem dX2_add_0 : decode cX2_add 0 = .ok (.aload_n 0, 1) := by decide +kernel
theorem dX2_add_1 : decode cX2_add 1 = .ok (.getfield 9, 3) := by decide +kernel
theorem dX2_add_4 : decode cX2_add 4 = .ok (.istore 4, 2) := by decide +kernel
theorem dX2_add_6 : decode cX2_add 6 = .ok (.iload 4, 2) := by decide +kernel
theorem dX2_add_8 : decode cX2_add 8 = .ok (.bipush 40, 2) := by decide +kernel
theorem dX2_add_10 : decode cX2_add 10 = .ok (.if_icmp .lt 6, 3) := by decide +kernel
theorem dX2_add_13 : decode cX2_add 13 = .ok (.bipush (-4), 2) := by decide +kernel
theorem dX2_add_15 : decode cX2_add 15 = .ok (.ireturn, 1) := by decide +kernel
theorem dX2_add_16 : decode cX2_add 16 = .ok (.aload_n 0, 1) := by decide +kernel
theorem dX2_add_17 : decode cX2_add 17 = .ok (.getfield 15, 3) := by decide +kernel
theorem dX2_add_20 : decode cX2_add 20 = .ok (.iload 4, 2) := by decide +kernel
theorem dX2_add_22 : decode cX2_add 22 = .ok (.iload_n 1, 1) := by decide +kernel
theorem dX2_add_23 : decode cX2_add 23 = .ok (.iastore, 1) := by decide +kernel
theorem dX2_add_24 : decode cX2_add 24 = .ok (.aload_n 0, 1) := by decide +kernel
theorem dX2_add_25 : decode cX2_add 25 = .ok (.getfield 19, 3) := by decide +kernel
theorem dX2_add_28 : decode cX2_add 28 = .ok (.iload 4, 2) := by decide +kernel
theorem dX2_add_30 : decode cX2_add 30 = .ok (.iload_n 2, 1) := by decide +kernel
theorem dX2_add_31 : decode cX2_add 31 = .ok (.iastore, 1) := by decide +kernel
theorem dX2_add_32 : decode cX2_add 32 = .ok (.aload_n 0, 1) := by decide +kernel
theorem dX2_add_33 : decode cX2_add 33 = .ok (.getfield 22, 3) := by decide +kernel
theorem dX2_add_36 : decode cX2_add 36 = .ok (.iload 4, 2) := by decide +kernel
theorem dX2_add_38 : decode cX2_add 38 = .ok (.iconst 0, 1) := by decide +kernel
theorem dX2_add_39 : decode cX2_add 39 = .ok (.iastore, 1) := by decide +kernel
theorem dX2_add_40 : decode cX2_add 40 = .ok (.aload_n 0, 1) := by decide +kernel
theorem dX2_add_41 : decode cX2_add 41 = .ok (.getfield 25, 3) := by decide +kernel
theorem dX2_add_44 : decode cX2_add 44 = .ok (.iload 4, 2) := by decide +kernel
theorem dX2_add_46 : decode cX2_add 46 = .ok (.iload_n 1, 1) := by decide +kernel
theorem dX2_add_47 : decode cX2_add 47 = .ok (.iastore, 1) := by decide +kernel
theorem dX2_add_48 : decode cX2_add 48 = .ok (.aload_n 0, 1) := by decide +kernel
theorem dX2_add_49 : decode cX2_add 49 = .ok (.getfield 28, 3) := by decide +kernel
theorem dX2_add_52 : decode cX2_add 52 = .ok (.iload 4, 2) := by decide +kernel
theorem dX2_add_54 : decode cX2_add 54 = .ok (.iconst 0, 1) := by decide +kernel
theorem dX2_add_55 : decode cX2_add 55 = .ok (.iastore, 1) := by decide +kernel
theorem dX2_add_56 : decode cX2_add 56 = .ok (.aload_n 0, 1) := by decide +kernel
theorem dX2_add_57 : decode cX2_add 57 = .ok (.getfield 31, 3) := by decide +kernel
theorem dX2_add_60 : decode cX2_add 60 = .ok (.iload 4, 2) := by decide +kernel
theorem dX2_add_62 : decode cX2_add 62 = .ok (.iconst 0, 1) := by decide +kernel
theorem dX2_add_63 : decode cX2_add 63 = .ok (.iastore, 1) := by decide +kernel
theorem dX2_add_64 : decode cX2_add 64 = .ok (.aload_n 0, 1) := by decide +kernel
theorem dX2_add_65 : decode cX2_add 65 = .ok (.getfield 34, 3) := by decide +kernel
theorem dX2_add_68 : decode cX2_add 68 = .ok (.iload 4, 2) := by decide +kernel
theorem dX2_add_70 : decode cX2_add 70 = .ok (.iconst 0, 1) := by decide +kernel
theorem dX2_add_71 : decode cX2_add 71 = .ok (.iastore, 1) := by decide +kernel
theorem dX2_add_72 : decode cX2_add 72 = .ok (.aload_n 0, 1) := by decide +kernel
theorem dX2_add_73 : decode cX2_add 73 = .ok (.getfield 37, 3) := by decide +kernel
theorem dX2_add_76 : decode cX2_add 76 = .ok (.iload 4, 2) := by decide +kernel
theorem dX2_add_78 : decode cX2_add 78 = .ok (.iload_n 3, 1) := by decide +kernel
theorem dX2_add_79 : decode cX2_add 79 = .ok (.iastore, 1) := by decide +kernel
theorem dX2_add_80 : decode cX2_add 80 = .ok (.aload_n 0, 1) := by decide +kernel
theorem dX2_add_81 : decode cX2_add 81 = .ok (.getfield 40, 3) := by decide +kernel
theorem dX2_add_84 : decode cX2_add 84 = .ok (.iload 4, 2) := by decide +kernel
theorem dX2_add_86 : decode cX2_add 86 = .ok (.bipush (-6), 2) := by decide +kernel
theorem dX2_add_88 : decode cX2_add 88 = .ok (.iastore, 1) := by decide +kernel
theorem dX2_add_89 : decode cX2_add 89 = .ok (.aload_n 0, 1) := by decide +kernel
theorem dX2_add_90 : decode cX2_add 90 = .ok (.getfield 43, 3) := by decide +kernel
theorem dX2_add_93 : decode cX2_add 93 = .ok (.iload 4, 2) := by decide +kernel
theorem dX2_add_95 : decode cX2_add 95 = .ok (.iconst 0, 1) := by decide +kernel
theorem dX2_add_96 : decode cX2_add 96 = .ok (.iastore, 1) := by decide +kernel
theorem dX2_add_97 : decode cX2_add 97 = .ok (.aload_n 0, 1) := by decide +kernel
theorem dX2_add_98 : decode cX2_add 98 = .ok (.dup, 1) := by decide +kernel
theorem dX2_add_99 : decode cX2_add 99 = .ok (.getfield 9, 3) := by decide +kernel
theorem dX2_add_102 : decode cX2_add 102 = .ok (.iconst 1, 1) := by decide +kernel
theorem dX2_add_103 : decode cX2_add 103 = .ok (.iadd, 1) := by decide +kernel
theorem dX2_add_104 : decode cX2_add 104 = .ok (.putfield 9, 3) := by decide +kernel
theorem dX2_add_107 : decode cX2_add 107 = .ok (.iload 4, 2) := by decide +kernel
theorem dX2_add_109 : decode cX2_add 109 = .ok (.ireturn, 1) := by decide +kernel
theorem dX2_noteMove_0 : decode cX2_noteMove 0 = .ok (.aload_n 0, 1) := by decide +kernel
theorem dX2_noteMove_1 : decode cX2_noteMove 1 = .ok (.getfield 25, 3) := by decide +kernel
theorem dX2_noteMove_4 : decode cX2_noteMove 4 = .ok (.iload_n 1, 1) := by decide +kernel
theorem dX2_noteMove_5 : decode cX2_noteMove 5 = .ok (.iload_n 2, 1) := by decide +kernel
theorem dX2_noteMove_6 : decode cX2_noteMove 6 = .ok (.iastore, 1) := by decide +kernel
theorem dX2_noteMove_7 : decode cX2_noteMove 7 = .ok (.aload_n 0, 1) := by decide +kernel
theorem dX2_noteMove_8 : decode cX2_noteMove 8 = .ok (.getfield 28, 3) := by decide +kernel
theorem dX2_noteMove_11 : decode cX2_noteMove 11 = .ok (.iload_n 1, 1) := by decide +kernel
theorem dX2_noteMove_12 : decode cX2_noteMove 12 = .ok (.dup2, 1) := by decide +kernel
theorem dX2_noteMove_13 : decode cX2_noteMove 13 = .ok (.iaload, 1) := by decide +kernel
theorem dX2_noteMove_14 : decode cX2_noteMove 14 = .ok (.iconst 1, 1) := by decide +kernel
theorem dX2_noteMove_15 : decode cX2_noteMove 15 = .ok (.iadd, 1) := by decide +kernel
theorem dX2_noteMove_16 : decode cX2_noteMove 16 = .ok (.iastore, 1) := by decide +kernel
theorem dX2_noteMove_17 : decode cX2_noteMove 17 = .ok (.iload 4, 2) := by decide +kernel
theorem dX2_noteMove_19 : decode cX2_noteMove 19 = .ok (.ifCond .eq 13, 3) := by decide +kernel
theorem dX2_noteMove_22 : decode cX2_noteMove 22 = .ok (.aload_n 0, 1) := by decide +kernel
theorem dX2_noteMove_23 : decode cX2_noteMove 23 = .ok (.getfield 31, 3) := by decide +kernel
theorem dX2_noteMove_26 : decode cX2_noteMove 26 = .ok (.iload_n 1, 1) := by decide +kernel
theorem dX2_noteMove_27 : decode cX2_noteMove 27 = .ok (.dup2, 1) := by decide +kernel
theorem dX2_noteMove_28 : decode cX2_noteMove 28 = .ok (.iaload, 1) := by decide +kernel
theorem dX2_noteMove_29 : decode cX2_noteMove 29 = .ok (.iconst 1, 1) := by decide +kernel
theorem dX2_noteMove_30 : decode cX2_noteMove 30 = .ok (.iadd, 1) := by decide +kernel
theorem dX2_noteMove_31 : decode cX2_noteMove 31 = .ok (.iastore, 1) := by decide +kernel
theorem dX2_noteMove_32 : decode cX2_noteMove 32 = .ok (.iload_n 3, 1) := by decide +kernel
theorem dX2_noteMove_33 : decode cX2_noteMove 33 = .ok (.ifCond .eq 10, 3) := by decide +kernel
theorem dX2_noteMove_36 : decode cX2_noteMove 36 = .ok (.aload_n 0, 1) := by decide +kernel
theorem dX2_noteMove_37 : decode cX2_noteMove 37 = .ok (.getfield 43, 3) := by decide +kernel
theorem dX2_noteMove_40 : decode cX2_noteMove 40 = .ok (.iload_n 1, 1) := by decide +kernel
theorem dX2_noteMove_41 : decode cX2_noteMove 41 = .ok (.iconst 1, 1) := by decide +kernel
theorem dX2_noteMove_42 : decode cX2_noteMove 42 = .ok (.iastore, 1) := by decide +kernel
theorem dX2_noteMove_43 : decode cX2_noteMove 43 = .ok (.return_, 1) := by decide +kernel
theorem dX2_countIn_0 : decode cX2_countIn 0 = .ok (.iconst 0, 1) := by decide +kernel
theorem dX2_countIn_1 : decode cX2_countIn 1 = .ok (.istore_n 2, 1) := by decide +kernel
theorem dX2_countIn_2 : decode cX2_countIn 2 = .ok (.iconst 0, 1) := by decide +kernel
theorem dX2_countIn_3 : decode cX2_countIn 3 = .ok (.istore_n 3, 1) := by decide +kernel
theorem dX2_countIn_4 : decode cX2_countIn 4 = .ok (.iload_n 3, 1) := by decide +kernel
theorem dX2_countIn_5 : decode cX2_countIn 5 = .ok (.aload_n 0, 1) := by decide +kernel
theorem dX2_countIn_6 : decode cX2_countIn 6 = .ok (.getfield 9, 3) := by decide +kernel
theorem dX2_countIn_9 : decode cX2_countIn 9 = .ok (.if_icmp .ge 22, 3) := by decide +kernel
theorem dX2_countIn_12 : decode cX2_countIn 12 = .ok (.aload_n 0, 1) := by decide +kernel
theorem dX2_countIn_13 : decode cX2_countIn 13 = .ok (.getfield 22, 3) := by decide +kernel
theorem dX2_countIn_16 : decode cX2_countIn 16 = .ok (.iload_n 3, 1) := by decide +kernel
theorem dX2_countIn_17 : decode cX2_countIn 17 = .ok (.iaload, 1) := by decide +kernel
theorem dX2_countIn_18 : decode cX2_countIn 18 = .ok (.iload_n 1, 1) := by decide +kernel
theorem dX2_countIn_19 : decode cX2_countIn 19 = .ok (.if_icmp .ne 6, 3) := by decide +kernel
theorem dX2_countIn_22 : decode cX2_countIn 22 = .ok (.iinc 2 1, 3) := by decide +kernel
theorem dX2_countIn_25 : decode cX2_countIn 25 = .ok (.iinc 3 1, 3) := by decide +kernel
theorem dX2_countIn_28 : decode cX2_countIn 28 = .ok (.goto (-24), 3) := by decide +kernel
theorem dX2_countIn_31 : decode cX2_countIn 31 = .ok (.iload_n 2, 1) := by decide +kernel
theorem dX2_countIn_32 : decode cX2_countIn 32 = .ok (.ireturn, 1) := by decide +kernel
theorem dX2_countAt_0 : decode cX2_countAt 0 = .ok (.iconst 0, 1) := by decide +kernel
theorem dX2_countAt_1 : decode cX2_countAt 1 = .ok (.istore_n 3, 1) := by decide +kernel
theorem dX2_countAt_2 : decode cX2_countAt 2 = .ok (.iconst 0, 1) := by decide +kernel
theorem dX2_countAt_3 : decode cX2_countAt 3 = .ok (.istore 4, 2) := by decide +kernel
theorem dX2_countAt_5 : decode cX2_countAt 5 = .ok (.iload 4, 2) := by decide +kernel
theorem dX2_countAt_7 : decode cX2_countAt 7 = .ok (.aload_n 0, 1) := by decide +kernel
theorem dX2_countAt_8 : decode cX2_countAt 8 = .ok (.getfield 9, 3) := by decide +kernel
theorem dX2_countAt_11 : decode cX2_countAt 11 = .ok (.if_icmp .ge 34, 3) := by decide +kernel
theorem dX2_countAt_14 : decode cX2_countAt 14 = .ok (.aload_n 0, 1) := by decide +kernel
theorem dX2_countAt_15 : decode cX2_countAt 15 = .ok (.getfield 22, 3) := by decide +kernel
theorem dX2_countAt_18 : decode cX2_countAt 18 = .ok (.iload 4, 2) := by decide +kernel
theorem dX2_countAt_20 : decode cX2_countAt 20 = .ok (.iaload, 1) := by decide +kernel
theorem dX2_countAt_21 : decode cX2_countAt 21 = .ok (.iload_n 1, 1) := by decide +kernel
theorem dX2_countAt_22 : decode cX2_countAt 22 = .ok (.if_icmp .ne 17, 3) := by decide +kernel
theorem dX2_countAt_25 : decode cX2_countAt 25 = .ok (.aload_n 0, 1) := by decide +kernel
theorem dX2_countAt_26 : decode cX2_countAt 26 = .ok (.getfield 25, 3) := by decide +kernel
theorem dX2_countAt_29 : decode cX2_countAt 29 = .ok (.iload 4, 2) := by decide +kernel
theorem dX2_countAt_31 : decode cX2_countAt 31 = .ok (.iaload, 1) := by decide +kernel
theorem dX2_countAt_32 : decode cX2_countAt 32 = .ok (.iload_n 2, 1) := by decide +kernel
theorem dX2_countAt_33 : decode cX2_countAt 33 = .ok (.if_icmp .ne 6, 3) := by decide +kernel
theorem dX2_countAt_36 : decode cX2_countAt 36 = .ok (.iinc 3 1, 3) := by decide +kernel
theorem dX2_countAt_39 : decode cX2_countAt 39 = .ok (.iinc 4 1, 3) := by decide +kernel
theorem dX2_countAt_42 : decode cX2_countAt 42 = .ok (.goto (-37), 3) := by decide +kernel
theorem dX2_countAt_45 : decode cX2_countAt 45 = .ok (.iload_n 3, 1) := by decide +kernel
theorem dX2_countAt_46 : decode cX2_countAt 46 = .ok (.ireturn, 1) := by decide +kernel
theorem dX2_sum_0 : decode cX2_sum 0 = .ok (.iconst 0, 1) := by decide +kernel
theorem dX2_sum_1 : decode cX2_sum 1 = .ok (.istore_n 2, 1) := by decide +kernel
theorem dX2_sum_2 : decode cX2_sum 2 = .ok (.iconst 0, 1) := by decide +kernel
theorem dX2_sum_3 : decode cX2_sum 3 = .ok (.istore_n 3, 1) := by decide +kernel
theorem dX2_sum_4 : decode cX2_sum 4 = .ok (.iload_n 3, 1) := by decide +kernel
theorem dX2_sum_5 : decode cX2_sum 5 = .ok (.aload_n 0, 1) := by decide +kernel
theorem dX2_sum_6 : decode cX2_sum 6 = .ok (.getfield 9, 3) := by decide +kernel
theorem dX2_sum_9 : decode cX2_sum 9 = .ok (.if_icmp .ge 15, 3) := by decide +kernel
theorem dX2_sum_12 : decode cX2_sum 12 = .ok (.iload_n 2, 1) := by decide +kernel
theorem dX2_sum_13 : decode cX2_sum 13 = .ok (.aload_n 1, 1) := by decide +kernel
theorem dX2_sum_14 : decode cX2_sum 14 = .ok (.iload_n 3, 1) := by decide +kernel
theorem dX2_sum_15 : decode cX2_sum 15 = .ok (.iaload, 1) := by decide +kernel
theorem dX2_sum_16 : decode cX2_sum 16 = .ok (.iadd, 1) := by decide +kernel
theorem dX2_sum_17 : decode cX2_sum 17 = .ok (.istore_n 2, 1) := by decide +kernel
theorem dX2_sum_18 : decode cX2_sum 18 = .ok (.iinc 3 1, 3) := by decide +kernel
theorem dX2_sum_21 : decode cX2_sum 21 = .ok (.goto (-17), 3) := by decide +kernel
theorem dX2_sum_24 : decode cX2_sum 24 = .ok (.iload_n 2, 1) := by decide +kernel
theorem dX2_sum_25 : decode cX2_sum 25 = .ok (.ireturn, 1) := by decide +kernel
theorem dX3_init_0 : decode cX3_init 0 = .ok (.aload_n 0, 1) := by decide +kernel
theorem dX3_init_1 : decode cX3_init 1 = .ok (.invokespecial 5, 3) := by decide +kernel
theorem dX3_init_4 : decode cX3_init 4 = .ok (.aload_n 0, 1) := by decide +kernel
theorem dX3_init_5 : decode cX3_init 5 = .ok (.bipush 80, 2) := by decide +kernel
theorem dX3_init_7 : decode cX3_init 7 = .ok (.newarray .char, 2) := by decide +kernel
theorem dX3_init_9 : decode cX3_init 9 = .ok (.putfield 11, 3) := by decide +kernel
theorem dX3_init_12 : decode cX3_init 12 = .ok (.aload_n 0, 1) := by decide +kernel
theorem dX3_init_13 : decode cX3_init 13 = .ok (.iconst 0, 1) := by decide +kernel
theorem dX3_init_14 : decode cX3_init 14 = .ok (.putfield 15, 3) := by decide +kernel
theorem dX3_init_17 : decode cX3_init 17 = .ok (.aload_n 0, 1) := by decide +kernel
theorem dX3_init_18 : decode cX3_init 18 = .ok (.iconst 0, 1) := by decide +kernel
theorem dX3_init_19 : decode cX3_init 19 = .ok (.putfield 19, 3) := by decide +kernel
theorem dX3_init_22 : decode cX3_init 22 = .ok (.aload_n 0, 1) := by decide +kernel
theorem dX3_init_23 : decode cX3_init 23 = .ok (.bipush 27, 2) := by decide +kernel
theorem dX3_init_25 : decode cX3_init 25 = .ok (.newarray .int, 2) := by decide +kernel
theorem dX3_init_27 : decode cX3_init 27 = .ok (.putfield 22, 3) := by decide +kernel
theorem dX3_init_30 : decode cX3_init 30 = .ok (.aload_n 0, 1) := by decide +kernel
theorem dX3_init_31 : decode cX3_init 31 = .ok (.bipush 27, 2) := by decide +kernel
theorem dX3_init_33 : decode cX3_init 33 = .ok (.newarray .int, 2) := by decide +kernel
theorem dX3_init_35 : decode cX3_init 35 = .ok (.putfield 26, 3) := by decide +kernel
theorem dX3_init_38 : decode cX3_init 38 = .ok (.aload_n 0, 1) := by decide +kernel
theorem dX3_init_39 : decode cX3_init 39 = .ok (.bipush 27, 2) := by decide +kernel
theorem dX3_init_41 : decode cX3_init 41 = .ok (.newarray .int, 2) := by decide +kernel
theorem dX3_init_43 : decode cX3_init 43 = .ok (.putfield 29, 3) := by decide +kernel
theorem dX3_init_46 : decode cX3_init 46 = .ok (.aload_n 0, 1) := by decide +kernel
theorem dX3_init_47 : decode cX3_init 47 = .ok (.iconst 0, 1) := by decide +kernel
theorem dX3_init_48 : decode cX3_init 48 = .ok (.putfield 32, 3) := by decide +kernel
theorem dX3_init_51 : decode cX3_init 51 = .ok (.return_, 1) := by decide +kernel
theorem dX4_init_0 : decode cX4_init 0 = .ok (.aload_n 0, 1) := by decide +kernel
theorem dX4_init_1 : decode cX4_init 1 = .ok (.invokespecial 3, 3) := by decide +kernel
theorem dX4_init_4 : decode cX4_init 4 = .ok (.aload_n 0, 1) := by decide +kernel
theorem dX4_init_5 : decode cX4_init 5 = .ok (.iconst 0, 1) := by decide +kernel
theorem dX4_init_6 : decode cX4_init 6 = .ok (.putfield 9, 3) := by decide +kernel
theorem dX4_init_9 : decode cX4_init 9 = .ok (.aload_n 0, 1) := by decide +kernel
theorem dX4_init_10 : decode cX4_init 10 = .ok (.bipush 100, 2) := by decide +kernel
theorem dX4_init_12 : decode cX4_init 12 = .ok (.newarray .int, 2) := by decide +kernel
theorem dX4_init_14 : decode cX4_init 14 = .ok (.putfield 15, 3) := by decide +kernel
theorem dX4_init_17 : decode cX4_init 17 = .ok (.aload_n 0, 1) := by decide +kernel
theorem dX4_init_18 : decode cX4_init 18 = .ok (.sipush 1250, 3) := by decide +kernel
theorem dX4_init_21 : decode cX4_init 21 = .ok (.newarray .int, 2) := by decide +kernel
theorem dX4_init_23 : decode cX4_init 23 = .ok (.putfield 19, 3) := by decide +kernel
theorem dX4_init_26 : decode cX4_init 26 = .ok (.aload_n 0, 1) := by decide +kernel
theorem dX4_init_27 : decode cX4_init 27 = .ok (.bipush 50, 2) := by decide +kernel
theorem dX4_init_29 : decode cX4_init 29 = .ok (.newarray .int, 2) := by decide +kernel
theorem dX4_init_31 : decode cX4_init 31 = .ok (.putfield 22, 3) := by decide +kernel
theorem dX4_init_34 : decode cX4_init 34 = .ok (.aload_n 0, 1) := by decide +kernel
theorem dX4_init_35 : decode cX4_init 35 = .ok (.bipush 50, 2) := by decide +kernel
theorem dX4_init_37 : decode cX4_init 37 = .ok (.newarray .int, 2) := by decide +kernel
theorem dX4_init_39 : decode cX4_init 39 = .ok (.putfield 25, 3) := by decide +kernel
theorem dX4_init_42 : decode cX4_init 42 = .ok (.aload_n 0, 1) := by decide +kernel
theorem dX4_init_43 : decode cX4_init 43 = .ok (.iconst 0, 1) := by decide +kernel
theorem dX4_init_44 : decode cX4_init 44 = .ok (.putfield 28, 3) := by decide +kernel
theorem dX4_init_47 : decode cX4_init 47 = .ok (.return_, 1) := by decide +kernel
theorem dX4_learn_0 : decode cX4_learn 0 = .ok (.aload_n 1, 1) := by decide +kernel
theorem dX4_learn_1 : decode cX4_learn 1 = .ok (.invokevirtual 32, 3) := by decide +kernel
theorem dX4_learn_4 : decode cX4_learn 4 = .ok (.istore_n 3, 1) := by decide +kernel
theorem dX4_learn_5 : decode cX4_learn 5 = .ok (.aload_n 0, 1) := by decide +kernel
theorem dX4_learn_6 : decode cX4_learn 6 = .ok (.iload_n 2, 1) := by decide +kernel
theorem dX4_learn_7 : decode cX4_learn 7 = .ok (.iconst 1, 1) := by decide +kernel
theorem dX4_learn_8 : decode cX4_learn 8 = .ok (.if_icmp .ne 7, 3) := by decide +kernel
theorem dX4_learn_11 : decode cX4_learn 11 = .ok (.iconst 1, 1) := by decide +kernel
theorem dX4_learn_12 : decode cX4_learn 12 = .ok (.goto 4, 3) := by decide +kernel
theorem dX4_learn_15 : decode cX4_learn 15 = .ok (.iconst 0, 1) := by decide +kernel
theorem dX4_learn_16 : decode cX4_learn 16 = .ok (.putfield 9, 3) := by decide +kernel
theorem dX4_learn_19 : decode cX4_learn 19 = .ok (.iconst 0, 1) := by decide +kernel
theorem dX4_learn_20 : decode cX4_learn 20 = .ok (.istore 4, 2) := by decide +kernel
theorem dX4_learn_22 : decode cX4_learn 22 = .ok (.iload 4, 2) := by decide +kernel
theorem dX4_learn_24 : decode cX4_learn 24 = .ok (.iload_n 3, 1) := by decide +kernel
theorem dX4_learn_25 : decode cX4_learn 25 = .ok (.if_icmp .ge 85, 3) := by decide +kernel
theorem dX4_learn_28 : decode cX4_learn 28 = .ok (.iconst 0, 1) := by decide +kernel
theorem dX4_learn_29 : decode cX4_learn 29 = .ok (.istore 5, 2) := by decide +kernel
theorem dX4_learn_31 : decode cX4_learn 31 = .ok (.iload 5, 2) := by decide +kernel
theorem dX4_learn_33 : decode cX4_learn 33 = .ok (.iconst 4, 1) := by decide +kernel
theorem dX4_learn_34 : decode cX4_learn 34 = .ok (.if_icmp .ge 70, 3) := by decide +kernel
theorem dX4_learn_37 : decode cX4_learn 37 = .ok (.aload_n 1, 1) := by decide +kernel
theorem dX4_learn_38 : decode cX4_learn 38 = .ok (.iload 4, 2) := by decide +kernel
theorem dX4_learn_40 : decode cX4_learn 40 = .ok (.iload 5, 2) := by decide +kernel
theorem dX4_learn_42 : decode cX4_learn 42 = .ok (.invokevirtual 38, 3) := by decide +kernel
theorem dX4_learn_45 : decode cX4_learn 45 = .ok (.istore 6, 2) := by decide +kernel
theorem dX4_learn_47 : decode cX4_learn 47 = .ok (.iload 6, 2) := by decide +kernel
theorem dX4_learn_49 : decode cX4_learn 49 = .ok (.iconst (-1), 1) := by decide +kernel
theorem dX4_learn_50 : decode cX4_learn 50 = .ok (.if_icmp .eq 16, 3) := by decide +kernel
theorem dX4_learn_53 : decode cX4_learn 53 = .ok (.aload_n 1, 1) := by decide +kernel
theorem dX4_learn_54 : decode cX4_learn 54 = .ok (.iload 6, 2) := by decide +kernel
theorem dX4_learn_56 : decode cX4_learn 56 = .ok (.invokevirtual 42, 3) := by decide +kernel
theorem dX4_learn_59 : decode cX4_learn 59 = .ok (.ifCond .eq 7, 3) := by decide +kernel
theorem dX4_learn_62 : decode cX4_learn 62 = .ok (.iconst 1, 1) := by decide +kernel
theorem dX4_learn_63 : decode cX4_learn 63 = .ok (.goto 4, 3) := by decide +kernel
theorem dX4_learn_66 : decode cX4_learn 66 = .ok (.iconst 0, 1) := by decide +kernel
theorem dX4_learn_67 : decode cX4_learn 67 = .ok (.istore 7, 2) := by decide +kernel
theorem dX4_learn_69 : decode cX4_learn 69 = .ok (.aload_n 0, 1) := by decide +kernel
theorem dX4_learn_70 : decode cX4_learn 70 = .ok (.getfield 15, 3) := by decide +kernel
theorem dX4_learn_73 : decode cX4_learn 73 = .ok (.iload 4, 2) := by decide +kernel
theorem dX4_learn_75 : decode cX4_learn 75 = .ok (.iconst 4, 1) := by decide +kernel
theorem dX4_learn_76 : decode cX4_learn 76 = .ok (.imul, 1) := by decide +kernel
theorem dX4_learn_77 : decode cX4_learn 77 = .ok (.iload 5, 2) := by decide +kernel
theorem dX4_learn_79 : decode cX4_learn 79 = .ok (.iadd, 1) := by decide +kernel
theorem dX4_learn_80 : decode cX4_learn 80 = .ok (.iload 7, 2) := by decide +kernel
theorem dX4_learn_82 : decode cX4_learn 82 = .ok (.ifCond .eq 14, 3) := by decide +kernel
theorem dX4_learn_85 : decode cX4_learn 85 = .ok (.aload_n 1, 1) := by decide +kernel
theorem dX4_learn_86 : decode cX4_learn 86 = .ok (.iload 4, 2) := by decide +kernel
theorem dX4_learn_88 : decode cX4_learn 88 = .ok (.iload 5, 2) := by decide +kernel
theorem dX4_learn_90 : decode cX4_learn 90 = .ok (.invokevirtual 46, 3) := by decide +kernel
theorem dX4_learn_93 : decode cX4_learn 93 = .ok (.goto 4, 3) := by decide +kernel
theorem dX4_learn_96 : decode cX4_learn 96 = .ok (.iconst (-1), 1) := by decide +kernel
theorem dX4_learn_97 : decode cX4_learn 97 = .ok (.iastore, 1) := by decide +kernel
theorem dX4_learn_98 : decode cX4_learn 98 = .ok (.iinc 5 1, 3) := by decide +kernel
theorem dX4_learn_101 : decode cX4_learn 101 = .ok (.goto (-70), 3) := by decide +kernel
theorem dX4_learn_104 : decode cX4_learn 104 = .ok (.iinc 4 1, 3) := by decide +kernel
theorem dX4_learn_107 : decode cX4_learn 107 = .ok (.goto (-85), 3) := by decide +kernel
theorem dX4_learn_110 : decode cX4_learn 110 = .ok (.iconst 0, 1) := by decide +kernel
theorem dX4_learn_111 : decode cX4_learn 111 = .ok (.istore 4, 2) := by decide +kernel
theorem dX4_learn_113 : decode cX4_learn 113 = .ok (.iload 4, 2) := by decide +kernel
theorem dX4_learn_115 : decode cX4_learn 115 = .ok (.iload_n 3, 1) := by decide +kernel
theorem dX4_learn_116 : decode cX4_learn 116 = .ok (.if_icmp .ge 15, 3) := by decide +kernel
theorem dX4_learn_119 : decode cX4_learn 119 = .ok (.aload_n 0, 1) := by decide +kernel
theorem dX4_learn_120 : decode cX4_learn 120 = .ok (.iload 4, 2) := by decide +kernel
theorem dX4_learn_122 : decode cX4_learn 122 = .ok (.invokevirtual 49, 3) := by decide +kernel
theorem dX4_learn_125 : decode cX4_learn 125 = .ok (.iinc 4 1, 3) := by decide +kernel
theorem dX4_learn_128 : decode cX4_learn 128 = .ok (.goto (-15), 3) := by decide +kernel
theorem dX4_learn_131 : decode cX4_learn 131 = .ok (.return_, 1) := by decide +kernel
theorem dX4_boxBehind_0 : decode cX4_boxBehind 0 = .ok (.iload_n 1, 1) := by decide +kernel
theorem dX4_boxBehind_1 : decode cX4_boxBehind 1 = .ok (.iconst 4, 1) := by decide +kernel
theorem dX4_boxBehind_2 : decode cX4_boxBehind 2 = .ok (.imul, 1) := by decide +kernel
theorem dX4_boxBehind_3 : decode cX4_boxBehind 3 = .ok (.iload_n 2, 1) := by decide +kernel
theorem dX4_boxBehind_4 : decode cX4_boxBehind 4 = .ok (.iadd, 1) := by decide +kernel
theorem dX4_boxBehind_5 : decode cX4_boxBehind 5 = .ok (.istore_n 3, 1) := by decide +kernel
theorem dX4_boxBehind_6 : decode cX4_boxBehind 6 = .ok (.iload_n 3, 1) := by decide +kernel
theorem dX4_boxBehind_7 : decode cX4_boxBehind 7 = .ok (.ifCond .lt 21, 3) := by decide +kernel
theorem dX4_boxBehind_10 : decode cX4_boxBehind 10 = .ok (.iload_n 3, 1) := by decide +kernel
theorem dX4_boxBehind_11 : decode cX4_boxBehind 11 = .ok (.aload_n 0, 1) := by decide +kernel
theorem dX4_boxBehind_12 : decode cX4_boxBehind 12 = .ok (.getfield 15, 3) := by decide +kernel
theorem dX4_boxBehind_15 : decode cX4_boxBehind 15 = .ok (.arraylength, 1) := by decide +kernel
theorem dX4_boxBehind_16 : decode cX4_boxBehind 16 = .ok (.if_icmp .ge 12, 3) := by decide +kernel
theorem dX4_boxBehind_19 : decode cX4_boxBehind 19 = .ok (.aload_n 0, 1) := by decide +kernel
theorem dX4_boxBehind_20 : decode cX4_boxBehind 20 = .ok (.getfield 15, 3) := by decide +kernel
theorem dX4_boxBehind_23 : decode cX4_boxBehind 23 = .ok (.iload_n 3, 1) := by decide +kernel
theorem dX4_boxBehind_24 : decode cX4_boxBehind 24 = .ok (.iaload, 1) := by decide +kernel
theorem dX4_boxBehind_25 : decode cX4_boxBehind 25 = .ok (.goto 4, 3) := by decide +kernel
theorem dX4_boxBehind_28 : decode cX4_boxBehind 28 = .ok (.iconst (-1), 1) := by decide +kernel
theorem dX4_boxBehind_29 : decode cX4_boxBehind 29 = .ok (.ireturn, 1) := by decide +kernel
theorem dX4_length_0 : decode cX4_length 0 = .ok (.iload_n 3, 1) := by decide +kernel
theorem dX4_length_1 : decode cX4_length 1 = .ok (.bipush 50, 2) := by decide +kernel
theorem dX4_length_3 : decode cX4_length 3 = .ok (.imul, 1) := by decide +kernel
theorem dX4_length_4 : decode cX4_length 4 = .ok (.iload_n 1, 1) := by decide +kernel
theorem dX4_length_5 : decode cX4_length 5 = .ok (.iload_n 2, 1) := by decide +kernel
theorem dX4_length_6 : decode cX4_length 6 = .ok (.invokestatic 53, 3) := by decide +kernel
theorem dX4_length_9 : decode cX4_length 9 = .ok (.iadd, 1) := by decide +kernel
theorem dX4_length_10 : decode cX4_length 10 = .ok (.istore 4, 2) := by decide +kernel
theorem dX4_length_12 : decode cX4_length 12 = .ok (.iload 4, 2) := by decide +kernel
theorem dX4_length_14 : decode cX4_length 14 = .ok (.ifCond .lt 23, 3) := by decide +kernel
theorem dX4_length_17 : decode cX4_length 17 = .ok (.iload 4, 2) := by decide +kernel
theorem dX4_length_19 : decode cX4_length 19 = .ok (.aload_n 0, 1) := by decide +kernel
theorem dX4_length_20 : decode cX4_length 20 = .ok (.getfield 19, 3) := by decide +kernel
theorem dX4_length_23 : decode cX4_length 23 = .ok (.arraylength, 1) := by decide +kernel
theorem dX4_length_24 : decode cX4_length 24 = .ok (.if_icmp .ge 13, 3) := by decide +kernel
theorem dX4_length_27 : decode cX4_length 27 = .ok (.aload_n 0, 1) := by decide +kernel
theorem dX4_length_28 : decode cX4_length 28 = .ok (.getfield 19, 3) := by decide +kernel
theorem dX4_length_31 : decode cX4_length 31 = .ok (.iload 4, 2) := by decide +kernel
theorem dX4_length_33 : decode cX4_length 33 = .ok (.iaload, 1) := by decide +kernel
theorem dX4_length_34 : decode cX4_length 34 = .ok (.goto 6, 3) := by decide +kernel
theorem dX4_length_37 : decode cX4_length 37 = .ok (.sipush 1000, 3) := by decide +kernel
theorem dX4_length_40 : decode cX4_length 40 = .ok (.ireturn, 1) := by decide +kernel
theorem dX4_lengthAfter_0 : decode cX4_lengthAfter 0 = .ok (.aload_n 0, 1) := by decide +kernel
theorem dX4_lengthAfter_1 : decode cX4_lengthAfter 1 = .ok (.iload_n 1, 1) := by decide +kernel
theorem dX4_lengthAfter_2 : decode cX4_lengthAfter 2 = .ok (.iload_n 3, 1) := by decide +kernel
theorem dX4_lengthAfter_3 : decode cX4_lengthAfter 3 = .ok (.invokevirtual 56, 3) := by decide +kernel
theorem dX4_lengthAfter_6 : decode cX4_lengthAfter 6 = .ok (.istore 5, 2) := by decide +kernel
theorem dX4_lengthAfter_8 : decode cX4_lengthAfter 8 = .ok (.iload 5, 2) := by decide +kernel
theorem dX4_lengthAfter_10 : decode cX4_lengthAfter 10 = .ok (.iconst (-1), 1) := by decide +kernel
theorem dX4_lengthAfter_11 : decode cX4_lengthAfter 11 = .ok (.if_icmp .eq 12, 3) := by decide +kernel
theorem dX4_lengthAfter_14 : decode cX4_lengthAfter 14 = .ok (.aload_n 0, 1) := by decide +kernel
theorem dX4_lengthAfter_15 : decode cX4_lengthAfter 15 = .ok (.iload_n 2, 1) := by decide +kernel
theorem dX4_lengthAfter_16 : decode cX4_lengthAfter 16 = .ok (.iload_n 3, 1) := by decide +kernel
theorem dX4_lengthAfter_17 : decode cX4_lengthAfter 17 = .ok (.invokevirtual 59, 3) := by decide +kernel
theorem dX4_lengthAfter_20 : decode cX4_lengthAfter 20 = .ok (.ifCond .ne 7, 3) := by decide +kernel
theorem dX4_lengthAfter_23 : decode cX4_lengthAfter 23 = .ok (.sipush 1000, 3) := by decide +kernel
theorem dX4_lengthAfter_26 : decode cX4_lengthAfter 26 = .ok (.ireturn, 1) := by decide +kernel
theorem dX4_lengthAfter_27 : decode cX4_lengthAfter 27 = .ok (.aload_n 0, 1) := by decide +kernel
theorem dX4_lengthAfter_28 : decode cX4_lengthAfter 28 = .ok (.iload 5, 2) := by decide +kernel
theorem dX4_lengthAfter_30 : decode cX4_lengthAfter 30 = .ok (.iload_n 3, 1) := by decide +kernel
theorem dX4_lengthAfter_31 : decode cX4_lengthAfter 31 = .ok (.ifCond .ne 7, 3) := by decide +kernel
theorem dX4_lengthAfter_34 : decode cX4_lengthAfter 34 = .ok (.iload_n 2, 1) := by decide +kernel
theorem dX4_lengthAfter_35 : decode cX4_lengthAfter 35 = .ok (.goto 4, 3) := by decide +kernel
theorem dX4_lengthAfter_38 : decode cX4_lengthAfter 38 = .ok (.iconst 1, 1) := by decide +kernel
theorem dX4_lengthAfter_39 : decode cX4_lengthAfter 39 = .ok (.iload 4, 2) := by decide +kernel
theorem dX4_lengthAfter_41 : decode cX4_lengthAfter 41 = .ok (.invokevirtual 63, 3) := by decide +kernel
theorem dX4_lengthAfter_44 : decode cX4_lengthAfter 44 = .ok (.ireturn, 1) := by decide +kernel
theorem dX4_shortestWays_0 : decode cX4_shortestWays 0 = .ok (.aload_n 0, 1) := by decide +kernel
theorem dX4_shortestWays_1 : decode cX4_shortestWays 1 = .ok (.iload_n 2, 1) := by decide +kernel
theorem dX4_shortestWays_2 : decode cX4_shortestWays 2 = .ok (.invokevirtual 49, 3) := by decide +kernel
theorem dX4_shortestWays_5 : decode cX4_shortestWays 5 = .ok (.aload_n 0, 1) := by decide +kernel
theorem dX4_shortestWays_6 : decode cX4_shortestWays 6 = .ok (.getfield 22, 3) := by decide +kernel
theorem dX4_shortestWays_9 : decode cX4_shortestWays 9 = .ok (.iload_n 1, 1) := by decide +kernel
theorem dX4_shortestWays_10 : decode cX4_shortestWays 10 = .ok (.iconst 0, 1) := by decide +kernel
theorem dX4_shortestWays_11 : decode cX4_shortestWays 11 = .ok (.invokestatic 53, 3) := by decide +kernel
theorem dX4_shortestWays_14 : decode cX4_shortestWays 14 = .ok (.iaload, 1) := by decide +kernel
theorem dX4_shortestWays_15 : decode cX4_shortestWays 15 = .ok (.ireturn, 1) := by decide +kernel
theorem dX4_spot_0 : decode cX4_spot 0 = .ok (.iload_n 1, 1) := by decide +kernel
theorem dX4_spot_1 : decode cX4_spot 1 = .ok (.bipush 25, 2) := by decide +kernel
theorem dX4_spot_3 : decode cX4_spot 3 = .ok (.imul, 1) := by decide +kernel
theorem dX4_spot_4 : decode cX4_spot 4 = .ok (.iload_n 0, 1) := by decide +kernel
theorem dX4_spot_5 : decode cX4_spot 5 = .ok (.iadd, 1) := by decide +kernel
theorem dX4_spot_6 : decode cX4_spot 6 = .ok (.ireturn, 1) := by decide +kernel
theorem dX4_mayMove_0 : decode cX4_mayMove 0 = .ok (.aload_n 0, 1) := by decide +kernel
theorem dX4_mayMove_1 : decode cX4_mayMove 1 = .ok (.getfield 9, 3) := by decide +kernel
theorem dX4_mayMove_4 : decode cX4_mayMove 4 = .ok (.ifCond .eq 11, 3) := by decide +kernel
theorem dX4_mayMove_7 : decode cX4_mayMove 7 = .ok (.iload_n 1, 1) := by decide +kernel
theorem dX4_mayMove_8 : decode cX4_mayMove 8 = .ok (.ifCond .eq 7, 3) := by decide +kernel
theorem dX4_mayMove_11 : decode cX4_mayMove 11 = .ok (.iload_n 2, 1) := by decide +kernel
theorem dX4_mayMove_12 : decode cX4_mayMove 12 = .ok (.ifCond .eq 7, 3) := by decide +kernel
theorem dX4_mayMove_15 : decode cX4_mayMove 15 = .ok (.iconst 1, 1) := by decide +kernel
theorem dX4_mayMove_16 : decode cX4_mayMove 16 = .ok (.goto 4, 3) := by decide +kernel
theorem dX4_mayMove_19 : decode cX4_mayMove 19 = .ok (.iconst 0, 1) := by decide +kernel
theorem dX4_mayMove_20 : decode cX4_mayMove 20 = .ok (.ireturn, 1) := by decide +kernel
theorem dX4_search_0 : decode cX4_search 0 = .ok (.iconst 0, 1) := by decide +kernel
theorem dX4_search_1 : decode cX4_search 1 = .ok (.istore_n 2, 1) := by decide +kernel
theorem dX4_search_2 : decode cX4_search 2 = .ok (.iload_n 2, 1) := by decide +kernel
theorem dX4_search_3 : decode cX4_search 3 = .ok (.bipush 50, 2) := by decide +kernel
theorem dX4_search_5 : decode cX4_search 5 = .ok (.if_icmp .ge 30, 3) := by decide +kernel
theorem dX4_search_8 : decode cX4_search 8 = .ok (.aload_n 0, 1) := by decide +kernel
theorem dX4_search_9 : decode cX4_search 9 = .ok (.getfield 19, 3) := by decide +kernel
theorem dX4_search_12 : decode cX4_search 12 = .ok (.iload_n 1, 1) := by decide +kernel
theorem dX4_search_13 : decode cX4_search 13 = .ok (.bipush 50, 2) := by decide +kernel
theorem dX4_search_15 : decode cX4_search 15 = .ok (.imul, 1) := by decide +kernel
theorem dX4_search_16 : decode cX4_search 16 = .ok (.iload_n 2, 1) := by decide +kernel
theorem dX4_search_17 : decode cX4_search 17 = .ok (.iadd, 1) := by decide +kernel
theorem dX4_search_18 : decode cX4_search 18 = .ok (.sipush 1000, 3) := by decide +kernel
theorem dX4_search_21 : decode cX4_search 21 = .ok (.iastore, 1) := by decide +kernel
theorem dX4_search_22 : decode cX4_search 22 = .ok (.aload_n 0, 1) := by decide +kernel
theorem dX4_search_23 : decode cX4_search 23 = .ok (.getfield 22, 3) := by decide +kernel
theorem dX4_search_26 : decode cX4_search 26 = .ok (.iload_n 2, 1) := by decide +kernel
theorem dX4_search_27 : decode cX4_search 27 = .ok (.iconst 0, 1) := by decide +kernel
theorem dX4_search_28 : decode cX4_search 28 = .ok (.iastore, 1) := by decide +kernel
theorem dX4_search_29 : decode cX4_search 29 = .ok (.iinc 2 1, 3) := by decide +kernel
theorem dX4_search_32 : decode cX4_search 32 = .ok (.goto (-30), 3) := by decide +kernel
theorem dX4_search_35 : decode cX4_search 35 = .ok (.aload_n 0, 1) := by decide +kernel
theorem dX4_search_36 : decode cX4_search 36 = .ok (.iconst 0, 1) := by decide +kernel
theorem dX4_search_37 : decode cX4_search 37 = .ok (.putfield 28, 3) := by decide +kernel
theorem dX4_search_40 : decode cX4_search 40 = .ok (.aload_n 0, 1) := by decide +kernel
theorem dX4_search_41 : decode cX4_search 41 = .ok (.iload_n 1, 1) := by decide +kernel
theorem dX4_search_42 : decode cX4_search 42 = .ok (.iload_n 1, 1) := by decide +kernel
theorem dX4_search_43 : decode cX4_search 43 = .ok (.iconst 0, 1) := by decide +kernel
theorem dX4_search_44 : decode cX4_search 44 = .ok (.invokestatic 53, 3) := by decide +kernel
theorem dX4_search_47 : decode cX4_search 47 = .ok (.iconst 0, 1) := by decide +kernel
theorem dX4_search_48 : decode cX4_search 48 = .ok (.iconst 1, 1) := by decide +kernel
theorem dX4_search_49 : decode cX4_search 49 = .ok (.invokevirtual 67, 3) := by decide +kernel
theorem dX4_search_52 : decode cX4_search 52 = .ok (.aload_n 0, 1) := by decide +kernel
theorem dX4_search_53 : decode cX4_search 53 = .ok (.iload_n 1, 1) := by decide +kernel
theorem dX4_search_54 : decode cX4_search 54 = .ok (.iload_n 1, 1) := by decide +kernel
theorem dX4_search_55 : decode cX4_search 55 = .ok (.iconst 1, 1) := by decide +kernel
theorem dX4_search_56 : decode cX4_search 56 = .ok (.invokestatic 53, 3) := by decide +kernel
theorem dX4_search_59 : decode cX4_search 59 = .ok (.iconst 0, 1) := by decide +kernel
theorem dX4_search_60 : decode cX4_search 60 = .ok (.iconst 1, 1) := by decide +kernel
theorem dX4_search_61 : decode cX4_search 61 = .ok (.invokevirtual 67, 3) := by decide +kernel
theorem dX4_search_64 : decode cX4_search 64 = .ok (.iconst 0, 1) := by decide +kernel
theorem dX4_search_65 : decode cX4_search 65 = .ok (.istore_n 2, 1) := by decide +kernel
theorem dX4_search_66 : decode cX4_search 66 = .ok (.iload_n 2, 1) := by decide +kernel
theorem dX4_search_67 : decode cX4_search 67 = .ok (.aload_n 0, 1) := by decide +kernel
theorem dX4_search_68 : decode cX4_search 68 = .ok (.getfield 28, 3) := by decide +kernel
theorem dX4_search_71 : decode cX4_search 71 = .ok (.if_icmp .ge 38, 3) := by decide +kernel
theorem dX4_search_74 : decode cX4_search 74 = .ok (.iload_n 2, 1) := by decide +kernel
theorem dX4_search_75 : decode cX4_search 75 = .ok (.bipush 50, 2) := by decide +kernel
theorem dX4_search_77 : decode cX4_search 77 = .ok (.if_icmp .ge 32, 3) := by decide +kernel
theorem dX4_search_80 : decode cX4_search 80 = .ok (.aload_n 0, 1) := by decide +kernel
theorem dX4_search_81 : decode cX4_search 81 = .ok (.iload_n 1, 1) := by decide +kernel
theorem dX4_search_82 : decode cX4_search 82 = .ok (.aload_n 0, 1) := by decide +kernel
theorem dX4_search_83 : decode cX4_search 83 = .ok (.getfield 25, 3) := by decide +kernel
theorem dX4_search_86 : decode cX4_search 86 = .ok (.iload_n 2, 1) := by decide +kernel
theorem dX4_search_87 : decode cX4_search 87 = .ok (.iaload, 1) := by decide +kernel
theorem dX4_search_88 : decode cX4_search 88 = .ok (.bipush 25, 2) := by decide +kernel
theorem dX4_search_90 : decode cX4_search 90 = .ok (.irem, 1) := by decide +kernel
theorem dX4_search_91 : decode cX4_search 91 = .ok (.aload_n 0, 1) := by decide +kernel
theorem dX4_search_92 : decode cX4_search 92 = .ok (.getfield 25, 3) := by decide +kernel
theorem dX4_search_95 : decode cX4_search 95 = .ok (.iload_n 2, 1) := by decide +kernel
theorem dX4_search_96 : decode cX4_search 96 = .ok (.iaload, 1) := by decide +kernel
theorem dX4_search_97 : decode cX4_search 97 = .ok (.bipush 25, 2) := by decide +kernel
theorem dX4_search_99 : decode cX4_search 99 = .ok (.idiv, 1) := by decide +kernel
theorem dX4_search_100 : decode cX4_search 100 = .ok (.invokevirtual 71, 3) := by decide +kernel
theorem dX4_search_103 : decode cX4_search 103 = .ok (.iinc 2 1, 3) := by decide +kernel
theorem dX4_search_106 : decode cX4_search 106 = .ok (.goto (-40), 3) := by decide +kernel
theorem dX4_search_109 : decode cX4_search 109 = .ok (.return_, 1) := by decide +kernel
theorem dX4_stepBack_0 : decode cX4_stepBack 0 = .ok (.iload_n 2, 1) := by decide +kernel
theorem dX4_stepBack_1 : decode cX4_stepBack 1 = .ok (.iload_n 3, 1) := by decide +kernel
theorem dX4_stepBack_2 : decode cX4_stepBack 2 = .ok (.invokestatic 53, 3) := by decide +kernel
theorem dX4_stepBack_5 : decode cX4_stepBack 5 = .ok (.istore 4, 2) := by decide +kernel
theorem dX4_stepBack_7 : decode cX4_stepBack 7 = .ok (.aload_n 0, 1) := by decide +kernel
theorem dX4_stepBack_8 : decode cX4_stepBack 8 = .ok (.getfield 19, 3) := by decide +kernel
theorem dX4_stepBack_11 : decode cX4_stepBack 11 = .ok (.iload_n 1, 1) := by decide +kernel
theorem dX4_stepBack_12 : decode cX4_stepBack 12 = .ok (.bipush 50, 2) := by decide +kernel
theorem dX4_stepBack_14 : decode cX4_stepBack 14 = .ok (.imul, 1) := by decide +kernel
theorem dX4_stepBack_15 : decode cX4_stepBack 15 = .ok (.iload 4, 2) := by decide +kernel
theorem dX4_stepBack_17 : decode cX4_stepBack 17 = .ok (.iadd, 1) := by decide +kernel
theorem dX4_stepBack_18 : decode cX4_stepBack 18 = .ok (.iaload, 1) := by decide +kernel
theorem dX4_stepBack_19 : decode cX4_stepBack 19 = .ok (.iconst 1, 1) := by decide +kernel
theorem dX4_stepBack_20 : decode cX4_stepBack 20 = .ok (.iadd, 1) := by decide +kernel
theorem dX4_stepBack_21 : decode cX4_stepBack 21 = .ok (.istore 5, 2) := by decide +kernel
theorem dX4_stepBack_23 : decode cX4_stepBack 23 = .ok (.aload_n 0, 1) := by decide +kernel
theorem dX4_stepBack_24 : decode cX4_stepBack 24 = .ok (.iload_n 2, 1) := by decide +kernel
theorem dX4_stepBack_25 : decode cX4_stepBack 25 = .ok (.iconst 1, 1) := by decide +kernel
theorem dX4_stepBack_26 : decode cX4_stepBack 26 = .ok (.invokevirtual 56, 3) := by decide +kernel
theorem dX4_stepBack_29 : decode cX4_stepBack 29 = .ok (.istore 6, 2) := by decide +kernel
theorem dX4_stepBack_31 : decode cX4_stepBack 31 = .ok (.iload 6, 2) := by decide +kernel
theorem dX4_stepBack_33 : decode cX4_stepBack 33 = .ok (.iconst (-1), 1) := by decide +kernel
theorem dX4_stepBack_34 : decode cX4_stepBack 34 = .ok (.if_icmp .eq 32, 3) := by decide +kernel
theorem dX4_stepBack_37 : decode cX4_stepBack 37 = .ok (.aload_n 0, 1) := by decide +kernel
theorem dX4_stepBack_38 : decode cX4_stepBack 38 = .ok (.iload_n 3, 1) := by decide +kernel
theorem dX4_stepBack_39 : decode cX4_stepBack 39 = .ok (.iconst 0, 1) := by decide +kernel
theorem dX4_stepBack_40 : decode cX4_stepBack 40 = .ok (.invokevirtual 59, 3) := by decide +kernel
theorem dX4_stepBack_43 : decode cX4_stepBack 43 = .ok (.ifCond .eq 23, 3) := by decide +kernel
theorem dX4_stepBack_46 : decode cX4_stepBack 46 = .ok (.aload_n 0, 1) := by decide +kernel
theorem dX4_stepBack_47 : decode cX4_stepBack 47 = .ok (.iload_n 1, 1) := by decide +kernel
theorem dX4_stepBack_48 : decode cX4_stepBack 48 = .ok (.iload 6, 2) := by decide +kernel
theorem dX4_stepBack_50 : decode cX4_stepBack 50 = .ok (.iload_n 3, 1) := by decide +kernel
theorem dX4_stepBack_51 : decode cX4_stepBack 51 = .ok (.invokestatic 53, 3) := by decide +kernel
theorem dX4_stepBack_54 : decode cX4_stepBack 54 = .ok (.iload 5, 2) := by decide +kernel
theorem dX4_stepBack_56 : decode cX4_stepBack 56 = .ok (.aload_n 0, 1) := by decide +kernel
theorem dX4_stepBack_57 : decode cX4_stepBack 57 = .ok (.getfield 22, 3) := by decide +kernel
theorem dX4_stepBack_60 : decode cX4_stepBack 60 = .ok (.iload 4, 2) := by decide +kernel
theorem dX4_stepBack_62 : decode cX4_stepBack 62 = .ok (.iaload, 1) := by decide +kernel
theorem dX4_stepBack_63 : decode cX4_stepBack 63 = .ok (.invokevirtual 67, 3) := by decide +kernel
theorem dX4_stepBack_66 : decode cX4_stepBack 66 = .ok (.iconst 1, 1) := by decide +kernel
theorem dX4_stepBack_67 : decode cX4_stepBack 67 = .ok (.istore 7, 2) := by decide +kernel
theorem dX4_stepBack_69 : decode cX4_stepBack 69 = .ok (.iload 7, 2) := by decide +kernel
theorem dX4_stepBack_71 : decode cX4_stepBack 71 = .ok (.iconst 4, 1) := by decide +kernel
theorem dX4_stepBack_72 : decode cX4_stepBack 72 = .ok (.if_icmp .ge 72, 3) := by decide +kernel
theorem dX4_stepBack_75 : decode cX4_stepBack 75 = .ok (.iload_n 3, 1) := by decide +kernel
theorem dX4_stepBack_76 : decode cX4_stepBack 76 = .ok (.iconst 1, 1) := by decide +kernel
theorem dX4_stepBack_77 : decode cX4_stepBack 77 = .ok (.if_icmp .ne 67, 3) := by decide +kernel
theorem dX4_stepBack_80 : decode cX4_stepBack 80 = .ok (.aload_n 0, 1) := by decide +kernel
theorem dX4_stepBack_81 : decode cX4_stepBack 81 = .ok (.iload_n 2, 1) := by decide +kernel
theorem dX4_stepBack_82 : decode cX4_stepBack 82 = .ok (.iload 7, 2) := by decide +kernel
theorem dX4_stepBack_84 : decode cX4_stepBack 84 = .ok (.invokestatic 75, 3) := by decide +kernel
theorem dX4_stepBack_87 : decode cX4_stepBack 87 = .ok (.invokevirtual 56, 3) := by decide +kernel
theorem dX4_stepBack_90 : decode cX4_stepBack 90 = .ok (.istore 8, 2) := by decide +kernel
theorem dX4_stepBack_92 : decode cX4_stepBack 92 = .ok (.iload 8, 2) := by decide +kernel
theorem dX4_stepBack_94 : decode cX4_stepBack 94 = .ok (.iconst (-1), 1) := by decide +kernel
theorem dX4_stepBack_95 : decode cX4_stepBack 95 = .ok (.if_icmp .eq 43, 3) := by decide +kernel
theorem dX4_stepBack_98 : decode cX4_stepBack 98 = .ok (.aload_n 0, 1) := by decide +kernel
theorem dX4_stepBack_99 : decode cX4_stepBack 99 = .ok (.iload_n 1, 1) := by decide +kernel
theorem dX4_stepBack_100 : decode cX4_stepBack 100 = .ok (.iload 8, 2) := by decide +kernel
theorem dX4_stepBack_102 : decode cX4_stepBack 102 = .ok (.iconst 0, 1) := by decide +kernel
theorem dX4_stepBack_103 : decode cX4_stepBack 103 = .ok (.invokestatic 53, 3) := by decide +kernel
theorem dX4_stepBack_106 : decode cX4_stepBack 106 = .ok (.iload 5, 2) := by decide +kernel
theorem dX4_stepBack_108 : decode cX4_stepBack 108 = .ok (.aload_n 0, 1) := by decide +kernel
theorem dX4_stepBack_109 : decode cX4_stepBack 109 = .ok (.getfield 22, 3) := by decide +kernel
theorem dX4_stepBack_112 : decode cX4_stepBack 112 = .ok (.iload 4, 2) := by decide +kernel
theorem dX4_stepBack_114 : decode cX4_stepBack 114 = .ok (.iaload, 1) := by decide +kernel
theorem dX4_stepBack_115 : decode cX4_stepBack 115 = .ok (.invokevirtual 67, 3) := by decide +kernel
theorem dX4_stepBack_118 : decode cX4_stepBack 118 = .ok (.aload_n 0, 1) := by decide +kernel
theorem dX4_stepBack_119 : decode cX4_stepBack 119 = .ok (.iload_n 1, 1) := by decide +kernel
theorem dX4_stepBack_120 : decode cX4_stepBack 120 = .ok (.iload 8, 2) := by decide +kernel
theorem dX4_stepBack_122 : decode cX4_stepBack 122 = .ok (.iconst 1, 1) := by decide +kernel
theorem dX4_stepBack_123 : decode cX4_stepBack 123 = .ok (.invokestatic 53, 3) := by decide +kernel
theorem dX4_stepBack_126 : decode cX4_stepBack 126 = .ok (.iload 5, 2) := by decide +kernel
theorem dX4_stepBack_128 : decode cX4_stepBack 128 = .ok (.aload_n 0, 1) := by decide +kernel
theorem dX4_stepBack_129 : decode cX4_stepBack 129 = .ok (.getfield 22, 3) := by decide +kernel
theorem dX4_stepBack_132 : decode cX4_stepBack 132 = .ok (.iload 4, 2) := by decide +kernel
theorem dX4_stepBack_134 : decode cX4_stepBack 134 = .ok (.iaload, 1) := by decide +kernel
theorem dX4_stepBack_135 : decode cX4_stepBack 135 = .ok (.invokevirtual 67, 3) := by decide +kernel
theorem dX4_stepBack_138 : decode cX4_stepBack 138 = .ok (.iinc 7 1, 3) := by decide +kernel
theorem dX4_stepBack_141 : decode cX4_stepBack 141 = .ok (.goto (-72), 3) := by decide +kernel
theorem dX4_stepBack_144 : decode cX4_stepBack 144 = .ok (.return_, 1) := by decide +kernel
theorem dX4_opposite_0 : decode cX4_opposite 0 = .ok (.iload_n 0, 1) := by decide +kernel
theorem dX4_opposite_1 : decode cX4_opposite 1 = .ok (.tableswitch 33 0 2 #[27, 29, 31], 27) := by decide +kernel
theorem dX4_opposite_28 : decode cX4_opposite 28 = .ok (.iconst 1, 1) := by decide +kernel
theorem dX4_opposite_29 : decode cX4_opposite 29 = .ok (.ireturn, 1) := by decide +kernel
theorem dX4_opposite_30 : decode cX4_opposite 30 = .ok (.iconst 0, 1) := by decide +kernel
theorem dX4_opposite_31 : decode cX4_opposite 31 = .ok (.ireturn, 1) := by decide +kernel
theorem dX4_opposite_32 : decode cX4_opposite 32 = .ok (.iconst 3, 1) := by decide +kernel
theorem dX4_opposite_33 : decode cX4_opposite 33 = .ok (.ireturn, 1) := by decide +kernel
theorem dX4_opposite_34 : decode cX4_opposite 34 = .ok (.iconst 2, 1) := by decide +kernel
theorem dX4_opposite_35 : decode cX4_opposite 35 = .ok (.ireturn, 1) := by decide +kernel
theorem dX4_reach_0 : decode cX4_reach 0 = .ok (.aload_n 0, 1) := by decide +kernel
theorem dX4_reach_1 : decode cX4_reach 1 = .ok (.getfield 19, 3) := by decide +kernel
theorem dX4_reach_4 : decode cX4_reach 4 = .ok (.iload_n 1, 1) := by decide +kernel
theorem dX4_reach_5 : decode cX4_reach 5 = .ok (.bipush 50, 2) := by decide +kernel
theorem dX4_reach_7 : decode cX4_reach 7 = .ok (.imul, 1) := by decide +kernel
theorem dX4_reach_8 : decode cX4_reach 8 = .ok (.iload_n 2, 1) := by decide +kernel
theorem dX4_reach_9 : decode cX4_reach 9 = .ok (.iadd, 1) := by decide +kernel
theorem dX4_reach_10 : decode cX4_reach 10 = .ok (.iaload, 1) := by decide +kernel
theorem dX4_reach_11 : decode cX4_reach 11 = .ok (.istore 5, 2) := by decide +kernel
theorem dX4_reach_13 : decode cX4_reach 13 = .ok (.iload 5, 2) := by decide +kernel
theorem dX4_reach_15 : decode cX4_reach 15 = .ok (.sipush 1000, 3) := by decide +kernel
theorem dX4_reach_18 : decode cX4_reach 18 = .ok (.if_icmp .ne 44, 3) := by decide +kernel
theorem dX4_reach_21 : decode cX4_reach 21 = .ok (.aload_n 0, 1) := by decide +kernel
theorem dX4_reach_22 : decode cX4_reach 22 = .ok (.getfield 28, 3) := by decide +kernel
theorem dX4_reach_25 : decode cX4_reach 25 = .ok (.bipush 50, 2) := by decide +kernel
theorem dX4_reach_27 : decode cX4_reach 27 = .ok (.if_icmp .ge 35, 3) := by decide +kernel
theorem dX4_reach_30 : decode cX4_reach 30 = .ok (.aload_n 0, 1) := by decide +kernel
theorem dX4_reach_31 : decode cX4_reach 31 = .ok (.getfield 19, 3) := by decide +kernel
theorem dX4_reach_34 : decode cX4_reach 34 = .ok (.iload_n 1, 1) := by decide +kernel
theorem dX4_reach_35 : decode cX4_reach 35 = .ok (.bipush 50, 2) := by decide +kernel
theorem dX4_reach_37 : decode cX4_reach 37 = .ok (.imul, 1) := by decide +kernel
theorem dX4_reach_38 : decode cX4_reach 38 = .ok (.iload_n 2, 1) := by decide +kernel
theorem dX4_reach_39 : decode cX4_reach 39 = .ok (.iadd, 1) := by decide +kernel
theorem dX4_reach_40 : decode cX4_reach 40 = .ok (.iload_n 3, 1) := by decide +kernel
theorem dX4_reach_41 : decode cX4_reach 41 = .ok (.iastore, 1) := by decide +kernel
theorem dX4_reach_42 : decode cX4_reach 42 = .ok (.aload_n 0, 1) := by decide +kernel
theorem dX4_reach_43 : decode cX4_reach 43 = .ok (.getfield 25, 3) := by decide +kernel
theorem dX4_reach_46 : decode cX4_reach 46 = .ok (.aload_n 0, 1) := by decide +kernel
theorem dX4_reach_47 : decode cX4_reach 47 = .ok (.getfield 28, 3) := by decide +kernel
theorem dX4_reach_50 : decode cX4_reach 50 = .ok (.iload_n 2, 1) := by decide +kernel
theorem dX4_reach_51 : decode cX4_reach 51 = .ok (.iastore, 1) := by decide +kernel
theorem dX4_reach_52 : decode cX4_reach 52 = .ok (.aload_n 0, 1) := by decide +kernel
theorem dX4_reach_53 : decode cX4_reach 53 = .ok (.dup, 1) := by decide +kernel
theorem dX4_reach_54 : decode cX4_reach 54 = .ok (.getfield 28, 3) := by decide +kernel
theorem dX4_reach_57 : decode cX4_reach 57 = .ok (.iconst 1, 1) := by decide +kernel
theorem dX4_reach_58 : decode cX4_reach 58 = .ok (.iadd, 1) := by decide +kernel
theorem dX4_reach_59 : decode cX4_reach 59 = .ok (.putfield 28, 3) := by decide +kernel
theorem dX4_reach_62 : decode cX4_reach 62 = .ok (.iload 5, 2) := by decide +kernel
theorem dX4_reach_64 : decode cX4_reach 64 = .ok (.iload_n 3, 1) := by decide +kernel
theorem dX4_reach_65 : decode cX4_reach 65 = .ok (.if_icmp .lt 14, 3) := by decide +kernel
theorem dX4_reach_68 : decode cX4_reach 68 = .ok (.aload_n 0, 1) := by decide +kernel
theorem dX4_reach_69 : decode cX4_reach 69 = .ok (.getfield 22, 3) := by decide +kernel
theorem dX4_reach_72 : decode cX4_reach 72 = .ok (.iload_n 2, 1) := by decide +kernel
theorem dX4_reach_73 : decode cX4_reach 73 = .ok (.dup2, 1) := by decide +kernel
theorem dX4_reach_74 : decode cX4_reach 74 = .ok (.iaload, 1) := by decide +kernel
theorem dX4_reach_75 : decode cX4_reach 75 = .ok (.iload 4, 2) := by decide +kernel
theorem dX4_reach_77 : decode cX4_reach 77 = .ok (.iadd, 1) := by decide +kernel
theorem dX4_reach_78 : decode cX4_reach 78 = .ok (.iastore, 1) := by decide +kernel
theorem dX4_reach_79 : decode cX4_reach 79 = .ok (.return_, 1) := by decide +kernel
theorem dX5_init_0 : decode cX5_init 0 = .ok (.aload_n 0, 1) := by decide +kernel
theorem dX5_init_1 : decode cX5_init 1 = .ok (.invokespecial 3, 3) := by decide +kernel
theorem dX5_init_4 : decode cX5_init 4 = .ok (.aload_n 0, 1) := by decide +kernel
theorem dX5_init_5 : decode cX5_init 5 = .ok (.iconst 3, 1) := by decide +kernel
theorem dX5_init_6 : decode cX5_init 6 = .ok (.newarray .int, 2) := by decide +kernel
theorem dX5_init_8 : decode cX5_init 8 = .ok (.dup, 1) := by decide +kernel
theorem dX5_init_9 : decode cX5_init 9 = .ok (.iconst 0, 1) := by decide +kernel
theorem dX5_init_10 : decode cX5_init 10 = .ok (.iconst 1, 1) := by decide +kernel
theorem dX5_init_11 : decode cX5_init 11 = .ok (.iastore, 1) := by decide +kernel
theorem dX5_init_12 : decode cX5_init 12 = .ok (.dup, 1) := by decide +kernel
theorem dX5_init_13 : decode cX5_init 13 = .ok (.iconst 1, 1) := by decide +kernel
theorem dX5_init_14 : decode cX5_init 14 = .ok (.iconst 0, 1) := by decide +kernel
theorem dX5_init_15 : decode cX5_init 15 = .ok (.iastore, 1) := by decide +kernel
theorem dX5_init_16 : decode cX5_init 16 = .ok (.dup, 1) := by decide +kernel
theorem dX5_init_17 : decode cX5_init 17 = .ok (.iconst 2, 1) := by decide +kernel
theorem dX5_init_18 : decode cX5_init 18 = .ok (.iconst 1, 1) := by decide +kernel
theorem dX5_init_19 : decode cX5_init 19 = .ok (.iastore, 1) := by decide +kernel
theorem dX5_init_20 : decode cX5_init 20 = .ok (.putfield 9, 3) := by decide +kernel
theorem dX5_init_23 : decode cX5_init 23 = .ok (.aload_n 0, 1) := by decide +kernel
theorem dX5_init_24 : decode cX5_init 24 = .ok (.new 15, 3) := by decide +kernel
theorem dX5_init_27 : decode cX5_init 27 = .ok (.dup, 1) := by decide +kernel
theorem dX5_init_28 : decode cX5_init 28 = .ok (.invokespecial 17, 3) := by decide +kernel
theorem dX5_init_31 : decode cX5_init 31 = .ok (.putfield 18, 3) := by decide +kernel
theorem dX5_init_34 : decode cX5_init 34 = .ok (.aload_n 0, 1) := by decide +kernel
theorem dX5_init_35 : decode cX5_init 35 = .ok (.new 22, 3) := by decide +kernel
theorem dX5_init_38 : decode cX5_init 38 = .ok (.dup, 1) := by decide +kernel
theorem dX5_init_39 : decode cX5_init 39 = .ok (.invokespecial 24, 3) := by decide +kernel
theorem dX5_init_42 : decode cX5_init 42 = .ok (.putfield 25, 3) := by decide +kernel
theorem dX5_init_45 : decode cX5_init 45 = .ok (.aload_n 0, 1) := by decide +kernel
theorem dX5_init_46 : decode cX5_init 46 = .ok (.bipush 25, 2) := by decide +kernel
theorem dX5_init_48 : decode cX5_init 48 = .ok (.newarray .int, 2) := by decide +kernel
theorem dX5_init_50 : decode cX5_init 50 = .ok (.putfield 29, 3) := by decide +kernel
theorem dX5_init_53 : decode cX5_init 53 = .ok (.aload_n 0, 1) := by decide +kernel
theorem dX5_init_54 : decode cX5_init 54 = .ok (.bipush 100, 2) := by decide +kernel
theorem dX5_init_56 : decode cX5_init 56 = .ok (.newarray .int, 2) := by decide +kernel
theorem dX5_init_58 : decode cX5_init 58 = .ok (.putfield 32, 3) := by decide +kernel
theorem dX5_init_61 : decode cX5_init 61 = .ok (.aload_n 0, 1) := by decide +kernel
theorem dX5_init_62 : decode cX5_init 62 = .ok (.iconst 0, 1) := by decide +kernel
theorem dX5_init_63 : decode cX5_init 63 = .ok (.putfield 35, 3) := by decide +kernel
theorem dX5_init_66 : decode cX5_init 66 = .ok (.return_, 1) := by decide +kernel
theorem dX5_copyState_0 : decode cX5_copyState 0 = .ok (.aload_n 0, 1) := by decide +kernel
theorem dX5_copyState_1 : decode cX5_copyState 1 = .ok (.ifnull 7, 3) := by decide +kernel
theorem dX5_copyState_4 : decode cX5_copyState 4 = .ok (.aload_n 1, 1) := by decide +kernel
theorem dX5_copyState_5 : decode cX5_copyState 5 = .ok (.ifnonnull 4, 3) := by decide +kernel
theorem dX5_copyState_8 : decode cX5_copyState 8 = .ok (.return_, 1) := by decide +kernel
theorem dX5_copyState_9 : decode cX5_copyState 9 = .ok (.aload_n 0, 1) := by decide +kernel
theorem dX5_copyState_10 : decode cX5_copyState 10 = .ok (.getfield 9, 3) := by decide +kernel
theorem dX5_copyState_13 : decode cX5_copyState 13 = .ok (.iconst 0, 1) := by decide +kernel
theorem dX5_copyState_14 : decode cX5_copyState 14 = .ok (.aload_n 1, 1) := by decide +kernel
theorem dX5_copyState_15 : decode cX5_copyState 15 = .ok (.getfield 9, 3) := by decide +kernel
theorem dX5_copyState_18 : decode cX5_copyState 18 = .ok (.iconst 0, 1) := by decide +kernel
theorem dX5_copyState_19 : decode cX5_copyState 19 = .ok (.iconst 3, 1) := by decide +kernel
theorem dX5_copyState_20 : decode cX5_copyState 20 = .ok (.invokestatic 39, 3) := by decide +kernel
theorem dX5_copyState_23 : decode cX5_copyState 23 = .ok (.aload_n 1, 1) := by decide +kernel
theorem dX5_copyState_24 : decode cX5_copyState 24 = .ok (.getfield 18, 3) := by decide +kernel
theorem dX5_copyState_27 : decode cX5_copyState 27 = .ok (.aload_n 0, 1) := by decide +kernel
theorem dX5_copyState_28 : decode cX5_copyState 28 = .ok (.getfield 18, 3) := by decide +kernel
theorem dX5_copyState_31 : decode cX5_copyState 31 = .ok (.invokevirtual 45, 3) := by decide +kernel
theorem dX5_copyState_34 : decode cX5_copyState 34 = .ok (.aload_n 1, 1) := by decide +kernel
theorem dX5_copyState_35 : decode cX5_copyState 35 = .ok (.getfield 25, 3) := by decide +kernel
theorem dX5_copyState_38 : decode cX5_copyState 38 = .ok (.aload_n 0, 1) := by decide +kernel
theorem dX5_copyState_39 : decode cX5_copyState 39 = .ok (.getfield 25, 3) := by decide +kernel
theorem dX5_copyState_42 : decode cX5_copyState 42 = .ok (.invokevirtual 49, 3) := by decide +kernel
theorem dX5_copyState_45 : decode cX5_copyState 45 = .ok (.aload_n 0, 1) := by decide +kernel
theorem dX5_copyState_46 : decode cX5_copyState 46 = .ok (.getfield 29, 3) := by decide +kernel
theorem dX5_copyState_49 : decode cX5_copyState 49 = .ok (.iconst 0, 1) := by decide +kernel
theorem dX5_copyState_50 : decode cX5_copyState 50 = .ok (.aload_n 1, 1) := by decide +kernel
theorem dX5_copyState_51 : decode cX5_copyState 51 = .ok (.getfield 29, 3) := by decide +kernel
theorem dX5_copyState_54 : decode cX5_copyState 54 = .ok (.iconst 0, 1) := by decide +kernel
theorem dX5_copyState_55 : decode cX5_copyState 55 = .ok (.bipush 25, 2) := by decide +kernel
theorem dX5_copyState_57 : decode cX5_copyState 57 = .ok (.invokestatic 39, 3) := by decide +kernel
theorem dX5_copyState_60 : decode cX5_copyState 60 = .ok (.aload_n 0, 1) := by decide +kernel
theorem dX5_copyState_61 : decode cX5_copyState 61 = .ok (.getfield 32, 3) := by decide +kernel
theorem dX5_copyState_64 : decode cX5_copyState 64 = .ok (.iconst 0, 1) := by decide +kernel
theorem dX5_copyState_65 : decode cX5_copyState 65 = .ok (.aload_n 1, 1) := by decide +kernel
theorem dX5_copyState_66 : decode cX5_copyState 66 = .ok (.getfield 32, 3) := by decide +kernel
theorem dX5_copyState_69 : decode cX5_copyState 69 = .ok (.iconst 0, 1) := by decide +kernel
theorem dX5_copyState_70 : decode cX5_copyState 70 = .ok (.bipush 100, 2) := by decide +kernel
theorem dX5_copyState_72 : decode cX5_copyState 72 = .ok (.invokestatic 39, 3) := by decide +kernel
theorem dX5_copyState_75 : decode cX5_copyState 75 = .ok (.aload_n 1, 1) := by decide +kernel
theorem dX5_copyState_76 : decode cX5_copyState 76 = .ok (.aload_n 0, 1) := by decide +kernel
theorem dX5_copyState_77 : decode cX5_copyState 77 = .ok (.getfield 35, 3) := by decide +kernel
theorem dX5_copyState_80 : decode cX5_copyState 80 = .ok (.putfield 35, 3) := by decide +kernel
theorem dX5_copyState_83 : decode cX5_copyState 83 = .ok (.return_, 1) := by decide +kernel
theorem dX5_hasRoom_0 : decode cX5_hasRoom 0 = .ok (.iload_n 1, 1) := by decide +kernel
theorem dX5_hasRoom_1 : decode cX5_hasRoom 1 = .ok (.ifCond .lt 31, 3) := by decide +kernel
theorem dX5_hasRoom_4 : decode cX5_hasRoom 4 = .ok (.iload_n 1, 1) := by decide +kernel
theorem dX5_hasRoom_5 : decode cX5_hasRoom 5 = .ok (.aload_n 0, 1) := by decide +kernel
theorem dX5_hasRoom_6 : decode cX5_hasRoom 6 = .ok (.getfield 29, 3) := by decide +kernel
theorem dX5_hasRoom_9 : decode cX5_hasRoom 9 = .ok (.arraylength, 1) := by decide +kernel
theorem dX5_hasRoom_10 : decode cX5_hasRoom 10 = .ok (.if_icmp .ge 22, 3) := by decide +kernel
theorem dX5_hasRoom_13 : decode cX5_hasRoom 13 = .ok (.aload_n 0, 1) := by decide +kernel
theorem dX5_hasRoom_14 : decode cX5_hasRoom 14 = .ok (.getfield 29, 3) := by decide +kernel
theorem dX5_hasRoom_17 : decode cX5_hasRoom 17 = .ok (.iload_n 1, 1) := by decide +kernel
theorem dX5_hasRoom_18 : decode cX5_hasRoom 18 = .ok (.iaload, 1) := by decide +kernel
theorem dX5_hasRoom_19 : decode cX5_hasRoom 19 = .ok (.aload_n 0, 1) := by decide +kernel
theorem dX5_hasRoom_20 : decode cX5_hasRoom 20 = .ok (.getfield 9, 3) := by decide +kernel
theorem dX5_hasRoom_23 : decode cX5_hasRoom 23 = .ok (.iconst 2, 1) := by decide +kernel
theorem dX5_hasRoom_24 : decode cX5_hasRoom 24 = .ok (.iaload, 1) := by decide +kernel
theorem dX5_hasRoom_25 : decode cX5_hasRoom 25 = .ok (.if_icmp .ge 7, 3) := by decide +kernel
theorem dX5_hasRoom_28 : decode cX5_hasRoom 28 = .ok (.iconst 1, 1) := by decide +kernel
theorem dX5_hasRoom_29 : decode cX5_hasRoom 29 = .ok (.goto 4, 3) := by decide +kernel
theorem dX5_hasRoom_32 : decode cX5_hasRoom 32 = .ok (.iconst 0, 1) := by decide +kernel
theorem dX5_hasRoom_33 : decode cX5_hasRoom 33 = .ok (.ireturn, 1) := by decide +kernel
theorem dX5_wayLength_0 : decode cX5_wayLength 0 = .ok (.aload_n 1, 1) := by decide +kernel
theorem dX5_wayLength_1 : decode cX5_wayLength 1 = .ok (.iload_n 2, 1) := by decide +kernel
theorem dX5_wayLength_2 : decode cX5_wayLength 2 = .ok (.iconst 0, 1) := by decide +kernel
theorem dX5_wayLength_3 : decode cX5_wayLength 3 = .ok (.iload_n 3, 1) := by decide +kernel
theorem dX5_wayLength_4 : decode cX5_wayLength 4 = .ok (.invokevirtual 53, 3) := by decide +kernel
theorem dX5_wayLength_7 : decode cX5_wayLength 7 = .ok (.istore 4, 2) := by decide +kernel
theorem dX5_wayLength_9 : decode cX5_wayLength 9 = .ok (.iload 4, 2) := by decide +kernel
theorem dX5_wayLength_11 : decode cX5_wayLength 11 = .ok (.aload_n 0, 1) := by decide +kernel
theorem dX5_wayLength_12 : decode cX5_wayLength 12 = .ok (.getfield 18, 3) := by decide +kernel
theorem dX5_wayLength_15 : decode cX5_wayLength 15 = .ok (.iload_n 2, 1) := by decide +kernel
theorem dX5_wayLength_16 : decode cX5_wayLength 16 = .ok (.iload_n 3, 1) := by decide +kernel
theorem dX5_wayLength_17 : decode cX5_wayLength 17 = .ok (.invokevirtual 59, 3) := by decide +kernel
theorem dX5_wayLength_20 : decode cX5_wayLength 20 = .ok (.iconst 2, 1) := by decide +kernel
theorem dX5_wayLength_21 : decode cX5_wayLength 21 = .ok (.aload_n 0, 1) := by decide +kernel
theorem dX5_wayLength_22 : decode cX5_wayLength 22 = .ok (.getfield 9, 3) := by decide +kernel
theorem dX5_wayLength_25 : decode cX5_wayLength 25 = .ok (.iconst 1, 1) := by decide +kernel
theorem dX5_wayLength_26 : decode cX5_wayLength 26 = .ok (.iaload, 1) := by decide +kernel
theorem dX5_wayLength_27 : decode cX5_wayLength 27 = .ok (.imul, 1) := by decide +kernel
theorem dX5_wayLength_28 : decode cX5_wayLength 28 = .ok (.iadd, 1) := by decide +kernel
theorem dX5_wayLength_29 : decode cX5_wayLength 29 = .ok (.if_icmp .gt 8, 3) := by decide +kernel
theorem dX5_wayLength_32 : decode cX5_wayLength 32 = .ok (.iload 4, 2) := by decide +kernel
theorem dX5_wayLength_34 : decode cX5_wayLength 34 = .ok (.goto 5, 3) := by decide +kernel
theorem dX5_wayLength_37 : decode cX5_wayLength 37 = .ok (.bipush (-6), 2) := by decide +kernel
theorem dX5_wayLength_39 : decode cX5_wayLength 39 = .ok (.ireturn, 1) := by decide +kernel
theorem dX5_wayLengthOf_0 : decode cX5_wayLengthOf 0 = .ok (.aload_n 1, 1) := by decide +kernel
theorem dX5_wayLengthOf_1 : decode cX5_wayLengthOf 1 = .ok (.aload_n 0, 1) := by decide +kernel
theorem dX5_wayLengthOf_2 : decode cX5_wayLengthOf 2 = .ok (.getfield 25, 3) := by decide +kernel
theorem dX5_wayLengthOf_5 : decode cX5_wayLengthOf 5 = .ok (.getfield 63, 3) := by decide +kernel
theorem dX5_wayLengthOf_8 : decode cX5_wayLengthOf 8 = .ok (.iload_n 2, 1) := by decide +kernel
theorem dX5_wayLengthOf_9 : decode cX5_wayLengthOf 9 = .ok (.iaload, 1) := by decide +kernel
theorem dX5_wayLengthOf_10 : decode cX5_wayLengthOf 10 = .ok (.aload_n 0, 1) := by decide +kernel
theorem dX5_wayLengthOf_11 : decode cX5_wayLengthOf 11 = .ok (.getfield 25, 3) := by decide +kernel
theorem dX5_wayLengthOf_14 : decode cX5_wayLengthOf 14 = .ok (.getfield 66, 3) := by decide +kernel
theorem dX5_wayLengthOf_17 : decode cX5_wayLengthOf 17 = .ok (.iload_n 2, 1) := by decide +kernel
theorem dX5_wayLengthOf_18 : decode cX5_wayLengthOf 18 = .ok (.iaload, 1) := by decide +kernel
theorem dX5_wayLengthOf_19 : decode cX5_wayLengthOf 19 = .ok (.aload_n 0, 1) := by decide +kernel
theorem dX5_wayLengthOf_20 : decode cX5_wayLengthOf 20 = .ok (.getfield 25, 3) := by decide +kernel
theorem dX5_wayLengthOf_23 : decode cX5_wayLengthOf 23 = .ok (.getfield 69, 3) := by decide +kernel
theorem dX5_wayLengthOf_26 : decode cX5_wayLengthOf 26 = .ok (.iload_n 2, 1) := by decide +kernel
theorem dX5_wayLengthOf_27 : decode cX5_wayLengthOf 27 = .ok (.iaload, 1) := by decide +kernel
theorem dX5_wayLengthOf_28 : decode cX5_wayLengthOf 28 = .ok (.invokevirtual 53, 3) := by decide +kernel
theorem dX5_wayLengthOf_31 : decode cX5_wayLengthOf 31 = .ok (.istore_n 3, 1) := by decide +kernel
theorem dX5_wayLengthOf_32 : decode cX5_wayLengthOf 32 = .ok (.iload_n 3, 1) := by decide +kernel
theorem dX5_wayLengthOf_33 : decode cX5_wayLengthOf 33 = .ok (.aload_n 0, 1) := by decide +kernel
theorem dX5_wayLengthOf_34 : decode cX5_wayLengthOf 34 = .ok (.iload_n 2, 1) := by decide +kernel
theorem dX5_wayLengthOf_35 : decode cX5_wayLengthOf 35 = .ok (.invokevirtual 72, 3) := by decide +kernel
theorem dX5_wayLengthOf_38 : decode cX5_wayLengthOf 38 = .ok (.if_icmp .gt 7, 3) := by decide +kernel
theorem dX5_wayLengthOf_41 : decode cX5_wayLengthOf 41 = .ok (.iload_n 3, 1) := by decide +kernel
theorem dX5_wayLengthOf_42 : decode cX5_wayLengthOf 42 = .ok (.goto 5, 3) := by decide +kernel
theorem dX5_wayLengthOf_45 : decode cX5_wayLengthOf 45 = .ok (.bipush (-6), 2) := by decide +kernel
theorem dX5_wayLengthOf_47 : decode cX5_wayLengthOf 47 = .ok (.ireturn, 1) := by decide +kernel
theorem dX5_mostMoves_0 : decode cX5_mostMoves 0 = .ok (.iconst 0, 1) := by decide +kernel
theorem dX5_mostMoves_1 : decode cX5_mostMoves 1 = .ok (.aload_n 0, 1) := by decide +kernel
theorem dX5_mostMoves_2 : decode cX5_mostMoves 2 = .ok (.getfield 9, 3) := by decide +kernel
theorem dX5_mostMoves_5 : decode cX5_mostMoves 5 = .ok (.iconst 1, 1) := by decide +kernel
theorem dX5_mostMoves_6 : decode cX5_mostMoves 6 = .ok (.iaload, 1) := by decide +kernel
theorem dX5_mostMoves_7 : decode cX5_mostMoves 7 = .ok (.aload_n 0, 1) := by decide +kernel
theorem dX5_mostMoves_8 : decode cX5_mostMoves 8 = .ok (.getfield 25, 3) := by decide +kernel
theorem dX5_mostMoves_11 : decode cX5_mostMoves 11 = .ok (.getfield 76, 3) := by decide +kernel
theorem dX5_mostMoves_14 : decode cX5_mostMoves 14 = .ok (.iload_n 1, 1) := by decide +kernel
theorem dX5_mostMoves_15 : decode cX5_mostMoves 15 = .ok (.iaload, 1) := by decide +kernel
theorem dX5_mostMoves_16 : decode cX5_mostMoves 16 = .ok (.isub, 1) := by decide +kernel
theorem dX5_mostMoves_17 : decode cX5_mostMoves 17 = .ok (.invokestatic 79, 3) := by decide +kernel
theorem dX5_mostMoves_20 : decode cX5_mostMoves 20 = .ok (.istore_n 2, 1) := by decide +kernel
theorem dX5_mostMoves_21 : decode cX5_mostMoves 21 = .ok (.aload_n 0, 1) := by decide +kernel
theorem dX5_mostMoves_22 : decode cX5_mostMoves 22 = .ok (.getfield 18, 3) := by decide +kernel
theorem dX5_mostMoves_25 : decode cX5_mostMoves 25 = .ok (.aload_n 0, 1) := by decide +kernel
theorem dX5_mostMoves_26 : decode cX5_mostMoves 26 = .ok (.getfield 25, 3) := by decide +kernel
theorem dX5_mostMoves_29 : decode cX5_mostMoves 29 = .ok (.getfield 63, 3) := by decide +kernel
theorem dX5_mostMoves_32 : decode cX5_mostMoves 32 = .ok (.iload_n 1, 1) := by decide +kernel
theorem dX5_mostMoves_33 : decode cX5_mostMoves 33 = .ok (.iaload, 1) := by decide +kernel
theorem dX5_mostMoves_34 : decode cX5_mostMoves 34 = .ok (.aload_n 0, 1) := by decide +kernel
theorem dX5_mostMoves_35 : decode cX5_mostMoves 35 = .ok (.getfield 25, 3) := by decide +kernel
theorem dX5_mostMoves_38 : decode cX5_mostMoves 38 = .ok (.getfield 69, 3) := by decide +kernel
theorem dX5_mostMoves_41 : decode cX5_mostMoves 41 = .ok (.iload_n 1, 1) := by decide +kernel
theorem dX5_mostMoves_42 : decode cX5_mostMoves 42 = .ok (.iaload, 1) := by decide +kernel
theorem dX5_mostMoves_43 : decode cX5_mostMoves 43 = .ok (.invokevirtual 59, 3) := by decide +kernel
theorem dX5_mostMoves_46 : decode cX5_mostMoves 46 = .ok (.iconst 2, 1) := by decide +kernel
theorem dX5_mostMoves_47 : decode cX5_mostMoves 47 = .ok (.iload_n 2, 1) := by decide +kernel
theorem dX5_mostMoves_48 : decode cX5_mostMoves 48 = .ok (.imul, 1) := by decide +kernel
theorem dX5_mostMoves_49 : decode cX5_mostMoves 49 = .ok (.iadd, 1) := by decide +kernel
theorem dX5_mostMoves_50 : decode cX5_mostMoves 50 = .ok (.ireturn, 1) := by decide +kernel
theorem dX5_isPossible_0 : decode cX5_isPossible 0 = .ok (.aload_n 1, 1) := by decide +kernel
theorem dX5_isPossible_1 : decode cX5_isPossible 1 = .ok (.aload_n 0, 1) := by decide +kernel
theorem dX5_isPossible_2 : decode cX5_isPossible 2 = .ok (.getfield 25, 3) := by decide +kernel
theorem dX5_isPossible_5 : decode cX5_isPossible 5 = .ok (.getfield 63, 3) := by decide +kernel
theorem dX5_isPossible_8 : decode cX5_isPossible 8 = .ok (.iload_n 2, 1) := by decide +kernel
theorem dX5_isPossible_9 : decode cX5_isPossible 9 = .ok (.iaload, 1) := by decide +kernel
theorem dX5_isPossible_10 : decode cX5_isPossible 10 = .ok (.aload_n 0, 1) := by decide +kernel
theorem dX5_isPossible_11 : decode cX5_isPossible 11 = .ok (.getfield 25, 3) := by decide +kernel
theorem dX5_isPossible_14 : decode cX5_isPossible 14 = .ok (.getfield 66, 3) := by decide +kernel
theorem dX5_isPossible_17 : decode cX5_isPossible 17 = .ok (.iload_n 2, 1) := by decide +kernel
theorem dX5_isPossible_18 : decode cX5_isPossible 18 = .ok (.iaload, 1) := by decide +kernel
theorem dX5_isPossible_19 : decode cX5_isPossible 19 = .ok (.iload_n 3, 1) := by decide +kernel
theorem dX5_isPossible_20 : decode cX5_isPossible 20 = .ok (.aload_n 0, 1) := by decide +kernel
theorem dX5_isPossible_21 : decode cX5_isPossible 21 = .ok (.getfield 25, 3) := by decide +kernel
theorem dX5_isPossible_24 : decode cX5_isPossible 24 = .ok (.getfield 69, 3) := by decide +kernel
theorem dX5_isPossible_27 : decode cX5_isPossible 27 = .ok (.iload_n 2, 1) := by decide +kernel
theorem dX5_isPossible_28 : decode cX5_isPossible 28 = .ok (.iaload, 1) := by decide +kernel
theorem dX5_isPossible_29 : decode cX5_isPossible 29 = .ok (.invokevirtual 84, 3) := by decide +kernel
theorem dX5_isPossible_32 : decode cX5_isPossible 32 = .ok (.aload_n 0, 1) := by decide +kernel
theorem dX5_isPossible_33 : decode cX5_isPossible 33 = .ok (.iload_n 2, 1) := by decide +kernel
theorem dX5_isPossible_34 : decode cX5_isPossible 34 = .ok (.invokevirtual 72, 3) := by decide +kernel
theorem dX5_isPossible_37 : decode cX5_isPossible 37 = .ok (.if_icmp .ge 7, 3) := by decide +kernel
theorem dX5_isPossible_40 : decode cX5_isPossible 40 = .ok (.iconst 1, 1) := by decide +kernel
theorem dX5_isPossible_41 : decode cX5_isPossible 41 = .ok (.goto 4, 3) := by decide +kernel
theorem dX5_isPossible_44 : decode cX5_isPossible 44 = .ok (.iconst 0, 1) := by decide +kernel
theorem dX5_isPossible_45 : decode cX5_isPossible 45 = .ok (.ireturn, 1) := by decide +kernel
theorem dX5_firstSide_0 : decode cX5_firstSide 0 = .ok (.bipush (-6), 2) := by decide +kernel
theorem dX5_firstSide_2 : decode cX5_firstSide 2 = .ok (.istore 4, 2) := by decide +kernel
theorem dX5_firstSide_4 : decode cX5_firstSide 4 = .ok (.aload_n 0, 1) := by decide +kernel
theorem dX5_firstSide_5 : decode cX5_firstSide 5 = .ok (.getfield 25, 3) := by decide +kernel
theorem dX5_firstSide_8 : decode cX5_firstSide 8 = .ok (.getfield 88, 3) := by decide +kernel
theorem dX5_firstSide_11 : decode cX5_firstSide 11 = .ok (.iload_n 2, 1) := by decide +kernel
theorem dX5_firstSide_12 : decode cX5_firstSide 12 = .ok (.iaload, 1) := by decide +kernel
theorem dX5_firstSide_13 : decode cX5_firstSide 13 = .ok (.iconst 2, 1) := by decide +kernel
theorem dX5_firstSide_14 : decode cX5_firstSide 14 = .ok (.if_icmp .ne 6, 3) := by decide +kernel
theorem dX5_firstSide_17 : decode cX5_firstSide 17 = .ok (.iload 4, 2) := by decide +kernel
theorem dX5_firstSide_19 : decode cX5_firstSide 19 = .ok (.ireturn, 1) := by decide +kernel
theorem dX5_firstSide_20 : decode cX5_firstSide 20 = .ok (.aload_n 0, 1) := by decide +kernel
theorem dX5_firstSide_21 : decode cX5_firstSide 21 = .ok (.getfield 25, 3) := by decide +kernel
theorem dX5_firstSide_24 : decode cX5_firstSide 24 = .ok (.getfield 63, 3) := by decide +kernel
theorem dX5_firstSide_27 : decode cX5_firstSide 27 = .ok (.iload_n 2, 1) := by decide +kernel
theorem dX5_firstSide_28 : decode cX5_firstSide 28 = .ok (.iaload, 1) := by decide +kernel
theorem dX5_firstSide_29 : decode cX5_firstSide 29 = .ok (.istore 5, 2) := by decide +kernel
theorem dX5_firstSide_31 : decode cX5_firstSide 31 = .ok (.aload_n 0, 1) := by decide +kernel
theorem dX5_firstSide_32 : decode cX5_firstSide 32 = .ok (.iload_n 2, 1) := by decide +kernel
theorem dX5_firstSide_33 : decode cX5_firstSide 33 = .ok (.invokevirtual 72, 3) := by decide +kernel
theorem dX5_firstSide_36 : decode cX5_firstSide 36 = .ok (.istore 6, 2) := by decide +kernel
theorem dX5_firstSide_38 : decode cX5_firstSide 38 = .ok (.iconst 0, 1) := by decide +kernel
theorem dX5_firstSide_39 : decode cX5_firstSide 39 = .ok (.istore 7, 2) := by decide +kernel
theorem dX5_firstSide_41 : decode cX5_firstSide 41 = .ok (.iload 7, 2) := by decide +kernel
theorem dX5_firstSide_43 : decode cX5_firstSide 43 = .ok (.iconst 4, 1) := by decide +kernel
theorem dX5_firstSide_44 : decode cX5_firstSide 44 = .ok (.if_icmp .ge 72, 3) := by decide +kernel
theorem dX5_firstSide_47 : decode cX5_firstSide 47 = .ok (.aload_n 1, 1) := by decide +kernel
theorem dX5_firstSide_48 : decode cX5_firstSide 48 = .ok (.iload 5, 2) := by decide +kernel
theorem dX5_firstSide_50 : decode cX5_firstSide 50 = .ok (.aload_n 0, 1) := by decide +kernel
theorem dX5_firstSide_51 : decode cX5_firstSide 51 = .ok (.getfield 25, 3) := by decide +kernel
theorem dX5_firstSide_54 : decode cX5_firstSide 54 = .ok (.getfield 66, 3) := by decide +kernel
theorem dX5_firstSide_57 : decode cX5_firstSide 57 = .ok (.iload_n 2, 1) := by decide +kernel
theorem dX5_firstSide_58 : decode cX5_firstSide 58 = .ok (.iaload, 1) := by decide +kernel
theorem dX5_firstSide_59 : decode cX5_firstSide 59 = .ok (.iload 7, 2) := by decide +kernel
theorem dX5_firstSide_61 : decode cX5_firstSide 61 = .ok (.aload_n 0, 1) := by decide +kernel
theorem dX5_firstSide_62 : decode cX5_firstSide 62 = .ok (.getfield 25, 3) := by decide +kernel
theorem dX5_firstSide_65 : decode cX5_firstSide 65 = .ok (.getfield 69, 3) := by decide +kernel
theorem dX5_firstSide_68 : decode cX5_firstSide 68 = .ok (.iload_n 2, 1) := by decide +kernel
theorem dX5_firstSide_69 : decode cX5_firstSide 69 = .ok (.iaload, 1) := by decide +kernel
theorem dX5_firstSide_70 : decode cX5_firstSide 70 = .ok (.invokevirtual 84, 3) := by decide +kernel
theorem dX5_firstSide_73 : decode cX5_firstSide 73 = .ok (.istore 8, 2) := by decide +kernel
theorem dX5_firstSide_75 : decode cX5_firstSide 75 = .ok (.iload 8, 2) := by decide +kernel
theorem dX5_firstSide_77 : decode cX5_firstSide 77 = .ok (.iload 6, 2) := by decide +kernel
theorem dX5_firstSide_79 : decode cX5_firstSide 79 = .ok (.if_icmp .ge 31, 3) := by decide +kernel
theorem dX5_firstSide_82 : decode cX5_firstSide 82 = .ok (.iload_n 3, 1) := by decide +kernel
theorem dX5_firstSide_83 : decode cX5_firstSide 83 = .ok (.ifCond .eq 19, 3) := by decide +kernel
theorem dX5_firstSide_86 : decode cX5_firstSide 86 = .ok (.aload_n 0, 1) := by decide +kernel
theorem dX5_firstSide_87 : decode cX5_firstSide 87 = .ok (.iload_n 2, 1) := by decide +kernel
theorem dX5_firstSide_88 : decode cX5_firstSide 88 = .ok (.aload_n 1, 1) := by decide +kernel
theorem dX5_firstSide_89 : decode cX5_firstSide 89 = .ok (.iload 5, 2) := by decide +kernel
theorem dX5_firstSide_91 : decode cX5_firstSide 91 = .ok (.iload 7, 2) := by decide +kernel
theorem dX5_firstSide_93 : decode cX5_firstSide 93 = .ok (.invokevirtual 91, 3) := by decide +kernel
theorem dX5_firstSide_96 : decode cX5_firstSide 96 = .ok (.invokevirtual 94, 3) := by decide +kernel
theorem dX5_firstSide_99 : decode cX5_firstSide 99 = .ok (.ifCond .eq 11, 3) := by decide +kernel
theorem dX5_firstSide_102 : decode cX5_firstSide 102 = .ok (.iload 7, 2) := by decide +kernel
theorem dX5_firstSide_104 : decode cX5_firstSide 104 = .ok (.istore 4, 2) := by decide +kernel
theorem dX5_firstSide_106 : decode cX5_firstSide 106 = .ok (.iload 8, 2) := by decide +kernel
theorem dX5_firstSide_108 : decode cX5_firstSide 108 = .ok (.istore 6, 2) := by decide +kernel
theorem dX5_firstSide_110 : decode cX5_firstSide 110 = .ok (.iinc 7 1, 3) := by decide +kernel
theorem dX5_firstSide_113 : decode cX5_firstSide 113 = .ok (.goto (-72), 3) := by decide +kernel
theorem dX5_firstSide_116 : decode cX5_firstSide 116 = .ok (.iload 4, 2) := by decide +kernel
theorem dX5_firstSide_118 : decode cX5_firstSide 118 = .ok (.ireturn, 1) := by decide +kernel
theorem dX5_letsIn_0 : decode cX5_letsIn 0 = .ok (.iload_n 2, 1) := by decide +kernel
theorem dX5_letsIn_1 : decode cX5_letsIn 1 = .ok (.aload_n 0, 1) := by decide +kernel
theorem dX5_letsIn_2 : decode cX5_letsIn 2 = .ok (.getfield 25, 3) := by decide +kernel
theorem dX5_letsIn_5 : decode cX5_letsIn 5 = .ok (.getfield 69, 3) := by decide +kernel
theorem dX5_letsIn_8 : decode cX5_letsIn 8 = .ok (.iload_n 1, 1) := by decide +kernel
theorem dX5_letsIn_9 : decode cX5_letsIn 9 = .ok (.iaload, 1) := by decide +kernel
theorem dX5_letsIn_10 : decode cX5_letsIn 10 = .ok (.if_icmp .eq 11, 3) := by decide +kernel
theorem dX5_letsIn_13 : decode cX5_letsIn 13 = .ok (.aload_n 0, 1) := by decide +kernel
theorem dX5_letsIn_14 : decode cX5_letsIn 14 = .ok (.iload_n 2, 1) := by decide +kernel
theorem dX5_letsIn_15 : decode cX5_letsIn 15 = .ok (.invokevirtual 98, 3) := by decide +kernel
theorem dX5_letsIn_18 : decode cX5_letsIn 18 = .ok (.ifCond .eq 7, 3) := by decide +kernel
theorem dX5_letsIn_21 : decode cX5_letsIn 21 = .ok (.iconst 1, 1) := by decide +kernel
theorem dX5_letsIn_22 : decode cX5_letsIn 22 = .ok (.goto 4, 3) := by decide +kernel
theorem dX5_letsIn_25 : decode cX5_letsIn 25 = .ok (.iconst 0, 1) := by decide +kernel
theorem dX5_letsIn_26 : decode cX5_letsIn 26 = .ok (.ireturn, 1) := by decide +kernel
theorem dX5_connectedPairs_0 : decode cX5_connectedPairs 0 = .ok (.iconst 0, 1) := by decide +kernel
theorem dX5_connectedPairs_1 : decode cX5_connectedPairs 1 = .ok (.istore_n 2, 1) := by decide +kernel
theorem dX5_connectedPairs_2 : decode cX5_connectedPairs 2 = .ok (.aload_n 0, 1) := by decide +kernel
theorem dX5_connectedPairs_3 : decode cX5_connectedPairs 3 = .ok (.getfield 18, 3) := by decide +kernel
theorem dX5_connectedPairs_6 : decode cX5_connectedPairs 6 = .ok (.invokevirtual 102, 3) := by decide +kernel
theorem dX5_connectedPairs_9 : decode cX5_connectedPairs 9 = .ok (.istore_n 3, 1) := by decide +kernel
theorem dX5_connectedPairs_10 : decode cX5_connectedPairs 10 = .ok (.iconst 0, 1) := by decide +kernel
theorem dX5_connectedPairs_11 : decode cX5_connectedPairs 11 = .ok (.istore 4, 2) := by decide +kernel
theorem dX5_connectedPairs_13 : decode cX5_connectedPairs 13 = .ok (.iload 4, 2) := by decide +kernel
theorem dX5_connectedPairs_15 : decode cX5_connectedPairs 15 = .ok (.iload_n 3, 1) := by decide +kernel
theorem dX5_connectedPairs_16 : decode cX5_connectedPairs 16 = .ok (.if_icmp .ge 48, 3) := by decide +kernel
theorem dX5_connectedPairs_19 : decode cX5_connectedPairs 19 = .ok (.iconst 0, 1) := by decide +kernel
theorem dX5_connectedPairs_20 : decode cX5_connectedPairs 20 = .ok (.istore 5, 2) := by decide +kernel
theorem dX5_connectedPairs_22 : decode cX5_connectedPairs 22 = .ok (.iload 5, 2) := by decide +kernel
theorem dX5_connectedPairs_24 : decode cX5_connectedPairs 24 = .ok (.iload_n 3, 1) := by decide +kernel
theorem dX5_connectedPairs_25 : decode cX5_connectedPairs 25 = .ok (.if_icmp .ge 33, 3) := by decide +kernel
theorem dX5_connectedPairs_28 : decode cX5_connectedPairs 28 = .ok (.iload 4, 2) := by decide +kernel
theorem dX5_connectedPairs_30 : decode cX5_connectedPairs 30 = .ok (.iload 5, 2) := by decide +kernel
theorem dX5_connectedPairs_32 : decode cX5_connectedPairs 32 = .ok (.if_icmp .eq 20, 3) := by decide +kernel
theorem dX5_connectedPairs_35 : decode cX5_connectedPairs 35 = .ok (.aload_n 0, 1) := by decide +kernel
theorem dX5_connectedPairs_36 : decode cX5_connectedPairs 36 = .ok (.aload_n 1, 1) := by decide +kernel
theorem dX5_connectedPairs_37 : decode cX5_connectedPairs 37 = .ok (.iload 4, 2) := by decide +kernel
theorem dX5_connectedPairs_39 : decode cX5_connectedPairs 39 = .ok (.iload 5, 2) := by decide +kernel
theorem dX5_connectedPairs_41 : decode cX5_connectedPairs 41 = .ok (.invokevirtual 106, 3) := by decide +kernel
theorem dX5_connectedPairs_44 : decode cX5_connectedPairs 44 = .ok (.bipush (-6), 2) := by decide +kernel
theorem dX5_connectedPairs_46 : decode cX5_connectedPairs 46 = .ok (.if_icmp .eq 6, 3) := by decide +kernel
theorem dX5_connectedPairs_49 : decode cX5_connectedPairs 49 = .ok (.iinc 2 1, 3) := by decide +kernel
theorem dX5_connectedPairs_52 : decode cX5_connectedPairs 52 = .ok (.iinc 5 1, 3) := by decide +kernel
theorem dX5_connectedPairs_55 : decode cX5_connectedPairs 55 = .ok (.goto (-33), 3) := by decide +kernel
theorem dX5_connectedPairs_58 : decode cX5_connectedPairs 58 = .ok (.iinc 4 1, 3) := by decide +kernel
theorem dX5_connectedPairs_61 : decode cX5_connectedPairs 61 = .ok (.goto (-48), 3) := by decide +kernel
theorem dX5_connectedPairs_64 : decode cX5_connectedPairs 64 = .ok (.iload_n 2, 1) := by decide +kernel
theorem dX5_connectedPairs_65 : decode cX5_connectedPairs 65 = .ok (.ireturn, 1) := by decide +kernel
theorem dX5_passTicks_0 : decode cX5_passTicks 0 = .ok (.iconst 0, 1) := by decide +kernel
theorem dX5_passTicks_1 : decode cX5_passTicks 1 = .ok (.istore_n 3, 1) := by decide +kernel
theorem dX5_passTicks_2 : decode cX5_passTicks 2 = .ok (.iload_n 3, 1) := by decide +kernel
theorem dX5_passTicks_3 : decode cX5_passTicks 3 = .ok (.iload_n 2, 1) := by decide +kernel
theorem dX5_passTicks_4 : decode cX5_passTicks 4 = .ok (.if_icmp .ge 108, 3) := by decide +kernel
theorem dX5_passTicks_7 : decode cX5_passTicks 7 = .ok (.iconst 0, 1) := by decide +kernel
theorem dX5_passTicks_8 : decode cX5_passTicks 8 = .ok (.istore 4, 2) := by decide +kernel
theorem dX5_passTicks_10 : decode cX5_passTicks 10 = .ok (.iload 4, 2) := by decide +kernel
theorem dX5_passTicks_12 : decode cX5_passTicks 12 = .ok (.aload_n 0, 1) := by decide +kernel
theorem dX5_passTicks_13 : decode cX5_passTicks 13 = .ok (.getfield 25, 3) := by decide +kernel
theorem dX5_passTicks_16 : decode cX5_passTicks 16 = .ok (.getfield 110, 3) := by decide +kernel
theorem dX5_passTicks_19 : decode cX5_passTicks 19 = .ok (.if_icmp .ge 77, 3) := by decide +kernel
theorem dX5_passTicks_22 : decode cX5_passTicks 22 = .ok (.aload_n 0, 1) := by decide +kernel
theorem dX5_passTicks_23 : decode cX5_passTicks 23 = .ok (.getfield 25, 3) := by decide +kernel
theorem dX5_passTicks_26 : decode cX5_passTicks 26 = .ok (.getfield 88, 3) := by decide +kernel
theorem dX5_passTicks_29 : decode cX5_passTicks 29 = .ok (.iload 4, 2) := by decide +kernel
theorem dX5_passTicks_31 : decode cX5_passTicks 31 = .ok (.iaload, 1) := by decide +kernel
theorem dX5_passTicks_32 : decode cX5_passTicks 32 = .ok (.istore 5, 2) := by decide +kernel
theorem dX5_passTicks_34 : decode cX5_passTicks 34 = .ok (.iload 5, 2) := by decide +kernel
theorem dX5_passTicks_36 : decode cX5_passTicks 36 = .ok (.ifCond .ne 12, 3) := by decide +kernel
theorem dX5_passTicks_39 : decode cX5_passTicks 39 = .ok (.aload_n 0, 1) := by decide +kernel
theorem dX5_passTicks_40 : decode cX5_passTicks 40 = .ok (.iload 4, 2) := by decide +kernel
theorem dX5_passTicks_42 : decode cX5_passTicks 42 = .ok (.invokevirtual 113, 3) := by decide +kernel
theorem dX5_passTicks_45 : decode cX5_passTicks 45 = .ok (.ifCond .eq 19, 3) := by decide +kernel
theorem dX5_passTicks_48 : decode cX5_passTicks 48 = .ok (.iload 5, 2) := by decide +kernel
theorem dX5_passTicks_50 : decode cX5_passTicks 50 = .ok (.iconst 1, 1) := by decide +kernel
theorem dX5_passTicks_51 : decode cX5_passTicks 51 = .ok (.if_icmp .ne 17, 3) := by decide +kernel
theorem dX5_passTicks_54 : decode cX5_passTicks 54 = .ok (.aload_n 0, 1) := by decide +kernel
theorem dX5_passTicks_55 : decode cX5_passTicks 55 = .ok (.aload_n 1, 1) := by decide +kernel
theorem dX5_passTicks_56 : decode cX5_passTicks 56 = .ok (.iload 4, 2) := by decide +kernel
theorem dX5_passTicks_58 : decode cX5_passTicks 58 = .ok (.invokevirtual 116, 3) := by decide +kernel
theorem dX5_passTicks_61 : decode cX5_passTicks 61 = .ok (.ifCond .ne 7, 3) := by decide +kernel
theorem dX5_passTicks_64 : decode cX5_passTicks 64 = .ok (.iconst 1, 1) := by decide +kernel
theorem dX5_passTicks_65 : decode cX5_passTicks 65 = .ok (.goto 4, 3) := by decide +kernel
theorem dX5_passTicks_68 : decode cX5_passTicks 68 = .ok (.iconst 0, 1) := by decide +kernel
theorem dX5_passTicks_69 : decode cX5_passTicks 69 = .ok (.istore 6, 2) := by decide +kernel
theorem dX5_passTicks_71 : decode cX5_passTicks 71 = .ok (.iload 6, 2) := by decide +kernel
theorem dX5_passTicks_73 : decode cX5_passTicks 73 = .ok (.ifCond .eq 17, 3) := by decide +kernel
theorem dX5_passTicks_76 : decode cX5_passTicks 76 = .ok (.aload_n 0, 1) := by decide +kernel
theorem dX5_passTicks_77 : decode cX5_passTicks 77 = .ok (.getfield 25, 3) := by decide +kernel
theorem dX5_passTicks_80 : decode cX5_passTicks 80 = .ok (.getfield 120, 3) := by decide +kernel
theorem dX5_passTicks_83 : decode cX5_passTicks 83 = .ok (.iload 4, 2) := by decide +kernel
theorem dX5_passTicks_85 : decode cX5_passTicks 85 = .ok (.dup2, 1) := by decide +kernel
theorem dX5_passTicks_86 : decode cX5_passTicks 86 = .ok (.iaload, 1) := by decide +kernel
theorem dX5_passTicks_87 : decode cX5_passTicks 87 = .ok (.iconst 1, 1) := by decide +kernel
theorem dX5_passTicks_88 : decode cX5_passTicks 88 = .ok (.iadd, 1) := by decide +kernel
theorem dX5_passTicks_89 : decode cX5_passTicks 89 = .ok (.iastore, 1) := by decide +kernel
theorem dX5_passTicks_90 : decode cX5_passTicks 90 = .ok (.iinc 4 1, 3) := by decide +kernel
theorem dX5_passTicks_93 : decode cX5_passTicks 93 = .ok (.goto (-83), 3) := by decide +kernel
theorem dX5_passTicks_96 : decode cX5_passTicks 96 = .ok (.aload_n 0, 1) := by decide +kernel
theorem dX5_passTicks_97 : decode cX5_passTicks 97 = .ok (.dup, 1) := by decide +kernel
theorem dX5_passTicks_98 : decode cX5_passTicks 98 = .ok (.getfield 35, 3) := by decide +kernel
theorem dX5_passTicks_101 : decode cX5_passTicks 101 = .ok (.iconst 1, 1) := by decide +kernel
theorem dX5_passTicks_102 : decode cX5_passTicks 102 = .ok (.iadd, 1) := by decide +kernel
theorem dX5_passTicks_103 : decode cX5_passTicks 103 = .ok (.putfield 35, 3) := by decide +kernel
theorem dX5_passTicks_106 : decode cX5_passTicks 106 = .ok (.iinc 3 1, 3) := by decide +kernel
theorem dX5_passTicks_109 : decode cX5_passTicks 109 = .ok (.goto (-107), 3) := by decide +kernel
theorem dX5_passTicks_112 : decode cX5_passTicks 112 = .ok (.return_, 1) := by decide +kernel
theorem dX5_comesInside_0 : decode cX5_comesInside 0 = .ok (.aload_n 0, 1) := by decide +kernel
theorem dX5_comesInside_1 : decode cX5_comesInside 1 = .ok (.getfield 25, 3) := by decide +kernel
theorem dX5_comesInside_4 : decode cX5_comesInside 4 = .ok (.getfield 63, 3) := by decide +kernel
theorem dX5_comesInside_7 : decode cX5_comesInside 7 = .ok (.iload_n 1, 1) := by decide +kernel
theorem dX5_comesInside_8 : decode cX5_comesInside 8 = .ok (.iaload, 1) := by decide +kernel
theorem dX5_comesInside_9 : decode cX5_comesInside 9 = .ok (.istore_n 2, 1) := by decide +kernel
theorem dX5_comesInside_10 : decode cX5_comesInside 10 = .ok (.aload_n 0, 1) := by decide +kernel
theorem dX5_comesInside_11 : decode cX5_comesInside 11 = .ok (.iload_n 2, 1) := by decide +kernel
theorem dX5_comesInside_12 : decode cX5_comesInside 12 = .ok (.invokevirtual 98, 3) := by decide +kernel
theorem dX5_comesInside_15 : decode cX5_comesInside 15 = .ok (.ifCond .ne 5, 3) := by decide +kernel
theorem dX5_comesInside_18 : decode cX5_comesInside 18 = .ok (.iconst 0, 1) := by decide +kernel
theorem dX5_comesInside_19 : decode cX5_comesInside 19 = .ok (.ireturn, 1) := by decide +kernel
theorem dX5_comesInside_20 : decode cX5_comesInside 20 = .ok (.aload_n 0, 1) := by decide +kernel
theorem dX5_comesInside_21 : decode cX5_comesInside 21 = .ok (.getfield 25, 3) := by decide +kernel
theorem dX5_comesInside_24 : decode cX5_comesInside 24 = .ok (.getfield 88, 3) := by decide +kernel
theorem dX5_comesInside_27 : decode cX5_comesInside 27 = .ok (.iload_n 1, 1) := by decide +kernel
theorem dX5_comesInside_28 : decode cX5_comesInside 28 = .ok (.iconst 1, 1) := by decide +kernel
theorem dX5_comesInside_29 : decode cX5_comesInside 29 = .ok (.iastore, 1) := by decide +kernel
theorem dX5_comesInside_30 : decode cX5_comesInside 30 = .ok (.aload_n 0, 1) := by decide +kernel
theorem dX5_comesInside_31 : decode cX5_comesInside 31 = .ok (.getfield 29, 3) := by decide +kernel
theorem dX5_comesInside_34 : decode cX5_comesInside 34 = .ok (.iload_n 2, 1) := by decide +kernel
theorem dX5_comesInside_35 : decode cX5_comesInside 35 = .ok (.dup2, 1) := by decide +kernel
theorem dX5_comesInside_36 : decode cX5_comesInside 36 = .ok (.iaload, 1) := by decide +kernel
theorem dX5_comesInside_37 : decode cX5_comesInside 37 = .ok (.iconst 1, 1) := by decide +kernel
theorem dX5_comesInside_38 : decode cX5_comesInside 38 = .ok (.iadd, 1) := by decide +kernel
theorem dX5_comesInside_39 : decode cX5_comesInside 39 = .ok (.iastore, 1) := by decide +kernel
theorem dX5_comesInside_40 : decode cX5_comesInside 40 = .ok (.iconst 1, 1) := by decide +kernel
theorem dX5_comesInside_41 : decode cX5_comesInside 41 = .ok (.ireturn, 1) := by decide +kernel
theorem dX5_movesOn_0 : decode cX5_movesOn 0 = .ok (.aload_n 0, 1) := by decide +kernel
theorem dX5_movesOn_1 : decode cX5_movesOn 1 = .ok (.aload_n 1, 1) := by decide +kernel
theorem dX5_movesOn_2 : decode cX5_movesOn 2 = .ok (.iload_n 2, 1) := by decide +kernel
theorem dX5_movesOn_3 : decode cX5_movesOn 3 = .ok (.iconst 1, 1) := by decide +kernel
theorem dX5_movesOn_4 : decode cX5_movesOn 4 = .ok (.invokevirtual 123, 3) := by decide +kernel
theorem dX5_movesOn_7 : decode cX5_movesOn 7 = .ok (.istore_n 3, 1) := by decide +kernel
theorem dX5_movesOn_8 : decode cX5_movesOn 8 = .ok (.iload_n 3, 1) := by decide +kernel
theorem dX5_movesOn_9 : decode cX5_movesOn 9 = .ok (.bipush (-6), 2) := by decide +kernel
theorem dX5_movesOn_11 : decode cX5_movesOn 11 = .ok (.if_icmp .ne 5, 3) := by decide +kernel
theorem dX5_movesOn_14 : decode cX5_movesOn 14 = .ok (.iconst 0, 1) := by decide +kernel
theorem dX5_movesOn_15 : decode cX5_movesOn 15 = .ok (.ireturn, 1) := by decide +kernel
theorem dX5_movesOn_16 : decode cX5_movesOn 16 = .ok (.aload_n 0, 1) := by decide +kernel
theorem dX5_movesOn_17 : decode cX5_movesOn 17 = .ok (.getfield 25, 3) := by decide +kernel
theorem dX5_movesOn_20 : decode cX5_movesOn 20 = .ok (.getfield 63, 3) := by decide +kernel
theorem dX5_movesOn_23 : decode cX5_movesOn 23 = .ok (.iload_n 2, 1) := by decide +kernel
theorem dX5_movesOn_24 : decode cX5_movesOn 24 = .ok (.iaload, 1) := by decide +kernel
theorem dX5_movesOn_25 : decode cX5_movesOn 25 = .ok (.istore 4, 2) := by decide +kernel
theorem dX5_movesOn_27 : decode cX5_movesOn 27 = .ok (.aload_n 0, 1) := by decide +kernel
theorem dX5_movesOn_28 : decode cX5_movesOn 28 = .ok (.getfield 25, 3) := by decide +kernel
theorem dX5_movesOn_31 : decode cX5_movesOn 31 = .ok (.getfield 69, 3) := by decide +kernel
theorem dX5_movesOn_34 : decode cX5_movesOn 34 = .ok (.iload_n 2, 1) := by decide +kernel
theorem dX5_movesOn_35 : decode cX5_movesOn 35 = .ok (.iaload, 1) := by decide +kernel
theorem dX5_movesOn_36 : decode cX5_movesOn 36 = .ok (.istore 5, 2) := by decide +kernel
theorem dX5_movesOn_38 : decode cX5_movesOn 38 = .ok (.aload_n 1, 1) := by decide +kernel
theorem dX5_movesOn_39 : decode cX5_movesOn 39 = .ok (.iload 4, 2) := by decide +kernel
theorem dX5_movesOn_41 : decode cX5_movesOn 41 = .ok (.iload_n 3, 1) := by decide +kernel
theorem dX5_movesOn_42 : decode cX5_movesOn 42 = .ok (.invokevirtual 91, 3) := by decide +kernel
theorem dX5_movesOn_45 : decode cX5_movesOn 45 = .ok (.istore 6, 2) := by decide +kernel
theorem dX5_movesOn_47 : decode cX5_movesOn 47 = .ok (.aload_n 0, 1) := by decide +kernel
theorem dX5_movesOn_48 : decode cX5_movesOn 48 = .ok (.getfield 29, 3) := by decide +kernel
theorem dX5_movesOn_51 : decode cX5_movesOn 51 = .ok (.iload 4, 2) := by decide +kernel
theorem dX5_movesOn_53 : decode cX5_movesOn 53 = .ok (.dup2, 1) := by decide +kernel
theorem dX5_movesOn_54 : decode cX5_movesOn 54 = .ok (.iaload, 1) := by decide +kernel
theorem dX5_movesOn_55 : decode cX5_movesOn 55 = .ok (.iconst 1, 1) := by decide +kernel
theorem dX5_movesOn_56 : decode cX5_movesOn 56 = .ok (.isub, 1) := by decide +kernel
theorem dX5_movesOn_57 : decode cX5_movesOn 57 = .ok (.iastore, 1) := by decide +kernel
theorem dX5_movesOn_58 : decode cX5_movesOn 58 = .ok (.aload_n 0, 1) := by decide +kernel
theorem dX5_movesOn_59 : decode cX5_movesOn 59 = .ok (.getfield 32, 3) := by decide +kernel
theorem dX5_movesOn_62 : decode cX5_movesOn 62 = .ok (.iload 4, 2) := by decide +kernel
theorem dX5_movesOn_64 : decode cX5_movesOn 64 = .ok (.iconst 4, 1) := by decide +kernel
theorem dX5_movesOn_65 : decode cX5_movesOn 65 = .ok (.imul, 1) := by decide +kernel
theorem dX5_movesOn_66 : decode cX5_movesOn 66 = .ok (.iload_n 3, 1) := by decide +kernel
theorem dX5_movesOn_67 : decode cX5_movesOn 67 = .ok (.iadd, 1) := by decide +kernel
theorem dX5_movesOn_68 : decode cX5_movesOn 68 = .ok (.dup2, 1) := by decide +kernel
theorem dX5_movesOn_69 : decode cX5_movesOn 69 = .ok (.iaload, 1) := by decide +kernel
theorem dX5_movesOn_70 : decode cX5_movesOn 70 = .ok (.iconst 1, 1) := by decide +kernel
theorem dX5_movesOn_71 : decode cX5_movesOn 71 = .ok (.iadd, 1) := by decide +kernel
theorem dX5_movesOn_72 : decode cX5_movesOn 72 = .ok (.iastore, 1) := by decide +kernel
theorem dX5_movesOn_73 : decode cX5_movesOn 73 = .ok (.aload_n 0, 1) := by decide +kernel
theorem dX5_movesOn_74 : decode cX5_movesOn 74 = .ok (.getfield 25, 3) := by decide +kernel
theorem dX5_movesOn_77 : decode cX5_movesOn 77 = .ok (.iload_n 2, 1) := by decide +kernel
theorem dX5_movesOn_78 : decode cX5_movesOn 78 = .ok (.iload 6, 2) := by decide +kernel
theorem dX5_movesOn_80 : decode cX5_movesOn 80 = .ok (.iload_n 3, 1) := by decide +kernel
theorem dX5_movesOn_81 : decode cX5_movesOn 81 = .ok (.aload_n 0, 1) := by decide +kernel
theorem dX5_movesOn_82 : decode cX5_movesOn 82 = .ok (.getfield 18, 3) := by decide +kernel
theorem dX5_movesOn_85 : decode cX5_movesOn 85 = .ok (.iload 6, 2) := by decide +kernel
theorem dX5_movesOn_87 : decode cX5_movesOn 87 = .ok (.iload 5, 2) := by decide +kernel
theorem dX5_movesOn_89 : decode cX5_movesOn 89 = .ok (.invokevirtual 59, 3) := by decide +kernel
theorem dX5_movesOn_92 : decode cX5_movesOn 92 = .ok (.aload_n 0, 1) := by decide +kernel
theorem dX5_movesOn_93 : decode cX5_movesOn 93 = .ok (.getfield 18, 3) := by decide +kernel
theorem dX5_movesOn_96 : decode cX5_movesOn 96 = .ok (.iload 4, 2) := by decide +kernel
theorem dX5_movesOn_98 : decode cX5_movesOn 98 = .ok (.iload 5, 2) := by decide +kernel
theorem dX5_movesOn_100 : decode cX5_movesOn 100 = .ok (.invokevirtual 59, 3) := by decide +kernel
theorem dX5_movesOn_103 : decode cX5_movesOn 103 = .ok (.if_icmp .le 7, 3) := by decide +kernel
theorem dX5_movesOn_106 : decode cX5_movesOn 106 = .ok (.iconst 1, 1) := by decide +kernel
theorem dX5_movesOn_107 : decode cX5_movesOn 107 = .ok (.goto 4, 3) := by decide +kernel
theorem dX5_movesOn_110 : decode cX5_movesOn 110 = .ok (.iconst 0, 1) := by decide +kernel
theorem dX5_movesOn_111 : decode cX5_movesOn 111 = .ok (.invokevirtual 127, 3) := by decide +kernel
theorem dX5_movesOn_114 : decode cX5_movesOn 114 = .ok (.iload 6, 2) := by decide +kernel
theorem dX5_movesOn_116 : decode cX5_movesOn 116 = .ok (.iload 5, 2) := by decide +kernel
theorem dX5_movesOn_118 : decode cX5_movesOn 118 = .ok (.if_icmp .ne 29, 3) := by decide +kernel
theorem dX5_movesOn_121 : decode cX5_movesOn 121 = .ok (.aload_n 0, 1) := by decide +kernel
theorem dX5_movesOn_122 : decode cX5_movesOn 122 = .ok (.getfield 25, 3) := by decide +kernel
theorem dX5_movesOn_125 : decode cX5_movesOn 125 = .ok (.getfield 88, 3) := by decide +kernel
theorem dX5_movesOn_128 : decode cX5_movesOn 128 = .ok (.iload_n 2, 1) := by decide +kernel
theorem dX5_movesOn_129 : decode cX5_movesOn 129 = .ok (.iconst 2, 1) := by decide +kernel
theorem dX5_movesOn_130 : decode cX5_movesOn 130 = .ok (.iastore, 1) := by decide +kernel
theorem dX5_movesOn_131 : decode cX5_movesOn 131 = .ok (.aload_n 0, 1) := by decide +kernel
theorem dX5_movesOn_132 : decode cX5_movesOn 132 = .ok (.getfield 25, 3) := by decide +kernel
theorem dX5_movesOn_135 : decode cX5_movesOn 135 = .ok (.getfield 131, 3) := by decide +kernel
theorem dX5_movesOn_138 : decode cX5_movesOn 138 = .ok (.iload_n 2, 1) := by decide +kernel
theorem dX5_movesOn_139 : decode cX5_movesOn 139 = .ok (.aload_n 0, 1) := by decide +kernel
theorem dX5_movesOn_140 : decode cX5_movesOn 140 = .ok (.getfield 35, 3) := by decide +kernel
theorem dX5_movesOn_143 : decode cX5_movesOn 143 = .ok (.iastore, 1) := by decide +kernel
theorem dX5_movesOn_144 : decode cX5_movesOn 144 = .ok (.goto 14, 3) := by decide +kernel
theorem dX5_movesOn_147 : decode cX5_movesOn 147 = .ok (.aload_n 0, 1) := by decide +kernel
theorem dX5_movesOn_148 : decode cX5_movesOn 148 = .ok (.getfield 29, 3) := by decide +kernel
theorem dX5_movesOn_151 : decode cX5_movesOn 151 = .ok (.iload 6, 2) := by decide +kernel
theorem dX5_movesOn_153 : decode cX5_movesOn 153 = .ok (.dup2, 1) := by decide +kernel
theorem dX5_movesOn_154 : decode cX5_movesOn 154 = .ok (.iaload, 1) := by decide +kernel
theorem dX5_movesOn_155 : decode cX5_movesOn 155 = .ok (.iconst 1, 1) := by decide +kernel
theorem dX5_movesOn_156 : decode cX5_movesOn 156 = .ok (.iadd, 1) := by decide +kernel
theorem dX5_movesOn_157 : decode cX5_movesOn 157 = .ok (.iastore, 1) := by decide +kernel
theorem dX5_movesOn_158 : decode cX5_movesOn 158 = .ok (.iconst 1, 1) := by decide +kernel
theorem dX5_movesOn_159 : decode cX5_movesOn 159 = .ok (.ireturn, 1) := by decide +kernel
theorem dX6_init_0 : decode cX6_init 0 = .ok (.aload_n 0, 1) := by decide +kernel
theorem dX6_init_1 : decode cX6_init 1 = .ok (.invokespecial 3, 3) := by decide +kernel
theorem dX6_init_4 : decode cX6_init 4 = .ok (.aload_n 0, 1) := by decide +kernel
theorem dX6_init_5 : decode cX6_init 5 = .ok (.new 9, 3) := by decide +kernel
theorem dX6_init_8 : decode cX6_init 8 = .ok (.dup, 1) := by decide +kernel
theorem dX6_init_9 : decode cX6_init 9 = .ok (.invokespecial 11, 3) := by decide +kernel
theorem dX6_init_12 : decode cX6_init 12 = .ok (.putfield 12, 3) := by decide +kernel
theorem dX6_init_15 : decode cX6_init 15 = .ok (.aload_n 0, 1) := by decide +kernel
theorem dX6_init_16 : decode cX6_init 16 = .ok (.new 16, 3) := by decide +kernel
theorem dX6_init_19 : decode cX6_init 19 = .ok (.dup, 1) := by decide +kernel
theorem dX6_init_20 : decode cX6_init 20 = .ok (.invokespecial 18, 3) := by decide +kernel
theorem dX6_init_23 : decode cX6_init 23 = .ok (.putfield 19, 3) := by decide +kernel
theorem dX6_init_26 : decode cX6_init 26 = .ok (.aload_n 0, 1) := by decide +kernel
theorem dX6_init_27 : decode cX6_init 27 = .ok (.new 9, 3) := by decide +kernel
theorem dX6_init_30 : decode cX6_init 30 = .ok (.dup, 1) := by decide +kernel
theorem dX6_init_31 : decode cX6_init 31 = .ok (.invokespecial 11, 3) := by decide +kernel
theorem dX6_init_34 : decode cX6_init 34 = .ok (.putfield 23, 3) := by decide +kernel
theorem dX6_init_37 : decode cX6_init 37 = .ok (.aload_n 0, 1) := by decide +kernel
theorem dX6_init_38 : decode cX6_init 38 = .ok (.new 16, 3) := by decide +kernel
theorem dX6_init_41 : decode cX6_init 41 = .ok (.dup, 1) := by decide +kernel
theorem dX6_init_42 : decode cX6_init 42 = .ok (.invokespecial 18, 3) := by decide +kernel
theorem dX6_init_45 : decode cX6_init 45 = .ok (.putfield 26, 3) := by decide +kernel
theorem dX6_init_48 : decode cX6_init 48 = .ok (.aload_n 0, 1) := by decide +kernel
theorem dX6_init_49 : decode cX6_init 49 = .ok (.new 29, 3) := by decide +kernel
theorem dX6_init_52 : decode cX6_init 52 = .ok (.dup, 1) := by decide +kernel
theorem dX6_init_53 : decode cX6_init 53 = .ok (.invokespecial 31, 3) := by decide +kernel
theorem dX6_init_56 : decode cX6_init 56 = .ok (.putfield 32, 3) := by decide +kernel
theorem dX6_init_59 : decode cX6_init 59 = .ok (.aload_n 0, 1) := by decide +kernel
theorem dX6_init_60 : decode cX6_init 60 = .ok (.new 36, 3) := by decide +kernel
theorem dX6_init_63 : decode cX6_init 63 = .ok (.dup, 1) := by decide +kernel
theorem dX6_init_64 : decode cX6_init 64 = .ok (.invokespecial 38, 3) := by decide +kernel
theorem dX6_init_67 : decode cX6_init 67 = .ok (.putfield 39, 3) := by decide +kernel
theorem dX6_init_70 : decode cX6_init 70 = .ok (.aload_n 0, 1) := by decide +kernel
theorem dX6_init_71 : decode cX6_init 71 = .ok (.bipush 6, 2) := by decide +kernel
theorem dX6_init_73 : decode cX6_init 73 = .ok (.anewarray 9, 3) := by decide +kernel
theorem dX6_init_76 : decode cX6_init 76 = .ok (.putfield 43, 3) := by decide +kernel
theorem dX6_init_79 : decode cX6_init 79 = .ok (.aload_n 0, 1) := by decide +kernel
theorem dX6_init_80 : decode cX6_init 80 = .ok (.iconst 0, 1) := by decide +kernel
theorem dX6_init_81 : decode cX6_init 81 = .ok (.putfield 47, 3) := by decide +kernel
theorem dX6_init_84 : decode cX6_init 84 = .ok (.aload_n 0, 1) := by decide +kernel
theorem dX6_init_85 : decode cX6_init 85 = .ok (.iconst 2, 1) := by decide +kernel
theorem dX6_init_86 : decode cX6_init 86 = .ok (.anewarray 9, 3) := by decide +kernel
theorem dX6_init_89 : decode cX6_init 89 = .ok (.putfield 51, 3) := by decide +kernel
theorem dX6_init_92 : decode cX6_init 92 = .ok (.aload_n 0, 1) := by decide +kernel
theorem dX6_init_93 : decode cX6_init 93 = .ok (.iconst 2, 1) := by decide +kernel
theorem dX6_init_94 : decode cX6_init 94 = .ok (.newarray .boolean, 2) := by decide +kernel
theorem dX6_init_96 : decode cX6_init 96 = .ok (.putfield 54, 3) := by decide +kernel
theorem dX6_init_99 : decode cX6_init 99 = .ok (.iconst 0, 1) := by decide +kernel
theorem dX6_init_100 : decode cX6_init 100 = .ok (.istore_n 1, 1) := by decide +kernel
theorem dX6_init_101 : decode cX6_init 101 = .ok (.iload_n 1, 1) := by decide +kernel
theorem dX6_init_102 : decode cX6_init 102 = .ok (.bipush 6, 2) := by decide +kernel
theorem dX6_init_104 : decode cX6_init 104 = .ok (.if_icmp .ge 22, 3) := by decide +kernel
theorem dX6_init_107 : decode cX6_init 107 = .ok (.aload_n 0, 1) := by decide +kernel
theorem dX6_init_108 : decode cX6_init 108 = .ok (.getfield 43, 3) := by decide +kernel
theorem dX6_init_111 : decode cX6_init 111 = .ok (.iload_n 1, 1) := by decide +kernel
theorem dX6_init_112 : decode cX6_init 112 = .ok (.new 9, 3) := by decide +kernel
theorem dX6_init_115 : decode cX6_init 115 = .ok (.dup, 1) := by decide +kernel
theorem dX6_init_116 : decode cX6_init 116 = .ok (.invokespecial 11, 3) := by decide +kernel
theorem dX6_init_119 : decode cX6_init 119 = .ok (.aastore, 1) := by decide +kernel
theorem dX6_init_120 : decode cX6_init 120 = .ok (.iinc 1 1, 3) := by decide +kernel
theorem dX6_init_123 : decode cX6_init 123 = .ok (.goto (-22), 3) := by decide +kernel
theorem dX6_init_126 : decode cX6_init 126 = .ok (.iconst 0, 1) := by decide +kernel
theorem dX6_init_127 : decode cX6_init 127 = .ok (.istore_n 1, 1) := by decide +kernel
theorem dX6_init_128 : decode cX6_init 128 = .ok (.iload_n 1, 1) := by decide +kernel
theorem dX6_init_129 : decode cX6_init 129 = .ok (.iconst 2, 1) := by decide +kernel
theorem dX6_init_130 : decode cX6_init 130 = .ok (.if_icmp .ge 22, 3) := by decide +kernel
theorem dX6_init_133 : decode cX6_init 133 = .ok (.aload_n 0, 1) := by decide +kernel
theorem dX6_init_134 : decode cX6_init 134 = .ok (.getfield 51, 3) := by decide +kernel
theorem dX6_init_137 : decode cX6_init 137 = .ok (.iload_n 1, 1) := by decide +kernel
theorem dX6_init_138 : decode cX6_init 138 = .ok (.new 9, 3) := by decide +kernel
theorem dX6_init_141 : decode cX6_init 141 = .ok (.dup, 1) := by decide +kernel
theorem dX6_init_142 : decode cX6_init 142 = .ok (.invokespecial 11, 3) := by decide +kernel
theorem dX6_init_145 : decode cX6_init 145 = .ok (.aastore, 1) := by decide +kernel
theorem dX6_init_146 : decode cX6_init 146 = .ok (.iinc 1 1, 3) := by decide +kernel
theorem dX6_init_149 : decode cX6_init 149 = .ok (.goto (-21), 3) := by decide +kernel
theorem dX6_init_152 : decode cX6_init 152 = .ok (.aload_n 0, 1) := by decide +kernel
theorem dX6_init_153 : decode cX6_init 153 = .ok (.invokevirtual 58, 3) := by decide +kernel
theorem dX6_init_156 : decode cX6_init 156 = .ok (.return_, 1) := by decide +kernel
theorem dX6_set_0 : decode cX6_set 0 = .ok (.iload_n 1, 1) := by decide +kernel
theorem dX6_set_1 : decode cX6_set 1 = .ok (.ifCond .lt 8, 3) := by decide +kernel
theorem dX6_set_4 : decode cX6_set 4 = .ok (.iload_n 1, 1) := by decide +kernel
theorem dX6_set_5 : decode cX6_set 5 = .ok (.iconst 3, 1) := by decide +kernel
theorem dX6_set_6 : decode cX6_set 6 = .ok (.if_icmp .lt 6, 3) := by decide +kernel
theorem dX6_set_9 : decode cX6_set 9 = .ok (.bipush (-2), 2) := by decide +kernel
theorem dX6_set_11 : decode cX6_set 11 = .ok (.ireturn, 1) := by decide +kernel
theorem dX6_set_12 : decode cX6_set 12 = .ok (.iload_n 2, 1) := by decide +kernel
theorem dX6_set_13 : decode cX6_set 13 = .ok (.iload_n 1, 1) := by decide +kernel
theorem dX6_set_14 : decode cX6_set 14 = .ok (.invokestatic 61, 3) := by decide +kernel
theorem dX6_set_17 : decode cX6_set 17 = .ok (.if_icmp .lt 11, 3) := by decide +kernel
theorem dX6_set_20 : decode cX6_set 20 = .ok (.iload_n 2, 1) := by decide +kernel
theorem dX6_set_21 : decode cX6_set 21 = .ok (.iload_n 1, 1) := by decide +kernel
theorem dX6_set_22 : decode cX6_set 22 = .ok (.invokestatic 65, 3) := by decide +kernel
theorem dX6_set_25 : decode cX6_set 25 = .ok (.if_icmp .le 6, 3) := by decide +kernel
theorem dX6_set_28 : decode cX6_set 28 = .ok (.bipush (-2), 2) := by decide +kernel
theorem dX6_set_30 : decode cX6_set 30 = .ok (.ireturn, 1) := by decide +kernel
theorem dX6_set_31 : decode cX6_set 31 = .ok (.aload_n 0, 1) := by decide +kernel
theorem dX6_set_32 : decode cX6_set 32 = .ok (.invokevirtual 68, 3) := by decide +kernel
theorem dX6_set_35 : decode cX6_set 35 = .ok (.aload_n 0, 1) := by decide +kernel
theorem dX6_set_36 : decode cX6_set 36 = .ok (.getfield 12, 3) := by decide +kernel
theorem dX6_set_39 : decode cX6_set 39 = .ok (.getfield 71, 3) := by decide +kernel
theorem dX6_set_42 : decode cX6_set 42 = .ok (.iload_n 1, 1) := by decide +kernel
theorem dX6_set_43 : decode cX6_set 43 = .ok (.iaload, 1) := by decide +kernel
theorem dX6_set_44 : decode cX6_set 44 = .ok (.istore_n 3, 1) := by decide +kernel
theorem dX6_set_45 : decode cX6_set 45 = .ok (.aload_n 0, 1) := by decide +kernel
theorem dX6_set_46 : decode cX6_set 46 = .ok (.getfield 12, 3) := by decide +kernel
theorem dX6_set_49 : decode cX6_set 49 = .ok (.getfield 71, 3) := by decide +kernel
theorem dX6_set_52 : decode cX6_set 52 = .ok (.iload_n 1, 1) := by decide +kernel
theorem dX6_set_53 : decode cX6_set 53 = .ok (.iload_n 2, 1) := by decide +kernel
theorem dX6_set_54 : decode cX6_set 54 = .ok (.iastore, 1) := by decide +kernel
theorem dX6_set_55 : decode cX6_set 55 = .ok (.aload_n 0, 1) := by decide +kernel
theorem dX6_set_56 : decode cX6_set 56 = .ok (.invokevirtual 58, 3) := by decide +kernel
theorem dX6_set_59 : decode cX6_set 59 = .ok (.iload_n 3, 1) := by decide +kernel
theorem dX6_set_60 : decode cX6_set 60 = .ok (.ireturn, 1) := by decide +kernel
theorem dX6_mesh_0 : decode cX6_mesh 0 = .ok (.iload_n 1, 1) := by decide +kernel
theorem dX6_mesh_1 : decode cX6_mesh 1 = .ok (.invokestatic 75, 3) := by decide +kernel
theorem dX6_mesh_4 : decode cX6_mesh 4 = .ok (.ifCond .eq 10, 3) := by decide +kernel
theorem dX6_mesh_7 : decode cX6_mesh 7 = .ok (.iload_n 2, 1) := by decide +kernel
theorem dX6_mesh_8 : decode cX6_mesh 8 = .ok (.invokestatic 75, 3) := by decide +kernel
theorem dX6_mesh_11 : decode cX6_mesh 11 = .ok (.ifCond .ne 6, 3) := by decide +kernel
theorem dX6_mesh_14 : decode cX6_mesh 14 = .ok (.bipush (-2), 2) := by decide +kernel
theorem dX6_mesh_16 : decode cX6_mesh 16 = .ok (.ireturn, 1) := by decide +kernel
theorem dX6_mesh_17 : decode cX6_mesh 17 = .ok (.aload_n 0, 1) := by decide +kernel
theorem dX6_mesh_18 : decode cX6_mesh 18 = .ok (.getfield 12, 3) := by decide +kernel
theorem dX6_mesh_21 : decode cX6_mesh 21 = .ok (.getfield 79, 3) := by decide +kernel
theorem dX6_mesh_24 : decode cX6_mesh 24 = .ok (.getfield 83, 3) := by decide +kernel
theorem dX6_mesh_27 : decode cX6_mesh 27 = .ok (.ifCond .le 6, 3) := by decide +kernel
theorem dX6_mesh_30 : decode cX6_mesh 30 = .ok (.bipush (-5), 2) := by decide +kernel
theorem dX6_mesh_32 : decode cX6_mesh 32 = .ok (.ireturn, 1) := by decide +kernel
theorem dX6_mesh_33 : decode cX6_mesh 33 = .ok (.aload_n 0, 1) := by decide +kernel
theorem dX6_mesh_34 : decode cX6_mesh 34 = .ok (.invokevirtual 68, 3) := by decide +kernel
theorem dX6_mesh_37 : decode cX6_mesh 37 = .ok (.aload_n 0, 1) := by decide +kernel
theorem dX6_mesh_38 : decode cX6_mesh 38 = .ok (.getfield 12, 3) := by decide +kernel
theorem dX6_mesh_41 : decode cX6_mesh 41 = .ok (.getfield 88, 3) := by decide +kernel
theorem dX6_mesh_44 : decode cX6_mesh 44 = .ok (.iload_n 1, 1) := by decide +kernel
theorem dX6_mesh_45 : decode cX6_mesh 45 = .ok (.iload_n 2, 1) := by decide +kernel
theorem dX6_mesh_46 : decode cX6_mesh 46 = .ok (.invokevirtual 92, 3) := by decide +kernel
theorem dX6_mesh_49 : decode cX6_mesh 49 = .ok (.aload_n 0, 1) := by decide +kernel
theorem dX6_mesh_50 : decode cX6_mesh 50 = .ok (.invokevirtual 58, 3) := by decide +kernel
theorem dX6_mesh_53 : decode cX6_mesh 53 = .ok (.aload_n 0, 1) := by decide +kernel
theorem dX6_mesh_54 : decode cX6_mesh 54 = .ok (.getfield 12, 3) := by decide +kernel
theorem dX6_mesh_57 : decode cX6_mesh 57 = .ok (.getfield 88, 3) := by decide +kernel
theorem dX6_mesh_60 : decode cX6_mesh 60 = .ok (.invokevirtual 98, 3) := by decide +kernel
theorem dX6_mesh_63 : decode cX6_mesh 63 = .ok (.ireturn, 1) := by decide +kernel
theorem dX6_link_0 : decode cX6_link 0 = .ok (.aload_n 0, 1) := by decide +kernel
theorem dX6_link_1 : decode cX6_link 1 = .ok (.iload_n 1, 1) := by decide +kernel
theorem dX6_link_2 : decode cX6_link 2 = .ok (.iload_n 2, 1) := by decide +kernel
theorem dX6_link_3 : decode cX6_link 3 = .ok (.iload_n 3, 1) := by decide +kernel
theorem dX6_link_4 : decode cX6_link 4 = .ok (.invokevirtual 102, 3) := by decide +kernel
theorem dX6_link_7 : decode cX6_link 7 = .ok (.istore 4, 2) := by decide +kernel
theorem dX6_link_9 : decode cX6_link 9 = .ok (.iload 4, 2) := by decide +kernel
theorem dX6_link_11 : decode cX6_link 11 = .ok (.ifCond .eq 6, 3) := by decide +kernel
theorem dX6_link_14 : decode cX6_link 14 = .ok (.iload 4, 2) := by decide +kernel
theorem dX6_link_16 : decode cX6_link 16 = .ok (.ireturn, 1) := by decide +kernel
theorem dX6_link_17 : decode cX6_link 17 = .ok (.aload_n 0, 1) := by decide +kernel
theorem dX6_link_18 : decode cX6_link 18 = .ok (.invokevirtual 68, 3) := by decide +kernel
theorem dX6_link_21 : decode cX6_link 21 = .ok (.aload_n 0, 1) := by decide +kernel
theorem dX6_link_22 : decode cX6_link 22 = .ok (.iload_n 1, 1) := by decide +kernel
theorem dX6_link_23 : decode cX6_link 23 = .ok (.iload_n 2, 1) := by decide +kernel
theorem dX6_link_24 : decode cX6_link 24 = .ok (.iload_n 3, 1) := by decide +kernel
theorem dX6_link_25 : decode cX6_link 25 = .ok (.invokevirtual 106, 3) := by decide +kernel
theorem dX6_link_28 : decode cX6_link 28 = .ok (.ireturn, 1) := by decide +kernel
theorem dX6_send_0 : decode cX6_send 0 = .ok (.aload_n 0, 1) := by decide +kernel
theorem dX6_send_1 : decode cX6_send 1 = .ok (.iload_n 1, 1) := by decide +kernel
theorem dX6_send_2 : decode cX6_send 2 = .ok (.iload_n 2, 1) := by decide +kernel
theorem dX6_send_3 : decode cX6_send 3 = .ok (.invokevirtual 109, 3) := by decide +kernel
theorem dX6_send_6 : decode cX6_send 6 = .ok (.istore_n 3, 1) := by decide +kernel
theorem dX6_send_7 : decode cX6_send 7 = .ok (.iload_n 3, 1) := by decide +kernel
theorem dX6_send_8 : decode cX6_send 8 = .ok (.ifCond .eq 5, 3) := by decide +kernel
theorem dX6_send_11 : decode cX6_send 11 = .ok (.iload_n 3, 1) := by decide +kernel
theorem dX6_send_12 : decode cX6_send 12 = .ok (.ireturn, 1) := by decide +kernel
theorem dX6_send_13 : decode cX6_send 13 = .ok (.aload_n 0, 1) := by decide +kernel
theorem dX6_send_14 : decode cX6_send 14 = .ok (.invokevirtual 68, 3) := by decide +kernel
theorem dX6_send_17 : decode cX6_send 17 = .ok (.aload_n 0, 1) := by decide +kernel
theorem dX6_send_18 : decode cX6_send 18 = .ok (.getfield 12, 3) := by decide +kernel
theorem dX6_send_21 : decode cX6_send 21 = .ok (.getfield 79, 3) := by decide +kernel
theorem dX6_send_24 : decode cX6_send 24 = .ok (.iload_n 1, 1) := by decide +kernel
theorem dX6_send_25 : decode cX6_send 25 = .ok (.iload_n 2, 1) := by decide +kernel
theorem dX6_send_26 : decode cX6_send 26 = .ok (.aload_n 0, 1) := by decide +kernel
theorem dX6_send_27 : decode cX6_send 27 = .ok (.getfield 12, 3) := by decide +kernel
theorem dX6_send_30 : decode cX6_send 30 = .ok (.getfield 113, 3) := by decide +kernel
theorem dX6_send_33 : decode cX6_send 33 = .ok (.invokevirtual 116, 3) := by decide +kernel
theorem dX6_send_36 : decode cX6_send 36 = .ok (.ireturn, 1) := by decide +kernel
theorem dX6_ticks_0 : decode cX6_ticks 0 = .ok (.iload_n 1, 1) := by decide +kernel
theorem dX6_ticks_1 : decode cX6_ticks 1 = .ok (.invokestatic 119, 3) := by decide +kernel
theorem dX6_ticks_4 : decode cX6_ticks 4 = .ok (.ifCond .ne 6, 3) := by decide +kernel
theorem dX6_ticks_7 : decode cX6_ticks 7 = .ok (.bipush (-2), 2) := by decide +kernel
theorem dX6_ticks_9 : decode cX6_ticks 9 = .ok (.ireturn, 1) := by decide +kernel
theorem dX6_ticks_10 : decode cX6_ticks 10 = .ok (.aload_n 0, 1) := by decide +kernel
theorem dX6_ticks_11 : decode cX6_ticks 11 = .ok (.invokevirtual 68, 3) := by decide +kernel
theorem dX6_ticks_14 : decode cX6_ticks 14 = .ok (.aload_n 0, 1) := by decide +kernel
theorem dX6_ticks_15 : decode cX6_ticks 15 = .ok (.getfield 12, 3) := by decide +kernel
theorem dX6_ticks_18 : decode cX6_ticks 18 = .ok (.aload_n 0, 1) := by decide +kernel
theorem dX6_ticks_19 : decode cX6_ticks 19 = .ok (.getfield 19, 3) := by decide +kernel
theorem dX6_ticks_22 : decode cX6_ticks 22 = .ok (.iload_n 1, 1) := by decide +kernel
theorem dX6_ticks_23 : decode cX6_ticks 23 = .ok (.invokevirtual 122, 3) := by decide +kernel
theorem dX6_ticks_26 : decode cX6_ticks 26 = .ok (.aload_n 0, 1) := by decide +kernel
theorem dX6_ticks_27 : decode cX6_ticks 27 = .ok (.getfield 12, 3) := by decide +kernel
theorem dX6_ticks_30 : decode cX6_ticks 30 = .ok (.getfield 113, 3) := by decide +kernel
theorem dX6_ticks_33 : decode cX6_ticks 33 = .ok (.ireturn, 1) := by decide +kernel
theorem dX6_ofPacket_0 : decode cX6_ofPacket 0 = .ok (.aload_n 0, 1) := by decide +kernel
theorem dX6_ofPacket_1 : decode cX6_ofPacket 1 = .ok (.getfield 12, 3) := by decide +kernel
theorem dX6_ofPacket_4 : decode cX6_ofPacket 4 = .ok (.getfield 79, 3) := by decide +kernel
theorem dX6_ofPacket_7 : decode cX6_ofPacket 7 = .ok (.astore_n 3, 1) := by decide +kernel
theorem dX6_ofPacket_8 : decode cX6_ofPacket 8 = .ok (.aload_n 3, 1) := by decide +kernel
theorem dX6_ofPacket_9 : decode cX6_ofPacket 9 = .ok (.iload_n 1, 1) := by decide +kernel
theorem dX6_ofPacket_10 : decode cX6_ofPacket 10 = .ok (.invokevirtual 126, 3) := by decide +kernel
theorem dX6_ofPacket_13 : decode cX6_ofPacket 13 = .ok (.ifCond .ne 5, 3) := by decide +kernel
theorem dX6_ofPacket_16 : decode cX6_ofPacket 16 = .ok (.iconst (-1), 1) := by decide +kernel
theorem dX6_ofPacket_17 : decode cX6_ofPacket 17 = .ok (.ireturn, 1) := by decide +kernel
theorem dX6_ofPacket_18 : decode cX6_ofPacket 18 = .ok (.iload_n 2, 1) := by decide +kernel
theorem dX6_ofPacket_19 : decode cX6_ofPacket 19 = .ok (.tableswitch 187 0 12 #[65, 72, 79, 86, 93, 100, 107, 114, 121, 128, 135, 148, 162], 65) := by decide +kernel
theorem dX6_ofPacket_84 : decode cX6_ofPacket 84 = .ok (.aload_n 3, 1) := by decide +kernel
theorem dX6_ofPacket_85 : decode cX6_ofPacket 85 = .ok (.getfield 129, 3) := by decide +kernel
theorem dX6_ofPacket_88 : decode cX6_ofPacket 88 = .ok (.iload_n 1, 1) := by decide +kernel
theorem dX6_ofPacket_89 : decode cX6_ofPacket 89 = .ok (.iaload, 1) := by decide +kernel
theorem dX6_ofPacket_90 : decode cX6_ofPacket 90 = .ok (.ireturn, 1) := by decide +kernel
theorem dX6_ofPacket_91 : decode cX6_ofPacket 91 = .ok (.aload_n 3, 1) := by decide +kernel
theorem dX6_ofPacket_92 : decode cX6_ofPacket 92 = .ok (.getfield 132, 3) := by decide +kernel
theorem dX6_ofPacket_95 : decode cX6_ofPacket 95 = .ok (.iload_n 1, 1) := by decide +kernel
theorem dX6_ofPacket_96 : decode cX6_ofPacket 96 = .ok (.iaload, 1) := by decide +kernel
theorem dX6_ofPacket_97 : decode cX6_ofPacket 97 = .ok (.ireturn, 1) := by decide +kernel
theorem dX6_ofPacket_98 : decode cX6_ofPacket 98 = .ok (.aload_n 3, 1) := by decide +kernel
theorem dX6_ofPacket_99 : decode cX6_ofPacket 99 = .ok (.getfield 135, 3) := by decide +kernel
theorem dX6_ofPacket_102 : decode cX6_ofPacket 102 = .ok (.iload_n 1, 1) := by decide +kernel
theorem dX6_ofPacket_103 : decode cX6_ofPacket 103 = .ok (.iaload, 1) := by decide +kernel
theorem dX6_ofPacket_104 : decode cX6_ofPacket 104 = .ok (.ireturn, 1) := by decide +kernel
theorem dX6_ofPacket_105 : decode cX6_ofPacket 105 = .ok (.aload_n 3, 1) := by decide +kernel
theorem dX6_ofPacket_106 : decode cX6_ofPacket 106 = .ok (.getfield 138, 3) := by decide +kernel
theorem dX6_ofPacket_109 : decode cX6_ofPacket 109 = .ok (.iload_n 1, 1) := by decide +kernel
theorem dX6_ofPacket_110 : decode cX6_ofPacket 110 = .ok (.iaload, 1) := by decide +kernel
theorem dX6_ofPacket_111 : decode cX6_ofPacket 111 = .ok (.ireturn, 1) := by decide +kernel
theorem dX6_ofPacket_112 : decode cX6_ofPacket 112 = .ok (.aload_n 3, 1) := by decide +kernel
theorem dX6_ofPacket_113 : decode cX6_ofPacket 113 = .ok (.getfield 141, 3) := by decide +kernel
theorem dX6_ofPacket_116 : decode cX6_ofPacket 116 = .ok (.iload_n 1, 1) := by decide +kernel
theorem dX6_ofPacket_117 : decode cX6_ofPacket 117 = .ok (.iaload, 1) := by decide +kernel
theorem dX6_ofPacket_118 : decode cX6_ofPacket 118 = .ok (.ireturn, 1) := by decide +kernel
theorem dX6_ofPacket_119 : decode cX6_ofPacket 119 = .ok (.aload_n 3, 1) := by decide +kernel
theorem dX6_ofPacket_120 : decode cX6_ofPacket 120 = .ok (.getfield 144, 3) := by decide +kernel
theorem dX6_ofPacket_123 : decode cX6_ofPacket 123 = .ok (.iload_n 1, 1) := by decide +kernel
theorem dX6_ofPacket_124 : decode cX6_ofPacket 124 = .ok (.iaload, 1) := by decide +kernel
theorem dX6_ofPacket_125 : decode cX6_ofPacket 125 = .ok (.ireturn, 1) := by decide +kernel
theorem dX6_ofPacket_126 : decode cX6_ofPacket 126 = .ok (.aload_n 3, 1) := by decide +kernel
theorem dX6_ofPacket_127 : decode cX6_ofPacket 127 = .ok (.getfield 147, 3) := by decide +kernel
theorem dX6_ofPacket_130 : decode cX6_ofPacket 130 = .ok (.iload_n 1, 1) := by decide +kernel
theorem dX6_ofPacket_131 : decode cX6_ofPacket 131 = .ok (.iaload, 1) := by decide +kernel
theorem dX6_ofPacket_132 : decode cX6_ofPacket 132 = .ok (.ireturn, 1) := by decide +kernel
theorem dX6_ofPacket_133 : decode cX6_ofPacket 133 = .ok (.aload_n 3, 1) := by decide +kernel
theorem dX6_ofPacket_134 : decode cX6_ofPacket 134 = .ok (.getfield 150, 3) := by decide +kernel
theorem dX6_ofPacket_137 : decode cX6_ofPacket 137 = .ok (.iload_n 1, 1) := by decide +kernel
theorem dX6_ofPacket_138 : decode cX6_ofPacket 138 = .ok (.iaload, 1) := by decide +kernel
theorem dX6_ofPacket_139 : decode cX6_ofPacket 139 = .ok (.ireturn, 1) := by decide +kernel
theorem dX6_ofPacket_140 : decode cX6_ofPacket 140 = .ok (.aload_n 3, 1) := by decide +kernel
theorem dX6_ofPacket_141 : decode cX6_ofPacket 141 = .ok (.getfield 153, 3) := by decide +kernel
theorem dX6_ofPacket_144 : decode cX6_ofPacket 144 = .ok (.iload_n 1, 1) := by decide +kernel
theorem dX6_ofPacket_145 : decode cX6_ofPacket 145 = .ok (.iaload, 1) := by decide +kernel
theorem dX6_ofPacket_146 : decode cX6_ofPacket 146 = .ok (.ireturn, 1) := by decide +kernel
theorem dX6_ofPacket_147 : decode cX6_ofPacket 147 = .ok (.aload_n 3, 1) := by decide +kernel
theorem dX6_ofPacket_148 : decode cX6_ofPacket 148 = .ok (.getfield 156, 3) := by decide +kernel
theorem dX6_ofPacket_151 : decode cX6_ofPacket 151 = .ok (.iload_n 1, 1) := by decide +kernel
theorem dX6_ofPacket_152 : decode cX6_ofPacket 152 = .ok (.iaload, 1) := by decide +kernel
theorem dX6_ofPacket_153 : decode cX6_ofPacket 153 = .ok (.ireturn, 1) := by decide +kernel
theorem dX6_ofPacket_154 : decode cX6_ofPacket 154 = .ok (.aload_n 0, 1) := by decide +kernel
theorem dX6_ofPacket_155 : decode cX6_ofPacket 155 = .ok (.getfield 12, 3) := by decide +kernel
theorem dX6_ofPacket_158 : decode cX6_ofPacket 158 = .ok (.aload_n 0, 1) := by decide +kernel
theorem dX6_ofPacket_159 : decode cX6_ofPacket 159 = .ok (.getfield 19, 3) := by decide +kernel
theorem dX6_ofPacket_162 : decode cX6_ofPacket 162 = .ok (.iload_n 1, 1) := by decide +kernel
theorem dX6_ofPacket_163 : decode cX6_ofPacket 163 = .ok (.invokevirtual 159, 3) := by decide +kernel
theorem dX6_ofPacket_166 : decode cX6_ofPacket 166 = .ok (.ireturn, 1) := by decide +kernel
theorem dX6_ofPacket_167 : decode cX6_ofPacket 167 = .ok (.aload_n 0, 1) := by decide +kernel
theorem dX6_ofPacket_168 : decode cX6_ofPacket 168 = .ok (.getfield 12, 3) := by decide +kernel
theorem dX6_ofPacket_171 : decode cX6_ofPacket 171 = .ok (.aload_n 0, 1) := by decide +kernel
theorem dX6_ofPacket_172 : decode cX6_ofPacket 172 = .ok (.getfield 19, 3) := by decide +kernel
theorem dX6_ofPacket_175 : decode cX6_ofPacket 175 = .ok (.iload_n 1, 1) := by decide +kernel
theorem dX6_ofPacket_176 : decode cX6_ofPacket 176 = .ok (.iconst 0, 1) := by decide +kernel
theorem dX6_ofPacket_177 : decode cX6_ofPacket 177 = .ok (.invokevirtual 163, 3) := by decide +kernel
theorem dX6_ofPacket_180 : decode cX6_ofPacket 180 = .ok (.ireturn, 1) := by decide +kernel
theorem dX6_ofPacket_181 : decode cX6_ofPacket 181 = .ok (.aload_n 0, 1) := by decide +kernel
theorem dX6_ofPacket_182 : decode cX6_ofPacket 182 = .ok (.getfield 32, 3) := by decide +kernel
theorem dX6_ofPacket_185 : decode cX6_ofPacket 185 = .ok (.aload_n 0, 1) := by decide +kernel
theorem dX6_ofPacket_186 : decode cX6_ofPacket 186 = .ok (.getfield 12, 3) := by decide +kernel
theorem dX6_ofPacket_189 : decode cX6_ofPacket 189 = .ok (.aload_n 0, 1) := by decide +kernel
theorem dX6_ofPacket_190 : decode cX6_ofPacket 190 = .ok (.getfield 19, 3) := by decide +kernel
theorem dX6_ofPacket_193 : decode cX6_ofPacket 193 = .ok (.iload_n 1, 1) := by decide +kernel
theorem dX6_ofPacket_194 : decode cX6_ofPacket 194 = .ok (.invokevirtual 167, 3) := by decide +kernel
theorem dX6_ofPacket_197 : decode cX6_ofPacket 197 = .ok (.ifCond .eq 7, 3) := by decide +kernel
theorem dX6_ofPacket_200 : decode cX6_ofPacket 200 = .ok (.iconst 1, 1) := by decide +kernel
theorem dX6_ofPacket_201 : decode cX6_ofPacket 201 = .ok (.goto 4, 3) := by decide +kernel
theorem dX6_ofPacket_204 : decode cX6_ofPacket 204 = .ok (.iconst 0, 1) := by decide +kernel
theorem dX6_ofPacket_205 : decode cX6_ofPacket 205 = .ok (.ireturn, 1) := by decide +kernel
theorem dX6_ofPacket_206 : decode cX6_ofPacket 206 = .ok (.bipush (-2), 2) := by decide +kernel
theorem dX6_ofPacket_208 : decode cX6_ofPacket 208 = .ok (.ireturn, 1) := by decide +kernel
theorem dX6_ofBox_0 : decode cX6_ofBox 0 = .ok (.aload_n 0, 1) := by decide +kernel
theorem dX6_ofBox_1 : decode cX6_ofBox 1 = .ok (.getfield 12, 3) := by decide +kernel
theorem dX6_ofBox_4 : decode cX6_ofBox 4 = .ok (.getfield 88, 3) := by decide +kernel
theorem dX6_ofBox_7 : decode cX6_ofBox 7 = .ok (.iload_n 1, 1) := by decide +kernel
theorem dX6_ofBox_8 : decode cX6_ofBox 8 = .ok (.invokevirtual 171, 3) := by decide +kernel
theorem dX6_ofBox_11 : decode cX6_ofBox 11 = .ok (.ifCond .ne 5, 3) := by decide +kernel
theorem dX6_ofBox_14 : decode cX6_ofBox 14 = .ok (.iconst (-1), 1) := by decide +kernel
theorem dX6_ofBox_15 : decode cX6_ofBox 15 = .ok (.ireturn, 1) := by decide +kernel
theorem dX6_ofBox_16 : decode cX6_ofBox 16 = .ok (.iload_n 2, 1) := by decide +kernel
theorem dX6_ofBox_17 : decode cX6_ofBox 17 = .ok (.ifCond .lt 9, 3) := by decide +kernel
theorem dX6_ofBox_20 : decode cX6_ofBox 20 = .ok (.iload_n 2, 1) := by decide +kernel
theorem dX6_ofBox_21 : decode cX6_ofBox 21 = .ok (.bipush 10, 2) := by decide +kernel
theorem dX6_ofBox_23 : decode cX6_ofBox 23 = .ok (.if_icmp .le 6, 3) := by decide +kernel
theorem dX6_ofBox_26 : decode cX6_ofBox 26 = .ok (.bipush (-2), 2) := by decide +kernel
theorem dX6_ofBox_28 : decode cX6_ofBox 28 = .ok (.ireturn, 1) := by decide +kernel
theorem dX6_ofBox_29 : decode cX6_ofBox 29 = .ok (.iload_n 2, 1) := by decide +kernel
theorem dX6_ofBox_30 : decode cX6_ofBox 30 = .ok (.tableswitch 90 0 6 #[42, 55, 68, 81, 81, 81, 81], 42) := by decide +kernel
theorem dX6_ofBox_72 : decode cX6_ofBox 72 = .ok (.aload_n 0, 1) := by decide +kernel
theorem dX6_ofBox_73 : decode cX6_ofBox 73 = .ok (.getfield 12, 3) := by decide +kernel
theorem dX6_ofBox_76 : decode cX6_ofBox 76 = .ok (.getfield 79, 3) := by decide +kernel
theorem dX6_ofBox_79 : decode cX6_ofBox 79 = .ok (.iconst 1, 1) := by decide +kernel
theorem dX6_ofBox_80 : decode cX6_ofBox 80 = .ok (.iload_n 1, 1) := by decide +kernel
theorem dX6_ofBox_81 : decode cX6_ofBox 81 = .ok (.invokevirtual 172, 3) := by decide +kernel
theorem dX6_ofBox_84 : decode cX6_ofBox 84 = .ok (.ireturn, 1) := by decide +kernel
theorem dX6_ofBox_85 : decode cX6_ofBox 85 = .ok (.aload_n 0, 1) := by decide +kernel
theorem dX6_ofBox_86 : decode cX6_ofBox 86 = .ok (.getfield 12, 3) := by decide +kernel
theorem dX6_ofBox_89 : decode cX6_ofBox 89 = .ok (.getfield 79, 3) := by decide +kernel
theorem dX6_ofBox_92 : decode cX6_ofBox 92 = .ok (.iconst 0, 1) := by decide +kernel
theorem dX6_ofBox_93 : decode cX6_ofBox 93 = .ok (.iload_n 1, 1) := by decide +kernel
theorem dX6_ofBox_94 : decode cX6_ofBox 94 = .ok (.invokevirtual 172, 3) := by decide +kernel
theorem dX6_ofBox_97 : decode cX6_ofBox 97 = .ok (.ireturn, 1) := by decide +kernel
theorem dX6_ofBox_98 : decode cX6_ofBox 98 = .ok (.aload_n 0, 1) := by decide +kernel
theorem dX6_ofBox_99 : decode cX6_ofBox 99 = .ok (.getfield 12, 3) := by decide +kernel
theorem dX6_ofBox_102 : decode cX6_ofBox 102 = .ok (.getfield 79, 3) := by decide +kernel
theorem dX6_ofBox_105 : decode cX6_ofBox 105 = .ok (.iconst 2, 1) := by decide +kernel
theorem dX6_ofBox_106 : decode cX6_ofBox 106 = .ok (.iload_n 1, 1) := by decide +kernel
theorem dX6_ofBox_107 : decode cX6_ofBox 107 = .ok (.invokevirtual 172, 3) := by decide +kernel
theorem dX6_ofBox_110 : decode cX6_ofBox 110 = .ok (.ireturn, 1) := by decide +kernel
theorem dX6_ofBox_111 : decode cX6_ofBox 111 = .ok (.aload_n 0, 1) := by decide +kernel
theorem dX6_ofBox_112 : decode cX6_ofBox 112 = .ok (.iload_n 1, 1) := by decide +kernel
theorem dX6_ofBox_113 : decode cX6_ofBox 113 = .ok (.iload_n 2, 1) := by decide +kernel
theorem dX6_ofBox_114 : decode cX6_ofBox 114 = .ok (.iconst 3, 1) := by decide +kernel
theorem dX6_ofBox_115 : decode cX6_ofBox 115 = .ok (.isub, 1) := by decide +kernel
theorem dX6_ofBox_116 : decode cX6_ofBox 116 = .ok (.invokevirtual 175, 3) := by decide +kernel
theorem dX6_ofBox_119 : decode cX6_ofBox 119 = .ok (.ireturn, 1) := by decide +kernel
theorem dX6_ofBox_120 : decode cX6_ofBox 120 = .ok (.aload_n 0, 1) := by decide +kernel
theorem dX6_ofBox_121 : decode cX6_ofBox 121 = .ok (.getfield 12, 3) := by decide +kernel
theorem dX6_ofBox_124 : decode cX6_ofBox 124 = .ok (.getfield 178, 3) := by decide +kernel
theorem dX6_ofBox_127 : decode cX6_ofBox 127 = .ok (.iload_n 1, 1) := by decide +kernel
theorem dX6_ofBox_128 : decode cX6_ofBox 128 = .ok (.iconst 4, 1) := by decide +kernel
theorem dX6_ofBox_129 : decode cX6_ofBox 129 = .ok (.imul, 1) := by decide +kernel
theorem dX6_ofBox_130 : decode cX6_ofBox 130 = .ok (.iload_n 2, 1) := by decide +kernel
theorem dX6_ofBox_131 : decode cX6_ofBox 131 = .ok (.iadd, 1) := by decide +kernel
theorem dX6_ofBox_132 : decode cX6_ofBox 132 = .ok (.bipush 7, 2) := by decide +kernel
theorem dX6_ofBox_134 : decode cX6_ofBox 134 = .ok (.isub, 1) := by decide +kernel
theorem dX6_ofBox_135 : decode cX6_ofBox 135 = .ok (.iaload, 1) := by decide +kernel
theorem dX6_ofBox_136 : decode cX6_ofBox 136 = .ok (.ireturn, 1) := by decide +kernel
theorem dX6_count_0 : decode cX6_count 0 = .ok (.aload_n 0, 1) := by decide +kernel
theorem dX6_count_1 : decode cX6_count 1 = .ok (.getfield 12, 3) := by decide +kernel
theorem dX6_count_4 : decode cX6_count 4 = .ok (.getfield 79, 3) := by decide +kernel
theorem dX6_count_7 : decode cX6_count 7 = .ok (.astore_n 2, 1) := by decide +kernel
theorem dX6_count_8 : decode cX6_count 8 = .ok (.iload_n 1, 1) := by decide +kernel
theorem dX6_count_9 : decode cX6_count 9 = .ok (.tableswitch 233 0 16 #[83, 91, 102, 113, 118, 124, 130, 136, 145, 154, 163, 179, 190, 198, 203, 213, 223], 83) := by decide +kernel
theorem dX6_count_92 : decode cX6_count 92 = .ok (.aload_n 0, 1) := by decide +kernel
theorem dX6_count_93 : decode cX6_count 93 = .ok (.getfield 12, 3) := by decide +kernel
theorem dX6_count_96 : decode cX6_count 96 = .ok (.getfield 113, 3) := by decide +kernel
theorem dX6_count_99 : decode cX6_count 99 = .ok (.ireturn, 1) := by decide +kernel
theorem dX6_count_100 : decode cX6_count 100 = .ok (.aload_n 0, 1) := by decide +kernel
theorem dX6_count_101 : decode cX6_count 101 = .ok (.getfield 12, 3) := by decide +kernel
theorem dX6_count_104 : decode cX6_count 104 = .ok (.getfield 88, 3) := by decide +kernel
theorem dX6_count_107 : decode cX6_count 107 = .ok (.invokevirtual 98, 3) := by decide +kernel
theorem dX6_count_110 : decode cX6_count 110 = .ok (.ireturn, 1) := by decide +kernel
theorem dX6_count_111 : decode cX6_count 111 = .ok (.aload_n 0, 1) := by decide +kernel
theorem dX6_count_112 : decode cX6_count 112 = .ok (.getfield 12, 3) := by decide +kernel
theorem dX6_count_115 : decode cX6_count 115 = .ok (.getfield 88, 3) := by decide +kernel
theorem dX6_count_118 : decode cX6_count 118 = .ok (.getfield 181, 3) := by decide +kernel
theorem dX6_count_121 : decode cX6_count 121 = .ok (.ireturn, 1) := by decide +kernel
theorem dX6_count_122 : decode cX6_count 122 = .ok (.aload_n 2, 1) := by decide +kernel
theorem dX6_count_123 : decode cX6_count 123 = .ok (.getfield 83, 3) := by decide +kernel
theorem dX6_count_126 : decode cX6_count 126 = .ok (.ireturn, 1) := by decide +kernel
theorem dX6_count_127 : decode cX6_count 127 = .ok (.aload_n 2, 1) := by decide +kernel
theorem dX6_count_128 : decode cX6_count 128 = .ok (.iconst 0, 1) := by decide +kernel
theorem dX6_count_129 : decode cX6_count 129 = .ok (.invokevirtual 184, 3) := by decide +kernel
theorem dX6_count_132 : decode cX6_count 132 = .ok (.ireturn, 1) := by decide +kernel
theorem dX6_count_133 : decode cX6_count 133 = .ok (.aload_n 2, 1) := by decide +kernel
theorem dX6_count_134 : decode cX6_count 134 = .ok (.iconst 1, 1) := by decide +kernel
theorem dX6_count_135 : decode cX6_count 135 = .ok (.invokevirtual 184, 3) := by decide +kernel
theorem dX6_count_138 : decode cX6_count 138 = .ok (.ireturn, 1) := by decide +kernel
theorem dX6_count_139 : decode cX6_count 139 = .ok (.aload_n 2, 1) := by decide +kernel
theorem dX6_count_140 : decode cX6_count 140 = .ok (.iconst 2, 1) := by decide +kernel
theorem dX6_count_141 : decode cX6_count 141 = .ok (.invokevirtual 184, 3) := by decide +kernel
theorem dX6_count_144 : decode cX6_count 144 = .ok (.ireturn, 1) := by decide +kernel
theorem dX6_count_145 : decode cX6_count 145 = .ok (.aload_n 2, 1) := by decide +kernel
theorem dX6_count_146 : decode cX6_count 146 = .ok (.aload_n 2, 1) := by decide +kernel
theorem dX6_count_147 : decode cX6_count 147 = .ok (.getfield 141, 3) := by decide +kernel
theorem dX6_count_150 : decode cX6_count 150 = .ok (.invokevirtual 187, 3) := by decide +kernel
theorem dX6_count_153 : decode cX6_count 153 = .ok (.ireturn, 1) := by decide +kernel
theorem dX6_count_154 : decode cX6_count 154 = .ok (.aload_n 2, 1) := by decide +kernel
theorem dX6_count_155 : decode cX6_count 155 = .ok (.aload_n 2, 1) := by decide +kernel
theorem dX6_count_156 : decode cX6_count 156 = .ok (.getfield 144, 3) := by decide +kernel
theorem dX6_count_159 : decode cX6_count 159 = .ok (.invokevirtual 187, 3) := by decide +kernel
theorem dX6_count_162 : decode cX6_count 162 = .ok (.ireturn, 1) := by decide +kernel
theorem dX6_count_163 : decode cX6_count 163 = .ok (.aload_n 2, 1) := by decide +kernel
theorem dX6_count_164 : decode cX6_count 164 = .ok (.aload_n 2, 1) := by decide +kernel
theorem dX6_count_165 : decode cX6_count 165 = .ok (.getfield 147, 3) := by decide +kernel
theorem dX6_count_168 : decode cX6_count 168 = .ok (.invokevirtual 187, 3) := by decide +kernel
theorem dX6_count_171 : decode cX6_count 171 = .ok (.ireturn, 1) := by decide +kernel
theorem dX6_count_172 : decode cX6_count 172 = .ok (.aload_n 0, 1) := by decide +kernel
theorem dX6_count_173 : decode cX6_count 173 = .ok (.getfield 32, 3) := by decide +kernel
theorem dX6_count_176 : decode cX6_count 176 = .ok (.aload_n 0, 1) := by decide +kernel
theorem dX6_count_177 : decode cX6_count 177 = .ok (.getfield 12, 3) := by decide +kernel
theorem dX6_count_180 : decode cX6_count 180 = .ok (.aload_n 0, 1) := by decide +kernel
theorem dX6_count_181 : decode cX6_count 181 = .ok (.getfield 19, 3) := by decide +kernel
theorem dX6_count_184 : decode cX6_count 184 = .ok (.invokevirtual 191, 3) := by decide +kernel
theorem dX6_count_187 : decode cX6_count 187 = .ok (.ireturn, 1) := by decide +kernel
theorem dX6_count_188 : decode cX6_count 188 = .ok (.aload_n 0, 1) := by decide +kernel
theorem dX6_count_189 : decode cX6_count 189 = .ok (.getfield 12, 3) := by decide +kernel
theorem dX6_count_192 : decode cX6_count 192 = .ok (.getfield 88, 3) := by decide +kernel
theorem dX6_count_195 : decode cX6_count 195 = .ok (.invokevirtual 195, 3) := by decide +kernel
theorem dX6_count_198 : decode cX6_count 198 = .ok (.ireturn, 1) := by decide +kernel
theorem dX6_count_199 : decode cX6_count 199 = .ok (.aload_n 0, 1) := by decide +kernel
theorem dX6_count_200 : decode cX6_count 200 = .ok (.getfield 39, 3) := by decide +kernel
theorem dX6_count_203 : decode cX6_count 203 = .ok (.getfield 198, 3) := by decide +kernel
theorem dX6_count_206 : decode cX6_count 206 = .ok (.ireturn, 1) := by decide +kernel
theorem dX6_count_207 : decode cX6_count 207 = .ok (.aload_n 0, 1) := by decide +kernel
theorem dX6_count_208 : decode cX6_count 208 = .ok (.getfield 47, 3) := by decide +kernel
theorem dX6_count_211 : decode cX6_count 211 = .ok (.ireturn, 1) := by decide +kernel
theorem dX6_count_212 : decode cX6_count 212 = .ok (.aload_n 0, 1) := by decide +kernel
theorem dX6_count_213 : decode cX6_count 213 = .ok (.getfield 12, 3) := by decide +kernel
theorem dX6_count_216 : decode cX6_count 216 = .ok (.getfield 71, 3) := by decide +kernel
theorem dX6_count_219 : decode cX6_count 219 = .ok (.iconst 0, 1) := by decide +kernel
theorem dX6_count_220 : decode cX6_count 220 = .ok (.iaload, 1) := by decide +kernel
theorem dX6_count_221 : decode cX6_count 221 = .ok (.ireturn, 1) := by decide +kernel
theorem dX6_count_222 : decode cX6_count 222 = .ok (.aload_n 0, 1) := by decide +kernel
theorem dX6_count_223 : decode cX6_count 223 = .ok (.getfield 12, 3) := by decide +kernel
theorem dX6_count_226 : decode cX6_count 226 = .ok (.getfield 71, 3) := by decide +kernel
theorem dX6_count_229 : decode cX6_count 229 = .ok (.iconst 1, 1) := by decide +kernel
theorem dX6_count_230 : decode cX6_count 230 = .ok (.iaload, 1) := by decide +kernel
theorem dX6_count_231 : decode cX6_count 231 = .ok (.ireturn, 1) := by decide +kernel
theorem dX6_count_232 : decode cX6_count 232 = .ok (.aload_n 0, 1) := by decide +kernel
theorem dX6_count_233 : decode cX6_count 233 = .ok (.getfield 12, 3) := by decide +kernel
theorem dX6_count_236 : decode cX6_count 236 = .ok (.getfield 71, 3) := by decide +kernel
theorem dX6_count_239 : decode cX6_count 239 = .ok (.iconst 2, 1) := by decide +kernel
theorem dX6_count_240 : decode cX6_count 240 = .ok (.iaload, 1) := by decide +kernel
theorem dX6_count_241 : decode cX6_count 241 = .ok (.ireturn, 1) := by decide +kernel
theorem dX6_count_242 : decode cX6_count 242 = .ok (.bipush (-2), 2) := by decide +kernel
theorem dX6_count_244 : decode cX6_count 244 = .ok (.ireturn, 1) := by decide +kernel
theorem dX6_leastWay_0 : decode cX6_leastWay 0 = .ok (.aload_n 0, 1) := by decide +kernel
theorem dX6_leastWay_1 : decode cX6_leastWay 1 = .ok (.getfield 12, 3) := by decide +kernel
theorem dX6_leastWay_4 : decode cX6_leastWay 4 = .ok (.getfield 88, 3) := by decide +kernel
theorem dX6_leastWay_7 : decode cX6_leastWay 7 = .ok (.iload_n 1, 1) := by decide +kernel
theorem dX6_leastWay_8 : decode cX6_leastWay 8 = .ok (.invokevirtual 171, 3) := by decide +kernel
theorem dX6_leastWay_11 : decode cX6_leastWay 11 = .ok (.ifCond .eq 17, 3) := by decide +kernel
theorem dX6_leastWay_14 : decode cX6_leastWay 14 = .ok (.aload_n 0, 1) := by decide +kernel
theorem dX6_leastWay_15 : decode cX6_leastWay 15 = .ok (.getfield 12, 3) := by decide +kernel
theorem dX6_leastWay_18 : decode cX6_leastWay 18 = .ok (.getfield 88, 3) := by decide +kernel
theorem dX6_leastWay_21 : decode cX6_leastWay 21 = .ok (.iload_n 2, 1) := by decide +kernel
theorem dX6_leastWay_22 : decode cX6_leastWay 22 = .ok (.invokevirtual 171, 3) := by decide +kernel
theorem dX6_leastWay_25 : decode cX6_leastWay 25 = .ok (.ifCond .ne 5, 3) := by decide +kernel
theorem dX6_leastWay_28 : decode cX6_leastWay 28 = .ok (.iconst (-1), 1) := by decide +kernel
theorem dX6_leastWay_29 : decode cX6_leastWay 29 = .ok (.ireturn, 1) := by decide +kernel
theorem dX6_leastWay_30 : decode cX6_leastWay 30 = .ok (.aload_n 0, 1) := by decide +kernel
theorem dX6_leastWay_31 : decode cX6_leastWay 31 = .ok (.getfield 12, 3) := by decide +kernel
theorem dX6_leastWay_34 : decode cX6_leastWay 34 = .ok (.aload_n 0, 1) := by decide +kernel
theorem dX6_leastWay_35 : decode cX6_leastWay 35 = .ok (.getfield 19, 3) := by decide +kernel
theorem dX6_leastWay_38 : decode cX6_leastWay 38 = .ok (.iload_n 1, 1) := by decide +kernel
theorem dX6_leastWay_39 : decode cX6_leastWay 39 = .ok (.iload_n 2, 1) := by decide +kernel
theorem dX6_leastWay_40 : decode cX6_leastWay 40 = .ok (.invokevirtual 201, 3) := by decide +kernel
theorem dX6_leastWay_43 : decode cX6_leastWay 43 = .ok (.ireturn, 1) := by decide +kernel
theorem dX6_ways_0 : decode cX6_ways 0 = .ok (.aload_n 0, 1) := by decide +kernel
theorem dX6_ways_1 : decode cX6_ways 1 = .ok (.getfield 12, 3) := by decide +kernel
theorem dX6_ways_4 : decode cX6_ways 4 = .ok (.getfield 88, 3) := by decide +kernel
theorem dX6_ways_7 : decode cX6_ways 7 = .ok (.iload_n 1, 1) := by decide +kernel
theorem dX6_ways_8 : decode cX6_ways 8 = .ok (.invokevirtual 171, 3) := by decide +kernel
theorem dX6_ways_11 : decode cX6_ways 11 = .ok (.ifCond .eq 17, 3) := by decide +kernel
theorem dX6_ways_14 : decode cX6_ways 14 = .ok (.aload_n 0, 1) := by decide +kernel
theorem dX6_ways_15 : decode cX6_ways 15 = .ok (.getfield 12, 3) := by decide +kernel
theorem dX6_ways_18 : decode cX6_ways 18 = .ok (.getfield 88, 3) := by decide +kernel
theorem dX6_ways_21 : decode cX6_ways 21 = .ok (.iload_n 2, 1) := by decide +kernel
theorem dX6_ways_22 : decode cX6_ways 22 = .ok (.invokevirtual 171, 3) := by decide +kernel
theorem dX6_ways_25 : decode cX6_ways 25 = .ok (.ifCond .ne 5, 3) := by decide +kernel
theorem dX6_ways_28 : decode cX6_ways 28 = .ok (.iconst (-1), 1) := by decide +kernel
theorem dX6_ways_29 : decode cX6_ways 29 = .ok (.ireturn, 1) := by decide +kernel
theorem dX6_ways_30 : decode cX6_ways 30 = .ok (.aload_n 0, 1) := by decide +kernel
theorem dX6_ways_31 : decode cX6_ways 31 = .ok (.getfield 12, 3) := by decide +kernel
theorem dX6_ways_34 : decode cX6_ways 34 = .ok (.aload_n 0, 1) := by decide +kernel
theorem dX6_ways_35 : decode cX6_ways 35 = .ok (.getfield 19, 3) := by decide +kernel
theorem dX6_ways_38 : decode cX6_ways 38 = .ok (.iload_n 1, 1) := by decide +kernel
theorem dX6_ways_39 : decode cX6_ways 39 = .ok (.iload_n 2, 1) := by decide +kernel
theorem dX6_ways_40 : decode cX6_ways 40 = .ok (.invokevirtual 201, 3) := by decide +kernel
theorem dX6_ways_43 : decode cX6_ways 43 = .ok (.bipush (-6), 2) := by decide +kernel
theorem dX6_ways_45 : decode cX6_ways 45 = .ok (.if_icmp .ne 5, 3) := by decide +kernel
theorem dX6_ways_48 : decode cX6_ways 48 = .ok (.iconst 0, 1) := by decide +kernel
theorem dX6_ways_49 : decode cX6_ways 49 = .ok (.ireturn, 1) := by decide +kernel
theorem dX6_ways_50 : decode cX6_ways 50 = .ok (.aload_n 0, 1) := by decide +kernel
theorem dX6_ways_51 : decode cX6_ways 51 = .ok (.getfield 19, 3) := by decide +kernel
theorem dX6_ways_54 : decode cX6_ways 54 = .ok (.iload_n 1, 1) := by decide +kernel
theorem dX6_ways_55 : decode cX6_ways 55 = .ok (.iload_n 2, 1) := by decide +kernel
theorem dX6_ways_56 : decode cX6_ways 56 = .ok (.invokevirtual 205, 3) := by decide +kernel
theorem dX6_ways_59 : decode cX6_ways 59 = .ok (.ireturn, 1) := by decide +kernel
theorem dX6_pairs_0 : decode cX6_pairs 0 = .ok (.aload_n 0, 1) := by decide +kernel
theorem dX6_pairs_1 : decode cX6_pairs 1 = .ok (.getfield 12, 3) := by decide +kernel
theorem dX6_pairs_4 : decode cX6_pairs 4 = .ok (.aload_n 0, 1) := by decide +kernel
theorem dX6_pairs_5 : decode cX6_pairs 5 = .ok (.getfield 19, 3) := by decide +kernel
theorem dX6_pairs_8 : decode cX6_pairs 8 = .ok (.invokevirtual 208, 3) := by decide +kernel
theorem dX6_pairs_11 : decode cX6_pairs 11 = .ok (.ireturn, 1) := by decide +kernel
theorem dX6_arrivesIn_0 : decode cX6_arrivesIn 0 = .ok (.aload_n 0, 1) := by decide +kernel
theorem dX6_arrivesIn_1 : decode cX6_arrivesIn 1 = .ok (.getfield 12, 3) := by decide +kernel
theorem dX6_arrivesIn_4 : decode cX6_arrivesIn 4 = .ok (.getfield 79, 3) := by decide +kernel
theorem dX6_arrivesIn_7 : decode cX6_arrivesIn 7 = .ok (.iload_n 1, 1) := by decide +kernel
theorem dX6_arrivesIn_8 : decode cX6_arrivesIn 8 = .ok (.invokevirtual 126, 3) := by decide +kernel
theorem dX6_arrivesIn_11 : decode cX6_arrivesIn 11 = .ok (.ifCond .ne 5, 3) := by decide +kernel
theorem dX6_arrivesIn_14 : decode cX6_arrivesIn 14 = .ok (.iconst (-1), 1) := by decide +kernel
theorem dX6_arrivesIn_15 : decode cX6_arrivesIn 15 = .ok (.ireturn, 1) := by decide +kernel
theorem dX6_arrivesIn_16 : decode cX6_arrivesIn 16 = .ok (.aload_n 0, 1) := by decide +kernel
theorem dX6_arrivesIn_17 : decode cX6_arrivesIn 17 = .ok (.getfield 12, 3) := by decide +kernel
theorem dX6_arrivesIn_20 : decode cX6_arrivesIn 20 = .ok (.aload_n 0, 1) := by decide +kernel
theorem dX6_arrivesIn_21 : decode cX6_arrivesIn 21 = .ok (.getfield 23, 3) := by decide +kernel
theorem dX6_arrivesIn_24 : decode cX6_arrivesIn 24 = .ok (.invokestatic 224, 3) := by decide +kernel
theorem dX6_arrivesIn_27 : decode cX6_arrivesIn 27 = .ok (.iconst 0, 1) := by decide +kernel
theorem dX6_arrivesIn_28 : decode cX6_arrivesIn 28 = .ok (.istore_n 2, 1) := by decide +kernel
theorem dX6_arrivesIn_29 : decode cX6_arrivesIn 29 = .ok (.iload_n 2, 1) := by decide +kernel
theorem dX6_arrivesIn_30 : decode cX6_arrivesIn 30 = .ok (.sipush 300, 3) := by decide +kernel
theorem dX6_arrivesIn_33 : decode cX6_arrivesIn 33 = .ok (.if_icmp .gt 39, 3) := by decide +kernel
theorem dX6_arrivesIn_36 : decode cX6_arrivesIn 36 = .ok (.aload_n 0, 1) := by decide +kernel
theorem dX6_arrivesIn_37 : decode cX6_arrivesIn 37 = .ok (.getfield 23, 3) := by decide +kernel
theorem dX6_arrivesIn_40 : decode cX6_arrivesIn 40 = .ok (.getfield 79, 3) := by decide +kernel
theorem dX6_arrivesIn_43 : decode cX6_arrivesIn 43 = .ok (.getfield 135, 3) := by decide +kernel
theorem dX6_arrivesIn_46 : decode cX6_arrivesIn 46 = .ok (.iload_n 1, 1) := by decide +kernel
theorem dX6_arrivesIn_47 : decode cX6_arrivesIn 47 = .ok (.iaload, 1) := by decide +kernel
theorem dX6_arrivesIn_48 : decode cX6_arrivesIn 48 = .ok (.iconst 2, 1) := by decide +kernel
theorem dX6_arrivesIn_49 : decode cX6_arrivesIn 49 = .ok (.if_icmp .ne 5, 3) := by decide +kernel
theorem dX6_arrivesIn_52 : decode cX6_arrivesIn 52 = .ok (.iload_n 2, 1) := by decide +kernel
theorem dX6_arrivesIn_53 : decode cX6_arrivesIn 53 = .ok (.ireturn, 1) := by decide +kernel
theorem dX6_arrivesIn_54 : decode cX6_arrivesIn 54 = .ok (.aload_n 0, 1) := by decide +kernel
theorem dX6_arrivesIn_55 : decode cX6_arrivesIn 55 = .ok (.getfield 23, 3) := by decide +kernel
theorem dX6_arrivesIn_58 : decode cX6_arrivesIn 58 = .ok (.aload_n 0, 1) := by decide +kernel
theorem dX6_arrivesIn_59 : decode cX6_arrivesIn 59 = .ok (.getfield 19, 3) := by decide +kernel
theorem dX6_arrivesIn_62 : decode cX6_arrivesIn 62 = .ok (.iconst 1, 1) := by decide +kernel
theorem dX6_arrivesIn_63 : decode cX6_arrivesIn 63 = .ok (.invokevirtual 122, 3) := by decide +kernel
theorem dX6_arrivesIn_66 : decode cX6_arrivesIn 66 = .ok (.iinc 2 1, 3) := by decide +kernel
theorem dX6_arrivesIn_69 : decode cX6_arrivesIn 69 = .ok (.goto (-40), 3) := by decide +kernel
theorem dX6_arrivesIn_72 : decode cX6_arrivesIn 72 = .ok (.bipush (-6), 2) := by decide +kernel
theorem dX6_arrivesIn_74 : decode cX6_arrivesIn 74 = .ok (.ireturn, 1) := by decide +kernel
theorem dX6_leastOfSetting_0 : decode cX6_leastOfSetting 0 = .ok (.iload_n 0, 1) := by decide +kernel
theorem dX6_leastOfSetting_1 : decode cX6_leastOfSetting 1 = .ok (.iconst 2, 1) := by decide +kernel
theorem dX6_leastOfSetting_2 : decode cX6_leastOfSetting 2 = .ok (.if_icmp .ne 7, 3) := by decide +kernel
theorem dX6_leastOfSetting_5 : decode cX6_leastOfSetting 5 = .ok (.iconst 1, 1) := by decide +kernel
theorem dX6_leastOfSetting_6 : decode cX6_leastOfSetting 6 = .ok (.goto 4, 3) := by decide +kernel
theorem dX6_leastOfSetting_9 : decode cX6_leastOfSetting 9 = .ok (.iconst 0, 1) := by decide +kernel
theorem dX6_leastOfSetting_10 : decode cX6_leastOfSetting 10 = .ok (.ireturn, 1) := by decide +kernel
theorem dX6_mostOfSetting_0 : decode cX6_mostOfSetting 0 = .ok (.iload_n 0, 1) := by decide +kernel
theorem dX6_mostOfSetting_1 : decode cX6_mostOfSetting 1 = .ok (.ifCond .ne 7, 3) := by decide +kernel
theorem dX6_mostOfSetting_4 : decode cX6_mostOfSetting 4 = .ok (.iconst 1, 1) := by decide +kernel
theorem dX6_mostOfSetting_5 : decode cX6_mostOfSetting 5 = .ok (.goto 4, 3) := by decide +kernel
theorem dX6_mostOfSetting_8 : decode cX6_mostOfSetting 8 = .ok (.iconst 4, 1) := by decide +kernel
theorem dX6_mostOfSetting_9 : decode cX6_mostOfSetting 9 = .ok (.ireturn, 1) := by decide +kernel
theorem dX6_isLine_0 : decode cX6_isLine 0 = .ok (.iload_n 0, 1) := by decide +kernel
theorem dX6_isLine_1 : decode cX6_isLine 1 = .ok (.iconst 2, 1) := by decide +kernel
theorem dX6_isLine_2 : decode cX6_isLine 2 = .ok (.if_icmp .lt 12, 3) := by decide +kernel
theorem dX6_isLine_5 : decode cX6_isLine 5 = .ok (.iload_n 0, 1) := by decide +kernel
theorem dX6_isLine_6 : decode cX6_isLine 6 = .ok (.iconst 5, 1) := by decide +kernel
theorem dX6_isLine_7 : decode cX6_isLine 7 = .ok (.if_icmp .gt 7, 3) := by decide +kernel
theorem dX6_isLine_10 : decode cX6_isLine 10 = .ok (.iconst 1, 1) := by decide +kernel
theorem dX6_isLine_11 : decode cX6_isLine 11 = .ok (.goto 4, 3) := by decide +kernel
theorem dX6_isLine_14 : decode cX6_isLine 14 = .ok (.iconst 0, 1) := by decide +kernel
theorem dX6_isLine_15 : decode cX6_isLine 15 = .ok (.ireturn, 1) := by decide +kernel
theorem dX6_isSide_0 : decode cX6_isSide 0 = .ok (.iload_n 0, 1) := by decide +kernel
theorem dX6_isSide_1 : decode cX6_isSide 1 = .ok (.ifCond .lt 12, 3) := by decide +kernel
theorem dX6_isSide_4 : decode cX6_isSide 4 = .ok (.iload_n 0, 1) := by decide +kernel
theorem dX6_isSide_5 : decode cX6_isSide 5 = .ok (.iconst 4, 1) := by decide +kernel
theorem dX6_isSide_6 : decode cX6_isSide 6 = .ok (.if_icmp .ge 7, 3) := by decide +kernel
theorem dX6_isSide_9 : decode cX6_isSide 9 = .ok (.iconst 1, 1) := by decide +kernel
theorem dX6_isSide_10 : decode cX6_isSide 10 = .ok (.goto 4, 3) := by decide +kernel
theorem dX6_isSide_13 : decode cX6_isSide 13 = .ok (.iconst 0, 1) := by decide +kernel
theorem dX6_isSide_14 : decode cX6_isSide 14 = .ok (.ireturn, 1) := by decide +kernel
theorem dX6_isTicks_0 : decode cX6_isTicks 0 = .ok (.iload_n 0, 1) := by decide +kernel
theorem dX6_isTicks_1 : decode cX6_isTicks 1 = .ok (.iconst 1, 1) := by decide +kernel
theorem dX6_isTicks_2 : decode cX6_isTicks 2 = .ok (.if_icmp .lt 14, 3) := by decide +kernel
theorem dX6_isTicks_5 : decode cX6_isTicks 5 = .ok (.iload_n 0, 1) := by decide +kernel
theorem dX6_isTicks_6 : decode cX6_isTicks 6 = .ok (.sipush 300, 3) := by decide +kernel
theorem dX6_isTicks_9 : decode cX6_isTicks 9 = .ok (.if_icmp .gt 7, 3) := by decide +kernel
theorem dX6_isTicks_12 : decode cX6_isTicks 12 = .ok (.iconst 1, 1) := by decide +kernel
theorem dX6_isTicks_13 : decode cX6_isTicks 13 = .ok (.goto 4, 3) := by decide +kernel
theorem dX6_isTicks_16 : decode cX6_isTicks 16 = .ok (.iconst 0, 1) := by decide +kernel
theorem dX6_isTicks_17 : decode cX6_isTicks 17 = .ok (.ireturn, 1) := by decide +kernel
theorem dX6_linkError_0 : decode cX6_linkError 0 = .ok (.aload_n 0, 1) := by decide +kernel
theorem dX6_linkError_1 : decode cX6_linkError 1 = .ok (.getfield 12, 3) := by decide +kernel
theorem dX6_linkError_4 : decode cX6_linkError 4 = .ok (.getfield 88, 3) := by decide +kernel
theorem dX6_linkError_7 : decode cX6_linkError 7 = .ok (.iload_n 1, 1) := by decide +kernel
theorem dX6_linkError_8 : decode cX6_linkError 8 = .ok (.invokevirtual 171, 3) := by decide +kernel
theorem dX6_linkError_11 : decode cX6_linkError 11 = .ok (.ifCond .ne 5, 3) := by decide +kernel
theorem dX6_linkError_14 : decode cX6_linkError 14 = .ok (.iconst (-1), 1) := by decide +kernel
theorem dX6_linkError_15 : decode cX6_linkError 15 = .ok (.ireturn, 1) := by decide +kernel
theorem dX6_linkError_16 : decode cX6_linkError 16 = .ok (.iload_n 2, 1) := by decide +kernel
theorem dX6_linkError_17 : decode cX6_linkError 17 = .ok (.invokestatic 251, 3) := by decide +kernel
theorem dX6_linkError_20 : decode cX6_linkError 20 = .ok (.ifCond .eq 21, 3) := by decide +kernel
theorem dX6_linkError_23 : decode cX6_linkError 23 = .ok (.aload_n 0, 1) := by decide +kernel
theorem dX6_linkError_24 : decode cX6_linkError 24 = .ok (.getfield 12, 3) := by decide +kernel
theorem dX6_linkError_27 : decode cX6_linkError 27 = .ok (.getfield 88, 3) := by decide +kernel
theorem dX6_linkError_30 : decode cX6_linkError 30 = .ok (.iload_n 1, 1) := by decide +kernel
theorem dX6_linkError_31 : decode cX6_linkError 31 = .ok (.iload_n 2, 1) := by decide +kernel
theorem dX6_linkError_32 : decode cX6_linkError 32 = .ok (.invokevirtual 254, 3) := by decide +kernel
theorem dX6_linkError_35 : decode cX6_linkError 35 = .ok (.iconst (-1), 1) := by decide +kernel
theorem dX6_linkError_36 : decode cX6_linkError 36 = .ok (.if_icmp .ne 5, 3) := by decide +kernel
theorem dX6_linkError_39 : decode cX6_linkError 39 = .ok (.iconst (-1), 1) := by decide +kernel
theorem dX6_linkError_40 : decode cX6_linkError 40 = .ok (.ireturn, 1) := by decide +kernel
theorem dX6_linkError_41 : decode cX6_linkError 41 = .ok (.iload_n 2, 1) := by decide +kernel
theorem dX6_linkError_42 : decode cX6_linkError 42 = .ok (.invokestatic 251, 3) := by decide +kernel
theorem dX6_linkError_45 : decode cX6_linkError 45 = .ok (.ifCond .eq 16, 3) := by decide +kernel
theorem dX6_linkError_48 : decode cX6_linkError 48 = .ok (.iload_n 3, 1) := by decide +kernel
theorem dX6_linkError_49 : decode cX6_linkError 49 = .ok (.ifCond .eq 8, 3) := by decide +kernel
theorem dX6_linkError_52 : decode cX6_linkError 52 = .ok (.iload_n 3, 1) := by decide +kernel
theorem dX6_linkError_53 : decode cX6_linkError 53 = .ok (.iconst 1, 1) := by decide +kernel
theorem dX6_linkError_54 : decode cX6_linkError 54 = .ok (.if_icmp .ne 7, 3) := by decide +kernel
theorem dX6_linkError_57 : decode cX6_linkError 57 = .ok (.iconst 0, 1) := by decide +kernel
theorem dX6_linkError_58 : decode cX6_linkError 58 = .ok (.goto 5, 3) := by decide +kernel
theorem dX6_linkError_61 : decode cX6_linkError 61 = .ok (.bipush (-2), 2) := by decide +kernel
theorem dX6_linkError_63 : decode cX6_linkError 63 = .ok (.ireturn, 1) := by decide +kernel
theorem dX6_sendError_0 : decode cX6_sendError 0 = .ok (.aload_n 0, 1) := by decide +kernel
theorem dX6_sendError_1 : decode cX6_sendError 1 = .ok (.getfield 12, 3) := by decide +kernel
theorem dX6_sendError_4 : decode cX6_sendError 4 = .ok (.getfield 88, 3) := by decide +kernel
theorem dX6_sendError_7 : decode cX6_sendError 7 = .ok (.iload_n 1, 1) := by decide +kernel
theorem dX6_sendError_8 : decode cX6_sendError 8 = .ok (.invokevirtual 171, 3) := by decide +kernel
theorem dX6_sendError_11 : decode cX6_sendError 11 = .ok (.ifCond .eq 22, 3) := by decide +kernel
theorem dX6_sendError_14 : decode cX6_sendError 14 = .ok (.aload_n 0, 1) := by decide +kernel
theorem dX6_sendError_15 : decode cX6_sendError 15 = .ok (.getfield 12, 3) := by decide +kernel
theorem dX6_sendError_18 : decode cX6_sendError 18 = .ok (.getfield 88, 3) := by decide +kernel
theorem dX6_sendError_21 : decode cX6_sendError 21 = .ok (.iload_n 2, 1) := by decide +kernel
theorem dX6_sendError_22 : decode cX6_sendError 22 = .ok (.invokevirtual 171, 3) := by decide +kernel
theorem dX6_sendError_25 : decode cX6_sendError 25 = .ok (.ifCond .eq 8, 3) := by decide +kernel
theorem dX6_sendError_28 : decode cX6_sendError 28 = .ok (.iload_n 1, 1) := by decide +kernel
theorem dX6_sendError_29 : decode cX6_sendError 29 = .ok (.iload_n 2, 1) := by decide +kernel
theorem dX6_sendError_30 : decode cX6_sendError 30 = .ok (.if_icmp .ne 5, 3) := by decide +kernel
theorem dX6_sendError_33 : decode cX6_sendError 33 = .ok (.iconst (-1), 1) := by decide +kernel
theorem dX6_sendError_34 : decode cX6_sendError 34 = .ok (.ireturn, 1) := by decide +kernel
theorem dX6_sendError_35 : decode cX6_sendError 35 = .ok (.aload_n 0, 1) := by decide +kernel
theorem dX6_sendError_36 : decode cX6_sendError 36 = .ok (.getfield 12, 3) := by decide +kernel
theorem dX6_sendError_39 : decode cX6_sendError 39 = .ok (.getfield 79, 3) := by decide +kernel
theorem dX6_sendError_42 : decode cX6_sendError 42 = .ok (.getfield 83, 3) := by decide +kernel
theorem dX6_sendError_45 : decode cX6_sendError 45 = .ok (.bipush 40, 2) := by decide +kernel
theorem dX6_sendError_47 : decode cX6_sendError 47 = .ok (.if_icmp .lt 6, 3) := by decide +kernel
theorem dX6_sendError_50 : decode cX6_sendError 50 = .ok (.bipush (-4), 2) := by decide +kernel
theorem dX6_sendError_52 : decode cX6_sendError 52 = .ok (.ireturn, 1) := by decide +kernel
theorem dX6_sendError_53 : decode cX6_sendError 53 = .ok (.aload_n 0, 1) := by decide +kernel
theorem dX6_sendError_54 : decode cX6_sendError 54 = .ok (.getfield 12, 3) := by decide +kernel
theorem dX6_sendError_57 : decode cX6_sendError 57 = .ok (.aload_n 0, 1) := by decide +kernel
theorem dX6_sendError_58 : decode cX6_sendError 58 = .ok (.getfield 19, 3) := by decide +kernel
theorem dX6_sendError_61 : decode cX6_sendError 61 = .ok (.iload_n 1, 1) := by decide +kernel
theorem dX6_sendError_62 : decode cX6_sendError 62 = .ok (.iload_n 2, 1) := by decide +kernel
theorem dX6_sendError_63 : decode cX6_sendError 63 = .ok (.invokevirtual 201, 3) := by decide +kernel
theorem dX6_sendError_66 : decode cX6_sendError 66 = .ok (.bipush (-6), 2) := by decide +kernel
theorem dX6_sendError_68 : decode cX6_sendError 68 = .ok (.if_icmp .ne 8, 3) := by decide +kernel
theorem dX6_sendError_71 : decode cX6_sendError 71 = .ok (.bipush (-5), 2) := by decide +kernel
theorem dX6_sendError_73 : decode cX6_sendError 73 = .ok (.goto 4, 3) := by decide +kernel
theorem dX6_sendError_76 : decode cX6_sendError 76 = .ok (.iconst 0, 1) := by decide +kernel
theorem dX6_sendError_77 : decode cX6_sendError 77 = .ok (.ireturn, 1) := by decide +kernel
theorem dX6_learnRoutes_0 : decode cX6_learnRoutes 0 = .ok (.aload_n 0, 1) := by decide +kernel
theorem dX6_learnRoutes_1 : decode cX6_learnRoutes 1 = .ok (.getfield 19, 3) := by decide +kernel
theorem dX6_learnRoutes_4 : decode cX6_learnRoutes 4 = .ok (.aload_n 0, 1) := by decide +kernel
theorem dX6_learnRoutes_5 : decode cX6_learnRoutes 5 = .ok (.getfield 12, 3) := by decide +kernel
theorem dX6_learnRoutes_8 : decode cX6_learnRoutes 8 = .ok (.getfield 88, 3) := by decide +kernel
theorem dX6_learnRoutes_11 : decode cX6_learnRoutes 11 = .ok (.aload_n 0, 1) := by decide +kernel
theorem dX6_learnRoutes_12 : decode cX6_learnRoutes 12 = .ok (.getfield 12, 3) := by decide +kernel
theorem dX6_learnRoutes_15 : decode cX6_learnRoutes 15 = .ok (.getfield 71, 3) := by decide +kernel
theorem dX6_learnRoutes_18 : decode cX6_learnRoutes 18 = .ok (.iconst 0, 1) := by decide +kernel
theorem dX6_learnRoutes_19 : decode cX6_learnRoutes 19 = .ok (.iaload, 1) := by decide +kernel
theorem dX6_learnRoutes_20 : decode cX6_learnRoutes 20 = .ok (.invokevirtual 257, 3) := by decide +kernel
theorem dX6_learnRoutes_23 : decode cX6_learnRoutes 23 = .ok (.return_, 1) := by decide +kernel
theorem dX6_changeLink_0 : decode cX6_changeLink 0 = .ok (.aload_n 0, 1) := by decide +kernel
theorem dX6_changeLink_1 : decode cX6_changeLink 1 = .ok (.getfield 12, 3) := by decide +kernel
theorem dX6_changeLink_4 : decode cX6_changeLink 4 = .ok (.getfield 88, 3) := by decide +kernel
theorem dX6_changeLink_7 : decode cX6_changeLink 7 = .ok (.iload_n 1, 1) := by decide +kernel
theorem dX6_changeLink_8 : decode cX6_changeLink 8 = .ok (.iload_n 2, 1) := by decide +kernel
theorem dX6_changeLink_9 : decode cX6_changeLink 9 = .ok (.invokevirtual 261, 3) := by decide +kernel
theorem dX6_changeLink_12 : decode cX6_changeLink 12 = .ok (.istore 4, 2) := by decide +kernel
theorem dX6_changeLink_14 : decode cX6_changeLink 14 = .ok (.aload_n 0, 1) := by decide +kernel
theorem dX6_changeLink_15 : decode cX6_changeLink 15 = .ok (.getfield 12, 3) := by decide +kernel
theorem dX6_changeLink_18 : decode cX6_changeLink 18 = .ok (.getfield 88, 3) := by decide +kernel
theorem dX6_changeLink_21 : decode cX6_changeLink 21 = .ok (.iload 4, 2) := by decide +kernel
theorem dX6_changeLink_23 : decode cX6_changeLink 23 = .ok (.invokevirtual 264, 3) := by decide +kernel
theorem dX6_changeLink_26 : decode cX6_changeLink 26 = .ok (.ifCond .eq 7, 3) := by decide +kernel
theorem dX6_changeLink_29 : decode cX6_changeLink 29 = .ok (.iconst 1, 1) := by decide +kernel
theorem dX6_changeLink_30 : decode cX6_changeLink 30 = .ok (.goto 4, 3) := by decide +kernel
theorem dX6_changeLink_33 : decode cX6_changeLink 33 = .ok (.iconst 0, 1) := by decide +kernel
theorem dX6_changeLink_34 : decode cX6_changeLink 34 = .ok (.istore 5, 2) := by decide +kernel
theorem dX6_changeLink_36 : decode cX6_changeLink 36 = .ok (.aload_n 0, 1) := by decide +kernel
theorem dX6_changeLink_37 : decode cX6_changeLink 37 = .ok (.getfield 12, 3) := by decide +kernel
theorem dX6_changeLink_40 : decode cX6_changeLink 40 = .ok (.getfield 88, 3) := by decide +kernel
theorem dX6_changeLink_43 : decode cX6_changeLink 43 = .ok (.iload 4, 2) := by decide +kernel
theorem dX6_changeLink_45 : decode cX6_changeLink 45 = .ok (.iload_n 3, 1) := by decide +kernel
theorem dX6_changeLink_46 : decode cX6_changeLink 46 = .ok (.iconst 1, 1) := by decide +kernel
theorem dX6_changeLink_47 : decode cX6_changeLink 47 = .ok (.if_icmp .ne 7, 3) := by decide +kernel
theorem dX6_changeLink_50 : decode cX6_changeLink 50 = .ok (.iconst 1, 1) := by decide +kernel
theorem dX6_changeLink_51 : decode cX6_changeLink 51 = .ok (.goto 4, 3) := by decide +kernel
theorem dX6_changeLink_54 : decode cX6_changeLink 54 = .ok (.iconst 0, 1) := by decide +kernel
theorem dX6_changeLink_55 : decode cX6_changeLink 55 = .ok (.invokevirtual 267, 3) := by decide +kernel
theorem dX6_changeLink_58 : decode cX6_changeLink 58 = .ok (.aload_n 0, 1) := by decide +kernel
theorem dX6_changeLink_59 : decode cX6_changeLink 59 = .ok (.invokevirtual 58, 3) := by decide +kernel
theorem dX6_changeLink_62 : decode cX6_changeLink 62 = .ok (.iload 5, 2) := by decide +kernel
theorem dX6_changeLink_64 : decode cX6_changeLink 64 = .ok (.ireturn, 1) := by decide +kernel
theorem dX6_recordState_0 : decode cX6_recordState 0 = .ok (.aload_n 0, 1) := by decide +kernel
theorem dX6_recordState_1 : decode cX6_recordState 1 = .ok (.getfield 47, 3) := by decide +kernel
theorem dX6_recordState_4 : decode cX6_recordState 4 = .ok (.bipush 6, 2) := by decide +kernel
theorem dX6_recordState_6 : decode cX6_recordState 6 = .ok (.if_icmp .lt 7, 3) := by decide +kernel
theorem dX6_recordState_9 : decode cX6_recordState 9 = .ok (.aload_n 0, 1) := by decide +kernel
theorem dX6_recordState_10 : decode cX6_recordState 10 = .ok (.invokevirtual 280, 3) := by decide +kernel
theorem dX6_recordState_13 : decode cX6_recordState 13 = .ok (.aload_n 0, 1) := by decide +kernel
theorem dX6_recordState_14 : decode cX6_recordState 14 = .ok (.getfield 12, 3) := by decide +kernel
theorem dX6_recordState_17 : decode cX6_recordState 17 = .ok (.aload_n 0, 1) := by decide +kernel
theorem dX6_recordState_18 : decode cX6_recordState 18 = .ok (.getfield 43, 3) := by decide +kernel
theorem dX6_recordState_21 : decode cX6_recordState 21 = .ok (.aload_n 0, 1) := by decide +kernel
theorem dX6_recordState_22 : decode cX6_recordState 22 = .ok (.getfield 47, 3) := by decide +kernel
theorem dX6_recordState_25 : decode cX6_recordState 25 = .ok (.aaload, 1) := by decide +kernel
theorem dX6_recordState_26 : decode cX6_recordState 26 = .ok (.invokestatic 224, 3) := by decide +kernel
theorem dX6_recordState_29 : decode cX6_recordState 29 = .ok (.aload_n 0, 1) := by decide +kernel
theorem dX6_recordState_30 : decode cX6_recordState 30 = .ok (.dup, 1) := by decide +kernel
theorem dX6_recordState_31 : decode cX6_recordState 31 = .ok (.getfield 47, 3) := by decide +kernel
theorem dX6_recordState_34 : decode cX6_recordState 34 = .ok (.iconst 1, 1) := by decide +kernel
theorem dX6_recordState_35 : decode cX6_recordState 35 = .ok (.iadd, 1) := by decide +kernel
theorem dX6_recordState_36 : decode cX6_recordState 36 = .ok (.putfield 47, 3) := by decide +kernel
theorem dX6_recordState_39 : decode cX6_recordState 39 = .ok (.return_, 1) := by decide +kernel
theorem dX6_dropOldestState_0 : decode cX6_dropOldestState 0 = .ok (.aload_n 0, 1) := by decide +kernel
theorem dX6_dropOldestState_1 : decode cX6_dropOldestState 1 = .ok (.getfield 43, 3) := by decide +kernel
theorem dX6_dropOldestState_4 : decode cX6_dropOldestState 4 = .ok (.iconst 0, 1) := by decide +kernel
theorem dX6_dropOldestState_5 : decode cX6_dropOldestState 5 = .ok (.aaload, 1) := by decide +kernel
theorem dX6_dropOldestState_6 : decode cX6_dropOldestState 6 = .ok (.astore_n 1, 1) := by decide +kernel
theorem dX6_dropOldestState_7 : decode cX6_dropOldestState 7 = .ok (.iconst 1, 1) := by decide +kernel
theorem dX6_dropOldestState_8 : decode cX6_dropOldestState 8 = .ok (.istore_n 2, 1) := by decide +kernel
theorem dX6_dropOldestState_9 : decode cX6_dropOldestState 9 = .ok (.iload_n 2, 1) := by decide +kernel
theorem dX6_dropOldestState_10 : decode cX6_dropOldestState 10 = .ok (.bipush 6, 2) := by decide +kernel
theorem dX6_dropOldestState_12 : decode cX6_dropOldestState 12 = .ok (.if_icmp .ge 23, 3) := by decide +kernel
theorem dX6_dropOldestState_15 : decode cX6_dropOldestState 15 = .ok (.aload_n 0, 1) := by decide +kernel
theorem dX6_dropOldestState_16 : decode cX6_dropOldestState 16 = .ok (.getfield 43, 3) := by decide +kernel
theorem dX6_dropOldestState_19 : decode cX6_dropOldestState 19 = .ok (.iload_n 2, 1) := by decide +kernel
theorem dX6_dropOldestState_20 : decode cX6_dropOldestState 20 = .ok (.iconst 1, 1) := by decide +kernel
theorem dX6_dropOldestState_21 : decode cX6_dropOldestState 21 = .ok (.isub, 1) := by decide +kernel
theorem dX6_dropOldestState_22 : decode cX6_dropOldestState 22 = .ok (.aload_n 0, 1) := by decide +kernel
theorem dX6_dropOldestState_23 : decode cX6_dropOldestState 23 = .ok (.getfield 43, 3) := by decide +kernel
theorem dX6_dropOldestState_26 : decode cX6_dropOldestState 26 = .ok (.iload_n 2, 1) := by decide +kernel
theorem dX6_dropOldestState_27 : decode cX6_dropOldestState 27 = .ok (.aaload, 1) := by decide +kernel
theorem dX6_dropOldestState_28 : decode cX6_dropOldestState 28 = .ok (.aastore, 1) := by decide +kernel
theorem dX6_dropOldestState_29 : decode cX6_dropOldestState 29 = .ok (.iinc 2 1, 3) := by decide +kernel
theorem dX6_dropOldestState_32 : decode cX6_dropOldestState 32 = .ok (.goto (-23), 3) := by decide +kernel
theorem dX6_dropOldestState_35 : decode cX6_dropOldestState 35 = .ok (.aload_n 0, 1) := by decide +kernel
theorem dX6_dropOldestState_36 : decode cX6_dropOldestState 36 = .ok (.getfield 43, 3) := by decide +kernel
theorem dX6_dropOldestState_39 : decode cX6_dropOldestState 39 = .ok (.iconst 5, 1) := by decide +kernel
theorem dX6_dropOldestState_40 : decode cX6_dropOldestState 40 = .ok (.aload_n 1, 1) := by decide +kernel
theorem dX6_dropOldestState_41 : decode cX6_dropOldestState 41 = .ok (.aastore, 1) := by decide +kernel
theorem dX6_dropOldestState_42 : decode cX6_dropOldestState 42 = .ok (.aload_n 0, 1) := by decide +kernel
theorem dX6_dropOldestState_43 : decode cX6_dropOldestState 43 = .ok (.iconst 5, 1) := by decide +kernel
theorem dX6_dropOldestState_44 : decode cX6_dropOldestState 44 = .ok (.putfield 47, 3) := by decide +kernel
theorem dX6_dropOldestState_47 : decode cX6_dropOldestState 47 = .ok (.return_, 1) := by decide +kernel
theorem dX6_linkState_0 : decode cX6_linkState 0 = .ok (.aload_n 0, 1) := by decide +kernel
theorem dX6_linkState_1 : decode cX6_linkState 1 = .ok (.getfield 12, 3) := by decide +kernel
theorem dX6_linkState_4 : decode cX6_linkState 4 = .ok (.getfield 88, 3) := by decide +kernel
theorem dX6_linkState_7 : decode cX6_linkState 7 = .ok (.iload_n 1, 1) := by decide +kernel
theorem dX6_linkState_8 : decode cX6_linkState 8 = .ok (.iload_n 2, 1) := by decide +kernel
theorem dX6_linkState_9 : decode cX6_linkState 9 = .ok (.invokevirtual 261, 3) := by decide +kernel
theorem dX6_linkState_12 : decode cX6_linkState 12 = .ok (.istore_n 3, 1) := by decide +kernel
theorem dX6_linkState_13 : decode cX6_linkState 13 = .ok (.iload_n 3, 1) := by decide +kernel
theorem dX6_linkState_14 : decode cX6_linkState 14 = .ok (.iconst (-1), 1) := by decide +kernel
theorem dX6_linkState_15 : decode cX6_linkState 15 = .ok (.if_icmp .ne 6, 3) := by decide +kernel
theorem dX6_linkState_18 : decode cX6_linkState 18 = .ok (.bipush (-6), 2) := by decide +kernel
theorem dX6_linkState_20 : decode cX6_linkState 20 = .ok (.ireturn, 1) := by decide +kernel
theorem dX6_linkState_21 : decode cX6_linkState 21 = .ok (.aload_n 0, 1) := by decide +kernel
theorem dX6_linkState_22 : decode cX6_linkState 22 = .ok (.getfield 12, 3) := by decide +kernel
theorem dX6_linkState_25 : decode cX6_linkState 25 = .ok (.getfield 88, 3) := by decide +kernel
theorem dX6_linkState_28 : decode cX6_linkState 28 = .ok (.iload_n 3, 1) := by decide +kernel
theorem dX6_linkState_29 : decode cX6_linkState 29 = .ok (.invokevirtual 264, 3) := by decide +kernel
theorem dX6_linkState_32 : decode cX6_linkState 32 = .ok (.ifCond .eq 7, 3) := by decide +kernel
theorem dX6_linkState_35 : decode cX6_linkState 35 = .ok (.iconst 1, 1) := by decide +kernel
theorem dX6_linkState_36 : decode cX6_linkState 36 = .ok (.goto 4, 3) := by decide +kernel
theorem dX6_linkState_39 : decode cX6_linkState 39 = .ok (.iconst 0, 1) := by decide +kernel
theorem dX6_linkState_40 : decode cX6_linkState 40 = .ok (.ireturn, 1) := by decide +kernel
theorem dJ13_bitCount_95d88_0 : decode cJ13_bitCount_95d88 0 = .ok (.lload_n 0, 1) := by decide +kernel
theorem dJ13_bitCount_95d88_1 : decode cJ13_bitCount_95d88 1 = .ok (.lload_n 0, 1) := by decide +kernel
theorem dJ13_bitCount_95d88_2 : decode cJ13_bitCount_95d88 2 = .ok (.iconst 1, 1) := by decide +kernel
theorem dJ13_bitCount_95d88_3 : decode cJ13_bitCount_95d88 3 = .ok (.lushr, 1) := by decide +kernel
theorem dJ13_bitCount_95d88_4 : decode cJ13_bitCount_95d88 4 = .ok (.ldc2_w 314, 3) := by decide +kernel
theorem dJ13_bitCount_95d88_7 : decode cJ13_bitCount_95d88 7 = .ok (.land, 1) := by decide +kernel
theorem dJ13_bitCount_95d88_8 : decode cJ13_bitCount_95d88 8 = .ok (.lsub, 1) := by decide +kernel
theorem dJ13_bitCount_95d88_9 : decode cJ13_bitCount_95d88 9 = .ok (.lstore_n 0, 1) := by decide +kernel
theorem dJ13_bitCount_95d88_10 : decode cJ13_bitCount_95d88 10 = .ok (.lload_n 0, 1) := by decide +kernel
theorem dJ13_bitCount_95d88_11 : decode cJ13_bitCount_95d88 11 = .ok (.ldc2_w 316, 3) := by decide +kernel
theorem dJ13_bitCount_95d88_14 : decode cJ13_bitCount_95d88 14 = .ok (.land, 1) := by decide +kernel
theorem dJ13_bitCount_95d88_15 : decode cJ13_bitCount_95d88 15 = .ok (.lload_n 0, 1) := by decide +kernel
theorem dJ13_bitCount_95d88_16 : decode cJ13_bitCount_95d88 16 = .ok (.iconst 2, 1) := by decide +kernel
theorem dJ13_bitCount_95d88_17 : decode cJ13_bitCount_95d88 17 = .ok (.lushr, 1) := by decide +kernel
theorem dJ13_bitCount_95d88_18 : decode cJ13_bitCount_95d88 18 = .ok (.ldc2_w 316, 3) := by decide +kernel
theorem dJ13_bitCount_95d88_21 : decode cJ13_bitCount_95d88 21 = .ok (.land, 1) := by decide +kernel
theorem dJ13_bitCount_95d88_22 : decode cJ13_bitCount_95d88 22 = .ok (.ladd, 1) := by decide +kernel
theorem dJ13_bitCount_95d88_23 : decode cJ13_bitCount_95d88 23 = .ok (.lstore_n 0, 1) := by decide +kernel
theorem dJ13_bitCount_95d88_24 : decode cJ13_bitCount_95d88 24 = .ok (.lload_n 0, 1) := by decide +kernel
theorem dJ13_bitCount_95d88_25 : decode cJ13_bitCount_95d88 25 = .ok (.lload_n 0, 1) := by decide +kernel
theorem dJ13_bitCount_95d88_26 : decode cJ13_bitCount_95d88 26 = .ok (.iconst 4, 1) := by decide +kernel
theorem dJ13_bitCount_95d88_27 : decode cJ13_bitCount_95d88 27 = .ok (.lushr, 1) := by decide +kernel
theorem dJ13_bitCount_95d88_28 : decode cJ13_bitCount_95d88 28 = .ok (.ladd, 1) := by decide +kernel
theorem dJ13_bitCount_95d88_29 : decode cJ13_bitCount_95d88 29 = .ok (.ldc2_w 318, 3) := by decide +kernel
theorem dJ13_bitCount_95d88_32 : decode cJ13_bitCount_95d88 32 = .ok (.land, 1) := by decide +kernel
theorem dJ13_bitCount_95d88_33 : decode cJ13_bitCount_95d88 33 = .ok (.lstore_n 0, 1) := by decide +kernel
theorem dJ13_bitCount_95d88_34 : decode cJ13_bitCount_95d88 34 = .ok (.lload_n 0, 1) := by decide +kernel
theorem dJ13_bitCount_95d88_35 : decode cJ13_bitCount_95d88 35 = .ok (.lload_n 0, 1) := by decide +kernel
theorem dJ13_bitCount_95d88_36 : decode cJ13_bitCount_95d88 36 = .ok (.bipush 8, 2) := by decide +kernel
theorem dJ13_bitCount_95d88_38 : decode cJ13_bitCount_95d88 38 = .ok (.lushr, 1) := by decide +kernel
theorem dJ13_bitCount_95d88_39 : decode cJ13_bitCount_95d88 39 = .ok (.ladd, 1) := by decide +kernel
theorem dJ13_bitCount_95d88_40 : decode cJ13_bitCount_95d88 40 = .ok (.lstore_n 0, 1) := by decide +kernel
theorem dJ13_bitCount_95d88_41 : decode cJ13_bitCount_95d88 41 = .ok (.lload_n 0, 1) := by decide +kernel
theorem dJ13_bitCount_95d88_42 : decode cJ13_bitCount_95d88 42 = .ok (.lload_n 0, 1) := by decide +kernel
theorem dJ13_bitCount_95d88_43 : decode cJ13_bitCount_95d88 43 = .ok (.bipush 16, 2) := by decide +kernel
theorem dJ13_bitCount_95d88_45 : decode cJ13_bitCount_95d88 45 = .ok (.lushr, 1) := by decide +kernel
theorem dJ13_bitCount_95d88_46 : decode cJ13_bitCount_95d88 46 = .ok (.ladd, 1) := by decide +kernel
theorem dJ13_bitCount_95d88_47 : decode cJ13_bitCount_95d88 47 = .ok (.lstore_n 0, 1) := by decide +kernel
theorem dJ13_bitCount_95d88_48 : decode cJ13_bitCount_95d88 48 = .ok (.lload_n 0, 1) := by decide +kernel
theorem dJ13_bitCount_95d88_49 : decode cJ13_bitCount_95d88 49 = .ok (.lload_n 0, 1) := by decide +kernel
theorem dJ13_bitCount_95d88_50 : decode cJ13_bitCount_95d88 50 = .ok (.bipush 32, 2) := by decide +kernel
theorem dJ13_bitCount_95d88_52 : decode cJ13_bitCount_95d88 52 = .ok (.lushr, 1) := by decide +kernel
theorem dJ13_bitCount_95d88_53 : decode cJ13_bitCount_95d88 53 = .ok (.ladd, 1) := by decide +kernel
theorem dJ13_bitCount_95d88_54 : decode cJ13_bitCount_95d88 54 = .ok (.lstore_n 0, 1) := by decide +kernel
theorem dJ13_bitCount_95d88_55 : decode cJ13_bitCount_95d88 55 = .ok (.lload_n 0, 1) := by decide +kernel
theorem dJ13_bitCount_95d88_56 : decode cJ13_bitCount_95d88 56 = .ok (.l2i, 1) := by decide +kernel
theorem dJ13_bitCount_95d88_57 : decode cJ13_bitCount_95d88 57 = .ok (.bipush 127, 2) := by decide +kernel
theorem dJ13_bitCount_95d88_59 : decode cJ13_bitCount_95d88 59 = .ok (.iand, 1) := by decide +kernel
theorem dJ13_bitCount_95d88_60 : decode cJ13_bitCount_95d88 60 = .ok (.ireturn, 1) := by decide +kernel
theorem dJ9_abs_0f7a4_0 : decode cJ9_abs_0f7a4 0 = .ok (.iload_n 0, 1) := by decide +kernel
theorem dJ9_abs_0f7a4_1 : decode cJ9_abs_0f7a4 1 = .ok (.ifCond .ge 8, 3) := by decide +kernel
theorem dJ9_abs_0f7a4_4 : decode cJ9_abs_0f7a4 4 = .ok (.iload_n 0, 1) := by decide +kernel
theorem dJ9_abs_0f7a4_5 : decode cJ9_abs_0f7a4 5 = .ok (.ineg, 1) := by decide +kernel
theorem dJ9_abs_0f7a4_6 : decode cJ9_abs_0f7a4 6 = .ok (.goto 4, 3) := by decide +kernel
theorem dJ9_abs_0f7a4_9 : decode cJ9_abs_0f7a4 9 = .ok (.iload_n 0, 1) := by decide +kernel
theorem dJ9_abs_0f7a4_10 : decode cJ9_abs_0f7a4 10 = .ok (.ireturn, 1) := by decide +kernel
theorem dJ9_max_7cf53_0 : decode cJ9_max_7cf53 0 = .ok (.iload_n 0, 1) := by decide +kernel
theorem dJ9_max_7cf53_1 : decode cJ9_max_7cf53 1 = .ok (.iload_n 1, 1) := by decide +kernel
theorem dJ9_max_7cf53_2 : decode cJ9_max_7cf53 2 = .ok (.if_icmp .lt 7, 3) := by decide +kernel
theorem dJ9_max_7cf53_5 : decode cJ9_max_7cf53 5 = .ok (.iload_n 0, 1) := by decide +kernel
theorem dJ9_max_7cf53_6 : decode cJ9_max_7cf53 6 = .ok (.goto 4, 3) := by decide +kernel
theorem dJ9_max_7cf53_9 : decode cJ9_max_7cf53 9 = .ok (.iload_n 1, 1) := by decide +kernel
theorem dJ9_max_7cf53_10 : decode cJ9_max_7cf53 10 = .ok (.ireturn, 1) := by decide +kernel
theorem dJ9_min_7cf53_0 : decode cJ9_min_7cf53 0 = .ok (.iload_n 0, 1) := by decide +kernel
theorem dJ9_min_7cf53_1 : decode cJ9_min_7cf53 1 = .ok (.iload_n 1, 1) := by decide +kernel
theorem dJ9_min_7cf53_2 : decode cJ9_min_7cf53 2 = .ok (.if_icmp .gt 7, 3) := by decide +kernel
theorem dJ9_min_7cf53_5 : decode cJ9_min_7cf53 5 = .ok (.iload_n 0, 1) := by decide +kernel
theorem dJ9_min_7cf53_6 : decode cJ9_min_7cf53 6 = .ok (.goto 4, 3) := by decide +kernel
theorem dJ9_min_7cf53_9 : decode cJ9_min_7cf53 9 = .ok (.iload_n 1, 1) := by decide +kernel
theorem dJ9_min_7cf53_10 : decode cJ9_min_7cf53 10 = .ok (.ireturn, 1) := by decide +kernel
theorem dL_cell_0 : decode cL_cell 0 = .ok (.aload_n 0, 1) := by decide +kernel
theorem dL_cell_1 : decode cL_cell 1 = .ok (.arraylength, 1) := by decide +kernel
theorem dL_cell_2 : decode cL_cell 2 = .ok (.ifCond .ne 12, 3) := by decide +kernel
theorem dL_cell_5 : decode cL_cell 5 = .ok (.iload_n 1, 1) := by decide +kernel
theorem dL_cell_6 : decode cL_cell 6 = .ok (.bipush 37, 2) := by decide +kernel
theorem dL_cell_8 : decode cL_cell 8 = .ok (.imul, 1) := by decide +kernel
theorem dL_cell_9 : decode cL_cell 9 = .ok (.iconst 5, 1) := by decide +kernel
theorem dL_cell_10 : decode cL_cell 10 = .ok (.iadd, 1) := by decide +kernel
theorem dL_cell_11 : decode cL_cell 11 = .ok (.goto 17, 3) := by decide +kernel
theorem dL_cell_14 : decode cL_cell 14 = .ok (.aload_n 0, 1) := by decide +kernel
theorem dL_cell_15 : decode cL_cell 15 = .ok (.iload_n 1, 1) := by decide +kernel
theorem dL_cell_16 : decode cL_cell 16 = .ok (.aload_n 0, 1) := by decide +kernel
theorem dL_cell_17 : decode cL_cell 17 = .ok (.arraylength, 1) := by decide +kernel
theorem dL_cell_18 : decode cL_cell 18 = .ok (.irem, 1) := by decide +kernel
theorem dL_cell_19 : decode cL_cell 19 = .ok (.iaload, 1) := by decide +kernel
theorem dL_cell_20 : decode cL_cell 20 = .ok (.iload_n 1, 1) := by decide +kernel
theorem dL_cell_21 : decode cL_cell 21 = .ok (.bipush 7, 2) := by decide +kernel
theorem dL_cell_23 : decode cL_cell 23 = .ok (.irem, 1) := by decide +kernel
theorem dL_cell_24 : decode cL_cell 24 = .ok (.ishr, 1) := by decide +kernel
theorem dL_cell_25 : decode cL_cell 25 = .ok (.ldc 7, 2) := by decide +kernel
theorem dL_cell_27 : decode cL_cell 27 = .ok (.iand, 1) := by decide +kernel
theorem dL_cell_28 : decode cL_cell 28 = .ok (.iload_n 2, 1) := by decide +kernel
theorem dL_cell_29 : decode cL_cell 29 = .ok (.irem, 1) := by decide +kernel
theorem dL_cell_30 : decode cL_cell 30 = .ok (.ireturn, 1) := by decide +kernel
theorem dL_beside_0 : decode cL_beside 0 = .ok (.aload_n 0, 1) := by decide +kernel
theorem dL_beside_1 : decode cL_beside 1 = .ok (.iconst 2, 1) := by decide +kernel
theorem dL_beside_2 : decode cL_beside 2 = .ok (.invokevirtual 8, 3) := by decide +kernel
theorem dL_beside_5 : decode cL_beside 5 = .ok (.istore_n 3, 1) := by decide +kernel
theorem dL_beside_6 : decode cL_beside 6 = .ok (.iload_n 1, 1) := by decide +kernel
theorem dL_beside_7 : decode cL_beside 7 = .ok (.iload_n 3, 1) := by decide +kernel
theorem dL_beside_8 : decode cL_beside 8 = .ok (.irem, 1) := by decide +kernel
theorem dL_beside_9 : decode cL_beside 9 = .ok (.iload_n 2, 1) := by decide +kernel
theorem dL_beside_10 : decode cL_beside 10 = .ok (.ifCond .ne 7, 3) := by decide +kernel
theorem dL_beside_13 : decode cL_beside 13 = .ok (.iconst 1, 1) := by decide +kernel
theorem dL_beside_14 : decode cL_beside 14 = .ok (.goto 13, 3) := by decide +kernel
theorem dL_beside_17 : decode cL_beside 17 = .ok (.iload_n 2, 1) := by decide +kernel
theorem dL_beside_18 : decode cL_beside 18 = .ok (.iconst 1, 1) := by decide +kernel
theorem dL_beside_19 : decode cL_beside 19 = .ok (.if_icmp .ne 7, 3) := by decide +kernel
theorem dL_beside_22 : decode cL_beside 22 = .ok (.iconst (-1), 1) := by decide +kernel
theorem dL_beside_23 : decode cL_beside 23 = .ok (.goto 4, 3) := by decide +kernel
theorem dL_beside_26 : decode cL_beside 26 = .ok (.iconst 0, 1) := by decide +kernel
theorem dL_beside_27 : decode cL_beside 27 = .ok (.iadd, 1) := by decide +kernel
theorem dL_beside_28 : decode cL_beside 28 = .ok (.istore 4, 2) := by decide +kernel
theorem dL_beside_30 : decode cL_beside 30 = .ok (.iload_n 1, 1) := by decide +kernel
theorem dL_beside_31 : decode cL_beside 31 = .ok (.iload_n 3, 1) := by decide +kernel
theorem dL_beside_32 : decode cL_beside 32 = .ok (.idiv, 1) := by decide +kernel
theorem dL_beside_33 : decode cL_beside 33 = .ok (.iload_n 2, 1) := by decide +kernel
theorem dL_beside_34 : decode cL_beside 34 = .ok (.iconst 2, 1) := by decide +kernel
theorem dL_beside_35 : decode cL_beside 35 = .ok (.if_icmp .ne 7, 3) := by decide +kernel
theorem dL_beside_38 : decode cL_beside 38 = .ok (.iconst 1, 1) := by decide +kernel
theorem dL_beside_39 : decode cL_beside 39 = .ok (.goto 13, 3) := by decide +kernel
theorem dL_beside_42 : decode cL_beside 42 = .ok (.iload_n 2, 1) := by decide +kernel
theorem dL_beside_43 : decode cL_beside 43 = .ok (.iconst 3, 1) := by decide +kernel
theorem dL_beside_44 : decode cL_beside 44 = .ok (.if_icmp .ne 7, 3) := by decide +kernel
theorem dL_beside_47 : decode cL_beside 47 = .ok (.iconst (-1), 1) := by decide +kernel
theorem dL_beside_48 : decode cL_beside 48 = .ok (.goto 4, 3) := by decide +kernel
theorem dL_beside_51 : decode cL_beside 51 = .ok (.iconst 0, 1) := by decide +kernel
theorem dL_beside_52 : decode cL_beside 52 = .ok (.iadd, 1) := by decide +kernel
theorem dL_beside_53 : decode cL_beside 53 = .ok (.istore 5, 2) := by decide +kernel
theorem dL_beside_55 : decode cL_beside 55 = .ok (.iload 4, 2) := by decide +kernel
theorem dL_beside_57 : decode cL_beside 57 = .ok (.ifCond .lt 30, 3) := by decide +kernel
theorem dL_beside_60 : decode cL_beside 60 = .ok (.iload 4, 2) := by decide +kernel
theorem dL_beside_62 : decode cL_beside 62 = .ok (.iload_n 3, 1) := by decide +kernel
theorem dL_beside_63 : decode cL_beside 63 = .ok (.if_icmp .ge 24, 3) := by decide +kernel
theorem dL_beside_66 : decode cL_beside 66 = .ok (.iload 5, 2) := by decide +kernel
theorem dL_beside_68 : decode cL_beside 68 = .ok (.ifCond .lt 19, 3) := by decide +kernel
theorem dL_beside_71 : decode cL_beside 71 = .ok (.iload 5, 2) := by decide +kernel
theorem dL_beside_73 : decode cL_beside 73 = .ok (.aload_n 0, 1) := by decide +kernel
theorem dL_beside_74 : decode cL_beside 74 = .ok (.iconst 1, 1) := by decide +kernel
theorem dL_beside_75 : decode cL_beside 75 = .ok (.invokevirtual 8, 3) := by decide +kernel
theorem dL_beside_78 : decode cL_beside 78 = .ok (.iload_n 3, 1) := by decide +kernel
theorem dL_beside_79 : decode cL_beside 79 = .ok (.idiv, 1) := by decide +kernel
theorem dL_beside_80 : decode cL_beside 80 = .ok (.if_icmp .ge 7, 3) := by decide +kernel
theorem dL_beside_83 : decode cL_beside 83 = .ok (.iconst 1, 1) := by decide +kernel
theorem dL_beside_84 : decode cL_beside 84 = .ok (.goto 4, 3) := by decide +kernel
theorem dL_beside_87 : decode cL_beside 87 = .ok (.iconst 0, 1) := by decide +kernel
theorem dL_beside_88 : decode cL_beside 88 = .ok (.istore 6, 2) := by decide +kernel
theorem dL_beside_90 : decode cL_beside 90 = .ok (.iload 6, 2) := by decide +kernel
theorem dL_beside_92 : decode cL_beside 92 = .ok (.ifCond .eq 13, 3) := by decide +kernel
theorem dL_beside_95 : decode cL_beside 95 = .ok (.iload 5, 2) := by decide +kernel
theorem dL_beside_97 : decode cL_beside 97 = .ok (.iload_n 3, 1) := by decide +kernel
theorem dL_beside_98 : decode cL_beside 98 = .ok (.imul, 1) := by decide +kernel
theorem dL_beside_99 : decode cL_beside 99 = .ok (.iload 4, 2) := by decide +kernel
theorem dL_beside_101 : decode cL_beside 101 = .ok (.iadd, 1) := by decide +kernel
theorem dL_beside_102 : decode cL_beside 102 = .ok (.goto 4, 3) := by decide +kernel
theorem dL_beside_105 : decode cL_beside 105 = .ok (.iconst (-1), 1) := by decide +kernel
theorem dL_beside_106 : decode cL_beside 106 = .ok (.ireturn, 1) := by decide +kernel
theorem dL_apart_0 : decode cL_apart 0 = .ok (.aload_n 0, 1) := by decide +kernel
theorem dL_apart_1 : decode cL_apart 1 = .ok (.iconst 2, 1) := by decide +kernel
theorem dL_apart_2 : decode cL_apart 2 = .ok (.invokevirtual 8, 3) := by decide +kernel
theorem dL_apart_5 : decode cL_apart 5 = .ok (.istore_n 3, 1) := by decide +kernel
theorem dL_apart_6 : decode cL_apart 6 = .ok (.iload_n 1, 1) := by decide +kernel
theorem dL_apart_7 : decode cL_apart 7 = .ok (.iload_n 3, 1) := by decide +kernel
theorem dL_apart_8 : decode cL_apart 8 = .ok (.irem, 1) := by decide +kernel
theorem dL_apart_9 : decode cL_apart 9 = .ok (.iload_n 2, 1) := by decide +kernel
theorem dL_apart_10 : decode cL_apart 10 = .ok (.iload_n 3, 1) := by decide +kernel
theorem dL_apart_11 : decode cL_apart 11 = .ok (.irem, 1) := by decide +kernel
theorem dL_apart_12 : decode cL_apart 12 = .ok (.isub, 1) := by decide +kernel
theorem dL_apart_13 : decode cL_apart 13 = .ok (.istore 4, 2) := by decide +kernel
theorem dL_apart_15 : decode cL_apart 15 = .ok (.iload_n 1, 1) := by decide +kernel
theorem dL_apart_16 : decode cL_apart 16 = .ok (.iload_n 3, 1) := by decide +kernel
theorem dL_apart_17 : decode cL_apart 17 = .ok (.idiv, 1) := by decide +kernel
theorem dL_apart_18 : decode cL_apart 18 = .ok (.iload_n 2, 1) := by decide +kernel
theorem dL_apart_19 : decode cL_apart 19 = .ok (.iload_n 3, 1) := by decide +kernel
theorem dL_apart_20 : decode cL_apart 20 = .ok (.idiv, 1) := by decide +kernel
theorem dL_apart_21 : decode cL_apart 21 = .ok (.isub, 1) := by decide +kernel
theorem dL_apart_22 : decode cL_apart 22 = .ok (.istore 5, 2) := by decide +kernel
theorem dL_apart_24 : decode cL_apart 24 = .ok (.iload 4, 2) := by decide +kernel
theorem dL_apart_26 : decode cL_apart 26 = .ok (.ifCond .ge 9, 3) := by decide +kernel
theorem dL_apart_29 : decode cL_apart 29 = .ok (.iload 4, 2) := by decide +kernel
theorem dL_apart_31 : decode cL_apart 31 = .ok (.ineg, 1) := by decide +kernel
theorem dL_apart_32 : decode cL_apart 32 = .ok (.goto 5, 3) := by decide +kernel
theorem dL_apart_35 : decode cL_apart 35 = .ok (.iload 4, 2) := by decide +kernel
theorem dL_apart_37 : decode cL_apart 37 = .ok (.iload 5, 2) := by decide +kernel
theorem dL_apart_39 : decode cL_apart 39 = .ok (.ifCond .ge 9, 3) := by decide +kernel
theorem dL_apart_42 : decode cL_apart 42 = .ok (.iload 5, 2) := by decide +kernel
theorem dL_apart_44 : decode cL_apart 44 = .ok (.ineg, 1) := by decide +kernel
theorem dL_apart_45 : decode cL_apart 45 = .ok (.goto 5, 3) := by decide +kernel
theorem dL_apart_48 : decode cL_apart 48 = .ok (.iload 5, 2) := by decide +kernel
theorem dL_apart_50 : decode cL_apart 50 = .ok (.iadd, 1) := by decide +kernel
theorem dL_apart_51 : decode cL_apart 51 = .ok (.ireturn, 1) := by decide +kernel
theorem dL_agree_0 : decode cL_agree 0 = .ok (.bipush 25, 2) := by decide +kernel
theorem dL_agree_2 : decode cL_agree 2 = .ok (.newarray .int, 2) := by decide +kernel
theorem dL_agree_4 : decode cL_agree 4 = .ok (.astore_n 1, 1) := by decide +kernel
theorem dL_agree_5 : decode cL_agree 5 = .ok (.bipush 25, 2) := by decide +kernel
theorem dL_agree_7 : decode cL_agree 7 = .ok (.newarray .int, 2) := by decide +kernel
theorem dL_agree_9 : decode cL_agree 9 = .ok (.astore_n 2, 1) := by decide +kernel
theorem dL_agree_10 : decode cL_agree 10 = .ok (.bipush 25, 2) := by decide +kernel
theorem dL_agree_12 : decode cL_agree 12 = .ok (.newarray .int, 2) := by decide +kernel
theorem dL_agree_14 : decode cL_agree 14 = .ok (.astore_n 3, 1) := by decide +kernel
theorem dL_agree_15 : decode cL_agree 15 = .ok (.iconst 0, 1) := by decide +kernel
theorem dL_agree_16 : decode cL_agree 16 = .ok (.istore 4, 2) := by decide +kernel
theorem dL_agree_18 : decode cL_agree 18 = .ok (.iconst 0, 1) := by decide +kernel
theorem dL_agree_19 : decode cL_agree 19 = .ok (.istore 5, 2) := by decide +kernel
theorem dL_agree_21 : decode cL_agree 21 = .ok (.iconst 0, 1) := by decide +kernel
theorem dL_agree_22 : decode cL_agree 22 = .ok (.istore 6, 2) := by decide +kernel
theorem dL_agree_24 : decode cL_agree 24 = .ok (.iconst 0, 1) := by decide +kernel
theorem dL_agree_25 : decode cL_agree 25 = .ok (.istore 7, 2) := by decide +kernel
theorem dL_agree_27 : decode cL_agree 27 = .ok (.iconst 0, 1) := by decide +kernel
theorem dL_agree_28 : decode cL_agree 28 = .ok (.istore 8, 2) := by decide +kernel
theorem dL_agree_30 : decode cL_agree 30 = .ok (.iload 8, 2) := by decide +kernel
theorem dL_agree_32 : decode cL_agree 32 = .ok (.aload_n 0, 1) := by decide +kernel
theorem dL_agree_33 : decode cL_agree 33 = .ok (.iconst 3, 1) := by decide +kernel
theorem dL_agree_34 : decode cL_agree 34 = .ok (.invokevirtual 8, 3) := by decide +kernel
theorem dL_agree_37 : decode cL_agree 37 = .ok (.if_icmp .ge 366, 3) := by decide +kernel
theorem dL_agree_40 : decode cL_agree 40 = .ok (.aload_n 0, 1) := by decide +kernel
theorem dL_agree_41 : decode cL_agree 41 = .ok (.iload 8, 2) := by decide +kernel
theorem dL_agree_43 : decode cL_agree 43 = .ok (.iconst 2, 1) := by decide +kernel
theorem dL_agree_44 : decode cL_agree 44 = .ok (.invokevirtual 14, 3) := by decide +kernel
theorem dL_agree_47 : decode cL_agree 47 = .ok (.istore 9, 2) := by decide +kernel
theorem dL_agree_49 : decode cL_agree 49 = .ok (.aload_n 0, 1) := by decide +kernel
theorem dL_agree_50 : decode cL_agree 50 = .ok (.iload 8, 2) := by decide +kernel
theorem dL_agree_52 : decode cL_agree 52 = .ok (.iconst 3, 1) := by decide +kernel
theorem dL_agree_53 : decode cL_agree 53 = .ok (.invokevirtual 14, 3) := by decide +kernel
theorem dL_agree_56 : decode cL_agree 56 = .ok (.istore 10, 2) := by decide +kernel
theorem dL_agree_58 : decode cL_agree 58 = .ok (.aload_n 1, 1) := by decide +kernel
theorem dL_agree_59 : decode cL_agree 59 = .ok (.iload 10, 2) := by decide +kernel
theorem dL_agree_61 : decode cL_agree 61 = .ok (.dup2, 1) := by decide +kernel
theorem dL_agree_62 : decode cL_agree 62 = .ok (.iaload, 1) := by decide +kernel
theorem dL_agree_63 : decode cL_agree 63 = .ok (.iload 9, 2) := by decide +kernel
theorem dL_agree_65 : decode cL_agree 65 = .ok (.ifCond .ne 7, 3) := by decide +kernel
theorem dL_agree_68 : decode cL_agree 68 = .ok (.iconst 1, 1) := by decide +kernel
theorem dL_agree_69 : decode cL_agree 69 = .ok (.goto 4, 3) := by decide +kernel
theorem dL_agree_72 : decode cL_agree 72 = .ok (.iconst 0, 1) := by decide +kernel
theorem dL_agree_73 : decode cL_agree 73 = .ok (.iadd, 1) := by decide +kernel
theorem dL_agree_74 : decode cL_agree 74 = .ok (.iastore, 1) := by decide +kernel
theorem dL_agree_75 : decode cL_agree 75 = .ok (.aload_n 2, 1) := by decide +kernel
theorem dL_agree_76 : decode cL_agree 76 = .ok (.iload 10, 2) := by decide +kernel
theorem dL_agree_78 : decode cL_agree 78 = .ok (.dup2, 1) := by decide +kernel
theorem dL_agree_79 : decode cL_agree 79 = .ok (.iaload, 1) := by decide +kernel
theorem dL_agree_80 : decode cL_agree 80 = .ok (.iload 9, 2) := by decide +kernel
theorem dL_agree_82 : decode cL_agree 82 = .ok (.iconst 1, 1) := by decide +kernel
theorem dL_agree_83 : decode cL_agree 83 = .ok (.if_icmp .ne 7, 3) := by decide +kernel
theorem dL_agree_86 : decode cL_agree 86 = .ok (.iconst 1, 1) := by decide +kernel
theorem dL_agree_87 : decode cL_agree 87 = .ok (.goto 4, 3) := by decide +kernel
theorem dL_agree_90 : decode cL_agree 90 = .ok (.iconst 0, 1) := by decide +kernel
theorem dL_agree_91 : decode cL_agree 91 = .ok (.iadd, 1) := by decide +kernel
theorem dL_agree_92 : decode cL_agree 92 = .ok (.iastore, 1) := by decide +kernel
theorem dL_agree_93 : decode cL_agree 93 = .ok (.aload_n 3, 1) := by decide +kernel
theorem dL_agree_94 : decode cL_agree 94 = .ok (.iload 10, 2) := by decide +kernel
theorem dL_agree_96 : decode cL_agree 96 = .ok (.dup2, 1) := by decide +kernel
theorem dL_agree_97 : decode cL_agree 97 = .ok (.iaload, 1) := by decide +kernel
theorem dL_agree_98 : decode cL_agree 98 = .ok (.iload 9, 2) := by decide +kernel
theorem dL_agree_100 : decode cL_agree 100 = .ok (.iconst 2, 1) := by decide +kernel
theorem dL_agree_101 : decode cL_agree 101 = .ok (.if_icmp .ne 7, 3) := by decide +kernel
theorem dL_agree_104 : decode cL_agree 104 = .ok (.iconst 1, 1) := by decide +kernel
theorem dL_agree_105 : decode cL_agree 105 = .ok (.goto 4, 3) := by decide +kernel
theorem dL_agree_108 : decode cL_agree 108 = .ok (.iconst 0, 1) := by decide +kernel
theorem dL_agree_109 : decode cL_agree 109 = .ok (.iadd, 1) := by decide +kernel
theorem dL_agree_110 : decode cL_agree 110 = .ok (.iastore, 1) := by decide +kernel
theorem dL_agree_111 : decode cL_agree 111 = .ok (.iload 4, 2) := by decide +kernel
theorem dL_agree_113 : decode cL_agree 113 = .ok (.aload_n 0, 1) := by decide +kernel
theorem dL_agree_114 : decode cL_agree 114 = .ok (.iload 8, 2) := by decide +kernel
theorem dL_agree_116 : decode cL_agree 116 = .ok (.iconst 4, 1) := by decide +kernel
theorem dL_agree_117 : decode cL_agree 117 = .ok (.invokevirtual 14, 3) := by decide +kernel
theorem dL_agree_120 : decode cL_agree 120 = .ok (.iadd, 1) := by decide +kernel
theorem dL_agree_121 : decode cL_agree 121 = .ok (.istore 4, 2) := by decide +kernel
theorem dL_agree_123 : decode cL_agree 123 = .ok (.iload 5, 2) := by decide +kernel
theorem dL_agree_125 : decode cL_agree 125 = .ok (.aload_n 0, 1) := by decide +kernel
theorem dL_agree_126 : decode cL_agree 126 = .ok (.iload 8, 2) := by decide +kernel
theorem dL_agree_128 : decode cL_agree 128 = .ok (.iconst 5, 1) := by decide +kernel
theorem dL_agree_129 : decode cL_agree 129 = .ok (.invokevirtual 14, 3) := by decide +kernel
theorem dL_agree_132 : decode cL_agree 132 = .ok (.iadd, 1) := by decide +kernel
theorem dL_agree_133 : decode cL_agree 133 = .ok (.istore 5, 2) := by decide +kernel
theorem dL_agree_135 : decode cL_agree 135 = .ok (.iload 6, 2) := by decide +kernel
theorem dL_agree_137 : decode cL_agree 137 = .ok (.aload_n 0, 1) := by decide +kernel
theorem dL_agree_138 : decode cL_agree 138 = .ok (.iload 8, 2) := by decide +kernel
theorem dL_agree_140 : decode cL_agree 140 = .ok (.bipush 6, 2) := by decide +kernel
theorem dL_agree_142 : decode cL_agree 142 = .ok (.invokevirtual 14, 3) := by decide +kernel
theorem dL_agree_145 : decode cL_agree 145 = .ok (.iadd, 1) := by decide +kernel
theorem dL_agree_146 : decode cL_agree 146 = .ok (.istore 6, 2) := by decide +kernel
theorem dL_agree_148 : decode cL_agree 148 = .ok (.iload 7, 2) := by decide +kernel
theorem dL_agree_150 : decode cL_agree 150 = .ok (.aload_n 0, 1) := by decide +kernel
theorem dL_agree_151 : decode cL_agree 151 = .ok (.iload 8, 2) := by decide +kernel
theorem dL_agree_153 : decode cL_agree 153 = .ok (.bipush 12, 2) := by decide +kernel
theorem dL_agree_155 : decode cL_agree 155 = .ok (.invokevirtual 14, 3) := by decide +kernel
theorem dL_agree_158 : decode cL_agree 158 = .ok (.iadd, 1) := by decide +kernel
theorem dL_agree_159 : decode cL_agree 159 = .ok (.istore 7, 2) := by decide +kernel
theorem dL_agree_161 : decode cL_agree 161 = .ok (.aload_n 0, 1) := by decide +kernel
theorem dL_agree_162 : decode cL_agree 162 = .ok (.iload 8, 2) := by decide +kernel
theorem dL_agree_164 : decode cL_agree 164 = .ok (.bipush 10, 2) := by decide +kernel
theorem dL_agree_166 : decode cL_agree 166 = .ok (.invokevirtual 14, 3) := by decide +kernel
theorem dL_agree_169 : decode cL_agree 169 = .ok (.istore 11, 2) := by decide +kernel
theorem dL_agree_171 : decode cL_agree 171 = .ok (.aload_n 0, 1) := by decide +kernel
theorem dL_agree_172 : decode cL_agree 172 = .ok (.iload 8, 2) := by decide +kernel
theorem dL_agree_174 : decode cL_agree 174 = .ok (.iconst 1, 1) := by decide +kernel
theorem dL_agree_175 : decode cL_agree 175 = .ok (.invokevirtual 14, 3) := by decide +kernel
theorem dL_agree_178 : decode cL_agree 178 = .ok (.istore 12, 2) := by decide +kernel
theorem dL_agree_180 : decode cL_agree 180 = .ok (.iload 9, 2) := by decide +kernel
theorem dL_agree_182 : decode cL_agree 182 = .ok (.iconst 2, 1) := by decide +kernel
theorem dL_agree_183 : decode cL_agree 183 = .ok (.if_icmp .ne 50, 3) := by decide +kernel
theorem dL_agree_186 : decode cL_agree 186 = .ok (.iload 10, 2) := by decide +kernel
theorem dL_agree_188 : decode cL_agree 188 = .ok (.iload 12, 2) := by decide +kernel
theorem dL_agree_190 : decode cL_agree 190 = .ok (.if_icmp .ne 68, 3) := by decide +kernel
theorem dL_agree_193 : decode cL_agree 193 = .ok (.iload 11, 2) := by decide +kernel
theorem dL_agree_195 : decode cL_agree 195 = .ok (.ifCond .ne 63, 3) := by decide +kernel
theorem dL_agree_198 : decode cL_agree 198 = .ok (.aload_n 0, 1) := by decide +kernel
theorem dL_agree_199 : decode cL_agree 199 = .ok (.iload 8, 2) := by decide +kernel
theorem dL_agree_201 : decode cL_agree 201 = .ok (.bipush 8, 2) := by decide +kernel
theorem dL_agree_203 : decode cL_agree 203 = .ok (.invokevirtual 14, 3) := by decide +kernel
theorem dL_agree_206 : decode cL_agree 206 = .ok (.aload_n 0, 1) := by decide +kernel
theorem dL_agree_207 : decode cL_agree 207 = .ok (.iload 8, 2) := by decide +kernel
theorem dL_agree_209 : decode cL_agree 209 = .ok (.bipush 7, 2) := by decide +kernel
theorem dL_agree_211 : decode cL_agree 211 = .ok (.invokevirtual 14, 3) := by decide +kernel
theorem dL_agree_214 : decode cL_agree 214 = .ok (.if_icmp .lt 44, 3) := by decide +kernel
theorem dL_agree_217 : decode cL_agree 217 = .ok (.aload_n 0, 1) := by decide +kernel
theorem dL_agree_218 : decode cL_agree 218 = .ok (.iload 8, 2) := by decide +kernel
theorem dL_agree_220 : decode cL_agree 220 = .ok (.bipush 11, 2) := by decide +kernel
theorem dL_agree_222 : decode cL_agree 222 = .ok (.invokevirtual 14, 3) := by decide +kernel
theorem dL_agree_225 : decode cL_agree 225 = .ok (.bipush (-6), 2) := by decide +kernel
theorem dL_agree_227 : decode cL_agree 227 = .ok (.if_icmp .eq 33, 3) := by decide +kernel
theorem dL_agree_230 : decode cL_agree 230 = .ok (.goto 28, 3) := by decide +kernel
theorem dL_agree_233 : decode cL_agree 233 = .ok (.aload_n 0, 1) := by decide +kernel
theorem dL_agree_234 : decode cL_agree 234 = .ok (.iload 8, 2) := by decide +kernel
theorem dL_agree_236 : decode cL_agree 236 = .ok (.bipush 8, 2) := by decide +kernel
theorem dL_agree_238 : decode cL_agree 238 = .ok (.invokevirtual 14, 3) := by decide +kernel
theorem dL_agree_241 : decode cL_agree 241 = .ok (.bipush (-6), 2) := by decide +kernel
theorem dL_agree_243 : decode cL_agree 243 = .ok (.if_icmp .ne 15, 3) := by decide +kernel
theorem dL_agree_246 : decode cL_agree 246 = .ok (.iload 10, 2) := by decide +kernel
theorem dL_agree_248 : decode cL_agree 248 = .ok (.iload 12, 2) := by decide +kernel
theorem dL_agree_250 : decode cL_agree 250 = .ok (.if_icmp .eq 8, 3) := by decide +kernel
theorem dL_agree_253 : decode cL_agree 253 = .ok (.iload 11, 2) := by decide +kernel
theorem dL_agree_255 : decode cL_agree 255 = .ok (.ifCond .ne 5, 3) := by decide +kernel
theorem dL_agree_258 : decode cL_agree 258 = .ok (.iconst 0, 1) := by decide +kernel
theorem dL_agree_259 : decode cL_agree 259 = .ok (.ireturn, 1) := by decide +kernel
theorem dL_agree_260 : decode cL_agree 260 = .ok (.iload 9, 2) := by decide +kernel
theorem dL_agree_262 : decode cL_agree 262 = .ok (.ifCond .ne 25, 3) := by decide +kernel
theorem dL_agree_265 : decode cL_agree 265 = .ok (.iload 10, 2) := by decide +kernel
theorem dL_agree_267 : decode cL_agree 267 = .ok (.aload_n 0, 1) := by decide +kernel
theorem dL_agree_268 : decode cL_agree 268 = .ok (.iload 8, 2) := by decide +kernel
theorem dL_agree_270 : decode cL_agree 270 = .ok (.iconst 0, 1) := by decide +kernel
theorem dL_agree_271 : decode cL_agree 271 = .ok (.invokevirtual 14, 3) := by decide +kernel
theorem dL_agree_274 : decode cL_agree 274 = .ok (.if_icmp .ne 77, 3) := by decide +kernel
theorem dL_agree_277 : decode cL_agree 277 = .ok (.aload_n 0, 1) := by decide +kernel
theorem dL_agree_278 : decode cL_agree 278 = .ok (.iload 8, 2) := by decide +kernel
theorem dL_agree_280 : decode cL_agree 280 = .ok (.iconst 4, 1) := by decide +kernel
theorem dL_agree_281 : decode cL_agree 281 = .ok (.invokevirtual 14, 3) := by decide +kernel
theorem dL_agree_284 : decode cL_agree 284 = .ok (.ifCond .ne 67, 3) := by decide +kernel
theorem dL_agree_287 : decode cL_agree 287 = .ok (.iload 11, 2) := by decide +kernel
theorem dL_agree_289 : decode cL_agree 289 = .ok (.ifCond .le 27, 3) := by decide +kernel
theorem dL_agree_292 : decode cL_agree 292 = .ok (.iload 11, 2) := by decide +kernel
theorem dL_agree_294 : decode cL_agree 294 = .ok (.aload_n 0, 1) := by decide +kernel
theorem dL_agree_295 : decode cL_agree 295 = .ok (.iload 10, 2) := by decide +kernel
theorem dL_agree_297 : decode cL_agree 297 = .ok (.iload 12, 2) := by decide +kernel
theorem dL_agree_299 : decode cL_agree 299 = .ok (.invokestatic 18, 3) := by decide +kernel
theorem dL_agree_302 : decode cL_agree 302 = .ok (.if_icmp .lt 49, 3) := by decide +kernel
theorem dL_agree_305 : decode cL_agree 305 = .ok (.aload_n 0, 1) := by decide +kernel
theorem dL_agree_306 : decode cL_agree 306 = .ok (.iload 8, 2) := by decide +kernel
theorem dL_agree_308 : decode cL_agree 308 = .ok (.bipush 11, 2) := by decide +kernel
theorem dL_agree_310 : decode cL_agree 310 = .ok (.invokevirtual 14, 3) := by decide +kernel
theorem dL_agree_313 : decode cL_agree 313 = .ok (.ifCond .lt 38, 3) := by decide +kernel
theorem dL_agree_316 : decode cL_agree 316 = .ok (.iload 11, 2) := by decide +kernel
theorem dL_agree_318 : decode cL_agree 318 = .ok (.ifCond .ge 16, 3) := by decide +kernel
theorem dL_agree_321 : decode cL_agree 321 = .ok (.aload_n 0, 1) := by decide +kernel
theorem dL_agree_322 : decode cL_agree 322 = .ok (.iload 8, 2) := by decide +kernel
theorem dL_agree_324 : decode cL_agree 324 = .ok (.bipush 11, 2) := by decide +kernel
theorem dL_agree_326 : decode cL_agree 326 = .ok (.invokevirtual 14, 3) := by decide +kernel
theorem dL_agree_329 : decode cL_agree 329 = .ok (.bipush (-6), 2) := by decide +kernel
theorem dL_agree_331 : decode cL_agree 331 = .ok (.if_icmp .ne 20, 3) := by decide +kernel
theorem dL_agree_334 : decode cL_agree 334 = .ok (.iload 9, 2) := by decide +kernel
theorem dL_agree_336 : decode cL_agree 336 = .ok (.iconst 1, 1) := by decide +kernel
theorem dL_agree_337 : decode cL_agree 337 = .ok (.if_icmp .eq 16, 3) := by decide +kernel
theorem dL_agree_340 : decode cL_agree 340 = .ok (.aload_n 0, 1) := by decide +kernel
theorem dL_agree_341 : decode cL_agree 341 = .ok (.iload 8, 2) := by decide +kernel
theorem dL_agree_343 : decode cL_agree 343 = .ok (.bipush 12, 2) := by decide +kernel
theorem dL_agree_345 : decode cL_agree 345 = .ok (.invokevirtual 14, 3) := by decide +kernel
theorem dL_agree_348 : decode cL_agree 348 = .ok (.ifCond .eq 5, 3) := by decide +kernel
theorem dL_agree_351 : decode cL_agree 351 = .ok (.iconst 0, 1) := by decide +kernel
theorem dL_agree_352 : decode cL_agree 352 = .ok (.ireturn, 1) := by decide +kernel
theorem dL_agree_353 : decode cL_agree 353 = .ok (.aload_n 0, 1) := by decide +kernel
theorem dL_agree_354 : decode cL_agree 354 = .ok (.aload_n 0, 1) := by decide +kernel
theorem dL_agree_355 : decode cL_agree 355 = .ok (.iload 8, 2) := by decide +kernel
theorem dL_agree_357 : decode cL_agree 357 = .ok (.iconst 0, 1) := by decide +kernel
theorem dL_agree_358 : decode cL_agree 358 = .ok (.invokevirtual 14, 3) := by decide +kernel
theorem dL_agree_361 : decode cL_agree 361 = .ok (.iload 12, 2) := by decide +kernel
theorem dL_agree_363 : decode cL_agree 363 = .ok (.invokestatic 18, 3) := by decide +kernel
theorem dL_agree_366 : decode cL_agree 366 = .ok (.aload_n 0, 1) := by decide +kernel
theorem dL_agree_367 : decode cL_agree 367 = .ok (.iload 10, 2) := by decide +kernel
theorem dL_agree_369 : decode cL_agree 369 = .ok (.iload 12, 2) := by decide +kernel
theorem dL_agree_371 : decode cL_agree 371 = .ok (.invokestatic 18, 3) := by decide +kernel
theorem dL_agree_374 : decode cL_agree 374 = .ok (.isub, 1) := by decide +kernel
theorem dL_agree_375 : decode cL_agree 375 = .ok (.aload_n 0, 1) := by decide +kernel
theorem dL_agree_376 : decode cL_agree 376 = .ok (.iload 8, 2) := by decide +kernel
theorem dL_agree_378 : decode cL_agree 378 = .ok (.iconst 4, 1) := by decide +kernel
theorem dL_agree_379 : decode cL_agree 379 = .ok (.invokevirtual 14, 3) := by decide +kernel
theorem dL_agree_382 : decode cL_agree 382 = .ok (.iconst 2, 1) := by decide +kernel
theorem dL_agree_383 : decode cL_agree 383 = .ok (.aload_n 0, 1) := by decide +kernel
theorem dL_agree_384 : decode cL_agree 384 = .ok (.iload 8, 2) := by decide +kernel
theorem dL_agree_386 : decode cL_agree 386 = .ok (.iconst 5, 1) := by decide +kernel
theorem dL_agree_387 : decode cL_agree 387 = .ok (.invokevirtual 14, 3) := by decide +kernel
theorem dL_agree_390 : decode cL_agree 390 = .ok (.imul, 1) := by decide +kernel
theorem dL_agree_391 : decode cL_agree 391 = .ok (.isub, 1) := by decide +kernel
theorem dL_agree_392 : decode cL_agree 392 = .ok (.if_icmp .eq 5, 3) := by decide +kernel
theorem dL_agree_395 : decode cL_agree 395 = .ok (.iconst 0, 1) := by decide +kernel
theorem dL_agree_396 : decode cL_agree 396 = .ok (.ireturn, 1) := by decide +kernel
theorem dL_agree_397 : decode cL_agree 397 = .ok (.iinc 8 1, 3) := by decide +kernel
theorem dL_agree_400 : decode cL_agree 400 = .ok (.goto (-370), 3) := by decide +kernel
theorem dL_agree_403 : decode cL_agree 403 = .ok (.iconst 0, 1) := by decide +kernel
theorem dL_agree_404 : decode cL_agree 404 = .ok (.istore 8, 2) := by decide +kernel
theorem dL_agree_406 : decode cL_agree 406 = .ok (.iconst 0, 1) := by decide +kernel
theorem dL_agree_407 : decode cL_agree 407 = .ok (.istore 9, 2) := by decide +kernel
theorem dL_agree_409 : decode cL_agree 409 = .ok (.iconst 0, 1) := by decide +kernel
theorem dL_agree_410 : decode cL_agree 410 = .ok (.istore 10, 2) := by decide +kernel
theorem dL_agree_412 : decode cL_agree 412 = .ok (.iload 10, 2) := by decide +kernel
theorem dL_agree_414 : decode cL_agree 414 = .ok (.aload_n 0, 1) := by decide +kernel
theorem dL_agree_415 : decode cL_agree 415 = .ok (.iconst 1, 1) := by decide +kernel
theorem dL_agree_416 : decode cL_agree 416 = .ok (.invokevirtual 8, 3) := by decide +kernel
theorem dL_agree_419 : decode cL_agree 419 = .ok (.if_icmp .ge 176, 3) := by decide +kernel
theorem dL_agree_422 : decode cL_agree 422 = .ok (.aload_n 0, 1) := by decide +kernel
theorem dL_agree_423 : decode cL_agree 423 = .ok (.iload 10, 2) := by decide +kernel
theorem dL_agree_425 : decode cL_agree 425 = .ok (.iconst 0, 1) := by decide +kernel
theorem dL_agree_426 : decode cL_agree 426 = .ok (.invokevirtual 24, 3) := by decide +kernel
theorem dL_agree_429 : decode cL_agree 429 = .ok (.aload_n 2, 1) := by decide +kernel
theorem dL_agree_430 : decode cL_agree 430 = .ok (.iload 10, 2) := by decide +kernel
theorem dL_agree_432 : decode cL_agree 432 = .ok (.iaload, 1) := by decide +kernel
theorem dL_agree_433 : decode cL_agree 433 = .ok (.if_icmp .ne 31, 3) := by decide +kernel
theorem dL_agree_436 : decode cL_agree 436 = .ok (.aload_n 0, 1) := by decide +kernel
theorem dL_agree_437 : decode cL_agree 437 = .ok (.iload 10, 2) := by decide +kernel
theorem dL_agree_439 : decode cL_agree 439 = .ok (.iconst 1, 1) := by decide +kernel
theorem dL_agree_440 : decode cL_agree 440 = .ok (.invokevirtual 24, 3) := by decide +kernel
theorem dL_agree_443 : decode cL_agree 443 = .ok (.aload_n 1, 1) := by decide +kernel
theorem dL_agree_444 : decode cL_agree 444 = .ok (.iload 10, 2) := by decide +kernel
theorem dL_agree_446 : decode cL_agree 446 = .ok (.iaload, 1) := by decide +kernel
theorem dL_agree_447 : decode cL_agree 447 = .ok (.if_icmp .ne 17, 3) := by decide +kernel
theorem dL_agree_450 : decode cL_agree 450 = .ok (.aload_n 0, 1) := by decide +kernel
theorem dL_agree_451 : decode cL_agree 451 = .ok (.iload 10, 2) := by decide +kernel
theorem dL_agree_453 : decode cL_agree 453 = .ok (.iconst 2, 1) := by decide +kernel
theorem dL_agree_454 : decode cL_agree 454 = .ok (.invokevirtual 24, 3) := by decide +kernel
theorem dL_agree_457 : decode cL_agree 457 = .ok (.aload_n 3, 1) := by decide +kernel
theorem dL_agree_458 : decode cL_agree 458 = .ok (.iload 10, 2) := by decide +kernel
theorem dL_agree_460 : decode cL_agree 460 = .ok (.iaload, 1) := by decide +kernel
theorem dL_agree_461 : decode cL_agree 461 = .ok (.if_icmp .eq 5, 3) := by decide +kernel
theorem dL_agree_464 : decode cL_agree 464 = .ok (.iconst 0, 1) := by decide +kernel
theorem dL_agree_465 : decode cL_agree 465 = .ok (.ireturn, 1) := by decide +kernel
theorem dL_agree_466 : decode cL_agree 466 = .ok (.iconst 0, 1) := by decide +kernel
theorem dL_agree_467 : decode cL_agree 467 = .ok (.istore 11, 2) := by decide +kernel
theorem dL_agree_469 : decode cL_agree 469 = .ok (.iload 11, 2) := by decide +kernel
theorem dL_agree_471 : decode cL_agree 471 = .ok (.iconst 4, 1) := by decide +kernel
theorem dL_agree_472 : decode cL_agree 472 = .ok (.if_icmp .ge 117, 3) := by decide +kernel
theorem dL_agree_475 : decode cL_agree 475 = .ok (.aload_n 0, 1) := by decide +kernel
theorem dL_agree_476 : decode cL_agree 476 = .ok (.iload 10, 2) := by decide +kernel
theorem dL_agree_478 : decode cL_agree 478 = .ok (.iload 11, 2) := by decide +kernel
theorem dL_agree_480 : decode cL_agree 480 = .ok (.invokestatic 27, 3) := by decide +kernel
theorem dL_agree_483 : decode cL_agree 483 = .ok (.istore 12, 2) := by decide +kernel
theorem dL_agree_485 : decode cL_agree 485 = .ok (.aload_n 0, 1) := by decide +kernel
theorem dL_agree_486 : decode cL_agree 486 = .ok (.iload 10, 2) := by decide +kernel
theorem dL_agree_488 : decode cL_agree 488 = .ok (.iconst 3, 1) := by decide +kernel
theorem dL_agree_489 : decode cL_agree 489 = .ok (.iload 11, 2) := by decide +kernel
theorem dL_agree_491 : decode cL_agree 491 = .ok (.iadd, 1) := by decide +kernel
theorem dL_agree_492 : decode cL_agree 492 = .ok (.invokevirtual 24, 3) := by decide +kernel
theorem dL_agree_495 : decode cL_agree 495 = .ok (.istore 13, 2) := by decide +kernel
theorem dL_agree_497 : decode cL_agree 497 = .ok (.iload 9, 2) := by decide +kernel
theorem dL_agree_499 : decode cL_agree 499 = .ok (.aload_n 0, 1) := by decide +kernel
theorem dL_agree_500 : decode cL_agree 500 = .ok (.iload 10, 2) := by decide +kernel
theorem dL_agree_502 : decode cL_agree 502 = .ok (.bipush 7, 2) := by decide +kernel
theorem dL_agree_504 : decode cL_agree 504 = .ok (.iload 11, 2) := by decide +kernel
theorem dL_agree_506 : decode cL_agree 506 = .ok (.iadd, 1) := by decide +kernel
theorem dL_agree_507 : decode cL_agree 507 = .ok (.invokevirtual 24, 3) := by decide +kernel
theorem dL_agree_510 : decode cL_agree 510 = .ok (.iadd, 1) := by decide +kernel
theorem dL_agree_511 : decode cL_agree 511 = .ok (.istore 9, 2) := by decide +kernel
theorem dL_agree_513 : decode cL_agree 513 = .ok (.iload 8, 2) := by decide +kernel
theorem dL_agree_515 : decode cL_agree 515 = .ok (.iload 13, 2) := by decide +kernel
theorem dL_agree_517 : decode cL_agree 517 = .ok (.ifCond .ne 14, 3) := by decide +kernel
theorem dL_agree_520 : decode cL_agree 520 = .ok (.iload 11, 2) := by decide +kernel
theorem dL_agree_522 : decode cL_agree 522 = .ok (.iconst 2, 1) := by decide +kernel
theorem dL_agree_523 : decode cL_agree 523 = .ok (.irem, 1) := by decide +kernel
theorem dL_agree_524 : decode cL_agree 524 = .ok (.ifCond .ne 7, 3) := by decide +kernel
theorem dL_agree_527 : decode cL_agree 527 = .ok (.iconst 1, 1) := by decide +kernel
theorem dL_agree_528 : decode cL_agree 528 = .ok (.goto 4, 3) := by decide +kernel
theorem dL_agree_531 : decode cL_agree 531 = .ok (.iconst 0, 1) := by decide +kernel
theorem dL_agree_532 : decode cL_agree 532 = .ok (.iadd, 1) := by decide +kernel
theorem dL_agree_533 : decode cL_agree 533 = .ok (.istore 8, 2) := by decide +kernel
theorem dL_agree_535 : decode cL_agree 535 = .ok (.iload 12, 2) := by decide +kernel
theorem dL_agree_537 : decode cL_agree 537 = .ok (.ifCond .ge 27, 3) := by decide +kernel
theorem dL_agree_540 : decode cL_agree 540 = .ok (.iload 13, 2) := by decide +kernel
theorem dL_agree_542 : decode cL_agree 542 = .ok (.bipush (-6), 2) := by decide +kernel
theorem dL_agree_544 : decode cL_agree 544 = .ok (.if_icmp .ne 37, 3) := by decide +kernel
theorem dL_agree_547 : decode cL_agree 547 = .ok (.aload_n 0, 1) := by decide +kernel
theorem dL_agree_548 : decode cL_agree 548 = .ok (.iload 10, 2) := by decide +kernel
theorem dL_agree_550 : decode cL_agree 550 = .ok (.bipush 7, 2) := by decide +kernel
theorem dL_agree_552 : decode cL_agree 552 = .ok (.iload 11, 2) := by decide +kernel
theorem dL_agree_554 : decode cL_agree 554 = .ok (.iadd, 1) := by decide +kernel
theorem dL_agree_555 : decode cL_agree 555 = .ok (.invokevirtual 24, 3) := by decide +kernel
theorem dL_agree_558 : decode cL_agree 558 = .ok (.ifCond .eq 25, 3) := by decide +kernel
theorem dL_agree_561 : decode cL_agree 561 = .ok (.goto 20, 3) := by decide +kernel
theorem dL_agree_564 : decode cL_agree 564 = .ok (.iload 13, 2) := by decide +kernel
theorem dL_agree_566 : decode cL_agree 566 = .ok (.aload_n 0, 1) := by decide +kernel
theorem dL_agree_567 : decode cL_agree 567 = .ok (.iload 12, 2) := by decide +kernel
theorem dL_agree_569 : decode cL_agree 569 = .ok (.iconst 3, 1) := by decide +kernel
theorem dL_agree_570 : decode cL_agree 570 = .ok (.iload 11, 2) := by decide +kernel
theorem dL_agree_572 : decode cL_agree 572 = .ok (.iconst 1, 1) := by decide +kernel
theorem dL_agree_573 : decode cL_agree 573 = .ok (.ixor, 1) := by decide +kernel
theorem dL_agree_574 : decode cL_agree 574 = .ok (.iadd, 1) := by decide +kernel
theorem dL_agree_575 : decode cL_agree 575 = .ok (.invokevirtual 24, 3) := by decide +kernel
theorem dL_agree_578 : decode cL_agree 578 = .ok (.if_icmp .eq 5, 3) := by decide +kernel
theorem dL_agree_581 : decode cL_agree 581 = .ok (.iconst 0, 1) := by decide +kernel
theorem dL_agree_582 : decode cL_agree 582 = .ok (.ireturn, 1) := by decide +kernel
theorem dL_agree_583 : decode cL_agree 583 = .ok (.iinc 11 1, 3) := by decide +kernel
theorem dL_agree_586 : decode cL_agree 586 = .ok (.goto (-117), 3) := by decide +kernel
theorem dL_agree_589 : decode cL_agree 589 = .ok (.iinc 10 1, 3) := by decide +kernel
theorem dL_agree_592 : decode cL_agree 592 = .ok (.goto (-180), 3) := by decide +kernel
theorem dL_agree_595 : decode cL_agree 595 = .ok (.iload 9, 2) := by decide +kernel
theorem dL_agree_597 : decode cL_agree 597 = .ok (.iload 4, 2) := by decide +kernel
theorem dL_agree_599 : decode cL_agree 599 = .ok (.if_icmp .ne 88, 3) := by decide +kernel
theorem dL_agree_602 : decode cL_agree 602 = .ok (.aload_n 0, 1) := by decide +kernel
theorem dL_agree_603 : decode cL_agree 603 = .ok (.bipush 7, 2) := by decide +kernel
theorem dL_agree_605 : decode cL_agree 605 = .ok (.invokevirtual 8, 3) := by decide +kernel
theorem dL_agree_608 : decode cL_agree 608 = .ok (.iload 4, 2) := by decide +kernel
theorem dL_agree_610 : decode cL_agree 610 = .ok (.if_icmp .ne 77, 3) := by decide +kernel
theorem dL_agree_613 : decode cL_agree 613 = .ok (.aload_n 0, 1) := by decide +kernel
theorem dL_agree_614 : decode cL_agree 614 = .ok (.bipush 8, 2) := by decide +kernel
theorem dL_agree_616 : decode cL_agree 616 = .ok (.invokevirtual 8, 3) := by decide +kernel
theorem dL_agree_619 : decode cL_agree 619 = .ok (.iload 5, 2) := by decide +kernel
theorem dL_agree_621 : decode cL_agree 621 = .ok (.if_icmp .ne 66, 3) := by decide +kernel
theorem dL_agree_624 : decode cL_agree 624 = .ok (.aload_n 0, 1) := by decide +kernel
theorem dL_agree_625 : decode cL_agree 625 = .ok (.bipush 9, 2) := by decide +kernel
theorem dL_agree_627 : decode cL_agree 627 = .ok (.invokevirtual 8, 3) := by decide +kernel
theorem dL_agree_630 : decode cL_agree 630 = .ok (.iload 6, 2) := by decide +kernel
theorem dL_agree_632 : decode cL_agree 632 = .ok (.if_icmp .ne 55, 3) := by decide +kernel
theorem dL_agree_635 : decode cL_agree 635 = .ok (.aload_n 0, 1) := by decide +kernel
theorem dL_agree_636 : decode cL_agree 636 = .ok (.bipush 10, 2) := by decide +kernel
theorem dL_agree_638 : decode cL_agree 638 = .ok (.invokevirtual 8, 3) := by decide +kernel
theorem dL_agree_641 : decode cL_agree 641 = .ok (.iload 7, 2) := by decide +kernel
theorem dL_agree_643 : decode cL_agree 643 = .ok (.if_icmp .ne 44, 3) := by decide +kernel
theorem dL_agree_646 : decode cL_agree 646 = .ok (.aload_n 0, 1) := by decide +kernel
theorem dL_agree_647 : decode cL_agree 647 = .ok (.bipush 11, 2) := by decide +kernel
theorem dL_agree_649 : decode cL_agree 649 = .ok (.invokevirtual 8, 3) := by decide +kernel
theorem dL_agree_652 : decode cL_agree 652 = .ok (.iload 8, 2) := by decide +kernel
theorem dL_agree_654 : decode cL_agree 654 = .ok (.if_icmp .ne 33, 3) := by decide +kernel
theorem dL_agree_657 : decode cL_agree 657 = .ok (.aload_n 0, 1) := by decide +kernel
theorem dL_agree_658 : decode cL_agree 658 = .ok (.iconst 4, 1) := by decide +kernel
theorem dL_agree_659 : decode cL_agree 659 = .ok (.invokevirtual 8, 3) := by decide +kernel
theorem dL_agree_662 : decode cL_agree 662 = .ok (.aload_n 0, 1) := by decide +kernel
theorem dL_agree_663 : decode cL_agree 663 = .ok (.iconst 5, 1) := by decide +kernel
theorem dL_agree_664 : decode cL_agree 664 = .ok (.invokevirtual 8, 3) := by decide +kernel
theorem dL_agree_667 : decode cL_agree 667 = .ok (.iadd, 1) := by decide +kernel
theorem dL_agree_668 : decode cL_agree 668 = .ok (.aload_n 0, 1) := by decide +kernel
theorem dL_agree_669 : decode cL_agree 669 = .ok (.bipush 6, 2) := by decide +kernel
theorem dL_agree_671 : decode cL_agree 671 = .ok (.invokevirtual 8, 3) := by decide +kernel
theorem dL_agree_674 : decode cL_agree 674 = .ok (.iadd, 1) := by decide +kernel
theorem dL_agree_675 : decode cL_agree 675 = .ok (.aload_n 0, 1) := by decide +kernel
theorem dL_agree_676 : decode cL_agree 676 = .ok (.iconst 3, 1) := by decide +kernel
theorem dL_agree_677 : decode cL_agree 677 = .ok (.invokevirtual 8, 3) := by decide +kernel
theorem dL_agree_680 : decode cL_agree 680 = .ok (.if_icmp .ne 7, 3) := by decide +kernel
theorem dL_agree_683 : decode cL_agree 683 = .ok (.iconst 1, 1) := by decide +kernel
theorem dL_agree_684 : decode cL_agree 684 = .ok (.goto 4, 3) := by decide +kernel
theorem dL_agree_687 : decode cL_agree 687 = .ok (.iconst 0, 1) := by decide +kernel
theorem dL_agree_688 : decode cL_agree 688 = .ok (.ireturn, 1) := by decide +kernel
theorem dL_isTick_0 : decode cL_isTick 0 = .ok (.aload_n 0, 1) := by decide +kernel
theorem dL_isTick_1 : decode cL_isTick 1 = .ok (.iconst 3, 1) := by decide +kernel
theorem dL_isTick_2 : decode cL_isTick 2 = .ok (.invokevirtual 8, 3) := by decide +kernel
theorem dL_isTick_5 : decode cL_isTick 5 = .ok (.istore_n 1, 1) := by decide +kernel
theorem dL_isTick_6 : decode cL_isTick 6 = .ok (.bipush 40, 2) := by decide +kernel
theorem dL_isTick_8 : decode cL_isTick 8 = .ok (.newarray .int, 2) := by decide +kernel
theorem dL_isTick_10 : decode cL_isTick 10 = .ok (.astore_n 2, 1) := by decide +kernel
theorem dL_isTick_11 : decode cL_isTick 11 = .ok (.bipush 40, 2) := by decide +kernel
theorem dL_isTick_13 : decode cL_isTick 13 = .ok (.newarray .int, 2) := by decide +kernel
theorem dL_isTick_15 : decode cL_isTick 15 = .ok (.astore_n 3, 1) := by decide +kernel
theorem dL_isTick_16 : decode cL_isTick 16 = .ok (.bipush 40, 2) := by decide +kernel
theorem dL_isTick_18 : decode cL_isTick 18 = .ok (.newarray .int, 2) := by decide +kernel
theorem dL_isTick_20 : decode cL_isTick 20 = .ok (.astore 4, 2) := by decide +kernel
theorem dL_isTick_22 : decode cL_isTick 22 = .ok (.bipush 40, 2) := by decide +kernel
theorem dL_isTick_24 : decode cL_isTick 24 = .ok (.newarray .int, 2) := by decide +kernel
theorem dL_isTick_26 : decode cL_isTick 26 = .ok (.astore 5, 2) := by decide +kernel
theorem dL_isTick_28 : decode cL_isTick 28 = .ok (.bipush 40, 2) := by decide +kernel
theorem dL_isTick_30 : decode cL_isTick 30 = .ok (.newarray .int, 2) := by decide +kernel
theorem dL_isTick_32 : decode cL_isTick 32 = .ok (.astore 6, 2) := by decide +kernel
theorem dL_isTick_34 : decode cL_isTick 34 = .ok (.bipush 25, 2) := by decide +kernel
theorem dL_isTick_36 : decode cL_isTick 36 = .ok (.newarray .int, 2) := by decide +kernel
theorem dL_isTick_38 : decode cL_isTick 38 = .ok (.astore 7, 2) := by decide +kernel
theorem dL_isTick_40 : decode cL_isTick 40 = .ok (.iconst 0, 1) := by decide +kernel
theorem dL_isTick_41 : decode cL_isTick 41 = .ok (.istore 8, 2) := by decide +kernel
theorem dL_isTick_43 : decode cL_isTick 43 = .ok (.iload 8, 2) := by decide +kernel
theorem dL_isTick_45 : decode cL_isTick 45 = .ok (.iload_n 1, 1) := by decide +kernel
theorem dL_isTick_46 : decode cL_isTick 46 = .ok (.if_icmp .ge 92, 3) := by decide +kernel
theorem dL_isTick_49 : decode cL_isTick 49 = .ok (.aload 6, 2) := by decide +kernel
theorem dL_isTick_51 : decode cL_isTick 51 = .ok (.iload 8, 2) := by decide +kernel
theorem dL_isTick_53 : decode cL_isTick 53 = .ok (.aload_n 0, 1) := by decide +kernel
theorem dL_isTick_54 : decode cL_isTick 54 = .ok (.iload 8, 2) := by decide +kernel
theorem dL_isTick_56 : decode cL_isTick 56 = .ok (.bipush 11, 2) := by decide +kernel
theorem dL_isTick_58 : decode cL_isTick 58 = .ok (.invokevirtual 14, 3) := by decide +kernel
theorem dL_isTick_61 : decode cL_isTick 61 = .ok (.iastore, 1) := by decide +kernel
theorem dL_isTick_62 : decode cL_isTick 62 = .ok (.aload_n 2, 1) := by decide +kernel
theorem dL_isTick_63 : decode cL_isTick 63 = .ok (.iload 8, 2) := by decide +kernel
theorem dL_isTick_65 : decode cL_isTick 65 = .ok (.aload_n 0, 1) := by decide +kernel
theorem dL_isTick_66 : decode cL_isTick 66 = .ok (.iload 8, 2) := by decide +kernel
theorem dL_isTick_68 : decode cL_isTick 68 = .ok (.iconst 3, 1) := by decide +kernel
theorem dL_isTick_69 : decode cL_isTick 69 = .ok (.invokevirtual 14, 3) := by decide +kernel
theorem dL_isTick_72 : decode cL_isTick 72 = .ok (.iastore, 1) := by decide +kernel
theorem dL_isTick_73 : decode cL_isTick 73 = .ok (.aload_n 3, 1) := by decide +kernel
theorem dL_isTick_74 : decode cL_isTick 74 = .ok (.iload 8, 2) := by decide +kernel
theorem dL_isTick_76 : decode cL_isTick 76 = .ok (.aload_n 0, 1) := by decide +kernel
theorem dL_isTick_77 : decode cL_isTick 77 = .ok (.iload 8, 2) := by decide +kernel
theorem dL_isTick_79 : decode cL_isTick 79 = .ok (.iconst 2, 1) := by decide +kernel
theorem dL_isTick_80 : decode cL_isTick 80 = .ok (.invokevirtual 14, 3) := by decide +kernel
theorem dL_isTick_83 : decode cL_isTick 83 = .ok (.iastore, 1) := by decide +kernel
theorem dL_isTick_84 : decode cL_isTick 84 = .ok (.aload 4, 2) := by decide +kernel
theorem dL_isTick_86 : decode cL_isTick 86 = .ok (.iload 8, 2) := by decide +kernel
theorem dL_isTick_88 : decode cL_isTick 88 = .ok (.aload_n 0, 1) := by decide +kernel
theorem dL_isTick_89 : decode cL_isTick 89 = .ok (.iload 8, 2) := by decide +kernel
theorem dL_isTick_91 : decode cL_isTick 91 = .ok (.bipush 6, 2) := by decide +kernel
theorem dL_isTick_93 : decode cL_isTick 93 = .ok (.invokevirtual 14, 3) := by decide +kernel
theorem dL_isTick_96 : decode cL_isTick 96 = .ok (.iastore, 1) := by decide +kernel
theorem dL_isTick_97 : decode cL_isTick 97 = .ok (.aload 5, 2) := by decide +kernel
theorem dL_isTick_99 : decode cL_isTick 99 = .ok (.iload 8, 2) := by decide +kernel
theorem dL_isTick_101 : decode cL_isTick 101 = .ok (.aload_n 0, 1) := by decide +kernel
theorem dL_isTick_102 : decode cL_isTick 102 = .ok (.iload 8, 2) := by decide +kernel
theorem dL_isTick_104 : decode cL_isTick 104 = .ok (.iconst 4, 1) := by decide +kernel
theorem dL_isTick_105 : decode cL_isTick 105 = .ok (.invokevirtual 14, 3) := by decide +kernel
theorem dL_isTick_108 : decode cL_isTick 108 = .ok (.iastore, 1) := by decide +kernel
theorem dL_isTick_109 : decode cL_isTick 109 = .ok (.aload 7, 2) := by decide +kernel
theorem dL_isTick_111 : decode cL_isTick 111 = .ok (.aload_n 2, 1) := by decide +kernel
theorem dL_isTick_112 : decode cL_isTick 112 = .ok (.iload 8, 2) := by decide +kernel
theorem dL_isTick_114 : decode cL_isTick 114 = .ok (.iaload, 1) := by decide +kernel
theorem dL_isTick_115 : decode cL_isTick 115 = .ok (.dup2, 1) := by decide +kernel
theorem dL_isTick_116 : decode cL_isTick 116 = .ok (.iaload, 1) := by decide +kernel
theorem dL_isTick_117 : decode cL_isTick 117 = .ok (.aload_n 3, 1) := by decide +kernel
theorem dL_isTick_118 : decode cL_isTick 118 = .ok (.iload 8, 2) := by decide +kernel
theorem dL_isTick_120 : decode cL_isTick 120 = .ok (.iaload, 1) := by decide +kernel
theorem dL_isTick_121 : decode cL_isTick 121 = .ok (.iconst 1, 1) := by decide +kernel
theorem dL_isTick_122 : decode cL_isTick 122 = .ok (.if_icmp .ne 7, 3) := by decide +kernel
theorem dL_isTick_125 : decode cL_isTick 125 = .ok (.iconst 1, 1) := by decide +kernel
theorem dL_isTick_126 : decode cL_isTick 126 = .ok (.goto 4, 3) := by decide +kernel
theorem dL_isTick_129 : decode cL_isTick 129 = .ok (.iconst 0, 1) := by decide +kernel
theorem dL_isTick_130 : decode cL_isTick 130 = .ok (.iadd, 1) := by decide +kernel
theorem dL_isTick_131 : decode cL_isTick 131 = .ok (.iastore, 1) := by decide +kernel
theorem dL_isTick_132 : decode cL_isTick 132 = .ok (.iinc 8 1, 3) := by decide +kernel
theorem dL_isTick_135 : decode cL_isTick 135 = .ok (.goto (-92), 3) := by decide +kernel
theorem dL_isTick_138 : decode cL_isTick 138 = .ok (.aload_n 0, 1) := by decide +kernel
theorem dL_isTick_139 : decode cL_isTick 139 = .ok (.iconst 0, 1) := by decide +kernel
theorem dL_isTick_140 : decode cL_isTick 140 = .ok (.invokevirtual 8, 3) := by decide +kernel
theorem dL_isTick_143 : decode cL_isTick 143 = .ok (.istore 8, 2) := by decide +kernel
theorem dL_isTick_145 : decode cL_isTick 145 = .ok (.aload_n 0, 1) := by decide +kernel
theorem dL_isTick_146 : decode cL_isTick 146 = .ok (.bipush 16, 2) := by decide +kernel
theorem dL_isTick_148 : decode cL_isTick 148 = .ok (.invokevirtual 8, 3) := by decide +kernel
theorem dL_isTick_151 : decode cL_isTick 151 = .ok (.istore 9, 2) := by decide +kernel
theorem dL_isTick_153 : decode cL_isTick 153 = .ok (.aload_n 0, 1) := by decide +kernel
theorem dL_isTick_154 : decode cL_isTick 154 = .ok (.iconst 1, 1) := by decide +kernel
theorem dL_isTick_155 : decode cL_isTick 155 = .ok (.invokevirtual 30, 3) := by decide +kernel
theorem dL_isTick_158 : decode cL_isTick 158 = .ok (.iload 8, 2) := by decide +kernel
theorem dL_isTick_160 : decode cL_isTick 160 = .ok (.iconst 1, 1) := by decide +kernel
theorem dL_isTick_161 : decode cL_isTick 161 = .ok (.iadd, 1) := by decide +kernel
theorem dL_isTick_162 : decode cL_isTick 162 = .ok (.if_icmp .eq 5, 3) := by decide +kernel
theorem dL_isTick_165 : decode cL_isTick 165 = .ok (.iconst 0, 1) := by decide +kernel
theorem dL_isTick_166 : decode cL_isTick 166 = .ok (.ireturn, 1) := by decide +kernel
theorem dL_isTick_167 : decode cL_isTick 167 = .ok (.iconst 0, 1) := by decide +kernel
theorem dL_isTick_168 : decode cL_isTick 168 = .ok (.istore 10, 2) := by decide +kernel
theorem dL_isTick_170 : decode cL_isTick 170 = .ok (.iload 10, 2) := by decide +kernel
theorem dL_isTick_172 : decode cL_isTick 172 = .ok (.iload_n 1, 1) := by decide +kernel
theorem dL_isTick_173 : decode cL_isTick 173 = .ok (.if_icmp .ge 462, 3) := by decide +kernel
theorem dL_isTick_176 : decode cL_isTick 176 = .ok (.aload_n 0, 1) := by decide +kernel
theorem dL_isTick_177 : decode cL_isTick 177 = .ok (.iload 10, 2) := by decide +kernel
theorem dL_isTick_179 : decode cL_isTick 179 = .ok (.iconst 3, 1) := by decide +kernel
theorem dL_isTick_180 : decode cL_isTick 180 = .ok (.invokevirtual 14, 3) := by decide +kernel
theorem dL_isTick_183 : decode cL_isTick 183 = .ok (.istore 11, 2) := by decide +kernel
theorem dL_isTick_185 : decode cL_isTick 185 = .ok (.aload_n 0, 1) := by decide +kernel
theorem dL_isTick_186 : decode cL_isTick 186 = .ok (.iload 10, 2) := by decide +kernel
theorem dL_isTick_188 : decode cL_isTick 188 = .ok (.iconst 4, 1) := by decide +kernel
theorem dL_isTick_189 : decode cL_isTick 189 = .ok (.invokevirtual 14, 3) := by decide +kernel
theorem dL_isTick_192 : decode cL_isTick 192 = .ok (.istore 12, 2) := by decide +kernel
theorem dL_isTick_194 : decode cL_isTick 194 = .ok (.aload_n 0, 1) := by decide +kernel
theorem dL_isTick_195 : decode cL_isTick 195 = .ok (.iload 10, 2) := by decide +kernel
theorem dL_isTick_197 : decode cL_isTick 197 = .ok (.bipush 6, 2) := by decide +kernel
theorem dL_isTick_199 : decode cL_isTick 199 = .ok (.invokevirtual 14, 3) := by decide +kernel
theorem dL_isTick_202 : decode cL_isTick 202 = .ok (.aload 4, 2) := by decide +kernel
theorem dL_isTick_204 : decode cL_isTick 204 = .ok (.iload 10, 2) := by decide +kernel
theorem dL_isTick_206 : decode cL_isTick 206 = .ok (.iaload, 1) := by decide +kernel
theorem dL_isTick_207 : decode cL_isTick 207 = .ok (.iconst 1, 1) := by decide +kernel
theorem dL_isTick_208 : decode cL_isTick 208 = .ok (.iadd, 1) := by decide +kernel
theorem dL_isTick_209 : decode cL_isTick 209 = .ok (.if_icmp .ne 7, 3) := by decide +kernel
theorem dL_isTick_212 : decode cL_isTick 212 = .ok (.iconst 1, 1) := by decide +kernel
theorem dL_isTick_213 : decode cL_isTick 213 = .ok (.goto 4, 3) := by decide +kernel
theorem dL_isTick_216 : decode cL_isTick 216 = .ok (.iconst 0, 1) := by decide +kernel
theorem dL_isTick_217 : decode cL_isTick 217 = .ok (.istore 13, 2) := by decide +kernel
theorem dL_isTick_219 : decode cL_isTick 219 = .ok (.aload_n 0, 1) := by decide +kernel
theorem dL_isTick_220 : decode cL_isTick 220 = .ok (.iload 10, 2) := by decide +kernel
theorem dL_isTick_222 : decode cL_isTick 222 = .ok (.bipush 6, 2) := by decide +kernel
theorem dL_isTick_224 : decode cL_isTick 224 = .ok (.invokevirtual 14, 3) := by decide +kernel
theorem dL_isTick_227 : decode cL_isTick 227 = .ok (.aload 4, 2) := by decide +kernel
theorem dL_isTick_229 : decode cL_isTick 229 = .ok (.iload 10, 2) := by decide +kernel
theorem dL_isTick_231 : decode cL_isTick 231 = .ok (.iaload, 1) := by decide +kernel
theorem dL_isTick_232 : decode cL_isTick 232 = .ok (.iload 13, 2) := by decide +kernel
theorem dL_isTick_234 : decode cL_isTick 234 = .ok (.ifCond .eq 7, 3) := by decide +kernel
theorem dL_isTick_237 : decode cL_isTick 237 = .ok (.iconst 1, 1) := by decide +kernel
theorem dL_isTick_238 : decode cL_isTick 238 = .ok (.goto 4, 3) := by decide +kernel
theorem dL_isTick_241 : decode cL_isTick 241 = .ok (.iconst 0, 1) := by decide +kernel
theorem dL_isTick_242 : decode cL_isTick 242 = .ok (.iadd, 1) := by decide +kernel
theorem dL_isTick_243 : decode cL_isTick 243 = .ok (.if_icmp .ne 28, 3) := by decide +kernel
theorem dL_isTick_246 : decode cL_isTick 246 = .ok (.iload 12, 2) := by decide +kernel
theorem dL_isTick_248 : decode cL_isTick 248 = .ok (.aload 5, 2) := by decide +kernel
theorem dL_isTick_250 : decode cL_isTick 250 = .ok (.iload 10, 2) := by decide +kernel
theorem dL_isTick_252 : decode cL_isTick 252 = .ok (.iaload, 1) := by decide +kernel
theorem dL_isTick_253 : decode cL_isTick 253 = .ok (.iload 11, 2) := by decide +kernel
theorem dL_isTick_255 : decode cL_isTick 255 = .ok (.aload_n 2, 1) := by decide +kernel
theorem dL_isTick_256 : decode cL_isTick 256 = .ok (.iload 10, 2) := by decide +kernel
theorem dL_isTick_258 : decode cL_isTick 258 = .ok (.iaload, 1) := by decide +kernel
theorem dL_isTick_259 : decode cL_isTick 259 = .ok (.if_icmp .ne 7, 3) := by decide +kernel
theorem dL_isTick_262 : decode cL_isTick 262 = .ok (.iconst 0, 1) := by decide +kernel
theorem dL_isTick_263 : decode cL_isTick 263 = .ok (.goto 4, 3) := by decide +kernel
theorem dL_isTick_266 : decode cL_isTick 266 = .ok (.iconst 1, 1) := by decide +kernel
theorem dL_isTick_267 : decode cL_isTick 267 = .ok (.iadd, 1) := by decide +kernel
theorem dL_isTick_268 : decode cL_isTick 268 = .ok (.if_icmp .eq 5, 3) := by decide +kernel
theorem dL_isTick_271 : decode cL_isTick 271 = .ok (.iconst 0, 1) := by decide +kernel
theorem dL_isTick_272 : decode cL_isTick 272 = .ok (.ireturn, 1) := by decide +kernel
theorem dL_isTick_273 : decode cL_isTick 273 = .ok (.aload_n 3, 1) := by decide +kernel
theorem dL_isTick_274 : decode cL_isTick 274 = .ok (.iload 10, 2) := by decide +kernel
theorem dL_isTick_276 : decode cL_isTick 276 = .ok (.iaload, 1) := by decide +kernel
theorem dL_isTick_277 : decode cL_isTick 277 = .ok (.iconst 2, 1) := by decide +kernel
theorem dL_isTick_278 : decode cL_isTick 278 = .ok (.if_icmp .ne 19, 3) := by decide +kernel
theorem dL_isTick_281 : decode cL_isTick 281 = .ok (.iload 13, 2) := by decide +kernel
theorem dL_isTick_283 : decode cL_isTick 283 = .ok (.ifCond .ne 12, 3) := by decide +kernel
theorem dL_isTick_286 : decode cL_isTick 286 = .ok (.iload 11, 2) := by decide +kernel
theorem dL_isTick_288 : decode cL_isTick 288 = .ok (.aload_n 2, 1) := by decide +kernel
theorem dL_isTick_289 : decode cL_isTick 289 = .ok (.iload 10, 2) := by decide +kernel
theorem dL_isTick_291 : decode cL_isTick 291 = .ok (.iaload, 1) := by decide +kernel
theorem dL_isTick_292 : decode cL_isTick 292 = .ok (.if_icmp .eq 5, 3) := by decide +kernel
theorem dL_isTick_295 : decode cL_isTick 295 = .ok (.iconst 0, 1) := by decide +kernel
theorem dL_isTick_296 : decode cL_isTick 296 = .ok (.ireturn, 1) := by decide +kernel
theorem dL_isTick_297 : decode cL_isTick 297 = .ok (.aload_n 3, 1) := by decide +kernel
theorem dL_isTick_298 : decode cL_isTick 298 = .ok (.iload 10, 2) := by decide +kernel
theorem dL_isTick_300 : decode cL_isTick 300 = .ok (.iaload, 1) := by decide +kernel
theorem dL_isTick_301 : decode cL_isTick 301 = .ok (.ifCond .ne 80, 3) := by decide +kernel
theorem dL_isTick_304 : decode cL_isTick 304 = .ok (.aload 7, 2) := by decide +kernel
theorem dL_isTick_306 : decode cL_isTick 306 = .ok (.aload_n 2, 1) := by decide +kernel
theorem dL_isTick_307 : decode cL_isTick 307 = .ok (.iload 10, 2) := by decide +kernel
theorem dL_isTick_309 : decode cL_isTick 309 = .ok (.iaload, 1) := by decide +kernel
theorem dL_isTick_310 : decode cL_isTick 310 = .ok (.iaload, 1) := by decide +kernel
theorem dL_isTick_311 : decode cL_isTick 311 = .ok (.iload 9, 2) := by decide +kernel
theorem dL_isTick_313 : decode cL_isTick 313 = .ok (.if_icmp .ge 7, 3) := by decide +kernel
theorem dL_isTick_316 : decode cL_isTick 316 = .ok (.iconst 1, 1) := by decide +kernel
theorem dL_isTick_317 : decode cL_isTick 317 = .ok (.goto 4, 3) := by decide +kernel
theorem dL_isTick_320 : decode cL_isTick 320 = .ok (.iconst 0, 1) := by decide +kernel
theorem dL_isTick_321 : decode cL_isTick 321 = .ok (.istore 14, 2) := by decide +kernel
theorem dL_isTick_323 : decode cL_isTick 323 = .ok (.iload 11, 2) := by decide +kernel
theorem dL_isTick_325 : decode cL_isTick 325 = .ok (.aload_n 2, 1) := by decide +kernel
theorem dL_isTick_326 : decode cL_isTick 326 = .ok (.iload 10, 2) := by decide +kernel
theorem dL_isTick_328 : decode cL_isTick 328 = .ok (.iaload, 1) := by decide +kernel
theorem dL_isTick_329 : decode cL_isTick 329 = .ok (.if_icmp .ne 30, 3) := by decide +kernel
theorem dL_isTick_332 : decode cL_isTick 332 = .ok (.iload 13, 2) := by decide +kernel
theorem dL_isTick_334 : decode cL_isTick 334 = .ok (.iload 14, 2) := by decide +kernel
theorem dL_isTick_336 : decode cL_isTick 336 = .ok (.if_icmp .eq 23, 3) := by decide +kernel
theorem dL_isTick_339 : decode cL_isTick 339 = .ok (.aload_n 0, 1) := by decide +kernel
theorem dL_isTick_340 : decode cL_isTick 340 = .ok (.iload 10, 2) := by decide +kernel
theorem dL_isTick_342 : decode cL_isTick 342 = .ok (.iconst 2, 1) := by decide +kernel
theorem dL_isTick_343 : decode cL_isTick 343 = .ok (.invokevirtual 14, 3) := by decide +kernel
theorem dL_isTick_346 : decode cL_isTick 346 = .ok (.iload 14, 2) := by decide +kernel
theorem dL_isTick_348 : decode cL_isTick 348 = .ok (.ifCond .eq 7, 3) := by decide +kernel
theorem dL_isTick_351 : decode cL_isTick 351 = .ok (.iconst 1, 1) := by decide +kernel
theorem dL_isTick_352 : decode cL_isTick 352 = .ok (.goto 4, 3) := by decide +kernel
theorem dL_isTick_355 : decode cL_isTick 355 = .ok (.iconst 0, 1) := by decide +kernel
theorem dL_isTick_356 : decode cL_isTick 356 = .ok (.if_icmp .eq 5, 3) := by decide +kernel
theorem dL_isTick_359 : decode cL_isTick 359 = .ok (.iconst 0, 1) := by decide +kernel
theorem dL_isTick_360 : decode cL_isTick 360 = .ok (.ireturn, 1) := by decide +kernel
theorem dL_isTick_361 : decode cL_isTick 361 = .ok (.aload 7, 2) := by decide +kernel
theorem dL_isTick_363 : decode cL_isTick 363 = .ok (.aload_n 2, 1) := by decide +kernel
theorem dL_isTick_364 : decode cL_isTick 364 = .ok (.iload 10, 2) := by decide +kernel
theorem dL_isTick_366 : decode cL_isTick 366 = .ok (.iaload, 1) := by decide +kernel
theorem dL_isTick_367 : decode cL_isTick 367 = .ok (.dup2, 1) := by decide +kernel
theorem dL_isTick_368 : decode cL_isTick 368 = .ok (.iaload, 1) := by decide +kernel
theorem dL_isTick_369 : decode cL_isTick 369 = .ok (.iload 14, 2) := by decide +kernel
theorem dL_isTick_371 : decode cL_isTick 371 = .ok (.ifCond .eq 7, 3) := by decide +kernel
theorem dL_isTick_374 : decode cL_isTick 374 = .ok (.iconst 1, 1) := by decide +kernel
theorem dL_isTick_375 : decode cL_isTick 375 = .ok (.goto 4, 3) := by decide +kernel
theorem dL_isTick_378 : decode cL_isTick 378 = .ok (.iconst 0, 1) := by decide +kernel
theorem dL_isTick_379 : decode cL_isTick 379 = .ok (.iadd, 1) := by decide +kernel
theorem dL_isTick_380 : decode cL_isTick 380 = .ok (.iastore, 1) := by decide +kernel
theorem dL_isTick_381 : decode cL_isTick 381 = .ok (.aload_n 3, 1) := by decide +kernel
theorem dL_isTick_382 : decode cL_isTick 382 = .ok (.iload 10, 2) := by decide +kernel
theorem dL_isTick_384 : decode cL_isTick 384 = .ok (.iaload, 1) := by decide +kernel
theorem dL_isTick_385 : decode cL_isTick 385 = .ok (.iconst 1, 1) := by decide +kernel
theorem dL_isTick_386 : decode cL_isTick 386 = .ok (.if_icmp .ne 243, 3) := by decide +kernel
theorem dL_isTick_389 : decode cL_isTick 389 = .ok (.iload 13, 2) := by decide +kernel
theorem dL_isTick_391 : decode cL_isTick 391 = .ok (.ifCond .eq 15, 3) := by decide +kernel
theorem dL_isTick_394 : decode cL_isTick 394 = .ok (.iload 11, 2) := by decide +kernel
theorem dL_isTick_396 : decode cL_isTick 396 = .ok (.aload_n 2, 1) := by decide +kernel
theorem dL_isTick_397 : decode cL_isTick 397 = .ok (.iload 10, 2) := by decide +kernel
theorem dL_isTick_399 : decode cL_isTick 399 = .ok (.iaload, 1) := by decide +kernel
theorem dL_isTick_400 : decode cL_isTick 400 = .ok (.if_icmp .eq 31, 3) := by decide +kernel
theorem dL_isTick_403 : decode cL_isTick 403 = .ok (.goto 26, 3) := by decide +kernel
theorem dL_isTick_406 : decode cL_isTick 406 = .ok (.iload 11, 2) := by decide +kernel
theorem dL_isTick_408 : decode cL_isTick 408 = .ok (.aload_n 2, 1) := by decide +kernel
theorem dL_isTick_409 : decode cL_isTick 409 = .ok (.iload 10, 2) := by decide +kernel
theorem dL_isTick_411 : decode cL_isTick 411 = .ok (.iaload, 1) := by decide +kernel
theorem dL_isTick_412 : decode cL_isTick 412 = .ok (.if_icmp .eq 17, 3) := by decide +kernel
theorem dL_isTick_415 : decode cL_isTick 415 = .ok (.aload_n 0, 1) := by decide +kernel
theorem dL_isTick_416 : decode cL_isTick 416 = .ok (.iload 11, 2) := by decide +kernel
theorem dL_isTick_418 : decode cL_isTick 418 = .ok (.aload_n 2, 1) := by decide +kernel
theorem dL_isTick_419 : decode cL_isTick 419 = .ok (.iload 10, 2) := by decide +kernel
theorem dL_isTick_421 : decode cL_isTick 421 = .ok (.iaload, 1) := by decide +kernel
theorem dL_isTick_422 : decode cL_isTick 422 = .ok (.invokestatic 18, 3) := by decide +kernel
theorem dL_isTick_425 : decode cL_isTick 425 = .ok (.iconst 1, 1) := by decide +kernel
theorem dL_isTick_426 : decode cL_isTick 426 = .ok (.if_icmp .eq 5, 3) := by decide +kernel
theorem dL_isTick_429 : decode cL_isTick 429 = .ok (.iconst 0, 1) := by decide +kernel
theorem dL_isTick_430 : decode cL_isTick 430 = .ok (.ireturn, 1) := by decide +kernel
theorem dL_isTick_431 : decode cL_isTick 431 = .ok (.iload 11, 2) := by decide +kernel
theorem dL_isTick_433 : decode cL_isTick 433 = .ok (.aload_n 0, 1) := by decide +kernel
theorem dL_isTick_434 : decode cL_isTick 434 = .ok (.iload 10, 2) := by decide +kernel
theorem dL_isTick_436 : decode cL_isTick 436 = .ok (.iconst 1, 1) := by decide +kernel
theorem dL_isTick_437 : decode cL_isTick 437 = .ok (.invokevirtual 14, 3) := by decide +kernel
theorem dL_isTick_440 : decode cL_isTick 440 = .ok (.if_icmp .ne 7, 3) := by decide +kernel
theorem dL_isTick_443 : decode cL_isTick 443 = .ok (.iconst 1, 1) := by decide +kernel
theorem dL_isTick_444 : decode cL_isTick 444 = .ok (.goto 4, 3) := by decide +kernel
theorem dL_isTick_447 : decode cL_isTick 447 = .ok (.iconst 0, 1) := by decide +kernel
theorem dL_isTick_448 : decode cL_isTick 448 = .ok (.istore 14, 2) := by decide +kernel
theorem dL_isTick_450 : decode cL_isTick 450 = .ok (.aload 6, 2) := by decide +kernel
theorem dL_isTick_452 : decode cL_isTick 452 = .ok (.iload 10, 2) := by decide +kernel
theorem dL_isTick_454 : decode cL_isTick 454 = .ok (.iaload, 1) := by decide +kernel
theorem dL_isTick_455 : decode cL_isTick 455 = .ok (.ifCond .ge 7, 3) := by decide +kernel
theorem dL_isTick_458 : decode cL_isTick 458 = .ok (.iconst (-1), 1) := by decide +kernel
theorem dL_isTick_459 : decode cL_isTick 459 = .ok (.goto 16, 3) := by decide +kernel
theorem dL_isTick_462 : decode cL_isTick 462 = .ok (.aload_n 0, 1) := by decide +kernel
theorem dL_isTick_463 : decode cL_isTick 463 = .ok (.aload_n 2, 1) := by decide +kernel
theorem dL_isTick_464 : decode cL_isTick 464 = .ok (.iload 10, 2) := by decide +kernel
theorem dL_isTick_466 : decode cL_isTick 466 = .ok (.iaload, 1) := by decide +kernel
theorem dL_isTick_467 : decode cL_isTick 467 = .ok (.aload 6, 2) := by decide +kernel
theorem dL_isTick_469 : decode cL_isTick 469 = .ok (.iload 10, 2) := by decide +kernel
theorem dL_isTick_471 : decode cL_isTick 471 = .ok (.iaload, 1) := by decide +kernel
theorem dL_isTick_472 : decode cL_isTick 472 = .ok (.invokestatic 27, 3) := by decide +kernel
theorem dL_isTick_475 : decode cL_isTick 475 = .ok (.istore 15, 2) := by decide +kernel
theorem dL_isTick_477 : decode cL_isTick 477 = .ok (.iload 15, 2) := by decide +kernel
theorem dL_isTick_479 : decode cL_isTick 479 = .ok (.ifCond .ge 11, 3) := by decide +kernel
theorem dL_isTick_482 : decode cL_isTick 482 = .ok (.iload 13, 2) := by decide +kernel
theorem dL_isTick_484 : decode cL_isTick 484 = .ok (.ifCond .ne 37, 3) := by decide +kernel
theorem dL_isTick_487 : decode cL_isTick 487 = .ok (.goto 32, 3) := by decide +kernel
theorem dL_isTick_490 : decode cL_isTick 490 = .ok (.iload 15, 2) := by decide +kernel
theorem dL_isTick_492 : decode cL_isTick 492 = .ok (.aload_n 0, 1) := by decide +kernel
theorem dL_isTick_493 : decode cL_isTick 493 = .ok (.iload 10, 2) := by decide +kernel
theorem dL_isTick_495 : decode cL_isTick 495 = .ok (.iconst 1, 1) := by decide +kernel
theorem dL_isTick_496 : decode cL_isTick 496 = .ok (.invokevirtual 14, 3) := by decide +kernel
theorem dL_isTick_499 : decode cL_isTick 499 = .ok (.if_icmp .eq 13, 3) := by decide +kernel
theorem dL_isTick_502 : decode cL_isTick 502 = .ok (.aload 7, 2) := by decide +kernel
theorem dL_isTick_504 : decode cL_isTick 504 = .ok (.iload 15, 2) := by decide +kernel
theorem dL_isTick_506 : decode cL_isTick 506 = .ok (.iaload, 1) := by decide +kernel
theorem dL_isTick_507 : decode cL_isTick 507 = .ok (.iload 9, 2) := by decide +kernel
theorem dL_isTick_509 : decode cL_isTick 509 = .ok (.if_icmp .ge 12, 3) := by decide +kernel
theorem dL_isTick_512 : decode cL_isTick 512 = .ok (.iload 11, 2) := by decide +kernel
theorem dL_isTick_514 : decode cL_isTick 514 = .ok (.iload 15, 2) := by decide +kernel
theorem dL_isTick_516 : decode cL_isTick 516 = .ok (.if_icmp .eq 5, 3) := by decide +kernel
theorem dL_isTick_519 : decode cL_isTick 519 = .ok (.iconst 0, 1) := by decide +kernel
theorem dL_isTick_520 : decode cL_isTick 520 = .ok (.ireturn, 1) := by decide +kernel
theorem dL_isTick_521 : decode cL_isTick 521 = .ok (.iload 13, 2) := by decide +kernel
theorem dL_isTick_523 : decode cL_isTick 523 = .ok (.ifCond .ne 18, 3) := by decide +kernel
theorem dL_isTick_526 : decode cL_isTick 526 = .ok (.iload 14, 2) := by decide +kernel
theorem dL_isTick_528 : decode cL_isTick 528 = .ok (.ifCond .ne 13, 3) := by decide +kernel
theorem dL_isTick_531 : decode cL_isTick 531 = .ok (.aload 7, 2) := by decide +kernel
theorem dL_isTick_533 : decode cL_isTick 533 = .ok (.iload 11, 2) := by decide +kernel
theorem dL_isTick_535 : decode cL_isTick 535 = .ok (.iaload, 1) := by decide +kernel
theorem dL_isTick_536 : decode cL_isTick 536 = .ok (.iload 9, 2) := by decide +kernel
theorem dL_isTick_538 : decode cL_isTick 538 = .ok (.if_icmp .ge 46, 3) := by decide +kernel
theorem dL_isTick_541 : decode cL_isTick 541 = .ok (.iload 13, 2) := by decide +kernel
theorem dL_isTick_543 : decode cL_isTick 543 = .ok (.ifCond .ne 23, 3) := by decide +kernel
theorem dL_isTick_546 : decode cL_isTick 546 = .ok (.aload_n 0, 1) := by decide +kernel
theorem dL_isTick_547 : decode cL_isTick 547 = .ok (.iload 10, 2) := by decide +kernel
theorem dL_isTick_549 : decode cL_isTick 549 = .ok (.iconst 2, 1) := by decide +kernel
theorem dL_isTick_550 : decode cL_isTick 550 = .ok (.invokevirtual 14, 3) := by decide +kernel
theorem dL_isTick_553 : decode cL_isTick 553 = .ok (.iload 14, 2) := by decide +kernel
theorem dL_isTick_555 : decode cL_isTick 555 = .ok (.ifCond .eq 7, 3) := by decide +kernel
theorem dL_isTick_558 : decode cL_isTick 558 = .ok (.iconst 2, 1) := by decide +kernel
theorem dL_isTick_559 : decode cL_isTick 559 = .ok (.goto 4, 3) := by decide +kernel
theorem dL_isTick_562 : decode cL_isTick 562 = .ok (.iconst 1, 1) := by decide +kernel
theorem dL_isTick_563 : decode cL_isTick 563 = .ok (.if_icmp .ne 21, 3) := by decide +kernel
theorem dL_isTick_566 : decode cL_isTick 566 = .ok (.iload 14, 2) := by decide +kernel
theorem dL_isTick_568 : decode cL_isTick 568 = .ok (.ifCond .eq 18, 3) := by decide +kernel
theorem dL_isTick_571 : decode cL_isTick 571 = .ok (.aload_n 0, 1) := by decide +kernel
theorem dL_isTick_572 : decode cL_isTick 572 = .ok (.iload 10, 2) := by decide +kernel
theorem dL_isTick_574 : decode cL_isTick 574 = .ok (.bipush 8, 2) := by decide +kernel
theorem dL_isTick_576 : decode cL_isTick 576 = .ok (.invokevirtual 14, 3) := by decide +kernel
theorem dL_isTick_579 : decode cL_isTick 579 = .ok (.iload 8, 2) := by decide +kernel
theorem dL_isTick_581 : decode cL_isTick 581 = .ok (.if_icmp .eq 5, 3) := by decide +kernel
theorem dL_isTick_584 : decode cL_isTick 584 = .ok (.iconst 0, 1) := by decide +kernel
theorem dL_isTick_585 : decode cL_isTick 585 = .ok (.ireturn, 1) := by decide +kernel
theorem dL_isTick_586 : decode cL_isTick 586 = .ok (.aload 7, 2) := by decide +kernel
theorem dL_isTick_588 : decode cL_isTick 588 = .ok (.aload_n 2, 1) := by decide +kernel
theorem dL_isTick_589 : decode cL_isTick 589 = .ok (.iload 10, 2) := by decide +kernel
theorem dL_isTick_591 : decode cL_isTick 591 = .ok (.iaload, 1) := by decide +kernel
theorem dL_isTick_592 : decode cL_isTick 592 = .ok (.dup2, 1) := by decide +kernel
theorem dL_isTick_593 : decode cL_isTick 593 = .ok (.iaload, 1) := by decide +kernel
theorem dL_isTick_594 : decode cL_isTick 594 = .ok (.iload 13, 2) := by decide +kernel
theorem dL_isTick_596 : decode cL_isTick 596 = .ok (.ifCond .eq 7, 3) := by decide +kernel
theorem dL_isTick_599 : decode cL_isTick 599 = .ok (.iconst 0, 1) := by decide +kernel
theorem dL_isTick_600 : decode cL_isTick 600 = .ok (.goto 4, 3) := by decide +kernel
theorem dL_isTick_603 : decode cL_isTick 603 = .ok (.iconst 1, 1) := by decide +kernel
theorem dL_isTick_604 : decode cL_isTick 604 = .ok (.isub, 1) := by decide +kernel
theorem dL_isTick_605 : decode cL_isTick 605 = .ok (.iastore, 1) := by decide +kernel
theorem dL_isTick_606 : decode cL_isTick 606 = .ok (.aload 7, 2) := by decide +kernel
theorem dL_isTick_608 : decode cL_isTick 608 = .ok (.iload 11, 2) := by decide +kernel
theorem dL_isTick_610 : decode cL_isTick 610 = .ok (.dup2, 1) := by decide +kernel
theorem dL_isTick_611 : decode cL_isTick 611 = .ok (.iaload, 1) := by decide +kernel
theorem dL_isTick_612 : decode cL_isTick 612 = .ok (.iload 13, 2) := by decide +kernel
theorem dL_isTick_614 : decode cL_isTick 614 = .ok (.ifCond .ne 8, 3) := by decide +kernel
theorem dL_isTick_617 : decode cL_isTick 617 = .ok (.iload 14, 2) := by decide +kernel
theorem dL_isTick_619 : decode cL_isTick 619 = .ok (.ifCond .eq 7, 3) := by decide +kernel
theorem dL_isTick_622 : decode cL_isTick 622 = .ok (.iconst 0, 1) := by decide +kernel
theorem dL_isTick_623 : decode cL_isTick 623 = .ok (.goto 4, 3) := by decide +kernel
theorem dL_isTick_626 : decode cL_isTick 626 = .ok (.iconst 1, 1) := by decide +kernel
theorem dL_isTick_627 : decode cL_isTick 627 = .ok (.iadd, 1) := by decide +kernel
theorem dL_isTick_628 : decode cL_isTick 628 = .ok (.iastore, 1) := by decide +kernel
theorem dL_isTick_629 : decode cL_isTick 629 = .ok (.iinc 10 1, 3) := by decide +kernel
theorem dL_isTick_632 : decode cL_isTick 632 = .ok (.goto (-462), 3) := by decide +kernel
theorem dL_isTick_635 : decode cL_isTick 635 = .ok (.iconst 1, 1) := by decide +kernel
theorem dL_isTick_636 : decode cL_isTick 636 = .ok (.ireturn, 1) := by decide +kernel
theorem dL_isAlone_0 : decode cL_isAlone 0 = .ok (.new 9, 3) := by decide +kernel
theorem dL_isAlone_3 : decode cL_isAlone 3 = .ok (.dup, 1) := by decide +kernel
theorem dL_isAlone_4 : decode cL_isAlone 4 = .ok (.invokespecial 33, 3) := by decide +kernel
theorem dL_isAlone_7 : decode cL_isAlone 7 = .ok (.astore_n 3, 1) := by decide +kernel
theorem dL_isAlone_8 : decode cL_isAlone 8 = .ok (.aload_n 3, 1) := by decide +kernel
theorem dL_isAlone_9 : decode cL_isAlone 9 = .ok (.aload_n 0, 1) := by decide +kernel
theorem dL_isAlone_10 : decode cL_isAlone 10 = .ok (.iconst 2, 1) := by decide +kernel
theorem dL_isAlone_11 : decode cL_isAlone 11 = .ok (.invokevirtual 8, 3) := by decide +kernel
theorem dL_isAlone_14 : decode cL_isAlone 14 = .ok (.aload_n 0, 1) := by decide +kernel
theorem dL_isAlone_15 : decode cL_isAlone 15 = .ok (.iconst 1, 1) := by decide +kernel
theorem dL_isAlone_16 : decode cL_isAlone 16 = .ok (.invokevirtual 8, 3) := by decide +kernel
theorem dL_isAlone_19 : decode cL_isAlone 19 = .ok (.aload_n 0, 1) := by decide +kernel
theorem dL_isAlone_20 : decode cL_isAlone 20 = .ok (.iconst 2, 1) := by decide +kernel
theorem dL_isAlone_21 : decode cL_isAlone 21 = .ok (.invokevirtual 8, 3) := by decide +kernel
theorem dL_isAlone_24 : decode cL_isAlone 24 = .ok (.idiv, 1) := by decide +kernel
theorem dL_isAlone_25 : decode cL_isAlone 25 = .ok (.invokevirtual 34, 3) := by decide +kernel
theorem dL_isAlone_28 : decode cL_isAlone 28 = .ok (.pop, 1) := by decide +kernel
theorem dL_isAlone_29 : decode cL_isAlone 29 = .ok (.aload_n 3, 1) := by decide +kernel
theorem dL_isAlone_30 : decode cL_isAlone 30 = .ok (.iconst 0, 1) := by decide +kernel
theorem dL_isAlone_31 : decode cL_isAlone 31 = .ok (.aload_n 0, 1) := by decide +kernel
theorem dL_isAlone_32 : decode cL_isAlone 32 = .ok (.bipush 14, 2) := by decide +kernel
theorem dL_isAlone_34 : decode cL_isAlone 34 = .ok (.invokevirtual 8, 3) := by decide +kernel
theorem dL_isAlone_37 : decode cL_isAlone 37 = .ok (.invokevirtual 37, 3) := by decide +kernel
theorem dL_isAlone_40 : decode cL_isAlone 40 = .ok (.pop, 1) := by decide +kernel
theorem dL_isAlone_41 : decode cL_isAlone 41 = .ok (.aload_n 3, 1) := by decide +kernel
theorem dL_isAlone_42 : decode cL_isAlone 42 = .ok (.iconst 1, 1) := by decide +kernel
theorem dL_isAlone_43 : decode cL_isAlone 43 = .ok (.aload_n 0, 1) := by decide +kernel
theorem dL_isAlone_44 : decode cL_isAlone 44 = .ok (.bipush 15, 2) := by decide +kernel
theorem dL_isAlone_46 : decode cL_isAlone 46 = .ok (.invokevirtual 8, 3) := by decide +kernel
theorem dL_isAlone_49 : decode cL_isAlone 49 = .ok (.invokevirtual 37, 3) := by decide +kernel
theorem dL_isAlone_52 : decode cL_isAlone 52 = .ok (.pop, 1) := by decide +kernel
theorem dL_isAlone_53 : decode cL_isAlone 53 = .ok (.iconst 0, 1) := by decide +kernel
theorem dL_isAlone_54 : decode cL_isAlone 54 = .ok (.istore 4, 2) := by decide +kernel
theorem dL_isAlone_56 : decode cL_isAlone 56 = .ok (.iload 4, 2) := by decide +kernel
theorem dL_isAlone_58 : decode cL_isAlone 58 = .ok (.aload_n 0, 1) := by decide +kernel
theorem dL_isAlone_59 : decode cL_isAlone 59 = .ok (.iconst 1, 1) := by decide +kernel
theorem dL_isAlone_60 : decode cL_isAlone 60 = .ok (.invokevirtual 8, 3) := by decide +kernel
theorem dL_isAlone_63 : decode cL_isAlone 63 = .ok (.if_icmp .ge 52, 3) := by decide +kernel
theorem dL_isAlone_66 : decode cL_isAlone 66 = .ok (.iconst 0, 1) := by decide +kernel
theorem dL_isAlone_67 : decode cL_isAlone 67 = .ok (.istore 5, 2) := by decide +kernel
theorem dL_isAlone_69 : decode cL_isAlone 69 = .ok (.iload 5, 2) := by decide +kernel
theorem dL_isAlone_71 : decode cL_isAlone 71 = .ok (.iconst 3, 1) := by decide +kernel
theorem dL_isAlone_72 : decode cL_isAlone 72 = .ok (.if_icmp .ge 37, 3) := by decide +kernel
theorem dL_isAlone_75 : decode cL_isAlone 75 = .ok (.aload_n 0, 1) := by decide +kernel
theorem dL_isAlone_76 : decode cL_isAlone 76 = .ok (.iload 4, 2) := by decide +kernel
theorem dL_isAlone_78 : decode cL_isAlone 78 = .ok (.iconst 3, 1) := by decide +kernel
theorem dL_isAlone_79 : decode cL_isAlone 79 = .ok (.iload 5, 2) := by decide +kernel
theorem dL_isAlone_81 : decode cL_isAlone 81 = .ok (.iadd, 1) := by decide +kernel
theorem dL_isAlone_82 : decode cL_isAlone 82 = .ok (.invokevirtual 24, 3) := by decide +kernel
theorem dL_isAlone_85 : decode cL_isAlone 85 = .ok (.ifCond .ne 18, 3) := by decide +kernel
theorem dL_isAlone_88 : decode cL_isAlone 88 = .ok (.aload_n 3, 1) := by decide +kernel
theorem dL_isAlone_89 : decode cL_isAlone 89 = .ok (.iload 4, 2) := by decide +kernel
theorem dL_isAlone_91 : decode cL_isAlone 91 = .ok (.iload 5, 2) := by decide +kernel
theorem dL_isAlone_93 : decode cL_isAlone 93 = .ok (.iconst 0, 1) := by decide +kernel
theorem dL_isAlone_94 : decode cL_isAlone 94 = .ok (.invokevirtual 40, 3) := by decide +kernel
theorem dL_isAlone_97 : decode cL_isAlone 97 = .ok (.iconst 1, 1) := by decide +kernel
theorem dL_isAlone_98 : decode cL_isAlone 98 = .ok (.if_icmp .eq 5, 3) := by decide +kernel
theorem dL_isAlone_101 : decode cL_isAlone 101 = .ok (.iconst 0, 1) := by decide +kernel
theorem dL_isAlone_102 : decode cL_isAlone 102 = .ok (.ireturn, 1) := by decide +kernel
theorem dL_isAlone_103 : decode cL_isAlone 103 = .ok (.iinc 5 2, 3) := by decide +kernel
theorem dL_isAlone_106 : decode cL_isAlone 106 = .ok (.goto (-37), 3) := by decide +kernel
theorem dL_isAlone_109 : decode cL_isAlone 109 = .ok (.iinc 4 1, 3) := by decide +kernel
theorem dL_isAlone_112 : decode cL_isAlone 112 = .ok (.goto (-56), 3) := by decide +kernel
theorem dL_isAlone_115 : decode cL_isAlone 115 = .ok (.aload_n 0, 1) := by decide +kernel
theorem dL_isAlone_116 : decode cL_isAlone 116 = .ok (.iload_n 1, 1) := by decide +kernel
theorem dL_isAlone_117 : decode cL_isAlone 117 = .ok (.iload_n 2, 1) := by decide +kernel
theorem dL_isAlone_118 : decode cL_isAlone 118 = .ok (.invokevirtual 44, 3) := by decide +kernel
theorem dL_isAlone_121 : decode cL_isAlone 121 = .ok (.istore 4, 2) := by decide +kernel
theorem dL_isAlone_123 : decode cL_isAlone 123 = .ok (.aload_n 3, 1) := by decide +kernel
theorem dL_isAlone_124 : decode cL_isAlone 124 = .ok (.iload_n 1, 1) := by decide +kernel
theorem dL_isAlone_125 : decode cL_isAlone 125 = .ok (.iload_n 2, 1) := by decide +kernel
theorem dL_isAlone_126 : decode cL_isAlone 126 = .ok (.invokevirtual 47, 3) := by decide +kernel
theorem dL_isAlone_129 : decode cL_isAlone 129 = .ok (.istore 5, 2) := by decide +kernel
theorem dL_isAlone_131 : decode cL_isAlone 131 = .ok (.iload_n 1, 1) := by decide +kernel
theorem dL_isAlone_132 : decode cL_isAlone 132 = .ok (.iload_n 2, 1) := by decide +kernel
theorem dL_isAlone_133 : decode cL_isAlone 133 = .ok (.if_icmp .ne 30, 3) := by decide +kernel
theorem dL_isAlone_136 : decode cL_isAlone 136 = .ok (.iload 4, 2) := by decide +kernel
theorem dL_isAlone_138 : decode cL_isAlone 138 = .ok (.ifCond .ne 23, 3) := by decide +kernel
theorem dL_isAlone_141 : decode cL_isAlone 141 = .ok (.iload 5, 2) := by decide +kernel
theorem dL_isAlone_143 : decode cL_isAlone 143 = .ok (.iconst (-1), 1) := by decide +kernel
theorem dL_isAlone_144 : decode cL_isAlone 144 = .ok (.if_icmp .ne 17, 3) := by decide +kernel
theorem dL_isAlone_147 : decode cL_isAlone 147 = .ok (.aload_n 0, 1) := by decide +kernel
theorem dL_isAlone_148 : decode cL_isAlone 148 = .ok (.iload_n 1, 1) := by decide +kernel
theorem dL_isAlone_149 : decode cL_isAlone 149 = .ok (.iload_n 2, 1) := by decide +kernel
theorem dL_isAlone_150 : decode cL_isAlone 150 = .ok (.invokevirtual 50, 3) := by decide +kernel
theorem dL_isAlone_153 : decode cL_isAlone 153 = .ok (.iconst 1, 1) := by decide +kernel
theorem dL_isAlone_154 : decode cL_isAlone 154 = .ok (.if_icmp .ne 7, 3) := by decide +kernel
theorem dL_isAlone_157 : decode cL_isAlone 157 = .ok (.iconst 1, 1) := by decide +kernel
theorem dL_isAlone_158 : decode cL_isAlone 158 = .ok (.goto 4, 3) := by decide +kernel
theorem dL_isAlone_161 : decode cL_isAlone 161 = .ok (.iconst 0, 1) := by decide +kernel
theorem dL_isAlone_162 : decode cL_isAlone 162 = .ok (.ireturn, 1) := by decide +kernel
theorem dL_isAlone_163 : decode cL_isAlone 163 = .ok (.iload 4, 2) := by decide +kernel
theorem dL_isAlone_165 : decode cL_isAlone 165 = .ok (.ifCond .ge 32, 3) := by decide +kernel
theorem dL_isAlone_168 : decode cL_isAlone 168 = .ok (.iload 4, 2) := by decide +kernel
theorem dL_isAlone_170 : decode cL_isAlone 170 = .ok (.bipush (-6), 2) := by decide +kernel
theorem dL_isAlone_172 : decode cL_isAlone 172 = .ok (.if_icmp .ne 23, 3) := by decide +kernel
theorem dL_isAlone_175 : decode cL_isAlone 175 = .ok (.iload 5, 2) := by decide +kernel
theorem dL_isAlone_177 : decode cL_isAlone 177 = .ok (.bipush (-5), 2) := by decide +kernel
theorem dL_isAlone_179 : decode cL_isAlone 179 = .ok (.if_icmp .ne 16, 3) := by decide +kernel
theorem dL_isAlone_182 : decode cL_isAlone 182 = .ok (.aload_n 0, 1) := by decide +kernel
theorem dL_isAlone_183 : decode cL_isAlone 183 = .ok (.iload_n 1, 1) := by decide +kernel
theorem dL_isAlone_184 : decode cL_isAlone 184 = .ok (.iload_n 2, 1) := by decide +kernel
theorem dL_isAlone_185 : decode cL_isAlone 185 = .ok (.invokevirtual 50, 3) := by decide +kernel
theorem dL_isAlone_188 : decode cL_isAlone 188 = .ok (.ifCond .ne 7, 3) := by decide +kernel
theorem dL_isAlone_191 : decode cL_isAlone 191 = .ok (.iconst 1, 1) := by decide +kernel
theorem dL_isAlone_192 : decode cL_isAlone 192 = .ok (.goto 4, 3) := by decide +kernel
theorem dL_isAlone_195 : decode cL_isAlone 195 = .ok (.iconst 0, 1) := by decide +kernel
theorem dL_isAlone_196 : decode cL_isAlone 196 = .ok (.ireturn, 1) := by decide +kernel
theorem dL_isAlone_197 : decode cL_isAlone 197 = .ok (.aload_n 0, 1) := by decide +kernel
theorem dL_isAlone_198 : decode cL_isAlone 198 = .ok (.iload_n 1, 1) := by decide +kernel
theorem dL_isAlone_199 : decode cL_isAlone 199 = .ok (.iload_n 2, 1) := by decide +kernel
theorem dL_isAlone_200 : decode cL_isAlone 200 = .ok (.invokestatic 18, 3) := by decide +kernel
theorem dL_isAlone_203 : decode cL_isAlone 203 = .ok (.istore 6, 2) := by decide +kernel
theorem dL_isAlone_205 : decode cL_isAlone 205 = .ok (.iload 5, 2) := by decide +kernel
theorem dL_isAlone_207 : decode cL_isAlone 207 = .ok (.ifCond .ne 54, 3) := by decide +kernel
theorem dL_isAlone_210 : decode cL_isAlone 210 = .ok (.aload_n 0, 1) := by decide +kernel
theorem dL_isAlone_211 : decode cL_isAlone 211 = .ok (.iload_n 1, 1) := by decide +kernel
theorem dL_isAlone_212 : decode cL_isAlone 212 = .ok (.iload_n 2, 1) := by decide +kernel
theorem dL_isAlone_213 : decode cL_isAlone 213 = .ok (.invokevirtual 50, 3) := by decide +kernel
theorem dL_isAlone_216 : decode cL_isAlone 216 = .ok (.iconst 1, 1) := by decide +kernel
theorem dL_isAlone_217 : decode cL_isAlone 217 = .ok (.if_icmp .lt 44, 3) := by decide +kernel
theorem dL_isAlone_220 : decode cL_isAlone 220 = .ok (.iload 4, 2) := by decide +kernel
theorem dL_isAlone_222 : decode cL_isAlone 222 = .ok (.iload 6, 2) := by decide +kernel
theorem dL_isAlone_224 : decode cL_isAlone 224 = .ok (.if_icmp .lt 37, 3) := by decide +kernel
theorem dL_isAlone_227 : decode cL_isAlone 227 = .ok (.iload 4, 2) := by decide +kernel
theorem dL_isAlone_229 : decode cL_isAlone 229 = .ok (.iload 6, 2) := by decide +kernel
theorem dL_isAlone_231 : decode cL_isAlone 231 = .ok (.isub, 1) := by decide +kernel
theorem dL_isAlone_232 : decode cL_isAlone 232 = .ok (.iconst 2, 1) := by decide +kernel
theorem dL_isAlone_233 : decode cL_isAlone 233 = .ok (.irem, 1) := by decide +kernel
theorem dL_isAlone_234 : decode cL_isAlone 234 = .ok (.ifCond .ne 27, 3) := by decide +kernel
theorem dL_isAlone_237 : decode cL_isAlone 237 = .ok (.aload_n 3, 1) := by decide +kernel
theorem dL_isAlone_238 : decode cL_isAlone 238 = .ok (.iconst 0, 1) := by decide +kernel
theorem dL_isAlone_239 : decode cL_isAlone 239 = .ok (.bipush 10, 2) := by decide +kernel
theorem dL_isAlone_241 : decode cL_isAlone 241 = .ok (.invokevirtual 14, 3) := by decide +kernel
theorem dL_isAlone_244 : decode cL_isAlone 244 = .ok (.iload 4, 2) := by decide +kernel
theorem dL_isAlone_246 : decode cL_isAlone 246 = .ok (.if_icmp .ne 15, 3) := by decide +kernel
theorem dL_isAlone_249 : decode cL_isAlone 249 = .ok (.aload_n 3, 1) := by decide +kernel
theorem dL_isAlone_250 : decode cL_isAlone 250 = .ok (.iconst 0, 1) := by decide +kernel
theorem dL_isAlone_251 : decode cL_isAlone 251 = .ok (.invokevirtual 53, 3) := by decide +kernel
theorem dL_isAlone_254 : decode cL_isAlone 254 = .ok (.iload 4, 2) := by decide +kernel
theorem dL_isAlone_256 : decode cL_isAlone 256 = .ok (.iconst 1, 1) := by decide +kernel
theorem dL_isAlone_257 : decode cL_isAlone 257 = .ok (.iadd, 1) := by decide +kernel
theorem dL_isAlone_258 : decode cL_isAlone 258 = .ok (.if_icmp .eq 5, 3) := by decide +kernel
theorem dL_isAlone_261 : decode cL_isAlone 261 = .ok (.iconst 0, 1) := by decide +kernel
theorem dL_isAlone_262 : decode cL_isAlone 262 = .ok (.ireturn, 1) := by decide +kernel
theorem dL_isAlone_263 : decode cL_isAlone 263 = .ok (.aload_n 3, 1) := by decide +kernel
theorem dL_isAlone_264 : decode cL_isAlone 264 = .ok (.iconst 1, 1) := by decide +kernel
theorem dL_isAlone_265 : decode cL_isAlone 265 = .ok (.invokevirtual 30, 3) := by decide +kernel
theorem dL_isAlone_268 : decode cL_isAlone 268 = .ok (.pop, 1) := by decide +kernel
theorem dL_isAlone_269 : decode cL_isAlone 269 = .ok (.iload 4, 2) := by decide +kernel
theorem dL_isAlone_271 : decode cL_isAlone 271 = .ok (.istore 7, 2) := by decide +kernel
theorem dL_isAlone_273 : decode cL_isAlone 273 = .ok (.iload 7, 2) := by decide +kernel
theorem dL_isAlone_275 : decode cL_isAlone 275 = .ok (.ifCond .le 157, 3) := by decide +kernel
theorem dL_isAlone_278 : decode cL_isAlone 278 = .ok (.aload_n 3, 1) := by decide +kernel
theorem dL_isAlone_279 : decode cL_isAlone 279 = .ok (.iconst 0, 1) := by decide +kernel
theorem dL_isAlone_280 : decode cL_isAlone 280 = .ok (.iconst 3, 1) := by decide +kernel
theorem dL_isAlone_281 : decode cL_isAlone 281 = .ok (.invokevirtual 14, 3) := by decide +kernel
theorem dL_isAlone_284 : decode cL_isAlone 284 = .ok (.istore 8, 2) := by decide +kernel
theorem dL_isAlone_286 : decode cL_isAlone 286 = .ok (.aload_n 3, 1) := by decide +kernel
theorem dL_isAlone_287 : decode cL_isAlone 287 = .ok (.iconst 0, 1) := by decide +kernel
theorem dL_isAlone_288 : decode cL_isAlone 288 = .ok (.bipush 11, 2) := by decide +kernel
theorem dL_isAlone_290 : decode cL_isAlone 290 = .ok (.invokevirtual 14, 3) := by decide +kernel
theorem dL_isAlone_293 : decode cL_isAlone 293 = .ok (.istore 9, 2) := by decide +kernel
theorem dL_isAlone_295 : decode cL_isAlone 295 = .ok (.aload_n 3, 1) := by decide +kernel
theorem dL_isAlone_296 : decode cL_isAlone 296 = .ok (.iconst 0, 1) := by decide +kernel
theorem dL_isAlone_297 : decode cL_isAlone 297 = .ok (.bipush 9, 2) := by decide +kernel
theorem dL_isAlone_299 : decode cL_isAlone 299 = .ok (.invokevirtual 14, 3) := by decide +kernel
theorem dL_isAlone_302 : decode cL_isAlone 302 = .ok (.iconst 1, 1) := by decide +kernel
theorem dL_isAlone_303 : decode cL_isAlone 303 = .ok (.if_icmp .ne 7, 3) := by decide +kernel
theorem dL_isAlone_306 : decode cL_isAlone 306 = .ok (.iconst 1, 1) := by decide +kernel
theorem dL_isAlone_307 : decode cL_isAlone 307 = .ok (.goto 4, 3) := by decide +kernel
theorem dL_isAlone_310 : decode cL_isAlone 310 = .ok (.iconst 0, 1) := by decide +kernel
theorem dL_isAlone_311 : decode cL_isAlone 311 = .ok (.istore 10, 2) := by decide +kernel
theorem dL_isAlone_313 : decode cL_isAlone 313 = .ok (.aload_n 3, 1) := by decide +kernel
theorem dL_isAlone_314 : decode cL_isAlone 314 = .ok (.iconst 0, 1) := by decide +kernel
theorem dL_isAlone_315 : decode cL_isAlone 315 = .ok (.bipush 10, 2) := by decide +kernel
theorem dL_isAlone_317 : decode cL_isAlone 317 = .ok (.invokevirtual 14, 3) := by decide +kernel
theorem dL_isAlone_320 : decode cL_isAlone 320 = .ok (.iload 7, 2) := by decide +kernel
theorem dL_isAlone_322 : decode cL_isAlone 322 = .ok (.if_icmp .ne 37, 3) := by decide +kernel
theorem dL_isAlone_325 : decode cL_isAlone 325 = .ok (.aload_n 3, 1) := by decide +kernel
theorem dL_isAlone_326 : decode cL_isAlone 326 = .ok (.iload 8, 2) := by decide +kernel
theorem dL_isAlone_328 : decode cL_isAlone 328 = .ok (.iconst 3, 1) := by decide +kernel
theorem dL_isAlone_329 : decode cL_isAlone 329 = .ok (.iload 9, 2) := by decide +kernel
theorem dL_isAlone_331 : decode cL_isAlone 331 = .ok (.iadd, 1) := by decide +kernel
theorem dL_isAlone_332 : decode cL_isAlone 332 = .ok (.invokevirtual 24, 3) := by decide +kernel
theorem dL_isAlone_335 : decode cL_isAlone 335 = .ok (.iconst 1, 1) := by decide +kernel
theorem dL_isAlone_336 : decode cL_isAlone 336 = .ok (.if_icmp .ne 23, 3) := by decide +kernel
theorem dL_isAlone_339 : decode cL_isAlone 339 = .ok (.aload_n 3, 1) := by decide +kernel
theorem dL_isAlone_340 : decode cL_isAlone 340 = .ok (.bipush 14, 2) := by decide +kernel
theorem dL_isAlone_342 : decode cL_isAlone 342 = .ok (.invokevirtual 8, 3) := by decide +kernel
theorem dL_isAlone_345 : decode cL_isAlone 345 = .ok (.iconst 1, 1) := by decide +kernel
theorem dL_isAlone_346 : decode cL_isAlone 346 = .ok (.if_icmp .ne 15, 3) := by decide +kernel
theorem dL_isAlone_349 : decode cL_isAlone 349 = .ok (.iload 10, 2) := by decide +kernel
theorem dL_isAlone_351 : decode cL_isAlone 351 = .ok (.ifCond .eq 10, 3) := by decide +kernel
theorem dL_isAlone_354 : decode cL_isAlone 354 = .ok (.iload 9, 2) := by decide +kernel
theorem dL_isAlone_356 : decode cL_isAlone 356 = .ok (.ifCond .ne 5, 3) := by decide +kernel
theorem dL_isAlone_359 : decode cL_isAlone 359 = .ok (.iconst 0, 1) := by decide +kernel
theorem dL_isAlone_360 : decode cL_isAlone 360 = .ok (.ireturn, 1) := by decide +kernel
theorem dL_isAlone_361 : decode cL_isAlone 361 = .ok (.aload_n 3, 1) := by decide +kernel
theorem dL_isAlone_362 : decode cL_isAlone 362 = .ok (.iconst 1, 1) := by decide +kernel
theorem dL_isAlone_363 : decode cL_isAlone 363 = .ok (.invokevirtual 30, 3) := by decide +kernel
theorem dL_isAlone_366 : decode cL_isAlone 366 = .ok (.pop, 1) := by decide +kernel
theorem dL_isAlone_367 : decode cL_isAlone 367 = .ok (.aload_n 3, 1) := by decide +kernel
theorem dL_isAlone_368 : decode cL_isAlone 368 = .ok (.iconst 0, 1) := by decide +kernel
theorem dL_isAlone_369 : decode cL_isAlone 369 = .ok (.iconst 3, 1) := by decide +kernel
theorem dL_isAlone_370 : decode cL_isAlone 370 = .ok (.invokevirtual 14, 3) := by decide +kernel
theorem dL_isAlone_373 : decode cL_isAlone 373 = .ok (.aload_n 3, 1) := by decide +kernel
theorem dL_isAlone_374 : decode cL_isAlone 374 = .ok (.iload 8, 2) := by decide +kernel
theorem dL_isAlone_376 : decode cL_isAlone 376 = .ok (.iload 9, 2) := by decide +kernel
theorem dL_isAlone_378 : decode cL_isAlone 378 = .ok (.invokestatic 27, 3) := by decide +kernel
theorem dL_isAlone_381 : decode cL_isAlone 381 = .ok (.if_icmp .ne 43, 3) := by decide +kernel
theorem dL_isAlone_384 : decode cL_isAlone 384 = .ok (.aload_n 3, 1) := by decide +kernel
theorem dL_isAlone_385 : decode cL_isAlone 385 = .ok (.iload 8, 2) := by decide +kernel
theorem dL_isAlone_387 : decode cL_isAlone 387 = .ok (.bipush 7, 2) := by decide +kernel
theorem dL_isAlone_389 : decode cL_isAlone 389 = .ok (.iload 9, 2) := by decide +kernel
theorem dL_isAlone_391 : decode cL_isAlone 391 = .ok (.iadd, 1) := by decide +kernel
theorem dL_isAlone_392 : decode cL_isAlone 392 = .ok (.invokevirtual 24, 3) := by decide +kernel
theorem dL_isAlone_395 : decode cL_isAlone 395 = .ok (.iconst 1, 1) := by decide +kernel
theorem dL_isAlone_396 : decode cL_isAlone 396 = .ok (.if_icmp .lt 28, 3) := by decide +kernel
theorem dL_isAlone_399 : decode cL_isAlone 399 = .ok (.aload_n 3, 1) := by decide +kernel
theorem dL_isAlone_400 : decode cL_isAlone 400 = .ok (.iconst 0, 1) := by decide +kernel
theorem dL_isAlone_401 : decode cL_isAlone 401 = .ok (.bipush 9, 2) := by decide +kernel
theorem dL_isAlone_403 : decode cL_isAlone 403 = .ok (.invokevirtual 14, 3) := by decide +kernel
theorem dL_isAlone_406 : decode cL_isAlone 406 = .ok (.iload 10, 2) := by decide +kernel
theorem dL_isAlone_408 : decode cL_isAlone 408 = .ok (.ifCond .ne 8, 3) := by decide +kernel
theorem dL_isAlone_411 : decode cL_isAlone 411 = .ok (.iload 9, 2) := by decide +kernel
theorem dL_isAlone_413 : decode cL_isAlone 413 = .ok (.ifCond .eq 7, 3) := by decide +kernel
theorem dL_isAlone_416 : decode cL_isAlone 416 = .ok (.iconst 1, 1) := by decide +kernel
theorem dL_isAlone_417 : decode cL_isAlone 417 = .ok (.goto 4, 3) := by decide +kernel
theorem dL_isAlone_420 : decode cL_isAlone 420 = .ok (.iconst 0, 1) := by decide +kernel
theorem dL_isAlone_421 : decode cL_isAlone 421 = .ok (.if_icmp .eq 5, 3) := by decide +kernel
theorem dL_isAlone_424 : decode cL_isAlone 424 = .ok (.iconst 0, 1) := by decide +kernel
theorem dL_isAlone_425 : decode cL_isAlone 425 = .ok (.ireturn, 1) := by decide +kernel
theorem dL_isAlone_426 : decode cL_isAlone 426 = .ok (.iinc 7 (-1), 3) := by decide +kernel
theorem dL_isAlone_429 : decode cL_isAlone 429 = .ok (.goto (-156), 3) := by decide +kernel
theorem dL_isAlone_432 : decode cL_isAlone 432 = .ok (.aload_n 3, 1) := by decide +kernel
theorem dL_isAlone_433 : decode cL_isAlone 433 = .ok (.iconst 0, 1) := by decide +kernel
theorem dL_isAlone_434 : decode cL_isAlone 434 = .ok (.iconst 2, 1) := by decide +kernel
theorem dL_isAlone_435 : decode cL_isAlone 435 = .ok (.invokevirtual 14, 3) := by decide +kernel
theorem dL_isAlone_438 : decode cL_isAlone 438 = .ok (.iconst 2, 1) := by decide +kernel
theorem dL_isAlone_439 : decode cL_isAlone 439 = .ok (.if_icmp .ne 48, 3) := by decide +kernel
theorem dL_isAlone_442 : decode cL_isAlone 442 = .ok (.aload_n 3, 1) := by decide +kernel
theorem dL_isAlone_443 : decode cL_isAlone 443 = .ok (.iconst 0, 1) := by decide +kernel
theorem dL_isAlone_444 : decode cL_isAlone 444 = .ok (.bipush 6, 2) := by decide +kernel
theorem dL_isAlone_446 : decode cL_isAlone 446 = .ok (.invokevirtual 14, 3) := by decide +kernel
theorem dL_isAlone_449 : decode cL_isAlone 449 = .ok (.ifCond .ne 38, 3) := by decide +kernel
theorem dL_isAlone_452 : decode cL_isAlone 452 = .ok (.aload_n 3, 1) := by decide +kernel
theorem dL_isAlone_453 : decode cL_isAlone 453 = .ok (.iconst 0, 1) := by decide +kernel
theorem dL_isAlone_454 : decode cL_isAlone 454 = .ok (.iconst 5, 1) := by decide +kernel
theorem dL_isAlone_455 : decode cL_isAlone 455 = .ok (.invokevirtual 14, 3) := by decide +kernel
theorem dL_isAlone_458 : decode cL_isAlone 458 = .ok (.iload 4, 2) := by decide +kernel
theorem dL_isAlone_460 : decode cL_isAlone 460 = .ok (.iload 6, 2) := by decide +kernel
theorem dL_isAlone_462 : decode cL_isAlone 462 = .ok (.isub, 1) := by decide +kernel
theorem dL_isAlone_463 : decode cL_isAlone 463 = .ok (.iconst 2, 1) := by decide +kernel
theorem dL_isAlone_464 : decode cL_isAlone 464 = .ok (.idiv, 1) := by decide +kernel
theorem dL_isAlone_465 : decode cL_isAlone 465 = .ok (.if_icmp .ne 22, 3) := by decide +kernel
theorem dL_isAlone_468 : decode cL_isAlone 468 = .ok (.aload_n 3, 1) := by decide +kernel
theorem dL_isAlone_469 : decode cL_isAlone 469 = .ok (.iconst 0, 1) := by decide +kernel
theorem dL_isAlone_470 : decode cL_isAlone 470 = .ok (.iconst 5, 1) := by decide +kernel
theorem dL_isAlone_471 : decode cL_isAlone 471 = .ok (.invokevirtual 14, 3) := by decide +kernel
theorem dL_isAlone_474 : decode cL_isAlone 474 = .ok (.aload_n 3, 1) := by decide +kernel
theorem dL_isAlone_475 : decode cL_isAlone 475 = .ok (.bipush 15, 2) := by decide +kernel
theorem dL_isAlone_477 : decode cL_isAlone 477 = .ok (.invokevirtual 8, 3) := by decide +kernel
theorem dL_isAlone_480 : decode cL_isAlone 480 = .ok (.if_icmp .gt 7, 3) := by decide +kernel
theorem dL_isAlone_483 : decode cL_isAlone 483 = .ok (.iconst 1, 1) := by decide +kernel
theorem dL_isAlone_484 : decode cL_isAlone 484 = .ok (.goto 4, 3) := by decide +kernel
theorem dL_isAlone_487 : decode cL_isAlone 487 = .ok (.iconst 0, 1) := by decide +kernel
theorem dL_isAlone_488 : decode cL_isAlone 488 = .ok (.ireturn, 1) := by decide +kernel
theorem dL_isSent_0 : decode cL_isSent 0 = .ok (.aload_n 0, 1) := by decide +kernel
theorem dL_isSent_1 : decode cL_isSent 1 = .ok (.iconst 3, 1) := by decide +kernel
theorem dL_isSent_2 : decode cL_isSent 2 = .ok (.invokevirtual 8, 3) := by decide +kernel
theorem dL_isSent_5 : decode cL_isSent 5 = .ok (.istore_n 3, 1) := by decide +kernel
theorem dL_isSent_6 : decode cL_isSent 6 = .ok (.aload_n 0, 1) := by decide +kernel
theorem dL_isSent_7 : decode cL_isSent 7 = .ok (.iload_n 1, 1) := by decide +kernel
theorem dL_isSent_8 : decode cL_isSent 8 = .ok (.iload_n 2, 1) := by decide +kernel
theorem dL_isSent_9 : decode cL_isSent 9 = .ok (.invokevirtual 44, 3) := by decide +kernel
theorem dL_isSent_12 : decode cL_isSent 12 = .ok (.istore 4, 2) := by decide +kernel
theorem dL_isSent_14 : decode cL_isSent 14 = .ok (.aload_n 0, 1) := by decide +kernel
theorem dL_isSent_15 : decode cL_isSent 15 = .ok (.iload_n 1, 1) := by decide +kernel
theorem dL_isSent_16 : decode cL_isSent 16 = .ok (.iload_n 2, 1) := by decide +kernel
theorem dL_isSent_17 : decode cL_isSent 17 = .ok (.invokevirtual 47, 3) := by decide +kernel
theorem dL_isSent_20 : decode cL_isSent 20 = .ok (.istore 5, 2) := by decide +kernel
theorem dL_isSent_22 : decode cL_isSent 22 = .ok (.iload_n 1, 1) := by decide +kernel
theorem dL_isSent_23 : decode cL_isSent 23 = .ok (.iload_n 2, 1) := by decide +kernel
theorem dL_isSent_24 : decode cL_isSent 24 = .ok (.if_icmp .eq 14, 3) := by decide +kernel
theorem dL_isSent_27 : decode cL_isSent 27 = .ok (.iload_n 3, 1) := by decide +kernel
theorem dL_isSent_28 : decode cL_isSent 28 = .ok (.bipush 40, 2) := by decide +kernel
theorem dL_isSent_30 : decode cL_isSent 30 = .ok (.if_icmp .eq 8, 3) := by decide +kernel
theorem dL_isSent_33 : decode cL_isSent 33 = .ok (.iload 4, 2) := by decide +kernel
theorem dL_isSent_35 : decode cL_isSent 35 = .ok (.ifCond .ge 45, 3) := by decide +kernel
theorem dL_isSent_38 : decode cL_isSent 38 = .ok (.iload 5, 2) := by decide +kernel
theorem dL_isSent_40 : decode cL_isSent 40 = .ok (.iload_n 1, 1) := by decide +kernel
theorem dL_isSent_41 : decode cL_isSent 41 = .ok (.iload_n 2, 1) := by decide +kernel
theorem dL_isSent_42 : decode cL_isSent 42 = .ok (.if_icmp .ne 7, 3) := by decide +kernel
theorem dL_isSent_45 : decode cL_isSent 45 = .ok (.iconst (-1), 1) := by decide +kernel
theorem dL_isSent_46 : decode cL_isSent 46 = .ok (.goto 16, 3) := by decide +kernel
theorem dL_isSent_49 : decode cL_isSent 49 = .ok (.iload_n 3, 1) := by decide +kernel
theorem dL_isSent_50 : decode cL_isSent 50 = .ok (.bipush 40, 2) := by decide +kernel
theorem dL_isSent_52 : decode cL_isSent 52 = .ok (.if_icmp .ne 8, 3) := by decide +kernel
theorem dL_isSent_55 : decode cL_isSent 55 = .ok (.bipush (-4), 2) := by decide +kernel
theorem dL_isSent_57 : decode cL_isSent 57 = .ok (.goto 5, 3) := by decide +kernel
theorem dL_isSent_60 : decode cL_isSent 60 = .ok (.bipush (-5), 2) := by decide +kernel
theorem dL_isSent_62 : decode cL_isSent 62 = .ok (.if_icmp .ne 16, 3) := by decide +kernel
theorem dL_isSent_65 : decode cL_isSent 65 = .ok (.aload_n 0, 1) := by decide +kernel
theorem dL_isSent_66 : decode cL_isSent 66 = .ok (.iconst 3, 1) := by decide +kernel
theorem dL_isSent_67 : decode cL_isSent 67 = .ok (.invokevirtual 8, 3) := by decide +kernel
theorem dL_isSent_70 : decode cL_isSent 70 = .ok (.iload_n 3, 1) := by decide +kernel
theorem dL_isSent_71 : decode cL_isSent 71 = .ok (.if_icmp .ne 7, 3) := by decide +kernel
theorem dL_isSent_74 : decode cL_isSent 74 = .ok (.iconst 1, 1) := by decide +kernel
theorem dL_isSent_75 : decode cL_isSent 75 = .ok (.goto 4, 3) := by decide +kernel
theorem dL_isSent_78 : decode cL_isSent 78 = .ok (.iconst 0, 1) := by decide +kernel
theorem dL_isSent_79 : decode cL_isSent 79 = .ok (.ireturn, 1) := by decide +kernel
theorem dL_isSent_80 : decode cL_isSent 80 = .ok (.iload 5, 2) := by decide +kernel
theorem dL_isSent_82 : decode cL_isSent 82 = .ok (.iload_n 3, 1) := by decide +kernel
theorem dL_isSent_83 : decode cL_isSent 83 = .ok (.if_icmp .ne 63, 3) := by decide +kernel
theorem dL_isSent_86 : decode cL_isSent 86 = .ok (.aload_n 0, 1) := by decide +kernel
theorem dL_isSent_87 : decode cL_isSent 87 = .ok (.iload_n 3, 1) := by decide +kernel
theorem dL_isSent_88 : decode cL_isSent 88 = .ok (.iconst 0, 1) := by decide +kernel
theorem dL_isSent_89 : decode cL_isSent 89 = .ok (.invokevirtual 14, 3) := by decide +kernel
theorem dL_isSent_92 : decode cL_isSent 92 = .ok (.iload_n 1, 1) := by decide +kernel
theorem dL_isSent_93 : decode cL_isSent 93 = .ok (.if_icmp .ne 53, 3) := by decide +kernel
theorem dL_isSent_96 : decode cL_isSent 96 = .ok (.aload_n 0, 1) := by decide +kernel
theorem dL_isSent_97 : decode cL_isSent 97 = .ok (.iload_n 3, 1) := by decide +kernel
theorem dL_isSent_98 : decode cL_isSent 98 = .ok (.iconst 1, 1) := by decide +kernel
theorem dL_isSent_99 : decode cL_isSent 99 = .ok (.invokevirtual 14, 3) := by decide +kernel
theorem dL_isSent_102 : decode cL_isSent 102 = .ok (.iload_n 2, 1) := by decide +kernel
theorem dL_isSent_103 : decode cL_isSent 103 = .ok (.if_icmp .ne 43, 3) := by decide +kernel
theorem dL_isSent_106 : decode cL_isSent 106 = .ok (.aload_n 0, 1) := by decide +kernel
theorem dL_isSent_107 : decode cL_isSent 107 = .ok (.iload_n 3, 1) := by decide +kernel
theorem dL_isSent_108 : decode cL_isSent 108 = .ok (.iconst 2, 1) := by decide +kernel
theorem dL_isSent_109 : decode cL_isSent 109 = .ok (.invokevirtual 14, 3) := by decide +kernel
theorem dL_isSent_112 : decode cL_isSent 112 = .ok (.ifCond .ne 34, 3) := by decide +kernel
theorem dL_isSent_115 : decode cL_isSent 115 = .ok (.aload_n 0, 1) := by decide +kernel
theorem dL_isSent_116 : decode cL_isSent 116 = .ok (.iload_n 3, 1) := by decide +kernel
theorem dL_isSent_117 : decode cL_isSent 117 = .ok (.bipush 10, 2) := by decide +kernel
theorem dL_isSent_119 : decode cL_isSent 119 = .ok (.invokevirtual 14, 3) := by decide +kernel
theorem dL_isSent_122 : decode cL_isSent 122 = .ok (.iload 4, 2) := by decide +kernel
theorem dL_isSent_124 : decode cL_isSent 124 = .ok (.if_icmp .ne 22, 3) := by decide +kernel
theorem dL_isSent_127 : decode cL_isSent 127 = .ok (.aload_n 0, 1) := by decide +kernel
theorem dL_isSent_128 : decode cL_isSent 128 = .ok (.iload_n 3, 1) := by decide +kernel
theorem dL_isSent_129 : decode cL_isSent 129 = .ok (.bipush 7, 2) := by decide +kernel
theorem dL_isSent_131 : decode cL_isSent 131 = .ok (.invokevirtual 14, 3) := by decide +kernel
theorem dL_isSent_134 : decode cL_isSent 134 = .ok (.aload_n 0, 1) := by decide +kernel
theorem dL_isSent_135 : decode cL_isSent 135 = .ok (.iconst 0, 1) := by decide +kernel
theorem dL_isSent_136 : decode cL_isSent 136 = .ok (.invokevirtual 8, 3) := by decide +kernel
theorem dL_isSent_139 : decode cL_isSent 139 = .ok (.if_icmp .ne 7, 3) := by decide +kernel
theorem dL_isSent_142 : decode cL_isSent 142 = .ok (.iconst 1, 1) := by decide +kernel
theorem dL_isSent_143 : decode cL_isSent 143 = .ok (.goto 4, 3) := by decide +kernel
theorem dL_isSent_146 : decode cL_isSent 146 = .ok (.iconst 0, 1) := by decide +kernel
theorem dL_isSent_147 : decode cL_isSent 147 = .ok (.ireturn, 1) := by decide +kernel
theorem dL_isLink_0 : decode cL_isLink 0 = .ok (.aload_n 0, 1) := by decide +kernel
theorem dL_isLink_1 : decode cL_isLink 1 = .ok (.iload_n 1, 1) := by decide +kernel
theorem dL_isLink_2 : decode cL_isLink 2 = .ok (.iconst 3, 1) := by decide +kernel
theorem dL_isLink_3 : decode cL_isLink 3 = .ok (.iload_n 2, 1) := by decide +kernel
theorem dL_isLink_4 : decode cL_isLink 4 = .ok (.iadd, 1) := by decide +kernel
theorem dL_isLink_5 : decode cL_isLink 5 = .ok (.invokevirtual 24, 3) := by decide +kernel
theorem dL_isLink_8 : decode cL_isLink 8 = .ok (.istore 4, 2) := by decide +kernel
theorem dL_isLink_10 : decode cL_isLink 10 = .ok (.aload_n 0, 1) := by decide +kernel
theorem dL_isLink_11 : decode cL_isLink 11 = .ok (.invokevirtual 56, 3) := by decide +kernel
theorem dL_isLink_14 : decode cL_isLink 14 = .ok (.istore 5, 2) := by decide +kernel
theorem dL_isLink_16 : decode cL_isLink 16 = .ok (.aload_n 0, 1) := by decide +kernel
theorem dL_isLink_17 : decode cL_isLink 17 = .ok (.iload_n 1, 1) := by decide +kernel
theorem dL_isLink_18 : decode cL_isLink 18 = .ok (.iload_n 2, 1) := by decide +kernel
theorem dL_isLink_19 : decode cL_isLink 19 = .ok (.iload_n 3, 1) := by decide +kernel
theorem dL_isLink_20 : decode cL_isLink 20 = .ok (.invokevirtual 40, 3) := by decide +kernel
theorem dL_isLink_23 : decode cL_isLink 23 = .ok (.istore 6, 2) := by decide +kernel
theorem dL_isLink_25 : decode cL_isLink 25 = .ok (.iload 4, 2) := by decide +kernel
theorem dL_isLink_27 : decode cL_isLink 27 = .ok (.ifCond .lt 29, 3) := by decide +kernel
theorem dL_isLink_30 : decode cL_isLink 30 = .ok (.iload_n 3, 1) := by decide +kernel
theorem dL_isLink_31 : decode cL_isLink 31 = .ok (.iconst 1, 1) := by decide +kernel
theorem dL_isLink_32 : decode cL_isLink 32 = .ok (.if_icmp .ne 15, 3) := by decide +kernel
theorem dL_isLink_35 : decode cL_isLink 35 = .ok (.aload_n 0, 1) := by decide +kernel
theorem dL_isLink_36 : decode cL_isLink 36 = .ok (.invokevirtual 56, 3) := by decide +kernel
theorem dL_isLink_39 : decode cL_isLink 39 = .ok (.iload 5, 2) := by decide +kernel
theorem dL_isLink_41 : decode cL_isLink 41 = .ok (.if_icmp .lt 19, 3) := by decide +kernel
theorem dL_isLink_44 : decode cL_isLink 44 = .ok (.goto 12, 3) := by decide +kernel
theorem dL_isLink_47 : decode cL_isLink 47 = .ok (.aload_n 0, 1) := by decide +kernel
theorem dL_isLink_48 : decode cL_isLink 48 = .ok (.invokevirtual 56, 3) := by decide +kernel
theorem dL_isLink_51 : decode cL_isLink 51 = .ok (.iload 5, 2) := by decide +kernel
theorem dL_isLink_53 : decode cL_isLink 53 = .ok (.if_icmp .gt 7, 3) := by decide +kernel
theorem dL_isLink_56 : decode cL_isLink 56 = .ok (.iconst 1, 1) := by decide +kernel
theorem dL_isLink_57 : decode cL_isLink 57 = .ok (.goto 4, 3) := by decide +kernel
theorem dL_isLink_60 : decode cL_isLink 60 = .ok (.iconst 0, 1) := by decide +kernel
theorem dL_isLink_61 : decode cL_isLink 61 = .ok (.istore 7, 2) := by decide +kernel
theorem dL_isLink_63 : decode cL_isLink 63 = .ok (.iload 6, 2) := by decide +kernel
theorem dL_isLink_65 : decode cL_isLink 65 = .ok (.iload 4, 2) := by decide +kernel
theorem dL_isLink_67 : decode cL_isLink 67 = .ok (.ifCond .ge 7, 3) := by decide +kernel
theorem dL_isLink_70 : decode cL_isLink 70 = .ok (.iconst (-1), 1) := by decide +kernel
theorem dL_isLink_71 : decode cL_isLink 71 = .ok (.goto 5, 3) := by decide +kernel
theorem dL_isLink_74 : decode cL_isLink 74 = .ok (.iload 4, 2) := by decide +kernel
theorem dL_isLink_76 : decode cL_isLink 76 = .ok (.if_icmp .ne 34, 3) := by decide +kernel
theorem dL_isLink_79 : decode cL_isLink 79 = .ok (.aload_n 0, 1) := by decide +kernel
theorem dL_isLink_80 : decode cL_isLink 80 = .ok (.iload_n 1, 1) := by decide +kernel
theorem dL_isLink_81 : decode cL_isLink 81 = .ok (.iconst 3, 1) := by decide +kernel
theorem dL_isLink_82 : decode cL_isLink 82 = .ok (.iload_n 2, 1) := by decide +kernel
theorem dL_isLink_83 : decode cL_isLink 83 = .ok (.iadd, 1) := by decide +kernel
theorem dL_isLink_84 : decode cL_isLink 84 = .ok (.invokevirtual 24, 3) := by decide +kernel
theorem dL_isLink_87 : decode cL_isLink 87 = .ok (.iload 4, 2) := by decide +kernel
theorem dL_isLink_89 : decode cL_isLink 89 = .ok (.ifCond .ge 8, 3) := by decide +kernel
theorem dL_isLink_92 : decode cL_isLink 92 = .ok (.bipush (-6), 2) := by decide +kernel
theorem dL_isLink_94 : decode cL_isLink 94 = .ok (.goto 4, 3) := by decide +kernel
theorem dL_isLink_97 : decode cL_isLink 97 = .ok (.iload_n 3, 1) := by decide +kernel
theorem dL_isLink_98 : decode cL_isLink 98 = .ok (.if_icmp .ne 12, 3) := by decide +kernel
theorem dL_isLink_101 : decode cL_isLink 101 = .ok (.iload 7, 2) := by decide +kernel
theorem dL_isLink_103 : decode cL_isLink 103 = .ok (.ifCond .eq 7, 3) := by decide +kernel
theorem dL_isLink_106 : decode cL_isLink 106 = .ok (.iconst 1, 1) := by decide +kernel
theorem dL_isLink_107 : decode cL_isLink 107 = .ok (.goto 4, 3) := by decide +kernel
theorem dL_isLink_110 : decode cL_isLink 110 = .ok (.iconst 0, 1) := by decide +kernel
theorem dL_isLink_111 : decode cL_isLink 111 = .ok (.ireturn, 1) := by decide +kernel
theorem dL_isAct_0 : decode cL_isAct 0 = .ok (.aload_n 1, 1) := by decide +kernel
theorem dL_isAct_1 : decode cL_isAct 1 = .ok (.iload_n 2, 1) := by decide +kernel
theorem dL_isAct_2 : decode cL_isAct 2 = .ok (.iconst 1, 1) := by decide +kernel
theorem dL_isAct_3 : decode cL_isAct 3 = .ok (.iadd, 1) := by decide +kernel
theorem dL_isAct_4 : decode cL_isAct 4 = .ok (.aload_n 0, 1) := by decide +kernel
theorem dL_isAct_5 : decode cL_isAct 5 = .ok (.iconst 1, 1) := by decide +kernel
theorem dL_isAct_6 : decode cL_isAct 6 = .ok (.invokevirtual 8, 3) := by decide +kernel
theorem dL_isAct_9 : decode cL_isAct 9 = .ok (.invokestatic 60, 3) := by decide +kernel
theorem dL_isAct_12 : decode cL_isAct 12 = .ok (.istore_n 3, 1) := by decide +kernel
theorem dL_isAct_13 : decode cL_isAct 13 = .ok (.aload_n 1, 1) := by decide +kernel
theorem dL_isAct_14 : decode cL_isAct 14 = .ok (.iload_n 2, 1) := by decide +kernel
theorem dL_isAct_15 : decode cL_isAct 15 = .ok (.iconst 2, 1) := by decide +kernel
theorem dL_isAct_16 : decode cL_isAct 16 = .ok (.iadd, 1) := by decide +kernel
theorem dL_isAct_17 : decode cL_isAct 17 = .ok (.aload_n 0, 1) := by decide +kernel
theorem dL_isAct_18 : decode cL_isAct 18 = .ok (.iconst 1, 1) := by decide +kernel
theorem dL_isAct_19 : decode cL_isAct 19 = .ok (.invokevirtual 8, 3) := by decide +kernel
theorem dL_isAct_22 : decode cL_isAct 22 = .ok (.invokestatic 60, 3) := by decide +kernel
theorem dL_isAct_25 : decode cL_isAct 25 = .ok (.istore 4, 2) := by decide +kernel
theorem dL_isAct_27 : decode cL_isAct 27 = .ok (.aload_n 1, 1) := by decide +kernel
theorem dL_isAct_28 : decode cL_isAct 28 = .ok (.iload_n 2, 1) := by decide +kernel
theorem dL_isAct_29 : decode cL_isAct 29 = .ok (.bipush 16, 2) := by decide +kernel
theorem dL_isAct_31 : decode cL_isAct 31 = .ok (.invokestatic 60, 3) := by decide +kernel
theorem dL_isAct_34 : decode cL_isAct 34 = .ok (.tableswitch 167 0 6 #[42, 42, 42, 42, 50, 80, 88], 42) := by decide +kernel
theorem dL_isAct_76 : decode cL_isAct 76 = .ok (.aload_n 0, 1) := by decide +kernel
theorem dL_isAct_77 : decode cL_isAct 77 = .ok (.iload_n 3, 1) := by decide +kernel
theorem dL_isAct_78 : decode cL_isAct 78 = .ok (.iload 4, 2) := by decide +kernel
theorem dL_isAct_80 : decode cL_isAct 80 = .ok (.invokestatic 64, 3) := by decide +kernel
theorem dL_isAct_83 : decode cL_isAct 83 = .ok (.ireturn, 1) := by decide +kernel
theorem dL_isAct_84 : decode cL_isAct 84 = .ok (.aload_n 0, 1) := by decide +kernel
theorem dL_isAct_85 : decode cL_isAct 85 = .ok (.iload_n 3, 1) := by decide +kernel
theorem dL_isAct_86 : decode cL_isAct 86 = .ok (.aload_n 1, 1) := by decide +kernel
theorem dL_isAct_87 : decode cL_isAct 87 = .ok (.iload_n 2, 1) := by decide +kernel
theorem dL_isAct_88 : decode cL_isAct 88 = .ok (.iconst 3, 1) := by decide +kernel
theorem dL_isAct_89 : decode cL_isAct 89 = .ok (.iadd, 1) := by decide +kernel
theorem dL_isAct_90 : decode cL_isAct 90 = .ok (.iconst 4, 1) := by decide +kernel
theorem dL_isAct_91 : decode cL_isAct 91 = .ok (.invokestatic 60, 3) := by decide +kernel
theorem dL_isAct_94 : decode cL_isAct 94 = .ok (.aload_n 1, 1) := by decide +kernel
theorem dL_isAct_95 : decode cL_isAct 95 = .ok (.iload_n 2, 1) := by decide +kernel
theorem dL_isAct_96 : decode cL_isAct 96 = .ok (.iconst 4, 1) := by decide +kernel
theorem dL_isAct_97 : decode cL_isAct 97 = .ok (.iadd, 1) := by decide +kernel
theorem dL_isAct_98 : decode cL_isAct 98 = .ok (.iconst 3, 1) := by decide +kernel
theorem dL_isAct_99 : decode cL_isAct 99 = .ok (.invokestatic 60, 3) := by decide +kernel
theorem dL_isAct_102 : decode cL_isAct 102 = .ok (.ifCond .ne 7, 3) := by decide +kernel
theorem dL_isAct_105 : decode cL_isAct 105 = .ok (.iconst 0, 1) := by decide +kernel
theorem dL_isAct_106 : decode cL_isAct 106 = .ok (.goto 4, 3) := by decide +kernel
theorem dL_isAct_109 : decode cL_isAct 109 = .ok (.iconst 1, 1) := by decide +kernel
theorem dL_isAct_110 : decode cL_isAct 110 = .ok (.invokestatic 68, 3) := by decide +kernel
theorem dL_isAct_113 : decode cL_isAct 113 = .ok (.ireturn, 1) := by decide +kernel
theorem dL_isAct_114 : decode cL_isAct 114 = .ok (.aload_n 0, 1) := by decide +kernel
theorem dL_isAct_115 : decode cL_isAct 115 = .ok (.iload_n 3, 1) := by decide +kernel
theorem dL_isAct_116 : decode cL_isAct 116 = .ok (.iload 4, 2) := by decide +kernel
theorem dL_isAct_118 : decode cL_isAct 118 = .ok (.invokestatic 72, 3) := by decide +kernel
theorem dL_isAct_121 : decode cL_isAct 121 = .ok (.ireturn, 1) := by decide +kernel
theorem dL_isAct_122 : decode cL_isAct 122 = .ok (.aload_n 1, 1) := by decide +kernel
theorem dL_isAct_123 : decode cL_isAct 123 = .ok (.iload_n 2, 1) := by decide +kernel
theorem dL_isAct_124 : decode cL_isAct 124 = .ok (.iconst 3, 1) := by decide +kernel
theorem dL_isAct_125 : decode cL_isAct 125 = .ok (.iadd, 1) := by decide +kernel
theorem dL_isAct_126 : decode cL_isAct 126 = .ok (.iconst 3, 1) := by decide +kernel
theorem dL_isAct_127 : decode cL_isAct 127 = .ok (.invokestatic 60, 3) := by decide +kernel
theorem dL_isAct_130 : decode cL_isAct 130 = .ok (.istore 5, 2) := by decide +kernel
theorem dL_isAct_132 : decode cL_isAct 132 = .ok (.iload 5, 2) := by decide +kernel
theorem dL_isAct_134 : decode cL_isAct 134 = .ok (.iconst 2, 1) := by decide +kernel
theorem dL_isAct_135 : decode cL_isAct 135 = .ok (.if_icmp .ne 16, 3) := by decide +kernel
theorem dL_isAct_138 : decode cL_isAct 138 = .ok (.iconst 1, 1) := by decide +kernel
theorem dL_isAct_139 : decode cL_isAct 139 = .ok (.aload_n 1, 1) := by decide +kernel
theorem dL_isAct_140 : decode cL_isAct 140 = .ok (.iload_n 2, 1) := by decide +kernel
theorem dL_isAct_141 : decode cL_isAct 141 = .ok (.iconst 4, 1) := by decide +kernel
theorem dL_isAct_142 : decode cL_isAct 142 = .ok (.iadd, 1) := by decide +kernel
theorem dL_isAct_143 : decode cL_isAct 143 = .ok (.iconst 3, 1) := by decide +kernel
theorem dL_isAct_144 : decode cL_isAct 144 = .ok (.invokestatic 60, 3) := by decide +kernel
theorem dL_isAct_147 : decode cL_isAct 147 = .ok (.iadd, 1) := by decide +kernel
theorem dL_isAct_148 : decode cL_isAct 148 = .ok (.goto 20, 3) := by decide +kernel
theorem dL_isAct_151 : decode cL_isAct 151 = .ok (.aload_n 1, 1) := by decide +kernel
theorem dL_isAct_152 : decode cL_isAct 152 = .ok (.iload_n 2, 1) := by decide +kernel
theorem dL_isAct_153 : decode cL_isAct 153 = .ok (.iconst 4, 1) := by decide +kernel
theorem dL_isAct_154 : decode cL_isAct 154 = .ok (.iadd, 1) := by decide +kernel
theorem dL_isAct_155 : decode cL_isAct 155 = .ok (.iload 5, 2) := by decide +kernel
theorem dL_isAct_157 : decode cL_isAct 157 = .ok (.ifCond .ne 7, 3) := by decide +kernel
theorem dL_isAct_160 : decode cL_isAct 160 = .ok (.iconst 2, 1) := by decide +kernel
theorem dL_isAct_161 : decode cL_isAct 161 = .ok (.goto 4, 3) := by decide +kernel
theorem dL_isAct_164 : decode cL_isAct 164 = .ok (.iconst 4, 1) := by decide +kernel
theorem dL_isAct_165 : decode cL_isAct 165 = .ok (.invokestatic 60, 3) := by decide +kernel
theorem dL_isAct_168 : decode cL_isAct 168 = .ok (.istore 6, 2) := by decide +kernel
theorem dL_isAct_170 : decode cL_isAct 170 = .ok (.aload_n 0, 1) := by decide +kernel
theorem dL_isAct_171 : decode cL_isAct 171 = .ok (.iload 5, 2) := by decide +kernel
theorem dL_isAct_173 : decode cL_isAct 173 = .ok (.iload 6, 2) := by decide +kernel
theorem dL_isAct_175 : decode cL_isAct 175 = .ok (.invokevirtual 37, 3) := by decide +kernel
theorem dL_isAct_178 : decode cL_isAct 178 = .ok (.ifCond .lt 21, 3) := by decide +kernel
theorem dL_isAct_181 : decode cL_isAct 181 = .ok (.aload_n 0, 1) := by decide +kernel
theorem dL_isAct_182 : decode cL_isAct 182 = .ok (.bipush 14, 2) := by decide +kernel
theorem dL_isAct_184 : decode cL_isAct 184 = .ok (.iload 5, 2) := by decide +kernel
theorem dL_isAct_186 : decode cL_isAct 186 = .ok (.iadd, 1) := by decide +kernel
theorem dL_isAct_187 : decode cL_isAct 187 = .ok (.invokevirtual 8, 3) := by decide +kernel
theorem dL_isAct_190 : decode cL_isAct 190 = .ok (.iload 6, 2) := by decide +kernel
theorem dL_isAct_192 : decode cL_isAct 192 = .ok (.if_icmp .ne 7, 3) := by decide +kernel
theorem dL_isAct_195 : decode cL_isAct 195 = .ok (.iconst 1, 1) := by decide +kernel
theorem dL_isAct_196 : decode cL_isAct 196 = .ok (.goto 4, 3) := by decide +kernel
theorem dL_isAct_199 : decode cL_isAct 199 = .ok (.iconst 0, 1) := by decide +kernel
theorem dL_isAct_200 : decode cL_isAct 200 = .ok (.ireturn, 1) := by decide +kernel
theorem dL_isAct_201 : decode cL_isAct 201 = .ok (.aload_n 0, 1) := by decide +kernel
theorem dL_isAct_202 : decode cL_isAct 202 = .ok (.invokestatic 75, 3) := by decide +kernel
theorem dL_isAct_205 : decode cL_isAct 205 = .ok (.ireturn, 1) := by decide +kernel
theorem dL_law_0 : decode cL_law 0 = .ok (.new 9, 3) := by decide +kernel
theorem dL_law_3 : decode cL_law 3 = .ok (.dup, 1) := by decide +kernel
theorem dL_law_4 : decode cL_law 4 = .ok (.invokespecial 33, 3) := by decide +kernel
theorem dL_law_7 : decode cL_law 7 = .ok (.astore_n 1, 1) := by decide +kernel
theorem dL_law_8 : decode cL_law 8 = .ok (.iconst 2, 1) := by decide +kernel
theorem dL_law_9 : decode cL_law 9 = .ok (.aload_n 0, 1) := by decide +kernel
theorem dL_law_10 : decode cL_law 10 = .ok (.iconst 0, 1) := by decide +kernel
theorem dL_law_11 : decode cL_law 11 = .ok (.iconst 4, 1) := by decide +kernel
theorem dL_law_12 : decode cL_law 12 = .ok (.invokestatic 60, 3) := by decide +kernel
theorem dL_law_15 : decode cL_law 15 = .ok (.iadd, 1) := by decide +kernel
theorem dL_law_16 : decode cL_law 16 = .ok (.istore_n 2, 1) := by decide +kernel
theorem dL_law_17 : decode cL_law 17 = .ok (.iconst 2, 1) := by decide +kernel
theorem dL_law_18 : decode cL_law 18 = .ok (.aload_n 0, 1) := by decide +kernel
theorem dL_law_19 : decode cL_law 19 = .ok (.iconst 1, 1) := by decide +kernel
theorem dL_law_20 : decode cL_law 20 = .ok (.iconst 4, 1) := by decide +kernel
theorem dL_law_21 : decode cL_law 21 = .ok (.invokestatic 60, 3) := by decide +kernel
theorem dL_law_24 : decode cL_law 24 = .ok (.iadd, 1) := by decide +kernel
theorem dL_law_25 : decode cL_law 25 = .ok (.istore_n 3, 1) := by decide +kernel
theorem dL_law_26 : decode cL_law 26 = .ok (.aload_n 1, 1) := by decide +kernel
theorem dL_law_27 : decode cL_law 27 = .ok (.iload_n 2, 1) := by decide +kernel
theorem dL_law_28 : decode cL_law 28 = .ok (.iload_n 3, 1) := by decide +kernel
theorem dL_law_29 : decode cL_law 29 = .ok (.invokevirtual 34, 3) := by decide +kernel
theorem dL_law_32 : decode cL_law 32 = .ok (.iload_n 2, 1) := by decide +kernel
theorem dL_law_33 : decode cL_law 33 = .ok (.iload_n 3, 1) := by decide +kernel
theorem dL_law_34 : decode cL_law 34 = .ok (.imul, 1) := by decide +kernel
theorem dL_law_35 : decode cL_law 35 = .ok (.if_icmp .ne 12, 3) := by decide +kernel
theorem dL_law_38 : decode cL_law 38 = .ok (.aload_n 1, 1) := by decide +kernel
theorem dL_law_39 : decode cL_law 39 = .ok (.iconst 2, 1) := by decide +kernel
theorem dL_law_40 : decode cL_law 40 = .ok (.invokevirtual 8, 3) := by decide +kernel
theorem dL_law_43 : decode cL_law 43 = .ok (.iload_n 2, 1) := by decide +kernel
theorem dL_law_44 : decode cL_law 44 = .ok (.if_icmp .eq 5, 3) := by decide +kernel
theorem dL_law_47 : decode cL_law 47 = .ok (.iconst 0, 1) := by decide +kernel
theorem dL_law_48 : decode cL_law 48 = .ok (.ireturn, 1) := by decide +kernel
theorem dL_law_49 : decode cL_law 49 = .ok (.aload_n 1, 1) := by decide +kernel
theorem dL_law_50 : decode cL_law 50 = .ok (.iconst 1, 1) := by decide +kernel
theorem dL_law_51 : decode cL_law 51 = .ok (.aload_n 0, 1) := by decide +kernel
theorem dL_law_52 : decode cL_law 52 = .ok (.iconst 2, 1) := by decide +kernel
theorem dL_law_53 : decode cL_law 53 = .ok (.iconst 3, 1) := by decide +kernel
theorem dL_law_54 : decode cL_law 54 = .ok (.invokestatic 60, 3) := by decide +kernel
theorem dL_law_57 : decode cL_law 57 = .ok (.invokevirtual 37, 3) := by decide +kernel
theorem dL_law_60 : decode cL_law 60 = .ok (.pop, 1) := by decide +kernel
theorem dL_law_61 : decode cL_law 61 = .ok (.aload_n 1, 1) := by decide +kernel
theorem dL_law_62 : decode cL_law 62 = .ok (.iconst 0, 1) := by decide +kernel
theorem dL_law_63 : decode cL_law 63 = .ok (.aload_n 0, 1) := by decide +kernel
theorem dL_law_64 : decode cL_law 64 = .ok (.iconst 3, 1) := by decide +kernel
theorem dL_law_65 : decode cL_law 65 = .ok (.iconst 3, 1) := by decide +kernel
theorem dL_law_66 : decode cL_law 66 = .ok (.invokestatic 60, 3) := by decide +kernel
theorem dL_law_69 : decode cL_law 69 = .ok (.ifCond .ne 7, 3) := by decide +kernel
theorem dL_law_72 : decode cL_law 72 = .ok (.iconst 0, 1) := by decide +kernel
theorem dL_law_73 : decode cL_law 73 = .ok (.goto 4, 3) := by decide +kernel
theorem dL_law_76 : decode cL_law 76 = .ok (.iconst 1, 1) := by decide +kernel
theorem dL_law_77 : decode cL_law 77 = .ok (.invokevirtual 37, 3) := by decide +kernel
theorem dL_law_80 : decode cL_law 80 = .ok (.pop, 1) := by decide +kernel
theorem dL_law_81 : decode cL_law 81 = .ok (.iconst 0, 1) := by decide +kernel
theorem dL_law_82 : decode cL_law 82 = .ok (.istore 4, 2) := by decide +kernel
theorem dL_law_84 : decode cL_law 84 = .ok (.iload 4, 2) := by decide +kernel
theorem dL_law_86 : decode cL_law 86 = .ok (.iconst 4, 1) := by decide +kernel
theorem dL_law_87 : decode cL_law 87 = .ok (.if_icmp .ge 40, 3) := by decide +kernel
theorem dL_law_90 : decode cL_law 90 = .ok (.aload_n 1, 1) := by decide +kernel
theorem dL_law_91 : decode cL_law 91 = .ok (.aload_n 0, 1) := by decide +kernel
theorem dL_law_92 : decode cL_law 92 = .ok (.iconst 4, 1) := by decide +kernel
theorem dL_law_93 : decode cL_law 93 = .ok (.iload 4, 2) := by decide +kernel
theorem dL_law_95 : decode cL_law 95 = .ok (.iadd, 1) := by decide +kernel
theorem dL_law_96 : decode cL_law 96 = .ok (.iload_n 2, 1) := by decide +kernel
theorem dL_law_97 : decode cL_law 97 = .ok (.iload_n 3, 1) := by decide +kernel
theorem dL_law_98 : decode cL_law 98 = .ok (.imul, 1) := by decide +kernel
theorem dL_law_99 : decode cL_law 99 = .ok (.invokestatic 60, 3) := by decide +kernel
theorem dL_law_102 : decode cL_law 102 = .ok (.aload_n 0, 1) := by decide +kernel
theorem dL_law_103 : decode cL_law 103 = .ok (.bipush 8, 2) := by decide +kernel
theorem dL_law_105 : decode cL_law 105 = .ok (.iload 4, 2) := by decide +kernel
theorem dL_law_107 : decode cL_law 107 = .ok (.iadd, 1) := by decide +kernel
theorem dL_law_108 : decode cL_law 108 = .ok (.iconst 4, 1) := by decide +kernel
theorem dL_law_109 : decode cL_law 109 = .ok (.invokestatic 60, 3) := by decide +kernel
theorem dL_law_112 : decode cL_law 112 = .ok (.iconst 0, 1) := by decide +kernel
theorem dL_law_113 : decode cL_law 113 = .ok (.invokestatic 68, 3) := by decide +kernel
theorem dL_law_116 : decode cL_law 116 = .ok (.ifCond .ne 5, 3) := by decide +kernel
theorem dL_law_119 : decode cL_law 119 = .ok (.iconst 0, 1) := by decide +kernel
theorem dL_law_120 : decode cL_law 120 = .ok (.ireturn, 1) := by decide +kernel
theorem dL_law_121 : decode cL_law 121 = .ok (.iinc 4 1, 3) := by decide +kernel
theorem dL_law_124 : decode cL_law 124 = .ok (.goto (-40), 3) := by decide +kernel
theorem dL_law_127 : decode cL_law 127 = .ok (.iconst 0, 1) := by decide +kernel
theorem dL_law_128 : decode cL_law 128 = .ok (.istore 4, 2) := by decide +kernel
theorem dL_law_130 : decode cL_law 130 = .ok (.iload 4, 2) := by decide +kernel
theorem dL_law_132 : decode cL_law 132 = .ok (.bipush 60, 2) := by decide +kernel
theorem dL_law_134 : decode cL_law 134 = .ok (.if_icmp .ge 33, 3) := by decide +kernel
theorem dL_law_137 : decode cL_law 137 = .ok (.aload_n 1, 1) := by decide +kernel
theorem dL_law_138 : decode cL_law 138 = .ok (.aload_n 0, 1) := by decide +kernel
theorem dL_law_139 : decode cL_law 139 = .ok (.bipush 12, 2) := by decide +kernel
theorem dL_law_141 : decode cL_law 141 = .ok (.iconst 5, 1) := by decide +kernel
theorem dL_law_142 : decode cL_law 142 = .ok (.iload 4, 2) := by decide +kernel
theorem dL_law_144 : decode cL_law 144 = .ok (.imul, 1) := by decide +kernel
theorem dL_law_145 : decode cL_law 145 = .ok (.iadd, 1) := by decide +kernel
theorem dL_law_146 : decode cL_law 146 = .ok (.invokestatic 79, 3) := by decide +kernel
theorem dL_law_149 : decode cL_law 149 = .ok (.ifCond .eq 10, 3) := by decide +kernel
theorem dL_law_152 : decode cL_law 152 = .ok (.aload_n 1, 1) := by decide +kernel
theorem dL_law_153 : decode cL_law 153 = .ok (.invokestatic 83, 3) := by decide +kernel
theorem dL_law_156 : decode cL_law 156 = .ok (.ifCond .ne 5, 3) := by decide +kernel
theorem dL_law_159 : decode cL_law 159 = .ok (.iconst 0, 1) := by decide +kernel
theorem dL_law_160 : decode cL_law 160 = .ok (.ireturn, 1) := by decide +kernel
theorem dL_law_161 : decode cL_law 161 = .ok (.iinc 4 1, 3) := by decide +kernel
theorem dL_law_164 : decode cL_law 164 = .ok (.goto (-34), 3) := by decide +kernel
theorem dL_law_167 : decode cL_law 167 = .ok (.iconst 1, 1) := by decide +kernel
theorem dL_law_168 : decode cL_law 168 = .ok (.ireturn, 1) := by decide +kernel
