theorem dX0_init_0 : decode cX0_init 0 = .ok (.aload_n 0, 1) := by decide +kernel
theorem dX0_init_1 : decode cX0_init 1 = .ok (.invokespecial 3, 3) := by decide +kernel
theorem dX0_init_4 : decode cX0_init 4 = .ok (.return_, 1) := by decide +kernel
theorem dX0_find_0 : decode cX0_find 0 = .ok (.lload_n 1, 1) := by decide +kernel
theorem dX0_find_1 : decode cX0_find 1 = .ok (.lstore 5, 2) := by decide +kernel
theorem dX0_find_3 : decode cX0_find 3 = .ok (.lload_n 3, 1) := by decide +kernel
theorem dX0_find_4 : decode cX0_find 4 = .ok (.lstore 7, 2) := by decide +kernel
theorem dX0_find_6 : decode cX0_find 6 = .ok (.lconst 0, 1) := by decide +kernel
theorem dX0_find_7 : decode cX0_find 7 = .ok (.lstore 9, 2) := by decide +kernel
theorem dX0_find_9 : decode cX0_find 9 = .ok (.lconst 1, 1) := by decide +kernel
theorem dX0_find_10 : decode cX0_find 10 = .ok (.lstore 11, 2) := by decide +kernel
theorem dX0_find_12 : decode cX0_find 12 = .ok (.aload_n 0, 1) := by decide +kernel
theorem dX0_find_13 : decode cX0_find 13 = .ok (.lconst 1, 1) := by decide +kernel
theorem dX0_find_14 : decode cX0_find 14 = .ok (.putfield 9, 3) := by decide +kernel
theorem dX0_find_17 : decode cX0_find 17 = .ok (.aload_n 0, 1) := by decide +kernel
theorem dX0_find_18 : decode cX0_find 18 = .ok (.lconst 0, 1) := by decide +kernel
theorem dX0_find_19 : decode cX0_find 19 = .ok (.putfield 15, 3) := by decide +kernel
theorem dX0_find_22 : decode cX0_find 22 = .ok (.iconst 0, 1) := by decide +kernel
theorem dX0_find_23 : decode cX0_find 23 = .ok (.istore 13, 2) := by decide +kernel
theorem dX0_find_25 : decode cX0_find 25 = .ok (.iload 13, 2) := by decide +kernel
theorem dX0_find_27 : decode cX0_find 27 = .ok (.ldc 18, 2) := by decide +kernel
theorem dX0_find_29 : decode cX0_find 29 = .ok (.if_icmp .ge 87, 3) := by decide +kernel
theorem dX0_find_32 : decode cX0_find 32 = .ok (.lload 7, 2) := by decide +kernel
theorem dX0_find_34 : decode cX0_find 34 = .ok (.lconst 0, 1) := by decide +kernel
theorem dX0_find_35 : decode cX0_find 35 = .ok (.lcmp, 1) := by decide +kernel
theorem dX0_find_36 : decode cX0_find 36 = .ok (.ifCond .eq 80, 3) := by decide +kernel
theorem dX0_find_39 : decode cX0_find 39 = .ok (.lload 5, 2) := by decide +kernel
theorem dX0_find_41 : decode cX0_find 41 = .ok (.lload 7, 2) := by decide +kernel
theorem dX0_find_43 : decode cX0_find 43 = .ok (.invokestatic 19, 3) := by decide +kernel
theorem dX0_find_46 : decode cX0_find 46 = .ok (.lstore 14, 2) := by decide +kernel
theorem dX0_find_48 : decode cX0_find 48 = .ok (.lload 5, 2) := by decide +kernel
theorem dX0_find_50 : decode cX0_find 50 = .ok (.lload 14, 2) := by decide +kernel
theorem dX0_find_52 : decode cX0_find 52 = .ok (.lload 7, 2) := by decide +kernel
theorem dX0_find_54 : decode cX0_find 54 = .ok (.lmul, 1) := by decide +kernel
theorem dX0_find_55 : decode cX0_find 55 = .ok (.lsub, 1) := by decide +kernel
theorem dX0_find_56 : decode cX0_find 56 = .ok (.lstore 16, 2) := by decide +kernel
theorem dX0_find_58 : decode cX0_find 58 = .ok (.lload 7, 2) := by decide +kernel
theorem dX0_find_60 : decode cX0_find 60 = .ok (.lstore 5, 2) := by decide +kernel
theorem dX0_find_62 : decode cX0_find 62 = .ok (.lload 16, 2) := by decide +kernel
theorem dX0_find_64 : decode cX0_find 64 = .ok (.lstore 7, 2) := by decide +kernel
theorem dX0_find_66 : decode cX0_find 66 = .ok (.aload_n 0, 1) := by decide +kernel
theorem dX0_find_67 : decode cX0_find 67 = .ok (.getfield 9, 3) := by decide +kernel
theorem dX0_find_70 : decode cX0_find 70 = .ok (.lload 14, 2) := by decide +kernel
theorem dX0_find_72 : decode cX0_find 72 = .ok (.lload 9, 2) := by decide +kernel
theorem dX0_find_74 : decode cX0_find 74 = .ok (.lmul, 1) := by decide +kernel
theorem dX0_find_75 : decode cX0_find 75 = .ok (.lsub, 1) := by decide +kernel
theorem dX0_find_76 : decode cX0_find 76 = .ok (.lstore 16, 2) := by decide +kernel
theorem dX0_find_78 : decode cX0_find 78 = .ok (.aload_n 0, 1) := by decide +kernel
theorem dX0_find_79 : decode cX0_find 79 = .ok (.lload 9, 2) := by decide +kernel
theorem dX0_find_81 : decode cX0_find 81 = .ok (.putfield 9, 3) := by decide +kernel
theorem dX0_find_84 : decode cX0_find 84 = .ok (.lload 16, 2) := by decide +kernel
theorem dX0_find_86 : decode cX0_find 86 = .ok (.lstore 9, 2) := by decide +kernel
theorem dX0_find_88 : decode cX0_find 88 = .ok (.aload_n 0, 1) := by decide +kernel
theorem dX0_find_89 : decode cX0_find 89 = .ok (.getfield 15, 3) := by decide +kernel
theorem dX0_find_92 : decode cX0_find 92 = .ok (.lload 14, 2) := by decide +kernel
theorem dX0_find_94 : decode cX0_find 94 = .ok (.lload 11, 2) := by decide +kernel
theorem dX0_find_96 : decode cX0_find 96 = .ok (.lmul, 1) := by decide +kernel
theorem dX0_find_97 : decode cX0_find 97 = .ok (.lsub, 1) := by decide +kernel
theorem dX0_find_98 : decode cX0_find 98 = .ok (.lstore 16, 2) := by decide +kernel
theorem dX0_find_100 : decode cX0_find 100 = .ok (.aload_n 0, 1) := by decide +kernel
theorem dX0_find_101 : decode cX0_find 101 = .ok (.lload 11, 2) := by decide +kernel
theorem dX0_find_103 : decode cX0_find 103 = .ok (.putfield 15, 3) := by decide +kernel
theorem dX0_find_106 : decode cX0_find 106 = .ok (.lload 16, 2) := by decide +kernel
theorem dX0_find_108 : decode cX0_find 108 = .ok (.lstore 11, 2) := by decide +kernel
theorem dX0_find_110 : decode cX0_find 110 = .ok (.iinc 13 1, 3) := by decide +kernel
theorem dX0_find_113 : decode cX0_find 113 = .ok (.goto (-88), 3) := by decide +kernel
theorem dX0_find_116 : decode cX0_find 116 = .ok (.lload 5, 2) := by decide +kernel
theorem dX0_find_118 : decode cX0_find 118 = .ok (.lconst 0, 1) := by decide +kernel
theorem dX0_find_119 : decode cX0_find 119 = .ok (.lcmp, 1) := by decide +kernel
theorem dX0_find_120 : decode cX0_find 120 = .ok (.ifCond .ge 9, 3) := by decide +kernel
theorem dX0_find_123 : decode cX0_find 123 = .ok (.ldc2_w 23, 3) := by decide +kernel
theorem dX0_find_126 : decode cX0_find 126 = .ok (.goto 4, 3) := by decide +kernel
theorem dX0_find_129 : decode cX0_find 129 = .ok (.lconst 1, 1) := by decide +kernel
theorem dX0_find_130 : decode cX0_find 130 = .ok (.lstore 13, 2) := by decide +kernel
theorem dX0_find_132 : decode cX0_find 132 = .ok (.aload_n 0, 1) := by decide +kernel
theorem dX0_find_133 : decode cX0_find 133 = .ok (.lload 13, 2) := by decide +kernel
theorem dX0_find_135 : decode cX0_find 135 = .ok (.lload 5, 2) := by decide +kernel
theorem dX0_find_137 : decode cX0_find 137 = .ok (.lmul, 1) := by decide +kernel
theorem dX0_find_138 : decode cX0_find 138 = .ok (.putfield 25, 3) := by decide +kernel
theorem dX0_find_141 : decode cX0_find 141 = .ok (.aload_n 0, 1) := by decide +kernel
theorem dX0_find_142 : decode cX0_find 142 = .ok (.lload 13, 2) := by decide +kernel
theorem dX0_find_144 : decode cX0_find 144 = .ok (.aload_n 0, 1) := by decide +kernel
theorem dX0_find_145 : decode cX0_find 145 = .ok (.getfield 9, 3) := by decide +kernel
theorem dX0_find_148 : decode cX0_find 148 = .ok (.lmul, 1) := by decide +kernel
theorem dX0_find_149 : decode cX0_find 149 = .ok (.putfield 9, 3) := by decide +kernel
theorem dX0_find_152 : decode cX0_find 152 = .ok (.aload_n 0, 1) := by decide +kernel
theorem dX0_find_153 : decode cX0_find 153 = .ok (.lload 13, 2) := by decide +kernel
theorem dX0_find_155 : decode cX0_find 155 = .ok (.aload_n 0, 1) := by decide +kernel
theorem dX0_find_156 : decode cX0_find 156 = .ok (.getfield 15, 3) := by decide +kernel
theorem dX0_find_159 : decode cX0_find 159 = .ok (.lmul, 1) := by decide +kernel
theorem dX0_find_160 : decode cX0_find 160 = .ok (.putfield 15, 3) := by decide +kernel
theorem dX0_find_163 : decode cX0_find 163 = .ok (.return_, 1) := by decide +kernel
theorem dX1_init_0 : decode cX1_init 0 = .ok (.aload_n 0, 1) := by decide +kernel
theorem dX1_init_1 : decode cX1_init 1 = .ok (.invokespecial 1, 3) := by decide +kernel
theorem dX1_init_4 : decode cX1_init 4 = .ok (.aload_n 0, 1) := by decide +kernel
theorem dX1_init_5 : decode cX1_init 5 = .ok (.lconst 1, 1) := by decide +kernel
theorem dX1_init_6 : decode cX1_init 6 = .ok (.putfield 7, 3) := by decide +kernel
theorem dX1_init_9 : decode cX1_init 9 = .ok (.aload_n 0, 1) := by decide +kernel
theorem dX1_init_10 : decode cX1_init 10 = .ok (.lconst 1, 1) := by decide +kernel
theorem dX1_init_11 : decode cX1_init 11 = .ok (.putfield 13, 3) := by decide +kernel
theorem dX1_init_14 : decode cX1_init 14 = .ok (.aload_n 0, 1) := by decide +kernel
theorem dX1_init_15 : decode cX1_init 15 = .ok (.lconst 1, 1) := by decide +kernel
theorem dX1_init_16 : decode cX1_init 16 = .ok (.putfield 16, 3) := by decide +kernel
theorem dX1_init_19 : decode cX1_init 19 = .ok (.return_, 1) := by decide +kernel
theorem dX1_become_0 : decode cX1_become 0 = .ok (.aload_n 0, 1) := by decide +kernel
theorem dX1_become_1 : decode cX1_become 1 = .ok (.aload_n 1, 1) := by decide +kernel
theorem dX1_become_2 : decode cX1_become 2 = .ok (.getfield 7, 3) := by decide +kernel
theorem dX1_become_5 : decode cX1_become 5 = .ok (.putfield 7, 3) := by decide +kernel
theorem dX1_become_8 : decode cX1_become 8 = .ok (.aload_n 0, 1) := by decide +kernel
theorem dX1_become_9 : decode cX1_become 9 = .ok (.aload_n 1, 1) := by decide +kernel
theorem dX1_become_10 : decode cX1_become 10 = .ok (.getfield 13, 3) := by decide +kernel
theorem dX1_become_13 : decode cX1_become 13 = .ok (.putfield 13, 3) := by decide +kernel
theorem dX1_become_16 : decode cX1_become 16 = .ok (.aload_n 0, 1) := by decide +kernel
theorem dX1_become_17 : decode cX1_become 17 = .ok (.aload_n 1, 1) := by decide +kernel
theorem dX1_become_18 : decode cX1_become 18 = .ok (.getfield 16, 3) := by decide +kernel
theorem dX1_become_21 : decode cX1_become 21 = .ok (.putfield 16, 3) := by decide +kernel
theorem dX1_become_24 : decode cX1_become 24 = .ok (.return_, 1) := by decide +kernel
theorem dX1_isSame_0 : decode cX1_isSame 0 = .ok (.aload_n 0, 1) := by decide +kernel
theorem dX1_isSame_1 : decode cX1_isSame 1 = .ok (.getfield 7, 3) := by decide +kernel
theorem dX1_isSame_4 : decode cX1_isSame 4 = .ok (.aload_n 1, 1) := by decide +kernel
theorem dX1_isSame_5 : decode cX1_isSame 5 = .ok (.getfield 7, 3) := by decide +kernel
theorem dX1_isSame_8 : decode cX1_isSame 8 = .ok (.lcmp, 1) := by decide +kernel
theorem dX1_isSame_9 : decode cX1_isSame 9 = .ok (.ifCond .ne 31, 3) := by decide +kernel
theorem dX1_isSame_12 : decode cX1_isSame 12 = .ok (.aload_n 0, 1) := by decide +kernel
theorem dX1_isSame_13 : decode cX1_isSame 13 = .ok (.getfield 13, 3) := by decide +kernel
theorem dX1_isSame_16 : decode cX1_isSame 16 = .ok (.aload_n 1, 1) := by decide +kernel
theorem dX1_isSame_17 : decode cX1_isSame 17 = .ok (.getfield 13, 3) := by decide +kernel
theorem dX1_isSame_20 : decode cX1_isSame 20 = .ok (.lcmp, 1) := by decide +kernel
theorem dX1_isSame_21 : decode cX1_isSame 21 = .ok (.ifCond .ne 19, 3) := by decide +kernel
theorem dX1_isSame_24 : decode cX1_isSame 24 = .ok (.aload_n 0, 1) := by decide +kernel
theorem dX1_isSame_25 : decode cX1_isSame 25 = .ok (.getfield 16, 3) := by decide +kernel
theorem dX1_isSame_28 : decode cX1_isSame 28 = .ok (.aload_n 1, 1) := by decide +kernel
theorem dX1_isSame_29 : decode cX1_isSame 29 = .ok (.getfield 16, 3) := by decide +kernel
theorem dX1_isSame_32 : decode cX1_isSame 32 = .ok (.lcmp, 1) := by decide +kernel
theorem dX1_isSame_33 : decode cX1_isSame 33 = .ok (.ifCond .ne 7, 3) := by decide +kernel
theorem dX1_isSame_36 : decode cX1_isSame 36 = .ok (.iconst 1, 1) := by decide +kernel
theorem dX1_isSame_37 : decode cX1_isSame 37 = .ok (.goto 4, 3) := by decide +kernel
theorem dX1_isSame_40 : decode cX1_isSame 40 = .ok (.iconst 0, 1) := by decide +kernel
theorem dX1_isSame_41 : decode cX1_isSame 41 = .ok (.ireturn, 1) := by decide +kernel
theorem dX1_isReduced_0 : decode cX1_isReduced 0 = .ok (.aload_n 0, 1) := by decide +kernel
theorem dX1_isReduced_1 : decode cX1_isReduced 1 = .ok (.getfield 7, 3) := by decide +kernel
theorem dX1_isReduced_4 : decode cX1_isReduced 4 = .ok (.lneg, 1) := by decide +kernel
theorem dX1_isReduced_5 : decode cX1_isReduced 5 = .ok (.aload_n 0, 1) := by decide +kernel
theorem dX1_isReduced_6 : decode cX1_isReduced 6 = .ok (.getfield 13, 3) := by decide +kernel
theorem dX1_isReduced_9 : decode cX1_isReduced 9 = .ok (.lcmp, 1) := by decide +kernel
theorem dX1_isReduced_10 : decode cX1_isReduced 10 = .ok (.ifCond .ge 52, 3) := by decide +kernel
theorem dX1_isReduced_13 : decode cX1_isReduced 13 = .ok (.aload_n 0, 1) := by decide +kernel
theorem dX1_isReduced_14 : decode cX1_isReduced 14 = .ok (.getfield 13, 3) := by decide +kernel
theorem dX1_isReduced_17 : decode cX1_isReduced 17 = .ok (.aload_n 0, 1) := by decide +kernel
theorem dX1_isReduced_18 : decode cX1_isReduced 18 = .ok (.getfield 7, 3) := by decide +kernel
theorem dX1_isReduced_21 : decode cX1_isReduced 21 = .ok (.lcmp, 1) := by decide +kernel
theorem dX1_isReduced_22 : decode cX1_isReduced 22 = .ok (.ifCond .gt 40, 3) := by decide +kernel
theorem dX1_isReduced_25 : decode cX1_isReduced 25 = .ok (.aload_n 0, 1) := by decide +kernel
theorem dX1_isReduced_26 : decode cX1_isReduced 26 = .ok (.getfield 7, 3) := by decide +kernel
theorem dX1_isReduced_29 : decode cX1_isReduced 29 = .ok (.aload_n 0, 1) := by decide +kernel
theorem dX1_isReduced_30 : decode cX1_isReduced 30 = .ok (.getfield 16, 3) := by decide +kernel
theorem dX1_isReduced_33 : decode cX1_isReduced 33 = .ok (.lcmp, 1) := by decide +kernel
theorem dX1_isReduced_34 : decode cX1_isReduced 34 = .ok (.ifCond .gt 28, 3) := by decide +kernel
theorem dX1_isReduced_37 : decode cX1_isReduced 37 = .ok (.aload_n 0, 1) := by decide +kernel
theorem dX1_isReduced_38 : decode cX1_isReduced 38 = .ok (.getfield 7, 3) := by decide +kernel
theorem dX1_isReduced_41 : decode cX1_isReduced 41 = .ok (.aload_n 0, 1) := by decide +kernel
theorem dX1_isReduced_42 : decode cX1_isReduced 42 = .ok (.getfield 16, 3) := by decide +kernel
theorem dX1_isReduced_45 : decode cX1_isReduced 45 = .ok (.lcmp, 1) := by decide +kernel
theorem dX1_isReduced_46 : decode cX1_isReduced 46 = .ok (.ifCond .ne 12, 3) := by decide +kernel
theorem dX1_isReduced_49 : decode cX1_isReduced 49 = .ok (.aload_n 0, 1) := by decide +kernel
theorem dX1_isReduced_50 : decode cX1_isReduced 50 = .ok (.getfield 13, 3) := by decide +kernel
theorem dX1_isReduced_53 : decode cX1_isReduced 53 = .ok (.lconst 0, 1) := by decide +kernel
theorem dX1_isReduced_54 : decode cX1_isReduced 54 = .ok (.lcmp, 1) := by decide +kernel
theorem dX1_isReduced_55 : decode cX1_isReduced 55 = .ok (.ifCond .lt 7, 3) := by decide +kernel
theorem dX1_isReduced_58 : decode cX1_isReduced 58 = .ok (.iconst 1, 1) := by decide +kernel
theorem dX1_isReduced_59 : decode cX1_isReduced 59 = .ok (.goto 4, 3) := by decide +kernel
theorem dX1_isReduced_62 : decode cX1_isReduced 62 = .ok (.iconst 0, 1) := by decide +kernel
theorem dX1_isReduced_63 : decode cX1_isReduced 63 = .ok (.ireturn, 1) := by decide +kernel
theorem dX1_part_0 : decode cX1_part 0 = .ok (.iload_n 1, 1) := by decide +kernel
theorem dX1_part_1 : decode cX1_part 1 = .ok (.ifCond .ne 8, 3) := by decide +kernel
theorem dX1_part_4 : decode cX1_part 4 = .ok (.aload_n 0, 1) := by decide +kernel
theorem dX1_part_5 : decode cX1_part 5 = .ok (.getfield 7, 3) := by decide +kernel
theorem dX1_part_8 : decode cX1_part 8 = .ok (.lreturn, 1) := by decide +kernel
theorem dX1_part_9 : decode cX1_part 9 = .ok (.iload_n 1, 1) := by decide +kernel
theorem dX1_part_10 : decode cX1_part 10 = .ok (.iconst 1, 1) := by decide +kernel
theorem dX1_part_11 : decode cX1_part 11 = .ok (.if_icmp .ne 10, 3) := by decide +kernel
theorem dX1_part_14 : decode cX1_part 14 = .ok (.aload_n 0, 1) := by decide +kernel
theorem dX1_part_15 : decode cX1_part 15 = .ok (.getfield 13, 3) := by decide +kernel
theorem dX1_part_18 : decode cX1_part 18 = .ok (.goto 7, 3) := by decide +kernel
theorem dX1_part_21 : decode cX1_part 21 = .ok (.aload_n 0, 1) := by decide +kernel
theorem dX1_part_22 : decode cX1_part 22 = .ok (.getfield 16, 3) := by decide +kernel
theorem dX1_part_25 : decode cX1_part 25 = .ok (.lreturn, 1) := by decide +kernel
theorem dX1_swapEnds_0 : decode cX1_swapEnds 0 = .ok (.aload_n 0, 1) := by decide +kernel
theorem dX1_swapEnds_1 : decode cX1_swapEnds 1 = .ok (.getfield 7, 3) := by decide +kernel
theorem dX1_swapEnds_4 : decode cX1_swapEnds 4 = .ok (.lstore_n 1, 1) := by decide +kernel
theorem dX1_swapEnds_5 : decode cX1_swapEnds 5 = .ok (.aload_n 0, 1) := by decide +kernel
theorem dX1_swapEnds_6 : decode cX1_swapEnds 6 = .ok (.aload_n 0, 1) := by decide +kernel
theorem dX1_swapEnds_7 : decode cX1_swapEnds 7 = .ok (.getfield 16, 3) := by decide +kernel
theorem dX1_swapEnds_10 : decode cX1_swapEnds 10 = .ok (.putfield 7, 3) := by decide +kernel
theorem dX1_swapEnds_13 : decode cX1_swapEnds 13 = .ok (.aload_n 0, 1) := by decide +kernel
theorem dX1_swapEnds_14 : decode cX1_swapEnds 14 = .ok (.aload_n 0, 1) := by decide +kernel
theorem dX1_swapEnds_15 : decode cX1_swapEnds 15 = .ok (.getfield 13, 3) := by decide +kernel
theorem dX1_swapEnds_18 : decode cX1_swapEnds 18 = .ok (.lneg, 1) := by decide +kernel
theorem dX1_swapEnds_19 : decode cX1_swapEnds 19 = .ok (.putfield 13, 3) := by decide +kernel
theorem dX1_swapEnds_22 : decode cX1_swapEnds 22 = .ok (.aload_n 0, 1) := by decide +kernel
theorem dX1_swapEnds_23 : decode cX1_swapEnds 23 = .ok (.lload_n 1, 1) := by decide +kernel
theorem dX1_swapEnds_24 : decode cX1_swapEnds 24 = .ok (.putfield 16, 3) := by decide +kernel
theorem dX1_swapEnds_27 : decode cX1_swapEnds 27 = .ok (.return_, 1) := by decide +kernel
theorem dX2_init_0 : decode cX2_init 0 = .ok (.aload_n 0, 1) := by decide +kernel
theorem dX2_init_1 : decode cX2_init 1 = .ok (.invokespecial 3, 3) := by decide +kernel
theorem dX2_init_4 : decode cX2_init 4 = .ok (.aload_n 0, 1) := by decide +kernel
theorem dX2_init_5 : decode cX2_init 5 = .ok (.bipush 7, 2) := by decide +kernel
theorem dX2_init_7 : decode cX2_init 7 = .ok (.putfield 9, 3) := by decide +kernel
theorem dX2_init_10 : decode cX2_init 10 = .ok (.aload_n 0, 1) := by decide +kernel
theorem dX2_init_11 : decode cX2_init 11 = .ok (.new 15, 3) := by decide +kernel
theorem dX2_init_14 : decode cX2_init 14 = .ok (.dup, 1) := by decide +kernel
theorem dX2_init_15 : decode cX2_init 15 = .ok (.invokespecial 17, 3) := by decide +kernel
theorem dX2_init_18 : decode cX2_init 18 = .ok (.putfield 18, 3) := by decide +kernel
theorem dX2_init_21 : decode cX2_init 21 = .ok (.aload_n 0, 1) := by decide +kernel
theorem dX2_init_22 : decode cX2_init 22 = .ok (.new 15, 3) := by decide +kernel
theorem dX2_init_25 : decode cX2_init 25 = .ok (.dup, 1) := by decide +kernel
theorem dX2_init_26 : decode cX2_init 26 = .ok (.invokespecial 17, 3) := by decide +kernel
theorem dX2_init_29 : decode cX2_init 29 = .ok (.putfield 22, 3) := by decide +kernel
theorem dX2_init_32 : decode cX2_init 32 = .ok (.aload_n 0, 1) := by decide +kernel
theorem dX2_init_33 : decode cX2_init 33 = .ok (.new 25, 3) := by decide +kernel
theorem dX2_init_36 : decode cX2_init 36 = .ok (.dup, 1) := by decide +kernel
theorem dX2_init_37 : decode cX2_init 37 = .ok (.invokespecial 27, 3) := by decide +kernel
theorem dX2_init_40 : decode cX2_init 40 = .ok (.putfield 28, 3) := by decide +kernel
theorem dX2_init_43 : decode cX2_init 43 = .ok (.aload_n 0, 1) := by decide +kernel
theorem dX2_init_44 : decode cX2_init 44 = .ok (.new 15, 3) := by decide +kernel
theorem dX2_init_47 : decode cX2_init 47 = .ok (.dup, 1) := by decide +kernel
theorem dX2_init_48 : decode cX2_init 48 = .ok (.invokespecial 17, 3) := by decide +kernel
theorem dX2_init_51 : decode cX2_init 51 = .ok (.putfield 32, 3) := by decide +kernel
theorem dX2_init_54 : decode cX2_init 54 = .ok (.aload_n 0, 1) := by decide +kernel
theorem dX2_init_55 : decode cX2_init 55 = .ok (.new 15, 3) := by decide +kernel
theorem dX2_init_58 : decode cX2_init 58 = .ok (.dup, 1) := by decide +kernel
theorem dX2_init_59 : decode cX2_init 59 = .ok (.invokespecial 17, 3) := by decide +kernel
theorem dX2_init_62 : decode cX2_init 62 = .ok (.putfield 35, 3) := by decide +kernel
theorem dX2_init_65 : decode cX2_init 65 = .ok (.aload_n 0, 1) := by decide +kernel
theorem dX2_init_66 : decode cX2_init 66 = .ok (.new 15, 3) := by decide +kernel
theorem dX2_init_69 : decode cX2_init 69 = .ok (.dup, 1) := by decide +kernel
theorem dX2_init_70 : decode cX2_init 70 = .ok (.invokespecial 17, 3) := by decide +kernel
theorem dX2_init_73 : decode cX2_init 73 = .ok (.putfield 38, 3) := by decide +kernel
theorem dX2_init_76 : decode cX2_init 76 = .ok (.aload_n 0, 1) := by decide +kernel
theorem dX2_init_77 : decode cX2_init 77 = .ok (.new 15, 3) := by decide +kernel
theorem dX2_init_80 : decode cX2_init 80 = .ok (.dup, 1) := by decide +kernel
theorem dX2_init_81 : decode cX2_init 81 = .ok (.invokespecial 17, 3) := by decide +kernel
theorem dX2_init_84 : decode cX2_init 84 = .ok (.putfield 41, 3) := by decide +kernel
theorem dX2_init_87 : decode cX2_init 87 = .ok (.aload_n 0, 1) := by decide +kernel
theorem dX2_init_88 : decode cX2_init 88 = .ok (.new 15, 3) := by decide +kernel
theorem dX2_init_91 : decode cX2_init 91 = .ok (.dup, 1) := by decide +kernel
theorem dX2_init_92 : decode cX2_init 92 = .ok (.invokespecial 17, 3) := by decide +kernel
theorem dX2_init_95 : decode cX2_init 95 = .ok (.putfield 44, 3) := by decide +kernel
theorem dX2_init_98 : decode cX2_init 98 = .ok (.aload_n 0, 1) := by decide +kernel
theorem dX2_init_99 : decode cX2_init 99 = .ok (.new 15, 3) := by decide +kernel
theorem dX2_init_102 : decode cX2_init 102 = .ok (.dup, 1) := by decide +kernel
theorem dX2_init_103 : decode cX2_init 103 = .ok (.invokespecial 17, 3) := by decide +kernel
theorem dX2_init_106 : decode cX2_init 106 = .ok (.putfield 47, 3) := by decide +kernel
theorem dX2_init_109 : decode cX2_init 109 = .ok (.return_, 1) := by decide +kernel
theorem dX2_choose_0 : decode cX2_choose 0 = .ok (.aload_n 0, 1) := by decide +kernel
theorem dX2_choose_1 : decode cX2_choose 1 = .ok (.iload_n 1, 1) := by decide +kernel
theorem dX2_choose_2 : decode cX2_choose 2 = .ok (.putfield 9, 3) := by decide +kernel
theorem dX2_choose_5 : decode cX2_choose 5 = .ok (.aload_n 0, 1) := by decide +kernel
theorem dX2_choose_6 : decode cX2_choose 6 = .ok (.aload_n 0, 1) := by decide +kernel
theorem dX2_choose_7 : decode cX2_choose 7 = .ok (.getfield 18, 3) := by decide +kernel
theorem dX2_choose_10 : decode cX2_choose 10 = .ok (.lconst 1, 1) := by decide +kernel
theorem dX2_choose_11 : decode cX2_choose 11 = .ok (.lconst 1, 1) := by decide +kernel
theorem dX2_choose_12 : decode cX2_choose 12 = .ok (.invokevirtual 50, 3) := by decide +kernel
theorem dX2_choose_15 : decode cX2_choose 15 = .ok (.aload_n 0, 1) := by decide +kernel
theorem dX2_choose_16 : decode cX2_choose 16 = .ok (.aload_n 0, 1) := by decide +kernel
theorem dX2_choose_17 : decode cX2_choose 17 = .ok (.getfield 22, 3) := by decide +kernel
theorem dX2_choose_20 : decode cX2_choose 20 = .ok (.ldc2_w 54, 3) := by decide +kernel
theorem dX2_choose_23 : decode cX2_choose 23 = .ok (.lconst 1, 1) := by decide +kernel
theorem dX2_choose_24 : decode cX2_choose 24 = .ok (.invokevirtual 50, 3) := by decide +kernel
theorem dX2_choose_27 : decode cX2_choose 27 = .ok (.aload_n 0, 1) := by decide +kernel
theorem dX2_choose_28 : decode cX2_choose 28 = .ok (.aload_n 0, 1) := by decide +kernel
theorem dX2_choose_29 : decode cX2_choose 29 = .ok (.getfield 22, 3) := by decide +kernel
theorem dX2_choose_32 : decode cX2_choose 32 = .ok (.invokevirtual 56, 3) := by decide +kernel
theorem dX2_choose_35 : decode cX2_choose 35 = .ok (.return_, 1) := by decide +kernel
theorem dX2_complete_0 : decode cX2_complete 0 = .ok (.aload_n 1, 1) := by decide +kernel
theorem dX2_complete_1 : decode cX2_complete 1 = .ok (.lload_n 2, 1) := by decide +kernel
theorem dX2_complete_2 : decode cX2_complete 2 = .ok (.putfield 60, 3) := by decide +kernel
theorem dX2_complete_5 : decode cX2_complete 5 = .ok (.aload_n 1, 1) := by decide +kernel
theorem dX2_complete_6 : decode cX2_complete 6 = .ok (.lload 4, 2) := by decide +kernel
theorem dX2_complete_8 : decode cX2_complete 8 = .ok (.putfield 64, 3) := by decide +kernel
theorem dX2_complete_11 : decode cX2_complete 11 = .ok (.aload_n 1, 1) := by decide +kernel
theorem dX2_complete_12 : decode cX2_complete 12 = .ok (.lload 4, 2) := by decide +kernel
theorem dX2_complete_14 : decode cX2_complete 14 = .ok (.lload 4, 2) := by decide +kernel
theorem dX2_complete_16 : decode cX2_complete 16 = .ok (.lmul, 1) := by decide +kernel
theorem dX2_complete_17 : decode cX2_complete 17 = .ok (.aload_n 0, 1) := by decide +kernel
theorem dX2_complete_18 : decode cX2_complete 18 = .ok (.getfield 9, 3) := by decide +kernel
theorem dX2_complete_21 : decode cX2_complete 21 = .ok (.i2l, 1) := by decide +kernel
theorem dX2_complete_22 : decode cX2_complete 22 = .ok (.ladd, 1) := by decide +kernel
theorem dX2_complete_23 : decode cX2_complete 23 = .ok (.ldc2_w 67, 3) := by decide +kernel
theorem dX2_complete_26 : decode cX2_complete 26 = .ok (.lload_n 2, 1) := by decide +kernel
theorem dX2_complete_27 : decode cX2_complete 27 = .ok (.lmul, 1) := by decide +kernel
theorem dX2_complete_28 : decode cX2_complete 28 = .ok (.invokestatic 69, 3) := by decide +kernel
theorem dX2_complete_31 : decode cX2_complete 31 = .ok (.putfield 73, 3) := by decide +kernel
theorem dX2_complete_34 : decode cX2_complete 34 = .ok (.return_, 1) := by decide +kernel
theorem dX2_hasForm_0 : decode cX2_hasForm 0 = .ok (.lload_n 3, 1) := by decide +kernel
theorem dX2_hasForm_1 : decode cX2_hasForm 1 = .ok (.lload_n 3, 1) := by decide +kernel
theorem dX2_hasForm_2 : decode cX2_hasForm 2 = .ok (.lmul, 1) := by decide +kernel
theorem dX2_hasForm_3 : decode cX2_hasForm 3 = .ok (.aload_n 0, 1) := by decide +kernel
theorem dX2_hasForm_4 : decode cX2_hasForm 4 = .ok (.getfield 9, 3) := by decide +kernel
theorem dX2_hasForm_7 : decode cX2_hasForm 7 = .ok (.i2l, 1) := by decide +kernel
theorem dX2_hasForm_8 : decode cX2_hasForm 8 = .ok (.ladd, 1) := by decide +kernel
theorem dX2_hasForm_9 : decode cX2_hasForm 9 = .ok (.lstore 5, 2) := by decide +kernel
theorem dX2_hasForm_11 : decode cX2_hasForm 11 = .ok (.lload 5, 2) := by decide +kernel
theorem dX2_hasForm_13 : decode cX2_hasForm 13 = .ok (.ldc2_w 67, 3) := by decide +kernel
theorem dX2_hasForm_16 : decode cX2_hasForm 16 = .ok (.lload_n 1, 1) := by decide +kernel
theorem dX2_hasForm_17 : decode cX2_hasForm 17 = .ok (.lmul, 1) := by decide +kernel
theorem dX2_hasForm_18 : decode cX2_hasForm 18 = .ok (.invokestatic 76, 3) := by decide +kernel
theorem dX2_hasForm_21 : decode cX2_hasForm 21 = .ok (.lconst 0, 1) := by decide +kernel
theorem dX2_hasForm_22 : decode cX2_hasForm 22 = .ok (.lcmp, 1) := by decide +kernel
theorem dX2_hasForm_23 : decode cX2_hasForm 23 = .ok (.ifCond .ne 26, 3) := by decide +kernel
theorem dX2_hasForm_26 : decode cX2_hasForm 26 = .ok (.aload_n 0, 1) := by decide +kernel
theorem dX2_hasForm_27 : decode cX2_hasForm 27 = .ok (.lload_n 1, 1) := by decide +kernel
theorem dX2_hasForm_28 : decode cX2_hasForm 28 = .ok (.lload_n 3, 1) := by decide +kernel
theorem dX2_hasForm_29 : decode cX2_hasForm 29 = .ok (.lload 5, 2) := by decide +kernel
theorem dX2_hasForm_31 : decode cX2_hasForm 31 = .ok (.ldc2_w 67, 3) := by decide +kernel
theorem dX2_hasForm_34 : decode cX2_hasForm 34 = .ok (.lload_n 1, 1) := by decide +kernel
theorem dX2_hasForm_35 : decode cX2_hasForm 35 = .ok (.lmul, 1) := by decide +kernel
theorem dX2_hasForm_36 : decode cX2_hasForm 36 = .ok (.invokestatic 69, 3) := by decide +kernel
theorem dX2_hasForm_39 : decode cX2_hasForm 39 = .ok (.invokevirtual 79, 3) := by decide +kernel
theorem dX2_hasForm_42 : decode cX2_hasForm 42 = .ok (.ifCond .eq 7, 3) := by decide +kernel
theorem dX2_hasForm_45 : decode cX2_hasForm 45 = .ok (.iconst 1, 1) := by decide +kernel
theorem dX2_hasForm_46 : decode cX2_hasForm 46 = .ok (.goto 4, 3) := by decide +kernel
theorem dX2_hasForm_49 : decode cX2_hasForm 49 = .ok (.iconst 0, 1) := by decide +kernel
theorem dX2_hasForm_50 : decode cX2_hasForm 50 = .ok (.ireturn, 1) := by decide +kernel
theorem dX2_hasNoCommonDivisor_0 : decode cX2_hasNoCommonDivisor 0 = .ok (.aload_n 0, 1) := by decide +kernel
theorem dX2_hasNoCommonDivisor_1 : decode cX2_hasNoCommonDivisor 1 = .ok (.getfield 28, 3) := by decide +kernel
theorem dX2_hasNoCommonDivisor_4 : decode cX2_hasNoCommonDivisor 4 = .ok (.lload_n 1, 1) := by decide +kernel
theorem dX2_hasNoCommonDivisor_5 : decode cX2_hasNoCommonDivisor 5 = .ok (.lload_n 3, 1) := by decide +kernel
theorem dX2_hasNoCommonDivisor_6 : decode cX2_hasNoCommonDivisor 6 = .ok (.invokevirtual 83, 3) := by decide +kernel
theorem dX2_hasNoCommonDivisor_9 : decode cX2_hasNoCommonDivisor 9 = .ok (.aload_n 0, 1) := by decide +kernel
theorem dX2_hasNoCommonDivisor_10 : decode cX2_hasNoCommonDivisor 10 = .ok (.getfield 28, 3) := by decide +kernel
theorem dX2_hasNoCommonDivisor_13 : decode cX2_hasNoCommonDivisor 13 = .ok (.aload_n 0, 1) := by decide +kernel
theorem dX2_hasNoCommonDivisor_14 : decode cX2_hasNoCommonDivisor 14 = .ok (.getfield 28, 3) := by decide +kernel
theorem dX2_hasNoCommonDivisor_17 : decode cX2_hasNoCommonDivisor 17 = .ok (.getfield 87, 3) := by decide +kernel
theorem dX2_hasNoCommonDivisor_20 : decode cX2_hasNoCommonDivisor 20 = .ok (.lload 5, 2) := by decide +kernel
theorem dX2_hasNoCommonDivisor_22 : decode cX2_hasNoCommonDivisor 22 = .ok (.invokevirtual 83, 3) := by decide +kernel
theorem dX2_hasNoCommonDivisor_25 : decode cX2_hasNoCommonDivisor 25 = .ok (.aload_n 0, 1) := by decide +kernel
theorem dX2_hasNoCommonDivisor_26 : decode cX2_hasNoCommonDivisor 26 = .ok (.getfield 28, 3) := by decide +kernel
theorem dX2_hasNoCommonDivisor_29 : decode cX2_hasNoCommonDivisor 29 = .ok (.getfield 87, 3) := by decide +kernel
theorem dX2_hasNoCommonDivisor_32 : decode cX2_hasNoCommonDivisor 32 = .ok (.lconst 1, 1) := by decide +kernel
theorem dX2_hasNoCommonDivisor_33 : decode cX2_hasNoCommonDivisor 33 = .ok (.lcmp, 1) := by decide +kernel
theorem dX2_hasNoCommonDivisor_34 : decode cX2_hasNoCommonDivisor 34 = .ok (.ifCond .ne 7, 3) := by decide +kernel
theorem dX2_hasNoCommonDivisor_37 : decode cX2_hasNoCommonDivisor 37 = .ok (.iconst 1, 1) := by decide +kernel
theorem dX2_hasNoCommonDivisor_38 : decode cX2_hasNoCommonDivisor 38 = .ok (.goto 4, 3) := by decide +kernel
theorem dX2_hasNoCommonDivisor_41 : decode cX2_hasNoCommonDivisor 41 = .ok (.iconst 0, 1) := by decide +kernel
theorem dX2_hasNoCommonDivisor_42 : decode cX2_hasNoCommonDivisor 42 = .ok (.ireturn, 1) := by decide +kernel
theorem dX2_settle_0 : decode cX2_settle 0 = .ok (.iconst 0, 1) := by decide +kernel
theorem dX2_settle_1 : decode cX2_settle 1 = .ok (.istore_n 2, 1) := by decide +kernel
theorem dX2_settle_2 : decode cX2_settle 2 = .ok (.iload_n 2, 1) := by decide +kernel
theorem dX2_settle_3 : decode cX2_settle 3 = .ok (.ldc 90, 2) := by decide +kernel
theorem dX2_settle_5 : decode cX2_settle 5 = .ok (.if_icmp .ge 37, 3) := by decide +kernel
theorem dX2_settle_8 : decode cX2_settle 8 = .ok (.aload_n 1, 1) := by decide +kernel
theorem dX2_settle_9 : decode cX2_settle 9 = .ok (.invokevirtual 91, 3) := by decide +kernel
theorem dX2_settle_12 : decode cX2_settle 12 = .ok (.ifCond .ne 30, 3) := by decide +kernel
theorem dX2_settle_15 : decode cX2_settle 15 = .ok (.aload_n 1, 1) := by decide +kernel
theorem dX2_settle_16 : decode cX2_settle 16 = .ok (.getfield 60, 3) := by decide +kernel
theorem dX2_settle_19 : decode cX2_settle 19 = .ok (.aload_n 1, 1) := by decide +kernel
theorem dX2_settle_20 : decode cX2_settle 20 = .ok (.getfield 73, 3) := by decide +kernel
theorem dX2_settle_23 : decode cX2_settle 23 = .ok (.lcmp, 1) := by decide +kernel
theorem dX2_settle_24 : decode cX2_settle 24 = .ok (.ifCond .lt 7, 3) := by decide +kernel
theorem dX2_settle_27 : decode cX2_settle 27 = .ok (.aload_n 1, 1) := by decide +kernel
theorem dX2_settle_28 : decode cX2_settle 28 = .ok (.invokevirtual 95, 3) := by decide +kernel
theorem dX2_settle_31 : decode cX2_settle 31 = .ok (.aload_n 0, 1) := by decide +kernel
theorem dX2_settle_32 : decode cX2_settle 32 = .ok (.aload_n 1, 1) := by decide +kernel
theorem dX2_settle_33 : decode cX2_settle 33 = .ok (.invokevirtual 98, 3) := by decide +kernel
theorem dX2_settle_36 : decode cX2_settle 36 = .ok (.iinc 2 1, 3) := by decide +kernel
theorem dX2_settle_39 : decode cX2_settle 39 = .ok (.goto (-37), 3) := by decide +kernel
theorem dX2_settle_42 : decode cX2_settle 42 = .ok (.return_, 1) := by decide +kernel
theorem dX2_bringBNearZero_0 : decode cX2_bringBNearZero 0 = .ok (.aload_n 1, 1) := by decide +kernel
theorem dX2_bringBNearZero_1 : decode cX2_bringBNearZero 1 = .ok (.aload_n 1, 1) := by decide +kernel
theorem dX2_bringBNearZero_2 : decode cX2_bringBNearZero 2 = .ok (.getfield 60, 3) := by decide +kernel
theorem dX2_bringBNearZero_5 : decode cX2_bringBNearZero 5 = .ok (.aload_n 1, 1) := by decide +kernel
theorem dX2_bringBNearZero_6 : decode cX2_bringBNearZero 6 = .ok (.getfield 60, 3) := by decide +kernel
theorem dX2_bringBNearZero_9 : decode cX2_bringBNearZero 9 = .ok (.aload_n 1, 1) := by decide +kernel
theorem dX2_bringBNearZero_10 : decode cX2_bringBNearZero 10 = .ok (.getfield 64, 3) := by decide +kernel
theorem dX2_bringBNearZero_13 : decode cX2_bringBNearZero 13 = .ok (.lsub, 1) := by decide +kernel
theorem dX2_bringBNearZero_14 : decode cX2_bringBNearZero 14 = .ok (.ldc2_w 54, 3) := by decide +kernel
theorem dX2_bringBNearZero_17 : decode cX2_bringBNearZero 17 = .ok (.aload_n 1, 1) := by decide +kernel
theorem dX2_bringBNearZero_18 : decode cX2_bringBNearZero 18 = .ok (.getfield 60, 3) := by decide +kernel
theorem dX2_bringBNearZero_21 : decode cX2_bringBNearZero 21 = .ok (.lmul, 1) := by decide +kernel
theorem dX2_bringBNearZero_22 : decode cX2_bringBNearZero 22 = .ok (.invokestatic 76, 3) := by decide +kernel
theorem dX2_bringBNearZero_25 : decode cX2_bringBNearZero 25 = .ok (.lsub, 1) := by decide +kernel
theorem dX2_bringBNearZero_26 : decode cX2_bringBNearZero 26 = .ok (.putfield 64, 3) := by decide +kernel
theorem dX2_bringBNearZero_29 : decode cX2_bringBNearZero 29 = .ok (.aload_n 1, 1) := by decide +kernel
theorem dX2_bringBNearZero_30 : decode cX2_bringBNearZero 30 = .ok (.aload_n 1, 1) := by decide +kernel
theorem dX2_bringBNearZero_31 : decode cX2_bringBNearZero 31 = .ok (.getfield 64, 3) := by decide +kernel
theorem dX2_bringBNearZero_34 : decode cX2_bringBNearZero 34 = .ok (.aload_n 1, 1) := by decide +kernel
theorem dX2_bringBNearZero_35 : decode cX2_bringBNearZero 35 = .ok (.getfield 64, 3) := by decide +kernel
theorem dX2_bringBNearZero_38 : decode cX2_bringBNearZero 38 = .ok (.lmul, 1) := by decide +kernel
theorem dX2_bringBNearZero_39 : decode cX2_bringBNearZero 39 = .ok (.aload_n 0, 1) := by decide +kernel
theorem dX2_bringBNearZero_40 : decode cX2_bringBNearZero 40 = .ok (.getfield 9, 3) := by decide +kernel
theorem dX2_bringBNearZero_43 : decode cX2_bringBNearZero 43 = .ok (.i2l, 1) := by decide +kernel
theorem dX2_bringBNearZero_44 : decode cX2_bringBNearZero 44 = .ok (.ladd, 1) := by decide +kernel
theorem dX2_bringBNearZero_45 : decode cX2_bringBNearZero 45 = .ok (.ldc2_w 67, 3) := by decide +kernel
theorem dX2_bringBNearZero_48 : decode cX2_bringBNearZero 48 = .ok (.aload_n 1, 1) := by decide +kernel
theorem dX2_bringBNearZero_49 : decode cX2_bringBNearZero 49 = .ok (.getfield 60, 3) := by decide +kernel
theorem dX2_bringBNearZero_52 : decode cX2_bringBNearZero 52 = .ok (.lmul, 1) := by decide +kernel
theorem dX2_bringBNearZero_53 : decode cX2_bringBNearZero 53 = .ok (.invokestatic 69, 3) := by decide +kernel
theorem dX2_bringBNearZero_56 : decode cX2_bringBNearZero 56 = .ok (.putfield 73, 3) := by decide +kernel
theorem dX2_bringBNearZero_59 : decode cX2_bringBNearZero 59 = .ok (.return_, 1) := by decide +kernel
theorem dX2_product_0 : decode cX2_product 0 = .ok (.aload_n 0, 1) := by decide +kernel
theorem dX2_product_1 : decode cX2_product 1 = .ok (.getfield 32, 3) := by decide +kernel
theorem dX2_product_4 : decode cX2_product 4 = .ok (.aload_n 1, 1) := by decide +kernel
theorem dX2_product_5 : decode cX2_product 5 = .ok (.invokevirtual 101, 3) := by decide +kernel
theorem dX2_product_8 : decode cX2_product 8 = .ok (.aload_n 0, 1) := by decide +kernel
theorem dX2_product_9 : decode cX2_product 9 = .ok (.aload_n 0, 1) := by decide +kernel
theorem dX2_product_10 : decode cX2_product 10 = .ok (.getfield 32, 3) := by decide +kernel
theorem dX2_product_13 : decode cX2_product 13 = .ok (.invokevirtual 56, 3) := by decide +kernel
theorem dX2_product_16 : decode cX2_product 16 = .ok (.aload_n 0, 1) := by decide +kernel
theorem dX2_product_17 : decode cX2_product 17 = .ok (.getfield 35, 3) := by decide +kernel
theorem dX2_product_20 : decode cX2_product 20 = .ok (.aload_n 2, 1) := by decide +kernel
theorem dX2_product_21 : decode cX2_product 21 = .ok (.invokevirtual 101, 3) := by decide +kernel
theorem dX2_product_24 : decode cX2_product 24 = .ok (.aload_n 0, 1) := by decide +kernel
theorem dX2_product_25 : decode cX2_product 25 = .ok (.aload_n 0, 1) := by decide +kernel
theorem dX2_product_26 : decode cX2_product 26 = .ok (.getfield 35, 3) := by decide +kernel
theorem dX2_product_29 : decode cX2_product 29 = .ok (.invokevirtual 56, 3) := by decide +kernel
theorem dX2_product_32 : decode cX2_product 32 = .ok (.aload_n 0, 1) := by decide +kernel
theorem dX2_product_33 : decode cX2_product 33 = .ok (.getfield 32, 3) := by decide +kernel
theorem dX2_product_36 : decode cX2_product 36 = .ok (.getfield 64, 3) := by decide +kernel
theorem dX2_product_39 : decode cX2_product 39 = .ok (.aload_n 0, 1) := by decide +kernel
theorem dX2_product_40 : decode cX2_product 40 = .ok (.getfield 35, 3) := by decide +kernel
theorem dX2_product_43 : decode cX2_product 43 = .ok (.getfield 64, 3) := by decide +kernel
theorem dX2_product_46 : decode cX2_product 46 = .ok (.ladd, 1) := by decide +kernel
theorem dX2_product_47 : decode cX2_product 47 = .ok (.ldc2_w 54, 3) := by decide +kernel
theorem dX2_product_50 : decode cX2_product 50 = .ok (.ldiv, 1) := by decide +kernel
theorem dX2_product_51 : decode cX2_product 51 = .ok (.lstore 4, 2) := by decide +kernel
theorem dX2_product_53 : decode cX2_product 53 = .ok (.aload_n 0, 1) := by decide +kernel
theorem dX2_product_54 : decode cX2_product 54 = .ok (.getfield 28, 3) := by decide +kernel
theorem dX2_product_57 : decode cX2_product 57 = .ok (.aload_n 0, 1) := by decide +kernel
theorem dX2_product_58 : decode cX2_product 58 = .ok (.getfield 32, 3) := by decide +kernel
theorem dX2_product_61 : decode cX2_product 61 = .ok (.getfield 60, 3) := by decide +kernel
theorem dX2_product_64 : decode cX2_product 64 = .ok (.aload_n 0, 1) := by decide +kernel
theorem dX2_product_65 : decode cX2_product 65 = .ok (.getfield 35, 3) := by decide +kernel
theorem dX2_product_68 : decode cX2_product 68 = .ok (.getfield 60, 3) := by decide +kernel
theorem dX2_product_71 : decode cX2_product 71 = .ok (.invokevirtual 83, 3) := by decide +kernel
theorem dX2_product_74 : decode cX2_product 74 = .ok (.aload_n 0, 1) := by decide +kernel
theorem dX2_product_75 : decode cX2_product 75 = .ok (.getfield 28, 3) := by decide +kernel
theorem dX2_product_78 : decode cX2_product 78 = .ok (.getfield 104, 3) := by decide +kernel
theorem dX2_product_81 : decode cX2_product 81 = .ok (.lstore 6, 2) := by decide +kernel
theorem dX2_product_83 : decode cX2_product 83 = .ok (.aload_n 0, 1) := by decide +kernel
theorem dX2_product_84 : decode cX2_product 84 = .ok (.getfield 28, 3) := by decide +kernel
theorem dX2_product_87 : decode cX2_product 87 = .ok (.aload_n 0, 1) := by decide +kernel
theorem dX2_product_88 : decode cX2_product 88 = .ok (.getfield 28, 3) := by decide +kernel
theorem dX2_product_91 : decode cX2_product 91 = .ok (.getfield 87, 3) := by decide +kernel
theorem dX2_product_94 : decode cX2_product 94 = .ok (.lload 4, 2) := by decide +kernel
theorem dX2_product_96 : decode cX2_product 96 = .ok (.invokevirtual 83, 3) := by decide +kernel
theorem dX2_product_99 : decode cX2_product 99 = .ok (.aload_n 0, 1) := by decide +kernel
theorem dX2_product_100 : decode cX2_product 100 = .ok (.getfield 28, 3) := by decide +kernel
theorem dX2_product_103 : decode cX2_product 103 = .ok (.getfield 87, 3) := by decide +kernel
theorem dX2_product_106 : decode cX2_product 106 = .ok (.lstore 8, 2) := by decide +kernel
theorem dX2_product_108 : decode cX2_product 108 = .ok (.aload_n 0, 1) := by decide +kernel
theorem dX2_product_109 : decode cX2_product 109 = .ok (.getfield 32, 3) := by decide +kernel
theorem dX2_product_112 : decode cX2_product 112 = .ok (.getfield 60, 3) := by decide +kernel
theorem dX2_product_115 : decode cX2_product 115 = .ok (.lload 8, 2) := by decide +kernel
theorem dX2_product_117 : decode cX2_product 117 = .ok (.invokestatic 69, 3) := by decide +kernel
theorem dX2_product_120 : decode cX2_product 120 = .ok (.lstore 10, 2) := by decide +kernel
theorem dX2_product_122 : decode cX2_product 122 = .ok (.aload_n 0, 1) := by decide +kernel
theorem dX2_product_123 : decode cX2_product 123 = .ok (.getfield 35, 3) := by decide +kernel
theorem dX2_product_126 : decode cX2_product 126 = .ok (.getfield 60, 3) := by decide +kernel
theorem dX2_product_129 : decode cX2_product 129 = .ok (.lload 8, 2) := by decide +kernel
theorem dX2_product_131 : decode cX2_product 131 = .ok (.invokestatic 69, 3) := by decide +kernel
theorem dX2_product_134 : decode cX2_product 134 = .ok (.lstore 12, 2) := by decide +kernel
theorem dX2_product_136 : decode cX2_product 136 = .ok (.aload_n 0, 1) := by decide +kernel
theorem dX2_product_137 : decode cX2_product 137 = .ok (.getfield 28, 3) := by decide +kernel
theorem dX2_product_140 : decode cX2_product 140 = .ok (.getfield 107, 3) := by decide +kernel
theorem dX2_product_143 : decode cX2_product 143 = .ok (.lload 6, 2) := by decide +kernel
theorem dX2_product_145 : decode cX2_product 145 = .ok (.lmul, 1) := by decide +kernel
theorem dX2_product_146 : decode cX2_product 146 = .ok (.lload 4, 2) := by decide +kernel
theorem dX2_product_148 : decode cX2_product 148 = .ok (.aload_n 0, 1) := by decide +kernel
theorem dX2_product_149 : decode cX2_product 149 = .ok (.getfield 35, 3) := by decide +kernel
theorem dX2_product_152 : decode cX2_product 152 = .ok (.getfield 64, 3) := by decide +kernel
theorem dX2_product_155 : decode cX2_product 155 = .ok (.lsub, 1) := by decide +kernel
theorem dX2_product_156 : decode cX2_product 156 = .ok (.lmul, 1) := by decide +kernel
theorem dX2_product_157 : decode cX2_product 157 = .ok (.aload_n 0, 1) := by decide +kernel
theorem dX2_product_158 : decode cX2_product 158 = .ok (.getfield 28, 3) := by decide +kernel
theorem dX2_product_161 : decode cX2_product 161 = .ok (.getfield 104, 3) := by decide +kernel
theorem dX2_product_164 : decode cX2_product 164 = .ok (.aload_n 0, 1) := by decide +kernel
theorem dX2_product_165 : decode cX2_product 165 = .ok (.getfield 35, 3) := by decide +kernel
theorem dX2_product_168 : decode cX2_product 168 = .ok (.getfield 73, 3) := by decide +kernel
theorem dX2_product_171 : decode cX2_product 171 = .ok (.lmul, 1) := by decide +kernel
theorem dX2_product_172 : decode cX2_product 172 = .ok (.lsub, 1) := by decide +kernel
theorem dX2_product_173 : decode cX2_product 173 = .ok (.lstore 14, 2) := by decide +kernel
theorem dX2_product_175 : decode cX2_product 175 = .ok (.aload_n 0, 1) := by decide +kernel
theorem dX2_product_176 : decode cX2_product 176 = .ok (.aload_n 3, 1) := by decide +kernel
theorem dX2_product_177 : decode cX2_product 177 = .ok (.lload 10, 2) := by decide +kernel
theorem dX2_product_179 : decode cX2_product 179 = .ok (.lload 12, 2) := by decide +kernel
theorem dX2_product_181 : decode cX2_product 181 = .ok (.lmul, 1) := by decide +kernel
theorem dX2_product_182 : decode cX2_product 182 = .ok (.aload_n 0, 1) := by decide +kernel
theorem dX2_product_183 : decode cX2_product 183 = .ok (.getfield 35, 3) := by decide +kernel
theorem dX2_product_186 : decode cX2_product 186 = .ok (.getfield 64, 3) := by decide +kernel
theorem dX2_product_189 : decode cX2_product 189 = .ok (.ldc2_w 54, 3) := by decide +kernel
theorem dX2_product_192 : decode cX2_product 192 = .ok (.lload 12, 2) := by decide +kernel
theorem dX2_product_194 : decode cX2_product 194 = .ok (.lmul, 1) := by decide +kernel
theorem dX2_product_195 : decode cX2_product 195 = .ok (.lload 14, 2) := by decide +kernel
theorem dX2_product_197 : decode cX2_product 197 = .ok (.lload 10, 2) := by decide +kernel
theorem dX2_product_199 : decode cX2_product 199 = .ok (.invokestatic 76, 3) := by decide +kernel
theorem dX2_product_202 : decode cX2_product 202 = .ok (.lmul, 1) := by decide +kernel
theorem dX2_product_203 : decode cX2_product 203 = .ok (.ladd, 1) := by decide +kernel
theorem dX2_product_204 : decode cX2_product 204 = .ok (.invokevirtual 50, 3) := by decide +kernel
theorem dX2_product_207 : decode cX2_product 207 = .ok (.aload_n 0, 1) := by decide +kernel
theorem dX2_product_208 : decode cX2_product 208 = .ok (.aload_n 3, 1) := by decide +kernel
theorem dX2_product_209 : decode cX2_product 209 = .ok (.invokevirtual 56, 3) := by decide +kernel
theorem dX2_product_212 : decode cX2_product 212 = .ok (.return_, 1) := by decide +kernel
theorem dX2_power_0 : decode cX2_power 0 = .ok (.aload_n 0, 1) := by decide +kernel
theorem dX2_power_1 : decode cX2_power 1 = .ok (.getfield 38, 3) := by decide +kernel
theorem dX2_power_4 : decode cX2_power 4 = .ok (.aload_n 1, 1) := by decide +kernel
theorem dX2_power_5 : decode cX2_power 5 = .ok (.invokevirtual 101, 3) := by decide +kernel
theorem dX2_power_8 : decode cX2_power 8 = .ok (.aload_n 0, 1) := by decide +kernel
theorem dX2_power_9 : decode cX2_power 9 = .ok (.getfield 41, 3) := by decide +kernel
theorem dX2_power_12 : decode cX2_power 12 = .ok (.aload_n 0, 1) := by decide +kernel
theorem dX2_power_13 : decode cX2_power 13 = .ok (.getfield 18, 3) := by decide +kernel
theorem dX2_power_16 : decode cX2_power 16 = .ok (.invokevirtual 101, 3) := by decide +kernel
theorem dX2_power_19 : decode cX2_power 19 = .ok (.iload_n 2, 1) := by decide +kernel
theorem dX2_power_20 : decode cX2_power 20 = .ok (.istore 4, 2) := by decide +kernel
theorem dX2_power_22 : decode cX2_power 22 = .ok (.iload 4, 2) := by decide +kernel
theorem dX2_power_24 : decode cX2_power 24 = .ok (.ifCond .le 52, 3) := by decide +kernel
theorem dX2_power_27 : decode cX2_power 27 = .ok (.iload 4, 2) := by decide +kernel
theorem dX2_power_29 : decode cX2_power 29 = .ok (.iconst 1, 1) := by decide +kernel
theorem dX2_power_30 : decode cX2_power 30 = .ok (.iand, 1) := by decide +kernel
theorem dX2_power_31 : decode cX2_power 31 = .ok (.iconst 1, 1) := by decide +kernel
theorem dX2_power_32 : decode cX2_power 32 = .ok (.if_icmp .ne 19, 3) := by decide +kernel
theorem dX2_power_35 : decode cX2_power 35 = .ok (.aload_n 0, 1) := by decide +kernel
theorem dX2_power_36 : decode cX2_power 36 = .ok (.aload_n 0, 1) := by decide +kernel
theorem dX2_power_37 : decode cX2_power 37 = .ok (.getfield 41, 3) := by decide +kernel
theorem dX2_power_40 : decode cX2_power 40 = .ok (.aload_n 0, 1) := by decide +kernel
theorem dX2_power_41 : decode cX2_power 41 = .ok (.getfield 38, 3) := by decide +kernel
theorem dX2_power_44 : decode cX2_power 44 = .ok (.aload_n 0, 1) := by decide +kernel
theorem dX2_power_45 : decode cX2_power 45 = .ok (.getfield 41, 3) := by decide +kernel
theorem dX2_power_48 : decode cX2_power 48 = .ok (.invokevirtual 110, 3) := by decide +kernel
theorem dX2_power_51 : decode cX2_power 51 = .ok (.aload_n 0, 1) := by decide +kernel
theorem dX2_power_52 : decode cX2_power 52 = .ok (.aload_n 0, 1) := by decide +kernel
theorem dX2_power_53 : decode cX2_power 53 = .ok (.getfield 38, 3) := by decide +kernel
theorem dX2_power_56 : decode cX2_power 56 = .ok (.aload_n 0, 1) := by decide +kernel
theorem dX2_power_57 : decode cX2_power 57 = .ok (.getfield 38, 3) := by decide +kernel
theorem dX2_power_60 : decode cX2_power 60 = .ok (.aload_n 0, 1) := by decide +kernel
theorem dX2_power_61 : decode cX2_power 61 = .ok (.getfield 38, 3) := by decide +kernel
theorem dX2_power_64 : decode cX2_power 64 = .ok (.invokevirtual 110, 3) := by decide +kernel
theorem dX2_power_67 : decode cX2_power 67 = .ok (.iload 4, 2) := by decide +kernel
theorem dX2_power_69 : decode cX2_power 69 = .ok (.iconst 1, 1) := by decide +kernel
theorem dX2_power_70 : decode cX2_power 70 = .ok (.ishr, 1) := by decide +kernel
theorem dX2_power_71 : decode cX2_power 71 = .ok (.istore 4, 2) := by decide +kernel
theorem dX2_power_73 : decode cX2_power 73 = .ok (.goto (-51), 3) := by decide +kernel
theorem dX2_power_76 : decode cX2_power 76 = .ok (.aload_n 3, 1) := by decide +kernel
theorem dX2_power_77 : decode cX2_power 77 = .ok (.aload_n 0, 1) := by decide +kernel
theorem dX2_power_78 : decode cX2_power 78 = .ok (.getfield 41, 3) := by decide +kernel
theorem dX2_power_81 : decode cX2_power 81 = .ok (.invokevirtual 101, 3) := by decide +kernel
theorem dX2_power_84 : decode cX2_power 84 = .ok (.return_, 1) := by decide +kernel
theorem dX2_isGeneratorsPower_0 : decode cX2_isGeneratorsPower 0 = .ok (.aload_n 0, 1) := by decide +kernel
theorem dX2_isGeneratorsPower_1 : decode cX2_isGeneratorsPower 1 = .ok (.aload_n 0, 1) := by decide +kernel
theorem dX2_isGeneratorsPower_2 : decode cX2_isGeneratorsPower 2 = .ok (.getfield 22, 3) := by decide +kernel
theorem dX2_isGeneratorsPower_5 : decode cX2_isGeneratorsPower 5 = .ok (.iload_n 2, 1) := by decide +kernel
theorem dX2_isGeneratorsPower_6 : decode cX2_isGeneratorsPower 6 = .ok (.aload_n 0, 1) := by decide +kernel
theorem dX2_isGeneratorsPower_7 : decode cX2_isGeneratorsPower 7 = .ok (.getfield 44, 3) := by decide +kernel
theorem dX2_isGeneratorsPower_10 : decode cX2_isGeneratorsPower 10 = .ok (.invokevirtual 114, 3) := by decide +kernel
theorem dX2_isGeneratorsPower_13 : decode cX2_isGeneratorsPower 13 = .ok (.aload_n 0, 1) := by decide +kernel
theorem dX2_isGeneratorsPower_14 : decode cX2_isGeneratorsPower 14 = .ok (.getfield 44, 3) := by decide +kernel
theorem dX2_isGeneratorsPower_17 : decode cX2_isGeneratorsPower 17 = .ok (.aload_n 1, 1) := by decide +kernel
theorem dX2_isGeneratorsPower_18 : decode cX2_isGeneratorsPower 18 = .ok (.invokevirtual 118, 3) := by decide +kernel
theorem dX2_isGeneratorsPower_21 : decode cX2_isGeneratorsPower 21 = .ok (.ireturn, 1) := by decide +kernel
theorem dX2_holds_0 : decode cX2_holds 0 = .ok (.aload_n 0, 1) := by decide +kernel
theorem dX2_holds_1 : decode cX2_holds 1 = .ok (.aload_n 3, 1) := by decide +kernel
theorem dX2_holds_2 : decode cX2_holds 2 = .ok (.iload 4, 2) := by decide +kernel
theorem dX2_holds_4 : decode cX2_holds 4 = .ok (.aload_n 0, 1) := by decide +kernel
theorem dX2_holds_5 : decode cX2_holds 5 = .ok (.getfield 44, 3) := by decide +kernel
theorem dX2_holds_8 : decode cX2_holds 8 = .ok (.invokevirtual 114, 3) := by decide +kernel
theorem dX2_holds_11 : decode cX2_holds 11 = .ok (.aload_n 0, 1) := by decide +kernel
theorem dX2_holds_12 : decode cX2_holds 12 = .ok (.aload_n 1, 1) := by decide +kernel
theorem dX2_holds_13 : decode cX2_holds 13 = .ok (.aload_n 0, 1) := by decide +kernel
theorem dX2_holds_14 : decode cX2_holds 14 = .ok (.iload 5, 2) := by decide +kernel
theorem dX2_holds_16 : decode cX2_holds 16 = .ok (.iload 4, 2) := by decide +kernel
theorem dX2_holds_18 : decode cX2_holds 18 = .ok (.invokevirtual 122, 3) := by decide +kernel
theorem dX2_holds_21 : decode cX2_holds 21 = .ok (.aload_n 0, 1) := by decide +kernel
theorem dX2_holds_22 : decode cX2_holds 22 = .ok (.getfield 47, 3) := by decide +kernel
theorem dX2_holds_25 : decode cX2_holds 25 = .ok (.invokevirtual 114, 3) := by decide +kernel
theorem dX2_holds_28 : decode cX2_holds 28 = .ok (.aload_n 0, 1) := by decide +kernel
theorem dX2_holds_29 : decode cX2_holds 29 = .ok (.aload_n 0, 1) := by decide +kernel
theorem dX2_holds_30 : decode cX2_holds 30 = .ok (.getfield 44, 3) := by decide +kernel
theorem dX2_holds_33 : decode cX2_holds 33 = .ok (.aload_n 0, 1) := by decide +kernel
theorem dX2_holds_34 : decode cX2_holds 34 = .ok (.getfield 47, 3) := by decide +kernel
theorem dX2_holds_37 : decode cX2_holds 37 = .ok (.aload_n 0, 1) := by decide +kernel
theorem dX2_holds_38 : decode cX2_holds 38 = .ok (.getfield 44, 3) := by decide +kernel
theorem dX2_holds_41 : decode cX2_holds 41 = .ok (.invokevirtual 110, 3) := by decide +kernel
theorem dX2_holds_44 : decode cX2_holds 44 = .ok (.aload_n 0, 1) := by decide +kernel
theorem dX2_holds_45 : decode cX2_holds 45 = .ok (.getfield 44, 3) := by decide +kernel
theorem dX2_holds_48 : decode cX2_holds 48 = .ok (.aload_n 2, 1) := by decide +kernel
theorem dX2_holds_49 : decode cX2_holds 49 = .ok (.invokevirtual 118, 3) := by decide +kernel
theorem dX2_holds_52 : decode cX2_holds 52 = .ok (.ireturn, 1) := by decide +kernel
theorem dX2_restOfPowerOfTwo_0 : decode cX2_restOfPowerOfTwo 0 = .ok (.iconst 1, 1) := by decide +kernel
theorem dX2_restOfPowerOfTwo_1 : decode cX2_restOfPowerOfTwo 1 = .ok (.istore_n 3, 1) := by decide +kernel
theorem dX2_restOfPowerOfTwo_2 : decode cX2_restOfPowerOfTwo 2 = .ok (.iconst 0, 1) := by decide +kernel
theorem dX2_restOfPowerOfTwo_3 : decode cX2_restOfPowerOfTwo 3 = .ok (.istore 4, 2) := by decide +kernel
theorem dX2_restOfPowerOfTwo_5 : decode cX2_restOfPowerOfTwo 5 = .ok (.iload 4, 2) := by decide +kernel
theorem dX2_restOfPowerOfTwo_7 : decode cX2_restOfPowerOfTwo 7 = .ok (.iload_n 1, 1) := by decide +kernel
theorem dX2_restOfPowerOfTwo_8 : decode cX2_restOfPowerOfTwo 8 = .ok (.if_icmp .ge 22, 3) := by decide +kernel
theorem dX2_restOfPowerOfTwo_11 : decode cX2_restOfPowerOfTwo 11 = .ok (.iconst 2, 1) := by decide +kernel
theorem dX2_restOfPowerOfTwo_12 : decode cX2_restOfPowerOfTwo 12 = .ok (.iload_n 3, 1) := by decide +kernel
theorem dX2_restOfPowerOfTwo_13 : decode cX2_restOfPowerOfTwo 13 = .ok (.imul, 1) := by decide +kernel
theorem dX2_restOfPowerOfTwo_14 : decode cX2_restOfPowerOfTwo 14 = .ok (.istore_n 3, 1) := by decide +kernel
theorem dX2_restOfPowerOfTwo_15 : decode cX2_restOfPowerOfTwo 15 = .ok (.iload_n 3, 1) := by decide +kernel
theorem dX2_restOfPowerOfTwo_16 : decode cX2_restOfPowerOfTwo 16 = .ok (.iload_n 2, 1) := by decide +kernel
theorem dX2_restOfPowerOfTwo_17 : decode cX2_restOfPowerOfTwo 17 = .ok (.if_icmp .lt 7, 3) := by decide +kernel
theorem dX2_restOfPowerOfTwo_20 : decode cX2_restOfPowerOfTwo 20 = .ok (.iload_n 3, 1) := by decide +kernel
theorem dX2_restOfPowerOfTwo_21 : decode cX2_restOfPowerOfTwo 21 = .ok (.iload_n 2, 1) := by decide +kernel
theorem dX2_restOfPowerOfTwo_22 : decode cX2_restOfPowerOfTwo 22 = .ok (.isub, 1) := by decide +kernel
theorem dX2_restOfPowerOfTwo_23 : decode cX2_restOfPowerOfTwo 23 = .ok (.istore_n 3, 1) := by decide +kernel
theorem dX2_restOfPowerOfTwo_24 : decode cX2_restOfPowerOfTwo 24 = .ok (.iinc 4 1, 3) := by decide +kernel
theorem dX2_restOfPowerOfTwo_27 : decode cX2_restOfPowerOfTwo 27 = .ok (.goto (-22), 3) := by decide +kernel
theorem dX2_restOfPowerOfTwo_30 : decode cX2_restOfPowerOfTwo 30 = .ok (.iload_n 3, 1) := by decide +kernel
theorem dX2_restOfPowerOfTwo_31 : decode cX2_restOfPowerOfTwo 31 = .ok (.ireturn, 1) := by decide +kernel
theorem dX2_generatorsOrder_0 : decode cX2_generatorsOrder 0 = .ok (.aload_n 0, 1) := by decide +kernel
theorem dX2_generatorsOrder_1 : decode cX2_generatorsOrder 1 = .ok (.getfield 44, 3) := by decide +kernel
theorem dX2_generatorsOrder_4 : decode cX2_generatorsOrder 4 = .ok (.aload_n 0, 1) := by decide +kernel
theorem dX2_generatorsOrder_5 : decode cX2_generatorsOrder 5 = .ok (.getfield 22, 3) := by decide +kernel
theorem dX2_generatorsOrder_8 : decode cX2_generatorsOrder 8 = .ok (.invokevirtual 101, 3) := by decide +kernel
theorem dX2_generatorsOrder_11 : decode cX2_generatorsOrder 11 = .ok (.iconst 1, 1) := by decide +kernel
theorem dX2_generatorsOrder_12 : decode cX2_generatorsOrder 12 = .ok (.istore_n 2, 1) := by decide +kernel
theorem dX2_generatorsOrder_13 : decode cX2_generatorsOrder 13 = .ok (.iload_n 2, 1) := by decide +kernel
theorem dX2_generatorsOrder_14 : decode cX2_generatorsOrder 14 = .ok (.iload_n 1, 1) := by decide +kernel
theorem dX2_generatorsOrder_15 : decode cX2_generatorsOrder 15 = .ok (.if_icmp .gt 41, 3) := by decide +kernel
theorem dX2_generatorsOrder_18 : decode cX2_generatorsOrder 18 = .ok (.aload_n 0, 1) := by decide +kernel
theorem dX2_generatorsOrder_19 : decode cX2_generatorsOrder 19 = .ok (.getfield 44, 3) := by decide +kernel
theorem dX2_generatorsOrder_22 : decode cX2_generatorsOrder 22 = .ok (.aload_n 0, 1) := by decide +kernel
theorem dX2_generatorsOrder_23 : decode cX2_generatorsOrder 23 = .ok (.getfield 18, 3) := by decide +kernel
theorem dX2_generatorsOrder_26 : decode cX2_generatorsOrder 26 = .ok (.invokevirtual 118, 3) := by decide +kernel
theorem dX2_generatorsOrder_29 : decode cX2_generatorsOrder 29 = .ok (.ifCond .eq 5, 3) := by decide +kernel
theorem dX2_generatorsOrder_32 : decode cX2_generatorsOrder 32 = .ok (.iload_n 2, 1) := by decide +kernel
theorem dX2_generatorsOrder_33 : decode cX2_generatorsOrder 33 = .ok (.ireturn, 1) := by decide +kernel
theorem dX2_generatorsOrder_34 : decode cX2_generatorsOrder 34 = .ok (.aload_n 0, 1) := by decide +kernel
theorem dX2_generatorsOrder_35 : decode cX2_generatorsOrder 35 = .ok (.aload_n 0, 1) := by decide +kernel
theorem dX2_generatorsOrder_36 : decode cX2_generatorsOrder 36 = .ok (.getfield 44, 3) := by decide +kernel
theorem dX2_generatorsOrder_39 : decode cX2_generatorsOrder 39 = .ok (.aload_n 0, 1) := by decide +kernel
theorem dX2_generatorsOrder_40 : decode cX2_generatorsOrder 40 = .ok (.getfield 22, 3) := by decide +kernel
theorem dX2_generatorsOrder_43 : decode cX2_generatorsOrder 43 = .ok (.aload_n 0, 1) := by decide +kernel
theorem dX2_generatorsOrder_44 : decode cX2_generatorsOrder 44 = .ok (.getfield 44, 3) := by decide +kernel
theorem dX2_generatorsOrder_47 : decode cX2_generatorsOrder 47 = .ok (.invokevirtual 110, 3) := by decide +kernel
theorem dX2_generatorsOrder_50 : decode cX2_generatorsOrder 50 = .ok (.iinc 2 1, 3) := by decide +kernel
theorem dX2_generatorsOrder_53 : decode cX2_generatorsOrder 53 = .ok (.goto (-40), 3) := by decide +kernel
theorem dX2_generatorsOrder_56 : decode cX2_generatorsOrder 56 = .ok (.iconst 0, 1) := by decide +kernel
theorem dX2_generatorsOrder_57 : decode cX2_generatorsOrder 57 = .ok (.ireturn, 1) := by decide +kernel
theorem dX2_countReduced_0 : decode cX2_countReduced 0 = .ok (.iconst 0, 1) := by decide +kernel
theorem dX2_countReduced_1 : decode cX2_countReduced 1 = .ok (.istore_n 1, 1) := by decide +kernel
theorem dX2_countReduced_2 : decode cX2_countReduced 2 = .ok (.lconst 1, 1) := by decide +kernel
theorem dX2_countReduced_3 : decode cX2_countReduced 3 = .ok (.lstore_n 2, 1) := by decide +kernel
theorem dX2_countReduced_4 : decode cX2_countReduced 4 = .ok (.ldc2_w 126, 3) := by decide +kernel
theorem dX2_countReduced_7 : decode cX2_countReduced 7 = .ok (.lload_n 2, 1) := by decide +kernel
theorem dX2_countReduced_8 : decode cX2_countReduced 8 = .ok (.lmul, 1) := by decide +kernel
theorem dX2_countReduced_9 : decode cX2_countReduced 9 = .ok (.lload_n 2, 1) := by decide +kernel
theorem dX2_countReduced_10 : decode cX2_countReduced 10 = .ok (.lmul, 1) := by decide +kernel
theorem dX2_countReduced_11 : decode cX2_countReduced 11 = .ok (.aload_n 0, 1) := by decide +kernel
theorem dX2_countReduced_12 : decode cX2_countReduced 12 = .ok (.getfield 9, 3) := by decide +kernel
theorem dX2_countReduced_15 : decode cX2_countReduced 15 = .ok (.i2l, 1) := by decide +kernel
theorem dX2_countReduced_16 : decode cX2_countReduced 16 = .ok (.lcmp, 1) := by decide +kernel
theorem dX2_countReduced_17 : decode cX2_countReduced 17 = .ok (.ifCond .gt 105, 3) := by decide +kernel
theorem dX2_countReduced_20 : decode cX2_countReduced 20 = .ok (.lload_n 2, 1) := by decide +kernel
theorem dX2_countReduced_21 : decode cX2_countReduced 21 = .ok (.lload_n 2, 1) := by decide +kernel
theorem dX2_countReduced_22 : decode cX2_countReduced 22 = .ok (.lmul, 1) := by decide +kernel
theorem dX2_countReduced_23 : decode cX2_countReduced 23 = .ok (.aload_n 0, 1) := by decide +kernel
theorem dX2_countReduced_24 : decode cX2_countReduced 24 = .ok (.getfield 9, 3) := by decide +kernel
theorem dX2_countReduced_27 : decode cX2_countReduced 27 = .ok (.i2l, 1) := by decide +kernel
theorem dX2_countReduced_28 : decode cX2_countReduced 28 = .ok (.ladd, 1) := by decide +kernel
theorem dX2_countReduced_29 : decode cX2_countReduced 29 = .ok (.ldc2_w 67, 3) := by decide +kernel
theorem dX2_countReduced_32 : decode cX2_countReduced 32 = .ok (.ldiv, 1) := by decide +kernel
theorem dX2_countReduced_33 : decode cX2_countReduced 33 = .ok (.lstore 4, 2) := by decide +kernel
theorem dX2_countReduced_35 : decode cX2_countReduced 35 = .ok (.lload_n 2, 1) := by decide +kernel
theorem dX2_countReduced_36 : decode cX2_countReduced 36 = .ok (.lstore 6, 2) := by decide +kernel
theorem dX2_countReduced_38 : decode cX2_countReduced 38 = .ok (.lload 6, 2) := by decide +kernel
theorem dX2_countReduced_40 : decode cX2_countReduced 40 = .ok (.lload 6, 2) := by decide +kernel
theorem dX2_countReduced_42 : decode cX2_countReduced 42 = .ok (.lmul, 1) := by decide +kernel
theorem dX2_countReduced_43 : decode cX2_countReduced 43 = .ok (.lload 4, 2) := by decide +kernel
theorem dX2_countReduced_45 : decode cX2_countReduced 45 = .ok (.lcmp, 1) := by decide +kernel
theorem dX2_countReduced_46 : decode cX2_countReduced 46 = .ok (.ifCond .gt 67, 3) := by decide +kernel
theorem dX2_countReduced_49 : decode cX2_countReduced 49 = .ok (.lload 4, 2) := by decide +kernel
theorem dX2_countReduced_51 : decode cX2_countReduced 51 = .ok (.lload 6, 2) := by decide +kernel
theorem dX2_countReduced_53 : decode cX2_countReduced 53 = .ok (.invokestatic 76, 3) := by decide +kernel
theorem dX2_countReduced_56 : decode cX2_countReduced 56 = .ok (.lconst 0, 1) := by decide +kernel
theorem dX2_countReduced_57 : decode cX2_countReduced 57 = .ok (.lcmp, 1) := by decide +kernel
theorem dX2_countReduced_58 : decode cX2_countReduced 58 = .ok (.ifCond .ne 46, 3) := by decide +kernel
theorem dX2_countReduced_61 : decode cX2_countReduced 61 = .ok (.aload_n 0, 1) := by decide +kernel
theorem dX2_countReduced_62 : decode cX2_countReduced 62 = .ok (.lload 6, 2) := by decide +kernel
theorem dX2_countReduced_64 : decode cX2_countReduced 64 = .ok (.lload_n 2, 1) := by decide +kernel
theorem dX2_countReduced_65 : decode cX2_countReduced 65 = .ok (.lload 4, 2) := by decide +kernel
theorem dX2_countReduced_67 : decode cX2_countReduced 67 = .ok (.lload 6, 2) := by decide +kernel
theorem dX2_countReduced_69 : decode cX2_countReduced 69 = .ok (.invokestatic 69, 3) := by decide +kernel
theorem dX2_countReduced_72 : decode cX2_countReduced 72 = .ok (.invokevirtual 79, 3) := by decide +kernel
theorem dX2_countReduced_75 : decode cX2_countReduced 75 = .ok (.ifCond .eq 29, 3) := by decide +kernel
theorem dX2_countReduced_78 : decode cX2_countReduced 78 = .ok (.iload_n 1, 1) := by decide +kernel
theorem dX2_countReduced_79 : decode cX2_countReduced 79 = .ok (.lload 6, 2) := by decide +kernel
theorem dX2_countReduced_81 : decode cX2_countReduced 81 = .ok (.lload_n 2, 1) := by decide +kernel
theorem dX2_countReduced_82 : decode cX2_countReduced 82 = .ok (.lcmp, 1) := by decide +kernel
theorem dX2_countReduced_83 : decode cX2_countReduced 83 = .ok (.ifCond .eq 14, 3) := by decide +kernel
theorem dX2_countReduced_86 : decode cX2_countReduced 86 = .ok (.lload 6, 2) := by decide +kernel
theorem dX2_countReduced_88 : decode cX2_countReduced 88 = .ok (.lload 6, 2) := by decide +kernel
theorem dX2_countReduced_90 : decode cX2_countReduced 90 = .ok (.lmul, 1) := by decide +kernel
theorem dX2_countReduced_91 : decode cX2_countReduced 91 = .ok (.lload 4, 2) := by decide +kernel
theorem dX2_countReduced_93 : decode cX2_countReduced 93 = .ok (.lcmp, 1) := by decide +kernel
theorem dX2_countReduced_94 : decode cX2_countReduced 94 = .ok (.ifCond .ne 7, 3) := by decide +kernel
theorem dX2_countReduced_97 : decode cX2_countReduced 97 = .ok (.iconst 1, 1) := by decide +kernel
theorem dX2_countReduced_98 : decode cX2_countReduced 98 = .ok (.goto 4, 3) := by decide +kernel
theorem dX2_countReduced_101 : decode cX2_countReduced 101 = .ok (.iconst 2, 1) := by decide +kernel
theorem dX2_countReduced_102 : decode cX2_countReduced 102 = .ok (.iadd, 1) := by decide +kernel
theorem dX2_countReduced_103 : decode cX2_countReduced 103 = .ok (.istore_n 1, 1) := by decide +kernel
theorem dX2_countReduced_104 : decode cX2_countReduced 104 = .ok (.lload 6, 2) := by decide +kernel
theorem dX2_countReduced_106 : decode cX2_countReduced 106 = .ok (.lconst 1, 1) := by decide +kernel
theorem dX2_countReduced_107 : decode cX2_countReduced 107 = .ok (.ladd, 1) := by decide +kernel
theorem dX2_countReduced_108 : decode cX2_countReduced 108 = .ok (.lstore 6, 2) := by decide +kernel
theorem dX2_countReduced_110 : decode cX2_countReduced 110 = .ok (.goto (-72), 3) := by decide +kernel
theorem dX2_countReduced_113 : decode cX2_countReduced 113 = .ok (.lload_n 2, 1) := by decide +kernel
theorem dX2_countReduced_114 : decode cX2_countReduced 114 = .ok (.ldc2_w 54, 3) := by decide +kernel
theorem dX2_countReduced_117 : decode cX2_countReduced 117 = .ok (.ladd, 1) := by decide +kernel
theorem dX2_countReduced_118 : decode cX2_countReduced 118 = .ok (.lstore_n 2, 1) := by decide +kernel
theorem dX2_countReduced_119 : decode cX2_countReduced 119 = .ok (.goto (-115), 3) := by decide +kernel
theorem dX2_countReduced_122 : decode cX2_countReduced 122 = .ok (.iload_n 1, 1) := by decide +kernel
theorem dX2_countReduced_123 : decode cX2_countReduced 123 = .ok (.ireturn, 1) := by decide +kernel
theorem dX3_init_0 : decode cX3_init 0 = .ok (.aload_n 0, 1) := by decide +kernel
theorem dX3_init_1 : decode cX3_init 1 = .ok (.invokespecial 1, 3) := by decide +kernel
theorem dX3_init_4 : decode cX3_init 4 = .ok (.aload_n 0, 1) := by decide +kernel
theorem dX3_init_5 : decode cX3_init 5 = .ok (.new 7, 3) := by decide +kernel
theorem dX3_init_8 : decode cX3_init 8 = .ok (.dup, 1) := by decide +kernel
theorem dX3_init_9 : decode cX3_init 9 = .ok (.invokespecial 9, 3) := by decide +kernel
theorem dX3_init_12 : decode cX3_init 12 = .ok (.putfield 10, 3) := by decide +kernel
theorem dX3_init_15 : decode cX3_init 15 = .ok (.aload_n 0, 1) := by decide +kernel
theorem dX3_init_16 : decode cX3_init 16 = .ok (.new 7, 3) := by decide +kernel
theorem dX3_init_19 : decode cX3_init 19 = .ok (.dup, 1) := by decide +kernel
theorem dX3_init_20 : decode cX3_init 20 = .ok (.invokespecial 9, 3) := by decide +kernel
theorem dX3_init_23 : decode cX3_init 23 = .ok (.putfield 16, 3) := by decide +kernel
theorem dX3_init_26 : decode cX3_init 26 = .ok (.aload_n 0, 1) := by decide +kernel
theorem dX3_init_27 : decode cX3_init 27 = .ok (.new 7, 3) := by decide +kernel
theorem dX3_init_30 : decode cX3_init 30 = .ok (.dup, 1) := by decide +kernel
theorem dX3_init_31 : decode cX3_init 31 = .ok (.invokespecial 9, 3) := by decide +kernel
theorem dX3_init_34 : decode cX3_init 34 = .ok (.putfield 19, 3) := by decide +kernel
theorem dX3_init_37 : decode cX3_init 37 = .ok (.return_, 1) := by decide +kernel
theorem dX4_init_0 : decode cX4_init 0 = .ok (.aload_n 0, 1) := by decide +kernel
theorem dX4_init_1 : decode cX4_init 1 = .ok (.invokespecial 1, 3) := by decide +kernel
theorem dX4_init_4 : decode cX4_init 4 = .ok (.aload_n 0, 1) := by decide +kernel
theorem dX4_init_5 : decode cX4_init 5 = .ok (.new 7, 3) := by decide +kernel
theorem dX4_init_8 : decode cX4_init 8 = .ok (.dup, 1) := by decide +kernel
theorem dX4_init_9 : decode cX4_init 9 = .ok (.invokespecial 9, 3) := by decide +kernel
theorem dX4_init_12 : decode cX4_init 12 = .ok (.putfield 10, 3) := by decide +kernel
theorem dX4_init_15 : decode cX4_init 15 = .ok (.aload_n 0, 1) := by decide +kernel
theorem dX4_init_16 : decode cX4_init 16 = .ok (.bipush 16, 2) := by decide +kernel
theorem dX4_init_18 : decode cX4_init 18 = .ok (.anewarray 16, 3) := by decide +kernel
theorem dX4_init_21 : decode cX4_init 21 = .ok (.putfield 18, 3) := by decide +kernel
theorem dX4_init_24 : decode cX4_init 24 = .ok (.iconst 0, 1) := by decide +kernel
theorem dX4_init_25 : decode cX4_init 25 = .ok (.istore_n 1, 1) := by decide +kernel
theorem dX4_init_26 : decode cX4_init 26 = .ok (.iload_n 1, 1) := by decide +kernel
theorem dX4_init_27 : decode cX4_init 27 = .ok (.bipush 16, 2) := by decide +kernel
theorem dX4_init_29 : decode cX4_init 29 = .ok (.if_icmp .ge 22, 3) := by decide +kernel
theorem dX4_init_32 : decode cX4_init 32 = .ok (.aload_n 0, 1) := by decide +kernel
theorem dX4_init_33 : decode cX4_init 33 = .ok (.getfield 18, 3) := by decide +kernel
theorem dX4_init_36 : decode cX4_init 36 = .ok (.iload_n 1, 1) := by decide +kernel
theorem dX4_init_37 : decode cX4_init 37 = .ok (.new 16, 3) := by decide +kernel
theorem dX4_init_40 : decode cX4_init 40 = .ok (.dup, 1) := by decide +kernel
theorem dX4_init_41 : decode cX4_init 41 = .ok (.invokespecial 22, 3) := by decide +kernel
theorem dX4_init_44 : decode cX4_init 44 = .ok (.aastore, 1) := by decide +kernel
theorem dX4_init_45 : decode cX4_init 45 = .ok (.iinc 1 1, 3) := by decide +kernel
theorem dX4_init_48 : decode cX4_init 48 = .ok (.goto (-22), 3) := by decide +kernel
theorem dX4_init_51 : decode cX4_init 51 = .ok (.aload_n 0, 1) := by decide +kernel
theorem dX4_init_52 : decode cX4_init 52 = .ok (.iconst 3, 1) := by decide +kernel
theorem dX4_init_53 : decode cX4_init 53 = .ok (.anewarray 23, 3) := by decide +kernel
theorem dX4_init_56 : decode cX4_init 56 = .ok (.putfield 25, 3) := by decide +kernel
theorem dX4_init_59 : decode cX4_init 59 = .ok (.iconst 0, 1) := by decide +kernel
theorem dX4_init_60 : decode cX4_init 60 = .ok (.istore_n 1, 1) := by decide +kernel
theorem dX4_init_61 : decode cX4_init 61 = .ok (.iload_n 1, 1) := by decide +kernel
theorem dX4_init_62 : decode cX4_init 62 = .ok (.iconst 3, 1) := by decide +kernel
theorem dX4_init_63 : decode cX4_init 63 = .ok (.if_icmp .ge 22, 3) := by decide +kernel
theorem dX4_init_66 : decode cX4_init 66 = .ok (.aload_n 0, 1) := by decide +kernel
theorem dX4_init_67 : decode cX4_init 67 = .ok (.getfield 25, 3) := by decide +kernel
theorem dX4_init_70 : decode cX4_init 70 = .ok (.iload_n 1, 1) := by decide +kernel
theorem dX4_init_71 : decode cX4_init 71 = .ok (.new 23, 3) := by decide +kernel
theorem dX4_init_74 : decode cX4_init 74 = .ok (.dup, 1) := by decide +kernel
theorem dX4_init_75 : decode cX4_init 75 = .ok (.invokespecial 29, 3) := by decide +kernel
theorem dX4_init_78 : decode cX4_init 78 = .ok (.aastore, 1) := by decide +kernel
theorem dX4_init_79 : decode cX4_init 79 = .ok (.iinc 1 1, 3) := by decide +kernel
theorem dX4_init_82 : decode cX4_init 82 = .ok (.goto (-21), 3) := by decide +kernel
theorem dX4_init_85 : decode cX4_init 85 = .ok (.aload_n 0, 1) := by decide +kernel
theorem dX4_init_86 : decode cX4_init 86 = .ok (.iconst 3, 1) := by decide +kernel
theorem dX4_init_87 : decode cX4_init 87 = .ok (.newarray .boolean, 2) := by decide +kernel
theorem dX4_init_89 : decode cX4_init 89 = .ok (.putfield 30, 3) := by decide +kernel
theorem dX4_init_92 : decode cX4_init 92 = .ok (.aload_n 0, 1) := by decide +kernel
theorem dX4_init_93 : decode cX4_init 93 = .ok (.iconst 0, 1) := by decide +kernel
theorem dX4_init_94 : decode cX4_init 94 = .ok (.putfield 34, 3) := by decide +kernel
theorem dX4_init_97 : decode cX4_init 97 = .ok (.aload_n 0, 1) := by decide +kernel
theorem dX4_init_98 : decode cX4_init 98 = .ok (.iconst 0, 1) := by decide +kernel
theorem dX4_init_99 : decode cX4_init 99 = .ok (.putfield 38, 3) := by decide +kernel
theorem dX4_init_102 : decode cX4_init 102 = .ok (.aload_n 0, 1) := by decide +kernel
theorem dX4_init_103 : decode cX4_init 103 = .ok (.aconst_null, 1) := by decide +kernel
theorem dX4_init_104 : decode cX4_init 104 = .ok (.putfield 42, 3) := by decide +kernel
theorem dX4_init_107 : decode cX4_init 107 = .ok (.return_, 1) := by decide +kernel
theorem dX4_discriminant_0 : decode cX4_discriminant 0 = .ok (.iload_n 1, 1) := by decide +kernel
theorem dX4_discriminant_1 : decode cX4_discriminant 1 = .ok (.bipush 7, 2) := by decide +kernel
theorem dX4_discriminant_3 : decode cX4_discriminant 3 = .ok (.if_icmp .lt 18, 3) := by decide +kernel
theorem dX4_discriminant_6 : decode cX4_discriminant 6 = .ok (.iload_n 1, 1) := by decide +kernel
theorem dX4_discriminant_7 : decode cX4_discriminant 7 = .ok (.ldc 46, 2) := by decide +kernel
theorem dX4_discriminant_9 : decode cX4_discriminant 9 = .ok (.if_icmp .gt 12, 3) := by decide +kernel
theorem dX4_discriminant_12 : decode cX4_discriminant 12 = .ok (.iload_n 1, 1) := by decide +kernel
theorem dX4_discriminant_13 : decode cX4_discriminant 13 = .ok (.bipush 8, 2) := by decide +kernel
theorem dX4_discriminant_15 : decode cX4_discriminant 15 = .ok (.irem, 1) := by decide +kernel
theorem dX4_discriminant_16 : decode cX4_discriminant 16 = .ok (.bipush 7, 2) := by decide +kernel
theorem dX4_discriminant_18 : decode cX4_discriminant 18 = .ok (.if_icmp .eq 13, 3) := by decide +kernel
theorem dX4_discriminant_21 : decode cX4_discriminant 21 = .ok (.new 47, 3) := by decide +kernel
theorem dX4_discriminant_24 : decode cX4_discriminant 24 = .ok (.dup, 1) := by decide +kernel
theorem dX4_discriminant_25 : decode cX4_discriminant 25 = .ok (.ldc 49, 2) := by decide +kernel
theorem dX4_discriminant_27 : decode cX4_discriminant 27 = .ok (.invokespecial 51, 3) := by decide +kernel
theorem dX4_discriminant_30 : decode cX4_discriminant 30 = .ok (.athrow, 1) := by decide +kernel
theorem dX4_discriminant_31 : decode cX4_discriminant 31 = .ok (.aload_n 0, 1) := by decide +kernel
theorem dX4_discriminant_32 : decode cX4_discriminant 32 = .ok (.getfield 42, 3) := by decide +kernel
theorem dX4_discriminant_35 : decode cX4_discriminant 35 = .ok (.ifnull 13, 3) := by decide +kernel
theorem dX4_discriminant_38 : decode cX4_discriminant 38 = .ok (.new 54, 3) := by decide +kernel
theorem dX4_discriminant_41 : decode cX4_discriminant 41 = .ok (.dup, 1) := by decide +kernel
theorem dX4_discriminant_42 : decode cX4_discriminant 42 = .ok (.ldc 56, 2) := by decide +kernel
theorem dX4_discriminant_44 : decode cX4_discriminant 44 = .ok (.invokespecial 58, 3) := by decide +kernel
theorem dX4_discriminant_47 : decode cX4_discriminant 47 = .ok (.athrow, 1) := by decide +kernel
theorem dX4_discriminant_48 : decode cX4_discriminant 48 = .ok (.aload_n 0, 1) := by decide +kernel
theorem dX4_discriminant_49 : decode cX4_discriminant 49 = .ok (.getfield 10, 3) := by decide +kernel
theorem dX4_discriminant_52 : decode cX4_discriminant 52 = .ok (.iload_n 1, 1) := by decide +kernel
theorem dX4_discriminant_53 : decode cX4_discriminant 53 = .ok (.invokevirtual 59, 3) := by decide +kernel
theorem dX4_discriminant_56 : decode cX4_discriminant 56 = .ok (.aload_n 0, 1) := by decide +kernel
theorem dX4_discriminant_57 : decode cX4_discriminant 57 = .ok (.iconst 1, 1) := by decide +kernel
theorem dX4_discriminant_58 : decode cX4_discriminant 58 = .ok (.putfield 34, 3) := by decide +kernel
theorem dX4_discriminant_61 : decode cX4_discriminant 61 = .ok (.aload_n 0, 1) := by decide +kernel
theorem dX4_discriminant_62 : decode cX4_discriminant 62 = .ok (.iconst 0, 1) := by decide +kernel
theorem dX4_discriminant_63 : decode cX4_discriminant 63 = .ok (.putfield 38, 3) := by decide +kernel
theorem dX4_discriminant_66 : decode cX4_discriminant 66 = .ok (.iconst 0, 1) := by decide +kernel
theorem dX4_discriminant_67 : decode cX4_discriminant 67 = .ok (.istore_n 2, 1) := by decide +kernel
theorem dX4_discriminant_68 : decode cX4_discriminant 68 = .ok (.iload_n 2, 1) := by decide +kernel
theorem dX4_discriminant_69 : decode cX4_discriminant 69 = .ok (.iconst 3, 1) := by decide +kernel
theorem dX4_discriminant_70 : decode cX4_discriminant 70 = .ok (.if_icmp .ge 16, 3) := by decide +kernel
theorem dX4_discriminant_73 : decode cX4_discriminant 73 = .ok (.aload_n 0, 1) := by decide +kernel
theorem dX4_discriminant_74 : decode cX4_discriminant 74 = .ok (.getfield 30, 3) := by decide +kernel
theorem dX4_discriminant_77 : decode cX4_discriminant 77 = .ok (.iload_n 2, 1) := by decide +kernel
theorem dX4_discriminant_78 : decode cX4_discriminant 78 = .ok (.iconst 0, 1) := by decide +kernel
theorem dX4_discriminant_79 : decode cX4_discriminant 79 = .ok (.bastore, 1) := by decide +kernel
theorem dX4_discriminant_80 : decode cX4_discriminant 80 = .ok (.iinc 2 1, 3) := by decide +kernel
theorem dX4_discriminant_83 : decode cX4_discriminant 83 = .ok (.goto (-15), 3) := by decide +kernel
theorem dX4_discriminant_86 : decode cX4_discriminant 86 = .ok (.return_, 1) := by decide +kernel
theorem dX4_begin_0 : decode cX4_begin 0 = .ok (.aload_n 0, 1) := by decide +kernel
theorem dX4_begin_1 : decode cX4_begin 1 = .ok (.invokevirtual 63, 3) := by decide +kernel
theorem dX4_begin_4 : decode cX4_begin 4 = .ok (.iload_n 1, 1) := by decide +kernel
theorem dX4_begin_5 : decode cX4_begin 5 = .ok (.invokestatic 66, 3) := by decide +kernel
theorem dX4_begin_8 : decode cX4_begin 8 = .ok (.aload_n 0, 1) := by decide +kernel
theorem dX4_begin_9 : decode cX4_begin 9 = .ok (.getfield 42, 3) := by decide +kernel
theorem dX4_begin_12 : decode cX4_begin 12 = .ok (.ifnonnull 12, 3) := by decide +kernel
theorem dX4_begin_15 : decode cX4_begin 15 = .ok (.aload_n 0, 1) := by decide +kernel
theorem dX4_begin_16 : decode cX4_begin 16 = .ok (.getfield 38, 3) := by decide +kernel
theorem dX4_begin_19 : decode cX4_begin 19 = .ok (.bipush 16, 2) := by decide +kernel
theorem dX4_begin_21 : decode cX4_begin 21 = .ok (.if_icmp .lt 13, 3) := by decide +kernel
theorem dX4_begin_24 : decode cX4_begin 24 = .ok (.new 54, 3) := by decide +kernel
theorem dX4_begin_27 : decode cX4_begin 27 = .ok (.dup, 1) := by decide +kernel
theorem dX4_begin_28 : decode cX4_begin 28 = .ok (.ldc 69, 2) := by decide +kernel
theorem dX4_begin_30 : decode cX4_begin 30 = .ok (.invokespecial 58, 3) := by decide +kernel
theorem dX4_begin_33 : decode cX4_begin 33 = .ok (.athrow, 1) := by decide +kernel
theorem dX4_begin_34 : decode cX4_begin 34 = .ok (.aload_n 0, 1) := by decide +kernel
theorem dX4_begin_35 : decode cX4_begin 35 = .ok (.getfield 18, 3) := by decide +kernel
theorem dX4_begin_38 : decode cX4_begin 38 = .ok (.aload_n 0, 1) := by decide +kernel
theorem dX4_begin_39 : decode cX4_begin 39 = .ok (.getfield 38, 3) := by decide +kernel
theorem dX4_begin_42 : decode cX4_begin 42 = .ok (.aaload, 1) := by decide +kernel
theorem dX4_begin_43 : decode cX4_begin 43 = .ok (.astore_n 2, 1) := by decide +kernel
theorem dX4_begin_44 : decode cX4_begin 44 = .ok (.aload_n 2, 1) := by decide +kernel
theorem dX4_begin_45 : decode cX4_begin 45 = .ok (.iload_n 1, 1) := by decide +kernel
theorem dX4_begin_46 : decode cX4_begin 46 = .ok (.putfield 71, 3) := by decide +kernel
theorem dX4_begin_49 : decode cX4_begin 49 = .ok (.aload_n 2, 1) := by decide +kernel
theorem dX4_begin_50 : decode cX4_begin 50 = .ok (.iload_n 1, 1) := by decide +kernel
theorem dX4_begin_51 : decode cX4_begin 51 = .ok (.putfield 74, 3) := by decide +kernel
theorem dX4_begin_54 : decode cX4_begin 54 = .ok (.aload_n 2, 1) := by decide +kernel
theorem dX4_begin_55 : decode cX4_begin 55 = .ok (.iload_n 1, 1) := by decide +kernel
theorem dX4_begin_56 : decode cX4_begin 56 = .ok (.putfield 77, 3) := by decide +kernel
theorem dX4_begin_59 : decode cX4_begin 59 = .ok (.aload_n 2, 1) := by decide +kernel
theorem dX4_begin_60 : decode cX4_begin 60 = .ok (.iconst 0, 1) := by decide +kernel
theorem dX4_begin_61 : decode cX4_begin 61 = .ok (.putfield 80, 3) := by decide +kernel
theorem dX4_begin_64 : decode cX4_begin 64 = .ok (.aload_n 2, 1) := by decide +kernel
theorem dX4_begin_65 : decode cX4_begin 65 = .ok (.iconst 1, 1) := by decide +kernel
theorem dX4_begin_66 : decode cX4_begin 66 = .ok (.putfield 83, 3) := by decide +kernel
theorem dX4_begin_69 : decode cX4_begin 69 = .ok (.aload_n 2, 1) := by decide +kernel
theorem dX4_begin_70 : decode cX4_begin 70 = .ok (.aload_n 0, 1) := by decide +kernel
theorem dX4_begin_71 : decode cX4_begin 71 = .ok (.invokevirtual 86, 3) := by decide +kernel
theorem dX4_begin_74 : decode cX4_begin 74 = .ok (.putfield 90, 3) := by decide +kernel
theorem dX4_begin_77 : decode cX4_begin 77 = .ok (.aload_n 0, 1) := by decide +kernel
theorem dX4_begin_78 : decode cX4_begin 78 = .ok (.getfield 10, 3) := by decide +kernel
theorem dX4_begin_81 : decode cX4_begin 81 = .ok (.aload_n 0, 1) := by decide +kernel
theorem dX4_begin_82 : decode cX4_begin 82 = .ok (.getfield 10, 3) := by decide +kernel
theorem dX4_begin_85 : decode cX4_begin 85 = .ok (.getfield 93, 3) := by decide +kernel
theorem dX4_begin_88 : decode cX4_begin 88 = .ok (.aload_n 2, 1) := by decide +kernel
theorem dX4_begin_89 : decode cX4_begin 89 = .ok (.getfield 90, 3) := by decide +kernel
theorem dX4_begin_92 : decode cX4_begin 92 = .ok (.aload_n 2, 1) := by decide +kernel
theorem dX4_begin_93 : decode cX4_begin 93 = .ok (.getfield 97, 3) := by decide +kernel
theorem dX4_begin_96 : decode cX4_begin 96 = .ok (.invokevirtual 100, 3) := by decide +kernel
theorem dX4_begin_99 : decode cX4_begin 99 = .ok (.aload_n 2, 1) := by decide +kernel
theorem dX4_begin_100 : decode cX4_begin 100 = .ok (.getfield 104, 3) := by decide +kernel
theorem dX4_begin_103 : decode cX4_begin 103 = .ok (.aload_n 2, 1) := by decide +kernel
theorem dX4_begin_104 : decode cX4_begin 104 = .ok (.getfield 97, 3) := by decide +kernel
theorem dX4_begin_107 : decode cX4_begin 107 = .ok (.invokevirtual 107, 3) := by decide +kernel
theorem dX4_begin_110 : decode cX4_begin 110 = .ok (.aload_n 2, 1) := by decide +kernel
theorem dX4_begin_111 : decode cX4_begin 111 = .ok (.getfield 111, 3) := by decide +kernel
theorem dX4_begin_114 : decode cX4_begin 114 = .ok (.aload_n 0, 1) := by decide +kernel
theorem dX4_begin_115 : decode cX4_begin 115 = .ok (.getfield 10, 3) := by decide +kernel
theorem dX4_begin_118 : decode cX4_begin 118 = .ok (.getfield 114, 3) := by decide +kernel
theorem dX4_begin_121 : decode cX4_begin 121 = .ok (.invokevirtual 107, 3) := by decide +kernel
theorem dX4_begin_124 : decode cX4_begin 124 = .ok (.aload_n 0, 1) := by decide +kernel
theorem dX4_begin_125 : decode cX4_begin 125 = .ok (.aload_n 2, 1) := by decide +kernel
theorem dX4_begin_126 : decode cX4_begin 126 = .ok (.putfield 42, 3) := by decide +kernel
