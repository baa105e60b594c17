theorem dX5_inverse_66 : decode cX5_inverse 66 = .ok (.goto (-50), 3) := by decide +kernel
theorem dX5_inverse_69 : decode cX5_inverse 69 = .ok (.lload 8, 2) := by decide +kernel
theorem dX5_inverse_71 : decode cX5_inverse 71 = .ok (.lload_n 2, 1) := by decide +kernel
theorem dX5_inverse_72 : decode cX5_inverse 72 = .ok (.invokestatic 31, 3) := by decide +kernel
theorem dX5_inverse_75 : decode cX5_inverse 75 = .ok (.lreturn, 1) := by decide +kernel
theorem dX5_set_0 : decode cX5_set 0 = .ok (.aload_n 0, 1) := by decide +kernel
theorem dX5_set_1 : decode cX5_set 1 = .ok (.getfield 7, 3) := by decide +kernel
theorem dX5_set_4 : decode cX5_set 4 = .ok (.iload_n 1, 1) := by decide +kernel
theorem dX5_set_5 : decode cX5_set 5 = .ok (.lload_n 2, 1) := by decide +kernel
theorem dX5_set_6 : decode cX5_set 6 = .ok (.lastore, 1) := by decide +kernel
theorem dX5_set_7 : decode cX5_set 7 = .ok (.aload_n 0, 1) := by decide +kernel
theorem dX5_set_8 : decode cX5_set 8 = .ok (.getfield 13, 3) := by decide +kernel
theorem dX5_set_11 : decode cX5_set 11 = .ok (.iload_n 1, 1) := by decide +kernel
theorem dX5_set_12 : decode cX5_set 12 = .ok (.lload 4, 2) := by decide +kernel
theorem dX5_set_14 : decode cX5_set 14 = .ok (.lastore, 1) := by decide +kernel
theorem dX5_set_15 : decode cX5_set 15 = .ok (.aload_n 0, 1) := by decide +kernel
theorem dX5_set_16 : decode cX5_set 16 = .ok (.getfield 16, 3) := by decide +kernel
theorem dX5_set_19 : decode cX5_set 19 = .ok (.iload_n 1, 1) := by decide +kernel
theorem dX5_set_20 : decode cX5_set 20 = .ok (.lload 6, 2) := by decide +kernel
theorem dX5_set_22 : decode cX5_set 22 = .ok (.lastore, 1) := by decide +kernel
theorem dX5_set_23 : decode cX5_set 23 = .ok (.return_, 1) := by decide +kernel
theorem dX5_copy_0 : decode cX5_copy 0 = .ok (.aload_n 0, 1) := by decide +kernel
theorem dX5_copy_1 : decode cX5_copy 1 = .ok (.iload_n 2, 1) := by decide +kernel
theorem dX5_copy_2 : decode cX5_copy 2 = .ok (.aload_n 0, 1) := by decide +kernel
theorem dX5_copy_3 : decode cX5_copy 3 = .ok (.getfield 7, 3) := by decide +kernel
theorem dX5_copy_6 : decode cX5_copy 6 = .ok (.iload_n 1, 1) := by decide +kernel
theorem dX5_copy_7 : decode cX5_copy 7 = .ok (.laload, 1) := by decide +kernel
theorem dX5_copy_8 : decode cX5_copy 8 = .ok (.aload_n 0, 1) := by decide +kernel
theorem dX5_copy_9 : decode cX5_copy 9 = .ok (.getfield 13, 3) := by decide +kernel
theorem dX5_copy_12 : decode cX5_copy 12 = .ok (.iload_n 1, 1) := by decide +kernel
theorem dX5_copy_13 : decode cX5_copy 13 = .ok (.laload, 1) := by decide +kernel
theorem dX5_copy_14 : decode cX5_copy 14 = .ok (.aload_n 0, 1) := by decide +kernel
theorem dX5_copy_15 : decode cX5_copy 15 = .ok (.getfield 16, 3) := by decide +kernel
theorem dX5_copy_18 : decode cX5_copy 18 = .ok (.iload_n 1, 1) := by decide +kernel
theorem dX5_copy_19 : decode cX5_copy 19 = .ok (.laload, 1) := by decide +kernel
theorem dX5_copy_20 : decode cX5_copy 20 = .ok (.invokevirtual 35, 3) := by decide +kernel
theorem dX5_copy_23 : decode cX5_copy 23 = .ok (.return_, 1) := by decide +kernel
theorem dX5_same_0 : decode cX5_same 0 = .ok (.aload_n 0, 1) := by decide +kernel
theorem dX5_same_1 : decode cX5_same 1 = .ok (.getfield 7, 3) := by decide +kernel
theorem dX5_same_4 : decode cX5_same 4 = .ok (.iload_n 1, 1) := by decide +kernel
theorem dX5_same_5 : decode cX5_same 5 = .ok (.laload, 1) := by decide +kernel
theorem dX5_same_6 : decode cX5_same 6 = .ok (.aload_n 0, 1) := by decide +kernel
theorem dX5_same_7 : decode cX5_same 7 = .ok (.getfield 7, 3) := by decide +kernel
theorem dX5_same_10 : decode cX5_same 10 = .ok (.iload_n 2, 1) := by decide +kernel
theorem dX5_same_11 : decode cX5_same 11 = .ok (.laload, 1) := by decide +kernel
theorem dX5_same_12 : decode cX5_same 12 = .ok (.lcmp, 1) := by decide +kernel
theorem dX5_same_13 : decode cX5_same 13 = .ok (.ifCond .ne 39, 3) := by decide +kernel
theorem dX5_same_16 : decode cX5_same 16 = .ok (.aload_n 0, 1) := by decide +kernel
theorem dX5_same_17 : decode cX5_same 17 = .ok (.getfield 13, 3) := by decide +kernel
theorem dX5_same_20 : decode cX5_same 20 = .ok (.iload_n 1, 1) := by decide +kernel
theorem dX5_same_21 : decode cX5_same 21 = .ok (.laload, 1) := by decide +kernel
theorem dX5_same_22 : decode cX5_same 22 = .ok (.aload_n 0, 1) := by decide +kernel
theorem dX5_same_23 : decode cX5_same 23 = .ok (.getfield 13, 3) := by decide +kernel
theorem dX5_same_26 : decode cX5_same 26 = .ok (.iload_n 2, 1) := by decide +kernel
theorem dX5_same_27 : decode cX5_same 27 = .ok (.laload, 1) := by decide +kernel
theorem dX5_same_28 : decode cX5_same 28 = .ok (.lcmp, 1) := by decide +kernel
theorem dX5_same_29 : decode cX5_same 29 = .ok (.ifCond .ne 23, 3) := by decide +kernel
theorem dX5_same_32 : decode cX5_same 32 = .ok (.aload_n 0, 1) := by decide +kernel
theorem dX5_same_33 : decode cX5_same 33 = .ok (.getfield 16, 3) := by decide +kernel
theorem dX5_same_36 : decode cX5_same 36 = .ok (.iload_n 1, 1) := by decide +kernel
theorem dX5_same_37 : decode cX5_same 37 = .ok (.laload, 1) := by decide +kernel
theorem dX5_same_38 : decode cX5_same 38 = .ok (.aload_n 0, 1) := by decide +kernel
theorem dX5_same_39 : decode cX5_same 39 = .ok (.getfield 16, 3) := by decide +kernel
theorem dX5_same_42 : decode cX5_same 42 = .ok (.iload_n 2, 1) := by decide +kernel
theorem dX5_same_43 : decode cX5_same 43 = .ok (.laload, 1) := by decide +kernel
theorem dX5_same_44 : decode cX5_same 44 = .ok (.lcmp, 1) := by decide +kernel
theorem dX5_same_45 : decode cX5_same 45 = .ok (.ifCond .ne 7, 3) := by decide +kernel
theorem dX5_same_48 : decode cX5_same 48 = .ok (.iconst 1, 1) := by decide +kernel
theorem dX5_same_49 : decode cX5_same 49 = .ok (.goto 4, 3) := by decide +kernel
theorem dX5_same_52 : decode cX5_same 52 = .ok (.iconst 0, 1) := by decide +kernel
theorem dX5_same_53 : decode cX5_same 53 = .ok (.ireturn, 1) := by decide +kernel
theorem dX5_isReduced_0 : decode cX5_isReduced 0 = .ok (.aload_n 0, 1) := by decide +kernel
theorem dX5_isReduced_1 : decode cX5_isReduced 1 = .ok (.getfield 13, 3) := by decide +kernel
theorem dX5_isReduced_4 : decode cX5_isReduced 4 = .ok (.iload_n 1, 1) := by decide +kernel
theorem dX5_isReduced_5 : decode cX5_isReduced 5 = .ok (.laload, 1) := by decide +kernel
theorem dX5_isReduced_6 : decode cX5_isReduced 6 = .ok (.aload_n 0, 1) := by decide +kernel
theorem dX5_isReduced_7 : decode cX5_isReduced 7 = .ok (.getfield 7, 3) := by decide +kernel
theorem dX5_isReduced_10 : decode cX5_isReduced 10 = .ok (.iload_n 1, 1) := by decide +kernel
theorem dX5_isReduced_11 : decode cX5_isReduced 11 = .ok (.laload, 1) := by decide +kernel
theorem dX5_isReduced_12 : decode cX5_isReduced 12 = .ok (.lneg, 1) := by decide +kernel
theorem dX5_isReduced_13 : decode cX5_isReduced 13 = .ok (.lcmp, 1) := by decide +kernel
theorem dX5_isReduced_14 : decode cX5_isReduced 14 = .ok (.ifCond .le 66, 3) := by decide +kernel
theorem dX5_isReduced_17 : decode cX5_isReduced 17 = .ok (.aload_n 0, 1) := by decide +kernel
theorem dX5_isReduced_18 : decode cX5_isReduced 18 = .ok (.getfield 13, 3) := by decide +kernel
theorem dX5_isReduced_21 : decode cX5_isReduced 21 = .ok (.iload_n 1, 1) := by decide +kernel
theorem dX5_isReduced_22 : decode cX5_isReduced 22 = .ok (.laload, 1) := by decide +kernel
theorem dX5_isReduced_23 : decode cX5_isReduced 23 = .ok (.aload_n 0, 1) := by decide +kernel
theorem dX5_isReduced_24 : decode cX5_isReduced 24 = .ok (.getfield 7, 3) := by decide +kernel
theorem dX5_isReduced_27 : decode cX5_isReduced 27 = .ok (.iload_n 1, 1) := by decide +kernel
theorem dX5_isReduced_28 : decode cX5_isReduced 28 = .ok (.laload, 1) := by decide +kernel
theorem dX5_isReduced_29 : decode cX5_isReduced 29 = .ok (.lcmp, 1) := by decide +kernel
theorem dX5_isReduced_30 : decode cX5_isReduced 30 = .ok (.ifCond .gt 50, 3) := by decide +kernel
theorem dX5_isReduced_33 : decode cX5_isReduced 33 = .ok (.aload_n 0, 1) := by decide +kernel
theorem dX5_isReduced_34 : decode cX5_isReduced 34 = .ok (.getfield 7, 3) := by decide +kernel
theorem dX5_isReduced_37 : decode cX5_isReduced 37 = .ok (.iload_n 1, 1) := by decide +kernel
theorem dX5_isReduced_38 : decode cX5_isReduced 38 = .ok (.laload, 1) := by decide +kernel
theorem dX5_isReduced_39 : decode cX5_isReduced 39 = .ok (.aload_n 0, 1) := by decide +kernel
theorem dX5_isReduced_40 : decode cX5_isReduced 40 = .ok (.getfield 16, 3) := by decide +kernel
theorem dX5_isReduced_43 : decode cX5_isReduced 43 = .ok (.iload_n 1, 1) := by decide +kernel
theorem dX5_isReduced_44 : decode cX5_isReduced 44 = .ok (.laload, 1) := by decide +kernel
theorem dX5_isReduced_45 : decode cX5_isReduced 45 = .ok (.lcmp, 1) := by decide +kernel
theorem dX5_isReduced_46 : decode cX5_isReduced 46 = .ok (.ifCond .gt 34, 3) := by decide +kernel
theorem dX5_isReduced_49 : decode cX5_isReduced 49 = .ok (.aload_n 0, 1) := by decide +kernel
theorem dX5_isReduced_50 : decode cX5_isReduced 50 = .ok (.getfield 7, 3) := by decide +kernel
theorem dX5_isReduced_53 : decode cX5_isReduced 53 = .ok (.iload_n 1, 1) := by decide +kernel
theorem dX5_isReduced_54 : decode cX5_isReduced 54 = .ok (.laload, 1) := by decide +kernel
theorem dX5_isReduced_55 : decode cX5_isReduced 55 = .ok (.aload_n 0, 1) := by decide +kernel
theorem dX5_isReduced_56 : decode cX5_isReduced 56 = .ok (.getfield 16, 3) := by decide +kernel
theorem dX5_isReduced_59 : decode cX5_isReduced 59 = .ok (.iload_n 1, 1) := by decide +kernel
theorem dX5_isReduced_60 : decode cX5_isReduced 60 = .ok (.laload, 1) := by decide +kernel
theorem dX5_isReduced_61 : decode cX5_isReduced 61 = .ok (.lcmp, 1) := by decide +kernel
theorem dX5_isReduced_62 : decode cX5_isReduced 62 = .ok (.ifCond .ne 14, 3) := by decide +kernel
theorem dX5_isReduced_65 : decode cX5_isReduced 65 = .ok (.aload_n 0, 1) := by decide +kernel
theorem dX5_isReduced_66 : decode cX5_isReduced 66 = .ok (.getfield 13, 3) := by decide +kernel
theorem dX5_isReduced_69 : decode cX5_isReduced 69 = .ok (.iload_n 1, 1) := by decide +kernel
theorem dX5_isReduced_70 : decode cX5_isReduced 70 = .ok (.laload, 1) := by decide +kernel
theorem dX5_isReduced_71 : decode cX5_isReduced 71 = .ok (.lconst 0, 1) := by decide +kernel
theorem dX5_isReduced_72 : decode cX5_isReduced 72 = .ok (.lcmp, 1) := by decide +kernel
theorem dX5_isReduced_73 : decode cX5_isReduced 73 = .ok (.ifCond .lt 7, 3) := by decide +kernel
theorem dX5_isReduced_76 : decode cX5_isReduced 76 = .ok (.iconst 1, 1) := by decide +kernel
theorem dX5_isReduced_77 : decode cX5_isReduced 77 = .ok (.goto 4, 3) := by decide +kernel
theorem dX5_isReduced_80 : decode cX5_isReduced 80 = .ok (.iconst 0, 1) := by decide +kernel
theorem dX5_isReduced_81 : decode cX5_isReduced 81 = .ok (.ireturn, 1) := by decide +kernel
theorem dX5_settle_0 : decode cX5_settle 0 = .ok (.aload_n 0, 1) := by decide +kernel
theorem dX5_settle_1 : decode cX5_settle 1 = .ok (.iload_n 1, 1) := by decide +kernel
theorem dX5_settle_2 : decode cX5_settle 2 = .ok (.invokevirtual 39, 3) := by decide +kernel
theorem dX5_settle_5 : decode cX5_settle 5 = .ok (.ifCond .ne 149, 3) := by decide +kernel
theorem dX5_settle_8 : decode cX5_settle 8 = .ok (.aload_n 0, 1) := by decide +kernel
theorem dX5_settle_9 : decode cX5_settle 9 = .ok (.getfield 13, 3) := by decide +kernel
theorem dX5_settle_12 : decode cX5_settle 12 = .ok (.iload_n 1, 1) := by decide +kernel
theorem dX5_settle_13 : decode cX5_settle 13 = .ok (.laload, 1) := by decide +kernel
theorem dX5_settle_14 : decode cX5_settle 14 = .ok (.aload_n 0, 1) := by decide +kernel
theorem dX5_settle_15 : decode cX5_settle 15 = .ok (.getfield 7, 3) := by decide +kernel
theorem dX5_settle_18 : decode cX5_settle 18 = .ok (.iload_n 1, 1) := by decide +kernel
theorem dX5_settle_19 : decode cX5_settle 19 = .ok (.laload, 1) := by decide +kernel
theorem dX5_settle_20 : decode cX5_settle 20 = .ok (.lneg, 1) := by decide +kernel
theorem dX5_settle_21 : decode cX5_settle 21 = .ok (.lcmp, 1) := by decide +kernel
theorem dX5_settle_22 : decode cX5_settle 22 = .ok (.ifCond .le 19, 3) := by decide +kernel
theorem dX5_settle_25 : decode cX5_settle 25 = .ok (.aload_n 0, 1) := by decide +kernel
theorem dX5_settle_26 : decode cX5_settle 26 = .ok (.getfield 13, 3) := by decide +kernel
theorem dX5_settle_29 : decode cX5_settle 29 = .ok (.iload_n 1, 1) := by decide +kernel
theorem dX5_settle_30 : decode cX5_settle 30 = .ok (.laload, 1) := by decide +kernel
theorem dX5_settle_31 : decode cX5_settle 31 = .ok (.aload_n 0, 1) := by decide +kernel
theorem dX5_settle_32 : decode cX5_settle 32 = .ok (.getfield 7, 3) := by decide +kernel
theorem dX5_settle_35 : decode cX5_settle 35 = .ok (.iload_n 1, 1) := by decide +kernel
theorem dX5_settle_36 : decode cX5_settle 36 = .ok (.laload, 1) := by decide +kernel
theorem dX5_settle_37 : decode cX5_settle 37 = .ok (.lcmp, 1) := by decide +kernel
theorem dX5_settle_38 : decode cX5_settle 38 = .ok (.ifCond .le 89, 3) := by decide +kernel
theorem dX5_settle_41 : decode cX5_settle 41 = .ok (.aload_n 0, 1) := by decide +kernel
theorem dX5_settle_42 : decode cX5_settle 42 = .ok (.getfield 7, 3) := by decide +kernel
theorem dX5_settle_45 : decode cX5_settle 45 = .ok (.iload_n 1, 1) := by decide +kernel
theorem dX5_settle_46 : decode cX5_settle 46 = .ok (.laload, 1) := by decide +kernel
theorem dX5_settle_47 : decode cX5_settle 47 = .ok (.aload_n 0, 1) := by decide +kernel
theorem dX5_settle_48 : decode cX5_settle 48 = .ok (.getfield 13, 3) := by decide +kernel
theorem dX5_settle_51 : decode cX5_settle 51 = .ok (.iload_n 1, 1) := by decide +kernel
theorem dX5_settle_52 : decode cX5_settle 52 = .ok (.laload, 1) := by decide +kernel
theorem dX5_settle_53 : decode cX5_settle 53 = .ok (.lsub, 1) := by decide +kernel
theorem dX5_settle_54 : decode cX5_settle 54 = .ok (.ldc2_w 43, 3) := by decide +kernel
theorem dX5_settle_57 : decode cX5_settle 57 = .ok (.aload_n 0, 1) := by decide +kernel
theorem dX5_settle_58 : decode cX5_settle 58 = .ok (.getfield 7, 3) := by decide +kernel
theorem dX5_settle_61 : decode cX5_settle 61 = .ok (.iload_n 1, 1) := by decide +kernel
theorem dX5_settle_62 : decode cX5_settle 62 = .ok (.laload, 1) := by decide +kernel
theorem dX5_settle_63 : decode cX5_settle 63 = .ok (.lmul, 1) := by decide +kernel
theorem dX5_settle_64 : decode cX5_settle 64 = .ok (.invokestatic 45, 3) := by decide +kernel
theorem dX5_settle_67 : decode cX5_settle 67 = .ok (.lstore_n 2, 1) := by decide +kernel
theorem dX5_settle_68 : decode cX5_settle 68 = .ok (.aload_n 0, 1) := by decide +kernel
theorem dX5_settle_69 : decode cX5_settle 69 = .ok (.getfield 13, 3) := by decide +kernel
theorem dX5_settle_72 : decode cX5_settle 72 = .ok (.iload_n 1, 1) := by decide +kernel
theorem dX5_settle_73 : decode cX5_settle 73 = .ok (.laload, 1) := by decide +kernel
theorem dX5_settle_74 : decode cX5_settle 74 = .ok (.ldc2_w 43, 3) := by decide +kernel
theorem dX5_settle_77 : decode cX5_settle 77 = .ok (.lload_n 2, 1) := by decide +kernel
theorem dX5_settle_78 : decode cX5_settle 78 = .ok (.lmul, 1) := by decide +kernel
theorem dX5_settle_79 : decode cX5_settle 79 = .ok (.aload_n 0, 1) := by decide +kernel
theorem dX5_settle_80 : decode cX5_settle 80 = .ok (.getfield 7, 3) := by decide +kernel
theorem dX5_settle_83 : decode cX5_settle 83 = .ok (.iload_n 1, 1) := by decide +kernel
theorem dX5_settle_84 : decode cX5_settle 84 = .ok (.laload, 1) := by decide +kernel
theorem dX5_settle_85 : decode cX5_settle 85 = .ok (.lmul, 1) := by decide +kernel
theorem dX5_settle_86 : decode cX5_settle 86 = .ok (.ladd, 1) := by decide +kernel
theorem dX5_settle_87 : decode cX5_settle 87 = .ok (.lstore 4, 2) := by decide +kernel
theorem dX5_settle_89 : decode cX5_settle 89 = .ok (.aload_n 0, 1) := by decide +kernel
theorem dX5_settle_90 : decode cX5_settle 90 = .ok (.iload_n 1, 1) := by decide +kernel
theorem dX5_settle_91 : decode cX5_settle 91 = .ok (.aload_n 0, 1) := by decide +kernel
theorem dX5_settle_92 : decode cX5_settle 92 = .ok (.getfield 7, 3) := by decide +kernel
theorem dX5_settle_95 : decode cX5_settle 95 = .ok (.iload_n 1, 1) := by decide +kernel
theorem dX5_settle_96 : decode cX5_settle 96 = .ok (.laload, 1) := by decide +kernel
theorem dX5_settle_97 : decode cX5_settle 97 = .ok (.lload 4, 2) := by decide +kernel
theorem dX5_settle_99 : decode cX5_settle 99 = .ok (.aload_n 0, 1) := by decide +kernel
theorem dX5_settle_100 : decode cX5_settle 100 = .ok (.getfield 16, 3) := by decide +kernel
theorem dX5_settle_103 : decode cX5_settle 103 = .ok (.iload_n 1, 1) := by decide +kernel
theorem dX5_settle_104 : decode cX5_settle 104 = .ok (.laload, 1) := by decide +kernel
theorem dX5_settle_105 : decode cX5_settle 105 = .ok (.lload_n 2, 1) := by decide +kernel
theorem dX5_settle_106 : decode cX5_settle 106 = .ok (.aload_n 0, 1) := by decide +kernel
theorem dX5_settle_107 : decode cX5_settle 107 = .ok (.getfield 13, 3) := by decide +kernel
theorem dX5_settle_110 : decode cX5_settle 110 = .ok (.iload_n 1, 1) := by decide +kernel
theorem dX5_settle_111 : decode cX5_settle 111 = .ok (.laload, 1) := by decide +kernel
theorem dX5_settle_112 : decode cX5_settle 112 = .ok (.lload 4, 2) := by decide +kernel
theorem dX5_settle_114 : decode cX5_settle 114 = .ok (.ladd, 1) := by decide +kernel
theorem dX5_settle_115 : decode cX5_settle 115 = .ok (.ldc2_w 43, 3) := by decide +kernel
theorem dX5_settle_118 : decode cX5_settle 118 = .ok (.ldiv, 1) := by decide +kernel
theorem dX5_settle_119 : decode cX5_settle 119 = .ok (.lmul, 1) := by decide +kernel
theorem dX5_settle_120 : decode cX5_settle 120 = .ok (.ladd, 1) := by decide +kernel
theorem dX5_settle_121 : decode cX5_settle 121 = .ok (.invokevirtual 35, 3) := by decide +kernel
theorem dX5_settle_124 : decode cX5_settle 124 = .ok (.goto (-124), 3) := by decide +kernel
theorem dX5_settle_127 : decode cX5_settle 127 = .ok (.aload_n 0, 1) := by decide +kernel
theorem dX5_settle_128 : decode cX5_settle 128 = .ok (.iload_n 1, 1) := by decide +kernel
theorem dX5_settle_129 : decode cX5_settle 129 = .ok (.aload_n 0, 1) := by decide +kernel
theorem dX5_settle_130 : decode cX5_settle 130 = .ok (.getfield 16, 3) := by decide +kernel
theorem dX5_settle_133 : decode cX5_settle 133 = .ok (.iload_n 1, 1) := by decide +kernel
theorem dX5_settle_134 : decode cX5_settle 134 = .ok (.laload, 1) := by decide +kernel
theorem dX5_settle_135 : decode cX5_settle 135 = .ok (.aload_n 0, 1) := by decide +kernel
theorem dX5_settle_136 : decode cX5_settle 136 = .ok (.getfield 13, 3) := by decide +kernel
theorem dX5_settle_139 : decode cX5_settle 139 = .ok (.iload_n 1, 1) := by decide +kernel
theorem dX5_settle_140 : decode cX5_settle 140 = .ok (.laload, 1) := by decide +kernel
theorem dX5_settle_141 : decode cX5_settle 141 = .ok (.lneg, 1) := by decide +kernel
theorem dX5_settle_142 : decode cX5_settle 142 = .ok (.aload_n 0, 1) := by decide +kernel
theorem dX5_settle_143 : decode cX5_settle 143 = .ok (.getfield 7, 3) := by decide +kernel
theorem dX5_settle_146 : decode cX5_settle 146 = .ok (.iload_n 1, 1) := by decide +kernel
theorem dX5_settle_147 : decode cX5_settle 147 = .ok (.laload, 1) := by decide +kernel
theorem dX5_settle_148 : decode cX5_settle 148 = .ok (.invokevirtual 35, 3) := by decide +kernel
theorem dX5_settle_151 : decode cX5_settle 151 = .ok (.goto (-151), 3) := by decide +kernel
theorem dX5_settle_154 : decode cX5_settle 154 = .ok (.return_, 1) := by decide +kernel
theorem dX5_valueOf_0 : decode cX5_valueOf 0 = .ok (.lload_n 0, 1) := by decide +kernel
theorem dX5_valueOf_1 : decode cX5_valueOf 1 = .ok (.lload 6, 2) := by decide +kernel
theorem dX5_valueOf_3 : decode cX5_valueOf 3 = .ok (.lmul, 1) := by decide +kernel
theorem dX5_valueOf_4 : decode cX5_valueOf 4 = .ok (.lload 6, 2) := by decide +kernel
theorem dX5_valueOf_6 : decode cX5_valueOf 6 = .ok (.lmul, 1) := by decide +kernel
theorem dX5_valueOf_7 : decode cX5_valueOf 7 = .ok (.lload_n 2, 1) := by decide +kernel
theorem dX5_valueOf_8 : decode cX5_valueOf 8 = .ok (.lload 6, 2) := by decide +kernel
theorem dX5_valueOf_10 : decode cX5_valueOf 10 = .ok (.lmul, 1) := by decide +kernel
theorem dX5_valueOf_11 : decode cX5_valueOf 11 = .ok (.lload 8, 2) := by decide +kernel
theorem dX5_valueOf_13 : decode cX5_valueOf 13 = .ok (.lmul, 1) := by decide +kernel
theorem dX5_valueOf_14 : decode cX5_valueOf 14 = .ok (.ladd, 1) := by decide +kernel
theorem dX5_valueOf_15 : decode cX5_valueOf 15 = .ok (.lload 4, 2) := by decide +kernel
theorem dX5_valueOf_17 : decode cX5_valueOf 17 = .ok (.lload 8, 2) := by decide +kernel
theorem dX5_valueOf_19 : decode cX5_valueOf 19 = .ok (.lmul, 1) := by decide +kernel
theorem dX5_valueOf_20 : decode cX5_valueOf 20 = .ok (.lload 8, 2) := by decide +kernel
theorem dX5_valueOf_22 : decode cX5_valueOf 22 = .ok (.lmul, 1) := by decide +kernel
theorem dX5_valueOf_23 : decode cX5_valueOf 23 = .ok (.ladd, 1) := by decide +kernel
theorem dX5_valueOf_24 : decode cX5_valueOf 24 = .ok (.lreturn, 1) := by decide +kernel
theorem dX5_unite_0 : decode cX5_unite 0 = .ok (.aload_n 0, 1) := by decide +kernel
theorem dX5_unite_1 : decode cX5_unite 1 = .ok (.getfield 7, 3) := by decide +kernel
theorem dX5_unite_4 : decode cX5_unite 4 = .ok (.bipush 58, 2) := by decide +kernel
theorem dX5_unite_6 : decode cX5_unite 6 = .ok (.laload, 1) := by decide +kernel
theorem dX5_unite_7 : decode cX5_unite 7 = .ok (.lstore_n 2, 1) := by decide +kernel
theorem dX5_unite_8 : decode cX5_unite 8 = .ok (.aload_n 0, 1) := by decide +kernel
theorem dX5_unite_9 : decode cX5_unite 9 = .ok (.getfield 13, 3) := by decide +kernel
theorem dX5_unite_12 : decode cX5_unite 12 = .ok (.bipush 58, 2) := by decide +kernel
theorem dX5_unite_14 : decode cX5_unite 14 = .ok (.laload, 1) := by decide +kernel
theorem dX5_unite_15 : decode cX5_unite 15 = .ok (.lstore 4, 2) := by decide +kernel
theorem dX5_unite_17 : decode cX5_unite 17 = .ok (.aload_n 0, 1) := by decide +kernel
theorem dX5_unite_18 : decode cX5_unite 18 = .ok (.getfield 7, 3) := by decide +kernel
theorem dX5_unite_21 : decode cX5_unite 21 = .ok (.bipush 59, 2) := by decide +kernel
theorem dX5_unite_23 : decode cX5_unite 23 = .ok (.laload, 1) := by decide +kernel
theorem dX5_unite_24 : decode cX5_unite 24 = .ok (.lstore 6, 2) := by decide +kernel
theorem dX5_unite_26 : decode cX5_unite 26 = .ok (.aload_n 0, 1) := by decide +kernel
theorem dX5_unite_27 : decode cX5_unite 27 = .ok (.getfield 13, 3) := by decide +kernel
theorem dX5_unite_30 : decode cX5_unite 30 = .ok (.bipush 59, 2) := by decide +kernel
theorem dX5_unite_32 : decode cX5_unite 32 = .ok (.laload, 1) := by decide +kernel
theorem dX5_unite_33 : decode cX5_unite 33 = .ok (.lstore 8, 2) := by decide +kernel
theorem dX5_unite_35 : decode cX5_unite 35 = .ok (.aload_n 0, 1) := by decide +kernel
theorem dX5_unite_36 : decode cX5_unite 36 = .ok (.getfield 16, 3) := by decide +kernel
theorem dX5_unite_39 : decode cX5_unite 39 = .ok (.bipush 59, 2) := by decide +kernel
theorem dX5_unite_41 : decode cX5_unite 41 = .ok (.laload, 1) := by decide +kernel
theorem dX5_unite_42 : decode cX5_unite 42 = .ok (.lstore 10, 2) := by decide +kernel
theorem dX5_unite_44 : decode cX5_unite 44 = .ok (.lconst 1, 1) := by decide +kernel
theorem dX5_unite_45 : decode cX5_unite 45 = .ok (.lstore 12, 2) := by decide +kernel
theorem dX5_unite_47 : decode cX5_unite 47 = .ok (.lconst 0, 1) := by decide +kernel
theorem dX5_unite_48 : decode cX5_unite 48 = .ok (.lstore 14, 2) := by decide +kernel
theorem dX5_unite_50 : decode cX5_unite 50 = .ok (.iconst 1, 1) := by decide +kernel
theorem dX5_unite_51 : decode cX5_unite 51 = .ok (.istore 16, 2) := by decide +kernel
theorem dX5_unite_53 : decode cX5_unite 53 = .ok (.lload 12, 2) := by decide +kernel
theorem dX5_unite_55 : decode cX5_unite 55 = .ok (.lload 14, 2) := by decide +kernel
theorem dX5_unite_57 : decode cX5_unite 57 = .ok (.invokestatic 48, 3) := by decide +kernel
theorem dX5_unite_60 : decode cX5_unite 60 = .ok (.lconst 1, 1) := by decide +kernel
theorem dX5_unite_61 : decode cX5_unite 61 = .ok (.lcmp, 1) := by decide +kernel
theorem dX5_unite_62 : decode cX5_unite 62 = .ok (.ifCond .ne 25, 3) := by decide +kernel
theorem dX5_unite_65 : decode cX5_unite 65 = .ok (.lload 6, 2) := by decide +kernel
theorem dX5_unite_67 : decode cX5_unite 67 = .ok (.lload 8, 2) := by decide +kernel
theorem dX5_unite_69 : decode cX5_unite 69 = .ok (.lload 10, 2) := by decide +kernel
theorem dX5_unite_71 : decode cX5_unite 71 = .ok (.lload 12, 2) := by decide +kernel
theorem dX5_unite_73 : decode cX5_unite 73 = .ok (.lload 14, 2) := by decide +kernel
theorem dX5_unite_75 : decode cX5_unite 75 = .ok (.invokestatic 51, 3) := by decide +kernel
theorem dX5_unite_78 : decode cX5_unite 78 = .ok (.lload_n 2, 1) := by decide +kernel
theorem dX5_unite_79 : decode cX5_unite 79 = .ok (.invokestatic 48, 3) := by decide +kernel
theorem dX5_unite_82 : decode cX5_unite 82 = .ok (.lconst 1, 1) := by decide +kernel
theorem dX5_unite_83 : decode cX5_unite 83 = .ok (.lcmp, 1) := by decide +kernel
theorem dX5_unite_84 : decode cX5_unite 84 = .ok (.ifCond .eq 51, 3) := by decide +kernel
theorem dX5_unite_87 : decode cX5_unite 87 = .ok (.lload 14, 2) := by decide +kernel
theorem dX5_unite_89 : decode cX5_unite 89 = .ok (.lconst 1, 1) := by decide +kernel
theorem dX5_unite_90 : decode cX5_unite 90 = .ok (.ladd, 1) := by decide +kernel
theorem dX5_unite_91 : decode cX5_unite 91 = .ok (.lstore 14, 2) := by decide +kernel
theorem dX5_unite_93 : decode cX5_unite 93 = .ok (.lload 14, 2) := by decide +kernel
theorem dX5_unite_95 : decode cX5_unite 95 = .ok (.iload 16, 2) := by decide +kernel
theorem dX5_unite_97 : decode cX5_unite 97 = .ok (.i2l, 1) := by decide +kernel
theorem dX5_unite_98 : decode cX5_unite 98 = .ok (.lcmp, 1) := by decide +kernel
theorem dX5_unite_99 : decode cX5_unite 99 = .ok (.ifCond .le 15, 3) := by decide +kernel
theorem dX5_unite_102 : decode cX5_unite 102 = .ok (.iload 16, 2) := by decide +kernel
theorem dX5_unite_104 : decode cX5_unite 104 = .ok (.ineg, 1) := by decide +kernel
theorem dX5_unite_105 : decode cX5_unite 105 = .ok (.i2l, 1) := by decide +kernel
theorem dX5_unite_106 : decode cX5_unite 106 = .ok (.lstore 14, 2) := by decide +kernel
theorem dX5_unite_108 : decode cX5_unite 108 = .ok (.lload 12, 2) := by decide +kernel
theorem dX5_unite_110 : decode cX5_unite 110 = .ok (.lconst 1, 1) := by decide +kernel
theorem dX5_unite_111 : decode cX5_unite 111 = .ok (.ladd, 1) := by decide +kernel
theorem dX5_unite_112 : decode cX5_unite 112 = .ok (.lstore 12, 2) := by decide +kernel
theorem dX5_unite_114 : decode cX5_unite 114 = .ok (.lload 12, 2) := by decide +kernel
theorem dX5_unite_116 : decode cX5_unite 116 = .ok (.iload 16, 2) := by decide +kernel
theorem dX5_unite_118 : decode cX5_unite 118 = .ok (.i2l, 1) := by decide +kernel
theorem dX5_unite_119 : decode cX5_unite 119 = .ok (.lcmp, 1) := by decide +kernel
theorem dX5_unite_120 : decode cX5_unite 120 = .ok (.ifCond .le (-67), 3) := by decide +kernel
theorem dX5_unite_123 : decode cX5_unite 123 = .ok (.iinc 16 1, 3) := by decide +kernel
theorem dX5_unite_126 : decode cX5_unite 126 = .ok (.lconst 0, 1) := by decide +kernel
theorem dX5_unite_127 : decode cX5_unite 127 = .ok (.lstore 12, 2) := by decide +kernel
theorem dX5_unite_129 : decode cX5_unite 129 = .ok (.lconst 1, 1) := by decide +kernel
theorem dX5_unite_130 : decode cX5_unite 130 = .ok (.lstore 14, 2) := by decide +kernel
theorem dX5_unite_132 : decode cX5_unite 132 = .ok (.goto (-79), 3) := by decide +kernel
theorem dX5_unite_135 : decode cX5_unite 135 = .ok (.lload 6, 2) := by decide +kernel
theorem dX5_unite_137 : decode cX5_unite 137 = .ok (.lload 8, 2) := by decide +kernel
theorem dX5_unite_139 : decode cX5_unite 139 = .ok (.lload 10, 2) := by decide +kernel
theorem dX5_unite_141 : decode cX5_unite 141 = .ok (.lload 12, 2) := by decide +kernel
theorem dX5_unite_143 : decode cX5_unite 143 = .ok (.lload 14, 2) := by decide +kernel
theorem dX5_unite_145 : decode cX5_unite 145 = .ok (.invokestatic 51, 3) := by decide +kernel
theorem dX5_unite_148 : decode cX5_unite 148 = .ok (.lstore 17, 2) := by decide +kernel
theorem dX5_unite_150 : decode cX5_unite 150 = .ok (.lload 14, 2) := by decide +kernel
theorem dX5_unite_152 : decode cX5_unite 152 = .ok (.lconst 0, 1) := by decide +kernel
theorem dX5_unite_153 : decode cX5_unite 153 = .ok (.lcmp, 1) := by decide +kernel
theorem dX5_unite_154 : decode cX5_unite 154 = .ok (.ifCond .ne 7, 3) := by decide +kernel
theorem dX5_unite_157 : decode cX5_unite 157 = .ok (.lconst 1, 1) := by decide +kernel
theorem dX5_unite_158 : decode cX5_unite 158 = .ok (.goto 23, 3) := by decide +kernel
theorem dX5_unite_161 : decode cX5_unite 161 = .ok (.lload 12, 2) := by decide +kernel
theorem dX5_unite_163 : decode cX5_unite 163 = .ok (.lload 14, 2) := by decide +kernel
theorem dX5_unite_165 : decode cX5_unite 165 = .ok (.lconst 0, 1) := by decide +kernel
theorem dX5_unite_166 : decode cX5_unite 166 = .ok (.lcmp, 1) := by decide +kernel
theorem dX5_unite_167 : decode cX5_unite 167 = .ok (.ifCond .ge 9, 3) := by decide +kernel
theorem dX5_unite_170 : decode cX5_unite 170 = .ok (.lload 14, 2) := by decide +kernel
theorem dX5_unite_172 : decode cX5_unite 172 = .ok (.lneg, 1) := by decide +kernel
theorem dX5_unite_173 : decode cX5_unite 173 = .ok (.goto 5, 3) := by decide +kernel
theorem dX5_unite_176 : decode cX5_unite 176 = .ok (.lload 14, 2) := by decide +kernel
theorem dX5_unite_178 : decode cX5_unite 178 = .ok (.invokestatic 55, 3) := by decide +kernel
theorem dX5_unite_181 : decode cX5_unite 181 = .ok (.lstore 19, 2) := by decide +kernel
theorem dX5_unite_183 : decode cX5_unite 183 = .ok (.lload 14, 2) := by decide +kernel
theorem dX5_unite_185 : decode cX5_unite 185 = .ok (.lconst 0, 1) := by decide +kernel
theorem dX5_unite_186 : decode cX5_unite 186 = .ok (.lcmp, 1) := by decide +kernel
theorem dX5_unite_187 : decode cX5_unite 187 = .ok (.ifCond .ne 7, 3) := by decide +kernel
theorem dX5_unite_190 : decode cX5_unite 190 = .ok (.lconst 0, 1) := by decide +kernel
theorem dX5_unite_191 : decode cX5_unite 191 = .ok (.goto 13, 3) := by decide +kernel
theorem dX5_unite_194 : decode cX5_unite 194 = .ok (.lload 12, 2) := by decide +kernel
theorem dX5_unite_196 : decode cX5_unite 196 = .ok (.lload 19, 2) := by decide +kernel
theorem dX5_unite_198 : decode cX5_unite 198 = .ok (.lmul, 1) := by decide +kernel
theorem dX5_unite_199 : decode cX5_unite 199 = .ok (.lconst 1, 1) := by decide +kernel
theorem dX5_unite_200 : decode cX5_unite 200 = .ok (.lsub, 1) := by decide +kernel
theorem dX5_unite_201 : decode cX5_unite 201 = .ok (.lload 14, 2) := by decide +kernel
theorem dX5_unite_203 : decode cX5_unite 203 = .ok (.ldiv, 1) := by decide +kernel
theorem dX5_unite_204 : decode cX5_unite 204 = .ok (.lstore 21, 2) := by decide +kernel
theorem dX5_unite_206 : decode cX5_unite 206 = .ok (.ldc2_w 43, 3) := by decide +kernel
theorem dX5_unite_209 : decode cX5_unite 209 = .ok (.lload 6, 2) := by decide +kernel
theorem dX5_unite_211 : decode cX5_unite 211 = .ok (.lmul, 1) := by decide +kernel
theorem dX5_unite_212 : decode cX5_unite 212 = .ok (.lload 12, 2) := by decide +kernel
theorem dX5_unite_214 : decode cX5_unite 214 = .ok (.lmul, 1) := by decide +kernel
theorem dX5_unite_215 : decode cX5_unite 215 = .ok (.lload 21, 2) := by decide +kernel
theorem dX5_unite_217 : decode cX5_unite 217 = .ok (.lmul, 1) := by decide +kernel
theorem dX5_unite_218 : decode cX5_unite 218 = .ok (.lload 8, 2) := by decide +kernel
theorem dX5_unite_220 : decode cX5_unite 220 = .ok (.lload 12, 2) := by decide +kernel
theorem dX5_unite_222 : decode cX5_unite 222 = .ok (.lload 19, 2) := by decide +kernel
theorem dX5_unite_224 : decode cX5_unite 224 = .ok (.lmul, 1) := by decide +kernel
theorem dX5_unite_225 : decode cX5_unite 225 = .ok (.lload 14, 2) := by decide +kernel
theorem dX5_unite_227 : decode cX5_unite 227 = .ok (.lload 21, 2) := by decide +kernel
theorem dX5_unite_229 : decode cX5_unite 229 = .ok (.lmul, 1) := by decide +kernel
theorem dX5_unite_230 : decode cX5_unite 230 = .ok (.ladd, 1) := by decide +kernel
theorem dX5_unite_231 : decode cX5_unite 231 = .ok (.lmul, 1) := by decide +kernel
theorem dX5_unite_232 : decode cX5_unite 232 = .ok (.ladd, 1) := by decide +kernel
theorem dX5_unite_233 : decode cX5_unite 233 = .ok (.ldc2_w 43, 3) := by decide +kernel
theorem dX5_unite_236 : decode cX5_unite 236 = .ok (.lload 10, 2) := by decide +kernel
theorem dX5_unite_238 : decode cX5_unite 238 = .ok (.lmul, 1) := by decide +kernel
theorem dX5_unite_239 : decode cX5_unite 239 = .ok (.lload 14, 2) := by decide +kernel
theorem dX5_unite_241 : decode cX5_unite 241 = .ok (.lmul, 1) := by decide +kernel
theorem dX5_unite_242 : decode cX5_unite 242 = .ok (.lload 19, 2) := by decide +kernel
theorem dX5_unite_244 : decode cX5_unite 244 = .ok (.lmul, 1) := by decide +kernel
theorem dX5_unite_245 : decode cX5_unite 245 = .ok (.ladd, 1) := by decide +kernel
theorem dX5_unite_246 : decode cX5_unite 246 = .ok (.lstore 23, 2) := by decide +kernel
theorem dX5_unite_248 : decode cX5_unite 248 = .ok (.lload 17, 2) := by decide +kernel
theorem dX5_unite_250 : decode cX5_unite 250 = .ok (.lconst 1, 1) := by decide +kernel
theorem dX5_unite_251 : decode cX5_unite 251 = .ok (.lcmp, 1) := by decide +kernel
theorem dX5_unite_252 : decode cX5_unite 252 = .ok (.ifCond .ne 7, 3) := by decide +kernel
theorem dX5_unite_255 : decode cX5_unite 255 = .ok (.lconst 0, 1) := by decide +kernel
theorem dX5_unite_256 : decode cX5_unite 256 = .ok (.goto 27, 3) := by decide +kernel
theorem dX5_unite_259 : decode cX5_unite 259 = .ok (.lload 23, 2) := by decide +kernel
theorem dX5_unite_261 : decode cX5_unite 261 = .ok (.lload 4, 2) := by decide +kernel
theorem dX5_unite_263 : decode cX5_unite 263 = .ok (.lsub, 1) := by decide +kernel
theorem dX5_unite_264 : decode cX5_unite 264 = .ok (.ldc2_w 43, 3) := by decide +kernel
theorem dX5_unite_267 : decode cX5_unite 267 = .ok (.ldiv, 1) := by decide +kernel
theorem dX5_unite_268 : decode cX5_unite 268 = .ok (.lload 17, 2) := by decide +kernel
theorem dX5_unite_270 : decode cX5_unite 270 = .ok (.invokestatic 31, 3) := by decide +kernel
theorem dX5_unite_273 : decode cX5_unite 273 = .ok (.lload_n 2, 1) := by decide +kernel
theorem dX5_unite_274 : decode cX5_unite 274 = .ok (.lload 17, 2) := by decide +kernel
theorem dX5_unite_276 : decode cX5_unite 276 = .ok (.invokestatic 55, 3) := by decide +kernel
theorem dX5_unite_279 : decode cX5_unite 279 = .ok (.lmul, 1) := by decide +kernel
theorem dX5_unite_280 : decode cX5_unite 280 = .ok (.lload 17, 2) := by decide +kernel
theorem dX5_unite_282 : decode cX5_unite 282 = .ok (.lrem, 1) := by decide +kernel
theorem dX5_unite_283 : decode cX5_unite 283 = .ok (.lstore 25, 2) := by decide +kernel
theorem dX5_unite_285 : decode cX5_unite 285 = .ok (.aload_n 0, 1) := by decide +kernel
theorem dX5_unite_286 : decode cX5_unite 286 = .ok (.iload_n 1, 1) := by decide +kernel
theorem dX5_unite_287 : decode cX5_unite 287 = .ok (.lload_n 2, 1) := by decide +kernel
theorem dX5_unite_288 : decode cX5_unite 288 = .ok (.lload 17, 2) := by decide +kernel
theorem dX5_unite_290 : decode cX5_unite 290 = .ok (.lmul, 1) := by decide +kernel
theorem dX5_unite_291 : decode cX5_unite 291 = .ok (.lload 4, 2) := by decide +kernel
theorem dX5_unite_293 : decode cX5_unite 293 = .ok (.ldc2_w 43, 3) := by decide +kernel
theorem dX5_unite_296 : decode cX5_unite 296 = .ok (.lload_n 2, 1) := by decide +kernel
theorem dX5_unite_297 : decode cX5_unite 297 = .ok (.lmul, 1) := by decide +kernel
theorem dX5_unite_298 : decode cX5_unite 298 = .ok (.lload 25, 2) := by decide +kernel
theorem dX5_unite_300 : decode cX5_unite 300 = .ok (.lmul, 1) := by decide +kernel
theorem dX5_unite_301 : decode cX5_unite 301 = .ok (.ladd, 1) := by decide +kernel
theorem dX5_unite_302 : decode cX5_unite 302 = .ok (.aload_n 0, 1) := by decide +kernel
theorem dX5_unite_303 : decode cX5_unite 303 = .ok (.getfield 16, 3) := by decide +kernel
theorem dX5_unite_306 : decode cX5_unite 306 = .ok (.bipush 58, 2) := by decide +kernel
theorem dX5_unite_308 : decode cX5_unite 308 = .ok (.laload, 1) := by decide +kernel
theorem dX5_unite_309 : decode cX5_unite 309 = .ok (.lload 25, 2) := by decide +kernel
theorem dX5_unite_311 : decode cX5_unite 311 = .ok (.lload 4, 2) := by decide +kernel
theorem dX5_unite_313 : decode cX5_unite 313 = .ok (.lmul, 1) := by decide +kernel
theorem dX5_unite_314 : decode cX5_unite 314 = .ok (.ladd, 1) := by decide +kernel
theorem dX5_unite_315 : decode cX5_unite 315 = .ok (.lload_n 2, 1) := by decide +kernel
theorem dX5_unite_316 : decode cX5_unite 316 = .ok (.lload 25, 2) := by decide +kernel
theorem dX5_unite_318 : decode cX5_unite 318 = .ok (.lmul, 1) := by decide +kernel
theorem dX5_unite_319 : decode cX5_unite 319 = .ok (.lload 25, 2) := by decide +kernel
theorem dX5_unite_321 : decode cX5_unite 321 = .ok (.lmul, 1) := by decide +kernel
theorem dX5_unite_322 : decode cX5_unite 322 = .ok (.ladd, 1) := by decide +kernel
theorem dX5_unite_323 : decode cX5_unite 323 = .ok (.lload 17, 2) := by decide +kernel
theorem dX5_unite_325 : decode cX5_unite 325 = .ok (.ldiv, 1) := by decide +kernel
theorem dX5_unite_326 : decode cX5_unite 326 = .ok (.invokevirtual 35, 3) := by decide +kernel
theorem dX5_unite_329 : decode cX5_unite 329 = .ok (.aload_n 0, 1) := by decide +kernel
theorem dX5_unite_330 : decode cX5_unite 330 = .ok (.iload_n 1, 1) := by decide +kernel
theorem dX5_unite_331 : decode cX5_unite 331 = .ok (.invokevirtual 58, 3) := by decide +kernel
theorem dX5_unite_334 : decode cX5_unite 334 = .ok (.return_, 1) := by decide +kernel
theorem dX5_times_0 : decode cX5_times 0 = .ok (.aload_n 0, 1) := by decide +kernel
theorem dX5_times_1 : decode cX5_times 1 = .ok (.iload_n 1, 1) := by decide +kernel
theorem dX5_times_2 : decode cX5_times 2 = .ok (.bipush 58, 2) := by decide +kernel
theorem dX5_times_4 : decode cX5_times 4 = .ok (.invokevirtual 62, 3) := by decide +kernel
theorem dX5_times_7 : decode cX5_times 7 = .ok (.aload_n 0, 1) := by decide +kernel
theorem dX5_times_8 : decode cX5_times 8 = .ok (.bipush 58, 2) := by decide +kernel
theorem dX5_times_10 : decode cX5_times 10 = .ok (.invokevirtual 58, 3) := by decide +kernel
theorem dX5_times_13 : decode cX5_times 13 = .ok (.aload_n 0, 1) := by decide +kernel
theorem dX5_times_14 : decode cX5_times 14 = .ok (.iload_n 2, 1) := by decide +kernel
theorem dX5_times_15 : decode cX5_times 15 = .ok (.bipush 59, 2) := by decide +kernel
theorem dX5_times_17 : decode cX5_times 17 = .ok (.invokevirtual 62, 3) := by decide +kernel
theorem dX5_times_20 : decode cX5_times 20 = .ok (.aload_n 0, 1) := by decide +kernel
theorem dX5_times_21 : decode cX5_times 21 = .ok (.bipush 59, 2) := by decide +kernel
theorem dX5_times_23 : decode cX5_times 23 = .ok (.invokevirtual 58, 3) := by decide +kernel
theorem dX5_times_26 : decode cX5_times 26 = .ok (.aload_n 0, 1) := by decide +kernel
theorem dX5_times_27 : decode cX5_times 27 = .ok (.getfield 7, 3) := by decide +kernel
theorem dX5_times_30 : decode cX5_times 30 = .ok (.bipush 58, 2) := by decide +kernel
theorem dX5_times_32 : decode cX5_times 32 = .ok (.laload, 1) := by decide +kernel
theorem dX5_times_33 : decode cX5_times 33 = .ok (.aload_n 0, 1) := by decide +kernel
theorem dX5_times_34 : decode cX5_times 34 = .ok (.getfield 7, 3) := by decide +kernel
theorem dX5_times_37 : decode cX5_times 37 = .ok (.bipush 59, 2) := by decide +kernel
theorem dX5_times_39 : decode cX5_times 39 = .ok (.laload, 1) := by decide +kernel
theorem dX5_times_40 : decode cX5_times 40 = .ok (.lcmp, 1) := by decide +kernel
theorem dX5_times_41 : decode cX5_times 41 = .ok (.ifCond .le 50, 3) := by decide +kernel
theorem dX5_times_44 : decode cX5_times 44 = .ok (.aload_n 0, 1) := by decide +kernel
theorem dX5_times_45 : decode cX5_times 45 = .ok (.getfield 7, 3) := by decide +kernel
theorem dX5_times_48 : decode cX5_times 48 = .ok (.bipush 58, 2) := by decide +kernel
theorem dX5_times_50 : decode cX5_times 50 = .ok (.laload, 1) := by decide +kernel
theorem dX5_times_51 : decode cX5_times 51 = .ok (.lstore 4, 2) := by decide +kernel
theorem dX5_times_53 : decode cX5_times 53 = .ok (.aload_n 0, 1) := by decide +kernel
theorem dX5_times_54 : decode cX5_times 54 = .ok (.getfield 13, 3) := by decide +kernel
theorem dX5_times_57 : decode cX5_times 57 = .ok (.bipush 58, 2) := by decide +kernel
theorem dX5_times_59 : decode cX5_times 59 = .ok (.laload, 1) := by decide +kernel
theorem dX5_times_60 : decode cX5_times 60 = .ok (.lstore 6, 2) := by decide +kernel
theorem dX5_times_62 : decode cX5_times 62 = .ok (.aload_n 0, 1) := by decide +kernel
theorem dX5_times_63 : decode cX5_times 63 = .ok (.getfield 16, 3) := by decide +kernel
theorem dX5_times_66 : decode cX5_times 66 = .ok (.bipush 58, 2) := by decide +kernel
theorem dX5_times_68 : decode cX5_times 68 = .ok (.laload, 1) := by decide +kernel
theorem dX5_times_69 : decode cX5_times 69 = .ok (.lstore 8, 2) := by decide +kernel
theorem dX5_times_71 : decode cX5_times 71 = .ok (.aload_n 0, 1) := by decide +kernel
theorem dX5_times_72 : decode cX5_times 72 = .ok (.bipush 59, 2) := by decide +kernel
theorem dX5_times_74 : decode cX5_times 74 = .ok (.bipush 58, 2) := by decide +kernel
theorem dX5_times_76 : decode cX5_times 76 = .ok (.invokevirtual 62, 3) := by decide +kernel
theorem dX5_times_79 : decode cX5_times 79 = .ok (.aload_n 0, 1) := by decide +kernel
theorem dX5_times_80 : decode cX5_times 80 = .ok (.bipush 59, 2) := by decide +kernel
theorem dX5_times_82 : decode cX5_times 82 = .ok (.lload 4, 2) := by decide +kernel
theorem dX5_times_84 : decode cX5_times 84 = .ok (.lload 6, 2) := by decide +kernel
theorem dX5_times_86 : decode cX5_times 86 = .ok (.lload 8, 2) := by decide +kernel
theorem dX5_times_88 : decode cX5_times 88 = .ok (.invokevirtual 35, 3) := by decide +kernel
theorem dX5_times_91 : decode cX5_times 91 = .ok (.aload_n 0, 1) := by decide +kernel
theorem dX5_times_92 : decode cX5_times 92 = .ok (.iload_n 3, 1) := by decide +kernel
theorem dX5_times_93 : decode cX5_times 93 = .ok (.invokevirtual 66, 3) := by decide +kernel
theorem dX5_times_96 : decode cX5_times 96 = .ok (.return_, 1) := by decide +kernel
theorem dX5_raiseTo_0 : decode cX5_raiseTo 0 = .ok (.aload_n 0, 1) := by decide +kernel
theorem dX5_raiseTo_1 : decode cX5_raiseTo 1 = .ok (.iload_n 1, 1) := by decide +kernel
theorem dX5_raiseTo_2 : decode cX5_raiseTo 2 = .ok (.bipush 57, 2) := by decide +kernel
theorem dX5_raiseTo_4 : decode cX5_raiseTo 4 = .ok (.invokevirtual 62, 3) := by decide +kernel
theorem dX5_raiseTo_7 : decode cX5_raiseTo 7 = .ok (.aload_n 0, 1) := by decide +kernel
theorem dX5_raiseTo_8 : decode cX5_raiseTo 8 = .ok (.bipush 57, 2) := by decide +kernel
theorem dX5_raiseTo_10 : decode cX5_raiseTo 10 = .ok (.invokevirtual 58, 3) := by decide +kernel
theorem dX5_raiseTo_13 : decode cX5_raiseTo 13 = .ok (.aload_n 0, 1) := by decide +kernel
theorem dX5_raiseTo_14 : decode cX5_raiseTo 14 = .ok (.bipush 54, 2) := by decide +kernel
theorem dX5_raiseTo_16 : decode cX5_raiseTo 16 = .ok (.bipush 56, 2) := by decide +kernel
theorem dX5_raiseTo_18 : decode cX5_raiseTo 18 = .ok (.invokevirtual 62, 3) := by decide +kernel
theorem dX5_raiseTo_21 : decode cX5_raiseTo 21 = .ok (.iload_n 2, 1) := by decide +kernel
theorem dX5_raiseTo_22 : decode cX5_raiseTo 22 = .ok (.istore 4, 2) := by decide +kernel
theorem dX5_raiseTo_24 : decode cX5_raiseTo 24 = .ok (.iload 4, 2) := by decide +kernel
theorem dX5_raiseTo_26 : decode cX5_raiseTo 26 = .ok (.ifCond .le 45, 3) := by decide +kernel
theorem dX5_raiseTo_29 : decode cX5_raiseTo 29 = .ok (.iload 4, 2) := by decide +kernel
theorem dX5_raiseTo_31 : decode cX5_raiseTo 31 = .ok (.iconst 2, 1) := by decide +kernel
theorem dX5_raiseTo_32 : decode cX5_raiseTo 32 = .ok (.irem, 1) := by decide +kernel
theorem dX5_raiseTo_33 : decode cX5_raiseTo 33 = .ok (.iconst 1, 1) := by decide +kernel
theorem dX5_raiseTo_34 : decode cX5_raiseTo 34 = .ok (.if_icmp .ne 13, 3) := by decide +kernel
theorem dX5_raiseTo_37 : decode cX5_raiseTo 37 = .ok (.aload_n 0, 1) := by decide +kernel
theorem dX5_raiseTo_38 : decode cX5_raiseTo 38 = .ok (.bipush 56, 2) := by decide +kernel
theorem dX5_raiseTo_40 : decode cX5_raiseTo 40 = .ok (.bipush 57, 2) := by decide +kernel
theorem dX5_raiseTo_42 : decode cX5_raiseTo 42 = .ok (.bipush 56, 2) := by decide +kernel
theorem dX5_raiseTo_44 : decode cX5_raiseTo 44 = .ok (.invokevirtual 69, 3) := by decide +kernel
theorem dX5_raiseTo_47 : decode cX5_raiseTo 47 = .ok (.iload 4, 2) := by decide +kernel
theorem dX5_raiseTo_49 : decode cX5_raiseTo 49 = .ok (.iconst 2, 1) := by decide +kernel
theorem dX5_raiseTo_50 : decode cX5_raiseTo 50 = .ok (.idiv, 1) := by decide +kernel
theorem dX5_raiseTo_51 : decode cX5_raiseTo 51 = .ok (.istore 4, 2) := by decide +kernel
theorem dX5_raiseTo_53 : decode cX5_raiseTo 53 = .ok (.iload 4, 2) := by decide +kernel
theorem dX5_raiseTo_55 : decode cX5_raiseTo 55 = .ok (.ifCond .le (-31), 3) := by decide +kernel
theorem dX5_raiseTo_58 : decode cX5_raiseTo 58 = .ok (.aload_n 0, 1) := by decide +kernel
theorem dX5_raiseTo_59 : decode cX5_raiseTo 59 = .ok (.bipush 57, 2) := by decide +kernel
theorem dX5_raiseTo_61 : decode cX5_raiseTo 61 = .ok (.bipush 57, 2) := by decide +kernel
theorem dX5_raiseTo_63 : decode cX5_raiseTo 63 = .ok (.bipush 57, 2) := by decide +kernel
theorem dX5_raiseTo_65 : decode cX5_raiseTo 65 = .ok (.invokevirtual 69, 3) := by decide +kernel
theorem dX5_raiseTo_68 : decode cX5_raiseTo 68 = .ok (.goto (-44), 3) := by decide +kernel
theorem dX5_raiseTo_71 : decode cX5_raiseTo 71 = .ok (.aload_n 0, 1) := by decide +kernel
theorem dX5_raiseTo_72 : decode cX5_raiseTo 72 = .ok (.bipush 56, 2) := by decide +kernel
theorem dX5_raiseTo_74 : decode cX5_raiseTo 74 = .ok (.iload_n 3, 1) := by decide +kernel
theorem dX5_raiseTo_75 : decode cX5_raiseTo 75 = .ok (.invokevirtual 62, 3) := by decide +kernel
theorem dX5_raiseTo_78 : decode cX5_raiseTo 78 = .ok (.return_, 1) := by decide +kernel
theorem dX5_mix_0 : decode cX5_mix 0 = .ok (.iload_n 0, 1) := by decide +kernel
theorem dX5_mix_1 : decode cX5_mix 1 = .ok (.iload_n 1, 1) := by decide +kernel
theorem dX5_mix_2 : decode cX5_mix 2 = .ok (.ixor, 1) := by decide +kernel
theorem dX5_mix_3 : decode cX5_mix 3 = .ok (.ldc 73, 2) := by decide +kernel
theorem dX5_mix_5 : decode cX5_mix 5 = .ok (.imul, 1) := by decide +kernel
theorem dX5_mix_6 : decode cX5_mix 6 = .ok (.istore_n 2, 1) := by decide +kernel
theorem dX5_mix_7 : decode cX5_mix 7 = .ok (.iload_n 2, 1) := by decide +kernel
theorem dX5_mix_8 : decode cX5_mix 8 = .ok (.iload_n 2, 1) := by decide +kernel
theorem dX5_mix_9 : decode cX5_mix 9 = .ok (.bipush 15, 2) := by decide +kernel
theorem dX5_mix_11 : decode cX5_mix 11 = .ok (.iushr, 1) := by decide +kernel
theorem dX5_mix_12 : decode cX5_mix 12 = .ok (.ixor, 1) := by decide +kernel
theorem dX5_mix_13 : decode cX5_mix 13 = .ok (.ireturn, 1) := by decide +kernel
theorem dX5_mixForm_0 : decode cX5_mixForm 0 = .ok (.iload_n 1, 1) := by decide +kernel
theorem dX5_mixForm_1 : decode cX5_mixForm 1 = .ok (.aload_n 0, 1) := by decide +kernel
theorem dX5_mixForm_2 : decode cX5_mixForm 2 = .ok (.getfield 7, 3) := by decide +kernel
theorem dX5_mixForm_5 : decode cX5_mixForm 5 = .ok (.iload_n 2, 1) := by decide +kernel
theorem dX5_mixForm_6 : decode cX5_mixForm 6 = .ok (.laload, 1) := by decide +kernel
theorem dX5_mixForm_7 : decode cX5_mixForm 7 = .ok (.l2i, 1) := by decide +kernel
theorem dX5_mixForm_8 : decode cX5_mixForm 8 = .ok (.invokestatic 74, 3) := by decide +kernel
theorem dX5_mixForm_11 : decode cX5_mixForm 11 = .ok (.aload_n 0, 1) := by decide +kernel
theorem dX5_mixForm_12 : decode cX5_mixForm 12 = .ok (.getfield 13, 3) := by decide +kernel
theorem dX5_mixForm_15 : decode cX5_mixForm 15 = .ok (.iload_n 2, 1) := by decide +kernel
theorem dX5_mixForm_16 : decode cX5_mixForm 16 = .ok (.laload, 1) := by decide +kernel
theorem dX5_mixForm_17 : decode cX5_mixForm 17 = .ok (.l2i, 1) := by decide +kernel
theorem dX5_mixForm_18 : decode cX5_mixForm 18 = .ok (.invokestatic 74, 3) := by decide +kernel
theorem dX5_mixForm_21 : decode cX5_mixForm 21 = .ok (.ireturn, 1) := by decide +kernel
theorem dX5_isPrime_0 : decode cX5_isPrime 0 = .ok (.iconst 2, 1) := by decide +kernel
theorem dX5_isPrime_1 : decode cX5_isPrime 1 = .ok (.istore_n 1, 1) := by decide +kernel
theorem dX5_isPrime_2 : decode cX5_isPrime 2 = .ok (.iload_n 1, 1) := by decide +kernel
theorem dX5_isPrime_3 : decode cX5_isPrime 3 = .ok (.iload_n 1, 1) := by decide +kernel
theorem dX5_isPrime_4 : decode cX5_isPrime 4 = .ok (.imul, 1) := by decide +kernel
theorem dX5_isPrime_5 : decode cX5_isPrime 5 = .ok (.iload_n 0, 1) := by decide +kernel
theorem dX5_isPrime_6 : decode cX5_isPrime 6 = .ok (.if_icmp .gt 17, 3) := by decide +kernel
theorem dX5_isPrime_9 : decode cX5_isPrime 9 = .ok (.iload_n 0, 1) := by decide +kernel
theorem dX5_isPrime_10 : decode cX5_isPrime 10 = .ok (.iload_n 1, 1) := by decide +kernel
theorem dX5_isPrime_11 : decode cX5_isPrime 11 = .ok (.irem, 1) := by decide +kernel
theorem dX5_isPrime_12 : decode cX5_isPrime 12 = .ok (.ifCond .ne 5, 3) := by decide +kernel
theorem dX5_isPrime_15 : decode cX5_isPrime 15 = .ok (.iconst 0, 1) := by decide +kernel
theorem dX5_isPrime_16 : decode cX5_isPrime 16 = .ok (.ireturn, 1) := by decide +kernel
theorem dX5_isPrime_17 : decode cX5_isPrime 17 = .ok (.iinc 1 1, 3) := by decide +kernel
theorem dX5_isPrime_20 : decode cX5_isPrime 20 = .ok (.goto (-18), 3) := by decide +kernel
theorem dX5_isPrime_23 : decode cX5_isPrime 23 = .ok (.iload_n 0, 1) := by decide +kernel
theorem dX5_isPrime_24 : decode cX5_isPrime 24 = .ok (.iconst 1, 1) := by decide +kernel
theorem dX5_isPrime_25 : decode cX5_isPrime 25 = .ok (.if_icmp .le 7, 3) := by decide +kernel
theorem dX5_isPrime_28 : decode cX5_isPrime 28 = .ok (.iconst 1, 1) := by decide +kernel
theorem dX5_isPrime_29 : decode cX5_isPrime 29 = .ok (.goto 4, 3) := by decide +kernel
theorem dX5_isPrime_32 : decode cX5_isPrime 32 = .ok (.iconst 0, 1) := by decide +kernel
theorem dX5_isPrime_33 : decode cX5_isPrime 33 = .ok (.ireturn, 1) := by decide +kernel
theorem dX5_primeOf_0 : decode cX5_primeOf 0 = .ok (.iconst 3, 1) := by decide +kernel
theorem dX5_primeOf_1 : decode cX5_primeOf 1 = .ok (.aload_n 0, 1) := by decide +kernel
theorem dX5_primeOf_2 : decode cX5_primeOf 2 = .ok (.aload_n 0, 1) := by decide +kernel
theorem dX5_primeOf_3 : decode cX5_primeOf 3 = .ok (.iconst 2, 1) := by decide +kernel
theorem dX5_primeOf_4 : decode cX5_primeOf 4 = .ok (.iload_n 1, 1) := by decide +kernel
theorem dX5_primeOf_5 : decode cX5_primeOf 5 = .ok (.invokevirtual 78, 3) := by decide +kernel
theorem dX5_primeOf_8 : decode cX5_primeOf 8 = .ok (.iload_n 2, 1) := by decide +kernel
theorem dX5_primeOf_9 : decode cX5_primeOf 9 = .ok (.invokevirtual 78, 3) := by decide +kernel
theorem dX5_primeOf_12 : decode cX5_primeOf 12 = .ok (.iload_n 3, 1) := by decide +kernel
theorem dX5_primeOf_13 : decode cX5_primeOf 13 = .ok (.invokestatic 74, 3) := by decide +kernel
theorem dX5_primeOf_16 : decode cX5_primeOf 16 = .ok (.ldc 81, 2) := by decide +kernel
theorem dX5_primeOf_18 : decode cX5_primeOf 18 = .ok (.iand, 1) := by decide +kernel
theorem dX5_primeOf_19 : decode cX5_primeOf 19 = .ok (.iadd, 1) := by decide +kernel
theorem dX5_primeOf_20 : decode cX5_primeOf 20 = .ok (.istore 4, 2) := by decide +kernel
theorem dX5_primeOf_22 : decode cX5_primeOf 22 = .ok (.iload 4, 2) := by decide +kernel
theorem dX5_primeOf_24 : decode cX5_primeOf 24 = .ok (.invokestatic 82, 3) := by decide +kernel
theorem dX5_primeOf_27 : decode cX5_primeOf 27 = .ok (.ifCond .ne 9, 3) := by decide +kernel
theorem dX5_primeOf_30 : decode cX5_primeOf 30 = .ok (.iinc 4 1, 3) := by decide +kernel
theorem dX5_primeOf_33 : decode cX5_primeOf 33 = .ok (.goto (-11), 3) := by decide +kernel
theorem dX5_primeOf_36 : decode cX5_primeOf 36 = .ok (.iload 4, 2) := by decide +kernel
theorem dX5_primeOf_38 : decode cX5_primeOf 38 = .ok (.ireturn, 1) := by decide +kernel
theorem dX5_discriminant_0 : decode cX5_discriminant 0 = .ok (.aload_n 0, 1) := by decide +kernel
theorem dX5_discriminant_1 : decode cX5_discriminant 1 = .ok (.iload_n 1, 1) := by decide +kernel
theorem dX5_discriminant_2 : decode cX5_discriminant 2 = .ok (.bipush 7, 2) := by decide +kernel
theorem dX5_discriminant_4 : decode cX5_discriminant 4 = .ok (.if_icmp .lt 18, 3) := by decide +kernel
theorem dX5_discriminant_7 : decode cX5_discriminant 7 = .ok (.iload_n 1, 1) := by decide +kernel
theorem dX5_discriminant_8 : decode cX5_discriminant 8 = .ok (.ldc 85, 2) := by decide +kernel
theorem dX5_discriminant_10 : decode cX5_discriminant 10 = .ok (.if_icmp .gt 12, 3) := by decide +kernel
theorem dX5_discriminant_13 : decode cX5_discriminant 13 = .ok (.iload_n 1, 1) := by decide +kernel
theorem dX5_discriminant_14 : decode cX5_discriminant 14 = .ok (.bipush 8, 2) := by decide +kernel
theorem dX5_discriminant_16 : decode cX5_discriminant 16 = .ok (.irem, 1) := by decide +kernel
theorem dX5_discriminant_17 : decode cX5_discriminant 17 = .ok (.bipush 7, 2) := by decide +kernel
theorem dX5_discriminant_19 : decode cX5_discriminant 19 = .ok (.if_icmp .eq 7, 3) := by decide +kernel
theorem dX5_discriminant_22 : decode cX5_discriminant 22 = .ok (.iconst 1, 1) := by decide +kernel
theorem dX5_discriminant_23 : decode cX5_discriminant 23 = .ok (.goto 15, 3) := by decide +kernel
theorem dX5_discriminant_26 : decode cX5_discriminant 26 = .ok (.aload_n 0, 1) := by decide +kernel
theorem dX5_discriminant_27 : decode cX5_discriminant 27 = .ok (.getfield 86, 3) := by decide +kernel
theorem dX5_discriminant_30 : decode cX5_discriminant 30 = .ok (.ifCond .eq 7, 3) := by decide +kernel
theorem dX5_discriminant_33 : decode cX5_discriminant 33 = .ok (.iconst 2, 1) := by decide +kernel
theorem dX5_discriminant_34 : decode cX5_discriminant 34 = .ok (.goto 4, 3) := by decide +kernel
theorem dX5_discriminant_37 : decode cX5_discriminant 37 = .ok (.iconst 0, 1) := by decide +kernel
theorem dX5_discriminant_38 : decode cX5_discriminant 38 = .ok (.putfield 27, 3) := by decide +kernel
theorem dX5_discriminant_41 : decode cX5_discriminant 41 = .ok (.aload_n 0, 1) := by decide +kernel
theorem dX5_discriminant_42 : decode cX5_discriminant 42 = .ok (.getfield 27, 3) := by decide +kernel
theorem dX5_discriminant_45 : decode cX5_discriminant 45 = .ok (.ifCond .le 4, 3) := by decide +kernel
theorem dX5_discriminant_48 : decode cX5_discriminant 48 = .ok (.return_, 1) := by decide +kernel
theorem dX5_discriminant_49 : decode cX5_discriminant 49 = .ok (.aload_n 0, 1) := by decide +kernel
theorem dX5_discriminant_50 : decode cX5_discriminant 50 = .ok (.iload_n 1, 1) := by decide +kernel
theorem dX5_discriminant_51 : decode cX5_discriminant 51 = .ok (.i2l, 1) := by decide +kernel
theorem dX5_discriminant_52 : decode cX5_discriminant 52 = .ok (.putfield 90, 3) := by decide +kernel
theorem dX5_discriminant_55 : decode cX5_discriminant 55 = .ok (.aload_n 0, 1) := by decide +kernel
theorem dX5_discriminant_56 : decode cX5_discriminant 56 = .ok (.iconst 0, 1) := by decide +kernel
theorem dX5_discriminant_57 : decode cX5_discriminant 57 = .ok (.putfield 94, 3) := by decide +kernel
theorem dX5_discriminant_60 : decode cX5_discriminant 60 = .ok (.iconst 0, 1) := by decide +kernel
theorem dX5_discriminant_61 : decode cX5_discriminant 61 = .ok (.istore_n 2, 1) := by decide +kernel
theorem dX5_discriminant_62 : decode cX5_discriminant 62 = .ok (.iload_n 2, 1) := by decide +kernel
theorem dX5_discriminant_63 : decode cX5_discriminant 63 = .ok (.iconst 3, 1) := by decide +kernel
theorem dX5_discriminant_64 : decode cX5_discriminant 64 = .ok (.if_icmp .ge 16, 3) := by decide +kernel
theorem dX5_discriminant_67 : decode cX5_discriminant 67 = .ok (.aload_n 0, 1) := by decide +kernel
theorem dX5_discriminant_68 : decode cX5_discriminant 68 = .ok (.getfield 19, 3) := by decide +kernel
theorem dX5_discriminant_71 : decode cX5_discriminant 71 = .ok (.iload_n 2, 1) := by decide +kernel
theorem dX5_discriminant_72 : decode cX5_discriminant 72 = .ok (.iconst 0, 1) := by decide +kernel
theorem dX5_discriminant_73 : decode cX5_discriminant 73 = .ok (.bastore, 1) := by decide +kernel
theorem dX5_discriminant_74 : decode cX5_discriminant 74 = .ok (.iinc 2 1, 3) := by decide +kernel
theorem dX5_discriminant_77 : decode cX5_discriminant 77 = .ok (.goto (-15), 3) := by decide +kernel
theorem dX5_discriminant_80 : decode cX5_discriminant 80 = .ok (.aload_n 0, 1) := by decide +kernel
theorem dX5_discriminant_81 : decode cX5_discriminant 81 = .ok (.bipush 54, 2) := by decide +kernel
theorem dX5_discriminant_83 : decode cX5_discriminant 83 = .ok (.lconst 1, 1) := by decide +kernel
theorem dX5_discriminant_84 : decode cX5_discriminant 84 = .ok (.lconst 1, 1) := by decide +kernel
theorem dX5_discriminant_85 : decode cX5_discriminant 85 = .ok (.lconst 1, 1) := by decide +kernel
theorem dX5_discriminant_86 : decode cX5_discriminant 86 = .ok (.aload_n 0, 1) := by decide +kernel
theorem dX5_discriminant_87 : decode cX5_discriminant 87 = .ok (.getfield 90, 3) := by decide +kernel
theorem dX5_discriminant_90 : decode cX5_discriminant 90 = .ok (.ladd, 1) := by decide +kernel
theorem dX5_discriminant_91 : decode cX5_discriminant 91 = .ok (.ldc2_w 97, 3) := by decide +kernel
theorem dX5_discriminant_94 : decode cX5_discriminant 94 = .ok (.ldiv, 1) := by decide +kernel
theorem dX5_discriminant_95 : decode cX5_discriminant 95 = .ok (.invokevirtual 35, 3) := by decide +kernel
theorem dX5_discriminant_98 : decode cX5_discriminant 98 = .ok (.aload_n 0, 1) := by decide +kernel
theorem dX5_discriminant_99 : decode cX5_discriminant 99 = .ok (.bipush 55, 2) := by decide +kernel
theorem dX5_discriminant_101 : decode cX5_discriminant 101 = .ok (.ldc2_w 43, 3) := by decide +kernel
theorem dX5_discriminant_104 : decode cX5_discriminant 104 = .ok (.lconst 1, 1) := by decide +kernel
theorem dX5_discriminant_105 : decode cX5_discriminant 105 = .ok (.lconst 1, 1) := by decide +kernel
theorem dX5_discriminant_106 : decode cX5_discriminant 106 = .ok (.aload_n 0, 1) := by decide +kernel
theorem dX5_discriminant_107 : decode cX5_discriminant 107 = .ok (.getfield 90, 3) := by decide +kernel
theorem dX5_discriminant_110 : decode cX5_discriminant 110 = .ok (.ladd, 1) := by decide +kernel
theorem dX5_discriminant_111 : decode cX5_discriminant 111 = .ok (.ldc2_w 99, 3) := by decide +kernel
theorem dX5_discriminant_114 : decode cX5_discriminant 114 = .ok (.ldiv, 1) := by decide +kernel
theorem dX5_discriminant_115 : decode cX5_discriminant 115 = .ok (.invokevirtual 35, 3) := by decide +kernel
theorem dX5_discriminant_118 : decode cX5_discriminant 118 = .ok (.aload_n 0, 1) := by decide +kernel
theorem dX5_discriminant_119 : decode cX5_discriminant 119 = .ok (.bipush 55, 2) := by decide +kernel
theorem dX5_discriminant_121 : decode cX5_discriminant 121 = .ok (.invokevirtual 58, 3) := by decide +kernel
theorem dX5_discriminant_124 : decode cX5_discriminant 124 = .ok (.return_, 1) := by decide +kernel
theorem dX5_isAny_0 : decode cX5_isAny 0 = .ok (.aload_n 0, 1) := by decide +kernel
theorem dX5_isAny_1 : decode cX5_isAny 1 = .ok (.getfield 90, 3) := by decide +kernel
theorem dX5_isAny_4 : decode cX5_isAny 4 = .ok (.lconst 0, 1) := by decide +kernel
theorem dX5_isAny_5 : decode cX5_isAny 5 = .ok (.lcmp, 1) := by decide +kernel
theorem dX5_isAny_6 : decode cX5_isAny 6 = .ok (.ifCond .le 7, 3) := by decide +kernel
theorem dX5_isAny_9 : decode cX5_isAny 9 = .ok (.iconst 1, 1) := by decide +kernel
theorem dX5_isAny_10 : decode cX5_isAny 10 = .ok (.goto 4, 3) := by decide +kernel
theorem dX5_isAny_13 : decode cX5_isAny 13 = .ok (.iconst 0, 1) := by decide +kernel
theorem dX5_isAny_14 : decode cX5_isAny 14 = .ok (.ireturn, 1) := by decide +kernel
theorem dX5_begin_0 : decode cX5_begin 0 = .ok (.aload_n 0, 1) := by decide +kernel
theorem dX5_begin_1 : decode cX5_begin 1 = .ok (.aload_n 0, 1) := by decide +kernel
theorem dX5_begin_2 : decode cX5_begin 2 = .ok (.invokevirtual 101, 3) := by decide +kernel
theorem dX5_begin_5 : decode cX5_begin 5 = .ok (.ifCond .ne 7, 3) := by decide +kernel
theorem dX5_begin_8 : decode cX5_begin 8 = .ok (.iconst 1, 1) := by decide +kernel
theorem dX5_begin_9 : decode cX5_begin 9 = .ok (.goto 40, 3) := by decide +kernel
theorem dX5_begin_12 : decode cX5_begin 12 = .ok (.iload_n 1, 1) := by decide +kernel
theorem dX5_begin_13 : decode cX5_begin 13 = .ok (.iconst 1, 1) := by decide +kernel
theorem dX5_begin_14 : decode cX5_begin 14 = .ok (.if_icmp .lt 10, 3) := by decide +kernel
theorem dX5_begin_17 : decode cX5_begin 17 = .ok (.iload_n 1, 1) := by decide +kernel
theorem dX5_begin_18 : decode cX5_begin 18 = .ok (.sipush 500, 3) := by decide +kernel
theorem dX5_begin_21 : decode cX5_begin 21 = .ok (.if_icmp .le 7, 3) := by decide +kernel
theorem dX5_begin_24 : decode cX5_begin 24 = .ok (.iconst 2, 1) := by decide +kernel
theorem dX5_begin_25 : decode cX5_begin 25 = .ok (.goto 24, 3) := by decide +kernel
theorem dX5_begin_28 : decode cX5_begin 28 = .ok (.aload_n 0, 1) := by decide +kernel
theorem dX5_begin_29 : decode cX5_begin 29 = .ok (.getfield 86, 3) := by decide +kernel
theorem dX5_begin_32 : decode cX5_begin 32 = .ok (.ifCond .ne 12, 3) := by decide +kernel
theorem dX5_begin_35 : decode cX5_begin 35 = .ok (.aload_n 0, 1) := by decide +kernel
theorem dX5_begin_36 : decode cX5_begin 36 = .ok (.getfield 94, 3) := by decide +kernel
theorem dX5_begin_39 : decode cX5_begin 39 = .ok (.bipush 16, 2) := by decide +kernel
theorem dX5_begin_41 : decode cX5_begin 41 = .ok (.if_icmp .ne 7, 3) := by decide +kernel
theorem dX5_begin_44 : decode cX5_begin 44 = .ok (.iconst 1, 1) := by decide +kernel
theorem dX5_begin_45 : decode cX5_begin 45 = .ok (.goto 4, 3) := by decide +kernel
theorem dX5_begin_48 : decode cX5_begin 48 = .ok (.iconst 0, 1) := by decide +kernel
theorem dX5_begin_49 : decode cX5_begin 49 = .ok (.putfield 27, 3) := by decide +kernel
theorem dX5_begin_52 : decode cX5_begin 52 = .ok (.aload_n 0, 1) := by decide +kernel
theorem dX5_begin_53 : decode cX5_begin 53 = .ok (.getfield 27, 3) := by decide +kernel
theorem dX5_begin_56 : decode cX5_begin 56 = .ok (.ifCond .le 5, 3) := by decide +kernel
theorem dX5_begin_59 : decode cX5_begin 59 = .ok (.iconst 0, 1) := by decide +kernel
theorem dX5_begin_60 : decode cX5_begin 60 = .ok (.ireturn, 1) := by decide +kernel
theorem dX5_begin_61 : decode cX5_begin 61 = .ok (.iconst 1, 1) := by decide +kernel
theorem dX5_begin_62 : decode cX5_begin 62 = .ok (.aload_n 0, 1) := by decide +kernel
theorem dX5_begin_63 : decode cX5_begin 63 = .ok (.getfield 90, 3) := by decide +kernel
theorem dX5_begin_66 : decode cX5_begin 66 = .ok (.l2i, 1) := by decide +kernel
theorem dX5_begin_67 : decode cX5_begin 67 = .ok (.invokestatic 74, 3) := by decide +kernel
theorem dX5_begin_70 : decode cX5_begin 70 = .ok (.aload_n 0, 1) := by decide +kernel
theorem dX5_begin_71 : decode cX5_begin 71 = .ok (.getfield 94, 3) := by decide +kernel
theorem dX5_begin_74 : decode cX5_begin 74 = .ok (.invokestatic 74, 3) := by decide +kernel
theorem dX5_begin_77 : decode cX5_begin 77 = .ok (.istore_n 2, 1) := by decide +kernel
theorem dX5_begin_78 : decode cX5_begin 78 = .ok (.aload_n 0, 1) := by decide +kernel
theorem dX5_begin_79 : decode cX5_begin 79 = .ok (.getfield 94, 3) := by decide +kernel
theorem dX5_begin_82 : decode cX5_begin 82 = .ok (.ifCond .le 22, 3) := by decide +kernel
theorem dX5_begin_85 : decode cX5_begin 85 = .ok (.aload_n 0, 1) := by decide +kernel
theorem dX5_begin_86 : decode cX5_begin 86 = .ok (.iload_n 2, 1) := by decide +kernel
theorem dX5_begin_87 : decode cX5_begin 87 = .ok (.bipush 6, 2) := by decide +kernel
theorem dX5_begin_89 : decode cX5_begin 89 = .ok (.iconst 3, 1) := by decide +kernel
theorem dX5_begin_90 : decode cX5_begin 90 = .ok (.aload_n 0, 1) := by decide +kernel
theorem dX5_begin_91 : decode cX5_begin 91 = .ok (.getfield 94, 3) := by decide +kernel
theorem dX5_begin_94 : decode cX5_begin 94 = .ok (.imul, 1) := by decide +kernel
theorem dX5_begin_95 : decode cX5_begin 95 = .ok (.iadd, 1) := by decide +kernel
theorem dX5_begin_96 : decode cX5_begin 96 = .ok (.iconst 2, 1) := by decide +kernel
theorem dX5_begin_97 : decode cX5_begin 97 = .ok (.isub, 1) := by decide +kernel
theorem dX5_begin_98 : decode cX5_begin 98 = .ok (.invokevirtual 78, 3) := by decide +kernel
theorem dX5_begin_101 : decode cX5_begin 101 = .ok (.goto 4, 3) := by decide +kernel
theorem dX5_begin_104 : decode cX5_begin 104 = .ok (.iload_n 2, 1) := by decide +kernel
theorem dX5_begin_105 : decode cX5_begin 105 = .ok (.istore_n 2, 1) := by decide +kernel
theorem dX5_begin_106 : decode cX5_begin 106 = .ok (.aload_n 0, 1) := by decide +kernel
theorem dX5_begin_107 : decode cX5_begin 107 = .ok (.getfield 23, 3) := by decide +kernel
theorem dX5_begin_110 : decode cX5_begin 110 = .ok (.bipush 48, 2) := by decide +kernel
theorem dX5_begin_112 : decode cX5_begin 112 = .ok (.iload_n 1, 1) := by decide +kernel
theorem dX5_begin_113 : decode cX5_begin 113 = .ok (.iastore, 1) := by decide +kernel
theorem dX5_begin_114 : decode cX5_begin 114 = .ok (.aload_n 0, 1) := by decide +kernel
theorem dX5_begin_115 : decode cX5_begin 115 = .ok (.getfield 23, 3) := by decide +kernel
theorem dX5_begin_118 : decode cX5_begin 118 = .ok (.bipush 49, 2) := by decide +kernel
theorem dX5_begin_120 : decode cX5_begin 120 = .ok (.iconst 1, 1) := by decide +kernel
theorem dX5_begin_121 : decode cX5_begin 121 = .ok (.iload_n 2, 1) := by decide +kernel
theorem dX5_begin_122 : decode cX5_begin 122 = .ok (.ldc 81, 2) := by decide +kernel
theorem dX5_begin_124 : decode cX5_begin 124 = .ok (.iand, 1) := by decide +kernel
theorem dX5_begin_125 : decode cX5_begin 125 = .ok (.iadd, 1) := by decide +kernel
theorem dX5_begin_126 : decode cX5_begin 126 = .ok (.iastore, 1) := by decide +kernel
theorem dX5_begin_127 : decode cX5_begin 127 = .ok (.aload_n 0, 1) := by decide +kernel
theorem dX5_begin_128 : decode cX5_begin 128 = .ok (.getfield 23, 3) := by decide +kernel
theorem dX5_begin_131 : decode cX5_begin 131 = .ok (.bipush 50, 2) := by decide +kernel
theorem dX5_begin_133 : decode cX5_begin 133 = .ok (.iconst 0, 1) := by decide +kernel
theorem dX5_begin_134 : decode cX5_begin 134 = .ok (.iastore, 1) := by decide +kernel
theorem dX5_begin_135 : decode cX5_begin 135 = .ok (.aload_n 0, 1) := by decide +kernel
theorem dX5_begin_136 : decode cX5_begin 136 = .ok (.bipush 55, 2) := by decide +kernel
theorem dX5_begin_138 : decode cX5_begin 138 = .ok (.aload_n 0, 1) := by decide +kernel
theorem dX5_begin_139 : decode cX5_begin 139 = .ok (.getfield 23, 3) := by decide +kernel
theorem dX5_begin_142 : decode cX5_begin 142 = .ok (.bipush 49, 2) := by decide +kernel
theorem dX5_begin_144 : decode cX5_begin 144 = .ok (.iaload, 1) := by decide +kernel
theorem dX5_begin_145 : decode cX5_begin 145 = .ok (.iconst 3, 1) := by decide +kernel
theorem dX5_begin_146 : decode cX5_begin 146 = .ok (.invokevirtual 105, 3) := by decide +kernel
theorem dX5_begin_149 : decode cX5_begin 149 = .ok (.aload_n 0, 1) := by decide +kernel
theorem dX5_begin_150 : decode cX5_begin 150 = .ok (.iconst 3, 1) := by decide +kernel
theorem dX5_begin_151 : decode cX5_begin 151 = .ok (.iconst 4, 1) := by decide +kernel
theorem dX5_begin_152 : decode cX5_begin 152 = .ok (.invokevirtual 62, 3) := by decide +kernel
theorem dX5_begin_155 : decode cX5_begin 155 = .ok (.aload_n 0, 1) := by decide +kernel
theorem dX5_begin_156 : decode cX5_begin 156 = .ok (.bipush 54, 2) := by decide +kernel
theorem dX5_begin_158 : decode cX5_begin 158 = .ok (.iconst 5, 1) := by decide +kernel
theorem dX5_begin_159 : decode cX5_begin 159 = .ok (.invokevirtual 62, 3) := by decide +kernel
theorem dX5_begin_162 : decode cX5_begin 162 = .ok (.aload_n 0, 1) := by decide +kernel
theorem dX5_begin_163 : decode cX5_begin 163 = .ok (.iconst 1, 1) := by decide +kernel
theorem dX5_begin_164 : decode cX5_begin 164 = .ok (.putfield 86, 3) := by decide +kernel
theorem dX5_begin_167 : decode cX5_begin 167 = .ok (.aload_n 0, 1) := by decide +kernel
theorem dX5_begin_168 : decode cX5_begin 168 = .ok (.iload_n 1, 1) := by decide +kernel
theorem dX5_begin_169 : decode cX5_begin 169 = .ok (.putfield 108, 3) := by decide +kernel
theorem dX5_begin_172 : decode cX5_begin 172 = .ok (.aload_n 0, 1) := by decide +kernel
theorem dX5_begin_173 : decode cX5_begin 173 = .ok (.iload_n 1, 1) := by decide +kernel
theorem dX5_begin_174 : decode cX5_begin 174 = .ok (.putfield 111, 3) := by decide +kernel
theorem dX5_begin_177 : decode cX5_begin 177 = .ok (.aload_n 0, 1) := by decide +kernel
theorem dX5_begin_178 : decode cX5_begin 178 = .ok (.iconst 1, 1) := by decide +kernel
theorem dX5_begin_179 : decode cX5_begin 179 = .ok (.putfield 114, 3) := by decide +kernel
theorem dX5_begin_182 : decode cX5_begin 182 = .ok (.aload_n 0, 1) := by decide +kernel
theorem dX5_begin_183 : decode cX5_begin 183 = .ok (.getfield 23, 3) := by decide +kernel
theorem dX5_begin_186 : decode cX5_begin 186 = .ok (.bipush 49, 2) := by decide +kernel
theorem dX5_begin_188 : decode cX5_begin 188 = .ok (.iaload, 1) := by decide +kernel
theorem dX5_begin_189 : decode cX5_begin 189 = .ok (.ireturn, 1) := by decide +kernel
theorem dX5_isMany_0 : decode cX5_isMany 0 = .ok (.iload_n 0, 1) := by decide +kernel
theorem dX5_isMany_1 : decode cX5_isMany 1 = .ok (.ifCond .le 14, 3) := by decide +kernel
theorem dX5_isMany_4 : decode cX5_isMany 4 = .ok (.iload_n 0, 1) := by decide +kernel
theorem dX5_isMany_5 : decode cX5_isMany 5 = .ok (.sipush 501, 3) := by decide +kernel
theorem dX5_isMany_8 : decode cX5_isMany 8 = .ok (.if_icmp .ge 7, 3) := by decide +kernel
theorem dX5_isMany_11 : decode cX5_isMany 11 = .ok (.iconst 1, 1) := by decide +kernel
theorem dX5_isMany_12 : decode cX5_isMany 12 = .ok (.goto 4, 3) := by decide +kernel
theorem dX5_isMany_15 : decode cX5_isMany 15 = .ok (.iconst 0, 1) := by decide +kernel
theorem dX5_isMany_16 : decode cX5_isMany 16 = .ok (.ireturn, 1) := by decide +kernel
theorem dX5_work_0 : decode cX5_work 0 = .ok (.aload_n 0, 1) := by decide +kernel
theorem dX5_work_1 : decode cX5_work 1 = .ok (.aload_n 0, 1) := by decide +kernel
theorem dX5_work_2 : decode cX5_work 2 = .ok (.invokevirtual 101, 3) := by decide +kernel
theorem dX5_work_5 : decode cX5_work 5 = .ok (.ifCond .ne 7, 3) := by decide +kernel
theorem dX5_work_8 : decode cX5_work 8 = .ok (.iconst 1, 1) := by decide +kernel
theorem dX5_work_9 : decode cX5_work 9 = .ok (.goto 33, 3) := by decide +kernel
theorem dX5_work_12 : decode cX5_work 12 = .ok (.iload_n 1, 1) := by decide +kernel
theorem dX5_work_13 : decode cX5_work 13 = .ok (.invokestatic 117, 3) := by decide +kernel
theorem dX5_work_16 : decode cX5_work 16 = .ok (.ifCond .ne 7, 3) := by decide +kernel
theorem dX5_work_19 : decode cX5_work 19 = .ok (.iconst 2, 1) := by decide +kernel
theorem dX5_work_20 : decode cX5_work 20 = .ok (.goto 22, 3) := by decide +kernel
theorem dX5_work_23 : decode cX5_work 23 = .ok (.aload_n 0, 1) := by decide +kernel
theorem dX5_work_24 : decode cX5_work 24 = .ok (.getfield 86, 3) := by decide +kernel
theorem dX5_work_27 : decode cX5_work 27 = .ok (.ifCond .eq 10, 3) := by decide +kernel
theorem dX5_work_30 : decode cX5_work 30 = .ok (.aload_n 0, 1) := by decide +kernel
theorem dX5_work_31 : decode cX5_work 31 = .ok (.getfield 108, 3) := by decide +kernel
theorem dX5_work_34 : decode cX5_work 34 = .ok (.ifCond .ne 7, 3) := by decide +kernel
theorem dX5_work_37 : decode cX5_work 37 = .ok (.iconst 1, 1) := by decide +kernel
theorem dX5_work_38 : decode cX5_work 38 = .ok (.goto 4, 3) := by decide +kernel
theorem dX5_work_41 : decode cX5_work 41 = .ok (.iconst 0, 1) := by decide +kernel
theorem dX5_work_42 : decode cX5_work 42 = .ok (.putfield 27, 3) := by decide +kernel
theorem dX5_work_45 : decode cX5_work 45 = .ok (.aload_n 0, 1) := by decide +kernel
theorem dX5_work_46 : decode cX5_work 46 = .ok (.getfield 27, 3) := by decide +kernel
theorem dX5_work_49 : decode cX5_work 49 = .ok (.ifCond .le 5, 3) := by decide +kernel
theorem dX5_work_52 : decode cX5_work 52 = .ok (.iconst 0, 1) := by decide +kernel
theorem dX5_work_53 : decode cX5_work 53 = .ok (.ireturn, 1) := by decide +kernel
theorem dX5_work_54 : decode cX5_work 54 = .ok (.iconst 0, 1) := by decide +kernel
theorem dX5_work_55 : decode cX5_work 55 = .ok (.istore_n 2, 1) := by decide +kernel
theorem dX5_work_56 : decode cX5_work 56 = .ok (.iload_n 2, 1) := by decide +kernel
theorem dX5_work_57 : decode cX5_work 57 = .ok (.iload_n 1, 1) := by decide +kernel
theorem dX5_work_58 : decode cX5_work 58 = .ok (.if_icmp .ge 33, 3) := by decide +kernel
theorem dX5_work_61 : decode cX5_work 61 = .ok (.aload_n 0, 1) := by decide +kernel
theorem dX5_work_62 : decode cX5_work 62 = .ok (.getfield 108, 3) := by decide +kernel
theorem dX5_work_65 : decode cX5_work 65 = .ok (.ifCond .le 26, 3) := by decide +kernel
theorem dX5_work_68 : decode cX5_work 68 = .ok (.aload_n 0, 1) := by decide +kernel
theorem dX5_work_69 : decode cX5_work 69 = .ok (.iconst 4, 1) := by decide +kernel
theorem dX5_work_70 : decode cX5_work 70 = .ok (.iconst 4, 1) := by decide +kernel
theorem dX5_work_71 : decode cX5_work 71 = .ok (.iconst 4, 1) := by decide +kernel
theorem dX5_work_72 : decode cX5_work 72 = .ok (.invokevirtual 69, 3) := by decide +kernel
theorem dX5_work_75 : decode cX5_work 75 = .ok (.aload_n 0, 1) := by decide +kernel
theorem dX5_work_76 : decode cX5_work 76 = .ok (.dup, 1) := by decide +kernel
theorem dX5_work_77 : decode cX5_work 77 = .ok (.getfield 108, 3) := by decide +kernel
theorem dX5_work_80 : decode cX5_work 80 = .ok (.iconst 1, 1) := by decide +kernel
theorem dX5_work_81 : decode cX5_work 81 = .ok (.isub, 1) := by decide +kernel
theorem dX5_work_82 : decode cX5_work 82 = .ok (.putfield 108, 3) := by decide +kernel
theorem dX5_work_85 : decode cX5_work 85 = .ok (.iinc 2 1, 3) := by decide +kernel
theorem dX5_work_88 : decode cX5_work 88 = .ok (.goto (-32), 3) := by decide +kernel
theorem dX5_work_91 : decode cX5_work 91 = .ok (.aload_n 0, 1) := by decide +kernel
theorem dX5_work_92 : decode cX5_work 92 = .ok (.getfield 108, 3) := by decide +kernel
theorem dX5_work_95 : decode cX5_work 95 = .ok (.ifCond .ne 23, 3) := by decide +kernel
theorem dX5_work_98 : decode cX5_work 98 = .ok (.aload_n 0, 1) := by decide +kernel
theorem dX5_work_99 : decode cX5_work 99 = .ok (.getfield 23, 3) := by decide +kernel
theorem dX5_work_102 : decode cX5_work 102 = .ok (.bipush 50, 2) := by decide +kernel
theorem dX5_work_104 : decode cX5_work 104 = .ok (.aload_n 0, 1) := by decide +kernel
theorem dX5_work_105 : decode cX5_work 105 = .ok (.iconst 3, 1) := by decide +kernel
theorem dX5_work_106 : decode cX5_work 106 = .ok (.iconst 4, 1) := by decide +kernel
theorem dX5_work_107 : decode cX5_work 107 = .ok (.aload_n 0, 1) := by decide +kernel
theorem dX5_work_108 : decode cX5_work 108 = .ok (.getfield 23, 3) := by decide +kernel
theorem dX5_work_111 : decode cX5_work 111 = .ok (.bipush 48, 2) := by decide +kernel
theorem dX5_work_113 : decode cX5_work 113 = .ok (.iaload, 1) := by decide +kernel
theorem dX5_work_114 : decode cX5_work 114 = .ok (.invokevirtual 120, 3) := by decide +kernel
theorem dX5_work_117 : decode cX5_work 117 = .ok (.iastore, 1) := by decide +kernel
theorem dX5_work_118 : decode cX5_work 118 = .ok (.aload_n 0, 1) := by decide +kernel
theorem dX5_work_119 : decode cX5_work 119 = .ok (.getfield 108, 3) := by decide +kernel
theorem dX5_work_122 : decode cX5_work 122 = .ok (.ireturn, 1) := by decide +kernel
theorem dX5_prove_0 : decode cX5_prove 0 = .ok (.aload_n 0, 1) := by decide +kernel
theorem dX5_prove_1 : decode cX5_prove 1 = .ok (.aload_n 0, 1) := by decide +kernel
theorem dX5_prove_2 : decode cX5_prove 2 = .ok (.invokevirtual 101, 3) := by decide +kernel
theorem dX5_prove_5 : decode cX5_prove 5 = .ok (.ifCond .ne 7, 3) := by decide +kernel
theorem dX5_prove_8 : decode cX5_prove 8 = .ok (.iconst 1, 1) := by decide +kernel
theorem dX5_prove_9 : decode cX5_prove 9 = .ok (.goto 40, 3) := by decide +kernel
theorem dX5_prove_12 : decode cX5_prove 12 = .ok (.iload_n 1, 1) := by decide +kernel
theorem dX5_prove_13 : decode cX5_prove 13 = .ok (.invokestatic 117, 3) := by decide +kernel
theorem dX5_prove_16 : decode cX5_prove 16 = .ok (.ifCond .ne 7, 3) := by decide +kernel
theorem dX5_prove_19 : decode cX5_prove 19 = .ok (.iconst 2, 1) := by decide +kernel
theorem dX5_prove_20 : decode cX5_prove 20 = .ok (.goto 29, 3) := by decide +kernel
theorem dX5_prove_23 : decode cX5_prove 23 = .ok (.aload_n 0, 1) := by decide +kernel
theorem dX5_prove_24 : decode cX5_prove 24 = .ok (.getfield 86, 3) := by decide +kernel
theorem dX5_prove_27 : decode cX5_prove 27 = .ok (.ifCond .eq 17, 3) := by decide +kernel
theorem dX5_prove_30 : decode cX5_prove 30 = .ok (.aload_n 0, 1) := by decide +kernel
theorem dX5_prove_31 : decode cX5_prove 31 = .ok (.getfield 108, 3) := by decide +kernel
theorem dX5_prove_34 : decode cX5_prove 34 = .ok (.ifCond .gt 10, 3) := by decide +kernel
theorem dX5_prove_37 : decode cX5_prove 37 = .ok (.aload_n 0, 1) := by decide +kernel
theorem dX5_prove_38 : decode cX5_prove 38 = .ok (.getfield 111, 3) := by decide +kernel
theorem dX5_prove_41 : decode cX5_prove 41 = .ok (.ifCond .ne 7, 3) := by decide +kernel
theorem dX5_prove_44 : decode cX5_prove 44 = .ok (.iconst 1, 1) := by decide +kernel
theorem dX5_prove_45 : decode cX5_prove 45 = .ok (.goto 4, 3) := by decide +kernel
theorem dX5_prove_48 : decode cX5_prove 48 = .ok (.iconst 0, 1) := by decide +kernel
theorem dX5_prove_49 : decode cX5_prove 49 = .ok (.putfield 27, 3) := by decide +kernel
theorem dX5_prove_52 : decode cX5_prove 52 = .ok (.aload_n 0, 1) := by decide +kernel
theorem dX5_prove_53 : decode cX5_prove 53 = .ok (.getfield 27, 3) := by decide +kernel
theorem dX5_prove_56 : decode cX5_prove 56 = .ok (.ifCond .le 5, 3) := by decide +kernel
theorem dX5_prove_59 : decode cX5_prove 59 = .ok (.iconst 0, 1) := by decide +kernel
theorem dX5_prove_60 : decode cX5_prove 60 = .ok (.ireturn, 1) := by decide +kernel
theorem dX5_prove_61 : decode cX5_prove 61 = .ok (.iconst 0, 1) := by decide +kernel
theorem dX5_prove_62 : decode cX5_prove 62 = .ok (.istore_n 2, 1) := by decide +kernel
theorem dX5_prove_63 : decode cX5_prove 63 = .ok (.iload_n 2, 1) := by decide +kernel
theorem dX5_prove_64 : decode cX5_prove 64 = .ok (.iload_n 1, 1) := by decide +kernel
theorem dX5_prove_65 : decode cX5_prove 65 = .ok (.if_icmp .ge 80, 3) := by decide +kernel
theorem dX5_prove_68 : decode cX5_prove 68 = .ok (.aload_n 0, 1) := by decide +kernel
theorem dX5_prove_69 : decode cX5_prove 69 = .ok (.getfield 111, 3) := by decide +kernel
theorem dX5_prove_72 : decode cX5_prove 72 = .ok (.ifCond .le 73, 3) := by decide +kernel
theorem dX5_prove_75 : decode cX5_prove 75 = .ok (.aload_n 0, 1) := by decide +kernel
theorem dX5_prove_76 : decode cX5_prove 76 = .ok (.iconst 5, 1) := by decide +kernel
theorem dX5_prove_77 : decode cX5_prove 77 = .ok (.iconst 5, 1) := by decide +kernel
theorem dX5_prove_78 : decode cX5_prove 78 = .ok (.iconst 5, 1) := by decide +kernel
theorem dX5_prove_79 : decode cX5_prove 79 = .ok (.invokevirtual 69, 3) := by decide +kernel
theorem dX5_prove_82 : decode cX5_prove 82 = .ok (.aload_n 0, 1) := by decide +kernel
