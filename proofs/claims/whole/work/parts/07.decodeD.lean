theorem dX5_prove_83 : decode cX5_prove 83 = .ok (.iconst 2, 1) := by decide +kernel
theorem dX5_prove_84 : decode cX5_prove 84 = .ok (.aload_n 0, 1) := by decide +kernel
theorem dX5_prove_85 : decode cX5_prove 85 = .ok (.getfield 114, 3) := by decide +kernel
theorem dX5_prove_88 : decode cX5_prove 88 = .ok (.imul, 1) := by decide +kernel
theorem dX5_prove_89 : decode cX5_prove 89 = .ok (.putfield 114, 3) := by decide +kernel
theorem dX5_prove_92 : decode cX5_prove 92 = .ok (.aload_n 0, 1) := by decide +kernel
theorem dX5_prove_93 : decode cX5_prove 93 = .ok (.getfield 114, 3) := by decide +kernel
theorem dX5_prove_96 : decode cX5_prove 96 = .ok (.aload_n 0, 1) := by decide +kernel
theorem dX5_prove_97 : decode cX5_prove 97 = .ok (.getfield 23, 3) := by decide +kernel
theorem dX5_prove_100 : decode cX5_prove 100 = .ok (.bipush 50, 2) := by decide +kernel
theorem dX5_prove_102 : decode cX5_prove 102 = .ok (.iaload, 1) := by decide +kernel
theorem dX5_prove_103 : decode cX5_prove 103 = .ok (.if_icmp .lt 26, 3) := by decide +kernel
theorem dX5_prove_106 : decode cX5_prove 106 = .ok (.aload_n 0, 1) := by decide +kernel
theorem dX5_prove_107 : decode cX5_prove 107 = .ok (.aload_n 0, 1) := by decide +kernel
theorem dX5_prove_108 : decode cX5_prove 108 = .ok (.getfield 114, 3) := by decide +kernel
theorem dX5_prove_111 : decode cX5_prove 111 = .ok (.aload_n 0, 1) := by decide +kernel
theorem dX5_prove_112 : decode cX5_prove 112 = .ok (.getfield 23, 3) := by decide +kernel
theorem dX5_prove_115 : decode cX5_prove 115 = .ok (.bipush 50, 2) := by decide +kernel
theorem dX5_prove_117 : decode cX5_prove 117 = .ok (.iaload, 1) := by decide +kernel
theorem dX5_prove_118 : decode cX5_prove 118 = .ok (.isub, 1) := by decide +kernel
theorem dX5_prove_119 : decode cX5_prove 119 = .ok (.putfield 114, 3) := by decide +kernel
theorem dX5_prove_122 : decode cX5_prove 122 = .ok (.aload_n 0, 1) := by decide +kernel
theorem dX5_prove_123 : decode cX5_prove 123 = .ok (.iconst 5, 1) := by decide +kernel
theorem dX5_prove_124 : decode cX5_prove 124 = .ok (.iconst 3, 1) := by decide +kernel
theorem dX5_prove_125 : decode cX5_prove 125 = .ok (.iconst 5, 1) := by decide +kernel
theorem dX5_prove_126 : decode cX5_prove 126 = .ok (.invokevirtual 69, 3) := by decide +kernel
theorem dX5_prove_129 : decode cX5_prove 129 = .ok (.aload_n 0, 1) := by decide +kernel
theorem dX5_prove_130 : decode cX5_prove 130 = .ok (.dup, 1) := by decide +kernel
theorem dX5_prove_131 : decode cX5_prove 131 = .ok (.getfield 111, 3) := by decide +kernel
theorem dX5_prove_134 : decode cX5_prove 134 = .ok (.iconst 1, 1) := by decide +kernel
theorem dX5_prove_135 : decode cX5_prove 135 = .ok (.isub, 1) := by decide +kernel
theorem dX5_prove_136 : decode cX5_prove 136 = .ok (.putfield 111, 3) := by decide +kernel
theorem dX5_prove_139 : decode cX5_prove 139 = .ok (.iinc 2 1, 3) := by decide +kernel
theorem dX5_prove_142 : decode cX5_prove 142 = .ok (.goto (-79), 3) := by decide +kernel
theorem dX5_prove_145 : decode cX5_prove 145 = .ok (.aload_n 0, 1) := by decide +kernel
theorem dX5_prove_146 : decode cX5_prove 146 = .ok (.getfield 111, 3) := by decide +kernel
theorem dX5_prove_149 : decode cX5_prove 149 = .ok (.ireturn, 1) := by decide +kernel
theorem dX5_publish_0 : decode cX5_publish 0 = .ok (.aload_n 0, 1) := by decide +kernel
theorem dX5_publish_1 : decode cX5_publish 1 = .ok (.aload_n 0, 1) := by decide +kernel
theorem dX5_publish_2 : decode cX5_publish 2 = .ok (.invokevirtual 101, 3) := by decide +kernel
theorem dX5_publish_5 : decode cX5_publish 5 = .ok (.ifCond .eq 24, 3) := by decide +kernel
theorem dX5_publish_8 : decode cX5_publish 8 = .ok (.aload_n 0, 1) := by decide +kernel
theorem dX5_publish_9 : decode cX5_publish 9 = .ok (.getfield 86, 3) := by decide +kernel
theorem dX5_publish_12 : decode cX5_publish 12 = .ok (.ifCond .eq 17, 3) := by decide +kernel
theorem dX5_publish_15 : decode cX5_publish 15 = .ok (.aload_n 0, 1) := by decide +kernel
theorem dX5_publish_16 : decode cX5_publish 16 = .ok (.getfield 108, 3) := by decide +kernel
theorem dX5_publish_19 : decode cX5_publish 19 = .ok (.ifCond .gt 10, 3) := by decide +kernel
theorem dX5_publish_22 : decode cX5_publish 22 = .ok (.aload_n 0, 1) := by decide +kernel
theorem dX5_publish_23 : decode cX5_publish 23 = .ok (.getfield 111, 3) := by decide +kernel
theorem dX5_publish_26 : decode cX5_publish 26 = .ok (.ifCond .le 7, 3) := by decide +kernel
theorem dX5_publish_29 : decode cX5_publish 29 = .ok (.iconst 1, 1) := by decide +kernel
theorem dX5_publish_30 : decode cX5_publish 30 = .ok (.goto 4, 3) := by decide +kernel
theorem dX5_publish_33 : decode cX5_publish 33 = .ok (.iconst 0, 1) := by decide +kernel
theorem dX5_publish_34 : decode cX5_publish 34 = .ok (.putfield 27, 3) := by decide +kernel
theorem dX5_publish_37 : decode cX5_publish 37 = .ok (.aload_n 0, 1) := by decide +kernel
theorem dX5_publish_38 : decode cX5_publish 38 = .ok (.getfield 27, 3) := by decide +kernel
theorem dX5_publish_41 : decode cX5_publish 41 = .ok (.ifCond .le 5, 3) := by decide +kernel
theorem dX5_publish_44 : decode cX5_publish 44 = .ok (.iconst 0, 1) := by decide +kernel
theorem dX5_publish_45 : decode cX5_publish 45 = .ok (.ireturn, 1) := by decide +kernel
theorem dX5_publish_46 : decode cX5_publish 46 = .ok (.iconst 0, 1) := by decide +kernel
theorem dX5_publish_47 : decode cX5_publish 47 = .ok (.istore_n 1, 1) := by decide +kernel
theorem dX5_publish_48 : decode cX5_publish 48 = .ok (.iload_n 1, 1) := by decide +kernel
theorem dX5_publish_49 : decode cX5_publish 49 = .ok (.iconst 3, 1) := by decide +kernel
theorem dX5_publish_50 : decode cX5_publish 50 = .ok (.if_icmp .ge 49, 3) := by decide +kernel
theorem dX5_publish_53 : decode cX5_publish 53 = .ok (.aload_n 0, 1) := by decide +kernel
theorem dX5_publish_54 : decode cX5_publish 54 = .ok (.iconst 3, 1) := by decide +kernel
theorem dX5_publish_55 : decode cX5_publish 55 = .ok (.iload_n 1, 1) := by decide +kernel
theorem dX5_publish_56 : decode cX5_publish 56 = .ok (.iadd, 1) := by decide +kernel
theorem dX5_publish_57 : decode cX5_publish 57 = .ok (.bipush 6, 2) := by decide +kernel
theorem dX5_publish_59 : decode cX5_publish 59 = .ok (.iconst 3, 1) := by decide +kernel
theorem dX5_publish_60 : decode cX5_publish 60 = .ok (.aload_n 0, 1) := by decide +kernel
theorem dX5_publish_61 : decode cX5_publish 61 = .ok (.getfield 94, 3) := by decide +kernel
theorem dX5_publish_64 : decode cX5_publish 64 = .ok (.imul, 1) := by decide +kernel
theorem dX5_publish_65 : decode cX5_publish 65 = .ok (.iadd, 1) := by decide +kernel
theorem dX5_publish_66 : decode cX5_publish 66 = .ok (.iload_n 1, 1) := by decide +kernel
theorem dX5_publish_67 : decode cX5_publish 67 = .ok (.iadd, 1) := by decide +kernel
theorem dX5_publish_68 : decode cX5_publish 68 = .ok (.invokevirtual 62, 3) := by decide +kernel
theorem dX5_publish_71 : decode cX5_publish 71 = .ok (.aload_n 0, 1) := by decide +kernel
theorem dX5_publish_72 : decode cX5_publish 72 = .ok (.getfield 23, 3) := by decide +kernel
theorem dX5_publish_75 : decode cX5_publish 75 = .ok (.iconst 3, 1) := by decide +kernel
theorem dX5_publish_76 : decode cX5_publish 76 = .ok (.aload_n 0, 1) := by decide +kernel
theorem dX5_publish_77 : decode cX5_publish 77 = .ok (.getfield 94, 3) := by decide +kernel
theorem dX5_publish_80 : decode cX5_publish 80 = .ok (.imul, 1) := by decide +kernel
theorem dX5_publish_81 : decode cX5_publish 81 = .ok (.iload_n 1, 1) := by decide +kernel
theorem dX5_publish_82 : decode cX5_publish 82 = .ok (.iadd, 1) := by decide +kernel
theorem dX5_publish_83 : decode cX5_publish 83 = .ok (.aload_n 0, 1) := by decide +kernel
theorem dX5_publish_84 : decode cX5_publish 84 = .ok (.getfield 23, 3) := by decide +kernel
theorem dX5_publish_87 : decode cX5_publish 87 = .ok (.bipush 48, 2) := by decide +kernel
theorem dX5_publish_89 : decode cX5_publish 89 = .ok (.iload_n 1, 1) := by decide +kernel
theorem dX5_publish_90 : decode cX5_publish 90 = .ok (.iadd, 1) := by decide +kernel
theorem dX5_publish_91 : decode cX5_publish 91 = .ok (.iaload, 1) := by decide +kernel
theorem dX5_publish_92 : decode cX5_publish 92 = .ok (.iastore, 1) := by decide +kernel
theorem dX5_publish_93 : decode cX5_publish 93 = .ok (.iinc 1 1, 3) := by decide +kernel
theorem dX5_publish_96 : decode cX5_publish 96 = .ok (.goto (-48), 3) := by decide +kernel
theorem dX5_publish_99 : decode cX5_publish 99 = .ok (.aload_n 0, 1) := by decide +kernel
theorem dX5_publish_100 : decode cX5_publish 100 = .ok (.dup, 1) := by decide +kernel
theorem dX5_publish_101 : decode cX5_publish 101 = .ok (.getfield 94, 3) := by decide +kernel
theorem dX5_publish_104 : decode cX5_publish 104 = .ok (.iconst 1, 1) := by decide +kernel
theorem dX5_publish_105 : decode cX5_publish 105 = .ok (.iadd, 1) := by decide +kernel
theorem dX5_publish_106 : decode cX5_publish 106 = .ok (.putfield 94, 3) := by decide +kernel
theorem dX5_publish_109 : decode cX5_publish 109 = .ok (.aload_n 0, 1) := by decide +kernel
theorem dX5_publish_110 : decode cX5_publish 110 = .ok (.iconst 0, 1) := by decide +kernel
theorem dX5_publish_111 : decode cX5_publish 111 = .ok (.putfield 86, 3) := by decide +kernel
theorem dX5_publish_114 : decode cX5_publish 114 = .ok (.aload_n 0, 1) := by decide +kernel
theorem dX5_publish_115 : decode cX5_publish 115 = .ok (.getfield 94, 3) := by decide +kernel
theorem dX5_publish_118 : decode cX5_publish 118 = .ok (.ireturn, 1) := by decide +kernel
theorem dX5_drop_0 : decode cX5_drop 0 = .ok (.aload_n 0, 1) := by decide +kernel
theorem dX5_drop_1 : decode cX5_drop 1 = .ok (.iconst 0, 1) := by decide +kernel
theorem dX5_drop_2 : decode cX5_drop 2 = .ok (.putfield 27, 3) := by decide +kernel
theorem dX5_drop_5 : decode cX5_drop 5 = .ok (.aload_n 0, 1) := by decide +kernel
theorem dX5_drop_6 : decode cX5_drop 6 = .ok (.getfield 86, 3) := by decide +kernel
theorem dX5_drop_9 : decode cX5_drop 9 = .ok (.istore_n 1, 1) := by decide +kernel
theorem dX5_drop_10 : decode cX5_drop 10 = .ok (.aload_n 0, 1) := by decide +kernel
theorem dX5_drop_11 : decode cX5_drop 11 = .ok (.iconst 0, 1) := by decide +kernel
theorem dX5_drop_12 : decode cX5_drop 12 = .ok (.putfield 86, 3) := by decide +kernel
theorem dX5_drop_15 : decode cX5_drop 15 = .ok (.iload_n 1, 1) := by decide +kernel
theorem dX5_drop_16 : decode cX5_drop 16 = .ok (.ireturn, 1) := by decide +kernel
theorem dX5_rounds_0 : decode cX5_rounds 0 = .ok (.aload_n 0, 1) := by decide +kernel
theorem dX5_rounds_1 : decode cX5_rounds 1 = .ok (.iconst 0, 1) := by decide +kernel
theorem dX5_rounds_2 : decode cX5_rounds 2 = .ok (.putfield 27, 3) := by decide +kernel
theorem dX5_rounds_5 : decode cX5_rounds 5 = .ok (.aload_n 0, 1) := by decide +kernel
theorem dX5_rounds_6 : decode cX5_rounds 6 = .ok (.getfield 94, 3) := by decide +kernel
theorem dX5_rounds_9 : decode cX5_rounds 9 = .ok (.ireturn, 1) := by decide +kernel
theorem dX5_place_0 : decode cX5_place 0 = .ok (.iload_n 1, 1) := by decide +kernel
theorem dX5_place_1 : decode cX5_place 1 = .ok (.iconst (-1), 1) := by decide +kernel
theorem dX5_place_2 : decode cX5_place 2 = .ok (.if_icmp .ne 16, 3) := by decide +kernel
theorem dX5_place_5 : decode cX5_place 5 = .ok (.aload_n 0, 1) := by decide +kernel
theorem dX5_place_6 : decode cX5_place 6 = .ok (.getfield 86, 3) := by decide +kernel
theorem dX5_place_9 : decode cX5_place 9 = .ok (.ifCond .eq 7, 3) := by decide +kernel
theorem dX5_place_12 : decode cX5_place 12 = .ok (.iconst 3, 1) := by decide +kernel
theorem dX5_place_13 : decode cX5_place 13 = .ok (.goto 4, 3) := by decide +kernel
theorem dX5_place_16 : decode cX5_place 16 = .ok (.iconst (-1), 1) := by decide +kernel
theorem dX5_place_17 : decode cX5_place 17 = .ok (.ireturn, 1) := by decide +kernel
theorem dX5_place_18 : decode cX5_place 18 = .ok (.iload_n 1, 1) := by decide +kernel
theorem dX5_place_19 : decode cX5_place 19 = .ok (.ifCond .lt 20, 3) := by decide +kernel
theorem dX5_place_22 : decode cX5_place 22 = .ok (.iload_n 1, 1) := by decide +kernel
theorem dX5_place_23 : decode cX5_place 23 = .ok (.aload_n 0, 1) := by decide +kernel
theorem dX5_place_24 : decode cX5_place 24 = .ok (.getfield 94, 3) := by decide +kernel
theorem dX5_place_27 : decode cX5_place 27 = .ok (.if_icmp .ge 12, 3) := by decide +kernel
theorem dX5_place_30 : decode cX5_place 30 = .ok (.bipush 6, 2) := by decide +kernel
theorem dX5_place_32 : decode cX5_place 32 = .ok (.iconst 3, 1) := by decide +kernel
theorem dX5_place_33 : decode cX5_place 33 = .ok (.iload_n 1, 1) := by decide +kernel
theorem dX5_place_34 : decode cX5_place 34 = .ok (.imul, 1) := by decide +kernel
theorem dX5_place_35 : decode cX5_place 35 = .ok (.iadd, 1) := by decide +kernel
theorem dX5_place_36 : decode cX5_place 36 = .ok (.goto 4, 3) := by decide +kernel
theorem dX5_place_39 : decode cX5_place 39 = .ok (.iconst (-1), 1) := by decide +kernel
theorem dX5_place_40 : decode cX5_place 40 = .ok (.ireturn, 1) := by decide +kernel
theorem dX5_told_0 : decode cX5_told 0 = .ok (.aload_n 0, 1) := by decide +kernel
theorem dX5_told_1 : decode cX5_told 1 = .ok (.aload_n 0, 1) := by decide +kernel
theorem dX5_told_2 : decode cX5_told 2 = .ok (.invokevirtual 101, 3) := by decide +kernel
theorem dX5_told_5 : decode cX5_told 5 = .ok (.ifCond .ne 7, 3) := by decide +kernel
theorem dX5_told_8 : decode cX5_told 8 = .ok (.iconst 1, 1) := by decide +kernel
theorem dX5_told_9 : decode cX5_told 9 = .ok (.goto 25, 3) := by decide +kernel
theorem dX5_told_12 : decode cX5_told 12 = .ok (.aload_n 0, 1) := by decide +kernel
theorem dX5_told_13 : decode cX5_told 13 = .ok (.iload_n 1, 1) := by decide +kernel
theorem dX5_told_14 : decode cX5_told 14 = .ok (.invokevirtual 124, 3) := by decide +kernel
theorem dX5_told_17 : decode cX5_told 17 = .ok (.ifCond .lt 12, 3) := by decide +kernel
theorem dX5_told_20 : decode cX5_told 20 = .ok (.iload_n 2, 1) := by decide +kernel
theorem dX5_told_21 : decode cX5_told 21 = .ok (.ifCond .lt 8, 3) := by decide +kernel
theorem dX5_told_24 : decode cX5_told 24 = .ok (.iload_n 2, 1) := by decide +kernel
theorem dX5_told_25 : decode cX5_told 25 = .ok (.iconst 2, 1) := by decide +kernel
theorem dX5_told_26 : decode cX5_told 26 = .ok (.if_icmp .le 7, 3) := by decide +kernel
theorem dX5_told_29 : decode cX5_told 29 = .ok (.iconst 2, 1) := by decide +kernel
theorem dX5_told_30 : decode cX5_told 30 = .ok (.goto 4, 3) := by decide +kernel
theorem dX5_told_33 : decode cX5_told 33 = .ok (.iconst 0, 1) := by decide +kernel
theorem dX5_told_34 : decode cX5_told 34 = .ok (.putfield 27, 3) := by decide +kernel
theorem dX5_told_37 : decode cX5_told 37 = .ok (.aload_n 0, 1) := by decide +kernel
theorem dX5_told_38 : decode cX5_told 38 = .ok (.getfield 27, 3) := by decide +kernel
theorem dX5_told_41 : decode cX5_told 41 = .ok (.ifCond .le 5, 3) := by decide +kernel
theorem dX5_told_44 : decode cX5_told 44 = .ok (.iconst 0, 1) := by decide +kernel
theorem dX5_told_45 : decode cX5_told 45 = .ok (.ireturn, 1) := by decide +kernel
theorem dX5_told_46 : decode cX5_told 46 = .ok (.aload_n 0, 1) := by decide +kernel
theorem dX5_told_47 : decode cX5_told 47 = .ok (.getfield 23, 3) := by decide +kernel
theorem dX5_told_50 : decode cX5_told 50 = .ok (.iload_n 1, 1) := by decide +kernel
theorem dX5_told_51 : decode cX5_told 51 = .ok (.iconst (-1), 1) := by decide +kernel
theorem dX5_told_52 : decode cX5_told 52 = .ok (.if_icmp .ne 10, 3) := by decide +kernel
theorem dX5_told_55 : decode cX5_told 55 = .ok (.bipush 48, 2) := by decide +kernel
theorem dX5_told_57 : decode cX5_told 57 = .ok (.iload_n 2, 1) := by decide +kernel
theorem dX5_told_58 : decode cX5_told 58 = .ok (.iadd, 1) := by decide +kernel
theorem dX5_told_59 : decode cX5_told 59 = .ok (.goto 8, 3) := by decide +kernel
theorem dX5_told_62 : decode cX5_told 62 = .ok (.iconst 3, 1) := by decide +kernel
theorem dX5_told_63 : decode cX5_told 63 = .ok (.iload_n 1, 1) := by decide +kernel
theorem dX5_told_64 : decode cX5_told 64 = .ok (.imul, 1) := by decide +kernel
theorem dX5_told_65 : decode cX5_told 65 = .ok (.iload_n 2, 1) := by decide +kernel
theorem dX5_told_66 : decode cX5_told 66 = .ok (.iadd, 1) := by decide +kernel
theorem dX5_told_67 : decode cX5_told 67 = .ok (.iaload, 1) := by decide +kernel
theorem dX5_told_68 : decode cX5_told 68 = .ok (.ireturn, 1) := by decide +kernel
theorem dX5_partOf_0 : decode cX5_partOf 0 = .ok (.iload_n 2, 1) := by decide +kernel
theorem dX5_partOf_1 : decode cX5_partOf 1 = .ok (.ifCond .ne 12, 3) := by decide +kernel
theorem dX5_partOf_4 : decode cX5_partOf 4 = .ok (.aload_n 0, 1) := by decide +kernel
theorem dX5_partOf_5 : decode cX5_partOf 5 = .ok (.getfield 7, 3) := by decide +kernel
theorem dX5_partOf_8 : decode cX5_partOf 8 = .ok (.iload_n 1, 1) := by decide +kernel
theorem dX5_partOf_9 : decode cX5_partOf 9 = .ok (.laload, 1) := by decide +kernel
theorem dX5_partOf_10 : decode cX5_partOf 10 = .ok (.goto 23, 3) := by decide +kernel
theorem dX5_partOf_13 : decode cX5_partOf 13 = .ok (.iload_n 2, 1) := by decide +kernel
theorem dX5_partOf_14 : decode cX5_partOf 14 = .ok (.iconst 1, 1) := by decide +kernel
theorem dX5_partOf_15 : decode cX5_partOf 15 = .ok (.if_icmp .ne 12, 3) := by decide +kernel
theorem dX5_partOf_18 : decode cX5_partOf 18 = .ok (.aload_n 0, 1) := by decide +kernel
theorem dX5_partOf_19 : decode cX5_partOf 19 = .ok (.getfield 13, 3) := by decide +kernel
theorem dX5_partOf_22 : decode cX5_partOf 22 = .ok (.iload_n 1, 1) := by decide +kernel
theorem dX5_partOf_23 : decode cX5_partOf 23 = .ok (.laload, 1) := by decide +kernel
theorem dX5_partOf_24 : decode cX5_partOf 24 = .ok (.goto 9, 3) := by decide +kernel
theorem dX5_partOf_27 : decode cX5_partOf 27 = .ok (.aload_n 0, 1) := by decide +kernel
theorem dX5_partOf_28 : decode cX5_partOf 28 = .ok (.getfield 16, 3) := by decide +kernel
theorem dX5_partOf_31 : decode cX5_partOf 31 = .ok (.iload_n 1, 1) := by decide +kernel
theorem dX5_partOf_32 : decode cX5_partOf 32 = .ok (.laload, 1) := by decide +kernel
theorem dX5_partOf_33 : decode cX5_partOf 33 = .ok (.lreturn, 1) := by decide +kernel
theorem dX5_form_0 : decode cX5_form 0 = .ok (.aload_n 0, 1) := by decide +kernel
theorem dX5_form_1 : decode cX5_form 1 = .ok (.aload_n 0, 1) := by decide +kernel
theorem dX5_form_2 : decode cX5_form 2 = .ok (.invokevirtual 101, 3) := by decide +kernel
theorem dX5_form_5 : decode cX5_form 5 = .ok (.ifCond .ne 7, 3) := by decide +kernel
theorem dX5_form_8 : decode cX5_form 8 = .ok (.iconst 1, 1) := by decide +kernel
theorem dX5_form_9 : decode cX5_form 9 = .ok (.goto 34, 3) := by decide +kernel
theorem dX5_form_12 : decode cX5_form 12 = .ok (.aload_n 0, 1) := by decide +kernel
theorem dX5_form_13 : decode cX5_form 13 = .ok (.iload_n 1, 1) := by decide +kernel
theorem dX5_form_14 : decode cX5_form 14 = .ok (.invokevirtual 124, 3) := by decide +kernel
theorem dX5_form_17 : decode cX5_form 17 = .ok (.ifCond .lt 21, 3) := by decide +kernel
theorem dX5_form_20 : decode cX5_form 20 = .ok (.iload_n 2, 1) := by decide +kernel
theorem dX5_form_21 : decode cX5_form 21 = .ok (.ifCond .lt 17, 3) := by decide +kernel
theorem dX5_form_24 : decode cX5_form 24 = .ok (.iload_n 2, 1) := by decide +kernel
theorem dX5_form_25 : decode cX5_form 25 = .ok (.iconst 2, 1) := by decide +kernel
theorem dX5_form_26 : decode cX5_form 26 = .ok (.if_icmp .gt 12, 3) := by decide +kernel
theorem dX5_form_29 : decode cX5_form 29 = .ok (.iload_n 3, 1) := by decide +kernel
theorem dX5_form_30 : decode cX5_form 30 = .ok (.ifCond .lt 8, 3) := by decide +kernel
theorem dX5_form_33 : decode cX5_form 33 = .ok (.iload_n 3, 1) := by decide +kernel
theorem dX5_form_34 : decode cX5_form 34 = .ok (.iconst 2, 1) := by decide +kernel
theorem dX5_form_35 : decode cX5_form 35 = .ok (.if_icmp .le 7, 3) := by decide +kernel
theorem dX5_form_38 : decode cX5_form 38 = .ok (.iconst 2, 1) := by decide +kernel
theorem dX5_form_39 : decode cX5_form 39 = .ok (.goto 4, 3) := by decide +kernel
theorem dX5_form_42 : decode cX5_form 42 = .ok (.iconst 0, 1) := by decide +kernel
theorem dX5_form_43 : decode cX5_form 43 = .ok (.putfield 27, 3) := by decide +kernel
theorem dX5_form_46 : decode cX5_form 46 = .ok (.aload_n 0, 1) := by decide +kernel
theorem dX5_form_47 : decode cX5_form 47 = .ok (.getfield 27, 3) := by decide +kernel
theorem dX5_form_50 : decode cX5_form 50 = .ok (.ifCond .le 7, 3) := by decide +kernel
theorem dX5_form_53 : decode cX5_form 53 = .ok (.iconst 0, 1) := by decide +kernel
theorem dX5_form_54 : decode cX5_form 54 = .ok (.goto 16, 3) := by decide +kernel
theorem dX5_form_57 : decode cX5_form 57 = .ok (.aload_n 0, 1) := by decide +kernel
theorem dX5_form_58 : decode cX5_form 58 = .ok (.aload_n 0, 1) := by decide +kernel
theorem dX5_form_59 : decode cX5_form 59 = .ok (.iload_n 1, 1) := by decide +kernel
theorem dX5_form_60 : decode cX5_form 60 = .ok (.invokevirtual 124, 3) := by decide +kernel
theorem dX5_form_63 : decode cX5_form 63 = .ok (.iload_n 2, 1) := by decide +kernel
theorem dX5_form_64 : decode cX5_form 64 = .ok (.iadd, 1) := by decide +kernel
theorem dX5_form_65 : decode cX5_form 65 = .ok (.iload_n 3, 1) := by decide +kernel
theorem dX5_form_66 : decode cX5_form 66 = .ok (.invokevirtual 128, 3) := by decide +kernel
theorem dX5_form_69 : decode cX5_form 69 = .ok (.l2i, 1) := by decide +kernel
theorem dX5_form_70 : decode cX5_form 70 = .ok (.ireturn, 1) := by decide +kernel
theorem dX5_restOf_0 : decode cX5_restOf 0 = .ok (.iconst 1, 1) := by decide +kernel
theorem dX5_restOf_1 : decode cX5_restOf 1 = .ok (.istore_n 2, 1) := by decide +kernel
theorem dX5_restOf_2 : decode cX5_restOf 2 = .ok (.iconst 0, 1) := by decide +kernel
theorem dX5_restOf_3 : decode cX5_restOf 3 = .ok (.istore_n 3, 1) := by decide +kernel
theorem dX5_restOf_4 : decode cX5_restOf 4 = .ok (.iload_n 3, 1) := by decide +kernel
theorem dX5_restOf_5 : decode cX5_restOf 5 = .ok (.iload_n 0, 1) := by decide +kernel
theorem dX5_restOf_6 : decode cX5_restOf 6 = .ok (.if_icmp .ge 15, 3) := by decide +kernel
theorem dX5_restOf_9 : decode cX5_restOf 9 = .ok (.iconst 2, 1) := by decide +kernel
theorem dX5_restOf_10 : decode cX5_restOf 10 = .ok (.iload_n 2, 1) := by decide +kernel
theorem dX5_restOf_11 : decode cX5_restOf 11 = .ok (.imul, 1) := by decide +kernel
theorem dX5_restOf_12 : decode cX5_restOf 12 = .ok (.iload_n 1, 1) := by decide +kernel
theorem dX5_restOf_13 : decode cX5_restOf 13 = .ok (.irem, 1) := by decide +kernel
theorem dX5_restOf_14 : decode cX5_restOf 14 = .ok (.istore_n 2, 1) := by decide +kernel
theorem dX5_restOf_15 : decode cX5_restOf 15 = .ok (.iinc 3 1, 3) := by decide +kernel
theorem dX5_restOf_18 : decode cX5_restOf 18 = .ok (.goto (-14), 3) := by decide +kernel
theorem dX5_restOf_21 : decode cX5_restOf 21 = .ok (.iload_n 2, 1) := by decide +kernel
theorem dX5_restOf_22 : decode cX5_restOf 22 = .ok (.ireturn, 1) := by decide +kernel
theorem dX5_holds_0 : decode cX5_holds 0 = .ok (.aload_n 0, 1) := by decide +kernel
theorem dX5_holds_1 : decode cX5_holds 1 = .ok (.iload_n 3, 1) := by decide +kernel
theorem dX5_holds_2 : decode cX5_holds 2 = .ok (.iload 5, 2) := by decide +kernel
theorem dX5_holds_4 : decode cX5_holds 4 = .ok (.bipush 60, 2) := by decide +kernel
theorem dX5_holds_6 : decode cX5_holds 6 = .ok (.invokevirtual 105, 3) := by decide +kernel
theorem dX5_holds_9 : decode cX5_holds 9 = .ok (.aload_n 0, 1) := by decide +kernel
theorem dX5_holds_10 : decode cX5_holds 10 = .ok (.iload_n 1, 1) := by decide +kernel
theorem dX5_holds_11 : decode cX5_holds 11 = .ok (.iload 4, 2) := by decide +kernel
theorem dX5_holds_13 : decode cX5_holds 13 = .ok (.iload 5, 2) := by decide +kernel
theorem dX5_holds_15 : decode cX5_holds 15 = .ok (.invokestatic 132, 3) := by decide +kernel
theorem dX5_holds_18 : decode cX5_holds 18 = .ok (.bipush 61, 2) := by decide +kernel
theorem dX5_holds_20 : decode cX5_holds 20 = .ok (.invokevirtual 105, 3) := by decide +kernel
theorem dX5_holds_23 : decode cX5_holds 23 = .ok (.aload_n 0, 1) := by decide +kernel
theorem dX5_holds_24 : decode cX5_holds 24 = .ok (.bipush 60, 2) := by decide +kernel
theorem dX5_holds_26 : decode cX5_holds 26 = .ok (.bipush 61, 2) := by decide +kernel
theorem dX5_holds_28 : decode cX5_holds 28 = .ok (.bipush 60, 2) := by decide +kernel
theorem dX5_holds_30 : decode cX5_holds 30 = .ok (.invokevirtual 69, 3) := by decide +kernel
theorem dX5_holds_33 : decode cX5_holds 33 = .ok (.aload_n 0, 1) := by decide +kernel
theorem dX5_holds_34 : decode cX5_holds 34 = .ok (.bipush 60, 2) := by decide +kernel
theorem dX5_holds_36 : decode cX5_holds 36 = .ok (.iload_n 2, 1) := by decide +kernel
theorem dX5_holds_37 : decode cX5_holds 37 = .ok (.invokevirtual 135, 3) := by decide +kernel
theorem dX5_holds_40 : decode cX5_holds 40 = .ok (.ireturn, 1) := by decide +kernel
theorem dX5_verify_0 : decode cX5_verify 0 = .ok (.aload_n 0, 1) := by decide +kernel
theorem dX5_verify_1 : decode cX5_verify 1 = .ok (.aload_n 0, 1) := by decide +kernel
theorem dX5_verify_2 : decode cX5_verify 2 = .ok (.invokevirtual 101, 3) := by decide +kernel
theorem dX5_verify_5 : decode cX5_verify 5 = .ok (.ifCond .ne 7, 3) := by decide +kernel
theorem dX5_verify_8 : decode cX5_verify 8 = .ok (.iconst 1, 1) := by decide +kernel
theorem dX5_verify_9 : decode cX5_verify 9 = .ok (.goto 20, 3) := by decide +kernel
theorem dX5_verify_12 : decode cX5_verify 12 = .ok (.iload_n 1, 1) := by decide +kernel
theorem dX5_verify_13 : decode cX5_verify 13 = .ok (.ifCond .lt 11, 3) := by decide +kernel
theorem dX5_verify_16 : decode cX5_verify 16 = .ok (.iload_n 1, 1) := by decide +kernel
theorem dX5_verify_17 : decode cX5_verify 17 = .ok (.aload_n 0, 1) := by decide +kernel
theorem dX5_verify_18 : decode cX5_verify 18 = .ok (.getfield 94, 3) := by decide +kernel
theorem dX5_verify_21 : decode cX5_verify 21 = .ok (.if_icmp .lt 7, 3) := by decide +kernel
theorem dX5_verify_24 : decode cX5_verify 24 = .ok (.iconst 2, 1) := by decide +kernel
theorem dX5_verify_25 : decode cX5_verify 25 = .ok (.goto 4, 3) := by decide +kernel
theorem dX5_verify_28 : decode cX5_verify 28 = .ok (.iconst 0, 1) := by decide +kernel
theorem dX5_verify_29 : decode cX5_verify 29 = .ok (.putfield 27, 3) := by decide +kernel
theorem dX5_verify_32 : decode cX5_verify 32 = .ok (.aload_n 0, 1) := by decide +kernel
theorem dX5_verify_33 : decode cX5_verify 33 = .ok (.getfield 27, 3) := by decide +kernel
theorem dX5_verify_36 : decode cX5_verify 36 = .ok (.ifCond .le 5, 3) := by decide +kernel
theorem dX5_verify_39 : decode cX5_verify 39 = .ok (.iconst 0, 1) := by decide +kernel
theorem dX5_verify_40 : decode cX5_verify 40 = .ok (.ireturn, 1) := by decide +kernel
theorem dX5_verify_41 : decode cX5_verify 41 = .ok (.bipush 6, 2) := by decide +kernel
theorem dX5_verify_43 : decode cX5_verify 43 = .ok (.iconst 3, 1) := by decide +kernel
theorem dX5_verify_44 : decode cX5_verify 44 = .ok (.iload_n 1, 1) := by decide +kernel
theorem dX5_verify_45 : decode cX5_verify 45 = .ok (.imul, 1) := by decide +kernel
theorem dX5_verify_46 : decode cX5_verify 46 = .ok (.iadd, 1) := by decide +kernel
theorem dX5_verify_47 : decode cX5_verify 47 = .ok (.istore_n 2, 1) := by decide +kernel
theorem dX5_verify_48 : decode cX5_verify 48 = .ok (.aload_n 0, 1) := by decide +kernel
theorem dX5_verify_49 : decode cX5_verify 49 = .ok (.bipush 55, 2) := by decide +kernel
theorem dX5_verify_51 : decode cX5_verify 51 = .ok (.aload_n 0, 1) := by decide +kernel
theorem dX5_verify_52 : decode cX5_verify 52 = .ok (.getfield 23, 3) := by decide +kernel
theorem dX5_verify_55 : decode cX5_verify 55 = .ok (.iconst 3, 1) := by decide +kernel
theorem dX5_verify_56 : decode cX5_verify 56 = .ok (.iload_n 1, 1) := by decide +kernel
theorem dX5_verify_57 : decode cX5_verify 57 = .ok (.imul, 1) := by decide +kernel
theorem dX5_verify_58 : decode cX5_verify 58 = .ok (.iconst 1, 1) := by decide +kernel
theorem dX5_verify_59 : decode cX5_verify 59 = .ok (.iadd, 1) := by decide +kernel
theorem dX5_verify_60 : decode cX5_verify 60 = .ok (.iaload, 1) := by decide +kernel
theorem dX5_verify_61 : decode cX5_verify 61 = .ok (.bipush 60, 2) := by decide +kernel
theorem dX5_verify_63 : decode cX5_verify 63 = .ok (.invokevirtual 105, 3) := by decide +kernel
theorem dX5_verify_66 : decode cX5_verify 66 = .ok (.aload_n 0, 1) := by decide +kernel
theorem dX5_verify_67 : decode cX5_verify 67 = .ok (.bipush 60, 2) := by decide +kernel
theorem dX5_verify_69 : decode cX5_verify 69 = .ok (.iload_n 2, 1) := by decide +kernel
theorem dX5_verify_70 : decode cX5_verify 70 = .ok (.invokevirtual 135, 3) := by decide +kernel
theorem dX5_verify_73 : decode cX5_verify 73 = .ok (.ifCond .eq 39, 3) := by decide +kernel
theorem dX5_verify_76 : decode cX5_verify 76 = .ok (.aload_n 0, 1) := by decide +kernel
theorem dX5_verify_77 : decode cX5_verify 77 = .ok (.iload_n 2, 1) := by decide +kernel
theorem dX5_verify_78 : decode cX5_verify 78 = .ok (.iload_n 2, 1) := by decide +kernel
theorem dX5_verify_79 : decode cX5_verify 79 = .ok (.iconst 1, 1) := by decide +kernel
theorem dX5_verify_80 : decode cX5_verify 80 = .ok (.iadd, 1) := by decide +kernel
theorem dX5_verify_81 : decode cX5_verify 81 = .ok (.iload_n 2, 1) := by decide +kernel
theorem dX5_verify_82 : decode cX5_verify 82 = .ok (.iconst 2, 1) := by decide +kernel
theorem dX5_verify_83 : decode cX5_verify 83 = .ok (.iadd, 1) := by decide +kernel
theorem dX5_verify_84 : decode cX5_verify 84 = .ok (.aload_n 0, 1) := by decide +kernel
theorem dX5_verify_85 : decode cX5_verify 85 = .ok (.getfield 23, 3) := by decide +kernel
theorem dX5_verify_88 : decode cX5_verify 88 = .ok (.iconst 3, 1) := by decide +kernel
theorem dX5_verify_89 : decode cX5_verify 89 = .ok (.iload_n 1, 1) := by decide +kernel
theorem dX5_verify_90 : decode cX5_verify 90 = .ok (.imul, 1) := by decide +kernel
theorem dX5_verify_91 : decode cX5_verify 91 = .ok (.iaload, 1) := by decide +kernel
theorem dX5_verify_92 : decode cX5_verify 92 = .ok (.aload_n 0, 1) := by decide +kernel
theorem dX5_verify_93 : decode cX5_verify 93 = .ok (.getfield 23, 3) := by decide +kernel
theorem dX5_verify_96 : decode cX5_verify 96 = .ok (.iconst 3, 1) := by decide +kernel
theorem dX5_verify_97 : decode cX5_verify 97 = .ok (.iload_n 1, 1) := by decide +kernel
theorem dX5_verify_98 : decode cX5_verify 98 = .ok (.imul, 1) := by decide +kernel
theorem dX5_verify_99 : decode cX5_verify 99 = .ok (.iconst 2, 1) := by decide +kernel
theorem dX5_verify_100 : decode cX5_verify 100 = .ok (.iadd, 1) := by decide +kernel
theorem dX5_verify_101 : decode cX5_verify 101 = .ok (.iaload, 1) := by decide +kernel
theorem dX5_verify_102 : decode cX5_verify 102 = .ok (.invokevirtual 139, 3) := by decide +kernel
theorem dX5_verify_105 : decode cX5_verify 105 = .ok (.ifCond .eq 7, 3) := by decide +kernel
theorem dX5_verify_108 : decode cX5_verify 108 = .ok (.iconst 1, 1) := by decide +kernel
theorem dX5_verify_109 : decode cX5_verify 109 = .ok (.goto 4, 3) := by decide +kernel
theorem dX5_verify_112 : decode cX5_verify 112 = .ok (.iconst 0, 1) := by decide +kernel
theorem dX5_verify_113 : decode cX5_verify 113 = .ok (.ireturn, 1) := by decide +kernel
theorem dX5_isPlace_0 : decode cX5_isPlace 0 = .ok (.iload_n 0, 1) := by decide +kernel
theorem dX5_isPlace_1 : decode cX5_isPlace 1 = .ok (.ifCond .lt 12, 3) := by decide +kernel
theorem dX5_isPlace_4 : decode cX5_isPlace 4 = .ok (.iload_n 0, 1) := by decide +kernel
theorem dX5_isPlace_5 : decode cX5_isPlace 5 = .ok (.iconst 3, 1) := by decide +kernel
theorem dX5_isPlace_6 : decode cX5_isPlace 6 = .ok (.if_icmp .ge 7, 3) := by decide +kernel
theorem dX5_isPlace_9 : decode cX5_isPlace 9 = .ok (.iconst 1, 1) := by decide +kernel
theorem dX5_isPlace_10 : decode cX5_isPlace 10 = .ok (.goto 4, 3) := by decide +kernel
theorem dX5_isPlace_13 : decode cX5_isPlace 13 = .ok (.iconst 0, 1) := by decide +kernel
theorem dX5_isPlace_14 : decode cX5_isPlace 14 = .ok (.ireturn, 1) := by decide +kernel
theorem dX5_put_0 : decode cX5_put 0 = .ok (.iload_n 2, 1) := by decide +kernel
theorem dX5_put_1 : decode cX5_put 1 = .ok (.ifCond .le 25, 3) := by decide +kernel
theorem dX5_put_4 : decode cX5_put 4 = .ok (.iload_n 2, 1) := by decide +kernel
theorem dX5_put_5 : decode cX5_put 5 = .ok (.ldc 143, 2) := by decide +kernel
theorem dX5_put_7 : decode cX5_put 7 = .ok (.if_icmp .gt 19, 3) := by decide +kernel
theorem dX5_put_10 : decode cX5_put 10 = .ok (.iload_n 3, 1) := by decide +kernel
theorem dX5_put_11 : decode cX5_put 11 = .ok (.ldc 144, 2) := by decide +kernel
theorem dX5_put_13 : decode cX5_put 13 = .ok (.if_icmp .lt 13, 3) := by decide +kernel
theorem dX5_put_16 : decode cX5_put 16 = .ok (.iload_n 3, 1) := by decide +kernel
theorem dX5_put_17 : decode cX5_put 17 = .ok (.ldc 143, 2) := by decide +kernel
theorem dX5_put_19 : decode cX5_put 19 = .ok (.if_icmp .gt 7, 3) := by decide +kernel
theorem dX5_put_22 : decode cX5_put 22 = .ok (.iconst 1, 1) := by decide +kernel
theorem dX5_put_23 : decode cX5_put 23 = .ok (.goto 4, 3) := by decide +kernel
theorem dX5_put_26 : decode cX5_put 26 = .ok (.iconst 0, 1) := by decide +kernel
theorem dX5_put_27 : decode cX5_put 27 = .ok (.istore 4, 2) := by decide +kernel
theorem dX5_put_29 : decode cX5_put 29 = .ok (.iload_n 3, 1) := by decide +kernel
theorem dX5_put_30 : decode cX5_put 30 = .ok (.i2l, 1) := by decide +kernel
theorem dX5_put_31 : decode cX5_put 31 = .ok (.iload_n 3, 1) := by decide +kernel
theorem dX5_put_32 : decode cX5_put 32 = .ok (.i2l, 1) := by decide +kernel
theorem dX5_put_33 : decode cX5_put 33 = .ok (.lmul, 1) := by decide +kernel
theorem dX5_put_34 : decode cX5_put 34 = .ok (.aload_n 0, 1) := by decide +kernel
theorem dX5_put_35 : decode cX5_put 35 = .ok (.getfield 90, 3) := by decide +kernel
theorem dX5_put_38 : decode cX5_put 38 = .ok (.ladd, 1) := by decide +kernel
theorem dX5_put_39 : decode cX5_put 39 = .ok (.lstore 5, 2) := by decide +kernel
theorem dX5_put_41 : decode cX5_put 41 = .ok (.iload 4, 2) := by decide +kernel
theorem dX5_put_43 : decode cX5_put 43 = .ok (.ifCond .eq 45, 3) := by decide +kernel
theorem dX5_put_46 : decode cX5_put 46 = .ok (.lload 5, 2) := by decide +kernel
theorem dX5_put_48 : decode cX5_put 48 = .ok (.ldc2_w 97, 3) := by decide +kernel
theorem dX5_put_51 : decode cX5_put 51 = .ok (.iload_n 2, 1) := by decide +kernel
theorem dX5_put_52 : decode cX5_put 52 = .ok (.i2l, 1) := by decide +kernel
theorem dX5_put_53 : decode cX5_put 53 = .ok (.lmul, 1) := by decide +kernel
theorem dX5_put_54 : decode cX5_put 54 = .ok (.lrem, 1) := by decide +kernel
theorem dX5_put_55 : decode cX5_put 55 = .ok (.lconst 0, 1) := by decide +kernel
theorem dX5_put_56 : decode cX5_put 56 = .ok (.lcmp, 1) := by decide +kernel
theorem dX5_put_57 : decode cX5_put 57 = .ok (.ifCond .ne 31, 3) := by decide +kernel
theorem dX5_put_60 : decode cX5_put 60 = .ok (.iload_n 2, 1) := by decide +kernel
theorem dX5_put_61 : decode cX5_put 61 = .ok (.i2l, 1) := by decide +kernel
theorem dX5_put_62 : decode cX5_put 62 = .ok (.iload_n 3, 1) := by decide +kernel
theorem dX5_put_63 : decode cX5_put 63 = .ok (.i2l, 1) := by decide +kernel
theorem dX5_put_64 : decode cX5_put 64 = .ok (.invokestatic 48, 3) := by decide +kernel
theorem dX5_put_67 : decode cX5_put 67 = .ok (.lload 5, 2) := by decide +kernel
theorem dX5_put_69 : decode cX5_put 69 = .ok (.ldc2_w 97, 3) := by decide +kernel
theorem dX5_put_72 : decode cX5_put 72 = .ok (.iload_n 2, 1) := by decide +kernel
theorem dX5_put_73 : decode cX5_put 73 = .ok (.i2l, 1) := by decide +kernel
theorem dX5_put_74 : decode cX5_put 74 = .ok (.lmul, 1) := by decide +kernel
theorem dX5_put_75 : decode cX5_put 75 = .ok (.ldiv, 1) := by decide +kernel
theorem dX5_put_76 : decode cX5_put 76 = .ok (.invokestatic 48, 3) := by decide +kernel
theorem dX5_put_79 : decode cX5_put 79 = .ok (.lconst 1, 1) := by decide +kernel
theorem dX5_put_80 : decode cX5_put 80 = .ok (.lcmp, 1) := by decide +kernel
theorem dX5_put_81 : decode cX5_put 81 = .ok (.ifCond .ne 7, 3) := by decide +kernel
theorem dX5_put_84 : decode cX5_put 84 = .ok (.iconst 1, 1) := by decide +kernel
theorem dX5_put_85 : decode cX5_put 85 = .ok (.goto 4, 3) := by decide +kernel
theorem dX5_put_88 : decode cX5_put 88 = .ok (.iconst 0, 1) := by decide +kernel
theorem dX5_put_89 : decode cX5_put 89 = .ok (.istore 7, 2) := by decide +kernel
theorem dX5_put_91 : decode cX5_put 91 = .ok (.aload_n 0, 1) := by decide +kernel
theorem dX5_put_92 : decode cX5_put 92 = .ok (.aload_n 0, 1) := by decide +kernel
theorem dX5_put_93 : decode cX5_put 93 = .ok (.invokevirtual 101, 3) := by decide +kernel
theorem dX5_put_96 : decode cX5_put 96 = .ok (.ifCond .ne 7, 3) := by decide +kernel
theorem dX5_put_99 : decode cX5_put 99 = .ok (.iconst 1, 1) := by decide +kernel
theorem dX5_put_100 : decode cX5_put 100 = .ok (.goto 24, 3) := by decide +kernel
theorem dX5_put_103 : decode cX5_put 103 = .ok (.iload_n 1, 1) := by decide +kernel
theorem dX5_put_104 : decode cX5_put 104 = .ok (.invokestatic 145, 3) := by decide +kernel
theorem dX5_put_107 : decode cX5_put 107 = .ok (.ifCond .ne 7, 3) := by decide +kernel
theorem dX5_put_110 : decode cX5_put 110 = .ok (.iconst 2, 1) := by decide +kernel
theorem dX5_put_111 : decode cX5_put 111 = .ok (.goto 13, 3) := by decide +kernel
theorem dX5_put_114 : decode cX5_put 114 = .ok (.iload 7, 2) := by decide +kernel
theorem dX5_put_116 : decode cX5_put 116 = .ok (.ifCond .ne 7, 3) := by decide +kernel
theorem dX5_put_119 : decode cX5_put 119 = .ok (.iconst 3, 1) := by decide +kernel
theorem dX5_put_120 : decode cX5_put 120 = .ok (.goto 4, 3) := by decide +kernel
theorem dX5_put_123 : decode cX5_put 123 = .ok (.iconst 0, 1) := by decide +kernel
theorem dX5_put_124 : decode cX5_put 124 = .ok (.putfield 27, 3) := by decide +kernel
theorem dX5_put_127 : decode cX5_put 127 = .ok (.aload_n 0, 1) := by decide +kernel
theorem dX5_put_128 : decode cX5_put 128 = .ok (.getfield 27, 3) := by decide +kernel
theorem dX5_put_131 : decode cX5_put 131 = .ok (.ifCond .le 4, 3) := by decide +kernel
theorem dX5_put_134 : decode cX5_put 134 = .ok (.return_, 1) := by decide +kernel
theorem dX5_put_135 : decode cX5_put 135 = .ok (.aload_n 0, 1) := by decide +kernel
theorem dX5_put_136 : decode cX5_put 136 = .ok (.iload_n 1, 1) := by decide +kernel
theorem dX5_put_137 : decode cX5_put 137 = .ok (.iload_n 2, 1) := by decide +kernel
theorem dX5_put_138 : decode cX5_put 138 = .ok (.i2l, 1) := by decide +kernel
theorem dX5_put_139 : decode cX5_put 139 = .ok (.iload_n 3, 1) := by decide +kernel
theorem dX5_put_140 : decode cX5_put 140 = .ok (.i2l, 1) := by decide +kernel
theorem dX5_put_141 : decode cX5_put 141 = .ok (.lload 5, 2) := by decide +kernel
theorem dX5_put_143 : decode cX5_put 143 = .ok (.ldc2_w 97, 3) := by decide +kernel
theorem dX5_put_146 : decode cX5_put 146 = .ok (.iload_n 2, 1) := by decide +kernel
theorem dX5_put_147 : decode cX5_put 147 = .ok (.i2l, 1) := by decide +kernel
theorem dX5_put_148 : decode cX5_put 148 = .ok (.lmul, 1) := by decide +kernel
theorem dX5_put_149 : decode cX5_put 149 = .ok (.ldiv, 1) := by decide +kernel
theorem dX5_put_150 : decode cX5_put 150 = .ok (.invokevirtual 35, 3) := by decide +kernel
theorem dX5_put_153 : decode cX5_put 153 = .ok (.aload_n 0, 1) := by decide +kernel
theorem dX5_put_154 : decode cX5_put 154 = .ok (.getfield 19, 3) := by decide +kernel
theorem dX5_put_157 : decode cX5_put 157 = .ok (.iload_n 1, 1) := by decide +kernel
theorem dX5_put_158 : decode cX5_put 158 = .ok (.iconst 1, 1) := by decide +kernel
theorem dX5_put_159 : decode cX5_put 159 = .ok (.bastore, 1) := by decide +kernel
theorem dX5_put_160 : decode cX5_put 160 = .ok (.return_, 1) := by decide +kernel
theorem dX5_buffer_0 : decode cX5_buffer 0 = .ok (.aload_n 0, 1) := by decide +kernel
theorem dX5_buffer_1 : decode cX5_buffer 1 = .ok (.aload_n 0, 1) := by decide +kernel
theorem dX5_buffer_2 : decode cX5_buffer 2 = .ok (.invokevirtual 101, 3) := by decide +kernel
theorem dX5_buffer_5 : decode cX5_buffer 5 = .ok (.ifCond .ne 7, 3) := by decide +kernel
theorem dX5_buffer_8 : decode cX5_buffer 8 = .ok (.iconst 1, 1) := by decide +kernel
theorem dX5_buffer_9 : decode cX5_buffer 9 = .ok (.goto 35, 3) := by decide +kernel
theorem dX5_buffer_12 : decode cX5_buffer 12 = .ok (.iload_n 1, 1) := by decide +kernel
theorem dX5_buffer_13 : decode cX5_buffer 13 = .ok (.invokestatic 145, 3) := by decide +kernel
theorem dX5_buffer_16 : decode cX5_buffer 16 = .ok (.ifCond .eq 10, 3) := by decide +kernel
theorem dX5_buffer_19 : decode cX5_buffer 19 = .ok (.iload_n 2, 1) := by decide +kernel
theorem dX5_buffer_20 : decode cX5_buffer 20 = .ok (.invokestatic 145, 3) := by decide +kernel
theorem dX5_buffer_23 : decode cX5_buffer 23 = .ok (.ifCond .ne 7, 3) := by decide +kernel
theorem dX5_buffer_26 : decode cX5_buffer 26 = .ok (.iconst 2, 1) := by decide +kernel
theorem dX5_buffer_27 : decode cX5_buffer 27 = .ok (.goto 17, 3) := by decide +kernel
theorem dX5_buffer_30 : decode cX5_buffer 30 = .ok (.aload_n 0, 1) := by decide +kernel
theorem dX5_buffer_31 : decode cX5_buffer 31 = .ok (.getfield 19, 3) := by decide +kernel
theorem dX5_buffer_34 : decode cX5_buffer 34 = .ok (.iload_n 1, 1) := by decide +kernel
theorem dX5_buffer_35 : decode cX5_buffer 35 = .ok (.baload, 1) := by decide +kernel
theorem dX5_buffer_36 : decode cX5_buffer 36 = .ok (.ifCond .ne 7, 3) := by decide +kernel
theorem dX5_buffer_39 : decode cX5_buffer 39 = .ok (.iconst 3, 1) := by decide +kernel
theorem dX5_buffer_40 : decode cX5_buffer 40 = .ok (.goto 4, 3) := by decide +kernel
theorem dX5_buffer_43 : decode cX5_buffer 43 = .ok (.iconst 0, 1) := by decide +kernel
theorem dX5_buffer_44 : decode cX5_buffer 44 = .ok (.putfield 27, 3) := by decide +kernel
theorem dX5_buffer_47 : decode cX5_buffer 47 = .ok (.aload_n 0, 1) := by decide +kernel
theorem dX5_buffer_48 : decode cX5_buffer 48 = .ok (.getfield 27, 3) := by decide +kernel
theorem dX5_buffer_51 : decode cX5_buffer 51 = .ok (.ifCond .le 7, 3) := by decide +kernel
theorem dX5_buffer_54 : decode cX5_buffer 54 = .ok (.lconst 0, 1) := by decide +kernel
theorem dX5_buffer_55 : decode cX5_buffer 55 = .ok (.goto 9, 3) := by decide +kernel
theorem dX5_buffer_58 : decode cX5_buffer 58 = .ok (.aload_n 0, 1) := by decide +kernel
theorem dX5_buffer_59 : decode cX5_buffer 59 = .ok (.iload_n 1, 1) := by decide +kernel
theorem dX5_buffer_60 : decode cX5_buffer 60 = .ok (.iload_n 2, 1) := by decide +kernel
theorem dX5_buffer_61 : decode cX5_buffer 61 = .ok (.invokevirtual 128, 3) := by decide +kernel
theorem dX5_buffer_64 : decode cX5_buffer 64 = .ok (.lreturn, 1) := by decide +kernel
theorem dX5_reduce_0 : decode cX5_reduce 0 = .ok (.aload_n 0, 1) := by decide +kernel
theorem dX5_reduce_1 : decode cX5_reduce 1 = .ok (.aload_n 0, 1) := by decide +kernel
theorem dX5_reduce_2 : decode cX5_reduce 2 = .ok (.invokevirtual 101, 3) := by decide +kernel
theorem dX5_reduce_5 : decode cX5_reduce 5 = .ok (.ifCond .ne 7, 3) := by decide +kernel
theorem dX5_reduce_8 : decode cX5_reduce 8 = .ok (.iconst 1, 1) := by decide +kernel
theorem dX5_reduce_9 : decode cX5_reduce 9 = .ok (.goto 35, 3) := by decide +kernel
theorem dX5_reduce_12 : decode cX5_reduce 12 = .ok (.iload_n 1, 1) := by decide +kernel
theorem dX5_reduce_13 : decode cX5_reduce 13 = .ok (.invokestatic 145, 3) := by decide +kernel
theorem dX5_reduce_16 : decode cX5_reduce 16 = .ok (.ifCond .eq 10, 3) := by decide +kernel
theorem dX5_reduce_19 : decode cX5_reduce 19 = .ok (.iload_n 2, 1) := by decide +kernel
theorem dX5_reduce_20 : decode cX5_reduce 20 = .ok (.invokestatic 145, 3) := by decide +kernel
theorem dX5_reduce_23 : decode cX5_reduce 23 = .ok (.ifCond .ne 7, 3) := by decide +kernel
theorem dX5_reduce_26 : decode cX5_reduce 26 = .ok (.iconst 2, 1) := by decide +kernel
theorem dX5_reduce_27 : decode cX5_reduce 27 = .ok (.goto 17, 3) := by decide +kernel
theorem dX5_reduce_30 : decode cX5_reduce 30 = .ok (.aload_n 0, 1) := by decide +kernel
theorem dX5_reduce_31 : decode cX5_reduce 31 = .ok (.getfield 19, 3) := by decide +kernel
theorem dX5_reduce_34 : decode cX5_reduce 34 = .ok (.iload_n 1, 1) := by decide +kernel
theorem dX5_reduce_35 : decode cX5_reduce 35 = .ok (.baload, 1) := by decide +kernel
theorem dX5_reduce_36 : decode cX5_reduce 36 = .ok (.ifCond .ne 7, 3) := by decide +kernel
theorem dX5_reduce_39 : decode cX5_reduce 39 = .ok (.iconst 3, 1) := by decide +kernel
theorem dX5_reduce_40 : decode cX5_reduce 40 = .ok (.goto 4, 3) := by decide +kernel
theorem dX5_reduce_43 : decode cX5_reduce 43 = .ok (.iconst 0, 1) := by decide +kernel
theorem dX5_reduce_44 : decode cX5_reduce 44 = .ok (.putfield 27, 3) := by decide +kernel
theorem dX5_reduce_47 : decode cX5_reduce 47 = .ok (.aload_n 0, 1) := by decide +kernel
theorem dX5_reduce_48 : decode cX5_reduce 48 = .ok (.getfield 27, 3) := by decide +kernel
theorem dX5_reduce_51 : decode cX5_reduce 51 = .ok (.ifCond .le 4, 3) := by decide +kernel
theorem dX5_reduce_54 : decode cX5_reduce 54 = .ok (.return_, 1) := by decide +kernel
theorem dX5_reduce_55 : decode cX5_reduce 55 = .ok (.aload_n 0, 1) := by decide +kernel
theorem dX5_reduce_56 : decode cX5_reduce 56 = .ok (.iload_n 1, 1) := by decide +kernel
theorem dX5_reduce_57 : decode cX5_reduce 57 = .ok (.iload_n 2, 1) := by decide +kernel
theorem dX5_reduce_58 : decode cX5_reduce 58 = .ok (.invokevirtual 62, 3) := by decide +kernel
theorem dX5_reduce_61 : decode cX5_reduce 61 = .ok (.aload_n 0, 1) := by decide +kernel
theorem dX5_reduce_62 : decode cX5_reduce 62 = .ok (.iload_n 2, 1) := by decide +kernel
theorem dX5_reduce_63 : decode cX5_reduce 63 = .ok (.invokevirtual 58, 3) := by decide +kernel
theorem dX5_reduce_66 : decode cX5_reduce 66 = .ok (.aload_n 0, 1) := by decide +kernel
theorem dX5_reduce_67 : decode cX5_reduce 67 = .ok (.getfield 19, 3) := by decide +kernel
theorem dX5_reduce_70 : decode cX5_reduce 70 = .ok (.iload_n 2, 1) := by decide +kernel
theorem dX5_reduce_71 : decode cX5_reduce 71 = .ok (.iconst 1, 1) := by decide +kernel
theorem dX5_reduce_72 : decode cX5_reduce 72 = .ok (.bastore, 1) := by decide +kernel
theorem dX5_reduce_73 : decode cX5_reduce 73 = .ok (.return_, 1) := by decide +kernel
theorem dX5_multiply_0 : decode cX5_multiply 0 = .ok (.aload_n 0, 1) := by decide +kernel
theorem dX5_multiply_1 : decode cX5_multiply 1 = .ok (.aload_n 0, 1) := by decide +kernel
theorem dX5_multiply_2 : decode cX5_multiply 2 = .ok (.invokevirtual 101, 3) := by decide +kernel
theorem dX5_multiply_5 : decode cX5_multiply 5 = .ok (.ifCond .ne 7, 3) := by decide +kernel
theorem dX5_multiply_8 : decode cX5_multiply 8 = .ok (.iconst 1, 1) := by decide +kernel
theorem dX5_multiply_9 : decode cX5_multiply 9 = .ok (.goto 51, 3) := by decide +kernel
theorem dX5_multiply_12 : decode cX5_multiply 12 = .ok (.iload_n 1, 1) := by decide +kernel
theorem dX5_multiply_13 : decode cX5_multiply 13 = .ok (.invokestatic 145, 3) := by decide +kernel
theorem dX5_multiply_16 : decode cX5_multiply 16 = .ok (.ifCond .eq 17, 3) := by decide +kernel
theorem dX5_multiply_19 : decode cX5_multiply 19 = .ok (.iload_n 2, 1) := by decide +kernel
theorem dX5_multiply_20 : decode cX5_multiply 20 = .ok (.invokestatic 145, 3) := by decide +kernel
theorem dX5_multiply_23 : decode cX5_multiply 23 = .ok (.ifCond .eq 10, 3) := by decide +kernel
theorem dX5_multiply_26 : decode cX5_multiply 26 = .ok (.iload_n 3, 1) := by decide +kernel
theorem dX5_multiply_27 : decode cX5_multiply 27 = .ok (.invokestatic 145, 3) := by decide +kernel
theorem dX5_multiply_30 : decode cX5_multiply 30 = .ok (.ifCond .ne 7, 3) := by decide +kernel
theorem dX5_multiply_33 : decode cX5_multiply 33 = .ok (.iconst 2, 1) := by decide +kernel
theorem dX5_multiply_34 : decode cX5_multiply 34 = .ok (.goto 26, 3) := by decide +kernel
theorem dX5_multiply_37 : decode cX5_multiply 37 = .ok (.aload_n 0, 1) := by decide +kernel
theorem dX5_multiply_38 : decode cX5_multiply 38 = .ok (.getfield 19, 3) := by decide +kernel
theorem dX5_multiply_41 : decode cX5_multiply 41 = .ok (.iload_n 1, 1) := by decide +kernel
theorem dX5_multiply_42 : decode cX5_multiply 42 = .ok (.baload, 1) := by decide +kernel
theorem dX5_multiply_43 : decode cX5_multiply 43 = .ok (.ifCond .eq 12, 3) := by decide +kernel
theorem dX5_multiply_46 : decode cX5_multiply 46 = .ok (.aload_n 0, 1) := by decide +kernel
theorem dX5_multiply_47 : decode cX5_multiply 47 = .ok (.getfield 19, 3) := by decide +kernel
theorem dX5_multiply_50 : decode cX5_multiply 50 = .ok (.iload_n 2, 1) := by decide +kernel
theorem dX5_multiply_51 : decode cX5_multiply 51 = .ok (.baload, 1) := by decide +kernel
theorem dX5_multiply_52 : decode cX5_multiply 52 = .ok (.ifCond .ne 7, 3) := by decide +kernel
theorem dX5_multiply_55 : decode cX5_multiply 55 = .ok (.iconst 3, 1) := by decide +kernel
theorem dX5_multiply_56 : decode cX5_multiply 56 = .ok (.goto 4, 3) := by decide +kernel
theorem dX5_multiply_59 : decode cX5_multiply 59 = .ok (.iconst 0, 1) := by decide +kernel
theorem dX5_multiply_60 : decode cX5_multiply 60 = .ok (.putfield 27, 3) := by decide +kernel
theorem dX5_multiply_63 : decode cX5_multiply 63 = .ok (.aload_n 0, 1) := by decide +kernel
theorem dX5_multiply_64 : decode cX5_multiply 64 = .ok (.getfield 27, 3) := by decide +kernel
theorem dX5_multiply_67 : decode cX5_multiply 67 = .ok (.ifCond .le 4, 3) := by decide +kernel
theorem dX5_multiply_70 : decode cX5_multiply 70 = .ok (.return_, 1) := by decide +kernel
theorem dX5_multiply_71 : decode cX5_multiply 71 = .ok (.aload_n 0, 1) := by decide +kernel
theorem dX5_multiply_72 : decode cX5_multiply 72 = .ok (.iload_n 1, 1) := by decide +kernel
theorem dX5_multiply_73 : decode cX5_multiply 73 = .ok (.iload_n 2, 1) := by decide +kernel
theorem dX5_multiply_74 : decode cX5_multiply 74 = .ok (.iload_n 3, 1) := by decide +kernel
theorem dX5_multiply_75 : decode cX5_multiply 75 = .ok (.invokevirtual 69, 3) := by decide +kernel
theorem dX5_multiply_78 : decode cX5_multiply 78 = .ok (.aload_n 0, 1) := by decide +kernel
theorem dX5_multiply_79 : decode cX5_multiply 79 = .ok (.getfield 19, 3) := by decide +kernel
theorem dX5_multiply_82 : decode cX5_multiply 82 = .ok (.iload_n 3, 1) := by decide +kernel
theorem dX5_multiply_83 : decode cX5_multiply 83 = .ok (.iconst 1, 1) := by decide +kernel
theorem dX5_multiply_84 : decode cX5_multiply 84 = .ok (.bastore, 1) := by decide +kernel
theorem dX5_multiply_85 : decode cX5_multiply 85 = .ok (.return_, 1) := by decide +kernel
theorem dX5_raise_0 : decode cX5_raise 0 = .ok (.aload_n 0, 1) := by decide +kernel
theorem dX5_raise_1 : decode cX5_raise 1 = .ok (.aload_n 0, 1) := by decide +kernel
theorem dX5_raise_2 : decode cX5_raise 2 = .ok (.invokevirtual 101, 3) := by decide +kernel
theorem dX5_raise_5 : decode cX5_raise 5 = .ok (.ifCond .ne 7, 3) := by decide +kernel
theorem dX5_raise_8 : decode cX5_raise 8 = .ok (.iconst 1, 1) := by decide +kernel
theorem dX5_raise_9 : decode cX5_raise 9 = .ok (.goto 43, 3) := by decide +kernel
theorem dX5_raise_12 : decode cX5_raise 12 = .ok (.iload_n 1, 1) := by decide +kernel
theorem dX5_raise_13 : decode cX5_raise 13 = .ok (.invokestatic 145, 3) := by decide +kernel
theorem dX5_raise_16 : decode cX5_raise 16 = .ok (.ifCond .eq 10, 3) := by decide +kernel
theorem dX5_raise_19 : decode cX5_raise 19 = .ok (.iload_n 3, 1) := by decide +kernel
theorem dX5_raise_20 : decode cX5_raise 20 = .ok (.invokestatic 145, 3) := by decide +kernel
theorem dX5_raise_23 : decode cX5_raise 23 = .ok (.ifCond .ne 7, 3) := by decide +kernel
theorem dX5_raise_26 : decode cX5_raise 26 = .ok (.iconst 2, 1) := by decide +kernel
theorem dX5_raise_27 : decode cX5_raise 27 = .ok (.goto 25, 3) := by decide +kernel
theorem dX5_raise_30 : decode cX5_raise 30 = .ok (.iload_n 2, 1) := by decide +kernel
theorem dX5_raise_31 : decode cX5_raise 31 = .ok (.ifCond .ge 7, 3) := by decide +kernel
theorem dX5_raise_34 : decode cX5_raise 34 = .ok (.iconst 3, 1) := by decide +kernel
theorem dX5_raise_35 : decode cX5_raise 35 = .ok (.goto 17, 3) := by decide +kernel
theorem dX5_raise_38 : decode cX5_raise 38 = .ok (.aload_n 0, 1) := by decide +kernel
theorem dX5_raise_39 : decode cX5_raise 39 = .ok (.getfield 19, 3) := by decide +kernel
theorem dX5_raise_42 : decode cX5_raise 42 = .ok (.iload_n 1, 1) := by decide +kernel
theorem dX5_raise_43 : decode cX5_raise 43 = .ok (.baload, 1) := by decide +kernel
theorem dX5_raise_44 : decode cX5_raise 44 = .ok (.ifCond .ne 7, 3) := by decide +kernel
theorem dX5_raise_47 : decode cX5_raise 47 = .ok (.iconst 4, 1) := by decide +kernel
theorem dX5_raise_48 : decode cX5_raise 48 = .ok (.goto 4, 3) := by decide +kernel
theorem dX5_raise_51 : decode cX5_raise 51 = .ok (.iconst 0, 1) := by decide +kernel
theorem dX5_raise_52 : decode cX5_raise 52 = .ok (.putfield 27, 3) := by decide +kernel
theorem dX5_raise_55 : decode cX5_raise 55 = .ok (.aload_n 0, 1) := by decide +kernel
theorem dX5_raise_56 : decode cX5_raise 56 = .ok (.getfield 27, 3) := by decide +kernel
theorem dX5_raise_59 : decode cX5_raise 59 = .ok (.ifCond .le 4, 3) := by decide +kernel
theorem dX5_raise_62 : decode cX5_raise 62 = .ok (.return_, 1) := by decide +kernel
theorem dX5_raise_63 : decode cX5_raise 63 = .ok (.aload_n 0, 1) := by decide +kernel
theorem dX5_raise_64 : decode cX5_raise 64 = .ok (.iload_n 1, 1) := by decide +kernel
theorem dX5_raise_65 : decode cX5_raise 65 = .ok (.iload_n 2, 1) := by decide +kernel
theorem dX5_raise_66 : decode cX5_raise 66 = .ok (.iload_n 3, 1) := by decide +kernel
theorem dX5_raise_67 : decode cX5_raise 67 = .ok (.invokevirtual 105, 3) := by decide +kernel
theorem dX5_raise_70 : decode cX5_raise 70 = .ok (.aload_n 0, 1) := by decide +kernel
theorem dX5_raise_71 : decode cX5_raise 71 = .ok (.getfield 19, 3) := by decide +kernel
theorem dX5_raise_74 : decode cX5_raise 74 = .ok (.iload_n 3, 1) := by decide +kernel
theorem dX5_raise_75 : decode cX5_raise 75 = .ok (.iconst 1, 1) := by decide +kernel
theorem dX5_raise_76 : decode cX5_raise 76 = .ok (.bastore, 1) := by decide +kernel
theorem dX5_raise_77 : decode cX5_raise 77 = .ok (.return_, 1) := by decide +kernel
theorem dX5_test_0 : decode cX5_test 0 = .ok (.aload_n 0, 1) := by decide +kernel
theorem dX5_test_1 : decode cX5_test 1 = .ok (.aload_n 0, 1) := by decide +kernel
theorem dX5_test_2 : decode cX5_test 2 = .ok (.invokevirtual 101, 3) := by decide +kernel
theorem dX5_test_5 : decode cX5_test 5 = .ok (.ifCond .ne 7, 3) := by decide +kernel
theorem dX5_test_8 : decode cX5_test 8 = .ok (.iconst 1, 1) := by decide +kernel
theorem dX5_test_9 : decode cX5_test 9 = .ok (.goto 51, 3) := by decide +kernel
theorem dX5_test_12 : decode cX5_test 12 = .ok (.iload_n 1, 1) := by decide +kernel
theorem dX5_test_13 : decode cX5_test 13 = .ok (.ifCond .lt 11, 3) := by decide +kernel
theorem dX5_test_16 : decode cX5_test 16 = .ok (.iload_n 1, 1) := by decide +kernel
theorem dX5_test_17 : decode cX5_test 17 = .ok (.aload_n 0, 1) := by decide +kernel
theorem dX5_test_18 : decode cX5_test 18 = .ok (.getfield 94, 3) := by decide +kernel
theorem dX5_test_21 : decode cX5_test 21 = .ok (.if_icmp .lt 7, 3) := by decide +kernel
theorem dX5_test_24 : decode cX5_test 24 = .ok (.iconst 2, 1) := by decide +kernel
theorem dX5_test_25 : decode cX5_test 25 = .ok (.goto 35, 3) := by decide +kernel
theorem dX5_test_28 : decode cX5_test 28 = .ok (.aload_n 0, 1) := by decide +kernel
theorem dX5_test_29 : decode cX5_test 29 = .ok (.getfield 19, 3) := by decide +kernel
theorem dX5_test_32 : decode cX5_test 32 = .ok (.iconst 0, 1) := by decide +kernel
theorem dX5_test_33 : decode cX5_test 33 = .ok (.baload, 1) := by decide +kernel
theorem dX5_test_34 : decode cX5_test 34 = .ok (.ifCond .eq 21, 3) := by decide +kernel
theorem dX5_test_37 : decode cX5_test 37 = .ok (.aload_n 0, 1) := by decide +kernel
theorem dX5_test_38 : decode cX5_test 38 = .ok (.getfield 19, 3) := by decide +kernel
theorem dX5_test_41 : decode cX5_test 41 = .ok (.iconst 1, 1) := by decide +kernel
theorem dX5_test_42 : decode cX5_test 42 = .ok (.baload, 1) := by decide +kernel
theorem dX5_test_43 : decode cX5_test 43 = .ok (.ifCond .eq 12, 3) := by decide +kernel
theorem dX5_test_46 : decode cX5_test 46 = .ok (.aload_n 0, 1) := by decide +kernel
theorem dX5_test_47 : decode cX5_test 47 = .ok (.getfield 19, 3) := by decide +kernel
theorem dX5_test_50 : decode cX5_test 50 = .ok (.iconst 2, 1) := by decide +kernel
theorem dX5_test_51 : decode cX5_test 51 = .ok (.baload, 1) := by decide +kernel
theorem dX5_test_52 : decode cX5_test 52 = .ok (.ifCond .ne 7, 3) := by decide +kernel
theorem dX5_test_55 : decode cX5_test 55 = .ok (.iconst 3, 1) := by decide +kernel
theorem dX5_test_56 : decode cX5_test 56 = .ok (.goto 4, 3) := by decide +kernel
theorem dX5_test_59 : decode cX5_test 59 = .ok (.iconst 0, 1) := by decide +kernel
theorem dX5_test_60 : decode cX5_test 60 = .ok (.putfield 27, 3) := by decide +kernel
theorem dX5_test_63 : decode cX5_test 63 = .ok (.aload_n 0, 1) := by decide +kernel
theorem dX5_test_64 : decode cX5_test 64 = .ok (.getfield 27, 3) := by decide +kernel
theorem dX5_test_67 : decode cX5_test 67 = .ok (.ifCond .le 5, 3) := by decide +kernel
theorem dX5_test_70 : decode cX5_test 70 = .ok (.iconst 0, 1) := by decide +kernel
theorem dX5_test_71 : decode cX5_test 71 = .ok (.ireturn, 1) := by decide +kernel
theorem dX5_test_72 : decode cX5_test 72 = .ok (.aload_n 0, 1) := by decide +kernel
theorem dX5_test_73 : decode cX5_test 73 = .ok (.iconst 0, 1) := by decide +kernel
theorem dX5_test_74 : decode cX5_test 74 = .ok (.bipush 6, 2) := by decide +kernel
theorem dX5_test_76 : decode cX5_test 76 = .ok (.iconst 3, 1) := by decide +kernel
theorem dX5_test_77 : decode cX5_test 77 = .ok (.iload_n 1, 1) := by decide +kernel
theorem dX5_test_78 : decode cX5_test 78 = .ok (.imul, 1) := by decide +kernel
theorem dX5_test_79 : decode cX5_test 79 = .ok (.iadd, 1) := by decide +kernel
theorem dX5_test_80 : decode cX5_test 80 = .ok (.invokevirtual 135, 3) := by decide +kernel
theorem dX5_test_83 : decode cX5_test 83 = .ok (.ifCond .ne 5, 3) := by decide +kernel
theorem dX5_test_86 : decode cX5_test 86 = .ok (.iconst 1, 1) := by decide +kernel
theorem dX5_test_87 : decode cX5_test 87 = .ok (.ireturn, 1) := by decide +kernel
theorem dX5_test_88 : decode cX5_test 88 = .ok (.aload_n 0, 1) := by decide +kernel
theorem dX5_test_89 : decode cX5_test 89 = .ok (.iconst 1, 1) := by decide +kernel
theorem dX5_test_90 : decode cX5_test 90 = .ok (.invokevirtual 39, 3) := by decide +kernel
theorem dX5_test_93 : decode cX5_test 93 = .ok (.ifCond .eq 11, 3) := by decide +kernel
theorem dX5_test_96 : decode cX5_test 96 = .ok (.aload_n 0, 1) := by decide +kernel
theorem dX5_test_97 : decode cX5_test 97 = .ok (.iconst 2, 1) := by decide +kernel
theorem dX5_test_98 : decode cX5_test 98 = .ok (.invokevirtual 39, 3) := by decide +kernel
theorem dX5_test_101 : decode cX5_test 101 = .ok (.ifCond .ne 5, 3) := by decide +kernel
theorem dX5_test_104 : decode cX5_test 104 = .ok (.iconst 2, 1) := by decide +kernel
theorem dX5_test_105 : decode cX5_test 105 = .ok (.ireturn, 1) := by decide +kernel
theorem dX5_test_106 : decode cX5_test 106 = .ok (.aload_n 0, 1) := by decide +kernel
theorem dX5_test_107 : decode cX5_test 107 = .ok (.getfield 23, 3) := by decide +kernel
theorem dX5_test_110 : decode cX5_test 110 = .ok (.iconst 3, 1) := by decide +kernel
theorem dX5_test_111 : decode cX5_test 111 = .ok (.iload_n 1, 1) := by decide +kernel
theorem dX5_test_112 : decode cX5_test 112 = .ok (.imul, 1) := by decide +kernel
theorem dX5_test_113 : decode cX5_test 113 = .ok (.iaload, 1) := by decide +kernel
theorem dX5_test_114 : decode cX5_test 114 = .ok (.istore_n 2, 1) := by decide +kernel
theorem dX5_test_115 : decode cX5_test 115 = .ok (.aload_n 0, 1) := by decide +kernel
theorem dX5_test_116 : decode cX5_test 116 = .ok (.iconst 0, 1) := by decide +kernel
theorem dX5_test_117 : decode cX5_test 117 = .ok (.iconst 1, 1) := by decide +kernel
theorem dX5_test_118 : decode cX5_test 118 = .ok (.iconst 2, 1) := by decide +kernel
theorem dX5_test_119 : decode cX5_test 119 = .ok (.iload_n 2, 1) := by decide +kernel
theorem dX5_test_120 : decode cX5_test 120 = .ok (.aload_n 0, 1) := by decide +kernel
theorem dX5_test_121 : decode cX5_test 121 = .ok (.iconst 0, 1) := by decide +kernel
theorem dX5_test_122 : decode cX5_test 122 = .ok (.iconst 1, 1) := by decide +kernel
theorem dX5_test_123 : decode cX5_test 123 = .ok (.iload_n 2, 1) := by decide +kernel
theorem dX5_test_124 : decode cX5_test 124 = .ok (.invokevirtual 120, 3) := by decide +kernel
theorem dX5_test_127 : decode cX5_test 127 = .ok (.invokevirtual 139, 3) := by decide +kernel
theorem dX5_test_130 : decode cX5_test 130 = .ok (.ifCond .eq 7, 3) := by decide +kernel
theorem dX5_test_133 : decode cX5_test 133 = .ok (.iconst 0, 1) := by decide +kernel
theorem dX5_test_134 : decode cX5_test 134 = .ok (.goto 4, 3) := by decide +kernel
theorem dX5_test_137 : decode cX5_test 137 = .ok (.iconst 3, 1) := by decide +kernel
theorem dX5_test_138 : decode cX5_test 138 = .ok (.ireturn, 1) := by decide +kernel
theorem dX5_order_0 : decode cX5_order 0 = .ok (.aload_n 0, 1) := by decide +kernel
theorem dX5_order_1 : decode cX5_order 1 = .ok (.aload_n 0, 1) := by decide +kernel
theorem dX5_order_2 : decode cX5_order 2 = .ok (.invokevirtual 101, 3) := by decide +kernel
theorem dX5_order_5 : decode cX5_order 5 = .ok (.ifCond .ne 7, 3) := by decide +kernel
theorem dX5_order_8 : decode cX5_order 8 = .ok (.iconst 1, 1) := by decide +kernel
theorem dX5_order_9 : decode cX5_order 9 = .ok (.goto 20, 3) := by decide +kernel
theorem dX5_order_12 : decode cX5_order 12 = .ok (.iload_n 1, 1) := by decide +kernel
theorem dX5_order_13 : decode cX5_order 13 = .ok (.iconst 1, 1) := by decide +kernel
theorem dX5_order_14 : decode cX5_order 14 = .ok (.if_icmp .lt 10, 3) := by decide +kernel
theorem dX5_order_17 : decode cX5_order 17 = .ok (.iload_n 1, 1) := by decide +kernel
theorem dX5_order_18 : decode cX5_order 18 = .ok (.sipush 1000, 3) := by decide +kernel
theorem dX5_order_21 : decode cX5_order 21 = .ok (.if_icmp .le 7, 3) := by decide +kernel
theorem dX5_order_24 : decode cX5_order 24 = .ok (.iconst 2, 1) := by decide +kernel
theorem dX5_order_25 : decode cX5_order 25 = .ok (.goto 4, 3) := by decide +kernel
theorem dX5_order_28 : decode cX5_order 28 = .ok (.iconst 0, 1) := by decide +kernel
theorem dX5_order_29 : decode cX5_order 29 = .ok (.putfield 27, 3) := by decide +kernel
theorem dX5_order_32 : decode cX5_order 32 = .ok (.aload_n 0, 1) := by decide +kernel
theorem dX5_order_33 : decode cX5_order 33 = .ok (.getfield 27, 3) := by decide +kernel
theorem dX5_order_36 : decode cX5_order 36 = .ok (.ifCond .le 5, 3) := by decide +kernel
theorem dX5_order_39 : decode cX5_order 39 = .ok (.iconst 0, 1) := by decide +kernel
theorem dX5_order_40 : decode cX5_order 40 = .ok (.ireturn, 1) := by decide +kernel
theorem dX5_order_41 : decode cX5_order 41 = .ok (.aload_n 0, 1) := by decide +kernel
theorem dX5_order_42 : decode cX5_order 42 = .ok (.bipush 54, 2) := by decide +kernel
theorem dX5_order_44 : decode cX5_order 44 = .ok (.bipush 60, 2) := by decide +kernel
theorem dX5_order_46 : decode cX5_order 46 = .ok (.invokevirtual 62, 3) := by decide +kernel
theorem dX5_order_49 : decode cX5_order 49 = .ok (.iconst 1, 1) := by decide +kernel
theorem dX5_order_50 : decode cX5_order 50 = .ok (.istore_n 2, 1) := by decide +kernel
theorem dX5_order_51 : decode cX5_order 51 = .ok (.iload_n 2, 1) := by decide +kernel
theorem dX5_order_52 : decode cX5_order 52 = .ok (.iload_n 1, 1) := by decide +kernel
theorem dX5_order_53 : decode cX5_order 53 = .ok (.if_icmp .gt 32, 3) := by decide +kernel
theorem dX5_order_56 : decode cX5_order 56 = .ok (.aload_n 0, 1) := by decide +kernel
theorem dX5_order_57 : decode cX5_order 57 = .ok (.bipush 60, 2) := by decide +kernel
theorem dX5_order_59 : decode cX5_order 59 = .ok (.bipush 55, 2) := by decide +kernel
theorem dX5_order_61 : decode cX5_order 61 = .ok (.bipush 60, 2) := by decide +kernel
theorem dX5_order_63 : decode cX5_order 63 = .ok (.invokevirtual 69, 3) := by decide +kernel
theorem dX5_order_66 : decode cX5_order 66 = .ok (.aload_n 0, 1) := by decide +kernel
theorem dX5_order_67 : decode cX5_order 67 = .ok (.bipush 60, 2) := by decide +kernel
theorem dX5_order_69 : decode cX5_order 69 = .ok (.bipush 54, 2) := by decide +kernel
theorem dX5_order_71 : decode cX5_order 71 = .ok (.invokevirtual 135, 3) := by decide +kernel
theorem dX5_order_74 : decode cX5_order 74 = .ok (.ifCond .eq 5, 3) := by decide +kernel
theorem dX5_order_77 : decode cX5_order 77 = .ok (.iload_n 2, 1) := by decide +kernel
theorem dX5_order_78 : decode cX5_order 78 = .ok (.ireturn, 1) := by decide +kernel
theorem dX5_order_79 : decode cX5_order 79 = .ok (.iinc 2 1, 3) := by decide +kernel
theorem dX5_order_82 : decode cX5_order 82 = .ok (.goto (-31), 3) := by decide +kernel
theorem dX5_order_85 : decode cX5_order 85 = .ok (.iconst 0, 1) := by decide +kernel
theorem dX5_order_86 : decode cX5_order 86 = .ok (.ireturn, 1) := by decide +kernel
theorem dX5_classes_0 : decode cX5_classes 0 = .ok (.aload_n 0, 1) := by decide +kernel
theorem dX5_classes_1 : decode cX5_classes 1 = .ok (.aload_n 0, 1) := by decide +kernel
theorem dX5_classes_2 : decode cX5_classes 2 = .ok (.invokevirtual 101, 3) := by decide +kernel
theorem dX5_classes_5 : decode cX5_classes 5 = .ok (.ifCond .ne 7, 3) := by decide +kernel
theorem dX5_classes_8 : decode cX5_classes 8 = .ok (.iconst 1, 1) := by decide +kernel
theorem dX5_classes_9 : decode cX5_classes 9 = .ok (.goto 19, 3) := by decide +kernel
theorem dX5_classes_12 : decode cX5_classes 12 = .ok (.aload_n 0, 1) := by decide +kernel
theorem dX5_classes_13 : decode cX5_classes 13 = .ok (.getfield 90, 3) := by decide +kernel
theorem dX5_classes_16 : decode cX5_classes 16 = .ok (.ldc2_w 148, 3) := by decide +kernel
theorem dX5_classes_19 : decode cX5_classes 19 = .ok (.lcmp, 1) := by decide +kernel
theorem dX5_classes_20 : decode cX5_classes 20 = .ok (.ifCond .le 7, 3) := by decide +kernel
theorem dX5_classes_23 : decode cX5_classes 23 = .ok (.iconst 2, 1) := by decide +kernel
theorem dX5_classes_24 : decode cX5_classes 24 = .ok (.goto 4, 3) := by decide +kernel
theorem dX5_classes_27 : decode cX5_classes 27 = .ok (.iconst 0, 1) := by decide +kernel
theorem dX5_classes_28 : decode cX5_classes 28 = .ok (.putfield 27, 3) := by decide +kernel
theorem dX5_classes_31 : decode cX5_classes 31 = .ok (.aload_n 0, 1) := by decide +kernel
theorem dX5_classes_32 : decode cX5_classes 32 = .ok (.getfield 27, 3) := by decide +kernel
theorem dX5_classes_35 : decode cX5_classes 35 = .ok (.ifCond .le 5, 3) := by decide +kernel
theorem dX5_classes_38 : decode cX5_classes 38 = .ok (.iconst 0, 1) := by decide +kernel
theorem dX5_classes_39 : decode cX5_classes 39 = .ok (.ireturn, 1) := by decide +kernel
theorem dX5_classes_40 : decode cX5_classes 40 = .ok (.iconst 0, 1) := by decide +kernel
theorem dX5_classes_41 : decode cX5_classes 41 = .ok (.istore_n 1, 1) := by decide +kernel
theorem dX5_classes_42 : decode cX5_classes 42 = .ok (.lconst 1, 1) := by decide +kernel
theorem dX5_classes_43 : decode cX5_classes 43 = .ok (.lstore_n 2, 1) := by decide +kernel
theorem dX5_classes_44 : decode cX5_classes 44 = .ok (.ldc2_w 150, 3) := by decide +kernel
theorem dX5_classes_47 : decode cX5_classes 47 = .ok (.lload_n 2, 1) := by decide +kernel
theorem dX5_classes_48 : decode cX5_classes 48 = .ok (.lmul, 1) := by decide +kernel
theorem dX5_classes_49 : decode cX5_classes 49 = .ok (.lload_n 2, 1) := by decide +kernel
theorem dX5_classes_50 : decode cX5_classes 50 = .ok (.lmul, 1) := by decide +kernel
theorem dX5_classes_51 : decode cX5_classes 51 = .ok (.aload_n 0, 1) := by decide +kernel
theorem dX5_classes_52 : decode cX5_classes 52 = .ok (.getfield 90, 3) := by decide +kernel
theorem dX5_classes_55 : decode cX5_classes 55 = .ok (.lcmp, 1) := by decide +kernel
theorem dX5_classes_56 : decode cX5_classes 56 = .ok (.ifCond .gt 112, 3) := by decide +kernel
theorem dX5_classes_59 : decode cX5_classes 59 = .ok (.lload_n 2, 1) := by decide +kernel
theorem dX5_classes_60 : decode cX5_classes 60 = .ok (.lneg, 1) := by decide +kernel
theorem dX5_classes_61 : decode cX5_classes 61 = .ok (.lconst 1, 1) := by decide +kernel
theorem dX5_classes_62 : decode cX5_classes 62 = .ok (.ladd, 1) := by decide +kernel
theorem dX5_classes_63 : decode cX5_classes 63 = .ok (.lstore 4, 2) := by decide +kernel
theorem dX5_classes_65 : decode cX5_classes 65 = .ok (.lload 4, 2) := by decide +kernel
theorem dX5_classes_67 : decode cX5_classes 67 = .ok (.lload_n 2, 1) := by decide +kernel
theorem dX5_classes_68 : decode cX5_classes 68 = .ok (.lcmp, 1) := by decide +kernel
theorem dX5_classes_69 : decode cX5_classes 69 = .ok (.ifCond .gt 92, 3) := by decide +kernel
theorem dX5_classes_72 : decode cX5_classes 72 = .ok (.lload 4, 2) := by decide +kernel
theorem dX5_classes_74 : decode cX5_classes 74 = .ok (.lload 4, 2) := by decide +kernel
theorem dX5_classes_76 : decode cX5_classes 76 = .ok (.lmul, 1) := by decide +kernel
theorem dX5_classes_77 : decode cX5_classes 77 = .ok (.aload_n 0, 1) := by decide +kernel
theorem dX5_classes_78 : decode cX5_classes 78 = .ok (.getfield 90, 3) := by decide +kernel
theorem dX5_classes_81 : decode cX5_classes 81 = .ok (.ladd, 1) := by decide +kernel
theorem dX5_classes_82 : decode cX5_classes 82 = .ok (.lstore 6, 2) := by decide +kernel
theorem dX5_classes_84 : decode cX5_classes 84 = .ok (.lload 6, 2) := by decide +kernel
theorem dX5_classes_86 : decode cX5_classes 86 = .ok (.ldc2_w 97, 3) := by decide +kernel
theorem dX5_classes_89 : decode cX5_classes 89 = .ok (.lload_n 2, 1) := by decide +kernel
theorem dX5_classes_90 : decode cX5_classes 90 = .ok (.lmul, 1) := by decide +kernel
theorem dX5_classes_91 : decode cX5_classes 91 = .ok (.lrem, 1) := by decide +kernel
theorem dX5_classes_92 : decode cX5_classes 92 = .ok (.lconst 0, 1) := by decide +kernel
theorem dX5_classes_93 : decode cX5_classes 93 = .ok (.lcmp, 1) := by decide +kernel
theorem dX5_classes_94 : decode cX5_classes 94 = .ok (.ifCond .ne 58, 3) := by decide +kernel
theorem dX5_classes_97 : decode cX5_classes 97 = .ok (.aload_n 0, 1) := by decide +kernel
theorem dX5_classes_98 : decode cX5_classes 98 = .ok (.bipush 60, 2) := by decide +kernel
theorem dX5_classes_100 : decode cX5_classes 100 = .ok (.lload_n 2, 1) := by decide +kernel
theorem dX5_classes_101 : decode cX5_classes 101 = .ok (.lload 4, 2) := by decide +kernel
theorem dX5_classes_103 : decode cX5_classes 103 = .ok (.lload 6, 2) := by decide +kernel
theorem dX5_classes_105 : decode cX5_classes 105 = .ok (.ldc2_w 97, 3) := by decide +kernel
theorem dX5_classes_108 : decode cX5_classes 108 = .ok (.lload_n 2, 1) := by decide +kernel
theorem dX5_classes_109 : decode cX5_classes 109 = .ok (.lmul, 1) := by decide +kernel
theorem dX5_classes_110 : decode cX5_classes 110 = .ok (.ldiv, 1) := by decide +kernel
theorem dX5_classes_111 : decode cX5_classes 111 = .ok (.invokevirtual 35, 3) := by decide +kernel
theorem dX5_classes_114 : decode cX5_classes 114 = .ok (.aload_n 0, 1) := by decide +kernel
theorem dX5_classes_115 : decode cX5_classes 115 = .ok (.bipush 60, 2) := by decide +kernel
theorem dX5_classes_117 : decode cX5_classes 117 = .ok (.invokevirtual 39, 3) := by decide +kernel
theorem dX5_classes_120 : decode cX5_classes 120 = .ok (.ifCond .eq 30, 3) := by decide +kernel
theorem dX5_classes_123 : decode cX5_classes 123 = .ok (.lload_n 2, 1) := by decide +kernel
theorem dX5_classes_124 : decode cX5_classes 124 = .ok (.lload 4, 2) := by decide +kernel
theorem dX5_classes_126 : decode cX5_classes 126 = .ok (.invokestatic 48, 3) := by decide +kernel
theorem dX5_classes_129 : decode cX5_classes 129 = .ok (.aload_n 0, 1) := by decide +kernel
theorem dX5_classes_130 : decode cX5_classes 130 = .ok (.getfield 16, 3) := by decide +kernel
theorem dX5_classes_133 : decode cX5_classes 133 = .ok (.bipush 60, 2) := by decide +kernel
theorem dX5_classes_135 : decode cX5_classes 135 = .ok (.laload, 1) := by decide +kernel
theorem dX5_classes_136 : decode cX5_classes 136 = .ok (.invokestatic 48, 3) := by decide +kernel
theorem dX5_classes_139 : decode cX5_classes 139 = .ok (.lconst 1, 1) := by decide +kernel
theorem dX5_classes_140 : decode cX5_classes 140 = .ok (.lcmp, 1) := by decide +kernel
theorem dX5_classes_141 : decode cX5_classes 141 = .ok (.ifCond .ne 9, 3) := by decide +kernel
theorem dX5_classes_144 : decode cX5_classes 144 = .ok (.iload_n 1, 1) := by decide +kernel
theorem dX5_classes_145 : decode cX5_classes 145 = .ok (.iconst 1, 1) := by decide +kernel
theorem dX5_classes_146 : decode cX5_classes 146 = .ok (.iadd, 1) := by decide +kernel
theorem dX5_classes_147 : decode cX5_classes 147 = .ok (.goto 4, 3) := by decide +kernel
theorem dX5_classes_150 : decode cX5_classes 150 = .ok (.iload_n 1, 1) := by decide +kernel
theorem dX5_classes_151 : decode cX5_classes 151 = .ok (.istore_n 1, 1) := by decide +kernel
theorem dX5_classes_152 : decode cX5_classes 152 = .ok (.lload 4, 2) := by decide +kernel
theorem dX5_classes_154 : decode cX5_classes 154 = .ok (.lconst 1, 1) := by decide +kernel
theorem dX5_classes_155 : decode cX5_classes 155 = .ok (.ladd, 1) := by decide +kernel
theorem dX5_classes_156 : decode cX5_classes 156 = .ok (.lstore 4, 2) := by decide +kernel
theorem dX5_classes_158 : decode cX5_classes 158 = .ok (.goto (-93), 3) := by decide +kernel
theorem dX5_classes_161 : decode cX5_classes 161 = .ok (.lload_n 2, 1) := by decide +kernel
theorem dX5_classes_162 : decode cX5_classes 162 = .ok (.lconst 1, 1) := by decide +kernel
theorem dX5_classes_163 : decode cX5_classes 163 = .ok (.ladd, 1) := by decide +kernel
theorem dX5_classes_164 : decode cX5_classes 164 = .ok (.lstore_n 2, 1) := by decide +kernel
theorem dX5_classes_165 : decode cX5_classes 165 = .ok (.goto (-121), 3) := by decide +kernel
theorem dX5_classes_168 : decode cX5_classes 168 = .ok (.iload_n 1, 1) := by decide +kernel
theorem dX5_classes_169 : decode cX5_classes 169 = .ok (.ireturn, 1) := by decide +kernel
theorem dJ9_min_7cf53_0 : decode cJ9_min_7cf53 0 = .ok (.iload_n 0, 1) := by decide +kernel
theorem dJ9_min_7cf53_1 : decode cJ9_min_7cf53 1 = .ok (.iload_n 1, 1) := by decide +kernel
theorem dJ9_min_7cf53_2 : decode cJ9_min_7cf53 2 = .ok (.if_icmp .gt 7, 3) := by decide +kernel
theorem dJ9_min_7cf53_5 : decode cJ9_min_7cf53 5 = .ok (.iload_n 0, 1) := by decide +kernel
theorem dJ9_min_7cf53_6 : decode cJ9_min_7cf53 6 = .ok (.goto 4, 3) := by decide +kernel
theorem dJ9_min_7cf53_9 : decode cJ9_min_7cf53 9 = .ok (.iload_n 1, 1) := by decide +kernel
theorem dJ9_min_7cf53_10 : decode cJ9_min_7cf53 10 = .ok (.ireturn, 1) := by decide +kernel
theorem dL_discriminant_0 : decode cL_discriminant 0 = .ok (.aload_n 0, 1) := by decide +kernel
theorem dL_discriminant_1 : decode cL_discriminant 1 = .ok (.iload_n 1, 1) := by decide +kernel
theorem dL_discriminant_2 : decode cL_discriminant 2 = .ok (.invokevirtual 7, 3) := by decide +kernel
theorem dL_discriminant_5 : decode cL_discriminant 5 = .ok (.goto 9, 3) := by decide +kernel
theorem dL_discriminant_8 : decode cL_discriminant 8 = .ok (.astore_n 2, 1) := by decide +kernel
theorem dL_discriminant_9 : decode cL_discriminant 9 = .ok (.iconst 1, 1) := by decide +kernel
theorem dL_discriminant_10 : decode cL_discriminant 10 = .ok (.ireturn, 1) := by decide +kernel
theorem dL_discriminant_11 : decode cL_discriminant 11 = .ok (.astore_n 2, 1) := by decide +kernel
theorem dL_discriminant_12 : decode cL_discriminant 12 = .ok (.iconst 2, 1) := by decide +kernel
theorem dL_discriminant_13 : decode cL_discriminant 13 = .ok (.ireturn, 1) := by decide +kernel
theorem dL_discriminant_14 : decode cL_discriminant 14 = .ok (.iconst 0, 1) := by decide +kernel
theorem dL_discriminant_15 : decode cL_discriminant 15 = .ok (.ireturn, 1) := by decide +kernel
theorem dL_begin_0 : decode cL_begin 0 = .ok (.aload_n 2, 1) := by decide +kernel
theorem dL_begin_1 : decode cL_begin 1 = .ok (.iconst 0, 1) := by decide +kernel
theorem dL_begin_2 : decode cL_begin 2 = .ok (.aload_n 0, 1) := by decide +kernel
theorem dL_begin_3 : decode cL_begin 3 = .ok (.iload_n 1, 1) := by decide +kernel
theorem dL_begin_4 : decode cL_begin 4 = .ok (.invokevirtual 17, 3) := by decide +kernel
theorem dL_begin_7 : decode cL_begin 7 = .ok (.i2l, 1) := by decide +kernel
theorem dL_begin_8 : decode cL_begin 8 = .ok (.lastore, 1) := by decide +kernel
theorem dL_begin_9 : decode cL_begin 9 = .ok (.goto 9, 3) := by decide +kernel
theorem dL_begin_12 : decode cL_begin 12 = .ok (.astore_n 3, 1) := by decide +kernel
theorem dL_begin_13 : decode cL_begin 13 = .ok (.iconst 1, 1) := by decide +kernel
theorem dL_begin_14 : decode cL_begin 14 = .ok (.ireturn, 1) := by decide +kernel
theorem dL_begin_15 : decode cL_begin 15 = .ok (.astore_n 3, 1) := by decide +kernel
theorem dL_begin_16 : decode cL_begin 16 = .ok (.iconst 2, 1) := by decide +kernel
theorem dL_begin_17 : decode cL_begin 17 = .ok (.ireturn, 1) := by decide +kernel
theorem dL_begin_18 : decode cL_begin 18 = .ok (.iconst 0, 1) := by decide +kernel
theorem dL_begin_19 : decode cL_begin 19 = .ok (.ireturn, 1) := by decide +kernel
theorem dL_work_0 : decode cL_work 0 = .ok (.aload_n 2, 1) := by decide +kernel
theorem dL_work_1 : decode cL_work 1 = .ok (.iconst 0, 1) := by decide +kernel
theorem dL_work_2 : decode cL_work 2 = .ok (.aload_n 0, 1) := by decide +kernel
theorem dL_work_3 : decode cL_work 3 = .ok (.iload_n 1, 1) := by decide +kernel
theorem dL_work_4 : decode cL_work 4 = .ok (.invokevirtual 21, 3) := by decide +kernel
theorem dL_work_7 : decode cL_work 7 = .ok (.i2l, 1) := by decide +kernel
theorem dL_work_8 : decode cL_work 8 = .ok (.lastore, 1) := by decide +kernel
theorem dL_work_9 : decode cL_work 9 = .ok (.goto 9, 3) := by decide +kernel
theorem dL_work_12 : decode cL_work 12 = .ok (.astore_n 3, 1) := by decide +kernel
theorem dL_work_13 : decode cL_work 13 = .ok (.iconst 1, 1) := by decide +kernel
theorem dL_work_14 : decode cL_work 14 = .ok (.ireturn, 1) := by decide +kernel
theorem dL_work_15 : decode cL_work 15 = .ok (.astore_n 3, 1) := by decide +kernel
theorem dL_work_16 : decode cL_work 16 = .ok (.iconst 2, 1) := by decide +kernel
theorem dL_work_17 : decode cL_work 17 = .ok (.ireturn, 1) := by decide +kernel
theorem dL_work_18 : decode cL_work 18 = .ok (.iconst 0, 1) := by decide +kernel
theorem dL_work_19 : decode cL_work 19 = .ok (.ireturn, 1) := by decide +kernel
