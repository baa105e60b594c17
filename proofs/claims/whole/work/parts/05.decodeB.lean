theorem dX4_begin_129 : decode cX4_begin 129 = .ok (.aload_n 2, 1) := by decide +kernel
theorem dX4_begin_130 : decode cX4_begin 130 = .ok (.getfield 90, 3) := by decide +kernel
theorem dX4_begin_133 : decode cX4_begin 133 = .ok (.ireturn, 1) := by decide +kernel
theorem dX4_work_0 : decode cX4_work 0 = .ok (.aload_n 0, 1) := by decide +kernel
theorem dX4_work_1 : decode cX4_work 1 = .ok (.invokevirtual 63, 3) := by decide +kernel
theorem dX4_work_4 : decode cX4_work 4 = .ok (.iload_n 1, 1) := by decide +kernel
theorem dX4_work_5 : decode cX4_work 5 = .ok (.invokestatic 66, 3) := by decide +kernel
theorem dX4_work_8 : decode cX4_work 8 = .ok (.aload_n 0, 1) := by decide +kernel
theorem dX4_work_9 : decode cX4_work 9 = .ok (.getfield 42, 3) := by decide +kernel
theorem dX4_work_12 : decode cX4_work 12 = .ok (.ifnull 13, 3) := by decide +kernel
theorem dX4_work_15 : decode cX4_work 15 = .ok (.aload_n 0, 1) := by decide +kernel
theorem dX4_work_16 : decode cX4_work 16 = .ok (.getfield 42, 3) := by decide +kernel
theorem dX4_work_19 : decode cX4_work 19 = .ok (.getfield 74, 3) := by decide +kernel
theorem dX4_work_22 : decode cX4_work 22 = .ok (.ifCond .ne 13, 3) := by decide +kernel
theorem dX4_work_25 : decode cX4_work 25 = .ok (.new 54, 3) := by decide +kernel
theorem dX4_work_28 : decode cX4_work 28 = .ok (.dup, 1) := by decide +kernel
theorem dX4_work_29 : decode cX4_work 29 = .ok (.ldc 117, 2) := by decide +kernel
theorem dX4_work_31 : decode cX4_work 31 = .ok (.invokespecial 58, 3) := by decide +kernel
theorem dX4_work_34 : decode cX4_work 34 = .ok (.athrow, 1) := by decide +kernel
theorem dX4_work_35 : decode cX4_work 35 = .ok (.iload_n 1, 1) := by decide +kernel
theorem dX4_work_36 : decode cX4_work 36 = .ok (.aload_n 0, 1) := by decide +kernel
theorem dX4_work_37 : decode cX4_work 37 = .ok (.getfield 42, 3) := by decide +kernel
theorem dX4_work_40 : decode cX4_work 40 = .ok (.getfield 74, 3) := by decide +kernel
theorem dX4_work_43 : decode cX4_work 43 = .ok (.invokestatic 119, 3) := by decide +kernel
theorem dX4_work_46 : decode cX4_work 46 = .ok (.istore_n 2, 1) := by decide +kernel
theorem dX4_work_47 : decode cX4_work 47 = .ok (.iconst 0, 1) := by decide +kernel
theorem dX4_work_48 : decode cX4_work 48 = .ok (.istore_n 3, 1) := by decide +kernel
theorem dX4_work_49 : decode cX4_work 49 = .ok (.iload_n 3, 1) := by decide +kernel
theorem dX4_work_50 : decode cX4_work 50 = .ok (.iload_n 2, 1) := by decide +kernel
theorem dX4_work_51 : decode cX4_work 51 = .ok (.if_icmp .ge 37, 3) := by decide +kernel
theorem dX4_work_54 : decode cX4_work 54 = .ok (.aload_n 0, 1) := by decide +kernel
theorem dX4_work_55 : decode cX4_work 55 = .ok (.getfield 10, 3) := by decide +kernel
theorem dX4_work_58 : decode cX4_work 58 = .ok (.aload_n 0, 1) := by decide +kernel
theorem dX4_work_59 : decode cX4_work 59 = .ok (.getfield 42, 3) := by decide +kernel
theorem dX4_work_62 : decode cX4_work 62 = .ok (.getfield 104, 3) := by decide +kernel
theorem dX4_work_65 : decode cX4_work 65 = .ok (.aload_n 0, 1) := by decide +kernel
theorem dX4_work_66 : decode cX4_work 66 = .ok (.getfield 42, 3) := by decide +kernel
theorem dX4_work_69 : decode cX4_work 69 = .ok (.getfield 104, 3) := by decide +kernel
theorem dX4_work_72 : decode cX4_work 72 = .ok (.aload_n 0, 1) := by decide +kernel
theorem dX4_work_73 : decode cX4_work 73 = .ok (.getfield 42, 3) := by decide +kernel
theorem dX4_work_76 : decode cX4_work 76 = .ok (.getfield 104, 3) := by decide +kernel
theorem dX4_work_79 : decode cX4_work 79 = .ok (.invokevirtual 125, 3) := by decide +kernel
theorem dX4_work_82 : decode cX4_work 82 = .ok (.iinc 3 1, 3) := by decide +kernel
theorem dX4_work_85 : decode cX4_work 85 = .ok (.goto (-36), 3) := by decide +kernel
theorem dX4_work_88 : decode cX4_work 88 = .ok (.aload_n 0, 1) := by decide +kernel
theorem dX4_work_89 : decode cX4_work 89 = .ok (.getfield 42, 3) := by decide +kernel
theorem dX4_work_92 : decode cX4_work 92 = .ok (.dup, 1) := by decide +kernel
theorem dX4_work_93 : decode cX4_work 93 = .ok (.getfield 74, 3) := by decide +kernel
theorem dX4_work_96 : decode cX4_work 96 = .ok (.iload_n 2, 1) := by decide +kernel
theorem dX4_work_97 : decode cX4_work 97 = .ok (.isub, 1) := by decide +kernel
theorem dX4_work_98 : decode cX4_work 98 = .ok (.putfield 74, 3) := by decide +kernel
theorem dX4_work_101 : decode cX4_work 101 = .ok (.aload_n 0, 1) := by decide +kernel
theorem dX4_work_102 : decode cX4_work 102 = .ok (.getfield 42, 3) := by decide +kernel
theorem dX4_work_105 : decode cX4_work 105 = .ok (.getfield 74, 3) := by decide +kernel
theorem dX4_work_108 : decode cX4_work 108 = .ok (.ifCond .ne 34, 3) := by decide +kernel
theorem dX4_work_111 : decode cX4_work 111 = .ok (.aload_n 0, 1) := by decide +kernel
theorem dX4_work_112 : decode cX4_work 112 = .ok (.getfield 42, 3) := by decide +kernel
theorem dX4_work_115 : decode cX4_work 115 = .ok (.aload_n 0, 1) := by decide +kernel
theorem dX4_work_116 : decode cX4_work 116 = .ok (.getfield 42, 3) := by decide +kernel
theorem dX4_work_119 : decode cX4_work 119 = .ok (.getfield 97, 3) := by decide +kernel
theorem dX4_work_122 : decode cX4_work 122 = .ok (.aload_n 0, 1) := by decide +kernel
theorem dX4_work_123 : decode cX4_work 123 = .ok (.getfield 42, 3) := by decide +kernel
theorem dX4_work_126 : decode cX4_work 126 = .ok (.getfield 104, 3) := by decide +kernel
theorem dX4_work_129 : decode cX4_work 129 = .ok (.aload_n 0, 1) := by decide +kernel
theorem dX4_work_130 : decode cX4_work 130 = .ok (.getfield 42, 3) := by decide +kernel
theorem dX4_work_133 : decode cX4_work 133 = .ok (.getfield 71, 3) := by decide +kernel
theorem dX4_work_136 : decode cX4_work 136 = .ok (.invokestatic 129, 3) := by decide +kernel
theorem dX4_work_139 : decode cX4_work 139 = .ok (.putfield 80, 3) := by decide +kernel
theorem dX4_work_142 : decode cX4_work 142 = .ok (.aload_n 0, 1) := by decide +kernel
theorem dX4_work_143 : decode cX4_work 143 = .ok (.getfield 42, 3) := by decide +kernel
theorem dX4_work_146 : decode cX4_work 146 = .ok (.getfield 74, 3) := by decide +kernel
theorem dX4_work_149 : decode cX4_work 149 = .ok (.ireturn, 1) := by decide +kernel
theorem dX4_prove_0 : decode cX4_prove 0 = .ok (.aload_n 0, 1) := by decide +kernel
theorem dX4_prove_1 : decode cX4_prove 1 = .ok (.invokevirtual 63, 3) := by decide +kernel
theorem dX4_prove_4 : decode cX4_prove 4 = .ok (.iload_n 1, 1) := by decide +kernel
theorem dX4_prove_5 : decode cX4_prove 5 = .ok (.invokestatic 66, 3) := by decide +kernel
theorem dX4_prove_8 : decode cX4_prove 8 = .ok (.aload_n 0, 1) := by decide +kernel
theorem dX4_prove_9 : decode cX4_prove 9 = .ok (.getfield 42, 3) := by decide +kernel
theorem dX4_prove_12 : decode cX4_prove 12 = .ok (.ifnull 23, 3) := by decide +kernel
theorem dX4_prove_15 : decode cX4_prove 15 = .ok (.aload_n 0, 1) := by decide +kernel
theorem dX4_prove_16 : decode cX4_prove 16 = .ok (.getfield 42, 3) := by decide +kernel
theorem dX4_prove_19 : decode cX4_prove 19 = .ok (.getfield 74, 3) := by decide +kernel
theorem dX4_prove_22 : decode cX4_prove 22 = .ok (.ifCond .gt 13, 3) := by decide +kernel
theorem dX4_prove_25 : decode cX4_prove 25 = .ok (.aload_n 0, 1) := by decide +kernel
theorem dX4_prove_26 : decode cX4_prove 26 = .ok (.getfield 42, 3) := by decide +kernel
theorem dX4_prove_29 : decode cX4_prove 29 = .ok (.getfield 77, 3) := by decide +kernel
theorem dX4_prove_32 : decode cX4_prove 32 = .ok (.ifCond .ne 13, 3) := by decide +kernel
theorem dX4_prove_35 : decode cX4_prove 35 = .ok (.new 54, 3) := by decide +kernel
theorem dX4_prove_38 : decode cX4_prove 38 = .ok (.dup, 1) := by decide +kernel
theorem dX4_prove_39 : decode cX4_prove 39 = .ok (.ldc 133, 2) := by decide +kernel
theorem dX4_prove_41 : decode cX4_prove 41 = .ok (.invokespecial 58, 3) := by decide +kernel
theorem dX4_prove_44 : decode cX4_prove 44 = .ok (.athrow, 1) := by decide +kernel
theorem dX4_prove_45 : decode cX4_prove 45 = .ok (.iload_n 1, 1) := by decide +kernel
theorem dX4_prove_46 : decode cX4_prove 46 = .ok (.aload_n 0, 1) := by decide +kernel
theorem dX4_prove_47 : decode cX4_prove 47 = .ok (.getfield 42, 3) := by decide +kernel
theorem dX4_prove_50 : decode cX4_prove 50 = .ok (.getfield 77, 3) := by decide +kernel
theorem dX4_prove_53 : decode cX4_prove 53 = .ok (.invokestatic 119, 3) := by decide +kernel
theorem dX4_prove_56 : decode cX4_prove 56 = .ok (.istore_n 2, 1) := by decide +kernel
theorem dX4_prove_57 : decode cX4_prove 57 = .ok (.iconst 0, 1) := by decide +kernel
theorem dX4_prove_58 : decode cX4_prove 58 = .ok (.istore_n 3, 1) := by decide +kernel
theorem dX4_prove_59 : decode cX4_prove 59 = .ok (.iload_n 3, 1) := by decide +kernel
theorem dX4_prove_60 : decode cX4_prove 60 = .ok (.iload_n 2, 1) := by decide +kernel
theorem dX4_prove_61 : decode cX4_prove 61 = .ok (.if_icmp .ge 17, 3) := by decide +kernel
theorem dX4_prove_64 : decode cX4_prove 64 = .ok (.aload_n 0, 1) := by decide +kernel
theorem dX4_prove_65 : decode cX4_prove 65 = .ok (.aload_n 0, 1) := by decide +kernel
theorem dX4_prove_66 : decode cX4_prove 66 = .ok (.getfield 42, 3) := by decide +kernel
theorem dX4_prove_69 : decode cX4_prove 69 = .ok (.invokevirtual 135, 3) := by decide +kernel
theorem dX4_prove_72 : decode cX4_prove 72 = .ok (.iinc 3 1, 3) := by decide +kernel
theorem dX4_prove_75 : decode cX4_prove 75 = .ok (.goto (-16), 3) := by decide +kernel
theorem dX4_prove_78 : decode cX4_prove 78 = .ok (.aload_n 0, 1) := by decide +kernel
theorem dX4_prove_79 : decode cX4_prove 79 = .ok (.getfield 42, 3) := by decide +kernel
theorem dX4_prove_82 : decode cX4_prove 82 = .ok (.dup, 1) := by decide +kernel
theorem dX4_prove_83 : decode cX4_prove 83 = .ok (.getfield 77, 3) := by decide +kernel
theorem dX4_prove_86 : decode cX4_prove 86 = .ok (.iload_n 2, 1) := by decide +kernel
theorem dX4_prove_87 : decode cX4_prove 87 = .ok (.isub, 1) := by decide +kernel
theorem dX4_prove_88 : decode cX4_prove 88 = .ok (.putfield 77, 3) := by decide +kernel
theorem dX4_prove_91 : decode cX4_prove 91 = .ok (.aload_n 0, 1) := by decide +kernel
theorem dX4_prove_92 : decode cX4_prove 92 = .ok (.getfield 42, 3) := by decide +kernel
theorem dX4_prove_95 : decode cX4_prove 95 = .ok (.getfield 77, 3) := by decide +kernel
theorem dX4_prove_98 : decode cX4_prove 98 = .ok (.ireturn, 1) := by decide +kernel
theorem dX4_publish_0 : decode cX4_publish 0 = .ok (.aload_n 0, 1) := by decide +kernel
theorem dX4_publish_1 : decode cX4_publish 1 = .ok (.invokevirtual 63, 3) := by decide +kernel
theorem dX4_publish_4 : decode cX4_publish 4 = .ok (.aload_n 0, 1) := by decide +kernel
theorem dX4_publish_5 : decode cX4_publish 5 = .ok (.getfield 42, 3) := by decide +kernel
theorem dX4_publish_8 : decode cX4_publish 8 = .ok (.ifnull 23, 3) := by decide +kernel
theorem dX4_publish_11 : decode cX4_publish 11 = .ok (.aload_n 0, 1) := by decide +kernel
theorem dX4_publish_12 : decode cX4_publish 12 = .ok (.getfield 42, 3) := by decide +kernel
theorem dX4_publish_15 : decode cX4_publish 15 = .ok (.getfield 74, 3) := by decide +kernel
theorem dX4_publish_18 : decode cX4_publish 18 = .ok (.ifCond .gt 13, 3) := by decide +kernel
theorem dX4_publish_21 : decode cX4_publish 21 = .ok (.aload_n 0, 1) := by decide +kernel
theorem dX4_publish_22 : decode cX4_publish 22 = .ok (.getfield 42, 3) := by decide +kernel
theorem dX4_publish_25 : decode cX4_publish 25 = .ok (.getfield 77, 3) := by decide +kernel
theorem dX4_publish_28 : decode cX4_publish 28 = .ok (.ifCond .le 13, 3) := by decide +kernel
theorem dX4_publish_31 : decode cX4_publish 31 = .ok (.new 54, 3) := by decide +kernel
theorem dX4_publish_34 : decode cX4_publish 34 = .ok (.dup, 1) := by decide +kernel
theorem dX4_publish_35 : decode cX4_publish 35 = .ok (.ldc 139, 2) := by decide +kernel
theorem dX4_publish_37 : decode cX4_publish 37 = .ok (.invokespecial 58, 3) := by decide +kernel
theorem dX4_publish_40 : decode cX4_publish 40 = .ok (.athrow, 1) := by decide +kernel
theorem dX4_publish_41 : decode cX4_publish 41 = .ok (.aload_n 0, 1) := by decide +kernel
theorem dX4_publish_42 : decode cX4_publish 42 = .ok (.aconst_null, 1) := by decide +kernel
theorem dX4_publish_43 : decode cX4_publish 43 = .ok (.putfield 42, 3) := by decide +kernel
theorem dX4_publish_46 : decode cX4_publish 46 = .ok (.aload_n 0, 1) := by decide +kernel
theorem dX4_publish_47 : decode cX4_publish 47 = .ok (.dup, 1) := by decide +kernel
theorem dX4_publish_48 : decode cX4_publish 48 = .ok (.getfield 38, 3) := by decide +kernel
theorem dX4_publish_51 : decode cX4_publish 51 = .ok (.iconst 1, 1) := by decide +kernel
theorem dX4_publish_52 : decode cX4_publish 52 = .ok (.iadd, 1) := by decide +kernel
theorem dX4_publish_53 : decode cX4_publish 53 = .ok (.putfield 38, 3) := by decide +kernel
theorem dX4_publish_56 : decode cX4_publish 56 = .ok (.aload_n 0, 1) := by decide +kernel
theorem dX4_publish_57 : decode cX4_publish 57 = .ok (.getfield 38, 3) := by decide +kernel
theorem dX4_publish_60 : decode cX4_publish 60 = .ok (.ireturn, 1) := by decide +kernel
theorem dX4_drop_0 : decode cX4_drop 0 = .ok (.aload_n 0, 1) := by decide +kernel
theorem dX4_drop_1 : decode cX4_drop 1 = .ok (.getfield 42, 3) := by decide +kernel
theorem dX4_drop_4 : decode cX4_drop 4 = .ok (.ifnull 7, 3) := by decide +kernel
theorem dX4_drop_7 : decode cX4_drop 7 = .ok (.iconst 1, 1) := by decide +kernel
theorem dX4_drop_8 : decode cX4_drop 8 = .ok (.goto 4, 3) := by decide +kernel
theorem dX4_drop_11 : decode cX4_drop 11 = .ok (.iconst 0, 1) := by decide +kernel
theorem dX4_drop_12 : decode cX4_drop 12 = .ok (.istore_n 1, 1) := by decide +kernel
theorem dX4_drop_13 : decode cX4_drop 13 = .ok (.aload_n 0, 1) := by decide +kernel
theorem dX4_drop_14 : decode cX4_drop 14 = .ok (.aconst_null, 1) := by decide +kernel
theorem dX4_drop_15 : decode cX4_drop 15 = .ok (.putfield 42, 3) := by decide +kernel
theorem dX4_drop_18 : decode cX4_drop 18 = .ok (.iload_n 1, 1) := by decide +kernel
theorem dX4_drop_19 : decode cX4_drop 19 = .ok (.ireturn, 1) := by decide +kernel
theorem dX4_rounds_0 : decode cX4_rounds 0 = .ok (.aload_n 0, 1) := by decide +kernel
theorem dX4_rounds_1 : decode cX4_rounds 1 = .ok (.getfield 38, 3) := by decide +kernel
theorem dX4_rounds_4 : decode cX4_rounds 4 = .ok (.ireturn, 1) := by decide +kernel
theorem dX4_told_0 : decode cX4_told 0 = .ok (.aload_n 0, 1) := by decide +kernel
theorem dX4_told_1 : decode cX4_told 1 = .ok (.invokevirtual 63, 3) := by decide +kernel
theorem dX4_told_4 : decode cX4_told 4 = .ok (.aload_n 0, 1) := by decide +kernel
theorem dX4_told_5 : decode cX4_told 5 = .ok (.iload_n 1, 1) := by decide +kernel
theorem dX4_told_6 : decode cX4_told 6 = .ok (.invokevirtual 141, 3) := by decide +kernel
theorem dX4_told_9 : decode cX4_told 9 = .ok (.astore_n 3, 1) := by decide +kernel
theorem dX4_told_10 : decode cX4_told 10 = .ok (.iload_n 2, 1) := by decide +kernel
theorem dX4_told_11 : decode cX4_told 11 = .ok (.tableswitch 40 0 2 #[25, 30, 35], 25) := by decide +kernel
theorem dX4_told_36 : decode cX4_told 36 = .ok (.aload_n 3, 1) := by decide +kernel
theorem dX4_told_37 : decode cX4_told 37 = .ok (.getfield 71, 3) := by decide +kernel
theorem dX4_told_40 : decode cX4_told 40 = .ok (.ireturn, 1) := by decide +kernel
theorem dX4_told_41 : decode cX4_told 41 = .ok (.aload_n 3, 1) := by decide +kernel
theorem dX4_told_42 : decode cX4_told 42 = .ok (.getfield 90, 3) := by decide +kernel
theorem dX4_told_45 : decode cX4_told 45 = .ok (.ireturn, 1) := by decide +kernel
theorem dX4_told_46 : decode cX4_told 46 = .ok (.aload_n 3, 1) := by decide +kernel
theorem dX4_told_47 : decode cX4_told 47 = .ok (.getfield 80, 3) := by decide +kernel
theorem dX4_told_50 : decode cX4_told 50 = .ok (.ireturn, 1) := by decide +kernel
theorem dX4_told_51 : decode cX4_told 51 = .ok (.new 145, 3) := by decide +kernel
theorem dX4_told_54 : decode cX4_told 54 = .ok (.dup, 1) := by decide +kernel
theorem dX4_told_55 : decode cX4_told 55 = .ok (.ldc 147, 2) := by decide +kernel
theorem dX4_told_57 : decode cX4_told 57 = .ok (.invokespecial 149, 3) := by decide +kernel
theorem dX4_told_60 : decode cX4_told 60 = .ok (.athrow, 1) := by decide +kernel
theorem dX4_form_0 : decode cX4_form 0 = .ok (.aload_n 0, 1) := by decide +kernel
theorem dX4_form_1 : decode cX4_form 1 = .ok (.invokevirtual 63, 3) := by decide +kernel
theorem dX4_form_4 : decode cX4_form 4 = .ok (.aload_n 0, 1) := by decide +kernel
theorem dX4_form_5 : decode cX4_form 5 = .ok (.iload_n 1, 1) := by decide +kernel
theorem dX4_form_6 : decode cX4_form 6 = .ok (.invokevirtual 141, 3) := by decide +kernel
theorem dX4_form_9 : decode cX4_form 9 = .ok (.astore 4, 2) := by decide +kernel
theorem dX4_form_11 : decode cX4_form 11 = .ok (.iload_n 3, 1) := by decide +kernel
theorem dX4_form_12 : decode cX4_form 12 = .ok (.invokestatic 150, 3) := by decide +kernel
theorem dX4_form_15 : decode cX4_form 15 = .ok (.iload_n 2, 1) := by decide +kernel
theorem dX4_form_16 : decode cX4_form 16 = .ok (.tableswitch 61 0 2 #[28, 39, 50], 28) := by decide +kernel
theorem dX4_form_44 : decode cX4_form 44 = .ok (.aload 4, 2) := by decide +kernel
theorem dX4_form_46 : decode cX4_form 46 = .ok (.getfield 97, 3) := by decide +kernel
theorem dX4_form_49 : decode cX4_form 49 = .ok (.iload_n 3, 1) := by decide +kernel
theorem dX4_form_50 : decode cX4_form 50 = .ok (.invokevirtual 153, 3) := by decide +kernel
theorem dX4_form_53 : decode cX4_form 53 = .ok (.l2i, 1) := by decide +kernel
theorem dX4_form_54 : decode cX4_form 54 = .ok (.ireturn, 1) := by decide +kernel
theorem dX4_form_55 : decode cX4_form 55 = .ok (.aload 4, 2) := by decide +kernel
theorem dX4_form_57 : decode cX4_form 57 = .ok (.getfield 104, 3) := by decide +kernel
theorem dX4_form_60 : decode cX4_form 60 = .ok (.iload_n 3, 1) := by decide +kernel
theorem dX4_form_61 : decode cX4_form 61 = .ok (.invokevirtual 153, 3) := by decide +kernel
theorem dX4_form_64 : decode cX4_form 64 = .ok (.l2i, 1) := by decide +kernel
theorem dX4_form_65 : decode cX4_form 65 = .ok (.ireturn, 1) := by decide +kernel
theorem dX4_form_66 : decode cX4_form 66 = .ok (.aload 4, 2) := by decide +kernel
theorem dX4_form_68 : decode cX4_form 68 = .ok (.getfield 111, 3) := by decide +kernel
theorem dX4_form_71 : decode cX4_form 71 = .ok (.iload_n 3, 1) := by decide +kernel
theorem dX4_form_72 : decode cX4_form 72 = .ok (.invokevirtual 153, 3) := by decide +kernel
theorem dX4_form_75 : decode cX4_form 75 = .ok (.l2i, 1) := by decide +kernel
theorem dX4_form_76 : decode cX4_form 76 = .ok (.ireturn, 1) := by decide +kernel
theorem dX4_form_77 : decode cX4_form 77 = .ok (.new 145, 3) := by decide +kernel
theorem dX4_form_80 : decode cX4_form 80 = .ok (.dup, 1) := by decide +kernel
theorem dX4_form_81 : decode cX4_form 81 = .ok (.ldc 157, 2) := by decide +kernel
theorem dX4_form_83 : decode cX4_form 83 = .ok (.invokespecial 149, 3) := by decide +kernel
theorem dX4_form_86 : decode cX4_form 86 = .ok (.athrow, 1) := by decide +kernel
theorem dX4_verify_0 : decode cX4_verify 0 = .ok (.aload_n 0, 1) := by decide +kernel
theorem dX4_verify_1 : decode cX4_verify 1 = .ok (.invokevirtual 63, 3) := by decide +kernel
theorem dX4_verify_4 : decode cX4_verify 4 = .ok (.aload_n 0, 1) := by decide +kernel
theorem dX4_verify_5 : decode cX4_verify 5 = .ok (.iload_n 1, 1) := by decide +kernel
theorem dX4_verify_6 : decode cX4_verify 6 = .ok (.invokevirtual 159, 3) := by decide +kernel
theorem dX4_verify_9 : decode cX4_verify 9 = .ok (.astore_n 2, 1) := by decide +kernel
theorem dX4_verify_10 : decode cX4_verify 10 = .ok (.aload_n 0, 1) := by decide +kernel
theorem dX4_verify_11 : decode cX4_verify 11 = .ok (.getfield 10, 3) := by decide +kernel
theorem dX4_verify_14 : decode cX4_verify 14 = .ok (.aload_n 2, 1) := by decide +kernel
theorem dX4_verify_15 : decode cX4_verify 15 = .ok (.getfield 97, 3) := by decide +kernel
theorem dX4_verify_18 : decode cX4_verify 18 = .ok (.aload_n 2, 1) := by decide +kernel
theorem dX4_verify_19 : decode cX4_verify 19 = .ok (.getfield 90, 3) := by decide +kernel
theorem dX4_verify_22 : decode cX4_verify 22 = .ok (.invokevirtual 162, 3) := by decide +kernel
theorem dX4_verify_25 : decode cX4_verify 25 = .ok (.ifCond .eq 37, 3) := by decide +kernel
theorem dX4_verify_28 : decode cX4_verify 28 = .ok (.aload_n 0, 1) := by decide +kernel
theorem dX4_verify_29 : decode cX4_verify 29 = .ok (.getfield 10, 3) := by decide +kernel
theorem dX4_verify_32 : decode cX4_verify 32 = .ok (.aload_n 2, 1) := by decide +kernel
theorem dX4_verify_33 : decode cX4_verify 33 = .ok (.getfield 97, 3) := by decide +kernel
theorem dX4_verify_36 : decode cX4_verify 36 = .ok (.aload_n 2, 1) := by decide +kernel
theorem dX4_verify_37 : decode cX4_verify 37 = .ok (.getfield 104, 3) := by decide +kernel
theorem dX4_verify_40 : decode cX4_verify 40 = .ok (.aload_n 2, 1) := by decide +kernel
theorem dX4_verify_41 : decode cX4_verify 41 = .ok (.getfield 111, 3) := by decide +kernel
theorem dX4_verify_44 : decode cX4_verify 44 = .ok (.aload_n 2, 1) := by decide +kernel
theorem dX4_verify_45 : decode cX4_verify 45 = .ok (.getfield 80, 3) := by decide +kernel
theorem dX4_verify_48 : decode cX4_verify 48 = .ok (.aload_n 2, 1) := by decide +kernel
theorem dX4_verify_49 : decode cX4_verify 49 = .ok (.getfield 71, 3) := by decide +kernel
theorem dX4_verify_52 : decode cX4_verify 52 = .ok (.invokevirtual 166, 3) := by decide +kernel
theorem dX4_verify_55 : decode cX4_verify 55 = .ok (.ifCond .eq 7, 3) := by decide +kernel
theorem dX4_verify_58 : decode cX4_verify 58 = .ok (.iconst 1, 1) := by decide +kernel
theorem dX4_verify_59 : decode cX4_verify 59 = .ok (.goto 4, 3) := by decide +kernel
theorem dX4_verify_62 : decode cX4_verify 62 = .ok (.iconst 0, 1) := by decide +kernel
theorem dX4_verify_63 : decode cX4_verify 63 = .ok (.ireturn, 1) := by decide +kernel
theorem dX4_put_0 : decode cX4_put 0 = .ok (.aload_n 0, 1) := by decide +kernel
theorem dX4_put_1 : decode cX4_put 1 = .ok (.invokevirtual 63, 3) := by decide +kernel
theorem dX4_put_4 : decode cX4_put 4 = .ok (.iload_n 1, 1) := by decide +kernel
theorem dX4_put_5 : decode cX4_put 5 = .ok (.invokestatic 170, 3) := by decide +kernel
theorem dX4_put_8 : decode cX4_put 8 = .ok (.iload_n 2, 1) := by decide +kernel
theorem dX4_put_9 : decode cX4_put 9 = .ok (.iconst 1, 1) := by decide +kernel
theorem dX4_put_10 : decode cX4_put 10 = .ok (.if_icmp .lt 35, 3) := by decide +kernel
theorem dX4_put_13 : decode cX4_put 13 = .ok (.iload_n 2, 1) := by decide +kernel
theorem dX4_put_14 : decode cX4_put 14 = .ok (.ldc 173, 2) := by decide +kernel
theorem dX4_put_16 : decode cX4_put 16 = .ok (.if_icmp .gt 29, 3) := by decide +kernel
theorem dX4_put_19 : decode cX4_put 19 = .ok (.iload_n 3, 1) := by decide +kernel
theorem dX4_put_20 : decode cX4_put 20 = .ok (.ldc 174, 2) := by decide +kernel
theorem dX4_put_22 : decode cX4_put 22 = .ok (.if_icmp .lt 23, 3) := by decide +kernel
theorem dX4_put_25 : decode cX4_put 25 = .ok (.iload_n 3, 1) := by decide +kernel
theorem dX4_put_26 : decode cX4_put 26 = .ok (.ldc 173, 2) := by decide +kernel
theorem dX4_put_28 : decode cX4_put 28 = .ok (.if_icmp .gt 17, 3) := by decide +kernel
theorem dX4_put_31 : decode cX4_put 31 = .ok (.aload_n 0, 1) := by decide +kernel
theorem dX4_put_32 : decode cX4_put 32 = .ok (.getfield 10, 3) := by decide +kernel
theorem dX4_put_35 : decode cX4_put 35 = .ok (.iload_n 2, 1) := by decide +kernel
theorem dX4_put_36 : decode cX4_put 36 = .ok (.i2l, 1) := by decide +kernel
theorem dX4_put_37 : decode cX4_put 37 = .ok (.iload_n 3, 1) := by decide +kernel
theorem dX4_put_38 : decode cX4_put 38 = .ok (.i2l, 1) := by decide +kernel
theorem dX4_put_39 : decode cX4_put 39 = .ok (.invokevirtual 175, 3) := by decide +kernel
theorem dX4_put_42 : decode cX4_put 42 = .ok (.ifCond .ne 13, 3) := by decide +kernel
theorem dX4_put_45 : decode cX4_put 45 = .ok (.new 47, 3) := by decide +kernel
theorem dX4_put_48 : decode cX4_put 48 = .ok (.dup, 1) := by decide +kernel
theorem dX4_put_49 : decode cX4_put 49 = .ok (.ldc 179, 2) := by decide +kernel
theorem dX4_put_51 : decode cX4_put 51 = .ok (.invokespecial 51, 3) := by decide +kernel
theorem dX4_put_54 : decode cX4_put 54 = .ok (.athrow, 1) := by decide +kernel
theorem dX4_put_55 : decode cX4_put 55 = .ok (.aload_n 0, 1) := by decide +kernel
theorem dX4_put_56 : decode cX4_put 56 = .ok (.getfield 10, 3) := by decide +kernel
theorem dX4_put_59 : decode cX4_put 59 = .ok (.aload_n 0, 1) := by decide +kernel
theorem dX4_put_60 : decode cX4_put 60 = .ok (.getfield 25, 3) := by decide +kernel
theorem dX4_put_63 : decode cX4_put 63 = .ok (.iload_n 1, 1) := by decide +kernel
theorem dX4_put_64 : decode cX4_put 64 = .ok (.aaload, 1) := by decide +kernel
theorem dX4_put_65 : decode cX4_put 65 = .ok (.iload_n 2, 1) := by decide +kernel
theorem dX4_put_66 : decode cX4_put 66 = .ok (.i2l, 1) := by decide +kernel
theorem dX4_put_67 : decode cX4_put 67 = .ok (.iload_n 3, 1) := by decide +kernel
theorem dX4_put_68 : decode cX4_put 68 = .ok (.i2l, 1) := by decide +kernel
theorem dX4_put_69 : decode cX4_put 69 = .ok (.invokevirtual 181, 3) := by decide +kernel
theorem dX4_put_72 : decode cX4_put 72 = .ok (.aload_n 0, 1) := by decide +kernel
theorem dX4_put_73 : decode cX4_put 73 = .ok (.getfield 30, 3) := by decide +kernel
theorem dX4_put_76 : decode cX4_put 76 = .ok (.iload_n 1, 1) := by decide +kernel
theorem dX4_put_77 : decode cX4_put 77 = .ok (.iconst 1, 1) := by decide +kernel
theorem dX4_put_78 : decode cX4_put 78 = .ok (.bastore, 1) := by decide +kernel
theorem dX4_put_79 : decode cX4_put 79 = .ok (.return_, 1) := by decide +kernel
theorem dX4_buffer_0 : decode cX4_buffer 0 = .ok (.aload_n 0, 1) := by decide +kernel
theorem dX4_buffer_1 : decode cX4_buffer 1 = .ok (.invokevirtual 63, 3) := by decide +kernel
theorem dX4_buffer_4 : decode cX4_buffer 4 = .ok (.iload_n 1, 1) := by decide +kernel
theorem dX4_buffer_5 : decode cX4_buffer 5 = .ok (.invokestatic 170, 3) := by decide +kernel
theorem dX4_buffer_8 : decode cX4_buffer 8 = .ok (.iload_n 2, 1) := by decide +kernel
theorem dX4_buffer_9 : decode cX4_buffer 9 = .ok (.invokestatic 150, 3) := by decide +kernel
theorem dX4_buffer_12 : decode cX4_buffer 12 = .ok (.aload_n 0, 1) := by decide +kernel
theorem dX4_buffer_13 : decode cX4_buffer 13 = .ok (.iload_n 1, 1) := by decide +kernel
theorem dX4_buffer_14 : decode cX4_buffer 14 = .ok (.invokevirtual 185, 3) := by decide +kernel
theorem dX4_buffer_17 : decode cX4_buffer 17 = .ok (.aload_n 0, 1) := by decide +kernel
theorem dX4_buffer_18 : decode cX4_buffer 18 = .ok (.getfield 25, 3) := by decide +kernel
theorem dX4_buffer_21 : decode cX4_buffer 21 = .ok (.iload_n 1, 1) := by decide +kernel
theorem dX4_buffer_22 : decode cX4_buffer 22 = .ok (.aaload, 1) := by decide +kernel
theorem dX4_buffer_23 : decode cX4_buffer 23 = .ok (.iload_n 2, 1) := by decide +kernel
theorem dX4_buffer_24 : decode cX4_buffer 24 = .ok (.invokevirtual 153, 3) := by decide +kernel
theorem dX4_buffer_27 : decode cX4_buffer 27 = .ok (.lreturn, 1) := by decide +kernel
theorem dX4_reduce_0 : decode cX4_reduce 0 = .ok (.aload_n 0, 1) := by decide +kernel
theorem dX4_reduce_1 : decode cX4_reduce 1 = .ok (.invokevirtual 63, 3) := by decide +kernel
theorem dX4_reduce_4 : decode cX4_reduce 4 = .ok (.iload_n 1, 1) := by decide +kernel
theorem dX4_reduce_5 : decode cX4_reduce 5 = .ok (.invokestatic 170, 3) := by decide +kernel
theorem dX4_reduce_8 : decode cX4_reduce 8 = .ok (.iload_n 2, 1) := by decide +kernel
theorem dX4_reduce_9 : decode cX4_reduce 9 = .ok (.invokestatic 170, 3) := by decide +kernel
theorem dX4_reduce_12 : decode cX4_reduce 12 = .ok (.aload_n 0, 1) := by decide +kernel
theorem dX4_reduce_13 : decode cX4_reduce 13 = .ok (.iload_n 1, 1) := by decide +kernel
theorem dX4_reduce_14 : decode cX4_reduce 14 = .ok (.invokevirtual 185, 3) := by decide +kernel
theorem dX4_reduce_17 : decode cX4_reduce 17 = .ok (.aload_n 0, 1) := by decide +kernel
theorem dX4_reduce_18 : decode cX4_reduce 18 = .ok (.getfield 25, 3) := by decide +kernel
theorem dX4_reduce_21 : decode cX4_reduce 21 = .ok (.iload_n 2, 1) := by decide +kernel
theorem dX4_reduce_22 : decode cX4_reduce 22 = .ok (.aaload, 1) := by decide +kernel
theorem dX4_reduce_23 : decode cX4_reduce 23 = .ok (.aload_n 0, 1) := by decide +kernel
theorem dX4_reduce_24 : decode cX4_reduce 24 = .ok (.getfield 25, 3) := by decide +kernel
theorem dX4_reduce_27 : decode cX4_reduce 27 = .ok (.iload_n 1, 1) := by decide +kernel
theorem dX4_reduce_28 : decode cX4_reduce 28 = .ok (.aaload, 1) := by decide +kernel
theorem dX4_reduce_29 : decode cX4_reduce 29 = .ok (.invokevirtual 107, 3) := by decide +kernel
theorem dX4_reduce_32 : decode cX4_reduce 32 = .ok (.aload_n 0, 1) := by decide +kernel
theorem dX4_reduce_33 : decode cX4_reduce 33 = .ok (.getfield 10, 3) := by decide +kernel
theorem dX4_reduce_36 : decode cX4_reduce 36 = .ok (.aload_n 0, 1) := by decide +kernel
theorem dX4_reduce_37 : decode cX4_reduce 37 = .ok (.getfield 25, 3) := by decide +kernel
theorem dX4_reduce_40 : decode cX4_reduce 40 = .ok (.iload_n 2, 1) := by decide +kernel
theorem dX4_reduce_41 : decode cX4_reduce 41 = .ok (.aaload, 1) := by decide +kernel
theorem dX4_reduce_42 : decode cX4_reduce 42 = .ok (.invokevirtual 188, 3) := by decide +kernel
theorem dX4_reduce_45 : decode cX4_reduce 45 = .ok (.aload_n 0, 1) := by decide +kernel
theorem dX4_reduce_46 : decode cX4_reduce 46 = .ok (.getfield 30, 3) := by decide +kernel
theorem dX4_reduce_49 : decode cX4_reduce 49 = .ok (.iload_n 2, 1) := by decide +kernel
theorem dX4_reduce_50 : decode cX4_reduce 50 = .ok (.iconst 1, 1) := by decide +kernel
theorem dX4_reduce_51 : decode cX4_reduce 51 = .ok (.bastore, 1) := by decide +kernel
theorem dX4_reduce_52 : decode cX4_reduce 52 = .ok (.return_, 1) := by decide +kernel
theorem dX4_multiply_0 : decode cX4_multiply 0 = .ok (.aload_n 0, 1) := by decide +kernel
theorem dX4_multiply_1 : decode cX4_multiply 1 = .ok (.invokevirtual 63, 3) := by decide +kernel
theorem dX4_multiply_4 : decode cX4_multiply 4 = .ok (.iload_n 1, 1) := by decide +kernel
theorem dX4_multiply_5 : decode cX4_multiply 5 = .ok (.invokestatic 170, 3) := by decide +kernel
theorem dX4_multiply_8 : decode cX4_multiply 8 = .ok (.iload_n 2, 1) := by decide +kernel
theorem dX4_multiply_9 : decode cX4_multiply 9 = .ok (.invokestatic 170, 3) := by decide +kernel
theorem dX4_multiply_12 : decode cX4_multiply 12 = .ok (.iload_n 3, 1) := by decide +kernel
theorem dX4_multiply_13 : decode cX4_multiply 13 = .ok (.invokestatic 170, 3) := by decide +kernel
theorem dX4_multiply_16 : decode cX4_multiply 16 = .ok (.aload_n 0, 1) := by decide +kernel
theorem dX4_multiply_17 : decode cX4_multiply 17 = .ok (.iload_n 1, 1) := by decide +kernel
theorem dX4_multiply_18 : decode cX4_multiply 18 = .ok (.invokevirtual 185, 3) := by decide +kernel
theorem dX4_multiply_21 : decode cX4_multiply 21 = .ok (.aload_n 0, 1) := by decide +kernel
theorem dX4_multiply_22 : decode cX4_multiply 22 = .ok (.iload_n 2, 1) := by decide +kernel
theorem dX4_multiply_23 : decode cX4_multiply 23 = .ok (.invokevirtual 185, 3) := by decide +kernel
theorem dX4_multiply_26 : decode cX4_multiply 26 = .ok (.aload_n 0, 1) := by decide +kernel
theorem dX4_multiply_27 : decode cX4_multiply 27 = .ok (.getfield 10, 3) := by decide +kernel
theorem dX4_multiply_30 : decode cX4_multiply 30 = .ok (.aload_n 0, 1) := by decide +kernel
theorem dX4_multiply_31 : decode cX4_multiply 31 = .ok (.getfield 25, 3) := by decide +kernel
theorem dX4_multiply_34 : decode cX4_multiply 34 = .ok (.iload_n 1, 1) := by decide +kernel
theorem dX4_multiply_35 : decode cX4_multiply 35 = .ok (.aaload, 1) := by decide +kernel
theorem dX4_multiply_36 : decode cX4_multiply 36 = .ok (.aload_n 0, 1) := by decide +kernel
theorem dX4_multiply_37 : decode cX4_multiply 37 = .ok (.getfield 25, 3) := by decide +kernel
theorem dX4_multiply_40 : decode cX4_multiply 40 = .ok (.iload_n 2, 1) := by decide +kernel
theorem dX4_multiply_41 : decode cX4_multiply 41 = .ok (.aaload, 1) := by decide +kernel
theorem dX4_multiply_42 : decode cX4_multiply 42 = .ok (.aload_n 0, 1) := by decide +kernel
theorem dX4_multiply_43 : decode cX4_multiply 43 = .ok (.getfield 25, 3) := by decide +kernel
theorem dX4_multiply_46 : decode cX4_multiply 46 = .ok (.iload_n 3, 1) := by decide +kernel
theorem dX4_multiply_47 : decode cX4_multiply 47 = .ok (.aaload, 1) := by decide +kernel
theorem dX4_multiply_48 : decode cX4_multiply 48 = .ok (.invokevirtual 125, 3) := by decide +kernel
theorem dX4_multiply_51 : decode cX4_multiply 51 = .ok (.aload_n 0, 1) := by decide +kernel
theorem dX4_multiply_52 : decode cX4_multiply 52 = .ok (.getfield 30, 3) := by decide +kernel
theorem dX4_multiply_55 : decode cX4_multiply 55 = .ok (.iload_n 3, 1) := by decide +kernel
theorem dX4_multiply_56 : decode cX4_multiply 56 = .ok (.iconst 1, 1) := by decide +kernel
theorem dX4_multiply_57 : decode cX4_multiply 57 = .ok (.bastore, 1) := by decide +kernel
theorem dX4_multiply_58 : decode cX4_multiply 58 = .ok (.return_, 1) := by decide +kernel
theorem dX4_raise_0 : decode cX4_raise 0 = .ok (.aload_n 0, 1) := by decide +kernel
theorem dX4_raise_1 : decode cX4_raise 1 = .ok (.invokevirtual 63, 3) := by decide +kernel
theorem dX4_raise_4 : decode cX4_raise 4 = .ok (.iload_n 1, 1) := by decide +kernel
theorem dX4_raise_5 : decode cX4_raise 5 = .ok (.invokestatic 170, 3) := by decide +kernel
theorem dX4_raise_8 : decode cX4_raise 8 = .ok (.iload_n 3, 1) := by decide +kernel
theorem dX4_raise_9 : decode cX4_raise 9 = .ok (.invokestatic 170, 3) := by decide +kernel
theorem dX4_raise_12 : decode cX4_raise 12 = .ok (.iload_n 2, 1) := by decide +kernel
theorem dX4_raise_13 : decode cX4_raise 13 = .ok (.ifCond .ge 13, 3) := by decide +kernel
theorem dX4_raise_16 : decode cX4_raise 16 = .ok (.new 47, 3) := by decide +kernel
theorem dX4_raise_19 : decode cX4_raise 19 = .ok (.dup, 1) := by decide +kernel
theorem dX4_raise_20 : decode cX4_raise 20 = .ok (.ldc 191, 2) := by decide +kernel
theorem dX4_raise_22 : decode cX4_raise 22 = .ok (.invokespecial 51, 3) := by decide +kernel
theorem dX4_raise_25 : decode cX4_raise 25 = .ok (.athrow, 1) := by decide +kernel
theorem dX4_raise_26 : decode cX4_raise 26 = .ok (.aload_n 0, 1) := by decide +kernel
theorem dX4_raise_27 : decode cX4_raise 27 = .ok (.iload_n 1, 1) := by decide +kernel
theorem dX4_raise_28 : decode cX4_raise 28 = .ok (.invokevirtual 185, 3) := by decide +kernel
theorem dX4_raise_31 : decode cX4_raise 31 = .ok (.aload_n 0, 1) := by decide +kernel
theorem dX4_raise_32 : decode cX4_raise 32 = .ok (.getfield 10, 3) := by decide +kernel
theorem dX4_raise_35 : decode cX4_raise 35 = .ok (.aload_n 0, 1) := by decide +kernel
theorem dX4_raise_36 : decode cX4_raise 36 = .ok (.getfield 25, 3) := by decide +kernel
theorem dX4_raise_39 : decode cX4_raise 39 = .ok (.iload_n 1, 1) := by decide +kernel
theorem dX4_raise_40 : decode cX4_raise 40 = .ok (.aaload, 1) := by decide +kernel
theorem dX4_raise_41 : decode cX4_raise 41 = .ok (.iload_n 2, 1) := by decide +kernel
theorem dX4_raise_42 : decode cX4_raise 42 = .ok (.aload_n 0, 1) := by decide +kernel
theorem dX4_raise_43 : decode cX4_raise 43 = .ok (.getfield 25, 3) := by decide +kernel
theorem dX4_raise_46 : decode cX4_raise 46 = .ok (.iload_n 3, 1) := by decide +kernel
theorem dX4_raise_47 : decode cX4_raise 47 = .ok (.aaload, 1) := by decide +kernel
theorem dX4_raise_48 : decode cX4_raise 48 = .ok (.invokevirtual 100, 3) := by decide +kernel
theorem dX4_raise_51 : decode cX4_raise 51 = .ok (.aload_n 0, 1) := by decide +kernel
theorem dX4_raise_52 : decode cX4_raise 52 = .ok (.getfield 30, 3) := by decide +kernel
theorem dX4_raise_55 : decode cX4_raise 55 = .ok (.iload_n 3, 1) := by decide +kernel
theorem dX4_raise_56 : decode cX4_raise 56 = .ok (.iconst 1, 1) := by decide +kernel
theorem dX4_raise_57 : decode cX4_raise 57 = .ok (.bastore, 1) := by decide +kernel
theorem dX4_raise_58 : decode cX4_raise 58 = .ok (.return_, 1) := by decide +kernel
theorem dX4_test_0 : decode cX4_test 0 = .ok (.aload_n 0, 1) := by decide +kernel
theorem dX4_test_1 : decode cX4_test 1 = .ok (.invokevirtual 63, 3) := by decide +kernel
theorem dX4_test_4 : decode cX4_test 4 = .ok (.aload_n 0, 1) := by decide +kernel
theorem dX4_test_5 : decode cX4_test 5 = .ok (.iload_n 1, 1) := by decide +kernel
theorem dX4_test_6 : decode cX4_test 6 = .ok (.invokevirtual 159, 3) := by decide +kernel
theorem dX4_test_9 : decode cX4_test 9 = .ok (.astore_n 2, 1) := by decide +kernel
theorem dX4_test_10 : decode cX4_test 10 = .ok (.iconst 0, 1) := by decide +kernel
theorem dX4_test_11 : decode cX4_test 11 = .ok (.istore_n 3, 1) := by decide +kernel
theorem dX4_test_12 : decode cX4_test 12 = .ok (.iload_n 3, 1) := by decide +kernel
theorem dX4_test_13 : decode cX4_test 13 = .ok (.iconst 3, 1) := by decide +kernel
theorem dX4_test_14 : decode cX4_test 14 = .ok (.if_icmp .ge 14, 3) := by decide +kernel
theorem dX4_test_17 : decode cX4_test 17 = .ok (.aload_n 0, 1) := by decide +kernel
theorem dX4_test_18 : decode cX4_test 18 = .ok (.iload_n 3, 1) := by decide +kernel
theorem dX4_test_19 : decode cX4_test 19 = .ok (.invokevirtual 185, 3) := by decide +kernel
theorem dX4_test_22 : decode cX4_test 22 = .ok (.iinc 3 1, 3) := by decide +kernel
theorem dX4_test_25 : decode cX4_test 25 = .ok (.goto (-13), 3) := by decide +kernel
theorem dX4_test_28 : decode cX4_test 28 = .ok (.aload_n 0, 1) := by decide +kernel
theorem dX4_test_29 : decode cX4_test 29 = .ok (.getfield 25, 3) := by decide +kernel
theorem dX4_test_32 : decode cX4_test 32 = .ok (.iconst 0, 1) := by decide +kernel
theorem dX4_test_33 : decode cX4_test 33 = .ok (.aaload, 1) := by decide +kernel
theorem dX4_test_34 : decode cX4_test 34 = .ok (.astore_n 3, 1) := by decide +kernel
theorem dX4_test_35 : decode cX4_test 35 = .ok (.aload_n 0, 1) := by decide +kernel
theorem dX4_test_36 : decode cX4_test 36 = .ok (.getfield 25, 3) := by decide +kernel
theorem dX4_test_39 : decode cX4_test 39 = .ok (.iconst 1, 1) := by decide +kernel
theorem dX4_test_40 : decode cX4_test 40 = .ok (.aaload, 1) := by decide +kernel
theorem dX4_test_41 : decode cX4_test 41 = .ok (.astore 4, 2) := by decide +kernel
theorem dX4_test_43 : decode cX4_test 43 = .ok (.aload_n 0, 1) := by decide +kernel
theorem dX4_test_44 : decode cX4_test 44 = .ok (.getfield 25, 3) := by decide +kernel
theorem dX4_test_47 : decode cX4_test 47 = .ok (.iconst 2, 1) := by decide +kernel
theorem dX4_test_48 : decode cX4_test 48 = .ok (.aaload, 1) := by decide +kernel
theorem dX4_test_49 : decode cX4_test 49 = .ok (.astore 5, 2) := by decide +kernel
theorem dX4_test_51 : decode cX4_test 51 = .ok (.aload_n 3, 1) := by decide +kernel
theorem dX4_test_52 : decode cX4_test 52 = .ok (.aload_n 2, 1) := by decide +kernel
theorem dX4_test_53 : decode cX4_test 53 = .ok (.getfield 97, 3) := by decide +kernel
theorem dX4_test_56 : decode cX4_test 56 = .ok (.invokevirtual 193, 3) := by decide +kernel
theorem dX4_test_59 : decode cX4_test 59 = .ok (.ifCond .ne 5, 3) := by decide +kernel
theorem dX4_test_62 : decode cX4_test 62 = .ok (.iconst 1, 1) := by decide +kernel
theorem dX4_test_63 : decode cX4_test 63 = .ok (.ireturn, 1) := by decide +kernel
theorem dX4_test_64 : decode cX4_test 64 = .ok (.aload 4, 2) := by decide +kernel
theorem dX4_test_66 : decode cX4_test 66 = .ok (.invokevirtual 197, 3) := by decide +kernel
theorem dX4_test_69 : decode cX4_test 69 = .ok (.ifCond .eq 11, 3) := by decide +kernel
theorem dX4_test_72 : decode cX4_test 72 = .ok (.aload 5, 2) := by decide +kernel
theorem dX4_test_74 : decode cX4_test 74 = .ok (.invokevirtual 197, 3) := by decide +kernel
theorem dX4_test_77 : decode cX4_test 77 = .ok (.ifCond .ne 5, 3) := by decide +kernel
theorem dX4_test_80 : decode cX4_test 80 = .ok (.iconst 2, 1) := by decide +kernel
theorem dX4_test_81 : decode cX4_test 81 = .ok (.ireturn, 1) := by decide +kernel
theorem dX4_test_82 : decode cX4_test 82 = .ok (.aload_n 3, 1) := by decide +kernel
theorem dX4_test_83 : decode cX4_test 83 = .ok (.aload 4, 2) := by decide +kernel
theorem dX4_test_85 : decode cX4_test 85 = .ok (.aload_n 2, 1) := by decide +kernel
theorem dX4_test_86 : decode cX4_test 86 = .ok (.getfield 71, 3) := by decide +kernel
theorem dX4_test_89 : decode cX4_test 89 = .ok (.invokestatic 129, 3) := by decide +kernel
theorem dX4_test_92 : decode cX4_test 92 = .ok (.istore 6, 2) := by decide +kernel
theorem dX4_test_94 : decode cX4_test 94 = .ok (.aload_n 0, 1) := by decide +kernel
theorem dX4_test_95 : decode cX4_test 95 = .ok (.getfield 10, 3) := by decide +kernel
theorem dX4_test_98 : decode cX4_test 98 = .ok (.aload_n 3, 1) := by decide +kernel
theorem dX4_test_99 : decode cX4_test 99 = .ok (.aload 4, 2) := by decide +kernel
theorem dX4_test_101 : decode cX4_test 101 = .ok (.aload 5, 2) := by decide +kernel
theorem dX4_test_103 : decode cX4_test 103 = .ok (.iload 6, 2) := by decide +kernel
theorem dX4_test_105 : decode cX4_test 105 = .ok (.aload_n 2, 1) := by decide +kernel
theorem dX4_test_106 : decode cX4_test 106 = .ok (.getfield 71, 3) := by decide +kernel
theorem dX4_test_109 : decode cX4_test 109 = .ok (.invokevirtual 166, 3) := by decide +kernel
theorem dX4_test_112 : decode cX4_test 112 = .ok (.ifCond .eq 7, 3) := by decide +kernel
theorem dX4_test_115 : decode cX4_test 115 = .ok (.iconst 0, 1) := by decide +kernel
theorem dX4_test_116 : decode cX4_test 116 = .ok (.goto 4, 3) := by decide +kernel
theorem dX4_test_119 : decode cX4_test 119 = .ok (.iconst 3, 1) := by decide +kernel
theorem dX4_test_120 : decode cX4_test 120 = .ok (.ireturn, 1) := by decide +kernel
theorem dX4_order_0 : decode cX4_order 0 = .ok (.aload_n 0, 1) := by decide +kernel
theorem dX4_order_1 : decode cX4_order 1 = .ok (.invokevirtual 63, 3) := by decide +kernel
theorem dX4_order_4 : decode cX4_order 4 = .ok (.iload_n 1, 1) := by decide +kernel
theorem dX4_order_5 : decode cX4_order 5 = .ok (.iconst 1, 1) := by decide +kernel
theorem dX4_order_6 : decode cX4_order 6 = .ok (.if_icmp .lt 10, 3) := by decide +kernel
theorem dX4_order_9 : decode cX4_order 9 = .ok (.iload_n 1, 1) := by decide +kernel
theorem dX4_order_10 : decode cX4_order 10 = .ok (.sipush 1000, 3) := by decide +kernel
theorem dX4_order_13 : decode cX4_order 13 = .ok (.if_icmp .le 13, 3) := by decide +kernel
theorem dX4_order_16 : decode cX4_order 16 = .ok (.new 47, 3) := by decide +kernel
theorem dX4_order_19 : decode cX4_order 19 = .ok (.dup, 1) := by decide +kernel
theorem dX4_order_20 : decode cX4_order 20 = .ok (.ldc 201, 2) := by decide +kernel
theorem dX4_order_22 : decode cX4_order 22 = .ok (.invokespecial 51, 3) := by decide +kernel
theorem dX4_order_25 : decode cX4_order 25 = .ok (.athrow, 1) := by decide +kernel
theorem dX4_order_26 : decode cX4_order 26 = .ok (.aload_n 0, 1) := by decide +kernel
theorem dX4_order_27 : decode cX4_order 27 = .ok (.getfield 10, 3) := by decide +kernel
theorem dX4_order_30 : decode cX4_order 30 = .ok (.iload_n 1, 1) := by decide +kernel
theorem dX4_order_31 : decode cX4_order 31 = .ok (.invokevirtual 203, 3) := by decide +kernel
theorem dX4_order_34 : decode cX4_order 34 = .ok (.ireturn, 1) := by decide +kernel
theorem dX4_classes_0 : decode cX4_classes 0 = .ok (.aload_n 0, 1) := by decide +kernel
theorem dX4_classes_1 : decode cX4_classes 1 = .ok (.invokevirtual 63, 3) := by decide +kernel
theorem dX4_classes_4 : decode cX4_classes 4 = .ok (.aload_n 0, 1) := by decide +kernel
theorem dX4_classes_5 : decode cX4_classes 5 = .ok (.getfield 10, 3) := by decide +kernel
theorem dX4_classes_8 : decode cX4_classes 8 = .ok (.getfield 207, 3) := by decide +kernel
theorem dX4_classes_11 : decode cX4_classes 11 = .ok (.ldc 210, 2) := by decide +kernel
theorem dX4_classes_13 : decode cX4_classes 13 = .ok (.if_icmp .le 13, 3) := by decide +kernel
theorem dX4_classes_16 : decode cX4_classes 16 = .ok (.new 47, 3) := by decide +kernel
theorem dX4_classes_19 : decode cX4_classes 19 = .ok (.dup, 1) := by decide +kernel
theorem dX4_classes_20 : decode cX4_classes 20 = .ok (.ldc 211, 2) := by decide +kernel
theorem dX4_classes_22 : decode cX4_classes 22 = .ok (.invokespecial 51, 3) := by decide +kernel
theorem dX4_classes_25 : decode cX4_classes 25 = .ok (.athrow, 1) := by decide +kernel
theorem dX4_classes_26 : decode cX4_classes 26 = .ok (.aload_n 0, 1) := by decide +kernel
theorem dX4_classes_27 : decode cX4_classes 27 = .ok (.getfield 10, 3) := by decide +kernel
theorem dX4_classes_30 : decode cX4_classes 30 = .ok (.invokevirtual 213, 3) := by decide +kernel
theorem dX4_classes_33 : decode cX4_classes 33 = .ok (.ireturn, 1) := by decide +kernel
theorem dX4_needDiscriminant_0 : decode cX4_needDiscriminant 0 = .ok (.aload_n 0, 1) := by decide +kernel
theorem dX4_needDiscriminant_1 : decode cX4_needDiscriminant 1 = .ok (.getfield 34, 3) := by decide +kernel
theorem dX4_needDiscriminant_4 : decode cX4_needDiscriminant 4 = .ok (.ifCond .ne 13, 3) := by decide +kernel
theorem dX4_needDiscriminant_7 : decode cX4_needDiscriminant 7 = .ok (.new 54, 3) := by decide +kernel
theorem dX4_needDiscriminant_10 : decode cX4_needDiscriminant 10 = .ok (.dup, 1) := by decide +kernel
theorem dX4_needDiscriminant_11 : decode cX4_needDiscriminant 11 = .ok (.ldc 216, 2) := by decide +kernel
theorem dX4_needDiscriminant_13 : decode cX4_needDiscriminant 13 = .ok (.invokespecial 58, 3) := by decide +kernel
theorem dX4_needDiscriminant_16 : decode cX4_needDiscriminant 16 = .ok (.athrow, 1) := by decide +kernel
theorem dX4_needDiscriminant_17 : decode cX4_needDiscriminant 17 = .ok (.return_, 1) := by decide +kernel
theorem dX4_needTurns_0 : decode cX4_needTurns 0 = .ok (.iload_n 0, 1) := by decide +kernel
theorem dX4_needTurns_1 : decode cX4_needTurns 1 = .ok (.iconst 1, 1) := by decide +kernel
theorem dX4_needTurns_2 : decode cX4_needTurns 2 = .ok (.if_icmp .lt 10, 3) := by decide +kernel
theorem dX4_needTurns_5 : decode cX4_needTurns 5 = .ok (.iload_n 0, 1) := by decide +kernel
theorem dX4_needTurns_6 : decode cX4_needTurns 6 = .ok (.sipush 500, 3) := by decide +kernel
theorem dX4_needTurns_9 : decode cX4_needTurns 9 = .ok (.if_icmp .le 13, 3) := by decide +kernel
theorem dX4_needTurns_12 : decode cX4_needTurns 12 = .ok (.new 47, 3) := by decide +kernel
theorem dX4_needTurns_15 : decode cX4_needTurns 15 = .ok (.dup, 1) := by decide +kernel
theorem dX4_needTurns_16 : decode cX4_needTurns 16 = .ok (.ldc 218, 2) := by decide +kernel
theorem dX4_needTurns_18 : decode cX4_needTurns 18 = .ok (.invokespecial 51, 3) := by decide +kernel
theorem dX4_needTurns_21 : decode cX4_needTurns 21 = .ok (.athrow, 1) := by decide +kernel
theorem dX4_needTurns_22 : decode cX4_needTurns 22 = .ok (.return_, 1) := by decide +kernel
theorem dX4_needSlot_0 : decode cX4_needSlot 0 = .ok (.iload_n 0, 1) := by decide +kernel
theorem dX4_needSlot_1 : decode cX4_needSlot 1 = .ok (.ifCond .lt 8, 3) := by decide +kernel
theorem dX4_needSlot_4 : decode cX4_needSlot 4 = .ok (.iload_n 0, 1) := by decide +kernel
theorem dX4_needSlot_5 : decode cX4_needSlot 5 = .ok (.iconst 3, 1) := by decide +kernel
theorem dX4_needSlot_6 : decode cX4_needSlot 6 = .ok (.if_icmp .lt 13, 3) := by decide +kernel
theorem dX4_needSlot_9 : decode cX4_needSlot 9 = .ok (.new 145, 3) := by decide +kernel
theorem dX4_needSlot_12 : decode cX4_needSlot 12 = .ok (.dup, 1) := by decide +kernel
theorem dX4_needSlot_13 : decode cX4_needSlot 13 = .ok (.ldc 220, 2) := by decide +kernel
theorem dX4_needSlot_15 : decode cX4_needSlot 15 = .ok (.invokespecial 149, 3) := by decide +kernel
theorem dX4_needSlot_18 : decode cX4_needSlot 18 = .ok (.athrow, 1) := by decide +kernel
theorem dX4_needSlot_19 : decode cX4_needSlot 19 = .ok (.return_, 1) := by decide +kernel
theorem dX4_needPart_0 : decode cX4_needPart 0 = .ok (.iload_n 0, 1) := by decide +kernel
theorem dX4_needPart_1 : decode cX4_needPart 1 = .ok (.ifCond .lt 8, 3) := by decide +kernel
theorem dX4_needPart_4 : decode cX4_needPart 4 = .ok (.iload_n 0, 1) := by decide +kernel
theorem dX4_needPart_5 : decode cX4_needPart 5 = .ok (.iconst 3, 1) := by decide +kernel
theorem dX4_needPart_6 : decode cX4_needPart 6 = .ok (.if_icmp .lt 13, 3) := by decide +kernel
theorem dX4_needPart_9 : decode cX4_needPart 9 = .ok (.new 145, 3) := by decide +kernel
theorem dX4_needPart_12 : decode cX4_needPart 12 = .ok (.dup, 1) := by decide +kernel
theorem dX4_needPart_13 : decode cX4_needPart 13 = .ok (.ldc 222, 2) := by decide +kernel
theorem dX4_needPart_15 : decode cX4_needPart 15 = .ok (.invokespecial 149, 3) := by decide +kernel
theorem dX4_needPart_18 : decode cX4_needPart 18 = .ok (.athrow, 1) := by decide +kernel
theorem dX4_needPart_19 : decode cX4_needPart 19 = .ok (.return_, 1) := by decide +kernel
theorem dX4_needFilled_0 : decode cX4_needFilled 0 = .ok (.aload_n 0, 1) := by decide +kernel
theorem dX4_needFilled_1 : decode cX4_needFilled 1 = .ok (.getfield 30, 3) := by decide +kernel
theorem dX4_needFilled_4 : decode cX4_needFilled 4 = .ok (.iload_n 1, 1) := by decide +kernel
theorem dX4_needFilled_5 : decode cX4_needFilled 5 = .ok (.baload, 1) := by decide +kernel
theorem dX4_needFilled_6 : decode cX4_needFilled 6 = .ok (.ifCond .ne 13, 3) := by decide +kernel
theorem dX4_needFilled_9 : decode cX4_needFilled 9 = .ok (.new 224, 3) := by decide +kernel
theorem dX4_needFilled_12 : decode cX4_needFilled 12 = .ok (.dup, 1) := by decide +kernel
theorem dX4_needFilled_13 : decode cX4_needFilled 13 = .ok (.ldc 226, 2) := by decide +kernel
theorem dX4_needFilled_15 : decode cX4_needFilled 15 = .ok (.invokespecial 228, 3) := by decide +kernel
theorem dX4_needFilled_18 : decode cX4_needFilled 18 = .ok (.athrow, 1) := by decide +kernel
theorem dX4_needFilled_19 : decode cX4_needFilled 19 = .ok (.return_, 1) := by decide +kernel
theorem dX4_bookedRound_0 : decode cX4_bookedRound 0 = .ok (.iload_n 1, 1) := by decide +kernel
theorem dX4_bookedRound_1 : decode cX4_bookedRound 1 = .ok (.ifCond .lt 11, 3) := by decide +kernel
theorem dX4_bookedRound_4 : decode cX4_bookedRound 4 = .ok (.iload_n 1, 1) := by decide +kernel
theorem dX4_bookedRound_5 : decode cX4_bookedRound 5 = .ok (.aload_n 0, 1) := by decide +kernel
theorem dX4_bookedRound_6 : decode cX4_bookedRound 6 = .ok (.getfield 38, 3) := by decide +kernel
theorem dX4_bookedRound_9 : decode cX4_bookedRound 9 = .ok (.if_icmp .lt 13, 3) := by decide +kernel
theorem dX4_bookedRound_12 : decode cX4_bookedRound 12 = .ok (.new 145, 3) := by decide +kernel
theorem dX4_bookedRound_15 : decode cX4_bookedRound 15 = .ok (.dup, 1) := by decide +kernel
theorem dX4_bookedRound_16 : decode cX4_bookedRound 16 = .ok (.ldc 229, 2) := by decide +kernel
theorem dX4_bookedRound_18 : decode cX4_bookedRound 18 = .ok (.invokespecial 149, 3) := by decide +kernel
theorem dX4_bookedRound_21 : decode cX4_bookedRound 21 = .ok (.athrow, 1) := by decide +kernel
theorem dX4_bookedRound_22 : decode cX4_bookedRound 22 = .ok (.aload_n 0, 1) := by decide +kernel
theorem dX4_bookedRound_23 : decode cX4_bookedRound 23 = .ok (.getfield 18, 3) := by decide +kernel
theorem dX4_bookedRound_26 : decode cX4_bookedRound 26 = .ok (.iload_n 1, 1) := by decide +kernel
theorem dX4_bookedRound_27 : decode cX4_bookedRound 27 = .ok (.aaload, 1) := by decide +kernel
theorem dX4_bookedRound_28 : decode cX4_bookedRound 28 = .ok (.areturn, 1) := by decide +kernel
theorem dX4_bookedOrRunning_0 : decode cX4_bookedOrRunning 0 = .ok (.iload_n 1, 1) := by decide +kernel
theorem dX4_bookedOrRunning_1 : decode cX4_bookedOrRunning 1 = .ok (.iconst (-1), 1) := by decide +kernel
theorem dX4_bookedOrRunning_2 : decode cX4_bookedOrRunning 2 = .ok (.if_icmp .ne 15, 3) := by decide +kernel
theorem dX4_bookedOrRunning_5 : decode cX4_bookedOrRunning 5 = .ok (.aload_n 0, 1) := by decide +kernel
theorem dX4_bookedOrRunning_6 : decode cX4_bookedOrRunning 6 = .ok (.getfield 42, 3) := by decide +kernel
theorem dX4_bookedOrRunning_9 : decode cX4_bookedOrRunning 9 = .ok (.ifnull 8, 3) := by decide +kernel
theorem dX4_bookedOrRunning_12 : decode cX4_bookedOrRunning 12 = .ok (.aload_n 0, 1) := by decide +kernel
theorem dX4_bookedOrRunning_13 : decode cX4_bookedOrRunning 13 = .ok (.getfield 42, 3) := by decide +kernel
theorem dX4_bookedOrRunning_16 : decode cX4_bookedOrRunning 16 = .ok (.areturn, 1) := by decide +kernel
theorem dX4_bookedOrRunning_17 : decode cX4_bookedOrRunning 17 = .ok (.aload_n 0, 1) := by decide +kernel
theorem dX4_bookedOrRunning_18 : decode cX4_bookedOrRunning 18 = .ok (.iload_n 1, 1) := by decide +kernel
theorem dX4_bookedOrRunning_19 : decode cX4_bookedOrRunning 19 = .ok (.invokevirtual 159, 3) := by decide +kernel
theorem dX4_bookedOrRunning_22 : decode cX4_bookedOrRunning 22 = .ok (.areturn, 1) := by decide +kernel
theorem dX4_nextExponent_0 : decode cX4_nextExponent 0 = .ok (.iconst 1, 1) := by decide +kernel
theorem dX4_nextExponent_1 : decode cX4_nextExponent 1 = .ok (.aload_n 0, 1) := by decide +kernel
theorem dX4_nextExponent_2 : decode cX4_nextExponent 2 = .ok (.getfield 10, 3) := by decide +kernel
theorem dX4_nextExponent_5 : decode cX4_nextExponent 5 = .ok (.getfield 207, 3) := by decide +kernel
theorem dX4_nextExponent_8 : decode cX4_nextExponent 8 = .ok (.invokestatic 231, 3) := by decide +kernel
theorem dX4_nextExponent_11 : decode cX4_nextExponent 11 = .ok (.istore_n 1, 1) := by decide +kernel
theorem dX4_nextExponent_12 : decode cX4_nextExponent 12 = .ok (.iload_n 1, 1) := by decide +kernel
theorem dX4_nextExponent_13 : decode cX4_nextExponent 13 = .ok (.aload_n 0, 1) := by decide +kernel
theorem dX4_nextExponent_14 : decode cX4_nextExponent 14 = .ok (.getfield 38, 3) := by decide +kernel
theorem dX4_nextExponent_17 : decode cX4_nextExponent 17 = .ok (.invokestatic 231, 3) := by decide +kernel
theorem dX4_nextExponent_20 : decode cX4_nextExponent 20 = .ok (.istore_n 1, 1) := by decide +kernel
theorem dX4_nextExponent_21 : decode cX4_nextExponent 21 = .ok (.aload_n 0, 1) := by decide +kernel
theorem dX4_nextExponent_22 : decode cX4_nextExponent 22 = .ok (.getfield 38, 3) := by decide +kernel
theorem dX4_nextExponent_25 : decode cX4_nextExponent 25 = .ok (.ifCond .le 22, 3) := by decide +kernel
theorem dX4_nextExponent_28 : decode cX4_nextExponent 28 = .ok (.iload_n 1, 1) := by decide +kernel
theorem dX4_nextExponent_29 : decode cX4_nextExponent 29 = .ok (.aload_n 0, 1) := by decide +kernel
theorem dX4_nextExponent_30 : decode cX4_nextExponent 30 = .ok (.getfield 18, 3) := by decide +kernel
theorem dX4_nextExponent_33 : decode cX4_nextExponent 33 = .ok (.aload_n 0, 1) := by decide +kernel
theorem dX4_nextExponent_34 : decode cX4_nextExponent 34 = .ok (.getfield 38, 3) := by decide +kernel
theorem dX4_nextExponent_37 : decode cX4_nextExponent 37 = .ok (.iconst 1, 1) := by decide +kernel
theorem dX4_nextExponent_38 : decode cX4_nextExponent 38 = .ok (.isub, 1) := by decide +kernel
theorem dX4_nextExponent_39 : decode cX4_nextExponent 39 = .ok (.aaload, 1) := by decide +kernel
theorem dX4_nextExponent_40 : decode cX4_nextExponent 40 = .ok (.getfield 104, 3) := by decide +kernel
theorem dX4_nextExponent_43 : decode cX4_nextExponent 43 = .ok (.invokestatic 234, 3) := by decide +kernel
theorem dX4_nextExponent_46 : decode cX4_nextExponent 46 = .ok (.istore_n 1, 1) := by decide +kernel
theorem dX4_nextExponent_47 : decode cX4_nextExponent 47 = .ok (.iload_n 1, 1) := by decide +kernel
theorem dX4_nextExponent_48 : decode cX4_nextExponent 48 = .ok (.ldc 238, 2) := by decide +kernel
theorem dX4_nextExponent_50 : decode cX4_nextExponent 50 = .ok (.iand, 1) := by decide +kernel
theorem dX4_nextExponent_51 : decode cX4_nextExponent 51 = .ok (.iconst 1, 1) := by decide +kernel
theorem dX4_nextExponent_52 : decode cX4_nextExponent 52 = .ok (.iadd, 1) := by decide +kernel
theorem dX4_nextExponent_53 : decode cX4_nextExponent 53 = .ok (.ireturn, 1) := by decide +kernel
theorem dX4_primeOf_0 : decode cX4_primeOf 0 = .ok (.iconst 2, 1) := by decide +kernel
theorem dX4_primeOf_1 : decode cX4_primeOf 1 = .ok (.aload_n 0, 1) := by decide +kernel
theorem dX4_primeOf_2 : decode cX4_primeOf 2 = .ok (.invokestatic 234, 3) := by decide +kernel
theorem dX4_primeOf_5 : decode cX4_primeOf 5 = .ok (.istore_n 3, 1) := by decide +kernel
theorem dX4_primeOf_6 : decode cX4_primeOf 6 = .ok (.iload_n 3, 1) := by decide +kernel
theorem dX4_primeOf_7 : decode cX4_primeOf 7 = .ok (.aload_n 1, 1) := by decide +kernel
theorem dX4_primeOf_8 : decode cX4_primeOf 8 = .ok (.invokestatic 234, 3) := by decide +kernel
theorem dX4_primeOf_11 : decode cX4_primeOf 11 = .ok (.istore_n 3, 1) := by decide +kernel
theorem dX4_primeOf_12 : decode cX4_primeOf 12 = .ok (.iload_n 3, 1) := by decide +kernel
theorem dX4_primeOf_13 : decode cX4_primeOf 13 = .ok (.iload_n 2, 1) := by decide +kernel
theorem dX4_primeOf_14 : decode cX4_primeOf 14 = .ok (.invokestatic 231, 3) := by decide +kernel
theorem dX4_primeOf_17 : decode cX4_primeOf 17 = .ok (.istore_n 3, 1) := by decide +kernel
theorem dX4_primeOf_18 : decode cX4_primeOf 18 = .ok (.iload_n 3, 1) := by decide +kernel
theorem dX4_primeOf_19 : decode cX4_primeOf 19 = .ok (.ldc 238, 2) := by decide +kernel
theorem dX4_primeOf_21 : decode cX4_primeOf 21 = .ok (.iand, 1) := by decide +kernel
theorem dX4_primeOf_22 : decode cX4_primeOf 22 = .ok (.iconst 3, 1) := by decide +kernel
theorem dX4_primeOf_23 : decode cX4_primeOf 23 = .ok (.iadd, 1) := by decide +kernel
theorem dX4_primeOf_24 : decode cX4_primeOf 24 = .ok (.invokestatic 239, 3) := by decide +kernel
theorem dX4_primeOf_27 : decode cX4_primeOf 27 = .ok (.ireturn, 1) := by decide +kernel
theorem dX4_mixed_0 : decode cX4_mixed 0 = .ok (.iload_n 0, 1) := by decide +kernel
theorem dX4_mixed_1 : decode cX4_mixed 1 = .ok (.iload_n 1, 1) := by decide +kernel
theorem dX4_mixed_2 : decode cX4_mixed 2 = .ok (.ixor, 1) := by decide +kernel
theorem dX4_mixed_3 : decode cX4_mixed 3 = .ok (.ldc 242, 2) := by decide +kernel
theorem dX4_mixed_5 : decode cX4_mixed 5 = .ok (.imul, 1) := by decide +kernel
theorem dX4_mixed_6 : decode cX4_mixed 6 = .ok (.istore_n 2, 1) := by decide +kernel
theorem dX4_mixed_7 : decode cX4_mixed 7 = .ok (.iload_n 2, 1) := by decide +kernel
theorem dX4_mixed_8 : decode cX4_mixed 8 = .ok (.iload_n 2, 1) := by decide +kernel
theorem dX4_mixed_9 : decode cX4_mixed 9 = .ok (.bipush 15, 2) := by decide +kernel
theorem dX4_mixed_11 : decode cX4_mixed 11 = .ok (.iushr, 1) := by decide +kernel
theorem dX4_mixed_12 : decode cX4_mixed 12 = .ok (.ixor, 1) := by decide +kernel
theorem dX4_mixed_13 : decode cX4_mixed 13 = .ok (.ireturn, 1) := by decide +kernel
theorem dX4_mixedForm_0 : decode cX4_mixedForm 0 = .ok (.iload_n 0, 1) := by decide +kernel
theorem dX4_mixedForm_1 : decode cX4_mixedForm 1 = .ok (.aload_n 1, 1) := by decide +kernel
theorem dX4_mixedForm_2 : decode cX4_mixedForm 2 = .ok (.getfield 243, 3) := by decide +kernel
theorem dX4_mixedForm_5 : decode cX4_mixedForm 5 = .ok (.l2i, 1) := by decide +kernel
theorem dX4_mixedForm_6 : decode cX4_mixedForm 6 = .ok (.invokestatic 231, 3) := by decide +kernel
theorem dX4_mixedForm_9 : decode cX4_mixedForm 9 = .ok (.aload_n 1, 1) := by decide +kernel
theorem dX4_mixedForm_10 : decode cX4_mixedForm 10 = .ok (.getfield 247, 3) := by decide +kernel
theorem dX4_mixedForm_13 : decode cX4_mixedForm 13 = .ok (.l2i, 1) := by decide +kernel
theorem dX4_mixedForm_14 : decode cX4_mixedForm 14 = .ok (.invokestatic 231, 3) := by decide +kernel
theorem dX4_mixedForm_17 : decode cX4_mixedForm 17 = .ok (.ireturn, 1) := by decide +kernel
theorem dX4_leastPrimeFrom_0 : decode cX4_leastPrimeFrom 0 = .ok (.iload_n 0, 1) := by decide +kernel
theorem dX4_leastPrimeFrom_1 : decode cX4_leastPrimeFrom 1 = .ok (.istore_n 1, 1) := by decide +kernel
theorem dX4_leastPrimeFrom_2 : decode cX4_leastPrimeFrom 2 = .ok (.iconst 0, 1) := by decide +kernel
theorem dX4_leastPrimeFrom_3 : decode cX4_leastPrimeFrom 3 = .ok (.istore_n 2, 1) := by decide +kernel
theorem dX4_leastPrimeFrom_4 : decode cX4_leastPrimeFrom 4 = .ok (.iload_n 2, 1) := by decide +kernel
theorem dX4_leastPrimeFrom_5 : decode cX4_leastPrimeFrom 5 = .ok (.ldc 173, 2) := by decide +kernel
theorem dX4_leastPrimeFrom_7 : decode cX4_leastPrimeFrom 7 = .ok (.if_icmp .ge 19, 3) := by decide +kernel
theorem dX4_leastPrimeFrom_10 : decode cX4_leastPrimeFrom 10 = .ok (.iload_n 1, 1) := by decide +kernel
theorem dX4_leastPrimeFrom_11 : decode cX4_leastPrimeFrom 11 = .ok (.invokestatic 250, 3) := by decide +kernel
theorem dX4_leastPrimeFrom_14 : decode cX4_leastPrimeFrom 14 = .ok (.ifCond .ne 12, 3) := by decide +kernel
theorem dX4_leastPrimeFrom_17 : decode cX4_leastPrimeFrom 17 = .ok (.iinc 1 1, 3) := by decide +kernel
theorem dX4_leastPrimeFrom_20 : decode cX4_leastPrimeFrom 20 = .ok (.iinc 2 1, 3) := by decide +kernel
theorem dX4_leastPrimeFrom_23 : decode cX4_leastPrimeFrom 23 = .ok (.goto (-19), 3) := by decide +kernel
theorem dX4_leastPrimeFrom_26 : decode cX4_leastPrimeFrom 26 = .ok (.iload_n 1, 1) := by decide +kernel
theorem dX4_leastPrimeFrom_27 : decode cX4_leastPrimeFrom 27 = .ok (.ireturn, 1) := by decide +kernel
theorem dX4_isPrime_0 : decode cX4_isPrime 0 = .ok (.iconst 2, 1) := by decide +kernel
theorem dX4_isPrime_1 : decode cX4_isPrime 1 = .ok (.istore_n 1, 1) := by decide +kernel
theorem dX4_isPrime_2 : decode cX4_isPrime 2 = .ok (.iload_n 1, 1) := by decide +kernel
theorem dX4_isPrime_3 : decode cX4_isPrime 3 = .ok (.iload_n 1, 1) := by decide +kernel
theorem dX4_isPrime_4 : decode cX4_isPrime 4 = .ok (.imul, 1) := by decide +kernel
theorem dX4_isPrime_5 : decode cX4_isPrime 5 = .ok (.iload_n 0, 1) := by decide +kernel
theorem dX4_isPrime_6 : decode cX4_isPrime 6 = .ok (.if_icmp .gt 17, 3) := by decide +kernel
theorem dX4_isPrime_9 : decode cX4_isPrime 9 = .ok (.iload_n 0, 1) := by decide +kernel
theorem dX4_isPrime_10 : decode cX4_isPrime 10 = .ok (.iload_n 1, 1) := by decide +kernel
theorem dX4_isPrime_11 : decode cX4_isPrime 11 = .ok (.irem, 1) := by decide +kernel
theorem dX4_isPrime_12 : decode cX4_isPrime 12 = .ok (.ifCond .ne 5, 3) := by decide +kernel
theorem dX4_isPrime_15 : decode cX4_isPrime 15 = .ok (.iconst 0, 1) := by decide +kernel
theorem dX4_isPrime_16 : decode cX4_isPrime 16 = .ok (.ireturn, 1) := by decide +kernel
theorem dX4_isPrime_17 : decode cX4_isPrime 17 = .ok (.iinc 1 1, 3) := by decide +kernel
theorem dX4_isPrime_20 : decode cX4_isPrime 20 = .ok (.goto (-18), 3) := by decide +kernel
theorem dX4_isPrime_23 : decode cX4_isPrime 23 = .ok (.iload_n 0, 1) := by decide +kernel
theorem dX4_isPrime_24 : decode cX4_isPrime 24 = .ok (.iconst 1, 1) := by decide +kernel
theorem dX4_isPrime_25 : decode cX4_isPrime 25 = .ok (.if_icmp .le 7, 3) := by decide +kernel
theorem dX4_isPrime_28 : decode cX4_isPrime 28 = .ok (.iconst 1, 1) := by decide +kernel
theorem dX4_isPrime_29 : decode cX4_isPrime 29 = .ok (.goto 4, 3) := by decide +kernel
theorem dX4_isPrime_32 : decode cX4_isPrime 32 = .ok (.iconst 0, 1) := by decide +kernel
theorem dX4_isPrime_33 : decode cX4_isPrime 33 = .ok (.ireturn, 1) := by decide +kernel
theorem dX4_stepOfProof_0 : decode cX4_stepOfProof 0 = .ok (.aload_n 0, 1) := by decide +kernel
theorem dX4_stepOfProof_1 : decode cX4_stepOfProof 1 = .ok (.getfield 10, 3) := by decide +kernel
theorem dX4_stepOfProof_4 : decode cX4_stepOfProof 4 = .ok (.aload_n 1, 1) := by decide +kernel
theorem dX4_stepOfProof_5 : decode cX4_stepOfProof 5 = .ok (.getfield 111, 3) := by decide +kernel
theorem dX4_stepOfProof_8 : decode cX4_stepOfProof 8 = .ok (.aload_n 1, 1) := by decide +kernel
theorem dX4_stepOfProof_9 : decode cX4_stepOfProof 9 = .ok (.getfield 111, 3) := by decide +kernel
theorem dX4_stepOfProof_12 : decode cX4_stepOfProof 12 = .ok (.aload_n 1, 1) := by decide +kernel
theorem dX4_stepOfProof_13 : decode cX4_stepOfProof 13 = .ok (.getfield 111, 3) := by decide +kernel
theorem dX4_stepOfProof_16 : decode cX4_stepOfProof 16 = .ok (.invokevirtual 125, 3) := by decide +kernel
theorem dX4_stepOfProof_19 : decode cX4_stepOfProof 19 = .ok (.aload_n 1, 1) := by decide +kernel
theorem dX4_stepOfProof_20 : decode cX4_stepOfProof 20 = .ok (.iconst 2, 1) := by decide +kernel
theorem dX4_stepOfProof_21 : decode cX4_stepOfProof 21 = .ok (.aload_n 1, 1) := by decide +kernel
theorem dX4_stepOfProof_22 : decode cX4_stepOfProof 22 = .ok (.getfield 83, 3) := by decide +kernel
theorem dX4_stepOfProof_25 : decode cX4_stepOfProof 25 = .ok (.imul, 1) := by decide +kernel
theorem dX4_stepOfProof_26 : decode cX4_stepOfProof 26 = .ok (.putfield 83, 3) := by decide +kernel
theorem dX4_stepOfProof_29 : decode cX4_stepOfProof 29 = .ok (.aload_n 1, 1) := by decide +kernel
theorem dX4_stepOfProof_30 : decode cX4_stepOfProof 30 = .ok (.getfield 83, 3) := by decide +kernel
theorem dX4_stepOfProof_33 : decode cX4_stepOfProof 33 = .ok (.aload_n 1, 1) := by decide +kernel
theorem dX4_stepOfProof_34 : decode cX4_stepOfProof 34 = .ok (.getfield 80, 3) := by decide +kernel
theorem dX4_stepOfProof_37 : decode cX4_stepOfProof 37 = .ok (.if_icmp .lt 35, 3) := by decide +kernel
theorem dX4_stepOfProof_40 : decode cX4_stepOfProof 40 = .ok (.aload_n 0, 1) := by decide +kernel
theorem dX4_stepOfProof_41 : decode cX4_stepOfProof 41 = .ok (.getfield 10, 3) := by decide +kernel
theorem dX4_stepOfProof_44 : decode cX4_stepOfProof 44 = .ok (.aload_n 1, 1) := by decide +kernel
theorem dX4_stepOfProof_45 : decode cX4_stepOfProof 45 = .ok (.getfield 111, 3) := by decide +kernel
theorem dX4_stepOfProof_48 : decode cX4_stepOfProof 48 = .ok (.aload_n 1, 1) := by decide +kernel
theorem dX4_stepOfProof_49 : decode cX4_stepOfProof 49 = .ok (.getfield 97, 3) := by decide +kernel
theorem dX4_stepOfProof_52 : decode cX4_stepOfProof 52 = .ok (.aload_n 1, 1) := by decide +kernel
theorem dX4_stepOfProof_53 : decode cX4_stepOfProof 53 = .ok (.getfield 111, 3) := by decide +kernel
theorem dX4_stepOfProof_56 : decode cX4_stepOfProof 56 = .ok (.invokevirtual 125, 3) := by decide +kernel
theorem dX4_stepOfProof_59 : decode cX4_stepOfProof 59 = .ok (.aload_n 1, 1) := by decide +kernel
theorem dX4_stepOfProof_60 : decode cX4_stepOfProof 60 = .ok (.dup, 1) := by decide +kernel
theorem dX4_stepOfProof_61 : decode cX4_stepOfProof 61 = .ok (.getfield 83, 3) := by decide +kernel
theorem dX4_stepOfProof_64 : decode cX4_stepOfProof 64 = .ok (.aload_n 1, 1) := by decide +kernel
theorem dX4_stepOfProof_65 : decode cX4_stepOfProof 65 = .ok (.getfield 80, 3) := by decide +kernel
theorem dX4_stepOfProof_68 : decode cX4_stepOfProof 68 = .ok (.isub, 1) := by decide +kernel
theorem dX4_stepOfProof_69 : decode cX4_stepOfProof 69 = .ok (.putfield 83, 3) := by decide +kernel
theorem dX4_stepOfProof_72 : decode cX4_stepOfProof 72 = .ok (.return_, 1) := by decide +kernel
theorem dX4_quotient_0 : decode cX4_quotient 0 = .ok (.lload_n 2, 1) := by decide +kernel
theorem dX4_quotient_1 : decode cX4_quotient 1 = .ok (.lconst 0, 1) := by decide +kernel
theorem dX4_quotient_2 : decode cX4_quotient 2 = .ok (.lcmp, 1) := by decide +kernel
theorem dX4_quotient_3 : decode cX4_quotient 3 = .ok (.ifCond .ne 7, 3) := by decide +kernel
theorem dX4_quotient_6 : decode cX4_quotient 6 = .ok (.lconst 0, 1) := by decide +kernel
theorem dX4_quotient_7 : decode cX4_quotient 7 = .ok (.goto 6, 3) := by decide +kernel
theorem dX4_quotient_10 : decode cX4_quotient 10 = .ok (.lload_n 0, 1) := by decide +kernel
theorem dX4_quotient_11 : decode cX4_quotient 11 = .ok (.lload_n 2, 1) := by decide +kernel
theorem dX4_quotient_12 : decode cX4_quotient 12 = .ok (.ldiv, 1) := by decide +kernel
theorem dX4_quotient_13 : decode cX4_quotient 13 = .ok (.lreturn, 1) := by decide +kernel
theorem dX4_remainder_0 : decode cX4_remainder 0 = .ok (.lload_n 2, 1) := by decide +kernel
theorem dX4_remainder_1 : decode cX4_remainder 1 = .ok (.lconst 0, 1) := by decide +kernel
theorem dX4_remainder_2 : decode cX4_remainder 2 = .ok (.lcmp, 1) := by decide +kernel
theorem dX4_remainder_3 : decode cX4_remainder 3 = .ok (.ifCond .ne 7, 3) := by decide +kernel
theorem dX4_remainder_6 : decode cX4_remainder 6 = .ok (.lconst 0, 1) := by decide +kernel
theorem dX4_remainder_7 : decode cX4_remainder 7 = .ok (.goto 6, 3) := by decide +kernel
theorem dX4_remainder_10 : decode cX4_remainder 10 = .ok (.lload_n 0, 1) := by decide +kernel
theorem dX4_remainder_11 : decode cX4_remainder 11 = .ok (.lload_n 2, 1) := by decide +kernel
theorem dX4_remainder_12 : decode cX4_remainder 12 = .ok (.lrem, 1) := by decide +kernel
theorem dX4_remainder_13 : decode cX4_remainder 13 = .ok (.lstore 4, 2) := by decide +kernel
theorem dX4_remainder_15 : decode cX4_remainder 15 = .ok (.lload 4, 2) := by decide +kernel
theorem dX4_remainder_17 : decode cX4_remainder 17 = .ok (.lconst 0, 1) := by decide +kernel
theorem dX4_remainder_18 : decode cX4_remainder 18 = .ok (.lcmp, 1) := by decide +kernel
theorem dX4_remainder_19 : decode cX4_remainder 19 = .ok (.ifCond .ge 10, 3) := by decide +kernel
theorem dX4_remainder_22 : decode cX4_remainder 22 = .ok (.lload 4, 2) := by decide +kernel
theorem dX4_remainder_24 : decode cX4_remainder 24 = .ok (.lload_n 2, 1) := by decide +kernel
theorem dX4_remainder_25 : decode cX4_remainder 25 = .ok (.ladd, 1) := by decide +kernel
theorem dX4_remainder_26 : decode cX4_remainder 26 = .ok (.goto 5, 3) := by decide +kernel
theorem dX4_remainder_29 : decode cX4_remainder 29 = .ok (.lload 4, 2) := by decide +kernel
theorem dX4_remainder_31 : decode cX4_remainder 31 = .ok (.lreturn, 1) := by decide +kernel
theorem dX5_init_0 : decode cX5_init 0 = .ok (.aload_n 0, 1) := by decide +kernel
theorem dX5_init_1 : decode cX5_init 1 = .ok (.invokespecial 1, 3) := by decide +kernel
theorem dX5_init_4 : decode cX5_init 4 = .ok (.aload_n 0, 1) := by decide +kernel
theorem dX5_init_5 : decode cX5_init 5 = .ok (.bipush 64, 2) := by decide +kernel
theorem dX5_init_7 : decode cX5_init 7 = .ok (.newarray .long, 2) := by decide +kernel
theorem dX5_init_9 : decode cX5_init 9 = .ok (.putfield 7, 3) := by decide +kernel
theorem dX5_init_12 : decode cX5_init 12 = .ok (.aload_n 0, 1) := by decide +kernel
theorem dX5_init_13 : decode cX5_init 13 = .ok (.bipush 64, 2) := by decide +kernel
theorem dX5_init_15 : decode cX5_init 15 = .ok (.newarray .long, 2) := by decide +kernel
theorem dX5_init_17 : decode cX5_init 17 = .ok (.putfield 13, 3) := by decide +kernel
theorem dX5_init_20 : decode cX5_init 20 = .ok (.aload_n 0, 1) := by decide +kernel
theorem dX5_init_21 : decode cX5_init 21 = .ok (.bipush 64, 2) := by decide +kernel
theorem dX5_init_23 : decode cX5_init 23 = .ok (.newarray .long, 2) := by decide +kernel
theorem dX5_init_25 : decode cX5_init 25 = .ok (.putfield 16, 3) := by decide +kernel
theorem dX5_init_28 : decode cX5_init 28 = .ok (.aload_n 0, 1) := by decide +kernel
theorem dX5_init_29 : decode cX5_init 29 = .ok (.iconst 3, 1) := by decide +kernel
theorem dX5_init_30 : decode cX5_init 30 = .ok (.newarray .boolean, 2) := by decide +kernel
theorem dX5_init_32 : decode cX5_init 32 = .ok (.putfield 19, 3) := by decide +kernel
theorem dX5_init_35 : decode cX5_init 35 = .ok (.aload_n 0, 1) := by decide +kernel
theorem dX5_init_36 : decode cX5_init 36 = .ok (.bipush 51, 2) := by decide +kernel
theorem dX5_init_38 : decode cX5_init 38 = .ok (.newarray .int, 2) := by decide +kernel
theorem dX5_init_40 : decode cX5_init 40 = .ok (.putfield 23, 3) := by decide +kernel
theorem dX5_init_43 : decode cX5_init 43 = .ok (.return_, 1) := by decide +kernel
theorem dX5_thrown_0 : decode cX5_thrown 0 = .ok (.aload_n 0, 1) := by decide +kernel
theorem dX5_thrown_1 : decode cX5_thrown 1 = .ok (.getfield 27, 3) := by decide +kernel
theorem dX5_thrown_4 : decode cX5_thrown 4 = .ok (.ireturn, 1) := by decide +kernel
theorem dX5_divisor_0 : decode cX5_divisor 0 = .ok (.lload_n 0, 1) := by decide +kernel
theorem dX5_divisor_1 : decode cX5_divisor 1 = .ok (.lconst 0, 1) := by decide +kernel
theorem dX5_divisor_2 : decode cX5_divisor 2 = .ok (.lcmp, 1) := by decide +kernel
theorem dX5_divisor_3 : decode cX5_divisor 3 = .ok (.ifCond .ge 8, 3) := by decide +kernel
theorem dX5_divisor_6 : decode cX5_divisor 6 = .ok (.lload_n 0, 1) := by decide +kernel
theorem dX5_divisor_7 : decode cX5_divisor 7 = .ok (.lneg, 1) := by decide +kernel
theorem dX5_divisor_8 : decode cX5_divisor 8 = .ok (.goto 4, 3) := by decide +kernel
theorem dX5_divisor_11 : decode cX5_divisor 11 = .ok (.lload_n 0, 1) := by decide +kernel
theorem dX5_divisor_12 : decode cX5_divisor 12 = .ok (.lstore 4, 2) := by decide +kernel
theorem dX5_divisor_14 : decode cX5_divisor 14 = .ok (.lload_n 2, 1) := by decide +kernel
theorem dX5_divisor_15 : decode cX5_divisor 15 = .ok (.lconst 0, 1) := by decide +kernel
theorem dX5_divisor_16 : decode cX5_divisor 16 = .ok (.lcmp, 1) := by decide +kernel
theorem dX5_divisor_17 : decode cX5_divisor 17 = .ok (.ifCond .ge 8, 3) := by decide +kernel
theorem dX5_divisor_20 : decode cX5_divisor 20 = .ok (.lload_n 2, 1) := by decide +kernel
theorem dX5_divisor_21 : decode cX5_divisor 21 = .ok (.lneg, 1) := by decide +kernel
theorem dX5_divisor_22 : decode cX5_divisor 22 = .ok (.goto 4, 3) := by decide +kernel
theorem dX5_divisor_25 : decode cX5_divisor 25 = .ok (.lload_n 2, 1) := by decide +kernel
theorem dX5_divisor_26 : decode cX5_divisor 26 = .ok (.lstore 6, 2) := by decide +kernel
theorem dX5_divisor_28 : decode cX5_divisor 28 = .ok (.lload 6, 2) := by decide +kernel
theorem dX5_divisor_30 : decode cX5_divisor 30 = .ok (.lconst 0, 1) := by decide +kernel
theorem dX5_divisor_31 : decode cX5_divisor 31 = .ok (.lcmp, 1) := by decide +kernel
theorem dX5_divisor_32 : decode cX5_divisor 32 = .ok (.ifCond .eq 21, 3) := by decide +kernel
theorem dX5_divisor_35 : decode cX5_divisor 35 = .ok (.lload 4, 2) := by decide +kernel
theorem dX5_divisor_37 : decode cX5_divisor 37 = .ok (.lload 6, 2) := by decide +kernel
theorem dX5_divisor_39 : decode cX5_divisor 39 = .ok (.lrem, 1) := by decide +kernel
theorem dX5_divisor_40 : decode cX5_divisor 40 = .ok (.lstore 8, 2) := by decide +kernel
theorem dX5_divisor_42 : decode cX5_divisor 42 = .ok (.lload 6, 2) := by decide +kernel
theorem dX5_divisor_44 : decode cX5_divisor 44 = .ok (.lstore 4, 2) := by decide +kernel
theorem dX5_divisor_46 : decode cX5_divisor 46 = .ok (.lload 8, 2) := by decide +kernel
theorem dX5_divisor_48 : decode cX5_divisor 48 = .ok (.lstore 6, 2) := by decide +kernel
theorem dX5_divisor_50 : decode cX5_divisor 50 = .ok (.goto (-22), 3) := by decide +kernel
theorem dX5_divisor_53 : decode cX5_divisor 53 = .ok (.lload 4, 2) := by decide +kernel
theorem dX5_divisor_55 : decode cX5_divisor 55 = .ok (.lreturn, 1) := by decide +kernel
theorem dX5_down_0 : decode cX5_down 0 = .ok (.lload_n 0, 1) := by decide +kernel
theorem dX5_down_1 : decode cX5_down 1 = .ok (.lload_n 2, 1) := by decide +kernel
theorem dX5_down_2 : decode cX5_down 2 = .ok (.ldiv, 1) := by decide +kernel
theorem dX5_down_3 : decode cX5_down 3 = .ok (.lstore 4, 2) := by decide +kernel
theorem dX5_down_5 : decode cX5_down 5 = .ok (.lload_n 0, 1) := by decide +kernel
theorem dX5_down_6 : decode cX5_down 6 = .ok (.lload_n 2, 1) := by decide +kernel
theorem dX5_down_7 : decode cX5_down 7 = .ok (.lrem, 1) := by decide +kernel
theorem dX5_down_8 : decode cX5_down 8 = .ok (.lconst 0, 1) := by decide +kernel
theorem dX5_down_9 : decode cX5_down 9 = .ok (.lcmp, 1) := by decide +kernel
theorem dX5_down_10 : decode cX5_down 10 = .ok (.ifCond .ge 10, 3) := by decide +kernel
theorem dX5_down_13 : decode cX5_down 13 = .ok (.lload 4, 2) := by decide +kernel
theorem dX5_down_15 : decode cX5_down 15 = .ok (.lconst 1, 1) := by decide +kernel
theorem dX5_down_16 : decode cX5_down 16 = .ok (.lsub, 1) := by decide +kernel
theorem dX5_down_17 : decode cX5_down 17 = .ok (.goto 5, 3) := by decide +kernel
theorem dX5_down_20 : decode cX5_down 20 = .ok (.lload 4, 2) := by decide +kernel
theorem dX5_down_22 : decode cX5_down 22 = .ok (.lreturn, 1) := by decide +kernel
theorem dX5_modulo_0 : decode cX5_modulo 0 = .ok (.lload_n 0, 1) := by decide +kernel
theorem dX5_modulo_1 : decode cX5_modulo 1 = .ok (.lload_n 2, 1) := by decide +kernel
theorem dX5_modulo_2 : decode cX5_modulo 2 = .ok (.lrem, 1) := by decide +kernel
theorem dX5_modulo_3 : decode cX5_modulo 3 = .ok (.lstore 4, 2) := by decide +kernel
theorem dX5_modulo_5 : decode cX5_modulo 5 = .ok (.lload 4, 2) := by decide +kernel
theorem dX5_modulo_7 : decode cX5_modulo 7 = .ok (.lconst 0, 1) := by decide +kernel
theorem dX5_modulo_8 : decode cX5_modulo 8 = .ok (.lcmp, 1) := by decide +kernel
theorem dX5_modulo_9 : decode cX5_modulo 9 = .ok (.ifCond .ge 10, 3) := by decide +kernel
theorem dX5_modulo_12 : decode cX5_modulo 12 = .ok (.lload 4, 2) := by decide +kernel
theorem dX5_modulo_14 : decode cX5_modulo 14 = .ok (.lload_n 2, 1) := by decide +kernel
theorem dX5_modulo_15 : decode cX5_modulo 15 = .ok (.ladd, 1) := by decide +kernel
theorem dX5_modulo_16 : decode cX5_modulo 16 = .ok (.goto 5, 3) := by decide +kernel
theorem dX5_modulo_19 : decode cX5_modulo 19 = .ok (.lload 4, 2) := by decide +kernel
theorem dX5_modulo_21 : decode cX5_modulo 21 = .ok (.lreturn, 1) := by decide +kernel
theorem dX5_inverse_0 : decode cX5_inverse 0 = .ok (.lload_n 2, 1) := by decide +kernel
theorem dX5_inverse_1 : decode cX5_inverse 1 = .ok (.lstore 4, 2) := by decide +kernel
theorem dX5_inverse_3 : decode cX5_inverse 3 = .ok (.lload_n 0, 1) := by decide +kernel
theorem dX5_inverse_4 : decode cX5_inverse 4 = .ok (.lload_n 2, 1) := by decide +kernel
theorem dX5_inverse_5 : decode cX5_inverse 5 = .ok (.invokestatic 31, 3) := by decide +kernel
theorem dX5_inverse_8 : decode cX5_inverse 8 = .ok (.lstore 6, 2) := by decide +kernel
theorem dX5_inverse_10 : decode cX5_inverse 10 = .ok (.lconst 0, 1) := by decide +kernel
theorem dX5_inverse_11 : decode cX5_inverse 11 = .ok (.lstore 8, 2) := by decide +kernel
theorem dX5_inverse_13 : decode cX5_inverse 13 = .ok (.lconst 1, 1) := by decide +kernel
theorem dX5_inverse_14 : decode cX5_inverse 14 = .ok (.lstore 10, 2) := by decide +kernel
theorem dX5_inverse_16 : decode cX5_inverse 16 = .ok (.lload 6, 2) := by decide +kernel
theorem dX5_inverse_18 : decode cX5_inverse 18 = .ok (.lconst 0, 1) := by decide +kernel
theorem dX5_inverse_19 : decode cX5_inverse 19 = .ok (.lcmp, 1) := by decide +kernel
theorem dX5_inverse_20 : decode cX5_inverse 20 = .ok (.ifCond .eq 49, 3) := by decide +kernel
theorem dX5_inverse_23 : decode cX5_inverse 23 = .ok (.lload 4, 2) := by decide +kernel
theorem dX5_inverse_25 : decode cX5_inverse 25 = .ok (.lload 6, 2) := by decide +kernel
theorem dX5_inverse_27 : decode cX5_inverse 27 = .ok (.ldiv, 1) := by decide +kernel
theorem dX5_inverse_28 : decode cX5_inverse 28 = .ok (.lstore 12, 2) := by decide +kernel
theorem dX5_inverse_30 : decode cX5_inverse 30 = .ok (.lload 4, 2) := by decide +kernel
theorem dX5_inverse_32 : decode cX5_inverse 32 = .ok (.lload 12, 2) := by decide +kernel
theorem dX5_inverse_34 : decode cX5_inverse 34 = .ok (.lload 6, 2) := by decide +kernel
theorem dX5_inverse_36 : decode cX5_inverse 36 = .ok (.lmul, 1) := by decide +kernel
theorem dX5_inverse_37 : decode cX5_inverse 37 = .ok (.lsub, 1) := by decide +kernel
theorem dX5_inverse_38 : decode cX5_inverse 38 = .ok (.lstore 14, 2) := by decide +kernel
theorem dX5_inverse_40 : decode cX5_inverse 40 = .ok (.lload 6, 2) := by decide +kernel
theorem dX5_inverse_42 : decode cX5_inverse 42 = .ok (.lstore 4, 2) := by decide +kernel
theorem dX5_inverse_44 : decode cX5_inverse 44 = .ok (.lload 14, 2) := by decide +kernel
theorem dX5_inverse_46 : decode cX5_inverse 46 = .ok (.lstore 6, 2) := by decide +kernel
theorem dX5_inverse_48 : decode cX5_inverse 48 = .ok (.lload 8, 2) := by decide +kernel
theorem dX5_inverse_50 : decode cX5_inverse 50 = .ok (.lload 12, 2) := by decide +kernel
theorem dX5_inverse_52 : decode cX5_inverse 52 = .ok (.lload 10, 2) := by decide +kernel
theorem dX5_inverse_54 : decode cX5_inverse 54 = .ok (.lmul, 1) := by decide +kernel
theorem dX5_inverse_55 : decode cX5_inverse 55 = .ok (.lsub, 1) := by decide +kernel
theorem dX5_inverse_56 : decode cX5_inverse 56 = .ok (.lstore 14, 2) := by decide +kernel
theorem dX5_inverse_58 : decode cX5_inverse 58 = .ok (.lload 10, 2) := by decide +kernel
theorem dX5_inverse_60 : decode cX5_inverse 60 = .ok (.lstore 8, 2) := by decide +kernel
theorem dX5_inverse_62 : decode cX5_inverse 62 = .ok (.lload 14, 2) := by decide +kernel
theorem dX5_inverse_64 : decode cX5_inverse 64 = .ok (.lstore 10, 2) := by decide +kernel
