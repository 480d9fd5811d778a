theorem dX9_ofBox_1 : decode cX9_ofBox 1 = .ok (.bipush 6, 2) := by decide +kernel
theorem dX9_ofBox_3 : decode cX9_ofBox 3 = .ok (.iconst 5, 1) := by decide +kernel
theorem dX9_ofBox_4 : decode cX9_ofBox 4 = .ok (.iload_n 1, 1) := by decide +kernel
theorem dX9_ofBox_5 : decode cX9_ofBox 5 = .ok (.imul, 1) := by decide +kernel
theorem dX9_ofBox_6 : decode cX9_ofBox 6 = .ok (.iadd, 1) := by decide +kernel
theorem dX9_ofBox_7 : decode cX9_ofBox 7 = .ok (.iload_n 2, 1) := by decide +kernel
theorem dX9_ofBox_8 : decode cX9_ofBox 8 = .ok (.iadd, 1) := by decide +kernel
theorem dX9_ofBox_9 : decode cX9_ofBox 9 = .ok (.invokevirtual 62, 3) := by decide +kernel
theorem dX9_ofBox_12 : decode cX9_ofBox 12 = .ok (.ireturn, 1) := by decide +kernel
theorem dX9_ofLid_0 : decode cX9_ofLid 0 = .ok (.aload_n 0, 1) := by decide +kernel
theorem dX9_ofLid_1 : decode cX9_ofLid 1 = .ok (.bipush 41, 2) := by decide +kernel
theorem dX9_ofLid_3 : decode cX9_ofLid 3 = .ok (.iconst 4, 1) := by decide +kernel
theorem dX9_ofLid_4 : decode cX9_ofLid 4 = .ok (.iload_n 1, 1) := by decide +kernel
theorem dX9_ofLid_5 : decode cX9_ofLid 5 = .ok (.imul, 1) := by decide +kernel
theorem dX9_ofLid_6 : decode cX9_ofLid 6 = .ok (.iadd, 1) := by decide +kernel
theorem dX9_ofLid_7 : decode cX9_ofLid 7 = .ok (.iload_n 2, 1) := by decide +kernel
theorem dX9_ofLid_8 : decode cX9_ofLid 8 = .ok (.iadd, 1) := by decide +kernel
theorem dX9_ofLid_9 : decode cX9_ofLid 9 = .ok (.invokevirtual 62, 3) := by decide +kernel
theorem dX9_ofLid_12 : decode cX9_ofLid 12 = .ok (.ireturn, 1) := by decide +kernel
theorem dX9_copy_0 : decode cX9_copy 0 = .ok (.iconst 0, 1) := by decide +kernel
theorem dX9_copy_1 : decode cX9_copy 1 = .ok (.istore_n 3, 1) := by decide +kernel
theorem dX9_copy_2 : decode cX9_copy 2 = .ok (.iload_n 3, 1) := by decide +kernel
theorem dX9_copy_3 : decode cX9_copy 3 = .ok (.sipush 217, 3) := by decide +kernel
theorem dX9_copy_6 : decode cX9_copy 6 = .ok (.if_icmp .ge 25, 3) := by decide +kernel
theorem dX9_copy_9 : decode cX9_copy 9 = .ok (.aload_n 0, 1) := by decide +kernel
theorem dX9_copy_10 : decode cX9_copy 10 = .ok (.getfield 7, 3) := by decide +kernel
theorem dX9_copy_13 : decode cX9_copy 13 = .ok (.iload_n 2, 1) := by decide +kernel
theorem dX9_copy_14 : decode cX9_copy 14 = .ok (.iload_n 3, 1) := by decide +kernel
theorem dX9_copy_15 : decode cX9_copy 15 = .ok (.iadd, 1) := by decide +kernel
theorem dX9_copy_16 : decode cX9_copy 16 = .ok (.aload_n 0, 1) := by decide +kernel
theorem dX9_copy_17 : decode cX9_copy 17 = .ok (.getfield 7, 3) := by decide +kernel
theorem dX9_copy_20 : decode cX9_copy 20 = .ok (.iload_n 1, 1) := by decide +kernel
theorem dX9_copy_21 : decode cX9_copy 21 = .ok (.iload_n 3, 1) := by decide +kernel
theorem dX9_copy_22 : decode cX9_copy 22 = .ok (.iadd, 1) := by decide +kernel
theorem dX9_copy_23 : decode cX9_copy 23 = .ok (.iaload, 1) := by decide +kernel
theorem dX9_copy_24 : decode cX9_copy 24 = .ok (.iastore, 1) := by decide +kernel
theorem dX9_copy_25 : decode cX9_copy 25 = .ok (.iinc 3 1, 3) := by decide +kernel
theorem dX9_copy_28 : decode cX9_copy 28 = .ok (.goto (-26), 3) := by decide +kernel
theorem dX9_copy_31 : decode cX9_copy 31 = .ok (.return_, 1) := by decide +kernel
theorem dX9_isBox_0 : decode cX9_isBox 0 = .ok (.iload_n 1, 1) := by decide +kernel
theorem dX9_isBox_1 : decode cX9_isBox 1 = .ok (.iconst 0, 1) := by decide +kernel
theorem dX9_isBox_2 : decode cX9_isBox 2 = .ok (.aload_n 0, 1) := by decide +kernel
theorem dX9_isBox_3 : decode cX9_isBox 3 = .ok (.iconst 0, 1) := by decide +kernel
theorem dX9_isBox_4 : decode cX9_isBox 4 = .ok (.invokevirtual 62, 3) := by decide +kernel
theorem dX9_isBox_7 : decode cX9_isBox 7 = .ok (.iconst 1, 1) := by decide +kernel
theorem dX9_isBox_8 : decode cX9_isBox 8 = .ok (.isub, 1) := by decide +kernel
theorem dX9_isBox_9 : decode cX9_isBox 9 = .ok (.invokestatic 66, 3) := by decide +kernel
theorem dX9_isBox_12 : decode cX9_isBox 12 = .ok (.ireturn, 1) := by decide +kernel
theorem dX9_isLid_0 : decode cX9_isLid 0 = .ok (.iload_n 1, 1) := by decide +kernel
theorem dX9_isLid_1 : decode cX9_isLid 1 = .ok (.iconst 0, 1) := by decide +kernel
theorem dX9_isLid_2 : decode cX9_isLid 2 = .ok (.aload_n 0, 1) := by decide +kernel
theorem dX9_isLid_3 : decode cX9_isLid 3 = .ok (.iconst 1, 1) := by decide +kernel
theorem dX9_isLid_4 : decode cX9_isLid 4 = .ok (.invokevirtual 62, 3) := by decide +kernel
theorem dX9_isLid_7 : decode cX9_isLid 7 = .ok (.iconst 1, 1) := by decide +kernel
theorem dX9_isLid_8 : decode cX9_isLid 8 = .ok (.isub, 1) := by decide +kernel
theorem dX9_isLid_9 : decode cX9_isLid 9 = .ok (.invokestatic 66, 3) := by decide +kernel
theorem dX9_isLid_12 : decode cX9_isLid 12 = .ok (.ireturn, 1) := by decide +kernel
theorem dX9_told_0 : decode cX9_told 0 = .ok (.aload_n 0, 1) := by decide +kernel
theorem dX9_told_1 : decode cX9_told 1 = .ok (.getfield 58, 3) := by decide +kernel
theorem dX9_told_4 : decode cX9_told 4 = .ok (.ifCond .ne 27, 3) := by decide +kernel
theorem dX9_told_7 : decode cX9_told 7 = .ok (.iload_n 1, 1) := by decide +kernel
theorem dX9_told_8 : decode cX9_told 8 = .ok (.bipush (-4), 2) := by decide +kernel
theorem dX9_told_10 : decode cX9_told 10 = .ok (.bipush (-2), 2) := by decide +kernel
theorem dX9_told_12 : decode cX9_told 12 = .ok (.invokestatic 66, 3) := by decide +kernel
theorem dX9_told_15 : decode cX9_told 15 = .ok (.ifCond .eq 16, 3) := by decide +kernel
theorem dX9_told_18 : decode cX9_told 18 = .ok (.aload_n 0, 1) := by decide +kernel
theorem dX9_told_19 : decode cX9_told 19 = .ok (.getfield 17, 3) := by decide +kernel
theorem dX9_told_22 : decode cX9_told 22 = .ok (.bipush (-2), 2) := by decide +kernel
theorem dX9_told_24 : decode cX9_told 24 = .ok (.iload_n 1, 1) := by decide +kernel
theorem dX9_told_25 : decode cX9_told 25 = .ok (.isub, 1) := by decide +kernel
theorem dX9_told_26 : decode cX9_told 26 = .ok (.dup2, 1) := by decide +kernel
theorem dX9_told_27 : decode cX9_told 27 = .ok (.iaload, 1) := by decide +kernel
theorem dX9_told_28 : decode cX9_told 28 = .ok (.iconst 1, 1) := by decide +kernel
theorem dX9_told_29 : decode cX9_told 29 = .ok (.iadd, 1) := by decide +kernel
theorem dX9_told_30 : decode cX9_told 30 = .ok (.iastore, 1) := by decide +kernel
theorem dX9_told_31 : decode cX9_told 31 = .ok (.iload_n 1, 1) := by decide +kernel
theorem dX9_told_32 : decode cX9_told 32 = .ok (.ireturn, 1) := by decide +kernel
theorem dX9_bad10_0 : decode cX9_bad10 0 = .ok (.aload_n 0, 1) := by decide +kernel
theorem dX9_bad10_1 : decode cX9_bad10 1 = .ok (.bipush (-2), 2) := by decide +kernel
theorem dX9_bad10_3 : decode cX9_bad10 3 = .ok (.invokevirtual 70, 3) := by decide +kernel
theorem dX9_bad10_6 : decode cX9_bad10 6 = .ok (.pop, 1) := by decide +kernel
theorem dX9_bad10_7 : decode cX9_bad10 7 = .ok (.bipush (-10), 2) := by decide +kernel
theorem dX9_bad10_9 : decode cX9_bad10 9 = .ok (.ireturn, 1) := by decide +kernel
theorem dX9_addBox_0 : decode cX9_addBox 0 = .ok (.iload_n 1, 1) := by decide +kernel
theorem dX9_addBox_1 : decode cX9_addBox 1 = .ok (.iconst 0, 1) := by decide +kernel
theorem dX9_addBox_2 : decode cX9_addBox 2 = .ok (.iconst 2, 1) := by decide +kernel
theorem dX9_addBox_3 : decode cX9_addBox 3 = .ok (.invokestatic 66, 3) := by decide +kernel
theorem dX9_addBox_6 : decode cX9_addBox 6 = .ok (.ifCond .eq 23, 3) := by decide +kernel
theorem dX9_addBox_9 : decode cX9_addBox 9 = .ok (.iload_n 2, 1) := by decide +kernel
theorem dX9_addBox_10 : decode cX9_addBox 10 = .ok (.iconst 1, 1) := by decide +kernel
theorem dX9_addBox_11 : decode cX9_addBox 11 = .ok (.bipush 9, 2) := by decide +kernel
theorem dX9_addBox_13 : decode cX9_addBox 13 = .ok (.invokestatic 66, 3) := by decide +kernel
theorem dX9_addBox_16 : decode cX9_addBox 16 = .ok (.ifCond .eq 13, 3) := by decide +kernel
theorem dX9_addBox_19 : decode cX9_addBox 19 = .ok (.iload_n 3, 1) := by decide +kernel
theorem dX9_addBox_20 : decode cX9_addBox 20 = .ok (.iconst 0, 1) := by decide +kernel
theorem dX9_addBox_21 : decode cX9_addBox 21 = .ok (.bipush 20, 2) := by decide +kernel
theorem dX9_addBox_23 : decode cX9_addBox 23 = .ok (.invokestatic 66, 3) := by decide +kernel
theorem dX9_addBox_26 : decode cX9_addBox 26 = .ok (.ifCond .ne 6, 3) := by decide +kernel
theorem dX9_addBox_29 : decode cX9_addBox 29 = .ok (.bipush (-2), 2) := by decide +kernel
theorem dX9_addBox_31 : decode cX9_addBox 31 = .ok (.ireturn, 1) := by decide +kernel
theorem dX9_addBox_32 : decode cX9_addBox 32 = .ok (.aload_n 0, 1) := by decide +kernel
theorem dX9_addBox_33 : decode cX9_addBox 33 = .ok (.iconst 0, 1) := by decide +kernel
theorem dX9_addBox_34 : decode cX9_addBox 34 = .ok (.invokevirtual 62, 3) := by decide +kernel
theorem dX9_addBox_37 : decode cX9_addBox 37 = .ok (.istore 4, 2) := by decide +kernel
theorem dX9_addBox_39 : decode cX9_addBox 39 = .ok (.iload 4, 2) := by decide +kernel
theorem dX9_addBox_41 : decode cX9_addBox 41 = .ok (.bipush 7, 2) := by decide +kernel
theorem dX9_addBox_43 : decode cX9_addBox 43 = .ok (.if_icmp .ne 6, 3) := by decide +kernel
theorem dX9_addBox_46 : decode cX9_addBox 46 = .ok (.bipush (-4), 2) := by decide +kernel
theorem dX9_addBox_48 : decode cX9_addBox 48 = .ok (.ireturn, 1) := by decide +kernel
theorem dX9_addBox_49 : decode cX9_addBox 49 = .ok (.aload_n 0, 1) := by decide +kernel
theorem dX9_addBox_50 : decode cX9_addBox 50 = .ok (.bipush 6, 2) := by decide +kernel
theorem dX9_addBox_52 : decode cX9_addBox 52 = .ok (.iconst 5, 1) := by decide +kernel
theorem dX9_addBox_53 : decode cX9_addBox 53 = .ok (.iload 4, 2) := by decide +kernel
theorem dX9_addBox_55 : decode cX9_addBox 55 = .ok (.imul, 1) := by decide +kernel
theorem dX9_addBox_56 : decode cX9_addBox 56 = .ok (.iadd, 1) := by decide +kernel
theorem dX9_addBox_57 : decode cX9_addBox 57 = .ok (.iconst 0, 1) := by decide +kernel
theorem dX9_addBox_58 : decode cX9_addBox 58 = .ok (.iadd, 1) := by decide +kernel
theorem dX9_addBox_59 : decode cX9_addBox 59 = .ok (.iload_n 1, 1) := by decide +kernel
theorem dX9_addBox_60 : decode cX9_addBox 60 = .ok (.invokevirtual 73, 3) := by decide +kernel
theorem dX9_addBox_63 : decode cX9_addBox 63 = .ok (.aload_n 0, 1) := by decide +kernel
theorem dX9_addBox_64 : decode cX9_addBox 64 = .ok (.bipush 6, 2) := by decide +kernel
theorem dX9_addBox_66 : decode cX9_addBox 66 = .ok (.iconst 5, 1) := by decide +kernel
theorem dX9_addBox_67 : decode cX9_addBox 67 = .ok (.iload 4, 2) := by decide +kernel
theorem dX9_addBox_69 : decode cX9_addBox 69 = .ok (.imul, 1) := by decide +kernel
theorem dX9_addBox_70 : decode cX9_addBox 70 = .ok (.iadd, 1) := by decide +kernel
theorem dX9_addBox_71 : decode cX9_addBox 71 = .ok (.iconst 1, 1) := by decide +kernel
theorem dX9_addBox_72 : decode cX9_addBox 72 = .ok (.iadd, 1) := by decide +kernel
theorem dX9_addBox_73 : decode cX9_addBox 73 = .ok (.iload_n 2, 1) := by decide +kernel
theorem dX9_addBox_74 : decode cX9_addBox 74 = .ok (.invokevirtual 73, 3) := by decide +kernel
theorem dX9_addBox_77 : decode cX9_addBox 77 = .ok (.aload_n 0, 1) := by decide +kernel
theorem dX9_addBox_78 : decode cX9_addBox 78 = .ok (.bipush 6, 2) := by decide +kernel
theorem dX9_addBox_80 : decode cX9_addBox 80 = .ok (.iconst 5, 1) := by decide +kernel
theorem dX9_addBox_81 : decode cX9_addBox 81 = .ok (.iload 4, 2) := by decide +kernel
theorem dX9_addBox_83 : decode cX9_addBox 83 = .ok (.imul, 1) := by decide +kernel
theorem dX9_addBox_84 : decode cX9_addBox 84 = .ok (.iadd, 1) := by decide +kernel
theorem dX9_addBox_85 : decode cX9_addBox 85 = .ok (.iconst 2, 1) := by decide +kernel
theorem dX9_addBox_86 : decode cX9_addBox 86 = .ok (.iadd, 1) := by decide +kernel
theorem dX9_addBox_87 : decode cX9_addBox 87 = .ok (.iload_n 3, 1) := by decide +kernel
theorem dX9_addBox_88 : decode cX9_addBox 88 = .ok (.invokevirtual 73, 3) := by decide +kernel
theorem dX9_addBox_91 : decode cX9_addBox 91 = .ok (.aload_n 0, 1) := by decide +kernel
theorem dX9_addBox_92 : decode cX9_addBox 92 = .ok (.bipush 6, 2) := by decide +kernel
theorem dX9_addBox_94 : decode cX9_addBox 94 = .ok (.iconst 5, 1) := by decide +kernel
theorem dX9_addBox_95 : decode cX9_addBox 95 = .ok (.iload 4, 2) := by decide +kernel
theorem dX9_addBox_97 : decode cX9_addBox 97 = .ok (.imul, 1) := by decide +kernel
theorem dX9_addBox_98 : decode cX9_addBox 98 = .ok (.iadd, 1) := by decide +kernel
theorem dX9_addBox_99 : decode cX9_addBox 99 = .ok (.iconst 3, 1) := by decide +kernel
theorem dX9_addBox_100 : decode cX9_addBox 100 = .ok (.iadd, 1) := by decide +kernel
theorem dX9_addBox_101 : decode cX9_addBox 101 = .ok (.iconst 1, 1) := by decide +kernel
theorem dX9_addBox_102 : decode cX9_addBox 102 = .ok (.invokevirtual 73, 3) := by decide +kernel
theorem dX9_addBox_105 : decode cX9_addBox 105 = .ok (.aload_n 0, 1) := by decide +kernel
theorem dX9_addBox_106 : decode cX9_addBox 106 = .ok (.bipush 6, 2) := by decide +kernel
theorem dX9_addBox_108 : decode cX9_addBox 108 = .ok (.iconst 5, 1) := by decide +kernel
theorem dX9_addBox_109 : decode cX9_addBox 109 = .ok (.iload 4, 2) := by decide +kernel
theorem dX9_addBox_111 : decode cX9_addBox 111 = .ok (.imul, 1) := by decide +kernel
theorem dX9_addBox_112 : decode cX9_addBox 112 = .ok (.iadd, 1) := by decide +kernel
theorem dX9_addBox_113 : decode cX9_addBox 113 = .ok (.iconst 4, 1) := by decide +kernel
theorem dX9_addBox_114 : decode cX9_addBox 114 = .ok (.iadd, 1) := by decide +kernel
theorem dX9_addBox_115 : decode cX9_addBox 115 = .ok (.iconst (-1), 1) := by decide +kernel
theorem dX9_addBox_116 : decode cX9_addBox 116 = .ok (.invokevirtual 73, 3) := by decide +kernel
theorem dX9_addBox_119 : decode cX9_addBox 119 = .ok (.aload_n 0, 1) := by decide +kernel
theorem dX9_addBox_120 : decode cX9_addBox 120 = .ok (.iconst 0, 1) := by decide +kernel
theorem dX9_addBox_121 : decode cX9_addBox 121 = .ok (.iload 4, 2) := by decide +kernel
theorem dX9_addBox_123 : decode cX9_addBox 123 = .ok (.iconst 1, 1) := by decide +kernel
theorem dX9_addBox_124 : decode cX9_addBox 124 = .ok (.iadd, 1) := by decide +kernel
theorem dX9_addBox_125 : decode cX9_addBox 125 = .ok (.invokevirtual 73, 3) := by decide +kernel
theorem dX9_addBox_128 : decode cX9_addBox 128 = .ok (.aload_n 0, 1) := by decide +kernel
theorem dX9_addBox_129 : decode cX9_addBox 129 = .ok (.iconst 5, 1) := by decide +kernel
theorem dX9_addBox_130 : decode cX9_addBox 130 = .ok (.iconst 0, 1) := by decide +kernel
theorem dX9_addBox_131 : decode cX9_addBox 131 = .ok (.invokevirtual 73, 3) := by decide +kernel
theorem dX9_addBox_134 : decode cX9_addBox 134 = .ok (.iload 4, 2) := by decide +kernel
theorem dX9_addBox_136 : decode cX9_addBox 136 = .ok (.ireturn, 1) := by decide +kernel
theorem dX9_addLid_0 : decode cX9_addLid 0 = .ok (.iload_n 1, 1) := by decide +kernel
theorem dX9_addLid_1 : decode cX9_addLid 1 = .ok (.iconst 0, 1) := by decide +kernel
theorem dX9_addLid_2 : decode cX9_addLid 2 = .ok (.iconst 5, 1) := by decide +kernel
theorem dX9_addLid_3 : decode cX9_addLid 3 = .ok (.invokestatic 66, 3) := by decide +kernel
theorem dX9_addLid_6 : decode cX9_addLid 6 = .ok (.ifCond .eq 22, 3) := by decide +kernel
theorem dX9_addLid_9 : decode cX9_addLid 9 = .ok (.iload_n 2, 1) := by decide +kernel
theorem dX9_addLid_10 : decode cX9_addLid 10 = .ok (.iconst 0, 1) := by decide +kernel
theorem dX9_addLid_11 : decode cX9_addLid 11 = .ok (.iconst 2, 1) := by decide +kernel
theorem dX9_addLid_12 : decode cX9_addLid 12 = .ok (.invokestatic 66, 3) := by decide +kernel
theorem dX9_addLid_15 : decode cX9_addLid 15 = .ok (.ifCond .eq 13, 3) := by decide +kernel
theorem dX9_addLid_18 : decode cX9_addLid 18 = .ok (.iload_n 3, 1) := by decide +kernel
theorem dX9_addLid_19 : decode cX9_addLid 19 = .ok (.iconst 1, 1) := by decide +kernel
theorem dX9_addLid_20 : decode cX9_addLid 20 = .ok (.bipush 9, 2) := by decide +kernel
theorem dX9_addLid_22 : decode cX9_addLid 22 = .ok (.invokestatic 66, 3) := by decide +kernel
theorem dX9_addLid_25 : decode cX9_addLid 25 = .ok (.ifCond .ne 6, 3) := by decide +kernel
theorem dX9_addLid_28 : decode cX9_addLid 28 = .ok (.bipush (-2), 2) := by decide +kernel
theorem dX9_addLid_30 : decode cX9_addLid 30 = .ok (.ireturn, 1) := by decide +kernel
theorem dX9_addLid_31 : decode cX9_addLid 31 = .ok (.aload_n 0, 1) := by decide +kernel
theorem dX9_addLid_32 : decode cX9_addLid 32 = .ok (.iconst 1, 1) := by decide +kernel
theorem dX9_addLid_33 : decode cX9_addLid 33 = .ok (.invokevirtual 62, 3) := by decide +kernel
theorem dX9_addLid_36 : decode cX9_addLid 36 = .ok (.istore 4, 2) := by decide +kernel
theorem dX9_addLid_38 : decode cX9_addLid 38 = .ok (.iload 4, 2) := by decide +kernel
theorem dX9_addLid_40 : decode cX9_addLid 40 = .ok (.bipush 7, 2) := by decide +kernel
theorem dX9_addLid_42 : decode cX9_addLid 42 = .ok (.if_icmp .ne 6, 3) := by decide +kernel
theorem dX9_addLid_45 : decode cX9_addLid 45 = .ok (.bipush (-4), 2) := by decide +kernel
theorem dX9_addLid_47 : decode cX9_addLid 47 = .ok (.ireturn, 1) := by decide +kernel
theorem dX9_addLid_48 : decode cX9_addLid 48 = .ok (.aload_n 0, 1) := by decide +kernel
theorem dX9_addLid_49 : decode cX9_addLid 49 = .ok (.bipush 41, 2) := by decide +kernel
theorem dX9_addLid_51 : decode cX9_addLid 51 = .ok (.iconst 4, 1) := by decide +kernel
theorem dX9_addLid_52 : decode cX9_addLid 52 = .ok (.iload 4, 2) := by decide +kernel
theorem dX9_addLid_54 : decode cX9_addLid 54 = .ok (.imul, 1) := by decide +kernel
theorem dX9_addLid_55 : decode cX9_addLid 55 = .ok (.iadd, 1) := by decide +kernel
theorem dX9_addLid_56 : decode cX9_addLid 56 = .ok (.iload_n 1, 1) := by decide +kernel
theorem dX9_addLid_57 : decode cX9_addLid 57 = .ok (.invokevirtual 73, 3) := by decide +kernel
theorem dX9_addLid_60 : decode cX9_addLid 60 = .ok (.aload_n 0, 1) := by decide +kernel
theorem dX9_addLid_61 : decode cX9_addLid 61 = .ok (.bipush 41, 2) := by decide +kernel
theorem dX9_addLid_63 : decode cX9_addLid 63 = .ok (.iconst 4, 1) := by decide +kernel
theorem dX9_addLid_64 : decode cX9_addLid 64 = .ok (.iload 4, 2) := by decide +kernel
theorem dX9_addLid_66 : decode cX9_addLid 66 = .ok (.imul, 1) := by decide +kernel
theorem dX9_addLid_67 : decode cX9_addLid 67 = .ok (.iadd, 1) := by decide +kernel
theorem dX9_addLid_68 : decode cX9_addLid 68 = .ok (.iconst 1, 1) := by decide +kernel
theorem dX9_addLid_69 : decode cX9_addLid 69 = .ok (.iadd, 1) := by decide +kernel
theorem dX9_addLid_70 : decode cX9_addLid 70 = .ok (.iload_n 2, 1) := by decide +kernel
theorem dX9_addLid_71 : decode cX9_addLid 71 = .ok (.invokevirtual 73, 3) := by decide +kernel
theorem dX9_addLid_74 : decode cX9_addLid 74 = .ok (.aload_n 0, 1) := by decide +kernel
theorem dX9_addLid_75 : decode cX9_addLid 75 = .ok (.bipush 41, 2) := by decide +kernel
theorem dX9_addLid_77 : decode cX9_addLid 77 = .ok (.iconst 4, 1) := by decide +kernel
theorem dX9_addLid_78 : decode cX9_addLid 78 = .ok (.iload 4, 2) := by decide +kernel
theorem dX9_addLid_80 : decode cX9_addLid 80 = .ok (.imul, 1) := by decide +kernel
theorem dX9_addLid_81 : decode cX9_addLid 81 = .ok (.iadd, 1) := by decide +kernel
theorem dX9_addLid_82 : decode cX9_addLid 82 = .ok (.iconst 2, 1) := by decide +kernel
theorem dX9_addLid_83 : decode cX9_addLid 83 = .ok (.iadd, 1) := by decide +kernel
theorem dX9_addLid_84 : decode cX9_addLid 84 = .ok (.iload_n 3, 1) := by decide +kernel
theorem dX9_addLid_85 : decode cX9_addLid 85 = .ok (.invokevirtual 73, 3) := by decide +kernel
theorem dX9_addLid_88 : decode cX9_addLid 88 = .ok (.aload_n 0, 1) := by decide +kernel
theorem dX9_addLid_89 : decode cX9_addLid 89 = .ok (.bipush 41, 2) := by decide +kernel
theorem dX9_addLid_91 : decode cX9_addLid 91 = .ok (.iconst 4, 1) := by decide +kernel
theorem dX9_addLid_92 : decode cX9_addLid 92 = .ok (.iload 4, 2) := by decide +kernel
theorem dX9_addLid_94 : decode cX9_addLid 94 = .ok (.imul, 1) := by decide +kernel
theorem dX9_addLid_95 : decode cX9_addLid 95 = .ok (.iadd, 1) := by decide +kernel
theorem dX9_addLid_96 : decode cX9_addLid 96 = .ok (.iconst 3, 1) := by decide +kernel
theorem dX9_addLid_97 : decode cX9_addLid 97 = .ok (.iadd, 1) := by decide +kernel
theorem dX9_addLid_98 : decode cX9_addLid 98 = .ok (.iconst 5, 1) := by decide +kernel
theorem dX9_addLid_99 : decode cX9_addLid 99 = .ok (.invokevirtual 73, 3) := by decide +kernel
theorem dX9_addLid_102 : decode cX9_addLid 102 = .ok (.aload_n 0, 1) := by decide +kernel
theorem dX9_addLid_103 : decode cX9_addLid 103 = .ok (.iconst 1, 1) := by decide +kernel
theorem dX9_addLid_104 : decode cX9_addLid 104 = .ok (.iload 4, 2) := by decide +kernel
theorem dX9_addLid_106 : decode cX9_addLid 106 = .ok (.iconst 1, 1) := by decide +kernel
theorem dX9_addLid_107 : decode cX9_addLid 107 = .ok (.iadd, 1) := by decide +kernel
theorem dX9_addLid_108 : decode cX9_addLid 108 = .ok (.invokevirtual 73, 3) := by decide +kernel
theorem dX9_addLid_111 : decode cX9_addLid 111 = .ok (.aload_n 0, 1) := by decide +kernel
theorem dX9_addLid_112 : decode cX9_addLid 112 = .ok (.iconst 5, 1) := by decide +kernel
theorem dX9_addLid_113 : decode cX9_addLid 113 = .ok (.iconst 0, 1) := by decide +kernel
theorem dX9_addLid_114 : decode cX9_addLid 114 = .ok (.invokevirtual 73, 3) := by decide +kernel
theorem dX9_addLid_117 : decode cX9_addLid 117 = .ok (.iload 4, 2) := by decide +kernel
theorem dX9_addLid_119 : decode cX9_addLid 119 = .ok (.ireturn, 1) := by decide +kernel
theorem dX9_addSort_0 : decode cX9_addSort 0 = .ok (.iload_n 1, 1) := by decide +kernel
theorem dX9_addSort_1 : decode cX9_addSort 1 = .ok (.iconst 0, 1) := by decide +kernel
theorem dX9_addSort_2 : decode cX9_addSort 2 = .ok (.iconst 5, 1) := by decide +kernel
theorem dX9_addSort_3 : decode cX9_addSort 3 = .ok (.invokestatic 66, 3) := by decide +kernel
theorem dX9_addSort_6 : decode cX9_addSort 6 = .ok (.ifCond .eq 33, 3) := by decide +kernel
theorem dX9_addSort_9 : decode cX9_addSort 9 = .ok (.iload_n 2, 1) := by decide +kernel
theorem dX9_addSort_10 : decode cX9_addSort 10 = .ok (.iconst 0, 1) := by decide +kernel
theorem dX9_addSort_11 : decode cX9_addSort 11 = .ok (.iconst 2, 1) := by decide +kernel
theorem dX9_addSort_12 : decode cX9_addSort 12 = .ok (.invokestatic 66, 3) := by decide +kernel
theorem dX9_addSort_15 : decode cX9_addSort 15 = .ok (.ifCond .eq 24, 3) := by decide +kernel
theorem dX9_addSort_18 : decode cX9_addSort 18 = .ok (.iload_n 3, 1) := by decide +kernel
theorem dX9_addSort_19 : decode cX9_addSort 19 = .ok (.iconst 1, 1) := by decide +kernel
theorem dX9_addSort_20 : decode cX9_addSort 20 = .ok (.bipush 9, 2) := by decide +kernel
theorem dX9_addSort_22 : decode cX9_addSort 22 = .ok (.invokestatic 66, 3) := by decide +kernel
theorem dX9_addSort_25 : decode cX9_addSort 25 = .ok (.ifCond .eq 14, 3) := by decide +kernel
theorem dX9_addSort_28 : decode cX9_addSort 28 = .ok (.iload 4, 2) := by decide +kernel
theorem dX9_addSort_30 : decode cX9_addSort 30 = .ok (.iconst 1, 1) := by decide +kernel
theorem dX9_addSort_31 : decode cX9_addSort 31 = .ok (.bipush 50, 2) := by decide +kernel
theorem dX9_addSort_33 : decode cX9_addSort 33 = .ok (.invokestatic 66, 3) := by decide +kernel
theorem dX9_addSort_36 : decode cX9_addSort 36 = .ok (.ifCond .ne 6, 3) := by decide +kernel
theorem dX9_addSort_39 : decode cX9_addSort 39 = .ok (.bipush (-2), 2) := by decide +kernel
theorem dX9_addSort_41 : decode cX9_addSort 41 = .ok (.ireturn, 1) := by decide +kernel
theorem dX9_addSort_42 : decode cX9_addSort 42 = .ok (.aload_n 0, 1) := by decide +kernel
theorem dX9_addSort_43 : decode cX9_addSort 43 = .ok (.iconst 2, 1) := by decide +kernel
theorem dX9_addSort_44 : decode cX9_addSort 44 = .ok (.invokevirtual 62, 3) := by decide +kernel
theorem dX9_addSort_47 : decode cX9_addSort 47 = .ok (.istore 5, 2) := by decide +kernel
theorem dX9_addSort_49 : decode cX9_addSort 49 = .ok (.iload 5, 2) := by decide +kernel
theorem dX9_addSort_51 : decode cX9_addSort 51 = .ok (.iconst 4, 1) := by decide +kernel
theorem dX9_addSort_52 : decode cX9_addSort 52 = .ok (.if_icmp .ne 6, 3) := by decide +kernel
theorem dX9_addSort_55 : decode cX9_addSort 55 = .ok (.bipush (-4), 2) := by decide +kernel
theorem dX9_addSort_57 : decode cX9_addSort 57 = .ok (.ireturn, 1) := by decide +kernel
theorem dX9_addSort_58 : decode cX9_addSort 58 = .ok (.aload_n 0, 1) := by decide +kernel
theorem dX9_addSort_59 : decode cX9_addSort 59 = .ok (.bipush 69, 2) := by decide +kernel
theorem dX9_addSort_61 : decode cX9_addSort 61 = .ok (.iconst 4, 1) := by decide +kernel
theorem dX9_addSort_62 : decode cX9_addSort 62 = .ok (.iload 5, 2) := by decide +kernel
theorem dX9_addSort_64 : decode cX9_addSort 64 = .ok (.imul, 1) := by decide +kernel
theorem dX9_addSort_65 : decode cX9_addSort 65 = .ok (.iadd, 1) := by decide +kernel
theorem dX9_addSort_66 : decode cX9_addSort 66 = .ok (.iload_n 1, 1) := by decide +kernel
theorem dX9_addSort_67 : decode cX9_addSort 67 = .ok (.invokevirtual 73, 3) := by decide +kernel
theorem dX9_addSort_70 : decode cX9_addSort 70 = .ok (.aload_n 0, 1) := by decide +kernel
theorem dX9_addSort_71 : decode cX9_addSort 71 = .ok (.bipush 69, 2) := by decide +kernel
theorem dX9_addSort_73 : decode cX9_addSort 73 = .ok (.iconst 4, 1) := by decide +kernel
theorem dX9_addSort_74 : decode cX9_addSort 74 = .ok (.iload 5, 2) := by decide +kernel
theorem dX9_addSort_76 : decode cX9_addSort 76 = .ok (.imul, 1) := by decide +kernel
theorem dX9_addSort_77 : decode cX9_addSort 77 = .ok (.iadd, 1) := by decide +kernel
theorem dX9_addSort_78 : decode cX9_addSort 78 = .ok (.iconst 1, 1) := by decide +kernel
theorem dX9_addSort_79 : decode cX9_addSort 79 = .ok (.iadd, 1) := by decide +kernel
theorem dX9_addSort_80 : decode cX9_addSort 80 = .ok (.iload_n 2, 1) := by decide +kernel
theorem dX9_addSort_81 : decode cX9_addSort 81 = .ok (.invokevirtual 73, 3) := by decide +kernel
theorem dX9_addSort_84 : decode cX9_addSort 84 = .ok (.aload_n 0, 1) := by decide +kernel
theorem dX9_addSort_85 : decode cX9_addSort 85 = .ok (.bipush 69, 2) := by decide +kernel
theorem dX9_addSort_87 : decode cX9_addSort 87 = .ok (.iconst 4, 1) := by decide +kernel
theorem dX9_addSort_88 : decode cX9_addSort 88 = .ok (.iload 5, 2) := by decide +kernel
theorem dX9_addSort_90 : decode cX9_addSort 90 = .ok (.imul, 1) := by decide +kernel
theorem dX9_addSort_91 : decode cX9_addSort 91 = .ok (.iadd, 1) := by decide +kernel
theorem dX9_addSort_92 : decode cX9_addSort 92 = .ok (.iconst 2, 1) := by decide +kernel
theorem dX9_addSort_93 : decode cX9_addSort 93 = .ok (.iadd, 1) := by decide +kernel
theorem dX9_addSort_94 : decode cX9_addSort 94 = .ok (.iload_n 3, 1) := by decide +kernel
theorem dX9_addSort_95 : decode cX9_addSort 95 = .ok (.invokevirtual 73, 3) := by decide +kernel
theorem dX9_addSort_98 : decode cX9_addSort 98 = .ok (.aload_n 0, 1) := by decide +kernel
theorem dX9_addSort_99 : decode cX9_addSort 99 = .ok (.bipush 69, 2) := by decide +kernel
theorem dX9_addSort_101 : decode cX9_addSort 101 = .ok (.iconst 4, 1) := by decide +kernel
theorem dX9_addSort_102 : decode cX9_addSort 102 = .ok (.iload 5, 2) := by decide +kernel
theorem dX9_addSort_104 : decode cX9_addSort 104 = .ok (.imul, 1) := by decide +kernel
theorem dX9_addSort_105 : decode cX9_addSort 105 = .ok (.iadd, 1) := by decide +kernel
theorem dX9_addSort_106 : decode cX9_addSort 106 = .ok (.iconst 3, 1) := by decide +kernel
theorem dX9_addSort_107 : decode cX9_addSort 107 = .ok (.iadd, 1) := by decide +kernel
theorem dX9_addSort_108 : decode cX9_addSort 108 = .ok (.iload 4, 2) := by decide +kernel
theorem dX9_addSort_110 : decode cX9_addSort 110 = .ok (.invokevirtual 73, 3) := by decide +kernel
theorem dX9_addSort_113 : decode cX9_addSort 113 = .ok (.aload_n 0, 1) := by decide +kernel
theorem dX9_addSort_114 : decode cX9_addSort 114 = .ok (.iconst 2, 1) := by decide +kernel
theorem dX9_addSort_115 : decode cX9_addSort 115 = .ok (.iload 5, 2) := by decide +kernel
theorem dX9_addSort_117 : decode cX9_addSort 117 = .ok (.iconst 1, 1) := by decide +kernel
theorem dX9_addSort_118 : decode cX9_addSort 118 = .ok (.iadd, 1) := by decide +kernel
theorem dX9_addSort_119 : decode cX9_addSort 119 = .ok (.invokevirtual 73, 3) := by decide +kernel
theorem dX9_addSort_122 : decode cX9_addSort 122 = .ok (.iload 5, 2) := by decide +kernel
theorem dX9_addSort_124 : decode cX9_addSort 124 = .ok (.ireturn, 1) := by decide +kernel
theorem dX9_isPlain_0 : decode cX9_isPlain 0 = .ok (.aload_n 0, 1) := by decide +kernel
theorem dX9_isPlain_1 : decode cX9_isPlain 1 = .ok (.iload_n 3, 1) := by decide +kernel
theorem dX9_isPlain_2 : decode cX9_isPlain 2 = .ok (.iconst 0, 1) := by decide +kernel
theorem dX9_isPlain_3 : decode cX9_isPlain 3 = .ok (.invokevirtual 77, 3) := by decide +kernel
theorem dX9_isPlain_6 : decode cX9_isPlain 6 = .ok (.iload_n 1, 1) := by decide +kernel
theorem dX9_isPlain_7 : decode cX9_isPlain 7 = .ok (.if_icmp .ne 17, 3) := by decide +kernel
theorem dX9_isPlain_10 : decode cX9_isPlain 10 = .ok (.aload_n 0, 1) := by decide +kernel
theorem dX9_isPlain_11 : decode cX9_isPlain 11 = .ok (.iload_n 3, 1) := by decide +kernel
theorem dX9_isPlain_12 : decode cX9_isPlain 12 = .ok (.iconst 1, 1) := by decide +kernel
theorem dX9_isPlain_13 : decode cX9_isPlain 13 = .ok (.invokevirtual 77, 3) := by decide +kernel
theorem dX9_isPlain_16 : decode cX9_isPlain 16 = .ok (.iload_n 2, 1) := by decide +kernel
theorem dX9_isPlain_17 : decode cX9_isPlain 17 = .ok (.if_icmp .ne 7, 3) := by decide +kernel
theorem dX9_isPlain_20 : decode cX9_isPlain 20 = .ok (.iconst 1, 1) := by decide +kernel
theorem dX9_isPlain_21 : decode cX9_isPlain 21 = .ok (.goto 4, 3) := by decide +kernel
theorem dX9_isPlain_24 : decode cX9_isPlain 24 = .ok (.iconst 0, 1) := by decide +kernel
theorem dX9_isPlain_25 : decode cX9_isPlain 25 = .ok (.ireturn, 1) := by decide +kernel
theorem dX9_fitsAs_0 : decode cX9_fitsAs 0 = .ok (.aload_n 0, 1) := by decide +kernel
theorem dX9_fitsAs_1 : decode cX9_fitsAs 1 = .ok (.iload 4, 2) := by decide +kernel
theorem dX9_fitsAs_3 : decode cX9_fitsAs 3 = .ok (.iconst 1, 1) := by decide +kernel
theorem dX9_fitsAs_4 : decode cX9_fitsAs 4 = .ok (.invokevirtual 77, 3) := by decide +kernel
theorem dX9_fitsAs_7 : decode cX9_fitsAs 7 = .ok (.istore 5, 2) := by decide +kernel
theorem dX9_fitsAs_9 : decode cX9_fitsAs 9 = .ok (.aload_n 0, 1) := by decide +kernel
theorem dX9_fitsAs_10 : decode cX9_fitsAs 10 = .ok (.iload_n 2, 1) := by decide +kernel
theorem dX9_fitsAs_11 : decode cX9_fitsAs 11 = .ok (.iload_n 3, 1) := by decide +kernel
theorem dX9_fitsAs_12 : decode cX9_fitsAs 12 = .ok (.iload 4, 2) := by decide +kernel
theorem dX9_fitsAs_14 : decode cX9_fitsAs 14 = .ok (.invokevirtual 81, 3) := by decide +kernel
theorem dX9_fitsAs_17 : decode cX9_fitsAs 17 = .ok (.istore 6, 2) := by decide +kernel
theorem dX9_fitsAs_19 : decode cX9_fitsAs 19 = .ok (.iload 6, 2) := by decide +kernel
theorem dX9_fitsAs_21 : decode cX9_fitsAs 21 = .ok (.ifCond .ne 16, 3) := by decide +kernel
theorem dX9_fitsAs_24 : decode cX9_fitsAs 24 = .ok (.aload_n 0, 1) := by decide +kernel
theorem dX9_fitsAs_25 : decode cX9_fitsAs 25 = .ok (.iload_n 2, 1) := by decide +kernel
theorem dX9_fitsAs_26 : decode cX9_fitsAs 26 = .ok (.iload_n 3, 1) := by decide +kernel
theorem dX9_fitsAs_27 : decode cX9_fitsAs 27 = .ok (.iconst 1, 1) := by decide +kernel
theorem dX9_fitsAs_28 : decode cX9_fitsAs 28 = .ok (.isub, 1) := by decide +kernel
theorem dX9_fitsAs_29 : decode cX9_fitsAs 29 = .ok (.iload 4, 2) := by decide +kernel
theorem dX9_fitsAs_31 : decode cX9_fitsAs 31 = .ok (.invokevirtual 81, 3) := by decide +kernel
theorem dX9_fitsAs_34 : decode cX9_fitsAs 34 = .ok (.ifCond .eq 7, 3) := by decide +kernel
theorem dX9_fitsAs_37 : decode cX9_fitsAs 37 = .ok (.iconst 1, 1) := by decide +kernel
theorem dX9_fitsAs_38 : decode cX9_fitsAs 38 = .ok (.goto 4, 3) := by decide +kernel
theorem dX9_fitsAs_41 : decode cX9_fitsAs 41 = .ok (.iconst 0, 1) := by decide +kernel
theorem dX9_fitsAs_42 : decode cX9_fitsAs 42 = .ok (.istore 7, 2) := by decide +kernel
theorem dX9_fitsAs_44 : decode cX9_fitsAs 44 = .ok (.iload 7, 2) := by decide +kernel
theorem dX9_fitsAs_46 : decode cX9_fitsAs 46 = .ok (.ifCond .ne 9, 3) := by decide +kernel
theorem dX9_fitsAs_49 : decode cX9_fitsAs 49 = .ok (.iload 5, 2) := by decide +kernel
theorem dX9_fitsAs_51 : decode cX9_fitsAs 51 = .ok (.iload_n 3, 1) := by decide +kernel
theorem dX9_fitsAs_52 : decode cX9_fitsAs 52 = .ok (.if_icmp .ne 7, 3) := by decide +kernel
theorem dX9_fitsAs_55 : decode cX9_fitsAs 55 = .ok (.iconst 1, 1) := by decide +kernel
theorem dX9_fitsAs_56 : decode cX9_fitsAs 56 = .ok (.goto 4, 3) := by decide +kernel
theorem dX9_fitsAs_59 : decode cX9_fitsAs 59 = .ok (.iconst 0, 1) := by decide +kernel
theorem dX9_fitsAs_60 : decode cX9_fitsAs 60 = .ok (.istore 8, 2) := by decide +kernel
theorem dX9_fitsAs_62 : decode cX9_fitsAs 62 = .ok (.iload_n 1, 1) := by decide +kernel
theorem dX9_fitsAs_63 : decode cX9_fitsAs 63 = .ok (.tableswitch 89 0 4 #[33, 36, 39, 42, 65], 33) := by decide +kernel
theorem dX9_fitsAs_96 : decode cX9_fitsAs 96 = .ok (.iload 6, 2) := by decide +kernel
theorem dX9_fitsAs_98 : decode cX9_fitsAs 98 = .ok (.ireturn, 1) := by decide +kernel
theorem dX9_fitsAs_99 : decode cX9_fitsAs 99 = .ok (.iload 7, 2) := by decide +kernel
theorem dX9_fitsAs_101 : decode cX9_fitsAs 101 = .ok (.ireturn, 1) := by decide +kernel
theorem dX9_fitsAs_102 : decode cX9_fitsAs 102 = .ok (.iload 8, 2) := by decide +kernel
theorem dX9_fitsAs_104 : decode cX9_fitsAs 104 = .ok (.ireturn, 1) := by decide +kernel
theorem dX9_fitsAs_105 : decode cX9_fitsAs 105 = .ok (.iload 6, 2) := by decide +kernel
theorem dX9_fitsAs_107 : decode cX9_fitsAs 107 = .ok (.ifCond .eq 19, 3) := by decide +kernel
theorem dX9_fitsAs_110 : decode cX9_fitsAs 110 = .ok (.aload_n 0, 1) := by decide +kernel
theorem dX9_fitsAs_111 : decode cX9_fitsAs 111 = .ok (.iload 4, 2) := by decide +kernel
theorem dX9_fitsAs_113 : decode cX9_fitsAs 113 = .ok (.iconst 2, 1) := by decide +kernel
theorem dX9_fitsAs_114 : decode cX9_fitsAs 114 = .ok (.invokevirtual 77, 3) := by decide +kernel
theorem dX9_fitsAs_117 : decode cX9_fitsAs 117 = .ok (.bipush 9, 2) := by decide +kernel
theorem dX9_fitsAs_119 : decode cX9_fitsAs 119 = .ok (.if_icmp .gt 7, 3) := by decide +kernel
theorem dX9_fitsAs_122 : decode cX9_fitsAs 122 = .ok (.iconst 1, 1) := by decide +kernel
theorem dX9_fitsAs_123 : decode cX9_fitsAs 123 = .ok (.goto 4, 3) := by decide +kernel
theorem dX9_fitsAs_126 : decode cX9_fitsAs 126 = .ok (.iconst 0, 1) := by decide +kernel
theorem dX9_fitsAs_127 : decode cX9_fitsAs 127 = .ok (.ireturn, 1) := by decide +kernel
theorem dX9_fitsAs_128 : decode cX9_fitsAs 128 = .ok (.iload 6, 2) := by decide +kernel
theorem dX9_fitsAs_130 : decode cX9_fitsAs 130 = .ok (.ifCond .ne 16, 3) := by decide +kernel
theorem dX9_fitsAs_133 : decode cX9_fitsAs 133 = .ok (.aload_n 0, 1) := by decide +kernel
theorem dX9_fitsAs_134 : decode cX9_fitsAs 134 = .ok (.iconst 0, 1) := by decide +kernel
theorem dX9_fitsAs_135 : decode cX9_fitsAs 135 = .ok (.iload_n 3, 1) := by decide +kernel
theorem dX9_fitsAs_136 : decode cX9_fitsAs 136 = .ok (.iconst 1, 1) := by decide +kernel
theorem dX9_fitsAs_137 : decode cX9_fitsAs 137 = .ok (.isub, 1) := by decide +kernel
theorem dX9_fitsAs_138 : decode cX9_fitsAs 138 = .ok (.iload 4, 2) := by decide +kernel
theorem dX9_fitsAs_140 : decode cX9_fitsAs 140 = .ok (.invokevirtual 81, 3) := by decide +kernel
theorem dX9_fitsAs_143 : decode cX9_fitsAs 143 = .ok (.ifCond .eq 7, 3) := by decide +kernel
theorem dX9_fitsAs_146 : decode cX9_fitsAs 146 = .ok (.iconst 1, 1) := by decide +kernel
theorem dX9_fitsAs_147 : decode cX9_fitsAs 147 = .ok (.goto 4, 3) := by decide +kernel
theorem dX9_fitsAs_150 : decode cX9_fitsAs 150 = .ok (.iconst 0, 1) := by decide +kernel
theorem dX9_fitsAs_151 : decode cX9_fitsAs 151 = .ok (.ireturn, 1) := by decide +kernel
theorem dX9_fitsAs_152 : decode cX9_fitsAs 152 = .ok (.iload 8, 2) := by decide +kernel
theorem dX9_fitsAs_154 : decode cX9_fitsAs 154 = .ok (.ifCond .ne 9, 3) := by decide +kernel
theorem dX9_fitsAs_157 : decode cX9_fitsAs 157 = .ok (.iload 5, 2) := by decide +kernel
theorem dX9_fitsAs_159 : decode cX9_fitsAs 159 = .ok (.iload_n 3, 1) := by decide +kernel
theorem dX9_fitsAs_160 : decode cX9_fitsAs 160 = .ok (.if_icmp .ge 7, 3) := by decide +kernel
theorem dX9_fitsAs_163 : decode cX9_fitsAs 163 = .ok (.iconst 1, 1) := by decide +kernel
theorem dX9_fitsAs_164 : decode cX9_fitsAs 164 = .ok (.goto 4, 3) := by decide +kernel
theorem dX9_fitsAs_167 : decode cX9_fitsAs 167 = .ok (.iconst 0, 1) := by decide +kernel
theorem dX9_fitsAs_168 : decode cX9_fitsAs 168 = .ok (.ireturn, 1) := by decide +kernel
theorem dX9_doesFit_0 : decode cX9_doesFit 0 = .ok (.aload_n 0, 1) := by decide +kernel
theorem dX9_doesFit_1 : decode cX9_doesFit 1 = .ok (.aload_n 0, 1) := by decide +kernel
theorem dX9_doesFit_2 : decode cX9_doesFit 2 = .ok (.iload_n 1, 1) := by decide +kernel
theorem dX9_doesFit_3 : decode cX9_doesFit 3 = .ok (.iconst 0, 1) := by decide +kernel
theorem dX9_doesFit_4 : decode cX9_doesFit 4 = .ok (.invokevirtual 84, 3) := by decide +kernel
theorem dX9_doesFit_7 : decode cX9_doesFit 7 = .ok (.aload_n 0, 1) := by decide +kernel
theorem dX9_doesFit_8 : decode cX9_doesFit 8 = .ok (.iload_n 1, 1) := by decide +kernel
theorem dX9_doesFit_9 : decode cX9_doesFit 9 = .ok (.iconst 1, 1) := by decide +kernel
theorem dX9_doesFit_10 : decode cX9_doesFit 10 = .ok (.invokevirtual 84, 3) := by decide +kernel
theorem dX9_doesFit_13 : decode cX9_doesFit 13 = .ok (.aload_n 0, 1) := by decide +kernel
theorem dX9_doesFit_14 : decode cX9_doesFit 14 = .ok (.iload_n 1, 1) := by decide +kernel
theorem dX9_doesFit_15 : decode cX9_doesFit 15 = .ok (.iconst 2, 1) := by decide +kernel
theorem dX9_doesFit_16 : decode cX9_doesFit 16 = .ok (.invokevirtual 84, 3) := by decide +kernel
theorem dX9_doesFit_19 : decode cX9_doesFit 19 = .ok (.iload_n 2, 1) := by decide +kernel
theorem dX9_doesFit_20 : decode cX9_doesFit 20 = .ok (.invokevirtual 87, 3) := by decide +kernel
theorem dX9_doesFit_23 : decode cX9_doesFit 23 = .ok (.ireturn, 1) := by decide +kernel
theorem dX9_boxOf_0 : decode cX9_boxOf 0 = .ok (.iconst (-1), 1) := by decide +kernel
theorem dX9_boxOf_1 : decode cX9_boxOf 1 = .ok (.istore_n 2, 1) := by decide +kernel
theorem dX9_boxOf_2 : decode cX9_boxOf 2 = .ok (.iconst 0, 1) := by decide +kernel
theorem dX9_boxOf_3 : decode cX9_boxOf 3 = .ok (.istore_n 3, 1) := by decide +kernel
theorem dX9_boxOf_4 : decode cX9_boxOf 4 = .ok (.iload_n 3, 1) := by decide +kernel
theorem dX9_boxOf_5 : decode cX9_boxOf 5 = .ok (.aload_n 0, 1) := by decide +kernel
theorem dX9_boxOf_6 : decode cX9_boxOf 6 = .ok (.iconst 0, 1) := by decide +kernel
theorem dX9_boxOf_7 : decode cX9_boxOf 7 = .ok (.invokevirtual 62, 3) := by decide +kernel
theorem dX9_boxOf_10 : decode cX9_boxOf 10 = .ok (.if_icmp .ge 25, 3) := by decide +kernel
theorem dX9_boxOf_13 : decode cX9_boxOf 13 = .ok (.aload_n 0, 1) := by decide +kernel
theorem dX9_boxOf_14 : decode cX9_boxOf 14 = .ok (.iload_n 3, 1) := by decide +kernel
theorem dX9_boxOf_15 : decode cX9_boxOf 15 = .ok (.iconst 4, 1) := by decide +kernel
theorem dX9_boxOf_16 : decode cX9_boxOf 16 = .ok (.invokevirtual 77, 3) := by decide +kernel
theorem dX9_boxOf_19 : decode cX9_boxOf 19 = .ok (.iload_n 1, 1) := by decide +kernel
theorem dX9_boxOf_20 : decode cX9_boxOf 20 = .ok (.if_icmp .ne 7, 3) := by decide +kernel
theorem dX9_boxOf_23 : decode cX9_boxOf 23 = .ok (.iload_n 3, 1) := by decide +kernel
theorem dX9_boxOf_24 : decode cX9_boxOf 24 = .ok (.goto 4, 3) := by decide +kernel
theorem dX9_boxOf_27 : decode cX9_boxOf 27 = .ok (.iload_n 2, 1) := by decide +kernel
theorem dX9_boxOf_28 : decode cX9_boxOf 28 = .ok (.istore_n 2, 1) := by decide +kernel
theorem dX9_boxOf_29 : decode cX9_boxOf 29 = .ok (.iinc 3 1, 3) := by decide +kernel
theorem dX9_boxOf_32 : decode cX9_boxOf 32 = .ok (.goto (-28), 3) := by decide +kernel
theorem dX9_boxOf_35 : decode cX9_boxOf 35 = .ok (.iload_n 2, 1) := by decide +kernel
theorem dX9_boxOf_36 : decode cX9_boxOf 36 = .ok (.ireturn, 1) := by decide +kernel
theorem dX9_know_0 : decode cX9_know 0 = .ok (.aload_n 0, 1) := by decide +kernel
theorem dX9_know_1 : decode cX9_know 1 = .ok (.iconst 5, 1) := by decide +kernel
theorem dX9_know_2 : decode cX9_know 2 = .ok (.invokevirtual 62, 3) := by decide +kernel
theorem dX9_know_5 : decode cX9_know 5 = .ok (.bipush 12, 2) := by decide +kernel
theorem dX9_know_7 : decode cX9_know 7 = .ok (.if_icmp .ne 42, 3) := by decide +kernel
theorem dX9_know_10 : decode cX9_know 10 = .ok (.iconst 0, 1) := by decide +kernel
theorem dX9_know_11 : decode cX9_know 11 = .ok (.istore_n 1, 1) := by decide +kernel
theorem dX9_know_12 : decode cX9_know 12 = .ok (.iload_n 1, 1) := by decide +kernel
theorem dX9_know_13 : decode cX9_know 13 = .ok (.bipush 77, 2) := by decide +kernel
theorem dX9_know_15 : decode cX9_know 15 = .ok (.if_icmp .ge 27, 3) := by decide +kernel
theorem dX9_know_18 : decode cX9_know 18 = .ok (.aload_n 0, 1) := by decide +kernel
theorem dX9_know_19 : decode cX9_know 19 = .ok (.sipush 133, 3) := by decide +kernel
theorem dX9_know_22 : decode cX9_know 22 = .ok (.iload_n 1, 1) := by decide +kernel
theorem dX9_know_23 : decode cX9_know 23 = .ok (.iadd, 1) := by decide +kernel
theorem dX9_know_24 : decode cX9_know 24 = .ok (.aload_n 0, 1) := by decide +kernel
theorem dX9_know_25 : decode cX9_know 25 = .ok (.sipush 140, 3) := by decide +kernel
theorem dX9_know_28 : decode cX9_know 28 = .ok (.iload_n 1, 1) := by decide +kernel
theorem dX9_know_29 : decode cX9_know 29 = .ok (.iadd, 1) := by decide +kernel
theorem dX9_know_30 : decode cX9_know 30 = .ok (.invokevirtual 62, 3) := by decide +kernel
theorem dX9_know_33 : decode cX9_know 33 = .ok (.invokevirtual 73, 3) := by decide +kernel
theorem dX9_know_36 : decode cX9_know 36 = .ok (.iinc 1 1, 3) := by decide +kernel
theorem dX9_know_39 : decode cX9_know 39 = .ok (.goto (-27), 3) := by decide +kernel
theorem dX9_know_42 : decode cX9_know 42 = .ok (.aload_n 0, 1) := by decide +kernel
theorem dX9_know_43 : decode cX9_know 43 = .ok (.iconst 5, 1) := by decide +kernel
theorem dX9_know_44 : decode cX9_know 44 = .ok (.bipush 11, 2) := by decide +kernel
theorem dX9_know_46 : decode cX9_know 46 = .ok (.invokevirtual 73, 3) := by decide +kernel
theorem dX9_know_49 : decode cX9_know 49 = .ok (.iconst 0, 1) := by decide +kernel
theorem dX9_know_50 : decode cX9_know 50 = .ok (.istore_n 1, 1) := by decide +kernel
theorem dX9_know_51 : decode cX9_know 51 = .ok (.iload_n 1, 1) := by decide +kernel
theorem dX9_know_52 : decode cX9_know 52 = .ok (.aload_n 0, 1) := by decide +kernel
theorem dX9_know_53 : decode cX9_know 53 = .ok (.iconst 0, 1) := by decide +kernel
theorem dX9_know_54 : decode cX9_know 54 = .ok (.invokevirtual 62, 3) := by decide +kernel
theorem dX9_know_57 : decode cX9_know 57 = .ok (.if_icmp .ge 33, 3) := by decide +kernel
theorem dX9_know_60 : decode cX9_know 60 = .ok (.aload_n 0, 1) := by decide +kernel
theorem dX9_know_61 : decode cX9_know 61 = .ok (.sipush 133, 3) := by decide +kernel
theorem dX9_know_64 : decode cX9_know 64 = .ok (.bipush 7, 2) := by decide +kernel
theorem dX9_know_66 : decode cX9_know 66 = .ok (.aload_n 0, 1) := by decide +kernel
theorem dX9_know_67 : decode cX9_know 67 = .ok (.iconst 5, 1) := by decide +kernel
theorem dX9_know_68 : decode cX9_know 68 = .ok (.invokevirtual 62, 3) := by decide +kernel
theorem dX9_know_71 : decode cX9_know 71 = .ok (.imul, 1) := by decide +kernel
theorem dX9_know_72 : decode cX9_know 72 = .ok (.iadd, 1) := by decide +kernel
theorem dX9_know_73 : decode cX9_know 73 = .ok (.iload_n 1, 1) := by decide +kernel
theorem dX9_know_74 : decode cX9_know 74 = .ok (.iadd, 1) := by decide +kernel
theorem dX9_know_75 : decode cX9_know 75 = .ok (.aload_n 0, 1) := by decide +kernel
theorem dX9_know_76 : decode cX9_know 76 = .ok (.iload_n 1, 1) := by decide +kernel
theorem dX9_know_77 : decode cX9_know 77 = .ok (.iconst 4, 1) := by decide +kernel
theorem dX9_know_78 : decode cX9_know 78 = .ok (.invokevirtual 77, 3) := by decide +kernel
theorem dX9_know_81 : decode cX9_know 81 = .ok (.invokevirtual 73, 3) := by decide +kernel
theorem dX9_know_84 : decode cX9_know 84 = .ok (.iinc 1 1, 3) := by decide +kernel
theorem dX9_know_87 : decode cX9_know 87 = .ok (.goto (-36), 3) := by decide +kernel
theorem dX9_know_90 : decode cX9_know 90 = .ok (.aload_n 0, 1) := by decide +kernel
theorem dX9_know_91 : decode cX9_know 91 = .ok (.iconst 5, 1) := by decide +kernel
theorem dX9_know_92 : decode cX9_know 92 = .ok (.aload_n 0, 1) := by decide +kernel
theorem dX9_know_93 : decode cX9_know 93 = .ok (.iconst 5, 1) := by decide +kernel
theorem dX9_know_94 : decode cX9_know 94 = .ok (.invokevirtual 62, 3) := by decide +kernel
theorem dX9_know_97 : decode cX9_know 97 = .ok (.iconst 1, 1) := by decide +kernel
theorem dX9_know_98 : decode cX9_know 98 = .ok (.iadd, 1) := by decide +kernel
theorem dX9_know_99 : decode cX9_know 99 = .ok (.invokevirtual 73, 3) := by decide +kernel
theorem dX9_know_102 : decode cX9_know 102 = .ok (.return_, 1) := by decide +kernel
theorem dX9_putOn_0 : decode cX9_putOn 0 = .ok (.aload_n 0, 1) := by decide +kernel
theorem dX9_putOn_1 : decode cX9_putOn 1 = .ok (.iload_n 1, 1) := by decide +kernel
theorem dX9_putOn_2 : decode cX9_putOn 2 = .ok (.invokevirtual 91, 3) := by decide +kernel
theorem dX9_putOn_5 : decode cX9_putOn 5 = .ok (.ifCond .eq 11, 3) := by decide +kernel
theorem dX9_putOn_8 : decode cX9_putOn 8 = .ok (.aload_n 0, 1) := by decide +kernel
theorem dX9_putOn_9 : decode cX9_putOn 9 = .ok (.iload_n 2, 1) := by decide +kernel
theorem dX9_putOn_10 : decode cX9_putOn 10 = .ok (.invokevirtual 95, 3) := by decide +kernel
theorem dX9_putOn_13 : decode cX9_putOn 13 = .ok (.ifCond .ne 6, 3) := by decide +kernel
theorem dX9_putOn_16 : decode cX9_putOn 16 = .ok (.bipush (-2), 2) := by decide +kernel
theorem dX9_putOn_18 : decode cX9_putOn 18 = .ok (.ireturn, 1) := by decide +kernel
theorem dX9_putOn_19 : decode cX9_putOn 19 = .ok (.aload_n 0, 1) := by decide +kernel
theorem dX9_putOn_20 : decode cX9_putOn 20 = .ok (.iload_n 1, 1) := by decide +kernel
theorem dX9_putOn_21 : decode cX9_putOn 21 = .ok (.iload_n 2, 1) := by decide +kernel
theorem dX9_putOn_22 : decode cX9_putOn 22 = .ok (.invokevirtual 98, 3) := by decide +kernel
theorem dX9_putOn_25 : decode cX9_putOn 25 = .ok (.ifCond .eq 22, 3) := by decide +kernel
theorem dX9_putOn_28 : decode cX9_putOn 28 = .ok (.aload_n 0, 1) := by decide +kernel
theorem dX9_putOn_29 : decode cX9_putOn 29 = .ok (.iload_n 1, 1) := by decide +kernel
theorem dX9_putOn_30 : decode cX9_putOn 30 = .ok (.invokevirtual 102, 3) := by decide +kernel
theorem dX9_putOn_33 : decode cX9_putOn 33 = .ok (.iconst (-1), 1) := by decide +kernel
theorem dX9_putOn_34 : decode cX9_putOn 34 = .ok (.if_icmp .ne 13, 3) := by decide +kernel
theorem dX9_putOn_37 : decode cX9_putOn 37 = .ok (.aload_n 0, 1) := by decide +kernel
theorem dX9_putOn_38 : decode cX9_putOn 38 = .ok (.iload_n 2, 1) := by decide +kernel
theorem dX9_putOn_39 : decode cX9_putOn 39 = .ok (.iconst 4, 1) := by decide +kernel
theorem dX9_putOn_40 : decode cX9_putOn 40 = .ok (.invokevirtual 77, 3) := by decide +kernel
theorem dX9_putOn_43 : decode cX9_putOn 43 = .ok (.iconst (-1), 1) := by decide +kernel
theorem dX9_putOn_44 : decode cX9_putOn 44 = .ok (.if_icmp .eq 6, 3) := by decide +kernel
theorem dX9_putOn_47 : decode cX9_putOn 47 = .ok (.bipush (-3), 2) := by decide +kernel
theorem dX9_putOn_49 : decode cX9_putOn 49 = .ok (.ireturn, 1) := by decide +kernel
theorem dX9_putOn_50 : decode cX9_putOn 50 = .ok (.aload_n 0, 1) := by decide +kernel
theorem dX9_putOn_51 : decode cX9_putOn 51 = .ok (.invokevirtual 105, 3) := by decide +kernel
theorem dX9_putOn_54 : decode cX9_putOn 54 = .ok (.aload_n 0, 1) := by decide +kernel
theorem dX9_putOn_55 : decode cX9_putOn 55 = .ok (.bipush 6, 2) := by decide +kernel
theorem dX9_putOn_57 : decode cX9_putOn 57 = .ok (.iconst 5, 1) := by decide +kernel
theorem dX9_putOn_58 : decode cX9_putOn 58 = .ok (.iload_n 2, 1) := by decide +kernel
theorem dX9_putOn_59 : decode cX9_putOn 59 = .ok (.imul, 1) := by decide +kernel
theorem dX9_putOn_60 : decode cX9_putOn 60 = .ok (.iadd, 1) := by decide +kernel
theorem dX9_putOn_61 : decode cX9_putOn 61 = .ok (.iconst 4, 1) := by decide +kernel
theorem dX9_putOn_62 : decode cX9_putOn 62 = .ok (.iadd, 1) := by decide +kernel
theorem dX9_putOn_63 : decode cX9_putOn 63 = .ok (.iload_n 1, 1) := by decide +kernel
theorem dX9_putOn_64 : decode cX9_putOn 64 = .ok (.invokevirtual 73, 3) := by decide +kernel
theorem dX9_putOn_67 : decode cX9_putOn 67 = .ok (.iconst 1, 1) := by decide +kernel
theorem dX9_putOn_68 : decode cX9_putOn 68 = .ok (.ireturn, 1) := by decide +kernel
theorem dX9_setGrasp_0 : decode cX9_setGrasp 0 = .ok (.aload_n 0, 1) := by decide +kernel
theorem dX9_setGrasp_1 : decode cX9_setGrasp 1 = .ok (.iload_n 1, 1) := by decide +kernel
theorem dX9_setGrasp_2 : decode cX9_setGrasp 2 = .ok (.invokevirtual 95, 3) := by decide +kernel
theorem dX9_setGrasp_5 : decode cX9_setGrasp 5 = .ok (.ifCond .eq 13, 3) := by decide +kernel
theorem dX9_setGrasp_8 : decode cX9_setGrasp 8 = .ok (.iload_n 2, 1) := by decide +kernel
theorem dX9_setGrasp_9 : decode cX9_setGrasp 9 = .ok (.iconst 0, 1) := by decide +kernel
theorem dX9_setGrasp_10 : decode cX9_setGrasp 10 = .ok (.bipush 9, 2) := by decide +kernel
theorem dX9_setGrasp_12 : decode cX9_setGrasp 12 = .ok (.invokestatic 66, 3) := by decide +kernel
theorem dX9_setGrasp_15 : decode cX9_setGrasp 15 = .ok (.ifCond .ne 6, 3) := by decide +kernel
theorem dX9_setGrasp_18 : decode cX9_setGrasp 18 = .ok (.bipush (-2), 2) := by decide +kernel
theorem dX9_setGrasp_20 : decode cX9_setGrasp 20 = .ok (.ireturn, 1) := by decide +kernel
theorem dX9_setGrasp_21 : decode cX9_setGrasp 21 = .ok (.aload_n 0, 1) := by decide +kernel
theorem dX9_setGrasp_22 : decode cX9_setGrasp 22 = .ok (.iload_n 1, 1) := by decide +kernel
theorem dX9_setGrasp_23 : decode cX9_setGrasp 23 = .ok (.iconst 3, 1) := by decide +kernel
theorem dX9_setGrasp_24 : decode cX9_setGrasp 24 = .ok (.invokevirtual 77, 3) := by decide +kernel
theorem dX9_setGrasp_27 : decode cX9_setGrasp 27 = .ok (.istore_n 3, 1) := by decide +kernel
theorem dX9_setGrasp_28 : decode cX9_setGrasp 28 = .ok (.aload_n 0, 1) := by decide +kernel
theorem dX9_setGrasp_29 : decode cX9_setGrasp 29 = .ok (.bipush 6, 2) := by decide +kernel
theorem dX9_setGrasp_31 : decode cX9_setGrasp 31 = .ok (.iconst 5, 1) := by decide +kernel
theorem dX9_setGrasp_32 : decode cX9_setGrasp 32 = .ok (.iload_n 1, 1) := by decide +kernel
theorem dX9_setGrasp_33 : decode cX9_setGrasp 33 = .ok (.imul, 1) := by decide +kernel
theorem dX9_setGrasp_34 : decode cX9_setGrasp 34 = .ok (.iadd, 1) := by decide +kernel
theorem dX9_setGrasp_35 : decode cX9_setGrasp 35 = .ok (.iconst 3, 1) := by decide +kernel
theorem dX9_setGrasp_36 : decode cX9_setGrasp 36 = .ok (.iadd, 1) := by decide +kernel
theorem dX9_setGrasp_37 : decode cX9_setGrasp 37 = .ok (.iload_n 2, 1) := by decide +kernel
theorem dX9_setGrasp_38 : decode cX9_setGrasp 38 = .ok (.invokevirtual 73, 3) := by decide +kernel
theorem dX9_setGrasp_41 : decode cX9_setGrasp 41 = .ok (.iload_n 3, 1) := by decide +kernel
theorem dX9_setGrasp_42 : decode cX9_setGrasp 42 = .ok (.ireturn, 1) := by decide +kernel
theorem dX9_box_0 : decode cX9_box 0 = .ok (.aload_n 0, 1) := by decide +kernel
theorem dX9_box_1 : decode cX9_box 1 = .ok (.aload_n 0, 1) := by decide +kernel
theorem dX9_box_2 : decode cX9_box 2 = .ok (.iload_n 1, 1) := by decide +kernel
theorem dX9_box_3 : decode cX9_box 3 = .ok (.iload_n 2, 1) := by decide +kernel
theorem dX9_box_4 : decode cX9_box 4 = .ok (.iload_n 3, 1) := by decide +kernel
theorem dX9_box_5 : decode cX9_box 5 = .ok (.invokevirtual 108, 3) := by decide +kernel
theorem dX9_box_8 : decode cX9_box 8 = .ok (.invokevirtual 70, 3) := by decide +kernel
theorem dX9_box_11 : decode cX9_box 11 = .ok (.ireturn, 1) := by decide +kernel
theorem dX9_lid_0 : decode cX9_lid 0 = .ok (.aload_n 0, 1) := by decide +kernel
theorem dX9_lid_1 : decode cX9_lid 1 = .ok (.aload_n 0, 1) := by decide +kernel
theorem dX9_lid_2 : decode cX9_lid 2 = .ok (.iload_n 1, 1) := by decide +kernel
theorem dX9_lid_3 : decode cX9_lid 3 = .ok (.iload_n 2, 1) := by decide +kernel
theorem dX9_lid_4 : decode cX9_lid 4 = .ok (.iload_n 3, 1) := by decide +kernel
theorem dX9_lid_5 : decode cX9_lid 5 = .ok (.invokevirtual 112, 3) := by decide +kernel
theorem dX9_lid_8 : decode cX9_lid 8 = .ok (.invokevirtual 70, 3) := by decide +kernel
theorem dX9_lid_11 : decode cX9_lid 11 = .ok (.ireturn, 1) := by decide +kernel
theorem dX9_put_0 : decode cX9_put 0 = .ok (.aload_n 0, 1) := by decide +kernel
theorem dX9_put_1 : decode cX9_put 1 = .ok (.aload_n 0, 1) := by decide +kernel
theorem dX9_put_2 : decode cX9_put 2 = .ok (.iload_n 1, 1) := by decide +kernel
theorem dX9_put_3 : decode cX9_put 3 = .ok (.iload_n 2, 1) := by decide +kernel
theorem dX9_put_4 : decode cX9_put 4 = .ok (.invokevirtual 115, 3) := by decide +kernel
theorem dX9_put_7 : decode cX9_put 7 = .ok (.invokevirtual 70, 3) := by decide +kernel
theorem dX9_put_10 : decode cX9_put 10 = .ok (.ireturn, 1) := by decide +kernel
theorem dX9_off_0 : decode cX9_off 0 = .ok (.aload_n 0, 1) := by decide +kernel
theorem dX9_off_1 : decode cX9_off 1 = .ok (.iload_n 1, 1) := by decide +kernel
theorem dX9_off_2 : decode cX9_off 2 = .ok (.invokevirtual 91, 3) := by decide +kernel
theorem dX9_off_5 : decode cX9_off 5 = .ok (.ifCond .ne 10, 3) := by decide +kernel
theorem dX9_off_8 : decode cX9_off 8 = .ok (.aload_n 0, 1) := by decide +kernel
theorem dX9_off_9 : decode cX9_off 9 = .ok (.bipush (-2), 2) := by decide +kernel
theorem dX9_off_11 : decode cX9_off 11 = .ok (.invokevirtual 70, 3) := by decide +kernel
theorem dX9_off_14 : decode cX9_off 14 = .ok (.ireturn, 1) := by decide +kernel
theorem dX9_off_15 : decode cX9_off 15 = .ok (.aload_n 0, 1) := by decide +kernel
theorem dX9_off_16 : decode cX9_off 16 = .ok (.iload_n 1, 1) := by decide +kernel
theorem dX9_off_17 : decode cX9_off 17 = .ok (.invokevirtual 102, 3) := by decide +kernel
theorem dX9_off_20 : decode cX9_off 20 = .ok (.istore_n 2, 1) := by decide +kernel
theorem dX9_off_21 : decode cX9_off 21 = .ok (.iload_n 2, 1) := by decide +kernel
theorem dX9_off_22 : decode cX9_off 22 = .ok (.iconst (-1), 1) := by decide +kernel
theorem dX9_off_23 : decode cX9_off 23 = .ok (.if_icmp .ne 10, 3) := by decide +kernel
theorem dX9_off_26 : decode cX9_off 26 = .ok (.aload_n 0, 1) := by decide +kernel
theorem dX9_off_27 : decode cX9_off 27 = .ok (.bipush (-3), 2) := by decide +kernel
theorem dX9_off_29 : decode cX9_off 29 = .ok (.invokevirtual 70, 3) := by decide +kernel
theorem dX9_off_32 : decode cX9_off 32 = .ok (.ireturn, 1) := by decide +kernel
theorem dX9_off_33 : decode cX9_off 33 = .ok (.aload_n 0, 1) := by decide +kernel
theorem dX9_off_34 : decode cX9_off 34 = .ok (.invokevirtual 105, 3) := by decide +kernel
theorem dX9_off_37 : decode cX9_off 37 = .ok (.aload_n 0, 1) := by decide +kernel
theorem dX9_off_38 : decode cX9_off 38 = .ok (.bipush 6, 2) := by decide +kernel
theorem dX9_off_40 : decode cX9_off 40 = .ok (.iconst 5, 1) := by decide +kernel
theorem dX9_off_41 : decode cX9_off 41 = .ok (.iload_n 2, 1) := by decide +kernel
theorem dX9_off_42 : decode cX9_off 42 = .ok (.imul, 1) := by decide +kernel
theorem dX9_off_43 : decode cX9_off 43 = .ok (.iadd, 1) := by decide +kernel
theorem dX9_off_44 : decode cX9_off 44 = .ok (.iconst 4, 1) := by decide +kernel
theorem dX9_off_45 : decode cX9_off 45 = .ok (.iadd, 1) := by decide +kernel
theorem dX9_off_46 : decode cX9_off 46 = .ok (.iconst (-1), 1) := by decide +kernel
theorem dX9_off_47 : decode cX9_off 47 = .ok (.invokevirtual 73, 3) := by decide +kernel
theorem dX9_off_50 : decode cX9_off 50 = .ok (.iload_n 2, 1) := by decide +kernel
theorem dX9_off_51 : decode cX9_off 51 = .ok (.ireturn, 1) := by decide +kernel
theorem dX9_undo_0 : decode cX9_undo 0 = .ok (.aload_n 0, 1) := by decide +kernel
theorem dX9_undo_1 : decode cX9_undo 1 = .ok (.iconst 5, 1) := by decide +kernel
theorem dX9_undo_2 : decode cX9_undo 2 = .ok (.invokevirtual 62, 3) := by decide +kernel
theorem dX9_undo_5 : decode cX9_undo 5 = .ok (.ifCond .ne 10, 3) := by decide +kernel
theorem dX9_undo_8 : decode cX9_undo 8 = .ok (.aload_n 0, 1) := by decide +kernel
theorem dX9_undo_9 : decode cX9_undo 9 = .ok (.bipush (-3), 2) := by decide +kernel
theorem dX9_undo_11 : decode cX9_undo 11 = .ok (.invokevirtual 70, 3) := by decide +kernel
theorem dX9_undo_14 : decode cX9_undo 14 = .ok (.ireturn, 1) := by decide +kernel
theorem dX9_undo_15 : decode cX9_undo 15 = .ok (.aload_n 0, 1) := by decide +kernel
theorem dX9_undo_16 : decode cX9_undo 16 = .ok (.iconst 5, 1) := by decide +kernel
theorem dX9_undo_17 : decode cX9_undo 17 = .ok (.aload_n 0, 1) := by decide +kernel
theorem dX9_undo_18 : decode cX9_undo 18 = .ok (.iconst 5, 1) := by decide +kernel
theorem dX9_undo_19 : decode cX9_undo 19 = .ok (.invokevirtual 62, 3) := by decide +kernel
theorem dX9_undo_22 : decode cX9_undo 22 = .ok (.iconst 1, 1) := by decide +kernel
theorem dX9_undo_23 : decode cX9_undo 23 = .ok (.isub, 1) := by decide +kernel
theorem dX9_undo_24 : decode cX9_undo 24 = .ok (.invokevirtual 73, 3) := by decide +kernel
theorem dX9_undo_27 : decode cX9_undo 27 = .ok (.iconst 0, 1) := by decide +kernel
theorem dX9_undo_28 : decode cX9_undo 28 = .ok (.istore_n 1, 1) := by decide +kernel
theorem dX9_undo_29 : decode cX9_undo 29 = .ok (.iload_n 1, 1) := by decide +kernel
theorem dX9_undo_30 : decode cX9_undo 30 = .ok (.aload_n 0, 1) := by decide +kernel
theorem dX9_undo_31 : decode cX9_undo 31 = .ok (.iconst 0, 1) := by decide +kernel
theorem dX9_undo_32 : decode cX9_undo 32 = .ok (.invokevirtual 62, 3) := by decide +kernel
theorem dX9_undo_35 : decode cX9_undo 35 = .ok (.if_icmp .ge 39, 3) := by decide +kernel
theorem dX9_undo_38 : decode cX9_undo 38 = .ok (.aload_n 0, 1) := by decide +kernel
theorem dX9_undo_39 : decode cX9_undo 39 = .ok (.bipush 6, 2) := by decide +kernel
theorem dX9_undo_41 : decode cX9_undo 41 = .ok (.iconst 5, 1) := by decide +kernel
theorem dX9_undo_42 : decode cX9_undo 42 = .ok (.iload_n 1, 1) := by decide +kernel
theorem dX9_undo_43 : decode cX9_undo 43 = .ok (.imul, 1) := by decide +kernel
theorem dX9_undo_44 : decode cX9_undo 44 = .ok (.iadd, 1) := by decide +kernel
theorem dX9_undo_45 : decode cX9_undo 45 = .ok (.iconst 4, 1) := by decide +kernel
theorem dX9_undo_46 : decode cX9_undo 46 = .ok (.iadd, 1) := by decide +kernel
theorem dX9_undo_47 : decode cX9_undo 47 = .ok (.aload_n 0, 1) := by decide +kernel
theorem dX9_undo_48 : decode cX9_undo 48 = .ok (.sipush 133, 3) := by decide +kernel
theorem dX9_undo_51 : decode cX9_undo 51 = .ok (.bipush 7, 2) := by decide +kernel
theorem dX9_undo_53 : decode cX9_undo 53 = .ok (.aload_n 0, 1) := by decide +kernel
theorem dX9_undo_54 : decode cX9_undo 54 = .ok (.iconst 5, 1) := by decide +kernel
theorem dX9_undo_55 : decode cX9_undo 55 = .ok (.invokevirtual 62, 3) := by decide +kernel
theorem dX9_undo_58 : decode cX9_undo 58 = .ok (.imul, 1) := by decide +kernel
theorem dX9_undo_59 : decode cX9_undo 59 = .ok (.iadd, 1) := by decide +kernel
theorem dX9_undo_60 : decode cX9_undo 60 = .ok (.iload_n 1, 1) := by decide +kernel
theorem dX9_undo_61 : decode cX9_undo 61 = .ok (.iadd, 1) := by decide +kernel
theorem dX9_undo_62 : decode cX9_undo 62 = .ok (.invokevirtual 62, 3) := by decide +kernel
theorem dX9_undo_65 : decode cX9_undo 65 = .ok (.invokevirtual 73, 3) := by decide +kernel
theorem dX9_undo_68 : decode cX9_undo 68 = .ok (.iinc 1 1, 3) := by decide +kernel
theorem dX9_undo_71 : decode cX9_undo 71 = .ok (.goto (-42), 3) := by decide +kernel
theorem dX9_undo_74 : decode cX9_undo 74 = .ok (.iconst 1, 1) := by decide +kernel
theorem dX9_undo_75 : decode cX9_undo 75 = .ok (.ireturn, 1) := by decide +kernel
theorem dX9_on_0 : decode cX9_on 0 = .ok (.aload_n 0, 1) := by decide +kernel
theorem dX9_on_1 : decode cX9_on 1 = .ok (.iload_n 1, 1) := by decide +kernel
theorem dX9_on_2 : decode cX9_on 2 = .ok (.invokevirtual 95, 3) := by decide +kernel
theorem dX9_on_5 : decode cX9_on 5 = .ok (.ifCond .eq 12, 3) := by decide +kernel
theorem dX9_on_8 : decode cX9_on 8 = .ok (.aload_n 0, 1) := by decide +kernel
theorem dX9_on_9 : decode cX9_on 9 = .ok (.iload_n 1, 1) := by decide +kernel
theorem dX9_on_10 : decode cX9_on 10 = .ok (.iconst 4, 1) := by decide +kernel
theorem dX9_on_11 : decode cX9_on 11 = .ok (.invokevirtual 77, 3) := by decide +kernel
theorem dX9_on_14 : decode cX9_on 14 = .ok (.goto 7, 3) := by decide +kernel
theorem dX9_on_17 : decode cX9_on 17 = .ok (.aload_n 0, 1) := by decide +kernel
theorem dX9_on_18 : decode cX9_on 18 = .ok (.invokevirtual 118, 3) := by decide +kernel
theorem dX9_on_21 : decode cX9_on 21 = .ok (.ireturn, 1) := by decide +kernel
theorem dX9_grasp_0 : decode cX9_grasp 0 = .ok (.aload_n 0, 1) := by decide +kernel
theorem dX9_grasp_1 : decode cX9_grasp 1 = .ok (.aload_n 0, 1) := by decide +kernel
theorem dX9_grasp_2 : decode cX9_grasp 2 = .ok (.iload_n 1, 1) := by decide +kernel
theorem dX9_grasp_3 : decode cX9_grasp 3 = .ok (.iload_n 2, 1) := by decide +kernel
theorem dX9_grasp_4 : decode cX9_grasp 4 = .ok (.invokevirtual 122, 3) := by decide +kernel
theorem dX9_grasp_7 : decode cX9_grasp 7 = .ok (.invokevirtual 70, 3) := by decide +kernel
theorem dX9_grasp_10 : decode cX9_grasp 10 = .ok (.ireturn, 1) := by decide +kernel
theorem dX9_sort_0 : decode cX9_sort 0 = .ok (.aload_n 0, 1) := by decide +kernel
theorem dX9_sort_1 : decode cX9_sort 1 = .ok (.aload_n 0, 1) := by decide +kernel
theorem dX9_sort_2 : decode cX9_sort 2 = .ok (.iload_n 1, 1) := by decide +kernel
theorem dX9_sort_3 : decode cX9_sort 3 = .ok (.iload_n 2, 1) := by decide +kernel
theorem dX9_sort_4 : decode cX9_sort 4 = .ok (.iload_n 3, 1) := by decide +kernel
theorem dX9_sort_5 : decode cX9_sort 5 = .ok (.iload 4, 2) := by decide +kernel
theorem dX9_sort_7 : decode cX9_sort 7 = .ok (.invokevirtual 125, 3) := by decide +kernel
theorem dX9_sort_10 : decode cX9_sort 10 = .ok (.invokevirtual 70, 3) := by decide +kernel
theorem dX9_sort_13 : decode cX9_sort 13 = .ok (.ireturn, 1) := by decide +kernel
theorem dX9_eye_0 : decode cX9_eye 0 = .ok (.aload_n 0, 1) := by decide +kernel
theorem dX9_eye_1 : decode cX9_eye 1 = .ok (.iload_n 1, 1) := by decide +kernel
theorem dX9_eye_2 : decode cX9_eye 2 = .ok (.invokevirtual 91, 3) := by decide +kernel
theorem dX9_eye_5 : decode cX9_eye 5 = .ok (.ifCond .eq 13, 3) := by decide +kernel
theorem dX9_eye_8 : decode cX9_eye 8 = .ok (.iload_n 2, 1) := by decide +kernel
theorem dX9_eye_9 : decode cX9_eye 9 = .ok (.iconst 0, 1) := by decide +kernel
theorem dX9_eye_10 : decode cX9_eye 10 = .ok (.bipush 10, 2) := by decide +kernel
theorem dX9_eye_12 : decode cX9_eye 12 = .ok (.invokestatic 66, 3) := by decide +kernel
theorem dX9_eye_15 : decode cX9_eye 15 = .ok (.ifCond .ne 10, 3) := by decide +kernel
theorem dX9_eye_18 : decode cX9_eye 18 = .ok (.aload_n 0, 1) := by decide +kernel
theorem dX9_eye_19 : decode cX9_eye 19 = .ok (.bipush (-2), 2) := by decide +kernel
theorem dX9_eye_21 : decode cX9_eye 21 = .ok (.invokevirtual 70, 3) := by decide +kernel
theorem dX9_eye_24 : decode cX9_eye 24 = .ok (.ireturn, 1) := by decide +kernel
theorem dX9_eye_25 : decode cX9_eye 25 = .ok (.aload_n 0, 1) := by decide +kernel
theorem dX9_eye_26 : decode cX9_eye 26 = .ok (.iload_n 1, 1) := by decide +kernel
theorem dX9_eye_27 : decode cX9_eye 27 = .ok (.iconst 3, 1) := by decide +kernel
theorem dX9_eye_28 : decode cX9_eye 28 = .ok (.invokevirtual 84, 3) := by decide +kernel
theorem dX9_eye_31 : decode cX9_eye 31 = .ok (.istore_n 3, 1) := by decide +kernel
theorem dX9_eye_32 : decode cX9_eye 32 = .ok (.aload_n 0, 1) := by decide +kernel
theorem dX9_eye_33 : decode cX9_eye 33 = .ok (.bipush 41, 2) := by decide +kernel
theorem dX9_eye_35 : decode cX9_eye 35 = .ok (.iconst 4, 1) := by decide +kernel
theorem dX9_eye_36 : decode cX9_eye 36 = .ok (.iload_n 1, 1) := by decide +kernel
theorem dX9_eye_37 : decode cX9_eye 37 = .ok (.imul, 1) := by decide +kernel
theorem dX9_eye_38 : decode cX9_eye 38 = .ok (.iadd, 1) := by decide +kernel
theorem dX9_eye_39 : decode cX9_eye 39 = .ok (.iconst 3, 1) := by decide +kernel
theorem dX9_eye_40 : decode cX9_eye 40 = .ok (.iadd, 1) := by decide +kernel
theorem dX9_eye_41 : decode cX9_eye 41 = .ok (.iload_n 2, 1) := by decide +kernel
theorem dX9_eye_42 : decode cX9_eye 42 = .ok (.invokevirtual 73, 3) := by decide +kernel
theorem dX9_eye_45 : decode cX9_eye 45 = .ok (.iload_n 3, 1) := by decide +kernel
theorem dX9_eye_46 : decode cX9_eye 46 = .ok (.ireturn, 1) := by decide +kernel
theorem dX9_type_0 : decode cX9_type 0 = .ok (.iload_n 1, 1) := by decide +kernel
theorem dX9_type_1 : decode cX9_type 1 = .ok (.iconst 0, 1) := by decide +kernel
theorem dX9_type_2 : decode cX9_type 2 = .ok (.bipush 127, 2) := by decide +kernel
theorem dX9_type_4 : decode cX9_type 4 = .ok (.invokestatic 66, 3) := by decide +kernel
theorem dX9_type_7 : decode cX9_type 7 = .ok (.ifCond .ne 10, 3) := by decide +kernel
theorem dX9_type_10 : decode cX9_type 10 = .ok (.aload_n 0, 1) := by decide +kernel
theorem dX9_type_11 : decode cX9_type 11 = .ok (.bipush (-2), 2) := by decide +kernel
theorem dX9_type_13 : decode cX9_type 13 = .ok (.invokevirtual 70, 3) := by decide +kernel
theorem dX9_type_16 : decode cX9_type 16 = .ok (.ireturn, 1) := by decide +kernel
theorem dX9_type_17 : decode cX9_type 17 = .ok (.aload_n 0, 1) := by decide +kernel
theorem dX9_type_18 : decode cX9_type 18 = .ok (.getfield 129, 3) := by decide +kernel
theorem dX9_type_21 : decode cX9_type 21 = .ok (.sipush 150, 3) := by decide +kernel
theorem dX9_type_24 : decode cX9_type 24 = .ok (.if_icmp .ne 10, 3) := by decide +kernel
theorem dX9_type_27 : decode cX9_type 27 = .ok (.aload_n 0, 1) := by decide +kernel
theorem dX9_type_28 : decode cX9_type 28 = .ok (.bipush (-4), 2) := by decide +kernel
theorem dX9_type_30 : decode cX9_type 30 = .ok (.invokevirtual 70, 3) := by decide +kernel
theorem dX9_type_33 : decode cX9_type 33 = .ok (.ireturn, 1) := by decide +kernel
theorem dX9_type_34 : decode cX9_type 34 = .ok (.aload_n 0, 1) := by decide +kernel
theorem dX9_type_35 : decode cX9_type 35 = .ok (.getfield 20, 3) := by decide +kernel
theorem dX9_type_38 : decode cX9_type 38 = .ok (.aload_n 0, 1) := by decide +kernel
theorem dX9_type_39 : decode cX9_type 39 = .ok (.getfield 129, 3) := by decide +kernel
theorem dX9_type_42 : decode cX9_type 42 = .ok (.iload_n 1, 1) := by decide +kernel
theorem dX9_type_43 : decode cX9_type 43 = .ok (.i2b, 1) := by decide +kernel
theorem dX9_type_44 : decode cX9_type 44 = .ok (.bastore, 1) := by decide +kernel
theorem dX9_type_45 : decode cX9_type 45 = .ok (.aload_n 0, 1) := by decide +kernel
theorem dX9_type_46 : decode cX9_type 46 = .ok (.dup, 1) := by decide +kernel
theorem dX9_type_47 : decode cX9_type 47 = .ok (.getfield 129, 3) := by decide +kernel
theorem dX9_type_50 : decode cX9_type 50 = .ok (.iconst 1, 1) := by decide +kernel
theorem dX9_type_51 : decode cX9_type 51 = .ok (.iadd, 1) := by decide +kernel
theorem dX9_type_52 : decode cX9_type 52 = .ok (.putfield 129, 3) := by decide +kernel
theorem dX9_type_55 : decode cX9_type 55 = .ok (.aload_n 0, 1) := by decide +kernel
theorem dX9_type_56 : decode cX9_type 56 = .ok (.getfield 129, 3) := by decide +kernel
theorem dX9_type_59 : decode cX9_type 59 = .ok (.ireturn, 1) := by decide +kernel
theorem dX9_clear_0 : decode cX9_clear 0 = .ok (.aload_n 0, 1) := by decide +kernel
theorem dX9_clear_1 : decode cX9_clear 1 = .ok (.getfield 129, 3) := by decide +kernel
theorem dX9_clear_4 : decode cX9_clear 4 = .ok (.istore_n 1, 1) := by decide +kernel
theorem dX9_clear_5 : decode cX9_clear 5 = .ok (.aload_n 0, 1) := by decide +kernel
theorem dX9_clear_6 : decode cX9_clear 6 = .ok (.iconst 0, 1) := by decide +kernel
theorem dX9_clear_7 : decode cX9_clear 7 = .ok (.putfield 129, 3) := by decide +kernel
theorem dX9_clear_10 : decode cX9_clear 10 = .ok (.iload_n 1, 1) := by decide +kernel
theorem dX9_clear_11 : decode cX9_clear 11 = .ok (.ireturn, 1) := by decide +kernel
theorem dX9_here_0 : decode cX9_here 0 = .ok (.aload_n 0, 1) := by decide +kernel
theorem dX9_here_1 : decode cX9_here 1 = .ok (.getfield 132, 3) := by decide +kernel
theorem dX9_here_4 : decode cX9_here 4 = .ok (.aload_n 0, 1) := by decide +kernel
theorem dX9_here_5 : decode cX9_here 5 = .ok (.getfield 129, 3) := by decide +kernel
theorem dX9_here_8 : decode cX9_here 8 = .ok (.if_icmp .ge 19, 3) := by decide +kernel
theorem dX9_here_11 : decode cX9_here 11 = .ok (.aload_n 0, 1) := by decide +kernel
theorem dX9_here_12 : decode cX9_here 12 = .ok (.getfield 20, 3) := by decide +kernel
theorem dX9_here_15 : decode cX9_here 15 = .ok (.aload_n 0, 1) := by decide +kernel
theorem dX9_here_16 : decode cX9_here 16 = .ok (.getfield 132, 3) := by decide +kernel
theorem dX9_here_19 : decode cX9_here 19 = .ok (.baload, 1) := by decide +kernel
theorem dX9_here_20 : decode cX9_here 20 = .ok (.sipush 255, 3) := by decide +kernel
theorem dX9_here_23 : decode cX9_here 23 = .ok (.iand, 1) := by decide +kernel
theorem dX9_here_24 : decode cX9_here 24 = .ok (.goto 4, 3) := by decide +kernel
theorem dX9_here_27 : decode cX9_here 27 = .ok (.iconst (-1), 1) := by decide +kernel
theorem dX9_here_28 : decode cX9_here 28 = .ok (.ireturn, 1) := by decide +kernel
theorem dX9_meaning_0 : decode cX9_meaning 0 = .ok (.iload_n 0, 1) := by decide +kernel
theorem dX9_meaning_1 : decode cX9_meaning 1 = .ok (.lookupswitch 61 #[(419, 55), (1887, 51), (8995, 53), (385418, 59), (4075639, 57)], 51) := by decide +kernel
theorem dX9_meaning_52 : decode cX9_meaning 52 = .ok (.iconst 0, 1) := by decide +kernel
theorem dX9_meaning_53 : decode cX9_meaning 53 = .ok (.ireturn, 1) := by decide +kernel
theorem dX9_meaning_54 : decode cX9_meaning 54 = .ok (.iconst 1, 1) := by decide +kernel
theorem dX9_meaning_55 : decode cX9_meaning 55 = .ok (.ireturn, 1) := by decide +kernel
theorem dX9_meaning_56 : decode cX9_meaning 56 = .ok (.iconst 2, 1) := by decide +kernel
theorem dX9_meaning_57 : decode cX9_meaning 57 = .ok (.ireturn, 1) := by decide +kernel
theorem dX9_meaning_58 : decode cX9_meaning 58 = .ok (.iconst 3, 1) := by decide +kernel
theorem dX9_meaning_59 : decode cX9_meaning 59 = .ok (.ireturn, 1) := by decide +kernel
theorem dX9_meaning_60 : decode cX9_meaning 60 = .ok (.iconst 4, 1) := by decide +kernel
theorem dX9_meaning_61 : decode cX9_meaning 61 = .ok (.ireturn, 1) := by decide +kernel
theorem dX9_meaning_62 : decode cX9_meaning 62 = .ok (.bipush 8, 2) := by decide +kernel
theorem dX9_meaning_64 : decode cX9_meaning 64 = .ok (.ireturn, 1) := by decide +kernel
theorem dX9_next_0 : decode cX9_next 0 = .ok (.aload_n 0, 1) := by decide +kernel
theorem dX9_next_1 : decode cX9_next 1 = .ok (.invokevirtual 135, 3) := by decide +kernel
theorem dX9_next_4 : decode cX9_next 4 = .ok (.bipush 32, 2) := by decide +kernel
theorem dX9_next_6 : decode cX9_next 6 = .ok (.if_icmp .ne 16, 3) := by decide +kernel
theorem dX9_next_9 : decode cX9_next 9 = .ok (.aload_n 0, 1) := by decide +kernel
theorem dX9_next_10 : decode cX9_next 10 = .ok (.dup, 1) := by decide +kernel
theorem dX9_next_11 : decode cX9_next 11 = .ok (.getfield 132, 3) := by decide +kernel
theorem dX9_next_14 : decode cX9_next 14 = .ok (.iconst 1, 1) := by decide +kernel
theorem dX9_next_15 : decode cX9_next 15 = .ok (.iadd, 1) := by decide +kernel
theorem dX9_next_16 : decode cX9_next 16 = .ok (.putfield 132, 3) := by decide +kernel
theorem dX9_next_19 : decode cX9_next 19 = .ok (.goto (-19), 3) := by decide +kernel
theorem dX9_next_22 : decode cX9_next 22 = .ok (.aload_n 0, 1) := by decide +kernel
theorem dX9_next_23 : decode cX9_next 23 = .ok (.aload_n 0, 1) := by decide +kernel
theorem dX9_next_24 : decode cX9_next 24 = .ok (.getfield 132, 3) := by decide +kernel
theorem dX9_next_27 : decode cX9_next 27 = .ok (.putfield 138, 3) := by decide +kernel
theorem dX9_next_30 : decode cX9_next 30 = .ok (.aload_n 0, 1) := by decide +kernel
theorem dX9_next_31 : decode cX9_next 31 = .ok (.iconst 0, 1) := by decide +kernel
theorem dX9_next_32 : decode cX9_next 32 = .ok (.putfield 141, 3) := by decide +kernel
theorem dX9_next_35 : decode cX9_next 35 = .ok (.aload_n 0, 1) := by decide +kernel
theorem dX9_next_36 : decode cX9_next 36 = .ok (.invokevirtual 135, 3) := by decide +kernel
theorem dX9_next_39 : decode cX9_next 39 = .ok (.istore_n 1, 1) := by decide +kernel
theorem dX9_next_40 : decode cX9_next 40 = .ok (.iload_n 1, 1) := by decide +kernel
theorem dX9_next_41 : decode cX9_next 41 = .ok (.ifCond .ge 12, 3) := by decide +kernel
theorem dX9_next_44 : decode cX9_next 44 = .ok (.aload_n 0, 1) := by decide +kernel
theorem dX9_next_45 : decode cX9_next 45 = .ok (.bipush 7, 2) := by decide +kernel
theorem dX9_next_47 : decode cX9_next 47 = .ok (.putfield 144, 3) := by decide +kernel
theorem dX9_next_50 : decode cX9_next 50 = .ok (.goto 229, 3) := by decide +kernel
theorem dX9_next_53 : decode cX9_next 53 = .ok (.iload_n 1, 1) := by decide +kernel
theorem dX9_next_54 : decode cX9_next 54 = .ok (.bipush 97, 2) := by decide +kernel
theorem dX9_next_56 : decode cX9_next 56 = .ok (.bipush 122, 2) := by decide +kernel
theorem dX9_next_58 : decode cX9_next 58 = .ok (.invokestatic 66, 3) := by decide +kernel
theorem dX9_next_61 : decode cX9_next 61 = .ok (.ifCond .eq 91, 3) := by decide +kernel
theorem dX9_next_64 : decode cX9_next 64 = .ok (.iconst 0, 1) := by decide +kernel
theorem dX9_next_65 : decode cX9_next 65 = .ok (.istore_n 2, 1) := by decide +kernel
theorem dX9_next_66 : decode cX9_next 66 = .ok (.aload_n 0, 1) := by decide +kernel
theorem dX9_next_67 : decode cX9_next 67 = .ok (.invokevirtual 135, 3) := by decide +kernel
theorem dX9_next_70 : decode cX9_next 70 = .ok (.bipush 97, 2) := by decide +kernel
theorem dX9_next_72 : decode cX9_next 72 = .ok (.bipush 122, 2) := by decide +kernel
theorem dX9_next_74 : decode cX9_next 74 = .ok (.invokestatic 66, 3) := by decide +kernel
theorem dX9_next_77 : decode cX9_next 77 = .ok (.ifCond .eq 46, 3) := by decide +kernel
theorem dX9_next_80 : decode cX9_next 80 = .ok (.aload_n 0, 1) := by decide +kernel
theorem dX9_next_81 : decode cX9_next 81 = .ok (.getfield 132, 3) := by decide +kernel
theorem dX9_next_84 : decode cX9_next 84 = .ok (.aload_n 0, 1) := by decide +kernel
theorem dX9_next_85 : decode cX9_next 85 = .ok (.getfield 138, 3) := by decide +kernel
theorem dX9_next_88 : decode cX9_next 88 = .ok (.isub, 1) := by decide +kernel
theorem dX9_next_89 : decode cX9_next 89 = .ok (.iconst 5, 1) := by decide +kernel
theorem dX9_next_90 : decode cX9_next 90 = .ok (.if_icmp .ge 18, 3) := by decide +kernel
theorem dX9_next_93 : decode cX9_next 93 = .ok (.bipush 27, 2) := by decide +kernel
theorem dX9_next_95 : decode cX9_next 95 = .ok (.iload_n 2, 1) := by decide +kernel
theorem dX9_next_96 : decode cX9_next 96 = .ok (.imul, 1) := by decide +kernel
theorem dX9_next_97 : decode cX9_next 97 = .ok (.aload_n 0, 1) := by decide +kernel
theorem dX9_next_98 : decode cX9_next 98 = .ok (.invokevirtual 135, 3) := by decide +kernel
theorem dX9_next_101 : decode cX9_next 101 = .ok (.iadd, 1) := by decide +kernel
theorem dX9_next_102 : decode cX9_next 102 = .ok (.bipush 96, 2) := by decide +kernel
theorem dX9_next_104 : decode cX9_next 104 = .ok (.isub, 1) := by decide +kernel
theorem dX9_next_105 : decode cX9_next 105 = .ok (.goto 4, 3) := by decide +kernel
theorem dX9_next_108 : decode cX9_next 108 = .ok (.iconst 0, 1) := by decide +kernel
theorem dX9_next_109 : decode cX9_next 109 = .ok (.istore_n 2, 1) := by decide +kernel
theorem dX9_next_110 : decode cX9_next 110 = .ok (.aload_n 0, 1) := by decide +kernel
theorem dX9_next_111 : decode cX9_next 111 = .ok (.dup, 1) := by decide +kernel
theorem dX9_next_112 : decode cX9_next 112 = .ok (.getfield 132, 3) := by decide +kernel
theorem dX9_next_115 : decode cX9_next 115 = .ok (.iconst 1, 1) := by decide +kernel
theorem dX9_next_116 : decode cX9_next 116 = .ok (.iadd, 1) := by decide +kernel
theorem dX9_next_117 : decode cX9_next 117 = .ok (.putfield 132, 3) := by decide +kernel
theorem dX9_next_120 : decode cX9_next 120 = .ok (.goto (-54), 3) := by decide +kernel
theorem dX9_next_123 : decode cX9_next 123 = .ok (.aload_n 0, 1) := by decide +kernel
theorem dX9_next_124 : decode cX9_next 124 = .ok (.aload_n 0, 1) := by decide +kernel
theorem dX9_next_125 : decode cX9_next 125 = .ok (.getfield 132, 3) := by decide +kernel
theorem dX9_next_128 : decode cX9_next 128 = .ok (.aload_n 0, 1) := by decide +kernel
theorem dX9_next_129 : decode cX9_next 129 = .ok (.getfield 138, 3) := by decide +kernel
theorem dX9_next_132 : decode cX9_next 132 = .ok (.isub, 1) := by decide +kernel
theorem dX9_next_133 : decode cX9_next 133 = .ok (.iconst 5, 1) := by decide +kernel
theorem dX9_next_134 : decode cX9_next 134 = .ok (.if_icmp .le 8, 3) := by decide +kernel
theorem dX9_next_137 : decode cX9_next 137 = .ok (.bipush 8, 2) := by decide +kernel
theorem dX9_next_139 : decode cX9_next 139 = .ok (.goto 7, 3) := by decide +kernel
theorem dX9_next_142 : decode cX9_next 142 = .ok (.iload_n 2, 1) := by decide +kernel
theorem dX9_next_143 : decode cX9_next 143 = .ok (.invokestatic 147, 3) := by decide +kernel
theorem dX9_next_146 : decode cX9_next 146 = .ok (.putfield 144, 3) := by decide +kernel
theorem dX9_next_149 : decode cX9_next 149 = .ok (.goto 130, 3) := by decide +kernel
theorem dX9_next_152 : decode cX9_next 152 = .ok (.iload_n 1, 1) := by decide +kernel
theorem dX9_next_153 : decode cX9_next 153 = .ok (.bipush 48, 2) := by decide +kernel
theorem dX9_next_155 : decode cX9_next 155 = .ok (.bipush 57, 2) := by decide +kernel
theorem dX9_next_157 : decode cX9_next 157 = .ok (.invokestatic 66, 3) := by decide +kernel
theorem dX9_next_160 : decode cX9_next 160 = .ok (.ifCond .eq 92, 3) := by decide +kernel
theorem dX9_next_163 : decode cX9_next 163 = .ok (.aload_n 0, 1) := by decide +kernel
theorem dX9_next_164 : decode cX9_next 164 = .ok (.invokevirtual 135, 3) := by decide +kernel
theorem dX9_next_167 : decode cX9_next 167 = .ok (.bipush 48, 2) := by decide +kernel
theorem dX9_next_169 : decode cX9_next 169 = .ok (.bipush 57, 2) := by decide +kernel
theorem dX9_next_171 : decode cX9_next 171 = .ok (.invokestatic 66, 3) := by decide +kernel
theorem dX9_next_174 : decode cX9_next 174 = .ok (.ifCond .eq 52, 3) := by decide +kernel
theorem dX9_next_177 : decode cX9_next 177 = .ok (.aload_n 0, 1) := by decide +kernel
theorem dX9_next_178 : decode cX9_next 178 = .ok (.aload_n 0, 1) := by decide +kernel
theorem dX9_next_179 : decode cX9_next 179 = .ok (.getfield 132, 3) := by decide +kernel
theorem dX9_next_182 : decode cX9_next 182 = .ok (.aload_n 0, 1) := by decide +kernel
theorem dX9_next_183 : decode cX9_next 183 = .ok (.getfield 138, 3) := by decide +kernel
theorem dX9_next_186 : decode cX9_next 186 = .ok (.isub, 1) := by decide +kernel
theorem dX9_next_187 : decode cX9_next 187 = .ok (.iconst 2, 1) := by decide +kernel
theorem dX9_next_188 : decode cX9_next 188 = .ok (.if_icmp .ge 21, 3) := by decide +kernel
theorem dX9_next_191 : decode cX9_next 191 = .ok (.bipush 10, 2) := by decide +kernel
theorem dX9_next_193 : decode cX9_next 193 = .ok (.aload_n 0, 1) := by decide +kernel
theorem dX9_next_194 : decode cX9_next 194 = .ok (.getfield 141, 3) := by decide +kernel
theorem dX9_next_197 : decode cX9_next 197 = .ok (.imul, 1) := by decide +kernel
theorem dX9_next_198 : decode cX9_next 198 = .ok (.aload_n 0, 1) := by decide +kernel
theorem dX9_next_199 : decode cX9_next 199 = .ok (.invokevirtual 135, 3) := by decide +kernel
theorem dX9_next_202 : decode cX9_next 202 = .ok (.iadd, 1) := by decide +kernel
theorem dX9_next_203 : decode cX9_next 203 = .ok (.bipush 48, 2) := by decide +kernel
theorem dX9_next_205 : decode cX9_next 205 = .ok (.isub, 1) := by decide +kernel
theorem dX9_next_206 : decode cX9_next 206 = .ok (.goto 4, 3) := by decide +kernel
theorem dX9_next_209 : decode cX9_next 209 = .ok (.iconst 0, 1) := by decide +kernel
theorem dX9_next_210 : decode cX9_next 210 = .ok (.putfield 141, 3) := by decide +kernel
theorem dX9_next_213 : decode cX9_next 213 = .ok (.aload_n 0, 1) := by decide +kernel
theorem dX9_next_214 : decode cX9_next 214 = .ok (.dup, 1) := by decide +kernel
theorem dX9_next_215 : decode cX9_next 215 = .ok (.getfield 132, 3) := by decide +kernel
theorem dX9_next_218 : decode cX9_next 218 = .ok (.iconst 1, 1) := by decide +kernel
theorem dX9_next_219 : decode cX9_next 219 = .ok (.iadd, 1) := by decide +kernel
theorem dX9_next_220 : decode cX9_next 220 = .ok (.putfield 132, 3) := by decide +kernel
theorem dX9_next_223 : decode cX9_next 223 = .ok (.goto (-60), 3) := by decide +kernel
theorem dX9_next_226 : decode cX9_next 226 = .ok (.aload_n 0, 1) := by decide +kernel
theorem dX9_next_227 : decode cX9_next 227 = .ok (.aload_n 0, 1) := by decide +kernel
theorem dX9_next_228 : decode cX9_next 228 = .ok (.getfield 132, 3) := by decide +kernel
theorem dX9_next_231 : decode cX9_next 231 = .ok (.aload_n 0, 1) := by decide +kernel
theorem dX9_next_232 : decode cX9_next 232 = .ok (.getfield 138, 3) := by decide +kernel
theorem dX9_next_235 : decode cX9_next 235 = .ok (.isub, 1) := by decide +kernel
theorem dX9_next_236 : decode cX9_next 236 = .ok (.iconst 2, 1) := by decide +kernel
theorem dX9_next_237 : decode cX9_next 237 = .ok (.if_icmp .le 8, 3) := by decide +kernel
theorem dX9_next_240 : decode cX9_next 240 = .ok (.bipush 8, 2) := by decide +kernel
theorem dX9_next_242 : decode cX9_next 242 = .ok (.goto 4, 3) := by decide +kernel
theorem dX9_next_245 : decode cX9_next 245 = .ok (.iconst 5, 1) := by decide +kernel
theorem dX9_next_246 : decode cX9_next 246 = .ok (.putfield 144, 3) := by decide +kernel
theorem dX9_next_249 : decode cX9_next 249 = .ok (.goto 30, 3) := by decide +kernel
theorem dX9_next_252 : decode cX9_next 252 = .ok (.aload_n 0, 1) := by decide +kernel
theorem dX9_next_253 : decode cX9_next 253 = .ok (.dup, 1) := by decide +kernel
theorem dX9_next_254 : decode cX9_next 254 = .ok (.getfield 132, 3) := by decide +kernel
theorem dX9_next_257 : decode cX9_next 257 = .ok (.iconst 1, 1) := by decide +kernel
theorem dX9_next_258 : decode cX9_next 258 = .ok (.iadd, 1) := by decide +kernel
theorem dX9_next_259 : decode cX9_next 259 = .ok (.putfield 132, 3) := by decide +kernel
theorem dX9_next_262 : decode cX9_next 262 = .ok (.aload_n 0, 1) := by decide +kernel
theorem dX9_next_263 : decode cX9_next 263 = .ok (.iload_n 1, 1) := by decide +kernel
theorem dX9_next_264 : decode cX9_next 264 = .ok (.bipush 59, 2) := by decide +kernel
theorem dX9_next_266 : decode cX9_next 266 = .ok (.if_icmp .ne 8, 3) := by decide +kernel
theorem dX9_next_269 : decode cX9_next 269 = .ok (.bipush 6, 2) := by decide +kernel
theorem dX9_next_271 : decode cX9_next 271 = .ok (.goto 5, 3) := by decide +kernel
theorem dX9_next_274 : decode cX9_next 274 = .ok (.bipush 8, 2) := by decide +kernel
theorem dX9_next_276 : decode cX9_next 276 = .ok (.putfield 144, 3) := by decide +kernel
theorem dX9_next_279 : decode cX9_next 279 = .ok (.return_, 1) := by decide +kernel
theorem dX9_due_0 : decode cX9_due 0 = .ok (.aload_n 0, 1) := by decide +kernel
theorem dX9_due_1 : decode cX9_due 1 = .ok (.getfield 150, 3) := by decide +kernel
theorem dX9_due_4 : decode cX9_due 4 = .ok (.iconst (-1), 1) := by decide +kernel
theorem dX9_due_5 : decode cX9_due 5 = .ok (.if_icmp .ne 22, 3) := by decide +kernel
theorem dX9_due_8 : decode cX9_due 8 = .ok (.iload_n 1, 1) := by decide +kernel
theorem dX9_due_9 : decode cX9_due 9 = .ok (.ifCond .eq 10, 3) := by decide +kernel
theorem dX9_due_12 : decode cX9_due 12 = .ok (.aload_n 0, 1) := by decide +kernel
theorem dX9_due_13 : decode cX9_due 13 = .ok (.invokevirtual 153, 3) := by decide +kernel
theorem dX9_due_16 : decode cX9_due 16 = .ok (.goto 11, 3) := by decide +kernel
theorem dX9_due_19 : decode cX9_due 19 = .ok (.aload_n 0, 1) := by decide +kernel
theorem dX9_due_20 : decode cX9_due 20 = .ok (.aload_n 0, 1) := by decide +kernel
theorem dX9_due_21 : decode cX9_due 21 = .ok (.getfield 138, 3) := by decide +kernel
theorem dX9_due_24 : decode cX9_due 24 = .ok (.putfield 150, 3) := by decide +kernel
theorem dX9_due_27 : decode cX9_due 27 = .ok (.return_, 1) := by decide +kernel
theorem dX9_doItem_0 : decode cX9_doItem 0 = .ok (.iload_n 1, 1) := by decide +kernel
theorem dX9_doItem_1 : decode cX9_doItem 1 = .ok (.tableswitch 111 0 3 #[31, 54, 77, 94], 31) := by decide +kernel
theorem dX9_doItem_32 : decode cX9_doItem 32 = .ok (.aload_n 0, 1) := by decide +kernel
theorem dX9_doItem_33 : decode cX9_doItem 33 = .ok (.aload_n 0, 1) := by decide +kernel
theorem dX9_doItem_34 : decode cX9_doItem 34 = .ok (.getfield 24, 3) := by decide +kernel
theorem dX9_doItem_37 : decode cX9_doItem 37 = .ok (.iconst 0, 1) := by decide +kernel
theorem dX9_doItem_38 : decode cX9_doItem 38 = .ok (.iaload, 1) := by decide +kernel
theorem dX9_doItem_39 : decode cX9_doItem 39 = .ok (.aload_n 0, 1) := by decide +kernel
theorem dX9_doItem_40 : decode cX9_doItem 40 = .ok (.getfield 24, 3) := by decide +kernel
theorem dX9_doItem_43 : decode cX9_doItem 43 = .ok (.iconst 1, 1) := by decide +kernel
theorem dX9_doItem_44 : decode cX9_doItem 44 = .ok (.iaload, 1) := by decide +kernel
theorem dX9_doItem_45 : decode cX9_doItem 45 = .ok (.aload_n 0, 1) := by decide +kernel
theorem dX9_doItem_46 : decode cX9_doItem 46 = .ok (.getfield 24, 3) := by decide +kernel
theorem dX9_doItem_49 : decode cX9_doItem 49 = .ok (.iconst 2, 1) := by decide +kernel
theorem dX9_doItem_50 : decode cX9_doItem 50 = .ok (.iaload, 1) := by decide +kernel
theorem dX9_doItem_51 : decode cX9_doItem 51 = .ok (.invokevirtual 108, 3) := by decide +kernel
theorem dX9_doItem_54 : decode cX9_doItem 54 = .ok (.ireturn, 1) := by decide +kernel
theorem dX9_doItem_55 : decode cX9_doItem 55 = .ok (.aload_n 0, 1) := by decide +kernel
theorem dX9_doItem_56 : decode cX9_doItem 56 = .ok (.aload_n 0, 1) := by decide +kernel
theorem dX9_doItem_57 : decode cX9_doItem 57 = .ok (.getfield 24, 3) := by decide +kernel
theorem dX9_doItem_60 : decode cX9_doItem 60 = .ok (.iconst 0, 1) := by decide +kernel
theorem dX9_doItem_61 : decode cX9_doItem 61 = .ok (.iaload, 1) := by decide +kernel
theorem dX9_doItem_62 : decode cX9_doItem 62 = .ok (.aload_n 0, 1) := by decide +kernel
theorem dX9_doItem_63 : decode cX9_doItem 63 = .ok (.getfield 24, 3) := by decide +kernel
theorem dX9_doItem_66 : decode cX9_doItem 66 = .ok (.iconst 1, 1) := by decide +kernel
theorem dX9_doItem_67 : decode cX9_doItem 67 = .ok (.iaload, 1) := by decide +kernel
theorem dX9_doItem_68 : decode cX9_doItem 68 = .ok (.aload_n 0, 1) := by decide +kernel
theorem dX9_doItem_69 : decode cX9_doItem 69 = .ok (.getfield 24, 3) := by decide +kernel
theorem dX9_doItem_72 : decode cX9_doItem 72 = .ok (.iconst 2, 1) := by decide +kernel
theorem dX9_doItem_73 : decode cX9_doItem 73 = .ok (.iaload, 1) := by decide +kernel
theorem dX9_doItem_74 : decode cX9_doItem 74 = .ok (.invokevirtual 112, 3) := by decide +kernel
theorem dX9_doItem_77 : decode cX9_doItem 77 = .ok (.ireturn, 1) := by decide +kernel
theorem dX9_doItem_78 : decode cX9_doItem 78 = .ok (.aload_n 0, 1) := by decide +kernel
theorem dX9_doItem_79 : decode cX9_doItem 79 = .ok (.aload_n 0, 1) := by decide +kernel
theorem dX9_doItem_80 : decode cX9_doItem 80 = .ok (.getfield 24, 3) := by decide +kernel
theorem dX9_doItem_83 : decode cX9_doItem 83 = .ok (.iconst 0, 1) := by decide +kernel
theorem dX9_doItem_84 : decode cX9_doItem 84 = .ok (.iaload, 1) := by decide +kernel
theorem dX9_doItem_85 : decode cX9_doItem 85 = .ok (.aload_n 0, 1) := by decide +kernel
theorem dX9_doItem_86 : decode cX9_doItem 86 = .ok (.getfield 24, 3) := by decide +kernel
theorem dX9_doItem_89 : decode cX9_doItem 89 = .ok (.iconst 1, 1) := by decide +kernel
theorem dX9_doItem_90 : decode cX9_doItem 90 = .ok (.iaload, 1) := by decide +kernel
theorem dX9_doItem_91 : decode cX9_doItem 91 = .ok (.invokevirtual 115, 3) := by decide +kernel
theorem dX9_doItem_94 : decode cX9_doItem 94 = .ok (.ireturn, 1) := by decide +kernel
theorem dX9_doItem_95 : decode cX9_doItem 95 = .ok (.aload_n 0, 1) := by decide +kernel
theorem dX9_doItem_96 : decode cX9_doItem 96 = .ok (.aload_n 0, 1) := by decide +kernel
theorem dX9_doItem_97 : decode cX9_doItem 97 = .ok (.getfield 24, 3) := by decide +kernel
theorem dX9_doItem_100 : decode cX9_doItem 100 = .ok (.iconst 0, 1) := by decide +kernel
theorem dX9_doItem_101 : decode cX9_doItem 101 = .ok (.iaload, 1) := by decide +kernel
theorem dX9_doItem_102 : decode cX9_doItem 102 = .ok (.aload_n 0, 1) := by decide +kernel
theorem dX9_doItem_103 : decode cX9_doItem 103 = .ok (.getfield 24, 3) := by decide +kernel
theorem dX9_doItem_106 : decode cX9_doItem 106 = .ok (.iconst 1, 1) := by decide +kernel
theorem dX9_doItem_107 : decode cX9_doItem 107 = .ok (.iaload, 1) := by decide +kernel
theorem dX9_doItem_108 : decode cX9_doItem 108 = .ok (.invokevirtual 122, 3) := by decide +kernel
theorem dX9_doItem_111 : decode cX9_doItem 111 = .ok (.ireturn, 1) := by decide +kernel
theorem dX9_doItem_112 : decode cX9_doItem 112 = .ok (.aload_n 0, 1) := by decide +kernel
theorem dX9_doItem_113 : decode cX9_doItem 113 = .ok (.aload_n 0, 1) := by decide +kernel
theorem dX9_doItem_114 : decode cX9_doItem 114 = .ok (.getfield 24, 3) := by decide +kernel
theorem dX9_doItem_117 : decode cX9_doItem 117 = .ok (.iconst 0, 1) := by decide +kernel
theorem dX9_doItem_118 : decode cX9_doItem 118 = .ok (.iaload, 1) := by decide +kernel
theorem dX9_doItem_119 : decode cX9_doItem 119 = .ok (.aload_n 0, 1) := by decide +kernel
theorem dX9_doItem_120 : decode cX9_doItem 120 = .ok (.getfield 24, 3) := by decide +kernel
theorem dX9_doItem_123 : decode cX9_doItem 123 = .ok (.iconst 1, 1) := by decide +kernel
theorem dX9_doItem_124 : decode cX9_doItem 124 = .ok (.iaload, 1) := by decide +kernel
theorem dX9_doItem_125 : decode cX9_doItem 125 = .ok (.aload_n 0, 1) := by decide +kernel
theorem dX9_doItem_126 : decode cX9_doItem 126 = .ok (.getfield 24, 3) := by decide +kernel
theorem dX9_doItem_129 : decode cX9_doItem 129 = .ok (.iconst 2, 1) := by decide +kernel
theorem dX9_doItem_130 : decode cX9_doItem 130 = .ok (.iaload, 1) := by decide +kernel
theorem dX9_doItem_131 : decode cX9_doItem 131 = .ok (.aload_n 0, 1) := by decide +kernel
theorem dX9_doItem_132 : decode cX9_doItem 132 = .ok (.getfield 24, 3) := by decide +kernel
theorem dX9_doItem_135 : decode cX9_doItem 135 = .ok (.iconst 3, 1) := by decide +kernel
theorem dX9_doItem_136 : decode cX9_doItem 136 = .ok (.iaload, 1) := by decide +kernel
theorem dX9_doItem_137 : decode cX9_doItem 137 = .ok (.invokevirtual 125, 3) := by decide +kernel
theorem dX9_doItem_140 : decode cX9_doItem 140 = .ok (.ireturn, 1) := by decide +kernel
theorem dX9_read_0 : decode cX9_read 0 = .ok (.aload_n 0, 1) := by decide +kernel
theorem dX9_read_1 : decode cX9_read 1 = .ok (.sipush 651, 3) := by decide +kernel
theorem dX9_read_4 : decode cX9_read 4 = .ok (.putfield 58, 3) := by decide +kernel
theorem dX9_read_7 : decode cX9_read 7 = .ok (.iconst 0, 1) := by decide +kernel
theorem dX9_read_8 : decode cX9_read 8 = .ok (.istore_n 1, 1) := by decide +kernel
theorem dX9_read_9 : decode cX9_read 9 = .ok (.iload_n 1, 1) := by decide +kernel
theorem dX9_read_10 : decode cX9_read 10 = .ok (.bipush 6, 2) := by decide +kernel
theorem dX9_read_12 : decode cX9_read 12 = .ok (.if_icmp .ge 15, 3) := by decide +kernel
theorem dX9_read_15 : decode cX9_read 15 = .ok (.aload_n 0, 1) := by decide +kernel
theorem dX9_read_16 : decode cX9_read 16 = .ok (.iload_n 1, 1) := by decide +kernel
theorem dX9_read_17 : decode cX9_read 17 = .ok (.iconst 0, 1) := by decide +kernel
theorem dX9_read_18 : decode cX9_read 18 = .ok (.invokevirtual 73, 3) := by decide +kernel
theorem dX9_read_21 : decode cX9_read 21 = .ok (.iinc 1 1, 3) := by decide +kernel
theorem dX9_read_24 : decode cX9_read 24 = .ok (.goto (-15), 3) := by decide +kernel
theorem dX9_read_27 : decode cX9_read 27 = .ok (.aload_n 0, 1) := by decide +kernel
theorem dX9_read_28 : decode cX9_read 28 = .ok (.iconst 0, 1) := by decide +kernel
theorem dX9_read_29 : decode cX9_read 29 = .ok (.putfield 132, 3) := by decide +kernel
theorem dX9_read_32 : decode cX9_read 32 = .ok (.aload_n 0, 1) := by decide +kernel
theorem dX9_read_33 : decode cX9_read 33 = .ok (.iconst (-1), 1) := by decide +kernel
theorem dX9_read_34 : decode cX9_read 34 = .ok (.putfield 150, 3) := by decide +kernel
theorem dX9_read_37 : decode cX9_read 37 = .ok (.aload_n 0, 1) := by decide +kernel
theorem dX9_read_38 : decode cX9_read 38 = .ok (.iconst (-1), 1) := by decide +kernel
theorem dX9_read_39 : decode cX9_read 39 = .ok (.putfield 156, 3) := by decide +kernel
theorem dX9_read_42 : decode cX9_read 42 = .ok (.iconst 0, 1) := by decide +kernel
theorem dX9_read_43 : decode cX9_read 43 = .ok (.istore_n 1, 1) := by decide +kernel
theorem dX9_read_44 : decode cX9_read 44 = .ok (.aload_n 0, 1) := by decide +kernel
theorem dX9_read_45 : decode cX9_read 45 = .ok (.invokevirtual 153, 3) := by decide +kernel
theorem dX9_read_48 : decode cX9_read 48 = .ok (.aload_n 0, 1) := by decide +kernel
theorem dX9_read_49 : decode cX9_read 49 = .ok (.getfield 150, 3) := by decide +kernel
theorem dX9_read_52 : decode cX9_read 52 = .ok (.iconst (-1), 1) := by decide +kernel
theorem dX9_read_53 : decode cX9_read 53 = .ok (.if_icmp .ne 148, 3) := by decide +kernel
theorem dX9_read_56 : decode cX9_read 56 = .ok (.aload_n 0, 1) := by decide +kernel
theorem dX9_read_57 : decode cX9_read 57 = .ok (.getfield 144, 3) := by decide +kernel
theorem dX9_read_60 : decode cX9_read 60 = .ok (.bipush 7, 2) := by decide +kernel
theorem dX9_read_62 : decode cX9_read 62 = .ok (.if_icmp .eq 139, 3) := by decide +kernel
theorem dX9_read_65 : decode cX9_read 65 = .ok (.aload_n 0, 1) := by decide +kernel
theorem dX9_read_66 : decode cX9_read 66 = .ok (.getfield 144, 3) := by decide +kernel
theorem dX9_read_69 : decode cX9_read 69 = .ok (.istore_n 2, 1) := by decide +kernel
theorem dX9_read_70 : decode cX9_read 70 = .ok (.aload_n 0, 1) := by decide +kernel
theorem dX9_read_71 : decode cX9_read 71 = .ok (.iload_n 2, 1) := by decide +kernel
theorem dX9_read_72 : decode cX9_read 72 = .ok (.iconst 4, 1) := by decide +kernel
theorem dX9_read_73 : decode cX9_read 73 = .ok (.if_icmp .gt 7, 3) := by decide +kernel
theorem dX9_read_76 : decode cX9_read 76 = .ok (.iconst 1, 1) := by decide +kernel
theorem dX9_read_77 : decode cX9_read 77 = .ok (.goto 4, 3) := by decide +kernel
theorem dX9_read_80 : decode cX9_read 80 = .ok (.iconst 0, 1) := by decide +kernel
theorem dX9_read_81 : decode cX9_read 81 = .ok (.invokevirtual 159, 3) := by decide +kernel
theorem dX9_read_84 : decode cX9_read 84 = .ok (.iload_n 2, 1) := by decide +kernel
theorem dX9_read_85 : decode cX9_read 85 = .ok (.iconst 4, 1) := by decide +kernel
theorem dX9_read_86 : decode cX9_read 86 = .ok (.if_icmp .ne 7, 3) := by decide +kernel
theorem dX9_read_89 : decode cX9_read 89 = .ok (.iconst 4, 1) := by decide +kernel
theorem dX9_read_90 : decode cX9_read 90 = .ok (.goto 13, 3) := by decide +kernel
theorem dX9_read_93 : decode cX9_read 93 = .ok (.iload_n 2, 1) := by decide +kernel
theorem dX9_read_94 : decode cX9_read 94 = .ok (.iconst 2, 1) := by decide +kernel
theorem dX9_read_95 : decode cX9_read 95 = .ok (.if_icmp .ge 7, 3) := by decide +kernel
theorem dX9_read_98 : decode cX9_read 98 = .ok (.iconst 3, 1) := by decide +kernel
theorem dX9_read_99 : decode cX9_read 99 = .ok (.goto 4, 3) := by decide +kernel
theorem dX9_read_102 : decode cX9_read 102 = .ok (.iconst 2, 1) := by decide +kernel
theorem dX9_read_103 : decode cX9_read 103 = .ok (.istore_n 3, 1) := by decide +kernel
theorem dX9_read_104 : decode cX9_read 104 = .ok (.iconst 0, 1) := by decide +kernel
theorem dX9_read_105 : decode cX9_read 105 = .ok (.istore 4, 2) := by decide +kernel
theorem dX9_read_107 : decode cX9_read 107 = .ok (.iload 4, 2) := by decide +kernel
theorem dX9_read_109 : decode cX9_read 109 = .ok (.iload_n 3, 1) := by decide +kernel
theorem dX9_read_110 : decode cX9_read 110 = .ok (.if_icmp .ge 37, 3) := by decide +kernel
theorem dX9_read_113 : decode cX9_read 113 = .ok (.aload_n 0, 1) := by decide +kernel
theorem dX9_read_114 : decode cX9_read 114 = .ok (.getfield 24, 3) := by decide +kernel
theorem dX9_read_117 : decode cX9_read 117 = .ok (.iload 4, 2) := by decide +kernel
theorem dX9_read_119 : decode cX9_read 119 = .ok (.aload_n 0, 1) := by decide +kernel
theorem dX9_read_120 : decode cX9_read 120 = .ok (.getfield 141, 3) := by decide +kernel
theorem dX9_read_123 : decode cX9_read 123 = .ok (.iastore, 1) := by decide +kernel
theorem dX9_read_124 : decode cX9_read 124 = .ok (.aload_n 0, 1) := by decide +kernel
theorem dX9_read_125 : decode cX9_read 125 = .ok (.aload_n 0, 1) := by decide +kernel
theorem dX9_read_126 : decode cX9_read 126 = .ok (.getfield 144, 3) := by decide +kernel
theorem dX9_read_129 : decode cX9_read 129 = .ok (.iconst 5, 1) := by decide +kernel
theorem dX9_read_130 : decode cX9_read 130 = .ok (.if_icmp .ne 7, 3) := by decide +kernel
theorem dX9_read_133 : decode cX9_read 133 = .ok (.iconst 1, 1) := by decide +kernel
theorem dX9_read_134 : decode cX9_read 134 = .ok (.goto 4, 3) := by decide +kernel
theorem dX9_read_137 : decode cX9_read 137 = .ok (.iconst 0, 1) := by decide +kernel
theorem dX9_read_138 : decode cX9_read 138 = .ok (.invokevirtual 159, 3) := by decide +kernel
theorem dX9_read_141 : decode cX9_read 141 = .ok (.iinc 4 1, 3) := by decide +kernel
theorem dX9_read_144 : decode cX9_read 144 = .ok (.goto (-37), 3) := by decide +kernel
theorem dX9_read_147 : decode cX9_read 147 = .ok (.aload_n 0, 1) := by decide +kernel
theorem dX9_read_148 : decode cX9_read 148 = .ok (.aload_n 0, 1) := by decide +kernel
theorem dX9_read_149 : decode cX9_read 149 = .ok (.getfield 144, 3) := by decide +kernel
theorem dX9_read_152 : decode cX9_read 152 = .ok (.bipush 6, 2) := by decide +kernel
theorem dX9_read_154 : decode cX9_read 154 = .ok (.if_icmp .ne 7, 3) := by decide +kernel
theorem dX9_read_157 : decode cX9_read 157 = .ok (.iconst 1, 1) := by decide +kernel
theorem dX9_read_158 : decode cX9_read 158 = .ok (.goto 4, 3) := by decide +kernel
theorem dX9_read_161 : decode cX9_read 161 = .ok (.iconst 0, 1) := by decide +kernel
theorem dX9_read_162 : decode cX9_read 162 = .ok (.invokevirtual 159, 3) := by decide +kernel
theorem dX9_read_165 : decode cX9_read 165 = .ok (.aload_n 0, 1) := by decide +kernel
theorem dX9_read_166 : decode cX9_read 166 = .ok (.getfield 150, 3) := by decide +kernel
theorem dX9_read_169 : decode cX9_read 169 = .ok (.iconst (-1), 1) := by decide +kernel
theorem dX9_read_170 : decode cX9_read 170 = .ok (.if_icmp .ne 25, 3) := by decide +kernel
theorem dX9_read_173 : decode cX9_read 173 = .ok (.aload_n 0, 1) := by decide +kernel
theorem dX9_read_174 : decode cX9_read 174 = .ok (.getfield 156, 3) := by decide +kernel
theorem dX9_read_177 : decode cX9_read 177 = .ok (.iconst (-1), 1) := by decide +kernel
theorem dX9_read_178 : decode cX9_read 178 = .ok (.if_icmp .ne 17, 3) := by decide +kernel
theorem dX9_read_181 : decode cX9_read 181 = .ok (.aload_n 0, 1) := by decide +kernel
theorem dX9_read_182 : decode cX9_read 182 = .ok (.iload_n 2, 1) := by decide +kernel
theorem dX9_read_183 : decode cX9_read 183 = .ok (.invokevirtual 163, 3) := by decide +kernel
theorem dX9_read_186 : decode cX9_read 186 = .ok (.iconst (-1), 1) := by decide +kernel
theorem dX9_read_187 : decode cX9_read 187 = .ok (.if_icmp .ge 8, 3) := by decide +kernel
theorem dX9_read_190 : decode cX9_read 190 = .ok (.aload_n 0, 1) := by decide +kernel
theorem dX9_read_191 : decode cX9_read 191 = .ok (.iload_n 1, 1) := by decide +kernel
theorem dX9_read_192 : decode cX9_read 192 = .ok (.putfield 156, 3) := by decide +kernel
theorem dX9_read_195 : decode cX9_read 195 = .ok (.iinc 1 1, 3) := by decide +kernel
theorem dX9_read_198 : decode cX9_read 198 = .ok (.goto (-150), 3) := by decide +kernel
theorem dX9_read_201 : decode cX9_read 201 = .ok (.aload_n 0, 1) := by decide +kernel
theorem dX9_read_202 : decode cX9_read 202 = .ok (.iconst 0, 1) := by decide +kernel
theorem dX9_read_203 : decode cX9_read 203 = .ok (.putfield 58, 3) := by decide +kernel
theorem dX9_read_206 : decode cX9_read 206 = .ok (.aload_n 0, 1) := by decide +kernel
theorem dX9_read_207 : decode cX9_read 207 = .ok (.getfield 150, 3) := by decide +kernel
theorem dX9_read_210 : decode cX9_read 210 = .ok (.iconst (-1), 1) := by decide +kernel
theorem dX9_read_211 : decode cX9_read 211 = .ok (.if_icmp .eq 11, 3) := by decide +kernel
theorem dX9_read_214 : decode cX9_read 214 = .ok (.bipush (-10), 2) := by decide +kernel
theorem dX9_read_216 : decode cX9_read 216 = .ok (.aload_n 0, 1) := by decide +kernel
theorem dX9_read_217 : decode cX9_read 217 = .ok (.getfield 150, 3) := by decide +kernel
theorem dX9_read_220 : decode cX9_read 220 = .ok (.isub, 1) := by decide +kernel
theorem dX9_read_221 : decode cX9_read 221 = .ok (.ireturn, 1) := by decide +kernel
theorem dX9_read_222 : decode cX9_read 222 = .ok (.aload_n 0, 1) := by decide +kernel
theorem dX9_read_223 : decode cX9_read 223 = .ok (.getfield 156, 3) := by decide +kernel
theorem dX9_read_226 : decode cX9_read 226 = .ok (.iconst (-1), 1) := by decide +kernel
theorem dX9_read_227 : decode cX9_read 227 = .ok (.if_icmp .eq 12, 3) := by decide +kernel
theorem dX9_read_230 : decode cX9_read 230 = .ok (.sipush (-1000), 3) := by decide +kernel
theorem dX9_read_233 : decode cX9_read 233 = .ok (.aload_n 0, 1) := by decide +kernel
theorem dX9_read_234 : decode cX9_read 234 = .ok (.getfield 156, 3) := by decide +kernel
theorem dX9_read_237 : decode cX9_read 237 = .ok (.isub, 1) := by decide +kernel
theorem dX9_read_238 : decode cX9_read 238 = .ok (.ireturn, 1) := by decide +kernel
theorem dX9_read_239 : decode cX9_read 239 = .ok (.aload_n 0, 1) := by decide +kernel
theorem dX9_read_240 : decode cX9_read 240 = .ok (.sipush 651, 3) := by decide +kernel
theorem dX9_read_243 : decode cX9_read 243 = .ok (.iconst 0, 1) := by decide +kernel
theorem dX9_read_244 : decode cX9_read 244 = .ok (.invokevirtual 166, 3) := by decide +kernel
theorem dX9_read_247 : decode cX9_read 247 = .ok (.iload_n 1, 1) := by decide +kernel
theorem dX9_read_248 : decode cX9_read 248 = .ok (.ireturn, 1) := by decide +kernel
theorem dX9_manyOf_0 : decode cX9_manyOf 0 = .ok (.iconst 0, 1) := by decide +kernel
theorem dX9_manyOf_1 : decode cX9_manyOf 1 = .ok (.istore_n 1, 1) := by decide +kernel
theorem dX9_manyOf_2 : decode cX9_manyOf 2 = .ok (.iconst 0, 1) := by decide +kernel
theorem dX9_manyOf_3 : decode cX9_manyOf 3 = .ok (.istore_n 2, 1) := by decide +kernel
theorem dX9_manyOf_4 : decode cX9_manyOf 4 = .ok (.iload_n 2, 1) := by decide +kernel
theorem dX9_manyOf_5 : decode cX9_manyOf 5 = .ok (.bipush 7, 2) := by decide +kernel
theorem dX9_manyOf_7 : decode cX9_manyOf 7 = .ok (.if_icmp .ge 17, 3) := by decide +kernel
theorem dX9_manyOf_10 : decode cX9_manyOf 10 = .ok (.iload_n 1, 1) := by decide +kernel
theorem dX9_manyOf_11 : decode cX9_manyOf 11 = .ok (.iload_n 0, 1) := by decide +kernel
theorem dX9_manyOf_12 : decode cX9_manyOf 12 = .ok (.iload_n 2, 1) := by decide +kernel
theorem dX9_manyOf_13 : decode cX9_manyOf 13 = .ok (.ishr, 1) := by decide +kernel
theorem dX9_manyOf_14 : decode cX9_manyOf 14 = .ok (.iconst 1, 1) := by decide +kernel
theorem dX9_manyOf_15 : decode cX9_manyOf 15 = .ok (.iand, 1) := by decide +kernel
theorem dX9_manyOf_16 : decode cX9_manyOf 16 = .ok (.iadd, 1) := by decide +kernel
theorem dX9_manyOf_17 : decode cX9_manyOf 17 = .ok (.istore_n 1, 1) := by decide +kernel
theorem dX9_manyOf_18 : decode cX9_manyOf 18 = .ok (.iinc 2 1, 3) := by decide +kernel
theorem dX9_manyOf_21 : decode cX9_manyOf 21 = .ok (.goto (-17), 3) := by decide +kernel
theorem dX9_manyOf_24 : decode cX9_manyOf 24 = .ok (.iload_n 1, 1) := by decide +kernel
