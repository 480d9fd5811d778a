theorem dX9_nextOrder_131 : decode cX9_nextOrder 131 = .ok (.getfield 45, 3) := by decide +kernel
theorem dX9_nextOrder_134 : decode cX9_nextOrder 134 = .ok (.iload 6, 2) := by decide +kernel
theorem dX9_nextOrder_136 : decode cX9_nextOrder 136 = .ok (.iload 4, 2) := by decide +kernel
theorem dX9_nextOrder_138 : decode cX9_nextOrder 138 = .ok (.iastore, 1) := by decide +kernel
theorem dX9_nextOrder_139 : decode cX9_nextOrder 139 = .ok (.iinc 5 1, 3) := by decide +kernel
theorem dX9_nextOrder_142 : decode cX9_nextOrder 142 = .ok (.iinc 6 (-1), 3) := by decide +kernel
theorem dX9_nextOrder_145 : decode cX9_nextOrder 145 = .ok (.goto (-45), 3) := by decide +kernel
theorem dX9_nextOrder_148 : decode cX9_nextOrder 148 = .ok (.iconst 1, 1) := by decide +kernel
theorem dX9_nextOrder_149 : decode cX9_nextOrder 149 = .ok (.ireturn, 1) := by decide +kernel
theorem dX9_fraction_0 : decode cX9_fraction 0 = .ok (.lload_n 1, 1) := by decide +kernel
theorem dX9_fraction_1 : decode cX9_fraction 1 = .ok (.lstore 5, 2) := by decide +kernel
theorem dX9_fraction_3 : decode cX9_fraction 3 = .ok (.lload_n 3, 1) := by decide +kernel
theorem dX9_fraction_4 : decode cX9_fraction 4 = .ok (.lstore 7, 2) := by decide +kernel
theorem dX9_fraction_6 : decode cX9_fraction 6 = .ok (.lload 7, 2) := by decide +kernel
theorem dX9_fraction_8 : decode cX9_fraction 8 = .ok (.lconst 0, 1) := by decide +kernel
theorem dX9_fraction_9 : decode cX9_fraction 9 = .ok (.lcmp, 1) := by decide +kernel
theorem dX9_fraction_10 : decode cX9_fraction 10 = .ok (.ifCond .eq 21, 3) := by decide +kernel
theorem dX9_fraction_13 : decode cX9_fraction 13 = .ok (.lload 5, 2) := by decide +kernel
theorem dX9_fraction_15 : decode cX9_fraction 15 = .ok (.lload 7, 2) := by decide +kernel
theorem dX9_fraction_17 : decode cX9_fraction 17 = .ok (.lrem, 1) := by decide +kernel
theorem dX9_fraction_18 : decode cX9_fraction 18 = .ok (.lstore 9, 2) := by decide +kernel
theorem dX9_fraction_20 : decode cX9_fraction 20 = .ok (.lload 7, 2) := by decide +kernel
theorem dX9_fraction_22 : decode cX9_fraction 22 = .ok (.lstore 5, 2) := by decide +kernel
theorem dX9_fraction_24 : decode cX9_fraction 24 = .ok (.lload 9, 2) := by decide +kernel
theorem dX9_fraction_26 : decode cX9_fraction 26 = .ok (.lstore 7, 2) := by decide +kernel
theorem dX9_fraction_28 : decode cX9_fraction 28 = .ok (.goto (-22), 3) := by decide +kernel
theorem dX9_fraction_31 : decode cX9_fraction 31 = .ok (.aload_n 0, 1) := by decide +kernel
theorem dX9_fraction_32 : decode cX9_fraction 32 = .ok (.lload_n 1, 1) := by decide +kernel
theorem dX9_fraction_33 : decode cX9_fraction 33 = .ok (.lload 5, 2) := by decide +kernel
theorem dX9_fraction_35 : decode cX9_fraction 35 = .ok (.ldiv, 1) := by decide +kernel
theorem dX9_fraction_36 : decode cX9_fraction 36 = .ok (.putfield 210, 3) := by decide +kernel
theorem dX9_fraction_39 : decode cX9_fraction 39 = .ok (.aload_n 0, 1) := by decide +kernel
theorem dX9_fraction_40 : decode cX9_fraction 40 = .ok (.lload_n 3, 1) := by decide +kernel
theorem dX9_fraction_41 : decode cX9_fraction 41 = .ok (.lload 5, 2) := by decide +kernel
theorem dX9_fraction_43 : decode cX9_fraction 43 = .ok (.ldiv, 1) := by decide +kernel
theorem dX9_fraction_44 : decode cX9_fraction 44 = .ok (.putfield 54, 3) := by decide +kernel
theorem dX9_fraction_47 : decode cX9_fraction 47 = .ok (.return_, 1) := by decide +kernel
theorem dX9_meanBy_0 : decode cX9_meanBy 0 = .ok (.lconst 1, 1) := by decide +kernel
theorem dX9_meanBy_1 : decode cX9_meanBy 1 = .ok (.lstore_n 2, 1) := by decide +kernel
theorem dX9_meanBy_2 : decode cX9_meanBy 2 = .ok (.iconst 0, 1) := by decide +kernel
theorem dX9_meanBy_3 : decode cX9_meanBy 3 = .ok (.istore 4, 2) := by decide +kernel
theorem dX9_meanBy_5 : decode cX9_meanBy 5 = .ok (.iload 4, 2) := by decide +kernel
theorem dX9_meanBy_7 : decode cX9_meanBy 7 = .ok (.iload_n 1, 1) := by decide +kernel
theorem dX9_meanBy_8 : decode cX9_meanBy 8 = .ok (.if_icmp .ge 15, 3) := by decide +kernel
theorem dX9_meanBy_11 : decode cX9_meanBy 11 = .ok (.lload_n 2, 1) := by decide +kernel
theorem dX9_meanBy_12 : decode cX9_meanBy 12 = .ok (.ldc2_w 213, 3) := by decide +kernel
theorem dX9_meanBy_15 : decode cX9_meanBy 15 = .ok (.lmul, 1) := by decide +kernel
theorem dX9_meanBy_16 : decode cX9_meanBy 16 = .ok (.lstore_n 2, 1) := by decide +kernel
theorem dX9_meanBy_17 : decode cX9_meanBy 17 = .ok (.iinc 4 1, 3) := by decide +kernel
theorem dX9_meanBy_20 : decode cX9_meanBy 20 = .ok (.goto (-15), 3) := by decide +kernel
theorem dX9_meanBy_23 : decode cX9_meanBy 23 = .ok (.lconst 0, 1) := by decide +kernel
theorem dX9_meanBy_24 : decode cX9_meanBy 24 = .ok (.lstore 4, 2) := by decide +kernel
theorem dX9_meanBy_26 : decode cX9_meanBy 26 = .ok (.lload_n 2, 1) := by decide +kernel
theorem dX9_meanBy_27 : decode cX9_meanBy 27 = .ok (.lstore 6, 2) := by decide +kernel
theorem dX9_meanBy_29 : decode cX9_meanBy 29 = .ok (.iconst 0, 1) := by decide +kernel
theorem dX9_meanBy_30 : decode cX9_meanBy 30 = .ok (.istore 8, 2) := by decide +kernel
theorem dX9_meanBy_32 : decode cX9_meanBy 32 = .ok (.iload 8, 2) := by decide +kernel
theorem dX9_meanBy_34 : decode cX9_meanBy 34 = .ok (.iload_n 1, 1) := by decide +kernel
theorem dX9_meanBy_35 : decode cX9_meanBy 35 = .ok (.if_icmp .ge 41, 3) := by decide +kernel
theorem dX9_meanBy_38 : decode cX9_meanBy 38 = .ok (.lload 4, 2) := by decide +kernel
theorem dX9_meanBy_40 : decode cX9_meanBy 40 = .ok (.lload 6, 2) := by decide +kernel
theorem dX9_meanBy_42 : decode cX9_meanBy 42 = .ok (.ladd, 1) := by decide +kernel
theorem dX9_meanBy_43 : decode cX9_meanBy 43 = .ok (.lstore 4, 2) := by decide +kernel
theorem dX9_meanBy_45 : decode cX9_meanBy 45 = .ok (.lload 6, 2) := by decide +kernel
theorem dX9_meanBy_47 : decode cX9_meanBy 47 = .ok (.ldc2_w 213, 3) := by decide +kernel
theorem dX9_meanBy_50 : decode cX9_meanBy 50 = .ok (.ldiv, 1) := by decide +kernel
theorem dX9_meanBy_51 : decode cX9_meanBy 51 = .ok (.bipush 10, 2) := by decide +kernel
theorem dX9_meanBy_53 : decode cX9_meanBy 53 = .ok (.aload_n 0, 1) := by decide +kernel
theorem dX9_meanBy_54 : decode cX9_meanBy 54 = .ok (.aload_n 0, 1) := by decide +kernel
theorem dX9_meanBy_55 : decode cX9_meanBy 55 = .ok (.getfield 45, 3) := by decide +kernel
theorem dX9_meanBy_58 : decode cX9_meanBy 58 = .ok (.iload 8, 2) := by decide +kernel
theorem dX9_meanBy_60 : decode cX9_meanBy 60 = .ok (.iaload, 1) := by decide +kernel
theorem dX9_meanBy_61 : decode cX9_meanBy 61 = .ok (.iconst 3, 1) := by decide +kernel
theorem dX9_meanBy_62 : decode cX9_meanBy 62 = .ok (.invokevirtual 84, 3) := by decide +kernel
theorem dX9_meanBy_65 : decode cX9_meanBy 65 = .ok (.isub, 1) := by decide +kernel
theorem dX9_meanBy_66 : decode cX9_meanBy 66 = .ok (.i2l, 1) := by decide +kernel
theorem dX9_meanBy_67 : decode cX9_meanBy 67 = .ok (.lmul, 1) := by decide +kernel
theorem dX9_meanBy_68 : decode cX9_meanBy 68 = .ok (.lstore 6, 2) := by decide +kernel
theorem dX9_meanBy_70 : decode cX9_meanBy 70 = .ok (.iinc 8 1, 3) := by decide +kernel
theorem dX9_meanBy_73 : decode cX9_meanBy 73 = .ok (.goto (-41), 3) := by decide +kernel
theorem dX9_meanBy_76 : decode cX9_meanBy 76 = .ok (.lload 4, 2) := by decide +kernel
theorem dX9_meanBy_78 : decode cX9_meanBy 78 = .ok (.lreturn, 1) := by decide +kernel
theorem dX9_tries_0 : decode cX9_tries 0 = .ok (.iload_n 1, 1) := by decide +kernel
theorem dX9_tries_1 : decode cX9_tries 1 = .ok (.iconst (-1), 1) := by decide +kernel
theorem dX9_tries_2 : decode cX9_tries 2 = .ok (.if_icmp .ge 8, 3) := by decide +kernel
theorem dX9_tries_5 : decode cX9_tries 5 = .ok (.aload_n 0, 1) := by decide +kernel
theorem dX9_tries_6 : decode cX9_tries 6 = .ok (.invokevirtual 118, 3) := by decide +kernel
theorem dX9_tries_9 : decode cX9_tries 9 = .ok (.ireturn, 1) := by decide +kernel
theorem dX9_tries_10 : decode cX9_tries 10 = .ok (.aload_n 0, 1) := by decide +kernel
theorem dX9_tries_11 : decode cX9_tries 11 = .ok (.iconst 1, 1) := by decide +kernel
theorem dX9_tries_12 : decode cX9_tries 12 = .ok (.invokevirtual 62, 3) := by decide +kernel
theorem dX9_tries_15 : decode cX9_tries 15 = .ok (.istore_n 2, 1) := by decide +kernel
theorem dX9_tries_16 : decode cX9_tries 16 = .ok (.iload_n 1, 1) := by decide +kernel
theorem dX9_tries_17 : decode cX9_tries 17 = .ok (.iload_n 2, 1) := by decide +kernel
theorem dX9_tries_18 : decode cX9_tries 18 = .ok (.if_icmp .lt 6, 3) := by decide +kernel
theorem dX9_tries_21 : decode cX9_tries 21 = .ok (.bipush (-5), 2) := by decide +kernel
theorem dX9_tries_23 : decode cX9_tries 23 = .ok (.ireturn, 1) := by decide +kernel
theorem dX9_tries_24 : decode cX9_tries 24 = .ok (.aload_n 0, 1) := by decide +kernel
theorem dX9_tries_25 : decode cX9_tries 25 = .ok (.iload_n 2, 1) := by decide +kernel
theorem dX9_tries_26 : decode cX9_tries 26 = .ok (.invokevirtual 215, 3) := by decide +kernel
theorem dX9_tries_29 : decode cX9_tries 29 = .ok (.ldc2_w 218, 3) := by decide +kernel
theorem dX9_tries_32 : decode cX9_tries 32 = .ok (.lstore_n 3, 1) := by decide +kernel
theorem dX9_tries_33 : decode cX9_tries 33 = .ok (.iconst 1, 1) := by decide +kernel
theorem dX9_tries_34 : decode cX9_tries 34 = .ok (.istore 5, 2) := by decide +kernel
theorem dX9_tries_36 : decode cX9_tries 36 = .ok (.iload 5, 2) := by decide +kernel
theorem dX9_tries_38 : decode cX9_tries 38 = .ok (.ifCond .eq 65, 3) := by decide +kernel
theorem dX9_tries_41 : decode cX9_tries 41 = .ok (.aload_n 0, 1) := by decide +kernel
theorem dX9_tries_42 : decode cX9_tries 42 = .ok (.iload_n 2, 1) := by decide +kernel
theorem dX9_tries_43 : decode cX9_tries 43 = .ok (.invokevirtual 220, 3) := by decide +kernel
theorem dX9_tries_46 : decode cX9_tries 46 = .ok (.lstore 6, 2) := by decide +kernel
theorem dX9_tries_48 : decode cX9_tries 48 = .ok (.lload_n 3, 1) := by decide +kernel
theorem dX9_tries_49 : decode cX9_tries 49 = .ok (.lconst 0, 1) := by decide +kernel
theorem dX9_tries_50 : decode cX9_tries 50 = .ok (.lcmp, 1) := by decide +kernel
theorem dX9_tries_51 : decode cX9_tries 51 = .ok (.ifCond .lt 10, 3) := by decide +kernel
theorem dX9_tries_54 : decode cX9_tries 54 = .ok (.lload 6, 2) := by decide +kernel
theorem dX9_tries_56 : decode cX9_tries 56 = .ok (.lload_n 3, 1) := by decide +kernel
theorem dX9_tries_57 : decode cX9_tries 57 = .ok (.lcmp, 1) := by decide +kernel
theorem dX9_tries_58 : decode cX9_tries 58 = .ok (.ifCond .ge 35, 3) := by decide +kernel
theorem dX9_tries_61 : decode cX9_tries 61 = .ok (.lload 6, 2) := by decide +kernel
theorem dX9_tries_63 : decode cX9_tries 63 = .ok (.lstore_n 3, 1) := by decide +kernel
theorem dX9_tries_64 : decode cX9_tries 64 = .ok (.iconst 0, 1) := by decide +kernel
theorem dX9_tries_65 : decode cX9_tries 65 = .ok (.istore 8, 2) := by decide +kernel
theorem dX9_tries_67 : decode cX9_tries 67 = .ok (.iload 8, 2) := by decide +kernel
theorem dX9_tries_69 : decode cX9_tries 69 = .ok (.iload_n 2, 1) := by decide +kernel
theorem dX9_tries_70 : decode cX9_tries 70 = .ok (.if_icmp .ge 23, 3) := by decide +kernel
theorem dX9_tries_73 : decode cX9_tries 73 = .ok (.aload_n 0, 1) := by decide +kernel
theorem dX9_tries_74 : decode cX9_tries 74 = .ok (.getfield 48, 3) := by decide +kernel
theorem dX9_tries_77 : decode cX9_tries 77 = .ok (.iload 8, 2) := by decide +kernel
theorem dX9_tries_79 : decode cX9_tries 79 = .ok (.aload_n 0, 1) := by decide +kernel
theorem dX9_tries_80 : decode cX9_tries 80 = .ok (.getfield 45, 3) := by decide +kernel
theorem dX9_tries_83 : decode cX9_tries 83 = .ok (.iload 8, 2) := by decide +kernel
theorem dX9_tries_85 : decode cX9_tries 85 = .ok (.iaload, 1) := by decide +kernel
theorem dX9_tries_86 : decode cX9_tries 86 = .ok (.iastore, 1) := by decide +kernel
theorem dX9_tries_87 : decode cX9_tries 87 = .ok (.iinc 8 1, 3) := by decide +kernel
theorem dX9_tries_90 : decode cX9_tries 90 = .ok (.goto (-23), 3) := by decide +kernel
theorem dX9_tries_93 : decode cX9_tries 93 = .ok (.aload_n 0, 1) := by decide +kernel
theorem dX9_tries_94 : decode cX9_tries 94 = .ok (.iload_n 2, 1) := by decide +kernel
theorem dX9_tries_95 : decode cX9_tries 95 = .ok (.invokevirtual 224, 3) := by decide +kernel
theorem dX9_tries_98 : decode cX9_tries 98 = .ok (.istore 5, 2) := by decide +kernel
theorem dX9_tries_100 : decode cX9_tries 100 = .ok (.goto (-64), 3) := by decide +kernel
theorem dX9_tries_103 : decode cX9_tries 103 = .ok (.iload_n 1, 1) := by decide +kernel
theorem dX9_tries_104 : decode cX9_tries 104 = .ok (.ifCond .lt 10, 3) := by decide +kernel
theorem dX9_tries_107 : decode cX9_tries 107 = .ok (.aload_n 0, 1) := by decide +kernel
theorem dX9_tries_108 : decode cX9_tries 108 = .ok (.getfield 48, 3) := by decide +kernel
theorem dX9_tries_111 : decode cX9_tries 111 = .ok (.iload_n 1, 1) := by decide +kernel
theorem dX9_tries_112 : decode cX9_tries 112 = .ok (.iaload, 1) := by decide +kernel
theorem dX9_tries_113 : decode cX9_tries 113 = .ok (.ireturn, 1) := by decide +kernel
theorem dX9_tries_114 : decode cX9_tries 114 = .ok (.lconst 1, 1) := by decide +kernel
theorem dX9_tries_115 : decode cX9_tries 115 = .ok (.lstore 6, 2) := by decide +kernel
theorem dX9_tries_117 : decode cX9_tries 117 = .ok (.iconst 0, 1) := by decide +kernel
theorem dX9_tries_118 : decode cX9_tries 118 = .ok (.istore 8, 2) := by decide +kernel
theorem dX9_tries_120 : decode cX9_tries 120 = .ok (.iload 8, 2) := by decide +kernel
theorem dX9_tries_122 : decode cX9_tries 122 = .ok (.iload_n 2, 1) := by decide +kernel
theorem dX9_tries_123 : decode cX9_tries 123 = .ok (.if_icmp .ge 17, 3) := by decide +kernel
theorem dX9_tries_126 : decode cX9_tries 126 = .ok (.lload 6, 2) := by decide +kernel
theorem dX9_tries_128 : decode cX9_tries 128 = .ok (.ldc2_w 213, 3) := by decide +kernel
theorem dX9_tries_131 : decode cX9_tries 131 = .ok (.lmul, 1) := by decide +kernel
theorem dX9_tries_132 : decode cX9_tries 132 = .ok (.lstore 6, 2) := by decide +kernel
theorem dX9_tries_134 : decode cX9_tries 134 = .ok (.iinc 8 1, 3) := by decide +kernel
theorem dX9_tries_137 : decode cX9_tries 137 = .ok (.goto (-17), 3) := by decide +kernel
theorem dX9_tries_140 : decode cX9_tries 140 = .ok (.aload_n 0, 1) := by decide +kernel
theorem dX9_tries_141 : decode cX9_tries 141 = .ok (.lload_n 3, 1) := by decide +kernel
theorem dX9_tries_142 : decode cX9_tries 142 = .ok (.lload 6, 2) := by decide +kernel
theorem dX9_tries_144 : decode cX9_tries 144 = .ok (.invokevirtual 227, 3) := by decide +kernel
theorem dX9_tries_147 : decode cX9_tries 147 = .ok (.iconst 1, 1) := by decide +kernel
theorem dX9_tries_148 : decode cX9_tries 148 = .ok (.ireturn, 1) := by decide +kernel
theorem dX9_nuts_0 : decode cX9_nuts 0 = .ok (.iload_n 1, 1) := by decide +kernel
theorem dX9_nuts_1 : decode cX9_nuts 1 = .ok (.iconst 1, 1) := by decide +kernel
theorem dX9_nuts_2 : decode cX9_nuts 2 = .ok (.bipush 6, 2) := by decide +kernel
theorem dX9_nuts_4 : decode cX9_nuts 4 = .ok (.invokestatic 66, 3) := by decide +kernel
theorem dX9_nuts_7 : decode cX9_nuts 7 = .ok (.ifCond .eq 12, 3) := by decide +kernel
theorem dX9_nuts_10 : decode cX9_nuts 10 = .ok (.iload_n 2, 1) := by decide +kernel
theorem dX9_nuts_11 : decode cX9_nuts 11 = .ok (.iconst 0, 1) := by decide +kernel
theorem dX9_nuts_12 : decode cX9_nuts 12 = .ok (.iconst 2, 1) := by decide +kernel
theorem dX9_nuts_13 : decode cX9_nuts 13 = .ok (.invokestatic 66, 3) := by decide +kernel
theorem dX9_nuts_16 : decode cX9_nuts 16 = .ok (.ifCond .ne 10, 3) := by decide +kernel
theorem dX9_nuts_19 : decode cX9_nuts 19 = .ok (.aload_n 0, 1) := by decide +kernel
theorem dX9_nuts_20 : decode cX9_nuts 20 = .ok (.bipush (-2), 2) := by decide +kernel
theorem dX9_nuts_22 : decode cX9_nuts 22 = .ok (.invokevirtual 70, 3) := by decide +kernel
theorem dX9_nuts_25 : decode cX9_nuts 25 = .ok (.ireturn, 1) := by decide +kernel
theorem dX9_nuts_26 : decode cX9_nuts 26 = .ok (.iconst 0, 1) := by decide +kernel
theorem dX9_nuts_27 : decode cX9_nuts 27 = .ok (.istore_n 3, 1) := by decide +kernel
theorem dX9_nuts_28 : decode cX9_nuts 28 = .ok (.iconst 0, 1) := by decide +kernel
theorem dX9_nuts_29 : decode cX9_nuts 29 = .ok (.istore 4, 2) := by decide +kernel
theorem dX9_nuts_31 : decode cX9_nuts 31 = .ok (.lconst 0, 1) := by decide +kernel
theorem dX9_nuts_32 : decode cX9_nuts 32 = .ok (.lstore 5, 2) := by decide +kernel
theorem dX9_nuts_34 : decode cX9_nuts 34 = .ok (.aload_n 0, 1) := by decide +kernel
theorem dX9_nuts_35 : decode cX9_nuts 35 = .ok (.iload_n 1, 1) := by decide +kernel
theorem dX9_nuts_36 : decode cX9_nuts 36 = .ok (.invokevirtual 215, 3) := by decide +kernel
theorem dX9_nuts_39 : decode cX9_nuts 39 = .ok (.iconst 1, 1) := by decide +kernel
theorem dX9_nuts_40 : decode cX9_nuts 40 = .ok (.istore 7, 2) := by decide +kernel
theorem dX9_nuts_42 : decode cX9_nuts 42 = .ok (.iload 7, 2) := by decide +kernel
theorem dX9_nuts_44 : decode cX9_nuts 44 = .ok (.ifCond .eq 131, 3) := by decide +kernel
theorem dX9_nuts_47 : decode cX9_nuts 47 = .ok (.iconst 0, 1) := by decide +kernel
theorem dX9_nuts_48 : decode cX9_nuts 48 = .ok (.istore 8, 2) := by decide +kernel
theorem dX9_nuts_50 : decode cX9_nuts 50 = .ok (.iconst 0, 1) := by decide +kernel
theorem dX9_nuts_51 : decode cX9_nuts 51 = .ok (.istore 9, 2) := by decide +kernel
theorem dX9_nuts_53 : decode cX9_nuts 53 = .ok (.iload 9, 2) := by decide +kernel
theorem dX9_nuts_55 : decode cX9_nuts 55 = .ok (.iload_n 1, 1) := by decide +kernel
theorem dX9_nuts_56 : decode cX9_nuts 56 = .ok (.if_icmp .ge 82, 3) := by decide +kernel
theorem dX9_nuts_59 : decode cX9_nuts 59 = .ok (.iconst 0, 1) := by decide +kernel
theorem dX9_nuts_60 : decode cX9_nuts 60 = .ok (.istore 10, 2) := by decide +kernel
theorem dX9_nuts_62 : decode cX9_nuts 62 = .ok (.iload 9, 2) := by decide +kernel
theorem dX9_nuts_64 : decode cX9_nuts 64 = .ok (.iconst 1, 1) := by decide +kernel
theorem dX9_nuts_65 : decode cX9_nuts 65 = .ok (.iadd, 1) := by decide +kernel
theorem dX9_nuts_66 : decode cX9_nuts 66 = .ok (.istore 11, 2) := by decide +kernel
theorem dX9_nuts_68 : decode cX9_nuts 68 = .ok (.iload 11, 2) := by decide +kernel
theorem dX9_nuts_70 : decode cX9_nuts 70 = .ok (.iload_n 1, 1) := by decide +kernel
theorem dX9_nuts_71 : decode cX9_nuts 71 = .ok (.if_icmp .ge 36, 3) := by decide +kernel
theorem dX9_nuts_74 : decode cX9_nuts 74 = .ok (.iload 10, 2) := by decide +kernel
theorem dX9_nuts_76 : decode cX9_nuts 76 = .ok (.aload_n 0, 1) := by decide +kernel
theorem dX9_nuts_77 : decode cX9_nuts 77 = .ok (.getfield 45, 3) := by decide +kernel
theorem dX9_nuts_80 : decode cX9_nuts 80 = .ok (.iload 11, 2) := by decide +kernel
theorem dX9_nuts_82 : decode cX9_nuts 82 = .ok (.iaload, 1) := by decide +kernel
theorem dX9_nuts_83 : decode cX9_nuts 83 = .ok (.aload_n 0, 1) := by decide +kernel
theorem dX9_nuts_84 : decode cX9_nuts 84 = .ok (.getfield 45, 3) := by decide +kernel
theorem dX9_nuts_87 : decode cX9_nuts 87 = .ok (.iload 9, 2) := by decide +kernel
theorem dX9_nuts_89 : decode cX9_nuts 89 = .ok (.iaload, 1) := by decide +kernel
theorem dX9_nuts_90 : decode cX9_nuts 90 = .ok (.if_icmp .ge 7, 3) := by decide +kernel
theorem dX9_nuts_93 : decode cX9_nuts 93 = .ok (.iconst 1, 1) := by decide +kernel
theorem dX9_nuts_94 : decode cX9_nuts 94 = .ok (.goto 4, 3) := by decide +kernel
theorem dX9_nuts_97 : decode cX9_nuts 97 = .ok (.iconst 0, 1) := by decide +kernel
theorem dX9_nuts_98 : decode cX9_nuts 98 = .ok (.iadd, 1) := by decide +kernel
theorem dX9_nuts_99 : decode cX9_nuts 99 = .ok (.istore 10, 2) := by decide +kernel
theorem dX9_nuts_101 : decode cX9_nuts 101 = .ok (.iinc 11 1, 3) := by decide +kernel
theorem dX9_nuts_104 : decode cX9_nuts 104 = .ok (.goto (-36), 3) := by decide +kernel
theorem dX9_nuts_107 : decode cX9_nuts 107 = .ok (.iload 8, 2) := by decide +kernel
theorem dX9_nuts_109 : decode cX9_nuts 109 = .ok (.iload 10, 2) := by decide +kernel
theorem dX9_nuts_111 : decode cX9_nuts 111 = .ok (.iload_n 1, 1) := by decide +kernel
theorem dX9_nuts_112 : decode cX9_nuts 112 = .ok (.iconst 1, 1) := by decide +kernel
theorem dX9_nuts_113 : decode cX9_nuts 113 = .ok (.isub, 1) := by decide +kernel
theorem dX9_nuts_114 : decode cX9_nuts 114 = .ok (.iload 9, 2) := by decide +kernel
theorem dX9_nuts_116 : decode cX9_nuts 116 = .ok (.isub, 1) := by decide +kernel
theorem dX9_nuts_117 : decode cX9_nuts 117 = .ok (.if_icmp .ne 8, 3) := by decide +kernel
theorem dX9_nuts_120 : decode cX9_nuts 120 = .ok (.iload 10, 2) := by decide +kernel
theorem dX9_nuts_122 : decode cX9_nuts 122 = .ok (.goto 7, 3) := by decide +kernel
theorem dX9_nuts_125 : decode cX9_nuts 125 = .ok (.iload 10, 2) := by decide +kernel
theorem dX9_nuts_127 : decode cX9_nuts 127 = .ok (.iconst 1, 1) := by decide +kernel
theorem dX9_nuts_128 : decode cX9_nuts 128 = .ok (.iadd, 1) := by decide +kernel
theorem dX9_nuts_129 : decode cX9_nuts 129 = .ok (.iadd, 1) := by decide +kernel
theorem dX9_nuts_130 : decode cX9_nuts 130 = .ok (.istore 8, 2) := by decide +kernel
theorem dX9_nuts_132 : decode cX9_nuts 132 = .ok (.iinc 9 1, 3) := by decide +kernel
theorem dX9_nuts_135 : decode cX9_nuts 135 = .ok (.goto (-82), 3) := by decide +kernel
theorem dX9_nuts_138 : decode cX9_nuts 138 = .ok (.iinc 3 1, 3) := by decide +kernel
theorem dX9_nuts_141 : decode cX9_nuts 141 = .ok (.iload 8, 2) := by decide +kernel
theorem dX9_nuts_143 : decode cX9_nuts 143 = .ok (.iload 4, 2) := by decide +kernel
theorem dX9_nuts_145 : decode cX9_nuts 145 = .ok (.if_icmp .le 8, 3) := by decide +kernel
theorem dX9_nuts_148 : decode cX9_nuts 148 = .ok (.iload 8, 2) := by decide +kernel
theorem dX9_nuts_150 : decode cX9_nuts 150 = .ok (.goto 5, 3) := by decide +kernel
theorem dX9_nuts_153 : decode cX9_nuts 153 = .ok (.iload 4, 2) := by decide +kernel
theorem dX9_nuts_155 : decode cX9_nuts 155 = .ok (.istore 4, 2) := by decide +kernel
theorem dX9_nuts_157 : decode cX9_nuts 157 = .ok (.lload 5, 2) := by decide +kernel
theorem dX9_nuts_159 : decode cX9_nuts 159 = .ok (.iload 8, 2) := by decide +kernel
theorem dX9_nuts_161 : decode cX9_nuts 161 = .ok (.i2l, 1) := by decide +kernel
theorem dX9_nuts_162 : decode cX9_nuts 162 = .ok (.ladd, 1) := by decide +kernel
theorem dX9_nuts_163 : decode cX9_nuts 163 = .ok (.lstore 5, 2) := by decide +kernel
theorem dX9_nuts_165 : decode cX9_nuts 165 = .ok (.aload_n 0, 1) := by decide +kernel
theorem dX9_nuts_166 : decode cX9_nuts 166 = .ok (.iload_n 1, 1) := by decide +kernel
theorem dX9_nuts_167 : decode cX9_nuts 167 = .ok (.invokevirtual 224, 3) := by decide +kernel
theorem dX9_nuts_170 : decode cX9_nuts 170 = .ok (.istore 7, 2) := by decide +kernel
theorem dX9_nuts_172 : decode cX9_nuts 172 = .ok (.goto (-130), 3) := by decide +kernel
theorem dX9_nuts_175 : decode cX9_nuts 175 = .ok (.iload_n 2, 1) := by decide +kernel
theorem dX9_nuts_176 : decode cX9_nuts 176 = .ok (.iconst 2, 1) := by decide +kernel
theorem dX9_nuts_177 : decode cX9_nuts 177 = .ok (.if_icmp .ne 13, 3) := by decide +kernel
theorem dX9_nuts_180 : decode cX9_nuts 180 = .ok (.aload_n 0, 1) := by decide +kernel
theorem dX9_nuts_181 : decode cX9_nuts 181 = .ok (.lload 5, 2) := by decide +kernel
theorem dX9_nuts_183 : decode cX9_nuts 183 = .ok (.iload_n 3, 1) := by decide +kernel
theorem dX9_nuts_184 : decode cX9_nuts 184 = .ok (.i2l, 1) := by decide +kernel
theorem dX9_nuts_185 : decode cX9_nuts 185 = .ok (.invokevirtual 227, 3) := by decide +kernel
theorem dX9_nuts_188 : decode cX9_nuts 188 = .ok (.iconst 1, 1) := by decide +kernel
theorem dX9_nuts_189 : decode cX9_nuts 189 = .ok (.ireturn, 1) := by decide +kernel
theorem dX9_nuts_190 : decode cX9_nuts 190 = .ok (.iload_n 2, 1) := by decide +kernel
theorem dX9_nuts_191 : decode cX9_nuts 191 = .ok (.ifCond .ne 7, 3) := by decide +kernel
theorem dX9_nuts_194 : decode cX9_nuts 194 = .ok (.iload_n 3, 1) := by decide +kernel
theorem dX9_nuts_195 : decode cX9_nuts 195 = .ok (.goto 5, 3) := by decide +kernel
theorem dX9_nuts_198 : decode cX9_nuts 198 = .ok (.iload 4, 2) := by decide +kernel
theorem dX9_nuts_200 : decode cX9_nuts 200 = .ok (.ireturn, 1) := by decide +kernel
theorem dX9_lend_0 : decode cX9_lend 0 = .ok (.iload_n 1, 1) := by decide +kernel
theorem dX9_lend_1 : decode cX9_lend 1 = .ok (.iconst 0, 1) := by decide +kernel
theorem dX9_lend_2 : decode cX9_lend 2 = .ok (.iconst 4, 1) := by decide +kernel
theorem dX9_lend_3 : decode cX9_lend 3 = .ok (.invokestatic 66, 3) := by decide +kernel
theorem dX9_lend_6 : decode cX9_lend 6 = .ok (.ifCond .eq 25, 3) := by decide +kernel
theorem dX9_lend_9 : decode cX9_lend 9 = .ok (.aload_n 0, 1) := by decide +kernel
theorem dX9_lend_10 : decode cX9_lend 10 = .ok (.iload_n 2, 1) := by decide +kernel
theorem dX9_lend_11 : decode cX9_lend 11 = .ok (.invokevirtual 91, 3) := by decide +kernel
theorem dX9_lend_14 : decode cX9_lend 14 = .ok (.ifCond .eq 17, 3) := by decide +kernel
theorem dX9_lend_17 : decode cX9_lend 17 = .ok (.iload_n 3, 1) := by decide +kernel
theorem dX9_lend_18 : decode cX9_lend 18 = .ok (.iconst 0, 1) := by decide +kernel
theorem dX9_lend_19 : decode cX9_lend 19 = .ok (.iconst 4, 1) := by decide +kernel
theorem dX9_lend_20 : decode cX9_lend 20 = .ok (.invokestatic 66, 3) := by decide +kernel
theorem dX9_lend_23 : decode cX9_lend 23 = .ok (.ifCond .eq 8, 3) := by decide +kernel
theorem dX9_lend_26 : decode cX9_lend 26 = .ok (.iload_n 1, 1) := by decide +kernel
theorem dX9_lend_27 : decode cX9_lend 27 = .ok (.iload_n 3, 1) := by decide +kernel
theorem dX9_lend_28 : decode cX9_lend 28 = .ok (.if_icmp .ne 10, 3) := by decide +kernel
theorem dX9_lend_31 : decode cX9_lend 31 = .ok (.aload_n 0, 1) := by decide +kernel
theorem dX9_lend_32 : decode cX9_lend 32 = .ok (.bipush (-2), 2) := by decide +kernel
theorem dX9_lend_34 : decode cX9_lend 34 = .ok (.invokevirtual 70, 3) := by decide +kernel
theorem dX9_lend_37 : decode cX9_lend 37 = .ok (.ireturn, 1) := by decide +kernel
theorem dX9_lend_38 : decode cX9_lend 38 = .ok (.aload_n 0, 1) := by decide +kernel
theorem dX9_lend_39 : decode cX9_lend 39 = .ok (.iconst 3, 1) := by decide +kernel
theorem dX9_lend_40 : decode cX9_lend 40 = .ok (.invokevirtual 62, 3) := by decide +kernel
theorem dX9_lend_43 : decode cX9_lend 43 = .ok (.istore 4, 2) := by decide +kernel
theorem dX9_lend_45 : decode cX9_lend 45 = .ok (.iload 4, 2) := by decide +kernel
theorem dX9_lend_47 : decode cX9_lend 47 = .ok (.bipush 8, 2) := by decide +kernel
theorem dX9_lend_49 : decode cX9_lend 49 = .ok (.if_icmp .ne 10, 3) := by decide +kernel
theorem dX9_lend_52 : decode cX9_lend 52 = .ok (.aload_n 0, 1) := by decide +kernel
theorem dX9_lend_53 : decode cX9_lend 53 = .ok (.bipush (-4), 2) := by decide +kernel
theorem dX9_lend_55 : decode cX9_lend 55 = .ok (.invokevirtual 70, 3) := by decide +kernel
theorem dX9_lend_58 : decode cX9_lend 58 = .ok (.ireturn, 1) := by decide +kernel
theorem dX9_lend_59 : decode cX9_lend 59 = .ok (.aload_n 0, 1) := by decide +kernel
theorem dX9_lend_60 : decode cX9_lend 60 = .ok (.bipush 85, 2) := by decide +kernel
theorem dX9_lend_62 : decode cX9_lend 62 = .ok (.iconst 3, 1) := by decide +kernel
theorem dX9_lend_63 : decode cX9_lend 63 = .ok (.iload 4, 2) := by decide +kernel
theorem dX9_lend_65 : decode cX9_lend 65 = .ok (.imul, 1) := by decide +kernel
theorem dX9_lend_66 : decode cX9_lend 66 = .ok (.iadd, 1) := by decide +kernel
theorem dX9_lend_67 : decode cX9_lend 67 = .ok (.iload_n 1, 1) := by decide +kernel
theorem dX9_lend_68 : decode cX9_lend 68 = .ok (.invokevirtual 73, 3) := by decide +kernel
theorem dX9_lend_71 : decode cX9_lend 71 = .ok (.aload_n 0, 1) := by decide +kernel
theorem dX9_lend_72 : decode cX9_lend 72 = .ok (.bipush 85, 2) := by decide +kernel
theorem dX9_lend_74 : decode cX9_lend 74 = .ok (.iconst 3, 1) := by decide +kernel
theorem dX9_lend_75 : decode cX9_lend 75 = .ok (.iload 4, 2) := by decide +kernel
theorem dX9_lend_77 : decode cX9_lend 77 = .ok (.imul, 1) := by decide +kernel
theorem dX9_lend_78 : decode cX9_lend 78 = .ok (.iadd, 1) := by decide +kernel
theorem dX9_lend_79 : decode cX9_lend 79 = .ok (.iconst 1, 1) := by decide +kernel
theorem dX9_lend_80 : decode cX9_lend 80 = .ok (.iadd, 1) := by decide +kernel
theorem dX9_lend_81 : decode cX9_lend 81 = .ok (.iload_n 2, 1) := by decide +kernel
theorem dX9_lend_82 : decode cX9_lend 82 = .ok (.invokevirtual 73, 3) := by decide +kernel
theorem dX9_lend_85 : decode cX9_lend 85 = .ok (.aload_n 0, 1) := by decide +kernel
theorem dX9_lend_86 : decode cX9_lend 86 = .ok (.bipush 85, 2) := by decide +kernel
theorem dX9_lend_88 : decode cX9_lend 88 = .ok (.iconst 3, 1) := by decide +kernel
theorem dX9_lend_89 : decode cX9_lend 89 = .ok (.iload 4, 2) := by decide +kernel
theorem dX9_lend_91 : decode cX9_lend 91 = .ok (.imul, 1) := by decide +kernel
theorem dX9_lend_92 : decode cX9_lend 92 = .ok (.iadd, 1) := by decide +kernel
theorem dX9_lend_93 : decode cX9_lend 93 = .ok (.iconst 2, 1) := by decide +kernel
theorem dX9_lend_94 : decode cX9_lend 94 = .ok (.iadd, 1) := by decide +kernel
theorem dX9_lend_95 : decode cX9_lend 95 = .ok (.iload_n 3, 1) := by decide +kernel
theorem dX9_lend_96 : decode cX9_lend 96 = .ok (.invokevirtual 73, 3) := by decide +kernel
theorem dX9_lend_99 : decode cX9_lend 99 = .ok (.aload_n 0, 1) := by decide +kernel
theorem dX9_lend_100 : decode cX9_lend 100 = .ok (.iconst 3, 1) := by decide +kernel
theorem dX9_lend_101 : decode cX9_lend 101 = .ok (.iload 4, 2) := by decide +kernel
theorem dX9_lend_103 : decode cX9_lend 103 = .ok (.iconst 1, 1) := by decide +kernel
theorem dX9_lend_104 : decode cX9_lend 104 = .ok (.iadd, 1) := by decide +kernel
theorem dX9_lend_105 : decode cX9_lend 105 = .ok (.invokevirtual 73, 3) := by decide +kernel
theorem dX9_lend_108 : decode cX9_lend 108 = .ok (.iload 4, 2) := by decide +kernel
theorem dX9_lend_110 : decode cX9_lend 110 = .ok (.ireturn, 1) := by decide +kernel
theorem dX9_whoHas_0 : decode cX9_whoHas 0 = .ok (.iconst 0, 1) := by decide +kernel
theorem dX9_whoHas_1 : decode cX9_whoHas 1 = .ok (.istore_n 3, 1) := by decide +kernel
theorem dX9_whoHas_2 : decode cX9_whoHas 2 = .ok (.iconst 0, 1) := by decide +kernel
theorem dX9_whoHas_3 : decode cX9_whoHas 3 = .ok (.istore 4, 2) := by decide +kernel
theorem dX9_whoHas_5 : decode cX9_whoHas 5 = .ok (.iload 4, 2) := by decide +kernel
theorem dX9_whoHas_7 : decode cX9_whoHas 7 = .ok (.iload_n 2, 1) := by decide +kernel
theorem dX9_whoHas_8 : decode cX9_whoHas 8 = .ok (.if_icmp .ge 71, 3) := by decide +kernel
theorem dX9_whoHas_11 : decode cX9_whoHas 11 = .ok (.aload_n 0, 1) := by decide +kernel
theorem dX9_whoHas_12 : decode cX9_whoHas 12 = .ok (.bipush 85, 2) := by decide +kernel
theorem dX9_whoHas_14 : decode cX9_whoHas 14 = .ok (.iconst 3, 1) := by decide +kernel
theorem dX9_whoHas_15 : decode cX9_whoHas 15 = .ok (.iload 4, 2) := by decide +kernel
theorem dX9_whoHas_17 : decode cX9_whoHas 17 = .ok (.imul, 1) := by decide +kernel
theorem dX9_whoHas_18 : decode cX9_whoHas 18 = .ok (.iadd, 1) := by decide +kernel
theorem dX9_whoHas_19 : decode cX9_whoHas 19 = .ok (.iconst 1, 1) := by decide +kernel
theorem dX9_whoHas_20 : decode cX9_whoHas 20 = .ok (.iadd, 1) := by decide +kernel
theorem dX9_whoHas_21 : decode cX9_whoHas 21 = .ok (.invokevirtual 62, 3) := by decide +kernel
theorem dX9_whoHas_24 : decode cX9_whoHas 24 = .ok (.iload_n 1, 1) := by decide +kernel
theorem dX9_whoHas_25 : decode cX9_whoHas 25 = .ok (.if_icmp .ne 22, 3) := by decide +kernel
theorem dX9_whoHas_28 : decode cX9_whoHas 28 = .ok (.aload_n 0, 1) := by decide +kernel
theorem dX9_whoHas_29 : decode cX9_whoHas 29 = .ok (.bipush 85, 2) := by decide +kernel
theorem dX9_whoHas_31 : decode cX9_whoHas 31 = .ok (.iconst 3, 1) := by decide +kernel
theorem dX9_whoHas_32 : decode cX9_whoHas 32 = .ok (.iload 4, 2) := by decide +kernel
theorem dX9_whoHas_34 : decode cX9_whoHas 34 = .ok (.imul, 1) := by decide +kernel
theorem dX9_whoHas_35 : decode cX9_whoHas 35 = .ok (.iadd, 1) := by decide +kernel
theorem dX9_whoHas_36 : decode cX9_whoHas 36 = .ok (.invokevirtual 62, 3) := by decide +kernel
theorem dX9_whoHas_39 : decode cX9_whoHas 39 = .ok (.iload_n 3, 1) := by decide +kernel
theorem dX9_whoHas_40 : decode cX9_whoHas 40 = .ok (.if_icmp .ne 7, 3) := by decide +kernel
theorem dX9_whoHas_43 : decode cX9_whoHas 43 = .ok (.iconst 1, 1) := by decide +kernel
theorem dX9_whoHas_44 : decode cX9_whoHas 44 = .ok (.goto 4, 3) := by decide +kernel
theorem dX9_whoHas_47 : decode cX9_whoHas 47 = .ok (.iconst 0, 1) := by decide +kernel
theorem dX9_whoHas_48 : decode cX9_whoHas 48 = .ok (.istore 5, 2) := by decide +kernel
theorem dX9_whoHas_50 : decode cX9_whoHas 50 = .ok (.iload 5, 2) := by decide +kernel
theorem dX9_whoHas_52 : decode cX9_whoHas 52 = .ok (.ifCond .eq 19, 3) := by decide +kernel
theorem dX9_whoHas_55 : decode cX9_whoHas 55 = .ok (.aload_n 0, 1) := by decide +kernel
theorem dX9_whoHas_56 : decode cX9_whoHas 56 = .ok (.bipush 85, 2) := by decide +kernel
theorem dX9_whoHas_58 : decode cX9_whoHas 58 = .ok (.iconst 3, 1) := by decide +kernel
theorem dX9_whoHas_59 : decode cX9_whoHas 59 = .ok (.iload 4, 2) := by decide +kernel
theorem dX9_whoHas_61 : decode cX9_whoHas 61 = .ok (.imul, 1) := by decide +kernel
theorem dX9_whoHas_62 : decode cX9_whoHas 62 = .ok (.iadd, 1) := by decide +kernel
theorem dX9_whoHas_63 : decode cX9_whoHas 63 = .ok (.iconst 2, 1) := by decide +kernel
theorem dX9_whoHas_64 : decode cX9_whoHas 64 = .ok (.iadd, 1) := by decide +kernel
theorem dX9_whoHas_65 : decode cX9_whoHas 65 = .ok (.invokevirtual 62, 3) := by decide +kernel
theorem dX9_whoHas_68 : decode cX9_whoHas 68 = .ok (.goto 4, 3) := by decide +kernel
theorem dX9_whoHas_71 : decode cX9_whoHas 71 = .ok (.iload_n 3, 1) := by decide +kernel
theorem dX9_whoHas_72 : decode cX9_whoHas 72 = .ok (.istore_n 3, 1) := by decide +kernel
theorem dX9_whoHas_73 : decode cX9_whoHas 73 = .ok (.iinc 4 1, 3) := by decide +kernel
theorem dX9_whoHas_76 : decode cX9_whoHas 76 = .ok (.goto (-71), 3) := by decide +kernel
theorem dX9_whoHas_79 : decode cX9_whoHas 79 = .ok (.iload_n 3, 1) := by decide +kernel
theorem dX9_whoHas_80 : decode cX9_whoHas 80 = .ok (.ireturn, 1) := by decide +kernel
theorem dX9_has_0 : decode cX9_has 0 = .ok (.aload_n 0, 1) := by decide +kernel
theorem dX9_has_1 : decode cX9_has 1 = .ok (.iload_n 1, 1) := by decide +kernel
theorem dX9_has_2 : decode cX9_has 2 = .ok (.invokevirtual 91, 3) := by decide +kernel
theorem dX9_has_5 : decode cX9_has 5 = .ok (.ifCond .eq 16, 3) := by decide +kernel
theorem dX9_has_8 : decode cX9_has 8 = .ok (.aload_n 0, 1) := by decide +kernel
theorem dX9_has_9 : decode cX9_has 9 = .ok (.iload_n 1, 1) := by decide +kernel
theorem dX9_has_10 : decode cX9_has 10 = .ok (.aload_n 0, 1) := by decide +kernel
theorem dX9_has_11 : decode cX9_has 11 = .ok (.iconst 3, 1) := by decide +kernel
theorem dX9_has_12 : decode cX9_has 12 = .ok (.invokevirtual 62, 3) := by decide +kernel
theorem dX9_has_15 : decode cX9_has 15 = .ok (.invokevirtual 231, 3) := by decide +kernel
theorem dX9_has_18 : decode cX9_has 18 = .ok (.goto 9, 3) := by decide +kernel
theorem dX9_has_21 : decode cX9_has 21 = .ok (.aload_n 0, 1) := by decide +kernel
theorem dX9_has_22 : decode cX9_has 22 = .ok (.bipush (-2), 2) := by decide +kernel
theorem dX9_has_24 : decode cX9_has 24 = .ok (.invokevirtual 70, 3) := by decide +kernel
theorem dX9_has_27 : decode cX9_has 27 = .ok (.ireturn, 1) := by decide +kernel
theorem dX9_wrong_0 : decode cX9_wrong 0 = .ok (.iconst 0, 1) := by decide +kernel
theorem dX9_wrong_1 : decode cX9_wrong 1 = .ok (.istore_n 1, 1) := by decide +kernel
theorem dX9_wrong_2 : decode cX9_wrong 2 = .ok (.iload_n 1, 1) := by decide +kernel
theorem dX9_wrong_3 : decode cX9_wrong 3 = .ok (.aload_n 0, 1) := by decide +kernel
theorem dX9_wrong_4 : decode cX9_wrong 4 = .ok (.iconst 3, 1) := by decide +kernel
theorem dX9_wrong_5 : decode cX9_wrong 5 = .ok (.invokevirtual 62, 3) := by decide +kernel
theorem dX9_wrong_8 : decode cX9_wrong 8 = .ok (.if_icmp .ge 41, 3) := by decide +kernel
theorem dX9_wrong_11 : decode cX9_wrong 11 = .ok (.aload_n 0, 1) := by decide +kernel
theorem dX9_wrong_12 : decode cX9_wrong 12 = .ok (.aload_n 0, 1) := by decide +kernel
theorem dX9_wrong_13 : decode cX9_wrong 13 = .ok (.bipush 85, 2) := by decide +kernel
theorem dX9_wrong_15 : decode cX9_wrong 15 = .ok (.iconst 3, 1) := by decide +kernel
theorem dX9_wrong_16 : decode cX9_wrong 16 = .ok (.iload_n 1, 1) := by decide +kernel
theorem dX9_wrong_17 : decode cX9_wrong 17 = .ok (.imul, 1) := by decide +kernel
theorem dX9_wrong_18 : decode cX9_wrong 18 = .ok (.iadd, 1) := by decide +kernel
theorem dX9_wrong_19 : decode cX9_wrong 19 = .ok (.iconst 1, 1) := by decide +kernel
theorem dX9_wrong_20 : decode cX9_wrong 20 = .ok (.iadd, 1) := by decide +kernel
theorem dX9_wrong_21 : decode cX9_wrong 21 = .ok (.invokevirtual 62, 3) := by decide +kernel
theorem dX9_wrong_24 : decode cX9_wrong 24 = .ok (.iload_n 1, 1) := by decide +kernel
theorem dX9_wrong_25 : decode cX9_wrong 25 = .ok (.invokevirtual 231, 3) := by decide +kernel
theorem dX9_wrong_28 : decode cX9_wrong 28 = .ok (.aload_n 0, 1) := by decide +kernel
theorem dX9_wrong_29 : decode cX9_wrong 29 = .ok (.bipush 85, 2) := by decide +kernel
theorem dX9_wrong_31 : decode cX9_wrong 31 = .ok (.iconst 3, 1) := by decide +kernel
theorem dX9_wrong_32 : decode cX9_wrong 32 = .ok (.iload_n 1, 1) := by decide +kernel
theorem dX9_wrong_33 : decode cX9_wrong 33 = .ok (.imul, 1) := by decide +kernel
theorem dX9_wrong_34 : decode cX9_wrong 34 = .ok (.iadd, 1) := by decide +kernel
theorem dX9_wrong_35 : decode cX9_wrong 35 = .ok (.invokevirtual 62, 3) := by decide +kernel
theorem dX9_wrong_38 : decode cX9_wrong 38 = .ok (.if_icmp .eq 5, 3) := by decide +kernel
theorem dX9_wrong_41 : decode cX9_wrong 41 = .ok (.iload_n 1, 1) := by decide +kernel
theorem dX9_wrong_42 : decode cX9_wrong 42 = .ok (.ireturn, 1) := by decide +kernel
theorem dX9_wrong_43 : decode cX9_wrong 43 = .ok (.iinc 1 1, 3) := by decide +kernel
theorem dX9_wrong_46 : decode cX9_wrong 46 = .ok (.goto (-44), 3) := by decide +kernel
theorem dX9_wrong_49 : decode cX9_wrong 49 = .ok (.iconst (-1), 1) := by decide +kernel
theorem dX9_wrong_50 : decode cX9_wrong 50 = .ok (.ireturn, 1) := by decide +kernel
theorem dX9_hint_0 : decode cX9_hint 0 = .ok (.iload_n 1, 1) := by decide +kernel
theorem dX9_hint_1 : decode cX9_hint 1 = .ok (.iconst 0, 1) := by decide +kernel
theorem dX9_hint_2 : decode cX9_hint 2 = .ok (.iconst 3, 1) := by decide +kernel
theorem dX9_hint_3 : decode cX9_hint 3 = .ok (.invokestatic 66, 3) := by decide +kernel
theorem dX9_hint_6 : decode cX9_hint 6 = .ok (.ifCond .eq 19, 3) := by decide +kernel
theorem dX9_hint_9 : decode cX9_hint 9 = .ok (.aload_n 0, 1) := by decide +kernel
theorem dX9_hint_10 : decode cX9_hint 10 = .ok (.iload_n 2, 1) := by decide +kernel
theorem dX9_hint_11 : decode cX9_hint 11 = .ok (.invokevirtual 95, 3) := by decide +kernel
theorem dX9_hint_14 : decode cX9_hint 14 = .ok (.ifCond .eq 11, 3) := by decide +kernel
theorem dX9_hint_17 : decode cX9_hint 17 = .ok (.aload_n 0, 1) := by decide +kernel
theorem dX9_hint_18 : decode cX9_hint 18 = .ok (.iload_n 3, 1) := by decide +kernel
theorem dX9_hint_19 : decode cX9_hint 19 = .ok (.invokevirtual 95, 3) := by decide +kernel
theorem dX9_hint_22 : decode cX9_hint 22 = .ok (.ifCond .ne 10, 3) := by decide +kernel
theorem dX9_hint_25 : decode cX9_hint 25 = .ok (.aload_n 0, 1) := by decide +kernel
theorem dX9_hint_26 : decode cX9_hint 26 = .ok (.bipush (-2), 2) := by decide +kernel
theorem dX9_hint_28 : decode cX9_hint 28 = .ok (.invokevirtual 70, 3) := by decide +kernel
theorem dX9_hint_31 : decode cX9_hint 31 = .ok (.ireturn, 1) := by decide +kernel
theorem dX9_hint_32 : decode cX9_hint 32 = .ok (.aload_n 0, 1) := by decide +kernel
theorem dX9_hint_33 : decode cX9_hint 33 = .ok (.iconst 4, 1) := by decide +kernel
theorem dX9_hint_34 : decode cX9_hint 34 = .ok (.invokevirtual 62, 3) := by decide +kernel
theorem dX9_hint_37 : decode cX9_hint 37 = .ok (.istore 4, 2) := by decide +kernel
theorem dX9_hint_39 : decode cX9_hint 39 = .ok (.iload 4, 2) := by decide +kernel
theorem dX9_hint_41 : decode cX9_hint 41 = .ok (.bipush 8, 2) := by decide +kernel
theorem dX9_hint_43 : decode cX9_hint 43 = .ok (.if_icmp .ne 10, 3) := by decide +kernel
theorem dX9_hint_46 : decode cX9_hint 46 = .ok (.aload_n 0, 1) := by decide +kernel
theorem dX9_hint_47 : decode cX9_hint 47 = .ok (.bipush (-4), 2) := by decide +kernel
theorem dX9_hint_49 : decode cX9_hint 49 = .ok (.invokevirtual 70, 3) := by decide +kernel
theorem dX9_hint_52 : decode cX9_hint 52 = .ok (.ireturn, 1) := by decide +kernel
theorem dX9_hint_53 : decode cX9_hint 53 = .ok (.aload_n 0, 1) := by decide +kernel
theorem dX9_hint_54 : decode cX9_hint 54 = .ok (.bipush 109, 2) := by decide +kernel
theorem dX9_hint_56 : decode cX9_hint 56 = .ok (.iconst 3, 1) := by decide +kernel
theorem dX9_hint_57 : decode cX9_hint 57 = .ok (.iload 4, 2) := by decide +kernel
theorem dX9_hint_59 : decode cX9_hint 59 = .ok (.imul, 1) := by decide +kernel
theorem dX9_hint_60 : decode cX9_hint 60 = .ok (.iadd, 1) := by decide +kernel
theorem dX9_hint_61 : decode cX9_hint 61 = .ok (.iload_n 1, 1) := by decide +kernel
theorem dX9_hint_62 : decode cX9_hint 62 = .ok (.invokevirtual 73, 3) := by decide +kernel
theorem dX9_hint_65 : decode cX9_hint 65 = .ok (.aload_n 0, 1) := by decide +kernel
theorem dX9_hint_66 : decode cX9_hint 66 = .ok (.bipush 109, 2) := by decide +kernel
theorem dX9_hint_68 : decode cX9_hint 68 = .ok (.iconst 3, 1) := by decide +kernel
theorem dX9_hint_69 : decode cX9_hint 69 = .ok (.iload 4, 2) := by decide +kernel
theorem dX9_hint_71 : decode cX9_hint 71 = .ok (.imul, 1) := by decide +kernel
theorem dX9_hint_72 : decode cX9_hint 72 = .ok (.iadd, 1) := by decide +kernel
theorem dX9_hint_73 : decode cX9_hint 73 = .ok (.iconst 1, 1) := by decide +kernel
theorem dX9_hint_74 : decode cX9_hint 74 = .ok (.iadd, 1) := by decide +kernel
theorem dX9_hint_75 : decode cX9_hint 75 = .ok (.iload_n 2, 1) := by decide +kernel
theorem dX9_hint_76 : decode cX9_hint 76 = .ok (.invokevirtual 73, 3) := by decide +kernel
theorem dX9_hint_79 : decode cX9_hint 79 = .ok (.aload_n 0, 1) := by decide +kernel
theorem dX9_hint_80 : decode cX9_hint 80 = .ok (.bipush 109, 2) := by decide +kernel
theorem dX9_hint_82 : decode cX9_hint 82 = .ok (.iconst 3, 1) := by decide +kernel
theorem dX9_hint_83 : decode cX9_hint 83 = .ok (.iload 4, 2) := by decide +kernel
theorem dX9_hint_85 : decode cX9_hint 85 = .ok (.imul, 1) := by decide +kernel
theorem dX9_hint_86 : decode cX9_hint 86 = .ok (.iadd, 1) := by decide +kernel
theorem dX9_hint_87 : decode cX9_hint 87 = .ok (.iconst 2, 1) := by decide +kernel
theorem dX9_hint_88 : decode cX9_hint 88 = .ok (.iadd, 1) := by decide +kernel
theorem dX9_hint_89 : decode cX9_hint 89 = .ok (.iload_n 3, 1) := by decide +kernel
theorem dX9_hint_90 : decode cX9_hint 90 = .ok (.invokevirtual 73, 3) := by decide +kernel
theorem dX9_hint_93 : decode cX9_hint 93 = .ok (.aload_n 0, 1) := by decide +kernel
theorem dX9_hint_94 : decode cX9_hint 94 = .ok (.iconst 4, 1) := by decide +kernel
theorem dX9_hint_95 : decode cX9_hint 95 = .ok (.iload 4, 2) := by decide +kernel
theorem dX9_hint_97 : decode cX9_hint 97 = .ok (.iconst 1, 1) := by decide +kernel
theorem dX9_hint_98 : decode cX9_hint 98 = .ok (.iadd, 1) := by decide +kernel
theorem dX9_hint_99 : decode cX9_hint 99 = .ok (.invokevirtual 73, 3) := by decide +kernel
theorem dX9_hint_102 : decode cX9_hint 102 = .ok (.iload 4, 2) := by decide +kernel
theorem dX9_hint_104 : decode cX9_hint 104 = .ok (.ireturn, 1) := by decide +kernel
theorem dX9_forget_0 : decode cX9_forget 0 = .ok (.iload_n 1, 1) := by decide +kernel
theorem dX9_forget_1 : decode cX9_forget 1 = .ok (.iconst 0, 1) := by decide +kernel
theorem dX9_forget_2 : decode cX9_forget 2 = .ok (.iconst 2, 1) := by decide +kernel
theorem dX9_forget_3 : decode cX9_forget 3 = .ok (.invokestatic 66, 3) := by decide +kernel
theorem dX9_forget_6 : decode cX9_forget 6 = .ok (.ifCond .ne 10, 3) := by decide +kernel
theorem dX9_forget_9 : decode cX9_forget 9 = .ok (.aload_n 0, 1) := by decide +kernel
theorem dX9_forget_10 : decode cX9_forget 10 = .ok (.bipush (-2), 2) := by decide +kernel
theorem dX9_forget_12 : decode cX9_forget 12 = .ok (.invokevirtual 70, 3) := by decide +kernel
theorem dX9_forget_15 : decode cX9_forget 15 = .ok (.ireturn, 1) := by decide +kernel
theorem dX9_forget_16 : decode cX9_forget 16 = .ok (.iload_n 1, 1) := by decide +kernel
theorem dX9_forget_17 : decode cX9_forget 17 = .ok (.ifCond .ne 7, 3) := by decide +kernel
theorem dX9_forget_20 : decode cX9_forget 20 = .ok (.iconst 3, 1) := by decide +kernel
theorem dX9_forget_21 : decode cX9_forget 21 = .ok (.goto 13, 3) := by decide +kernel
theorem dX9_forget_24 : decode cX9_forget 24 = .ok (.iload_n 1, 1) := by decide +kernel
theorem dX9_forget_25 : decode cX9_forget 25 = .ok (.iconst 1, 1) := by decide +kernel
theorem dX9_forget_26 : decode cX9_forget 26 = .ok (.if_icmp .ne 7, 3) := by decide +kernel
theorem dX9_forget_29 : decode cX9_forget 29 = .ok (.iconst 4, 1) := by decide +kernel
theorem dX9_forget_30 : decode cX9_forget 30 = .ok (.goto 4, 3) := by decide +kernel
theorem dX9_forget_33 : decode cX9_forget 33 = .ok (.iconst 2, 1) := by decide +kernel
theorem dX9_forget_34 : decode cX9_forget 34 = .ok (.istore_n 2, 1) := by decide +kernel
theorem dX9_forget_35 : decode cX9_forget 35 = .ok (.aload_n 0, 1) := by decide +kernel
theorem dX9_forget_36 : decode cX9_forget 36 = .ok (.iload_n 2, 1) := by decide +kernel
theorem dX9_forget_37 : decode cX9_forget 37 = .ok (.invokevirtual 62, 3) := by decide +kernel
theorem dX9_forget_40 : decode cX9_forget 40 = .ok (.istore_n 3, 1) := by decide +kernel
theorem dX9_forget_41 : decode cX9_forget 41 = .ok (.aload_n 0, 1) := by decide +kernel
theorem dX9_forget_42 : decode cX9_forget 42 = .ok (.iload_n 2, 1) := by decide +kernel
theorem dX9_forget_43 : decode cX9_forget 43 = .ok (.iconst 0, 1) := by decide +kernel
theorem dX9_forget_44 : decode cX9_forget 44 = .ok (.invokevirtual 73, 3) := by decide +kernel
theorem dX9_forget_47 : decode cX9_forget 47 = .ok (.iload_n 3, 1) := by decide +kernel
theorem dX9_forget_48 : decode cX9_forget 48 = .ok (.ireturn, 1) := by decide +kernel
theorem dX9_isSo_0 : decode cX9_isSo 0 = .ok (.iconst 1, 1) := by decide +kernel
theorem dX9_isSo_1 : decode cX9_isSo 1 = .ok (.istore_n 1, 1) := by decide +kernel
theorem dX9_isSo_2 : decode cX9_isSo 2 = .ok (.iconst 0, 1) := by decide +kernel
theorem dX9_isSo_3 : decode cX9_isSo 3 = .ok (.istore_n 2, 1) := by decide +kernel
theorem dX9_isSo_4 : decode cX9_isSo 4 = .ok (.iload_n 2, 1) := by decide +kernel
theorem dX9_isSo_5 : decode cX9_isSo 5 = .ok (.aload_n 0, 1) := by decide +kernel
theorem dX9_isSo_6 : decode cX9_isSo 6 = .ok (.iconst 4, 1) := by decide +kernel
theorem dX9_isSo_7 : decode cX9_isSo 7 = .ok (.invokevirtual 62, 3) := by decide +kernel
theorem dX9_isSo_10 : decode cX9_isSo 10 = .ok (.if_icmp .ge 149, 3) := by decide +kernel
theorem dX9_isSo_13 : decode cX9_isSo 13 = .ok (.iload_n 1, 1) := by decide +kernel
theorem dX9_isSo_14 : decode cX9_isSo 14 = .ok (.ifCond .eq 145, 3) := by decide +kernel
theorem dX9_isSo_17 : decode cX9_isSo 17 = .ok (.aload_n 0, 1) := by decide +kernel
theorem dX9_isSo_18 : decode cX9_isSo 18 = .ok (.bipush 109, 2) := by decide +kernel
theorem dX9_isSo_20 : decode cX9_isSo 20 = .ok (.iconst 3, 1) := by decide +kernel
theorem dX9_isSo_21 : decode cX9_isSo 21 = .ok (.iload_n 2, 1) := by decide +kernel
theorem dX9_isSo_22 : decode cX9_isSo 22 = .ok (.imul, 1) := by decide +kernel
theorem dX9_isSo_23 : decode cX9_isSo 23 = .ok (.iadd, 1) := by decide +kernel
theorem dX9_isSo_24 : decode cX9_isSo 24 = .ok (.invokevirtual 62, 3) := by decide +kernel
theorem dX9_isSo_27 : decode cX9_isSo 27 = .ok (.istore_n 3, 1) := by decide +kernel
theorem dX9_isSo_28 : decode cX9_isSo 28 = .ok (.aload_n 0, 1) := by decide +kernel
theorem dX9_isSo_29 : decode cX9_isSo 29 = .ok (.getfield 45, 3) := by decide +kernel
theorem dX9_isSo_32 : decode cX9_isSo 32 = .ok (.aload_n 0, 1) := by decide +kernel
theorem dX9_isSo_33 : decode cX9_isSo 33 = .ok (.bipush 109, 2) := by decide +kernel
theorem dX9_isSo_35 : decode cX9_isSo 35 = .ok (.iconst 3, 1) := by decide +kernel
theorem dX9_isSo_36 : decode cX9_isSo 36 = .ok (.iload_n 2, 1) := by decide +kernel
theorem dX9_isSo_37 : decode cX9_isSo 37 = .ok (.imul, 1) := by decide +kernel
theorem dX9_isSo_38 : decode cX9_isSo 38 = .ok (.iadd, 1) := by decide +kernel
theorem dX9_isSo_39 : decode cX9_isSo 39 = .ok (.iconst 1, 1) := by decide +kernel
theorem dX9_isSo_40 : decode cX9_isSo 40 = .ok (.iadd, 1) := by decide +kernel
theorem dX9_isSo_41 : decode cX9_isSo 41 = .ok (.invokevirtual 62, 3) := by decide +kernel
theorem dX9_isSo_44 : decode cX9_isSo 44 = .ok (.iaload, 1) := by decide +kernel
theorem dX9_isSo_45 : decode cX9_isSo 45 = .ok (.istore 4, 2) := by decide +kernel
theorem dX9_isSo_47 : decode cX9_isSo 47 = .ok (.aload_n 0, 1) := by decide +kernel
theorem dX9_isSo_48 : decode cX9_isSo 48 = .ok (.bipush 109, 2) := by decide +kernel
theorem dX9_isSo_50 : decode cX9_isSo 50 = .ok (.iconst 3, 1) := by decide +kernel
theorem dX9_isSo_51 : decode cX9_isSo 51 = .ok (.iload_n 2, 1) := by decide +kernel
theorem dX9_isSo_52 : decode cX9_isSo 52 = .ok (.imul, 1) := by decide +kernel
theorem dX9_isSo_53 : decode cX9_isSo 53 = .ok (.iadd, 1) := by decide +kernel
theorem dX9_isSo_54 : decode cX9_isSo 54 = .ok (.iconst 2, 1) := by decide +kernel
theorem dX9_isSo_55 : decode cX9_isSo 55 = .ok (.iadd, 1) := by decide +kernel
theorem dX9_isSo_56 : decode cX9_isSo 56 = .ok (.invokevirtual 62, 3) := by decide +kernel
theorem dX9_isSo_59 : decode cX9_isSo 59 = .ok (.istore 5, 2) := by decide +kernel
theorem dX9_isSo_61 : decode cX9_isSo 61 = .ok (.iload_n 3, 1) := by decide +kernel
theorem dX9_isSo_62 : decode cX9_isSo 62 = .ok (.ifCond .ne 18, 3) := by decide +kernel
theorem dX9_isSo_65 : decode cX9_isSo 65 = .ok (.iload 4, 2) := by decide +kernel
theorem dX9_isSo_67 : decode cX9_isSo 67 = .ok (.iload 5, 2) := by decide +kernel
theorem dX9_isSo_69 : decode cX9_isSo 69 = .ok (.if_icmp .ne 7, 3) := by decide +kernel
theorem dX9_isSo_72 : decode cX9_isSo 72 = .ok (.iconst 1, 1) := by decide +kernel
theorem dX9_isSo_73 : decode cX9_isSo 73 = .ok (.goto 79, 3) := by decide +kernel
theorem dX9_isSo_76 : decode cX9_isSo 76 = .ok (.iconst 0, 1) := by decide +kernel
theorem dX9_isSo_77 : decode cX9_isSo 77 = .ok (.goto 75, 3) := by decide +kernel
theorem dX9_isSo_80 : decode cX9_isSo 80 = .ok (.iload_n 3, 1) := by decide +kernel
theorem dX9_isSo_81 : decode cX9_isSo 81 = .ok (.iconst 1, 1) := by decide +kernel
theorem dX9_isSo_82 : decode cX9_isSo 82 = .ok (.if_icmp .ne 18, 3) := by decide +kernel
theorem dX9_isSo_85 : decode cX9_isSo 85 = .ok (.iload 4, 2) := by decide +kernel
theorem dX9_isSo_87 : decode cX9_isSo 87 = .ok (.iload 5, 2) := by decide +kernel
theorem dX9_isSo_89 : decode cX9_isSo 89 = .ok (.if_icmp .eq 7, 3) := by decide +kernel
theorem dX9_isSo_92 : decode cX9_isSo 92 = .ok (.iconst 1, 1) := by decide +kernel
theorem dX9_isSo_93 : decode cX9_isSo 93 = .ok (.goto 59, 3) := by decide +kernel
theorem dX9_isSo_96 : decode cX9_isSo 96 = .ok (.iconst 0, 1) := by decide +kernel
theorem dX9_isSo_97 : decode cX9_isSo 97 = .ok (.goto 55, 3) := by decide +kernel
theorem dX9_isSo_100 : decode cX9_isSo 100 = .ok (.iload_n 3, 1) := by decide +kernel
theorem dX9_isSo_101 : decode cX9_isSo 101 = .ok (.iconst 2, 1) := by decide +kernel
theorem dX9_isSo_102 : decode cX9_isSo 102 = .ok (.if_icmp .ne 23, 3) := by decide +kernel
theorem dX9_isSo_105 : decode cX9_isSo 105 = .ok (.iload 4, 2) := by decide +kernel
theorem dX9_isSo_107 : decode cX9_isSo 107 = .ok (.aload_n 0, 1) := by decide +kernel
theorem dX9_isSo_108 : decode cX9_isSo 108 = .ok (.getfield 45, 3) := by decide +kernel
theorem dX9_isSo_111 : decode cX9_isSo 111 = .ok (.iload 5, 2) := by decide +kernel
theorem dX9_isSo_113 : decode cX9_isSo 113 = .ok (.iaload, 1) := by decide +kernel
theorem dX9_isSo_114 : decode cX9_isSo 114 = .ok (.if_icmp .ge 7, 3) := by decide +kernel
theorem dX9_isSo_117 : decode cX9_isSo 117 = .ok (.iconst 1, 1) := by decide +kernel
theorem dX9_isSo_118 : decode cX9_isSo 118 = .ok (.goto 34, 3) := by decide +kernel
theorem dX9_isSo_121 : decode cX9_isSo 121 = .ok (.iconst 0, 1) := by decide +kernel
theorem dX9_isSo_122 : decode cX9_isSo 122 = .ok (.goto 30, 3) := by decide +kernel
theorem dX9_isSo_125 : decode cX9_isSo 125 = .ok (.aload_n 0, 1) := by decide +kernel
theorem dX9_isSo_126 : decode cX9_isSo 126 = .ok (.iload 4, 2) := by decide +kernel
theorem dX9_isSo_128 : decode cX9_isSo 128 = .ok (.iconst 1, 1) := by decide +kernel
theorem dX9_isSo_129 : decode cX9_isSo 129 = .ok (.invokevirtual 77, 3) := by decide +kernel
theorem dX9_isSo_132 : decode cX9_isSo 132 = .ok (.aload_n 0, 1) := by decide +kernel
theorem dX9_isSo_133 : decode cX9_isSo 133 = .ok (.aload_n 0, 1) := by decide +kernel
theorem dX9_isSo_134 : decode cX9_isSo 134 = .ok (.getfield 45, 3) := by decide +kernel
theorem dX9_isSo_137 : decode cX9_isSo 137 = .ok (.iload 5, 2) := by decide +kernel
theorem dX9_isSo_139 : decode cX9_isSo 139 = .ok (.iaload, 1) := by decide +kernel
theorem dX9_isSo_140 : decode cX9_isSo 140 = .ok (.iconst 1, 1) := by decide +kernel
theorem dX9_isSo_141 : decode cX9_isSo 141 = .ok (.invokevirtual 77, 3) := by decide +kernel
theorem dX9_isSo_144 : decode cX9_isSo 144 = .ok (.if_icmp .ge 7, 3) := by decide +kernel
theorem dX9_isSo_147 : decode cX9_isSo 147 = .ok (.iconst 1, 1) := by decide +kernel
theorem dX9_isSo_148 : decode cX9_isSo 148 = .ok (.goto 4, 3) := by decide +kernel
theorem dX9_isSo_151 : decode cX9_isSo 151 = .ok (.iconst 0, 1) := by decide +kernel
theorem dX9_isSo_152 : decode cX9_isSo 152 = .ok (.istore_n 1, 1) := by decide +kernel
theorem dX9_isSo_153 : decode cX9_isSo 153 = .ok (.iinc 2 1, 3) := by decide +kernel
theorem dX9_isSo_156 : decode cX9_isSo 156 = .ok (.goto (-152), 3) := by decide +kernel
theorem dX9_isSo_159 : decode cX9_isSo 159 = .ok (.iload_n 1, 1) := by decide +kernel
theorem dX9_isSo_160 : decode cX9_isSo 160 = .ok (.ireturn, 1) := by decide +kernel
theorem dX9_findWays_0 : decode cX9_findWays 0 = .ok (.aload_n 0, 1) := by decide +kernel
theorem dX9_findWays_1 : decode cX9_findWays 1 = .ok (.iconst 0, 1) := by decide +kernel
theorem dX9_findWays_2 : decode cX9_findWays 2 = .ok (.invokevirtual 62, 3) := by decide +kernel
theorem dX9_findWays_5 : decode cX9_findWays 5 = .ok (.istore_n 1, 1) := by decide +kernel
theorem dX9_findWays_6 : decode cX9_findWays 6 = .ok (.iconst 0, 1) := by decide +kernel
theorem dX9_findWays_7 : decode cX9_findWays 7 = .ok (.istore_n 2, 1) := by decide +kernel
theorem dX9_findWays_8 : decode cX9_findWays 8 = .ok (.iload_n 2, 1) := by decide +kernel
theorem dX9_findWays_9 : decode cX9_findWays 9 = .ok (.bipush 49, 2) := by decide +kernel
theorem dX9_findWays_11 : decode cX9_findWays 11 = .ok (.if_icmp .ge 16, 3) := by decide +kernel
theorem dX9_findWays_14 : decode cX9_findWays 14 = .ok (.aload_n 0, 1) := by decide +kernel
theorem dX9_findWays_15 : decode cX9_findWays 15 = .ok (.getfield 51, 3) := by decide +kernel
theorem dX9_findWays_18 : decode cX9_findWays 18 = .ok (.iload_n 2, 1) := by decide +kernel
theorem dX9_findWays_19 : decode cX9_findWays 19 = .ok (.iconst 0, 1) := by decide +kernel
theorem dX9_findWays_20 : decode cX9_findWays 20 = .ok (.iastore, 1) := by decide +kernel
theorem dX9_findWays_21 : decode cX9_findWays 21 = .ok (.iinc 2 1, 3) := by decide +kernel
theorem dX9_findWays_24 : decode cX9_findWays 24 = .ok (.goto (-16), 3) := by decide +kernel
theorem dX9_findWays_27 : decode cX9_findWays 27 = .ok (.iconst 0, 1) := by decide +kernel
theorem dX9_findWays_28 : decode cX9_findWays 28 = .ok (.istore_n 2, 1) := by decide +kernel
theorem dX9_findWays_29 : decode cX9_findWays 29 = .ok (.aload_n 0, 1) := by decide +kernel
theorem dX9_findWays_30 : decode cX9_findWays 30 = .ok (.iload_n 1, 1) := by decide +kernel
theorem dX9_findWays_31 : decode cX9_findWays 31 = .ok (.invokevirtual 215, 3) := by decide +kernel
theorem dX9_findWays_34 : decode cX9_findWays 34 = .ok (.iconst 1, 1) := by decide +kernel
theorem dX9_findWays_35 : decode cX9_findWays 35 = .ok (.istore_n 3, 1) := by decide +kernel
theorem dX9_findWays_36 : decode cX9_findWays 36 = .ok (.iload_n 3, 1) := by decide +kernel
theorem dX9_findWays_37 : decode cX9_findWays 37 = .ok (.ifCond .eq 59, 3) := by decide +kernel
theorem dX9_findWays_40 : decode cX9_findWays 40 = .ok (.aload_n 0, 1) := by decide +kernel
theorem dX9_findWays_41 : decode cX9_findWays 41 = .ok (.invokevirtual 234, 3) := by decide +kernel
theorem dX9_findWays_44 : decode cX9_findWays 44 = .ok (.ifCond .eq 43, 3) := by decide +kernel
theorem dX9_findWays_47 : decode cX9_findWays 47 = .ok (.iinc 2 1, 3) := by decide +kernel
theorem dX9_findWays_50 : decode cX9_findWays 50 = .ok (.iconst 0, 1) := by decide +kernel
theorem dX9_findWays_51 : decode cX9_findWays 51 = .ok (.istore 4, 2) := by decide +kernel
theorem dX9_findWays_53 : decode cX9_findWays 53 = .ok (.iload 4, 2) := by decide +kernel
theorem dX9_findWays_55 : decode cX9_findWays 55 = .ok (.iload_n 1, 1) := by decide +kernel
theorem dX9_findWays_56 : decode cX9_findWays 56 = .ok (.if_icmp .ge 31, 3) := by decide +kernel
theorem dX9_findWays_59 : decode cX9_findWays 59 = .ok (.aload_n 0, 1) := by decide +kernel
theorem dX9_findWays_60 : decode cX9_findWays 60 = .ok (.getfield 51, 3) := by decide +kernel
theorem dX9_findWays_63 : decode cX9_findWays 63 = .ok (.bipush 7, 2) := by decide +kernel
theorem dX9_findWays_65 : decode cX9_findWays 65 = .ok (.iload 4, 2) := by decide +kernel
theorem dX9_findWays_67 : decode cX9_findWays 67 = .ok (.imul, 1) := by decide +kernel
theorem dX9_findWays_68 : decode cX9_findWays 68 = .ok (.aload_n 0, 1) := by decide +kernel
theorem dX9_findWays_69 : decode cX9_findWays 69 = .ok (.getfield 45, 3) := by decide +kernel
theorem dX9_findWays_72 : decode cX9_findWays 72 = .ok (.iload 4, 2) := by decide +kernel
theorem dX9_findWays_74 : decode cX9_findWays 74 = .ok (.iaload, 1) := by decide +kernel
theorem dX9_findWays_75 : decode cX9_findWays 75 = .ok (.iadd, 1) := by decide +kernel
theorem dX9_findWays_76 : decode cX9_findWays 76 = .ok (.dup2, 1) := by decide +kernel
theorem dX9_findWays_77 : decode cX9_findWays 77 = .ok (.iaload, 1) := by decide +kernel
theorem dX9_findWays_78 : decode cX9_findWays 78 = .ok (.iconst 1, 1) := by decide +kernel
theorem dX9_findWays_79 : decode cX9_findWays 79 = .ok (.iadd, 1) := by decide +kernel
theorem dX9_findWays_80 : decode cX9_findWays 80 = .ok (.iastore, 1) := by decide +kernel
theorem dX9_findWays_81 : decode cX9_findWays 81 = .ok (.iinc 4 1, 3) := by decide +kernel
theorem dX9_findWays_84 : decode cX9_findWays 84 = .ok (.goto (-31), 3) := by decide +kernel
theorem dX9_findWays_87 : decode cX9_findWays 87 = .ok (.aload_n 0, 1) := by decide +kernel
theorem dX9_findWays_88 : decode cX9_findWays 88 = .ok (.iload_n 1, 1) := by decide +kernel
theorem dX9_findWays_89 : decode cX9_findWays 89 = .ok (.invokevirtual 224, 3) := by decide +kernel
theorem dX9_findWays_92 : decode cX9_findWays 92 = .ok (.istore_n 3, 1) := by decide +kernel
theorem dX9_findWays_93 : decode cX9_findWays 93 = .ok (.goto (-57), 3) := by decide +kernel
theorem dX9_findWays_96 : decode cX9_findWays 96 = .ok (.iload_n 2, 1) := by decide +kernel
theorem dX9_findWays_97 : decode cX9_findWays 97 = .ok (.ireturn, 1) := by decide +kernel
theorem dX9_labels_0 : decode cX9_labels 0 = .ok (.iload_n 2, 1) := by decide +kernel
theorem dX9_labels_1 : decode cX9_labels 1 = .ok (.iconst 0, 1) := by decide +kernel
theorem dX9_labels_2 : decode cX9_labels 2 = .ok (.iconst 2, 1) := by decide +kernel
theorem dX9_labels_3 : decode cX9_labels 3 = .ok (.invokestatic 66, 3) := by decide +kernel
theorem dX9_labels_6 : decode cX9_labels 6 = .ok (.ifCond .eq 23, 3) := by decide +kernel
theorem dX9_labels_9 : decode cX9_labels 9 = .ok (.iload_n 2, 1) := by decide +kernel
theorem dX9_labels_10 : decode cX9_labels 10 = .ok (.iconst 1, 1) := by decide +kernel
theorem dX9_labels_11 : decode cX9_labels 11 = .ok (.if_icmp .ne 14, 3) := by decide +kernel
theorem dX9_labels_14 : decode cX9_labels 14 = .ok (.aload_n 0, 1) := by decide +kernel
theorem dX9_labels_15 : decode cX9_labels 15 = .ok (.iload_n 1, 1) := by decide +kernel
theorem dX9_labels_16 : decode cX9_labels 16 = .ok (.invokevirtual 95, 3) := by decide +kernel
theorem dX9_labels_19 : decode cX9_labels 19 = .ok (.ifCond .ne 15, 3) := by decide +kernel
theorem dX9_labels_22 : decode cX9_labels 22 = .ok (.goto 7, 3) := by decide +kernel
theorem dX9_labels_25 : decode cX9_labels 25 = .ok (.iload_n 1, 1) := by decide +kernel
theorem dX9_labels_26 : decode cX9_labels 26 = .ok (.ifCond .eq 8, 3) := by decide +kernel
theorem dX9_labels_29 : decode cX9_labels 29 = .ok (.aload_n 0, 1) := by decide +kernel
theorem dX9_labels_30 : decode cX9_labels 30 = .ok (.invokevirtual 118, 3) := by decide +kernel
theorem dX9_labels_33 : decode cX9_labels 33 = .ok (.ireturn, 1) := by decide +kernel
theorem dX9_labels_34 : decode cX9_labels 34 = .ok (.aload_n 0, 1) := by decide +kernel
theorem dX9_labels_35 : decode cX9_labels 35 = .ok (.invokevirtual 238, 3) := by decide +kernel
theorem dX9_labels_38 : decode cX9_labels 38 = .ok (.istore_n 3, 1) := by decide +kernel
theorem dX9_labels_39 : decode cX9_labels 39 = .ok (.aload_n 0, 1) := by decide +kernel
theorem dX9_labels_40 : decode cX9_labels 40 = .ok (.iconst 0, 1) := by decide +kernel
theorem dX9_labels_41 : decode cX9_labels 41 = .ok (.invokevirtual 62, 3) := by decide +kernel
theorem dX9_labels_44 : decode cX9_labels 44 = .ok (.istore 4, 2) := by decide +kernel
theorem dX9_labels_46 : decode cX9_labels 46 = .ok (.iload_n 2, 1) := by decide +kernel
theorem dX9_labels_47 : decode cX9_labels 47 = .ok (.ifCond .ne 5, 3) := by decide +kernel
theorem dX9_labels_50 : decode cX9_labels 50 = .ok (.iload_n 3, 1) := by decide +kernel
theorem dX9_labels_51 : decode cX9_labels 51 = .ok (.ireturn, 1) := by decide +kernel
theorem dX9_labels_52 : decode cX9_labels 52 = .ok (.iload_n 2, 1) := by decide +kernel
theorem dX9_labels_53 : decode cX9_labels 53 = .ok (.iconst 1, 1) := by decide +kernel
theorem dX9_labels_54 : decode cX9_labels 54 = .ok (.if_icmp .ne 53, 3) := by decide +kernel
theorem dX9_labels_57 : decode cX9_labels 57 = .ok (.iconst 0, 1) := by decide +kernel
theorem dX9_labels_58 : decode cX9_labels 58 = .ok (.istore 5, 2) := by decide +kernel
theorem dX9_labels_60 : decode cX9_labels 60 = .ok (.iconst 0, 1) := by decide +kernel
theorem dX9_labels_61 : decode cX9_labels 61 = .ok (.istore 6, 2) := by decide +kernel
theorem dX9_labels_63 : decode cX9_labels 63 = .ok (.iload 6, 2) := by decide +kernel
theorem dX9_labels_65 : decode cX9_labels 65 = .ok (.iload 4, 2) := by decide +kernel
theorem dX9_labels_67 : decode cX9_labels 67 = .ok (.if_icmp .ge 37, 3) := by decide +kernel
theorem dX9_labels_70 : decode cX9_labels 70 = .ok (.iload 5, 2) := by decide +kernel
theorem dX9_labels_72 : decode cX9_labels 72 = .ok (.aload_n 0, 1) := by decide +kernel
theorem dX9_labels_73 : decode cX9_labels 73 = .ok (.getfield 51, 3) := by decide +kernel
theorem dX9_labels_76 : decode cX9_labels 76 = .ok (.bipush 7, 2) := by decide +kernel
theorem dX9_labels_78 : decode cX9_labels 78 = .ok (.iload_n 1, 1) := by decide +kernel
theorem dX9_labels_79 : decode cX9_labels 79 = .ok (.imul, 1) := by decide +kernel
theorem dX9_labels_80 : decode cX9_labels 80 = .ok (.iload 6, 2) := by decide +kernel
theorem dX9_labels_82 : decode cX9_labels 82 = .ok (.iadd, 1) := by decide +kernel
theorem dX9_labels_83 : decode cX9_labels 83 = .ok (.iaload, 1) := by decide +kernel
theorem dX9_labels_84 : decode cX9_labels 84 = .ok (.ifCond .le 10, 3) := by decide +kernel
theorem dX9_labels_87 : decode cX9_labels 87 = .ok (.iconst 1, 1) := by decide +kernel
theorem dX9_labels_88 : decode cX9_labels 88 = .ok (.iload 6, 2) := by decide +kernel
theorem dX9_labels_90 : decode cX9_labels 90 = .ok (.ishl, 1) := by decide +kernel
theorem dX9_labels_91 : decode cX9_labels 91 = .ok (.goto 4, 3) := by decide +kernel
theorem dX9_labels_94 : decode cX9_labels 94 = .ok (.iconst 0, 1) := by decide +kernel
theorem dX9_labels_95 : decode cX9_labels 95 = .ok (.ior, 1) := by decide +kernel
theorem dX9_labels_96 : decode cX9_labels 96 = .ok (.istore 5, 2) := by decide +kernel
theorem dX9_labels_98 : decode cX9_labels 98 = .ok (.iinc 6 1, 3) := by decide +kernel
theorem dX9_labels_101 : decode cX9_labels 101 = .ok (.goto (-38), 3) := by decide +kernel
theorem dX9_labels_104 : decode cX9_labels 104 = .ok (.iload 5, 2) := by decide +kernel
theorem dX9_labels_106 : decode cX9_labels 106 = .ok (.ireturn, 1) := by decide +kernel
theorem dX9_labels_107 : decode cX9_labels 107 = .ok (.iconst (-1), 1) := by decide +kernel
theorem dX9_labels_108 : decode cX9_labels 108 = .ok (.istore 5, 2) := by decide +kernel
theorem dX9_labels_110 : decode cX9_labels 110 = .ok (.iconst 0, 1) := by decide +kernel
theorem dX9_labels_111 : decode cX9_labels 111 = .ok (.istore 6, 2) := by decide +kernel
theorem dX9_labels_113 : decode cX9_labels 113 = .ok (.iconst 0, 1) := by decide +kernel
theorem dX9_labels_114 : decode cX9_labels 114 = .ok (.istore 7, 2) := by decide +kernel
theorem dX9_labels_116 : decode cX9_labels 116 = .ok (.iload 7, 2) := by decide +kernel
theorem dX9_labels_118 : decode cX9_labels 118 = .ok (.iload 4, 2) := by decide +kernel
theorem dX9_labels_120 : decode cX9_labels 120 = .ok (.if_icmp .ge 91, 3) := by decide +kernel
theorem dX9_labels_123 : decode cX9_labels 123 = .ok (.iload_n 3, 1) := by decide +kernel
theorem dX9_labels_124 : decode cX9_labels 124 = .ok (.ifCond .le 87, 3) := by decide +kernel
theorem dX9_labels_127 : decode cX9_labels 127 = .ok (.iconst 0, 1) := by decide +kernel
theorem dX9_labels_128 : decode cX9_labels 128 = .ok (.istore 8, 2) := by decide +kernel
theorem dX9_labels_130 : decode cX9_labels 130 = .ok (.iconst 0, 1) := by decide +kernel
theorem dX9_labels_131 : decode cX9_labels 131 = .ok (.istore 9, 2) := by decide +kernel
theorem dX9_labels_133 : decode cX9_labels 133 = .ok (.iload 9, 2) := by decide +kernel
theorem dX9_labels_135 : decode cX9_labels 135 = .ok (.iload 4, 2) := by decide +kernel
theorem dX9_labels_137 : decode cX9_labels 137 = .ok (.if_icmp .ge 47, 3) := by decide +kernel
theorem dX9_labels_140 : decode cX9_labels 140 = .ok (.aload_n 0, 1) := by decide +kernel
theorem dX9_labels_141 : decode cX9_labels 141 = .ok (.getfield 51, 3) := by decide +kernel
theorem dX9_labels_144 : decode cX9_labels 144 = .ok (.bipush 7, 2) := by decide +kernel
theorem dX9_labels_146 : decode cX9_labels 146 = .ok (.iload 9, 2) := by decide +kernel
theorem dX9_labels_148 : decode cX9_labels 148 = .ok (.imul, 1) := by decide +kernel
theorem dX9_labels_149 : decode cX9_labels 149 = .ok (.iload 7, 2) := by decide +kernel
theorem dX9_labels_151 : decode cX9_labels 151 = .ok (.iadd, 1) := by decide +kernel
theorem dX9_labels_152 : decode cX9_labels 152 = .ok (.iaload, 1) := by decide +kernel
theorem dX9_labels_153 : decode cX9_labels 153 = .ok (.iload 8, 2) := by decide +kernel
theorem dX9_labels_155 : decode cX9_labels 155 = .ok (.if_icmp .le 19, 3) := by decide +kernel
theorem dX9_labels_158 : decode cX9_labels 158 = .ok (.aload_n 0, 1) := by decide +kernel
theorem dX9_labels_159 : decode cX9_labels 159 = .ok (.getfield 51, 3) := by decide +kernel
theorem dX9_labels_162 : decode cX9_labels 162 = .ok (.bipush 7, 2) := by decide +kernel
theorem dX9_labels_164 : decode cX9_labels 164 = .ok (.iload 9, 2) := by decide +kernel
theorem dX9_labels_166 : decode cX9_labels 166 = .ok (.imul, 1) := by decide +kernel
theorem dX9_labels_167 : decode cX9_labels 167 = .ok (.iload 7, 2) := by decide +kernel
theorem dX9_labels_169 : decode cX9_labels 169 = .ok (.iadd, 1) := by decide +kernel
theorem dX9_labels_170 : decode cX9_labels 170 = .ok (.iaload, 1) := by decide +kernel
theorem dX9_labels_171 : decode cX9_labels 171 = .ok (.goto 5, 3) := by decide +kernel
theorem dX9_labels_174 : decode cX9_labels 174 = .ok (.iload 8, 2) := by decide +kernel
theorem dX9_labels_176 : decode cX9_labels 176 = .ok (.istore 8, 2) := by decide +kernel
theorem dX9_labels_178 : decode cX9_labels 178 = .ok (.iinc 9 1, 3) := by decide +kernel
theorem dX9_labels_181 : decode cX9_labels 181 = .ok (.goto (-48), 3) := by decide +kernel
theorem dX9_labels_184 : decode cX9_labels 184 = .ok (.iload 5, 2) := by decide +kernel
theorem dX9_labels_186 : decode cX9_labels 186 = .ok (.iconst (-1), 1) := by decide +kernel
theorem dX9_labels_187 : decode cX9_labels 187 = .ok (.if_icmp .eq 10, 3) := by decide +kernel
theorem dX9_labels_190 : decode cX9_labels 190 = .ok (.iload 8, 2) := by decide +kernel
theorem dX9_labels_192 : decode cX9_labels 192 = .ok (.iload 6, 2) := by decide +kernel
theorem dX9_labels_194 : decode cX9_labels 194 = .ok (.if_icmp .ge 11, 3) := by decide +kernel
theorem dX9_labels_197 : decode cX9_labels 197 = .ok (.iload 7, 2) := by decide +kernel
theorem dX9_labels_199 : decode cX9_labels 199 = .ok (.istore 5, 2) := by decide +kernel
theorem dX9_labels_201 : decode cX9_labels 201 = .ok (.iload 8, 2) := by decide +kernel
theorem dX9_labels_203 : decode cX9_labels 203 = .ok (.istore 6, 2) := by decide +kernel
theorem dX9_labels_205 : decode cX9_labels 205 = .ok (.iinc 7 1, 3) := by decide +kernel
theorem dX9_labels_208 : decode cX9_labels 208 = .ok (.goto (-92), 3) := by decide +kernel
theorem dX9_labels_211 : decode cX9_labels 211 = .ok (.iload 5, 2) := by decide +kernel
theorem dX9_labels_213 : decode cX9_labels 213 = .ok (.ireturn, 1) := by decide +kernel
theorem dX9_evening_0 : decode cX9_evening 0 = .ok (.iload_n 1, 1) := by decide +kernel
theorem dX9_evening_1 : decode cX9_evening 1 = .ok (.iconst 0, 1) := by decide +kernel
theorem dX9_evening_2 : decode cX9_evening 2 = .ok (.bipush 60, 2) := by decide +kernel
theorem dX9_evening_4 : decode cX9_evening 4 = .ok (.invokestatic 66, 3) := by decide +kernel
theorem dX9_evening_7 : decode cX9_evening 7 = .ok (.ifCond .eq 13, 3) := by decide +kernel
theorem dX9_evening_10 : decode cX9_evening 10 = .ok (.iload_n 2, 1) := by decide +kernel
theorem dX9_evening_11 : decode cX9_evening 11 = .ok (.iconst 0, 1) := by decide +kernel
theorem dX9_evening_12 : decode cX9_evening 12 = .ok (.ldc 241, 2) := by decide +kernel
theorem dX9_evening_14 : decode cX9_evening 14 = .ok (.invokestatic 66, 3) := by decide +kernel
theorem dX9_evening_17 : decode cX9_evening 17 = .ok (.ifCond .ne 10, 3) := by decide +kernel
theorem dX9_evening_20 : decode cX9_evening 20 = .ok (.aload_n 0, 1) := by decide +kernel
theorem dX9_evening_21 : decode cX9_evening 21 = .ok (.bipush (-2), 2) := by decide +kernel
theorem dX9_evening_23 : decode cX9_evening 23 = .ok (.invokevirtual 70, 3) := by decide +kernel
theorem dX9_evening_26 : decode cX9_evening 26 = .ok (.ireturn, 1) := by decide +kernel
theorem dX9_evening_27 : decode cX9_evening 27 = .ok (.aload_n 0, 1) := by decide +kernel
theorem dX9_evening_28 : decode cX9_evening 28 = .ok (.iconst 0, 1) := by decide +kernel
theorem dX9_evening_29 : decode cX9_evening 29 = .ok (.invokevirtual 62, 3) := by decide +kernel
theorem dX9_evening_32 : decode cX9_evening 32 = .ok (.ifCond .ne 10, 3) := by decide +kernel
theorem dX9_evening_35 : decode cX9_evening 35 = .ok (.aload_n 0, 1) := by decide +kernel
theorem dX9_evening_36 : decode cX9_evening 36 = .ok (.bipush (-3), 2) := by decide +kernel
theorem dX9_evening_38 : decode cX9_evening 38 = .ok (.invokevirtual 70, 3) := by decide +kernel
theorem dX9_evening_41 : decode cX9_evening 41 = .ok (.ireturn, 1) := by decide +kernel
theorem dX9_evening_42 : decode cX9_evening 42 = .ok (.aload_n 0, 1) := by decide +kernel
theorem dX9_evening_43 : decode cX9_evening 43 = .ok (.invokevirtual 172, 3) := by decide +kernel
theorem dX9_evening_46 : decode cX9_evening 46 = .ok (.iload_n 2, 1) := by decide +kernel
theorem dX9_evening_47 : decode cX9_evening 47 = .ok (.i2l, 1) := by decide +kernel
theorem dX9_evening_48 : decode cX9_evening 48 = .ok (.lstore_n 3, 1) := by decide +kernel
theorem dX9_evening_49 : decode cX9_evening 49 = .ok (.iconst 0, 1) := by decide +kernel
theorem dX9_evening_50 : decode cX9_evening 50 = .ok (.istore 5, 2) := by decide +kernel
theorem dX9_evening_52 : decode cX9_evening 52 = .ok (.iconst 0, 1) := by decide +kernel
theorem dX9_evening_53 : decode cX9_evening 53 = .ok (.istore 6, 2) := by decide +kernel
theorem dX9_evening_55 : decode cX9_evening 55 = .ok (.iconst 0, 1) := by decide +kernel
theorem dX9_evening_56 : decode cX9_evening 56 = .ok (.istore 7, 2) := by decide +kernel
theorem dX9_evening_58 : decode cX9_evening 58 = .ok (.iconst 0, 1) := by decide +kernel
theorem dX9_evening_59 : decode cX9_evening 59 = .ok (.istore 8, 2) := by decide +kernel
theorem dX9_evening_61 : decode cX9_evening 61 = .ok (.iload 8, 2) := by decide +kernel
theorem dX9_evening_63 : decode cX9_evening 63 = .ok (.iload_n 1, 1) := by decide +kernel
theorem dX9_evening_64 : decode cX9_evening 64 = .ok (.if_icmp .ge 97, 3) := by decide +kernel
theorem dX9_evening_67 : decode cX9_evening 67 = .ok (.lload_n 3, 1) := by decide +kernel
theorem dX9_evening_68 : decode cX9_evening 68 = .ok (.ldc2_w 242, 3) := by decide +kernel
theorem dX9_evening_71 : decode cX9_evening 71 = .ok (.lmul, 1) := by decide +kernel
theorem dX9_evening_72 : decode cX9_evening 72 = .ok (.ldc2_w 244, 3) := by decide +kernel
theorem dX9_evening_75 : decode cX9_evening 75 = .ok (.ladd, 1) := by decide +kernel
theorem dX9_evening_76 : decode cX9_evening 76 = .ok (.ldc2_w 246, 3) := by decide +kernel
theorem dX9_evening_79 : decode cX9_evening 79 = .ok (.lrem, 1) := by decide +kernel
theorem dX9_evening_80 : decode cX9_evening 80 = .ok (.lstore_n 3, 1) := by decide +kernel
theorem dX9_evening_81 : decode cX9_evening 81 = .ok (.lload_n 3, 1) := by decide +kernel
theorem dX9_evening_82 : decode cX9_evening 82 = .ok (.ldc2_w 248, 3) := by decide +kernel
theorem dX9_evening_85 : decode cX9_evening 85 = .ok (.ldiv, 1) := by decide +kernel
theorem dX9_evening_86 : decode cX9_evening 86 = .ok (.aload_n 0, 1) := by decide +kernel
theorem dX9_evening_87 : decode cX9_evening 87 = .ok (.iconst 0, 1) := by decide +kernel
theorem dX9_evening_88 : decode cX9_evening 88 = .ok (.invokevirtual 62, 3) := by decide +kernel
theorem dX9_evening_91 : decode cX9_evening 91 = .ok (.i2l, 1) := by decide +kernel
theorem dX9_evening_92 : decode cX9_evening 92 = .ok (.lrem, 1) := by decide +kernel
theorem dX9_evening_93 : decode cX9_evening 93 = .ok (.l2i, 1) := by decide +kernel
theorem dX9_evening_94 : decode cX9_evening 94 = .ok (.istore 9, 2) := by decide +kernel
theorem dX9_evening_96 : decode cX9_evening 96 = .ok (.iload 5, 2) := by decide +kernel
theorem dX9_evening_98 : decode cX9_evening 98 = .ok (.iload 9, 2) := by decide +kernel
theorem dX9_evening_100 : decode cX9_evening 100 = .ok (.ishr, 1) := by decide +kernel
theorem dX9_evening_101 : decode cX9_evening 101 = .ok (.iconst 1, 1) := by decide +kernel
theorem dX9_evening_102 : decode cX9_evening 102 = .ok (.iand, 1) := by decide +kernel
theorem dX9_evening_103 : decode cX9_evening 103 = .ok (.ifCond .ne 52, 3) := by decide +kernel
theorem dX9_evening_106 : decode cX9_evening 106 = .ok (.iload 5, 2) := by decide +kernel
theorem dX9_evening_108 : decode cX9_evening 108 = .ok (.iconst 1, 1) := by decide +kernel
theorem dX9_evening_109 : decode cX9_evening 109 = .ok (.iload 9, 2) := by decide +kernel
theorem dX9_evening_111 : decode cX9_evening 111 = .ok (.ishl, 1) := by decide +kernel
theorem dX9_evening_112 : decode cX9_evening 112 = .ok (.ior, 1) := by decide +kernel
theorem dX9_evening_113 : decode cX9_evening 113 = .ok (.istore 5, 2) := by decide +kernel
theorem dX9_evening_115 : decode cX9_evening 115 = .ok (.aload_n 0, 1) := by decide +kernel
theorem dX9_evening_116 : decode cX9_evening 116 = .ok (.getfield 27, 3) := by decide +kernel
theorem dX9_evening_119 : decode cX9_evening 119 = .ok (.iload 9, 2) := by decide +kernel
theorem dX9_evening_121 : decode cX9_evening 121 = .ok (.iaload, 1) := by decide +kernel
theorem dX9_evening_122 : decode cX9_evening 122 = .ok (.iload 6, 2) := by decide +kernel
theorem dX9_evening_124 : decode cX9_evening 124 = .ok (.iconst (-1), 1) := by decide +kernel
theorem dX9_evening_125 : decode cX9_evening 125 = .ok (.ixor, 1) := by decide +kernel
theorem dX9_evening_126 : decode cX9_evening 126 = .ok (.iand, 1) := by decide +kernel
theorem dX9_evening_127 : decode cX9_evening 127 = .ok (.istore 10, 2) := by decide +kernel
theorem dX9_evening_129 : decode cX9_evening 129 = .ok (.iload 7, 2) := by decide +kernel
theorem dX9_evening_131 : decode cX9_evening 131 = .ok (.iload 10, 2) := by decide +kernel
theorem dX9_evening_133 : decode cX9_evening 133 = .ok (.ifCond .ne 7, 3) := by decide +kernel
theorem dX9_evening_136 : decode cX9_evening 136 = .ok (.iconst 1, 1) := by decide +kernel
theorem dX9_evening_137 : decode cX9_evening 137 = .ok (.goto 4, 3) := by decide +kernel
theorem dX9_evening_140 : decode cX9_evening 140 = .ok (.iconst 0, 1) := by decide +kernel
theorem dX9_evening_141 : decode cX9_evening 141 = .ok (.iadd, 1) := by decide +kernel
theorem dX9_evening_142 : decode cX9_evening 142 = .ok (.istore 7, 2) := by decide +kernel
theorem dX9_evening_144 : decode cX9_evening 144 = .ok (.iload 6, 2) := by decide +kernel
theorem dX9_evening_146 : decode cX9_evening 146 = .ok (.iload 10, 2) := by decide +kernel
theorem dX9_evening_148 : decode cX9_evening 148 = .ok (.iload 10, 2) := by decide +kernel
theorem dX9_evening_150 : decode cX9_evening 150 = .ok (.ineg, 1) := by decide +kernel
theorem dX9_evening_151 : decode cX9_evening 151 = .ok (.iand, 1) := by decide +kernel
theorem dX9_evening_152 : decode cX9_evening 152 = .ok (.ior, 1) := by decide +kernel
theorem dX9_evening_153 : decode cX9_evening 153 = .ok (.istore 6, 2) := by decide +kernel
theorem dX9_evening_155 : decode cX9_evening 155 = .ok (.iinc 8 1, 3) := by decide +kernel
theorem dX9_evening_158 : decode cX9_evening 158 = .ok (.goto (-97), 3) := by decide +kernel
theorem dX9_evening_161 : decode cX9_evening 161 = .ok (.iload 7, 2) := by decide +kernel
theorem dX9_evening_163 : decode cX9_evening 163 = .ok (.ireturn, 1) := by decide +kernel
theorem dX9_part_0 : decode cX9_part 0 = .ok (.iload_n 1, 1) := by decide +kernel
theorem dX9_part_1 : decode cX9_part 1 = .ok (.iconst 0, 1) := by decide +kernel
theorem dX9_part_2 : decode cX9_part 2 = .ok (.iconst 1, 1) := by decide +kernel
theorem dX9_part_3 : decode cX9_part 3 = .ok (.invokestatic 66, 3) := by decide +kernel
theorem dX9_part_6 : decode cX9_part 6 = .ok (.ifCond .ne 11, 3) := by decide +kernel
theorem dX9_part_9 : decode cX9_part 9 = .ok (.aload_n 0, 1) := by decide +kernel
theorem dX9_part_10 : decode cX9_part 10 = .ok (.bipush (-2), 2) := by decide +kernel
theorem dX9_part_12 : decode cX9_part 12 = .ok (.invokevirtual 70, 3) := by decide +kernel
theorem dX9_part_15 : decode cX9_part 15 = .ok (.i2l, 1) := by decide +kernel
theorem dX9_part_16 : decode cX9_part 16 = .ok (.lreturn, 1) := by decide +kernel
theorem dX9_part_17 : decode cX9_part 17 = .ok (.iload_n 1, 1) := by decide +kernel
theorem dX9_part_18 : decode cX9_part 18 = .ok (.ifCond .ne 10, 3) := by decide +kernel
theorem dX9_part_21 : decode cX9_part 21 = .ok (.aload_n 0, 1) := by decide +kernel
theorem dX9_part_22 : decode cX9_part 22 = .ok (.getfield 210, 3) := by decide +kernel
theorem dX9_part_25 : decode cX9_part 25 = .ok (.goto 7, 3) := by decide +kernel
theorem dX9_part_28 : decode cX9_part 28 = .ok (.aload_n 0, 1) := by decide +kernel
theorem dX9_part_29 : decode cX9_part 29 = .ok (.getfield 54, 3) := by decide +kernel
theorem dX9_part_32 : decode cX9_part 32 = .ok (.lreturn, 1) := by decide +kernel
theorem dX9_image_0 : decode cX9_image 0 = .ok (.iload_n 1, 1) := by decide +kernel
theorem dX9_image_1 : decode cX9_image 1 = .ok (.iconst 0, 1) := by decide +kernel
theorem dX9_image_2 : decode cX9_image 2 = .ok (.iconst 1, 1) := by decide +kernel
theorem dX9_image_3 : decode cX9_image 3 = .ok (.invokestatic 66, 3) := by decide +kernel
theorem dX9_image_6 : decode cX9_image 6 = .ok (.ifCond .ne 10, 3) := by decide +kernel
theorem dX9_image_9 : decode cX9_image 9 = .ok (.aload_n 0, 1) := by decide +kernel
theorem dX9_image_10 : decode cX9_image 10 = .ok (.bipush (-2), 2) := by decide +kernel
theorem dX9_image_12 : decode cX9_image 12 = .ok (.invokevirtual 70, 3) := by decide +kernel
theorem dX9_image_15 : decode cX9_image 15 = .ok (.ireturn, 1) := by decide +kernel
theorem dX9_image_16 : decode cX9_image 16 = .ok (.aload_n 0, 1) := by decide +kernel
theorem dX9_image_17 : decode cX9_image 17 = .ok (.iconst 0, 1) := by decide +kernel
theorem dX9_image_18 : decode cX9_image 18 = .ok (.sipush 217, 3) := by decide +kernel
theorem dX9_image_21 : decode cX9_image 21 = .ok (.iconst 1, 1) := by decide +kernel
theorem dX9_image_22 : decode cX9_image 22 = .ok (.iload_n 1, 1) := by decide +kernel
theorem dX9_image_23 : decode cX9_image 23 = .ok (.iadd, 1) := by decide +kernel
theorem dX9_image_24 : decode cX9_image 24 = .ok (.imul, 1) := by decide +kernel
theorem dX9_image_25 : decode cX9_image 25 = .ok (.invokevirtual 166, 3) := by decide +kernel
theorem dX9_image_28 : decode cX9_image 28 = .ok (.aload_n 0, 1) := by decide +kernel
theorem dX9_image_29 : decode cX9_image 29 = .ok (.getfield 13, 3) := by decide +kernel
theorem dX9_image_32 : decode cX9_image 32 = .ok (.iload_n 1, 1) := by decide +kernel
theorem dX9_image_33 : decode cX9_image 33 = .ok (.iconst 1, 1) := by decide +kernel
theorem dX9_image_34 : decode cX9_image 34 = .ok (.bastore, 1) := by decide +kernel
theorem dX9_image_35 : decode cX9_image 35 = .ok (.iconst 1, 1) := by decide +kernel
theorem dX9_image_36 : decode cX9_image 36 = .ok (.ireturn, 1) := by decide +kernel
theorem dX9_from_0 : decode cX9_from 0 = .ok (.iload_n 1, 1) := by decide +kernel
theorem dX9_from_1 : decode cX9_from 1 = .ok (.iconst 0, 1) := by decide +kernel
theorem dX9_from_2 : decode cX9_from 2 = .ok (.iconst 1, 1) := by decide +kernel
theorem dX9_from_3 : decode cX9_from 3 = .ok (.invokestatic 66, 3) := by decide +kernel
theorem dX9_from_6 : decode cX9_from 6 = .ok (.ifCond .ne 10, 3) := by decide +kernel
theorem dX9_from_9 : decode cX9_from 9 = .ok (.aload_n 0, 1) := by decide +kernel
theorem dX9_from_10 : decode cX9_from 10 = .ok (.bipush (-2), 2) := by decide +kernel
theorem dX9_from_12 : decode cX9_from 12 = .ok (.invokevirtual 70, 3) := by decide +kernel
theorem dX9_from_15 : decode cX9_from 15 = .ok (.ireturn, 1) := by decide +kernel
theorem dX9_from_16 : decode cX9_from 16 = .ok (.aload_n 0, 1) := by decide +kernel
theorem dX9_from_17 : decode cX9_from 17 = .ok (.getfield 13, 3) := by decide +kernel
theorem dX9_from_20 : decode cX9_from 20 = .ok (.iload_n 1, 1) := by decide +kernel
theorem dX9_from_21 : decode cX9_from 21 = .ok (.baload, 1) := by decide +kernel
theorem dX9_from_22 : decode cX9_from 22 = .ok (.ifCond .ne 10, 3) := by decide +kernel
theorem dX9_from_25 : decode cX9_from 25 = .ok (.aload_n 0, 1) := by decide +kernel
theorem dX9_from_26 : decode cX9_from 26 = .ok (.bipush (-3), 2) := by decide +kernel
theorem dX9_from_28 : decode cX9_from 28 = .ok (.invokevirtual 70, 3) := by decide +kernel
theorem dX9_from_31 : decode cX9_from 31 = .ok (.ireturn, 1) := by decide +kernel
theorem dX9_from_32 : decode cX9_from 32 = .ok (.aload_n 0, 1) := by decide +kernel
theorem dX9_from_33 : decode cX9_from 33 = .ok (.sipush 217, 3) := by decide +kernel
theorem dX9_from_36 : decode cX9_from 36 = .ok (.iconst 1, 1) := by decide +kernel
theorem dX9_from_37 : decode cX9_from 37 = .ok (.iload_n 1, 1) := by decide +kernel
theorem dX9_from_38 : decode cX9_from 38 = .ok (.iadd, 1) := by decide +kernel
theorem dX9_from_39 : decode cX9_from 39 = .ok (.imul, 1) := by decide +kernel
theorem dX9_from_40 : decode cX9_from 40 = .ok (.iconst 0, 1) := by decide +kernel
theorem dX9_from_41 : decode cX9_from 41 = .ok (.invokevirtual 166, 3) := by decide +kernel
theorem dX9_from_44 : decode cX9_from 44 = .ok (.iconst 1, 1) := by decide +kernel
theorem dX9_from_45 : decode cX9_from 45 = .ok (.ireturn, 1) := by decide +kernel
theorem dX9_status_0 : decode cX9_status 0 = .ok (.iload_n 1, 1) := by decide +kernel
theorem dX9_status_1 : decode cX9_status 1 = .ok (.iconst 0, 1) := by decide +kernel
theorem dX9_status_2 : decode cX9_status 2 = .ok (.iconst 2, 1) := by decide +kernel
theorem dX9_status_3 : decode cX9_status 3 = .ok (.invokestatic 66, 3) := by decide +kernel
theorem dX9_status_6 : decode cX9_status 6 = .ok (.ifCond .ne 12, 3) := by decide +kernel
theorem dX9_status_9 : decode cX9_status 9 = .ok (.aload_n 0, 1) := by decide +kernel
theorem dX9_status_10 : decode cX9_status 10 = .ok (.bipush (-2), 2) := by decide +kernel
theorem dX9_status_12 : decode cX9_status 12 = .ok (.invokevirtual 70, 3) := by decide +kernel
theorem dX9_status_15 : decode cX9_status 15 = .ok (.pop, 1) := by decide +kernel
theorem dX9_status_16 : decode cX9_status 16 = .ok (.iconst (-1), 1) := by decide +kernel
theorem dX9_status_17 : decode cX9_status 17 = .ok (.ireturn, 1) := by decide +kernel
theorem dX9_status_18 : decode cX9_status 18 = .ok (.aload_n 0, 1) := by decide +kernel
theorem dX9_status_19 : decode cX9_status 19 = .ok (.getfield 17, 3) := by decide +kernel
theorem dX9_status_22 : decode cX9_status 22 = .ok (.iload_n 1, 1) := by decide +kernel
theorem dX9_status_23 : decode cX9_status 23 = .ok (.iaload, 1) := by decide +kernel
theorem dX9_status_24 : decode cX9_status 24 = .ok (.ireturn, 1) := by decide +kernel
theorem dX9_counted_0 : decode cX9_counted 0 = .ok (.iconst 0, 1) := by decide +kernel
theorem dX9_counted_1 : decode cX9_counted 1 = .ok (.istore_n 2, 1) := by decide +kernel
theorem dX9_counted_2 : decode cX9_counted 2 = .ok (.iconst 0, 1) := by decide +kernel
theorem dX9_counted_3 : decode cX9_counted 3 = .ok (.istore_n 3, 1) := by decide +kernel
theorem dX9_counted_4 : decode cX9_counted 4 = .ok (.iload_n 3, 1) := by decide +kernel
theorem dX9_counted_5 : decode cX9_counted 5 = .ok (.aload_n 0, 1) := by decide +kernel
theorem dX9_counted_6 : decode cX9_counted 6 = .ok (.iconst 0, 1) := by decide +kernel
theorem dX9_counted_7 : decode cX9_counted 7 = .ok (.invokevirtual 62, 3) := by decide +kernel
theorem dX9_counted_10 : decode cX9_counted 10 = .ok (.if_icmp .ge 27, 3) := by decide +kernel
theorem dX9_counted_13 : decode cX9_counted 13 = .ok (.iload_n 2, 1) := by decide +kernel
theorem dX9_counted_14 : decode cX9_counted 14 = .ok (.aload_n 0, 1) := by decide +kernel
theorem dX9_counted_15 : decode cX9_counted 15 = .ok (.iload_n 3, 1) := by decide +kernel
theorem dX9_counted_16 : decode cX9_counted 16 = .ok (.iconst 4, 1) := by decide +kernel
theorem dX9_counted_17 : decode cX9_counted 17 = .ok (.invokevirtual 77, 3) := by decide +kernel
theorem dX9_counted_20 : decode cX9_counted 20 = .ok (.iconst (-1), 1) := by decide +kernel
theorem dX9_counted_21 : decode cX9_counted 21 = .ok (.if_icmp .ne 7, 3) := by decide +kernel
theorem dX9_counted_24 : decode cX9_counted 24 = .ok (.iconst 0, 1) := by decide +kernel
theorem dX9_counted_25 : decode cX9_counted 25 = .ok (.goto 4, 3) := by decide +kernel
theorem dX9_counted_28 : decode cX9_counted 28 = .ok (.iconst 1, 1) := by decide +kernel
theorem dX9_counted_29 : decode cX9_counted 29 = .ok (.iadd, 1) := by decide +kernel
theorem dX9_counted_30 : decode cX9_counted 30 = .ok (.istore_n 2, 1) := by decide +kernel
theorem dX9_counted_31 : decode cX9_counted 31 = .ok (.iinc 3 1, 3) := by decide +kernel
theorem dX9_counted_34 : decode cX9_counted 34 = .ok (.goto (-30), 3) := by decide +kernel
theorem dX9_counted_37 : decode cX9_counted 37 = .ok (.iload_n 1, 1) := by decide +kernel
theorem dX9_counted_38 : decode cX9_counted 38 = .ok (.tableswitch 80 0 6 #[42, 48, 54, 56, 62, 68, 74], 42) := by decide +kernel
theorem dX9_counted_80 : decode cX9_counted 80 = .ok (.aload_n 0, 1) := by decide +kernel
theorem dX9_counted_81 : decode cX9_counted 81 = .ok (.iconst 0, 1) := by decide +kernel
theorem dX9_counted_82 : decode cX9_counted 82 = .ok (.invokevirtual 62, 3) := by decide +kernel
theorem dX9_counted_85 : decode cX9_counted 85 = .ok (.ireturn, 1) := by decide +kernel
theorem dX9_counted_86 : decode cX9_counted 86 = .ok (.aload_n 0, 1) := by decide +kernel
theorem dX9_counted_87 : decode cX9_counted 87 = .ok (.iconst 1, 1) := by decide +kernel
theorem dX9_counted_88 : decode cX9_counted 88 = .ok (.invokevirtual 62, 3) := by decide +kernel
theorem dX9_counted_91 : decode cX9_counted 91 = .ok (.ireturn, 1) := by decide +kernel
theorem dX9_counted_92 : decode cX9_counted 92 = .ok (.iload_n 2, 1) := by decide +kernel
theorem dX9_counted_93 : decode cX9_counted 93 = .ok (.ireturn, 1) := by decide +kernel
theorem dX9_counted_94 : decode cX9_counted 94 = .ok (.aload_n 0, 1) := by decide +kernel
theorem dX9_counted_95 : decode cX9_counted 95 = .ok (.iconst 2, 1) := by decide +kernel
theorem dX9_counted_96 : decode cX9_counted 96 = .ok (.invokevirtual 62, 3) := by decide +kernel
theorem dX9_counted_99 : decode cX9_counted 99 = .ok (.ireturn, 1) := by decide +kernel
theorem dX9_counted_100 : decode cX9_counted 100 = .ok (.aload_n 0, 1) := by decide +kernel
theorem dX9_counted_101 : decode cX9_counted 101 = .ok (.iconst 3, 1) := by decide +kernel
theorem dX9_counted_102 : decode cX9_counted 102 = .ok (.invokevirtual 62, 3) := by decide +kernel
theorem dX9_counted_105 : decode cX9_counted 105 = .ok (.ireturn, 1) := by decide +kernel
theorem dX9_counted_106 : decode cX9_counted 106 = .ok (.aload_n 0, 1) := by decide +kernel
theorem dX9_counted_107 : decode cX9_counted 107 = .ok (.iconst 4, 1) := by decide +kernel
theorem dX9_counted_108 : decode cX9_counted 108 = .ok (.invokevirtual 62, 3) := by decide +kernel
theorem dX9_counted_111 : decode cX9_counted 111 = .ok (.ireturn, 1) := by decide +kernel
theorem dX9_counted_112 : decode cX9_counted 112 = .ok (.aload_n 0, 1) := by decide +kernel
theorem dX9_counted_113 : decode cX9_counted 113 = .ok (.iconst 5, 1) := by decide +kernel
theorem dX9_counted_114 : decode cX9_counted 114 = .ok (.invokevirtual 62, 3) := by decide +kernel
theorem dX9_counted_117 : decode cX9_counted 117 = .ok (.ireturn, 1) := by decide +kernel
theorem dX9_counted_118 : decode cX9_counted 118 = .ok (.aload_n 0, 1) := by decide +kernel
theorem dX9_counted_119 : decode cX9_counted 119 = .ok (.getfield 129, 3) := by decide +kernel
theorem dX9_counted_122 : decode cX9_counted 122 = .ok (.ireturn, 1) := by decide +kernel
theorem dX9_count_0 : decode cX9_count 0 = .ok (.iload_n 1, 1) := by decide +kernel
theorem dX9_count_1 : decode cX9_count 1 = .ok (.iconst 0, 1) := by decide +kernel
theorem dX9_count_2 : decode cX9_count 2 = .ok (.bipush 7, 2) := by decide +kernel
theorem dX9_count_4 : decode cX9_count 4 = .ok (.invokestatic 66, 3) := by decide +kernel
theorem dX9_count_7 : decode cX9_count 7 = .ok (.ifCond .eq 11, 3) := by decide +kernel
theorem dX9_count_10 : decode cX9_count 10 = .ok (.aload_n 0, 1) := by decide +kernel
theorem dX9_count_11 : decode cX9_count 11 = .ok (.iload_n 1, 1) := by decide +kernel
theorem dX9_count_12 : decode cX9_count 12 = .ok (.invokevirtual 250, 3) := by decide +kernel
theorem dX9_count_15 : decode cX9_count 15 = .ok (.goto 9, 3) := by decide +kernel
theorem dX9_count_18 : decode cX9_count 18 = .ok (.aload_n 0, 1) := by decide +kernel
theorem dX9_count_19 : decode cX9_count 19 = .ok (.bipush (-2), 2) := by decide +kernel
theorem dX9_count_21 : decode cX9_count 21 = .ok (.invokevirtual 70, 3) := by decide +kernel
theorem dX9_count_24 : decode cX9_count 24 = .ok (.ireturn, 1) := by decide +kernel
theorem dX9_digested_0 : decode cX9_digested 0 = .ok (.lload_n 1, 1) := by decide +kernel
theorem dX9_digested_1 : decode cX9_digested 1 = .ok (.lstore 5, 2) := by decide +kernel
theorem dX9_digested_3 : decode cX9_digested 3 = .ok (.iconst 0, 1) := by decide +kernel
theorem dX9_digested_4 : decode cX9_digested 4 = .ok (.istore 7, 2) := by decide +kernel
theorem dX9_digested_6 : decode cX9_digested 6 = .ok (.iload 7, 2) := by decide +kernel
theorem dX9_digested_8 : decode cX9_digested 8 = .ok (.iload 4, 2) := by decide +kernel
theorem dX9_digested_10 : decode cX9_digested 10 = .ok (.if_icmp .ge 27, 3) := by decide +kernel
theorem dX9_digested_13 : decode cX9_digested 13 = .ok (.ldc2_w 253, 3) := by decide +kernel
theorem dX9_digested_16 : decode cX9_digested 16 = .ok (.lload 5, 2) := by decide +kernel
theorem dX9_digested_18 : decode cX9_digested 18 = .ok (.lmul, 1) := by decide +kernel
theorem dX9_digested_19 : decode cX9_digested 19 = .ok (.aload_n 0, 1) := by decide +kernel
theorem dX9_digested_20 : decode cX9_digested 20 = .ok (.iload_n 3, 1) := by decide +kernel
theorem dX9_digested_21 : decode cX9_digested 21 = .ok (.iload 7, 2) := by decide +kernel
theorem dX9_digested_23 : decode cX9_digested 23 = .ok (.iadd, 1) := by decide +kernel
theorem dX9_digested_24 : decode cX9_digested 24 = .ok (.invokevirtual 62, 3) := by decide +kernel
theorem dX9_digested_27 : decode cX9_digested 27 = .ok (.i2l, 1) := by decide +kernel
theorem dX9_digested_28 : decode cX9_digested 28 = .ok (.ladd, 1) := by decide +kernel
theorem dX9_digested_29 : decode cX9_digested 29 = .ok (.lstore 5, 2) := by decide +kernel
theorem dX9_digested_31 : decode cX9_digested 31 = .ok (.iinc 7 1, 3) := by decide +kernel
theorem dX9_digested_34 : decode cX9_digested 34 = .ok (.goto (-28), 3) := by decide +kernel
theorem dX9_digested_37 : decode cX9_digested 37 = .ok (.lload 5, 2) := by decide +kernel
theorem dX9_digested_39 : decode cX9_digested 39 = .ok (.lreturn, 1) := by decide +kernel
theorem dX9_digest_0 : decode cX9_digest 0 = .ok (.ldc2_w 255, 3) := by decide +kernel
theorem dX9_digest_3 : decode cX9_digest 3 = .ok (.lstore_n 1, 1) := by decide +kernel
theorem dX9_digest_4 : decode cX9_digest 4 = .ok (.iconst 0, 1) := by decide +kernel
theorem dX9_digest_5 : decode cX9_digest 5 = .ok (.istore_n 3, 1) := by decide +kernel
theorem dX9_digest_6 : decode cX9_digest 6 = .ok (.iload_n 3, 1) := by decide +kernel
theorem dX9_digest_7 : decode cX9_digest 7 = .ok (.bipush 8, 2) := by decide +kernel
theorem dX9_digest_9 : decode cX9_digest 9 = .ok (.if_icmp .ge 22, 3) := by decide +kernel
theorem dX9_digest_12 : decode cX9_digest 12 = .ok (.ldc2_w 253, 3) := by decide +kernel
theorem dX9_digest_15 : decode cX9_digest 15 = .ok (.lload_n 1, 1) := by decide +kernel
theorem dX9_digest_16 : decode cX9_digest 16 = .ok (.lmul, 1) := by decide +kernel
theorem dX9_digest_17 : decode cX9_digest 17 = .ok (.aload_n 0, 1) := by decide +kernel
theorem dX9_digest_18 : decode cX9_digest 18 = .ok (.iload_n 3, 1) := by decide +kernel
theorem dX9_digest_19 : decode cX9_digest 19 = .ok (.invokevirtual 250, 3) := by decide +kernel
theorem dX9_digest_22 : decode cX9_digest 22 = .ok (.i2l, 1) := by decide +kernel
theorem dX9_digest_23 : decode cX9_digest 23 = .ok (.ladd, 1) := by decide +kernel
theorem dX9_digest_24 : decode cX9_digest 24 = .ok (.lstore_n 1, 1) := by decide +kernel
theorem dX9_digest_25 : decode cX9_digest 25 = .ok (.iinc 3 1, 3) := by decide +kernel
theorem dX9_digest_28 : decode cX9_digest 28 = .ok (.goto (-22), 3) := by decide +kernel
theorem dX9_digest_31 : decode cX9_digest 31 = .ok (.aload_n 0, 1) := by decide +kernel
theorem dX9_digest_32 : decode cX9_digest 32 = .ok (.lload_n 1, 1) := by decide +kernel
theorem dX9_digest_33 : decode cX9_digest 33 = .ok (.bipush 6, 2) := by decide +kernel
theorem dX9_digest_35 : decode cX9_digest 35 = .ok (.iconst 5, 1) := by decide +kernel
theorem dX9_digest_36 : decode cX9_digest 36 = .ok (.aload_n 0, 1) := by decide +kernel
theorem dX9_digest_37 : decode cX9_digest 37 = .ok (.iconst 0, 1) := by decide +kernel
theorem dX9_digest_38 : decode cX9_digest 38 = .ok (.invokevirtual 62, 3) := by decide +kernel
theorem dX9_digest_41 : decode cX9_digest 41 = .ok (.imul, 1) := by decide +kernel
theorem dX9_digest_42 : decode cX9_digest 42 = .ok (.invokevirtual 257, 3) := by decide +kernel
theorem dX9_digest_45 : decode cX9_digest 45 = .ok (.lstore_n 1, 1) := by decide +kernel
theorem dX9_digest_46 : decode cX9_digest 46 = .ok (.aload_n 0, 1) := by decide +kernel
theorem dX9_digest_47 : decode cX9_digest 47 = .ok (.lload_n 1, 1) := by decide +kernel
theorem dX9_digest_48 : decode cX9_digest 48 = .ok (.bipush 41, 2) := by decide +kernel
theorem dX9_digest_50 : decode cX9_digest 50 = .ok (.iconst 4, 1) := by decide +kernel
theorem dX9_digest_51 : decode cX9_digest 51 = .ok (.aload_n 0, 1) := by decide +kernel
theorem dX9_digest_52 : decode cX9_digest 52 = .ok (.iconst 1, 1) := by decide +kernel
theorem dX9_digest_53 : decode cX9_digest 53 = .ok (.invokevirtual 62, 3) := by decide +kernel
theorem dX9_digest_56 : decode cX9_digest 56 = .ok (.imul, 1) := by decide +kernel
theorem dX9_digest_57 : decode cX9_digest 57 = .ok (.invokevirtual 257, 3) := by decide +kernel
theorem dX9_digest_60 : decode cX9_digest 60 = .ok (.lstore_n 1, 1) := by decide +kernel
theorem dX9_digest_61 : decode cX9_digest 61 = .ok (.aload_n 0, 1) := by decide +kernel
theorem dX9_digest_62 : decode cX9_digest 62 = .ok (.lload_n 1, 1) := by decide +kernel
theorem dX9_digest_63 : decode cX9_digest 63 = .ok (.bipush 69, 2) := by decide +kernel
theorem dX9_digest_65 : decode cX9_digest 65 = .ok (.iconst 4, 1) := by decide +kernel
theorem dX9_digest_66 : decode cX9_digest 66 = .ok (.aload_n 0, 1) := by decide +kernel
theorem dX9_digest_67 : decode cX9_digest 67 = .ok (.iconst 2, 1) := by decide +kernel
theorem dX9_digest_68 : decode cX9_digest 68 = .ok (.invokevirtual 62, 3) := by decide +kernel
theorem dX9_digest_71 : decode cX9_digest 71 = .ok (.imul, 1) := by decide +kernel
theorem dX9_digest_72 : decode cX9_digest 72 = .ok (.invokevirtual 257, 3) := by decide +kernel
theorem dX9_digest_75 : decode cX9_digest 75 = .ok (.lstore_n 1, 1) := by decide +kernel
theorem dX9_digest_76 : decode cX9_digest 76 = .ok (.aload_n 0, 1) := by decide +kernel
theorem dX9_digest_77 : decode cX9_digest 77 = .ok (.lload_n 1, 1) := by decide +kernel
theorem dX9_digest_78 : decode cX9_digest 78 = .ok (.bipush 85, 2) := by decide +kernel
theorem dX9_digest_80 : decode cX9_digest 80 = .ok (.iconst 3, 1) := by decide +kernel
theorem dX9_digest_81 : decode cX9_digest 81 = .ok (.aload_n 0, 1) := by decide +kernel
theorem dX9_digest_82 : decode cX9_digest 82 = .ok (.iconst 3, 1) := by decide +kernel
theorem dX9_digest_83 : decode cX9_digest 83 = .ok (.invokevirtual 62, 3) := by decide +kernel
theorem dX9_digest_86 : decode cX9_digest 86 = .ok (.imul, 1) := by decide +kernel
theorem dX9_digest_87 : decode cX9_digest 87 = .ok (.invokevirtual 257, 3) := by decide +kernel
theorem dX9_digest_90 : decode cX9_digest 90 = .ok (.lstore_n 1, 1) := by decide +kernel
theorem dX9_digest_91 : decode cX9_digest 91 = .ok (.aload_n 0, 1) := by decide +kernel
theorem dX9_digest_92 : decode cX9_digest 92 = .ok (.lload_n 1, 1) := by decide +kernel
theorem dX9_digest_93 : decode cX9_digest 93 = .ok (.bipush 109, 2) := by decide +kernel
theorem dX9_digest_95 : decode cX9_digest 95 = .ok (.iconst 3, 1) := by decide +kernel
theorem dX9_digest_96 : decode cX9_digest 96 = .ok (.aload_n 0, 1) := by decide +kernel
theorem dX9_digest_97 : decode cX9_digest 97 = .ok (.iconst 4, 1) := by decide +kernel
theorem dX9_digest_98 : decode cX9_digest 98 = .ok (.invokevirtual 62, 3) := by decide +kernel
theorem dX9_digest_101 : decode cX9_digest 101 = .ok (.imul, 1) := by decide +kernel
theorem dX9_digest_102 : decode cX9_digest 102 = .ok (.invokevirtual 257, 3) := by decide +kernel
theorem dX9_digest_105 : decode cX9_digest 105 = .ok (.lstore_n 1, 1) := by decide +kernel
theorem dX9_digest_106 : decode cX9_digest 106 = .ok (.ldc2_w 253, 3) := by decide +kernel
theorem dX9_digest_109 : decode cX9_digest 109 = .ok (.lload_n 1, 1) := by decide +kernel
theorem dX9_digest_110 : decode cX9_digest 110 = .ok (.lmul, 1) := by decide +kernel
theorem dX9_digest_111 : decode cX9_digest 111 = .ok (.aload_n 0, 1) := by decide +kernel
theorem dX9_digest_112 : decode cX9_digest 112 = .ok (.getfield 210, 3) := by decide +kernel
theorem dX9_digest_115 : decode cX9_digest 115 = .ok (.ladd, 1) := by decide +kernel
theorem dX9_digest_116 : decode cX9_digest 116 = .ok (.lstore_n 1, 1) := by decide +kernel
theorem dX9_digest_117 : decode cX9_digest 117 = .ok (.ldc2_w 253, 3) := by decide +kernel
theorem dX9_digest_120 : decode cX9_digest 120 = .ok (.lload_n 1, 1) := by decide +kernel
theorem dX9_digest_121 : decode cX9_digest 121 = .ok (.lmul, 1) := by decide +kernel
theorem dX9_digest_122 : decode cX9_digest 122 = .ok (.aload_n 0, 1) := by decide +kernel
theorem dX9_digest_123 : decode cX9_digest 123 = .ok (.getfield 54, 3) := by decide +kernel
theorem dX9_digest_126 : decode cX9_digest 126 = .ok (.ladd, 1) := by decide +kernel
theorem dX9_digest_127 : decode cX9_digest 127 = .ok (.lreturn, 1) := by decide +kernel
