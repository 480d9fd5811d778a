theorem dX1_openAfter_50 : decode cX1_openAfter 50 = .ok (.lrem, 1) := by decide +kernel
theorem dX1_openAfter_51 : decode cX1_openAfter 51 = .ok (.lstore 4, 2) := by decide +kernel
theorem dX1_openAfter_53 : decode cX1_openAfter 53 = .ok (.lload 4, 2) := by decide +kernel
theorem dX1_openAfter_55 : decode cX1_openAfter 55 = .ok (.ldc2_w 111, 3) := by decide +kernel
theorem dX1_openAfter_58 : decode cX1_openAfter 58 = .ok (.ldiv, 1) := by decide +kernel
theorem dX1_openAfter_59 : decode cX1_openAfter 59 = .ok (.iload_n 3, 1) := by decide +kernel
theorem dX1_openAfter_60 : decode cX1_openAfter 60 = .ok (.i2l, 1) := by decide +kernel
theorem dX1_openAfter_61 : decode cX1_openAfter 61 = .ok (.lrem, 1) := by decide +kernel
theorem dX1_openAfter_62 : decode cX1_openAfter 62 = .ok (.l2i, 1) := by decide +kernel
theorem dX1_openAfter_63 : decode cX1_openAfter 63 = .ok (.istore 10, 2) := by decide +kernel
theorem dX1_openAfter_65 : decode cX1_openAfter 65 = .ok (.iload 6, 2) := by decide +kernel
theorem dX1_openAfter_67 : decode cX1_openAfter 67 = .ok (.iload 10, 2) := by decide +kernel
theorem dX1_openAfter_69 : decode cX1_openAfter 69 = .ok (.ishr, 1) := by decide +kernel
theorem dX1_openAfter_70 : decode cX1_openAfter 70 = .ok (.iconst 1, 1) := by decide +kernel
theorem dX1_openAfter_71 : decode cX1_openAfter 71 = .ok (.iand, 1) := by decide +kernel
theorem dX1_openAfter_72 : decode cX1_openAfter 72 = .ok (.ifCond .ne 50, 3) := by decide +kernel
theorem dX1_openAfter_75 : decode cX1_openAfter 75 = .ok (.iload 6, 2) := by decide +kernel
theorem dX1_openAfter_77 : decode cX1_openAfter 77 = .ok (.iconst 1, 1) := by decide +kernel
theorem dX1_openAfter_78 : decode cX1_openAfter 78 = .ok (.iload 10, 2) := by decide +kernel
theorem dX1_openAfter_80 : decode cX1_openAfter 80 = .ok (.ishl, 1) := by decide +kernel
theorem dX1_openAfter_81 : decode cX1_openAfter 81 = .ok (.ior, 1) := by decide +kernel
theorem dX1_openAfter_82 : decode cX1_openAfter 82 = .ok (.istore 6, 2) := by decide +kernel
theorem dX1_openAfter_84 : decode cX1_openAfter 84 = .ok (.aload_n 0, 1) := by decide +kernel
theorem dX1_openAfter_85 : decode cX1_openAfter 85 = .ok (.iload 10, 2) := by decide +kernel
theorem dX1_openAfter_87 : decode cX1_openAfter 87 = .ok (.invokevirtual 113, 3) := by decide +kernel
theorem dX1_openAfter_90 : decode cX1_openAfter 90 = .ok (.iload 7, 2) := by decide +kernel
theorem dX1_openAfter_92 : decode cX1_openAfter 92 = .ok (.iconst (-1), 1) := by decide +kernel
theorem dX1_openAfter_93 : decode cX1_openAfter 93 = .ok (.ixor, 1) := by decide +kernel
theorem dX1_openAfter_94 : decode cX1_openAfter 94 = .ok (.iand, 1) := by decide +kernel
theorem dX1_openAfter_95 : decode cX1_openAfter 95 = .ok (.istore 11, 2) := by decide +kernel
theorem dX1_openAfter_97 : decode cX1_openAfter 97 = .ok (.iload 7, 2) := by decide +kernel
theorem dX1_openAfter_99 : decode cX1_openAfter 99 = .ok (.iload 11, 2) := by decide +kernel
theorem dX1_openAfter_101 : decode cX1_openAfter 101 = .ok (.invokestatic 116, 3) := by decide +kernel
theorem dX1_openAfter_104 : decode cX1_openAfter 104 = .ok (.ior, 1) := by decide +kernel
theorem dX1_openAfter_105 : decode cX1_openAfter 105 = .ok (.istore 7, 2) := by decide +kernel
theorem dX1_openAfter_107 : decode cX1_openAfter 107 = .ok (.iload 8, 2) := by decide +kernel
theorem dX1_openAfter_109 : decode cX1_openAfter 109 = .ok (.iload 11, 2) := by decide +kernel
theorem dX1_openAfter_111 : decode cX1_openAfter 111 = .ok (.ifCond .ne 7, 3) := by decide +kernel
theorem dX1_openAfter_114 : decode cX1_openAfter 114 = .ok (.iconst 1, 1) := by decide +kernel
theorem dX1_openAfter_115 : decode cX1_openAfter 115 = .ok (.goto 4, 3) := by decide +kernel
theorem dX1_openAfter_118 : decode cX1_openAfter 118 = .ok (.iconst 0, 1) := by decide +kernel
theorem dX1_openAfter_119 : decode cX1_openAfter 119 = .ok (.iadd, 1) := by decide +kernel
theorem dX1_openAfter_120 : decode cX1_openAfter 120 = .ok (.istore 8, 2) := by decide +kernel
theorem dX1_openAfter_122 : decode cX1_openAfter 122 = .ok (.iinc 9 1, 3) := by decide +kernel
theorem dX1_openAfter_125 : decode cX1_openAfter 125 = .ok (.goto (-94), 3) := by decide +kernel
theorem dX1_openAfter_128 : decode cX1_openAfter 128 = .ok (.iload 8, 2) := by decide +kernel
theorem dX1_openAfter_130 : decode cX1_openAfter 130 = .ok (.ireturn, 1) := by decide +kernel
theorem dX2_init_0 : decode cX2_init 0 = .ok (.aload_n 0, 1) := by decide +kernel
theorem dX2_init_1 : decode cX2_init 1 = .ok (.invokespecial 3, 3) := by decide +kernel
theorem dX2_init_4 : decode cX2_init 4 = .ok (.aload_n 0, 1) := by decide +kernel
theorem dX2_init_5 : decode cX2_init 5 = .ok (.bipush 7, 2) := by decide +kernel
theorem dX2_init_7 : decode cX2_init 7 = .ok (.newarray .int, 2) := by decide +kernel
theorem dX2_init_9 : decode cX2_init 9 = .ok (.putfield 9, 3) := by decide +kernel
theorem dX2_init_12 : decode cX2_init 12 = .ok (.aload_n 0, 1) := by decide +kernel
theorem dX2_init_13 : decode cX2_init 13 = .ok (.bipush 7, 2) := by decide +kernel
theorem dX2_init_15 : decode cX2_init 15 = .ok (.newarray .int, 2) := by decide +kernel
theorem dX2_init_17 : decode cX2_init 17 = .ok (.putfield 15, 3) := by decide +kernel
theorem dX2_init_20 : decode cX2_init 20 = .ok (.aload_n 0, 1) := by decide +kernel
theorem dX2_init_21 : decode cX2_init 21 = .ok (.bipush 7, 2) := by decide +kernel
theorem dX2_init_23 : decode cX2_init 23 = .ok (.newarray .int, 2) := by decide +kernel
theorem dX2_init_25 : decode cX2_init 25 = .ok (.putfield 18, 3) := by decide +kernel
theorem dX2_init_28 : decode cX2_init 28 = .ok (.aload_n 0, 1) := by decide +kernel
theorem dX2_init_29 : decode cX2_init 29 = .ok (.bipush 7, 2) := by decide +kernel
theorem dX2_init_31 : decode cX2_init 31 = .ok (.newarray .int, 2) := by decide +kernel
theorem dX2_init_33 : decode cX2_init 33 = .ok (.putfield 21, 3) := by decide +kernel
theorem dX2_init_36 : decode cX2_init 36 = .ok (.aload_n 0, 1) := by decide +kernel
theorem dX2_init_37 : decode cX2_init 37 = .ok (.bipush 7, 2) := by decide +kernel
theorem dX2_init_39 : decode cX2_init 39 = .ok (.newarray .int, 2) := by decide +kernel
theorem dX2_init_41 : decode cX2_init 41 = .ok (.putfield 24, 3) := by decide +kernel
theorem dX2_init_44 : decode cX2_init 44 = .ok (.aload_n 0, 1) := by decide +kernel
theorem dX2_init_45 : decode cX2_init 45 = .ok (.bipush 7, 2) := by decide +kernel
theorem dX2_init_47 : decode cX2_init 47 = .ok (.newarray .int, 2) := by decide +kernel
theorem dX2_init_49 : decode cX2_init 49 = .ok (.putfield 27, 3) := by decide +kernel
theorem dX2_init_52 : decode cX2_init 52 = .ok (.aload_n 0, 1) := by decide +kernel
theorem dX2_init_53 : decode cX2_init 53 = .ok (.bipush 49, 2) := by decide +kernel
theorem dX2_init_55 : decode cX2_init 55 = .ok (.newarray .int, 2) := by decide +kernel
theorem dX2_init_57 : decode cX2_init 57 = .ok (.putfield 30, 3) := by decide +kernel
theorem dX2_init_60 : decode cX2_init 60 = .ok (.return_, 1) := by decide +kernel
theorem dX2_lookAt_0 : decode cX2_lookAt 0 = .ok (.aload_n 0, 1) := by decide +kernel
theorem dX2_lookAt_1 : decode cX2_lookAt 1 = .ok (.aload_n 1, 1) := by decide +kernel
theorem dX2_lookAt_2 : decode cX2_lookAt 2 = .ok (.getfield 33, 3) := by decide +kernel
theorem dX2_lookAt_5 : decode cX2_lookAt 5 = .ok (.invokevirtual 39, 3) := by decide +kernel
theorem dX2_lookAt_8 : decode cX2_lookAt 8 = .ok (.bipush 7, 2) := by decide +kernel
theorem dX2_lookAt_10 : decode cX2_lookAt 10 = .ok (.invokestatic 45, 3) := by decide +kernel
theorem dX2_lookAt_13 : decode cX2_lookAt 13 = .ok (.putfield 51, 3) := by decide +kernel
theorem dX2_lookAt_16 : decode cX2_lookAt 16 = .ok (.iconst 0, 1) := by decide +kernel
theorem dX2_lookAt_17 : decode cX2_lookAt 17 = .ok (.istore_n 2, 1) := by decide +kernel
theorem dX2_lookAt_18 : decode cX2_lookAt 18 = .ok (.iload_n 2, 1) := by decide +kernel
theorem dX2_lookAt_19 : decode cX2_lookAt 19 = .ok (.aload_n 0, 1) := by decide +kernel
theorem dX2_lookAt_20 : decode cX2_lookAt 20 = .ok (.getfield 51, 3) := by decide +kernel
theorem dX2_lookAt_23 : decode cX2_lookAt 23 = .ok (.if_icmp .ge 53, 3) := by decide +kernel
theorem dX2_lookAt_26 : decode cX2_lookAt 26 = .ok (.aload_n 0, 1) := by decide +kernel
theorem dX2_lookAt_27 : decode cX2_lookAt 27 = .ok (.getfield 9, 3) := by decide +kernel
theorem dX2_lookAt_30 : decode cX2_lookAt 30 = .ok (.iload_n 2, 1) := by decide +kernel
theorem dX2_lookAt_31 : decode cX2_lookAt 31 = .ok (.aload_n 1, 1) := by decide +kernel
theorem dX2_lookAt_32 : decode cX2_lookAt 32 = .ok (.getfield 33, 3) := by decide +kernel
theorem dX2_lookAt_35 : decode cX2_lookAt 35 = .ok (.iload_n 2, 1) := by decide +kernel
theorem dX2_lookAt_36 : decode cX2_lookAt 36 = .ok (.iconst 1, 1) := by decide +kernel
theorem dX2_lookAt_37 : decode cX2_lookAt 37 = .ok (.invokevirtual 54, 3) := by decide +kernel
theorem dX2_lookAt_40 : decode cX2_lookAt 40 = .ok (.iastore, 1) := by decide +kernel
theorem dX2_lookAt_41 : decode cX2_lookAt 41 = .ok (.aload_n 0, 1) := by decide +kernel
theorem dX2_lookAt_42 : decode cX2_lookAt 42 = .ok (.getfield 15, 3) := by decide +kernel
theorem dX2_lookAt_45 : decode cX2_lookAt 45 = .ok (.iload_n 2, 1) := by decide +kernel
theorem dX2_lookAt_46 : decode cX2_lookAt 46 = .ok (.bipush 127, 2) := by decide +kernel
theorem dX2_lookAt_48 : decode cX2_lookAt 48 = .ok (.iastore, 1) := by decide +kernel
theorem dX2_lookAt_49 : decode cX2_lookAt 49 = .ok (.aload_n 0, 1) := by decide +kernel
theorem dX2_lookAt_50 : decode cX2_lookAt 50 = .ok (.getfield 18, 3) := by decide +kernel
theorem dX2_lookAt_53 : decode cX2_lookAt 53 = .ok (.iload_n 2, 1) := by decide +kernel
theorem dX2_lookAt_54 : decode cX2_lookAt 54 = .ok (.iconst 0, 1) := by decide +kernel
theorem dX2_lookAt_55 : decode cX2_lookAt 55 = .ok (.iastore, 1) := by decide +kernel
theorem dX2_lookAt_56 : decode cX2_lookAt 56 = .ok (.aload_n 0, 1) := by decide +kernel
theorem dX2_lookAt_57 : decode cX2_lookAt 57 = .ok (.getfield 21, 3) := by decide +kernel
theorem dX2_lookAt_60 : decode cX2_lookAt 60 = .ok (.iload_n 2, 1) := by decide +kernel
theorem dX2_lookAt_61 : decode cX2_lookAt 61 = .ok (.iconst 0, 1) := by decide +kernel
theorem dX2_lookAt_62 : decode cX2_lookAt 62 = .ok (.iastore, 1) := by decide +kernel
theorem dX2_lookAt_63 : decode cX2_lookAt 63 = .ok (.aload_n 0, 1) := by decide +kernel
theorem dX2_lookAt_64 : decode cX2_lookAt 64 = .ok (.getfield 24, 3) := by decide +kernel
theorem dX2_lookAt_67 : decode cX2_lookAt 67 = .ok (.iload_n 2, 1) := by decide +kernel
theorem dX2_lookAt_68 : decode cX2_lookAt 68 = .ok (.iconst 0, 1) := by decide +kernel
theorem dX2_lookAt_69 : decode cX2_lookAt 69 = .ok (.iastore, 1) := by decide +kernel
theorem dX2_lookAt_70 : decode cX2_lookAt 70 = .ok (.iinc 2 1, 3) := by decide +kernel
theorem dX2_lookAt_73 : decode cX2_lookAt 73 = .ok (.goto (-55), 3) := by decide +kernel
theorem dX2_lookAt_76 : decode cX2_lookAt 76 = .ok (.aload_n 1, 1) := by decide +kernel
theorem dX2_lookAt_77 : decode cX2_lookAt 77 = .ok (.getfield 57, 3) := by decide +kernel
theorem dX2_lookAt_80 : decode cX2_lookAt 80 = .ok (.astore_n 2, 1) := by decide +kernel
theorem dX2_lookAt_81 : decode cX2_lookAt 81 = .ok (.iconst 0, 1) := by decide +kernel
theorem dX2_lookAt_82 : decode cX2_lookAt 82 = .ok (.istore_n 3, 1) := by decide +kernel
theorem dX2_lookAt_83 : decode cX2_lookAt 83 = .ok (.iload_n 3, 1) := by decide +kernel
theorem dX2_lookAt_84 : decode cX2_lookAt 84 = .ok (.aload_n 2, 1) := by decide +kernel
theorem dX2_lookAt_85 : decode cX2_lookAt 85 = .ok (.invokevirtual 39, 3) := by decide +kernel
theorem dX2_lookAt_88 : decode cX2_lookAt 88 = .ok (.if_icmp .ge 31, 3) := by decide +kernel
theorem dX2_lookAt_91 : decode cX2_lookAt 91 = .ok (.aload_n 0, 1) := by decide +kernel
theorem dX2_lookAt_92 : decode cX2_lookAt 92 = .ok (.aload_n 2, 1) := by decide +kernel
theorem dX2_lookAt_93 : decode cX2_lookAt 93 = .ok (.iload_n 3, 1) := by decide +kernel
theorem dX2_lookAt_94 : decode cX2_lookAt 94 = .ok (.iconst 0, 1) := by decide +kernel
theorem dX2_lookAt_95 : decode cX2_lookAt 95 = .ok (.invokevirtual 54, 3) := by decide +kernel
theorem dX2_lookAt_98 : decode cX2_lookAt 98 = .ok (.aload_n 2, 1) := by decide +kernel
theorem dX2_lookAt_99 : decode cX2_lookAt 99 = .ok (.iload_n 3, 1) := by decide +kernel
theorem dX2_lookAt_100 : decode cX2_lookAt 100 = .ok (.iconst 1, 1) := by decide +kernel
theorem dX2_lookAt_101 : decode cX2_lookAt 101 = .ok (.invokevirtual 54, 3) := by decide +kernel
theorem dX2_lookAt_104 : decode cX2_lookAt 104 = .ok (.aload_n 2, 1) := by decide +kernel
theorem dX2_lookAt_105 : decode cX2_lookAt 105 = .ok (.iload_n 3, 1) := by decide +kernel
theorem dX2_lookAt_106 : decode cX2_lookAt 106 = .ok (.iconst 2, 1) := by decide +kernel
theorem dX2_lookAt_107 : decode cX2_lookAt 107 = .ok (.invokevirtual 54, 3) := by decide +kernel
theorem dX2_lookAt_110 : decode cX2_lookAt 110 = .ok (.invokevirtual 60, 3) := by decide +kernel
theorem dX2_lookAt_113 : decode cX2_lookAt 113 = .ok (.iinc 3 1, 3) := by decide +kernel
theorem dX2_lookAt_116 : decode cX2_lookAt 116 = .ok (.goto (-33), 3) := by decide +kernel
theorem dX2_lookAt_119 : decode cX2_lookAt 119 = .ok (.aload_n 0, 1) := by decide +kernel
theorem dX2_lookAt_120 : decode cX2_lookAt 120 = .ok (.getfield 30, 3) := by decide +kernel
theorem dX2_lookAt_123 : decode cX2_lookAt 123 = .ok (.iconst 0, 1) := by decide +kernel
theorem dX2_lookAt_124 : decode cX2_lookAt 124 = .ok (.invokestatic 64, 3) := by decide +kernel
theorem dX2_lookAt_127 : decode cX2_lookAt 127 = .ok (.aload_n 0, 1) := by decide +kernel
theorem dX2_lookAt_128 : decode cX2_lookAt 128 = .ok (.aload_n 0, 1) := by decide +kernel
theorem dX2_lookAt_129 : decode cX2_lookAt 129 = .ok (.iconst 0, 1) := by decide +kernel
theorem dX2_lookAt_130 : decode cX2_lookAt 130 = .ok (.iconst 0, 1) := by decide +kernel
theorem dX2_lookAt_131 : decode cX2_lookAt 131 = .ok (.invokestatic 70, 3) := by decide +kernel
theorem dX2_lookAt_134 : decode cX2_lookAt 134 = .ok (.putfield 74, 3) := by decide +kernel
theorem dX2_lookAt_137 : decode cX2_lookAt 137 = .ok (.return_, 1) := by decide +kernel
theorem dX2_heed_0 : decode cX2_heed 0 = .ok (.iload_n 2, 1) := by decide +kernel
theorem dX2_heed_1 : decode cX2_heed 1 = .ok (.iconst 0, 1) := by decide +kernel
theorem dX2_heed_2 : decode cX2_heed 2 = .ok (.bipush 6, 2) := by decide +kernel
theorem dX2_heed_4 : decode cX2_heed 4 = .ok (.invokestatic 77, 3) := by decide +kernel
theorem dX2_heed_7 : decode cX2_heed 7 = .ok (.ifCond .eq 13, 3) := by decide +kernel
theorem dX2_heed_10 : decode cX2_heed 10 = .ok (.iload_n 3, 1) := by decide +kernel
theorem dX2_heed_11 : decode cX2_heed 11 = .ok (.iconst 0, 1) := by decide +kernel
theorem dX2_heed_12 : decode cX2_heed 12 = .ok (.bipush 6, 2) := by decide +kernel
theorem dX2_heed_14 : decode cX2_heed 14 = .ok (.invokestatic 77, 3) := by decide +kernel
theorem dX2_heed_17 : decode cX2_heed 17 = .ok (.ifCond .ne 4, 3) := by decide +kernel
theorem dX2_heed_20 : decode cX2_heed 20 = .ok (.return_, 1) := by decide +kernel
theorem dX2_heed_21 : decode cX2_heed 21 = .ok (.iload_n 1, 1) := by decide +kernel
theorem dX2_heed_22 : decode cX2_heed 22 = .ok (.tableswitch 104 0 3 #[30, 45, 62, 77], 30) := by decide +kernel
theorem dX2_heed_52 : decode cX2_heed 52 = .ok (.aload_n 0, 1) := by decide +kernel
theorem dX2_heed_53 : decode cX2_heed 53 = .ok (.getfield 15, 3) := by decide +kernel
theorem dX2_heed_56 : decode cX2_heed 56 = .ok (.iload_n 2, 1) := by decide +kernel
theorem dX2_heed_57 : decode cX2_heed 57 = .ok (.dup2, 1) := by decide +kernel
theorem dX2_heed_58 : decode cX2_heed 58 = .ok (.iaload, 1) := by decide +kernel
theorem dX2_heed_59 : decode cX2_heed 59 = .ok (.iconst 1, 1) := by decide +kernel
theorem dX2_heed_60 : decode cX2_heed 60 = .ok (.iload_n 3, 1) := by decide +kernel
theorem dX2_heed_61 : decode cX2_heed 61 = .ok (.ishl, 1) := by decide +kernel
theorem dX2_heed_62 : decode cX2_heed 62 = .ok (.iand, 1) := by decide +kernel
theorem dX2_heed_63 : decode cX2_heed 63 = .ok (.iastore, 1) := by decide +kernel
theorem dX2_heed_64 : decode cX2_heed 64 = .ok (.goto 62, 3) := by decide +kernel
theorem dX2_heed_67 : decode cX2_heed 67 = .ok (.aload_n 0, 1) := by decide +kernel
theorem dX2_heed_68 : decode cX2_heed 68 = .ok (.getfield 15, 3) := by decide +kernel
theorem dX2_heed_71 : decode cX2_heed 71 = .ok (.iload_n 2, 1) := by decide +kernel
theorem dX2_heed_72 : decode cX2_heed 72 = .ok (.dup2, 1) := by decide +kernel
theorem dX2_heed_73 : decode cX2_heed 73 = .ok (.iaload, 1) := by decide +kernel
theorem dX2_heed_74 : decode cX2_heed 74 = .ok (.iconst 1, 1) := by decide +kernel
theorem dX2_heed_75 : decode cX2_heed 75 = .ok (.iload_n 3, 1) := by decide +kernel
theorem dX2_heed_76 : decode cX2_heed 76 = .ok (.ishl, 1) := by decide +kernel
theorem dX2_heed_77 : decode cX2_heed 77 = .ok (.iconst (-1), 1) := by decide +kernel
theorem dX2_heed_78 : decode cX2_heed 78 = .ok (.ixor, 1) := by decide +kernel
theorem dX2_heed_79 : decode cX2_heed 79 = .ok (.iand, 1) := by decide +kernel
theorem dX2_heed_80 : decode cX2_heed 80 = .ok (.iastore, 1) := by decide +kernel
theorem dX2_heed_81 : decode cX2_heed 81 = .ok (.goto 45, 3) := by decide +kernel
theorem dX2_heed_84 : decode cX2_heed 84 = .ok (.aload_n 0, 1) := by decide +kernel
theorem dX2_heed_85 : decode cX2_heed 85 = .ok (.getfield 18, 3) := by decide +kernel
theorem dX2_heed_88 : decode cX2_heed 88 = .ok (.iload_n 3, 1) := by decide +kernel
theorem dX2_heed_89 : decode cX2_heed 89 = .ok (.dup2, 1) := by decide +kernel
theorem dX2_heed_90 : decode cX2_heed 90 = .ok (.iaload, 1) := by decide +kernel
theorem dX2_heed_91 : decode cX2_heed 91 = .ok (.iconst 1, 1) := by decide +kernel
theorem dX2_heed_92 : decode cX2_heed 92 = .ok (.iload_n 2, 1) := by decide +kernel
theorem dX2_heed_93 : decode cX2_heed 93 = .ok (.ishl, 1) := by decide +kernel
theorem dX2_heed_94 : decode cX2_heed 94 = .ok (.ior, 1) := by decide +kernel
theorem dX2_heed_95 : decode cX2_heed 95 = .ok (.iastore, 1) := by decide +kernel
theorem dX2_heed_96 : decode cX2_heed 96 = .ok (.goto 30, 3) := by decide +kernel
theorem dX2_heed_99 : decode cX2_heed 99 = .ok (.aload_n 0, 1) := by decide +kernel
theorem dX2_heed_100 : decode cX2_heed 100 = .ok (.getfield 21, 3) := by decide +kernel
theorem dX2_heed_103 : decode cX2_heed 103 = .ok (.iload_n 3, 1) := by decide +kernel
theorem dX2_heed_104 : decode cX2_heed 104 = .ok (.dup2, 1) := by decide +kernel
theorem dX2_heed_105 : decode cX2_heed 105 = .ok (.iaload, 1) := by decide +kernel
theorem dX2_heed_106 : decode cX2_heed 106 = .ok (.iconst 1, 1) := by decide +kernel
theorem dX2_heed_107 : decode cX2_heed 107 = .ok (.iload_n 2, 1) := by decide +kernel
theorem dX2_heed_108 : decode cX2_heed 108 = .ok (.ishl, 1) := by decide +kernel
theorem dX2_heed_109 : decode cX2_heed 109 = .ok (.ior, 1) := by decide +kernel
theorem dX2_heed_110 : decode cX2_heed 110 = .ok (.iastore, 1) := by decide +kernel
theorem dX2_heed_111 : decode cX2_heed 111 = .ok (.aload_n 0, 1) := by decide +kernel
theorem dX2_heed_112 : decode cX2_heed 112 = .ok (.getfield 24, 3) := by decide +kernel
theorem dX2_heed_115 : decode cX2_heed 115 = .ok (.iload_n 2, 1) := by decide +kernel
theorem dX2_heed_116 : decode cX2_heed 116 = .ok (.dup2, 1) := by decide +kernel
theorem dX2_heed_117 : decode cX2_heed 117 = .ok (.iaload, 1) := by decide +kernel
theorem dX2_heed_118 : decode cX2_heed 118 = .ok (.iconst 1, 1) := by decide +kernel
theorem dX2_heed_119 : decode cX2_heed 119 = .ok (.iload_n 3, 1) := by decide +kernel
theorem dX2_heed_120 : decode cX2_heed 120 = .ok (.ishl, 1) := by decide +kernel
theorem dX2_heed_121 : decode cX2_heed 121 = .ok (.ior, 1) := by decide +kernel
theorem dX2_heed_122 : decode cX2_heed 122 = .ok (.iastore, 1) := by decide +kernel
theorem dX2_heed_123 : decode cX2_heed 123 = .ok (.goto 3, 3) := by decide +kernel
theorem dX2_heed_126 : decode cX2_heed 126 = .ok (.return_, 1) := by decide +kernel
theorem dX2_waysFrom_0 : decode cX2_waysFrom 0 = .ok (.iload_n 1, 1) := by decide +kernel
theorem dX2_waysFrom_1 : decode cX2_waysFrom 1 = .ok (.aload_n 0, 1) := by decide +kernel
theorem dX2_waysFrom_2 : decode cX2_waysFrom 2 = .ok (.getfield 51, 3) := by decide +kernel
theorem dX2_waysFrom_5 : decode cX2_waysFrom 5 = .ok (.if_icmp .ge 9, 3) := by decide +kernel
theorem dX2_waysFrom_8 : decode cX2_waysFrom 8 = .ok (.iload_n 1, 1) := by decide +kernel
theorem dX2_waysFrom_9 : decode cX2_waysFrom 9 = .ok (.bipush 7, 2) := by decide +kernel
theorem dX2_waysFrom_11 : decode cX2_waysFrom 11 = .ok (.if_icmp .lt 5, 3) := by decide +kernel
theorem dX2_waysFrom_14 : decode cX2_waysFrom 14 = .ok (.iconst 1, 1) := by decide +kernel
theorem dX2_waysFrom_15 : decode cX2_waysFrom 15 = .ok (.ireturn, 1) := by decide +kernel
theorem dX2_waysFrom_16 : decode cX2_waysFrom 16 = .ok (.iconst 0, 1) := by decide +kernel
theorem dX2_waysFrom_17 : decode cX2_waysFrom 17 = .ok (.istore_n 3, 1) := by decide +kernel
theorem dX2_waysFrom_18 : decode cX2_waysFrom 18 = .ok (.iconst 0, 1) := by decide +kernel
theorem dX2_waysFrom_19 : decode cX2_waysFrom 19 = .ok (.istore 4, 2) := by decide +kernel
theorem dX2_waysFrom_21 : decode cX2_waysFrom 21 = .ok (.iload 4, 2) := by decide +kernel
theorem dX2_waysFrom_23 : decode cX2_waysFrom 23 = .ok (.aload_n 0, 1) := by decide +kernel
theorem dX2_waysFrom_24 : decode cX2_waysFrom 24 = .ok (.getfield 51, 3) := by decide +kernel
theorem dX2_waysFrom_27 : decode cX2_waysFrom 27 = .ok (.if_icmp .ge 74, 3) := by decide +kernel
theorem dX2_waysFrom_30 : decode cX2_waysFrom 30 = .ok (.iload_n 2, 1) := by decide +kernel
theorem dX2_waysFrom_31 : decode cX2_waysFrom 31 = .ok (.iload 4, 2) := by decide +kernel
theorem dX2_waysFrom_33 : decode cX2_waysFrom 33 = .ok (.ishr, 1) := by decide +kernel
theorem dX2_waysFrom_34 : decode cX2_waysFrom 34 = .ok (.iconst 1, 1) := by decide +kernel
theorem dX2_waysFrom_35 : decode cX2_waysFrom 35 = .ok (.iand, 1) := by decide +kernel
theorem dX2_waysFrom_36 : decode cX2_waysFrom 36 = .ok (.ifCond .ne 59, 3) := by decide +kernel
theorem dX2_waysFrom_39 : decode cX2_waysFrom 39 = .ok (.aload_n 0, 1) := by decide +kernel
theorem dX2_waysFrom_40 : decode cX2_waysFrom 40 = .ok (.iload_n 1, 1) := by decide +kernel
theorem dX2_waysFrom_41 : decode cX2_waysFrom 41 = .ok (.iload 4, 2) := by decide +kernel
theorem dX2_waysFrom_43 : decode cX2_waysFrom 43 = .ok (.iload_n 2, 1) := by decide +kernel
theorem dX2_waysFrom_44 : decode cX2_waysFrom 44 = .ok (.invokevirtual 81, 3) := by decide +kernel
theorem dX2_waysFrom_47 : decode cX2_waysFrom 47 = .ok (.ifCond .eq 48, 3) := by decide +kernel
theorem dX2_waysFrom_50 : decode cX2_waysFrom 50 = .ok (.aload_n 0, 1) := by decide +kernel
theorem dX2_waysFrom_51 : decode cX2_waysFrom 51 = .ok (.getfield 27, 3) := by decide +kernel
theorem dX2_waysFrom_54 : decode cX2_waysFrom 54 = .ok (.iload 4, 2) := by decide +kernel
theorem dX2_waysFrom_56 : decode cX2_waysFrom 56 = .ok (.iload_n 1, 1) := by decide +kernel
theorem dX2_waysFrom_57 : decode cX2_waysFrom 57 = .ok (.iastore, 1) := by decide +kernel
theorem dX2_waysFrom_58 : decode cX2_waysFrom 58 = .ok (.aload_n 0, 1) := by decide +kernel
theorem dX2_waysFrom_59 : decode cX2_waysFrom 59 = .ok (.iload_n 1, 1) := by decide +kernel
theorem dX2_waysFrom_60 : decode cX2_waysFrom 60 = .ok (.iconst 1, 1) := by decide +kernel
theorem dX2_waysFrom_61 : decode cX2_waysFrom 61 = .ok (.iadd, 1) := by decide +kernel
theorem dX2_waysFrom_62 : decode cX2_waysFrom 62 = .ok (.iload_n 2, 1) := by decide +kernel
theorem dX2_waysFrom_63 : decode cX2_waysFrom 63 = .ok (.iconst 1, 1) := by decide +kernel
theorem dX2_waysFrom_64 : decode cX2_waysFrom 64 = .ok (.iload 4, 2) := by decide +kernel
theorem dX2_waysFrom_66 : decode cX2_waysFrom 66 = .ok (.ishl, 1) := by decide +kernel
theorem dX2_waysFrom_67 : decode cX2_waysFrom 67 = .ok (.ior, 1) := by decide +kernel
theorem dX2_waysFrom_68 : decode cX2_waysFrom 68 = .ok (.invokestatic 70, 3) := by decide +kernel
theorem dX2_waysFrom_71 : decode cX2_waysFrom 71 = .ok (.istore 5, 2) := by decide +kernel
theorem dX2_waysFrom_73 : decode cX2_waysFrom 73 = .ok (.aload_n 0, 1) := by decide +kernel
theorem dX2_waysFrom_74 : decode cX2_waysFrom 74 = .ok (.getfield 30, 3) := by decide +kernel
theorem dX2_waysFrom_77 : decode cX2_waysFrom 77 = .ok (.iload_n 1, 1) := by decide +kernel
theorem dX2_waysFrom_78 : decode cX2_waysFrom 78 = .ok (.bipush 7, 2) := by decide +kernel
theorem dX2_waysFrom_80 : decode cX2_waysFrom 80 = .ok (.imul, 1) := by decide +kernel
theorem dX2_waysFrom_81 : decode cX2_waysFrom 81 = .ok (.iload 4, 2) := by decide +kernel
theorem dX2_waysFrom_83 : decode cX2_waysFrom 83 = .ok (.iadd, 1) := by decide +kernel
theorem dX2_waysFrom_84 : decode cX2_waysFrom 84 = .ok (.dup2, 1) := by decide +kernel
theorem dX2_waysFrom_85 : decode cX2_waysFrom 85 = .ok (.iaload, 1) := by decide +kernel
theorem dX2_waysFrom_86 : decode cX2_waysFrom 86 = .ok (.iload 5, 2) := by decide +kernel
theorem dX2_waysFrom_88 : decode cX2_waysFrom 88 = .ok (.iadd, 1) := by decide +kernel
theorem dX2_waysFrom_89 : decode cX2_waysFrom 89 = .ok (.iastore, 1) := by decide +kernel
theorem dX2_waysFrom_90 : decode cX2_waysFrom 90 = .ok (.iload_n 3, 1) := by decide +kernel
theorem dX2_waysFrom_91 : decode cX2_waysFrom 91 = .ok (.iload 5, 2) := by decide +kernel
theorem dX2_waysFrom_93 : decode cX2_waysFrom 93 = .ok (.iadd, 1) := by decide +kernel
theorem dX2_waysFrom_94 : decode cX2_waysFrom 94 = .ok (.istore_n 3, 1) := by decide +kernel
theorem dX2_waysFrom_95 : decode cX2_waysFrom 95 = .ok (.iinc 4 1, 3) := by decide +kernel
theorem dX2_waysFrom_98 : decode cX2_waysFrom 98 = .ok (.goto (-77), 3) := by decide +kernel
theorem dX2_waysFrom_101 : decode cX2_waysFrom 101 = .ok (.iload_n 3, 1) := by decide +kernel
theorem dX2_waysFrom_102 : decode cX2_waysFrom 102 = .ok (.ireturn, 1) := by decide +kernel
theorem dX2_mayBeIn_0 : decode cX2_mayBeIn 0 = .ok (.aload_n 0, 1) := by decide +kernel
theorem dX2_mayBeIn_1 : decode cX2_mayBeIn 1 = .ok (.getfield 15, 3) := by decide +kernel
theorem dX2_mayBeIn_4 : decode cX2_mayBeIn 4 = .ok (.iload_n 2, 1) := by decide +kernel
theorem dX2_mayBeIn_5 : decode cX2_mayBeIn 5 = .ok (.iaload, 1) := by decide +kernel
theorem dX2_mayBeIn_6 : decode cX2_mayBeIn 6 = .ok (.iload_n 1, 1) := by decide +kernel
theorem dX2_mayBeIn_7 : decode cX2_mayBeIn 7 = .ok (.ishr, 1) := by decide +kernel
theorem dX2_mayBeIn_8 : decode cX2_mayBeIn 8 = .ok (.iconst 1, 1) := by decide +kernel
theorem dX2_mayBeIn_9 : decode cX2_mayBeIn 9 = .ok (.iand, 1) := by decide +kernel
theorem dX2_mayBeIn_10 : decode cX2_mayBeIn 10 = .ok (.iconst 1, 1) := by decide +kernel
theorem dX2_mayBeIn_11 : decode cX2_mayBeIn 11 = .ok (.if_icmp .ne 43, 3) := by decide +kernel
theorem dX2_mayBeIn_14 : decode cX2_mayBeIn 14 = .ok (.aload_n 0, 1) := by decide +kernel
theorem dX2_mayBeIn_15 : decode cX2_mayBeIn 15 = .ok (.getfield 18, 3) := by decide +kernel
theorem dX2_mayBeIn_18 : decode cX2_mayBeIn 18 = .ok (.iload_n 2, 1) := by decide +kernel
theorem dX2_mayBeIn_19 : decode cX2_mayBeIn 19 = .ok (.iaload, 1) := by decide +kernel
theorem dX2_mayBeIn_20 : decode cX2_mayBeIn 20 = .ok (.iload_n 3, 1) := by decide +kernel
theorem dX2_mayBeIn_21 : decode cX2_mayBeIn 21 = .ok (.iconst (-1), 1) := by decide +kernel
theorem dX2_mayBeIn_22 : decode cX2_mayBeIn 22 = .ok (.ixor, 1) := by decide +kernel
theorem dX2_mayBeIn_23 : decode cX2_mayBeIn 23 = .ok (.iand, 1) := by decide +kernel
theorem dX2_mayBeIn_24 : decode cX2_mayBeIn 24 = .ok (.ifCond .ne 30, 3) := by decide +kernel
theorem dX2_mayBeIn_27 : decode cX2_mayBeIn 27 = .ok (.aload_n 0, 1) := by decide +kernel
theorem dX2_mayBeIn_28 : decode cX2_mayBeIn 28 = .ok (.getfield 21, 3) := by decide +kernel
theorem dX2_mayBeIn_31 : decode cX2_mayBeIn 31 = .ok (.iload_n 2, 1) := by decide +kernel
theorem dX2_mayBeIn_32 : decode cX2_mayBeIn 32 = .ok (.iaload, 1) := by decide +kernel
theorem dX2_mayBeIn_33 : decode cX2_mayBeIn 33 = .ok (.iload_n 2, 1) := by decide +kernel
theorem dX2_mayBeIn_34 : decode cX2_mayBeIn 34 = .ok (.ishr, 1) := by decide +kernel
theorem dX2_mayBeIn_35 : decode cX2_mayBeIn 35 = .ok (.iconst 1, 1) := by decide +kernel
theorem dX2_mayBeIn_36 : decode cX2_mayBeIn 36 = .ok (.iand, 1) := by decide +kernel
theorem dX2_mayBeIn_37 : decode cX2_mayBeIn 37 = .ok (.ifCond .ne 17, 3) := by decide +kernel
theorem dX2_mayBeIn_40 : decode cX2_mayBeIn 40 = .ok (.aload_n 0, 1) := by decide +kernel
theorem dX2_mayBeIn_41 : decode cX2_mayBeIn 41 = .ok (.iload_n 1, 1) := by decide +kernel
theorem dX2_mayBeIn_42 : decode cX2_mayBeIn 42 = .ok (.iload_n 2, 1) := by decide +kernel
theorem dX2_mayBeIn_43 : decode cX2_mayBeIn 43 = .ok (.iload_n 3, 1) := by decide +kernel
theorem dX2_mayBeIn_44 : decode cX2_mayBeIn 44 = .ok (.invokevirtual 84, 3) := by decide +kernel
theorem dX2_mayBeIn_47 : decode cX2_mayBeIn 47 = .ok (.ifCond .eq 7, 3) := by decide +kernel
theorem dX2_mayBeIn_50 : decode cX2_mayBeIn 50 = .ok (.iconst 1, 1) := by decide +kernel
theorem dX2_mayBeIn_51 : decode cX2_mayBeIn 51 = .ok (.goto 4, 3) := by decide +kernel
theorem dX2_mayBeIn_54 : decode cX2_mayBeIn 54 = .ok (.iconst 0, 1) := by decide +kernel
theorem dX2_mayBeIn_55 : decode cX2_mayBeIn 55 = .ok (.ireturn, 1) := by decide +kernel
theorem dX2_agreesBySize_0 : decode cX2_agreesBySize 0 = .ok (.aload_n 0, 1) := by decide +kernel
theorem dX2_agreesBySize_1 : decode cX2_agreesBySize 1 = .ok (.getfield 21, 3) := by decide +kernel
theorem dX2_agreesBySize_4 : decode cX2_agreesBySize 4 = .ok (.iload_n 2, 1) := by decide +kernel
theorem dX2_agreesBySize_5 : decode cX2_agreesBySize 5 = .ok (.iaload, 1) := by decide +kernel
theorem dX2_agreesBySize_6 : decode cX2_agreesBySize 6 = .ok (.iload_n 3, 1) := by decide +kernel
theorem dX2_agreesBySize_7 : decode cX2_agreesBySize 7 = .ok (.iand, 1) := by decide +kernel
theorem dX2_agreesBySize_8 : decode cX2_agreesBySize 8 = .ok (.istore 4, 2) := by decide +kernel
theorem dX2_agreesBySize_10 : decode cX2_agreesBySize 10 = .ok (.aload_n 0, 1) := by decide +kernel
theorem dX2_agreesBySize_11 : decode cX2_agreesBySize 11 = .ok (.getfield 24, 3) := by decide +kernel
theorem dX2_agreesBySize_14 : decode cX2_agreesBySize 14 = .ok (.iload_n 2, 1) := by decide +kernel
theorem dX2_agreesBySize_15 : decode cX2_agreesBySize 15 = .ok (.iaload, 1) := by decide +kernel
theorem dX2_agreesBySize_16 : decode cX2_agreesBySize 16 = .ok (.iload_n 3, 1) := by decide +kernel
theorem dX2_agreesBySize_17 : decode cX2_agreesBySize 17 = .ok (.iand, 1) := by decide +kernel
theorem dX2_agreesBySize_18 : decode cX2_agreesBySize 18 = .ok (.istore 5, 2) := by decide +kernel
theorem dX2_agreesBySize_20 : decode cX2_agreesBySize 20 = .ok (.iconst 0, 1) := by decide +kernel
theorem dX2_agreesBySize_21 : decode cX2_agreesBySize 21 = .ok (.istore 6, 2) := by decide +kernel
theorem dX2_agreesBySize_23 : decode cX2_agreesBySize 23 = .ok (.iload 6, 2) := by decide +kernel
theorem dX2_agreesBySize_25 : decode cX2_agreesBySize 25 = .ok (.aload_n 0, 1) := by decide +kernel
theorem dX2_agreesBySize_26 : decode cX2_agreesBySize 26 = .ok (.getfield 51, 3) := by decide +kernel
theorem dX2_agreesBySize_29 : decode cX2_agreesBySize 29 = .ok (.if_icmp .ge 101, 3) := by decide +kernel
theorem dX2_agreesBySize_32 : decode cX2_agreesBySize 32 = .ok (.iload 4, 2) := by decide +kernel
theorem dX2_agreesBySize_34 : decode cX2_agreesBySize 34 = .ok (.iload 5, 2) := by decide +kernel
theorem dX2_agreesBySize_36 : decode cX2_agreesBySize 36 = .ok (.ior, 1) := by decide +kernel
theorem dX2_agreesBySize_37 : decode cX2_agreesBySize 37 = .ok (.iload 6, 2) := by decide +kernel
theorem dX2_agreesBySize_39 : decode cX2_agreesBySize 39 = .ok (.ishr, 1) := by decide +kernel
theorem dX2_agreesBySize_40 : decode cX2_agreesBySize 40 = .ok (.ifCond .eq 90, 3) := by decide +kernel
theorem dX2_agreesBySize_43 : decode cX2_agreesBySize 43 = .ok (.aload_n 0, 1) := by decide +kernel
theorem dX2_agreesBySize_44 : decode cX2_agreesBySize 44 = .ok (.aload_n 0, 1) := by decide +kernel
theorem dX2_agreesBySize_45 : decode cX2_agreesBySize 45 = .ok (.getfield 27, 3) := by decide +kernel
theorem dX2_agreesBySize_48 : decode cX2_agreesBySize 48 = .ok (.iload 6, 2) := by decide +kernel
theorem dX2_agreesBySize_50 : decode cX2_agreesBySize 50 = .ok (.iaload, 1) := by decide +kernel
theorem dX2_agreesBySize_51 : decode cX2_agreesBySize 51 = .ok (.invokevirtual 87, 3) := by decide +kernel
theorem dX2_agreesBySize_54 : decode cX2_agreesBySize 54 = .ok (.istore 7, 2) := by decide +kernel
theorem dX2_agreesBySize_56 : decode cX2_agreesBySize 56 = .ok (.iload 4, 2) := by decide +kernel
theorem dX2_agreesBySize_58 : decode cX2_agreesBySize 58 = .ok (.iload 6, 2) := by decide +kernel
theorem dX2_agreesBySize_60 : decode cX2_agreesBySize 60 = .ok (.ishr, 1) := by decide +kernel
theorem dX2_agreesBySize_61 : decode cX2_agreesBySize 61 = .ok (.iconst 1, 1) := by decide +kernel
theorem dX2_agreesBySize_62 : decode cX2_agreesBySize 62 = .ok (.iand, 1) := by decide +kernel
theorem dX2_agreesBySize_63 : decode cX2_agreesBySize 63 = .ok (.iconst 1, 1) := by decide +kernel
theorem dX2_agreesBySize_64 : decode cX2_agreesBySize 64 = .ok (.if_icmp .ne 17, 3) := by decide +kernel
theorem dX2_agreesBySize_67 : decode cX2_agreesBySize 67 = .ok (.iload 7, 2) := by decide +kernel
theorem dX2_agreesBySize_69 : decode cX2_agreesBySize 69 = .ok (.aload_n 0, 1) := by decide +kernel
theorem dX2_agreesBySize_70 : decode cX2_agreesBySize 70 = .ok (.iload_n 1, 1) := by decide +kernel
theorem dX2_agreesBySize_71 : decode cX2_agreesBySize 71 = .ok (.invokevirtual 87, 3) := by decide +kernel
theorem dX2_agreesBySize_74 : decode cX2_agreesBySize 74 = .ok (.if_icmp .lt 7, 3) := by decide +kernel
theorem dX2_agreesBySize_77 : decode cX2_agreesBySize 77 = .ok (.iconst 1, 1) := by decide +kernel
theorem dX2_agreesBySize_78 : decode cX2_agreesBySize 78 = .ok (.goto 4, 3) := by decide +kernel
theorem dX2_agreesBySize_81 : decode cX2_agreesBySize 81 = .ok (.iconst 0, 1) := by decide +kernel
theorem dX2_agreesBySize_82 : decode cX2_agreesBySize 82 = .ok (.istore 8, 2) := by decide +kernel
theorem dX2_agreesBySize_84 : decode cX2_agreesBySize 84 = .ok (.iload 5, 2) := by decide +kernel
theorem dX2_agreesBySize_86 : decode cX2_agreesBySize 86 = .ok (.iload 6, 2) := by decide +kernel
theorem dX2_agreesBySize_88 : decode cX2_agreesBySize 88 = .ok (.ishr, 1) := by decide +kernel
theorem dX2_agreesBySize_89 : decode cX2_agreesBySize 89 = .ok (.iconst 1, 1) := by decide +kernel
theorem dX2_agreesBySize_90 : decode cX2_agreesBySize 90 = .ok (.iand, 1) := by decide +kernel
theorem dX2_agreesBySize_91 : decode cX2_agreesBySize 91 = .ok (.iconst 1, 1) := by decide +kernel
theorem dX2_agreesBySize_92 : decode cX2_agreesBySize 92 = .ok (.if_icmp .ne 17, 3) := by decide +kernel
theorem dX2_agreesBySize_95 : decode cX2_agreesBySize 95 = .ok (.iload 7, 2) := by decide +kernel
theorem dX2_agreesBySize_97 : decode cX2_agreesBySize 97 = .ok (.aload_n 0, 1) := by decide +kernel
theorem dX2_agreesBySize_98 : decode cX2_agreesBySize 98 = .ok (.iload_n 1, 1) := by decide +kernel
theorem dX2_agreesBySize_99 : decode cX2_agreesBySize 99 = .ok (.invokevirtual 87, 3) := by decide +kernel
theorem dX2_agreesBySize_102 : decode cX2_agreesBySize 102 = .ok (.if_icmp .gt 7, 3) := by decide +kernel
theorem dX2_agreesBySize_105 : decode cX2_agreesBySize 105 = .ok (.iconst 1, 1) := by decide +kernel
theorem dX2_agreesBySize_106 : decode cX2_agreesBySize 106 = .ok (.goto 4, 3) := by decide +kernel
theorem dX2_agreesBySize_109 : decode cX2_agreesBySize 109 = .ok (.iconst 0, 1) := by decide +kernel
theorem dX2_agreesBySize_110 : decode cX2_agreesBySize 110 = .ok (.istore 9, 2) := by decide +kernel
theorem dX2_agreesBySize_112 : decode cX2_agreesBySize 112 = .ok (.iload 8, 2) := by decide +kernel
theorem dX2_agreesBySize_114 : decode cX2_agreesBySize 114 = .ok (.ifCond .ne 8, 3) := by decide +kernel
theorem dX2_agreesBySize_117 : decode cX2_agreesBySize 117 = .ok (.iload 9, 2) := by decide +kernel
theorem dX2_agreesBySize_119 : decode cX2_agreesBySize 119 = .ok (.ifCond .eq 5, 3) := by decide +kernel
theorem dX2_agreesBySize_122 : decode cX2_agreesBySize 122 = .ok (.iconst 0, 1) := by decide +kernel
theorem dX2_agreesBySize_123 : decode cX2_agreesBySize 123 = .ok (.ireturn, 1) := by decide +kernel
theorem dX2_agreesBySize_124 : decode cX2_agreesBySize 124 = .ok (.iinc 6 1, 3) := by decide +kernel
theorem dX2_agreesBySize_127 : decode cX2_agreesBySize 127 = .ok (.goto (-104), 3) := by decide +kernel
theorem dX2_agreesBySize_130 : decode cX2_agreesBySize 130 = .ok (.iconst 1, 1) := by decide +kernel
theorem dX2_agreesBySize_131 : decode cX2_agreesBySize 131 = .ok (.ireturn, 1) := by decide +kernel
theorem dX2_sizeAt_0 : decode cX2_sizeAt 0 = .ok (.iload_n 1, 1) := by decide +kernel
theorem dX2_sizeAt_1 : decode cX2_sizeAt 1 = .ok (.iconst 0, 1) := by decide +kernel
theorem dX2_sizeAt_2 : decode cX2_sizeAt 2 = .ok (.bipush 6, 2) := by decide +kernel
theorem dX2_sizeAt_4 : decode cX2_sizeAt 4 = .ok (.invokestatic 77, 3) := by decide +kernel
theorem dX2_sizeAt_7 : decode cX2_sizeAt 7 = .ok (.ifCond .eq 12, 3) := by decide +kernel
theorem dX2_sizeAt_10 : decode cX2_sizeAt 10 = .ok (.aload_n 0, 1) := by decide +kernel
theorem dX2_sizeAt_11 : decode cX2_sizeAt 11 = .ok (.getfield 9, 3) := by decide +kernel
theorem dX2_sizeAt_14 : decode cX2_sizeAt 14 = .ok (.iload_n 1, 1) := by decide +kernel
theorem dX2_sizeAt_15 : decode cX2_sizeAt 15 = .ok (.iaload, 1) := by decide +kernel
theorem dX2_sizeAt_16 : decode cX2_sizeAt 16 = .ok (.goto 4, 3) := by decide +kernel
theorem dX2_sizeAt_19 : decode cX2_sizeAt 19 = .ok (.iconst 0, 1) := by decide +kernel
theorem dX2_sizeAt_20 : decode cX2_sizeAt 20 = .ok (.ireturn, 1) := by decide +kernel
theorem dX2_allWays_0 : decode cX2_allWays 0 = .ok (.aload_n 0, 1) := by decide +kernel
theorem dX2_allWays_1 : decode cX2_allWays 1 = .ok (.getfield 74, 3) := by decide +kernel
theorem dX2_allWays_4 : decode cX2_allWays 4 = .ok (.ireturn, 1) := by decide +kernel
theorem dX2_waysWith_0 : decode cX2_waysWith 0 = .ok (.iload_n 1, 1) := by decide +kernel
theorem dX2_waysWith_1 : decode cX2_waysWith 1 = .ok (.iconst 0, 1) := by decide +kernel
theorem dX2_waysWith_2 : decode cX2_waysWith 2 = .ok (.bipush 6, 2) := by decide +kernel
theorem dX2_waysWith_4 : decode cX2_waysWith 4 = .ok (.invokestatic 77, 3) := by decide +kernel
theorem dX2_waysWith_7 : decode cX2_waysWith 7 = .ok (.ifCond .eq 17, 3) := by decide +kernel
theorem dX2_waysWith_10 : decode cX2_waysWith 10 = .ok (.iload_n 2, 1) := by decide +kernel
theorem dX2_waysWith_11 : decode cX2_waysWith 11 = .ok (.iconst 0, 1) := by decide +kernel
theorem dX2_waysWith_12 : decode cX2_waysWith 12 = .ok (.bipush 6, 2) := by decide +kernel
theorem dX2_waysWith_14 : decode cX2_waysWith 14 = .ok (.invokestatic 77, 3) := by decide +kernel
theorem dX2_waysWith_17 : decode cX2_waysWith 17 = .ok (.ifCond .eq 7, 3) := by decide +kernel
theorem dX2_waysWith_20 : decode cX2_waysWith 20 = .ok (.iconst 1, 1) := by decide +kernel
theorem dX2_waysWith_21 : decode cX2_waysWith 21 = .ok (.goto 4, 3) := by decide +kernel
theorem dX2_waysWith_24 : decode cX2_waysWith 24 = .ok (.iconst 0, 1) := by decide +kernel
theorem dX2_waysWith_25 : decode cX2_waysWith 25 = .ok (.istore_n 3, 1) := by decide +kernel
theorem dX2_waysWith_26 : decode cX2_waysWith 26 = .ok (.iload_n 3, 1) := by decide +kernel
theorem dX2_waysWith_27 : decode cX2_waysWith 27 = .ok (.ifCond .eq 17, 3) := by decide +kernel
theorem dX2_waysWith_30 : decode cX2_waysWith 30 = .ok (.aload_n 0, 1) := by decide +kernel
theorem dX2_waysWith_31 : decode cX2_waysWith 31 = .ok (.getfield 30, 3) := by decide +kernel
theorem dX2_waysWith_34 : decode cX2_waysWith 34 = .ok (.iload_n 1, 1) := by decide +kernel
theorem dX2_waysWith_35 : decode cX2_waysWith 35 = .ok (.bipush 7, 2) := by decide +kernel
theorem dX2_waysWith_37 : decode cX2_waysWith 37 = .ok (.imul, 1) := by decide +kernel
theorem dX2_waysWith_38 : decode cX2_waysWith 38 = .ok (.iload_n 2, 1) := by decide +kernel
theorem dX2_waysWith_39 : decode cX2_waysWith 39 = .ok (.iadd, 1) := by decide +kernel
theorem dX2_waysWith_40 : decode cX2_waysWith 40 = .ok (.iaload, 1) := by decide +kernel
theorem dX2_waysWith_41 : decode cX2_waysWith 41 = .ok (.goto 4, 3) := by decide +kernel
theorem dX2_waysWith_44 : decode cX2_waysWith 44 = .ok (.iconst 0, 1) := by decide +kernel
theorem dX2_waysWith_45 : decode cX2_waysWith 45 = .ok (.ireturn, 1) := by decide +kernel
theorem dX2_boxesOf_0 : decode cX2_boxesOf 0 = .ok (.iconst 0, 1) := by decide +kernel
theorem dX2_boxesOf_1 : decode cX2_boxesOf 1 = .ok (.istore_n 2, 1) := by decide +kernel
theorem dX2_boxesOf_2 : decode cX2_boxesOf 2 = .ok (.iconst 0, 1) := by decide +kernel
theorem dX2_boxesOf_3 : decode cX2_boxesOf 3 = .ok (.istore_n 3, 1) := by decide +kernel
theorem dX2_boxesOf_4 : decode cX2_boxesOf 4 = .ok (.iload_n 3, 1) := by decide +kernel
theorem dX2_boxesOf_5 : decode cX2_boxesOf 5 = .ok (.aload_n 0, 1) := by decide +kernel
theorem dX2_boxesOf_6 : decode cX2_boxesOf 6 = .ok (.getfield 51, 3) := by decide +kernel
theorem dX2_boxesOf_9 : decode cX2_boxesOf 9 = .ok (.if_icmp .ge 24, 3) := by decide +kernel
theorem dX2_boxesOf_12 : decode cX2_boxesOf 12 = .ok (.aload_n 0, 1) := by decide +kernel
theorem dX2_boxesOf_13 : decode cX2_boxesOf 13 = .ok (.iload_n 3, 1) := by decide +kernel
theorem dX2_boxesOf_14 : decode cX2_boxesOf 14 = .ok (.iload_n 1, 1) := by decide +kernel
theorem dX2_boxesOf_15 : decode cX2_boxesOf 15 = .ok (.invokevirtual 91, 3) := by decide +kernel
theorem dX2_boxesOf_18 : decode cX2_boxesOf 18 = .ok (.ifCond .le 9, 3) := by decide +kernel
theorem dX2_boxesOf_21 : decode cX2_boxesOf 21 = .ok (.iload_n 2, 1) := by decide +kernel
theorem dX2_boxesOf_22 : decode cX2_boxesOf 22 = .ok (.iconst 1, 1) := by decide +kernel
theorem dX2_boxesOf_23 : decode cX2_boxesOf 23 = .ok (.iload_n 3, 1) := by decide +kernel
theorem dX2_boxesOf_24 : decode cX2_boxesOf 24 = .ok (.ishl, 1) := by decide +kernel
theorem dX2_boxesOf_25 : decode cX2_boxesOf 25 = .ok (.ior, 1) := by decide +kernel
theorem dX2_boxesOf_26 : decode cX2_boxesOf 26 = .ok (.istore_n 2, 1) := by decide +kernel
theorem dX2_boxesOf_27 : decode cX2_boxesOf 27 = .ok (.iinc 3 1, 3) := by decide +kernel
theorem dX2_boxesOf_30 : decode cX2_boxesOf 30 = .ok (.goto (-26), 3) := by decide +kernel
theorem dX2_boxesOf_33 : decode cX2_boxesOf 33 = .ok (.iload_n 2, 1) := by decide +kernel
theorem dX2_boxesOf_34 : decode cX2_boxesOf 34 = .ok (.ireturn, 1) := by decide +kernel
theorem dX2_boxToOpen_0 : decode cX2_boxToOpen 0 = .ok (.iconst (-1), 1) := by decide +kernel
theorem dX2_boxToOpen_1 : decode cX2_boxToOpen 1 = .ok (.istore_n 1, 1) := by decide +kernel
theorem dX2_boxToOpen_2 : decode cX2_boxToOpen 2 = .ok (.ldc 94, 2) := by decide +kernel
theorem dX2_boxToOpen_4 : decode cX2_boxToOpen 4 = .ok (.istore_n 2, 1) := by decide +kernel
theorem dX2_boxToOpen_5 : decode cX2_boxToOpen 5 = .ok (.iconst 0, 1) := by decide +kernel
theorem dX2_boxToOpen_6 : decode cX2_boxToOpen 6 = .ok (.istore_n 3, 1) := by decide +kernel
theorem dX2_boxToOpen_7 : decode cX2_boxToOpen 7 = .ok (.iload_n 3, 1) := by decide +kernel
theorem dX2_boxToOpen_8 : decode cX2_boxToOpen 8 = .ok (.aload_n 0, 1) := by decide +kernel
theorem dX2_boxToOpen_9 : decode cX2_boxToOpen 9 = .ok (.getfield 51, 3) := by decide +kernel
theorem dX2_boxToOpen_12 : decode cX2_boxToOpen 12 = .ok (.if_icmp .ge 32, 3) := by decide +kernel
theorem dX2_boxToOpen_15 : decode cX2_boxToOpen 15 = .ok (.aload_n 0, 1) := by decide +kernel
theorem dX2_boxToOpen_16 : decode cX2_boxToOpen 16 = .ok (.iload_n 3, 1) := by decide +kernel
theorem dX2_boxToOpen_17 : decode cX2_boxToOpen 17 = .ok (.invokevirtual 95, 3) := by decide +kernel
theorem dX2_boxToOpen_20 : decode cX2_boxToOpen 20 = .ok (.istore 4, 2) := by decide +kernel
theorem dX2_boxToOpen_22 : decode cX2_boxToOpen 22 = .ok (.iload 4, 2) := by decide +kernel
theorem dX2_boxToOpen_24 : decode cX2_boxToOpen 24 = .ok (.ifCond .le 14, 3) := by decide +kernel
theorem dX2_boxToOpen_27 : decode cX2_boxToOpen 27 = .ok (.iload 4, 2) := by decide +kernel
theorem dX2_boxToOpen_29 : decode cX2_boxToOpen 29 = .ok (.iload_n 2, 1) := by decide +kernel
theorem dX2_boxToOpen_30 : decode cX2_boxToOpen 30 = .ok (.if_icmp .ge 8, 3) := by decide +kernel
theorem dX2_boxToOpen_33 : decode cX2_boxToOpen 33 = .ok (.iload_n 3, 1) := by decide +kernel
theorem dX2_boxToOpen_34 : decode cX2_boxToOpen 34 = .ok (.istore_n 1, 1) := by decide +kernel
theorem dX2_boxToOpen_35 : decode cX2_boxToOpen 35 = .ok (.iload 4, 2) := by decide +kernel
theorem dX2_boxToOpen_37 : decode cX2_boxToOpen 37 = .ok (.istore_n 2, 1) := by decide +kernel
theorem dX2_boxToOpen_38 : decode cX2_boxToOpen 38 = .ok (.iinc 3 1, 3) := by decide +kernel
theorem dX2_boxToOpen_41 : decode cX2_boxToOpen 41 = .ok (.goto (-34), 3) := by decide +kernel
theorem dX2_boxToOpen_44 : decode cX2_boxToOpen 44 = .ok (.iload_n 1, 1) := by decide +kernel
theorem dX2_boxToOpen_45 : decode cX2_boxToOpen 45 = .ok (.ireturn, 1) := by decide +kernel
theorem dX2_worstBehind_0 : decode cX2_worstBehind 0 = .ok (.iconst 0, 1) := by decide +kernel
theorem dX2_worstBehind_1 : decode cX2_worstBehind 1 = .ok (.istore_n 2, 1) := by decide +kernel
theorem dX2_worstBehind_2 : decode cX2_worstBehind 2 = .ok (.iconst 0, 1) := by decide +kernel
theorem dX2_worstBehind_3 : decode cX2_worstBehind 3 = .ok (.istore_n 3, 1) := by decide +kernel
theorem dX2_worstBehind_4 : decode cX2_worstBehind 4 = .ok (.iload_n 3, 1) := by decide +kernel
theorem dX2_worstBehind_5 : decode cX2_worstBehind 5 = .ok (.aload_n 0, 1) := by decide +kernel
theorem dX2_worstBehind_6 : decode cX2_worstBehind 6 = .ok (.getfield 51, 3) := by decide +kernel
theorem dX2_worstBehind_9 : decode cX2_worstBehind 9 = .ok (.if_icmp .ge 20, 3) := by decide +kernel
theorem dX2_worstBehind_12 : decode cX2_worstBehind 12 = .ok (.iload_n 2, 1) := by decide +kernel
theorem dX2_worstBehind_13 : decode cX2_worstBehind 13 = .ok (.aload_n 0, 1) := by decide +kernel
theorem dX2_worstBehind_14 : decode cX2_worstBehind 14 = .ok (.iload_n 1, 1) := by decide +kernel
theorem dX2_worstBehind_15 : decode cX2_worstBehind 15 = .ok (.iload_n 3, 1) := by decide +kernel
theorem dX2_worstBehind_16 : decode cX2_worstBehind 16 = .ok (.invokevirtual 91, 3) := by decide +kernel
theorem dX2_worstBehind_19 : decode cX2_worstBehind 19 = .ok (.invokestatic 98, 3) := by decide +kernel
theorem dX2_worstBehind_22 : decode cX2_worstBehind 22 = .ok (.istore_n 2, 1) := by decide +kernel
theorem dX2_worstBehind_23 : decode cX2_worstBehind 23 = .ok (.iinc 3 1, 3) := by decide +kernel
theorem dX2_worstBehind_26 : decode cX2_worstBehind 26 = .ok (.goto (-22), 3) := by decide +kernel
theorem dX2_worstBehind_29 : decode cX2_worstBehind 29 = .ok (.iload_n 2, 1) := by decide +kernel
theorem dX2_worstBehind_30 : decode cX2_worstBehind 30 = .ok (.ireturn, 1) := by decide +kernel
theorem dX3_init_0 : decode cX3_init 0 = .ok (.aload_n 0, 1) := by decide +kernel
theorem dX3_init_1 : decode cX3_init 1 = .ok (.invokespecial 1, 3) := by decide +kernel
theorem dX3_init_4 : decode cX3_init 4 = .ok (.aload_n 0, 1) := by decide +kernel
theorem dX3_init_5 : decode cX3_init 5 = .ok (.lconst 1, 1) := by decide +kernel
theorem dX3_init_6 : decode cX3_init 6 = .ok (.putfield 7, 3) := by decide +kernel
theorem dX3_init_9 : decode cX3_init 9 = .ok (.return_, 1) := by decide +kernel
theorem dX3_become_0 : decode cX3_become 0 = .ok (.lload_n 1, 1) := by decide +kernel
theorem dX3_become_1 : decode cX3_become 1 = .ok (.lload_n 3, 1) := by decide +kernel
theorem dX3_become_2 : decode cX3_become 2 = .ok (.invokestatic 13, 3) := by decide +kernel
theorem dX3_become_5 : decode cX3_become 5 = .ok (.lstore 5, 2) := by decide +kernel
theorem dX3_become_7 : decode cX3_become 7 = .ok (.lload 5, 2) := by decide +kernel
theorem dX3_become_9 : decode cX3_become 9 = .ok (.lconst 0, 1) := by decide +kernel
theorem dX3_become_10 : decode cX3_become 10 = .ok (.lcmp, 1) := by decide +kernel
theorem dX3_become_11 : decode cX3_become 11 = .ok (.ifCond .le 19, 3) := by decide +kernel
theorem dX3_become_14 : decode cX3_become 14 = .ok (.aload_n 0, 1) := by decide +kernel
theorem dX3_become_15 : decode cX3_become 15 = .ok (.lload_n 1, 1) := by decide +kernel
theorem dX3_become_16 : decode cX3_become 16 = .ok (.lload 5, 2) := by decide +kernel
theorem dX3_become_18 : decode cX3_become 18 = .ok (.ldiv, 1) := by decide +kernel
theorem dX3_become_19 : decode cX3_become 19 = .ok (.putfield 17, 3) := by decide +kernel
theorem dX3_become_22 : decode cX3_become 22 = .ok (.aload_n 0, 1) := by decide +kernel
theorem dX3_become_23 : decode cX3_become 23 = .ok (.lload_n 3, 1) := by decide +kernel
theorem dX3_become_24 : decode cX3_become 24 = .ok (.lload 5, 2) := by decide +kernel
theorem dX3_become_26 : decode cX3_become 26 = .ok (.ldiv, 1) := by decide +kernel
theorem dX3_become_27 : decode cX3_become 27 = .ok (.putfield 7, 3) := by decide +kernel
theorem dX3_become_30 : decode cX3_become 30 = .ok (.return_, 1) := by decide +kernel
theorem dX3_greatestDivisor_0 : decode cX3_greatestDivisor 0 = .ok (.iconst 0, 1) := by decide +kernel
theorem dX3_greatestDivisor_1 : decode cX3_greatestDivisor 1 = .ok (.istore 4, 2) := by decide +kernel
theorem dX3_greatestDivisor_3 : decode cX3_greatestDivisor 3 = .ok (.iload 4, 2) := by decide +kernel
theorem dX3_greatestDivisor_5 : decode cX3_greatestDivisor 5 = .ok (.sipush 128, 3) := by decide +kernel
theorem dX3_greatestDivisor_8 : decode cX3_greatestDivisor 8 = .ok (.if_icmp .ge 25, 3) := by decide +kernel
theorem dX3_greatestDivisor_11 : decode cX3_greatestDivisor 11 = .ok (.lload_n 2, 1) := by decide +kernel
theorem dX3_greatestDivisor_12 : decode cX3_greatestDivisor 12 = .ok (.lconst 0, 1) := by decide +kernel
theorem dX3_greatestDivisor_13 : decode cX3_greatestDivisor 13 = .ok (.lcmp, 1) := by decide +kernel
theorem dX3_greatestDivisor_14 : decode cX3_greatestDivisor 14 = .ok (.ifCond .eq 19, 3) := by decide +kernel
theorem dX3_greatestDivisor_17 : decode cX3_greatestDivisor 17 = .ok (.lload_n 0, 1) := by decide +kernel
theorem dX3_greatestDivisor_18 : decode cX3_greatestDivisor 18 = .ok (.lload_n 2, 1) := by decide +kernel
theorem dX3_greatestDivisor_19 : decode cX3_greatestDivisor 19 = .ok (.lrem, 1) := by decide +kernel
theorem dX3_greatestDivisor_20 : decode cX3_greatestDivisor 20 = .ok (.lstore 5, 2) := by decide +kernel
theorem dX3_greatestDivisor_22 : decode cX3_greatestDivisor 22 = .ok (.lload_n 2, 1) := by decide +kernel
theorem dX3_greatestDivisor_23 : decode cX3_greatestDivisor 23 = .ok (.lstore_n 0, 1) := by decide +kernel
theorem dX3_greatestDivisor_24 : decode cX3_greatestDivisor 24 = .ok (.lload 5, 2) := by decide +kernel
theorem dX3_greatestDivisor_26 : decode cX3_greatestDivisor 26 = .ok (.lstore_n 2, 1) := by decide +kernel
theorem dX3_greatestDivisor_27 : decode cX3_greatestDivisor 27 = .ok (.iinc 4 1, 3) := by decide +kernel
theorem dX3_greatestDivisor_30 : decode cX3_greatestDivisor 30 = .ok (.goto (-27), 3) := by decide +kernel
theorem dX3_greatestDivisor_33 : decode cX3_greatestDivisor 33 = .ok (.lload_n 0, 1) := by decide +kernel
theorem dX3_greatestDivisor_34 : decode cX3_greatestDivisor 34 = .ok (.lreturn, 1) := by decide +kernel
theorem dX4_init_0 : decode cX4_init 0 = .ok (.aload_n 0, 1) := by decide +kernel
theorem dX4_init_1 : decode cX4_init 1 = .ok (.invokespecial 3, 3) := by decide +kernel
theorem dX4_init_4 : decode cX4_init 4 = .ok (.aload_n 0, 1) := by decide +kernel
theorem dX4_init_5 : decode cX4_init 5 = .ok (.bipush 7, 2) := by decide +kernel
theorem dX4_init_7 : decode cX4_init 7 = .ok (.newarray .int, 2) := by decide +kernel
theorem dX4_init_9 : decode cX4_init 9 = .ok (.putfield 9, 3) := by decide +kernel
theorem dX4_init_12 : decode cX4_init 12 = .ok (.aload_n 0, 1) := by decide +kernel
theorem dX4_init_13 : decode cX4_init 13 = .ok (.bipush 7, 2) := by decide +kernel
theorem dX4_init_15 : decode cX4_init 15 = .ok (.newarray .int, 2) := by decide +kernel
theorem dX4_init_17 : decode cX4_init 17 = .ok (.putfield 15, 3) := by decide +kernel
theorem dX4_init_20 : decode cX4_init 20 = .ok (.aload_n 0, 1) := by decide +kernel
theorem dX4_init_21 : decode cX4_init 21 = .ok (.sipush 1024, 3) := by decide +kernel
theorem dX4_init_24 : decode cX4_init 24 = .ok (.newarray .int, 2) := by decide +kernel
theorem dX4_init_26 : decode cX4_init 26 = .ok (.putfield 18, 3) := by decide +kernel
theorem dX4_init_29 : decode cX4_init 29 = .ok (.return_, 1) := by decide +kernel
theorem dX4_begin_0 : decode cX4_begin 0 = .ok (.aload_n 0, 1) := by decide +kernel
theorem dX4_begin_1 : decode cX4_begin 1 = .ok (.iconst 0, 1) := by decide +kernel
theorem dX4_begin_2 : decode cX4_begin 2 = .ok (.putfield 21, 3) := by decide +kernel
theorem dX4_begin_5 : decode cX4_begin 5 = .ok (.aload_n 0, 1) := by decide +kernel
theorem dX4_begin_6 : decode cX4_begin 6 = .ok (.iconst 0, 1) := by decide +kernel
theorem dX4_begin_7 : decode cX4_begin 7 = .ok (.iload_n 1, 1) := by decide +kernel
theorem dX4_begin_8 : decode cX4_begin 8 = .ok (.bipush 7, 2) := by decide +kernel
theorem dX4_begin_10 : decode cX4_begin 10 = .ok (.invokestatic 25, 3) := by decide +kernel
theorem dX4_begin_13 : decode cX4_begin 13 = .ok (.invokestatic 31, 3) := by decide +kernel
theorem dX4_begin_16 : decode cX4_begin 16 = .ok (.putfield 34, 3) := by decide +kernel
theorem dX4_begin_19 : decode cX4_begin 19 = .ok (.return_, 1) := by decide +kernel
theorem dX4_addRow_0 : decode cX4_addRow 0 = .ok (.aload_n 0, 1) := by decide +kernel
theorem dX4_addRow_1 : decode cX4_addRow 1 = .ok (.getfield 21, 3) := by decide +kernel
theorem dX4_addRow_4 : decode cX4_addRow 4 = .ok (.bipush 7, 2) := by decide +kernel
theorem dX4_addRow_6 : decode cX4_addRow 6 = .ok (.if_icmp .ge 33, 3) := by decide +kernel
theorem dX4_addRow_9 : decode cX4_addRow 9 = .ok (.aload_n 0, 1) := by decide +kernel
theorem dX4_addRow_10 : decode cX4_addRow 10 = .ok (.getfield 9, 3) := by decide +kernel
theorem dX4_addRow_13 : decode cX4_addRow 13 = .ok (.aload_n 0, 1) := by decide +kernel
theorem dX4_addRow_14 : decode cX4_addRow 14 = .ok (.getfield 21, 3) := by decide +kernel
theorem dX4_addRow_17 : decode cX4_addRow 17 = .ok (.iload_n 1, 1) := by decide +kernel
theorem dX4_addRow_18 : decode cX4_addRow 18 = .ok (.iastore, 1) := by decide +kernel
theorem dX4_addRow_19 : decode cX4_addRow 19 = .ok (.aload_n 0, 1) := by decide +kernel
theorem dX4_addRow_20 : decode cX4_addRow 20 = .ok (.getfield 15, 3) := by decide +kernel
theorem dX4_addRow_23 : decode cX4_addRow 23 = .ok (.aload_n 0, 1) := by decide +kernel
theorem dX4_addRow_24 : decode cX4_addRow 24 = .ok (.getfield 21, 3) := by decide +kernel
theorem dX4_addRow_27 : decode cX4_addRow 27 = .ok (.iload_n 2, 1) := by decide +kernel
theorem dX4_addRow_28 : decode cX4_addRow 28 = .ok (.iastore, 1) := by decide +kernel
theorem dX4_addRow_29 : decode cX4_addRow 29 = .ok (.aload_n 0, 1) := by decide +kernel
theorem dX4_addRow_30 : decode cX4_addRow 30 = .ok (.dup, 1) := by decide +kernel
theorem dX4_addRow_31 : decode cX4_addRow 31 = .ok (.getfield 21, 3) := by decide +kernel
theorem dX4_addRow_34 : decode cX4_addRow 34 = .ok (.iconst 1, 1) := by decide +kernel
theorem dX4_addRow_35 : decode cX4_addRow 35 = .ok (.iadd, 1) := by decide +kernel
theorem dX4_addRow_36 : decode cX4_addRow 36 = .ok (.putfield 21, 3) := by decide +kernel
theorem dX4_addRow_39 : decode cX4_addRow 39 = .ok (.return_, 1) := by decide +kernel
theorem dX4_solve_0 : decode cX4_solve 0 = .ok (.iconst 0, 1) := by decide +kernel
theorem dX4_solve_1 : decode cX4_solve 1 = .ok (.istore_n 1, 1) := by decide +kernel
theorem dX4_solve_2 : decode cX4_solve 2 = .ok (.iload_n 1, 1) := by decide +kernel
theorem dX4_solve_3 : decode cX4_solve 3 = .ok (.iconst 1, 1) := by decide +kernel
theorem dX4_solve_4 : decode cX4_solve 4 = .ok (.aload_n 0, 1) := by decide +kernel
theorem dX4_solve_5 : decode cX4_solve 5 = .ok (.getfield 34, 3) := by decide +kernel
theorem dX4_solve_8 : decode cX4_solve 8 = .ok (.ishl, 1) := by decide +kernel
theorem dX4_solve_9 : decode cX4_solve 9 = .ok (.if_icmp .ge 25, 3) := by decide +kernel
theorem dX4_solve_12 : decode cX4_solve 12 = .ok (.aload_n 0, 1) := by decide +kernel
theorem dX4_solve_13 : decode cX4_solve 13 = .ok (.getfield 18, 3) := by decide +kernel
theorem dX4_solve_16 : decode cX4_solve 16 = .ok (.aload_n 0, 1) := by decide +kernel
theorem dX4_solve_17 : decode cX4_solve 17 = .ok (.getfield 21, 3) := by decide +kernel
theorem dX4_solve_20 : decode cX4_solve 20 = .ok (.sipush 128, 3) := by decide +kernel
theorem dX4_solve_23 : decode cX4_solve 23 = .ok (.imul, 1) := by decide +kernel
theorem dX4_solve_24 : decode cX4_solve 24 = .ok (.iload_n 1, 1) := by decide +kernel
theorem dX4_solve_25 : decode cX4_solve 25 = .ok (.iadd, 1) := by decide +kernel
theorem dX4_solve_26 : decode cX4_solve 26 = .ok (.iconst 0, 1) := by decide +kernel
theorem dX4_solve_27 : decode cX4_solve 27 = .ok (.iastore, 1) := by decide +kernel
theorem dX4_solve_28 : decode cX4_solve 28 = .ok (.iinc 1 1, 3) := by decide +kernel
theorem dX4_solve_31 : decode cX4_solve 31 = .ok (.goto (-29), 3) := by decide +kernel
theorem dX4_solve_34 : decode cX4_solve 34 = .ok (.aload_n 0, 1) := by decide +kernel
theorem dX4_solve_35 : decode cX4_solve 35 = .ok (.getfield 21, 3) := by decide +kernel
theorem dX4_solve_38 : decode cX4_solve 38 = .ok (.iconst 1, 1) := by decide +kernel
theorem dX4_solve_39 : decode cX4_solve 39 = .ok (.isub, 1) := by decide +kernel
theorem dX4_solve_40 : decode cX4_solve 40 = .ok (.istore_n 1, 1) := by decide +kernel
theorem dX4_solve_41 : decode cX4_solve 41 = .ok (.iload_n 1, 1) := by decide +kernel
theorem dX4_solve_42 : decode cX4_solve 42 = .ok (.ifCond .lt 45, 3) := by decide +kernel
theorem dX4_solve_45 : decode cX4_solve 45 = .ok (.iconst 0, 1) := by decide +kernel
theorem dX4_solve_46 : decode cX4_solve 46 = .ok (.istore_n 2, 1) := by decide +kernel
theorem dX4_solve_47 : decode cX4_solve 47 = .ok (.iload_n 2, 1) := by decide +kernel
theorem dX4_solve_48 : decode cX4_solve 48 = .ok (.iconst 1, 1) := by decide +kernel
theorem dX4_solve_49 : decode cX4_solve 49 = .ok (.aload_n 0, 1) := by decide +kernel
theorem dX4_solve_50 : decode cX4_solve 50 = .ok (.getfield 34, 3) := by decide +kernel
theorem dX4_solve_53 : decode cX4_solve 53 = .ok (.ishl, 1) := by decide +kernel
theorem dX4_solve_54 : decode cX4_solve 54 = .ok (.if_icmp .ge 27, 3) := by decide +kernel
theorem dX4_solve_57 : decode cX4_solve 57 = .ok (.aload_n 0, 1) := by decide +kernel
theorem dX4_solve_58 : decode cX4_solve 58 = .ok (.getfield 18, 3) := by decide +kernel
theorem dX4_solve_61 : decode cX4_solve 61 = .ok (.iload_n 1, 1) := by decide +kernel
theorem dX4_solve_62 : decode cX4_solve 62 = .ok (.sipush 128, 3) := by decide +kernel
theorem dX4_solve_65 : decode cX4_solve 65 = .ok (.imul, 1) := by decide +kernel
theorem dX4_solve_66 : decode cX4_solve 66 = .ok (.iload_n 2, 1) := by decide +kernel
theorem dX4_solve_67 : decode cX4_solve 67 = .ok (.iadd, 1) := by decide +kernel
theorem dX4_solve_68 : decode cX4_solve 68 = .ok (.aload_n 0, 1) := by decide +kernel
theorem dX4_solve_69 : decode cX4_solve 69 = .ok (.iload_n 1, 1) := by decide +kernel
theorem dX4_solve_70 : decode cX4_solve 70 = .ok (.iload_n 2, 1) := by decide +kernel
theorem dX4_solve_71 : decode cX4_solve 71 = .ok (.invokevirtual 37, 3) := by decide +kernel
theorem dX4_solve_74 : decode cX4_solve 74 = .ok (.iastore, 1) := by decide +kernel
theorem dX4_solve_75 : decode cX4_solve 75 = .ok (.iinc 2 1, 3) := by decide +kernel
theorem dX4_solve_78 : decode cX4_solve 78 = .ok (.goto (-31), 3) := by decide +kernel
theorem dX4_solve_81 : decode cX4_solve 81 = .ok (.iinc 1 (-1), 3) := by decide +kernel
theorem dX4_solve_84 : decode cX4_solve 84 = .ok (.goto (-43), 3) := by decide +kernel
theorem dX4_solve_87 : decode cX4_solve 87 = .ok (.return_, 1) := by decide +kernel
theorem dX4_bestOf_0 : decode cX4_bestOf 0 = .ok (.aload_n 0, 1) := by decide +kernel
theorem dX4_bestOf_1 : decode cX4_bestOf 1 = .ok (.iload_n 1, 1) := by decide +kernel
theorem dX4_bestOf_2 : decode cX4_bestOf 2 = .ok (.iconst 1, 1) := by decide +kernel
theorem dX4_bestOf_3 : decode cX4_bestOf 3 = .ok (.iadd, 1) := by decide +kernel
theorem dX4_bestOf_4 : decode cX4_bestOf 4 = .ok (.iload_n 2, 1) := by decide +kernel
theorem dX4_bestOf_5 : decode cX4_bestOf 5 = .ok (.invokevirtual 40, 3) := by decide +kernel
theorem dX4_bestOf_8 : decode cX4_bestOf 8 = .ok (.istore_n 3, 1) := by decide +kernel
theorem dX4_bestOf_9 : decode cX4_bestOf 9 = .ok (.aload_n 0, 1) := by decide +kernel
theorem dX4_bestOf_10 : decode cX4_bestOf 10 = .ok (.getfield 9, 3) := by decide +kernel
theorem dX4_bestOf_13 : decode cX4_bestOf 13 = .ok (.iload_n 1, 1) := by decide +kernel
theorem dX4_bestOf_14 : decode cX4_bestOf 14 = .ok (.iaload, 1) := by decide +kernel
theorem dX4_bestOf_15 : decode cX4_bestOf 15 = .ok (.iload_n 2, 1) := by decide +kernel
theorem dX4_bestOf_16 : decode cX4_bestOf 16 = .ok (.iconst (-1), 1) := by decide +kernel
theorem dX4_bestOf_17 : decode cX4_bestOf 17 = .ok (.ixor, 1) := by decide +kernel
theorem dX4_bestOf_18 : decode cX4_bestOf 18 = .ok (.iand, 1) := by decide +kernel
theorem dX4_bestOf_19 : decode cX4_bestOf 19 = .ok (.istore 4, 2) := by decide +kernel
theorem dX4_bestOf_21 : decode cX4_bestOf 21 = .ok (.iconst 0, 1) := by decide +kernel
theorem dX4_bestOf_22 : decode cX4_bestOf 22 = .ok (.istore 5, 2) := by decide +kernel
theorem dX4_bestOf_24 : decode cX4_bestOf 24 = .ok (.iload 5, 2) := by decide +kernel
theorem dX4_bestOf_26 : decode cX4_bestOf 26 = .ok (.aload_n 0, 1) := by decide +kernel
theorem dX4_bestOf_27 : decode cX4_bestOf 27 = .ok (.getfield 34, 3) := by decide +kernel
theorem dX4_bestOf_30 : decode cX4_bestOf 30 = .ok (.if_icmp .ge 33, 3) := by decide +kernel
theorem dX4_bestOf_33 : decode cX4_bestOf 33 = .ok (.iload 4, 2) := by decide +kernel
theorem dX4_bestOf_35 : decode cX4_bestOf 35 = .ok (.iload 5, 2) := by decide +kernel
theorem dX4_bestOf_37 : decode cX4_bestOf 37 = .ok (.ishr, 1) := by decide +kernel
theorem dX4_bestOf_38 : decode cX4_bestOf 38 = .ok (.iconst 1, 1) := by decide +kernel
theorem dX4_bestOf_39 : decode cX4_bestOf 39 = .ok (.iand, 1) := by decide +kernel
theorem dX4_bestOf_40 : decode cX4_bestOf 40 = .ok (.iconst 1, 1) := by decide +kernel
theorem dX4_bestOf_41 : decode cX4_bestOf 41 = .ok (.if_icmp .ne 16, 3) := by decide +kernel
theorem dX4_bestOf_44 : decode cX4_bestOf 44 = .ok (.iload_n 3, 1) := by decide +kernel
theorem dX4_bestOf_45 : decode cX4_bestOf 45 = .ok (.aload_n 0, 1) := by decide +kernel
theorem dX4_bestOf_46 : decode cX4_bestOf 46 = .ok (.iload_n 1, 1) := by decide +kernel
theorem dX4_bestOf_47 : decode cX4_bestOf 47 = .ok (.iload_n 2, 1) := by decide +kernel
theorem dX4_bestOf_48 : decode cX4_bestOf 48 = .ok (.iload 5, 2) := by decide +kernel
theorem dX4_bestOf_50 : decode cX4_bestOf 50 = .ok (.invokevirtual 43, 3) := by decide +kernel
theorem dX4_bestOf_53 : decode cX4_bestOf 53 = .ok (.invokestatic 31, 3) := by decide +kernel
theorem dX4_bestOf_56 : decode cX4_bestOf 56 = .ok (.istore_n 3, 1) := by decide +kernel
theorem dX4_bestOf_57 : decode cX4_bestOf 57 = .ok (.iinc 5 1, 3) := by decide +kernel
theorem dX4_bestOf_60 : decode cX4_bestOf 60 = .ok (.goto (-36), 3) := by decide +kernel
theorem dX4_bestOf_63 : decode cX4_bestOf 63 = .ok (.iload_n 3, 1) := by decide +kernel
theorem dX4_bestOf_64 : decode cX4_bestOf 64 = .ok (.ireturn, 1) := by decide +kernel
theorem dX4_bestWith_0 : decode cX4_bestWith 0 = .ok (.aload_n 0, 1) := by decide +kernel
theorem dX4_bestWith_1 : decode cX4_bestWith 1 = .ok (.getfield 15, 3) := by decide +kernel
theorem dX4_bestWith_4 : decode cX4_bestWith 4 = .ok (.iload_n 1, 1) := by decide +kernel
theorem dX4_bestWith_5 : decode cX4_bestWith 5 = .ok (.iaload, 1) := by decide +kernel
theorem dX4_bestWith_6 : decode cX4_bestWith 6 = .ok (.aload_n 0, 1) := by decide +kernel
theorem dX4_bestWith_7 : decode cX4_bestWith 7 = .ok (.iload_n 1, 1) := by decide +kernel
theorem dX4_bestWith_8 : decode cX4_bestWith 8 = .ok (.iconst 1, 1) := by decide +kernel
theorem dX4_bestWith_9 : decode cX4_bestWith 9 = .ok (.iadd, 1) := by decide +kernel
theorem dX4_bestWith_10 : decode cX4_bestWith 10 = .ok (.iload_n 2, 1) := by decide +kernel
theorem dX4_bestWith_11 : decode cX4_bestWith 11 = .ok (.iconst 1, 1) := by decide +kernel
theorem dX4_bestWith_12 : decode cX4_bestWith 12 = .ok (.iload_n 3, 1) := by decide +kernel
theorem dX4_bestWith_13 : decode cX4_bestWith 13 = .ok (.ishl, 1) := by decide +kernel
theorem dX4_bestWith_14 : decode cX4_bestWith 14 = .ok (.ior, 1) := by decide +kernel
theorem dX4_bestWith_15 : decode cX4_bestWith 15 = .ok (.invokevirtual 40, 3) := by decide +kernel
theorem dX4_bestWith_18 : decode cX4_bestWith 18 = .ok (.iadd, 1) := by decide +kernel
theorem dX4_bestWith_19 : decode cX4_bestWith 19 = .ok (.ireturn, 1) := by decide +kernel
theorem dX4_bestFrom_0 : decode cX4_bestFrom 0 = .ok (.iload_n 1, 1) := by decide +kernel
theorem dX4_bestFrom_1 : decode cX4_bestFrom 1 = .ok (.iconst 0, 1) := by decide +kernel
theorem dX4_bestFrom_2 : decode cX4_bestFrom 2 = .ok (.aload_n 0, 1) := by decide +kernel
theorem dX4_bestFrom_3 : decode cX4_bestFrom 3 = .ok (.getfield 21, 3) := by decide +kernel
theorem dX4_bestFrom_6 : decode cX4_bestFrom 6 = .ok (.invokestatic 47, 3) := by decide +kernel
theorem dX4_bestFrom_9 : decode cX4_bestFrom 9 = .ok (.ifCond .eq 17, 3) := by decide +kernel
theorem dX4_bestFrom_12 : decode cX4_bestFrom 12 = .ok (.iload_n 2, 1) := by decide +kernel
theorem dX4_bestFrom_13 : decode cX4_bestFrom 13 = .ok (.iconst 0, 1) := by decide +kernel
theorem dX4_bestFrom_14 : decode cX4_bestFrom 14 = .ok (.bipush 127, 2) := by decide +kernel
theorem dX4_bestFrom_16 : decode cX4_bestFrom 16 = .ok (.invokestatic 47, 3) := by decide +kernel
theorem dX4_bestFrom_19 : decode cX4_bestFrom 19 = .ok (.ifCond .eq 7, 3) := by decide +kernel
theorem dX4_bestFrom_22 : decode cX4_bestFrom 22 = .ok (.iconst 1, 1) := by decide +kernel
theorem dX4_bestFrom_23 : decode cX4_bestFrom 23 = .ok (.goto 4, 3) := by decide +kernel
theorem dX4_bestFrom_26 : decode cX4_bestFrom 26 = .ok (.iconst 0, 1) := by decide +kernel
theorem dX4_bestFrom_27 : decode cX4_bestFrom 27 = .ok (.istore_n 3, 1) := by decide +kernel
theorem dX4_bestFrom_28 : decode cX4_bestFrom 28 = .ok (.iload_n 3, 1) := by decide +kernel
theorem dX4_bestFrom_29 : decode cX4_bestFrom 29 = .ok (.ifCond .eq 18, 3) := by decide +kernel
theorem dX4_bestFrom_32 : decode cX4_bestFrom 32 = .ok (.aload_n 0, 1) := by decide +kernel
theorem dX4_bestFrom_33 : decode cX4_bestFrom 33 = .ok (.getfield 18, 3) := by decide +kernel
theorem dX4_bestFrom_36 : decode cX4_bestFrom 36 = .ok (.iload_n 1, 1) := by decide +kernel
theorem dX4_bestFrom_37 : decode cX4_bestFrom 37 = .ok (.sipush 128, 3) := by decide +kernel
theorem dX4_bestFrom_40 : decode cX4_bestFrom 40 = .ok (.imul, 1) := by decide +kernel
theorem dX4_bestFrom_41 : decode cX4_bestFrom 41 = .ok (.iload_n 2, 1) := by decide +kernel
theorem dX4_bestFrom_42 : decode cX4_bestFrom 42 = .ok (.iadd, 1) := by decide +kernel
theorem dX4_bestFrom_43 : decode cX4_bestFrom 43 = .ok (.iaload, 1) := by decide +kernel
theorem dX4_bestFrom_44 : decode cX4_bestFrom 44 = .ok (.goto 4, 3) := by decide +kernel
theorem dX4_bestFrom_47 : decode cX4_bestFrom 47 = .ok (.iconst 0, 1) := by decide +kernel
theorem dX4_bestFrom_48 : decode cX4_bestFrom 48 = .ok (.ireturn, 1) := by decide +kernel
theorem dX4_bestWithout_0 : decode cX4_bestWithout 0 = .ok (.aload_n 0, 1) := by decide +kernel
theorem dX4_bestWithout_1 : decode cX4_bestWithout 1 = .ok (.iconst 0, 1) := by decide +kernel
theorem dX4_bestWithout_2 : decode cX4_bestWithout 2 = .ok (.iload_n 1, 1) := by decide +kernel
theorem dX4_bestWithout_3 : decode cX4_bestWithout 3 = .ok (.invokevirtual 40, 3) := by decide +kernel
theorem dX4_bestWithout_6 : decode cX4_bestWithout 6 = .ok (.ireturn, 1) := by decide +kernel
theorem dX4_partner_0 : decode cX4_partner 0 = .ok (.iconst 0, 1) := by decide +kernel
theorem dX4_partner_1 : decode cX4_partner 1 = .ok (.istore_n 2, 1) := by decide +kernel
theorem dX4_partner_2 : decode cX4_partner 2 = .ok (.iconst (-1), 1) := by decide +kernel
theorem dX4_partner_3 : decode cX4_partner 3 = .ok (.istore_n 3, 1) := by decide +kernel
theorem dX4_partner_4 : decode cX4_partner 4 = .ok (.iconst 0, 1) := by decide +kernel
theorem dX4_partner_5 : decode cX4_partner 5 = .ok (.istore 4, 2) := by decide +kernel
theorem dX4_partner_7 : decode cX4_partner 7 = .ok (.iload 4, 2) := by decide +kernel
theorem dX4_partner_9 : decode cX4_partner 9 = .ok (.iload_n 1, 1) := by decide +kernel
theorem dX4_partner_10 : decode cX4_partner 10 = .ok (.if_icmp .gt 41, 3) := by decide +kernel
theorem dX4_partner_13 : decode cX4_partner 13 = .ok (.iload 4, 2) := by decide +kernel
theorem dX4_partner_15 : decode cX4_partner 15 = .ok (.aload_n 0, 1) := by decide +kernel
theorem dX4_partner_16 : decode cX4_partner 16 = .ok (.getfield 21, 3) := by decide +kernel
theorem dX4_partner_19 : decode cX4_partner 19 = .ok (.if_icmp .ge 32, 3) := by decide +kernel
theorem dX4_partner_22 : decode cX4_partner 22 = .ok (.aload_n 0, 1) := by decide +kernel
theorem dX4_partner_23 : decode cX4_partner 23 = .ok (.iload 4, 2) := by decide +kernel
theorem dX4_partner_25 : decode cX4_partner 25 = .ok (.iload_n 2, 1) := by decide +kernel
theorem dX4_partner_26 : decode cX4_partner 26 = .ok (.invokevirtual 51, 3) := by decide +kernel
theorem dX4_partner_29 : decode cX4_partner 29 = .ok (.istore_n 3, 1) := by decide +kernel
theorem dX4_partner_30 : decode cX4_partner 30 = .ok (.iload_n 2, 1) := by decide +kernel
theorem dX4_partner_31 : decode cX4_partner 31 = .ok (.iload_n 3, 1) := by decide +kernel
theorem dX4_partner_32 : decode cX4_partner 32 = .ok (.iconst (-1), 1) := by decide +kernel
theorem dX4_partner_33 : decode cX4_partner 33 = .ok (.if_icmp .ne 7, 3) := by decide +kernel
theorem dX4_partner_36 : decode cX4_partner 36 = .ok (.iconst 0, 1) := by decide +kernel
theorem dX4_partner_37 : decode cX4_partner 37 = .ok (.goto 6, 3) := by decide +kernel
theorem dX4_partner_40 : decode cX4_partner 40 = .ok (.iconst 1, 1) := by decide +kernel
theorem dX4_partner_41 : decode cX4_partner 41 = .ok (.iload_n 3, 1) := by decide +kernel
theorem dX4_partner_42 : decode cX4_partner 42 = .ok (.ishl, 1) := by decide +kernel
theorem dX4_partner_43 : decode cX4_partner 43 = .ok (.ior, 1) := by decide +kernel
theorem dX4_partner_44 : decode cX4_partner 44 = .ok (.istore_n 2, 1) := by decide +kernel
theorem dX4_partner_45 : decode cX4_partner 45 = .ok (.iinc 4 1, 3) := by decide +kernel
theorem dX4_partner_48 : decode cX4_partner 48 = .ok (.goto (-41), 3) := by decide +kernel
theorem dX4_partner_51 : decode cX4_partner 51 = .ok (.iload_n 3, 1) := by decide +kernel
theorem dX4_partner_52 : decode cX4_partner 52 = .ok (.ireturn, 1) := by decide +kernel
theorem dX4_leastColumn_0 : decode cX4_leastColumn 0 = .ok (.aload_n 0, 1) := by decide +kernel
theorem dX4_leastColumn_1 : decode cX4_leastColumn 1 = .ok (.getfield 9, 3) := by decide +kernel
theorem dX4_leastColumn_4 : decode cX4_leastColumn 4 = .ok (.iload_n 1, 1) := by decide +kernel
theorem dX4_leastColumn_5 : decode cX4_leastColumn 5 = .ok (.iaload, 1) := by decide +kernel
theorem dX4_leastColumn_6 : decode cX4_leastColumn 6 = .ok (.iload_n 2, 1) := by decide +kernel
theorem dX4_leastColumn_7 : decode cX4_leastColumn 7 = .ok (.iconst (-1), 1) := by decide +kernel
theorem dX4_leastColumn_8 : decode cX4_leastColumn 8 = .ok (.ixor, 1) := by decide +kernel
theorem dX4_leastColumn_9 : decode cX4_leastColumn 9 = .ok (.iand, 1) := by decide +kernel
theorem dX4_leastColumn_10 : decode cX4_leastColumn 10 = .ok (.istore_n 3, 1) := by decide +kernel
theorem dX4_leastColumn_11 : decode cX4_leastColumn 11 = .ok (.iconst 0, 1) := by decide +kernel
theorem dX4_leastColumn_12 : decode cX4_leastColumn 12 = .ok (.istore 4, 2) := by decide +kernel
theorem dX4_leastColumn_14 : decode cX4_leastColumn 14 = .ok (.iload 4, 2) := by decide +kernel
theorem dX4_leastColumn_16 : decode cX4_leastColumn 16 = .ok (.aload_n 0, 1) := by decide +kernel
theorem dX4_leastColumn_17 : decode cX4_leastColumn 17 = .ok (.getfield 34, 3) := by decide +kernel
theorem dX4_leastColumn_20 : decode cX4_leastColumn 20 = .ok (.if_icmp .ge 39, 3) := by decide +kernel
theorem dX4_leastColumn_23 : decode cX4_leastColumn 23 = .ok (.iload_n 3, 1) := by decide +kernel
theorem dX4_leastColumn_24 : decode cX4_leastColumn 24 = .ok (.iload 4, 2) := by decide +kernel
theorem dX4_leastColumn_26 : decode cX4_leastColumn 26 = .ok (.ishr, 1) := by decide +kernel
theorem dX4_leastColumn_27 : decode cX4_leastColumn 27 = .ok (.iconst 1, 1) := by decide +kernel
theorem dX4_leastColumn_28 : decode cX4_leastColumn 28 = .ok (.iand, 1) := by decide +kernel
theorem dX4_leastColumn_29 : decode cX4_leastColumn 29 = .ok (.iconst 1, 1) := by decide +kernel
theorem dX4_leastColumn_30 : decode cX4_leastColumn 30 = .ok (.if_icmp .ne 23, 3) := by decide +kernel
theorem dX4_leastColumn_33 : decode cX4_leastColumn 33 = .ok (.aload_n 0, 1) := by decide +kernel
theorem dX4_leastColumn_34 : decode cX4_leastColumn 34 = .ok (.iload_n 1, 1) := by decide +kernel
theorem dX4_leastColumn_35 : decode cX4_leastColumn 35 = .ok (.iload_n 2, 1) := by decide +kernel
theorem dX4_leastColumn_36 : decode cX4_leastColumn 36 = .ok (.iload 4, 2) := by decide +kernel
theorem dX4_leastColumn_38 : decode cX4_leastColumn 38 = .ok (.invokevirtual 43, 3) := by decide +kernel
theorem dX4_leastColumn_41 : decode cX4_leastColumn 41 = .ok (.aload_n 0, 1) := by decide +kernel
theorem dX4_leastColumn_42 : decode cX4_leastColumn 42 = .ok (.iload_n 1, 1) := by decide +kernel
theorem dX4_leastColumn_43 : decode cX4_leastColumn 43 = .ok (.iload_n 2, 1) := by decide +kernel
theorem dX4_leastColumn_44 : decode cX4_leastColumn 44 = .ok (.invokevirtual 40, 3) := by decide +kernel
theorem dX4_leastColumn_47 : decode cX4_leastColumn 47 = .ok (.if_icmp .ne 6, 3) := by decide +kernel
theorem dX4_leastColumn_50 : decode cX4_leastColumn 50 = .ok (.iload 4, 2) := by decide +kernel
theorem dX4_leastColumn_52 : decode cX4_leastColumn 52 = .ok (.ireturn, 1) := by decide +kernel
theorem dX4_leastColumn_53 : decode cX4_leastColumn 53 = .ok (.iinc 4 1, 3) := by decide +kernel
theorem dX4_leastColumn_56 : decode cX4_leastColumn 56 = .ok (.goto (-42), 3) := by decide +kernel
theorem dX4_leastColumn_59 : decode cX4_leastColumn 59 = .ok (.iconst (-1), 1) := by decide +kernel
theorem dX4_leastColumn_60 : decode cX4_leastColumn 60 = .ok (.ireturn, 1) := by decide +kernel
theorem dX5_init_0 : decode cX5_init 0 = .ok (.aload_n 0, 1) := by decide +kernel
theorem dX5_init_1 : decode cX5_init 1 = .ok (.invokespecial 3, 3) := by decide +kernel
theorem dX5_init_4 : decode cX5_init 4 = .ok (.aload_n 0, 1) := by decide +kernel
theorem dX5_init_5 : decode cX5_init 5 = .ok (.bipush 7, 2) := by decide +kernel
theorem dX5_init_7 : decode cX5_init 7 = .ok (.newarray .int, 2) := by decide +kernel
theorem dX5_init_9 : decode cX5_init 9 = .ok (.putfield 9, 3) := by decide +kernel
theorem dX5_init_12 : decode cX5_init 12 = .ok (.return_, 1) := by decide +kernel
theorem dX5_begin_0 : decode cX5_begin 0 = .ok (.aload_n 0, 1) := by decide +kernel
theorem dX5_begin_1 : decode cX5_begin 1 = .ok (.iconst 0, 1) := by decide +kernel
theorem dX5_begin_2 : decode cX5_begin 2 = .ok (.putfield 15, 3) := by decide +kernel
theorem dX5_begin_5 : decode cX5_begin 5 = .ok (.return_, 1) := by decide +kernel
theorem dX5_add_0 : decode cX5_add 0 = .ok (.aload_n 0, 1) := by decide +kernel
theorem dX5_add_1 : decode cX5_add 1 = .ok (.getfield 15, 3) := by decide +kernel
theorem dX5_add_4 : decode cX5_add 4 = .ok (.bipush 7, 2) := by decide +kernel
theorem dX5_add_6 : decode cX5_add 6 = .ok (.if_icmp .ge 23, 3) := by decide +kernel
theorem dX5_add_9 : decode cX5_add 9 = .ok (.aload_n 0, 1) := by decide +kernel
theorem dX5_add_10 : decode cX5_add 10 = .ok (.getfield 9, 3) := by decide +kernel
theorem dX5_add_13 : decode cX5_add 13 = .ok (.aload_n 0, 1) := by decide +kernel
theorem dX5_add_14 : decode cX5_add 14 = .ok (.getfield 15, 3) := by decide +kernel
theorem dX5_add_17 : decode cX5_add 17 = .ok (.iload_n 1, 1) := by decide +kernel
theorem dX5_add_18 : decode cX5_add 18 = .ok (.iastore, 1) := by decide +kernel
theorem dX5_add_19 : decode cX5_add 19 = .ok (.aload_n 0, 1) := by decide +kernel
theorem dX5_add_20 : decode cX5_add 20 = .ok (.dup, 1) := by decide +kernel
theorem dX5_add_21 : decode cX5_add 21 = .ok (.getfield 15, 3) := by decide +kernel
theorem dX5_add_24 : decode cX5_add 24 = .ok (.iconst 1, 1) := by decide +kernel
theorem dX5_add_25 : decode cX5_add 25 = .ok (.iadd, 1) := by decide +kernel
theorem dX5_add_26 : decode cX5_add 26 = .ok (.putfield 15, 3) := by decide +kernel
theorem dX5_add_29 : decode cX5_add 29 = .ok (.return_, 1) := by decide +kernel
theorem dX5_itemAt_0 : decode cX5_itemAt 0 = .ok (.iconst 0, 1) := by decide +kernel
theorem dX5_itemAt_1 : decode cX5_itemAt 1 = .ok (.istore_n 2, 1) := by decide +kernel
theorem dX5_itemAt_2 : decode cX5_itemAt 2 = .ok (.iload_n 2, 1) := by decide +kernel
theorem dX5_itemAt_3 : decode cX5_itemAt 3 = .ok (.aload_n 0, 1) := by decide +kernel
theorem dX5_itemAt_4 : decode cX5_itemAt 4 = .ok (.getfield 15, 3) := by decide +kernel
theorem dX5_itemAt_7 : decode cX5_itemAt 7 = .ok (.if_icmp .ge 20, 3) := by decide +kernel
theorem dX5_itemAt_10 : decode cX5_itemAt 10 = .ok (.aload_n 0, 1) := by decide +kernel
theorem dX5_itemAt_11 : decode cX5_itemAt 11 = .ok (.iload_n 2, 1) := by decide +kernel
theorem dX5_itemAt_12 : decode cX5_itemAt 12 = .ok (.invokevirtual 19, 3) := by decide +kernel
theorem dX5_itemAt_15 : decode cX5_itemAt 15 = .ok (.iload_n 1, 1) := by decide +kernel
theorem dX5_itemAt_16 : decode cX5_itemAt 16 = .ok (.if_icmp .ne 5, 3) := by decide +kernel
theorem dX5_itemAt_19 : decode cX5_itemAt 19 = .ok (.iload_n 2, 1) := by decide +kernel
theorem dX5_itemAt_20 : decode cX5_itemAt 20 = .ok (.ireturn, 1) := by decide +kernel
theorem dX5_itemAt_21 : decode cX5_itemAt 21 = .ok (.iinc 2 1, 3) := by decide +kernel
theorem dX5_itemAt_24 : decode cX5_itemAt 24 = .ok (.goto (-22), 3) := by decide +kernel
theorem dX5_itemAt_27 : decode cX5_itemAt 27 = .ok (.iconst (-1), 1) := by decide +kernel
theorem dX5_itemAt_28 : decode cX5_itemAt 28 = .ok (.ireturn, 1) := by decide +kernel
theorem dX5_placeOf_0 : decode cX5_placeOf 0 = .ok (.iconst 0, 1) := by decide +kernel
theorem dX5_placeOf_1 : decode cX5_placeOf 1 = .ok (.istore_n 2, 1) := by decide +kernel
theorem dX5_placeOf_2 : decode cX5_placeOf 2 = .ok (.iconst 0, 1) := by decide +kernel
theorem dX5_placeOf_3 : decode cX5_placeOf 3 = .ok (.istore_n 3, 1) := by decide +kernel
theorem dX5_placeOf_4 : decode cX5_placeOf 4 = .ok (.iload_n 3, 1) := by decide +kernel
theorem dX5_placeOf_5 : decode cX5_placeOf 5 = .ok (.aload_n 0, 1) := by decide +kernel
theorem dX5_placeOf_6 : decode cX5_placeOf 6 = .ok (.getfield 15, 3) := by decide +kernel
theorem dX5_placeOf_9 : decode cX5_placeOf 9 = .ok (.if_icmp .ge 47, 3) := by decide +kernel
theorem dX5_placeOf_12 : decode cX5_placeOf 12 = .ok (.aload_n 0, 1) := by decide +kernel
theorem dX5_placeOf_13 : decode cX5_placeOf 13 = .ok (.getfield 9, 3) := by decide +kernel
theorem dX5_placeOf_16 : decode cX5_placeOf 16 = .ok (.iload_n 3, 1) := by decide +kernel
theorem dX5_placeOf_17 : decode cX5_placeOf 17 = .ok (.iaload, 1) := by decide +kernel
theorem dX5_placeOf_18 : decode cX5_placeOf 18 = .ok (.aload_n 0, 1) := by decide +kernel
theorem dX5_placeOf_19 : decode cX5_placeOf 19 = .ok (.getfield 9, 3) := by decide +kernel
theorem dX5_placeOf_22 : decode cX5_placeOf 22 = .ok (.iload_n 1, 1) := by decide +kernel
theorem dX5_placeOf_23 : decode cX5_placeOf 23 = .ok (.iaload, 1) := by decide +kernel
theorem dX5_placeOf_24 : decode cX5_placeOf 24 = .ok (.if_icmp .gt 23, 3) := by decide +kernel
theorem dX5_placeOf_27 : decode cX5_placeOf 27 = .ok (.aload_n 0, 1) := by decide +kernel
theorem dX5_placeOf_28 : decode cX5_placeOf 28 = .ok (.getfield 9, 3) := by decide +kernel
theorem dX5_placeOf_31 : decode cX5_placeOf 31 = .ok (.iload_n 3, 1) := by decide +kernel
theorem dX5_placeOf_32 : decode cX5_placeOf 32 = .ok (.iaload, 1) := by decide +kernel
theorem dX5_placeOf_33 : decode cX5_placeOf 33 = .ok (.aload_n 0, 1) := by decide +kernel
theorem dX5_placeOf_34 : decode cX5_placeOf 34 = .ok (.getfield 9, 3) := by decide +kernel
theorem dX5_placeOf_37 : decode cX5_placeOf 37 = .ok (.iload_n 1, 1) := by decide +kernel
theorem dX5_placeOf_38 : decode cX5_placeOf 38 = .ok (.iaload, 1) := by decide +kernel
theorem dX5_placeOf_39 : decode cX5_placeOf 39 = .ok (.if_icmp .ne 11, 3) := by decide +kernel
theorem dX5_placeOf_42 : decode cX5_placeOf 42 = .ok (.iload_n 3, 1) := by decide +kernel
theorem dX5_placeOf_43 : decode cX5_placeOf 43 = .ok (.iload_n 1, 1) := by decide +kernel
theorem dX5_placeOf_44 : decode cX5_placeOf 44 = .ok (.if_icmp .ge 6, 3) := by decide +kernel
theorem dX5_placeOf_47 : decode cX5_placeOf 47 = .ok (.iinc 2 1, 3) := by decide +kernel
theorem dX5_placeOf_50 : decode cX5_placeOf 50 = .ok (.iinc 3 1, 3) := by decide +kernel
theorem dX5_placeOf_53 : decode cX5_placeOf 53 = .ok (.goto (-49), 3) := by decide +kernel
theorem dX5_placeOf_56 : decode cX5_placeOf 56 = .ok (.iload_n 2, 1) := by decide +kernel
theorem dX5_placeOf_57 : decode cX5_placeOf 57 = .ok (.ireturn, 1) := by decide +kernel
theorem dX6_init_0 : decode cX6_init 0 = .ok (.aload_n 0, 1) := by decide +kernel
theorem dX6_init_1 : decode cX6_init 1 = .ok (.invokespecial 3, 3) := by decide +kernel
theorem dX6_init_4 : decode cX6_init 4 = .ok (.aload_n 0, 1) := by decide +kernel
theorem dX6_init_5 : decode cX6_init 5 = .ok (.iconst 0, 1) := by decide +kernel
theorem dX6_init_6 : decode cX6_init 6 = .ok (.iload_n 1, 1) := by decide +kernel
theorem dX6_init_7 : decode cX6_init 7 = .ok (.invokestatic 9, 3) := by decide +kernel
theorem dX6_init_10 : decode cX6_init 10 = .ok (.putfield 15, 3) := by decide +kernel
theorem dX6_init_13 : decode cX6_init 13 = .ok (.aload_n 0, 1) := by decide +kernel
theorem dX6_init_14 : decode cX6_init 14 = .ok (.iconst 0, 1) := by decide +kernel
theorem dX6_init_15 : decode cX6_init 15 = .ok (.iload_n 2, 1) := by decide +kernel
theorem dX6_init_16 : decode cX6_init 16 = .ok (.invokestatic 9, 3) := by decide +kernel
theorem dX6_init_19 : decode cX6_init 19 = .ok (.putfield 21, 3) := by decide +kernel
theorem dX6_init_22 : decode cX6_init 22 = .ok (.aload_n 0, 1) := by decide +kernel
theorem dX6_init_23 : decode cX6_init 23 = .ok (.aload_n 0, 1) := by decide +kernel
theorem dX6_init_24 : decode cX6_init 24 = .ok (.getfield 15, 3) := by decide +kernel
theorem dX6_init_27 : decode cX6_init 27 = .ok (.aload_n 0, 1) := by decide +kernel
theorem dX6_init_28 : decode cX6_init 28 = .ok (.getfield 21, 3) := by decide +kernel
theorem dX6_init_31 : decode cX6_init 31 = .ok (.imul, 1) := by decide +kernel
theorem dX6_init_32 : decode cX6_init 32 = .ok (.newarray .int, 2) := by decide +kernel
theorem dX6_init_34 : decode cX6_init 34 = .ok (.putfield 24, 3) := by decide +kernel
theorem dX6_init_37 : decode cX6_init 37 = .ok (.return_, 1) := by decide +kernel
theorem dX6_size_0 : decode cX6_size 0 = .ok (.aload_n 0, 1) := by decide +kernel
theorem dX6_size_1 : decode cX6_size 1 = .ok (.getfield 28, 3) := by decide +kernel
theorem dX6_size_4 : decode cX6_size 4 = .ok (.ireturn, 1) := by decide +kernel
theorem dX6_contains_0 : decode cX6_contains 0 = .ok (.iconst 0, 1) := by decide +kernel
theorem dX6_contains_1 : decode cX6_contains 1 = .ok (.iload_n 1, 1) := by decide +kernel
theorem dX6_contains_2 : decode cX6_contains 2 = .ok (.if_icmp .gt 15, 3) := by decide +kernel
theorem dX6_contains_5 : decode cX6_contains 5 = .ok (.iload_n 1, 1) := by decide +kernel
theorem dX6_contains_6 : decode cX6_contains 6 = .ok (.aload_n 0, 1) := by decide +kernel
theorem dX6_contains_7 : decode cX6_contains 7 = .ok (.getfield 28, 3) := by decide +kernel
theorem dX6_contains_10 : decode cX6_contains 10 = .ok (.if_icmp .ge 7, 3) := by decide +kernel
theorem dX6_contains_13 : decode cX6_contains 13 = .ok (.iconst 1, 1) := by decide +kernel
theorem dX6_contains_14 : decode cX6_contains 14 = .ok (.goto 4, 3) := by decide +kernel
theorem dX6_contains_17 : decode cX6_contains 17 = .ok (.iconst 0, 1) := by decide +kernel
theorem dX6_contains_18 : decode cX6_contains 18 = .ok (.ireturn, 1) := by decide +kernel
theorem dX6_isCell_0 : decode cX6_isCell 0 = .ok (.iconst 0, 1) := by decide +kernel
theorem dX6_isCell_1 : decode cX6_isCell 1 = .ok (.iload_n 1, 1) := by decide +kernel
theorem dX6_isCell_2 : decode cX6_isCell 2 = .ok (.if_icmp .gt 28, 3) := by decide +kernel
theorem dX6_isCell_5 : decode cX6_isCell 5 = .ok (.iload_n 1, 1) := by decide +kernel
theorem dX6_isCell_6 : decode cX6_isCell 6 = .ok (.aload_n 0, 1) := by decide +kernel
theorem dX6_isCell_7 : decode cX6_isCell 7 = .ok (.getfield 28, 3) := by decide +kernel
theorem dX6_isCell_10 : decode cX6_isCell 10 = .ok (.if_icmp .ge 20, 3) := by decide +kernel
theorem dX6_isCell_13 : decode cX6_isCell 13 = .ok (.iconst 0, 1) := by decide +kernel
theorem dX6_isCell_14 : decode cX6_isCell 14 = .ok (.iload_n 2, 1) := by decide +kernel
theorem dX6_isCell_15 : decode cX6_isCell 15 = .ok (.if_icmp .gt 15, 3) := by decide +kernel
theorem dX6_isCell_18 : decode cX6_isCell 18 = .ok (.iload_n 2, 1) := by decide +kernel
theorem dX6_isCell_19 : decode cX6_isCell 19 = .ok (.aload_n 0, 1) := by decide +kernel
theorem dX6_isCell_20 : decode cX6_isCell 20 = .ok (.getfield 15, 3) := by decide +kernel
theorem dX6_isCell_23 : decode cX6_isCell 23 = .ok (.if_icmp .ge 7, 3) := by decide +kernel
theorem dX6_isCell_26 : decode cX6_isCell 26 = .ok (.iconst 1, 1) := by decide +kernel
theorem dX6_isCell_27 : decode cX6_isCell 27 = .ok (.goto 4, 3) := by decide +kernel
theorem dX6_isCell_30 : decode cX6_isCell 30 = .ok (.iconst 0, 1) := by decide +kernel
theorem dX6_isCell_31 : decode cX6_isCell 31 = .ok (.ireturn, 1) := by decide +kernel
theorem dX6_at_0 : decode cX6_at 0 = .ok (.aload_n 0, 1) := by decide +kernel
theorem dX6_at_1 : decode cX6_at 1 = .ok (.iload_n 1, 1) := by decide +kernel
theorem dX6_at_2 : decode cX6_at 2 = .ok (.iload_n 2, 1) := by decide +kernel
theorem dX6_at_3 : decode cX6_at 3 = .ok (.invokevirtual 31, 3) := by decide +kernel
theorem dX6_at_6 : decode cX6_at 6 = .ok (.ifCond .eq 19, 3) := by decide +kernel
theorem dX6_at_9 : decode cX6_at 9 = .ok (.aload_n 0, 1) := by decide +kernel
theorem dX6_at_10 : decode cX6_at 10 = .ok (.getfield 24, 3) := by decide +kernel
theorem dX6_at_13 : decode cX6_at 13 = .ok (.iload_n 1, 1) := by decide +kernel
theorem dX6_at_14 : decode cX6_at 14 = .ok (.aload_n 0, 1) := by decide +kernel
theorem dX6_at_15 : decode cX6_at 15 = .ok (.getfield 15, 3) := by decide +kernel
theorem dX6_at_18 : decode cX6_at 18 = .ok (.imul, 1) := by decide +kernel
theorem dX6_at_19 : decode cX6_at 19 = .ok (.iload_n 2, 1) := by decide +kernel
theorem dX6_at_20 : decode cX6_at 20 = .ok (.iadd, 1) := by decide +kernel
theorem dX6_at_21 : decode cX6_at 21 = .ok (.iaload, 1) := by decide +kernel
theorem dX6_at_22 : decode cX6_at 22 = .ok (.goto 4, 3) := by decide +kernel
theorem dX6_at_25 : decode cX6_at 25 = .ok (.iconst 0, 1) := by decide +kernel
theorem dX6_at_26 : decode cX6_at 26 = .ok (.ireturn, 1) := by decide +kernel
theorem dX6_change_0 : decode cX6_change 0 = .ok (.aload_n 0, 1) := by decide +kernel
theorem dX6_change_1 : decode cX6_change 1 = .ok (.iload_n 1, 1) := by decide +kernel
theorem dX6_change_2 : decode cX6_change 2 = .ok (.iload_n 2, 1) := by decide +kernel
theorem dX6_change_3 : decode cX6_change 3 = .ok (.invokevirtual 31, 3) := by decide +kernel
theorem dX6_change_6 : decode cX6_change 6 = .ok (.ifCond .eq 17, 3) := by decide +kernel
theorem dX6_change_9 : decode cX6_change 9 = .ok (.aload_n 0, 1) := by decide +kernel
theorem dX6_change_10 : decode cX6_change 10 = .ok (.getfield 24, 3) := by decide +kernel
theorem dX6_change_13 : decode cX6_change 13 = .ok (.iload_n 1, 1) := by decide +kernel
theorem dX6_change_14 : decode cX6_change 14 = .ok (.aload_n 0, 1) := by decide +kernel
theorem dX6_change_15 : decode cX6_change 15 = .ok (.getfield 15, 3) := by decide +kernel
theorem dX6_change_18 : decode cX6_change 18 = .ok (.imul, 1) := by decide +kernel
theorem dX6_change_19 : decode cX6_change 19 = .ok (.iload_n 2, 1) := by decide +kernel
theorem dX6_change_20 : decode cX6_change 20 = .ok (.iadd, 1) := by decide +kernel
theorem dX6_change_21 : decode cX6_change 21 = .ok (.iload_n 3, 1) := by decide +kernel
theorem dX6_change_22 : decode cX6_change 22 = .ok (.iastore, 1) := by decide +kernel
theorem dX6_change_23 : decode cX6_change 23 = .ok (.return_, 1) := by decide +kernel
theorem dX6_add_0 : decode cX6_add 0 = .ok (.aload_n 0, 1) := by decide +kernel
theorem dX6_add_1 : decode cX6_add 1 = .ok (.getfield 28, 3) := by decide +kernel
theorem dX6_add_4 : decode cX6_add 4 = .ok (.aload_n 0, 1) := by decide +kernel
theorem dX6_add_5 : decode cX6_add 5 = .ok (.getfield 21, 3) := by decide +kernel
theorem dX6_add_8 : decode cX6_add 8 = .ok (.if_icmp .lt 6, 3) := by decide +kernel
theorem dX6_add_11 : decode cX6_add 11 = .ok (.bipush (-4), 2) := by decide +kernel
theorem dX6_add_13 : decode cX6_add 13 = .ok (.ireturn, 1) := by decide +kernel
theorem dX6_add_14 : decode cX6_add 14 = .ok (.aload_n 0, 1) := by decide +kernel
theorem dX6_add_15 : decode cX6_add 15 = .ok (.dup, 1) := by decide +kernel
theorem dX6_add_16 : decode cX6_add 16 = .ok (.getfield 28, 3) := by decide +kernel
theorem dX6_add_19 : decode cX6_add 19 = .ok (.dup_x1, 1) := by decide +kernel
theorem dX6_add_20 : decode cX6_add 20 = .ok (.iconst 1, 1) := by decide +kernel
theorem dX6_add_21 : decode cX6_add 21 = .ok (.iadd, 1) := by decide +kernel
theorem dX6_add_22 : decode cX6_add 22 = .ok (.putfield 28, 3) := by decide +kernel
theorem dX6_add_25 : decode cX6_add 25 = .ok (.istore 4, 2) := by decide +kernel
theorem dX6_add_27 : decode cX6_add 27 = .ok (.aload_n 0, 1) := by decide +kernel
theorem dX6_add_28 : decode cX6_add 28 = .ok (.iload 4, 2) := by decide +kernel
theorem dX6_add_30 : decode cX6_add 30 = .ok (.iconst 0, 1) := by decide +kernel
theorem dX6_add_31 : decode cX6_add 31 = .ok (.iload_n 1, 1) := by decide +kernel
theorem dX6_add_32 : decode cX6_add 32 = .ok (.invokevirtual 35, 3) := by decide +kernel
theorem dX6_add_35 : decode cX6_add 35 = .ok (.aload_n 0, 1) := by decide +kernel
theorem dX6_add_36 : decode cX6_add 36 = .ok (.iload 4, 2) := by decide +kernel
theorem dX6_add_38 : decode cX6_add 38 = .ok (.iconst 1, 1) := by decide +kernel
theorem dX6_add_39 : decode cX6_add 39 = .ok (.iload_n 2, 1) := by decide +kernel
theorem dX6_add_40 : decode cX6_add 40 = .ok (.invokevirtual 35, 3) := by decide +kernel
theorem dX6_add_43 : decode cX6_add 43 = .ok (.aload_n 0, 1) := by decide +kernel
theorem dX6_add_44 : decode cX6_add 44 = .ok (.iload 4, 2) := by decide +kernel
theorem dX6_add_46 : decode cX6_add 46 = .ok (.iconst 2, 1) := by decide +kernel
theorem dX6_add_47 : decode cX6_add 47 = .ok (.iload_n 3, 1) := by decide +kernel
theorem dX6_add_48 : decode cX6_add 48 = .ok (.invokevirtual 35, 3) := by decide +kernel
theorem dX6_add_51 : decode cX6_add 51 = .ok (.iload 4, 2) := by decide +kernel
theorem dX6_add_53 : decode cX6_add 53 = .ok (.ireturn, 1) := by decide +kernel
theorem dX6_dropLast_0 : decode cX6_dropLast 0 = .ok (.aload_n 0, 1) := by decide +kernel
theorem dX6_dropLast_1 : decode cX6_dropLast 1 = .ok (.getfield 28, 3) := by decide +kernel
theorem dX6_dropLast_4 : decode cX6_dropLast 4 = .ok (.ifCond .le 13, 3) := by decide +kernel
theorem dX6_dropLast_7 : decode cX6_dropLast 7 = .ok (.aload_n 0, 1) := by decide +kernel
theorem dX6_dropLast_8 : decode cX6_dropLast 8 = .ok (.dup, 1) := by decide +kernel
theorem dX6_dropLast_9 : decode cX6_dropLast 9 = .ok (.getfield 28, 3) := by decide +kernel
theorem dX6_dropLast_12 : decode cX6_dropLast 12 = .ok (.iconst 1, 1) := by decide +kernel
theorem dX6_dropLast_13 : decode cX6_dropLast 13 = .ok (.isub, 1) := by decide +kernel
theorem dX6_dropLast_14 : decode cX6_dropLast 14 = .ok (.putfield 28, 3) := by decide +kernel
theorem dX6_dropLast_17 : decode cX6_dropLast 17 = .ok (.return_, 1) := by decide +kernel
theorem dX6_dropFirst_0 : decode cX6_dropFirst 0 = .ok (.aload_n 0, 1) := by decide +kernel
theorem dX6_dropFirst_1 : decode cX6_dropFirst 1 = .ok (.getfield 28, 3) := by decide +kernel
theorem dX6_dropFirst_4 : decode cX6_dropFirst 4 = .ok (.ifCond .le 38, 3) := by decide +kernel
theorem dX6_dropFirst_7 : decode cX6_dropFirst 7 = .ok (.aload_n 0, 1) := by decide +kernel
theorem dX6_dropFirst_8 : decode cX6_dropFirst 8 = .ok (.dup, 1) := by decide +kernel
theorem dX6_dropFirst_9 : decode cX6_dropFirst 9 = .ok (.getfield 28, 3) := by decide +kernel
theorem dX6_dropFirst_12 : decode cX6_dropFirst 12 = .ok (.iconst 1, 1) := by decide +kernel
theorem dX6_dropFirst_13 : decode cX6_dropFirst 13 = .ok (.isub, 1) := by decide +kernel
theorem dX6_dropFirst_14 : decode cX6_dropFirst 14 = .ok (.putfield 28, 3) := by decide +kernel
theorem dX6_dropFirst_17 : decode cX6_dropFirst 17 = .ok (.aload_n 0, 1) := by decide +kernel
theorem dX6_dropFirst_18 : decode cX6_dropFirst 18 = .ok (.getfield 24, 3) := by decide +kernel
theorem dX6_dropFirst_21 : decode cX6_dropFirst 21 = .ok (.aload_n 0, 1) := by decide +kernel
theorem dX6_dropFirst_22 : decode cX6_dropFirst 22 = .ok (.getfield 15, 3) := by decide +kernel
theorem dX6_dropFirst_25 : decode cX6_dropFirst 25 = .ok (.aload_n 0, 1) := by decide +kernel
theorem dX6_dropFirst_26 : decode cX6_dropFirst 26 = .ok (.getfield 24, 3) := by decide +kernel
theorem dX6_dropFirst_29 : decode cX6_dropFirst 29 = .ok (.iconst 0, 1) := by decide +kernel
theorem dX6_dropFirst_30 : decode cX6_dropFirst 30 = .ok (.aload_n 0, 1) := by decide +kernel
theorem dX6_dropFirst_31 : decode cX6_dropFirst 31 = .ok (.getfield 28, 3) := by decide +kernel
theorem dX6_dropFirst_34 : decode cX6_dropFirst 34 = .ok (.aload_n 0, 1) := by decide +kernel
theorem dX6_dropFirst_35 : decode cX6_dropFirst 35 = .ok (.getfield 15, 3) := by decide +kernel
theorem dX6_dropFirst_38 : decode cX6_dropFirst 38 = .ok (.imul, 1) := by decide +kernel
theorem dX6_dropFirst_39 : decode cX6_dropFirst 39 = .ok (.invokestatic 39, 3) := by decide +kernel
theorem dX6_dropFirst_42 : decode cX6_dropFirst 42 = .ok (.return_, 1) := by decide +kernel
theorem dX6_drop_0 : decode cX6_drop 0 = .ok (.aload_n 0, 1) := by decide +kernel
theorem dX6_drop_1 : decode cX6_drop 1 = .ok (.getfield 28, 3) := by decide +kernel
theorem dX6_drop_4 : decode cX6_drop 4 = .ok (.istore_n 1, 1) := by decide +kernel
theorem dX6_drop_5 : decode cX6_drop 5 = .ok (.aload_n 0, 1) := by decide +kernel
theorem dX6_drop_6 : decode cX6_drop 6 = .ok (.iconst 0, 1) := by decide +kernel
theorem dX6_drop_7 : decode cX6_drop 7 = .ok (.putfield 28, 3) := by decide +kernel
theorem dX6_drop_10 : decode cX6_drop 10 = .ok (.iload_n 1, 1) := by decide +kernel
theorem dX6_drop_11 : decode cX6_drop 11 = .ok (.ireturn, 1) := by decide +kernel
theorem dX6_become_0 : decode cX6_become 0 = .ok (.aload_n 0, 1) := by decide +kernel
theorem dX6_become_1 : decode cX6_become 1 = .ok (.getfield 24, 3) := by decide +kernel
theorem dX6_become_4 : decode cX6_become 4 = .ok (.arraylength, 1) := by decide +kernel
theorem dX6_become_5 : decode cX6_become 5 = .ok (.aload_n 1, 1) := by decide +kernel
theorem dX6_become_6 : decode cX6_become 6 = .ok (.getfield 24, 3) := by decide +kernel
theorem dX6_become_9 : decode cX6_become 9 = .ok (.arraylength, 1) := by decide +kernel
theorem dX6_become_10 : decode cX6_become 10 = .ok (.if_icmp .ne 29, 3) := by decide +kernel
theorem dX6_become_13 : decode cX6_become 13 = .ok (.aload_n 1, 1) := by decide +kernel
theorem dX6_become_14 : decode cX6_become 14 = .ok (.getfield 24, 3) := by decide +kernel
theorem dX6_become_17 : decode cX6_become 17 = .ok (.iconst 0, 1) := by decide +kernel
theorem dX6_become_18 : decode cX6_become 18 = .ok (.aload_n 0, 1) := by decide +kernel
theorem dX6_become_19 : decode cX6_become 19 = .ok (.getfield 24, 3) := by decide +kernel
theorem dX6_become_22 : decode cX6_become 22 = .ok (.iconst 0, 1) := by decide +kernel
theorem dX6_become_23 : decode cX6_become 23 = .ok (.aload_n 0, 1) := by decide +kernel
theorem dX6_become_24 : decode cX6_become 24 = .ok (.getfield 24, 3) := by decide +kernel
theorem dX6_become_27 : decode cX6_become 27 = .ok (.arraylength, 1) := by decide +kernel
theorem dX6_become_28 : decode cX6_become 28 = .ok (.invokestatic 39, 3) := by decide +kernel
theorem dX6_become_31 : decode cX6_become 31 = .ok (.aload_n 0, 1) := by decide +kernel
theorem dX6_become_32 : decode cX6_become 32 = .ok (.aload_n 1, 1) := by decide +kernel
theorem dX6_become_33 : decode cX6_become 33 = .ok (.getfield 28, 3) := by decide +kernel
theorem dX6_become_36 : decode cX6_become 36 = .ok (.putfield 28, 3) := by decide +kernel
theorem dX6_become_39 : decode cX6_become 39 = .ok (.return_, 1) := by decide +kernel
theorem dX6_mixedInto_0 : decode cX6_mixedInto 0 = .ok (.iconst 0, 1) := by decide +kernel
theorem dX6_mixedInto_1 : decode cX6_mixedInto 1 = .ok (.istore_n 3, 1) := by decide +kernel
theorem dX6_mixedInto_2 : decode cX6_mixedInto 2 = .ok (.iload_n 3, 1) := by decide +kernel
theorem dX6_mixedInto_3 : decode cX6_mixedInto 3 = .ok (.aload_n 0, 1) := by decide +kernel
theorem dX6_mixedInto_4 : decode cX6_mixedInto 4 = .ok (.getfield 28, 3) := by decide +kernel
theorem dX6_mixedInto_7 : decode cX6_mixedInto 7 = .ok (.if_icmp .ge 42, 3) := by decide +kernel
theorem dX6_mixedInto_10 : decode cX6_mixedInto 10 = .ok (.iconst 0, 1) := by decide +kernel
theorem dX6_mixedInto_11 : decode cX6_mixedInto 11 = .ok (.istore 4, 2) := by decide +kernel
theorem dX6_mixedInto_13 : decode cX6_mixedInto 13 = .ok (.iload 4, 2) := by decide +kernel
theorem dX6_mixedInto_15 : decode cX6_mixedInto 15 = .ok (.aload_n 0, 1) := by decide +kernel
theorem dX6_mixedInto_16 : decode cX6_mixedInto 16 = .ok (.getfield 15, 3) := by decide +kernel
theorem dX6_mixedInto_19 : decode cX6_mixedInto 19 = .ok (.if_icmp .ge 24, 3) := by decide +kernel
theorem dX6_mixedInto_22 : decode cX6_mixedInto 22 = .ok (.ldc2_w 45, 3) := by decide +kernel
theorem dX6_mixedInto_25 : decode cX6_mixedInto 25 = .ok (.lload_n 1, 1) := by decide +kernel
theorem dX6_mixedInto_26 : decode cX6_mixedInto 26 = .ok (.lmul, 1) := by decide +kernel
theorem dX6_mixedInto_27 : decode cX6_mixedInto 27 = .ok (.aload_n 0, 1) := by decide +kernel
theorem dX6_mixedInto_28 : decode cX6_mixedInto 28 = .ok (.iload_n 3, 1) := by decide +kernel
theorem dX6_mixedInto_29 : decode cX6_mixedInto 29 = .ok (.iload 4, 2) := by decide +kernel
theorem dX6_mixedInto_31 : decode cX6_mixedInto 31 = .ok (.invokevirtual 47, 3) := by decide +kernel
theorem dX6_mixedInto_34 : decode cX6_mixedInto 34 = .ok (.i2l, 1) := by decide +kernel
theorem dX6_mixedInto_35 : decode cX6_mixedInto 35 = .ok (.ladd, 1) := by decide +kernel
theorem dX6_mixedInto_36 : decode cX6_mixedInto 36 = .ok (.lstore_n 1, 1) := by decide +kernel
theorem dX6_mixedInto_37 : decode cX6_mixedInto 37 = .ok (.iinc 4 1, 3) := by decide +kernel
theorem dX6_mixedInto_40 : decode cX6_mixedInto 40 = .ok (.goto (-27), 3) := by decide +kernel
theorem dX6_mixedInto_43 : decode cX6_mixedInto 43 = .ok (.iinc 3 1, 3) := by decide +kernel
theorem dX6_mixedInto_46 : decode cX6_mixedInto 46 = .ok (.goto (-44), 3) := by decide +kernel
theorem dX6_mixedInto_49 : decode cX6_mixedInto 49 = .ok (.lload_n 1, 1) := by decide +kernel
theorem dX6_mixedInto_50 : decode cX6_mixedInto 50 = .ok (.lreturn, 1) := by decide +kernel
theorem dX7_init_0 : decode cX7_init 0 = .ok (.aload_n 0, 1) := by decide +kernel
theorem dX7_init_1 : decode cX7_init 1 = .ok (.invokespecial 3, 3) := by decide +kernel
theorem dX7_init_4 : decode cX7_init 4 = .ok (.aload_n 0, 1) := by decide +kernel
theorem dX7_init_5 : decode cX7_init 5 = .ok (.sipush 150, 3) := by decide +kernel
theorem dX7_init_8 : decode cX7_init 8 = .ok (.newarray .byte, 2) := by decide +kernel
theorem dX7_init_10 : decode cX7_init 10 = .ok (.putfield 9, 3) := by decide +kernel
theorem dX7_init_13 : decode cX7_init 13 = .ok (.aload_n 0, 1) := by decide +kernel
theorem dX7_init_14 : decode cX7_init 14 = .ok (.iconst 4, 1) := by decide +kernel
theorem dX7_init_15 : decode cX7_init 15 = .ok (.newarray .int, 2) := by decide +kernel
theorem dX7_init_17 : decode cX7_init 17 = .ok (.putfield 15, 3) := by decide +kernel
theorem dX7_init_20 : decode cX7_init 20 = .ok (.return_, 1) := by decide +kernel
theorem dX7_size_0 : decode cX7_size 0 = .ok (.aload_n 0, 1) := by decide +kernel
theorem dX7_size_1 : decode cX7_size 1 = .ok (.getfield 19, 3) := by decide +kernel
theorem dX7_size_4 : decode cX7_size 4 = .ok (.ireturn, 1) := by decide +kernel
theorem dX7_append_0 : decode cX7_append 0 = .ok (.iload_n 1, 1) := by decide +kernel
theorem dX7_append_1 : decode cX7_append 1 = .ok (.iconst 0, 1) := by decide +kernel
theorem dX7_append_2 : decode cX7_append 2 = .ok (.bipush 127, 2) := by decide +kernel
theorem dX7_append_4 : decode cX7_append 4 = .ok (.invokestatic 23, 3) := by decide +kernel
theorem dX7_append_7 : decode cX7_append 7 = .ok (.ifCond .ne 6, 3) := by decide +kernel
theorem dX7_append_10 : decode cX7_append 10 = .ok (.bipush (-2), 2) := by decide +kernel
theorem dX7_append_12 : decode cX7_append 12 = .ok (.ireturn, 1) := by decide +kernel
theorem dX7_append_13 : decode cX7_append 13 = .ok (.aload_n 0, 1) := by decide +kernel
theorem dX7_append_14 : decode cX7_append 14 = .ok (.getfield 19, 3) := by decide +kernel
theorem dX7_append_17 : decode cX7_append 17 = .ok (.sipush 150, 3) := by decide +kernel
theorem dX7_append_20 : decode cX7_append 20 = .ok (.if_icmp .lt 6, 3) := by decide +kernel
theorem dX7_append_23 : decode cX7_append 23 = .ok (.bipush (-4), 2) := by decide +kernel
theorem dX7_append_25 : decode cX7_append 25 = .ok (.ireturn, 1) := by decide +kernel
theorem dX7_append_26 : decode cX7_append 26 = .ok (.aload_n 0, 1) := by decide +kernel
theorem dX7_append_27 : decode cX7_append 27 = .ok (.getfield 9, 3) := by decide +kernel
theorem dX7_append_30 : decode cX7_append 30 = .ok (.aload_n 0, 1) := by decide +kernel
theorem dX7_append_31 : decode cX7_append 31 = .ok (.getfield 19, 3) := by decide +kernel
theorem dX7_append_34 : decode cX7_append 34 = .ok (.iload_n 1, 1) := by decide +kernel
theorem dX7_append_35 : decode cX7_append 35 = .ok (.i2b, 1) := by decide +kernel
theorem dX7_append_36 : decode cX7_append 36 = .ok (.bastore, 1) := by decide +kernel
theorem dX7_append_37 : decode cX7_append 37 = .ok (.aload_n 0, 1) := by decide +kernel
theorem dX7_append_38 : decode cX7_append 38 = .ok (.dup, 1) := by decide +kernel
theorem dX7_append_39 : decode cX7_append 39 = .ok (.getfield 19, 3) := by decide +kernel
theorem dX7_append_42 : decode cX7_append 42 = .ok (.iconst 1, 1) := by decide +kernel
theorem dX7_append_43 : decode cX7_append 43 = .ok (.iadd, 1) := by decide +kernel
theorem dX7_append_44 : decode cX7_append 44 = .ok (.putfield 19, 3) := by decide +kernel
theorem dX7_append_47 : decode cX7_append 47 = .ok (.aload_n 0, 1) := by decide +kernel
theorem dX7_append_48 : decode cX7_append 48 = .ok (.getfield 19, 3) := by decide +kernel
theorem dX7_append_51 : decode cX7_append 51 = .ok (.ireturn, 1) := by decide +kernel
theorem dX7_drop_0 : decode cX7_drop 0 = .ok (.aload_n 0, 1) := by decide +kernel
theorem dX7_drop_1 : decode cX7_drop 1 = .ok (.getfield 19, 3) := by decide +kernel
theorem dX7_drop_4 : decode cX7_drop 4 = .ok (.istore_n 1, 1) := by decide +kernel
theorem dX7_drop_5 : decode cX7_drop 5 = .ok (.aload_n 0, 1) := by decide +kernel
theorem dX7_drop_6 : decode cX7_drop 6 = .ok (.iconst 0, 1) := by decide +kernel
theorem dX7_drop_7 : decode cX7_drop 7 = .ok (.putfield 19, 3) := by decide +kernel
theorem dX7_drop_10 : decode cX7_drop 10 = .ok (.iload_n 1, 1) := by decide +kernel
theorem dX7_drop_11 : decode cX7_drop 11 = .ok (.ireturn, 1) := by decide +kernel
theorem dX7_rewind_0 : decode cX7_rewind 0 = .ok (.aload_n 0, 1) := by decide +kernel
theorem dX7_rewind_1 : decode cX7_rewind 1 = .ok (.iconst 0, 1) := by decide +kernel
theorem dX7_rewind_2 : decode cX7_rewind 2 = .ok (.putfield 27, 3) := by decide +kernel
theorem dX7_rewind_5 : decode cX7_rewind 5 = .ok (.aload_n 0, 1) := by decide +kernel
theorem dX7_rewind_6 : decode cX7_rewind 6 = .ok (.iconst 0, 1) := by decide +kernel
theorem dX7_rewind_7 : decode cX7_rewind 7 = .ok (.putfield 30, 3) := by decide +kernel
theorem dX7_rewind_10 : decode cX7_rewind 10 = .ok (.aload_n 0, 1) := by decide +kernel
theorem dX7_rewind_11 : decode cX7_rewind 11 = .ok (.iconst 3, 1) := by decide +kernel
theorem dX7_rewind_12 : decode cX7_rewind 12 = .ok (.putfield 33, 3) := by decide +kernel
theorem dX7_rewind_15 : decode cX7_rewind 15 = .ok (.aload_n 0, 1) := by decide +kernel
theorem dX7_rewind_16 : decode cX7_rewind 16 = .ok (.iconst 0, 1) := by decide +kernel
theorem dX7_rewind_17 : decode cX7_rewind 17 = .ok (.putfield 36, 3) := by decide +kernel
theorem dX7_rewind_20 : decode cX7_rewind 20 = .ok (.return_, 1) := by decide +kernel
theorem dX7_isAtEnd_0 : decode cX7_isAtEnd 0 = .ok (.aload_n 0, 1) := by decide +kernel
theorem dX7_isAtEnd_1 : decode cX7_isAtEnd 1 = .ok (.getfield 33, 3) := by decide +kernel
theorem dX7_isAtEnd_4 : decode cX7_isAtEnd 4 = .ok (.iconst 3, 1) := by decide +kernel
theorem dX7_isAtEnd_5 : decode cX7_isAtEnd 5 = .ok (.if_icmp .ne 7, 3) := by decide +kernel
theorem dX7_isAtEnd_8 : decode cX7_isAtEnd 8 = .ok (.iconst 1, 1) := by decide +kernel
theorem dX7_isAtEnd_9 : decode cX7_isAtEnd 9 = .ok (.goto 4, 3) := by decide +kernel
theorem dX7_isAtEnd_12 : decode cX7_isAtEnd 12 = .ok (.iconst 0, 1) := by decide +kernel
theorem dX7_isAtEnd_13 : decode cX7_isAtEnd 13 = .ok (.ireturn, 1) := by decide +kernel
theorem dX7_place_0 : decode cX7_place 0 = .ok (.aload_n 0, 1) := by decide +kernel
theorem dX7_place_1 : decode cX7_place 1 = .ok (.getfield 27, 3) := by decide +kernel
theorem dX7_place_4 : decode cX7_place 4 = .ok (.ireturn, 1) := by decide +kernel
theorem dX7_word_0 : decode cX7_word 0 = .ok (.aload_n 0, 1) := by decide +kernel
theorem dX7_word_1 : decode cX7_word 1 = .ok (.getfield 39, 3) := by decide +kernel
theorem dX7_word_4 : decode cX7_word 4 = .ok (.ireturn, 1) := by decide +kernel
theorem dX7_numberAt_0 : decode cX7_numberAt 0 = .ok (.iload_n 1, 1) := by decide +kernel
theorem dX7_numberAt_1 : decode cX7_numberAt 1 = .ok (.iconst 0, 1) := by decide +kernel
theorem dX7_numberAt_2 : decode cX7_numberAt 2 = .ok (.iconst 3, 1) := by decide +kernel
theorem dX7_numberAt_3 : decode cX7_numberAt 3 = .ok (.invokestatic 23, 3) := by decide +kernel
theorem dX7_numberAt_6 : decode cX7_numberAt 6 = .ok (.ifCond .eq 12, 3) := by decide +kernel
theorem dX7_numberAt_9 : decode cX7_numberAt 9 = .ok (.aload_n 0, 1) := by decide +kernel
theorem dX7_numberAt_10 : decode cX7_numberAt 10 = .ok (.getfield 15, 3) := by decide +kernel
theorem dX7_numberAt_13 : decode cX7_numberAt 13 = .ok (.iload_n 1, 1) := by decide +kernel
theorem dX7_numberAt_14 : decode cX7_numberAt 14 = .ok (.iaload, 1) := by decide +kernel
