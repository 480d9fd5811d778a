theorem dX9_manyOf_25 : decode cX9_manyOf 25 = .ok (.ireturn, 1) := by decide +kernel
theorem dX9_mostOf_0 : decode cX9_mostOf 0 = .ok (.iconst 0, 1) := by decide +kernel
theorem dX9_mostOf_1 : decode cX9_mostOf 1 = .ok (.istore_n 3, 1) := by decide +kernel
theorem dX9_mostOf_2 : decode cX9_mostOf 2 = .ok (.iload_n 3, 1) := by decide +kernel
theorem dX9_mostOf_3 : decode cX9_mostOf 3 = .ok (.sipush 128, 3) := by decide +kernel
theorem dX9_mostOf_6 : decode cX9_mostOf 6 = .ok (.if_icmp .ge 24, 3) := by decide +kernel
theorem dX9_mostOf_9 : decode cX9_mostOf 9 = .ok (.aload_n 0, 1) := by decide +kernel
theorem dX9_mostOf_10 : decode cX9_mostOf 10 = .ok (.getfield 30, 3) := by decide +kernel
theorem dX9_mostOf_13 : decode cX9_mostOf 13 = .ok (.iload_n 3, 1) := by decide +kernel
theorem dX9_mostOf_14 : decode cX9_mostOf 14 = .ok (.iload_n 3, 1) := by decide +kernel
theorem dX9_mostOf_15 : decode cX9_mostOf 15 = .ok (.ifCond .ne 7, 3) := by decide +kernel
theorem dX9_mostOf_18 : decode cX9_mostOf 18 = .ok (.iconst 0, 1) := by decide +kernel
theorem dX9_mostOf_19 : decode cX9_mostOf 19 = .ok (.goto 4, 3) := by decide +kernel
theorem dX9_mostOf_22 : decode cX9_mostOf 22 = .ok (.iconst (-1), 1) := by decide +kernel
theorem dX9_mostOf_23 : decode cX9_mostOf 23 = .ok (.iastore, 1) := by decide +kernel
theorem dX9_mostOf_24 : decode cX9_mostOf 24 = .ok (.iinc 3 1, 3) := by decide +kernel
theorem dX9_mostOf_27 : decode cX9_mostOf 27 = .ok (.goto (-25), 3) := by decide +kernel
theorem dX9_mostOf_30 : decode cX9_mostOf 30 = .ok (.iconst 0, 1) := by decide +kernel
theorem dX9_mostOf_31 : decode cX9_mostOf 31 = .ok (.istore_n 3, 1) := by decide +kernel
theorem dX9_mostOf_32 : decode cX9_mostOf 32 = .ok (.iload_n 3, 1) := by decide +kernel
theorem dX9_mostOf_33 : decode cX9_mostOf 33 = .ok (.bipush 7, 2) := by decide +kernel
theorem dX9_mostOf_35 : decode cX9_mostOf 35 = .ok (.if_icmp .ge 137, 3) := by decide +kernel
theorem dX9_mostOf_38 : decode cX9_mostOf 38 = .ok (.iload_n 1, 1) := by decide +kernel
theorem dX9_mostOf_39 : decode cX9_mostOf 39 = .ok (.iload_n 3, 1) := by decide +kernel
theorem dX9_mostOf_40 : decode cX9_mostOf 40 = .ok (.ishr, 1) := by decide +kernel
theorem dX9_mostOf_41 : decode cX9_mostOf 41 = .ok (.iconst 1, 1) := by decide +kernel
theorem dX9_mostOf_42 : decode cX9_mostOf 42 = .ok (.iand, 1) := by decide +kernel
theorem dX9_mostOf_43 : decode cX9_mostOf 43 = .ok (.iconst 1, 1) := by decide +kernel
theorem dX9_mostOf_44 : decode cX9_mostOf 44 = .ok (.if_icmp .ne 122, 3) := by decide +kernel
theorem dX9_mostOf_47 : decode cX9_mostOf 47 = .ok (.bipush 127, 2) := by decide +kernel
theorem dX9_mostOf_49 : decode cX9_mostOf 49 = .ok (.istore 4, 2) := by decide +kernel
theorem dX9_mostOf_51 : decode cX9_mostOf 51 = .ok (.iload 4, 2) := by decide +kernel
theorem dX9_mostOf_53 : decode cX9_mostOf 53 = .ok (.ifCond .lt 113, 3) := by decide +kernel
theorem dX9_mostOf_56 : decode cX9_mostOf 56 = .ok (.iconst 0, 1) := by decide +kernel
theorem dX9_mostOf_57 : decode cX9_mostOf 57 = .ok (.istore 5, 2) := by decide +kernel
theorem dX9_mostOf_59 : decode cX9_mostOf 59 = .ok (.iload 5, 2) := by decide +kernel
theorem dX9_mostOf_61 : decode cX9_mostOf 61 = .ok (.bipush 7, 2) := by decide +kernel
theorem dX9_mostOf_63 : decode cX9_mostOf 63 = .ok (.if_icmp .ge 97, 3) := by decide +kernel
theorem dX9_mostOf_66 : decode cX9_mostOf 66 = .ok (.aload_n 0, 1) := by decide +kernel
theorem dX9_mostOf_67 : decode cX9_mostOf 67 = .ok (.getfield 30, 3) := by decide +kernel
theorem dX9_mostOf_70 : decode cX9_mostOf 70 = .ok (.iload 4, 2) := by decide +kernel
theorem dX9_mostOf_72 : decode cX9_mostOf 72 = .ok (.iaload, 1) := by decide +kernel
theorem dX9_mostOf_73 : decode cX9_mostOf 73 = .ok (.iconst (-1), 1) := by decide +kernel
theorem dX9_mostOf_74 : decode cX9_mostOf 74 = .ok (.if_icmp .eq 86, 3) := by decide +kernel
theorem dX9_mostOf_77 : decode cX9_mostOf 77 = .ok (.iload 4, 2) := by decide +kernel
theorem dX9_mostOf_79 : decode cX9_mostOf 79 = .ok (.iconst 1, 1) := by decide +kernel
theorem dX9_mostOf_80 : decode cX9_mostOf 80 = .ok (.iload 5, 2) := by decide +kernel
theorem dX9_mostOf_82 : decode cX9_mostOf 82 = .ok (.ishl, 1) := by decide +kernel
theorem dX9_mostOf_83 : decode cX9_mostOf 83 = .ok (.ior, 1) := by decide +kernel
theorem dX9_mostOf_84 : decode cX9_mostOf 84 = .ok (.istore 6, 2) := by decide +kernel
theorem dX9_mostOf_86 : decode cX9_mostOf 86 = .ok (.aload_n 0, 1) := by decide +kernel
theorem dX9_mostOf_87 : decode cX9_mostOf 87 = .ok (.getfield 27, 3) := by decide +kernel
theorem dX9_mostOf_90 : decode cX9_mostOf 90 = .ok (.iload_n 3, 1) := by decide +kernel
theorem dX9_mostOf_91 : decode cX9_mostOf 91 = .ok (.iaload, 1) := by decide +kernel
theorem dX9_mostOf_92 : decode cX9_mostOf 92 = .ok (.iload_n 2, 1) := by decide +kernel
theorem dX9_mostOf_93 : decode cX9_mostOf 93 = .ok (.iand, 1) := by decide +kernel
theorem dX9_mostOf_94 : decode cX9_mostOf 94 = .ok (.iload 4, 2) := by decide +kernel
theorem dX9_mostOf_96 : decode cX9_mostOf 96 = .ok (.iconst (-1), 1) := by decide +kernel
theorem dX9_mostOf_97 : decode cX9_mostOf 97 = .ok (.ixor, 1) := by decide +kernel
theorem dX9_mostOf_98 : decode cX9_mostOf 98 = .ok (.iand, 1) := by decide +kernel
theorem dX9_mostOf_99 : decode cX9_mostOf 99 = .ok (.iconst 1, 1) := by decide +kernel
theorem dX9_mostOf_100 : decode cX9_mostOf 100 = .ok (.iload 5, 2) := by decide +kernel
theorem dX9_mostOf_102 : decode cX9_mostOf 102 = .ok (.ishl, 1) := by decide +kernel
theorem dX9_mostOf_103 : decode cX9_mostOf 103 = .ok (.iand, 1) := by decide +kernel
theorem dX9_mostOf_104 : decode cX9_mostOf 104 = .ok (.ifCond .eq 7, 3) := by decide +kernel
theorem dX9_mostOf_107 : decode cX9_mostOf 107 = .ok (.iconst 1, 1) := by decide +kernel
theorem dX9_mostOf_108 : decode cX9_mostOf 108 = .ok (.goto 4, 3) := by decide +kernel
theorem dX9_mostOf_111 : decode cX9_mostOf 111 = .ok (.iconst 0, 1) := by decide +kernel
theorem dX9_mostOf_112 : decode cX9_mostOf 112 = .ok (.istore 7, 2) := by decide +kernel
theorem dX9_mostOf_114 : decode cX9_mostOf 114 = .ok (.iload 7, 2) := by decide +kernel
theorem dX9_mostOf_116 : decode cX9_mostOf 116 = .ok (.ifCond .eq 38, 3) := by decide +kernel
theorem dX9_mostOf_119 : decode cX9_mostOf 119 = .ok (.aload_n 0, 1) := by decide +kernel
theorem dX9_mostOf_120 : decode cX9_mostOf 120 = .ok (.getfield 30, 3) := by decide +kernel
theorem dX9_mostOf_123 : decode cX9_mostOf 123 = .ok (.iload 6, 2) := by decide +kernel
theorem dX9_mostOf_125 : decode cX9_mostOf 125 = .ok (.iaload, 1) := by decide +kernel
theorem dX9_mostOf_126 : decode cX9_mostOf 126 = .ok (.aload_n 0, 1) := by decide +kernel
theorem dX9_mostOf_127 : decode cX9_mostOf 127 = .ok (.getfield 30, 3) := by decide +kernel
theorem dX9_mostOf_130 : decode cX9_mostOf 130 = .ok (.iload 4, 2) := by decide +kernel
theorem dX9_mostOf_132 : decode cX9_mostOf 132 = .ok (.iaload, 1) := by decide +kernel
theorem dX9_mostOf_133 : decode cX9_mostOf 133 = .ok (.iconst 1, 1) := by decide +kernel
theorem dX9_mostOf_134 : decode cX9_mostOf 134 = .ok (.iadd, 1) := by decide +kernel
theorem dX9_mostOf_135 : decode cX9_mostOf 135 = .ok (.if_icmp .ge 19, 3) := by decide +kernel
theorem dX9_mostOf_138 : decode cX9_mostOf 138 = .ok (.aload_n 0, 1) := by decide +kernel
theorem dX9_mostOf_139 : decode cX9_mostOf 139 = .ok (.getfield 30, 3) := by decide +kernel
theorem dX9_mostOf_142 : decode cX9_mostOf 142 = .ok (.iload 6, 2) := by decide +kernel
theorem dX9_mostOf_144 : decode cX9_mostOf 144 = .ok (.aload_n 0, 1) := by decide +kernel
theorem dX9_mostOf_145 : decode cX9_mostOf 145 = .ok (.getfield 30, 3) := by decide +kernel
theorem dX9_mostOf_148 : decode cX9_mostOf 148 = .ok (.iload 4, 2) := by decide +kernel
theorem dX9_mostOf_150 : decode cX9_mostOf 150 = .ok (.iaload, 1) := by decide +kernel
theorem dX9_mostOf_151 : decode cX9_mostOf 151 = .ok (.iconst 1, 1) := by decide +kernel
theorem dX9_mostOf_152 : decode cX9_mostOf 152 = .ok (.iadd, 1) := by decide +kernel
theorem dX9_mostOf_153 : decode cX9_mostOf 153 = .ok (.iastore, 1) := by decide +kernel
theorem dX9_mostOf_154 : decode cX9_mostOf 154 = .ok (.iinc 5 1, 3) := by decide +kernel
theorem dX9_mostOf_157 : decode cX9_mostOf 157 = .ok (.goto (-98), 3) := by decide +kernel
theorem dX9_mostOf_160 : decode cX9_mostOf 160 = .ok (.iinc 4 (-1), 3) := by decide +kernel
theorem dX9_mostOf_163 : decode cX9_mostOf 163 = .ok (.goto (-112), 3) := by decide +kernel
theorem dX9_mostOf_166 : decode cX9_mostOf 166 = .ok (.iinc 3 1, 3) := by decide +kernel
theorem dX9_mostOf_169 : decode cX9_mostOf 169 = .ok (.goto (-137), 3) := by decide +kernel
theorem dX9_mostOf_172 : decode cX9_mostOf 172 = .ok (.iconst 0, 1) := by decide +kernel
theorem dX9_mostOf_173 : decode cX9_mostOf 173 = .ok (.istore_n 3, 1) := by decide +kernel
theorem dX9_mostOf_174 : decode cX9_mostOf 174 = .ok (.iconst 0, 1) := by decide +kernel
theorem dX9_mostOf_175 : decode cX9_mostOf 175 = .ok (.istore 4, 2) := by decide +kernel
theorem dX9_mostOf_177 : decode cX9_mostOf 177 = .ok (.iload 4, 2) := by decide +kernel
theorem dX9_mostOf_179 : decode cX9_mostOf 179 = .ok (.sipush 128, 3) := by decide +kernel
theorem dX9_mostOf_182 : decode cX9_mostOf 182 = .ok (.if_icmp .ge 32, 3) := by decide +kernel
theorem dX9_mostOf_185 : decode cX9_mostOf 185 = .ok (.aload_n 0, 1) := by decide +kernel
theorem dX9_mostOf_186 : decode cX9_mostOf 186 = .ok (.getfield 30, 3) := by decide +kernel
theorem dX9_mostOf_189 : decode cX9_mostOf 189 = .ok (.iload 4, 2) := by decide +kernel
theorem dX9_mostOf_191 : decode cX9_mostOf 191 = .ok (.iaload, 1) := by decide +kernel
theorem dX9_mostOf_192 : decode cX9_mostOf 192 = .ok (.iload_n 3, 1) := by decide +kernel
theorem dX9_mostOf_193 : decode cX9_mostOf 193 = .ok (.if_icmp .le 13, 3) := by decide +kernel
theorem dX9_mostOf_196 : decode cX9_mostOf 196 = .ok (.aload_n 0, 1) := by decide +kernel
theorem dX9_mostOf_197 : decode cX9_mostOf 197 = .ok (.getfield 30, 3) := by decide +kernel
theorem dX9_mostOf_200 : decode cX9_mostOf 200 = .ok (.iload 4, 2) := by decide +kernel
theorem dX9_mostOf_202 : decode cX9_mostOf 202 = .ok (.iaload, 1) := by decide +kernel
theorem dX9_mostOf_203 : decode cX9_mostOf 203 = .ok (.goto 4, 3) := by decide +kernel
theorem dX9_mostOf_206 : decode cX9_mostOf 206 = .ok (.iload_n 3, 1) := by decide +kernel
theorem dX9_mostOf_207 : decode cX9_mostOf 207 = .ok (.istore_n 3, 1) := by decide +kernel
theorem dX9_mostOf_208 : decode cX9_mostOf 208 = .ok (.iinc 4 1, 3) := by decide +kernel
theorem dX9_mostOf_211 : decode cX9_mostOf 211 = .ok (.goto (-34), 3) := by decide +kernel
theorem dX9_mostOf_214 : decode cX9_mostOf 214 = .ok (.iload_n 3, 1) := by decide +kernel
theorem dX9_mostOf_215 : decode cX9_mostOf 215 = .ok (.ireturn, 1) := by decide +kernel
theorem dX9_findFits_0 : decode cX9_findFits 0 = .ok (.iconst 0, 1) := by decide +kernel
theorem dX9_findFits_1 : decode cX9_findFits 1 = .ok (.istore_n 1, 1) := by decide +kernel
theorem dX9_findFits_2 : decode cX9_findFits 2 = .ok (.iload_n 1, 1) := by decide +kernel
theorem dX9_findFits_3 : decode cX9_findFits 3 = .ok (.bipush 7, 2) := by decide +kernel
theorem dX9_findFits_5 : decode cX9_findFits 5 = .ok (.if_icmp .ge 67, 3) := by decide +kernel
theorem dX9_findFits_8 : decode cX9_findFits 8 = .ok (.aload_n 0, 1) := by decide +kernel
theorem dX9_findFits_9 : decode cX9_findFits 9 = .ok (.getfield 27, 3) := by decide +kernel
theorem dX9_findFits_12 : decode cX9_findFits 12 = .ok (.iload_n 1, 1) := by decide +kernel
theorem dX9_findFits_13 : decode cX9_findFits 13 = .ok (.iconst 0, 1) := by decide +kernel
theorem dX9_findFits_14 : decode cX9_findFits 14 = .ok (.iastore, 1) := by decide +kernel
theorem dX9_findFits_15 : decode cX9_findFits 15 = .ok (.iconst 0, 1) := by decide +kernel
theorem dX9_findFits_16 : decode cX9_findFits 16 = .ok (.istore_n 2, 1) := by decide +kernel
theorem dX9_findFits_17 : decode cX9_findFits 17 = .ok (.iload_n 2, 1) := by decide +kernel
theorem dX9_findFits_18 : decode cX9_findFits 18 = .ok (.aload_n 0, 1) := by decide +kernel
theorem dX9_findFits_19 : decode cX9_findFits 19 = .ok (.iconst 1, 1) := by decide +kernel
theorem dX9_findFits_20 : decode cX9_findFits 20 = .ok (.invokevirtual 62, 3) := by decide +kernel
theorem dX9_findFits_23 : decode cX9_findFits 23 = .ok (.if_icmp .ge 43, 3) := by decide +kernel
theorem dX9_findFits_26 : decode cX9_findFits 26 = .ok (.iload_n 1, 1) := by decide +kernel
theorem dX9_findFits_27 : decode cX9_findFits 27 = .ok (.aload_n 0, 1) := by decide +kernel
theorem dX9_findFits_28 : decode cX9_findFits 28 = .ok (.iconst 0, 1) := by decide +kernel
theorem dX9_findFits_29 : decode cX9_findFits 29 = .ok (.invokevirtual 62, 3) := by decide +kernel
theorem dX9_findFits_32 : decode cX9_findFits 32 = .ok (.if_icmp .ge 34, 3) := by decide +kernel
theorem dX9_findFits_35 : decode cX9_findFits 35 = .ok (.aload_n 0, 1) := by decide +kernel
theorem dX9_findFits_36 : decode cX9_findFits 36 = .ok (.getfield 27, 3) := by decide +kernel
theorem dX9_findFits_39 : decode cX9_findFits 39 = .ok (.iload_n 1, 1) := by decide +kernel
theorem dX9_findFits_40 : decode cX9_findFits 40 = .ok (.dup2, 1) := by decide +kernel
theorem dX9_findFits_41 : decode cX9_findFits 41 = .ok (.iaload, 1) := by decide +kernel
theorem dX9_findFits_42 : decode cX9_findFits 42 = .ok (.aload_n 0, 1) := by decide +kernel
theorem dX9_findFits_43 : decode cX9_findFits 43 = .ok (.iload_n 2, 1) := by decide +kernel
theorem dX9_findFits_44 : decode cX9_findFits 44 = .ok (.iload_n 1, 1) := by decide +kernel
theorem dX9_findFits_45 : decode cX9_findFits 45 = .ok (.invokevirtual 98, 3) := by decide +kernel
theorem dX9_findFits_48 : decode cX9_findFits 48 = .ok (.ifCond .eq 9, 3) := by decide +kernel
theorem dX9_findFits_51 : decode cX9_findFits 51 = .ok (.iconst 1, 1) := by decide +kernel
theorem dX9_findFits_52 : decode cX9_findFits 52 = .ok (.iload_n 2, 1) := by decide +kernel
theorem dX9_findFits_53 : decode cX9_findFits 53 = .ok (.ishl, 1) := by decide +kernel
theorem dX9_findFits_54 : decode cX9_findFits 54 = .ok (.goto 4, 3) := by decide +kernel
theorem dX9_findFits_57 : decode cX9_findFits 57 = .ok (.iconst 0, 1) := by decide +kernel
theorem dX9_findFits_58 : decode cX9_findFits 58 = .ok (.ior, 1) := by decide +kernel
theorem dX9_findFits_59 : decode cX9_findFits 59 = .ok (.iastore, 1) := by decide +kernel
theorem dX9_findFits_60 : decode cX9_findFits 60 = .ok (.iinc 2 1, 3) := by decide +kernel
theorem dX9_findFits_63 : decode cX9_findFits 63 = .ok (.goto (-46), 3) := by decide +kernel
theorem dX9_findFits_66 : decode cX9_findFits 66 = .ok (.iinc 1 1, 3) := by decide +kernel
theorem dX9_findFits_69 : decode cX9_findFits 69 = .ok (.goto (-67), 3) := by decide +kernel
theorem dX9_findFits_72 : decode cX9_findFits 72 = .ok (.return_, 1) := by decide +kernel
theorem dX9_boxes_0 : decode cX9_boxes 0 = .ok (.iconst 1, 1) := by decide +kernel
theorem dX9_boxes_1 : decode cX9_boxes 1 = .ok (.aload_n 0, 1) := by decide +kernel
theorem dX9_boxes_2 : decode cX9_boxes 2 = .ok (.iconst 0, 1) := by decide +kernel
theorem dX9_boxes_3 : decode cX9_boxes 3 = .ok (.invokevirtual 62, 3) := by decide +kernel
theorem dX9_boxes_6 : decode cX9_boxes 6 = .ok (.ishl, 1) := by decide +kernel
theorem dX9_boxes_7 : decode cX9_boxes 7 = .ok (.iconst 1, 1) := by decide +kernel
theorem dX9_boxes_8 : decode cX9_boxes 8 = .ok (.isub, 1) := by decide +kernel
theorem dX9_boxes_9 : decode cX9_boxes 9 = .ok (.ireturn, 1) := by decide +kernel
theorem dX9_lids_0 : decode cX9_lids 0 = .ok (.iconst 1, 1) := by decide +kernel
theorem dX9_lids_1 : decode cX9_lids 1 = .ok (.aload_n 0, 1) := by decide +kernel
theorem dX9_lids_2 : decode cX9_lids 2 = .ok (.iconst 1, 1) := by decide +kernel
theorem dX9_lids_3 : decode cX9_lids 3 = .ok (.invokevirtual 62, 3) := by decide +kernel
theorem dX9_lids_6 : decode cX9_lids 6 = .ok (.ishl, 1) := by decide +kernel
theorem dX9_lids_7 : decode cX9_lids 7 = .ok (.iconst 1, 1) := by decide +kernel
theorem dX9_lids_8 : decode cX9_lids 8 = .ok (.isub, 1) := by decide +kernel
theorem dX9_lids_9 : decode cX9_lids 9 = .ok (.ireturn, 1) := by decide +kernel
theorem dX9_findFirst_0 : decode cX9_findFirst 0 = .ok (.aload_n 0, 1) := by decide +kernel
theorem dX9_findFirst_1 : decode cX9_findFirst 1 = .ok (.iload_n 1, 1) := by decide +kernel
theorem dX9_findFirst_2 : decode cX9_findFirst 2 = .ok (.iload_n 2, 1) := by decide +kernel
theorem dX9_findFirst_3 : decode cX9_findFirst 3 = .ok (.invokevirtual 169, 3) := by decide +kernel
theorem dX9_findFirst_6 : decode cX9_findFirst 6 = .ok (.istore_n 3, 1) := by decide +kernel
theorem dX9_findFirst_7 : decode cX9_findFirst 7 = .ok (.iload_n 2, 1) := by decide +kernel
theorem dX9_findFirst_8 : decode cX9_findFirst 8 = .ok (.istore 4, 2) := by decide +kernel
theorem dX9_findFirst_10 : decode cX9_findFirst 10 = .ok (.iload_n 3, 1) := by decide +kernel
theorem dX9_findFirst_11 : decode cX9_findFirst 11 = .ok (.istore 5, 2) := by decide +kernel
theorem dX9_findFirst_13 : decode cX9_findFirst 13 = .ok (.iconst 0, 1) := by decide +kernel
theorem dX9_findFirst_14 : decode cX9_findFirst 14 = .ok (.istore 6, 2) := by decide +kernel
theorem dX9_findFirst_16 : decode cX9_findFirst 16 = .ok (.iload 6, 2) := by decide +kernel
theorem dX9_findFirst_18 : decode cX9_findFirst 18 = .ok (.bipush 7, 2) := by decide +kernel
theorem dX9_findFirst_20 : decode cX9_findFirst 20 = .ok (.if_icmp .ge 145, 3) := by decide +kernel
theorem dX9_findFirst_23 : decode cX9_findFirst 23 = .ok (.aload_n 0, 1) := by decide +kernel
theorem dX9_findFirst_24 : decode cX9_findFirst 24 = .ok (.getfield 33, 3) := by decide +kernel
theorem dX9_findFirst_27 : decode cX9_findFirst 27 = .ok (.iload 6, 2) := by decide +kernel
theorem dX9_findFirst_29 : decode cX9_findFirst 29 = .ok (.iconst (-1), 1) := by decide +kernel
theorem dX9_findFirst_30 : decode cX9_findFirst 30 = .ok (.iastore, 1) := by decide +kernel
theorem dX9_findFirst_31 : decode cX9_findFirst 31 = .ok (.iload_n 1, 1) := by decide +kernel
theorem dX9_findFirst_32 : decode cX9_findFirst 32 = .ok (.iconst 2, 1) := by decide +kernel
theorem dX9_findFirst_33 : decode cX9_findFirst 33 = .ok (.iload 6, 2) := by decide +kernel
theorem dX9_findFirst_35 : decode cX9_findFirst 35 = .ok (.ishl, 1) := by decide +kernel
theorem dX9_findFirst_36 : decode cX9_findFirst 36 = .ok (.iconst 1, 1) := by decide +kernel
theorem dX9_findFirst_37 : decode cX9_findFirst 37 = .ok (.isub, 1) := by decide +kernel
theorem dX9_findFirst_38 : decode cX9_findFirst 38 = .ok (.iconst (-1), 1) := by decide +kernel
theorem dX9_findFirst_39 : decode cX9_findFirst 39 = .ok (.ixor, 1) := by decide +kernel
theorem dX9_findFirst_40 : decode cX9_findFirst 40 = .ok (.iand, 1) := by decide +kernel
theorem dX9_findFirst_41 : decode cX9_findFirst 41 = .ok (.istore 7, 2) := by decide +kernel
theorem dX9_findFirst_43 : decode cX9_findFirst 43 = .ok (.iconst 0, 1) := by decide +kernel
theorem dX9_findFirst_44 : decode cX9_findFirst 44 = .ok (.istore 8, 2) := by decide +kernel
theorem dX9_findFirst_46 : decode cX9_findFirst 46 = .ok (.iload 8, 2) := by decide +kernel
theorem dX9_findFirst_48 : decode cX9_findFirst 48 = .ok (.bipush 7, 2) := by decide +kernel
theorem dX9_findFirst_50 : decode cX9_findFirst 50 = .ok (.if_icmp .ge 79, 3) := by decide +kernel
theorem dX9_findFirst_53 : decode cX9_findFirst 53 = .ok (.aload_n 0, 1) := by decide +kernel
theorem dX9_findFirst_54 : decode cX9_findFirst 54 = .ok (.getfield 33, 3) := by decide +kernel
theorem dX9_findFirst_57 : decode cX9_findFirst 57 = .ok (.iload 6, 2) := by decide +kernel
theorem dX9_findFirst_59 : decode cX9_findFirst 59 = .ok (.iaload, 1) := by decide +kernel
theorem dX9_findFirst_60 : decode cX9_findFirst 60 = .ok (.iconst (-1), 1) := by decide +kernel
theorem dX9_findFirst_61 : decode cX9_findFirst 61 = .ok (.if_icmp .ne 68, 3) := by decide +kernel
theorem dX9_findFirst_64 : decode cX9_findFirst 64 = .ok (.iload_n 1, 1) := by decide +kernel
theorem dX9_findFirst_65 : decode cX9_findFirst 65 = .ok (.iload 6, 2) := by decide +kernel
theorem dX9_findFirst_67 : decode cX9_findFirst 67 = .ok (.ishr, 1) := by decide +kernel
theorem dX9_findFirst_68 : decode cX9_findFirst 68 = .ok (.iconst 1, 1) := by decide +kernel
theorem dX9_findFirst_69 : decode cX9_findFirst 69 = .ok (.iand, 1) := by decide +kernel
theorem dX9_findFirst_70 : decode cX9_findFirst 70 = .ok (.iconst 1, 1) := by decide +kernel
theorem dX9_findFirst_71 : decode cX9_findFirst 71 = .ok (.if_icmp .ne 58, 3) := by decide +kernel
theorem dX9_findFirst_74 : decode cX9_findFirst 74 = .ok (.aload_n 0, 1) := by decide +kernel
theorem dX9_findFirst_75 : decode cX9_findFirst 75 = .ok (.getfield 27, 3) := by decide +kernel
theorem dX9_findFirst_78 : decode cX9_findFirst 78 = .ok (.iload 6, 2) := by decide +kernel
theorem dX9_findFirst_80 : decode cX9_findFirst 80 = .ok (.iaload, 1) := by decide +kernel
theorem dX9_findFirst_81 : decode cX9_findFirst 81 = .ok (.iload 4, 2) := by decide +kernel
theorem dX9_findFirst_83 : decode cX9_findFirst 83 = .ok (.iand, 1) := by decide +kernel
theorem dX9_findFirst_84 : decode cX9_findFirst 84 = .ok (.iconst 1, 1) := by decide +kernel
theorem dX9_findFirst_85 : decode cX9_findFirst 85 = .ok (.iload 8, 2) := by decide +kernel
theorem dX9_findFirst_87 : decode cX9_findFirst 87 = .ok (.ishl, 1) := by decide +kernel
theorem dX9_findFirst_88 : decode cX9_findFirst 88 = .ok (.iand, 1) := by decide +kernel
theorem dX9_findFirst_89 : decode cX9_findFirst 89 = .ok (.ifCond .eq 34, 3) := by decide +kernel
theorem dX9_findFirst_92 : decode cX9_findFirst 92 = .ok (.aload_n 0, 1) := by decide +kernel
theorem dX9_findFirst_93 : decode cX9_findFirst 93 = .ok (.iload 7, 2) := by decide +kernel
theorem dX9_findFirst_95 : decode cX9_findFirst 95 = .ok (.iload 4, 2) := by decide +kernel
theorem dX9_findFirst_97 : decode cX9_findFirst 97 = .ok (.iconst 1, 1) := by decide +kernel
theorem dX9_findFirst_98 : decode cX9_findFirst 98 = .ok (.iload 8, 2) := by decide +kernel
theorem dX9_findFirst_100 : decode cX9_findFirst 100 = .ok (.ishl, 1) := by decide +kernel
theorem dX9_findFirst_101 : decode cX9_findFirst 101 = .ok (.iconst (-1), 1) := by decide +kernel
theorem dX9_findFirst_102 : decode cX9_findFirst 102 = .ok (.ixor, 1) := by decide +kernel
theorem dX9_findFirst_103 : decode cX9_findFirst 103 = .ok (.iand, 1) := by decide +kernel
theorem dX9_findFirst_104 : decode cX9_findFirst 104 = .ok (.invokevirtual 169, 3) := by decide +kernel
theorem dX9_findFirst_107 : decode cX9_findFirst 107 = .ok (.iload 5, 2) := by decide +kernel
theorem dX9_findFirst_109 : decode cX9_findFirst 109 = .ok (.iconst 1, 1) := by decide +kernel
theorem dX9_findFirst_110 : decode cX9_findFirst 110 = .ok (.isub, 1) := by decide +kernel
theorem dX9_findFirst_111 : decode cX9_findFirst 111 = .ok (.if_icmp .ne 12, 3) := by decide +kernel
theorem dX9_findFirst_114 : decode cX9_findFirst 114 = .ok (.aload_n 0, 1) := by decide +kernel
theorem dX9_findFirst_115 : decode cX9_findFirst 115 = .ok (.getfield 33, 3) := by decide +kernel
theorem dX9_findFirst_118 : decode cX9_findFirst 118 = .ok (.iload 6, 2) := by decide +kernel
theorem dX9_findFirst_120 : decode cX9_findFirst 120 = .ok (.iload 8, 2) := by decide +kernel
theorem dX9_findFirst_122 : decode cX9_findFirst 122 = .ok (.iastore, 1) := by decide +kernel
theorem dX9_findFirst_123 : decode cX9_findFirst 123 = .ok (.iinc 8 1, 3) := by decide +kernel
theorem dX9_findFirst_126 : decode cX9_findFirst 126 = .ok (.goto (-80), 3) := by decide +kernel
theorem dX9_findFirst_129 : decode cX9_findFirst 129 = .ok (.aload_n 0, 1) := by decide +kernel
theorem dX9_findFirst_130 : decode cX9_findFirst 130 = .ok (.getfield 33, 3) := by decide +kernel
theorem dX9_findFirst_133 : decode cX9_findFirst 133 = .ok (.iload 6, 2) := by decide +kernel
theorem dX9_findFirst_135 : decode cX9_findFirst 135 = .ok (.iaload, 1) := by decide +kernel
theorem dX9_findFirst_136 : decode cX9_findFirst 136 = .ok (.iconst (-1), 1) := by decide +kernel
theorem dX9_findFirst_137 : decode cX9_findFirst 137 = .ok (.if_icmp .eq 22, 3) := by decide +kernel
theorem dX9_findFirst_140 : decode cX9_findFirst 140 = .ok (.iload 4, 2) := by decide +kernel
theorem dX9_findFirst_142 : decode cX9_findFirst 142 = .ok (.iconst 1, 1) := by decide +kernel
theorem dX9_findFirst_143 : decode cX9_findFirst 143 = .ok (.aload_n 0, 1) := by decide +kernel
theorem dX9_findFirst_144 : decode cX9_findFirst 144 = .ok (.getfield 33, 3) := by decide +kernel
theorem dX9_findFirst_147 : decode cX9_findFirst 147 = .ok (.iload 6, 2) := by decide +kernel
theorem dX9_findFirst_149 : decode cX9_findFirst 149 = .ok (.iaload, 1) := by decide +kernel
theorem dX9_findFirst_150 : decode cX9_findFirst 150 = .ok (.ishl, 1) := by decide +kernel
theorem dX9_findFirst_151 : decode cX9_findFirst 151 = .ok (.iconst (-1), 1) := by decide +kernel
theorem dX9_findFirst_152 : decode cX9_findFirst 152 = .ok (.ixor, 1) := by decide +kernel
theorem dX9_findFirst_153 : decode cX9_findFirst 153 = .ok (.iand, 1) := by decide +kernel
theorem dX9_findFirst_154 : decode cX9_findFirst 154 = .ok (.istore 4, 2) := by decide +kernel
theorem dX9_findFirst_156 : decode cX9_findFirst 156 = .ok (.iinc 5 (-1), 3) := by decide +kernel
theorem dX9_findFirst_159 : decode cX9_findFirst 159 = .ok (.iinc 6 1, 3) := by decide +kernel
theorem dX9_findFirst_162 : decode cX9_findFirst 162 = .ok (.goto (-146), 3) := by decide +kernel
theorem dX9_findFirst_165 : decode cX9_findFirst 165 = .ok (.iload_n 3, 1) := by decide +kernel
theorem dX9_findFirst_166 : decode cX9_findFirst 166 = .ok (.ireturn, 1) := by decide +kernel
theorem dX9_fits_0 : decode cX9_fits 0 = .ok (.aload_n 0, 1) := by decide +kernel
theorem dX9_fits_1 : decode cX9_fits 1 = .ok (.iload_n 1, 1) := by decide +kernel
theorem dX9_fits_2 : decode cX9_fits 2 = .ok (.invokevirtual 95, 3) := by decide +kernel
theorem dX9_fits_5 : decode cX9_fits 5 = .ok (.ifCond .ne 10, 3) := by decide +kernel
theorem dX9_fits_8 : decode cX9_fits 8 = .ok (.aload_n 0, 1) := by decide +kernel
theorem dX9_fits_9 : decode cX9_fits 9 = .ok (.bipush (-2), 2) := by decide +kernel
theorem dX9_fits_11 : decode cX9_fits 11 = .ok (.invokevirtual 70, 3) := by decide +kernel
theorem dX9_fits_14 : decode cX9_fits 14 = .ok (.ireturn, 1) := by decide +kernel
theorem dX9_fits_15 : decode cX9_fits 15 = .ok (.aload_n 0, 1) := by decide +kernel
theorem dX9_fits_16 : decode cX9_fits 16 = .ok (.invokevirtual 172, 3) := by decide +kernel
theorem dX9_fits_19 : decode cX9_fits 19 = .ok (.aload_n 0, 1) := by decide +kernel
theorem dX9_fits_20 : decode cX9_fits 20 = .ok (.getfield 27, 3) := by decide +kernel
theorem dX9_fits_23 : decode cX9_fits 23 = .ok (.iload_n 1, 1) := by decide +kernel
theorem dX9_fits_24 : decode cX9_fits 24 = .ok (.iaload, 1) := by decide +kernel
theorem dX9_fits_25 : decode cX9_fits 25 = .ok (.ireturn, 1) := by decide +kernel
theorem dX9_most_0 : decode cX9_most 0 = .ok (.iload_n 1, 1) := by decide +kernel
theorem dX9_most_1 : decode cX9_most 1 = .ok (.iconst (-1), 1) := by decide +kernel
theorem dX9_most_2 : decode cX9_most 2 = .ok (.if_icmp .eq 16, 3) := by decide +kernel
theorem dX9_most_5 : decode cX9_most 5 = .ok (.aload_n 0, 1) := by decide +kernel
theorem dX9_most_6 : decode cX9_most 6 = .ok (.iload_n 1, 1) := by decide +kernel
theorem dX9_most_7 : decode cX9_most 7 = .ok (.invokevirtual 95, 3) := by decide +kernel
theorem dX9_most_10 : decode cX9_most 10 = .ok (.ifCond .ne 8, 3) := by decide +kernel
theorem dX9_most_13 : decode cX9_most 13 = .ok (.aload_n 0, 1) := by decide +kernel
theorem dX9_most_14 : decode cX9_most 14 = .ok (.invokevirtual 118, 3) := by decide +kernel
theorem dX9_most_17 : decode cX9_most 17 = .ok (.ireturn, 1) := by decide +kernel
theorem dX9_most_18 : decode cX9_most 18 = .ok (.aload_n 0, 1) := by decide +kernel
theorem dX9_most_19 : decode cX9_most 19 = .ok (.invokevirtual 172, 3) := by decide +kernel
theorem dX9_most_22 : decode cX9_most 22 = .ok (.aload_n 0, 1) := by decide +kernel
theorem dX9_most_23 : decode cX9_most 23 = .ok (.aload_n 0, 1) := by decide +kernel
theorem dX9_most_24 : decode cX9_most 24 = .ok (.invokevirtual 175, 3) := by decide +kernel
theorem dX9_most_27 : decode cX9_most 27 = .ok (.aload_n 0, 1) := by decide +kernel
theorem dX9_most_28 : decode cX9_most 28 = .ok (.invokevirtual 178, 3) := by decide +kernel
theorem dX9_most_31 : decode cX9_most 31 = .ok (.invokevirtual 181, 3) := by decide +kernel
theorem dX9_most_34 : decode cX9_most 34 = .ok (.istore_n 2, 1) := by decide +kernel
theorem dX9_most_35 : decode cX9_most 35 = .ok (.iload_n 1, 1) := by decide +kernel
theorem dX9_most_36 : decode cX9_most 36 = .ok (.iconst (-1), 1) := by decide +kernel
theorem dX9_most_37 : decode cX9_most 37 = .ok (.if_icmp .ne 7, 3) := by decide +kernel
theorem dX9_most_40 : decode cX9_most 40 = .ok (.iload_n 2, 1) := by decide +kernel
theorem dX9_most_41 : decode cX9_most 41 = .ok (.goto 9, 3) := by decide +kernel
theorem dX9_most_44 : decode cX9_most 44 = .ok (.aload_n 0, 1) := by decide +kernel
theorem dX9_most_45 : decode cX9_most 45 = .ok (.getfield 33, 3) := by decide +kernel
theorem dX9_most_48 : decode cX9_most 48 = .ok (.iload_n 1, 1) := by decide +kernel
theorem dX9_most_49 : decode cX9_most 49 = .ok (.iaload, 1) := by decide +kernel
theorem dX9_most_50 : decode cX9_most 50 = .ok (.ireturn, 1) := by decide +kernel
theorem dX9_lacking_0 : decode cX9_lacking 0 = .ok (.aload_n 0, 1) := by decide +kernel
theorem dX9_lacking_1 : decode cX9_lacking 1 = .ok (.invokevirtual 172, 3) := by decide +kernel
theorem dX9_lacking_4 : decode cX9_lacking 4 = .ok (.iconst 0, 1) := by decide +kernel
theorem dX9_lacking_5 : decode cX9_lacking 5 = .ok (.istore_n 1, 1) := by decide +kernel
theorem dX9_lacking_6 : decode cX9_lacking 6 = .ok (.iconst 0, 1) := by decide +kernel
theorem dX9_lacking_7 : decode cX9_lacking 7 = .ok (.istore_n 2, 1) := by decide +kernel
theorem dX9_lacking_8 : decode cX9_lacking 8 = .ok (.iconst 1, 1) := by decide +kernel
theorem dX9_lacking_9 : decode cX9_lacking 9 = .ok (.istore_n 3, 1) := by decide +kernel
theorem dX9_lacking_10 : decode cX9_lacking 10 = .ok (.iload_n 3, 1) := by decide +kernel
theorem dX9_lacking_11 : decode cX9_lacking 11 = .ok (.aload_n 0, 1) := by decide +kernel
theorem dX9_lacking_12 : decode cX9_lacking 12 = .ok (.invokevirtual 175, 3) := by decide +kernel
theorem dX9_lacking_15 : decode cX9_lacking 15 = .ok (.if_icmp .gt 99, 3) := by decide +kernel
theorem dX9_lacking_18 : decode cX9_lacking 18 = .ok (.iconst 0, 1) := by decide +kernel
theorem dX9_lacking_19 : decode cX9_lacking 19 = .ok (.istore 4, 2) := by decide +kernel
theorem dX9_lacking_21 : decode cX9_lacking 21 = .ok (.iconst 0, 1) := by decide +kernel
theorem dX9_lacking_22 : decode cX9_lacking 22 = .ok (.istore 5, 2) := by decide +kernel
theorem dX9_lacking_24 : decode cX9_lacking 24 = .ok (.iload 5, 2) := by decide +kernel
theorem dX9_lacking_26 : decode cX9_lacking 26 = .ok (.bipush 7, 2) := by decide +kernel
theorem dX9_lacking_28 : decode cX9_lacking 28 = .ok (.if_icmp .ge 35, 3) := by decide +kernel
theorem dX9_lacking_31 : decode cX9_lacking 31 = .ok (.iload 4, 2) := by decide +kernel
theorem dX9_lacking_33 : decode cX9_lacking 33 = .ok (.iload_n 3, 1) := by decide +kernel
theorem dX9_lacking_34 : decode cX9_lacking 34 = .ok (.iload 5, 2) := by decide +kernel
theorem dX9_lacking_36 : decode cX9_lacking 36 = .ok (.ishr, 1) := by decide +kernel
theorem dX9_lacking_37 : decode cX9_lacking 37 = .ok (.iconst 1, 1) := by decide +kernel
theorem dX9_lacking_38 : decode cX9_lacking 38 = .ok (.iand, 1) := by decide +kernel
theorem dX9_lacking_39 : decode cX9_lacking 39 = .ok (.iconst 1, 1) := by decide +kernel
theorem dX9_lacking_40 : decode cX9_lacking 40 = .ok (.if_icmp .ne 13, 3) := by decide +kernel
theorem dX9_lacking_43 : decode cX9_lacking 43 = .ok (.aload_n 0, 1) := by decide +kernel
theorem dX9_lacking_44 : decode cX9_lacking 44 = .ok (.getfield 27, 3) := by decide +kernel
theorem dX9_lacking_47 : decode cX9_lacking 47 = .ok (.iload 5, 2) := by decide +kernel
theorem dX9_lacking_49 : decode cX9_lacking 49 = .ok (.iaload, 1) := by decide +kernel
theorem dX9_lacking_50 : decode cX9_lacking 50 = .ok (.goto 4, 3) := by decide +kernel
theorem dX9_lacking_53 : decode cX9_lacking 53 = .ok (.iconst 0, 1) := by decide +kernel
theorem dX9_lacking_54 : decode cX9_lacking 54 = .ok (.ior, 1) := by decide +kernel
theorem dX9_lacking_55 : decode cX9_lacking 55 = .ok (.istore 4, 2) := by decide +kernel
theorem dX9_lacking_57 : decode cX9_lacking 57 = .ok (.iinc 5 1, 3) := by decide +kernel
theorem dX9_lacking_60 : decode cX9_lacking 60 = .ok (.goto (-36), 3) := by decide +kernel
theorem dX9_lacking_63 : decode cX9_lacking 63 = .ok (.iload_n 3, 1) := by decide +kernel
theorem dX9_lacking_64 : decode cX9_lacking 64 = .ok (.invokestatic 184, 3) := by decide +kernel
theorem dX9_lacking_67 : decode cX9_lacking 67 = .ok (.iload 4, 2) := by decide +kernel
theorem dX9_lacking_69 : decode cX9_lacking 69 = .ok (.invokestatic 184, 3) := by decide +kernel
theorem dX9_lacking_72 : decode cX9_lacking 72 = .ok (.isub, 1) := by decide +kernel
theorem dX9_lacking_73 : decode cX9_lacking 73 = .ok (.istore 5, 2) := by decide +kernel
theorem dX9_lacking_75 : decode cX9_lacking 75 = .ok (.iload 5, 2) := by decide +kernel
theorem dX9_lacking_77 : decode cX9_lacking 77 = .ok (.iload_n 2, 1) := by decide +kernel
theorem dX9_lacking_78 : decode cX9_lacking 78 = .ok (.if_icmp .gt 25, 3) := by decide +kernel
theorem dX9_lacking_81 : decode cX9_lacking 81 = .ok (.iload 5, 2) := by decide +kernel
theorem dX9_lacking_83 : decode cX9_lacking 83 = .ok (.iload_n 2, 1) := by decide +kernel
theorem dX9_lacking_84 : decode cX9_lacking 84 = .ok (.if_icmp .ne 24, 3) := by decide +kernel
theorem dX9_lacking_87 : decode cX9_lacking 87 = .ok (.iload 5, 2) := by decide +kernel
theorem dX9_lacking_89 : decode cX9_lacking 89 = .ok (.ifCond .le 19, 3) := by decide +kernel
theorem dX9_lacking_92 : decode cX9_lacking 92 = .ok (.iload_n 3, 1) := by decide +kernel
theorem dX9_lacking_93 : decode cX9_lacking 93 = .ok (.invokestatic 184, 3) := by decide +kernel
theorem dX9_lacking_96 : decode cX9_lacking 96 = .ok (.iload_n 1, 1) := by decide +kernel
theorem dX9_lacking_97 : decode cX9_lacking 97 = .ok (.invokestatic 184, 3) := by decide +kernel
theorem dX9_lacking_100 : decode cX9_lacking 100 = .ok (.if_icmp .ge 8, 3) := by decide +kernel
theorem dX9_lacking_103 : decode cX9_lacking 103 = .ok (.iload_n 3, 1) := by decide +kernel
theorem dX9_lacking_104 : decode cX9_lacking 104 = .ok (.istore_n 1, 1) := by decide +kernel
theorem dX9_lacking_105 : decode cX9_lacking 105 = .ok (.iload 5, 2) := by decide +kernel
theorem dX9_lacking_107 : decode cX9_lacking 107 = .ok (.istore_n 2, 1) := by decide +kernel
theorem dX9_lacking_108 : decode cX9_lacking 108 = .ok (.iinc 3 1, 3) := by decide +kernel
theorem dX9_lacking_111 : decode cX9_lacking 111 = .ok (.goto (-101), 3) := by decide +kernel
theorem dX9_lacking_114 : decode cX9_lacking 114 = .ok (.iload_n 1, 1) := by decide +kernel
theorem dX9_lacking_115 : decode cX9_lacking 115 = .ok (.ireturn, 1) := by decide +kernel
theorem dX9_sumOf_0 : decode cX9_sumOf 0 = .ok (.iconst 0, 1) := by decide +kernel
theorem dX9_sumOf_1 : decode cX9_sumOf 1 = .ok (.istore_n 3, 1) := by decide +kernel
theorem dX9_sumOf_2 : decode cX9_sumOf 2 = .ok (.iconst 0, 1) := by decide +kernel
theorem dX9_sumOf_3 : decode cX9_sumOf 3 = .ok (.istore 4, 2) := by decide +kernel
theorem dX9_sumOf_5 : decode cX9_sumOf 5 = .ok (.iload 4, 2) := by decide +kernel
theorem dX9_sumOf_7 : decode cX9_sumOf 7 = .ok (.aload_n 0, 1) := by decide +kernel
theorem dX9_sumOf_8 : decode cX9_sumOf 8 = .ok (.iconst 0, 1) := by decide +kernel
theorem dX9_sumOf_9 : decode cX9_sumOf 9 = .ok (.invokevirtual 62, 3) := by decide +kernel
theorem dX9_sumOf_12 : decode cX9_sumOf 12 = .ok (.if_icmp .ge 26, 3) := by decide +kernel
theorem dX9_sumOf_15 : decode cX9_sumOf 15 = .ok (.iload_n 3, 1) := by decide +kernel
theorem dX9_sumOf_16 : decode cX9_sumOf 16 = .ok (.iload_n 1, 1) := by decide +kernel
theorem dX9_sumOf_17 : decode cX9_sumOf 17 = .ok (.iload 4, 2) := by decide +kernel
theorem dX9_sumOf_19 : decode cX9_sumOf 19 = .ok (.ishr, 1) := by decide +kernel
theorem dX9_sumOf_20 : decode cX9_sumOf 20 = .ok (.iconst 1, 1) := by decide +kernel
theorem dX9_sumOf_21 : decode cX9_sumOf 21 = .ok (.iand, 1) := by decide +kernel
theorem dX9_sumOf_22 : decode cX9_sumOf 22 = .ok (.aload_n 0, 1) := by decide +kernel
theorem dX9_sumOf_23 : decode cX9_sumOf 23 = .ok (.iload 4, 2) := by decide +kernel
theorem dX9_sumOf_25 : decode cX9_sumOf 25 = .ok (.iload_n 2, 1) := by decide +kernel
theorem dX9_sumOf_26 : decode cX9_sumOf 26 = .ok (.invokevirtual 77, 3) := by decide +kernel
theorem dX9_sumOf_29 : decode cX9_sumOf 29 = .ok (.imul, 1) := by decide +kernel
theorem dX9_sumOf_30 : decode cX9_sumOf 30 = .ok (.iadd, 1) := by decide +kernel
theorem dX9_sumOf_31 : decode cX9_sumOf 31 = .ok (.istore_n 3, 1) := by decide +kernel
theorem dX9_sumOf_32 : decode cX9_sumOf 32 = .ok (.iinc 4 1, 3) := by decide +kernel
theorem dX9_sumOf_35 : decode cX9_sumOf 35 = .ok (.goto (-30), 3) := by decide +kernel
theorem dX9_sumOf_38 : decode cX9_sumOf 38 = .ok (.iload_n 3, 1) := by decide +kernel
theorem dX9_sumOf_39 : decode cX9_sumOf 39 = .ok (.ireturn, 1) := by decide +kernel
theorem dX9_isCovered_0 : decode cX9_isCovered 0 = .ok (.aload_n 0, 1) := by decide +kernel
theorem dX9_isCovered_1 : decode cX9_isCovered 1 = .ok (.iload_n 1, 1) := by decide +kernel
theorem dX9_isCovered_2 : decode cX9_isCovered 2 = .ok (.iload_n 2, 1) := by decide +kernel
theorem dX9_isCovered_3 : decode cX9_isCovered 3 = .ok (.invokevirtual 169, 3) := by decide +kernel
theorem dX9_isCovered_6 : decode cX9_isCovered 6 = .ok (.iload_n 1, 1) := by decide +kernel
theorem dX9_isCovered_7 : decode cX9_isCovered 7 = .ok (.invokestatic 184, 3) := by decide +kernel
theorem dX9_isCovered_10 : decode cX9_isCovered 10 = .ok (.if_icmp .ne 7, 3) := by decide +kernel
theorem dX9_isCovered_13 : decode cX9_isCovered 13 = .ok (.iconst 1, 1) := by decide +kernel
theorem dX9_isCovered_14 : decode cX9_isCovered 14 = .ok (.goto 4, 3) := by decide +kernel
theorem dX9_isCovered_17 : decode cX9_isCovered 17 = .ok (.iconst 0, 1) := by decide +kernel
theorem dX9_isCovered_18 : decode cX9_isCovered 18 = .ok (.ireturn, 1) := by decide +kernel
theorem dX9_soup_0 : decode cX9_soup 0 = .ok (.iload_n 1, 1) := by decide +kernel
theorem dX9_soup_1 : decode cX9_soup 1 = .ok (.iconst 0, 1) := by decide +kernel
theorem dX9_soup_2 : decode cX9_soup 2 = .ok (.bipush 99, 2) := by decide +kernel
theorem dX9_soup_4 : decode cX9_soup 4 = .ok (.invokestatic 66, 3) := by decide +kernel
theorem dX9_soup_7 : decode cX9_soup 7 = .ok (.ifCond .eq 12, 3) := by decide +kernel
theorem dX9_soup_10 : decode cX9_soup 10 = .ok (.iload_n 2, 1) := by decide +kernel
theorem dX9_soup_11 : decode cX9_soup 11 = .ok (.iconst 0, 1) := by decide +kernel
theorem dX9_soup_12 : decode cX9_soup 12 = .ok (.iconst 1, 1) := by decide +kernel
theorem dX9_soup_13 : decode cX9_soup 13 = .ok (.invokestatic 66, 3) := by decide +kernel
theorem dX9_soup_16 : decode cX9_soup 16 = .ok (.ifCond .ne 8, 3) := by decide +kernel
theorem dX9_soup_19 : decode cX9_soup 19 = .ok (.aload_n 0, 1) := by decide +kernel
theorem dX9_soup_20 : decode cX9_soup 20 = .ok (.invokevirtual 118, 3) := by decide +kernel
theorem dX9_soup_23 : decode cX9_soup 23 = .ok (.ireturn, 1) := by decide +kernel
theorem dX9_soup_24 : decode cX9_soup 24 = .ok (.aload_n 0, 1) := by decide +kernel
theorem dX9_soup_25 : decode cX9_soup 25 = .ok (.invokevirtual 172, 3) := by decide +kernel
theorem dX9_soup_28 : decode cX9_soup 28 = .ok (.iconst (-1), 1) := by decide +kernel
theorem dX9_soup_29 : decode cX9_soup 29 = .ok (.istore_n 3, 1) := by decide +kernel
theorem dX9_soup_30 : decode cX9_soup 30 = .ok (.iconst 0, 1) := by decide +kernel
theorem dX9_soup_31 : decode cX9_soup 31 = .ok (.istore 4, 2) := by decide +kernel
theorem dX9_soup_33 : decode cX9_soup 33 = .ok (.iload 4, 2) := by decide +kernel
theorem dX9_soup_35 : decode cX9_soup 35 = .ok (.aload_n 0, 1) := by decide +kernel
theorem dX9_soup_36 : decode cX9_soup 36 = .ok (.invokevirtual 175, 3) := by decide +kernel
theorem dX9_soup_39 : decode cX9_soup 39 = .ok (.if_icmp .gt 73, 3) := by decide +kernel
theorem dX9_soup_42 : decode cX9_soup 42 = .ok (.aload_n 0, 1) := by decide +kernel
theorem dX9_soup_43 : decode cX9_soup 43 = .ok (.iload 4, 2) := by decide +kernel
theorem dX9_soup_45 : decode cX9_soup 45 = .ok (.iconst 2, 1) := by decide +kernel
theorem dX9_soup_46 : decode cX9_soup 46 = .ok (.invokevirtual 187, 3) := by decide +kernel
theorem dX9_soup_49 : decode cX9_soup 49 = .ok (.iload_n 1, 1) := by decide +kernel
theorem dX9_soup_50 : decode cX9_soup 50 = .ok (.if_icmp .lt 28, 3) := by decide +kernel
theorem dX9_soup_53 : decode cX9_soup 53 = .ok (.iload_n 3, 1) := by decide +kernel
theorem dX9_soup_54 : decode cX9_soup 54 = .ok (.iconst (-1), 1) := by decide +kernel
theorem dX9_soup_55 : decode cX9_soup 55 = .ok (.if_icmp .eq 19, 3) := by decide +kernel
theorem dX9_soup_58 : decode cX9_soup 58 = .ok (.aload_n 0, 1) := by decide +kernel
theorem dX9_soup_59 : decode cX9_soup 59 = .ok (.iload 4, 2) := by decide +kernel
theorem dX9_soup_61 : decode cX9_soup 61 = .ok (.iconst 1, 1) := by decide +kernel
theorem dX9_soup_62 : decode cX9_soup 62 = .ok (.invokevirtual 187, 3) := by decide +kernel
theorem dX9_soup_65 : decode cX9_soup 65 = .ok (.aload_n 0, 1) := by decide +kernel
theorem dX9_soup_66 : decode cX9_soup 66 = .ok (.iload_n 3, 1) := by decide +kernel
theorem dX9_soup_67 : decode cX9_soup 67 = .ok (.iconst 1, 1) := by decide +kernel
theorem dX9_soup_68 : decode cX9_soup 68 = .ok (.invokevirtual 187, 3) := by decide +kernel
theorem dX9_soup_71 : decode cX9_soup 71 = .ok (.if_icmp .ge 7, 3) := by decide +kernel
theorem dX9_soup_74 : decode cX9_soup 74 = .ok (.iconst 1, 1) := by decide +kernel
theorem dX9_soup_75 : decode cX9_soup 75 = .ok (.goto 4, 3) := by decide +kernel
theorem dX9_soup_78 : decode cX9_soup 78 = .ok (.iconst 0, 1) := by decide +kernel
theorem dX9_soup_79 : decode cX9_soup 79 = .ok (.istore 5, 2) := by decide +kernel
theorem dX9_soup_81 : decode cX9_soup 81 = .ok (.iload 5, 2) := by decide +kernel
theorem dX9_soup_83 : decode cX9_soup 83 = .ok (.ifCond .eq 21, 3) := by decide +kernel
theorem dX9_soup_86 : decode cX9_soup 86 = .ok (.aload_n 0, 1) := by decide +kernel
theorem dX9_soup_87 : decode cX9_soup 87 = .ok (.iload 4, 2) := by decide +kernel
theorem dX9_soup_89 : decode cX9_soup 89 = .ok (.aload_n 0, 1) := by decide +kernel
theorem dX9_soup_90 : decode cX9_soup 90 = .ok (.invokevirtual 178, 3) := by decide +kernel
theorem dX9_soup_93 : decode cX9_soup 93 = .ok (.invokevirtual 190, 3) := by decide +kernel
theorem dX9_soup_96 : decode cX9_soup 96 = .ok (.ifCond .eq 8, 3) := by decide +kernel
theorem dX9_soup_99 : decode cX9_soup 99 = .ok (.iload 4, 2) := by decide +kernel
theorem dX9_soup_101 : decode cX9_soup 101 = .ok (.goto 4, 3) := by decide +kernel
theorem dX9_soup_104 : decode cX9_soup 104 = .ok (.iload_n 3, 1) := by decide +kernel
theorem dX9_soup_105 : decode cX9_soup 105 = .ok (.istore_n 3, 1) := by decide +kernel
theorem dX9_soup_106 : decode cX9_soup 106 = .ok (.iinc 4 1, 3) := by decide +kernel
theorem dX9_soup_109 : decode cX9_soup 109 = .ok (.goto (-76), 3) := by decide +kernel
theorem dX9_soup_112 : decode cX9_soup 112 = .ok (.iload_n 3, 1) := by decide +kernel
theorem dX9_soup_113 : decode cX9_soup 113 = .ok (.iconst (-1), 1) := by decide +kernel
theorem dX9_soup_114 : decode cX9_soup 114 = .ok (.if_icmp .eq 8, 3) := by decide +kernel
theorem dX9_soup_117 : decode cX9_soup 117 = .ok (.iload_n 2, 1) := by decide +kernel
theorem dX9_soup_118 : decode cX9_soup 118 = .ok (.iconst 1, 1) := by decide +kernel
theorem dX9_soup_119 : decode cX9_soup 119 = .ok (.if_icmp .ne 7, 3) := by decide +kernel
theorem dX9_soup_122 : decode cX9_soup 122 = .ok (.iload_n 3, 1) := by decide +kernel
theorem dX9_soup_123 : decode cX9_soup 123 = .ok (.goto 9, 3) := by decide +kernel
theorem dX9_soup_126 : decode cX9_soup 126 = .ok (.aload_n 0, 1) := by decide +kernel
theorem dX9_soup_127 : decode cX9_soup 127 = .ok (.iload_n 3, 1) := by decide +kernel
theorem dX9_soup_128 : decode cX9_soup 128 = .ok (.iconst 1, 1) := by decide +kernel
theorem dX9_soup_129 : decode cX9_soup 129 = .ok (.invokevirtual 187, 3) := by decide +kernel
theorem dX9_soup_132 : decode cX9_soup 132 = .ok (.ireturn, 1) := by decide +kernel
theorem dX9_muchBy_0 : decode cX9_muchBy 0 = .ok (.iconst 0, 1) := by decide +kernel
theorem dX9_muchBy_1 : decode cX9_muchBy 1 = .ok (.istore_n 2, 1) := by decide +kernel
theorem dX9_muchBy_2 : decode cX9_muchBy 2 = .ok (.iconst 0, 1) := by decide +kernel
theorem dX9_muchBy_3 : decode cX9_muchBy 3 = .ok (.istore_n 3, 1) := by decide +kernel
theorem dX9_muchBy_4 : decode cX9_muchBy 4 = .ok (.iload_n 3, 1) := by decide +kernel
theorem dX9_muchBy_5 : decode cX9_muchBy 5 = .ok (.aload_n 0, 1) := by decide +kernel
theorem dX9_muchBy_6 : decode cX9_muchBy 6 = .ok (.invokevirtual 175, 3) := by decide +kernel
theorem dX9_muchBy_9 : decode cX9_muchBy 9 = .ok (.if_icmp .gt 39, 3) := by decide +kernel
theorem dX9_muchBy_12 : decode cX9_muchBy 12 = .ok (.aload_n 0, 1) := by decide +kernel
theorem dX9_muchBy_13 : decode cX9_muchBy 13 = .ok (.iload_n 3, 1) := by decide +kernel
theorem dX9_muchBy_14 : decode cX9_muchBy 14 = .ok (.iconst 2, 1) := by decide +kernel
theorem dX9_muchBy_15 : decode cX9_muchBy 15 = .ok (.invokevirtual 187, 3) := by decide +kernel
theorem dX9_muchBy_18 : decode cX9_muchBy 18 = .ok (.istore 4, 2) := by decide +kernel
theorem dX9_muchBy_20 : decode cX9_muchBy 20 = .ok (.iload 4, 2) := by decide +kernel
theorem dX9_muchBy_22 : decode cX9_muchBy 22 = .ok (.iload_n 2, 1) := by decide +kernel
theorem dX9_muchBy_23 : decode cX9_muchBy 23 = .ok (.if_icmp .le 17, 3) := by decide +kernel
theorem dX9_muchBy_26 : decode cX9_muchBy 26 = .ok (.aload_n 0, 1) := by decide +kernel
theorem dX9_muchBy_27 : decode cX9_muchBy 27 = .ok (.iload_n 3, 1) := by decide +kernel
theorem dX9_muchBy_28 : decode cX9_muchBy 28 = .ok (.iload_n 1, 1) := by decide +kernel
theorem dX9_muchBy_29 : decode cX9_muchBy 29 = .ok (.invokevirtual 190, 3) := by decide +kernel
theorem dX9_muchBy_32 : decode cX9_muchBy 32 = .ok (.ifCond .eq 8, 3) := by decide +kernel
theorem dX9_muchBy_35 : decode cX9_muchBy 35 = .ok (.iload 4, 2) := by decide +kernel
theorem dX9_muchBy_37 : decode cX9_muchBy 37 = .ok (.goto 4, 3) := by decide +kernel
theorem dX9_muchBy_40 : decode cX9_muchBy 40 = .ok (.iload_n 2, 1) := by decide +kernel
theorem dX9_muchBy_41 : decode cX9_muchBy 41 = .ok (.istore_n 2, 1) := by decide +kernel
theorem dX9_muchBy_42 : decode cX9_muchBy 42 = .ok (.iinc 3 1, 3) := by decide +kernel
theorem dX9_muchBy_45 : decode cX9_muchBy 45 = .ok (.goto (-41), 3) := by decide +kernel
theorem dX9_muchBy_48 : decode cX9_muchBy 48 = .ok (.iload_n 2, 1) := by decide +kernel
theorem dX9_muchBy_49 : decode cX9_muchBy 49 = .ok (.ireturn, 1) := by decide +kernel
theorem dX9_much_0 : decode cX9_much 0 = .ok (.aload_n 0, 1) := by decide +kernel
theorem dX9_much_1 : decode cX9_much 1 = .ok (.invokevirtual 172, 3) := by decide +kernel
theorem dX9_much_4 : decode cX9_much 4 = .ok (.aload_n 0, 1) := by decide +kernel
theorem dX9_much_5 : decode cX9_much 5 = .ok (.aload_n 0, 1) := by decide +kernel
theorem dX9_much_6 : decode cX9_much 6 = .ok (.invokevirtual 178, 3) := by decide +kernel
theorem dX9_much_9 : decode cX9_much 9 = .ok (.invokevirtual 193, 3) := by decide +kernel
theorem dX9_much_12 : decode cX9_much 12 = .ok (.ireturn, 1) := by decide +kernel
theorem dX9_worth_0 : decode cX9_worth 0 = .ok (.aload_n 0, 1) := by decide +kernel
theorem dX9_worth_1 : decode cX9_worth 1 = .ok (.iload_n 1, 1) := by decide +kernel
theorem dX9_worth_2 : decode cX9_worth 2 = .ok (.invokevirtual 91, 3) := by decide +kernel
theorem dX9_worth_5 : decode cX9_worth 5 = .ok (.ifCond .ne 10, 3) := by decide +kernel
theorem dX9_worth_8 : decode cX9_worth 8 = .ok (.aload_n 0, 1) := by decide +kernel
theorem dX9_worth_9 : decode cX9_worth 9 = .ok (.bipush (-2), 2) := by decide +kernel
theorem dX9_worth_11 : decode cX9_worth 11 = .ok (.invokevirtual 70, 3) := by decide +kernel
theorem dX9_worth_14 : decode cX9_worth 14 = .ok (.ireturn, 1) := by decide +kernel
theorem dX9_worth_15 : decode cX9_worth 15 = .ok (.aload_n 0, 1) := by decide +kernel
theorem dX9_worth_16 : decode cX9_worth 16 = .ok (.invokevirtual 172, 3) := by decide +kernel
theorem dX9_worth_19 : decode cX9_worth 19 = .ok (.aload_n 0, 1) := by decide +kernel
theorem dX9_worth_20 : decode cX9_worth 20 = .ok (.aload_n 0, 1) := by decide +kernel
theorem dX9_worth_21 : decode cX9_worth 21 = .ok (.invokevirtual 178, 3) := by decide +kernel
theorem dX9_worth_24 : decode cX9_worth 24 = .ok (.invokevirtual 193, 3) := by decide +kernel
theorem dX9_worth_27 : decode cX9_worth 27 = .ok (.aload_n 0, 1) := by decide +kernel
theorem dX9_worth_28 : decode cX9_worth 28 = .ok (.aload_n 0, 1) := by decide +kernel
theorem dX9_worth_29 : decode cX9_worth 29 = .ok (.invokevirtual 178, 3) := by decide +kernel
theorem dX9_worth_32 : decode cX9_worth 32 = .ok (.iconst 1, 1) := by decide +kernel
theorem dX9_worth_33 : decode cX9_worth 33 = .ok (.iload_n 1, 1) := by decide +kernel
theorem dX9_worth_34 : decode cX9_worth 34 = .ok (.ishl, 1) := by decide +kernel
theorem dX9_worth_35 : decode cX9_worth 35 = .ok (.iconst (-1), 1) := by decide +kernel
theorem dX9_worth_36 : decode cX9_worth 36 = .ok (.ixor, 1) := by decide +kernel
theorem dX9_worth_37 : decode cX9_worth 37 = .ok (.iand, 1) := by decide +kernel
theorem dX9_worth_38 : decode cX9_worth 38 = .ok (.invokevirtual 193, 3) := by decide +kernel
theorem dX9_worth_41 : decode cX9_worth 41 = .ok (.isub, 1) := by decide +kernel
theorem dX9_worth_42 : decode cX9_worth 42 = .ok (.ireturn, 1) := by decide +kernel
theorem dX9_spare_0 : decode cX9_spare 0 = .ok (.aload_n 0, 1) := by decide +kernel
theorem dX9_spare_1 : decode cX9_spare 1 = .ok (.invokevirtual 172, 3) := by decide +kernel
theorem dX9_spare_4 : decode cX9_spare 4 = .ok (.aload_n 0, 1) := by decide +kernel
theorem dX9_spare_5 : decode cX9_spare 5 = .ok (.aload_n 0, 1) := by decide +kernel
theorem dX9_spare_6 : decode cX9_spare 6 = .ok (.invokevirtual 175, 3) := by decide +kernel
theorem dX9_spare_9 : decode cX9_spare 9 = .ok (.aload_n 0, 1) := by decide +kernel
theorem dX9_spare_10 : decode cX9_spare 10 = .ok (.invokevirtual 178, 3) := by decide +kernel
theorem dX9_spare_13 : decode cX9_spare 13 = .ok (.invokevirtual 169, 3) := by decide +kernel
theorem dX9_spare_16 : decode cX9_spare 16 = .ok (.istore_n 1, 1) := by decide +kernel
theorem dX9_spare_17 : decode cX9_spare 17 = .ok (.iconst 0, 1) := by decide +kernel
theorem dX9_spare_18 : decode cX9_spare 18 = .ok (.istore_n 2, 1) := by decide +kernel
theorem dX9_spare_19 : decode cX9_spare 19 = .ok (.iconst 0, 1) := by decide +kernel
theorem dX9_spare_20 : decode cX9_spare 20 = .ok (.istore_n 3, 1) := by decide +kernel
theorem dX9_spare_21 : decode cX9_spare 21 = .ok (.iload_n 3, 1) := by decide +kernel
theorem dX9_spare_22 : decode cX9_spare 22 = .ok (.aload_n 0, 1) := by decide +kernel
theorem dX9_spare_23 : decode cX9_spare 23 = .ok (.iconst 1, 1) := by decide +kernel
theorem dX9_spare_24 : decode cX9_spare 24 = .ok (.invokevirtual 62, 3) := by decide +kernel
theorem dX9_spare_27 : decode cX9_spare 27 = .ok (.if_icmp .ge 41, 3) := by decide +kernel
theorem dX9_spare_30 : decode cX9_spare 30 = .ok (.iload_n 2, 1) := by decide +kernel
theorem dX9_spare_31 : decode cX9_spare 31 = .ok (.aload_n 0, 1) := by decide +kernel
theorem dX9_spare_32 : decode cX9_spare 32 = .ok (.aload_n 0, 1) := by decide +kernel
theorem dX9_spare_33 : decode cX9_spare 33 = .ok (.invokevirtual 175, 3) := by decide +kernel
theorem dX9_spare_36 : decode cX9_spare 36 = .ok (.aload_n 0, 1) := by decide +kernel
theorem dX9_spare_37 : decode cX9_spare 37 = .ok (.invokevirtual 178, 3) := by decide +kernel
theorem dX9_spare_40 : decode cX9_spare 40 = .ok (.iconst 1, 1) := by decide +kernel
theorem dX9_spare_41 : decode cX9_spare 41 = .ok (.iload_n 3, 1) := by decide +kernel
theorem dX9_spare_42 : decode cX9_spare 42 = .ok (.ishl, 1) := by decide +kernel
theorem dX9_spare_43 : decode cX9_spare 43 = .ok (.iconst (-1), 1) := by decide +kernel
theorem dX9_spare_44 : decode cX9_spare 44 = .ok (.ixor, 1) := by decide +kernel
theorem dX9_spare_45 : decode cX9_spare 45 = .ok (.iand, 1) := by decide +kernel
theorem dX9_spare_46 : decode cX9_spare 46 = .ok (.invokevirtual 169, 3) := by decide +kernel
theorem dX9_spare_49 : decode cX9_spare 49 = .ok (.iload_n 1, 1) := by decide +kernel
theorem dX9_spare_50 : decode cX9_spare 50 = .ok (.if_icmp .ne 9, 3) := by decide +kernel
theorem dX9_spare_53 : decode cX9_spare 53 = .ok (.iconst 1, 1) := by decide +kernel
theorem dX9_spare_54 : decode cX9_spare 54 = .ok (.iload_n 3, 1) := by decide +kernel
theorem dX9_spare_55 : decode cX9_spare 55 = .ok (.ishl, 1) := by decide +kernel
theorem dX9_spare_56 : decode cX9_spare 56 = .ok (.goto 4, 3) := by decide +kernel
theorem dX9_spare_59 : decode cX9_spare 59 = .ok (.iconst 0, 1) := by decide +kernel
theorem dX9_spare_60 : decode cX9_spare 60 = .ok (.ior, 1) := by decide +kernel
theorem dX9_spare_61 : decode cX9_spare 61 = .ok (.istore_n 2, 1) := by decide +kernel
theorem dX9_spare_62 : decode cX9_spare 62 = .ok (.iinc 3 1, 3) := by decide +kernel
theorem dX9_spare_65 : decode cX9_spare 65 = .ok (.goto (-44), 3) := by decide +kernel
theorem dX9_spare_68 : decode cX9_spare 68 = .ok (.iload_n 2, 1) := by decide +kernel
theorem dX9_spare_69 : decode cX9_spare 69 = .ok (.ireturn, 1) := by decide +kernel
theorem dX9_piles_0 : decode cX9_piles 0 = .ok (.iload_n 1, 1) := by decide +kernel
theorem dX9_piles_1 : decode cX9_piles 1 = .ok (.iconst (-1), 1) := by decide +kernel
theorem dX9_piles_2 : decode cX9_piles 2 = .ok (.if_icmp .eq 16, 3) := by decide +kernel
theorem dX9_piles_5 : decode cX9_piles 5 = .ok (.aload_n 0, 1) := by decide +kernel
theorem dX9_piles_6 : decode cX9_piles 6 = .ok (.iload_n 1, 1) := by decide +kernel
theorem dX9_piles_7 : decode cX9_piles 7 = .ok (.invokevirtual 95, 3) := by decide +kernel
theorem dX9_piles_10 : decode cX9_piles 10 = .ok (.ifCond .ne 8, 3) := by decide +kernel
theorem dX9_piles_13 : decode cX9_piles 13 = .ok (.aload_n 0, 1) := by decide +kernel
theorem dX9_piles_14 : decode cX9_piles 14 = .ok (.invokevirtual 118, 3) := by decide +kernel
theorem dX9_piles_17 : decode cX9_piles 17 = .ok (.ireturn, 1) := by decide +kernel
theorem dX9_piles_18 : decode cX9_piles 18 = .ok (.iconst 0, 1) := by decide +kernel
theorem dX9_piles_19 : decode cX9_piles 19 = .ok (.istore_n 2, 1) := by decide +kernel
theorem dX9_piles_20 : decode cX9_piles 20 = .ok (.iload_n 2, 1) := by decide +kernel
theorem dX9_piles_21 : decode cX9_piles 21 = .ok (.bipush 7, 2) := by decide +kernel
theorem dX9_piles_23 : decode cX9_piles 23 = .ok (.if_icmp .ge 119, 3) := by decide +kernel
theorem dX9_piles_26 : decode cX9_piles 26 = .ok (.aload_n 0, 1) := by decide +kernel
theorem dX9_piles_27 : decode cX9_piles 27 = .ok (.getfield 27, 3) := by decide +kernel
theorem dX9_piles_30 : decode cX9_piles 30 = .ok (.iload_n 2, 1) := by decide +kernel
theorem dX9_piles_31 : decode cX9_piles 31 = .ok (.iconst 0, 1) := by decide +kernel
theorem dX9_piles_32 : decode cX9_piles 32 = .ok (.iastore, 1) := by decide +kernel
theorem dX9_piles_33 : decode cX9_piles 33 = .ok (.iconst 0, 1) := by decide +kernel
theorem dX9_piles_34 : decode cX9_piles 34 = .ok (.istore_n 3, 1) := by decide +kernel
theorem dX9_piles_35 : decode cX9_piles 35 = .ok (.iload_n 3, 1) := by decide +kernel
theorem dX9_piles_36 : decode cX9_piles 36 = .ok (.aload_n 0, 1) := by decide +kernel
theorem dX9_piles_37 : decode cX9_piles 37 = .ok (.iconst 0, 1) := by decide +kernel
theorem dX9_piles_38 : decode cX9_piles 38 = .ok (.invokevirtual 62, 3) := by decide +kernel
theorem dX9_piles_41 : decode cX9_piles 41 = .ok (.if_icmp .ge 95, 3) := by decide +kernel
theorem dX9_piles_44 : decode cX9_piles 44 = .ok (.iload_n 2, 1) := by decide +kernel
theorem dX9_piles_45 : decode cX9_piles 45 = .ok (.aload_n 0, 1) := by decide +kernel
theorem dX9_piles_46 : decode cX9_piles 46 = .ok (.iconst 0, 1) := by decide +kernel
theorem dX9_piles_47 : decode cX9_piles 47 = .ok (.invokevirtual 62, 3) := by decide +kernel
theorem dX9_piles_50 : decode cX9_piles 50 = .ok (.if_icmp .ge 86, 3) := by decide +kernel
theorem dX9_piles_53 : decode cX9_piles 53 = .ok (.aload_n 0, 1) := by decide +kernel
theorem dX9_piles_54 : decode cX9_piles 54 = .ok (.iload_n 2, 1) := by decide +kernel
theorem dX9_piles_55 : decode cX9_piles 55 = .ok (.iconst 0, 1) := by decide +kernel
theorem dX9_piles_56 : decode cX9_piles 56 = .ok (.invokevirtual 77, 3) := by decide +kernel
theorem dX9_piles_59 : decode cX9_piles 59 = .ok (.aload_n 0, 1) := by decide +kernel
theorem dX9_piles_60 : decode cX9_piles 60 = .ok (.iload_n 3, 1) := by decide +kernel
theorem dX9_piles_61 : decode cX9_piles 61 = .ok (.iconst 0, 1) := by decide +kernel
theorem dX9_piles_62 : decode cX9_piles 62 = .ok (.invokevirtual 77, 3) := by decide +kernel
theorem dX9_piles_65 : decode cX9_piles 65 = .ok (.if_icmp .eq 22, 3) := by decide +kernel
theorem dX9_piles_68 : decode cX9_piles 68 = .ok (.aload_n 0, 1) := by decide +kernel
theorem dX9_piles_69 : decode cX9_piles 69 = .ok (.iload_n 2, 1) := by decide +kernel
theorem dX9_piles_70 : decode cX9_piles 70 = .ok (.iconst 0, 1) := by decide +kernel
theorem dX9_piles_71 : decode cX9_piles 71 = .ok (.invokevirtual 77, 3) := by decide +kernel
theorem dX9_piles_74 : decode cX9_piles 74 = .ok (.ifCond .ne 17, 3) := by decide +kernel
theorem dX9_piles_77 : decode cX9_piles 77 = .ok (.aload_n 0, 1) := by decide +kernel
theorem dX9_piles_78 : decode cX9_piles 78 = .ok (.iload_n 3, 1) := by decide +kernel
theorem dX9_piles_79 : decode cX9_piles 79 = .ok (.iconst 0, 1) := by decide +kernel
theorem dX9_piles_80 : decode cX9_piles 80 = .ok (.invokevirtual 77, 3) := by decide +kernel
theorem dX9_piles_83 : decode cX9_piles 83 = .ok (.iconst 2, 1) := by decide +kernel
theorem dX9_piles_84 : decode cX9_piles 84 = .ok (.if_icmp .ne 7, 3) := by decide +kernel
theorem dX9_piles_87 : decode cX9_piles 87 = .ok (.iconst 1, 1) := by decide +kernel
theorem dX9_piles_88 : decode cX9_piles 88 = .ok (.goto 4, 3) := by decide +kernel
theorem dX9_piles_91 : decode cX9_piles 91 = .ok (.iconst 0, 1) := by decide +kernel
theorem dX9_piles_92 : decode cX9_piles 92 = .ok (.istore 4, 2) := by decide +kernel
theorem dX9_piles_94 : decode cX9_piles 94 = .ok (.aload_n 0, 1) := by decide +kernel
theorem dX9_piles_95 : decode cX9_piles 95 = .ok (.getfield 27, 3) := by decide +kernel
theorem dX9_piles_98 : decode cX9_piles 98 = .ok (.iload_n 2, 1) := by decide +kernel
theorem dX9_piles_99 : decode cX9_piles 99 = .ok (.dup2, 1) := by decide +kernel
theorem dX9_piles_100 : decode cX9_piles 100 = .ok (.iaload, 1) := by decide +kernel
theorem dX9_piles_101 : decode cX9_piles 101 = .ok (.iload 4, 2) := by decide +kernel
theorem dX9_piles_103 : decode cX9_piles 103 = .ok (.ifCond .eq 24, 3) := by decide +kernel
theorem dX9_piles_106 : decode cX9_piles 106 = .ok (.aload_n 0, 1) := by decide +kernel
theorem dX9_piles_107 : decode cX9_piles 107 = .ok (.iload_n 2, 1) := by decide +kernel
theorem dX9_piles_108 : decode cX9_piles 108 = .ok (.iconst 1, 1) := by decide +kernel
theorem dX9_piles_109 : decode cX9_piles 109 = .ok (.invokevirtual 77, 3) := by decide +kernel
theorem dX9_piles_112 : decode cX9_piles 112 = .ok (.aload_n 0, 1) := by decide +kernel
theorem dX9_piles_113 : decode cX9_piles 113 = .ok (.iload_n 3, 1) := by decide +kernel
theorem dX9_piles_114 : decode cX9_piles 114 = .ok (.iconst 1, 1) := by decide +kernel
theorem dX9_piles_115 : decode cX9_piles 115 = .ok (.invokevirtual 77, 3) := by decide +kernel
theorem dX9_piles_118 : decode cX9_piles 118 = .ok (.if_icmp .ge 9, 3) := by decide +kernel
theorem dX9_piles_121 : decode cX9_piles 121 = .ok (.iconst 1, 1) := by decide +kernel
theorem dX9_piles_122 : decode cX9_piles 122 = .ok (.iload_n 3, 1) := by decide +kernel
theorem dX9_piles_123 : decode cX9_piles 123 = .ok (.ishl, 1) := by decide +kernel
theorem dX9_piles_124 : decode cX9_piles 124 = .ok (.goto 4, 3) := by decide +kernel
theorem dX9_piles_127 : decode cX9_piles 127 = .ok (.iconst 0, 1) := by decide +kernel
theorem dX9_piles_128 : decode cX9_piles 128 = .ok (.ior, 1) := by decide +kernel
theorem dX9_piles_129 : decode cX9_piles 129 = .ok (.iastore, 1) := by decide +kernel
theorem dX9_piles_130 : decode cX9_piles 130 = .ok (.iinc 3 1, 3) := by decide +kernel
theorem dX9_piles_133 : decode cX9_piles 133 = .ok (.goto (-98), 3) := by decide +kernel
theorem dX9_piles_136 : decode cX9_piles 136 = .ok (.iinc 2 1, 3) := by decide +kernel
theorem dX9_piles_139 : decode cX9_piles 139 = .ok (.goto (-119), 3) := by decide +kernel
theorem dX9_piles_142 : decode cX9_piles 142 = .ok (.aload_n 0, 1) := by decide +kernel
theorem dX9_piles_143 : decode cX9_piles 143 = .ok (.aload_n 0, 1) := by decide +kernel
theorem dX9_piles_144 : decode cX9_piles 144 = .ok (.invokevirtual 175, 3) := by decide +kernel
theorem dX9_piles_147 : decode cX9_piles 147 = .ok (.aload_n 0, 1) := by decide +kernel
theorem dX9_piles_148 : decode cX9_piles 148 = .ok (.invokevirtual 175, 3) := by decide +kernel
theorem dX9_piles_151 : decode cX9_piles 151 = .ok (.invokevirtual 181, 3) := by decide +kernel
theorem dX9_piles_154 : decode cX9_piles 154 = .ok (.istore_n 2, 1) := by decide +kernel
theorem dX9_piles_155 : decode cX9_piles 155 = .ok (.iload_n 1, 1) := by decide +kernel
theorem dX9_piles_156 : decode cX9_piles 156 = .ok (.iconst (-1), 1) := by decide +kernel
theorem dX9_piles_157 : decode cX9_piles 157 = .ok (.if_icmp .ne 13, 3) := by decide +kernel
theorem dX9_piles_160 : decode cX9_piles 160 = .ok (.aload_n 0, 1) := by decide +kernel
theorem dX9_piles_161 : decode cX9_piles 161 = .ok (.iconst 0, 1) := by decide +kernel
theorem dX9_piles_162 : decode cX9_piles 162 = .ok (.invokevirtual 62, 3) := by decide +kernel
theorem dX9_piles_165 : decode cX9_piles 165 = .ok (.iload_n 2, 1) := by decide +kernel
theorem dX9_piles_166 : decode cX9_piles 166 = .ok (.isub, 1) := by decide +kernel
theorem dX9_piles_167 : decode cX9_piles 167 = .ok (.goto 9, 3) := by decide +kernel
theorem dX9_piles_170 : decode cX9_piles 170 = .ok (.aload_n 0, 1) := by decide +kernel
theorem dX9_piles_171 : decode cX9_piles 171 = .ok (.getfield 33, 3) := by decide +kernel
theorem dX9_piles_174 : decode cX9_piles 174 = .ok (.iload_n 1, 1) := by decide +kernel
theorem dX9_piles_175 : decode cX9_piles 175 = .ok (.iaload, 1) := by decide +kernel
theorem dX9_piles_176 : decode cX9_piles 176 = .ok (.ireturn, 1) := by decide +kernel
theorem dX9_shelf_0 : decode cX9_shelf 0 = .ok (.iload_n 1, 1) := by decide +kernel
theorem dX9_shelf_1 : decode cX9_shelf 1 = .ok (.iconst (-1), 1) := by decide +kernel
theorem dX9_shelf_2 : decode cX9_shelf 2 = .ok (.if_icmp .ge 8, 3) := by decide +kernel
theorem dX9_shelf_5 : decode cX9_shelf 5 = .ok (.aload_n 0, 1) := by decide +kernel
theorem dX9_shelf_6 : decode cX9_shelf 6 = .ok (.invokevirtual 118, 3) := by decide +kernel
theorem dX9_shelf_9 : decode cX9_shelf 9 = .ok (.ireturn, 1) := by decide +kernel
theorem dX9_shelf_10 : decode cX9_shelf 10 = .ok (.aload_n 0, 1) := by decide +kernel
theorem dX9_shelf_11 : decode cX9_shelf 11 = .ok (.iconst 0, 1) := by decide +kernel
theorem dX9_shelf_12 : decode cX9_shelf 12 = .ok (.invokevirtual 62, 3) := by decide +kernel
theorem dX9_shelf_15 : decode cX9_shelf 15 = .ok (.istore_n 2, 1) := by decide +kernel
theorem dX9_shelf_16 : decode cX9_shelf 16 = .ok (.iload_n 1, 1) := by decide +kernel
theorem dX9_shelf_17 : decode cX9_shelf 17 = .ok (.iload_n 2, 1) := by decide +kernel
theorem dX9_shelf_18 : decode cX9_shelf 18 = .ok (.if_icmp .lt 6, 3) := by decide +kernel
theorem dX9_shelf_21 : decode cX9_shelf 21 = .ok (.bipush (-5), 2) := by decide +kernel
theorem dX9_shelf_23 : decode cX9_shelf 23 = .ok (.ireturn, 1) := by decide +kernel
theorem dX9_shelf_24 : decode cX9_shelf 24 = .ok (.iconst 0, 1) := by decide +kernel
theorem dX9_shelf_25 : decode cX9_shelf 25 = .ok (.istore_n 3, 1) := by decide +kernel
theorem dX9_shelf_26 : decode cX9_shelf 26 = .ok (.iconst 0, 1) := by decide +kernel
theorem dX9_shelf_27 : decode cX9_shelf 27 = .ok (.istore 4, 2) := by decide +kernel
theorem dX9_shelf_29 : decode cX9_shelf 29 = .ok (.iconst (-1), 1) := by decide +kernel
theorem dX9_shelf_30 : decode cX9_shelf 30 = .ok (.istore 5, 2) := by decide +kernel
theorem dX9_shelf_32 : decode cX9_shelf 32 = .ok (.iconst 0, 1) := by decide +kernel
theorem dX9_shelf_33 : decode cX9_shelf 33 = .ok (.istore 6, 2) := by decide +kernel
theorem dX9_shelf_35 : decode cX9_shelf 35 = .ok (.iload 6, 2) := by decide +kernel
theorem dX9_shelf_37 : decode cX9_shelf 37 = .ok (.iload_n 2, 1) := by decide +kernel
theorem dX9_shelf_38 : decode cX9_shelf 38 = .ok (.if_icmp .ge 103, 3) := by decide +kernel
theorem dX9_shelf_41 : decode cX9_shelf 41 = .ok (.iconst (-1), 1) := by decide +kernel
theorem dX9_shelf_42 : decode cX9_shelf 42 = .ok (.istore 7, 2) := by decide +kernel
theorem dX9_shelf_44 : decode cX9_shelf 44 = .ok (.iconst 0, 1) := by decide +kernel
theorem dX9_shelf_45 : decode cX9_shelf 45 = .ok (.istore 8, 2) := by decide +kernel
theorem dX9_shelf_47 : decode cX9_shelf 47 = .ok (.iload 8, 2) := by decide +kernel
theorem dX9_shelf_49 : decode cX9_shelf 49 = .ok (.iload_n 2, 1) := by decide +kernel
theorem dX9_shelf_50 : decode cX9_shelf 50 = .ok (.if_icmp .ge 46, 3) := by decide +kernel
theorem dX9_shelf_53 : decode cX9_shelf 53 = .ok (.iload 4, 2) := by decide +kernel
theorem dX9_shelf_55 : decode cX9_shelf 55 = .ok (.iload 8, 2) := by decide +kernel
theorem dX9_shelf_57 : decode cX9_shelf 57 = .ok (.ishr, 1) := by decide +kernel
theorem dX9_shelf_58 : decode cX9_shelf 58 = .ok (.iconst 1, 1) := by decide +kernel
theorem dX9_shelf_59 : decode cX9_shelf 59 = .ok (.iand, 1) := by decide +kernel
theorem dX9_shelf_60 : decode cX9_shelf 60 = .ok (.ifCond .ne 30, 3) := by decide +kernel
theorem dX9_shelf_63 : decode cX9_shelf 63 = .ok (.iload 7, 2) := by decide +kernel
theorem dX9_shelf_65 : decode cX9_shelf 65 = .ok (.iconst (-1), 1) := by decide +kernel
theorem dX9_shelf_66 : decode cX9_shelf 66 = .ok (.if_icmp .eq 20, 3) := by decide +kernel
theorem dX9_shelf_69 : decode cX9_shelf 69 = .ok (.aload_n 0, 1) := by decide +kernel
theorem dX9_shelf_70 : decode cX9_shelf 70 = .ok (.iload 8, 2) := by decide +kernel
theorem dX9_shelf_72 : decode cX9_shelf 72 = .ok (.iconst 3, 1) := by decide +kernel
theorem dX9_shelf_73 : decode cX9_shelf 73 = .ok (.invokevirtual 77, 3) := by decide +kernel
theorem dX9_shelf_76 : decode cX9_shelf 76 = .ok (.aload_n 0, 1) := by decide +kernel
theorem dX9_shelf_77 : decode cX9_shelf 77 = .ok (.iload 7, 2) := by decide +kernel
theorem dX9_shelf_79 : decode cX9_shelf 79 = .ok (.iconst 3, 1) := by decide +kernel
theorem dX9_shelf_80 : decode cX9_shelf 80 = .ok (.invokevirtual 77, 3) := by decide +kernel
theorem dX9_shelf_83 : decode cX9_shelf 83 = .ok (.if_icmp .le 7, 3) := by decide +kernel
theorem dX9_shelf_86 : decode cX9_shelf 86 = .ok (.iload 8, 2) := by decide +kernel
theorem dX9_shelf_88 : decode cX9_shelf 88 = .ok (.istore 7, 2) := by decide +kernel
theorem dX9_shelf_90 : decode cX9_shelf 90 = .ok (.iinc 8 1, 3) := by decide +kernel
theorem dX9_shelf_93 : decode cX9_shelf 93 = .ok (.goto (-46), 3) := by decide +kernel
theorem dX9_shelf_96 : decode cX9_shelf 96 = .ok (.iload 4, 2) := by decide +kernel
theorem dX9_shelf_98 : decode cX9_shelf 98 = .ok (.iconst 1, 1) := by decide +kernel
theorem dX9_shelf_99 : decode cX9_shelf 99 = .ok (.iload 7, 2) := by decide +kernel
theorem dX9_shelf_101 : decode cX9_shelf 101 = .ok (.ishl, 1) := by decide +kernel
theorem dX9_shelf_102 : decode cX9_shelf 102 = .ok (.ior, 1) := by decide +kernel
theorem dX9_shelf_103 : decode cX9_shelf 103 = .ok (.istore 4, 2) := by decide +kernel
theorem dX9_shelf_105 : decode cX9_shelf 105 = .ok (.iload 6, 2) := by decide +kernel
theorem dX9_shelf_107 : decode cX9_shelf 107 = .ok (.iload_n 1, 1) := by decide +kernel
theorem dX9_shelf_108 : decode cX9_shelf 108 = .ok (.if_icmp .ne 8, 3) := by decide +kernel
theorem dX9_shelf_111 : decode cX9_shelf 111 = .ok (.iload 7, 2) := by decide +kernel
theorem dX9_shelf_113 : decode cX9_shelf 113 = .ok (.goto 5, 3) := by decide +kernel
theorem dX9_shelf_116 : decode cX9_shelf 116 = .ok (.iload 5, 2) := by decide +kernel
theorem dX9_shelf_118 : decode cX9_shelf 118 = .ok (.istore 5, 2) := by decide +kernel
theorem dX9_shelf_120 : decode cX9_shelf 120 = .ok (.iload_n 3, 1) := by decide +kernel
theorem dX9_shelf_121 : decode cX9_shelf 121 = .ok (.iload 6, 2) := by decide +kernel
theorem dX9_shelf_123 : decode cX9_shelf 123 = .ok (.iconst 1, 1) := by decide +kernel
theorem dX9_shelf_124 : decode cX9_shelf 124 = .ok (.iadd, 1) := by decide +kernel
theorem dX9_shelf_125 : decode cX9_shelf 125 = .ok (.aload_n 0, 1) := by decide +kernel
theorem dX9_shelf_126 : decode cX9_shelf 126 = .ok (.iload 7, 2) := by decide +kernel
theorem dX9_shelf_128 : decode cX9_shelf 128 = .ok (.iconst 3, 1) := by decide +kernel
theorem dX9_shelf_129 : decode cX9_shelf 129 = .ok (.invokevirtual 77, 3) := by decide +kernel
theorem dX9_shelf_132 : decode cX9_shelf 132 = .ok (.imul, 1) := by decide +kernel
theorem dX9_shelf_133 : decode cX9_shelf 133 = .ok (.iadd, 1) := by decide +kernel
theorem dX9_shelf_134 : decode cX9_shelf 134 = .ok (.istore_n 3, 1) := by decide +kernel
theorem dX9_shelf_135 : decode cX9_shelf 135 = .ok (.iinc 6 1, 3) := by decide +kernel
theorem dX9_shelf_138 : decode cX9_shelf 138 = .ok (.goto (-103), 3) := by decide +kernel
theorem dX9_shelf_141 : decode cX9_shelf 141 = .ok (.iload_n 1, 1) := by decide +kernel
theorem dX9_shelf_142 : decode cX9_shelf 142 = .ok (.iconst (-1), 1) := by decide +kernel
theorem dX9_shelf_143 : decode cX9_shelf 143 = .ok (.if_icmp .ne 7, 3) := by decide +kernel
theorem dX9_shelf_146 : decode cX9_shelf 146 = .ok (.iload_n 3, 1) := by decide +kernel
theorem dX9_shelf_147 : decode cX9_shelf 147 = .ok (.goto 5, 3) := by decide +kernel
theorem dX9_shelf_150 : decode cX9_shelf 150 = .ok (.iload 5, 2) := by decide +kernel
theorem dX9_shelf_152 : decode cX9_shelf 152 = .ok (.ireturn, 1) := by decide +kernel
theorem dX9_buyOne_0 : decode cX9_buyOne 0 = .ok (.bipush 127, 2) := by decide +kernel
theorem dX9_buyOne_2 : decode cX9_buyOne 2 = .ok (.istore_n 2, 1) := by decide +kernel
theorem dX9_buyOne_3 : decode cX9_buyOne 3 = .ok (.iload_n 2, 1) := by decide +kernel
theorem dX9_buyOne_4 : decode cX9_buyOne 4 = .ok (.ifCond .lt 125, 3) := by decide +kernel
theorem dX9_buyOne_7 : decode cX9_buyOne 7 = .ok (.iconst 0, 1) := by decide +kernel
theorem dX9_buyOne_8 : decode cX9_buyOne 8 = .ok (.istore_n 3, 1) := by decide +kernel
theorem dX9_buyOne_9 : decode cX9_buyOne 9 = .ok (.iload_n 3, 1) := by decide +kernel
theorem dX9_buyOne_10 : decode cX9_buyOne 10 = .ok (.aload_n 0, 1) := by decide +kernel
theorem dX9_buyOne_11 : decode cX9_buyOne 11 = .ok (.iconst 0, 1) := by decide +kernel
theorem dX9_buyOne_12 : decode cX9_buyOne 12 = .ok (.invokevirtual 62, 3) := by decide +kernel
theorem dX9_buyOne_15 : decode cX9_buyOne 15 = .ok (.if_icmp .ge 108, 3) := by decide +kernel
theorem dX9_buyOne_18 : decode cX9_buyOne 18 = .ok (.aload_n 0, 1) := by decide +kernel
theorem dX9_buyOne_19 : decode cX9_buyOne 19 = .ok (.getfield 39, 3) := by decide +kernel
theorem dX9_buyOne_22 : decode cX9_buyOne 22 = .ok (.iload_n 2, 1) := by decide +kernel
theorem dX9_buyOne_23 : decode cX9_buyOne 23 = .ok (.baload, 1) := by decide +kernel
theorem dX9_buyOne_24 : decode cX9_buyOne 24 = .ok (.ifCond .eq 99, 3) := by decide +kernel
theorem dX9_buyOne_27 : decode cX9_buyOne 27 = .ok (.iload_n 2, 1) := by decide +kernel
theorem dX9_buyOne_28 : decode cX9_buyOne 28 = .ok (.iload_n 3, 1) := by decide +kernel
theorem dX9_buyOne_29 : decode cX9_buyOne 29 = .ok (.ishr, 1) := by decide +kernel
theorem dX9_buyOne_30 : decode cX9_buyOne 30 = .ok (.iconst 1, 1) := by decide +kernel
theorem dX9_buyOne_31 : decode cX9_buyOne 31 = .ok (.iand, 1) := by decide +kernel
theorem dX9_buyOne_32 : decode cX9_buyOne 32 = .ok (.ifCond .ne 49, 3) := by decide +kernel
theorem dX9_buyOne_35 : decode cX9_buyOne 35 = .ok (.aload_n 0, 1) := by decide +kernel
theorem dX9_buyOne_36 : decode cX9_buyOne 36 = .ok (.aload_n 0, 1) := by decide +kernel
theorem dX9_buyOne_37 : decode cX9_buyOne 37 = .ok (.bipush 69, 2) := by decide +kernel
theorem dX9_buyOne_39 : decode cX9_buyOne 39 = .ok (.iconst 4, 1) := by decide +kernel
theorem dX9_buyOne_40 : decode cX9_buyOne 40 = .ok (.iload_n 1, 1) := by decide +kernel
theorem dX9_buyOne_41 : decode cX9_buyOne 41 = .ok (.imul, 1) := by decide +kernel
theorem dX9_buyOne_42 : decode cX9_buyOne 42 = .ok (.iadd, 1) := by decide +kernel
theorem dX9_buyOne_43 : decode cX9_buyOne 43 = .ok (.invokevirtual 62, 3) := by decide +kernel
theorem dX9_buyOne_46 : decode cX9_buyOne 46 = .ok (.aload_n 0, 1) := by decide +kernel
theorem dX9_buyOne_47 : decode cX9_buyOne 47 = .ok (.bipush 69, 2) := by decide +kernel
theorem dX9_buyOne_49 : decode cX9_buyOne 49 = .ok (.iconst 4, 1) := by decide +kernel
theorem dX9_buyOne_50 : decode cX9_buyOne 50 = .ok (.iload_n 1, 1) := by decide +kernel
theorem dX9_buyOne_51 : decode cX9_buyOne 51 = .ok (.imul, 1) := by decide +kernel
theorem dX9_buyOne_52 : decode cX9_buyOne 52 = .ok (.iadd, 1) := by decide +kernel
theorem dX9_buyOne_53 : decode cX9_buyOne 53 = .ok (.iconst 1, 1) := by decide +kernel
theorem dX9_buyOne_54 : decode cX9_buyOne 54 = .ok (.iadd, 1) := by decide +kernel
theorem dX9_buyOne_55 : decode cX9_buyOne 55 = .ok (.invokevirtual 62, 3) := by decide +kernel
theorem dX9_buyOne_58 : decode cX9_buyOne 58 = .ok (.aload_n 0, 1) := by decide +kernel
theorem dX9_buyOne_59 : decode cX9_buyOne 59 = .ok (.bipush 69, 2) := by decide +kernel
theorem dX9_buyOne_61 : decode cX9_buyOne 61 = .ok (.iconst 4, 1) := by decide +kernel
theorem dX9_buyOne_62 : decode cX9_buyOne 62 = .ok (.iload_n 1, 1) := by decide +kernel
theorem dX9_buyOne_63 : decode cX9_buyOne 63 = .ok (.imul, 1) := by decide +kernel
theorem dX9_buyOne_64 : decode cX9_buyOne 64 = .ok (.iadd, 1) := by decide +kernel
theorem dX9_buyOne_65 : decode cX9_buyOne 65 = .ok (.iconst 2, 1) := by decide +kernel
theorem dX9_buyOne_66 : decode cX9_buyOne 66 = .ok (.iadd, 1) := by decide +kernel
theorem dX9_buyOne_67 : decode cX9_buyOne 67 = .ok (.invokevirtual 62, 3) := by decide +kernel
theorem dX9_buyOne_70 : decode cX9_buyOne 70 = .ok (.iload_n 3, 1) := by decide +kernel
theorem dX9_buyOne_71 : decode cX9_buyOne 71 = .ok (.invokevirtual 87, 3) := by decide +kernel
theorem dX9_buyOne_74 : decode cX9_buyOne 74 = .ok (.ifCond .eq 7, 3) := by decide +kernel
theorem dX9_buyOne_77 : decode cX9_buyOne 77 = .ok (.iconst 1, 1) := by decide +kernel
theorem dX9_buyOne_78 : decode cX9_buyOne 78 = .ok (.goto 4, 3) := by decide +kernel
theorem dX9_buyOne_81 : decode cX9_buyOne 81 = .ok (.iconst 0, 1) := by decide +kernel
theorem dX9_buyOne_82 : decode cX9_buyOne 82 = .ok (.istore 4, 2) := by decide +kernel
theorem dX9_buyOne_84 : decode cX9_buyOne 84 = .ok (.aload_n 0, 1) := by decide +kernel
theorem dX9_buyOne_85 : decode cX9_buyOne 85 = .ok (.getfield 39, 3) := by decide +kernel
theorem dX9_buyOne_88 : decode cX9_buyOne 88 = .ok (.iload_n 2, 1) := by decide +kernel
theorem dX9_buyOne_89 : decode cX9_buyOne 89 = .ok (.iconst 1, 1) := by decide +kernel
theorem dX9_buyOne_90 : decode cX9_buyOne 90 = .ok (.iload_n 3, 1) := by decide +kernel
theorem dX9_buyOne_91 : decode cX9_buyOne 91 = .ok (.ishl, 1) := by decide +kernel
theorem dX9_buyOne_92 : decode cX9_buyOne 92 = .ok (.ior, 1) := by decide +kernel
theorem dX9_buyOne_93 : decode cX9_buyOne 93 = .ok (.aload_n 0, 1) := by decide +kernel
theorem dX9_buyOne_94 : decode cX9_buyOne 94 = .ok (.getfield 39, 3) := by decide +kernel
theorem dX9_buyOne_97 : decode cX9_buyOne 97 = .ok (.iload_n 2, 1) := by decide +kernel
theorem dX9_buyOne_98 : decode cX9_buyOne 98 = .ok (.iconst 1, 1) := by decide +kernel
theorem dX9_buyOne_99 : decode cX9_buyOne 99 = .ok (.iload_n 3, 1) := by decide +kernel
theorem dX9_buyOne_100 : decode cX9_buyOne 100 = .ok (.ishl, 1) := by decide +kernel
theorem dX9_buyOne_101 : decode cX9_buyOne 101 = .ok (.ior, 1) := by decide +kernel
theorem dX9_buyOne_102 : decode cX9_buyOne 102 = .ok (.baload, 1) := by decide +kernel
theorem dX9_buyOne_103 : decode cX9_buyOne 103 = .ok (.ifCond .ne 8, 3) := by decide +kernel
theorem dX9_buyOne_106 : decode cX9_buyOne 106 = .ok (.iload 4, 2) := by decide +kernel
theorem dX9_buyOne_108 : decode cX9_buyOne 108 = .ok (.ifCond .eq 7, 3) := by decide +kernel
theorem dX9_buyOne_111 : decode cX9_buyOne 111 = .ok (.iconst 1, 1) := by decide +kernel
theorem dX9_buyOne_112 : decode cX9_buyOne 112 = .ok (.goto 4, 3) := by decide +kernel
theorem dX9_buyOne_115 : decode cX9_buyOne 115 = .ok (.iconst 0, 1) := by decide +kernel
theorem dX9_buyOne_116 : decode cX9_buyOne 116 = .ok (.bastore, 1) := by decide +kernel
theorem dX9_buyOne_117 : decode cX9_buyOne 117 = .ok (.iinc 3 1, 3) := by decide +kernel
theorem dX9_buyOne_120 : decode cX9_buyOne 120 = .ok (.goto (-111), 3) := by decide +kernel
theorem dX9_buyOne_123 : decode cX9_buyOne 123 = .ok (.iinc 2 (-1), 3) := by decide +kernel
theorem dX9_buyOne_126 : decode cX9_buyOne 126 = .ok (.goto (-123), 3) := by decide +kernel
theorem dX9_buyOne_129 : decode cX9_buyOne 129 = .ok (.return_, 1) := by decide +kernel
theorem dX9_isEnough_0 : decode cX9_isEnough 0 = .ok (.iconst 0, 1) := by decide +kernel
theorem dX9_isEnough_1 : decode cX9_isEnough 1 = .ok (.istore_n 2, 1) := by decide +kernel
theorem dX9_isEnough_2 : decode cX9_isEnough 2 = .ok (.iload_n 2, 1) := by decide +kernel
theorem dX9_isEnough_3 : decode cX9_isEnough 3 = .ok (.sipush 128, 3) := by decide +kernel
theorem dX9_isEnough_6 : decode cX9_isEnough 6 = .ok (.if_icmp .ge 21, 3) := by decide +kernel
theorem dX9_isEnough_9 : decode cX9_isEnough 9 = .ok (.aload_n 0, 1) := by decide +kernel
theorem dX9_isEnough_10 : decode cX9_isEnough 10 = .ok (.getfield 39, 3) := by decide +kernel
theorem dX9_isEnough_13 : decode cX9_isEnough 13 = .ok (.iload_n 2, 1) := by decide +kernel
theorem dX9_isEnough_14 : decode cX9_isEnough 14 = .ok (.aload_n 0, 1) := by decide +kernel
theorem dX9_isEnough_15 : decode cX9_isEnough 15 = .ok (.getfield 36, 3) := by decide +kernel
theorem dX9_isEnough_18 : decode cX9_isEnough 18 = .ok (.iload_n 2, 1) := by decide +kernel
theorem dX9_isEnough_19 : decode cX9_isEnough 19 = .ok (.baload, 1) := by decide +kernel
theorem dX9_isEnough_20 : decode cX9_isEnough 20 = .ok (.bastore, 1) := by decide +kernel
theorem dX9_isEnough_21 : decode cX9_isEnough 21 = .ok (.iinc 2 1, 3) := by decide +kernel
theorem dX9_isEnough_24 : decode cX9_isEnough 24 = .ok (.goto (-22), 3) := by decide +kernel
theorem dX9_isEnough_27 : decode cX9_isEnough 27 = .ok (.iload_n 1, 1) := by decide +kernel
theorem dX9_isEnough_28 : decode cX9_isEnough 28 = .ok (.istore_n 2, 1) := by decide +kernel
theorem dX9_isEnough_29 : decode cX9_isEnough 29 = .ok (.iconst 3, 1) := by decide +kernel
theorem dX9_isEnough_30 : decode cX9_isEnough 30 = .ok (.istore_n 3, 1) := by decide +kernel
theorem dX9_isEnough_31 : decode cX9_isEnough 31 = .ok (.iload_n 3, 1) := by decide +kernel
theorem dX9_isEnough_32 : decode cX9_isEnough 32 = .ok (.ifCond .lt 36, 3) := by decide +kernel
theorem dX9_isEnough_35 : decode cX9_isEnough 35 = .ok (.iload_n 2, 1) := by decide +kernel
theorem dX9_isEnough_36 : decode cX9_isEnough 36 = .ok (.bipush 8, 2) := by decide +kernel
theorem dX9_isEnough_38 : decode cX9_isEnough 38 = .ok (.irem, 1) := by decide +kernel
theorem dX9_isEnough_39 : decode cX9_isEnough 39 = .ok (.istore 4, 2) := by decide +kernel
theorem dX9_isEnough_41 : decode cX9_isEnough 41 = .ok (.iload 4, 2) := by decide +kernel
theorem dX9_isEnough_43 : decode cX9_isEnough 43 = .ok (.ifCond .le 14, 3) := by decide +kernel
theorem dX9_isEnough_46 : decode cX9_isEnough 46 = .ok (.aload_n 0, 1) := by decide +kernel
theorem dX9_isEnough_47 : decode cX9_isEnough 47 = .ok (.iload_n 3, 1) := by decide +kernel
theorem dX9_isEnough_48 : decode cX9_isEnough 48 = .ok (.invokevirtual 196, 3) := by decide +kernel
theorem dX9_isEnough_51 : decode cX9_isEnough 51 = .ok (.iinc 4 (-1), 3) := by decide +kernel
theorem dX9_isEnough_54 : decode cX9_isEnough 54 = .ok (.goto (-13), 3) := by decide +kernel
theorem dX9_isEnough_57 : decode cX9_isEnough 57 = .ok (.iload_n 2, 1) := by decide +kernel
theorem dX9_isEnough_58 : decode cX9_isEnough 58 = .ok (.bipush 8, 2) := by decide +kernel
theorem dX9_isEnough_60 : decode cX9_isEnough 60 = .ok (.idiv, 1) := by decide +kernel
theorem dX9_isEnough_61 : decode cX9_isEnough 61 = .ok (.istore_n 2, 1) := by decide +kernel
theorem dX9_isEnough_62 : decode cX9_isEnough 62 = .ok (.iinc 3 (-1), 3) := by decide +kernel
theorem dX9_isEnough_65 : decode cX9_isEnough 65 = .ok (.goto (-34), 3) := by decide +kernel
theorem dX9_isEnough_68 : decode cX9_isEnough 68 = .ok (.aload_n 0, 1) := by decide +kernel
theorem dX9_isEnough_69 : decode cX9_isEnough 69 = .ok (.getfield 39, 3) := by decide +kernel
theorem dX9_isEnough_72 : decode cX9_isEnough 72 = .ok (.aload_n 0, 1) := by decide +kernel
theorem dX9_isEnough_73 : decode cX9_isEnough 73 = .ok (.invokevirtual 175, 3) := by decide +kernel
theorem dX9_isEnough_76 : decode cX9_isEnough 76 = .ok (.baload, 1) := by decide +kernel
theorem dX9_isEnough_77 : decode cX9_isEnough 77 = .ok (.ireturn, 1) := by decide +kernel
theorem dX9_priceOf_0 : decode cX9_priceOf 0 = .ok (.iconst 0, 1) := by decide +kernel
theorem dX9_priceOf_1 : decode cX9_priceOf 1 = .ok (.istore_n 2, 1) := by decide +kernel
theorem dX9_priceOf_2 : decode cX9_priceOf 2 = .ok (.iload_n 1, 1) := by decide +kernel
theorem dX9_priceOf_3 : decode cX9_priceOf 3 = .ok (.istore_n 3, 1) := by decide +kernel
theorem dX9_priceOf_4 : decode cX9_priceOf 4 = .ok (.iconst 3, 1) := by decide +kernel
theorem dX9_priceOf_5 : decode cX9_priceOf 5 = .ok (.istore 4, 2) := by decide +kernel
theorem dX9_priceOf_7 : decode cX9_priceOf 7 = .ok (.iload 4, 2) := by decide +kernel
theorem dX9_priceOf_9 : decode cX9_priceOf 9 = .ok (.ifCond .lt 55, 3) := by decide +kernel
theorem dX9_priceOf_12 : decode cX9_priceOf 12 = .ok (.iload_n 2, 1) := by decide +kernel
theorem dX9_priceOf_13 : decode cX9_priceOf 13 = .ok (.iload 4, 2) := by decide +kernel
theorem dX9_priceOf_15 : decode cX9_priceOf 15 = .ok (.aload_n 0, 1) := by decide +kernel
theorem dX9_priceOf_16 : decode cX9_priceOf 16 = .ok (.iconst 2, 1) := by decide +kernel
theorem dX9_priceOf_17 : decode cX9_priceOf 17 = .ok (.invokevirtual 62, 3) := by decide +kernel
theorem dX9_priceOf_20 : decode cX9_priceOf 20 = .ok (.if_icmp .ge 24, 3) := by decide +kernel
theorem dX9_priceOf_23 : decode cX9_priceOf 23 = .ok (.iload_n 3, 1) := by decide +kernel
theorem dX9_priceOf_24 : decode cX9_priceOf 24 = .ok (.bipush 8, 2) := by decide +kernel
theorem dX9_priceOf_26 : decode cX9_priceOf 26 = .ok (.irem, 1) := by decide +kernel
theorem dX9_priceOf_27 : decode cX9_priceOf 27 = .ok (.aload_n 0, 1) := by decide +kernel
theorem dX9_priceOf_28 : decode cX9_priceOf 28 = .ok (.bipush 69, 2) := by decide +kernel
theorem dX9_priceOf_30 : decode cX9_priceOf 30 = .ok (.iconst 4, 1) := by decide +kernel
theorem dX9_priceOf_31 : decode cX9_priceOf 31 = .ok (.iload 4, 2) := by decide +kernel
theorem dX9_priceOf_33 : decode cX9_priceOf 33 = .ok (.imul, 1) := by decide +kernel
theorem dX9_priceOf_34 : decode cX9_priceOf 34 = .ok (.iadd, 1) := by decide +kernel
theorem dX9_priceOf_35 : decode cX9_priceOf 35 = .ok (.iconst 3, 1) := by decide +kernel
theorem dX9_priceOf_36 : decode cX9_priceOf 36 = .ok (.iadd, 1) := by decide +kernel
theorem dX9_priceOf_37 : decode cX9_priceOf 37 = .ok (.invokevirtual 62, 3) := by decide +kernel
theorem dX9_priceOf_40 : decode cX9_priceOf 40 = .ok (.imul, 1) := by decide +kernel
theorem dX9_priceOf_41 : decode cX9_priceOf 41 = .ok (.goto 10, 3) := by decide +kernel
theorem dX9_priceOf_44 : decode cX9_priceOf 44 = .ok (.iload_n 3, 1) := by decide +kernel
theorem dX9_priceOf_45 : decode cX9_priceOf 45 = .ok (.bipush 8, 2) := by decide +kernel
theorem dX9_priceOf_47 : decode cX9_priceOf 47 = .ok (.irem, 1) := by decide +kernel
theorem dX9_priceOf_48 : decode cX9_priceOf 48 = .ok (.ldc 200, 2) := by decide +kernel
theorem dX9_priceOf_50 : decode cX9_priceOf 50 = .ok (.imul, 1) := by decide +kernel
theorem dX9_priceOf_51 : decode cX9_priceOf 51 = .ok (.iadd, 1) := by decide +kernel
theorem dX9_priceOf_52 : decode cX9_priceOf 52 = .ok (.istore_n 2, 1) := by decide +kernel
theorem dX9_priceOf_53 : decode cX9_priceOf 53 = .ok (.iload_n 3, 1) := by decide +kernel
theorem dX9_priceOf_54 : decode cX9_priceOf 54 = .ok (.bipush 8, 2) := by decide +kernel
theorem dX9_priceOf_56 : decode cX9_priceOf 56 = .ok (.idiv, 1) := by decide +kernel
theorem dX9_priceOf_57 : decode cX9_priceOf 57 = .ok (.istore_n 3, 1) := by decide +kernel
theorem dX9_priceOf_58 : decode cX9_priceOf 58 = .ok (.iinc 4 (-1), 3) := by decide +kernel
theorem dX9_priceOf_61 : decode cX9_priceOf 61 = .ok (.goto (-54), 3) := by decide +kernel
theorem dX9_priceOf_64 : decode cX9_priceOf 64 = .ok (.iload_n 2, 1) := by decide +kernel
theorem dX9_priceOf_65 : decode cX9_priceOf 65 = .ok (.ireturn, 1) := by decide +kernel
theorem dX9_manyIn_0 : decode cX9_manyIn 0 = .ok (.iload_n 0, 1) := by decide +kernel
theorem dX9_manyIn_1 : decode cX9_manyIn 1 = .ok (.bipush 8, 2) := by decide +kernel
theorem dX9_manyIn_3 : decode cX9_manyIn 3 = .ok (.irem, 1) := by decide +kernel
theorem dX9_manyIn_4 : decode cX9_manyIn 4 = .ok (.iload_n 0, 1) := by decide +kernel
theorem dX9_manyIn_5 : decode cX9_manyIn 5 = .ok (.bipush 8, 2) := by decide +kernel
theorem dX9_manyIn_7 : decode cX9_manyIn 7 = .ok (.idiv, 1) := by decide +kernel
theorem dX9_manyIn_8 : decode cX9_manyIn 8 = .ok (.bipush 8, 2) := by decide +kernel
theorem dX9_manyIn_10 : decode cX9_manyIn 10 = .ok (.irem, 1) := by decide +kernel
theorem dX9_manyIn_11 : decode cX9_manyIn 11 = .ok (.iadd, 1) := by decide +kernel
theorem dX9_manyIn_12 : decode cX9_manyIn 12 = .ok (.iload_n 0, 1) := by decide +kernel
theorem dX9_manyIn_13 : decode cX9_manyIn 13 = .ok (.bipush 64, 2) := by decide +kernel
theorem dX9_manyIn_15 : decode cX9_manyIn 15 = .ok (.idiv, 1) := by decide +kernel
theorem dX9_manyIn_16 : decode cX9_manyIn 16 = .ok (.bipush 8, 2) := by decide +kernel
theorem dX9_manyIn_18 : decode cX9_manyIn 18 = .ok (.irem, 1) := by decide +kernel
theorem dX9_manyIn_19 : decode cX9_manyIn 19 = .ok (.iadd, 1) := by decide +kernel
theorem dX9_manyIn_20 : decode cX9_manyIn 20 = .ok (.iload_n 0, 1) := by decide +kernel
theorem dX9_manyIn_21 : decode cX9_manyIn 21 = .ok (.sipush 512, 3) := by decide +kernel
theorem dX9_manyIn_24 : decode cX9_manyIn 24 = .ok (.idiv, 1) := by decide +kernel
theorem dX9_manyIn_25 : decode cX9_manyIn 25 = .ok (.iadd, 1) := by decide +kernel
theorem dX9_manyIn_26 : decode cX9_manyIn 26 = .ok (.ireturn, 1) := by decide +kernel
theorem dX9_buy_0 : decode cX9_buy 0 = .ok (.iload_n 1, 1) := by decide +kernel
theorem dX9_buy_1 : decode cX9_buy 1 = .ok (.iconst (-1), 1) := by decide +kernel
theorem dX9_buy_2 : decode cX9_buy 2 = .ok (.if_icmp .eq 23, 3) := by decide +kernel
theorem dX9_buy_5 : decode cX9_buy 5 = .ok (.iload_n 1, 1) := by decide +kernel
theorem dX9_buy_6 : decode cX9_buy 6 = .ok (.iconst 0, 1) := by decide +kernel
theorem dX9_buy_7 : decode cX9_buy 7 = .ok (.aload_n 0, 1) := by decide +kernel
theorem dX9_buy_8 : decode cX9_buy 8 = .ok (.iconst 2, 1) := by decide +kernel
theorem dX9_buy_9 : decode cX9_buy 9 = .ok (.invokevirtual 62, 3) := by decide +kernel
theorem dX9_buy_12 : decode cX9_buy 12 = .ok (.iconst 1, 1) := by decide +kernel
theorem dX9_buy_13 : decode cX9_buy 13 = .ok (.isub, 1) := by decide +kernel
theorem dX9_buy_14 : decode cX9_buy 14 = .ok (.invokestatic 66, 3) := by decide +kernel
theorem dX9_buy_17 : decode cX9_buy 17 = .ok (.ifCond .ne 8, 3) := by decide +kernel
theorem dX9_buy_20 : decode cX9_buy 20 = .ok (.aload_n 0, 1) := by decide +kernel
theorem dX9_buy_21 : decode cX9_buy 21 = .ok (.invokevirtual 118, 3) := by decide +kernel
theorem dX9_buy_24 : decode cX9_buy 24 = .ok (.ireturn, 1) := by decide +kernel
theorem dX9_buy_25 : decode cX9_buy 25 = .ok (.aload_n 0, 1) := by decide +kernel
theorem dX9_buy_26 : decode cX9_buy 26 = .ok (.invokevirtual 172, 3) := by decide +kernel
theorem dX9_buy_29 : decode cX9_buy 29 = .ok (.iconst 0, 1) := by decide +kernel
theorem dX9_buy_30 : decode cX9_buy 30 = .ok (.istore_n 2, 1) := by decide +kernel
theorem dX9_buy_31 : decode cX9_buy 31 = .ok (.iload_n 2, 1) := by decide +kernel
theorem dX9_buy_32 : decode cX9_buy 32 = .ok (.sipush 128, 3) := by decide +kernel
theorem dX9_buy_35 : decode cX9_buy 35 = .ok (.if_icmp .ge 40, 3) := by decide +kernel
theorem dX9_buy_38 : decode cX9_buy 38 = .ok (.aload_n 0, 1) := by decide +kernel
theorem dX9_buy_39 : decode cX9_buy 39 = .ok (.getfield 36, 3) := by decide +kernel
theorem dX9_buy_42 : decode cX9_buy 42 = .ok (.iload_n 2, 1) := by decide +kernel
theorem dX9_buy_43 : decode cX9_buy 43 = .ok (.iload_n 2, 1) := by decide +kernel
theorem dX9_buy_44 : decode cX9_buy 44 = .ok (.aload_n 0, 1) := by decide +kernel
theorem dX9_buy_45 : decode cX9_buy 45 = .ok (.invokevirtual 175, 3) := by decide +kernel
theorem dX9_buy_48 : decode cX9_buy 48 = .ok (.if_icmp .gt 19, 3) := by decide +kernel
theorem dX9_buy_51 : decode cX9_buy 51 = .ok (.aload_n 0, 1) := by decide +kernel
theorem dX9_buy_52 : decode cX9_buy 52 = .ok (.iload_n 2, 1) := by decide +kernel
theorem dX9_buy_53 : decode cX9_buy 53 = .ok (.aload_n 0, 1) := by decide +kernel
theorem dX9_buy_54 : decode cX9_buy 54 = .ok (.invokevirtual 178, 3) := by decide +kernel
theorem dX9_buy_57 : decode cX9_buy 57 = .ok (.invokevirtual 190, 3) := by decide +kernel
theorem dX9_buy_60 : decode cX9_buy 60 = .ok (.ifCond .eq 7, 3) := by decide +kernel
theorem dX9_buy_63 : decode cX9_buy 63 = .ok (.iconst 1, 1) := by decide +kernel
theorem dX9_buy_64 : decode cX9_buy 64 = .ok (.goto 4, 3) := by decide +kernel
theorem dX9_buy_67 : decode cX9_buy 67 = .ok (.iconst 0, 1) := by decide +kernel
theorem dX9_buy_68 : decode cX9_buy 68 = .ok (.bastore, 1) := by decide +kernel
theorem dX9_buy_69 : decode cX9_buy 69 = .ok (.iinc 2 1, 3) := by decide +kernel
theorem dX9_buy_72 : decode cX9_buy 72 = .ok (.goto (-41), 3) := by decide +kernel
theorem dX9_buy_75 : decode cX9_buy 75 = .ok (.iconst (-1), 1) := by decide +kernel
theorem dX9_buy_76 : decode cX9_buy 76 = .ok (.istore_n 2, 1) := by decide +kernel
theorem dX9_buy_77 : decode cX9_buy 77 = .ok (.iconst 0, 1) := by decide +kernel
theorem dX9_buy_78 : decode cX9_buy 78 = .ok (.istore_n 3, 1) := by decide +kernel
theorem dX9_buy_79 : decode cX9_buy 79 = .ok (.iload_n 3, 1) := by decide +kernel
theorem dX9_buy_80 : decode cX9_buy 80 = .ok (.sipush 4096, 3) := by decide +kernel
theorem dX9_buy_83 : decode cX9_buy 83 = .ok (.if_icmp .ge 72, 3) := by decide +kernel
theorem dX9_buy_86 : decode cX9_buy 86 = .ok (.iload_n 3, 1) := by decide +kernel
theorem dX9_buy_87 : decode cX9_buy 87 = .ok (.invokestatic 201, 3) := by decide +kernel
theorem dX9_buy_90 : decode cX9_buy 90 = .ok (.bipush 7, 2) := by decide +kernel
theorem dX9_buy_92 : decode cX9_buy 92 = .ok (.if_icmp .gt 35, 3) := by decide +kernel
theorem dX9_buy_95 : decode cX9_buy 95 = .ok (.aload_n 0, 1) := by decide +kernel
theorem dX9_buy_96 : decode cX9_buy 96 = .ok (.iload_n 3, 1) := by decide +kernel
theorem dX9_buy_97 : decode cX9_buy 97 = .ok (.invokevirtual 204, 3) := by decide +kernel
theorem dX9_buy_100 : decode cX9_buy 100 = .ok (.ldc 200, 2) := by decide +kernel
theorem dX9_buy_102 : decode cX9_buy 102 = .ok (.if_icmp .ge 25, 3) := by decide +kernel
theorem dX9_buy_105 : decode cX9_buy 105 = .ok (.iload_n 2, 1) := by decide +kernel
theorem dX9_buy_106 : decode cX9_buy 106 = .ok (.iconst (-1), 1) := by decide +kernel
theorem dX9_buy_107 : decode cX9_buy 107 = .ok (.if_icmp .eq 16, 3) := by decide +kernel
theorem dX9_buy_110 : decode cX9_buy 110 = .ok (.aload_n 0, 1) := by decide +kernel
theorem dX9_buy_111 : decode cX9_buy 111 = .ok (.iload_n 3, 1) := by decide +kernel
theorem dX9_buy_112 : decode cX9_buy 112 = .ok (.invokevirtual 204, 3) := by decide +kernel
theorem dX9_buy_115 : decode cX9_buy 115 = .ok (.aload_n 0, 1) := by decide +kernel
theorem dX9_buy_116 : decode cX9_buy 116 = .ok (.iload_n 2, 1) := by decide +kernel
theorem dX9_buy_117 : decode cX9_buy 117 = .ok (.invokevirtual 204, 3) := by decide +kernel
theorem dX9_buy_120 : decode cX9_buy 120 = .ok (.if_icmp .ge 7, 3) := by decide +kernel
theorem dX9_buy_123 : decode cX9_buy 123 = .ok (.iconst 1, 1) := by decide +kernel
theorem dX9_buy_124 : decode cX9_buy 124 = .ok (.goto 4, 3) := by decide +kernel
theorem dX9_buy_127 : decode cX9_buy 127 = .ok (.iconst 0, 1) := by decide +kernel
theorem dX9_buy_128 : decode cX9_buy 128 = .ok (.istore 4, 2) := by decide +kernel
theorem dX9_buy_130 : decode cX9_buy 130 = .ok (.iload 4, 2) := by decide +kernel
theorem dX9_buy_132 : decode cX9_buy 132 = .ok (.ifCond .eq 15, 3) := by decide +kernel
theorem dX9_buy_135 : decode cX9_buy 135 = .ok (.aload_n 0, 1) := by decide +kernel
theorem dX9_buy_136 : decode cX9_buy 136 = .ok (.iload_n 3, 1) := by decide +kernel
theorem dX9_buy_137 : decode cX9_buy 137 = .ok (.invokevirtual 207, 3) := by decide +kernel
theorem dX9_buy_140 : decode cX9_buy 140 = .ok (.ifCond .eq 7, 3) := by decide +kernel
theorem dX9_buy_143 : decode cX9_buy 143 = .ok (.iload_n 3, 1) := by decide +kernel
theorem dX9_buy_144 : decode cX9_buy 144 = .ok (.goto 4, 3) := by decide +kernel
theorem dX9_buy_147 : decode cX9_buy 147 = .ok (.iload_n 2, 1) := by decide +kernel
theorem dX9_buy_148 : decode cX9_buy 148 = .ok (.istore_n 2, 1) := by decide +kernel
theorem dX9_buy_149 : decode cX9_buy 149 = .ok (.iinc 3 1, 3) := by decide +kernel
theorem dX9_buy_152 : decode cX9_buy 152 = .ok (.goto (-73), 3) := by decide +kernel
theorem dX9_buy_155 : decode cX9_buy 155 = .ok (.iload_n 2, 1) := by decide +kernel
theorem dX9_buy_156 : decode cX9_buy 156 = .ok (.iconst (-1), 1) := by decide +kernel
theorem dX9_buy_157 : decode cX9_buy 157 = .ok (.if_icmp .ne 5, 3) := by decide +kernel
theorem dX9_buy_160 : decode cX9_buy 160 = .ok (.iconst (-1), 1) := by decide +kernel
theorem dX9_buy_161 : decode cX9_buy 161 = .ok (.ireturn, 1) := by decide +kernel
theorem dX9_buy_162 : decode cX9_buy 162 = .ok (.iload_n 2, 1) := by decide +kernel
theorem dX9_buy_163 : decode cX9_buy 163 = .ok (.istore_n 3, 1) := by decide +kernel
theorem dX9_buy_164 : decode cX9_buy 164 = .ok (.iconst 3, 1) := by decide +kernel
theorem dX9_buy_165 : decode cX9_buy 165 = .ok (.istore 4, 2) := by decide +kernel
theorem dX9_buy_167 : decode cX9_buy 167 = .ok (.iload 4, 2) := by decide +kernel
theorem dX9_buy_169 : decode cX9_buy 169 = .ok (.ifCond .lt 25, 3) := by decide +kernel
theorem dX9_buy_172 : decode cX9_buy 172 = .ok (.aload_n 0, 1) := by decide +kernel
theorem dX9_buy_173 : decode cX9_buy 173 = .ok (.getfield 42, 3) := by decide +kernel
theorem dX9_buy_176 : decode cX9_buy 176 = .ok (.iload 4, 2) := by decide +kernel
theorem dX9_buy_178 : decode cX9_buy 178 = .ok (.iload_n 3, 1) := by decide +kernel
theorem dX9_buy_179 : decode cX9_buy 179 = .ok (.bipush 8, 2) := by decide +kernel
theorem dX9_buy_181 : decode cX9_buy 181 = .ok (.irem, 1) := by decide +kernel
theorem dX9_buy_182 : decode cX9_buy 182 = .ok (.iastore, 1) := by decide +kernel
theorem dX9_buy_183 : decode cX9_buy 183 = .ok (.iload_n 3, 1) := by decide +kernel
theorem dX9_buy_184 : decode cX9_buy 184 = .ok (.bipush 8, 2) := by decide +kernel
theorem dX9_buy_186 : decode cX9_buy 186 = .ok (.idiv, 1) := by decide +kernel
theorem dX9_buy_187 : decode cX9_buy 187 = .ok (.istore_n 3, 1) := by decide +kernel
theorem dX9_buy_188 : decode cX9_buy 188 = .ok (.iinc 4 (-1), 3) := by decide +kernel
theorem dX9_buy_191 : decode cX9_buy 191 = .ok (.goto (-24), 3) := by decide +kernel
theorem dX9_buy_194 : decode cX9_buy 194 = .ok (.iload_n 1, 1) := by decide +kernel
theorem dX9_buy_195 : decode cX9_buy 195 = .ok (.iconst (-1), 1) := by decide +kernel
theorem dX9_buy_196 : decode cX9_buy 196 = .ok (.if_icmp .ne 11, 3) := by decide +kernel
theorem dX9_buy_199 : decode cX9_buy 199 = .ok (.aload_n 0, 1) := by decide +kernel
theorem dX9_buy_200 : decode cX9_buy 200 = .ok (.iload_n 2, 1) := by decide +kernel
theorem dX9_buy_201 : decode cX9_buy 201 = .ok (.invokevirtual 204, 3) := by decide +kernel
theorem dX9_buy_204 : decode cX9_buy 204 = .ok (.goto 9, 3) := by decide +kernel
theorem dX9_buy_207 : decode cX9_buy 207 = .ok (.aload_n 0, 1) := by decide +kernel
theorem dX9_buy_208 : decode cX9_buy 208 = .ok (.getfield 42, 3) := by decide +kernel
theorem dX9_buy_211 : decode cX9_buy 211 = .ok (.iload_n 1, 1) := by decide +kernel
theorem dX9_buy_212 : decode cX9_buy 212 = .ok (.iaload, 1) := by decide +kernel
theorem dX9_buy_213 : decode cX9_buy 213 = .ok (.ireturn, 1) := by decide +kernel
theorem dX9_firstOrder_0 : decode cX9_firstOrder 0 = .ok (.iconst 0, 1) := by decide +kernel
theorem dX9_firstOrder_1 : decode cX9_firstOrder 1 = .ok (.istore_n 2, 1) := by decide +kernel
theorem dX9_firstOrder_2 : decode cX9_firstOrder 2 = .ok (.iload_n 2, 1) := by decide +kernel
theorem dX9_firstOrder_3 : decode cX9_firstOrder 3 = .ok (.iload_n 1, 1) := by decide +kernel
theorem dX9_firstOrder_4 : decode cX9_firstOrder 4 = .ok (.if_icmp .ge 16, 3) := by decide +kernel
theorem dX9_firstOrder_7 : decode cX9_firstOrder 7 = .ok (.aload_n 0, 1) := by decide +kernel
theorem dX9_firstOrder_8 : decode cX9_firstOrder 8 = .ok (.getfield 45, 3) := by decide +kernel
theorem dX9_firstOrder_11 : decode cX9_firstOrder 11 = .ok (.iload_n 2, 1) := by decide +kernel
theorem dX9_firstOrder_12 : decode cX9_firstOrder 12 = .ok (.iload_n 2, 1) := by decide +kernel
theorem dX9_firstOrder_13 : decode cX9_firstOrder 13 = .ok (.iastore, 1) := by decide +kernel
theorem dX9_firstOrder_14 : decode cX9_firstOrder 14 = .ok (.iinc 2 1, 3) := by decide +kernel
theorem dX9_firstOrder_17 : decode cX9_firstOrder 17 = .ok (.goto (-15), 3) := by decide +kernel
theorem dX9_firstOrder_20 : decode cX9_firstOrder 20 = .ok (.return_, 1) := by decide +kernel
theorem dX9_nextOrder_0 : decode cX9_nextOrder 0 = .ok (.iload_n 1, 1) := by decide +kernel
theorem dX9_nextOrder_1 : decode cX9_nextOrder 1 = .ok (.iconst 2, 1) := by decide +kernel
theorem dX9_nextOrder_2 : decode cX9_nextOrder 2 = .ok (.isub, 1) := by decide +kernel
theorem dX9_nextOrder_3 : decode cX9_nextOrder 3 = .ok (.istore_n 2, 1) := by decide +kernel
theorem dX9_nextOrder_4 : decode cX9_nextOrder 4 = .ok (.iload_n 2, 1) := by decide +kernel
theorem dX9_nextOrder_5 : decode cX9_nextOrder 5 = .ok (.ifCond .lt 26, 3) := by decide +kernel
theorem dX9_nextOrder_8 : decode cX9_nextOrder 8 = .ok (.aload_n 0, 1) := by decide +kernel
theorem dX9_nextOrder_9 : decode cX9_nextOrder 9 = .ok (.getfield 45, 3) := by decide +kernel
theorem dX9_nextOrder_12 : decode cX9_nextOrder 12 = .ok (.iload_n 2, 1) := by decide +kernel
theorem dX9_nextOrder_13 : decode cX9_nextOrder 13 = .ok (.iaload, 1) := by decide +kernel
theorem dX9_nextOrder_14 : decode cX9_nextOrder 14 = .ok (.aload_n 0, 1) := by decide +kernel
theorem dX9_nextOrder_15 : decode cX9_nextOrder 15 = .ok (.getfield 45, 3) := by decide +kernel
theorem dX9_nextOrder_18 : decode cX9_nextOrder 18 = .ok (.iload_n 2, 1) := by decide +kernel
theorem dX9_nextOrder_19 : decode cX9_nextOrder 19 = .ok (.iconst 1, 1) := by decide +kernel
theorem dX9_nextOrder_20 : decode cX9_nextOrder 20 = .ok (.iadd, 1) := by decide +kernel
theorem dX9_nextOrder_21 : decode cX9_nextOrder 21 = .ok (.iaload, 1) := by decide +kernel
theorem dX9_nextOrder_22 : decode cX9_nextOrder 22 = .ok (.if_icmp .le 9, 3) := by decide +kernel
theorem dX9_nextOrder_25 : decode cX9_nextOrder 25 = .ok (.iinc 2 (-1), 3) := by decide +kernel
theorem dX9_nextOrder_28 : decode cX9_nextOrder 28 = .ok (.goto (-24), 3) := by decide +kernel
theorem dX9_nextOrder_31 : decode cX9_nextOrder 31 = .ok (.iload_n 2, 1) := by decide +kernel
theorem dX9_nextOrder_32 : decode cX9_nextOrder 32 = .ok (.ifCond .ge 5, 3) := by decide +kernel
theorem dX9_nextOrder_35 : decode cX9_nextOrder 35 = .ok (.iconst 0, 1) := by decide +kernel
theorem dX9_nextOrder_36 : decode cX9_nextOrder 36 = .ok (.ireturn, 1) := by decide +kernel
theorem dX9_nextOrder_37 : decode cX9_nextOrder 37 = .ok (.iload_n 1, 1) := by decide +kernel
theorem dX9_nextOrder_38 : decode cX9_nextOrder 38 = .ok (.iconst 1, 1) := by decide +kernel
theorem dX9_nextOrder_39 : decode cX9_nextOrder 39 = .ok (.isub, 1) := by decide +kernel
theorem dX9_nextOrder_40 : decode cX9_nextOrder 40 = .ok (.istore_n 3, 1) := by decide +kernel
theorem dX9_nextOrder_41 : decode cX9_nextOrder 41 = .ok (.aload_n 0, 1) := by decide +kernel
theorem dX9_nextOrder_42 : decode cX9_nextOrder 42 = .ok (.getfield 45, 3) := by decide +kernel
theorem dX9_nextOrder_45 : decode cX9_nextOrder 45 = .ok (.iload_n 3, 1) := by decide +kernel
theorem dX9_nextOrder_46 : decode cX9_nextOrder 46 = .ok (.iaload, 1) := by decide +kernel
theorem dX9_nextOrder_47 : decode cX9_nextOrder 47 = .ok (.aload_n 0, 1) := by decide +kernel
theorem dX9_nextOrder_48 : decode cX9_nextOrder 48 = .ok (.getfield 45, 3) := by decide +kernel
theorem dX9_nextOrder_51 : decode cX9_nextOrder 51 = .ok (.iload_n 2, 1) := by decide +kernel
theorem dX9_nextOrder_52 : decode cX9_nextOrder 52 = .ok (.iaload, 1) := by decide +kernel
theorem dX9_nextOrder_53 : decode cX9_nextOrder 53 = .ok (.if_icmp .ge 9, 3) := by decide +kernel
theorem dX9_nextOrder_56 : decode cX9_nextOrder 56 = .ok (.iinc 3 (-1), 3) := by decide +kernel
theorem dX9_nextOrder_59 : decode cX9_nextOrder 59 = .ok (.goto (-18), 3) := by decide +kernel
theorem dX9_nextOrder_62 : decode cX9_nextOrder 62 = .ok (.aload_n 0, 1) := by decide +kernel
theorem dX9_nextOrder_63 : decode cX9_nextOrder 63 = .ok (.getfield 45, 3) := by decide +kernel
theorem dX9_nextOrder_66 : decode cX9_nextOrder 66 = .ok (.iload_n 2, 1) := by decide +kernel
theorem dX9_nextOrder_67 : decode cX9_nextOrder 67 = .ok (.iaload, 1) := by decide +kernel
theorem dX9_nextOrder_68 : decode cX9_nextOrder 68 = .ok (.istore 4, 2) := by decide +kernel
theorem dX9_nextOrder_70 : decode cX9_nextOrder 70 = .ok (.aload_n 0, 1) := by decide +kernel
theorem dX9_nextOrder_71 : decode cX9_nextOrder 71 = .ok (.getfield 45, 3) := by decide +kernel
theorem dX9_nextOrder_74 : decode cX9_nextOrder 74 = .ok (.iload_n 2, 1) := by decide +kernel
theorem dX9_nextOrder_75 : decode cX9_nextOrder 75 = .ok (.aload_n 0, 1) := by decide +kernel
theorem dX9_nextOrder_76 : decode cX9_nextOrder 76 = .ok (.getfield 45, 3) := by decide +kernel
theorem dX9_nextOrder_79 : decode cX9_nextOrder 79 = .ok (.iload_n 3, 1) := by decide +kernel
theorem dX9_nextOrder_80 : decode cX9_nextOrder 80 = .ok (.iaload, 1) := by decide +kernel
theorem dX9_nextOrder_81 : decode cX9_nextOrder 81 = .ok (.iastore, 1) := by decide +kernel
theorem dX9_nextOrder_82 : decode cX9_nextOrder 82 = .ok (.aload_n 0, 1) := by decide +kernel
theorem dX9_nextOrder_83 : decode cX9_nextOrder 83 = .ok (.getfield 45, 3) := by decide +kernel
theorem dX9_nextOrder_86 : decode cX9_nextOrder 86 = .ok (.iload_n 3, 1) := by decide +kernel
theorem dX9_nextOrder_87 : decode cX9_nextOrder 87 = .ok (.iload 4, 2) := by decide +kernel
theorem dX9_nextOrder_89 : decode cX9_nextOrder 89 = .ok (.iastore, 1) := by decide +kernel
theorem dX9_nextOrder_90 : decode cX9_nextOrder 90 = .ok (.iload_n 2, 1) := by decide +kernel
theorem dX9_nextOrder_91 : decode cX9_nextOrder 91 = .ok (.iconst 1, 1) := by decide +kernel
theorem dX9_nextOrder_92 : decode cX9_nextOrder 92 = .ok (.iadd, 1) := by decide +kernel
theorem dX9_nextOrder_93 : decode cX9_nextOrder 93 = .ok (.istore 5, 2) := by decide +kernel
theorem dX9_nextOrder_95 : decode cX9_nextOrder 95 = .ok (.iload_n 1, 1) := by decide +kernel
theorem dX9_nextOrder_96 : decode cX9_nextOrder 96 = .ok (.iconst 1, 1) := by decide +kernel
theorem dX9_nextOrder_97 : decode cX9_nextOrder 97 = .ok (.isub, 1) := by decide +kernel
theorem dX9_nextOrder_98 : decode cX9_nextOrder 98 = .ok (.istore 6, 2) := by decide +kernel
theorem dX9_nextOrder_100 : decode cX9_nextOrder 100 = .ok (.iload 5, 2) := by decide +kernel
theorem dX9_nextOrder_102 : decode cX9_nextOrder 102 = .ok (.iload 6, 2) := by decide +kernel
theorem dX9_nextOrder_104 : decode cX9_nextOrder 104 = .ok (.if_icmp .ge 44, 3) := by decide +kernel
theorem dX9_nextOrder_107 : decode cX9_nextOrder 107 = .ok (.aload_n 0, 1) := by decide +kernel
theorem dX9_nextOrder_108 : decode cX9_nextOrder 108 = .ok (.getfield 45, 3) := by decide +kernel
theorem dX9_nextOrder_111 : decode cX9_nextOrder 111 = .ok (.iload 5, 2) := by decide +kernel
theorem dX9_nextOrder_113 : decode cX9_nextOrder 113 = .ok (.iaload, 1) := by decide +kernel
theorem dX9_nextOrder_114 : decode cX9_nextOrder 114 = .ok (.istore 4, 2) := by decide +kernel
theorem dX9_nextOrder_116 : decode cX9_nextOrder 116 = .ok (.aload_n 0, 1) := by decide +kernel
theorem dX9_nextOrder_117 : decode cX9_nextOrder 117 = .ok (.getfield 45, 3) := by decide +kernel
theorem dX9_nextOrder_120 : decode cX9_nextOrder 120 = .ok (.iload 5, 2) := by decide +kernel
theorem dX9_nextOrder_122 : decode cX9_nextOrder 122 = .ok (.aload_n 0, 1) := by decide +kernel
theorem dX9_nextOrder_123 : decode cX9_nextOrder 123 = .ok (.getfield 45, 3) := by decide +kernel
theorem dX9_nextOrder_126 : decode cX9_nextOrder 126 = .ok (.iload 6, 2) := by decide +kernel
theorem dX9_nextOrder_128 : decode cX9_nextOrder 128 = .ok (.iaload, 1) := by decide +kernel
theorem dX9_nextOrder_129 : decode cX9_nextOrder 129 = .ok (.iastore, 1) := by decide +kernel
theorem dX9_nextOrder_130 : decode cX9_nextOrder 130 = .ok (.aload_n 0, 1) := by decide +kernel
