theorem dX8_howMany_66 : decode cX8_howMany 66 = .ok (.invokevirtual 181, 3) := by decide +kernel
theorem dX8_howMany_69 : decode cX8_howMany 69 = .ok (.ireturn, 1) := by decide +kernel
theorem dX8_howMany_70 : decode cX8_howMany 70 = .ok (.aload_n 0, 1) := by decide +kernel
theorem dX8_howMany_71 : decode cX8_howMany 71 = .ok (.getfield 12, 3) := by decide +kernel
theorem dX8_howMany_74 : decode cX8_howMany 74 = .ok (.invokevirtual 299, 3) := by decide +kernel
theorem dX8_howMany_77 : decode cX8_howMany 77 = .ok (.ireturn, 1) := by decide +kernel
theorem dX8_howMany_78 : decode cX8_howMany 78 = .ok (.aload_n 0, 1) := by decide +kernel
theorem dX8_howMany_79 : decode cX8_howMany 79 = .ok (.getfield 12, 3) := by decide +kernel
theorem dX8_howMany_82 : decode cX8_howMany 82 = .ok (.getfield 209, 3) := by decide +kernel
theorem dX8_howMany_85 : decode cX8_howMany 85 = .ok (.invokevirtual 181, 3) := by decide +kernel
theorem dX8_howMany_88 : decode cX8_howMany 88 = .ok (.ireturn, 1) := by decide +kernel
theorem dX8_howMany_89 : decode cX8_howMany 89 = .ok (.aload_n 0, 1) := by decide +kernel
theorem dX8_howMany_90 : decode cX8_howMany 90 = .ok (.getfield 12, 3) := by decide +kernel
theorem dX8_howMany_93 : decode cX8_howMany 93 = .ok (.getfield 234, 3) := by decide +kernel
theorem dX8_howMany_96 : decode cX8_howMany 96 = .ok (.invokevirtual 181, 3) := by decide +kernel
theorem dX8_howMany_99 : decode cX8_howMany 99 = .ok (.ireturn, 1) := by decide +kernel
theorem dX8_howMany_100 : decode cX8_howMany 100 = .ok (.aload_n 0, 1) := by decide +kernel
theorem dX8_howMany_101 : decode cX8_howMany 101 = .ok (.getfield 12, 3) := by decide +kernel
theorem dX8_howMany_104 : decode cX8_howMany 104 = .ok (.getfield 247, 3) := by decide +kernel
theorem dX8_howMany_107 : decode cX8_howMany 107 = .ok (.invokevirtual 181, 3) := by decide +kernel
theorem dX8_howMany_110 : decode cX8_howMany 110 = .ok (.ireturn, 1) := by decide +kernel
theorem dX8_howMany_111 : decode cX8_howMany 111 = .ok (.aload_n 0, 1) := by decide +kernel
theorem dX8_howMany_112 : decode cX8_howMany 112 = .ok (.getfield 12, 3) := by decide +kernel
theorem dX8_howMany_115 : decode cX8_howMany 115 = .ok (.getfield 302, 3) := by decide +kernel
theorem dX8_howMany_118 : decode cX8_howMany 118 = .ok (.invokevirtual 181, 3) := by decide +kernel
theorem dX8_howMany_121 : decode cX8_howMany 121 = .ok (.ireturn, 1) := by decide +kernel
theorem dX8_howMany_122 : decode cX8_howMany 122 = .ok (.aload_n 0, 1) := by decide +kernel
theorem dX8_howMany_123 : decode cX8_howMany 123 = .ok (.getfield 28, 3) := by decide +kernel
theorem dX8_howMany_126 : decode cX8_howMany 126 = .ok (.invokevirtual 305, 3) := by decide +kernel
theorem dX8_howMany_129 : decode cX8_howMany 129 = .ok (.ireturn, 1) := by decide +kernel
theorem dX8_howMany_130 : decode cX8_howMany 130 = .ok (.bipush (-2), 2) := by decide +kernel
theorem dX8_howMany_132 : decode cX8_howMany 132 = .ok (.ireturn, 1) := by decide +kernel
theorem dX8_imageAt_0 : decode cX8_imageAt 0 = .ok (.iload_n 1, 1) := by decide +kernel
theorem dX8_imageAt_1 : decode cX8_imageAt 1 = .ok (.ifCond .ne 10, 3) := by decide +kernel
theorem dX8_imageAt_4 : decode cX8_imageAt 4 = .ok (.aload_n 0, 1) := by decide +kernel
theorem dX8_imageAt_5 : decode cX8_imageAt 5 = .ok (.getfield 19, 3) := by decide +kernel
theorem dX8_imageAt_8 : decode cX8_imageAt 8 = .ok (.goto 7, 3) := by decide +kernel
theorem dX8_imageAt_11 : decode cX8_imageAt 11 = .ok (.aload_n 0, 1) := by decide +kernel
theorem dX8_imageAt_12 : decode cX8_imageAt 12 = .ok (.getfield 22, 3) := by decide +kernel
theorem dX8_imageAt_15 : decode cX8_imageAt 15 = .ok (.areturn, 1) := by decide +kernel
theorem dX8_tellItem_0 : decode cX8_tellItem 0 = .ok (.aload_n 0, 1) := by decide +kernel
theorem dX8_tellItem_1 : decode cX8_tellItem 1 = .ok (.getfield 28, 3) := by decide +kernel
theorem dX8_tellItem_4 : decode cX8_tellItem 4 = .ok (.iconst 0, 1) := by decide +kernel
theorem dX8_tellItem_5 : decode cX8_tellItem 5 = .ok (.invokevirtual 306, 3) := by decide +kernel
theorem dX8_tellItem_8 : decode cX8_tellItem 8 = .ok (.istore_n 2, 1) := by decide +kernel
theorem dX8_tellItem_9 : decode cX8_tellItem 9 = .ok (.aload_n 0, 1) := by decide +kernel
theorem dX8_tellItem_10 : decode cX8_tellItem 10 = .ok (.getfield 28, 3) := by decide +kernel
theorem dX8_tellItem_13 : decode cX8_tellItem 13 = .ok (.iconst 1, 1) := by decide +kernel
theorem dX8_tellItem_14 : decode cX8_tellItem 14 = .ok (.invokevirtual 306, 3) := by decide +kernel
theorem dX8_tellItem_17 : decode cX8_tellItem 17 = .ok (.istore_n 3, 1) := by decide +kernel
theorem dX8_tellItem_18 : decode cX8_tellItem 18 = .ok (.aload_n 0, 1) := by decide +kernel
theorem dX8_tellItem_19 : decode cX8_tellItem 19 = .ok (.getfield 28, 3) := by decide +kernel
theorem dX8_tellItem_22 : decode cX8_tellItem 22 = .ok (.iconst 2, 1) := by decide +kernel
theorem dX8_tellItem_23 : decode cX8_tellItem 23 = .ok (.invokevirtual 306, 3) := by decide +kernel
theorem dX8_tellItem_26 : decode cX8_tellItem 26 = .ok (.istore 4, 2) := by decide +kernel
theorem dX8_tellItem_28 : decode cX8_tellItem 28 = .ok (.aload_n 0, 1) := by decide +kernel
theorem dX8_tellItem_29 : decode cX8_tellItem 29 = .ok (.getfield 28, 3) := by decide +kernel
theorem dX8_tellItem_32 : decode cX8_tellItem 32 = .ok (.invokevirtual 309, 3) := by decide +kernel
theorem dX8_tellItem_35 : decode cX8_tellItem 35 = .ok (.tableswitch 82 0 4 #[33, 42, 51, 58, 65], 33) := by decide +kernel
theorem dX8_tellItem_68 : decode cX8_tellItem 68 = .ok (.aload_n 1, 1) := by decide +kernel
theorem dX8_tellItem_69 : decode cX8_tellItem 69 = .ok (.iload_n 2, 1) := by decide +kernel
theorem dX8_tellItem_70 : decode cX8_tellItem 70 = .ok (.iload_n 3, 1) := by decide +kernel
theorem dX8_tellItem_71 : decode cX8_tellItem 71 = .ok (.iload 4, 2) := by decide +kernel
theorem dX8_tellItem_73 : decode cX8_tellItem 73 = .ok (.invokevirtual 67, 3) := by decide +kernel
theorem dX8_tellItem_76 : decode cX8_tellItem 76 = .ok (.ireturn, 1) := by decide +kernel
theorem dX8_tellItem_77 : decode cX8_tellItem 77 = .ok (.aload_n 1, 1) := by decide +kernel
theorem dX8_tellItem_78 : decode cX8_tellItem 78 = .ok (.iload_n 2, 1) := by decide +kernel
theorem dX8_tellItem_79 : decode cX8_tellItem 79 = .ok (.iload_n 3, 1) := by decide +kernel
theorem dX8_tellItem_80 : decode cX8_tellItem 80 = .ok (.iload 4, 2) := by decide +kernel
theorem dX8_tellItem_82 : decode cX8_tellItem 82 = .ok (.invokevirtual 75, 3) := by decide +kernel
theorem dX8_tellItem_85 : decode cX8_tellItem 85 = .ok (.ireturn, 1) := by decide +kernel
theorem dX8_tellItem_86 : decode cX8_tellItem 86 = .ok (.aload_n 1, 1) := by decide +kernel
theorem dX8_tellItem_87 : decode cX8_tellItem 87 = .ok (.iload_n 2, 1) := by decide +kernel
theorem dX8_tellItem_88 : decode cX8_tellItem 88 = .ok (.iload_n 3, 1) := by decide +kernel
theorem dX8_tellItem_89 : decode cX8_tellItem 89 = .ok (.invokevirtual 78, 3) := by decide +kernel
theorem dX8_tellItem_92 : decode cX8_tellItem 92 = .ok (.ireturn, 1) := by decide +kernel
theorem dX8_tellItem_93 : decode cX8_tellItem 93 = .ok (.aload_n 1, 1) := by decide +kernel
theorem dX8_tellItem_94 : decode cX8_tellItem 94 = .ok (.iload_n 2, 1) := by decide +kernel
theorem dX8_tellItem_95 : decode cX8_tellItem 95 = .ok (.iload_n 3, 1) := by decide +kernel
theorem dX8_tellItem_96 : decode cX8_tellItem 96 = .ok (.invokevirtual 105, 3) := by decide +kernel
theorem dX8_tellItem_99 : decode cX8_tellItem 99 = .ok (.ireturn, 1) := by decide +kernel
theorem dX8_tellItem_100 : decode cX8_tellItem 100 = .ok (.aload_n 1, 1) := by decide +kernel
theorem dX8_tellItem_101 : decode cX8_tellItem 101 = .ok (.iload_n 2, 1) := by decide +kernel
theorem dX8_tellItem_102 : decode cX8_tellItem 102 = .ok (.iload_n 3, 1) := by decide +kernel
theorem dX8_tellItem_103 : decode cX8_tellItem 103 = .ok (.iload 4, 2) := by decide +kernel
theorem dX8_tellItem_105 : decode cX8_tellItem 105 = .ok (.aload_n 0, 1) := by decide +kernel
theorem dX8_tellItem_106 : decode cX8_tellItem 106 = .ok (.getfield 28, 3) := by decide +kernel
theorem dX8_tellItem_109 : decode cX8_tellItem 109 = .ok (.iconst 3, 1) := by decide +kernel
theorem dX8_tellItem_110 : decode cX8_tellItem 110 = .ok (.invokevirtual 306, 3) := by decide +kernel
theorem dX8_tellItem_113 : decode cX8_tellItem 113 = .ok (.invokevirtual 108, 3) := by decide +kernel
theorem dX8_tellItem_116 : decode cX8_tellItem 116 = .ok (.ireturn, 1) := by decide +kernel
theorem dX8_tellItem_117 : decode cX8_tellItem 117 = .ok (.bipush (-2), 2) := by decide +kernel
theorem dX8_tellItem_119 : decode cX8_tellItem 119 = .ok (.ireturn, 1) := by decide +kernel
theorem dX8_pairLids_0 : decode cX8_pairLids 0 = .ok (.aload_n 0, 1) := by decide +kernel
theorem dX8_pairLids_1 : decode cX8_pairLids 1 = .ok (.getfield 35, 3) := by decide +kernel
theorem dX8_pairLids_4 : decode cX8_pairLids 4 = .ok (.aload_n 0, 1) := by decide +kernel
theorem dX8_pairLids_5 : decode cX8_pairLids 5 = .ok (.getfield 12, 3) := by decide +kernel
theorem dX8_pairLids_8 : decode cX8_pairLids 8 = .ok (.getfield 178, 3) := by decide +kernel
theorem dX8_pairLids_11 : decode cX8_pairLids 11 = .ok (.invokevirtual 181, 3) := by decide +kernel
theorem dX8_pairLids_14 : decode cX8_pairLids 14 = .ok (.invokevirtual 184, 3) := by decide +kernel
theorem dX8_pairLids_17 : decode cX8_pairLids 17 = .ok (.iconst 0, 1) := by decide +kernel
theorem dX8_pairLids_18 : decode cX8_pairLids 18 = .ok (.istore_n 2, 1) := by decide +kernel
theorem dX8_pairLids_19 : decode cX8_pairLids 19 = .ok (.iload_n 2, 1) := by decide +kernel
theorem dX8_pairLids_20 : decode cX8_pairLids 20 = .ok (.aload_n 0, 1) := by decide +kernel
theorem dX8_pairLids_21 : decode cX8_pairLids 21 = .ok (.getfield 12, 3) := by decide +kernel
theorem dX8_pairLids_24 : decode cX8_pairLids 24 = .ok (.getfield 89, 3) := by decide +kernel
theorem dX8_pairLids_27 : decode cX8_pairLids 27 = .ok (.invokevirtual 181, 3) := by decide +kernel
theorem dX8_pairLids_30 : decode cX8_pairLids 30 = .ok (.if_icmp .ge 44, 3) := by decide +kernel
theorem dX8_pairLids_33 : decode cX8_pairLids 33 = .ok (.aload_n 0, 1) := by decide +kernel
theorem dX8_pairLids_34 : decode cX8_pairLids 34 = .ok (.getfield 35, 3) := by decide +kernel
theorem dX8_pairLids_37 : decode cX8_pairLids 37 = .ok (.aload_n 0, 1) := by decide +kernel
theorem dX8_pairLids_38 : decode cX8_pairLids 38 = .ok (.getfield 12, 3) := by decide +kernel
theorem dX8_pairLids_41 : decode cX8_pairLids 41 = .ok (.iload_n 2, 1) := by decide +kernel
theorem dX8_pairLids_42 : decode cX8_pairLids 42 = .ok (.invokevirtual 148, 3) := by decide +kernel
theorem dX8_pairLids_45 : decode cX8_pairLids 45 = .ok (.iload_n 1, 1) := by decide +kernel
theorem dX8_pairLids_46 : decode cX8_pairLids 46 = .ok (.ifCond .eq 18, 3) := by decide +kernel
theorem dX8_pairLids_49 : decode cX8_pairLids 49 = .ok (.aload_n 0, 1) := by decide +kernel
theorem dX8_pairLids_50 : decode cX8_pairLids 50 = .ok (.getfield 12, 3) := by decide +kernel
theorem dX8_pairLids_53 : decode cX8_pairLids 53 = .ok (.getfield 89, 3) := by decide +kernel
theorem dX8_pairLids_56 : decode cX8_pairLids 56 = .ok (.iload_n 2, 1) := by decide +kernel
theorem dX8_pairLids_57 : decode cX8_pairLids 57 = .ok (.iconst 2, 1) := by decide +kernel
theorem dX8_pairLids_58 : decode cX8_pairLids 58 = .ok (.invokevirtual 99, 3) := by decide +kernel
theorem dX8_pairLids_61 : decode cX8_pairLids 61 = .ok (.goto 4, 3) := by decide +kernel
theorem dX8_pairLids_64 : decode cX8_pairLids 64 = .ok (.iconst 1, 1) := by decide +kernel
theorem dX8_pairLids_65 : decode cX8_pairLids 65 = .ok (.invokevirtual 191, 3) := by decide +kernel
theorem dX8_pairLids_68 : decode cX8_pairLids 68 = .ok (.iinc 2 1, 3) := by decide +kernel
theorem dX8_pairLids_71 : decode cX8_pairLids 71 = .ok (.goto (-52), 3) := by decide +kernel
theorem dX8_pairLids_74 : decode cX8_pairLids 74 = .ok (.aload_n 0, 1) := by decide +kernel
theorem dX8_pairLids_75 : decode cX8_pairLids 75 = .ok (.getfield 35, 3) := by decide +kernel
theorem dX8_pairLids_78 : decode cX8_pairLids 78 = .ok (.invokevirtual 195, 3) := by decide +kernel
theorem dX8_pairLids_81 : decode cX8_pairLids 81 = .ok (.return_, 1) := by decide +kernel
theorem dX8_shelfCost_0 : decode cX8_shelfCost 0 = .ok (.iconst 0, 1) := by decide +kernel
theorem dX8_shelfCost_1 : decode cX8_shelfCost 1 = .ok (.istore_n 2, 1) := by decide +kernel
theorem dX8_shelfCost_2 : decode cX8_shelfCost 2 = .ok (.iconst 0, 1) := by decide +kernel
theorem dX8_shelfCost_3 : decode cX8_shelfCost 3 = .ok (.istore_n 3, 1) := by decide +kernel
theorem dX8_shelfCost_4 : decode cX8_shelfCost 4 = .ok (.iload_n 3, 1) := by decide +kernel
theorem dX8_shelfCost_5 : decode cX8_shelfCost 5 = .ok (.iload_n 1, 1) := by decide +kernel
theorem dX8_shelfCost_6 : decode cX8_shelfCost 6 = .ok (.if_icmp .ge 35, 3) := by decide +kernel
theorem dX8_shelfCost_9 : decode cX8_shelfCost 9 = .ok (.iload_n 2, 1) := by decide +kernel
theorem dX8_shelfCost_10 : decode cX8_shelfCost 10 = .ok (.aload_n 0, 1) := by decide +kernel
theorem dX8_shelfCost_11 : decode cX8_shelfCost 11 = .ok (.getfield 12, 3) := by decide +kernel
theorem dX8_shelfCost_14 : decode cX8_shelfCost 14 = .ok (.getfield 89, 3) := by decide +kernel
theorem dX8_shelfCost_17 : decode cX8_shelfCost 17 = .ok (.aload_n 0, 1) := by decide +kernel
theorem dX8_shelfCost_18 : decode cX8_shelfCost 18 = .ok (.getfield 49, 3) := by decide +kernel
theorem dX8_shelfCost_21 : decode cX8_shelfCost 21 = .ok (.iload_n 3, 1) := by decide +kernel
theorem dX8_shelfCost_22 : decode cX8_shelfCost 22 = .ok (.invokevirtual 206, 3) := by decide +kernel
theorem dX8_shelfCost_25 : decode cX8_shelfCost 25 = .ok (.iconst 3, 1) := by decide +kernel
theorem dX8_shelfCost_26 : decode cX8_shelfCost 26 = .ok (.invokevirtual 99, 3) := by decide +kernel
theorem dX8_shelfCost_29 : decode cX8_shelfCost 29 = .ok (.iload_n 3, 1) := by decide +kernel
theorem dX8_shelfCost_30 : decode cX8_shelfCost 30 = .ok (.iconst 1, 1) := by decide +kernel
theorem dX8_shelfCost_31 : decode cX8_shelfCost 31 = .ok (.iadd, 1) := by decide +kernel
theorem dX8_shelfCost_32 : decode cX8_shelfCost 32 = .ok (.imul, 1) := by decide +kernel
theorem dX8_shelfCost_33 : decode cX8_shelfCost 33 = .ok (.iadd, 1) := by decide +kernel
theorem dX8_shelfCost_34 : decode cX8_shelfCost 34 = .ok (.istore_n 2, 1) := by decide +kernel
theorem dX8_shelfCost_35 : decode cX8_shelfCost 35 = .ok (.iinc 3 1, 3) := by decide +kernel
theorem dX8_shelfCost_38 : decode cX8_shelfCost 38 = .ok (.goto (-34), 3) := by decide +kernel
theorem dX8_shelfCost_41 : decode cX8_shelfCost 41 = .ok (.iload_n 2, 1) := by decide +kernel
theorem dX8_shelfCost_42 : decode cX8_shelfCost 42 = .ok (.ireturn, 1) := by decide +kernel
theorem dX8_leastPurchase_0 : decode cX8_leastPurchase 0 = .ok (.iconst 0, 1) := by decide +kernel
theorem dX8_leastPurchase_1 : decode cX8_leastPurchase 1 = .ok (.istore_n 1, 1) := by decide +kernel
theorem dX8_leastPurchase_2 : decode cX8_leastPurchase 2 = .ok (.aload_n 0, 1) := by decide +kernel
theorem dX8_leastPurchase_3 : decode cX8_leastPurchase 3 = .ok (.getfield 35, 3) := by decide +kernel
theorem dX8_leastPurchase_6 : decode cX8_leastPurchase 6 = .ok (.aload_n 0, 1) := by decide +kernel
theorem dX8_leastPurchase_7 : decode cX8_leastPurchase 7 = .ok (.getfield 12, 3) := by decide +kernel
theorem dX8_leastPurchase_10 : decode cX8_leastPurchase 10 = .ok (.getfield 178, 3) := by decide +kernel
theorem dX8_leastPurchase_13 : decode cX8_leastPurchase 13 = .ok (.invokevirtual 181, 3) := by decide +kernel
theorem dX8_leastPurchase_16 : decode cX8_leastPurchase 16 = .ok (.invokevirtual 184, 3) := by decide +kernel
theorem dX8_leastPurchase_19 : decode cX8_leastPurchase 19 = .ok (.iconst 0, 1) := by decide +kernel
theorem dX8_leastPurchase_20 : decode cX8_leastPurchase 20 = .ok (.istore_n 2, 1) := by decide +kernel
theorem dX8_leastPurchase_21 : decode cX8_leastPurchase 21 = .ok (.iload_n 2, 1) := by decide +kernel
theorem dX8_leastPurchase_22 : decode cX8_leastPurchase 22 = .ok (.aload_n 0, 1) := by decide +kernel
theorem dX8_leastPurchase_23 : decode cX8_leastPurchase 23 = .ok (.getfield 12, 3) := by decide +kernel
theorem dX8_leastPurchase_26 : decode cX8_leastPurchase 26 = .ok (.getfield 89, 3) := by decide +kernel
theorem dX8_leastPurchase_29 : decode cX8_leastPurchase 29 = .ok (.invokevirtual 181, 3) := by decide +kernel
theorem dX8_leastPurchase_32 : decode cX8_leastPurchase 32 = .ok (.if_icmp .ge 38, 3) := by decide +kernel
theorem dX8_leastPurchase_35 : decode cX8_leastPurchase 35 = .ok (.aload_n 0, 1) := by decide +kernel
theorem dX8_leastPurchase_36 : decode cX8_leastPurchase 36 = .ok (.getfield 12, 3) := by decide +kernel
theorem dX8_leastPurchase_39 : decode cX8_leastPurchase 39 = .ok (.iload_n 2, 1) := by decide +kernel
theorem dX8_leastPurchase_40 : decode cX8_leastPurchase 40 = .ok (.invokevirtual 312, 3) := by decide +kernel
theorem dX8_leastPurchase_43 : decode cX8_leastPurchase 43 = .ok (.istore_n 3, 1) := by decide +kernel
theorem dX8_leastPurchase_44 : decode cX8_leastPurchase 44 = .ok (.iload_n 1, 1) := by decide +kernel
theorem dX8_leastPurchase_45 : decode cX8_leastPurchase 45 = .ok (.iload_n 3, 1) := by decide +kernel
theorem dX8_leastPurchase_46 : decode cX8_leastPurchase 46 = .ok (.iadd, 1) := by decide +kernel
theorem dX8_leastPurchase_47 : decode cX8_leastPurchase 47 = .ok (.istore_n 1, 1) := by decide +kernel
theorem dX8_leastPurchase_48 : decode cX8_leastPurchase 48 = .ok (.aload_n 0, 1) := by decide +kernel
theorem dX8_leastPurchase_49 : decode cX8_leastPurchase 49 = .ok (.getfield 35, 3) := by decide +kernel
theorem dX8_leastPurchase_52 : decode cX8_leastPurchase 52 = .ok (.aload_n 0, 1) := by decide +kernel
theorem dX8_leastPurchase_53 : decode cX8_leastPurchase 53 = .ok (.getfield 12, 3) := by decide +kernel
theorem dX8_leastPurchase_56 : decode cX8_leastPurchase 56 = .ok (.iload_n 2, 1) := by decide +kernel
theorem dX8_leastPurchase_57 : decode cX8_leastPurchase 57 = .ok (.invokevirtual 148, 3) := by decide +kernel
theorem dX8_leastPurchase_60 : decode cX8_leastPurchase 60 = .ok (.iload_n 3, 1) := by decide +kernel
theorem dX8_leastPurchase_61 : decode cX8_leastPurchase 61 = .ok (.invokevirtual 191, 3) := by decide +kernel
theorem dX8_leastPurchase_64 : decode cX8_leastPurchase 64 = .ok (.iinc 2 1, 3) := by decide +kernel
theorem dX8_leastPurchase_67 : decode cX8_leastPurchase 67 = .ok (.goto (-46), 3) := by decide +kernel
theorem dX8_leastPurchase_70 : decode cX8_leastPurchase 70 = .ok (.aload_n 0, 1) := by decide +kernel
theorem dX8_leastPurchase_71 : decode cX8_leastPurchase 71 = .ok (.getfield 35, 3) := by decide +kernel
theorem dX8_leastPurchase_74 : decode cX8_leastPurchase 74 = .ok (.invokevirtual 195, 3) := by decide +kernel
theorem dX8_leastPurchase_77 : decode cX8_leastPurchase 77 = .ok (.iload_n 1, 1) := by decide +kernel
theorem dX8_leastPurchase_78 : decode cX8_leastPurchase 78 = .ok (.aload_n 0, 1) := by decide +kernel
theorem dX8_leastPurchase_79 : decode cX8_leastPurchase 79 = .ok (.getfield 35, 3) := by decide +kernel
theorem dX8_leastPurchase_82 : decode cX8_leastPurchase 82 = .ok (.iconst 0, 1) := by decide +kernel
theorem dX8_leastPurchase_83 : decode cX8_leastPurchase 83 = .ok (.invokevirtual 155, 3) := by decide +kernel
theorem dX8_leastPurchase_86 : decode cX8_leastPurchase 86 = .ok (.isub, 1) := by decide +kernel
theorem dX8_leastPurchase_87 : decode cX8_leastPurchase 87 = .ok (.ireturn, 1) := by decide +kernel
theorem dX8_sortShift_0 : decode cX8_sortShift 0 = .ok (.iload_n 0, 1) := by decide +kernel
theorem dX8_sortShift_1 : decode cX8_sortShift 1 = .ok (.iconst 0, 1) := by decide +kernel
theorem dX8_sortShift_2 : decode cX8_sortShift 2 = .ok (.iconst 3, 1) := by decide +kernel
theorem dX8_sortShift_3 : decode cX8_sortShift 3 = .ok (.invokestatic 167, 3) := by decide +kernel
theorem dX8_sortShift_6 : decode cX8_sortShift 6 = .ok (.ifCond .eq 11, 3) := by decide +kernel
theorem dX8_sortShift_9 : decode cX8_sortShift 9 = .ok (.iconst 3, 1) := by decide +kernel
theorem dX8_sortShift_10 : decode cX8_sortShift 10 = .ok (.iconst 3, 1) := by decide +kernel
theorem dX8_sortShift_11 : decode cX8_sortShift 11 = .ok (.iload_n 0, 1) := by decide +kernel
theorem dX8_sortShift_12 : decode cX8_sortShift 12 = .ok (.isub, 1) := by decide +kernel
theorem dX8_sortShift_13 : decode cX8_sortShift 13 = .ok (.imul, 1) := by decide +kernel
theorem dX8_sortShift_14 : decode cX8_sortShift 14 = .ok (.goto 4, 3) := by decide +kernel
theorem dX8_sortShift_17 : decode cX8_sortShift 17 = .ok (.iconst 0, 1) := by decide +kernel
theorem dX8_sortShift_18 : decode cX8_sortShift 18 = .ok (.ireturn, 1) := by decide +kernel
theorem dX8_rankTries_0 : decode cX8_rankTries 0 = .ok (.aload_n 0, 1) := by decide +kernel
theorem dX8_rankTries_1 : decode cX8_rankTries 1 = .ok (.getfield 12, 3) := by decide +kernel
theorem dX8_rankTries_4 : decode cX8_rankTries 4 = .ok (.invokevirtual 315, 3) := by decide +kernel
theorem dX8_rankTries_7 : decode cX8_rankTries 7 = .ok (.istore_n 1, 1) := by decide +kernel
theorem dX8_rankTries_8 : decode cX8_rankTries 8 = .ok (.aload_n 0, 1) := by decide +kernel
theorem dX8_rankTries_9 : decode cX8_rankTries 9 = .ok (.getfield 49, 3) := by decide +kernel
theorem dX8_rankTries_12 : decode cX8_rankTries 12 = .ok (.invokevirtual 198, 3) := by decide +kernel
theorem dX8_rankTries_15 : decode cX8_rankTries 15 = .ok (.iconst 0, 1) := by decide +kernel
theorem dX8_rankTries_16 : decode cX8_rankTries 16 = .ok (.istore_n 2, 1) := by decide +kernel
theorem dX8_rankTries_17 : decode cX8_rankTries 17 = .ok (.iload_n 2, 1) := by decide +kernel
theorem dX8_rankTries_18 : decode cX8_rankTries 18 = .ok (.aload_n 0, 1) := by decide +kernel
theorem dX8_rankTries_19 : decode cX8_rankTries 19 = .ok (.getfield 12, 3) := by decide +kernel
theorem dX8_rankTries_22 : decode cX8_rankTries 22 = .ok (.getfield 178, 3) := by decide +kernel
theorem dX8_rankTries_25 : decode cX8_rankTries 25 = .ok (.invokevirtual 181, 3) := by decide +kernel
theorem dX8_rankTries_28 : decode cX8_rankTries 28 = .ok (.if_icmp .ge 48, 3) := by decide +kernel
theorem dX8_rankTries_31 : decode cX8_rankTries 31 = .ok (.aload_n 0, 1) := by decide +kernel
theorem dX8_rankTries_32 : decode cX8_rankTries 32 = .ok (.getfield 12, 3) := by decide +kernel
theorem dX8_rankTries_35 : decode cX8_rankTries 35 = .ok (.getfield 178, 3) := by decide +kernel
theorem dX8_rankTries_38 : decode cX8_rankTries 38 = .ok (.iload_n 2, 1) := by decide +kernel
theorem dX8_rankTries_39 : decode cX8_rankTries 39 = .ok (.iconst 3, 1) := by decide +kernel
theorem dX8_rankTries_40 : decode cX8_rankTries 40 = .ok (.invokevirtual 99, 3) := by decide +kernel
theorem dX8_rankTries_43 : decode cX8_rankTries 43 = .ok (.istore_n 3, 1) := by decide +kernel
theorem dX8_rankTries_44 : decode cX8_rankTries 44 = .ok (.aload_n 0, 1) := by decide +kernel
theorem dX8_rankTries_45 : decode cX8_rankTries 45 = .ok (.getfield 49, 3) := by decide +kernel
theorem dX8_rankTries_48 : decode cX8_rankTries 48 = .ok (.iload_n 1, 1) := by decide +kernel
theorem dX8_rankTries_49 : decode cX8_rankTries 49 = .ok (.iconst (-1), 1) := by decide +kernel
theorem dX8_rankTries_50 : decode cX8_rankTries 50 = .ok (.if_icmp .ne 7, 3) := by decide +kernel
theorem dX8_rankTries_53 : decode cX8_rankTries 53 = .ok (.iload_n 3, 1) := by decide +kernel
theorem dX8_rankTries_54 : decode cX8_rankTries 54 = .ok (.goto 13, 3) := by decide +kernel
theorem dX8_rankTries_57 : decode cX8_rankTries 57 = .ok (.iload_n 2, 1) := by decide +kernel
theorem dX8_rankTries_58 : decode cX8_rankTries 58 = .ok (.iload_n 1, 1) := by decide +kernel
theorem dX8_rankTries_59 : decode cX8_rankTries 59 = .ok (.if_icmp .ne 7, 3) := by decide +kernel
theorem dX8_rankTries_62 : decode cX8_rankTries 62 = .ok (.iconst 1, 1) := by decide +kernel
theorem dX8_rankTries_63 : decode cX8_rankTries 63 = .ok (.goto 4, 3) := by decide +kernel
theorem dX8_rankTries_66 : decode cX8_rankTries 66 = .ok (.iconst 0, 1) := by decide +kernel
theorem dX8_rankTries_67 : decode cX8_rankTries 67 = .ok (.invokevirtual 200, 3) := by decide +kernel
theorem dX8_rankTries_70 : decode cX8_rankTries 70 = .ok (.iinc 2 1, 3) := by decide +kernel
theorem dX8_rankTries_73 : decode cX8_rankTries 73 = .ok (.goto (-56), 3) := by decide +kernel
theorem dX8_rankTries_76 : decode cX8_rankTries 76 = .ok (.return_, 1) := by decide +kernel
theorem dX8_meanOfTries_0 : decode cX8_meanOfTries 0 = .ok (.lconst 0, 1) := by decide +kernel
theorem dX8_meanOfTries_1 : decode cX8_meanOfTries 1 = .ok (.lstore_n 1, 1) := by decide +kernel
theorem dX8_meanOfTries_2 : decode cX8_meanOfTries 2 = .ok (.lconst 1, 1) := by decide +kernel
theorem dX8_meanOfTries_3 : decode cX8_meanOfTries 3 = .ok (.lstore_n 3, 1) := by decide +kernel
theorem dX8_meanOfTries_4 : decode cX8_meanOfTries 4 = .ok (.lconst 1, 1) := by decide +kernel
theorem dX8_meanOfTries_5 : decode cX8_meanOfTries 5 = .ok (.lstore 5, 2) := by decide +kernel
theorem dX8_meanOfTries_7 : decode cX8_meanOfTries 7 = .ok (.iconst 0, 1) := by decide +kernel
theorem dX8_meanOfTries_8 : decode cX8_meanOfTries 8 = .ok (.istore 7, 2) := by decide +kernel
theorem dX8_meanOfTries_10 : decode cX8_meanOfTries 10 = .ok (.iload 7, 2) := by decide +kernel
theorem dX8_meanOfTries_12 : decode cX8_meanOfTries 12 = .ok (.aload_n 0, 1) := by decide +kernel
theorem dX8_meanOfTries_13 : decode cX8_meanOfTries 13 = .ok (.getfield 12, 3) := by decide +kernel
theorem dX8_meanOfTries_16 : decode cX8_meanOfTries 16 = .ok (.getfield 178, 3) := by decide +kernel
theorem dX8_meanOfTries_19 : decode cX8_meanOfTries 19 = .ok (.invokevirtual 181, 3) := by decide +kernel
theorem dX8_meanOfTries_22 : decode cX8_meanOfTries 22 = .ok (.if_icmp .ge 58, 3) := by decide +kernel
theorem dX8_meanOfTries_25 : decode cX8_meanOfTries 25 = .ok (.iload 7, 2) := by decide +kernel
theorem dX8_meanOfTries_27 : decode cX8_meanOfTries 27 = .ok (.ifCond .le 9, 3) := by decide +kernel
theorem dX8_meanOfTries_30 : decode cX8_meanOfTries 30 = .ok (.lload_n 3, 1) := by decide +kernel
theorem dX8_meanOfTries_31 : decode cX8_meanOfTries 31 = .ok (.ldc2_w 318, 3) := by decide +kernel
theorem dX8_meanOfTries_34 : decode cX8_meanOfTries 34 = .ok (.lmul, 1) := by decide +kernel
theorem dX8_meanOfTries_35 : decode cX8_meanOfTries 35 = .ok (.lstore_n 3, 1) := by decide +kernel
theorem dX8_meanOfTries_36 : decode cX8_meanOfTries 36 = .ok (.lload_n 1, 1) := by decide +kernel
theorem dX8_meanOfTries_37 : decode cX8_meanOfTries 37 = .ok (.ldc2_w 318, 3) := by decide +kernel
theorem dX8_meanOfTries_40 : decode cX8_meanOfTries 40 = .ok (.lmul, 1) := by decide +kernel
theorem dX8_meanOfTries_41 : decode cX8_meanOfTries 41 = .ok (.lload 5, 2) := by decide +kernel
theorem dX8_meanOfTries_43 : decode cX8_meanOfTries 43 = .ok (.ladd, 1) := by decide +kernel
theorem dX8_meanOfTries_44 : decode cX8_meanOfTries 44 = .ok (.lstore_n 1, 1) := by decide +kernel
theorem dX8_meanOfTries_45 : decode cX8_meanOfTries 45 = .ok (.lload 5, 2) := by decide +kernel
theorem dX8_meanOfTries_47 : decode cX8_meanOfTries 47 = .ok (.bipush 10, 2) := by decide +kernel
theorem dX8_meanOfTries_49 : decode cX8_meanOfTries 49 = .ok (.aload_n 0, 1) := by decide +kernel
theorem dX8_meanOfTries_50 : decode cX8_meanOfTries 50 = .ok (.getfield 12, 3) := by decide +kernel
theorem dX8_meanOfTries_53 : decode cX8_meanOfTries 53 = .ok (.getfield 178, 3) := by decide +kernel
theorem dX8_meanOfTries_56 : decode cX8_meanOfTries 56 = .ok (.aload_n 0, 1) := by decide +kernel
theorem dX8_meanOfTries_57 : decode cX8_meanOfTries 57 = .ok (.getfield 49, 3) := by decide +kernel
theorem dX8_meanOfTries_60 : decode cX8_meanOfTries 60 = .ok (.iload 7, 2) := by decide +kernel
theorem dX8_meanOfTries_62 : decode cX8_meanOfTries 62 = .ok (.invokevirtual 206, 3) := by decide +kernel
theorem dX8_meanOfTries_65 : decode cX8_meanOfTries 65 = .ok (.iconst 3, 1) := by decide +kernel
theorem dX8_meanOfTries_66 : decode cX8_meanOfTries 66 = .ok (.invokevirtual 99, 3) := by decide +kernel
theorem dX8_meanOfTries_69 : decode cX8_meanOfTries 69 = .ok (.isub, 1) := by decide +kernel
theorem dX8_meanOfTries_70 : decode cX8_meanOfTries 70 = .ok (.i2l, 1) := by decide +kernel
theorem dX8_meanOfTries_71 : decode cX8_meanOfTries 71 = .ok (.lmul, 1) := by decide +kernel
theorem dX8_meanOfTries_72 : decode cX8_meanOfTries 72 = .ok (.lstore 5, 2) := by decide +kernel
theorem dX8_meanOfTries_74 : decode cX8_meanOfTries 74 = .ok (.iinc 7 1, 3) := by decide +kernel
theorem dX8_meanOfTries_77 : decode cX8_meanOfTries 77 = .ok (.goto (-67), 3) := by decide +kernel
theorem dX8_meanOfTries_80 : decode cX8_meanOfTries 80 = .ok (.aload_n 0, 1) := by decide +kernel
theorem dX8_meanOfTries_81 : decode cX8_meanOfTries 81 = .ok (.getfield 63, 3) := by decide +kernel
theorem dX8_meanOfTries_84 : decode cX8_meanOfTries 84 = .ok (.lload_n 1, 1) := by decide +kernel
theorem dX8_meanOfTries_85 : decode cX8_meanOfTries 85 = .ok (.lload_n 3, 1) := by decide +kernel
theorem dX8_meanOfTries_86 : decode cX8_meanOfTries 86 = .ok (.invokevirtual 320, 3) := by decide +kernel
theorem dX8_meanOfTries_89 : decode cX8_meanOfTries 89 = .ok (.return_, 1) := by decide +kernel
theorem dX8_meanOfNuts_0 : decode cX8_meanOfNuts 0 = .ok (.lconst 0, 1) := by decide +kernel
theorem dX8_meanOfNuts_1 : decode cX8_meanOfNuts 1 = .ok (.lstore_n 3, 1) := by decide +kernel
theorem dX8_meanOfNuts_2 : decode cX8_meanOfNuts 2 = .ok (.iconst 1, 1) := by decide +kernel
theorem dX8_meanOfNuts_3 : decode cX8_meanOfNuts 3 = .ok (.istore 5, 2) := by decide +kernel
theorem dX8_meanOfNuts_5 : decode cX8_meanOfNuts 5 = .ok (.iload 5, 2) := by decide +kernel
theorem dX8_meanOfNuts_7 : decode cX8_meanOfNuts 7 = .ok (.iload_n 1, 1) := by decide +kernel
theorem dX8_meanOfNuts_8 : decode cX8_meanOfNuts 8 = .ok (.if_icmp .gt 29, 3) := by decide +kernel
theorem dX8_meanOfNuts_11 : decode cX8_meanOfNuts 11 = .ok (.lload_n 3, 1) := by decide +kernel
theorem dX8_meanOfNuts_12 : decode cX8_meanOfNuts 12 = .ok (.iload 5, 2) := by decide +kernel
theorem dX8_meanOfNuts_14 : decode cX8_meanOfNuts 14 = .ok (.iconst 1, 1) := by decide +kernel
theorem dX8_meanOfNuts_15 : decode cX8_meanOfNuts 15 = .ok (.isub, 1) := by decide +kernel
theorem dX8_meanOfNuts_16 : decode cX8_meanOfNuts 16 = .ok (.iload 5, 2) := by decide +kernel
theorem dX8_meanOfNuts_18 : decode cX8_meanOfNuts 18 = .ok (.iconst 2, 1) := by decide +kernel
theorem dX8_meanOfNuts_19 : decode cX8_meanOfNuts 19 = .ok (.iadd, 1) := by decide +kernel
theorem dX8_meanOfNuts_20 : decode cX8_meanOfNuts 20 = .ok (.imul, 1) := by decide +kernel
theorem dX8_meanOfNuts_21 : decode cX8_meanOfNuts 21 = .ok (.iconst 2, 1) := by decide +kernel
theorem dX8_meanOfNuts_22 : decode cX8_meanOfNuts 22 = .ok (.idiv, 1) := by decide +kernel
theorem dX8_meanOfNuts_23 : decode cX8_meanOfNuts 23 = .ok (.iload_n 2, 1) := by decide +kernel
theorem dX8_meanOfNuts_24 : decode cX8_meanOfNuts 24 = .ok (.iload 5, 2) := by decide +kernel
theorem dX8_meanOfNuts_26 : decode cX8_meanOfNuts 26 = .ok (.idiv, 1) := by decide +kernel
theorem dX8_meanOfNuts_27 : decode cX8_meanOfNuts 27 = .ok (.imul, 1) := by decide +kernel
theorem dX8_meanOfNuts_28 : decode cX8_meanOfNuts 28 = .ok (.i2l, 1) := by decide +kernel
theorem dX8_meanOfNuts_29 : decode cX8_meanOfNuts 29 = .ok (.ladd, 1) := by decide +kernel
theorem dX8_meanOfNuts_30 : decode cX8_meanOfNuts 30 = .ok (.lstore_n 3, 1) := by decide +kernel
theorem dX8_meanOfNuts_31 : decode cX8_meanOfNuts 31 = .ok (.iinc 5 1, 3) := by decide +kernel
theorem dX8_meanOfNuts_34 : decode cX8_meanOfNuts 34 = .ok (.goto (-29), 3) := by decide +kernel
theorem dX8_meanOfNuts_37 : decode cX8_meanOfNuts 37 = .ok (.aload_n 0, 1) := by decide +kernel
theorem dX8_meanOfNuts_38 : decode cX8_meanOfNuts 38 = .ok (.getfield 63, 3) := by decide +kernel
theorem dX8_meanOfNuts_41 : decode cX8_meanOfNuts 41 = .ok (.lload_n 3, 1) := by decide +kernel
theorem dX8_meanOfNuts_42 : decode cX8_meanOfNuts 42 = .ok (.iload_n 2, 1) := by decide +kernel
theorem dX8_meanOfNuts_43 : decode cX8_meanOfNuts 43 = .ok (.i2l, 1) := by decide +kernel
theorem dX8_meanOfNuts_44 : decode cX8_meanOfNuts 44 = .ok (.invokevirtual 320, 3) := by decide +kernel
theorem dX8_meanOfNuts_47 : decode cX8_meanOfNuts 47 = .ok (.return_, 1) := by decide +kernel
theorem dX8_factorial_0 : decode cX8_factorial 0 = .ok (.iconst 1, 1) := by decide +kernel
theorem dX8_factorial_1 : decode cX8_factorial 1 = .ok (.istore_n 1, 1) := by decide +kernel
theorem dX8_factorial_2 : decode cX8_factorial 2 = .ok (.iconst 2, 1) := by decide +kernel
theorem dX8_factorial_3 : decode cX8_factorial 3 = .ok (.istore_n 2, 1) := by decide +kernel
theorem dX8_factorial_4 : decode cX8_factorial 4 = .ok (.iload_n 2, 1) := by decide +kernel
theorem dX8_factorial_5 : decode cX8_factorial 5 = .ok (.iload_n 0, 1) := by decide +kernel
theorem dX8_factorial_6 : decode cX8_factorial 6 = .ok (.if_icmp .gt 13, 3) := by decide +kernel
theorem dX8_factorial_9 : decode cX8_factorial 9 = .ok (.iload_n 1, 1) := by decide +kernel
theorem dX8_factorial_10 : decode cX8_factorial 10 = .ok (.iload_n 2, 1) := by decide +kernel
theorem dX8_factorial_11 : decode cX8_factorial 11 = .ok (.imul, 1) := by decide +kernel
theorem dX8_factorial_12 : decode cX8_factorial 12 = .ok (.istore_n 1, 1) := by decide +kernel
theorem dX8_factorial_13 : decode cX8_factorial 13 = .ok (.iinc 2 1, 3) := by decide +kernel
theorem dX8_factorial_16 : decode cX8_factorial 16 = .ok (.goto (-12), 3) := by decide +kernel
theorem dX8_factorial_19 : decode cX8_factorial 19 = .ok (.iload_n 1, 1) := by decide +kernel
theorem dX8_factorial_20 : decode cX8_factorial 20 = .ok (.ireturn, 1) := by decide +kernel
theorem dL_law_0 : decode cL_law 0 = .ok (.new 7, 3) := by decide +kernel
theorem dL_law_3 : decode cL_law 3 = .ok (.dup, 1) := by decide +kernel
theorem dL_law_4 : decode cL_law 4 = .ok (.invokespecial 9, 3) := by decide +kernel
theorem dL_law_7 : decode cL_law 7 = .ok (.astore_n 1, 1) := by decide +kernel
theorem dL_law_8 : decode cL_law 8 = .ok (.new 10, 3) := by decide +kernel
theorem dL_law_11 : decode cL_law 11 = .ok (.dup, 1) := by decide +kernel
theorem dL_law_12 : decode cL_law 12 = .ok (.invokespecial 12, 3) := by decide +kernel
theorem dL_law_15 : decode cL_law 15 = .ok (.astore_n 2, 1) := by decide +kernel
theorem dL_law_16 : decode cL_law 16 = .ok (.iconst 0, 1) := by decide +kernel
theorem dL_law_17 : decode cL_law 17 = .ok (.istore_n 3, 1) := by decide +kernel
theorem dL_law_18 : decode cL_law 18 = .ok (.iload_n 3, 1) := by decide +kernel
theorem dL_law_19 : decode cL_law 19 = .ok (.aload_n 0, 1) := by decide +kernel
theorem dL_law_20 : decode cL_law 20 = .ok (.arraylength, 1) := by decide +kernel
theorem dL_law_21 : decode cL_law 21 = .ok (.iconst 5, 1) := by decide +kernel
theorem dL_law_22 : decode cL_law 22 = .ok (.isub, 1) := by decide +kernel
theorem dL_law_23 : decode cL_law 23 = .ok (.if_icmp .gt 1132, 3) := by decide +kernel
theorem dL_law_26 : decode cL_law 26 = .ok (.aload_n 0, 1) := by decide +kernel
theorem dL_law_27 : decode cL_law 27 = .ok (.iload_n 3, 1) := by decide +kernel
theorem dL_law_28 : decode cL_law 28 = .ok (.iaload, 1) := by decide +kernel
theorem dL_law_29 : decode cL_law 29 = .ok (.bipush 63, 2) := by decide +kernel
theorem dL_law_31 : decode cL_law 31 = .ok (.iand, 1) := by decide +kernel
theorem dL_law_32 : decode cL_law 32 = .ok (.tableswitch 1117 0 36 #[164, 207, 250, 283, 306, 319, 342, 375, 428, 461, 484, 497, 510, 533, 556, 569, 602, 615, 638, 651, 674, 697, 720, 743, 776, 819, 842, 855, 898, 921, 954, 987, 1011, 1034, 1057, 1080, 1103], 164) := by decide +kernel
theorem dL_law_196 : decode cL_law 196 = .ok (.aload_n 1, 1) := by decide +kernel
theorem dL_law_197 : decode cL_law 197 = .ok (.aload_n 0, 1) := by decide +kernel
theorem dL_law_198 : decode cL_law 198 = .ok (.iload_n 3, 1) := by decide +kernel
theorem dL_law_199 : decode cL_law 199 = .ok (.iconst 1, 1) := by decide +kernel
theorem dL_law_200 : decode cL_law 200 = .ok (.iadd, 1) := by decide +kernel
theorem dL_law_201 : decode cL_law 201 = .ok (.iaload, 1) := by decide +kernel
theorem dL_law_202 : decode cL_law 202 = .ok (.aload_n 0, 1) := by decide +kernel
theorem dL_law_203 : decode cL_law 203 = .ok (.iload_n 3, 1) := by decide +kernel
theorem dL_law_204 : decode cL_law 204 = .ok (.iconst 2, 1) := by decide +kernel
theorem dL_law_205 : decode cL_law 205 = .ok (.iadd, 1) := by decide +kernel
theorem dL_law_206 : decode cL_law 206 = .ok (.iaload, 1) := by decide +kernel
theorem dL_law_207 : decode cL_law 207 = .ok (.aload_n 0, 1) := by decide +kernel
theorem dL_law_208 : decode cL_law 208 = .ok (.iload_n 3, 1) := by decide +kernel
theorem dL_law_209 : decode cL_law 209 = .ok (.iconst 3, 1) := by decide +kernel
theorem dL_law_210 : decode cL_law 210 = .ok (.iadd, 1) := by decide +kernel
theorem dL_law_211 : decode cL_law 211 = .ok (.iaload, 1) := by decide +kernel
theorem dL_law_212 : decode cL_law 212 = .ok (.invokevirtual 13, 3) := by decide +kernel
theorem dL_law_215 : decode cL_law 215 = .ok (.aload_n 2, 1) := by decide +kernel
theorem dL_law_216 : decode cL_law 216 = .ok (.aload_n 0, 1) := by decide +kernel
theorem dL_law_217 : decode cL_law 217 = .ok (.iload_n 3, 1) := by decide +kernel
theorem dL_law_218 : decode cL_law 218 = .ok (.iconst 1, 1) := by decide +kernel
theorem dL_law_219 : decode cL_law 219 = .ok (.iadd, 1) := by decide +kernel
theorem dL_law_220 : decode cL_law 220 = .ok (.iaload, 1) := by decide +kernel
theorem dL_law_221 : decode cL_law 221 = .ok (.aload_n 0, 1) := by decide +kernel
theorem dL_law_222 : decode cL_law 222 = .ok (.iload_n 3, 1) := by decide +kernel
theorem dL_law_223 : decode cL_law 223 = .ok (.iconst 2, 1) := by decide +kernel
theorem dL_law_224 : decode cL_law 224 = .ok (.iadd, 1) := by decide +kernel
theorem dL_law_225 : decode cL_law 225 = .ok (.iaload, 1) := by decide +kernel
theorem dL_law_226 : decode cL_law 226 = .ok (.aload_n 0, 1) := by decide +kernel
theorem dL_law_227 : decode cL_law 227 = .ok (.iload_n 3, 1) := by decide +kernel
theorem dL_law_228 : decode cL_law 228 = .ok (.iconst 3, 1) := by decide +kernel
theorem dL_law_229 : decode cL_law 229 = .ok (.iadd, 1) := by decide +kernel
theorem dL_law_230 : decode cL_law 230 = .ok (.iaload, 1) := by decide +kernel
theorem dL_law_231 : decode cL_law 231 = .ok (.invokevirtual 17, 3) := by decide +kernel
theorem dL_law_234 : decode cL_law 234 = .ok (.if_icmp .eq 915, 3) := by decide +kernel
theorem dL_law_237 : decode cL_law 237 = .ok (.iconst 0, 1) := by decide +kernel
theorem dL_law_238 : decode cL_law 238 = .ok (.ireturn, 1) := by decide +kernel
theorem dL_law_239 : decode cL_law 239 = .ok (.aload_n 1, 1) := by decide +kernel
theorem dL_law_240 : decode cL_law 240 = .ok (.aload_n 0, 1) := by decide +kernel
theorem dL_law_241 : decode cL_law 241 = .ok (.iload_n 3, 1) := by decide +kernel
theorem dL_law_242 : decode cL_law 242 = .ok (.iconst 1, 1) := by decide +kernel
theorem dL_law_243 : decode cL_law 243 = .ok (.iadd, 1) := by decide +kernel
theorem dL_law_244 : decode cL_law 244 = .ok (.iaload, 1) := by decide +kernel
theorem dL_law_245 : decode cL_law 245 = .ok (.aload_n 0, 1) := by decide +kernel
theorem dL_law_246 : decode cL_law 246 = .ok (.iload_n 3, 1) := by decide +kernel
theorem dL_law_247 : decode cL_law 247 = .ok (.iconst 2, 1) := by decide +kernel
theorem dL_law_248 : decode cL_law 248 = .ok (.iadd, 1) := by decide +kernel
theorem dL_law_249 : decode cL_law 249 = .ok (.iaload, 1) := by decide +kernel
theorem dL_law_250 : decode cL_law 250 = .ok (.aload_n 0, 1) := by decide +kernel
theorem dL_law_251 : decode cL_law 251 = .ok (.iload_n 3, 1) := by decide +kernel
theorem dL_law_252 : decode cL_law 252 = .ok (.iconst 3, 1) := by decide +kernel
theorem dL_law_253 : decode cL_law 253 = .ok (.iadd, 1) := by decide +kernel
theorem dL_law_254 : decode cL_law 254 = .ok (.iaload, 1) := by decide +kernel
theorem dL_law_255 : decode cL_law 255 = .ok (.invokevirtual 18, 3) := by decide +kernel
theorem dL_law_258 : decode cL_law 258 = .ok (.aload_n 2, 1) := by decide +kernel
theorem dL_law_259 : decode cL_law 259 = .ok (.aload_n 0, 1) := by decide +kernel
theorem dL_law_260 : decode cL_law 260 = .ok (.iload_n 3, 1) := by decide +kernel
theorem dL_law_261 : decode cL_law 261 = .ok (.iconst 1, 1) := by decide +kernel
theorem dL_law_262 : decode cL_law 262 = .ok (.iadd, 1) := by decide +kernel
theorem dL_law_263 : decode cL_law 263 = .ok (.iaload, 1) := by decide +kernel
theorem dL_law_264 : decode cL_law 264 = .ok (.aload_n 0, 1) := by decide +kernel
theorem dL_law_265 : decode cL_law 265 = .ok (.iload_n 3, 1) := by decide +kernel
theorem dL_law_266 : decode cL_law 266 = .ok (.iconst 2, 1) := by decide +kernel
theorem dL_law_267 : decode cL_law 267 = .ok (.iadd, 1) := by decide +kernel
theorem dL_law_268 : decode cL_law 268 = .ok (.iaload, 1) := by decide +kernel
theorem dL_law_269 : decode cL_law 269 = .ok (.aload_n 0, 1) := by decide +kernel
theorem dL_law_270 : decode cL_law 270 = .ok (.iload_n 3, 1) := by decide +kernel
theorem dL_law_271 : decode cL_law 271 = .ok (.iconst 3, 1) := by decide +kernel
theorem dL_law_272 : decode cL_law 272 = .ok (.iadd, 1) := by decide +kernel
theorem dL_law_273 : decode cL_law 273 = .ok (.iaload, 1) := by decide +kernel
theorem dL_law_274 : decode cL_law 274 = .ok (.invokevirtual 21, 3) := by decide +kernel
theorem dL_law_277 : decode cL_law 277 = .ok (.if_icmp .eq 872, 3) := by decide +kernel
theorem dL_law_280 : decode cL_law 280 = .ok (.iconst 0, 1) := by decide +kernel
theorem dL_law_281 : decode cL_law 281 = .ok (.ireturn, 1) := by decide +kernel
theorem dL_law_282 : decode cL_law 282 = .ok (.aload_n 1, 1) := by decide +kernel
theorem dL_law_283 : decode cL_law 283 = .ok (.aload_n 0, 1) := by decide +kernel
theorem dL_law_284 : decode cL_law 284 = .ok (.iload_n 3, 1) := by decide +kernel
theorem dL_law_285 : decode cL_law 285 = .ok (.iconst 1, 1) := by decide +kernel
theorem dL_law_286 : decode cL_law 286 = .ok (.iadd, 1) := by decide +kernel
theorem dL_law_287 : decode cL_law 287 = .ok (.iaload, 1) := by decide +kernel
theorem dL_law_288 : decode cL_law 288 = .ok (.aload_n 0, 1) := by decide +kernel
theorem dL_law_289 : decode cL_law 289 = .ok (.iload_n 3, 1) := by decide +kernel
theorem dL_law_290 : decode cL_law 290 = .ok (.iconst 2, 1) := by decide +kernel
theorem dL_law_291 : decode cL_law 291 = .ok (.iadd, 1) := by decide +kernel
theorem dL_law_292 : decode cL_law 292 = .ok (.iaload, 1) := by decide +kernel
theorem dL_law_293 : decode cL_law 293 = .ok (.invokevirtual 22, 3) := by decide +kernel
theorem dL_law_296 : decode cL_law 296 = .ok (.aload_n 2, 1) := by decide +kernel
theorem dL_law_297 : decode cL_law 297 = .ok (.aload_n 0, 1) := by decide +kernel
theorem dL_law_298 : decode cL_law 298 = .ok (.iload_n 3, 1) := by decide +kernel
theorem dL_law_299 : decode cL_law 299 = .ok (.iconst 1, 1) := by decide +kernel
theorem dL_law_300 : decode cL_law 300 = .ok (.iadd, 1) := by decide +kernel
theorem dL_law_301 : decode cL_law 301 = .ok (.iaload, 1) := by decide +kernel
theorem dL_law_302 : decode cL_law 302 = .ok (.aload_n 0, 1) := by decide +kernel
theorem dL_law_303 : decode cL_law 303 = .ok (.iload_n 3, 1) := by decide +kernel
theorem dL_law_304 : decode cL_law 304 = .ok (.iconst 2, 1) := by decide +kernel
theorem dL_law_305 : decode cL_law 305 = .ok (.iadd, 1) := by decide +kernel
theorem dL_law_306 : decode cL_law 306 = .ok (.iaload, 1) := by decide +kernel
theorem dL_law_307 : decode cL_law 307 = .ok (.invokevirtual 26, 3) := by decide +kernel
theorem dL_law_310 : decode cL_law 310 = .ok (.if_icmp .eq 839, 3) := by decide +kernel
theorem dL_law_313 : decode cL_law 313 = .ok (.iconst 0, 1) := by decide +kernel
theorem dL_law_314 : decode cL_law 314 = .ok (.ireturn, 1) := by decide +kernel
theorem dL_law_315 : decode cL_law 315 = .ok (.aload_n 1, 1) := by decide +kernel
theorem dL_law_316 : decode cL_law 316 = .ok (.aload_n 0, 1) := by decide +kernel
theorem dL_law_317 : decode cL_law 317 = .ok (.iload_n 3, 1) := by decide +kernel
theorem dL_law_318 : decode cL_law 318 = .ok (.iconst 1, 1) := by decide +kernel
theorem dL_law_319 : decode cL_law 319 = .ok (.iadd, 1) := by decide +kernel
theorem dL_law_320 : decode cL_law 320 = .ok (.iaload, 1) := by decide +kernel
theorem dL_law_321 : decode cL_law 321 = .ok (.invokevirtual 27, 3) := by decide +kernel
theorem dL_law_324 : decode cL_law 324 = .ok (.aload_n 2, 1) := by decide +kernel
theorem dL_law_325 : decode cL_law 325 = .ok (.aload_n 0, 1) := by decide +kernel
theorem dL_law_326 : decode cL_law 326 = .ok (.iload_n 3, 1) := by decide +kernel
theorem dL_law_327 : decode cL_law 327 = .ok (.iconst 1, 1) := by decide +kernel
theorem dL_law_328 : decode cL_law 328 = .ok (.iadd, 1) := by decide +kernel
theorem dL_law_329 : decode cL_law 329 = .ok (.iaload, 1) := by decide +kernel
theorem dL_law_330 : decode cL_law 330 = .ok (.invokevirtual 31, 3) := by decide +kernel
theorem dL_law_333 : decode cL_law 333 = .ok (.if_icmp .eq 816, 3) := by decide +kernel
theorem dL_law_336 : decode cL_law 336 = .ok (.iconst 0, 1) := by decide +kernel
theorem dL_law_337 : decode cL_law 337 = .ok (.ireturn, 1) := by decide +kernel
theorem dL_law_338 : decode cL_law 338 = .ok (.aload_n 1, 1) := by decide +kernel
theorem dL_law_339 : decode cL_law 339 = .ok (.invokevirtual 32, 3) := by decide +kernel
theorem dL_law_342 : decode cL_law 342 = .ok (.aload_n 2, 1) := by decide +kernel
theorem dL_law_343 : decode cL_law 343 = .ok (.invokevirtual 36, 3) := by decide +kernel
theorem dL_law_346 : decode cL_law 346 = .ok (.if_icmp .eq 803, 3) := by decide +kernel
theorem dL_law_349 : decode cL_law 349 = .ok (.iconst 0, 1) := by decide +kernel
theorem dL_law_350 : decode cL_law 350 = .ok (.ireturn, 1) := by decide +kernel
theorem dL_law_351 : decode cL_law 351 = .ok (.aload_n 1, 1) := by decide +kernel
theorem dL_law_352 : decode cL_law 352 = .ok (.aload_n 0, 1) := by decide +kernel
theorem dL_law_353 : decode cL_law 353 = .ok (.iload_n 3, 1) := by decide +kernel
theorem dL_law_354 : decode cL_law 354 = .ok (.iconst 1, 1) := by decide +kernel
theorem dL_law_355 : decode cL_law 355 = .ok (.iadd, 1) := by decide +kernel
theorem dL_law_356 : decode cL_law 356 = .ok (.iaload, 1) := by decide +kernel
theorem dL_law_357 : decode cL_law 357 = .ok (.invokevirtual 37, 3) := by decide +kernel
theorem dL_law_360 : decode cL_law 360 = .ok (.aload_n 2, 1) := by decide +kernel
theorem dL_law_361 : decode cL_law 361 = .ok (.aload_n 0, 1) := by decide +kernel
theorem dL_law_362 : decode cL_law 362 = .ok (.iload_n 3, 1) := by decide +kernel
theorem dL_law_363 : decode cL_law 363 = .ok (.iconst 1, 1) := by decide +kernel
theorem dL_law_364 : decode cL_law 364 = .ok (.iadd, 1) := by decide +kernel
theorem dL_law_365 : decode cL_law 365 = .ok (.iaload, 1) := by decide +kernel
theorem dL_law_366 : decode cL_law 366 = .ok (.invokevirtual 40, 3) := by decide +kernel
theorem dL_law_369 : decode cL_law 369 = .ok (.if_icmp .eq 780, 3) := by decide +kernel
theorem dL_law_372 : decode cL_law 372 = .ok (.iconst 0, 1) := by decide +kernel
theorem dL_law_373 : decode cL_law 373 = .ok (.ireturn, 1) := by decide +kernel
theorem dL_law_374 : decode cL_law 374 = .ok (.aload_n 1, 1) := by decide +kernel
theorem dL_law_375 : decode cL_law 375 = .ok (.aload_n 0, 1) := by decide +kernel
theorem dL_law_376 : decode cL_law 376 = .ok (.iload_n 3, 1) := by decide +kernel
theorem dL_law_377 : decode cL_law 377 = .ok (.iconst 1, 1) := by decide +kernel
theorem dL_law_378 : decode cL_law 378 = .ok (.iadd, 1) := by decide +kernel
theorem dL_law_379 : decode cL_law 379 = .ok (.iaload, 1) := by decide +kernel
theorem dL_law_380 : decode cL_law 380 = .ok (.aload_n 0, 1) := by decide +kernel
theorem dL_law_381 : decode cL_law 381 = .ok (.iload_n 3, 1) := by decide +kernel
theorem dL_law_382 : decode cL_law 382 = .ok (.iconst 2, 1) := by decide +kernel
theorem dL_law_383 : decode cL_law 383 = .ok (.iadd, 1) := by decide +kernel
theorem dL_law_384 : decode cL_law 384 = .ok (.iaload, 1) := by decide +kernel
theorem dL_law_385 : decode cL_law 385 = .ok (.invokevirtual 41, 3) := by decide +kernel
theorem dL_law_388 : decode cL_law 388 = .ok (.aload_n 2, 1) := by decide +kernel
theorem dL_law_389 : decode cL_law 389 = .ok (.aload_n 0, 1) := by decide +kernel
theorem dL_law_390 : decode cL_law 390 = .ok (.iload_n 3, 1) := by decide +kernel
theorem dL_law_391 : decode cL_law 391 = .ok (.iconst 1, 1) := by decide +kernel
theorem dL_law_392 : decode cL_law 392 = .ok (.iadd, 1) := by decide +kernel
theorem dL_law_393 : decode cL_law 393 = .ok (.iaload, 1) := by decide +kernel
theorem dL_law_394 : decode cL_law 394 = .ok (.aload_n 0, 1) := by decide +kernel
theorem dL_law_395 : decode cL_law 395 = .ok (.iload_n 3, 1) := by decide +kernel
theorem dL_law_396 : decode cL_law 396 = .ok (.iconst 2, 1) := by decide +kernel
theorem dL_law_397 : decode cL_law 397 = .ok (.iadd, 1) := by decide +kernel
theorem dL_law_398 : decode cL_law 398 = .ok (.iaload, 1) := by decide +kernel
theorem dL_law_399 : decode cL_law 399 = .ok (.invokevirtual 44, 3) := by decide +kernel
theorem dL_law_402 : decode cL_law 402 = .ok (.if_icmp .eq 747, 3) := by decide +kernel
theorem dL_law_405 : decode cL_law 405 = .ok (.iconst 0, 1) := by decide +kernel
theorem dL_law_406 : decode cL_law 406 = .ok (.ireturn, 1) := by decide +kernel
theorem dL_law_407 : decode cL_law 407 = .ok (.aload_n 1, 1) := by decide +kernel
theorem dL_law_408 : decode cL_law 408 = .ok (.aload_n 0, 1) := by decide +kernel
theorem dL_law_409 : decode cL_law 409 = .ok (.iload_n 3, 1) := by decide +kernel
theorem dL_law_410 : decode cL_law 410 = .ok (.iconst 1, 1) := by decide +kernel
theorem dL_law_411 : decode cL_law 411 = .ok (.iadd, 1) := by decide +kernel
theorem dL_law_412 : decode cL_law 412 = .ok (.iaload, 1) := by decide +kernel
theorem dL_law_413 : decode cL_law 413 = .ok (.aload_n 0, 1) := by decide +kernel
theorem dL_law_414 : decode cL_law 414 = .ok (.iload_n 3, 1) := by decide +kernel
theorem dL_law_415 : decode cL_law 415 = .ok (.iconst 2, 1) := by decide +kernel
theorem dL_law_416 : decode cL_law 416 = .ok (.iadd, 1) := by decide +kernel
theorem dL_law_417 : decode cL_law 417 = .ok (.iaload, 1) := by decide +kernel
theorem dL_law_418 : decode cL_law 418 = .ok (.aload_n 0, 1) := by decide +kernel
theorem dL_law_419 : decode cL_law 419 = .ok (.iload_n 3, 1) := by decide +kernel
theorem dL_law_420 : decode cL_law 420 = .ok (.iconst 3, 1) := by decide +kernel
theorem dL_law_421 : decode cL_law 421 = .ok (.iadd, 1) := by decide +kernel
theorem dL_law_422 : decode cL_law 422 = .ok (.iaload, 1) := by decide +kernel
theorem dL_law_423 : decode cL_law 423 = .ok (.aload_n 0, 1) := by decide +kernel
theorem dL_law_424 : decode cL_law 424 = .ok (.iload_n 3, 1) := by decide +kernel
theorem dL_law_425 : decode cL_law 425 = .ok (.iconst 4, 1) := by decide +kernel
theorem dL_law_426 : decode cL_law 426 = .ok (.iadd, 1) := by decide +kernel
theorem dL_law_427 : decode cL_law 427 = .ok (.iaload, 1) := by decide +kernel
theorem dL_law_428 : decode cL_law 428 = .ok (.invokevirtual 45, 3) := by decide +kernel
theorem dL_law_431 : decode cL_law 431 = .ok (.aload_n 2, 1) := by decide +kernel
theorem dL_law_432 : decode cL_law 432 = .ok (.aload_n 0, 1) := by decide +kernel
theorem dL_law_433 : decode cL_law 433 = .ok (.iload_n 3, 1) := by decide +kernel
theorem dL_law_434 : decode cL_law 434 = .ok (.iconst 1, 1) := by decide +kernel
theorem dL_law_435 : decode cL_law 435 = .ok (.iadd, 1) := by decide +kernel
theorem dL_law_436 : decode cL_law 436 = .ok (.iaload, 1) := by decide +kernel
theorem dL_law_437 : decode cL_law 437 = .ok (.aload_n 0, 1) := by decide +kernel
theorem dL_law_438 : decode cL_law 438 = .ok (.iload_n 3, 1) := by decide +kernel
theorem dL_law_439 : decode cL_law 439 = .ok (.iconst 2, 1) := by decide +kernel
theorem dL_law_440 : decode cL_law 440 = .ok (.iadd, 1) := by decide +kernel
theorem dL_law_441 : decode cL_law 441 = .ok (.iaload, 1) := by decide +kernel
theorem dL_law_442 : decode cL_law 442 = .ok (.aload_n 0, 1) := by decide +kernel
theorem dL_law_443 : decode cL_law 443 = .ok (.iload_n 3, 1) := by decide +kernel
theorem dL_law_444 : decode cL_law 444 = .ok (.iconst 3, 1) := by decide +kernel
theorem dL_law_445 : decode cL_law 445 = .ok (.iadd, 1) := by decide +kernel
theorem dL_law_446 : decode cL_law 446 = .ok (.iaload, 1) := by decide +kernel
theorem dL_law_447 : decode cL_law 447 = .ok (.aload_n 0, 1) := by decide +kernel
theorem dL_law_448 : decode cL_law 448 = .ok (.iload_n 3, 1) := by decide +kernel
theorem dL_law_449 : decode cL_law 449 = .ok (.iconst 4, 1) := by decide +kernel
theorem dL_law_450 : decode cL_law 450 = .ok (.iadd, 1) := by decide +kernel
theorem dL_law_451 : decode cL_law 451 = .ok (.iaload, 1) := by decide +kernel
theorem dL_law_452 : decode cL_law 452 = .ok (.invokevirtual 49, 3) := by decide +kernel
theorem dL_law_455 : decode cL_law 455 = .ok (.if_icmp .eq 694, 3) := by decide +kernel
theorem dL_law_458 : decode cL_law 458 = .ok (.iconst 0, 1) := by decide +kernel
theorem dL_law_459 : decode cL_law 459 = .ok (.ireturn, 1) := by decide +kernel
theorem dL_law_460 : decode cL_law 460 = .ok (.aload_n 1, 1) := by decide +kernel
theorem dL_law_461 : decode cL_law 461 = .ok (.aload_n 0, 1) := by decide +kernel
theorem dL_law_462 : decode cL_law 462 = .ok (.iload_n 3, 1) := by decide +kernel
theorem dL_law_463 : decode cL_law 463 = .ok (.iconst 1, 1) := by decide +kernel
theorem dL_law_464 : decode cL_law 464 = .ok (.iadd, 1) := by decide +kernel
theorem dL_law_465 : decode cL_law 465 = .ok (.iaload, 1) := by decide +kernel
theorem dL_law_466 : decode cL_law 466 = .ok (.aload_n 0, 1) := by decide +kernel
theorem dL_law_467 : decode cL_law 467 = .ok (.iload_n 3, 1) := by decide +kernel
theorem dL_law_468 : decode cL_law 468 = .ok (.iconst 2, 1) := by decide +kernel
theorem dL_law_469 : decode cL_law 469 = .ok (.iadd, 1) := by decide +kernel
theorem dL_law_470 : decode cL_law 470 = .ok (.iaload, 1) := by decide +kernel
theorem dL_law_471 : decode cL_law 471 = .ok (.invokevirtual 50, 3) := by decide +kernel
theorem dL_law_474 : decode cL_law 474 = .ok (.aload_n 2, 1) := by decide +kernel
theorem dL_law_475 : decode cL_law 475 = .ok (.aload_n 0, 1) := by decide +kernel
theorem dL_law_476 : decode cL_law 476 = .ok (.iload_n 3, 1) := by decide +kernel
theorem dL_law_477 : decode cL_law 477 = .ok (.iconst 1, 1) := by decide +kernel
theorem dL_law_478 : decode cL_law 478 = .ok (.iadd, 1) := by decide +kernel
theorem dL_law_479 : decode cL_law 479 = .ok (.iaload, 1) := by decide +kernel
theorem dL_law_480 : decode cL_law 480 = .ok (.aload_n 0, 1) := by decide +kernel
theorem dL_law_481 : decode cL_law 481 = .ok (.iload_n 3, 1) := by decide +kernel
theorem dL_law_482 : decode cL_law 482 = .ok (.iconst 2, 1) := by decide +kernel
theorem dL_law_483 : decode cL_law 483 = .ok (.iadd, 1) := by decide +kernel
theorem dL_law_484 : decode cL_law 484 = .ok (.iaload, 1) := by decide +kernel
theorem dL_law_485 : decode cL_law 485 = .ok (.invokevirtual 53, 3) := by decide +kernel
theorem dL_law_488 : decode cL_law 488 = .ok (.if_icmp .eq 661, 3) := by decide +kernel
theorem dL_law_491 : decode cL_law 491 = .ok (.iconst 0, 1) := by decide +kernel
theorem dL_law_492 : decode cL_law 492 = .ok (.ireturn, 1) := by decide +kernel
theorem dL_law_493 : decode cL_law 493 = .ok (.aload_n 1, 1) := by decide +kernel
theorem dL_law_494 : decode cL_law 494 = .ok (.aload_n 0, 1) := by decide +kernel
theorem dL_law_495 : decode cL_law 495 = .ok (.iload_n 3, 1) := by decide +kernel
theorem dL_law_496 : decode cL_law 496 = .ok (.iconst 1, 1) := by decide +kernel
theorem dL_law_497 : decode cL_law 497 = .ok (.iadd, 1) := by decide +kernel
theorem dL_law_498 : decode cL_law 498 = .ok (.iaload, 1) := by decide +kernel
theorem dL_law_499 : decode cL_law 499 = .ok (.invokevirtual 54, 3) := by decide +kernel
theorem dL_law_502 : decode cL_law 502 = .ok (.aload_n 2, 1) := by decide +kernel
theorem dL_law_503 : decode cL_law 503 = .ok (.aload_n 0, 1) := by decide +kernel
theorem dL_law_504 : decode cL_law 504 = .ok (.iload_n 3, 1) := by decide +kernel
theorem dL_law_505 : decode cL_law 505 = .ok (.iconst 1, 1) := by decide +kernel
theorem dL_law_506 : decode cL_law 506 = .ok (.iadd, 1) := by decide +kernel
theorem dL_law_507 : decode cL_law 507 = .ok (.iaload, 1) := by decide +kernel
theorem dL_law_508 : decode cL_law 508 = .ok (.invokevirtual 57, 3) := by decide +kernel
theorem dL_law_511 : decode cL_law 511 = .ok (.if_icmp .eq 638, 3) := by decide +kernel
theorem dL_law_514 : decode cL_law 514 = .ok (.iconst 0, 1) := by decide +kernel
theorem dL_law_515 : decode cL_law 515 = .ok (.ireturn, 1) := by decide +kernel
theorem dL_law_516 : decode cL_law 516 = .ok (.aload_n 1, 1) := by decide +kernel
theorem dL_law_517 : decode cL_law 517 = .ok (.invokevirtual 58, 3) := by decide +kernel
theorem dL_law_520 : decode cL_law 520 = .ok (.aload_n 2, 1) := by decide +kernel
theorem dL_law_521 : decode cL_law 521 = .ok (.invokevirtual 61, 3) := by decide +kernel
theorem dL_law_524 : decode cL_law 524 = .ok (.if_icmp .eq 625, 3) := by decide +kernel
theorem dL_law_527 : decode cL_law 527 = .ok (.iconst 0, 1) := by decide +kernel
theorem dL_law_528 : decode cL_law 528 = .ok (.ireturn, 1) := by decide +kernel
theorem dL_law_529 : decode cL_law 529 = .ok (.aload_n 1, 1) := by decide +kernel
theorem dL_law_530 : decode cL_law 530 = .ok (.invokevirtual 62, 3) := by decide +kernel
theorem dL_law_533 : decode cL_law 533 = .ok (.aload_n 2, 1) := by decide +kernel
theorem dL_law_534 : decode cL_law 534 = .ok (.invokevirtual 65, 3) := by decide +kernel
theorem dL_law_537 : decode cL_law 537 = .ok (.if_icmp .eq 612, 3) := by decide +kernel
theorem dL_law_540 : decode cL_law 540 = .ok (.iconst 0, 1) := by decide +kernel
theorem dL_law_541 : decode cL_law 541 = .ok (.ireturn, 1) := by decide +kernel
theorem dL_law_542 : decode cL_law 542 = .ok (.aload_n 1, 1) := by decide +kernel
theorem dL_law_543 : decode cL_law 543 = .ok (.aload_n 0, 1) := by decide +kernel
theorem dL_law_544 : decode cL_law 544 = .ok (.iload_n 3, 1) := by decide +kernel
theorem dL_law_545 : decode cL_law 545 = .ok (.iconst 1, 1) := by decide +kernel
theorem dL_law_546 : decode cL_law 546 = .ok (.iadd, 1) := by decide +kernel
theorem dL_law_547 : decode cL_law 547 = .ok (.iaload, 1) := by decide +kernel
theorem dL_law_548 : decode cL_law 548 = .ok (.invokevirtual 66, 3) := by decide +kernel
theorem dL_law_551 : decode cL_law 551 = .ok (.aload_n 2, 1) := by decide +kernel
theorem dL_law_552 : decode cL_law 552 = .ok (.aload_n 0, 1) := by decide +kernel
theorem dL_law_553 : decode cL_law 553 = .ok (.iload_n 3, 1) := by decide +kernel
theorem dL_law_554 : decode cL_law 554 = .ok (.iconst 1, 1) := by decide +kernel
theorem dL_law_555 : decode cL_law 555 = .ok (.iadd, 1) := by decide +kernel
theorem dL_law_556 : decode cL_law 556 = .ok (.iaload, 1) := by decide +kernel
theorem dL_law_557 : decode cL_law 557 = .ok (.invokevirtual 69, 3) := by decide +kernel
theorem dL_law_560 : decode cL_law 560 = .ok (.if_icmp .eq 589, 3) := by decide +kernel
theorem dL_law_563 : decode cL_law 563 = .ok (.iconst 0, 1) := by decide +kernel
theorem dL_law_564 : decode cL_law 564 = .ok (.ireturn, 1) := by decide +kernel
theorem dL_law_565 : decode cL_law 565 = .ok (.aload_n 1, 1) := by decide +kernel
theorem dL_law_566 : decode cL_law 566 = .ok (.aload_n 0, 1) := by decide +kernel
theorem dL_law_567 : decode cL_law 567 = .ok (.iload_n 3, 1) := by decide +kernel
theorem dL_law_568 : decode cL_law 568 = .ok (.iconst 1, 1) := by decide +kernel
theorem dL_law_569 : decode cL_law 569 = .ok (.iadd, 1) := by decide +kernel
theorem dL_law_570 : decode cL_law 570 = .ok (.iaload, 1) := by decide +kernel
theorem dL_law_571 : decode cL_law 571 = .ok (.invokevirtual 70, 3) := by decide +kernel
theorem dL_law_574 : decode cL_law 574 = .ok (.aload_n 2, 1) := by decide +kernel
theorem dL_law_575 : decode cL_law 575 = .ok (.aload_n 0, 1) := by decide +kernel
theorem dL_law_576 : decode cL_law 576 = .ok (.iload_n 3, 1) := by decide +kernel
theorem dL_law_577 : decode cL_law 577 = .ok (.iconst 1, 1) := by decide +kernel
theorem dL_law_578 : decode cL_law 578 = .ok (.iadd, 1) := by decide +kernel
theorem dL_law_579 : decode cL_law 579 = .ok (.iaload, 1) := by decide +kernel
theorem dL_law_580 : decode cL_law 580 = .ok (.invokevirtual 73, 3) := by decide +kernel
theorem dL_law_583 : decode cL_law 583 = .ok (.if_icmp .eq 566, 3) := by decide +kernel
theorem dL_law_586 : decode cL_law 586 = .ok (.iconst 0, 1) := by decide +kernel
theorem dL_law_587 : decode cL_law 587 = .ok (.ireturn, 1) := by decide +kernel
theorem dL_law_588 : decode cL_law 588 = .ok (.aload_n 1, 1) := by decide +kernel
theorem dL_law_589 : decode cL_law 589 = .ok (.invokevirtual 74, 3) := by decide +kernel
theorem dL_law_592 : decode cL_law 592 = .ok (.aload_n 2, 1) := by decide +kernel
theorem dL_law_593 : decode cL_law 593 = .ok (.invokevirtual 77, 3) := by decide +kernel
theorem dL_law_596 : decode cL_law 596 = .ok (.if_icmp .eq 553, 3) := by decide +kernel
theorem dL_law_599 : decode cL_law 599 = .ok (.iconst 0, 1) := by decide +kernel
theorem dL_law_600 : decode cL_law 600 = .ok (.ireturn, 1) := by decide +kernel
theorem dL_law_601 : decode cL_law 601 = .ok (.aload_n 1, 1) := by decide +kernel
theorem dL_law_602 : decode cL_law 602 = .ok (.aload_n 0, 1) := by decide +kernel
theorem dL_law_603 : decode cL_law 603 = .ok (.iload_n 3, 1) := by decide +kernel
theorem dL_law_604 : decode cL_law 604 = .ok (.iconst 1, 1) := by decide +kernel
theorem dL_law_605 : decode cL_law 605 = .ok (.iadd, 1) := by decide +kernel
theorem dL_law_606 : decode cL_law 606 = .ok (.iaload, 1) := by decide +kernel
theorem dL_law_607 : decode cL_law 607 = .ok (.aload_n 0, 1) := by decide +kernel
theorem dL_law_608 : decode cL_law 608 = .ok (.iload_n 3, 1) := by decide +kernel
theorem dL_law_609 : decode cL_law 609 = .ok (.iconst 2, 1) := by decide +kernel
theorem dL_law_610 : decode cL_law 610 = .ok (.iadd, 1) := by decide +kernel
theorem dL_law_611 : decode cL_law 611 = .ok (.iaload, 1) := by decide +kernel
theorem dL_law_612 : decode cL_law 612 = .ok (.invokevirtual 78, 3) := by decide +kernel
theorem dL_law_615 : decode cL_law 615 = .ok (.aload_n 2, 1) := by decide +kernel
theorem dL_law_616 : decode cL_law 616 = .ok (.aload_n 0, 1) := by decide +kernel
theorem dL_law_617 : decode cL_law 617 = .ok (.iload_n 3, 1) := by decide +kernel
theorem dL_law_618 : decode cL_law 618 = .ok (.iconst 1, 1) := by decide +kernel
theorem dL_law_619 : decode cL_law 619 = .ok (.iadd, 1) := by decide +kernel
theorem dL_law_620 : decode cL_law 620 = .ok (.iaload, 1) := by decide +kernel
theorem dL_law_621 : decode cL_law 621 = .ok (.aload_n 0, 1) := by decide +kernel
theorem dL_law_622 : decode cL_law 622 = .ok (.iload_n 3, 1) := by decide +kernel
theorem dL_law_623 : decode cL_law 623 = .ok (.iconst 2, 1) := by decide +kernel
theorem dL_law_624 : decode cL_law 624 = .ok (.iadd, 1) := by decide +kernel
theorem dL_law_625 : decode cL_law 625 = .ok (.iaload, 1) := by decide +kernel
theorem dL_law_626 : decode cL_law 626 = .ok (.invokevirtual 81, 3) := by decide +kernel
theorem dL_law_629 : decode cL_law 629 = .ok (.if_icmp .eq 520, 3) := by decide +kernel
theorem dL_law_632 : decode cL_law 632 = .ok (.iconst 0, 1) := by decide +kernel
theorem dL_law_633 : decode cL_law 633 = .ok (.ireturn, 1) := by decide +kernel
theorem dL_law_634 : decode cL_law 634 = .ok (.aload_n 1, 1) := by decide +kernel
theorem dL_law_635 : decode cL_law 635 = .ok (.invokevirtual 82, 3) := by decide +kernel
theorem dL_law_638 : decode cL_law 638 = .ok (.aload_n 2, 1) := by decide +kernel
theorem dL_law_639 : decode cL_law 639 = .ok (.invokevirtual 85, 3) := by decide +kernel
theorem dL_law_642 : decode cL_law 642 = .ok (.if_icmp .eq 507, 3) := by decide +kernel
theorem dL_law_645 : decode cL_law 645 = .ok (.iconst 0, 1) := by decide +kernel
theorem dL_law_646 : decode cL_law 646 = .ok (.ireturn, 1) := by decide +kernel
theorem dL_law_647 : decode cL_law 647 = .ok (.aload_n 1, 1) := by decide +kernel
theorem dL_law_648 : decode cL_law 648 = .ok (.aload_n 0, 1) := by decide +kernel
theorem dL_law_649 : decode cL_law 649 = .ok (.iload_n 3, 1) := by decide +kernel
theorem dL_law_650 : decode cL_law 650 = .ok (.iconst 1, 1) := by decide +kernel
theorem dL_law_651 : decode cL_law 651 = .ok (.iadd, 1) := by decide +kernel
theorem dL_law_652 : decode cL_law 652 = .ok (.iaload, 1) := by decide +kernel
theorem dL_law_653 : decode cL_law 653 = .ok (.invokevirtual 86, 3) := by decide +kernel
theorem dL_law_656 : decode cL_law 656 = .ok (.aload_n 2, 1) := by decide +kernel
theorem dL_law_657 : decode cL_law 657 = .ok (.aload_n 0, 1) := by decide +kernel
theorem dL_law_658 : decode cL_law 658 = .ok (.iload_n 3, 1) := by decide +kernel
theorem dL_law_659 : decode cL_law 659 = .ok (.iconst 1, 1) := by decide +kernel
theorem dL_law_660 : decode cL_law 660 = .ok (.iadd, 1) := by decide +kernel
theorem dL_law_661 : decode cL_law 661 = .ok (.iaload, 1) := by decide +kernel
theorem dL_law_662 : decode cL_law 662 = .ok (.invokevirtual 89, 3) := by decide +kernel
theorem dL_law_665 : decode cL_law 665 = .ok (.if_icmp .eq 484, 3) := by decide +kernel
theorem dL_law_668 : decode cL_law 668 = .ok (.iconst 0, 1) := by decide +kernel
theorem dL_law_669 : decode cL_law 669 = .ok (.ireturn, 1) := by decide +kernel
theorem dL_law_670 : decode cL_law 670 = .ok (.aload_n 1, 1) := by decide +kernel
theorem dL_law_671 : decode cL_law 671 = .ok (.invokevirtual 90, 3) := by decide +kernel
theorem dL_law_674 : decode cL_law 674 = .ok (.aload_n 2, 1) := by decide +kernel
theorem dL_law_675 : decode cL_law 675 = .ok (.invokevirtual 93, 3) := by decide +kernel
theorem dL_law_678 : decode cL_law 678 = .ok (.if_icmp .eq 471, 3) := by decide +kernel
theorem dL_law_681 : decode cL_law 681 = .ok (.iconst 0, 1) := by decide +kernel
theorem dL_law_682 : decode cL_law 682 = .ok (.ireturn, 1) := by decide +kernel
theorem dL_law_683 : decode cL_law 683 = .ok (.aload_n 1, 1) := by decide +kernel
theorem dL_law_684 : decode cL_law 684 = .ok (.aload_n 0, 1) := by decide +kernel
theorem dL_law_685 : decode cL_law 685 = .ok (.iload_n 3, 1) := by decide +kernel
theorem dL_law_686 : decode cL_law 686 = .ok (.iconst 1, 1) := by decide +kernel
theorem dL_law_687 : decode cL_law 687 = .ok (.iadd, 1) := by decide +kernel
theorem dL_law_688 : decode cL_law 688 = .ok (.iaload, 1) := by decide +kernel
theorem dL_law_689 : decode cL_law 689 = .ok (.invokevirtual 94, 3) := by decide +kernel
theorem dL_law_692 : decode cL_law 692 = .ok (.aload_n 2, 1) := by decide +kernel
theorem dL_law_693 : decode cL_law 693 = .ok (.aload_n 0, 1) := by decide +kernel
theorem dL_law_694 : decode cL_law 694 = .ok (.iload_n 3, 1) := by decide +kernel
theorem dL_law_695 : decode cL_law 695 = .ok (.iconst 1, 1) := by decide +kernel
theorem dL_law_696 : decode cL_law 696 = .ok (.iadd, 1) := by decide +kernel
theorem dL_law_697 : decode cL_law 697 = .ok (.iaload, 1) := by decide +kernel
theorem dL_law_698 : decode cL_law 698 = .ok (.invokevirtual 97, 3) := by decide +kernel
theorem dL_law_701 : decode cL_law 701 = .ok (.if_icmp .eq 448, 3) := by decide +kernel
theorem dL_law_704 : decode cL_law 704 = .ok (.iconst 0, 1) := by decide +kernel
theorem dL_law_705 : decode cL_law 705 = .ok (.ireturn, 1) := by decide +kernel
theorem dL_law_706 : decode cL_law 706 = .ok (.aload_n 1, 1) := by decide +kernel
theorem dL_law_707 : decode cL_law 707 = .ok (.aload_n 0, 1) := by decide +kernel
theorem dL_law_708 : decode cL_law 708 = .ok (.iload_n 3, 1) := by decide +kernel
theorem dL_law_709 : decode cL_law 709 = .ok (.iconst 1, 1) := by decide +kernel
theorem dL_law_710 : decode cL_law 710 = .ok (.iadd, 1) := by decide +kernel
theorem dL_law_711 : decode cL_law 711 = .ok (.iaload, 1) := by decide +kernel
theorem dL_law_712 : decode cL_law 712 = .ok (.invokevirtual 98, 3) := by decide +kernel
theorem dL_law_715 : decode cL_law 715 = .ok (.aload_n 2, 1) := by decide +kernel
theorem dL_law_716 : decode cL_law 716 = .ok (.aload_n 0, 1) := by decide +kernel
theorem dL_law_717 : decode cL_law 717 = .ok (.iload_n 3, 1) := by decide +kernel
theorem dL_law_718 : decode cL_law 718 = .ok (.iconst 1, 1) := by decide +kernel
theorem dL_law_719 : decode cL_law 719 = .ok (.iadd, 1) := by decide +kernel
theorem dL_law_720 : decode cL_law 720 = .ok (.iaload, 1) := by decide +kernel
theorem dL_law_721 : decode cL_law 721 = .ok (.invokevirtual 101, 3) := by decide +kernel
theorem dL_law_724 : decode cL_law 724 = .ok (.if_icmp .eq 425, 3) := by decide +kernel
theorem dL_law_727 : decode cL_law 727 = .ok (.iconst 0, 1) := by decide +kernel
theorem dL_law_728 : decode cL_law 728 = .ok (.ireturn, 1) := by decide +kernel
theorem dL_law_729 : decode cL_law 729 = .ok (.aload_n 1, 1) := by decide +kernel
theorem dL_law_730 : decode cL_law 730 = .ok (.aload_n 0, 1) := by decide +kernel
theorem dL_law_731 : decode cL_law 731 = .ok (.iload_n 3, 1) := by decide +kernel
theorem dL_law_732 : decode cL_law 732 = .ok (.iconst 1, 1) := by decide +kernel
theorem dL_law_733 : decode cL_law 733 = .ok (.iadd, 1) := by decide +kernel
theorem dL_law_734 : decode cL_law 734 = .ok (.iaload, 1) := by decide +kernel
theorem dL_law_735 : decode cL_law 735 = .ok (.invokevirtual 102, 3) := by decide +kernel
theorem dL_law_738 : decode cL_law 738 = .ok (.aload_n 2, 1) := by decide +kernel
theorem dL_law_739 : decode cL_law 739 = .ok (.aload_n 0, 1) := by decide +kernel
theorem dL_law_740 : decode cL_law 740 = .ok (.iload_n 3, 1) := by decide +kernel
theorem dL_law_741 : decode cL_law 741 = .ok (.iconst 1, 1) := by decide +kernel
theorem dL_law_742 : decode cL_law 742 = .ok (.iadd, 1) := by decide +kernel
theorem dL_law_743 : decode cL_law 743 = .ok (.iaload, 1) := by decide +kernel
theorem dL_law_744 : decode cL_law 744 = .ok (.invokevirtual 105, 3) := by decide +kernel
theorem dL_law_747 : decode cL_law 747 = .ok (.if_icmp .eq 402, 3) := by decide +kernel
theorem dL_law_750 : decode cL_law 750 = .ok (.iconst 0, 1) := by decide +kernel
theorem dL_law_751 : decode cL_law 751 = .ok (.ireturn, 1) := by decide +kernel
theorem dL_law_752 : decode cL_law 752 = .ok (.aload_n 1, 1) := by decide +kernel
theorem dL_law_753 : decode cL_law 753 = .ok (.aload_n 0, 1) := by decide +kernel
theorem dL_law_754 : decode cL_law 754 = .ok (.iload_n 3, 1) := by decide +kernel
theorem dL_law_755 : decode cL_law 755 = .ok (.iconst 1, 1) := by decide +kernel
theorem dL_law_756 : decode cL_law 756 = .ok (.iadd, 1) := by decide +kernel
theorem dL_law_757 : decode cL_law 757 = .ok (.iaload, 1) := by decide +kernel
theorem dL_law_758 : decode cL_law 758 = .ok (.invokevirtual 106, 3) := by decide +kernel
theorem dL_law_761 : decode cL_law 761 = .ok (.aload_n 2, 1) := by decide +kernel
theorem dL_law_762 : decode cL_law 762 = .ok (.aload_n 0, 1) := by decide +kernel
theorem dL_law_763 : decode cL_law 763 = .ok (.iload_n 3, 1) := by decide +kernel
theorem dL_law_764 : decode cL_law 764 = .ok (.iconst 1, 1) := by decide +kernel
theorem dL_law_765 : decode cL_law 765 = .ok (.iadd, 1) := by decide +kernel
theorem dL_law_766 : decode cL_law 766 = .ok (.iaload, 1) := by decide +kernel
theorem dL_law_767 : decode cL_law 767 = .ok (.invokevirtual 109, 3) := by decide +kernel
theorem dL_law_770 : decode cL_law 770 = .ok (.if_icmp .eq 379, 3) := by decide +kernel
theorem dL_law_773 : decode cL_law 773 = .ok (.iconst 0, 1) := by decide +kernel
theorem dL_law_774 : decode cL_law 774 = .ok (.ireturn, 1) := by decide +kernel
theorem dL_law_775 : decode cL_law 775 = .ok (.aload_n 1, 1) := by decide +kernel
theorem dL_law_776 : decode cL_law 776 = .ok (.aload_n 0, 1) := by decide +kernel
theorem dL_law_777 : decode cL_law 777 = .ok (.iload_n 3, 1) := by decide +kernel
theorem dL_law_778 : decode cL_law 778 = .ok (.iconst 1, 1) := by decide +kernel
theorem dL_law_779 : decode cL_law 779 = .ok (.iadd, 1) := by decide +kernel
theorem dL_law_780 : decode cL_law 780 = .ok (.iaload, 1) := by decide +kernel
theorem dL_law_781 : decode cL_law 781 = .ok (.aload_n 0, 1) := by decide +kernel
theorem dL_law_782 : decode cL_law 782 = .ok (.iload_n 3, 1) := by decide +kernel
theorem dL_law_783 : decode cL_law 783 = .ok (.iconst 2, 1) := by decide +kernel
theorem dL_law_784 : decode cL_law 784 = .ok (.iadd, 1) := by decide +kernel
theorem dL_law_785 : decode cL_law 785 = .ok (.iaload, 1) := by decide +kernel
theorem dL_law_786 : decode cL_law 786 = .ok (.invokevirtual 110, 3) := by decide +kernel
theorem dL_law_789 : decode cL_law 789 = .ok (.aload_n 2, 1) := by decide +kernel
theorem dL_law_790 : decode cL_law 790 = .ok (.aload_n 0, 1) := by decide +kernel
theorem dL_law_791 : decode cL_law 791 = .ok (.iload_n 3, 1) := by decide +kernel
theorem dL_law_792 : decode cL_law 792 = .ok (.iconst 1, 1) := by decide +kernel
theorem dL_law_793 : decode cL_law 793 = .ok (.iadd, 1) := by decide +kernel
theorem dL_law_794 : decode cL_law 794 = .ok (.iaload, 1) := by decide +kernel
theorem dL_law_795 : decode cL_law 795 = .ok (.aload_n 0, 1) := by decide +kernel
theorem dL_law_796 : decode cL_law 796 = .ok (.iload_n 3, 1) := by decide +kernel
theorem dL_law_797 : decode cL_law 797 = .ok (.iconst 2, 1) := by decide +kernel
theorem dL_law_798 : decode cL_law 798 = .ok (.iadd, 1) := by decide +kernel
theorem dL_law_799 : decode cL_law 799 = .ok (.iaload, 1) := by decide +kernel
theorem dL_law_800 : decode cL_law 800 = .ok (.invokevirtual 113, 3) := by decide +kernel
theorem dL_law_803 : decode cL_law 803 = .ok (.if_icmp .eq 346, 3) := by decide +kernel
theorem dL_law_806 : decode cL_law 806 = .ok (.iconst 0, 1) := by decide +kernel
theorem dL_law_807 : decode cL_law 807 = .ok (.ireturn, 1) := by decide +kernel
theorem dL_law_808 : decode cL_law 808 = .ok (.aload_n 1, 1) := by decide +kernel
theorem dL_law_809 : decode cL_law 809 = .ok (.aload_n 0, 1) := by decide +kernel
theorem dL_law_810 : decode cL_law 810 = .ok (.iload_n 3, 1) := by decide +kernel
theorem dL_law_811 : decode cL_law 811 = .ok (.iconst 1, 1) := by decide +kernel
theorem dL_law_812 : decode cL_law 812 = .ok (.iadd, 1) := by decide +kernel
theorem dL_law_813 : decode cL_law 813 = .ok (.iaload, 1) := by decide +kernel
theorem dL_law_814 : decode cL_law 814 = .ok (.aload_n 0, 1) := by decide +kernel
theorem dL_law_815 : decode cL_law 815 = .ok (.iload_n 3, 1) := by decide +kernel
theorem dL_law_816 : decode cL_law 816 = .ok (.iconst 2, 1) := by decide +kernel
theorem dL_law_817 : decode cL_law 817 = .ok (.iadd, 1) := by decide +kernel
theorem dL_law_818 : decode cL_law 818 = .ok (.iaload, 1) := by decide +kernel
theorem dL_law_819 : decode cL_law 819 = .ok (.aload_n 0, 1) := by decide +kernel
theorem dL_law_820 : decode cL_law 820 = .ok (.iload_n 3, 1) := by decide +kernel
theorem dL_law_821 : decode cL_law 821 = .ok (.iconst 3, 1) := by decide +kernel
theorem dL_law_822 : decode cL_law 822 = .ok (.iadd, 1) := by decide +kernel
theorem dL_law_823 : decode cL_law 823 = .ok (.iaload, 1) := by decide +kernel
theorem dL_law_824 : decode cL_law 824 = .ok (.invokevirtual 114, 3) := by decide +kernel
theorem dL_law_827 : decode cL_law 827 = .ok (.aload_n 2, 1) := by decide +kernel
theorem dL_law_828 : decode cL_law 828 = .ok (.aload_n 0, 1) := by decide +kernel
theorem dL_law_829 : decode cL_law 829 = .ok (.iload_n 3, 1) := by decide +kernel
theorem dL_law_830 : decode cL_law 830 = .ok (.iconst 1, 1) := by decide +kernel
theorem dL_law_831 : decode cL_law 831 = .ok (.iadd, 1) := by decide +kernel
theorem dL_law_832 : decode cL_law 832 = .ok (.iaload, 1) := by decide +kernel
theorem dL_law_833 : decode cL_law 833 = .ok (.aload_n 0, 1) := by decide +kernel
theorem dL_law_834 : decode cL_law 834 = .ok (.iload_n 3, 1) := by decide +kernel
theorem dL_law_835 : decode cL_law 835 = .ok (.iconst 2, 1) := by decide +kernel
theorem dL_law_836 : decode cL_law 836 = .ok (.iadd, 1) := by decide +kernel
theorem dL_law_837 : decode cL_law 837 = .ok (.iaload, 1) := by decide +kernel
theorem dL_law_838 : decode cL_law 838 = .ok (.aload_n 0, 1) := by decide +kernel
theorem dL_law_839 : decode cL_law 839 = .ok (.iload_n 3, 1) := by decide +kernel
theorem dL_law_840 : decode cL_law 840 = .ok (.iconst 3, 1) := by decide +kernel
theorem dL_law_841 : decode cL_law 841 = .ok (.iadd, 1) := by decide +kernel
theorem dL_law_842 : decode cL_law 842 = .ok (.iaload, 1) := by decide +kernel
theorem dL_law_843 : decode cL_law 843 = .ok (.invokevirtual 117, 3) := by decide +kernel
theorem dL_law_846 : decode cL_law 846 = .ok (.if_icmp .eq 303, 3) := by decide +kernel
theorem dL_law_849 : decode cL_law 849 = .ok (.iconst 0, 1) := by decide +kernel
theorem dL_law_850 : decode cL_law 850 = .ok (.ireturn, 1) := by decide +kernel
theorem dL_law_851 : decode cL_law 851 = .ok (.aload_n 1, 1) := by decide +kernel
theorem dL_law_852 : decode cL_law 852 = .ok (.aload_n 0, 1) := by decide +kernel
theorem dL_law_853 : decode cL_law 853 = .ok (.iload_n 3, 1) := by decide +kernel
theorem dL_law_854 : decode cL_law 854 = .ok (.iconst 1, 1) := by decide +kernel
theorem dL_law_855 : decode cL_law 855 = .ok (.iadd, 1) := by decide +kernel
theorem dL_law_856 : decode cL_law 856 = .ok (.iaload, 1) := by decide +kernel
theorem dL_law_857 : decode cL_law 857 = .ok (.invokevirtual 118, 3) := by decide +kernel
theorem dL_law_860 : decode cL_law 860 = .ok (.aload_n 2, 1) := by decide +kernel
theorem dL_law_861 : decode cL_law 861 = .ok (.aload_n 0, 1) := by decide +kernel
theorem dL_law_862 : decode cL_law 862 = .ok (.iload_n 3, 1) := by decide +kernel
theorem dL_law_863 : decode cL_law 863 = .ok (.iconst 1, 1) := by decide +kernel
theorem dL_law_864 : decode cL_law 864 = .ok (.iadd, 1) := by decide +kernel
theorem dL_law_865 : decode cL_law 865 = .ok (.iaload, 1) := by decide +kernel
theorem dL_law_866 : decode cL_law 866 = .ok (.invokevirtual 121, 3) := by decide +kernel
theorem dL_law_869 : decode cL_law 869 = .ok (.if_icmp .eq 280, 3) := by decide +kernel
theorem dL_law_872 : decode cL_law 872 = .ok (.iconst 0, 1) := by decide +kernel
theorem dL_law_873 : decode cL_law 873 = .ok (.ireturn, 1) := by decide +kernel
theorem dL_law_874 : decode cL_law 874 = .ok (.aload_n 1, 1) := by decide +kernel
theorem dL_law_875 : decode cL_law 875 = .ok (.invokevirtual 122, 3) := by decide +kernel
theorem dL_law_878 : decode cL_law 878 = .ok (.aload_n 2, 1) := by decide +kernel
theorem dL_law_879 : decode cL_law 879 = .ok (.invokevirtual 125, 3) := by decide +kernel
theorem dL_law_882 : decode cL_law 882 = .ok (.if_icmp .eq 267, 3) := by decide +kernel
theorem dL_law_885 : decode cL_law 885 = .ok (.iconst 0, 1) := by decide +kernel
theorem dL_law_886 : decode cL_law 886 = .ok (.ireturn, 1) := by decide +kernel
theorem dL_law_887 : decode cL_law 887 = .ok (.aload_n 1, 1) := by decide +kernel
theorem dL_law_888 : decode cL_law 888 = .ok (.aload_n 0, 1) := by decide +kernel
theorem dL_law_889 : decode cL_law 889 = .ok (.iload_n 3, 1) := by decide +kernel
theorem dL_law_890 : decode cL_law 890 = .ok (.iconst 1, 1) := by decide +kernel
theorem dL_law_891 : decode cL_law 891 = .ok (.iadd, 1) := by decide +kernel
theorem dL_law_892 : decode cL_law 892 = .ok (.iaload, 1) := by decide +kernel
theorem dL_law_893 : decode cL_law 893 = .ok (.aload_n 0, 1) := by decide +kernel
theorem dL_law_894 : decode cL_law 894 = .ok (.iload_n 3, 1) := by decide +kernel
theorem dL_law_895 : decode cL_law 895 = .ok (.iconst 2, 1) := by decide +kernel
theorem dL_law_896 : decode cL_law 896 = .ok (.iadd, 1) := by decide +kernel
theorem dL_law_897 : decode cL_law 897 = .ok (.iaload, 1) := by decide +kernel
theorem dL_law_898 : decode cL_law 898 = .ok (.aload_n 0, 1) := by decide +kernel
theorem dL_law_899 : decode cL_law 899 = .ok (.iload_n 3, 1) := by decide +kernel
theorem dL_law_900 : decode cL_law 900 = .ok (.iconst 3, 1) := by decide +kernel
theorem dL_law_901 : decode cL_law 901 = .ok (.iadd, 1) := by decide +kernel
theorem dL_law_902 : decode cL_law 902 = .ok (.iaload, 1) := by decide +kernel
theorem dL_law_903 : decode cL_law 903 = .ok (.invokevirtual 126, 3) := by decide +kernel
theorem dL_law_906 : decode cL_law 906 = .ok (.aload_n 2, 1) := by decide +kernel
theorem dL_law_907 : decode cL_law 907 = .ok (.aload_n 0, 1) := by decide +kernel
theorem dL_law_908 : decode cL_law 908 = .ok (.iload_n 3, 1) := by decide +kernel
theorem dL_law_909 : decode cL_law 909 = .ok (.iconst 1, 1) := by decide +kernel
theorem dL_law_910 : decode cL_law 910 = .ok (.iadd, 1) := by decide +kernel
theorem dL_law_911 : decode cL_law 911 = .ok (.iaload, 1) := by decide +kernel
theorem dL_law_912 : decode cL_law 912 = .ok (.aload_n 0, 1) := by decide +kernel
theorem dL_law_913 : decode cL_law 913 = .ok (.iload_n 3, 1) := by decide +kernel
theorem dL_law_914 : decode cL_law 914 = .ok (.iconst 2, 1) := by decide +kernel
theorem dL_law_915 : decode cL_law 915 = .ok (.iadd, 1) := by decide +kernel
theorem dL_law_916 : decode cL_law 916 = .ok (.iaload, 1) := by decide +kernel
theorem dL_law_917 : decode cL_law 917 = .ok (.aload_n 0, 1) := by decide +kernel
theorem dL_law_918 : decode cL_law 918 = .ok (.iload_n 3, 1) := by decide +kernel
theorem dL_law_919 : decode cL_law 919 = .ok (.iconst 3, 1) := by decide +kernel
theorem dL_law_920 : decode cL_law 920 = .ok (.iadd, 1) := by decide +kernel
theorem dL_law_921 : decode cL_law 921 = .ok (.iaload, 1) := by decide +kernel
theorem dL_law_922 : decode cL_law 922 = .ok (.invokevirtual 129, 3) := by decide +kernel
theorem dL_law_925 : decode cL_law 925 = .ok (.if_icmp .eq 224, 3) := by decide +kernel
theorem dL_law_928 : decode cL_law 928 = .ok (.iconst 0, 1) := by decide +kernel
theorem dL_law_929 : decode cL_law 929 = .ok (.ireturn, 1) := by decide +kernel
theorem dL_law_930 : decode cL_law 930 = .ok (.aload_n 1, 1) := by decide +kernel
theorem dL_law_931 : decode cL_law 931 = .ok (.aload_n 0, 1) := by decide +kernel
theorem dL_law_932 : decode cL_law 932 = .ok (.iload_n 3, 1) := by decide +kernel
theorem dL_law_933 : decode cL_law 933 = .ok (.iconst 1, 1) := by decide +kernel
theorem dL_law_934 : decode cL_law 934 = .ok (.iadd, 1) := by decide +kernel
theorem dL_law_935 : decode cL_law 935 = .ok (.iaload, 1) := by decide +kernel
theorem dL_law_936 : decode cL_law 936 = .ok (.invokevirtual 130, 3) := by decide +kernel
theorem dL_law_939 : decode cL_law 939 = .ok (.aload_n 2, 1) := by decide +kernel
theorem dL_law_940 : decode cL_law 940 = .ok (.aload_n 0, 1) := by decide +kernel
theorem dL_law_941 : decode cL_law 941 = .ok (.iload_n 3, 1) := by decide +kernel
theorem dL_law_942 : decode cL_law 942 = .ok (.iconst 1, 1) := by decide +kernel
theorem dL_law_943 : decode cL_law 943 = .ok (.iadd, 1) := by decide +kernel
theorem dL_law_944 : decode cL_law 944 = .ok (.iaload, 1) := by decide +kernel
theorem dL_law_945 : decode cL_law 945 = .ok (.invokevirtual 133, 3) := by decide +kernel
theorem dL_law_948 : decode cL_law 948 = .ok (.if_icmp .eq 201, 3) := by decide +kernel
theorem dL_law_951 : decode cL_law 951 = .ok (.iconst 0, 1) := by decide +kernel
theorem dL_law_952 : decode cL_law 952 = .ok (.ireturn, 1) := by decide +kernel
theorem dL_law_953 : decode cL_law 953 = .ok (.aload_n 1, 1) := by decide +kernel
theorem dL_law_954 : decode cL_law 954 = .ok (.aload_n 0, 1) := by decide +kernel
theorem dL_law_955 : decode cL_law 955 = .ok (.iload_n 3, 1) := by decide +kernel
theorem dL_law_956 : decode cL_law 956 = .ok (.iconst 1, 1) := by decide +kernel
theorem dL_law_957 : decode cL_law 957 = .ok (.iadd, 1) := by decide +kernel
theorem dL_law_958 : decode cL_law 958 = .ok (.iaload, 1) := by decide +kernel
theorem dL_law_959 : decode cL_law 959 = .ok (.aload_n 0, 1) := by decide +kernel
theorem dL_law_960 : decode cL_law 960 = .ok (.iload_n 3, 1) := by decide +kernel
theorem dL_law_961 : decode cL_law 961 = .ok (.iconst 2, 1) := by decide +kernel
theorem dL_law_962 : decode cL_law 962 = .ok (.iadd, 1) := by decide +kernel
theorem dL_law_963 : decode cL_law 963 = .ok (.iaload, 1) := by decide +kernel
theorem dL_law_964 : decode cL_law 964 = .ok (.invokevirtual 134, 3) := by decide +kernel
theorem dL_law_967 : decode cL_law 967 = .ok (.aload_n 2, 1) := by decide +kernel
theorem dL_law_968 : decode cL_law 968 = .ok (.aload_n 0, 1) := by decide +kernel
theorem dL_law_969 : decode cL_law 969 = .ok (.iload_n 3, 1) := by decide +kernel
theorem dL_law_970 : decode cL_law 970 = .ok (.iconst 1, 1) := by decide +kernel
theorem dL_law_971 : decode cL_law 971 = .ok (.iadd, 1) := by decide +kernel
theorem dL_law_972 : decode cL_law 972 = .ok (.iaload, 1) := by decide +kernel
theorem dL_law_973 : decode cL_law 973 = .ok (.aload_n 0, 1) := by decide +kernel
theorem dL_law_974 : decode cL_law 974 = .ok (.iload_n 3, 1) := by decide +kernel
theorem dL_law_975 : decode cL_law 975 = .ok (.iconst 2, 1) := by decide +kernel
theorem dL_law_976 : decode cL_law 976 = .ok (.iadd, 1) := by decide +kernel
theorem dL_law_977 : decode cL_law 977 = .ok (.iaload, 1) := by decide +kernel
theorem dL_law_978 : decode cL_law 978 = .ok (.invokevirtual 137, 3) := by decide +kernel
theorem dL_law_981 : decode cL_law 981 = .ok (.if_icmp .eq 168, 3) := by decide +kernel
theorem dL_law_984 : decode cL_law 984 = .ok (.iconst 0, 1) := by decide +kernel
theorem dL_law_985 : decode cL_law 985 = .ok (.ireturn, 1) := by decide +kernel
theorem dL_law_986 : decode cL_law 986 = .ok (.aload_n 1, 1) := by decide +kernel
theorem dL_law_987 : decode cL_law 987 = .ok (.aload_n 0, 1) := by decide +kernel
theorem dL_law_988 : decode cL_law 988 = .ok (.iload_n 3, 1) := by decide +kernel
theorem dL_law_989 : decode cL_law 989 = .ok (.iconst 1, 1) := by decide +kernel
theorem dL_law_990 : decode cL_law 990 = .ok (.iadd, 1) := by decide +kernel
theorem dL_law_991 : decode cL_law 991 = .ok (.iaload, 1) := by decide +kernel
theorem dL_law_992 : decode cL_law 992 = .ok (.aload_n 0, 1) := by decide +kernel
theorem dL_law_993 : decode cL_law 993 = .ok (.iload_n 3, 1) := by decide +kernel
theorem dL_law_994 : decode cL_law 994 = .ok (.iconst 2, 1) := by decide +kernel
theorem dL_law_995 : decode cL_law 995 = .ok (.iadd, 1) := by decide +kernel
theorem dL_law_996 : decode cL_law 996 = .ok (.iaload, 1) := by decide +kernel
theorem dL_law_997 : decode cL_law 997 = .ok (.invokevirtual 138, 3) := by decide +kernel
theorem dL_law_1000 : decode cL_law 1000 = .ok (.aload_n 2, 1) := by decide +kernel
theorem dL_law_1001 : decode cL_law 1001 = .ok (.aload_n 0, 1) := by decide +kernel
theorem dL_law_1002 : decode cL_law 1002 = .ok (.iload_n 3, 1) := by decide +kernel
theorem dL_law_1003 : decode cL_law 1003 = .ok (.iconst 1, 1) := by decide +kernel
theorem dL_law_1004 : decode cL_law 1004 = .ok (.iadd, 1) := by decide +kernel
theorem dL_law_1005 : decode cL_law 1005 = .ok (.iaload, 1) := by decide +kernel
theorem dL_law_1006 : decode cL_law 1006 = .ok (.aload_n 0, 1) := by decide +kernel
theorem dL_law_1007 : decode cL_law 1007 = .ok (.iload_n 3, 1) := by decide +kernel
theorem dL_law_1008 : decode cL_law 1008 = .ok (.iconst 2, 1) := by decide +kernel
theorem dL_law_1009 : decode cL_law 1009 = .ok (.iadd, 1) := by decide +kernel
theorem dL_law_1010 : decode cL_law 1010 = .ok (.iaload, 1) := by decide +kernel
theorem dL_law_1011 : decode cL_law 1011 = .ok (.invokevirtual 141, 3) := by decide +kernel
theorem dL_law_1014 : decode cL_law 1014 = .ok (.if_icmp .eq 135, 3) := by decide +kernel
theorem dL_law_1017 : decode cL_law 1017 = .ok (.iconst 0, 1) := by decide +kernel
theorem dL_law_1018 : decode cL_law 1018 = .ok (.ireturn, 1) := by decide +kernel
theorem dL_law_1019 : decode cL_law 1019 = .ok (.aload_n 1, 1) := by decide +kernel
theorem dL_law_1020 : decode cL_law 1020 = .ok (.aload_n 0, 1) := by decide +kernel
theorem dL_law_1021 : decode cL_law 1021 = .ok (.iload_n 3, 1) := by decide +kernel
theorem dL_law_1022 : decode cL_law 1022 = .ok (.iconst 1, 1) := by decide +kernel
theorem dL_law_1023 : decode cL_law 1023 = .ok (.iadd, 1) := by decide +kernel
theorem dL_law_1024 : decode cL_law 1024 = .ok (.iaload, 1) := by decide +kernel
theorem dL_law_1025 : decode cL_law 1025 = .ok (.invokevirtual 142, 3) := by decide +kernel
theorem dL_law_1028 : decode cL_law 1028 = .ok (.aload_n 2, 1) := by decide +kernel
theorem dL_law_1029 : decode cL_law 1029 = .ok (.aload_n 0, 1) := by decide +kernel
theorem dL_law_1030 : decode cL_law 1030 = .ok (.iload_n 3, 1) := by decide +kernel
theorem dL_law_1031 : decode cL_law 1031 = .ok (.iconst 1, 1) := by decide +kernel
theorem dL_law_1032 : decode cL_law 1032 = .ok (.iadd, 1) := by decide +kernel
theorem dL_law_1033 : decode cL_law 1033 = .ok (.iaload, 1) := by decide +kernel
theorem dL_law_1034 : decode cL_law 1034 = .ok (.invokevirtual 146, 3) := by decide +kernel
theorem dL_law_1037 : decode cL_law 1037 = .ok (.lcmp, 1) := by decide +kernel
theorem dL_law_1038 : decode cL_law 1038 = .ok (.ifCond .eq 111, 3) := by decide +kernel
theorem dL_law_1041 : decode cL_law 1041 = .ok (.iconst 0, 1) := by decide +kernel
theorem dL_law_1042 : decode cL_law 1042 = .ok (.ireturn, 1) := by decide +kernel
theorem dL_law_1043 : decode cL_law 1043 = .ok (.aload_n 1, 1) := by decide +kernel
theorem dL_law_1044 : decode cL_law 1044 = .ok (.aload_n 0, 1) := by decide +kernel
theorem dL_law_1045 : decode cL_law 1045 = .ok (.iload_n 3, 1) := by decide +kernel
theorem dL_law_1046 : decode cL_law 1046 = .ok (.iconst 1, 1) := by decide +kernel
theorem dL_law_1047 : decode cL_law 1047 = .ok (.iadd, 1) := by decide +kernel
theorem dL_law_1048 : decode cL_law 1048 = .ok (.iaload, 1) := by decide +kernel
theorem dL_law_1049 : decode cL_law 1049 = .ok (.invokevirtual 147, 3) := by decide +kernel
theorem dL_law_1052 : decode cL_law 1052 = .ok (.aload_n 2, 1) := by decide +kernel
theorem dL_law_1053 : decode cL_law 1053 = .ok (.aload_n 0, 1) := by decide +kernel
theorem dL_law_1054 : decode cL_law 1054 = .ok (.iload_n 3, 1) := by decide +kernel
theorem dL_law_1055 : decode cL_law 1055 = .ok (.iconst 1, 1) := by decide +kernel
theorem dL_law_1056 : decode cL_law 1056 = .ok (.iadd, 1) := by decide +kernel
theorem dL_law_1057 : decode cL_law 1057 = .ok (.iaload, 1) := by decide +kernel
theorem dL_law_1058 : decode cL_law 1058 = .ok (.invokevirtual 150, 3) := by decide +kernel
theorem dL_law_1061 : decode cL_law 1061 = .ok (.if_icmp .eq 88, 3) := by decide +kernel
theorem dL_law_1064 : decode cL_law 1064 = .ok (.iconst 0, 1) := by decide +kernel
theorem dL_law_1065 : decode cL_law 1065 = .ok (.ireturn, 1) := by decide +kernel
theorem dL_law_1066 : decode cL_law 1066 = .ok (.aload_n 1, 1) := by decide +kernel
theorem dL_law_1067 : decode cL_law 1067 = .ok (.aload_n 0, 1) := by decide +kernel
theorem dL_law_1068 : decode cL_law 1068 = .ok (.iload_n 3, 1) := by decide +kernel
theorem dL_law_1069 : decode cL_law 1069 = .ok (.iconst 1, 1) := by decide +kernel
theorem dL_law_1070 : decode cL_law 1070 = .ok (.iadd, 1) := by decide +kernel
theorem dL_law_1071 : decode cL_law 1071 = .ok (.iaload, 1) := by decide +kernel
theorem dL_law_1072 : decode cL_law 1072 = .ok (.invokevirtual 151, 3) := by decide +kernel
theorem dL_law_1075 : decode cL_law 1075 = .ok (.aload_n 2, 1) := by decide +kernel
theorem dL_law_1076 : decode cL_law 1076 = .ok (.aload_n 0, 1) := by decide +kernel
theorem dL_law_1077 : decode cL_law 1077 = .ok (.iload_n 3, 1) := by decide +kernel
theorem dL_law_1078 : decode cL_law 1078 = .ok (.iconst 1, 1) := by decide +kernel
theorem dL_law_1079 : decode cL_law 1079 = .ok (.iadd, 1) := by decide +kernel
theorem dL_law_1080 : decode cL_law 1080 = .ok (.iaload, 1) := by decide +kernel
theorem dL_law_1081 : decode cL_law 1081 = .ok (.invokevirtual 154, 3) := by decide +kernel
theorem dL_law_1084 : decode cL_law 1084 = .ok (.if_icmp .eq 65, 3) := by decide +kernel
theorem dL_law_1087 : decode cL_law 1087 = .ok (.iconst 0, 1) := by decide +kernel
theorem dL_law_1088 : decode cL_law 1088 = .ok (.ireturn, 1) := by decide +kernel
theorem dL_law_1089 : decode cL_law 1089 = .ok (.aload_n 1, 1) := by decide +kernel
theorem dL_law_1090 : decode cL_law 1090 = .ok (.aload_n 0, 1) := by decide +kernel
theorem dL_law_1091 : decode cL_law 1091 = .ok (.iload_n 3, 1) := by decide +kernel
theorem dL_law_1092 : decode cL_law 1092 = .ok (.iconst 1, 1) := by decide +kernel
theorem dL_law_1093 : decode cL_law 1093 = .ok (.iadd, 1) := by decide +kernel
theorem dL_law_1094 : decode cL_law 1094 = .ok (.iaload, 1) := by decide +kernel
theorem dL_law_1095 : decode cL_law 1095 = .ok (.invokevirtual 155, 3) := by decide +kernel
theorem dL_law_1098 : decode cL_law 1098 = .ok (.aload_n 2, 1) := by decide +kernel
theorem dL_law_1099 : decode cL_law 1099 = .ok (.aload_n 0, 1) := by decide +kernel
theorem dL_law_1100 : decode cL_law 1100 = .ok (.iload_n 3, 1) := by decide +kernel
theorem dL_law_1101 : decode cL_law 1101 = .ok (.iconst 1, 1) := by decide +kernel
theorem dL_law_1102 : decode cL_law 1102 = .ok (.iadd, 1) := by decide +kernel
theorem dL_law_1103 : decode cL_law 1103 = .ok (.iaload, 1) := by decide +kernel
theorem dL_law_1104 : decode cL_law 1104 = .ok (.invokevirtual 158, 3) := by decide +kernel
theorem dL_law_1107 : decode cL_law 1107 = .ok (.if_icmp .eq 42, 3) := by decide +kernel
theorem dL_law_1110 : decode cL_law 1110 = .ok (.iconst 0, 1) := by decide +kernel
theorem dL_law_1111 : decode cL_law 1111 = .ok (.ireturn, 1) := by decide +kernel
theorem dL_law_1112 : decode cL_law 1112 = .ok (.aload_n 1, 1) := by decide +kernel
theorem dL_law_1113 : decode cL_law 1113 = .ok (.aload_n 0, 1) := by decide +kernel
theorem dL_law_1114 : decode cL_law 1114 = .ok (.iload_n 3, 1) := by decide +kernel
theorem dL_law_1115 : decode cL_law 1115 = .ok (.iconst 1, 1) := by decide +kernel
theorem dL_law_1116 : decode cL_law 1116 = .ok (.iadd, 1) := by decide +kernel
theorem dL_law_1117 : decode cL_law 1117 = .ok (.iaload, 1) := by decide +kernel
theorem dL_law_1118 : decode cL_law 1118 = .ok (.invokevirtual 159, 3) := by decide +kernel
theorem dL_law_1121 : decode cL_law 1121 = .ok (.aload_n 2, 1) := by decide +kernel
theorem dL_law_1122 : decode cL_law 1122 = .ok (.aload_n 0, 1) := by decide +kernel
theorem dL_law_1123 : decode cL_law 1123 = .ok (.iload_n 3, 1) := by decide +kernel
theorem dL_law_1124 : decode cL_law 1124 = .ok (.iconst 1, 1) := by decide +kernel
theorem dL_law_1125 : decode cL_law 1125 = .ok (.iadd, 1) := by decide +kernel
theorem dL_law_1126 : decode cL_law 1126 = .ok (.iaload, 1) := by decide +kernel
theorem dL_law_1127 : decode cL_law 1127 = .ok (.invokevirtual 162, 3) := by decide +kernel
theorem dL_law_1130 : decode cL_law 1130 = .ok (.if_icmp .eq 19, 3) := by decide +kernel
theorem dL_law_1133 : decode cL_law 1133 = .ok (.iconst 0, 1) := by decide +kernel
theorem dL_law_1134 : decode cL_law 1134 = .ok (.ireturn, 1) := by decide +kernel
theorem dL_law_1135 : decode cL_law 1135 = .ok (.aload_n 1, 1) := by decide +kernel
theorem dL_law_1136 : decode cL_law 1136 = .ok (.invokevirtual 163, 3) := by decide +kernel
theorem dL_law_1139 : decode cL_law 1139 = .ok (.aload_n 2, 1) := by decide +kernel
theorem dL_law_1140 : decode cL_law 1140 = .ok (.invokevirtual 167, 3) := by decide +kernel
theorem dL_law_1143 : decode cL_law 1143 = .ok (.lcmp, 1) := by decide +kernel
theorem dL_law_1144 : decode cL_law 1144 = .ok (.ifCond .eq 5, 3) := by decide +kernel
theorem dL_law_1147 : decode cL_law 1147 = .ok (.iconst 0, 1) := by decide +kernel
theorem dL_law_1148 : decode cL_law 1148 = .ok (.ireturn, 1) := by decide +kernel
theorem dL_law_1149 : decode cL_law 1149 = .ok (.iinc 3 5, 3) := by decide +kernel
theorem dL_law_1152 : decode cL_law 1152 = .ok (.goto (-1134), 3) := by decide +kernel
theorem dL_law_1155 : decode cL_law 1155 = .ok (.iconst 1, 1) := by decide +kernel
theorem dL_law_1156 : decode cL_law 1156 = .ok (.ireturn, 1) := by decide +kernel
theorem dX9_init_0 : decode cX9_init 0 = .ok (.aload_n 0, 1) := by decide +kernel
theorem dX9_init_1 : decode cX9_init 1 = .ok (.invokespecial 1, 3) := by decide +kernel
theorem dX9_init_4 : decode cX9_init 4 = .ok (.aload_n 0, 1) := by decide +kernel
theorem dX9_init_5 : decode cX9_init 5 = .ok (.sipush 868, 3) := by decide +kernel
theorem dX9_init_8 : decode cX9_init 8 = .ok (.newarray .int, 2) := by decide +kernel
theorem dX9_init_10 : decode cX9_init 10 = .ok (.putfield 7, 3) := by decide +kernel
theorem dX9_init_13 : decode cX9_init 13 = .ok (.aload_n 0, 1) := by decide +kernel
theorem dX9_init_14 : decode cX9_init 14 = .ok (.iconst 2, 1) := by decide +kernel
theorem dX9_init_15 : decode cX9_init 15 = .ok (.newarray .boolean, 2) := by decide +kernel
theorem dX9_init_17 : decode cX9_init 17 = .ok (.putfield 13, 3) := by decide +kernel
theorem dX9_init_20 : decode cX9_init 20 = .ok (.aload_n 0, 1) := by decide +kernel
theorem dX9_init_21 : decode cX9_init 21 = .ok (.iconst 3, 1) := by decide +kernel
theorem dX9_init_22 : decode cX9_init 22 = .ok (.newarray .int, 2) := by decide +kernel
theorem dX9_init_24 : decode cX9_init 24 = .ok (.putfield 17, 3) := by decide +kernel
theorem dX9_init_27 : decode cX9_init 27 = .ok (.aload_n 0, 1) := by decide +kernel
theorem dX9_init_28 : decode cX9_init 28 = .ok (.sipush 150, 3) := by decide +kernel
theorem dX9_init_31 : decode cX9_init 31 = .ok (.newarray .byte, 2) := by decide +kernel
theorem dX9_init_33 : decode cX9_init 33 = .ok (.putfield 20, 3) := by decide +kernel
theorem dX9_init_36 : decode cX9_init 36 = .ok (.aload_n 0, 1) := by decide +kernel
theorem dX9_init_37 : decode cX9_init 37 = .ok (.iconst 4, 1) := by decide +kernel
theorem dX9_init_38 : decode cX9_init 38 = .ok (.newarray .int, 2) := by decide +kernel
theorem dX9_init_40 : decode cX9_init 40 = .ok (.putfield 24, 3) := by decide +kernel
theorem dX9_init_43 : decode cX9_init 43 = .ok (.aload_n 0, 1) := by decide +kernel
theorem dX9_init_44 : decode cX9_init 44 = .ok (.bipush 7, 2) := by decide +kernel
theorem dX9_init_46 : decode cX9_init 46 = .ok (.newarray .int, 2) := by decide +kernel
theorem dX9_init_48 : decode cX9_init 48 = .ok (.putfield 27, 3) := by decide +kernel
theorem dX9_init_51 : decode cX9_init 51 = .ok (.aload_n 0, 1) := by decide +kernel
theorem dX9_init_52 : decode cX9_init 52 = .ok (.sipush 128, 3) := by decide +kernel
theorem dX9_init_55 : decode cX9_init 55 = .ok (.newarray .int, 2) := by decide +kernel
theorem dX9_init_57 : decode cX9_init 57 = .ok (.putfield 30, 3) := by decide +kernel
theorem dX9_init_60 : decode cX9_init 60 = .ok (.aload_n 0, 1) := by decide +kernel
theorem dX9_init_61 : decode cX9_init 61 = .ok (.bipush 7, 2) := by decide +kernel
theorem dX9_init_63 : decode cX9_init 63 = .ok (.newarray .int, 2) := by decide +kernel
theorem dX9_init_65 : decode cX9_init 65 = .ok (.putfield 33, 3) := by decide +kernel
theorem dX9_init_68 : decode cX9_init 68 = .ok (.aload_n 0, 1) := by decide +kernel
theorem dX9_init_69 : decode cX9_init 69 = .ok (.sipush 128, 3) := by decide +kernel
theorem dX9_init_72 : decode cX9_init 72 = .ok (.newarray .boolean, 2) := by decide +kernel
theorem dX9_init_74 : decode cX9_init 74 = .ok (.putfield 36, 3) := by decide +kernel
theorem dX9_init_77 : decode cX9_init 77 = .ok (.aload_n 0, 1) := by decide +kernel
theorem dX9_init_78 : decode cX9_init 78 = .ok (.sipush 128, 3) := by decide +kernel
theorem dX9_init_81 : decode cX9_init 81 = .ok (.newarray .boolean, 2) := by decide +kernel
theorem dX9_init_83 : decode cX9_init 83 = .ok (.putfield 39, 3) := by decide +kernel
theorem dX9_init_86 : decode cX9_init 86 = .ok (.aload_n 0, 1) := by decide +kernel
theorem dX9_init_87 : decode cX9_init 87 = .ok (.iconst 4, 1) := by decide +kernel
theorem dX9_init_88 : decode cX9_init 88 = .ok (.newarray .int, 2) := by decide +kernel
theorem dX9_init_90 : decode cX9_init 90 = .ok (.putfield 42, 3) := by decide +kernel
theorem dX9_init_93 : decode cX9_init 93 = .ok (.aload_n 0, 1) := by decide +kernel
theorem dX9_init_94 : decode cX9_init 94 = .ok (.bipush 7, 2) := by decide +kernel
theorem dX9_init_96 : decode cX9_init 96 = .ok (.newarray .int, 2) := by decide +kernel
theorem dX9_init_98 : decode cX9_init 98 = .ok (.putfield 45, 3) := by decide +kernel
theorem dX9_init_101 : decode cX9_init 101 = .ok (.aload_n 0, 1) := by decide +kernel
theorem dX9_init_102 : decode cX9_init 102 = .ok (.bipush 7, 2) := by decide +kernel
theorem dX9_init_104 : decode cX9_init 104 = .ok (.newarray .int, 2) := by decide +kernel
theorem dX9_init_106 : decode cX9_init 106 = .ok (.putfield 48, 3) := by decide +kernel
theorem dX9_init_109 : decode cX9_init 109 = .ok (.aload_n 0, 1) := by decide +kernel
theorem dX9_init_110 : decode cX9_init 110 = .ok (.bipush 49, 2) := by decide +kernel
theorem dX9_init_112 : decode cX9_init 112 = .ok (.newarray .int, 2) := by decide +kernel
theorem dX9_init_114 : decode cX9_init 114 = .ok (.putfield 51, 3) := by decide +kernel
theorem dX9_init_117 : decode cX9_init 117 = .ok (.aload_n 0, 1) := by decide +kernel
theorem dX9_init_118 : decode cX9_init 118 = .ok (.lconst 1, 1) := by decide +kernel
theorem dX9_init_119 : decode cX9_init 119 = .ok (.putfield 54, 3) := by decide +kernel
theorem dX9_init_122 : decode cX9_init 122 = .ok (.return_, 1) := by decide +kernel
theorem dX9_in_0 : decode cX9_in 0 = .ok (.iload_n 0, 1) := by decide +kernel
theorem dX9_in_1 : decode cX9_in 1 = .ok (.iload_n 1, 1) := by decide +kernel
theorem dX9_in_2 : decode cX9_in 2 = .ok (.if_icmp .lt 12, 3) := by decide +kernel
theorem dX9_in_5 : decode cX9_in 5 = .ok (.iload_n 0, 1) := by decide +kernel
theorem dX9_in_6 : decode cX9_in 6 = .ok (.iload_n 2, 1) := by decide +kernel
theorem dX9_in_7 : decode cX9_in 7 = .ok (.if_icmp .gt 7, 3) := by decide +kernel
theorem dX9_in_10 : decode cX9_in 10 = .ok (.iconst 1, 1) := by decide +kernel
theorem dX9_in_11 : decode cX9_in 11 = .ok (.goto 4, 3) := by decide +kernel
theorem dX9_in_14 : decode cX9_in 14 = .ok (.iconst 0, 1) := by decide +kernel
theorem dX9_in_15 : decode cX9_in 15 = .ok (.ireturn, 1) := by decide +kernel
theorem dX9_get_0 : decode cX9_get 0 = .ok (.aload_n 0, 1) := by decide +kernel
theorem dX9_get_1 : decode cX9_get 1 = .ok (.getfield 7, 3) := by decide +kernel
theorem dX9_get_4 : decode cX9_get 4 = .ok (.aload_n 0, 1) := by decide +kernel
theorem dX9_get_5 : decode cX9_get 5 = .ok (.getfield 58, 3) := by decide +kernel
theorem dX9_get_8 : decode cX9_get 8 = .ok (.iload_n 1, 1) := by decide +kernel
theorem dX9_get_9 : decode cX9_get 9 = .ok (.iadd, 1) := by decide +kernel
theorem dX9_get_10 : decode cX9_get 10 = .ok (.iaload, 1) := by decide +kernel
theorem dX9_get_11 : decode cX9_get 11 = .ok (.ireturn, 1) := by decide +kernel
theorem dX9_put1_0 : decode cX9_put1 0 = .ok (.aload_n 0, 1) := by decide +kernel
theorem dX9_put1_1 : decode cX9_put1 1 = .ok (.getfield 7, 3) := by decide +kernel
theorem dX9_put1_4 : decode cX9_put1 4 = .ok (.aload_n 0, 1) := by decide +kernel
theorem dX9_put1_5 : decode cX9_put1 5 = .ok (.getfield 58, 3) := by decide +kernel
theorem dX9_put1_8 : decode cX9_put1 8 = .ok (.iload_n 1, 1) := by decide +kernel
theorem dX9_put1_9 : decode cX9_put1 9 = .ok (.iadd, 1) := by decide +kernel
theorem dX9_put1_10 : decode cX9_put1 10 = .ok (.iload_n 2, 1) := by decide +kernel
theorem dX9_put1_11 : decode cX9_put1 11 = .ok (.iastore, 1) := by decide +kernel
theorem dX9_put1_12 : decode cX9_put1 12 = .ok (.return_, 1) := by decide +kernel
theorem dX9_ofBox_0 : decode cX9_ofBox 0 = .ok (.aload_n 0, 1) := by decide +kernel
