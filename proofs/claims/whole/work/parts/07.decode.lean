theorem dX7_numberAt_15 : decode cX7_numberAt 15 = .ok (.goto 4, 3) := by decide +kernel
theorem dX7_numberAt_18 : decode cX7_numberAt 18 = .ok (.iconst 0, 1) := by decide +kernel
theorem dX7_numberAt_19 : decode cX7_numberAt 19 = .ok (.ireturn, 1) := by decide +kernel
theorem dX7_takeItem_0 : decode cX7_takeItem 0 = .ok (.aload_n 0, 1) := by decide +kernel
theorem dX7_takeItem_1 : decode cX7_takeItem 1 = .ok (.getfield 33, 3) := by decide +kernel
theorem dX7_takeItem_4 : decode cX7_takeItem 4 = .ok (.ifCond .eq 5, 3) := by decide +kernel
theorem dX7_takeItem_7 : decode cX7_takeItem 7 = .ok (.iconst 0, 1) := by decide +kernel
theorem dX7_takeItem_8 : decode cX7_takeItem 8 = .ok (.ireturn, 1) := by decide +kernel
theorem dX7_takeItem_9 : decode cX7_takeItem 9 = .ok (.aload_n 0, 1) := by decide +kernel
theorem dX7_takeItem_10 : decode cX7_takeItem 10 = .ok (.aload_n 0, 1) := by decide +kernel
theorem dX7_takeItem_11 : decode cX7_takeItem 11 = .ok (.getfield 36, 3) := by decide +kernel
theorem dX7_takeItem_14 : decode cX7_takeItem 14 = .ok (.putfield 39, 3) := by decide +kernel
theorem dX7_takeItem_17 : decode cX7_takeItem 17 = .ok (.aload_n 0, 1) := by decide +kernel
theorem dX7_takeItem_18 : decode cX7_takeItem 18 = .ok (.getfield 39, 3) := by decide +kernel
theorem dX7_takeItem_21 : decode cX7_takeItem 21 = .ok (.invokestatic 42, 3) := by decide +kernel
theorem dX7_takeItem_24 : decode cX7_takeItem 24 = .ok (.istore_n 1, 1) := by decide +kernel
theorem dX7_takeItem_25 : decode cX7_takeItem 25 = .ok (.iconst 0, 1) := by decide +kernel
theorem dX7_takeItem_26 : decode cX7_takeItem 26 = .ok (.istore_n 2, 1) := by decide +kernel
theorem dX7_takeItem_27 : decode cX7_takeItem 27 = .ok (.iload_n 2, 1) := by decide +kernel
theorem dX7_takeItem_28 : decode cX7_takeItem 28 = .ok (.iload_n 1, 1) := by decide +kernel
theorem dX7_takeItem_29 : decode cX7_takeItem 29 = .ok (.if_icmp .ge 38, 3) := by decide +kernel
theorem dX7_takeItem_32 : decode cX7_takeItem 32 = .ok (.iload_n 2, 1) := by decide +kernel
theorem dX7_takeItem_33 : decode cX7_takeItem 33 = .ok (.iconst 4, 1) := by decide +kernel
theorem dX7_takeItem_34 : decode cX7_takeItem 34 = .ok (.if_icmp .ge 33, 3) := by decide +kernel
theorem dX7_takeItem_37 : decode cX7_takeItem 37 = .ok (.aload_n 0, 1) := by decide +kernel
theorem dX7_takeItem_38 : decode cX7_takeItem 38 = .ok (.invokevirtual 46, 3) := by decide +kernel
theorem dX7_takeItem_41 : decode cX7_takeItem 41 = .ok (.aload_n 0, 1) := by decide +kernel
theorem dX7_takeItem_42 : decode cX7_takeItem 42 = .ok (.getfield 33, 3) := by decide +kernel
theorem dX7_takeItem_45 : decode cX7_takeItem 45 = .ok (.iconst 1, 1) := by decide +kernel
theorem dX7_takeItem_46 : decode cX7_takeItem 46 = .ok (.if_icmp .eq 5, 3) := by decide +kernel
theorem dX7_takeItem_49 : decode cX7_takeItem 49 = .ok (.iconst 0, 1) := by decide +kernel
theorem dX7_takeItem_50 : decode cX7_takeItem 50 = .ok (.ireturn, 1) := by decide +kernel
theorem dX7_takeItem_51 : decode cX7_takeItem 51 = .ok (.aload_n 0, 1) := by decide +kernel
theorem dX7_takeItem_52 : decode cX7_takeItem 52 = .ok (.getfield 15, 3) := by decide +kernel
theorem dX7_takeItem_55 : decode cX7_takeItem 55 = .ok (.iload_n 2, 1) := by decide +kernel
theorem dX7_takeItem_56 : decode cX7_takeItem 56 = .ok (.aload_n 0, 1) := by decide +kernel
theorem dX7_takeItem_57 : decode cX7_takeItem 57 = .ok (.getfield 36, 3) := by decide +kernel
theorem dX7_takeItem_60 : decode cX7_takeItem 60 = .ok (.iastore, 1) := by decide +kernel
theorem dX7_takeItem_61 : decode cX7_takeItem 61 = .ok (.iinc 2 1, 3) := by decide +kernel
theorem dX7_takeItem_64 : decode cX7_takeItem 64 = .ok (.goto (-37), 3) := by decide +kernel
theorem dX7_takeItem_67 : decode cX7_takeItem 67 = .ok (.aload_n 0, 1) := by decide +kernel
theorem dX7_takeItem_68 : decode cX7_takeItem 68 = .ok (.invokevirtual 46, 3) := by decide +kernel
theorem dX7_takeItem_71 : decode cX7_takeItem 71 = .ok (.aload_n 0, 1) := by decide +kernel
theorem dX7_takeItem_72 : decode cX7_takeItem 72 = .ok (.getfield 33, 3) := by decide +kernel
theorem dX7_takeItem_75 : decode cX7_takeItem 75 = .ok (.iconst 2, 1) := by decide +kernel
theorem dX7_takeItem_76 : decode cX7_takeItem 76 = .ok (.if_icmp .ne 7, 3) := by decide +kernel
theorem dX7_takeItem_79 : decode cX7_takeItem 79 = .ok (.iconst 1, 1) := by decide +kernel
theorem dX7_takeItem_80 : decode cX7_takeItem 80 = .ok (.goto 4, 3) := by decide +kernel
theorem dX7_takeItem_83 : decode cX7_takeItem 83 = .ok (.iconst 0, 1) := by decide +kernel
theorem dX7_takeItem_84 : decode cX7_takeItem 84 = .ok (.ireturn, 1) := by decide +kernel
theorem dX7_numbersDue_0 : decode cX7_numbersDue 0 = .ok (.iload_n 0, 1) := by decide +kernel
theorem dX7_numbersDue_1 : decode cX7_numbersDue 1 = .ok (.tableswitch 31 2 4 #[27, 27, 29], 27) := by decide +kernel
theorem dX7_numbersDue_28 : decode cX7_numbersDue 28 = .ok (.iconst 2, 1) := by decide +kernel
theorem dX7_numbersDue_29 : decode cX7_numbersDue 29 = .ok (.ireturn, 1) := by decide +kernel
theorem dX7_numbersDue_30 : decode cX7_numbersDue 30 = .ok (.iconst 4, 1) := by decide +kernel
theorem dX7_numbersDue_31 : decode cX7_numbersDue 31 = .ok (.ireturn, 1) := by decide +kernel
theorem dX7_numbersDue_32 : decode cX7_numbersDue 32 = .ok (.iconst 3, 1) := by decide +kernel
theorem dX7_numbersDue_33 : decode cX7_numbersDue 33 = .ok (.ireturn, 1) := by decide +kernel
theorem dX7_advance_0 : decode cX7_advance 0 = .ok (.aload_n 0, 1) := by decide +kernel
theorem dX7_advance_1 : decode cX7_advance 1 = .ok (.aload_n 0, 1) := by decide +kernel
theorem dX7_advance_2 : decode cX7_advance 2 = .ok (.getfield 30, 3) := by decide +kernel
theorem dX7_advance_5 : decode cX7_advance 5 = .ok (.putfield 27, 3) := by decide +kernel
theorem dX7_advance_8 : decode cX7_advance 8 = .ok (.aload_n 0, 1) := by decide +kernel
theorem dX7_advance_9 : decode cX7_advance 9 = .ok (.getfield 27, 3) := by decide +kernel
theorem dX7_advance_12 : decode cX7_advance 12 = .ok (.aload_n 0, 1) := by decide +kernel
theorem dX7_advance_13 : decode cX7_advance 13 = .ok (.getfield 19, 3) := by decide +kernel
theorem dX7_advance_16 : decode cX7_advance 16 = .ok (.if_icmp .ge 29, 3) := by decide +kernel
theorem dX7_advance_19 : decode cX7_advance 19 = .ok (.aload_n 0, 1) := by decide +kernel
theorem dX7_advance_20 : decode cX7_advance 20 = .ok (.aload_n 0, 1) := by decide +kernel
theorem dX7_advance_21 : decode cX7_advance 21 = .ok (.getfield 27, 3) := by decide +kernel
theorem dX7_advance_24 : decode cX7_advance 24 = .ok (.invokevirtual 49, 3) := by decide +kernel
theorem dX7_advance_27 : decode cX7_advance 27 = .ok (.bipush 32, 2) := by decide +kernel
theorem dX7_advance_29 : decode cX7_advance 29 = .ok (.if_icmp .ne 16, 3) := by decide +kernel
theorem dX7_advance_32 : decode cX7_advance 32 = .ok (.aload_n 0, 1) := by decide +kernel
theorem dX7_advance_33 : decode cX7_advance 33 = .ok (.dup, 1) := by decide +kernel
theorem dX7_advance_34 : decode cX7_advance 34 = .ok (.getfield 27, 3) := by decide +kernel
theorem dX7_advance_37 : decode cX7_advance 37 = .ok (.iconst 1, 1) := by decide +kernel
theorem dX7_advance_38 : decode cX7_advance 38 = .ok (.iadd, 1) := by decide +kernel
theorem dX7_advance_39 : decode cX7_advance 39 = .ok (.putfield 27, 3) := by decide +kernel
theorem dX7_advance_42 : decode cX7_advance 42 = .ok (.goto (-34), 3) := by decide +kernel
theorem dX7_advance_45 : decode cX7_advance 45 = .ok (.aload_n 0, 1) := by decide +kernel
theorem dX7_advance_46 : decode cX7_advance 46 = .ok (.aload_n 0, 1) := by decide +kernel
theorem dX7_advance_47 : decode cX7_advance 47 = .ok (.getfield 27, 3) := by decide +kernel
theorem dX7_advance_50 : decode cX7_advance 50 = .ok (.iconst 1, 1) := by decide +kernel
theorem dX7_advance_51 : decode cX7_advance 51 = .ok (.iadd, 1) := by decide +kernel
theorem dX7_advance_52 : decode cX7_advance 52 = .ok (.putfield 30, 3) := by decide +kernel
theorem dX7_advance_55 : decode cX7_advance 55 = .ok (.aload_n 0, 1) := by decide +kernel
theorem dX7_advance_56 : decode cX7_advance 56 = .ok (.aload_n 0, 1) := by decide +kernel
theorem dX7_advance_57 : decode cX7_advance 57 = .ok (.getfield 27, 3) := by decide +kernel
theorem dX7_advance_60 : decode cX7_advance 60 = .ok (.invokevirtual 49, 3) := by decide +kernel
theorem dX7_advance_63 : decode cX7_advance 63 = .ok (.istore_n 1, 1) := by decide +kernel
theorem dX7_advance_64 : decode cX7_advance 64 = .ok (.aload_n 0, 1) := by decide +kernel
theorem dX7_advance_65 : decode cX7_advance 65 = .ok (.getfield 27, 3) := by decide +kernel
theorem dX7_advance_68 : decode cX7_advance 68 = .ok (.aload_n 0, 1) := by decide +kernel
theorem dX7_advance_69 : decode cX7_advance 69 = .ok (.getfield 19, 3) := by decide +kernel
theorem dX7_advance_72 : decode cX7_advance 72 = .ok (.if_icmp .lt 19, 3) := by decide +kernel
theorem dX7_advance_75 : decode cX7_advance 75 = .ok (.aload_n 0, 1) := by decide +kernel
theorem dX7_advance_76 : decode cX7_advance 76 = .ok (.aload_n 0, 1) := by decide +kernel
theorem dX7_advance_77 : decode cX7_advance 77 = .ok (.getfield 27, 3) := by decide +kernel
theorem dX7_advance_80 : decode cX7_advance 80 = .ok (.putfield 30, 3) := by decide +kernel
theorem dX7_advance_83 : decode cX7_advance 83 = .ok (.aload_n 0, 1) := by decide +kernel
theorem dX7_advance_84 : decode cX7_advance 84 = .ok (.iconst 3, 1) := by decide +kernel
theorem dX7_advance_85 : decode cX7_advance 85 = .ok (.putfield 33, 3) := by decide +kernel
theorem dX7_advance_88 : decode cX7_advance 88 = .ok (.goto 46, 3) := by decide +kernel
theorem dX7_advance_91 : decode cX7_advance 91 = .ok (.iload_n 1, 1) := by decide +kernel
theorem dX7_advance_92 : decode cX7_advance 92 = .ok (.invokestatic 52, 3) := by decide +kernel
theorem dX7_advance_95 : decode cX7_advance 95 = .ok (.ifCond .eq 10, 3) := by decide +kernel
theorem dX7_advance_98 : decode cX7_advance 98 = .ok (.aload_n 0, 1) := by decide +kernel
theorem dX7_advance_99 : decode cX7_advance 99 = .ok (.invokevirtual 56, 3) := by decide +kernel
theorem dX7_advance_102 : decode cX7_advance 102 = .ok (.goto 32, 3) := by decide +kernel
theorem dX7_advance_105 : decode cX7_advance 105 = .ok (.iload_n 1, 1) := by decide +kernel
theorem dX7_advance_106 : decode cX7_advance 106 = .ok (.invokestatic 59, 3) := by decide +kernel
theorem dX7_advance_109 : decode cX7_advance 109 = .ok (.ifCond .eq 10, 3) := by decide +kernel
theorem dX7_advance_112 : decode cX7_advance 112 = .ok (.aload_n 0, 1) := by decide +kernel
theorem dX7_advance_113 : decode cX7_advance 113 = .ok (.invokevirtual 62, 3) := by decide +kernel
theorem dX7_advance_116 : decode cX7_advance 116 = .ok (.goto 18, 3) := by decide +kernel
theorem dX7_advance_119 : decode cX7_advance 119 = .ok (.aload_n 0, 1) := by decide +kernel
theorem dX7_advance_120 : decode cX7_advance 120 = .ok (.iload_n 1, 1) := by decide +kernel
theorem dX7_advance_121 : decode cX7_advance 121 = .ok (.bipush 59, 2) := by decide +kernel
theorem dX7_advance_123 : decode cX7_advance 123 = .ok (.if_icmp .ne 7, 3) := by decide +kernel
theorem dX7_advance_126 : decode cX7_advance 126 = .ok (.iconst 2, 1) := by decide +kernel
theorem dX7_advance_127 : decode cX7_advance 127 = .ok (.goto 4, 3) := by decide +kernel
theorem dX7_advance_130 : decode cX7_advance 130 = .ok (.iconst 4, 1) := by decide +kernel
theorem dX7_advance_131 : decode cX7_advance 131 = .ok (.putfield 33, 3) := by decide +kernel
theorem dX7_advance_134 : decode cX7_advance 134 = .ok (.return_, 1) := by decide +kernel
theorem dX7_advanceOverWord_0 : decode cX7_advanceOverWord 0 = .ok (.aload_n 0, 1) := by decide +kernel
theorem dX7_advanceOverWord_1 : decode cX7_advanceOverWord 1 = .ok (.getfield 30, 3) := by decide +kernel
theorem dX7_advanceOverWord_4 : decode cX7_advanceOverWord 4 = .ok (.aload_n 0, 1) := by decide +kernel
theorem dX7_advanceOverWord_5 : decode cX7_advanceOverWord 5 = .ok (.getfield 19, 3) := by decide +kernel
theorem dX7_advanceOverWord_8 : decode cX7_advanceOverWord 8 = .ok (.if_icmp .ge 30, 3) := by decide +kernel
theorem dX7_advanceOverWord_11 : decode cX7_advanceOverWord 11 = .ok (.aload_n 0, 1) := by decide +kernel
theorem dX7_advanceOverWord_12 : decode cX7_advanceOverWord 12 = .ok (.aload_n 0, 1) := by decide +kernel
theorem dX7_advanceOverWord_13 : decode cX7_advanceOverWord 13 = .ok (.getfield 30, 3) := by decide +kernel
theorem dX7_advanceOverWord_16 : decode cX7_advanceOverWord 16 = .ok (.invokevirtual 49, 3) := by decide +kernel
theorem dX7_advanceOverWord_19 : decode cX7_advanceOverWord 19 = .ok (.invokestatic 52, 3) := by decide +kernel
theorem dX7_advanceOverWord_22 : decode cX7_advanceOverWord 22 = .ok (.ifCond .eq 16, 3) := by decide +kernel
theorem dX7_advanceOverWord_25 : decode cX7_advanceOverWord 25 = .ok (.aload_n 0, 1) := by decide +kernel
theorem dX7_advanceOverWord_26 : decode cX7_advanceOverWord 26 = .ok (.dup, 1) := by decide +kernel
theorem dX7_advanceOverWord_27 : decode cX7_advanceOverWord 27 = .ok (.getfield 30, 3) := by decide +kernel
theorem dX7_advanceOverWord_30 : decode cX7_advanceOverWord 30 = .ok (.iconst 1, 1) := by decide +kernel
theorem dX7_advanceOverWord_31 : decode cX7_advanceOverWord 31 = .ok (.iadd, 1) := by decide +kernel
theorem dX7_advanceOverWord_32 : decode cX7_advanceOverWord 32 = .ok (.putfield 30, 3) := by decide +kernel
theorem dX7_advanceOverWord_35 : decode cX7_advanceOverWord 35 = .ok (.goto (-35), 3) := by decide +kernel
theorem dX7_advanceOverWord_38 : decode cX7_advanceOverWord 38 = .ok (.aload_n 0, 1) := by decide +kernel
theorem dX7_advanceOverWord_39 : decode cX7_advanceOverWord 39 = .ok (.aload_n 0, 1) := by decide +kernel
theorem dX7_advanceOverWord_40 : decode cX7_advanceOverWord 40 = .ok (.invokevirtual 65, 3) := by decide +kernel
theorem dX7_advanceOverWord_43 : decode cX7_advanceOverWord 43 = .ok (.putfield 36, 3) := by decide +kernel
theorem dX7_advanceOverWord_46 : decode cX7_advanceOverWord 46 = .ok (.aload_n 0, 1) := by decide +kernel
theorem dX7_advanceOverWord_47 : decode cX7_advanceOverWord 47 = .ok (.aload_n 0, 1) := by decide +kernel
theorem dX7_advanceOverWord_48 : decode cX7_advanceOverWord 48 = .ok (.getfield 36, 3) := by decide +kernel
theorem dX7_advanceOverWord_51 : decode cX7_advanceOverWord 51 = .ok (.iconst (-1), 1) := by decide +kernel
theorem dX7_advanceOverWord_52 : decode cX7_advanceOverWord 52 = .ok (.if_icmp .ne 7, 3) := by decide +kernel
theorem dX7_advanceOverWord_55 : decode cX7_advanceOverWord 55 = .ok (.iconst 4, 1) := by decide +kernel
theorem dX7_advanceOverWord_56 : decode cX7_advanceOverWord 56 = .ok (.goto 4, 3) := by decide +kernel
theorem dX7_advanceOverWord_59 : decode cX7_advanceOverWord 59 = .ok (.iconst 0, 1) := by decide +kernel
theorem dX7_advanceOverWord_60 : decode cX7_advanceOverWord 60 = .ok (.putfield 33, 3) := by decide +kernel
theorem dX7_advanceOverWord_63 : decode cX7_advanceOverWord 63 = .ok (.return_, 1) := by decide +kernel
theorem dX7_advanceOverNumber_0 : decode cX7_advanceOverNumber 0 = .ok (.aload_n 0, 1) := by decide +kernel
theorem dX7_advanceOverNumber_1 : decode cX7_advanceOverNumber 1 = .ok (.getfield 30, 3) := by decide +kernel
theorem dX7_advanceOverNumber_4 : decode cX7_advanceOverNumber 4 = .ok (.aload_n 0, 1) := by decide +kernel
theorem dX7_advanceOverNumber_5 : decode cX7_advanceOverNumber 5 = .ok (.getfield 19, 3) := by decide +kernel
theorem dX7_advanceOverNumber_8 : decode cX7_advanceOverNumber 8 = .ok (.if_icmp .ge 30, 3) := by decide +kernel
theorem dX7_advanceOverNumber_11 : decode cX7_advanceOverNumber 11 = .ok (.aload_n 0, 1) := by decide +kernel
theorem dX7_advanceOverNumber_12 : decode cX7_advanceOverNumber 12 = .ok (.aload_n 0, 1) := by decide +kernel
theorem dX7_advanceOverNumber_13 : decode cX7_advanceOverNumber 13 = .ok (.getfield 30, 3) := by decide +kernel
theorem dX7_advanceOverNumber_16 : decode cX7_advanceOverNumber 16 = .ok (.invokevirtual 49, 3) := by decide +kernel
theorem dX7_advanceOverNumber_19 : decode cX7_advanceOverNumber 19 = .ok (.invokestatic 59, 3) := by decide +kernel
theorem dX7_advanceOverNumber_22 : decode cX7_advanceOverNumber 22 = .ok (.ifCond .eq 16, 3) := by decide +kernel
theorem dX7_advanceOverNumber_25 : decode cX7_advanceOverNumber 25 = .ok (.aload_n 0, 1) := by decide +kernel
theorem dX7_advanceOverNumber_26 : decode cX7_advanceOverNumber 26 = .ok (.dup, 1) := by decide +kernel
theorem dX7_advanceOverNumber_27 : decode cX7_advanceOverNumber 27 = .ok (.getfield 30, 3) := by decide +kernel
theorem dX7_advanceOverNumber_30 : decode cX7_advanceOverNumber 30 = .ok (.iconst 1, 1) := by decide +kernel
theorem dX7_advanceOverNumber_31 : decode cX7_advanceOverNumber 31 = .ok (.iadd, 1) := by decide +kernel
theorem dX7_advanceOverNumber_32 : decode cX7_advanceOverNumber 32 = .ok (.putfield 30, 3) := by decide +kernel
theorem dX7_advanceOverNumber_35 : decode cX7_advanceOverNumber 35 = .ok (.goto (-35), 3) := by decide +kernel
theorem dX7_advanceOverNumber_38 : decode cX7_advanceOverNumber 38 = .ok (.aload_n 0, 1) := by decide +kernel
theorem dX7_advanceOverNumber_39 : decode cX7_advanceOverNumber 39 = .ok (.iconst 0, 1) := by decide +kernel
theorem dX7_advanceOverNumber_40 : decode cX7_advanceOverNumber 40 = .ok (.putfield 36, 3) := by decide +kernel
theorem dX7_advanceOverNumber_43 : decode cX7_advanceOverNumber 43 = .ok (.aload_n 0, 1) := by decide +kernel
theorem dX7_advanceOverNumber_44 : decode cX7_advanceOverNumber 44 = .ok (.getfield 27, 3) := by decide +kernel
theorem dX7_advanceOverNumber_47 : decode cX7_advanceOverNumber 47 = .ok (.istore_n 1, 1) := by decide +kernel
theorem dX7_advanceOverNumber_48 : decode cX7_advanceOverNumber 48 = .ok (.iload_n 1, 1) := by decide +kernel
theorem dX7_advanceOverNumber_49 : decode cX7_advanceOverNumber 49 = .ok (.aload_n 0, 1) := by decide +kernel
theorem dX7_advanceOverNumber_50 : decode cX7_advanceOverNumber 50 = .ok (.getfield 30, 3) := by decide +kernel
theorem dX7_advanceOverNumber_53 : decode cX7_advanceOverNumber 53 = .ok (.if_icmp .ge 39, 3) := by decide +kernel
theorem dX7_advanceOverNumber_56 : decode cX7_advanceOverNumber 56 = .ok (.iload_n 1, 1) := by decide +kernel
theorem dX7_advanceOverNumber_57 : decode cX7_advanceOverNumber 57 = .ok (.aload_n 0, 1) := by decide +kernel
theorem dX7_advanceOverNumber_58 : decode cX7_advanceOverNumber 58 = .ok (.getfield 27, 3) := by decide +kernel
theorem dX7_advanceOverNumber_61 : decode cX7_advanceOverNumber 61 = .ok (.iconst 2, 1) := by decide +kernel
theorem dX7_advanceOverNumber_62 : decode cX7_advanceOverNumber 62 = .ok (.iadd, 1) := by decide +kernel
theorem dX7_advanceOverNumber_63 : decode cX7_advanceOverNumber 63 = .ok (.if_icmp .ge 29, 3) := by decide +kernel
theorem dX7_advanceOverNumber_66 : decode cX7_advanceOverNumber 66 = .ok (.aload_n 0, 1) := by decide +kernel
theorem dX7_advanceOverNumber_67 : decode cX7_advanceOverNumber 67 = .ok (.aload_n 0, 1) := by decide +kernel
theorem dX7_advanceOverNumber_68 : decode cX7_advanceOverNumber 68 = .ok (.getfield 36, 3) := by decide +kernel
theorem dX7_advanceOverNumber_71 : decode cX7_advanceOverNumber 71 = .ok (.bipush 10, 2) := by decide +kernel
theorem dX7_advanceOverNumber_73 : decode cX7_advanceOverNumber 73 = .ok (.imul, 1) := by decide +kernel
theorem dX7_advanceOverNumber_74 : decode cX7_advanceOverNumber 74 = .ok (.aload_n 0, 1) := by decide +kernel
theorem dX7_advanceOverNumber_75 : decode cX7_advanceOverNumber 75 = .ok (.iload_n 1, 1) := by decide +kernel
theorem dX7_advanceOverNumber_76 : decode cX7_advanceOverNumber 76 = .ok (.invokevirtual 49, 3) := by decide +kernel
theorem dX7_advanceOverNumber_79 : decode cX7_advanceOverNumber 79 = .ok (.iadd, 1) := by decide +kernel
theorem dX7_advanceOverNumber_80 : decode cX7_advanceOverNumber 80 = .ok (.bipush 48, 2) := by decide +kernel
theorem dX7_advanceOverNumber_82 : decode cX7_advanceOverNumber 82 = .ok (.isub, 1) := by decide +kernel
theorem dX7_advanceOverNumber_83 : decode cX7_advanceOverNumber 83 = .ok (.putfield 36, 3) := by decide +kernel
theorem dX7_advanceOverNumber_86 : decode cX7_advanceOverNumber 86 = .ok (.iinc 1 1, 3) := by decide +kernel
theorem dX7_advanceOverNumber_89 : decode cX7_advanceOverNumber 89 = .ok (.goto (-41), 3) := by decide +kernel
theorem dX7_advanceOverNumber_92 : decode cX7_advanceOverNumber 92 = .ok (.aload_n 0, 1) := by decide +kernel
theorem dX7_advanceOverNumber_93 : decode cX7_advanceOverNumber 93 = .ok (.aload_n 0, 1) := by decide +kernel
theorem dX7_advanceOverNumber_94 : decode cX7_advanceOverNumber 94 = .ok (.getfield 30, 3) := by decide +kernel
theorem dX7_advanceOverNumber_97 : decode cX7_advanceOverNumber 97 = .ok (.aload_n 0, 1) := by decide +kernel
theorem dX7_advanceOverNumber_98 : decode cX7_advanceOverNumber 98 = .ok (.getfield 27, 3) := by decide +kernel
theorem dX7_advanceOverNumber_101 : decode cX7_advanceOverNumber 101 = .ok (.isub, 1) := by decide +kernel
theorem dX7_advanceOverNumber_102 : decode cX7_advanceOverNumber 102 = .ok (.iconst 2, 1) := by decide +kernel
theorem dX7_advanceOverNumber_103 : decode cX7_advanceOverNumber 103 = .ok (.if_icmp .le 7, 3) := by decide +kernel
theorem dX7_advanceOverNumber_106 : decode cX7_advanceOverNumber 106 = .ok (.iconst 4, 1) := by decide +kernel
theorem dX7_advanceOverNumber_107 : decode cX7_advanceOverNumber 107 = .ok (.goto 4, 3) := by decide +kernel
theorem dX7_advanceOverNumber_110 : decode cX7_advanceOverNumber 110 = .ok (.iconst 1, 1) := by decide +kernel
theorem dX7_advanceOverNumber_111 : decode cX7_advanceOverNumber 111 = .ok (.putfield 33, 3) := by decide +kernel
theorem dX7_advanceOverNumber_114 : decode cX7_advanceOverNumber 114 = .ok (.return_, 1) := by decide +kernel
theorem dX7_byteAt_0 : decode cX7_byteAt 0 = .ok (.iconst 0, 1) := by decide +kernel
theorem dX7_byteAt_1 : decode cX7_byteAt 1 = .ok (.iload_n 1, 1) := by decide +kernel
theorem dX7_byteAt_2 : decode cX7_byteAt 2 = .ok (.if_icmp .gt 20, 3) := by decide +kernel
theorem dX7_byteAt_5 : decode cX7_byteAt 5 = .ok (.iload_n 1, 1) := by decide +kernel
theorem dX7_byteAt_6 : decode cX7_byteAt 6 = .ok (.aload_n 0, 1) := by decide +kernel
theorem dX7_byteAt_7 : decode cX7_byteAt 7 = .ok (.getfield 19, 3) := by decide +kernel
theorem dX7_byteAt_10 : decode cX7_byteAt 10 = .ok (.if_icmp .ge 12, 3) := by decide +kernel
theorem dX7_byteAt_13 : decode cX7_byteAt 13 = .ok (.aload_n 0, 1) := by decide +kernel
theorem dX7_byteAt_14 : decode cX7_byteAt 14 = .ok (.getfield 9, 3) := by decide +kernel
theorem dX7_byteAt_17 : decode cX7_byteAt 17 = .ok (.iload_n 1, 1) := by decide +kernel
theorem dX7_byteAt_18 : decode cX7_byteAt 18 = .ok (.baload, 1) := by decide +kernel
theorem dX7_byteAt_19 : decode cX7_byteAt 19 = .ok (.goto 4, 3) := by decide +kernel
theorem dX7_byteAt_22 : decode cX7_byteAt 22 = .ok (.iconst (-1), 1) := by decide +kernel
theorem dX7_byteAt_23 : decode cX7_byteAt 23 = .ok (.ireturn, 1) := by decide +kernel
theorem dX7_isLetter_0 : decode cX7_isLetter 0 = .ok (.iload_n 0, 1) := by decide +kernel
theorem dX7_isLetter_1 : decode cX7_isLetter 1 = .ok (.bipush 97, 2) := by decide +kernel
theorem dX7_isLetter_3 : decode cX7_isLetter 3 = .ok (.bipush 122, 2) := by decide +kernel
theorem dX7_isLetter_5 : decode cX7_isLetter 5 = .ok (.invokestatic 23, 3) := by decide +kernel
theorem dX7_isLetter_8 : decode cX7_isLetter 8 = .ok (.ireturn, 1) := by decide +kernel
theorem dX7_isFigure_0 : decode cX7_isFigure 0 = .ok (.iload_n 0, 1) := by decide +kernel
theorem dX7_isFigure_1 : decode cX7_isFigure 1 = .ok (.bipush 48, 2) := by decide +kernel
theorem dX7_isFigure_3 : decode cX7_isFigure 3 = .ok (.bipush 57, 2) := by decide +kernel
theorem dX7_isFigure_5 : decode cX7_isFigure 5 = .ok (.invokestatic 23, 3) := by decide +kernel
theorem dX7_isFigure_8 : decode cX7_isFigure 8 = .ok (.ireturn, 1) := by decide +kernel
theorem dX7_wordNumber_0 : decode cX7_wordNumber 0 = .ok (.iconst 0, 1) := by decide +kernel
theorem dX7_wordNumber_1 : decode cX7_wordNumber 1 = .ok (.istore_n 1, 1) := by decide +kernel
theorem dX7_wordNumber_2 : decode cX7_wordNumber 2 = .ok (.iload_n 1, 1) := by decide +kernel
theorem dX7_wordNumber_3 : decode cX7_wordNumber 3 = .ok (.iconst 5, 1) := by decide +kernel
theorem dX7_wordNumber_4 : decode cX7_wordNumber 4 = .ok (.if_icmp .ge 22, 3) := by decide +kernel
theorem dX7_wordNumber_7 : decode cX7_wordNumber 7 = .ok (.aload_n 0, 1) := by decide +kernel
theorem dX7_wordNumber_8 : decode cX7_wordNumber 8 = .ok (.iload_n 1, 1) := by decide +kernel
theorem dX7_wordNumber_9 : decode cX7_wordNumber 9 = .ok (.invokestatic 69, 3) := by decide +kernel
theorem dX7_wordNumber_12 : decode cX7_wordNumber 12 = .ok (.invokevirtual 73, 3) := by decide +kernel
theorem dX7_wordNumber_15 : decode cX7_wordNumber 15 = .ok (.ifCond .eq 5, 3) := by decide +kernel
theorem dX7_wordNumber_18 : decode cX7_wordNumber 18 = .ok (.iload_n 1, 1) := by decide +kernel
theorem dX7_wordNumber_19 : decode cX7_wordNumber 19 = .ok (.ireturn, 1) := by decide +kernel
theorem dX7_wordNumber_20 : decode cX7_wordNumber 20 = .ok (.iinc 1 1, 3) := by decide +kernel
theorem dX7_wordNumber_23 : decode cX7_wordNumber 23 = .ok (.goto (-21), 3) := by decide +kernel
theorem dX7_wordNumber_26 : decode cX7_wordNumber 26 = .ok (.iconst (-1), 1) := by decide +kernel
theorem dX7_wordNumber_27 : decode cX7_wordNumber 27 = .ok (.ireturn, 1) := by decide +kernel
theorem dX7_nameOf_0 : decode cX7_nameOf 0 = .ok (.iload_n 0, 1) := by decide +kernel
theorem dX7_nameOf_1 : decode cX7_nameOf 1 = .ok (.tableswitch 43 0 3 #[31, 34, 37, 40], 31) := by decide +kernel
theorem dX7_nameOf_32 : decode cX7_nameOf 32 = .ok (.ldc 77, 2) := by decide +kernel
theorem dX7_nameOf_34 : decode cX7_nameOf 34 = .ok (.areturn, 1) := by decide +kernel
theorem dX7_nameOf_35 : decode cX7_nameOf 35 = .ok (.ldc 79, 2) := by decide +kernel
theorem dX7_nameOf_37 : decode cX7_nameOf 37 = .ok (.areturn, 1) := by decide +kernel
theorem dX7_nameOf_38 : decode cX7_nameOf 38 = .ok (.ldc 81, 2) := by decide +kernel
theorem dX7_nameOf_40 : decode cX7_nameOf 40 = .ok (.areturn, 1) := by decide +kernel
theorem dX7_nameOf_41 : decode cX7_nameOf 41 = .ok (.ldc 83, 2) := by decide +kernel
theorem dX7_nameOf_43 : decode cX7_nameOf 43 = .ok (.areturn, 1) := by decide +kernel
theorem dX7_nameOf_44 : decode cX7_nameOf 44 = .ok (.ldc 85, 2) := by decide +kernel
theorem dX7_nameOf_46 : decode cX7_nameOf 46 = .ok (.areturn, 1) := by decide +kernel
theorem dX7_spells_0 : decode cX7_spells 0 = .ok (.aload_n 0, 1) := by decide +kernel
theorem dX7_spells_1 : decode cX7_spells 1 = .ok (.getfield 30, 3) := by decide +kernel
theorem dX7_spells_4 : decode cX7_spells 4 = .ok (.aload_n 0, 1) := by decide +kernel
theorem dX7_spells_5 : decode cX7_spells 5 = .ok (.getfield 27, 3) := by decide +kernel
theorem dX7_spells_8 : decode cX7_spells 8 = .ok (.isub, 1) := by decide +kernel
theorem dX7_spells_9 : decode cX7_spells 9 = .ok (.aload_n 1, 1) := by decide +kernel
theorem dX7_spells_10 : decode cX7_spells 10 = .ok (.invokevirtual 87, 3) := by decide +kernel
theorem dX7_spells_13 : decode cX7_spells 13 = .ok (.if_icmp .eq 5, 3) := by decide +kernel
theorem dX7_spells_16 : decode cX7_spells 16 = .ok (.iconst 0, 1) := by decide +kernel
theorem dX7_spells_17 : decode cX7_spells 17 = .ok (.ireturn, 1) := by decide +kernel
theorem dX7_spells_18 : decode cX7_spells 18 = .ok (.iconst 0, 1) := by decide +kernel
theorem dX7_spells_19 : decode cX7_spells 19 = .ok (.istore_n 2, 1) := by decide +kernel
theorem dX7_spells_20 : decode cX7_spells 20 = .ok (.iload_n 2, 1) := by decide +kernel
theorem dX7_spells_21 : decode cX7_spells 21 = .ok (.aload_n 1, 1) := by decide +kernel
theorem dX7_spells_22 : decode cX7_spells 22 = .ok (.invokevirtual 87, 3) := by decide +kernel
theorem dX7_spells_25 : decode cX7_spells 25 = .ok (.if_icmp .ge 29, 3) := by decide +kernel
theorem dX7_spells_28 : decode cX7_spells 28 = .ok (.aload_n 0, 1) := by decide +kernel
theorem dX7_spells_29 : decode cX7_spells 29 = .ok (.aload_n 0, 1) := by decide +kernel
theorem dX7_spells_30 : decode cX7_spells 30 = .ok (.getfield 27, 3) := by decide +kernel
theorem dX7_spells_33 : decode cX7_spells 33 = .ok (.iload_n 2, 1) := by decide +kernel
theorem dX7_spells_34 : decode cX7_spells 34 = .ok (.iadd, 1) := by decide +kernel
theorem dX7_spells_35 : decode cX7_spells 35 = .ok (.invokevirtual 49, 3) := by decide +kernel
theorem dX7_spells_38 : decode cX7_spells 38 = .ok (.aload_n 1, 1) := by decide +kernel
theorem dX7_spells_39 : decode cX7_spells 39 = .ok (.iload_n 2, 1) := by decide +kernel
theorem dX7_spells_40 : decode cX7_spells 40 = .ok (.invokevirtual 91, 3) := by decide +kernel
theorem dX7_spells_43 : decode cX7_spells 43 = .ok (.if_icmp .eq 5, 3) := by decide +kernel
theorem dX7_spells_46 : decode cX7_spells 46 = .ok (.iconst 0, 1) := by decide +kernel
theorem dX7_spells_47 : decode cX7_spells 47 = .ok (.ireturn, 1) := by decide +kernel
theorem dX7_spells_48 : decode cX7_spells 48 = .ok (.iinc 2 1, 3) := by decide +kernel
theorem dX7_spells_51 : decode cX7_spells 51 = .ok (.goto (-31), 3) := by decide +kernel
theorem dX7_spells_54 : decode cX7_spells 54 = .ok (.iconst 1, 1) := by decide +kernel
theorem dX7_spells_55 : decode cX7_spells 55 = .ok (.ireturn, 1) := by decide +kernel
theorem dX8_init_0 : decode cX8_init 0 = .ok (.aload_n 0, 1) := by decide +kernel
theorem dX8_init_1 : decode cX8_init 1 = .ok (.invokespecial 3, 3) := by decide +kernel
theorem dX8_init_4 : decode cX8_init 4 = .ok (.aload_n 0, 1) := by decide +kernel
theorem dX8_init_5 : decode cX8_init 5 = .ok (.new 9, 3) := by decide +kernel
theorem dX8_init_8 : decode cX8_init 8 = .ok (.dup, 1) := by decide +kernel
theorem dX8_init_9 : decode cX8_init 9 = .ok (.invokespecial 11, 3) := by decide +kernel
theorem dX8_init_12 : decode cX8_init 12 = .ok (.putfield 12, 3) := by decide +kernel
theorem dX8_init_15 : decode cX8_init 15 = .ok (.aload_n 0, 1) := by decide +kernel
theorem dX8_init_16 : decode cX8_init 16 = .ok (.new 9, 3) := by decide +kernel
theorem dX8_init_19 : decode cX8_init 19 = .ok (.dup, 1) := by decide +kernel
theorem dX8_init_20 : decode cX8_init 20 = .ok (.invokespecial 11, 3) := by decide +kernel
theorem dX8_init_23 : decode cX8_init 23 = .ok (.putfield 16, 3) := by decide +kernel
theorem dX8_init_26 : decode cX8_init 26 = .ok (.aload_n 0, 1) := by decide +kernel
theorem dX8_init_27 : decode cX8_init 27 = .ok (.new 9, 3) := by decide +kernel
theorem dX8_init_30 : decode cX8_init 30 = .ok (.dup, 1) := by decide +kernel
theorem dX8_init_31 : decode cX8_init 31 = .ok (.invokespecial 11, 3) := by decide +kernel
theorem dX8_init_34 : decode cX8_init 34 = .ok (.putfield 19, 3) := by decide +kernel
theorem dX8_init_37 : decode cX8_init 37 = .ok (.aload_n 0, 1) := by decide +kernel
theorem dX8_init_38 : decode cX8_init 38 = .ok (.new 9, 3) := by decide +kernel
theorem dX8_init_41 : decode cX8_init 41 = .ok (.dup, 1) := by decide +kernel
theorem dX8_init_42 : decode cX8_init 42 = .ok (.invokespecial 11, 3) := by decide +kernel
theorem dX8_init_45 : decode cX8_init 45 = .ok (.putfield 22, 3) := by decide +kernel
theorem dX8_init_48 : decode cX8_init 48 = .ok (.aload_n 0, 1) := by decide +kernel
theorem dX8_init_49 : decode cX8_init 49 = .ok (.new 25, 3) := by decide +kernel
theorem dX8_init_52 : decode cX8_init 52 = .ok (.dup, 1) := by decide +kernel
theorem dX8_init_53 : decode cX8_init 53 = .ok (.invokespecial 27, 3) := by decide +kernel
theorem dX8_init_56 : decode cX8_init 56 = .ok (.putfield 28, 3) := by decide +kernel
theorem dX8_init_59 : decode cX8_init 59 = .ok (.aload_n 0, 1) := by decide +kernel
theorem dX8_init_60 : decode cX8_init 60 = .ok (.new 32, 3) := by decide +kernel
theorem dX8_init_63 : decode cX8_init 63 = .ok (.dup, 1) := by decide +kernel
theorem dX8_init_64 : decode cX8_init 64 = .ok (.invokespecial 34, 3) := by decide +kernel
theorem dX8_init_67 : decode cX8_init 67 = .ok (.putfield 35, 3) := by decide +kernel
theorem dX8_init_70 : decode cX8_init 70 = .ok (.aload_n 0, 1) := by decide +kernel
theorem dX8_init_71 : decode cX8_init 71 = .ok (.new 39, 3) := by decide +kernel
theorem dX8_init_74 : decode cX8_init 74 = .ok (.dup, 1) := by decide +kernel
theorem dX8_init_75 : decode cX8_init 75 = .ok (.invokespecial 41, 3) := by decide +kernel
theorem dX8_init_78 : decode cX8_init 78 = .ok (.putfield 42, 3) := by decide +kernel
theorem dX8_init_81 : decode cX8_init 81 = .ok (.aload_n 0, 1) := by decide +kernel
theorem dX8_init_82 : decode cX8_init 82 = .ok (.new 46, 3) := by decide +kernel
theorem dX8_init_85 : decode cX8_init 85 = .ok (.dup, 1) := by decide +kernel
theorem dX8_init_86 : decode cX8_init 86 = .ok (.invokespecial 48, 3) := by decide +kernel
theorem dX8_init_89 : decode cX8_init 89 = .ok (.putfield 49, 3) := by decide +kernel
theorem dX8_init_92 : decode cX8_init 92 = .ok (.aload_n 0, 1) := by decide +kernel
theorem dX8_init_93 : decode cX8_init 93 = .ok (.new 53, 3) := by decide +kernel
theorem dX8_init_96 : decode cX8_init 96 = .ok (.dup, 1) := by decide +kernel
theorem dX8_init_97 : decode cX8_init 97 = .ok (.invokespecial 55, 3) := by decide +kernel
theorem dX8_init_100 : decode cX8_init 100 = .ok (.putfield 56, 3) := by decide +kernel
theorem dX8_init_103 : decode cX8_init 103 = .ok (.aload_n 0, 1) := by decide +kernel
theorem dX8_init_104 : decode cX8_init 104 = .ok (.new 60, 3) := by decide +kernel
theorem dX8_init_107 : decode cX8_init 107 = .ok (.dup, 1) := by decide +kernel
theorem dX8_init_108 : decode cX8_init 108 = .ok (.invokespecial 62, 3) := by decide +kernel
theorem dX8_init_111 : decode cX8_init 111 = .ok (.putfield 63, 3) := by decide +kernel
theorem dX8_init_114 : decode cX8_init 114 = .ok (.return_, 1) := by decide +kernel
theorem dX8_box_0 : decode cX8_box 0 = .ok (.aload_n 0, 1) := by decide +kernel
theorem dX8_box_1 : decode cX8_box 1 = .ok (.aload_n 0, 1) := by decide +kernel
theorem dX8_box_2 : decode cX8_box 2 = .ok (.getfield 12, 3) := by decide +kernel
theorem dX8_box_5 : decode cX8_box 5 = .ok (.iload_n 1, 1) := by decide +kernel
theorem dX8_box_6 : decode cX8_box 6 = .ok (.iload_n 2, 1) := by decide +kernel
theorem dX8_box_7 : decode cX8_box 7 = .ok (.iload_n 3, 1) := by decide +kernel
theorem dX8_box_8 : decode cX8_box 8 = .ok (.invokevirtual 67, 3) := by decide +kernel
theorem dX8_box_11 : decode cX8_box 11 = .ok (.invokevirtual 71, 3) := by decide +kernel
theorem dX8_box_14 : decode cX8_box 14 = .ok (.ireturn, 1) := by decide +kernel
theorem dX8_lid_0 : decode cX8_lid 0 = .ok (.aload_n 0, 1) := by decide +kernel
theorem dX8_lid_1 : decode cX8_lid 1 = .ok (.aload_n 0, 1) := by decide +kernel
theorem dX8_lid_2 : decode cX8_lid 2 = .ok (.getfield 12, 3) := by decide +kernel
theorem dX8_lid_5 : decode cX8_lid 5 = .ok (.iload_n 1, 1) := by decide +kernel
theorem dX8_lid_6 : decode cX8_lid 6 = .ok (.iload_n 2, 1) := by decide +kernel
theorem dX8_lid_7 : decode cX8_lid 7 = .ok (.iload_n 3, 1) := by decide +kernel
theorem dX8_lid_8 : decode cX8_lid 8 = .ok (.invokevirtual 75, 3) := by decide +kernel
theorem dX8_lid_11 : decode cX8_lid 11 = .ok (.invokevirtual 71, 3) := by decide +kernel
theorem dX8_lid_14 : decode cX8_lid 14 = .ok (.ireturn, 1) := by decide +kernel
theorem dX8_put_0 : decode cX8_put 0 = .ok (.aload_n 0, 1) := by decide +kernel
theorem dX8_put_1 : decode cX8_put 1 = .ok (.aload_n 0, 1) := by decide +kernel
theorem dX8_put_2 : decode cX8_put 2 = .ok (.getfield 12, 3) := by decide +kernel
theorem dX8_put_5 : decode cX8_put 5 = .ok (.iload_n 1, 1) := by decide +kernel
theorem dX8_put_6 : decode cX8_put 6 = .ok (.iload_n 2, 1) := by decide +kernel
theorem dX8_put_7 : decode cX8_put 7 = .ok (.invokevirtual 78, 3) := by decide +kernel
theorem dX8_put_10 : decode cX8_put 10 = .ok (.invokevirtual 71, 3) := by decide +kernel
theorem dX8_put_13 : decode cX8_put 13 = .ok (.ireturn, 1) := by decide +kernel
theorem dX8_off_0 : decode cX8_off 0 = .ok (.aload_n 0, 1) := by decide +kernel
theorem dX8_off_1 : decode cX8_off 1 = .ok (.aload_n 0, 1) := by decide +kernel
theorem dX8_off_2 : decode cX8_off 2 = .ok (.getfield 12, 3) := by decide +kernel
theorem dX8_off_5 : decode cX8_off 5 = .ok (.iload_n 1, 1) := by decide +kernel
theorem dX8_off_6 : decode cX8_off 6 = .ok (.invokevirtual 82, 3) := by decide +kernel
theorem dX8_off_9 : decode cX8_off 9 = .ok (.invokevirtual 71, 3) := by decide +kernel
theorem dX8_off_12 : decode cX8_off 12 = .ok (.ireturn, 1) := by decide +kernel
theorem dX8_undo_0 : decode cX8_undo 0 = .ok (.aload_n 0, 1) := by decide +kernel
theorem dX8_undo_1 : decode cX8_undo 1 = .ok (.aload_n 0, 1) := by decide +kernel
theorem dX8_undo_2 : decode cX8_undo 2 = .ok (.getfield 12, 3) := by decide +kernel
theorem dX8_undo_5 : decode cX8_undo 5 = .ok (.invokevirtual 85, 3) := by decide +kernel
theorem dX8_undo_8 : decode cX8_undo 8 = .ok (.invokevirtual 71, 3) := by decide +kernel
theorem dX8_undo_11 : decode cX8_undo 11 = .ok (.ireturn, 1) := by decide +kernel
theorem dX8_on_0 : decode cX8_on 0 = .ok (.aload_n 0, 1) := by decide +kernel
theorem dX8_on_1 : decode cX8_on 1 = .ok (.getfield 12, 3) := by decide +kernel
theorem dX8_on_4 : decode cX8_on 4 = .ok (.getfield 89, 3) := by decide +kernel
theorem dX8_on_7 : decode cX8_on 7 = .ok (.iload_n 1, 1) := by decide +kernel
theorem dX8_on_8 : decode cX8_on 8 = .ok (.invokevirtual 93, 3) := by decide +kernel
theorem dX8_on_11 : decode cX8_on 11 = .ok (.ifCond .eq 18, 3) := by decide +kernel
theorem dX8_on_14 : decode cX8_on 14 = .ok (.aload_n 0, 1) := by decide +kernel
theorem dX8_on_15 : decode cX8_on 15 = .ok (.getfield 12, 3) := by decide +kernel
theorem dX8_on_18 : decode cX8_on 18 = .ok (.getfield 89, 3) := by decide +kernel
theorem dX8_on_21 : decode cX8_on 21 = .ok (.iload_n 1, 1) := by decide +kernel
theorem dX8_on_22 : decode cX8_on 22 = .ok (.iconst 4, 1) := by decide +kernel
theorem dX8_on_23 : decode cX8_on 23 = .ok (.invokevirtual 99, 3) := by decide +kernel
theorem dX8_on_26 : decode cX8_on 26 = .ok (.goto 7, 3) := by decide +kernel
theorem dX8_on_29 : decode cX8_on 29 = .ok (.aload_n 0, 1) := by decide +kernel
theorem dX8_on_30 : decode cX8_on 30 = .ok (.invokevirtual 102, 3) := by decide +kernel
theorem dX8_on_33 : decode cX8_on 33 = .ok (.ireturn, 1) := by decide +kernel
theorem dX8_grasp_0 : decode cX8_grasp 0 = .ok (.aload_n 0, 1) := by decide +kernel
theorem dX8_grasp_1 : decode cX8_grasp 1 = .ok (.aload_n 0, 1) := by decide +kernel
theorem dX8_grasp_2 : decode cX8_grasp 2 = .ok (.getfield 12, 3) := by decide +kernel
theorem dX8_grasp_5 : decode cX8_grasp 5 = .ok (.iload_n 1, 1) := by decide +kernel
theorem dX8_grasp_6 : decode cX8_grasp 6 = .ok (.iload_n 2, 1) := by decide +kernel
theorem dX8_grasp_7 : decode cX8_grasp 7 = .ok (.invokevirtual 105, 3) := by decide +kernel
theorem dX8_grasp_10 : decode cX8_grasp 10 = .ok (.invokevirtual 71, 3) := by decide +kernel
theorem dX8_grasp_13 : decode cX8_grasp 13 = .ok (.ireturn, 1) := by decide +kernel
theorem dX8_sort_0 : decode cX8_sort 0 = .ok (.aload_n 0, 1) := by decide +kernel
theorem dX8_sort_1 : decode cX8_sort 1 = .ok (.aload_n 0, 1) := by decide +kernel
theorem dX8_sort_2 : decode cX8_sort 2 = .ok (.getfield 12, 3) := by decide +kernel
theorem dX8_sort_5 : decode cX8_sort 5 = .ok (.iload_n 1, 1) := by decide +kernel
theorem dX8_sort_6 : decode cX8_sort 6 = .ok (.iload_n 2, 1) := by decide +kernel
theorem dX8_sort_7 : decode cX8_sort 7 = .ok (.iload_n 3, 1) := by decide +kernel
theorem dX8_sort_8 : decode cX8_sort 8 = .ok (.iload 4, 2) := by decide +kernel
theorem dX8_sort_10 : decode cX8_sort 10 = .ok (.invokevirtual 108, 3) := by decide +kernel
theorem dX8_sort_13 : decode cX8_sort 13 = .ok (.invokevirtual 71, 3) := by decide +kernel
theorem dX8_sort_16 : decode cX8_sort 16 = .ok (.ireturn, 1) := by decide +kernel
theorem dX8_eye_0 : decode cX8_eye 0 = .ok (.aload_n 0, 1) := by decide +kernel
theorem dX8_eye_1 : decode cX8_eye 1 = .ok (.aload_n 0, 1) := by decide +kernel
theorem dX8_eye_2 : decode cX8_eye 2 = .ok (.getfield 12, 3) := by decide +kernel
theorem dX8_eye_5 : decode cX8_eye 5 = .ok (.iload_n 1, 1) := by decide +kernel
theorem dX8_eye_6 : decode cX8_eye 6 = .ok (.iload_n 2, 1) := by decide +kernel
theorem dX8_eye_7 : decode cX8_eye 7 = .ok (.invokevirtual 112, 3) := by decide +kernel
theorem dX8_eye_10 : decode cX8_eye 10 = .ok (.invokevirtual 71, 3) := by decide +kernel
theorem dX8_eye_13 : decode cX8_eye 13 = .ok (.ireturn, 1) := by decide +kernel
theorem dX8_type_0 : decode cX8_type 0 = .ok (.aload_n 0, 1) := by decide +kernel
theorem dX8_type_1 : decode cX8_type 1 = .ok (.aload_n 0, 1) := by decide +kernel
theorem dX8_type_2 : decode cX8_type 2 = .ok (.getfield 28, 3) := by decide +kernel
theorem dX8_type_5 : decode cX8_type 5 = .ok (.iload_n 1, 1) := by decide +kernel
theorem dX8_type_6 : decode cX8_type 6 = .ok (.invokevirtual 115, 3) := by decide +kernel
theorem dX8_type_9 : decode cX8_type 9 = .ok (.invokevirtual 71, 3) := by decide +kernel
theorem dX8_type_12 : decode cX8_type 12 = .ok (.ireturn, 1) := by decide +kernel
theorem dX8_clear_0 : decode cX8_clear 0 = .ok (.aload_n 0, 1) := by decide +kernel
theorem dX8_clear_1 : decode cX8_clear 1 = .ok (.getfield 28, 3) := by decide +kernel
theorem dX8_clear_4 : decode cX8_clear 4 = .ok (.invokevirtual 118, 3) := by decide +kernel
theorem dX8_clear_7 : decode cX8_clear 7 = .ok (.ireturn, 1) := by decide +kernel
theorem dX8_read_0 : decode cX8_read 0 = .ok (.iconst (-1), 1) := by decide +kernel
theorem dX8_read_1 : decode cX8_read 1 = .ok (.istore_n 1, 1) := by decide +kernel
theorem dX8_read_2 : decode cX8_read 2 = .ok (.iconst 0, 1) := by decide +kernel
theorem dX8_read_3 : decode cX8_read 3 = .ok (.istore_n 2, 1) := by decide +kernel
theorem dX8_read_4 : decode cX8_read 4 = .ok (.aload_n 0, 1) := by decide +kernel
theorem dX8_read_5 : decode cX8_read 5 = .ok (.getfield 16, 3) := by decide +kernel
theorem dX8_read_8 : decode cX8_read 8 = .ok (.invokevirtual 121, 3) := by decide +kernel
theorem dX8_read_11 : decode cX8_read 11 = .ok (.aload_n 0, 1) := by decide +kernel
theorem dX8_read_12 : decode cX8_read 12 = .ok (.getfield 28, 3) := by decide +kernel
theorem dX8_read_15 : decode cX8_read 15 = .ok (.invokevirtual 124, 3) := by decide +kernel
theorem dX8_read_18 : decode cX8_read 18 = .ok (.aload_n 0, 1) := by decide +kernel
theorem dX8_read_19 : decode cX8_read 19 = .ok (.getfield 28, 3) := by decide +kernel
theorem dX8_read_22 : decode cX8_read 22 = .ok (.invokevirtual 127, 3) := by decide +kernel
theorem dX8_read_25 : decode cX8_read 25 = .ok (.aload_n 0, 1) := by decide +kernel
theorem dX8_read_26 : decode cX8_read 26 = .ok (.getfield 28, 3) := by decide +kernel
theorem dX8_read_29 : decode cX8_read 29 = .ok (.invokevirtual 130, 3) := by decide +kernel
theorem dX8_read_32 : decode cX8_read 32 = .ok (.ifCond .ne 62, 3) := by decide +kernel
theorem dX8_read_35 : decode cX8_read 35 = .ok (.iload_n 2, 1) := by decide +kernel
theorem dX8_read_36 : decode cX8_read 36 = .ok (.sipush 150, 3) := by decide +kernel
theorem dX8_read_39 : decode cX8_read 39 = .ok (.if_icmp .ge 55, 3) := by decide +kernel
theorem dX8_read_42 : decode cX8_read 42 = .ok (.aload_n 0, 1) := by decide +kernel
theorem dX8_read_43 : decode cX8_read 43 = .ok (.getfield 28, 3) := by decide +kernel
theorem dX8_read_46 : decode cX8_read 46 = .ok (.invokevirtual 134, 3) := by decide +kernel
theorem dX8_read_49 : decode cX8_read 49 = .ok (.ifCond .ne 14, 3) := by decide +kernel
theorem dX8_read_52 : decode cX8_read 52 = .ok (.bipush (-10), 2) := by decide +kernel
theorem dX8_read_54 : decode cX8_read 54 = .ok (.aload_n 0, 1) := by decide +kernel
theorem dX8_read_55 : decode cX8_read 55 = .ok (.getfield 28, 3) := by decide +kernel
theorem dX8_read_58 : decode cX8_read 58 = .ok (.invokevirtual 137, 3) := by decide +kernel
theorem dX8_read_61 : decode cX8_read 61 = .ok (.isub, 1) := by decide +kernel
theorem dX8_read_62 : decode cX8_read 62 = .ok (.ireturn, 1) := by decide +kernel
theorem dX8_read_63 : decode cX8_read 63 = .ok (.iload_n 1, 1) := by decide +kernel
theorem dX8_read_64 : decode cX8_read 64 = .ok (.iconst (-1), 1) := by decide +kernel
theorem dX8_read_65 : decode cX8_read 65 = .ok (.if_icmp .ne 16, 3) := by decide +kernel
theorem dX8_read_68 : decode cX8_read 68 = .ok (.aload_n 0, 1) := by decide +kernel
theorem dX8_read_69 : decode cX8_read 69 = .ok (.aload_n 0, 1) := by decide +kernel
theorem dX8_read_70 : decode cX8_read 70 = .ok (.getfield 16, 3) := by decide +kernel
theorem dX8_read_73 : decode cX8_read 73 = .ok (.invokevirtual 140, 3) := by decide +kernel
theorem dX8_read_76 : decode cX8_read 76 = .ok (.ifCond .ge 5, 3) := by decide +kernel
theorem dX8_read_79 : decode cX8_read 79 = .ok (.iload_n 2, 1) := by decide +kernel
theorem dX8_read_80 : decode cX8_read 80 = .ok (.istore_n 1, 1) := by decide +kernel
theorem dX8_read_81 : decode cX8_read 81 = .ok (.iinc 2 1, 3) := by decide +kernel
theorem dX8_read_84 : decode cX8_read 84 = .ok (.aload_n 0, 1) := by decide +kernel
theorem dX8_read_85 : decode cX8_read 85 = .ok (.getfield 28, 3) := by decide +kernel
theorem dX8_read_88 : decode cX8_read 88 = .ok (.invokevirtual 127, 3) := by decide +kernel
theorem dX8_read_91 : decode cX8_read 91 = .ok (.goto (-66), 3) := by decide +kernel
theorem dX8_read_94 : decode cX8_read 94 = .ok (.iload_n 1, 1) := by decide +kernel
theorem dX8_read_95 : decode cX8_read 95 = .ok (.iconst (-1), 1) := by decide +kernel
theorem dX8_read_96 : decode cX8_read 96 = .ok (.if_icmp .eq 9, 3) := by decide +kernel
theorem dX8_read_99 : decode cX8_read 99 = .ok (.sipush (-1000), 3) := by decide +kernel
theorem dX8_read_102 : decode cX8_read 102 = .ok (.iload_n 1, 1) := by decide +kernel
theorem dX8_read_103 : decode cX8_read 103 = .ok (.isub, 1) := by decide +kernel
theorem dX8_read_104 : decode cX8_read 104 = .ok (.ireturn, 1) := by decide +kernel
theorem dX8_read_105 : decode cX8_read 105 = .ok (.aload_n 0, 1) := by decide +kernel
theorem dX8_read_106 : decode cX8_read 106 = .ok (.getfield 12, 3) := by decide +kernel
theorem dX8_read_109 : decode cX8_read 109 = .ok (.aload_n 0, 1) := by decide +kernel
theorem dX8_read_110 : decode cX8_read 110 = .ok (.getfield 16, 3) := by decide +kernel
theorem dX8_read_113 : decode cX8_read 113 = .ok (.invokevirtual 144, 3) := by decide +kernel
theorem dX8_read_116 : decode cX8_read 116 = .ok (.iload_n 2, 1) := by decide +kernel
theorem dX8_read_117 : decode cX8_read 117 = .ok (.ireturn, 1) := by decide +kernel
theorem dX8_fits_0 : decode cX8_fits 0 = .ok (.aload_n 0, 1) := by decide +kernel
theorem dX8_fits_1 : decode cX8_fits 1 = .ok (.getfield 12, 3) := by decide +kernel
theorem dX8_fits_4 : decode cX8_fits 4 = .ok (.getfield 89, 3) := by decide +kernel
theorem dX8_fits_7 : decode cX8_fits 7 = .ok (.iload_n 1, 1) := by decide +kernel
theorem dX8_fits_8 : decode cX8_fits 8 = .ok (.invokevirtual 93, 3) := by decide +kernel
theorem dX8_fits_11 : decode cX8_fits 11 = .ok (.ifCond .eq 14, 3) := by decide +kernel
theorem dX8_fits_14 : decode cX8_fits 14 = .ok (.aload_n 0, 1) := by decide +kernel
theorem dX8_fits_15 : decode cX8_fits 15 = .ok (.getfield 12, 3) := by decide +kernel
theorem dX8_fits_18 : decode cX8_fits 18 = .ok (.iload_n 1, 1) := by decide +kernel
theorem dX8_fits_19 : decode cX8_fits 19 = .ok (.invokevirtual 148, 3) := by decide +kernel
theorem dX8_fits_22 : decode cX8_fits 22 = .ok (.goto 9, 3) := by decide +kernel
theorem dX8_fits_25 : decode cX8_fits 25 = .ok (.aload_n 0, 1) := by decide +kernel
theorem dX8_fits_26 : decode cX8_fits 26 = .ok (.bipush (-2), 2) := by decide +kernel
theorem dX8_fits_28 : decode cX8_fits 28 = .ok (.invokevirtual 71, 3) := by decide +kernel
theorem dX8_fits_31 : decode cX8_fits 31 = .ok (.ireturn, 1) := by decide +kernel
theorem dX8_most_0 : decode cX8_most 0 = .ok (.iload_n 1, 1) := by decide +kernel
theorem dX8_most_1 : decode cX8_most 1 = .ok (.iconst (-1), 1) := by decide +kernel
theorem dX8_most_2 : decode cX8_most 2 = .ok (.if_icmp .eq 22, 3) := by decide +kernel
theorem dX8_most_5 : decode cX8_most 5 = .ok (.aload_n 0, 1) := by decide +kernel
theorem dX8_most_6 : decode cX8_most 6 = .ok (.getfield 12, 3) := by decide +kernel
theorem dX8_most_9 : decode cX8_most 9 = .ok (.getfield 89, 3) := by decide +kernel
theorem dX8_most_12 : decode cX8_most 12 = .ok (.iload_n 1, 1) := by decide +kernel
theorem dX8_most_13 : decode cX8_most 13 = .ok (.invokevirtual 93, 3) := by decide +kernel
theorem dX8_most_16 : decode cX8_most 16 = .ok (.ifCond .ne 8, 3) := by decide +kernel
theorem dX8_most_19 : decode cX8_most 19 = .ok (.aload_n 0, 1) := by decide +kernel
theorem dX8_most_20 : decode cX8_most 20 = .ok (.invokevirtual 102, 3) := by decide +kernel
theorem dX8_most_23 : decode cX8_most 23 = .ok (.ireturn, 1) := by decide +kernel
theorem dX8_most_24 : decode cX8_most 24 = .ok (.aload_n 0, 1) := by decide +kernel
theorem dX8_most_25 : decode cX8_most 25 = .ok (.iconst 0, 1) := by decide +kernel
theorem dX8_most_26 : decode cX8_most 26 = .ok (.invokevirtual 151, 3) := by decide +kernel
theorem dX8_most_29 : decode cX8_most 29 = .ok (.iload_n 1, 1) := by decide +kernel
theorem dX8_most_30 : decode cX8_most 30 = .ok (.iconst (-1), 1) := by decide +kernel
theorem dX8_most_31 : decode cX8_most 31 = .ok (.if_icmp .ne 14, 3) := by decide +kernel
theorem dX8_most_34 : decode cX8_most 34 = .ok (.aload_n 0, 1) := by decide +kernel
theorem dX8_most_35 : decode cX8_most 35 = .ok (.getfield 35, 3) := by decide +kernel
theorem dX8_most_38 : decode cX8_most 38 = .ok (.iconst 0, 1) := by decide +kernel
theorem dX8_most_39 : decode cX8_most 39 = .ok (.invokevirtual 155, 3) := by decide +kernel
theorem dX8_most_42 : decode cX8_most 42 = .ok (.goto 11, 3) := by decide +kernel
theorem dX8_most_45 : decode cX8_most 45 = .ok (.aload_n 0, 1) := by decide +kernel
theorem dX8_most_46 : decode cX8_most 46 = .ok (.getfield 35, 3) := by decide +kernel
theorem dX8_most_49 : decode cX8_most 49 = .ok (.iload_n 1, 1) := by decide +kernel
theorem dX8_most_50 : decode cX8_most 50 = .ok (.invokevirtual 158, 3) := by decide +kernel
theorem dX8_most_53 : decode cX8_most 53 = .ok (.ireturn, 1) := by decide +kernel
theorem dX8_lacking_0 : decode cX8_lacking 0 = .ok (.aload_n 0, 1) := by decide +kernel
theorem dX8_lacking_1 : decode cX8_lacking 1 = .ok (.getfield 42, 3) := by decide +kernel
theorem dX8_lacking_4 : decode cX8_lacking 4 = .ok (.aload_n 0, 1) := by decide +kernel
theorem dX8_lacking_5 : decode cX8_lacking 5 = .ok (.getfield 12, 3) := by decide +kernel
theorem dX8_lacking_8 : decode cX8_lacking 8 = .ok (.invokevirtual 161, 3) := by decide +kernel
theorem dX8_lacking_11 : decode cX8_lacking 11 = .ok (.aload_n 0, 1) := by decide +kernel
theorem dX8_lacking_12 : decode cX8_lacking 12 = .ok (.getfield 42, 3) := by decide +kernel
theorem dX8_lacking_15 : decode cX8_lacking 15 = .ok (.invokevirtual 164, 3) := by decide +kernel
theorem dX8_lacking_18 : decode cX8_lacking 18 = .ok (.ireturn, 1) := by decide +kernel
theorem dX8_soup_0 : decode cX8_soup 0 = .ok (.iload_n 1, 1) := by decide +kernel
theorem dX8_soup_1 : decode cX8_soup 1 = .ok (.iconst 0, 1) := by decide +kernel
theorem dX8_soup_2 : decode cX8_soup 2 = .ok (.bipush 99, 2) := by decide +kernel
theorem dX8_soup_4 : decode cX8_soup 4 = .ok (.invokestatic 167, 3) := by decide +kernel
theorem dX8_soup_7 : decode cX8_soup 7 = .ok (.ifCond .eq 12, 3) := by decide +kernel
theorem dX8_soup_10 : decode cX8_soup 10 = .ok (.iload_n 2, 1) := by decide +kernel
theorem dX8_soup_11 : decode cX8_soup 11 = .ok (.iconst 0, 1) := by decide +kernel
theorem dX8_soup_12 : decode cX8_soup 12 = .ok (.iconst 1, 1) := by decide +kernel
theorem dX8_soup_13 : decode cX8_soup 13 = .ok (.invokestatic 167, 3) := by decide +kernel
theorem dX8_soup_16 : decode cX8_soup 16 = .ok (.ifCond .ne 8, 3) := by decide +kernel
theorem dX8_soup_19 : decode cX8_soup 19 = .ok (.aload_n 0, 1) := by decide +kernel
theorem dX8_soup_20 : decode cX8_soup 20 = .ok (.invokevirtual 102, 3) := by decide +kernel
theorem dX8_soup_23 : decode cX8_soup 23 = .ok (.ireturn, 1) := by decide +kernel
theorem dX8_soup_24 : decode cX8_soup 24 = .ok (.aload_n 0, 1) := by decide +kernel
theorem dX8_soup_25 : decode cX8_soup 25 = .ok (.getfield 42, 3) := by decide +kernel
theorem dX8_soup_28 : decode cX8_soup 28 = .ok (.aload_n 0, 1) := by decide +kernel
theorem dX8_soup_29 : decode cX8_soup 29 = .ok (.getfield 12, 3) := by decide +kernel
theorem dX8_soup_32 : decode cX8_soup 32 = .ok (.invokevirtual 161, 3) := by decide +kernel
theorem dX8_soup_35 : decode cX8_soup 35 = .ok (.aload_n 0, 1) := by decide +kernel
theorem dX8_soup_36 : decode cX8_soup 36 = .ok (.getfield 42, 3) := by decide +kernel
theorem dX8_soup_39 : decode cX8_soup 39 = .ok (.aload_n 0, 1) := by decide +kernel
theorem dX8_soup_40 : decode cX8_soup 40 = .ok (.getfield 12, 3) := by decide +kernel
theorem dX8_soup_43 : decode cX8_soup 43 = .ok (.iload_n 1, 1) := by decide +kernel
theorem dX8_soup_44 : decode cX8_soup 44 = .ok (.invokevirtual 171, 3) := by decide +kernel
theorem dX8_soup_47 : decode cX8_soup 47 = .ok (.istore_n 3, 1) := by decide +kernel
theorem dX8_soup_48 : decode cX8_soup 48 = .ok (.iload_n 3, 1) := by decide +kernel
theorem dX8_soup_49 : decode cX8_soup 49 = .ok (.iconst (-1), 1) := by decide +kernel
theorem dX8_soup_50 : decode cX8_soup 50 = .ok (.if_icmp .eq 8, 3) := by decide +kernel
theorem dX8_soup_53 : decode cX8_soup 53 = .ok (.iload_n 2, 1) := by decide +kernel
theorem dX8_soup_54 : decode cX8_soup 54 = .ok (.iconst 1, 1) := by decide +kernel
theorem dX8_soup_55 : decode cX8_soup 55 = .ok (.if_icmp .ne 5, 3) := by decide +kernel
theorem dX8_soup_58 : decode cX8_soup 58 = .ok (.iload_n 3, 1) := by decide +kernel
theorem dX8_soup_59 : decode cX8_soup 59 = .ok (.ireturn, 1) := by decide +kernel
theorem dX8_soup_60 : decode cX8_soup 60 = .ok (.aload_n 0, 1) := by decide +kernel
theorem dX8_soup_61 : decode cX8_soup 61 = .ok (.getfield 12, 3) := by decide +kernel
theorem dX8_soup_64 : decode cX8_soup 64 = .ok (.iload_n 3, 1) := by decide +kernel
theorem dX8_soup_65 : decode cX8_soup 65 = .ok (.iconst 1, 1) := by decide +kernel
theorem dX8_soup_66 : decode cX8_soup 66 = .ok (.invokevirtual 175, 3) := by decide +kernel
theorem dX8_soup_69 : decode cX8_soup 69 = .ok (.ireturn, 1) := by decide +kernel
theorem dX8_much_0 : decode cX8_much 0 = .ok (.aload_n 0, 1) := by decide +kernel
theorem dX8_much_1 : decode cX8_much 1 = .ok (.iconst 1, 1) := by decide +kernel
theorem dX8_much_2 : decode cX8_much 2 = .ok (.invokevirtual 151, 3) := by decide +kernel
theorem dX8_much_5 : decode cX8_much 5 = .ok (.aload_n 0, 1) := by decide +kernel
theorem dX8_much_6 : decode cX8_much 6 = .ok (.getfield 35, 3) := by decide +kernel
theorem dX8_much_9 : decode cX8_much 9 = .ok (.iconst 0, 1) := by decide +kernel
theorem dX8_much_10 : decode cX8_much 10 = .ok (.invokevirtual 155, 3) := by decide +kernel
theorem dX8_much_13 : decode cX8_much 13 = .ok (.ireturn, 1) := by decide +kernel
theorem dX8_worth_0 : decode cX8_worth 0 = .ok (.aload_n 0, 1) := by decide +kernel
theorem dX8_worth_1 : decode cX8_worth 1 = .ok (.getfield 12, 3) := by decide +kernel
theorem dX8_worth_4 : decode cX8_worth 4 = .ok (.getfield 178, 3) := by decide +kernel
theorem dX8_worth_7 : decode cX8_worth 7 = .ok (.iload_n 1, 1) := by decide +kernel
theorem dX8_worth_8 : decode cX8_worth 8 = .ok (.invokevirtual 93, 3) := by decide +kernel
theorem dX8_worth_11 : decode cX8_worth 11 = .ok (.ifCond .ne 10, 3) := by decide +kernel
theorem dX8_worth_14 : decode cX8_worth 14 = .ok (.aload_n 0, 1) := by decide +kernel
theorem dX8_worth_15 : decode cX8_worth 15 = .ok (.bipush (-2), 2) := by decide +kernel
theorem dX8_worth_17 : decode cX8_worth 17 = .ok (.invokevirtual 71, 3) := by decide +kernel
theorem dX8_worth_20 : decode cX8_worth 20 = .ok (.ireturn, 1) := by decide +kernel
theorem dX8_worth_21 : decode cX8_worth 21 = .ok (.aload_n 0, 1) := by decide +kernel
theorem dX8_worth_22 : decode cX8_worth 22 = .ok (.iconst 1, 1) := by decide +kernel
theorem dX8_worth_23 : decode cX8_worth 23 = .ok (.invokevirtual 151, 3) := by decide +kernel
theorem dX8_worth_26 : decode cX8_worth 26 = .ok (.aload_n 0, 1) := by decide +kernel
theorem dX8_worth_27 : decode cX8_worth 27 = .ok (.getfield 35, 3) := by decide +kernel
theorem dX8_worth_30 : decode cX8_worth 30 = .ok (.iconst 0, 1) := by decide +kernel
theorem dX8_worth_31 : decode cX8_worth 31 = .ok (.invokevirtual 155, 3) := by decide +kernel
theorem dX8_worth_34 : decode cX8_worth 34 = .ok (.aload_n 0, 1) := by decide +kernel
theorem dX8_worth_35 : decode cX8_worth 35 = .ok (.getfield 35, 3) := by decide +kernel
theorem dX8_worth_38 : decode cX8_worth 38 = .ok (.iconst 1, 1) := by decide +kernel
theorem dX8_worth_39 : decode cX8_worth 39 = .ok (.iload_n 1, 1) := by decide +kernel
theorem dX8_worth_40 : decode cX8_worth 40 = .ok (.ishl, 1) := by decide +kernel
theorem dX8_worth_41 : decode cX8_worth 41 = .ok (.invokevirtual 155, 3) := by decide +kernel
theorem dX8_worth_44 : decode cX8_worth 44 = .ok (.isub, 1) := by decide +kernel
theorem dX8_worth_45 : decode cX8_worth 45 = .ok (.ireturn, 1) := by decide +kernel
theorem dX8_spare_0 : decode cX8_spare 0 = .ok (.aload_n 0, 1) := by decide +kernel
theorem dX8_spare_1 : decode cX8_spare 1 = .ok (.iconst 0, 1) := by decide +kernel
theorem dX8_spare_2 : decode cX8_spare 2 = .ok (.invokevirtual 151, 3) := by decide +kernel
theorem dX8_spare_5 : decode cX8_spare 5 = .ok (.iconst 0, 1) := by decide +kernel
theorem dX8_spare_6 : decode cX8_spare 6 = .ok (.istore_n 1, 1) := by decide +kernel
theorem dX8_spare_7 : decode cX8_spare 7 = .ok (.iconst 0, 1) := by decide +kernel
theorem dX8_spare_8 : decode cX8_spare 8 = .ok (.istore_n 2, 1) := by decide +kernel
theorem dX8_spare_9 : decode cX8_spare 9 = .ok (.iload_n 2, 1) := by decide +kernel
theorem dX8_spare_10 : decode cX8_spare 10 = .ok (.aload_n 0, 1) := by decide +kernel
theorem dX8_spare_11 : decode cX8_spare 11 = .ok (.getfield 12, 3) := by decide +kernel
theorem dX8_spare_14 : decode cX8_spare 14 = .ok (.getfield 178, 3) := by decide +kernel
theorem dX8_spare_17 : decode cX8_spare 17 = .ok (.invokevirtual 181, 3) := by decide +kernel
theorem dX8_spare_20 : decode cX8_spare 20 = .ok (.if_icmp .ge 36, 3) := by decide +kernel
theorem dX8_spare_23 : decode cX8_spare 23 = .ok (.aload_n 0, 1) := by decide +kernel
theorem dX8_spare_24 : decode cX8_spare 24 = .ok (.getfield 35, 3) := by decide +kernel
theorem dX8_spare_27 : decode cX8_spare 27 = .ok (.iconst 1, 1) := by decide +kernel
theorem dX8_spare_28 : decode cX8_spare 28 = .ok (.iload_n 2, 1) := by decide +kernel
theorem dX8_spare_29 : decode cX8_spare 29 = .ok (.ishl, 1) := by decide +kernel
theorem dX8_spare_30 : decode cX8_spare 30 = .ok (.invokevirtual 155, 3) := by decide +kernel
theorem dX8_spare_33 : decode cX8_spare 33 = .ok (.aload_n 0, 1) := by decide +kernel
theorem dX8_spare_34 : decode cX8_spare 34 = .ok (.getfield 35, 3) := by decide +kernel
theorem dX8_spare_37 : decode cX8_spare 37 = .ok (.iconst 0, 1) := by decide +kernel
theorem dX8_spare_38 : decode cX8_spare 38 = .ok (.invokevirtual 155, 3) := by decide +kernel
theorem dX8_spare_41 : decode cX8_spare 41 = .ok (.if_icmp .ne 9, 3) := by decide +kernel
theorem dX8_spare_44 : decode cX8_spare 44 = .ok (.iload_n 1, 1) := by decide +kernel
theorem dX8_spare_45 : decode cX8_spare 45 = .ok (.iconst 1, 1) := by decide +kernel
theorem dX8_spare_46 : decode cX8_spare 46 = .ok (.iload_n 2, 1) := by decide +kernel
theorem dX8_spare_47 : decode cX8_spare 47 = .ok (.ishl, 1) := by decide +kernel
theorem dX8_spare_48 : decode cX8_spare 48 = .ok (.ior, 1) := by decide +kernel
theorem dX8_spare_49 : decode cX8_spare 49 = .ok (.istore_n 1, 1) := by decide +kernel
theorem dX8_spare_50 : decode cX8_spare 50 = .ok (.iinc 2 1, 3) := by decide +kernel
theorem dX8_spare_53 : decode cX8_spare 53 = .ok (.goto (-44), 3) := by decide +kernel
theorem dX8_spare_56 : decode cX8_spare 56 = .ok (.iload_n 1, 1) := by decide +kernel
theorem dX8_spare_57 : decode cX8_spare 57 = .ok (.ireturn, 1) := by decide +kernel
theorem dX8_piles_0 : decode cX8_piles 0 = .ok (.iload_n 1, 1) := by decide +kernel
theorem dX8_piles_1 : decode cX8_piles 1 = .ok (.iconst (-1), 1) := by decide +kernel
theorem dX8_piles_2 : decode cX8_piles 2 = .ok (.if_icmp .eq 22, 3) := by decide +kernel
theorem dX8_piles_5 : decode cX8_piles 5 = .ok (.aload_n 0, 1) := by decide +kernel
theorem dX8_piles_6 : decode cX8_piles 6 = .ok (.getfield 12, 3) := by decide +kernel
theorem dX8_piles_9 : decode cX8_piles 9 = .ok (.getfield 89, 3) := by decide +kernel
theorem dX8_piles_12 : decode cX8_piles 12 = .ok (.iload_n 1, 1) := by decide +kernel
theorem dX8_piles_13 : decode cX8_piles 13 = .ok (.invokevirtual 93, 3) := by decide +kernel
theorem dX8_piles_16 : decode cX8_piles 16 = .ok (.ifCond .ne 8, 3) := by decide +kernel
theorem dX8_piles_19 : decode cX8_piles 19 = .ok (.aload_n 0, 1) := by decide +kernel
theorem dX8_piles_20 : decode cX8_piles 20 = .ok (.invokevirtual 102, 3) := by decide +kernel
theorem dX8_piles_23 : decode cX8_piles 23 = .ok (.ireturn, 1) := by decide +kernel
theorem dX8_piles_24 : decode cX8_piles 24 = .ok (.aload_n 0, 1) := by decide +kernel
theorem dX8_piles_25 : decode cX8_piles 25 = .ok (.getfield 12, 3) := by decide +kernel
theorem dX8_piles_28 : decode cX8_piles 28 = .ok (.getfield 89, 3) := by decide +kernel
theorem dX8_piles_31 : decode cX8_piles 31 = .ok (.invokevirtual 181, 3) := by decide +kernel
theorem dX8_piles_34 : decode cX8_piles 34 = .ok (.istore_n 2, 1) := by decide +kernel
theorem dX8_piles_35 : decode cX8_piles 35 = .ok (.aload_n 0, 1) := by decide +kernel
theorem dX8_piles_36 : decode cX8_piles 36 = .ok (.getfield 35, 3) := by decide +kernel
theorem dX8_piles_39 : decode cX8_piles 39 = .ok (.iload_n 2, 1) := by decide +kernel
theorem dX8_piles_40 : decode cX8_piles 40 = .ok (.invokevirtual 184, 3) := by decide +kernel
theorem dX8_piles_43 : decode cX8_piles 43 = .ok (.iconst 0, 1) := by decide +kernel
theorem dX8_piles_44 : decode cX8_piles 44 = .ok (.istore_n 3, 1) := by decide +kernel
theorem dX8_piles_45 : decode cX8_piles 45 = .ok (.iload_n 3, 1) := by decide +kernel
theorem dX8_piles_46 : decode cX8_piles 46 = .ok (.iload_n 2, 1) := by decide +kernel
theorem dX8_piles_47 : decode cX8_piles 47 = .ok (.if_icmp .ge 25, 3) := by decide +kernel
theorem dX8_piles_50 : decode cX8_piles 50 = .ok (.aload_n 0, 1) := by decide +kernel
theorem dX8_piles_51 : decode cX8_piles 51 = .ok (.getfield 35, 3) := by decide +kernel
theorem dX8_piles_54 : decode cX8_piles 54 = .ok (.aload_n 0, 1) := by decide +kernel
theorem dX8_piles_55 : decode cX8_piles 55 = .ok (.getfield 12, 3) := by decide +kernel
theorem dX8_piles_58 : decode cX8_piles 58 = .ok (.iload_n 3, 1) := by decide +kernel
theorem dX8_piles_59 : decode cX8_piles 59 = .ok (.invokevirtual 188, 3) := by decide +kernel
theorem dX8_piles_62 : decode cX8_piles 62 = .ok (.iconst 1, 1) := by decide +kernel
theorem dX8_piles_63 : decode cX8_piles 63 = .ok (.invokevirtual 191, 3) := by decide +kernel
theorem dX8_piles_66 : decode cX8_piles 66 = .ok (.iinc 3 1, 3) := by decide +kernel
theorem dX8_piles_69 : decode cX8_piles 69 = .ok (.goto (-24), 3) := by decide +kernel
theorem dX8_piles_72 : decode cX8_piles 72 = .ok (.aload_n 0, 1) := by decide +kernel
theorem dX8_piles_73 : decode cX8_piles 73 = .ok (.getfield 35, 3) := by decide +kernel
theorem dX8_piles_76 : decode cX8_piles 76 = .ok (.invokevirtual 195, 3) := by decide +kernel
theorem dX8_piles_79 : decode cX8_piles 79 = .ok (.iload_n 1, 1) := by decide +kernel
theorem dX8_piles_80 : decode cX8_piles 80 = .ok (.iconst (-1), 1) := by decide +kernel
theorem dX8_piles_81 : decode cX8_piles 81 = .ok (.if_icmp .ne 16, 3) := by decide +kernel
theorem dX8_piles_84 : decode cX8_piles 84 = .ok (.iload_n 2, 1) := by decide +kernel
theorem dX8_piles_85 : decode cX8_piles 85 = .ok (.aload_n 0, 1) := by decide +kernel
theorem dX8_piles_86 : decode cX8_piles 86 = .ok (.getfield 35, 3) := by decide +kernel
theorem dX8_piles_89 : decode cX8_piles 89 = .ok (.iconst 0, 1) := by decide +kernel
theorem dX8_piles_90 : decode cX8_piles 90 = .ok (.invokevirtual 155, 3) := by decide +kernel
theorem dX8_piles_93 : decode cX8_piles 93 = .ok (.isub, 1) := by decide +kernel
theorem dX8_piles_94 : decode cX8_piles 94 = .ok (.goto 11, 3) := by decide +kernel
theorem dX8_piles_97 : decode cX8_piles 97 = .ok (.aload_n 0, 1) := by decide +kernel
theorem dX8_piles_98 : decode cX8_piles 98 = .ok (.getfield 35, 3) := by decide +kernel
theorem dX8_piles_101 : decode cX8_piles 101 = .ok (.iload_n 1, 1) := by decide +kernel
theorem dX8_piles_102 : decode cX8_piles 102 = .ok (.invokevirtual 158, 3) := by decide +kernel
theorem dX8_piles_105 : decode cX8_piles 105 = .ok (.ireturn, 1) := by decide +kernel
theorem dX8_shelf_0 : decode cX8_shelf 0 = .ok (.iload_n 1, 1) := by decide +kernel
theorem dX8_shelf_1 : decode cX8_shelf 1 = .ok (.iconst (-1), 1) := by decide +kernel
theorem dX8_shelf_2 : decode cX8_shelf 2 = .ok (.if_icmp .ge 8, 3) := by decide +kernel
theorem dX8_shelf_5 : decode cX8_shelf 5 = .ok (.aload_n 0, 1) := by decide +kernel
theorem dX8_shelf_6 : decode cX8_shelf 6 = .ok (.invokevirtual 102, 3) := by decide +kernel
theorem dX8_shelf_9 : decode cX8_shelf 9 = .ok (.ireturn, 1) := by decide +kernel
theorem dX8_shelf_10 : decode cX8_shelf 10 = .ok (.aload_n 0, 1) := by decide +kernel
theorem dX8_shelf_11 : decode cX8_shelf 11 = .ok (.getfield 12, 3) := by decide +kernel
theorem dX8_shelf_14 : decode cX8_shelf 14 = .ok (.getfield 89, 3) := by decide +kernel
theorem dX8_shelf_17 : decode cX8_shelf 17 = .ok (.invokevirtual 181, 3) := by decide +kernel
theorem dX8_shelf_20 : decode cX8_shelf 20 = .ok (.istore_n 2, 1) := by decide +kernel
theorem dX8_shelf_21 : decode cX8_shelf 21 = .ok (.iload_n 1, 1) := by decide +kernel
theorem dX8_shelf_22 : decode cX8_shelf 22 = .ok (.iload_n 2, 1) := by decide +kernel
theorem dX8_shelf_23 : decode cX8_shelf 23 = .ok (.if_icmp .lt 6, 3) := by decide +kernel
theorem dX8_shelf_26 : decode cX8_shelf 26 = .ok (.bipush (-5), 2) := by decide +kernel
theorem dX8_shelf_28 : decode cX8_shelf 28 = .ok (.ireturn, 1) := by decide +kernel
theorem dX8_shelf_29 : decode cX8_shelf 29 = .ok (.aload_n 0, 1) := by decide +kernel
theorem dX8_shelf_30 : decode cX8_shelf 30 = .ok (.getfield 49, 3) := by decide +kernel
theorem dX8_shelf_33 : decode cX8_shelf 33 = .ok (.invokevirtual 198, 3) := by decide +kernel
theorem dX8_shelf_36 : decode cX8_shelf 36 = .ok (.iconst 0, 1) := by decide +kernel
theorem dX8_shelf_37 : decode cX8_shelf 37 = .ok (.istore_n 3, 1) := by decide +kernel
theorem dX8_shelf_38 : decode cX8_shelf 38 = .ok (.iload_n 3, 1) := by decide +kernel
theorem dX8_shelf_39 : decode cX8_shelf 39 = .ok (.iload_n 2, 1) := by decide +kernel
theorem dX8_shelf_40 : decode cX8_shelf 40 = .ok (.if_icmp .ge 28, 3) := by decide +kernel
theorem dX8_shelf_43 : decode cX8_shelf 43 = .ok (.aload_n 0, 1) := by decide +kernel
theorem dX8_shelf_44 : decode cX8_shelf 44 = .ok (.getfield 49, 3) := by decide +kernel
theorem dX8_shelf_47 : decode cX8_shelf 47 = .ok (.aload_n 0, 1) := by decide +kernel
theorem dX8_shelf_48 : decode cX8_shelf 48 = .ok (.getfield 12, 3) := by decide +kernel
theorem dX8_shelf_51 : decode cX8_shelf 51 = .ok (.getfield 89, 3) := by decide +kernel
theorem dX8_shelf_54 : decode cX8_shelf 54 = .ok (.iload_n 3, 1) := by decide +kernel
theorem dX8_shelf_55 : decode cX8_shelf 55 = .ok (.iconst 3, 1) := by decide +kernel
theorem dX8_shelf_56 : decode cX8_shelf 56 = .ok (.invokevirtual 99, 3) := by decide +kernel
theorem dX8_shelf_59 : decode cX8_shelf 59 = .ok (.invokevirtual 200, 3) := by decide +kernel
theorem dX8_shelf_62 : decode cX8_shelf 62 = .ok (.iinc 3 1, 3) := by decide +kernel
theorem dX8_shelf_65 : decode cX8_shelf 65 = .ok (.goto (-27), 3) := by decide +kernel
theorem dX8_shelf_68 : decode cX8_shelf 68 = .ok (.iload_n 1, 1) := by decide +kernel
theorem dX8_shelf_69 : decode cX8_shelf 69 = .ok (.iconst (-1), 1) := by decide +kernel
theorem dX8_shelf_70 : decode cX8_shelf 70 = .ok (.if_icmp .ne 11, 3) := by decide +kernel
theorem dX8_shelf_73 : decode cX8_shelf 73 = .ok (.aload_n 0, 1) := by decide +kernel
theorem dX8_shelf_74 : decode cX8_shelf 74 = .ok (.iload_n 2, 1) := by decide +kernel
theorem dX8_shelf_75 : decode cX8_shelf 75 = .ok (.invokevirtual 203, 3) := by decide +kernel
theorem dX8_shelf_78 : decode cX8_shelf 78 = .ok (.goto 11, 3) := by decide +kernel
theorem dX8_shelf_81 : decode cX8_shelf 81 = .ok (.aload_n 0, 1) := by decide +kernel
theorem dX8_shelf_82 : decode cX8_shelf 82 = .ok (.getfield 49, 3) := by decide +kernel
theorem dX8_shelf_85 : decode cX8_shelf 85 = .ok (.iload_n 1, 1) := by decide +kernel
theorem dX8_shelf_86 : decode cX8_shelf 86 = .ok (.invokevirtual 206, 3) := by decide +kernel
theorem dX8_shelf_89 : decode cX8_shelf 89 = .ok (.ireturn, 1) := by decide +kernel
theorem dX8_buy_0 : decode cX8_buy 0 = .ok (.iload_n 1, 1) := by decide +kernel
theorem dX8_buy_1 : decode cX8_buy 1 = .ok (.iconst (-1), 1) := by decide +kernel
theorem dX8_buy_2 : decode cX8_buy 2 = .ok (.if_icmp .eq 22, 3) := by decide +kernel
theorem dX8_buy_5 : decode cX8_buy 5 = .ok (.aload_n 0, 1) := by decide +kernel
theorem dX8_buy_6 : decode cX8_buy 6 = .ok (.getfield 12, 3) := by decide +kernel
theorem dX8_buy_9 : decode cX8_buy 9 = .ok (.getfield 209, 3) := by decide +kernel
theorem dX8_buy_12 : decode cX8_buy 12 = .ok (.iload_n 1, 1) := by decide +kernel
theorem dX8_buy_13 : decode cX8_buy 13 = .ok (.invokevirtual 93, 3) := by decide +kernel
theorem dX8_buy_16 : decode cX8_buy 16 = .ok (.ifCond .ne 8, 3) := by decide +kernel
theorem dX8_buy_19 : decode cX8_buy 19 = .ok (.aload_n 0, 1) := by decide +kernel
theorem dX8_buy_20 : decode cX8_buy 20 = .ok (.invokevirtual 102, 3) := by decide +kernel
theorem dX8_buy_23 : decode cX8_buy 23 = .ok (.ireturn, 1) := by decide +kernel
theorem dX8_buy_24 : decode cX8_buy 24 = .ok (.aload_n 0, 1) := by decide +kernel
theorem dX8_buy_25 : decode cX8_buy 25 = .ok (.invokevirtual 212, 3) := by decide +kernel
theorem dX8_buy_28 : decode cX8_buy 28 = .ok (.istore_n 2, 1) := by decide +kernel
theorem dX8_buy_29 : decode cX8_buy 29 = .ok (.iload_n 2, 1) := by decide +kernel
theorem dX8_buy_30 : decode cX8_buy 30 = .ok (.ldc 215, 2) := by decide +kernel
theorem dX8_buy_32 : decode cX8_buy 32 = .ok (.if_icmp .lt 5, 3) := by decide +kernel
theorem dX8_buy_35 : decode cX8_buy 35 = .ok (.iconst (-1), 1) := by decide +kernel
theorem dX8_buy_36 : decode cX8_buy 36 = .ok (.ireturn, 1) := by decide +kernel
theorem dX8_buy_37 : decode cX8_buy 37 = .ok (.iload_n 1, 1) := by decide +kernel
theorem dX8_buy_38 : decode cX8_buy 38 = .ok (.iconst (-1), 1) := by decide +kernel
theorem dX8_buy_39 : decode cX8_buy 39 = .ok (.if_icmp .ne 10, 3) := by decide +kernel
theorem dX8_buy_42 : decode cX8_buy 42 = .ok (.iload_n 2, 1) := by decide +kernel
theorem dX8_buy_43 : decode cX8_buy 43 = .ok (.bipush 12, 2) := by decide +kernel
theorem dX8_buy_45 : decode cX8_buy 45 = .ok (.ishr, 1) := by decide +kernel
theorem dX8_buy_46 : decode cX8_buy 46 = .ok (.goto 12, 3) := by decide +kernel
theorem dX8_buy_49 : decode cX8_buy 49 = .ok (.iload_n 2, 1) := by decide +kernel
theorem dX8_buy_50 : decode cX8_buy 50 = .ok (.iload_n 1, 1) := by decide +kernel
theorem dX8_buy_51 : decode cX8_buy 51 = .ok (.invokestatic 216, 3) := by decide +kernel
theorem dX8_buy_54 : decode cX8_buy 54 = .ok (.ishr, 1) := by decide +kernel
theorem dX8_buy_55 : decode cX8_buy 55 = .ok (.bipush 7, 2) := by decide +kernel
theorem dX8_buy_57 : decode cX8_buy 57 = .ok (.iand, 1) := by decide +kernel
theorem dX8_buy_58 : decode cX8_buy 58 = .ok (.ireturn, 1) := by decide +kernel
theorem dX8_tries_0 : decode cX8_tries 0 = .ok (.iload_n 1, 1) := by decide +kernel
theorem dX8_tries_1 : decode cX8_tries 1 = .ok (.iconst (-1), 1) := by decide +kernel
theorem dX8_tries_2 : decode cX8_tries 2 = .ok (.if_icmp .ge 8, 3) := by decide +kernel
theorem dX8_tries_5 : decode cX8_tries 5 = .ok (.aload_n 0, 1) := by decide +kernel
theorem dX8_tries_6 : decode cX8_tries 6 = .ok (.invokevirtual 102, 3) := by decide +kernel
theorem dX8_tries_9 : decode cX8_tries 9 = .ok (.ireturn, 1) := by decide +kernel
theorem dX8_tries_10 : decode cX8_tries 10 = .ok (.iload_n 1, 1) := by decide +kernel
theorem dX8_tries_11 : decode cX8_tries 11 = .ok (.aload_n 0, 1) := by decide +kernel
theorem dX8_tries_12 : decode cX8_tries 12 = .ok (.getfield 12, 3) := by decide +kernel
theorem dX8_tries_15 : decode cX8_tries 15 = .ok (.getfield 178, 3) := by decide +kernel
theorem dX8_tries_18 : decode cX8_tries 18 = .ok (.invokevirtual 181, 3) := by decide +kernel
theorem dX8_tries_21 : decode cX8_tries 21 = .ok (.if_icmp .lt 6, 3) := by decide +kernel
theorem dX8_tries_24 : decode cX8_tries 24 = .ok (.bipush (-5), 2) := by decide +kernel
theorem dX8_tries_26 : decode cX8_tries 26 = .ok (.ireturn, 1) := by decide +kernel
theorem dX8_tries_27 : decode cX8_tries 27 = .ok (.aload_n 0, 1) := by decide +kernel
theorem dX8_tries_28 : decode cX8_tries 28 = .ok (.invokevirtual 219, 3) := by decide +kernel
theorem dX8_tries_31 : decode cX8_tries 31 = .ok (.iload_n 1, 1) := by decide +kernel
theorem dX8_tries_32 : decode cX8_tries 32 = .ok (.iconst (-1), 1) := by decide +kernel
theorem dX8_tries_33 : decode cX8_tries 33 = .ok (.if_icmp .eq 12, 3) := by decide +kernel
theorem dX8_tries_36 : decode cX8_tries 36 = .ok (.aload_n 0, 1) := by decide +kernel
theorem dX8_tries_37 : decode cX8_tries 37 = .ok (.getfield 49, 3) := by decide +kernel
theorem dX8_tries_40 : decode cX8_tries 40 = .ok (.iload_n 1, 1) := by decide +kernel
theorem dX8_tries_41 : decode cX8_tries 41 = .ok (.invokevirtual 206, 3) := by decide +kernel
theorem dX8_tries_44 : decode cX8_tries 44 = .ok (.ireturn, 1) := by decide +kernel
theorem dX8_tries_45 : decode cX8_tries 45 = .ok (.aload_n 0, 1) := by decide +kernel
theorem dX8_tries_46 : decode cX8_tries 46 = .ok (.invokevirtual 222, 3) := by decide +kernel
theorem dX8_tries_49 : decode cX8_tries 49 = .ok (.iconst 1, 1) := by decide +kernel
theorem dX8_tries_50 : decode cX8_tries 50 = .ok (.ireturn, 1) := by decide +kernel
theorem dX8_nuts_0 : decode cX8_nuts 0 = .ok (.iload_n 1, 1) := by decide +kernel
theorem dX8_nuts_1 : decode cX8_nuts 1 = .ok (.iconst 1, 1) := by decide +kernel
theorem dX8_nuts_2 : decode cX8_nuts 2 = .ok (.bipush 6, 2) := by decide +kernel
theorem dX8_nuts_4 : decode cX8_nuts 4 = .ok (.invokestatic 167, 3) := by decide +kernel
theorem dX8_nuts_7 : decode cX8_nuts 7 = .ok (.ifCond .eq 12, 3) := by decide +kernel
theorem dX8_nuts_10 : decode cX8_nuts 10 = .ok (.iload_n 2, 1) := by decide +kernel
theorem dX8_nuts_11 : decode cX8_nuts 11 = .ok (.iconst 0, 1) := by decide +kernel
theorem dX8_nuts_12 : decode cX8_nuts 12 = .ok (.iconst 2, 1) := by decide +kernel
theorem dX8_nuts_13 : decode cX8_nuts 13 = .ok (.invokestatic 167, 3) := by decide +kernel
theorem dX8_nuts_16 : decode cX8_nuts 16 = .ok (.ifCond .ne 10, 3) := by decide +kernel
theorem dX8_nuts_19 : decode cX8_nuts 19 = .ok (.aload_n 0, 1) := by decide +kernel
theorem dX8_nuts_20 : decode cX8_nuts 20 = .ok (.bipush (-2), 2) := by decide +kernel
theorem dX8_nuts_22 : decode cX8_nuts 22 = .ok (.invokevirtual 71, 3) := by decide +kernel
theorem dX8_nuts_25 : decode cX8_nuts 25 = .ok (.ireturn, 1) := by decide +kernel
theorem dX8_nuts_26 : decode cX8_nuts 26 = .ok (.iload_n 2, 1) := by decide +kernel
theorem dX8_nuts_27 : decode cX8_nuts 27 = .ok (.iconst 1, 1) := by decide +kernel
theorem dX8_nuts_28 : decode cX8_nuts 28 = .ok (.if_icmp .ne 11, 3) := by decide +kernel
theorem dX8_nuts_31 : decode cX8_nuts 31 = .ok (.iload_n 1, 1) := by decide +kernel
theorem dX8_nuts_32 : decode cX8_nuts 32 = .ok (.iload_n 1, 1) := by decide +kernel
theorem dX8_nuts_33 : decode cX8_nuts 33 = .ok (.iconst 1, 1) := by decide +kernel
theorem dX8_nuts_34 : decode cX8_nuts 34 = .ok (.isub, 1) := by decide +kernel
theorem dX8_nuts_35 : decode cX8_nuts 35 = .ok (.imul, 1) := by decide +kernel
theorem dX8_nuts_36 : decode cX8_nuts 36 = .ok (.iconst 2, 1) := by decide +kernel
theorem dX8_nuts_37 : decode cX8_nuts 37 = .ok (.idiv, 1) := by decide +kernel
theorem dX8_nuts_38 : decode cX8_nuts 38 = .ok (.ireturn, 1) := by decide +kernel
theorem dX8_nuts_39 : decode cX8_nuts 39 = .ok (.iload_n 1, 1) := by decide +kernel
theorem dX8_nuts_40 : decode cX8_nuts 40 = .ok (.invokestatic 225, 3) := by decide +kernel
theorem dX8_nuts_43 : decode cX8_nuts 43 = .ok (.istore_n 3, 1) := by decide +kernel
theorem dX8_nuts_44 : decode cX8_nuts 44 = .ok (.iload_n 2, 1) := by decide +kernel
theorem dX8_nuts_45 : decode cX8_nuts 45 = .ok (.ifCond .ne 5, 3) := by decide +kernel
theorem dX8_nuts_48 : decode cX8_nuts 48 = .ok (.iload_n 3, 1) := by decide +kernel
theorem dX8_nuts_49 : decode cX8_nuts 49 = .ok (.ireturn, 1) := by decide +kernel
theorem dX8_nuts_50 : decode cX8_nuts 50 = .ok (.aload_n 0, 1) := by decide +kernel
theorem dX8_nuts_51 : decode cX8_nuts 51 = .ok (.iload_n 1, 1) := by decide +kernel
theorem dX8_nuts_52 : decode cX8_nuts 52 = .ok (.iload_n 3, 1) := by decide +kernel
theorem dX8_nuts_53 : decode cX8_nuts 53 = .ok (.invokevirtual 228, 3) := by decide +kernel
theorem dX8_nuts_56 : decode cX8_nuts 56 = .ok (.iconst 1, 1) := by decide +kernel
theorem dX8_nuts_57 : decode cX8_nuts 57 = .ok (.ireturn, 1) := by decide +kernel
theorem dX8_lend_0 : decode cX8_lend 0 = .ok (.aload_n 0, 1) := by decide +kernel
theorem dX8_lend_1 : decode cX8_lend 1 = .ok (.aload_n 0, 1) := by decide +kernel
theorem dX8_lend_2 : decode cX8_lend 2 = .ok (.getfield 12, 3) := by decide +kernel
theorem dX8_lend_5 : decode cX8_lend 5 = .ok (.iload_n 1, 1) := by decide +kernel
theorem dX8_lend_6 : decode cX8_lend 6 = .ok (.iload_n 2, 1) := by decide +kernel
theorem dX8_lend_7 : decode cX8_lend 7 = .ok (.iload_n 3, 1) := by decide +kernel
theorem dX8_lend_8 : decode cX8_lend 8 = .ok (.invokevirtual 231, 3) := by decide +kernel
theorem dX8_lend_11 : decode cX8_lend 11 = .ok (.invokevirtual 71, 3) := by decide +kernel
theorem dX8_lend_14 : decode cX8_lend 14 = .ok (.ireturn, 1) := by decide +kernel
theorem dX8_has_0 : decode cX8_has 0 = .ok (.aload_n 0, 1) := by decide +kernel
theorem dX8_has_1 : decode cX8_has 1 = .ok (.getfield 12, 3) := by decide +kernel
theorem dX8_has_4 : decode cX8_has 4 = .ok (.getfield 178, 3) := by decide +kernel
theorem dX8_has_7 : decode cX8_has 7 = .ok (.iload_n 1, 1) := by decide +kernel
theorem dX8_has_8 : decode cX8_has 8 = .ok (.invokevirtual 93, 3) := by decide +kernel
theorem dX8_has_11 : decode cX8_has 11 = .ok (.ifCond .eq 24, 3) := by decide +kernel
theorem dX8_has_14 : decode cX8_has 14 = .ok (.aload_n 0, 1) := by decide +kernel
theorem dX8_has_15 : decode cX8_has 15 = .ok (.getfield 12, 3) := by decide +kernel
theorem dX8_has_18 : decode cX8_has 18 = .ok (.aload_n 0, 1) := by decide +kernel
theorem dX8_has_19 : decode cX8_has 19 = .ok (.getfield 12, 3) := by decide +kernel
theorem dX8_has_22 : decode cX8_has 22 = .ok (.getfield 234, 3) := by decide +kernel
theorem dX8_has_25 : decode cX8_has 25 = .ok (.invokevirtual 181, 3) := by decide +kernel
theorem dX8_has_28 : decode cX8_has 28 = .ok (.iload_n 1, 1) := by decide +kernel
theorem dX8_has_29 : decode cX8_has 29 = .ok (.invokevirtual 237, 3) := by decide +kernel
theorem dX8_has_32 : decode cX8_has 32 = .ok (.goto 9, 3) := by decide +kernel
theorem dX8_has_35 : decode cX8_has 35 = .ok (.aload_n 0, 1) := by decide +kernel
theorem dX8_has_36 : decode cX8_has 36 = .ok (.bipush (-2), 2) := by decide +kernel
theorem dX8_has_38 : decode cX8_has 38 = .ok (.invokevirtual 71, 3) := by decide +kernel
theorem dX8_has_41 : decode cX8_has 41 = .ok (.ireturn, 1) := by decide +kernel
theorem dX8_wrong_0 : decode cX8_wrong 0 = .ok (.aload_n 0, 1) := by decide +kernel
theorem dX8_wrong_1 : decode cX8_wrong 1 = .ok (.getfield 12, 3) := by decide +kernel
theorem dX8_wrong_4 : decode cX8_wrong 4 = .ok (.invokevirtual 240, 3) := by decide +kernel
theorem dX8_wrong_7 : decode cX8_wrong 7 = .ok (.ireturn, 1) := by decide +kernel
theorem dX8_hint_0 : decode cX8_hint 0 = .ok (.aload_n 0, 1) := by decide +kernel
theorem dX8_hint_1 : decode cX8_hint 1 = .ok (.aload_n 0, 1) := by decide +kernel
theorem dX8_hint_2 : decode cX8_hint 2 = .ok (.getfield 12, 3) := by decide +kernel
theorem dX8_hint_5 : decode cX8_hint 5 = .ok (.iload_n 1, 1) := by decide +kernel
theorem dX8_hint_6 : decode cX8_hint 6 = .ok (.iload_n 2, 1) := by decide +kernel
theorem dX8_hint_7 : decode cX8_hint 7 = .ok (.iload_n 3, 1) := by decide +kernel
theorem dX8_hint_8 : decode cX8_hint 8 = .ok (.invokevirtual 243, 3) := by decide +kernel
theorem dX8_hint_11 : decode cX8_hint 11 = .ok (.invokevirtual 71, 3) := by decide +kernel
theorem dX8_hint_14 : decode cX8_hint 14 = .ok (.ireturn, 1) := by decide +kernel
theorem dX8_forget_0 : decode cX8_forget 0 = .ok (.iload_n 1, 1) := by decide +kernel
theorem dX8_forget_1 : decode cX8_forget 1 = .ok (.tableswitch 60 0 2 #[27, 38, 49], 27) := by decide +kernel
theorem dX8_forget_28 : decode cX8_forget 28 = .ok (.aload_n 0, 1) := by decide +kernel
theorem dX8_forget_29 : decode cX8_forget 29 = .ok (.getfield 12, 3) := by decide +kernel
theorem dX8_forget_32 : decode cX8_forget 32 = .ok (.getfield 234, 3) := by decide +kernel
theorem dX8_forget_35 : decode cX8_forget 35 = .ok (.invokevirtual 246, 3) := by decide +kernel
theorem dX8_forget_38 : decode cX8_forget 38 = .ok (.ireturn, 1) := by decide +kernel
theorem dX8_forget_39 : decode cX8_forget 39 = .ok (.aload_n 0, 1) := by decide +kernel
theorem dX8_forget_40 : decode cX8_forget 40 = .ok (.getfield 12, 3) := by decide +kernel
theorem dX8_forget_43 : decode cX8_forget 43 = .ok (.getfield 247, 3) := by decide +kernel
theorem dX8_forget_46 : decode cX8_forget 46 = .ok (.invokevirtual 246, 3) := by decide +kernel
theorem dX8_forget_49 : decode cX8_forget 49 = .ok (.ireturn, 1) := by decide +kernel
theorem dX8_forget_50 : decode cX8_forget 50 = .ok (.aload_n 0, 1) := by decide +kernel
theorem dX8_forget_51 : decode cX8_forget 51 = .ok (.getfield 12, 3) := by decide +kernel
theorem dX8_forget_54 : decode cX8_forget 54 = .ok (.getfield 209, 3) := by decide +kernel
theorem dX8_forget_57 : decode cX8_forget 57 = .ok (.invokevirtual 246, 3) := by decide +kernel
theorem dX8_forget_60 : decode cX8_forget 60 = .ok (.ireturn, 1) := by decide +kernel
theorem dX8_forget_61 : decode cX8_forget 61 = .ok (.aload_n 0, 1) := by decide +kernel
theorem dX8_forget_62 : decode cX8_forget 62 = .ok (.bipush (-2), 2) := by decide +kernel
theorem dX8_forget_64 : decode cX8_forget 64 = .ok (.invokevirtual 71, 3) := by decide +kernel
theorem dX8_forget_67 : decode cX8_forget 67 = .ok (.ireturn, 1) := by decide +kernel
theorem dX8_labels_0 : decode cX8_labels 0 = .ok (.iload_n 2, 1) := by decide +kernel
theorem dX8_labels_1 : decode cX8_labels 1 = .ok (.iconst 1, 1) := by decide +kernel
theorem dX8_labels_2 : decode cX8_labels 2 = .ok (.if_icmp .ne 17, 3) := by decide +kernel
theorem dX8_labels_5 : decode cX8_labels 5 = .ok (.aload_n 0, 1) := by decide +kernel
theorem dX8_labels_6 : decode cX8_labels 6 = .ok (.getfield 12, 3) := by decide +kernel
theorem dX8_labels_9 : decode cX8_labels 9 = .ok (.getfield 89, 3) := by decide +kernel
theorem dX8_labels_12 : decode cX8_labels 12 = .ok (.iload_n 1, 1) := by decide +kernel
theorem dX8_labels_13 : decode cX8_labels 13 = .ok (.invokevirtual 93, 3) := by decide +kernel
theorem dX8_labels_16 : decode cX8_labels 16 = .ok (.goto 21, 3) := by decide +kernel
theorem dX8_labels_19 : decode cX8_labels 19 = .ok (.iload_n 1, 1) := by decide +kernel
theorem dX8_labels_20 : decode cX8_labels 20 = .ok (.ifCond .ne 16, 3) := by decide +kernel
theorem dX8_labels_23 : decode cX8_labels 23 = .ok (.iload_n 2, 1) := by decide +kernel
theorem dX8_labels_24 : decode cX8_labels 24 = .ok (.ifCond .eq 8, 3) := by decide +kernel
theorem dX8_labels_27 : decode cX8_labels 27 = .ok (.iload_n 2, 1) := by decide +kernel
theorem dX8_labels_28 : decode cX8_labels 28 = .ok (.iconst 2, 1) := by decide +kernel
theorem dX8_labels_29 : decode cX8_labels 29 = .ok (.if_icmp .ne 7, 3) := by decide +kernel
theorem dX8_labels_32 : decode cX8_labels 32 = .ok (.iconst 1, 1) := by decide +kernel
theorem dX8_labels_33 : decode cX8_labels 33 = .ok (.goto 4, 3) := by decide +kernel
theorem dX8_labels_36 : decode cX8_labels 36 = .ok (.iconst 0, 1) := by decide +kernel
theorem dX8_labels_37 : decode cX8_labels 37 = .ok (.istore_n 3, 1) := by decide +kernel
theorem dX8_labels_38 : decode cX8_labels 38 = .ok (.iload_n 3, 1) := by decide +kernel
theorem dX8_labels_39 : decode cX8_labels 39 = .ok (.ifCond .ne 8, 3) := by decide +kernel
theorem dX8_labels_42 : decode cX8_labels 42 = .ok (.aload_n 0, 1) := by decide +kernel
theorem dX8_labels_43 : decode cX8_labels 43 = .ok (.invokevirtual 102, 3) := by decide +kernel
theorem dX8_labels_46 : decode cX8_labels 46 = .ok (.ireturn, 1) := by decide +kernel
theorem dX8_labels_47 : decode cX8_labels 47 = .ok (.aload_n 0, 1) := by decide +kernel
theorem dX8_labels_48 : decode cX8_labels 48 = .ok (.getfield 56, 3) := by decide +kernel
theorem dX8_labels_51 : decode cX8_labels 51 = .ok (.aload_n 0, 1) := by decide +kernel
theorem dX8_labels_52 : decode cX8_labels 52 = .ok (.getfield 12, 3) := by decide +kernel
theorem dX8_labels_55 : decode cX8_labels 55 = .ok (.invokevirtual 250, 3) := by decide +kernel
theorem dX8_labels_58 : decode cX8_labels 58 = .ok (.iload_n 2, 1) := by decide +kernel
theorem dX8_labels_59 : decode cX8_labels 59 = .ok (.lookupswitch 42 #[(0, 25), (1, 33)], 25) := by decide +kernel
theorem dX8_labels_84 : decode cX8_labels 84 = .ok (.aload_n 0, 1) := by decide +kernel
theorem dX8_labels_85 : decode cX8_labels 85 = .ok (.getfield 56, 3) := by decide +kernel
theorem dX8_labels_88 : decode cX8_labels 88 = .ok (.invokevirtual 251, 3) := by decide +kernel
theorem dX8_labels_91 : decode cX8_labels 91 = .ok (.ireturn, 1) := by decide +kernel
theorem dX8_labels_92 : decode cX8_labels 92 = .ok (.aload_n 0, 1) := by decide +kernel
theorem dX8_labels_93 : decode cX8_labels 93 = .ok (.getfield 56, 3) := by decide +kernel
theorem dX8_labels_96 : decode cX8_labels 96 = .ok (.iload_n 1, 1) := by decide +kernel
theorem dX8_labels_97 : decode cX8_labels 97 = .ok (.invokevirtual 254, 3) := by decide +kernel
theorem dX8_labels_100 : decode cX8_labels 100 = .ok (.ireturn, 1) := by decide +kernel
theorem dX8_labels_101 : decode cX8_labels 101 = .ok (.aload_n 0, 1) := by decide +kernel
theorem dX8_labels_102 : decode cX8_labels 102 = .ok (.getfield 56, 3) := by decide +kernel
theorem dX8_labels_105 : decode cX8_labels 105 = .ok (.invokevirtual 257, 3) := by decide +kernel
theorem dX8_labels_108 : decode cX8_labels 108 = .ok (.ireturn, 1) := by decide +kernel
theorem dX8_evening_0 : decode cX8_evening 0 = .ok (.iload_n 1, 1) := by decide +kernel
theorem dX8_evening_1 : decode cX8_evening 1 = .ok (.iconst 0, 1) := by decide +kernel
theorem dX8_evening_2 : decode cX8_evening 2 = .ok (.bipush 60, 2) := by decide +kernel
theorem dX8_evening_4 : decode cX8_evening 4 = .ok (.invokestatic 167, 3) := by decide +kernel
theorem dX8_evening_7 : decode cX8_evening 7 = .ok (.ifCond .eq 14, 3) := by decide +kernel
theorem dX8_evening_10 : decode cX8_evening 10 = .ok (.iload_n 2, 1) := by decide +kernel
theorem dX8_evening_11 : decode cX8_evening 11 = .ok (.iconst 0, 1) := by decide +kernel
theorem dX8_evening_12 : decode cX8_evening 12 = .ok (.ldc_w 260, 3) := by decide +kernel
theorem dX8_evening_15 : decode cX8_evening 15 = .ok (.invokestatic 167, 3) := by decide +kernel
theorem dX8_evening_18 : decode cX8_evening 18 = .ok (.ifCond .ne 10, 3) := by decide +kernel
theorem dX8_evening_21 : decode cX8_evening 21 = .ok (.aload_n 0, 1) := by decide +kernel
theorem dX8_evening_22 : decode cX8_evening 22 = .ok (.bipush (-2), 2) := by decide +kernel
theorem dX8_evening_24 : decode cX8_evening 24 = .ok (.invokevirtual 71, 3) := by decide +kernel
theorem dX8_evening_27 : decode cX8_evening 27 = .ok (.ireturn, 1) := by decide +kernel
theorem dX8_evening_28 : decode cX8_evening 28 = .ok (.aload_n 0, 1) := by decide +kernel
theorem dX8_evening_29 : decode cX8_evening 29 = .ok (.aload_n 0, 1) := by decide +kernel
theorem dX8_evening_30 : decode cX8_evening 30 = .ok (.getfield 12, 3) := by decide +kernel
theorem dX8_evening_33 : decode cX8_evening 33 = .ok (.iload_n 1, 1) := by decide +kernel
theorem dX8_evening_34 : decode cX8_evening 34 = .ok (.iload_n 2, 1) := by decide +kernel
theorem dX8_evening_35 : decode cX8_evening 35 = .ok (.invokevirtual 261, 3) := by decide +kernel
theorem dX8_evening_38 : decode cX8_evening 38 = .ok (.invokevirtual 71, 3) := by decide +kernel
theorem dX8_evening_41 : decode cX8_evening 41 = .ok (.ireturn, 1) := by decide +kernel
theorem dX8_part_0 : decode cX8_part 0 = .ok (.iload_n 1, 1) := by decide +kernel
theorem dX8_part_1 : decode cX8_part 1 = .ok (.lookupswitch 43 #[(0, 27), (1, 35)], 27) := by decide +kernel
theorem dX8_part_28 : decode cX8_part 28 = .ok (.aload_n 0, 1) := by decide +kernel
theorem dX8_part_29 : decode cX8_part 29 = .ok (.getfield 63, 3) := by decide +kernel
theorem dX8_part_32 : decode cX8_part 32 = .ok (.getfield 264, 3) := by decide +kernel
theorem dX8_part_35 : decode cX8_part 35 = .ok (.lreturn, 1) := by decide +kernel
theorem dX8_part_36 : decode cX8_part 36 = .ok (.aload_n 0, 1) := by decide +kernel
theorem dX8_part_37 : decode cX8_part 37 = .ok (.getfield 63, 3) := by decide +kernel
theorem dX8_part_40 : decode cX8_part 40 = .ok (.getfield 268, 3) := by decide +kernel
theorem dX8_part_43 : decode cX8_part 43 = .ok (.lreturn, 1) := by decide +kernel
theorem dX8_part_44 : decode cX8_part 44 = .ok (.aload_n 0, 1) := by decide +kernel
theorem dX8_part_45 : decode cX8_part 45 = .ok (.bipush (-2), 2) := by decide +kernel
theorem dX8_part_47 : decode cX8_part 47 = .ok (.invokevirtual 71, 3) := by decide +kernel
theorem dX8_part_50 : decode cX8_part 50 = .ok (.i2l, 1) := by decide +kernel
theorem dX8_part_51 : decode cX8_part 51 = .ok (.lreturn, 1) := by decide +kernel
theorem dX8_image_0 : decode cX8_image 0 = .ok (.iload_n 1, 1) := by decide +kernel
theorem dX8_image_1 : decode cX8_image 1 = .ok (.iconst 0, 1) := by decide +kernel
theorem dX8_image_2 : decode cX8_image 2 = .ok (.iconst 1, 1) := by decide +kernel
theorem dX8_image_3 : decode cX8_image 3 = .ok (.invokestatic 167, 3) := by decide +kernel
theorem dX8_image_6 : decode cX8_image 6 = .ok (.ifCond .ne 10, 3) := by decide +kernel
theorem dX8_image_9 : decode cX8_image 9 = .ok (.aload_n 0, 1) := by decide +kernel
theorem dX8_image_10 : decode cX8_image 10 = .ok (.bipush (-2), 2) := by decide +kernel
theorem dX8_image_12 : decode cX8_image 12 = .ok (.invokevirtual 71, 3) := by decide +kernel
theorem dX8_image_15 : decode cX8_image 15 = .ok (.ireturn, 1) := by decide +kernel
theorem dX8_image_16 : decode cX8_image 16 = .ok (.aload_n 0, 1) := by decide +kernel
theorem dX8_image_17 : decode cX8_image 17 = .ok (.iload_n 1, 1) := by decide +kernel
theorem dX8_image_18 : decode cX8_image 18 = .ok (.invokevirtual 271, 3) := by decide +kernel
theorem dX8_image_21 : decode cX8_image 21 = .ok (.aload_n 0, 1) := by decide +kernel
theorem dX8_image_22 : decode cX8_image 22 = .ok (.getfield 12, 3) := by decide +kernel
theorem dX8_image_25 : decode cX8_image 25 = .ok (.invokevirtual 144, 3) := by decide +kernel
theorem dX8_image_28 : decode cX8_image 28 = .ok (.aload_n 0, 1) := by decide +kernel
theorem dX8_image_29 : decode cX8_image 29 = .ok (.dup, 1) := by decide +kernel
theorem dX8_image_30 : decode cX8_image 30 = .ok (.getfield 275, 3) := by decide +kernel
theorem dX8_image_33 : decode cX8_image 33 = .ok (.iconst 1, 1) := by decide +kernel
theorem dX8_image_34 : decode cX8_image 34 = .ok (.iload_n 1, 1) := by decide +kernel
theorem dX8_image_35 : decode cX8_image 35 = .ok (.ishl, 1) := by decide +kernel
theorem dX8_image_36 : decode cX8_image 36 = .ok (.ior, 1) := by decide +kernel
theorem dX8_image_37 : decode cX8_image 37 = .ok (.putfield 275, 3) := by decide +kernel
theorem dX8_image_40 : decode cX8_image 40 = .ok (.iconst 1, 1) := by decide +kernel
theorem dX8_image_41 : decode cX8_image 41 = .ok (.ireturn, 1) := by decide +kernel
theorem dX8_from_0 : decode cX8_from 0 = .ok (.iload_n 1, 1) := by decide +kernel
theorem dX8_from_1 : decode cX8_from 1 = .ok (.iconst 0, 1) := by decide +kernel
theorem dX8_from_2 : decode cX8_from 2 = .ok (.iconst 1, 1) := by decide +kernel
theorem dX8_from_3 : decode cX8_from 3 = .ok (.invokestatic 167, 3) := by decide +kernel
theorem dX8_from_6 : decode cX8_from 6 = .ok (.ifCond .ne 10, 3) := by decide +kernel
theorem dX8_from_9 : decode cX8_from 9 = .ok (.aload_n 0, 1) := by decide +kernel
theorem dX8_from_10 : decode cX8_from 10 = .ok (.bipush (-2), 2) := by decide +kernel
theorem dX8_from_12 : decode cX8_from 12 = .ok (.invokevirtual 71, 3) := by decide +kernel
theorem dX8_from_15 : decode cX8_from 15 = .ok (.ireturn, 1) := by decide +kernel
theorem dX8_from_16 : decode cX8_from 16 = .ok (.aload_n 0, 1) := by decide +kernel
theorem dX8_from_17 : decode cX8_from 17 = .ok (.getfield 275, 3) := by decide +kernel
theorem dX8_from_20 : decode cX8_from 20 = .ok (.iload_n 1, 1) := by decide +kernel
theorem dX8_from_21 : decode cX8_from 21 = .ok (.ishr, 1) := by decide +kernel
theorem dX8_from_22 : decode cX8_from 22 = .ok (.iconst 1, 1) := by decide +kernel
theorem dX8_from_23 : decode cX8_from 23 = .ok (.iand, 1) := by decide +kernel
theorem dX8_from_24 : decode cX8_from 24 = .ok (.ifCond .ne 10, 3) := by decide +kernel
theorem dX8_from_27 : decode cX8_from 27 = .ok (.aload_n 0, 1) := by decide +kernel
theorem dX8_from_28 : decode cX8_from 28 = .ok (.bipush (-3), 2) := by decide +kernel
theorem dX8_from_30 : decode cX8_from 30 = .ok (.invokevirtual 71, 3) := by decide +kernel
theorem dX8_from_33 : decode cX8_from 33 = .ok (.ireturn, 1) := by decide +kernel
theorem dX8_from_34 : decode cX8_from 34 = .ok (.aload_n 0, 1) := by decide +kernel
theorem dX8_from_35 : decode cX8_from 35 = .ok (.getfield 12, 3) := by decide +kernel
theorem dX8_from_38 : decode cX8_from 38 = .ok (.aload_n 0, 1) := by decide +kernel
theorem dX8_from_39 : decode cX8_from 39 = .ok (.iload_n 1, 1) := by decide +kernel
theorem dX8_from_40 : decode cX8_from 40 = .ok (.invokevirtual 271, 3) := by decide +kernel
theorem dX8_from_43 : decode cX8_from 43 = .ok (.invokevirtual 144, 3) := by decide +kernel
theorem dX8_from_46 : decode cX8_from 46 = .ok (.iconst 1, 1) := by decide +kernel
theorem dX8_from_47 : decode cX8_from 47 = .ok (.ireturn, 1) := by decide +kernel
theorem dX8_status_0 : decode cX8_status 0 = .ok (.iload_n 1, 1) := by decide +kernel
theorem dX8_status_1 : decode cX8_status 1 = .ok (.tableswitch 42 0 2 #[27, 32, 37], 27) := by decide +kernel
theorem dX8_status_28 : decode cX8_status 28 = .ok (.aload_n 0, 1) := by decide +kernel
theorem dX8_status_29 : decode cX8_status 29 = .ok (.getfield 279, 3) := by decide +kernel
theorem dX8_status_32 : decode cX8_status 32 = .ok (.ireturn, 1) := by decide +kernel
theorem dX8_status_33 : decode cX8_status 33 = .ok (.aload_n 0, 1) := by decide +kernel
theorem dX8_status_34 : decode cX8_status 34 = .ok (.getfield 282, 3) := by decide +kernel
theorem dX8_status_37 : decode cX8_status 37 = .ok (.ireturn, 1) := by decide +kernel
theorem dX8_status_38 : decode cX8_status 38 = .ok (.aload_n 0, 1) := by decide +kernel
theorem dX8_status_39 : decode cX8_status 39 = .ok (.getfield 285, 3) := by decide +kernel
theorem dX8_status_42 : decode cX8_status 42 = .ok (.ireturn, 1) := by decide +kernel
theorem dX8_status_43 : decode cX8_status 43 = .ok (.aload_n 0, 1) := by decide +kernel
theorem dX8_status_44 : decode cX8_status 44 = .ok (.bipush (-2), 2) := by decide +kernel
theorem dX8_status_46 : decode cX8_status 46 = .ok (.invokevirtual 71, 3) := by decide +kernel
theorem dX8_status_49 : decode cX8_status 49 = .ok (.pop, 1) := by decide +kernel
theorem dX8_status_50 : decode cX8_status 50 = .ok (.iconst (-1), 1) := by decide +kernel
theorem dX8_status_51 : decode cX8_status 51 = .ok (.ireturn, 1) := by decide +kernel
theorem dX8_count_0 : decode cX8_count 0 = .ok (.aload_n 0, 1) := by decide +kernel
theorem dX8_count_1 : decode cX8_count 1 = .ok (.aload_n 0, 1) := by decide +kernel
theorem dX8_count_2 : decode cX8_count 2 = .ok (.iload_n 1, 1) := by decide +kernel
theorem dX8_count_3 : decode cX8_count 3 = .ok (.invokevirtual 288, 3) := by decide +kernel
theorem dX8_count_6 : decode cX8_count 6 = .ok (.invokevirtual 71, 3) := by decide +kernel
theorem dX8_count_9 : decode cX8_count 9 = .ok (.ireturn, 1) := by decide +kernel
theorem dX8_digest_0 : decode cX8_digest 0 = .ok (.ldc2_w 291, 3) := by decide +kernel
theorem dX8_digest_3 : decode cX8_digest 3 = .ok (.lstore_n 1, 1) := by decide +kernel
theorem dX8_digest_4 : decode cX8_digest 4 = .ok (.iconst 0, 1) := by decide +kernel
theorem dX8_digest_5 : decode cX8_digest 5 = .ok (.istore_n 3, 1) := by decide +kernel
theorem dX8_digest_6 : decode cX8_digest 6 = .ok (.iload_n 3, 1) := by decide +kernel
theorem dX8_digest_7 : decode cX8_digest 7 = .ok (.bipush 7, 2) := by decide +kernel
theorem dX8_digest_9 : decode cX8_digest 9 = .ok (.if_icmp .gt 22, 3) := by decide +kernel
theorem dX8_digest_12 : decode cX8_digest 12 = .ok (.ldc2_w 293, 3) := by decide +kernel
theorem dX8_digest_15 : decode cX8_digest 15 = .ok (.lload_n 1, 1) := by decide +kernel
theorem dX8_digest_16 : decode cX8_digest 16 = .ok (.lmul, 1) := by decide +kernel
theorem dX8_digest_17 : decode cX8_digest 17 = .ok (.aload_n 0, 1) := by decide +kernel
theorem dX8_digest_18 : decode cX8_digest 18 = .ok (.iload_n 3, 1) := by decide +kernel
theorem dX8_digest_19 : decode cX8_digest 19 = .ok (.invokevirtual 288, 3) := by decide +kernel
theorem dX8_digest_22 : decode cX8_digest 22 = .ok (.i2l, 1) := by decide +kernel
theorem dX8_digest_23 : decode cX8_digest 23 = .ok (.ladd, 1) := by decide +kernel
theorem dX8_digest_24 : decode cX8_digest 24 = .ok (.lstore_n 1, 1) := by decide +kernel
theorem dX8_digest_25 : decode cX8_digest 25 = .ok (.iinc 3 1, 3) := by decide +kernel
theorem dX8_digest_28 : decode cX8_digest 28 = .ok (.goto (-22), 3) := by decide +kernel
theorem dX8_digest_31 : decode cX8_digest 31 = .ok (.aload_n 0, 1) := by decide +kernel
theorem dX8_digest_32 : decode cX8_digest 32 = .ok (.getfield 12, 3) := by decide +kernel
theorem dX8_digest_35 : decode cX8_digest 35 = .ok (.getfield 89, 3) := by decide +kernel
theorem dX8_digest_38 : decode cX8_digest 38 = .ok (.lload_n 1, 1) := by decide +kernel
theorem dX8_digest_39 : decode cX8_digest 39 = .ok (.invokevirtual 295, 3) := by decide +kernel
theorem dX8_digest_42 : decode cX8_digest 42 = .ok (.lstore_n 1, 1) := by decide +kernel
theorem dX8_digest_43 : decode cX8_digest 43 = .ok (.aload_n 0, 1) := by decide +kernel
theorem dX8_digest_44 : decode cX8_digest 44 = .ok (.getfield 12, 3) := by decide +kernel
theorem dX8_digest_47 : decode cX8_digest 47 = .ok (.getfield 178, 3) := by decide +kernel
theorem dX8_digest_50 : decode cX8_digest 50 = .ok (.lload_n 1, 1) := by decide +kernel
theorem dX8_digest_51 : decode cX8_digest 51 = .ok (.invokevirtual 295, 3) := by decide +kernel
theorem dX8_digest_54 : decode cX8_digest 54 = .ok (.lstore_n 1, 1) := by decide +kernel
theorem dX8_digest_55 : decode cX8_digest 55 = .ok (.aload_n 0, 1) := by decide +kernel
theorem dX8_digest_56 : decode cX8_digest 56 = .ok (.getfield 12, 3) := by decide +kernel
theorem dX8_digest_59 : decode cX8_digest 59 = .ok (.getfield 209, 3) := by decide +kernel
theorem dX8_digest_62 : decode cX8_digest 62 = .ok (.lload_n 1, 1) := by decide +kernel
theorem dX8_digest_63 : decode cX8_digest 63 = .ok (.invokevirtual 295, 3) := by decide +kernel
theorem dX8_digest_66 : decode cX8_digest 66 = .ok (.lstore_n 1, 1) := by decide +kernel
theorem dX8_digest_67 : decode cX8_digest 67 = .ok (.aload_n 0, 1) := by decide +kernel
theorem dX8_digest_68 : decode cX8_digest 68 = .ok (.getfield 12, 3) := by decide +kernel
theorem dX8_digest_71 : decode cX8_digest 71 = .ok (.getfield 234, 3) := by decide +kernel
theorem dX8_digest_74 : decode cX8_digest 74 = .ok (.lload_n 1, 1) := by decide +kernel
theorem dX8_digest_75 : decode cX8_digest 75 = .ok (.invokevirtual 295, 3) := by decide +kernel
theorem dX8_digest_78 : decode cX8_digest 78 = .ok (.lstore_n 1, 1) := by decide +kernel
theorem dX8_digest_79 : decode cX8_digest 79 = .ok (.aload_n 0, 1) := by decide +kernel
theorem dX8_digest_80 : decode cX8_digest 80 = .ok (.getfield 12, 3) := by decide +kernel
theorem dX8_digest_83 : decode cX8_digest 83 = .ok (.getfield 247, 3) := by decide +kernel
theorem dX8_digest_86 : decode cX8_digest 86 = .ok (.lload_n 1, 1) := by decide +kernel
theorem dX8_digest_87 : decode cX8_digest 87 = .ok (.invokevirtual 295, 3) := by decide +kernel
theorem dX8_digest_90 : decode cX8_digest 90 = .ok (.lstore_n 1, 1) := by decide +kernel
theorem dX8_digest_91 : decode cX8_digest 91 = .ok (.ldc2_w 293, 3) := by decide +kernel
theorem dX8_digest_94 : decode cX8_digest 94 = .ok (.lload_n 1, 1) := by decide +kernel
theorem dX8_digest_95 : decode cX8_digest 95 = .ok (.lmul, 1) := by decide +kernel
theorem dX8_digest_96 : decode cX8_digest 96 = .ok (.aload_n 0, 1) := by decide +kernel
theorem dX8_digest_97 : decode cX8_digest 97 = .ok (.getfield 63, 3) := by decide +kernel
theorem dX8_digest_100 : decode cX8_digest 100 = .ok (.getfield 264, 3) := by decide +kernel
theorem dX8_digest_103 : decode cX8_digest 103 = .ok (.ladd, 1) := by decide +kernel
theorem dX8_digest_104 : decode cX8_digest 104 = .ok (.lstore_n 1, 1) := by decide +kernel
theorem dX8_digest_105 : decode cX8_digest 105 = .ok (.ldc2_w 293, 3) := by decide +kernel
theorem dX8_digest_108 : decode cX8_digest 108 = .ok (.lload_n 1, 1) := by decide +kernel
theorem dX8_digest_109 : decode cX8_digest 109 = .ok (.lmul, 1) := by decide +kernel
theorem dX8_digest_110 : decode cX8_digest 110 = .ok (.aload_n 0, 1) := by decide +kernel
theorem dX8_digest_111 : decode cX8_digest 111 = .ok (.getfield 63, 3) := by decide +kernel
theorem dX8_digest_114 : decode cX8_digest 114 = .ok (.getfield 268, 3) := by decide +kernel
theorem dX8_digest_117 : decode cX8_digest 117 = .ok (.ladd, 1) := by decide +kernel
theorem dX8_digest_118 : decode cX8_digest 118 = .ok (.lreturn, 1) := by decide +kernel
theorem dX8_told_0 : decode cX8_told 0 = .ok (.iload_n 1, 1) := by decide +kernel
theorem dX8_told_1 : decode cX8_told 1 = .ok (.tableswitch 66 (-4) (-2) #[53, 40, 27], 27) := by decide +kernel
theorem dX8_told_28 : decode cX8_told 28 = .ok (.aload_n 0, 1) := by decide +kernel
theorem dX8_told_29 : decode cX8_told 29 = .ok (.dup, 1) := by decide +kernel
theorem dX8_told_30 : decode cX8_told 30 = .ok (.getfield 279, 3) := by decide +kernel
theorem dX8_told_33 : decode cX8_told 33 = .ok (.iconst 1, 1) := by decide +kernel
theorem dX8_told_34 : decode cX8_told 34 = .ok (.iadd, 1) := by decide +kernel
theorem dX8_told_35 : decode cX8_told 35 = .ok (.putfield 279, 3) := by decide +kernel
theorem dX8_told_38 : decode cX8_told 38 = .ok (.goto 29, 3) := by decide +kernel
theorem dX8_told_41 : decode cX8_told 41 = .ok (.aload_n 0, 1) := by decide +kernel
theorem dX8_told_42 : decode cX8_told 42 = .ok (.dup, 1) := by decide +kernel
theorem dX8_told_43 : decode cX8_told 43 = .ok (.getfield 282, 3) := by decide +kernel
theorem dX8_told_46 : decode cX8_told 46 = .ok (.iconst 1, 1) := by decide +kernel
theorem dX8_told_47 : decode cX8_told 47 = .ok (.iadd, 1) := by decide +kernel
theorem dX8_told_48 : decode cX8_told 48 = .ok (.putfield 282, 3) := by decide +kernel
theorem dX8_told_51 : decode cX8_told 51 = .ok (.goto 16, 3) := by decide +kernel
theorem dX8_told_54 : decode cX8_told 54 = .ok (.aload_n 0, 1) := by decide +kernel
theorem dX8_told_55 : decode cX8_told 55 = .ok (.dup, 1) := by decide +kernel
theorem dX8_told_56 : decode cX8_told 56 = .ok (.getfield 285, 3) := by decide +kernel
theorem dX8_told_59 : decode cX8_told 59 = .ok (.iconst 1, 1) := by decide +kernel
theorem dX8_told_60 : decode cX8_told 60 = .ok (.iadd, 1) := by decide +kernel
theorem dX8_told_61 : decode cX8_told 61 = .ok (.putfield 285, 3) := by decide +kernel
theorem dX8_told_64 : decode cX8_told 64 = .ok (.goto 3, 3) := by decide +kernel
theorem dX8_told_67 : decode cX8_told 67 = .ok (.iload_n 1, 1) := by decide +kernel
theorem dX8_told_68 : decode cX8_told 68 = .ok (.ireturn, 1) := by decide +kernel
theorem dX8_badToldApart_0 : decode cX8_badToldApart 0 = .ok (.aload_n 0, 1) := by decide +kernel
theorem dX8_badToldApart_1 : decode cX8_badToldApart 1 = .ok (.bipush (-2), 2) := by decide +kernel
theorem dX8_badToldApart_3 : decode cX8_badToldApart 3 = .ok (.invokevirtual 71, 3) := by decide +kernel
theorem dX8_badToldApart_6 : decode cX8_badToldApart 6 = .ok (.pop, 1) := by decide +kernel
theorem dX8_badToldApart_7 : decode cX8_badToldApart 7 = .ok (.bipush (-10), 2) := by decide +kernel
theorem dX8_badToldApart_9 : decode cX8_badToldApart 9 = .ok (.ireturn, 1) := by decide +kernel
theorem dX8_within_0 : decode cX8_within 0 = .ok (.iload_n 1, 1) := by decide +kernel
theorem dX8_within_1 : decode cX8_within 1 = .ok (.iload_n 0, 1) := by decide +kernel
theorem dX8_within_2 : decode cX8_within 2 = .ok (.if_icmp .gt 12, 3) := by decide +kernel
theorem dX8_within_5 : decode cX8_within 5 = .ok (.iload_n 0, 1) := by decide +kernel
theorem dX8_within_6 : decode cX8_within 6 = .ok (.iload_n 2, 1) := by decide +kernel
theorem dX8_within_7 : decode cX8_within 7 = .ok (.if_icmp .gt 7, 3) := by decide +kernel
theorem dX8_within_10 : decode cX8_within 10 = .ok (.iconst 1, 1) := by decide +kernel
theorem dX8_within_11 : decode cX8_within 11 = .ok (.goto 4, 3) := by decide +kernel
theorem dX8_within_14 : decode cX8_within 14 = .ok (.iconst 0, 1) := by decide +kernel
theorem dX8_within_15 : decode cX8_within 15 = .ok (.ireturn, 1) := by decide +kernel
theorem dX8_howMany_0 : decode cX8_howMany 0 = .ok (.iload_n 1, 1) := by decide +kernel
theorem dX8_howMany_1 : decode cX8_howMany 1 = .ok (.tableswitch 129 0 7 #[47, 58, 69, 77, 88, 99, 110, 121], 47) := by decide +kernel
theorem dX8_howMany_48 : decode cX8_howMany 48 = .ok (.aload_n 0, 1) := by decide +kernel
theorem dX8_howMany_49 : decode cX8_howMany 49 = .ok (.getfield 12, 3) := by decide +kernel
theorem dX8_howMany_52 : decode cX8_howMany 52 = .ok (.getfield 89, 3) := by decide +kernel
theorem dX8_howMany_55 : decode cX8_howMany 55 = .ok (.invokevirtual 181, 3) := by decide +kernel
theorem dX8_howMany_58 : decode cX8_howMany 58 = .ok (.ireturn, 1) := by decide +kernel
theorem dX8_howMany_59 : decode cX8_howMany 59 = .ok (.aload_n 0, 1) := by decide +kernel
theorem dX8_howMany_60 : decode cX8_howMany 60 = .ok (.getfield 12, 3) := by decide +kernel
theorem dX8_howMany_63 : decode cX8_howMany 63 = .ok (.getfield 178, 3) := by decide +kernel
