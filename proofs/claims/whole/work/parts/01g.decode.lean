theorem dX7_odds_5 : decode cX7_odds 5 = .ok (.ifCond .eq 32, 3) := by decide +kernel
theorem dX7_odds_8 : decode cX7_odds 8 = .ok (.iload_n 2, 1) := by decide +kernel
theorem dX7_odds_9 : decode cX7_odds 9 = .ok (.i2l, 1) := by decide +kernel
theorem dX7_odds_10 : decode cX7_odds 10 = .ok (.lconst 1, 1) := by decide +kernel
theorem dX7_odds_11 : decode cX7_odds 11 = .ok (.ldc2_w 217, 3) := by decide +kernel
theorem dX7_odds_14 : decode cX7_odds 14 = .ok (.invokestatic 62, 3) := by decide +kernel
theorem dX7_odds_17 : decode cX7_odds 17 = .ok (.ifCond .eq 20, 3) := by decide +kernel
theorem dX7_odds_20 : decode cX7_odds 20 = .ok (.aload_n 0, 1) := by decide +kernel
theorem dX7_odds_21 : decode cX7_odds 21 = .ok (.iload_n 1, 1) := by decide +kernel
theorem dX7_odds_22 : decode cX7_odds 22 = .ok (.iload_n 3, 1) := by decide +kernel
theorem dX7_odds_23 : decode cX7_odds 23 = .ok (.invokevirtual 166, 3) := by decide +kernel
theorem dX7_odds_26 : decode cX7_odds 26 = .ok (.ifCond .eq 11, 3) := by decide +kernel
theorem dX7_odds_29 : decode cX7_odds 29 = .ok (.iload 4, 2) := by decide +kernel
theorem dX7_odds_31 : decode cX7_odds 31 = .ok (.invokestatic 202, 3) := by decide +kernel
theorem dX7_odds_34 : decode cX7_odds 34 = .ok (.ifCond .ne 5, 3) := by decide +kernel
theorem dX7_odds_37 : decode cX7_odds 37 = .ok (.iconst (-1), 1) := by decide +kernel
theorem dX7_odds_38 : decode cX7_odds 38 = .ok (.ireturn, 1) := by decide +kernel
theorem dX7_odds_39 : decode cX7_odds 39 = .ok (.aload_n 0, 1) := by decide +kernel
theorem dX7_odds_40 : decode cX7_odds 40 = .ok (.iload_n 1, 1) := by decide +kernel
theorem dX7_odds_41 : decode cX7_odds 41 = .ok (.invokevirtual 160, 3) := by decide +kernel
theorem dX7_odds_44 : decode cX7_odds 44 = .ok (.istore 5, 2) := by decide +kernel
theorem dX7_odds_46 : decode cX7_odds 46 = .ok (.iload 5, 2) := by decide +kernel
theorem dX7_odds_48 : decode cX7_odds 48 = .ok (.iload_n 2, 1) := by decide +kernel
theorem dX7_odds_49 : decode cX7_odds 49 = .ok (.if_icmp .ge 6, 3) := by decide +kernel
theorem dX7_odds_52 : decode cX7_odds 52 = .ok (.bipush (-2), 2) := by decide +kernel
theorem dX7_odds_54 : decode cX7_odds 54 = .ok (.ireturn, 1) := by decide +kernel
theorem dX7_odds_55 : decode cX7_odds 55 = .ok (.iload 5, 2) := by decide +kernel
theorem dX7_odds_57 : decode cX7_odds 57 = .ok (.iload_n 2, 1) := by decide +kernel
theorem dX7_odds_58 : decode cX7_odds 58 = .ok (.invokestatic 219, 3) := by decide +kernel
theorem dX7_odds_61 : decode cX7_odds 61 = .ok (.lstore 6, 2) := by decide +kernel
theorem dX7_odds_63 : decode cX7_odds 63 = .ok (.iload 5, 2) := by decide +kernel
theorem dX7_odds_65 : decode cX7_odds 65 = .ok (.aload_n 0, 1) := by decide +kernel
theorem dX7_odds_66 : decode cX7_odds 66 = .ok (.getfield 13, 3) := by decide +kernel
theorem dX7_odds_69 : decode cX7_odds 69 = .ok (.iload_n 1, 1) := by decide +kernel
theorem dX7_odds_70 : decode cX7_odds 70 = .ok (.iaload, 1) := by decide +kernel
theorem dX7_odds_71 : decode cX7_odds 71 = .ok (.isub, 1) := by decide +kernel
theorem dX7_odds_72 : decode cX7_odds 72 = .ok (.istore 8, 2) := by decide +kernel
theorem dX7_odds_74 : decode cX7_odds 74 = .ok (.lload 6, 2) := by decide +kernel
theorem dX7_odds_76 : decode cX7_odds 76 = .ok (.iload 8, 2) := by decide +kernel
theorem dX7_odds_78 : decode cX7_odds 78 = .ok (.iload_n 2, 1) := by decide +kernel
theorem dX7_odds_79 : decode cX7_odds 79 = .ok (.if_icmp .ge 7, 3) := by decide +kernel
theorem dX7_odds_82 : decode cX7_odds 82 = .ok (.lconst 0, 1) := by decide +kernel
theorem dX7_odds_83 : decode cX7_odds 83 = .ok (.goto 9, 3) := by decide +kernel
theorem dX7_odds_86 : decode cX7_odds 86 = .ok (.iload 8, 2) := by decide +kernel
theorem dX7_odds_88 : decode cX7_odds 88 = .ok (.iload_n 2, 1) := by decide +kernel
theorem dX7_odds_89 : decode cX7_odds 89 = .ok (.invokestatic 219, 3) := by decide +kernel
theorem dX7_odds_92 : decode cX7_odds 92 = .ok (.lsub, 1) := by decide +kernel
theorem dX7_odds_93 : decode cX7_odds 93 = .ok (.lstore 9, 2) := by decide +kernel
theorem dX7_odds_95 : decode cX7_odds 95 = .ok (.lload 9, 2) := by decide +kernel
theorem dX7_odds_97 : decode cX7_odds 97 = .ok (.lstore 11, 2) := by decide +kernel
theorem dX7_odds_99 : decode cX7_odds 99 = .ok (.lload 6, 2) := by decide +kernel
theorem dX7_odds_101 : decode cX7_odds 101 = .ok (.lstore 13, 2) := by decide +kernel
theorem dX7_odds_103 : decode cX7_odds 103 = .ok (.lload 13, 2) := by decide +kernel
theorem dX7_odds_105 : decode cX7_odds 105 = .ok (.lconst 0, 1) := by decide +kernel
theorem dX7_odds_106 : decode cX7_odds 106 = .ok (.lcmp, 1) := by decide +kernel
theorem dX7_odds_107 : decode cX7_odds 107 = .ok (.ifCond .eq 21, 3) := by decide +kernel
theorem dX7_odds_110 : decode cX7_odds 110 = .ok (.lload 11, 2) := by decide +kernel
theorem dX7_odds_112 : decode cX7_odds 112 = .ok (.lload 13, 2) := by decide +kernel
theorem dX7_odds_114 : decode cX7_odds 114 = .ok (.lrem, 1) := by decide +kernel
theorem dX7_odds_115 : decode cX7_odds 115 = .ok (.lstore 15, 2) := by decide +kernel
theorem dX7_odds_117 : decode cX7_odds 117 = .ok (.lload 13, 2) := by decide +kernel
theorem dX7_odds_119 : decode cX7_odds 119 = .ok (.lstore 11, 2) := by decide +kernel
theorem dX7_odds_121 : decode cX7_odds 121 = .ok (.lload 15, 2) := by decide +kernel
theorem dX7_odds_123 : decode cX7_odds 123 = .ok (.lstore 13, 2) := by decide +kernel
theorem dX7_odds_125 : decode cX7_odds 125 = .ok (.goto (-22), 3) := by decide +kernel
theorem dX7_odds_128 : decode cX7_odds 128 = .ok (.iload 4, 2) := by decide +kernel
theorem dX7_odds_130 : decode cX7_odds 130 = .ok (.ifCond .ne 11, 3) := by decide +kernel
theorem dX7_odds_133 : decode cX7_odds 133 = .ok (.lload 9, 2) := by decide +kernel
theorem dX7_odds_135 : decode cX7_odds 135 = .ok (.lload 11, 2) := by decide +kernel
theorem dX7_odds_137 : decode cX7_odds 137 = .ok (.ldiv, 1) := by decide +kernel
theorem dX7_odds_138 : decode cX7_odds 138 = .ok (.goto 8, 3) := by decide +kernel
theorem dX7_odds_141 : decode cX7_odds 141 = .ok (.lload 6, 2) := by decide +kernel
theorem dX7_odds_143 : decode cX7_odds 143 = .ok (.lload 11, 2) := by decide +kernel
theorem dX7_odds_145 : decode cX7_odds 145 = .ok (.ldiv, 1) := by decide +kernel
theorem dX7_odds_146 : decode cX7_odds 146 = .ok (.l2i, 1) := by decide +kernel
theorem dX7_odds_147 : decode cX7_odds 147 = .ok (.ireturn, 1) := by decide +kernel
theorem dX7_sees_0 : decode cX7_sees 0 = .ok (.iload_n 1, 1) := by decide +kernel
theorem dX7_sees_1 : decode cX7_sees 1 = .ok (.i2l, 1) := by decide +kernel
theorem dX7_sees_2 : decode cX7_sees 2 = .ok (.lconst 0, 1) := by decide +kernel
theorem dX7_sees_3 : decode cX7_sees 3 = .ok (.ldc2_w 223, 3) := by decide +kernel
theorem dX7_sees_6 : decode cX7_sees 6 = .ok (.invokestatic 62, 3) := by decide +kernel
theorem dX7_sees_9 : decode cX7_sees 9 = .ok (.ifCond .eq 22, 3) := by decide +kernel
theorem dX7_sees_12 : decode cX7_sees 12 = .ok (.iload_n 2, 1) := by decide +kernel
theorem dX7_sees_13 : decode cX7_sees 13 = .ok (.i2l, 1) := by decide +kernel
theorem dX7_sees_14 : decode cX7_sees 14 = .ok (.lconst 1, 1) := by decide +kernel
theorem dX7_sees_15 : decode cX7_sees 15 = .ok (.ldc2_w 225, 3) := by decide +kernel
theorem dX7_sees_18 : decode cX7_sees 18 = .ok (.invokestatic 62, 3) := by decide +kernel
theorem dX7_sees_21 : decode cX7_sees 21 = .ok (.ifCond .eq 10, 3) := by decide +kernel
theorem dX7_sees_24 : decode cX7_sees 24 = .ok (.iload_n 3, 1) := by decide +kernel
theorem dX7_sees_25 : decode cX7_sees 25 = .ok (.invokestatic 202, 3) := by decide +kernel
theorem dX7_sees_28 : decode cX7_sees 28 = .ok (.ifCond .ne 5, 3) := by decide +kernel
theorem dX7_sees_31 : decode cX7_sees 31 = .ok (.iconst (-1), 1) := by decide +kernel
theorem dX7_sees_32 : decode cX7_sees 32 = .ok (.ireturn, 1) := by decide +kernel
theorem dX7_sees_33 : decode cX7_sees 33 = .ok (.aload_n 0, 1) := by decide +kernel
theorem dX7_sees_34 : decode cX7_sees 34 = .ok (.getfield 136, 3) := by decide +kernel
theorem dX7_sees_37 : decode cX7_sees 37 = .ok (.bipush 6, 2) := by decide +kernel
theorem dX7_sees_39 : decode cX7_sees 39 = .ok (.if_icmp .ne 6, 3) := by decide +kernel
theorem dX7_sees_42 : decode cX7_sees 42 = .ok (.bipush (-3), 2) := by decide +kernel
theorem dX7_sees_44 : decode cX7_sees 44 = .ok (.ireturn, 1) := by decide +kernel
theorem dX7_sees_45 : decode cX7_sees 45 = .ok (.aload_n 0, 1) := by decide +kernel
theorem dX7_sees_46 : decode cX7_sees 46 = .ok (.getfield 35, 3) := by decide +kernel
theorem dX7_sees_49 : decode cX7_sees 49 = .ok (.iconst 3, 1) := by decide +kernel
theorem dX7_sees_50 : decode cX7_sees 50 = .ok (.aload_n 0, 1) := by decide +kernel
theorem dX7_sees_51 : decode cX7_sees 51 = .ok (.getfield 136, 3) := by decide +kernel
theorem dX7_sees_54 : decode cX7_sees 54 = .ok (.imul, 1) := by decide +kernel
theorem dX7_sees_55 : decode cX7_sees 55 = .ok (.iload_n 1, 1) := by decide +kernel
theorem dX7_sees_56 : decode cX7_sees 56 = .ok (.iastore, 1) := by decide +kernel
theorem dX7_sees_57 : decode cX7_sees 57 = .ok (.aload_n 0, 1) := by decide +kernel
theorem dX7_sees_58 : decode cX7_sees 58 = .ok (.getfield 35, 3) := by decide +kernel
theorem dX7_sees_61 : decode cX7_sees 61 = .ok (.iconst 3, 1) := by decide +kernel
theorem dX7_sees_62 : decode cX7_sees 62 = .ok (.aload_n 0, 1) := by decide +kernel
theorem dX7_sees_63 : decode cX7_sees 63 = .ok (.getfield 136, 3) := by decide +kernel
theorem dX7_sees_66 : decode cX7_sees 66 = .ok (.imul, 1) := by decide +kernel
theorem dX7_sees_67 : decode cX7_sees 67 = .ok (.iconst 1, 1) := by decide +kernel
theorem dX7_sees_68 : decode cX7_sees 68 = .ok (.iadd, 1) := by decide +kernel
theorem dX7_sees_69 : decode cX7_sees 69 = .ok (.iload_n 2, 1) := by decide +kernel
theorem dX7_sees_70 : decode cX7_sees 70 = .ok (.iastore, 1) := by decide +kernel
theorem dX7_sees_71 : decode cX7_sees 71 = .ok (.aload_n 0, 1) := by decide +kernel
theorem dX7_sees_72 : decode cX7_sees 72 = .ok (.getfield 35, 3) := by decide +kernel
theorem dX7_sees_75 : decode cX7_sees 75 = .ok (.iconst 3, 1) := by decide +kernel
theorem dX7_sees_76 : decode cX7_sees 76 = .ok (.aload_n 0, 1) := by decide +kernel
theorem dX7_sees_77 : decode cX7_sees 77 = .ok (.getfield 136, 3) := by decide +kernel
theorem dX7_sees_80 : decode cX7_sees 80 = .ok (.imul, 1) := by decide +kernel
theorem dX7_sees_81 : decode cX7_sees 81 = .ok (.iconst 2, 1) := by decide +kernel
theorem dX7_sees_82 : decode cX7_sees 82 = .ok (.iadd, 1) := by decide +kernel
theorem dX7_sees_83 : decode cX7_sees 83 = .ok (.iload_n 3, 1) := by decide +kernel
theorem dX7_sees_84 : decode cX7_sees 84 = .ok (.iastore, 1) := by decide +kernel
theorem dX7_sees_85 : decode cX7_sees 85 = .ok (.aload_n 0, 1) := by decide +kernel
theorem dX7_sees_86 : decode cX7_sees 86 = .ok (.dup, 1) := by decide +kernel
theorem dX7_sees_87 : decode cX7_sees 87 = .ok (.getfield 136, 3) := by decide +kernel
theorem dX7_sees_90 : decode cX7_sees 90 = .ok (.iconst 1, 1) := by decide +kernel
theorem dX7_sees_91 : decode cX7_sees 91 = .ok (.iadd, 1) := by decide +kernel
theorem dX7_sees_92 : decode cX7_sees 92 = .ok (.putfield 136, 3) := by decide +kernel
theorem dX7_sees_95 : decode cX7_sees 95 = .ok (.aload_n 0, 1) := by decide +kernel
theorem dX7_sees_96 : decode cX7_sees 96 = .ok (.getfield 136, 3) := by decide +kernel
theorem dX7_sees_99 : decode cX7_sees 99 = .ok (.ireturn, 1) := by decide +kernel
theorem dX7_forget_0 : decode cX7_forget 0 = .ok (.aload_n 0, 1) := by decide +kernel
theorem dX7_forget_1 : decode cX7_forget 1 = .ok (.getfield 136, 3) := by decide +kernel
theorem dX7_forget_4 : decode cX7_forget 4 = .ok (.istore_n 1, 1) := by decide +kernel
theorem dX7_forget_5 : decode cX7_forget 5 = .ok (.aload_n 0, 1) := by decide +kernel
theorem dX7_forget_6 : decode cX7_forget 6 = .ok (.iconst 0, 1) := by decide +kernel
theorem dX7_forget_7 : decode cX7_forget 7 = .ok (.putfield 136, 3) := by decide +kernel
theorem dX7_forget_10 : decode cX7_forget 10 = .ok (.iload_n 1, 1) := by decide +kernel
theorem dX7_forget_11 : decode cX7_forget 11 = .ok (.ireturn, 1) := by decide +kernel
theorem dX7_hasInFront_0 : decode cX7_hasInFront 0 = .ok (.iload_n 2, 1) := by decide +kernel
theorem dX7_hasInFront_1 : decode cX7_hasInFront 1 = .ok (.aload_n 0, 1) := by decide +kernel
theorem dX7_hasInFront_2 : decode cX7_hasInFront 2 = .ok (.iload_n 1, 1) := by decide +kernel
theorem dX7_hasInFront_3 : decode cX7_hasInFront 3 = .ok (.invokevirtual 160, 3) := by decide +kernel
theorem dX7_hasInFront_6 : decode cX7_hasInFront 6 = .ok (.if_icmp .ge 17, 3) := by decide +kernel
theorem dX7_hasInFront_9 : decode cX7_hasInFront 9 = .ok (.aload_n 0, 1) := by decide +kernel
theorem dX7_hasInFront_10 : decode cX7_hasInFront 10 = .ok (.iload_n 1, 1) := by decide +kernel
theorem dX7_hasInFront_11 : decode cX7_hasInFront 11 = .ok (.iload_n 2, 1) := by decide +kernel
theorem dX7_hasInFront_12 : decode cX7_hasInFront 12 = .ok (.invokevirtual 147, 3) := by decide +kernel
theorem dX7_hasInFront_15 : decode cX7_hasInFront 15 = .ok (.iload_n 3, 1) := by decide +kernel
theorem dX7_hasInFront_16 : decode cX7_hasInFront 16 = .ok (.if_icmp .ne 7, 3) := by decide +kernel
theorem dX7_hasInFront_19 : decode cX7_hasInFront 19 = .ok (.iconst 1, 1) := by decide +kernel
theorem dX7_hasInFront_20 : decode cX7_hasInFront 20 = .ok (.goto 4, 3) := by decide +kernel
theorem dX7_hasInFront_23 : decode cX7_hasInFront 23 = .ok (.iconst 0, 1) := by decide +kernel
theorem dX7_hasInFront_24 : decode cX7_hasInFront 24 = .ok (.ireturn, 1) := by decide +kernel
theorem dX7_whose_0 : decode cX7_whose 0 = .ok (.iconst 0, 1) := by decide +kernel
theorem dX7_whose_1 : decode cX7_whose 1 = .ok (.istore_n 1, 1) := by decide +kernel
theorem dX7_whose_2 : decode cX7_whose 2 = .ok (.iconst 0, 1) := by decide +kernel
theorem dX7_whose_3 : decode cX7_whose 3 = .ok (.istore_n 2, 1) := by decide +kernel
theorem dX7_whose_4 : decode cX7_whose 4 = .ok (.iload_n 2, 1) := by decide +kernel
theorem dX7_whose_5 : decode cX7_whose 5 = .ok (.aload_n 0, 1) := by decide +kernel
theorem dX7_whose_6 : decode cX7_whose 6 = .ok (.getfield 66, 3) := by decide +kernel
theorem dX7_whose_9 : decode cX7_whose 9 = .ok (.if_icmp .ge 101, 3) := by decide +kernel
theorem dX7_whose_12 : decode cX7_whose 12 = .ok (.iconst 1, 1) := by decide +kernel
theorem dX7_whose_13 : decode cX7_whose 13 = .ok (.istore_n 3, 1) := by decide +kernel
theorem dX7_whose_14 : decode cX7_whose 14 = .ok (.iconst 0, 1) := by decide +kernel
theorem dX7_whose_15 : decode cX7_whose 15 = .ok (.istore 4, 2) := by decide +kernel
theorem dX7_whose_17 : decode cX7_whose 17 = .ok (.iload 4, 2) := by decide +kernel
theorem dX7_whose_19 : decode cX7_whose 19 = .ok (.aload_n 0, 1) := by decide +kernel
theorem dX7_whose_20 : decode cX7_whose 20 = .ok (.getfield 136, 3) := by decide +kernel
theorem dX7_whose_23 : decode cX7_whose 23 = .ok (.if_icmp .ge 67, 3) := by decide +kernel
theorem dX7_whose_26 : decode cX7_whose 26 = .ok (.iload_n 3, 1) := by decide +kernel
theorem dX7_whose_27 : decode cX7_whose 27 = .ok (.ifCond .eq 55, 3) := by decide +kernel
theorem dX7_whose_30 : decode cX7_whose 30 = .ok (.aload_n 0, 1) := by decide +kernel
theorem dX7_whose_31 : decode cX7_whose 31 = .ok (.iload_n 2, 1) := by decide +kernel
theorem dX7_whose_32 : decode cX7_whose 32 = .ok (.aload_n 0, 1) := by decide +kernel
theorem dX7_whose_33 : decode cX7_whose 33 = .ok (.getfield 35, 3) := by decide +kernel
theorem dX7_whose_36 : decode cX7_whose 36 = .ok (.iconst 3, 1) := by decide +kernel
theorem dX7_whose_37 : decode cX7_whose 37 = .ok (.iload 4, 2) := by decide +kernel
theorem dX7_whose_39 : decode cX7_whose 39 = .ok (.imul, 1) := by decide +kernel
theorem dX7_whose_40 : decode cX7_whose 40 = .ok (.iaload, 1) := by decide +kernel
theorem dX7_whose_41 : decode cX7_whose 41 = .ok (.aload_n 0, 1) := by decide +kernel
theorem dX7_whose_42 : decode cX7_whose 42 = .ok (.getfield 35, 3) := by decide +kernel
theorem dX7_whose_45 : decode cX7_whose 45 = .ok (.iconst 3, 1) := by decide +kernel
theorem dX7_whose_46 : decode cX7_whose 46 = .ok (.iload 4, 2) := by decide +kernel
theorem dX7_whose_48 : decode cX7_whose 48 = .ok (.imul, 1) := by decide +kernel
theorem dX7_whose_49 : decode cX7_whose 49 = .ok (.iconst 1, 1) := by decide +kernel
theorem dX7_whose_50 : decode cX7_whose 50 = .ok (.iadd, 1) := by decide +kernel
theorem dX7_whose_51 : decode cX7_whose 51 = .ok (.iaload, 1) := by decide +kernel
theorem dX7_whose_52 : decode cX7_whose 52 = .ok (.invokevirtual 227, 3) := by decide +kernel
theorem dX7_whose_55 : decode cX7_whose 55 = .ok (.aload_n 0, 1) := by decide +kernel
theorem dX7_whose_56 : decode cX7_whose 56 = .ok (.getfield 35, 3) := by decide +kernel
theorem dX7_whose_59 : decode cX7_whose 59 = .ok (.iconst 3, 1) := by decide +kernel
theorem dX7_whose_60 : decode cX7_whose 60 = .ok (.iload 4, 2) := by decide +kernel
theorem dX7_whose_62 : decode cX7_whose 62 = .ok (.imul, 1) := by decide +kernel
theorem dX7_whose_63 : decode cX7_whose 63 = .ok (.iconst 2, 1) := by decide +kernel
theorem dX7_whose_64 : decode cX7_whose 64 = .ok (.iadd, 1) := by decide +kernel
theorem dX7_whose_65 : decode cX7_whose 65 = .ok (.iaload, 1) := by decide +kernel
theorem dX7_whose_66 : decode cX7_whose 66 = .ok (.iconst 1, 1) := by decide +kernel
theorem dX7_whose_67 : decode cX7_whose 67 = .ok (.if_icmp .ne 7, 3) := by decide +kernel
theorem dX7_whose_70 : decode cX7_whose 70 = .ok (.iconst 1, 1) := by decide +kernel
theorem dX7_whose_71 : decode cX7_whose 71 = .ok (.goto 4, 3) := by decide +kernel
theorem dX7_whose_74 : decode cX7_whose 74 = .ok (.iconst 0, 1) := by decide +kernel
theorem dX7_whose_75 : decode cX7_whose 75 = .ok (.if_icmp .ne 7, 3) := by decide +kernel
theorem dX7_whose_78 : decode cX7_whose 78 = .ok (.iconst 1, 1) := by decide +kernel
theorem dX7_whose_79 : decode cX7_whose 79 = .ok (.goto 4, 3) := by decide +kernel
theorem dX7_whose_82 : decode cX7_whose 82 = .ok (.iconst 0, 1) := by decide +kernel
theorem dX7_whose_83 : decode cX7_whose 83 = .ok (.istore_n 3, 1) := by decide +kernel
theorem dX7_whose_84 : decode cX7_whose 84 = .ok (.iinc 4 1, 3) := by decide +kernel
theorem dX7_whose_87 : decode cX7_whose 87 = .ok (.goto (-70), 3) := by decide +kernel
theorem dX7_whose_90 : decode cX7_whose 90 = .ok (.iload_n 1, 1) := by decide +kernel
theorem dX7_whose_91 : decode cX7_whose 91 = .ok (.iload_n 3, 1) := by decide +kernel
theorem dX7_whose_92 : decode cX7_whose 92 = .ok (.ifCond .eq 9, 3) := by decide +kernel
theorem dX7_whose_95 : decode cX7_whose 95 = .ok (.iconst 1, 1) := by decide +kernel
theorem dX7_whose_96 : decode cX7_whose 96 = .ok (.iload_n 2, 1) := by decide +kernel
theorem dX7_whose_97 : decode cX7_whose 97 = .ok (.ishl, 1) := by decide +kernel
theorem dX7_whose_98 : decode cX7_whose 98 = .ok (.goto 4, 3) := by decide +kernel
theorem dX7_whose_101 : decode cX7_whose 101 = .ok (.iconst 0, 1) := by decide +kernel
theorem dX7_whose_102 : decode cX7_whose 102 = .ok (.ior, 1) := by decide +kernel
theorem dX7_whose_103 : decode cX7_whose 103 = .ok (.istore_n 1, 1) := by decide +kernel
theorem dX7_whose_104 : decode cX7_whose 104 = .ok (.iinc 2 1, 3) := by decide +kernel
theorem dX7_whose_107 : decode cX7_whose 107 = .ok (.goto (-103), 3) := by decide +kernel
theorem dX7_whose_110 : decode cX7_whose 110 = .ok (.iload_n 1, 1) := by decide +kernel
theorem dX7_whose_111 : decode cX7_whose 111 = .ok (.ireturn, 1) := by decide +kernel
theorem dX7_look_0 : decode cX7_look 0 = .ok (.aload_n 0, 1) := by decide +kernel
theorem dX7_look_1 : decode cX7_look 1 = .ok (.invokevirtual 231, 3) := by decide +kernel
theorem dX7_look_4 : decode cX7_look 4 = .ok (.istore_n 1, 1) := by decide +kernel
theorem dX7_look_5 : decode cX7_look 5 = .ok (.iconst 0, 1) := by decide +kernel
theorem dX7_look_6 : decode cX7_look 6 = .ok (.istore_n 2, 1) := by decide +kernel
theorem dX7_look_7 : decode cX7_look 7 = .ok (.iconst 0, 1) := by decide +kernel
theorem dX7_look_8 : decode cX7_look 8 = .ok (.istore_n 3, 1) := by decide +kernel
theorem dX7_look_9 : decode cX7_look 9 = .ok (.iload_n 3, 1) := by decide +kernel
theorem dX7_look_10 : decode cX7_look 10 = .ok (.aload_n 0, 1) := by decide +kernel
theorem dX7_look_11 : decode cX7_look 11 = .ok (.getfield 66, 3) := by decide +kernel
theorem dX7_look_14 : decode cX7_look 14 = .ok (.if_icmp .ge 17, 3) := by decide +kernel
theorem dX7_look_17 : decode cX7_look 17 = .ok (.iload_n 2, 1) := by decide +kernel
theorem dX7_look_18 : decode cX7_look 18 = .ok (.iload_n 1, 1) := by decide +kernel
theorem dX7_look_19 : decode cX7_look 19 = .ok (.iload_n 3, 1) := by decide +kernel
theorem dX7_look_20 : decode cX7_look 20 = .ok (.ishr, 1) := by decide +kernel
theorem dX7_look_21 : decode cX7_look 21 = .ok (.iconst 1, 1) := by decide +kernel
theorem dX7_look_22 : decode cX7_look 22 = .ok (.iand, 1) := by decide +kernel
theorem dX7_look_23 : decode cX7_look 23 = .ok (.iadd, 1) := by decide +kernel
theorem dX7_look_24 : decode cX7_look 24 = .ok (.istore_n 2, 1) := by decide +kernel
theorem dX7_look_25 : decode cX7_look 25 = .ok (.iinc 3 1, 3) := by decide +kernel
theorem dX7_look_28 : decode cX7_look 28 = .ok (.goto (-19), 3) := by decide +kernel
theorem dX7_look_31 : decode cX7_look 31 = .ok (.bipush (-9), 2) := by decide +kernel
theorem dX7_look_33 : decode cX7_look 33 = .ok (.istore_n 3, 1) := by decide +kernel
theorem dX7_look_34 : decode cX7_look 34 = .ok (.iload_n 2, 1) := by decide +kernel
theorem dX7_look_35 : decode cX7_look 35 = .ok (.istore 4, 2) := by decide +kernel
theorem dX7_look_37 : decode cX7_look 37 = .ok (.iconst 0, 1) := by decide +kernel
theorem dX7_look_38 : decode cX7_look 38 = .ok (.istore 5, 2) := by decide +kernel
theorem dX7_look_40 : decode cX7_look 40 = .ok (.iload 5, 2) := by decide +kernel
theorem dX7_look_42 : decode cX7_look 42 = .ok (.bipush 81, 2) := by decide +kernel
theorem dX7_look_44 : decode cX7_look 44 = .ok (.if_icmp .ge 135, 3) := by decide +kernel
theorem dX7_look_47 : decode cX7_look 47 = .ok (.iconst 1, 1) := by decide +kernel
theorem dX7_look_48 : decode cX7_look 48 = .ok (.istore 6, 2) := by decide +kernel
theorem dX7_look_50 : decode cX7_look 50 = .ok (.iload 6, 2) := by decide +kernel
theorem dX7_look_52 : decode cX7_look 52 = .ok (.bipush 9, 2) := by decide +kernel
theorem dX7_look_54 : decode cX7_look 54 = .ok (.if_icmp .gt 119, 3) := by decide +kernel
theorem dX7_look_57 : decode cX7_look 57 = .ok (.iconst 0, 1) := by decide +kernel
theorem dX7_look_58 : decode cX7_look 58 = .ok (.istore 7, 2) := by decide +kernel
theorem dX7_look_60 : decode cX7_look 60 = .ok (.iconst 0, 1) := by decide +kernel
theorem dX7_look_61 : decode cX7_look 61 = .ok (.istore 8, 2) := by decide +kernel
theorem dX7_look_63 : decode cX7_look 63 = .ok (.iload 8, 2) := by decide +kernel
theorem dX7_look_65 : decode cX7_look 65 = .ok (.aload_n 0, 1) := by decide +kernel
theorem dX7_look_66 : decode cX7_look 66 = .ok (.getfield 66, 3) := by decide +kernel
theorem dX7_look_69 : decode cX7_look 69 = .ok (.if_icmp .ge 42, 3) := by decide +kernel
theorem dX7_look_72 : decode cX7_look 72 = .ok (.iload 7, 2) := by decide +kernel
theorem dX7_look_74 : decode cX7_look 74 = .ok (.iload_n 1, 1) := by decide +kernel
theorem dX7_look_75 : decode cX7_look 75 = .ok (.iload 8, 2) := by decide +kernel
theorem dX7_look_77 : decode cX7_look 77 = .ok (.ishr, 1) := by decide +kernel
theorem dX7_look_78 : decode cX7_look 78 = .ok (.iconst 1, 1) := by decide +kernel
theorem dX7_look_79 : decode cX7_look 79 = .ok (.iand, 1) := by decide +kernel
theorem dX7_look_80 : decode cX7_look 80 = .ok (.iconst 1, 1) := by decide +kernel
theorem dX7_look_81 : decode cX7_look 81 = .ok (.if_icmp .ne 20, 3) := by decide +kernel
theorem dX7_look_84 : decode cX7_look 84 = .ok (.aload_n 0, 1) := by decide +kernel
theorem dX7_look_85 : decode cX7_look 85 = .ok (.iload 8, 2) := by decide +kernel
theorem dX7_look_87 : decode cX7_look 87 = .ok (.iload 5, 2) := by decide +kernel
theorem dX7_look_89 : decode cX7_look 89 = .ok (.iload 6, 2) := by decide +kernel
theorem dX7_look_91 : decode cX7_look 91 = .ok (.invokevirtual 227, 3) := by decide +kernel
theorem dX7_look_94 : decode cX7_look 94 = .ok (.ifCond .eq 7, 3) := by decide +kernel
theorem dX7_look_97 : decode cX7_look 97 = .ok (.iconst 1, 1) := by decide +kernel
theorem dX7_look_98 : decode cX7_look 98 = .ok (.goto 4, 3) := by decide +kernel
theorem dX7_look_101 : decode cX7_look 101 = .ok (.iconst 0, 1) := by decide +kernel
theorem dX7_look_102 : decode cX7_look 102 = .ok (.iadd, 1) := by decide +kernel
theorem dX7_look_103 : decode cX7_look 103 = .ok (.istore 7, 2) := by decide +kernel
theorem dX7_look_105 : decode cX7_look 105 = .ok (.iinc 8 1, 3) := by decide +kernel
theorem dX7_look_108 : decode cX7_look 108 = .ok (.goto (-45), 3) := by decide +kernel
theorem dX7_look_111 : decode cX7_look 111 = .ok (.iload 7, 2) := by decide +kernel
theorem dX7_look_113 : decode cX7_look 113 = .ok (.iload_n 2, 1) := by decide +kernel
theorem dX7_look_114 : decode cX7_look 114 = .ok (.iload 7, 2) := by decide +kernel
theorem dX7_look_116 : decode cX7_look 116 = .ok (.isub, 1) := by decide +kernel
theorem dX7_look_117 : decode cX7_look 117 = .ok (.if_icmp .le 8, 3) := by decide +kernel
theorem dX7_look_120 : decode cX7_look 120 = .ok (.iload 7, 2) := by decide +kernel
theorem dX7_look_122 : decode cX7_look 122 = .ok (.goto 7, 3) := by decide +kernel
theorem dX7_look_125 : decode cX7_look 125 = .ok (.iload_n 2, 1) := by decide +kernel
theorem dX7_look_126 : decode cX7_look 126 = .ok (.iload 7, 2) := by decide +kernel
theorem dX7_look_128 : decode cX7_look 128 = .ok (.isub, 1) := by decide +kernel
theorem dX7_look_129 : decode cX7_look 129 = .ok (.istore 8, 2) := by decide +kernel
theorem dX7_look_131 : decode cX7_look 131 = .ok (.iload 8, 2) := by decide +kernel
theorem dX7_look_133 : decode cX7_look 133 = .ok (.iload 4, 2) := by decide +kernel
theorem dX7_look_135 : decode cX7_look 135 = .ok (.if_icmp .ge 14, 3) := by decide +kernel
theorem dX7_look_138 : decode cX7_look 138 = .ok (.bipush 10, 2) := by decide +kernel
theorem dX7_look_140 : decode cX7_look 140 = .ok (.iload 5, 2) := by decide +kernel
theorem dX7_look_142 : decode cX7_look 142 = .ok (.imul, 1) := by decide +kernel
theorem dX7_look_143 : decode cX7_look 143 = .ok (.iload 6, 2) := by decide +kernel
theorem dX7_look_145 : decode cX7_look 145 = .ok (.iadd, 1) := by decide +kernel
theorem dX7_look_146 : decode cX7_look 146 = .ok (.goto 4, 3) := by decide +kernel
theorem dX7_look_149 : decode cX7_look 149 = .ok (.iload_n 3, 1) := by decide +kernel
theorem dX7_look_150 : decode cX7_look 150 = .ok (.istore_n 3, 1) := by decide +kernel
theorem dX7_look_151 : decode cX7_look 151 = .ok (.iload 8, 2) := by decide +kernel
theorem dX7_look_153 : decode cX7_look 153 = .ok (.iload 4, 2) := by decide +kernel
theorem dX7_look_155 : decode cX7_look 155 = .ok (.if_icmp .ge 8, 3) := by decide +kernel
theorem dX7_look_158 : decode cX7_look 158 = .ok (.iload 8, 2) := by decide +kernel
theorem dX7_look_160 : decode cX7_look 160 = .ok (.goto 5, 3) := by decide +kernel
theorem dX7_look_163 : decode cX7_look 163 = .ok (.iload 4, 2) := by decide +kernel
theorem dX7_look_165 : decode cX7_look 165 = .ok (.istore 4, 2) := by decide +kernel
theorem dX7_look_167 : decode cX7_look 167 = .ok (.iinc 6 1, 3) := by decide +kernel
theorem dX7_look_170 : decode cX7_look 170 = .ok (.goto (-120), 3) := by decide +kernel
theorem dX7_look_173 : decode cX7_look 173 = .ok (.iinc 5 1, 3) := by decide +kernel
theorem dX7_look_176 : decode cX7_look 176 = .ok (.goto (-136), 3) := by decide +kernel
theorem dX7_look_179 : decode cX7_look 179 = .ok (.iload_n 3, 1) := by decide +kernel
theorem dX7_look_180 : decode cX7_look 180 = .ok (.ireturn, 1) := by decide +kernel
theorem dX7_asJob_0 : decode cX7_asJob 0 = .ok (.aload_n 0, 1) := by decide +kernel
theorem dX7_asJob_1 : decode cX7_asJob 1 = .ok (.dup, 1) := by decide +kernel
theorem dX7_asJob_2 : decode cX7_asJob 2 = .ok (.getfield 234, 3) := by decide +kernel
theorem dX7_asJob_5 : decode cX7_asJob 5 = .ok (.lconst 1, 1) := by decide +kernel
theorem dX7_asJob_6 : decode cX7_asJob 6 = .ok (.ladd, 1) := by decide +kernel
theorem dX7_asJob_7 : decode cX7_asJob 7 = .ok (.putfield 234, 3) := by decide +kernel
theorem dX7_asJob_10 : decode cX7_asJob 10 = .ok (.aload_n 0, 1) := by decide +kernel
theorem dX7_asJob_11 : decode cX7_asJob 11 = .ok (.getfield 7, 3) := by decide +kernel
theorem dX7_asJob_14 : decode cX7_asJob 14 = .ok (.iload_n 1, 1) := by decide +kernel
theorem dX7_asJob_15 : decode cX7_asJob 15 = .ok (.iaload, 1) := by decide +kernel
theorem dX7_asJob_16 : decode cX7_asJob 16 = .ok (.ireturn, 1) := by decide +kernel
theorem dX7_asMemo_0 : decode cX7_asMemo 0 = .ok (.aload_n 0, 1) := by decide +kernel
theorem dX7_asMemo_1 : decode cX7_asMemo 1 = .ok (.dup, 1) := by decide +kernel
theorem dX7_asMemo_2 : decode cX7_asMemo 2 = .ok (.getfield 234, 3) := by decide +kernel
theorem dX7_asMemo_5 : decode cX7_asMemo 5 = .ok (.ldc2_w 238, 3) := by decide +kernel
theorem dX7_asMemo_8 : decode cX7_asMemo 8 = .ok (.ladd, 1) := by decide +kernel
theorem dX7_asMemo_9 : decode cX7_asMemo 9 = .ok (.putfield 234, 3) := by decide +kernel
theorem dX7_asMemo_12 : decode cX7_asMemo 12 = .ok (.aload_n 0, 1) := by decide +kernel
theorem dX7_asMemo_13 : decode cX7_asMemo 13 = .ok (.iload_n 1, 1) := by decide +kernel
theorem dX7_asMemo_14 : decode cX7_asMemo 14 = .ok (.invokevirtual 240, 3) := by decide +kernel
theorem dX7_asMemo_17 : decode cX7_asMemo 17 = .ok (.aload_n 0, 1) := by decide +kernel
theorem dX7_asMemo_18 : decode cX7_asMemo 18 = .ok (.getfield 13, 3) := by decide +kernel
theorem dX7_asMemo_21 : decode cX7_asMemo 21 = .ok (.iload_n 1, 1) := by decide +kernel
theorem dX7_asMemo_22 : decode cX7_asMemo 22 = .ok (.iaload, 1) := by decide +kernel
theorem dX7_asMemo_23 : decode cX7_asMemo 23 = .ok (.iadd, 1) := by decide +kernel
theorem dX7_asMemo_24 : decode cX7_asMemo 24 = .ok (.ireturn, 1) := by decide +kernel
theorem dX7_asReport_0 : decode cX7_asReport 0 = .ok (.aload_n 0, 1) := by decide +kernel
theorem dX7_asReport_1 : decode cX7_asReport 1 = .ok (.dup, 1) := by decide +kernel
theorem dX7_asReport_2 : decode cX7_asReport 2 = .ok (.getfield 234, 3) := by decide +kernel
theorem dX7_asReport_5 : decode cX7_asReport 5 = .ok (.ldc2_w 243, 3) := by decide +kernel
theorem dX7_asReport_8 : decode cX7_asReport 8 = .ok (.ladd, 1) := by decide +kernel
theorem dX7_asReport_9 : decode cX7_asReport 9 = .ok (.putfield 234, 3) := by decide +kernel
theorem dX7_asReport_12 : decode cX7_asReport 12 = .ok (.aload_n 0, 1) := by decide +kernel
theorem dX7_asReport_13 : decode cX7_asReport 13 = .ok (.iload_n 1, 1) := by decide +kernel
theorem dX7_asReport_14 : decode cX7_asReport 14 = .ok (.invokevirtual 240, 3) := by decide +kernel
theorem dX7_asReport_17 : decode cX7_asReport 17 = .ok (.aload_n 0, 1) := by decide +kernel
theorem dX7_asReport_18 : decode cX7_asReport 18 = .ok (.getfield 29, 3) := by decide +kernel
theorem dX7_asReport_21 : decode cX7_asReport 21 = .ok (.bipush 19, 2) := by decide +kernel
theorem dX7_asReport_23 : decode cX7_asReport 23 = .ok (.iload_n 1, 1) := by decide +kernel
theorem dX7_asReport_24 : decode cX7_asReport 24 = .ok (.iadd, 1) := by decide +kernel
theorem dX7_asReport_25 : decode cX7_asReport 25 = .ok (.iaload, 1) := by decide +kernel
theorem dX7_asReport_26 : decode cX7_asReport 26 = .ok (.isub, 1) := by decide +kernel
theorem dX7_asReport_27 : decode cX7_asReport 27 = .ok (.ireturn, 1) := by decide +kernel
theorem dX7_asNotice_0 : decode cX7_asNotice 0 = .ok (.aload_n 0, 1) := by decide +kernel
theorem dX7_asNotice_1 : decode cX7_asNotice 1 = .ok (.dup, 1) := by decide +kernel
theorem dX7_asNotice_2 : decode cX7_asNotice 2 = .ok (.getfield 234, 3) := by decide +kernel
theorem dX7_asNotice_5 : decode cX7_asNotice 5 = .ok (.ldc2_w 245, 3) := by decide +kernel
theorem dX7_asNotice_8 : decode cX7_asNotice 8 = .ok (.ladd, 1) := by decide +kernel
theorem dX7_asNotice_9 : decode cX7_asNotice 9 = .ok (.putfield 234, 3) := by decide +kernel
theorem dX7_asNotice_12 : decode cX7_asNotice 12 = .ok (.iconst 2, 1) := by decide +kernel
theorem dX7_asNotice_13 : decode cX7_asNotice 13 = .ok (.aload_n 0, 1) := by decide +kernel
theorem dX7_asNotice_14 : decode cX7_asNotice 14 = .ok (.iload_n 1, 1) := by decide +kernel
theorem dX7_asNotice_15 : decode cX7_asNotice 15 = .ok (.invokevirtual 247, 3) := by decide +kernel
theorem dX7_asNotice_18 : decode cX7_asNotice 18 = .ok (.imul, 1) := by decide +kernel
theorem dX7_asNotice_19 : decode cX7_asNotice 19 = .ok (.ireturn, 1) := by decide +kernel
theorem dX7_asLedger_0 : decode cX7_asLedger 0 = .ok (.aload_n 0, 1) := by decide +kernel
theorem dX7_asLedger_1 : decode cX7_asLedger 1 = .ok (.dup, 1) := by decide +kernel
theorem dX7_asLedger_2 : decode cX7_asLedger 2 = .ok (.getfield 234, 3) := by decide +kernel
theorem dX7_asLedger_5 : decode cX7_asLedger 5 = .ok (.ldc2_w 250, 3) := by decide +kernel
theorem dX7_asLedger_8 : decode cX7_asLedger 8 = .ok (.ladd, 1) := by decide +kernel
theorem dX7_asLedger_9 : decode cX7_asLedger 9 = .ok (.putfield 234, 3) := by decide +kernel
theorem dX7_asLedger_12 : decode cX7_asLedger 12 = .ok (.aload_n 0, 1) := by decide +kernel
theorem dX7_asLedger_13 : decode cX7_asLedger 13 = .ok (.iload_n 1, 1) := by decide +kernel
theorem dX7_asLedger_14 : decode cX7_asLedger 14 = .ok (.invokevirtual 252, 3) := by decide +kernel
theorem dX7_asLedger_17 : decode cX7_asLedger 17 = .ok (.iload_n 1, 1) := by decide +kernel
theorem dX7_asLedger_18 : decode cX7_asLedger 18 = .ok (.iadd, 1) := by decide +kernel
theorem dX7_asLedger_19 : decode cX7_asLedger 19 = .ok (.ireturn, 1) := by decide +kernel
theorem dX7_asFlyer_0 : decode cX7_asFlyer 0 = .ok (.aload_n 0, 1) := by decide +kernel
theorem dX7_asFlyer_1 : decode cX7_asFlyer 1 = .ok (.dup, 1) := by decide +kernel
theorem dX7_asFlyer_2 : decode cX7_asFlyer 2 = .ok (.getfield 234, 3) := by decide +kernel
theorem dX7_asFlyer_5 : decode cX7_asFlyer 5 = .ok (.ldc2_w 255, 3) := by decide +kernel
theorem dX7_asFlyer_8 : decode cX7_asFlyer 8 = .ok (.ladd, 1) := by decide +kernel
theorem dX7_asFlyer_9 : decode cX7_asFlyer 9 = .ok (.putfield 234, 3) := by decide +kernel
theorem dX7_asFlyer_12 : decode cX7_asFlyer 12 = .ok (.aload_n 0, 1) := by decide +kernel
theorem dX7_asFlyer_13 : decode cX7_asFlyer 13 = .ok (.iload_n 1, 1) := by decide +kernel
theorem dX7_asFlyer_14 : decode cX7_asFlyer 14 = .ok (.invokevirtual 240, 3) := by decide +kernel
theorem dX7_asFlyer_17 : decode cX7_asFlyer 17 = .ok (.aload_n 0, 1) := by decide +kernel
theorem dX7_asFlyer_18 : decode cX7_asFlyer 18 = .ok (.getfield 29, 3) := by decide +kernel
theorem dX7_asFlyer_21 : decode cX7_asFlyer 21 = .ok (.iconst 0, 1) := by decide +kernel
theorem dX7_asFlyer_22 : decode cX7_asFlyer 22 = .ok (.iaload, 1) := by decide +kernel
theorem dX7_asFlyer_23 : decode cX7_asFlyer 23 = .ok (.iadd, 1) := by decide +kernel
theorem dX7_asFlyer_24 : decode cX7_asFlyer 24 = .ok (.ireturn, 1) := by decide +kernel
theorem dX7_mark_0 : decode cX7_mark 0 = .ok (.iload_n 1, 1) := by decide +kernel
theorem dX7_mark_1 : decode cX7_mark 1 = .ok (.i2l, 1) := by decide +kernel
theorem dX7_mark_2 : decode cX7_mark 2 = .ok (.lconst 0, 1) := by decide +kernel
theorem dX7_mark_3 : decode cX7_mark 3 = .ok (.ldc2_w 257, 3) := by decide +kernel
theorem dX7_mark_6 : decode cX7_mark 6 = .ok (.invokestatic 62, 3) := by decide +kernel
theorem dX7_mark_9 : decode cX7_mark 9 = .ok (.ifCond .eq 11, 3) := by decide +kernel
theorem dX7_mark_12 : decode cX7_mark 12 = .ok (.aload_n 0, 1) := by decide +kernel
theorem dX7_mark_13 : decode cX7_mark 13 = .ok (.iload_n 2, 1) := by decide +kernel
theorem dX7_mark_14 : decode cX7_mark 14 = .ok (.invokevirtual 156, 3) := by decide +kernel
theorem dX7_mark_17 : decode cX7_mark 17 = .ok (.ifCond .ne 7, 3) := by decide +kernel
theorem dX7_mark_20 : decode cX7_mark 20 = .ok (.ldc_w 259, 3) := by decide +kernel
theorem dX7_mark_23 : decode cX7_mark 23 = .ok (.ireturn, 1) := by decide +kernel
theorem dX7_mark_24 : decode cX7_mark 24 = .ok (.iload_n 1, 1) := by decide +kernel
theorem dX7_mark_25 : decode cX7_mark 25 = .ok (.tableswitch 65 0 4 #[35, 41, 47, 53, 59], 35) := by decide +kernel
theorem dX7_mark_60 : decode cX7_mark 60 = .ok (.aload_n 0, 1) := by decide +kernel
theorem dX7_mark_61 : decode cX7_mark 61 = .ok (.iload_n 2, 1) := by decide +kernel
theorem dX7_mark_62 : decode cX7_mark 62 = .ok (.invokevirtual 240, 3) := by decide +kernel
theorem dX7_mark_65 : decode cX7_mark 65 = .ok (.ireturn, 1) := by decide +kernel
theorem dX7_mark_66 : decode cX7_mark 66 = .ok (.aload_n 0, 1) := by decide +kernel
theorem dX7_mark_67 : decode cX7_mark 67 = .ok (.iload_n 2, 1) := by decide +kernel
theorem dX7_mark_68 : decode cX7_mark 68 = .ok (.invokevirtual 247, 3) := by decide +kernel
theorem dX7_mark_71 : decode cX7_mark 71 = .ok (.ireturn, 1) := by decide +kernel
theorem dX7_mark_72 : decode cX7_mark 72 = .ok (.aload_n 0, 1) := by decide +kernel
theorem dX7_mark_73 : decode cX7_mark 73 = .ok (.iload_n 2, 1) := by decide +kernel
theorem dX7_mark_74 : decode cX7_mark 74 = .ok (.invokevirtual 252, 3) := by decide +kernel
theorem dX7_mark_77 : decode cX7_mark 77 = .ok (.ireturn, 1) := by decide +kernel
theorem dX7_mark_78 : decode cX7_mark 78 = .ok (.aload_n 0, 1) := by decide +kernel
theorem dX7_mark_79 : decode cX7_mark 79 = .ok (.iload_n 2, 1) := by decide +kernel
theorem dX7_mark_80 : decode cX7_mark 80 = .ok (.invokevirtual 260, 3) := by decide +kernel
theorem dX7_mark_83 : decode cX7_mark 83 = .ok (.ireturn, 1) := by decide +kernel
theorem dX7_mark_84 : decode cX7_mark 84 = .ok (.aload_n 0, 1) := by decide +kernel
theorem dX7_mark_85 : decode cX7_mark 85 = .ok (.iload_n 2, 1) := by decide +kernel
theorem dX7_mark_86 : decode cX7_mark 86 = .ok (.invokevirtual 263, 3) := by decide +kernel
theorem dX7_mark_89 : decode cX7_mark 89 = .ok (.ireturn, 1) := by decide +kernel
theorem dX7_mark_90 : decode cX7_mark 90 = .ok (.aload_n 0, 1) := by decide +kernel
theorem dX7_mark_91 : decode cX7_mark 91 = .ok (.iload_n 2, 1) := by decide +kernel
theorem dX7_mark_92 : decode cX7_mark 92 = .ok (.invokevirtual 266, 3) := by decide +kernel
theorem dX7_mark_95 : decode cX7_mark 95 = .ok (.ireturn, 1) := by decide +kernel
theorem dX7_keep_0 : decode cX7_keep 0 = .ok (.iload_n 1, 1) := by decide +kernel
theorem dX7_keep_1 : decode cX7_keep 1 = .ok (.invokestatic 202, 3) := by decide +kernel
theorem dX7_keep_4 : decode cX7_keep 4 = .ok (.ifCond .ne 5, 3) := by decide +kernel
theorem dX7_keep_7 : decode cX7_keep 7 = .ok (.iconst (-1), 1) := by decide +kernel
theorem dX7_keep_8 : decode cX7_keep 8 = .ok (.ireturn, 1) := by decide +kernel
theorem dX7_keep_9 : decode cX7_keep 9 = .ok (.sipush 342, 3) := by decide +kernel
theorem dX7_keep_12 : decode cX7_keep 12 = .ok (.iload_n 1, 1) := by decide +kernel
theorem dX7_keep_13 : decode cX7_keep 13 = .ok (.imul, 1) := by decide +kernel
theorem dX7_keep_14 : decode cX7_keep 14 = .ok (.istore_n 2, 1) := by decide +kernel
theorem dX7_keep_15 : decode cX7_keep 15 = .ok (.iconst 0, 1) := by decide +kernel
theorem dX7_keep_16 : decode cX7_keep 16 = .ok (.istore_n 3, 1) := by decide +kernel
theorem dX7_keep_17 : decode cX7_keep 17 = .ok (.iload_n 3, 1) := by decide +kernel
theorem dX7_keep_18 : decode cX7_keep 18 = .ok (.bipush 31, 2) := by decide +kernel
theorem dX7_keep_20 : decode cX7_keep 20 = .ok (.if_icmp .ge 23, 3) := by decide +kernel
theorem dX7_keep_23 : decode cX7_keep 23 = .ok (.aload_n 0, 1) := by decide +kernel
theorem dX7_keep_24 : decode cX7_keep 24 = .ok (.getfield 50, 3) := by decide +kernel
theorem dX7_keep_27 : decode cX7_keep 27 = .ok (.iload_n 2, 1) := by decide +kernel
theorem dX7_keep_28 : decode cX7_keep 28 = .ok (.iload_n 3, 1) := by decide +kernel
theorem dX7_keep_29 : decode cX7_keep 29 = .ok (.iadd, 1) := by decide +kernel
theorem dX7_keep_30 : decode cX7_keep 30 = .ok (.aload_n 0, 1) := by decide +kernel
theorem dX7_keep_31 : decode cX7_keep 31 = .ok (.getfield 29, 3) := by decide +kernel
theorem dX7_keep_34 : decode cX7_keep 34 = .ok (.iload_n 3, 1) := by decide +kernel
theorem dX7_keep_35 : decode cX7_keep 35 = .ok (.iaload, 1) := by decide +kernel
theorem dX7_keep_36 : decode cX7_keep 36 = .ok (.iastore, 1) := by decide +kernel
theorem dX7_keep_37 : decode cX7_keep 37 = .ok (.iinc 3 1, 3) := by decide +kernel
theorem dX7_keep_40 : decode cX7_keep 40 = .ok (.goto (-23), 3) := by decide +kernel
theorem dX7_keep_43 : decode cX7_keep 43 = .ok (.iconst 0, 1) := by decide +kernel
theorem dX7_keep_44 : decode cX7_keep 44 = .ok (.istore_n 3, 1) := by decide +kernel
theorem dX7_keep_45 : decode cX7_keep 45 = .ok (.iload_n 3, 1) := by decide +kernel
theorem dX7_keep_46 : decode cX7_keep 46 = .ok (.sipush 310, 3) := by decide +kernel
theorem dX7_keep_49 : decode cX7_keep 49 = .ok (.if_icmp .ge 26, 3) := by decide +kernel
theorem dX7_keep_52 : decode cX7_keep 52 = .ok (.aload_n 0, 1) := by decide +kernel
theorem dX7_keep_53 : decode cX7_keep 53 = .ok (.getfield 50, 3) := by decide +kernel
theorem dX7_keep_56 : decode cX7_keep 56 = .ok (.iload_n 2, 1) := by decide +kernel
theorem dX7_keep_57 : decode cX7_keep 57 = .ok (.bipush 31, 2) := by decide +kernel
theorem dX7_keep_59 : decode cX7_keep 59 = .ok (.iadd, 1) := by decide +kernel
theorem dX7_keep_60 : decode cX7_keep 60 = .ok (.iload_n 3, 1) := by decide +kernel
theorem dX7_keep_61 : decode cX7_keep 61 = .ok (.iadd, 1) := by decide +kernel
theorem dX7_keep_62 : decode cX7_keep 62 = .ok (.aload_n 0, 1) := by decide +kernel
theorem dX7_keep_63 : decode cX7_keep 63 = .ok (.getfield 32, 3) := by decide +kernel
theorem dX7_keep_66 : decode cX7_keep 66 = .ok (.iload_n 3, 1) := by decide +kernel
theorem dX7_keep_67 : decode cX7_keep 67 = .ok (.iaload, 1) := by decide +kernel
theorem dX7_keep_68 : decode cX7_keep 68 = .ok (.iastore, 1) := by decide +kernel
theorem dX7_keep_69 : decode cX7_keep 69 = .ok (.iinc 3 1, 3) := by decide +kernel
theorem dX7_keep_72 : decode cX7_keep 72 = .ok (.goto (-27), 3) := by decide +kernel
theorem dX7_keep_75 : decode cX7_keep 75 = .ok (.aload_n 0, 1) := by decide +kernel
theorem dX7_keep_76 : decode cX7_keep 76 = .ok (.getfield 50, 3) := by decide +kernel
theorem dX7_keep_79 : decode cX7_keep 79 = .ok (.iload_n 2, 1) := by decide +kernel
theorem dX7_keep_80 : decode cX7_keep 80 = .ok (.sipush 342, 3) := by decide +kernel
theorem dX7_keep_83 : decode cX7_keep 83 = .ok (.iadd, 1) := by decide +kernel
theorem dX7_keep_84 : decode cX7_keep 84 = .ok (.iconst 1, 1) := by decide +kernel
theorem dX7_keep_85 : decode cX7_keep 85 = .ok (.isub, 1) := by decide +kernel
theorem dX7_keep_86 : decode cX7_keep 86 = .ok (.aload_n 0, 1) := by decide +kernel
theorem dX7_keep_87 : decode cX7_keep 87 = .ok (.getfield 133, 3) := by decide +kernel
theorem dX7_keep_90 : decode cX7_keep 90 = .ok (.iastore, 1) := by decide +kernel
theorem dX7_keep_91 : decode cX7_keep 91 = .ok (.aload_n 0, 1) := by decide +kernel
theorem dX7_keep_92 : decode cX7_keep 92 = .ok (.getfield 53, 3) := by decide +kernel
theorem dX7_keep_95 : decode cX7_keep 95 = .ok (.iload_n 1, 1) := by decide +kernel
theorem dX7_keep_96 : decode cX7_keep 96 = .ok (.iconst 1, 1) := by decide +kernel
theorem dX7_keep_97 : decode cX7_keep 97 = .ok (.iastore, 1) := by decide +kernel
theorem dX7_keep_98 : decode cX7_keep 98 = .ok (.aload_n 0, 1) := by decide +kernel
theorem dX7_keep_99 : decode cX7_keep 99 = .ok (.getfield 29, 3) := by decide +kernel
theorem dX7_keep_102 : decode cX7_keep 102 = .ok (.iconst 0, 1) := by decide +kernel
theorem dX7_keep_103 : decode cX7_keep 103 = .ok (.iaload, 1) := by decide +kernel
theorem dX7_keep_104 : decode cX7_keep 104 = .ok (.ireturn, 1) := by decide +kernel
theorem dX7_back_0 : decode cX7_back 0 = .ok (.iload_n 1, 1) := by decide +kernel
theorem dX7_back_1 : decode cX7_back 1 = .ok (.invokestatic 202, 3) := by decide +kernel
theorem dX7_back_4 : decode cX7_back 4 = .ok (.ifCond .ne 5, 3) := by decide +kernel
theorem dX7_back_7 : decode cX7_back 7 = .ok (.iconst (-1), 1) := by decide +kernel
theorem dX7_back_8 : decode cX7_back 8 = .ok (.ireturn, 1) := by decide +kernel
theorem dX7_back_9 : decode cX7_back 9 = .ok (.aload_n 0, 1) := by decide +kernel
theorem dX7_back_10 : decode cX7_back 10 = .ok (.getfield 53, 3) := by decide +kernel
theorem dX7_back_13 : decode cX7_back 13 = .ok (.iload_n 1, 1) := by decide +kernel
theorem dX7_back_14 : decode cX7_back 14 = .ok (.iaload, 1) := by decide +kernel
theorem dX7_back_15 : decode cX7_back 15 = .ok (.ifCond .ne 6, 3) := by decide +kernel
theorem dX7_back_18 : decode cX7_back 18 = .ok (.bipush (-2), 2) := by decide +kernel
theorem dX7_back_20 : decode cX7_back 20 = .ok (.ireturn, 1) := by decide +kernel
theorem dX7_back_21 : decode cX7_back 21 = .ok (.sipush 342, 3) := by decide +kernel
theorem dX7_back_24 : decode cX7_back 24 = .ok (.iload_n 1, 1) := by decide +kernel
theorem dX7_back_25 : decode cX7_back 25 = .ok (.imul, 1) := by decide +kernel
theorem dX7_back_26 : decode cX7_back 26 = .ok (.istore_n 2, 1) := by decide +kernel
theorem dX7_back_27 : decode cX7_back 27 = .ok (.iconst 0, 1) := by decide +kernel
theorem dX7_back_28 : decode cX7_back 28 = .ok (.istore_n 3, 1) := by decide +kernel
theorem dX7_back_29 : decode cX7_back 29 = .ok (.iload_n 3, 1) := by decide +kernel
theorem dX7_back_30 : decode cX7_back 30 = .ok (.bipush 31, 2) := by decide +kernel
theorem dX7_back_32 : decode cX7_back 32 = .ok (.if_icmp .ge 23, 3) := by decide +kernel
theorem dX7_back_35 : decode cX7_back 35 = .ok (.aload_n 0, 1) := by decide +kernel
theorem dX7_back_36 : decode cX7_back 36 = .ok (.getfield 29, 3) := by decide +kernel
theorem dX7_back_39 : decode cX7_back 39 = .ok (.iload_n 3, 1) := by decide +kernel
theorem dX7_back_40 : decode cX7_back 40 = .ok (.aload_n 0, 1) := by decide +kernel
theorem dX7_back_41 : decode cX7_back 41 = .ok (.getfield 50, 3) := by decide +kernel
theorem dX7_back_44 : decode cX7_back 44 = .ok (.iload_n 2, 1) := by decide +kernel
theorem dX7_back_45 : decode cX7_back 45 = .ok (.iload_n 3, 1) := by decide +kernel
theorem dX7_back_46 : decode cX7_back 46 = .ok (.iadd, 1) := by decide +kernel
theorem dX7_back_47 : decode cX7_back 47 = .ok (.iaload, 1) := by decide +kernel
theorem dX7_back_48 : decode cX7_back 48 = .ok (.iastore, 1) := by decide +kernel
theorem dX7_back_49 : decode cX7_back 49 = .ok (.iinc 3 1, 3) := by decide +kernel
theorem dX7_back_52 : decode cX7_back 52 = .ok (.goto (-23), 3) := by decide +kernel
theorem dX7_back_55 : decode cX7_back 55 = .ok (.iconst 0, 1) := by decide +kernel
theorem dX7_back_56 : decode cX7_back 56 = .ok (.istore_n 3, 1) := by decide +kernel
theorem dX7_back_57 : decode cX7_back 57 = .ok (.iload_n 3, 1) := by decide +kernel
theorem dX7_back_58 : decode cX7_back 58 = .ok (.sipush 310, 3) := by decide +kernel
theorem dX7_back_61 : decode cX7_back 61 = .ok (.if_icmp .ge 26, 3) := by decide +kernel
theorem dX7_back_64 : decode cX7_back 64 = .ok (.aload_n 0, 1) := by decide +kernel
theorem dX7_back_65 : decode cX7_back 65 = .ok (.getfield 32, 3) := by decide +kernel
theorem dX7_back_68 : decode cX7_back 68 = .ok (.iload_n 3, 1) := by decide +kernel
theorem dX7_back_69 : decode cX7_back 69 = .ok (.aload_n 0, 1) := by decide +kernel
theorem dX7_back_70 : decode cX7_back 70 = .ok (.getfield 50, 3) := by decide +kernel
theorem dX7_back_73 : decode cX7_back 73 = .ok (.iload_n 2, 1) := by decide +kernel
theorem dX7_back_74 : decode cX7_back 74 = .ok (.bipush 31, 2) := by decide +kernel
theorem dX7_back_76 : decode cX7_back 76 = .ok (.iadd, 1) := by decide +kernel
theorem dX7_back_77 : decode cX7_back 77 = .ok (.iload_n 3, 1) := by decide +kernel
theorem dX7_back_78 : decode cX7_back 78 = .ok (.iadd, 1) := by decide +kernel
theorem dX7_back_79 : decode cX7_back 79 = .ok (.iaload, 1) := by decide +kernel
theorem dX7_back_80 : decode cX7_back 80 = .ok (.iastore, 1) := by decide +kernel
theorem dX7_back_81 : decode cX7_back 81 = .ok (.iinc 3 1, 3) := by decide +kernel
theorem dX7_back_84 : decode cX7_back 84 = .ok (.goto (-27), 3) := by decide +kernel
theorem dX7_back_87 : decode cX7_back 87 = .ok (.aload_n 0, 1) := by decide +kernel
theorem dX7_back_88 : decode cX7_back 88 = .ok (.aload_n 0, 1) := by decide +kernel
theorem dX7_back_89 : decode cX7_back 89 = .ok (.getfield 50, 3) := by decide +kernel
theorem dX7_back_92 : decode cX7_back 92 = .ok (.iload_n 2, 1) := by decide +kernel
theorem dX7_back_93 : decode cX7_back 93 = .ok (.sipush 342, 3) := by decide +kernel
theorem dX7_back_96 : decode cX7_back 96 = .ok (.iadd, 1) := by decide +kernel
theorem dX7_back_97 : decode cX7_back 97 = .ok (.iconst 1, 1) := by decide +kernel
theorem dX7_back_98 : decode cX7_back 98 = .ok (.isub, 1) := by decide +kernel
theorem dX7_back_99 : decode cX7_back 99 = .ok (.iaload, 1) := by decide +kernel
theorem dX7_back_100 : decode cX7_back 100 = .ok (.putfield 133, 3) := by decide +kernel
theorem dX7_back_103 : decode cX7_back 103 = .ok (.aload_n 0, 1) := by decide +kernel
theorem dX7_back_104 : decode cX7_back 104 = .ok (.getfield 29, 3) := by decide +kernel
theorem dX7_back_107 : decode cX7_back 107 = .ok (.iconst 0, 1) := by decide +kernel
theorem dX7_back_108 : decode cX7_back 108 = .ok (.iaload, 1) := by decide +kernel
theorem dX7_back_109 : decode cX7_back 109 = .ok (.ireturn, 1) := by decide +kernel
theorem dX7_count_0 : decode cX7_count 0 = .ok (.iload_n 1, 1) := by decide +kernel
theorem dX7_count_1 : decode cX7_count 1 = .ok (.tableswitch 60 0 4 #[35, 40, 45, 50, 55], 35) := by decide +kernel
theorem dX7_count_36 : decode cX7_count 36 = .ok (.aload_n 0, 1) := by decide +kernel
theorem dX7_count_37 : decode cX7_count 37 = .ok (.getfield 25, 3) := by decide +kernel
theorem dX7_count_40 : decode cX7_count 40 = .ok (.ireturn, 1) := by decide +kernel
theorem dX7_count_41 : decode cX7_count 41 = .ok (.aload_n 0, 1) := by decide +kernel
theorem dX7_count_42 : decode cX7_count 42 = .ok (.getfield 66, 3) := by decide +kernel
theorem dX7_count_45 : decode cX7_count 45 = .ok (.ireturn, 1) := by decide +kernel
theorem dX7_count_46 : decode cX7_count 46 = .ok (.aload_n 0, 1) := by decide +kernel
theorem dX7_count_47 : decode cX7_count 47 = .ok (.getfield 136, 3) := by decide +kernel
theorem dX7_count_50 : decode cX7_count 50 = .ok (.ireturn, 1) := by decide +kernel
theorem dX7_count_51 : decode cX7_count 51 = .ok (.aload_n 0, 1) := by decide +kernel
theorem dX7_count_52 : decode cX7_count 52 = .ok (.getfield 133, 3) := by decide +kernel
theorem dX7_count_55 : decode cX7_count 55 = .ok (.ireturn, 1) := by decide +kernel
theorem dX7_count_56 : decode cX7_count 56 = .ok (.aload_n 0, 1) := by decide +kernel
theorem dX7_count_57 : decode cX7_count 57 = .ok (.getfield 71, 3) := by decide +kernel
theorem dX7_count_60 : decode cX7_count 60 = .ok (.ireturn, 1) := by decide +kernel
theorem dX7_count_61 : decode cX7_count 61 = .ok (.iconst (-1), 1) := by decide +kernel
theorem dX7_count_62 : decode cX7_count 62 = .ok (.ireturn, 1) := by decide +kernel
theorem dX7_trace_0 : decode cX7_trace 0 = .ok (.aload_n 0, 1) := by decide +kernel
theorem dX7_trace_1 : decode cX7_trace 1 = .ok (.getfield 234, 3) := by decide +kernel
theorem dX7_trace_4 : decode cX7_trace 4 = .ok (.lreturn, 1) := by decide +kernel
theorem dJ6_bitCount_0f7a4_0 : decode cJ6_bitCount_0f7a4 0 = .ok (.iload_n 0, 1) := by decide +kernel
theorem dJ6_bitCount_0f7a4_1 : decode cJ6_bitCount_0f7a4 1 = .ok (.iload_n 0, 1) := by decide +kernel
theorem dJ6_bitCount_0f7a4_2 : decode cJ6_bitCount_0f7a4 2 = .ok (.iconst 1, 1) := by decide +kernel
theorem dJ6_bitCount_0f7a4_3 : decode cJ6_bitCount_0f7a4 3 = .ok (.iushr, 1) := by decide +kernel
theorem dJ6_bitCount_0f7a4_4 : decode cJ6_bitCount_0f7a4 4 = .ok (.ldc_w 265, 3) := by decide +kernel
theorem dJ6_bitCount_0f7a4_7 : decode cJ6_bitCount_0f7a4 7 = .ok (.iand, 1) := by decide +kernel
theorem dJ6_bitCount_0f7a4_8 : decode cJ6_bitCount_0f7a4 8 = .ok (.isub, 1) := by decide +kernel
theorem dJ6_bitCount_0f7a4_9 : decode cJ6_bitCount_0f7a4 9 = .ok (.istore_n 0, 1) := by decide +kernel
theorem dJ6_bitCount_0f7a4_10 : decode cJ6_bitCount_0f7a4 10 = .ok (.iload_n 0, 1) := by decide +kernel
theorem dJ6_bitCount_0f7a4_11 : decode cJ6_bitCount_0f7a4 11 = .ok (.ldc_w 266, 3) := by decide +kernel
theorem dJ6_bitCount_0f7a4_14 : decode cJ6_bitCount_0f7a4 14 = .ok (.iand, 1) := by decide +kernel
theorem dJ6_bitCount_0f7a4_15 : decode cJ6_bitCount_0f7a4 15 = .ok (.iload_n 0, 1) := by decide +kernel
theorem dJ6_bitCount_0f7a4_16 : decode cJ6_bitCount_0f7a4 16 = .ok (.iconst 2, 1) := by decide +kernel
theorem dJ6_bitCount_0f7a4_17 : decode cJ6_bitCount_0f7a4 17 = .ok (.iushr, 1) := by decide +kernel
theorem dJ6_bitCount_0f7a4_18 : decode cJ6_bitCount_0f7a4 18 = .ok (.ldc_w 266, 3) := by decide +kernel
theorem dJ6_bitCount_0f7a4_21 : decode cJ6_bitCount_0f7a4 21 = .ok (.iand, 1) := by decide +kernel
theorem dJ6_bitCount_0f7a4_22 : decode cJ6_bitCount_0f7a4 22 = .ok (.iadd, 1) := by decide +kernel
theorem dJ6_bitCount_0f7a4_23 : decode cJ6_bitCount_0f7a4 23 = .ok (.istore_n 0, 1) := by decide +kernel
theorem dJ6_bitCount_0f7a4_24 : decode cJ6_bitCount_0f7a4 24 = .ok (.iload_n 0, 1) := by decide +kernel
theorem dJ6_bitCount_0f7a4_25 : decode cJ6_bitCount_0f7a4 25 = .ok (.iload_n 0, 1) := by decide +kernel
theorem dJ6_bitCount_0f7a4_26 : decode cJ6_bitCount_0f7a4 26 = .ok (.iconst 4, 1) := by decide +kernel
theorem dJ6_bitCount_0f7a4_27 : decode cJ6_bitCount_0f7a4 27 = .ok (.iushr, 1) := by decide +kernel
theorem dJ6_bitCount_0f7a4_28 : decode cJ6_bitCount_0f7a4 28 = .ok (.iadd, 1) := by decide +kernel
theorem dJ6_bitCount_0f7a4_29 : decode cJ6_bitCount_0f7a4 29 = .ok (.ldc_w 267, 3) := by decide +kernel
theorem dJ6_bitCount_0f7a4_32 : decode cJ6_bitCount_0f7a4 32 = .ok (.iand, 1) := by decide +kernel
theorem dJ6_bitCount_0f7a4_33 : decode cJ6_bitCount_0f7a4 33 = .ok (.istore_n 0, 1) := by decide +kernel
theorem dJ6_bitCount_0f7a4_34 : decode cJ6_bitCount_0f7a4 34 = .ok (.iload_n 0, 1) := by decide +kernel
theorem dJ6_bitCount_0f7a4_35 : decode cJ6_bitCount_0f7a4 35 = .ok (.iload_n 0, 1) := by decide +kernel
theorem dJ6_bitCount_0f7a4_36 : decode cJ6_bitCount_0f7a4 36 = .ok (.bipush 8, 2) := by decide +kernel
theorem dJ6_bitCount_0f7a4_38 : decode cJ6_bitCount_0f7a4 38 = .ok (.iushr, 1) := by decide +kernel
theorem dJ6_bitCount_0f7a4_39 : decode cJ6_bitCount_0f7a4 39 = .ok (.iadd, 1) := by decide +kernel
theorem dJ6_bitCount_0f7a4_40 : decode cJ6_bitCount_0f7a4 40 = .ok (.istore_n 0, 1) := by decide +kernel
theorem dJ6_bitCount_0f7a4_41 : decode cJ6_bitCount_0f7a4 41 = .ok (.iload_n 0, 1) := by decide +kernel
theorem dJ6_bitCount_0f7a4_42 : decode cJ6_bitCount_0f7a4 42 = .ok (.iload_n 0, 1) := by decide +kernel
theorem dJ6_bitCount_0f7a4_43 : decode cJ6_bitCount_0f7a4 43 = .ok (.bipush 16, 2) := by decide +kernel
theorem dJ6_bitCount_0f7a4_45 : decode cJ6_bitCount_0f7a4 45 = .ok (.iushr, 1) := by decide +kernel
theorem dJ6_bitCount_0f7a4_46 : decode cJ6_bitCount_0f7a4 46 = .ok (.iadd, 1) := by decide +kernel
theorem dJ6_bitCount_0f7a4_47 : decode cJ6_bitCount_0f7a4 47 = .ok (.istore_n 0, 1) := by decide +kernel
theorem dJ6_bitCount_0f7a4_48 : decode cJ6_bitCount_0f7a4 48 = .ok (.iload_n 0, 1) := by decide +kernel
theorem dJ6_bitCount_0f7a4_49 : decode cJ6_bitCount_0f7a4 49 = .ok (.bipush 63, 2) := by decide +kernel
theorem dJ6_bitCount_0f7a4_51 : decode cJ6_bitCount_0f7a4 51 = .ok (.iand, 1) := by decide +kernel
theorem dJ6_bitCount_0f7a4_52 : decode cJ6_bitCount_0f7a4 52 = .ok (.ireturn, 1) := by decide +kernel
theorem dJ9_floorMod_7cf53_0 : decode cJ9_floorMod_7cf53 0 = .ok (.iload_n 0, 1) := by decide +kernel
theorem dJ9_floorMod_7cf53_1 : decode cJ9_floorMod_7cf53 1 = .ok (.iload_n 1, 1) := by decide +kernel
theorem dJ9_floorMod_7cf53_2 : decode cJ9_floorMod_7cf53 2 = .ok (.irem, 1) := by decide +kernel
theorem dJ9_floorMod_7cf53_3 : decode cJ9_floorMod_7cf53 3 = .ok (.istore_n 2, 1) := by decide +kernel
theorem dJ9_floorMod_7cf53_4 : decode cJ9_floorMod_7cf53 4 = .ok (.iload_n 0, 1) := by decide +kernel
theorem dJ9_floorMod_7cf53_5 : decode cJ9_floorMod_7cf53 5 = .ok (.iload_n 1, 1) := by decide +kernel
theorem dJ9_floorMod_7cf53_6 : decode cJ9_floorMod_7cf53 6 = .ok (.ixor, 1) := by decide +kernel
theorem dJ9_floorMod_7cf53_7 : decode cJ9_floorMod_7cf53 7 = .ok (.ifCond .ge 11, 3) := by decide +kernel
theorem dJ9_floorMod_7cf53_10 : decode cJ9_floorMod_7cf53 10 = .ok (.iload_n 2, 1) := by decide +kernel
theorem dJ9_floorMod_7cf53_11 : decode cJ9_floorMod_7cf53 11 = .ok (.ifCond .eq 7, 3) := by decide +kernel
theorem dJ9_floorMod_7cf53_14 : decode cJ9_floorMod_7cf53 14 = .ok (.iload_n 2, 1) := by decide +kernel
theorem dJ9_floorMod_7cf53_15 : decode cJ9_floorMod_7cf53 15 = .ok (.iload_n 1, 1) := by decide +kernel
theorem dJ9_floorMod_7cf53_16 : decode cJ9_floorMod_7cf53 16 = .ok (.iadd, 1) := by decide +kernel
theorem dJ9_floorMod_7cf53_17 : decode cJ9_floorMod_7cf53 17 = .ok (.ireturn, 1) := by decide +kernel
theorem dJ9_floorMod_7cf53_18 : decode cJ9_floorMod_7cf53 18 = .ok (.iload_n 2, 1) := by decide +kernel
theorem dJ9_floorMod_7cf53_19 : decode cJ9_floorMod_7cf53 19 = .ok (.ireturn, 1) := by decide +kernel
theorem dJ9_abs_0f7a4_0 : decode cJ9_abs_0f7a4 0 = .ok (.iload_n 0, 1) := by decide +kernel
theorem dJ9_abs_0f7a4_1 : decode cJ9_abs_0f7a4 1 = .ok (.ifCond .ge 8, 3) := by decide +kernel
theorem dJ9_abs_0f7a4_4 : decode cJ9_abs_0f7a4 4 = .ok (.iload_n 0, 1) := by decide +kernel
theorem dJ9_abs_0f7a4_5 : decode cJ9_abs_0f7a4 5 = .ok (.ineg, 1) := by decide +kernel
theorem dJ9_abs_0f7a4_6 : decode cJ9_abs_0f7a4 6 = .ok (.goto 4, 3) := by decide +kernel
theorem dJ9_abs_0f7a4_9 : decode cJ9_abs_0f7a4 9 = .ok (.iload_n 0, 1) := by decide +kernel
theorem dJ9_abs_0f7a4_10 : decode cJ9_abs_0f7a4 10 = .ok (.ireturn, 1) := by decide +kernel
theorem dJ9_max_7cf53_0 : decode cJ9_max_7cf53 0 = .ok (.iload_n 0, 1) := by decide +kernel
theorem dJ9_max_7cf53_1 : decode cJ9_max_7cf53 1 = .ok (.iload_n 1, 1) := by decide +kernel
theorem dJ9_max_7cf53_2 : decode cJ9_max_7cf53 2 = .ok (.if_icmp .lt 7, 3) := by decide +kernel
theorem dJ9_max_7cf53_5 : decode cJ9_max_7cf53 5 = .ok (.iload_n 0, 1) := by decide +kernel
theorem dJ9_max_7cf53_6 : decode cJ9_max_7cf53 6 = .ok (.goto 4, 3) := by decide +kernel
theorem dJ9_max_7cf53_9 : decode cJ9_max_7cf53 9 = .ok (.iload_n 1, 1) := by decide +kernel
theorem dJ9_max_7cf53_10 : decode cJ9_max_7cf53 10 = .ok (.ireturn, 1) := by decide +kernel
theorem dJ9_min_7cf53_0 : decode cJ9_min_7cf53 0 = .ok (.iload_n 0, 1) := by decide +kernel
theorem dJ9_min_7cf53_1 : decode cJ9_min_7cf53 1 = .ok (.iload_n 1, 1) := by decide +kernel
theorem dJ9_min_7cf53_2 : decode cJ9_min_7cf53 2 = .ok (.if_icmp .gt 7, 3) := by decide +kernel
theorem dJ9_min_7cf53_5 : decode cJ9_min_7cf53 5 = .ok (.iload_n 0, 1) := by decide +kernel
theorem dJ9_min_7cf53_6 : decode cJ9_min_7cf53 6 = .ok (.goto 4, 3) := by decide +kernel
theorem dJ9_min_7cf53_9 : decode cJ9_min_7cf53 9 = .ok (.iload_n 1, 1) := by decide +kernel
theorem dJ9_min_7cf53_10 : decode cJ9_min_7cf53 10 = .ok (.ireturn, 1) := by decide +kernel
theorem dJ7_fill_53178_0 : decode cJ7_fill_53178 0 = .ok (.iconst 0, 1) := by decide +kernel
theorem dJ7_fill_53178_1 : decode cJ7_fill_53178 1 = .ok (.istore_n 2, 1) := by decide +kernel
theorem dJ7_fill_53178_2 : decode cJ7_fill_53178 2 = .ok (.aload_n 0, 1) := by decide +kernel
theorem dJ7_fill_53178_3 : decode cJ7_fill_53178 3 = .ok (.arraylength, 1) := by decide +kernel
theorem dJ7_fill_53178_4 : decode cJ7_fill_53178 4 = .ok (.istore_n 3, 1) := by decide +kernel
theorem dJ7_fill_53178_5 : decode cJ7_fill_53178 5 = .ok (.iload_n 2, 1) := by decide +kernel
theorem dJ7_fill_53178_6 : decode cJ7_fill_53178 6 = .ok (.iload_n 3, 1) := by decide +kernel
theorem dJ7_fill_53178_7 : decode cJ7_fill_53178 7 = .ok (.if_icmp .ge 13, 3) := by decide +kernel
theorem dJ7_fill_53178_10 : decode cJ7_fill_53178 10 = .ok (.aload_n 0, 1) := by decide +kernel
theorem dJ7_fill_53178_11 : decode cJ7_fill_53178 11 = .ok (.iload_n 2, 1) := by decide +kernel
theorem dJ7_fill_53178_12 : decode cJ7_fill_53178 12 = .ok (.iload_n 1, 1) := by decide +kernel
theorem dJ7_fill_53178_13 : decode cJ7_fill_53178 13 = .ok (.iastore, 1) := by decide +kernel
theorem dJ7_fill_53178_14 : decode cJ7_fill_53178 14 = .ok (.iinc 2 1, 3) := by decide +kernel
theorem dJ7_fill_53178_17 : decode cJ7_fill_53178 17 = .ok (.goto (-12), 3) := by decide +kernel
theorem dJ7_fill_53178_20 : decode cJ7_fill_53178 20 = .ok (.return_, 1) := by decide +kernel
theorem dL_law_0 : decode cL_law 0 = .ok (.new 7, 3) := by decide +kernel
theorem dL_law_3 : decode cL_law 3 = .ok (.dup, 1) := by decide +kernel
theorem dL_law_4 : decode cL_law 4 = .ok (.invokespecial 9, 3) := by decide +kernel
theorem dL_law_7 : decode cL_law 7 = .ok (.astore_n 1, 1) := by decide +kernel
theorem dL_law_8 : decode cL_law 8 = .ok (.new 10, 3) := by decide +kernel
theorem dL_law_11 : decode cL_law 11 = .ok (.dup, 1) := by decide +kernel
theorem dL_law_12 : decode cL_law 12 = .ok (.invokespecial 12, 3) := by decide +kernel
theorem dL_law_15 : decode cL_law 15 = .ok (.astore_n 2, 1) := by decide +kernel
theorem dL_law_16 : decode cL_law 16 = .ok (.iconst 0, 1) := by decide +kernel
theorem dL_law_17 : decode cL_law 17 = .ok (.istore_n 3, 1) := by decide +kernel
theorem dL_law_18 : decode cL_law 18 = .ok (.iload_n 3, 1) := by decide +kernel
theorem dL_law_19 : decode cL_law 19 = .ok (.aload_n 0, 1) := by decide +kernel
theorem dL_law_20 : decode cL_law 20 = .ok (.arraylength, 1) := by decide +kernel
theorem dL_law_21 : decode cL_law 21 = .ok (.iconst 5, 1) := by decide +kernel
theorem dL_law_22 : decode cL_law 22 = .ok (.isub, 1) := by decide +kernel
theorem dL_law_23 : decode cL_law 23 = .ok (.if_icmp .gt 821, 3) := by decide +kernel
theorem dL_law_26 : decode cL_law 26 = .ok (.aload_n 0, 1) := by decide +kernel
theorem dL_law_27 : decode cL_law 27 = .ok (.iload_n 3, 1) := by decide +kernel
theorem dL_law_28 : decode cL_law 28 = .ok (.iaload, 1) := by decide +kernel
theorem dL_law_29 : decode cL_law 29 = .ok (.bipush 31, 2) := by decide +kernel
theorem dL_law_31 : decode cL_law 31 = .ok (.iand, 1) := by decide +kernel
theorem dL_law_32 : decode cL_law 32 = .ok (.tableswitch 806 0 26 #[124, 147, 160, 173, 206, 249, 292, 325, 348, 371, 394, 417, 450, 473, 496, 509, 532, 555, 608, 651, 664, 677, 690, 723, 746, 769, 792], 124) := by decide +kernel
theorem dL_law_156 : decode cL_law 156 = .ok (.aload_n 1, 1) := by decide +kernel
theorem dL_law_157 : decode cL_law 157 = .ok (.aload_n 0, 1) := by decide +kernel
theorem dL_law_158 : decode cL_law 158 = .ok (.iload_n 3, 1) := by decide +kernel
theorem dL_law_159 : decode cL_law 159 = .ok (.iconst 1, 1) := by decide +kernel
theorem dL_law_160 : decode cL_law 160 = .ok (.iadd, 1) := by decide +kernel
theorem dL_law_161 : decode cL_law 161 = .ok (.iaload, 1) := by decide +kernel
theorem dL_law_162 : decode cL_law 162 = .ok (.invokevirtual 13, 3) := by decide +kernel
theorem dL_law_165 : decode cL_law 165 = .ok (.aload_n 2, 1) := by decide +kernel
theorem dL_law_166 : decode cL_law 166 = .ok (.aload_n 0, 1) := by decide +kernel
theorem dL_law_167 : decode cL_law 167 = .ok (.iload_n 3, 1) := by decide +kernel
theorem dL_law_168 : decode cL_law 168 = .ok (.iconst 1, 1) := by decide +kernel
theorem dL_law_169 : decode cL_law 169 = .ok (.iadd, 1) := by decide +kernel
theorem dL_law_170 : decode cL_law 170 = .ok (.iaload, 1) := by decide +kernel
theorem dL_law_171 : decode cL_law 171 = .ok (.invokevirtual 17, 3) := by decide +kernel
theorem dL_law_174 : decode cL_law 174 = .ok (.if_icmp .eq 664, 3) := by decide +kernel
theorem dL_law_177 : decode cL_law 177 = .ok (.iconst 0, 1) := by decide +kernel
theorem dL_law_178 : decode cL_law 178 = .ok (.ireturn, 1) := by decide +kernel
theorem dL_law_179 : decode cL_law 179 = .ok (.aload_n 1, 1) := by decide +kernel
theorem dL_law_180 : decode cL_law 180 = .ok (.invokevirtual 18, 3) := by decide +kernel
theorem dL_law_183 : decode cL_law 183 = .ok (.aload_n 2, 1) := by decide +kernel
theorem dL_law_184 : decode cL_law 184 = .ok (.invokevirtual 22, 3) := by decide +kernel
theorem dL_law_187 : decode cL_law 187 = .ok (.if_icmp .eq 651, 3) := by decide +kernel
theorem dL_law_190 : decode cL_law 190 = .ok (.iconst 0, 1) := by decide +kernel
theorem dL_law_191 : decode cL_law 191 = .ok (.ireturn, 1) := by decide +kernel
theorem dL_law_192 : decode cL_law 192 = .ok (.aload_n 1, 1) := by decide +kernel
theorem dL_law_193 : decode cL_law 193 = .ok (.invokevirtual 23, 3) := by decide +kernel
theorem dL_law_196 : decode cL_law 196 = .ok (.aload_n 2, 1) := by decide +kernel
theorem dL_law_197 : decode cL_law 197 = .ok (.invokevirtual 26, 3) := by decide +kernel
theorem dL_law_200 : decode cL_law 200 = .ok (.if_icmp .eq 638, 3) := by decide +kernel
theorem dL_law_203 : decode cL_law 203 = .ok (.iconst 0, 1) := by decide +kernel
theorem dL_law_204 : decode cL_law 204 = .ok (.ireturn, 1) := by decide +kernel
theorem dL_law_205 : decode cL_law 205 = .ok (.aload_n 1, 1) := by decide +kernel
theorem dL_law_206 : decode cL_law 206 = .ok (.aload_n 0, 1) := by decide +kernel
theorem dL_law_207 : decode cL_law 207 = .ok (.iload_n 3, 1) := by decide +kernel
theorem dL_law_208 : decode cL_law 208 = .ok (.iconst 1, 1) := by decide +kernel
theorem dL_law_209 : decode cL_law 209 = .ok (.iadd, 1) := by decide +kernel
theorem dL_law_210 : decode cL_law 210 = .ok (.iaload, 1) := by decide +kernel
theorem dL_law_211 : decode cL_law 211 = .ok (.aload_n 0, 1) := by decide +kernel
theorem dL_law_212 : decode cL_law 212 = .ok (.iload_n 3, 1) := by decide +kernel
theorem dL_law_213 : decode cL_law 213 = .ok (.iconst 2, 1) := by decide +kernel
theorem dL_law_214 : decode cL_law 214 = .ok (.iadd, 1) := by decide +kernel
theorem dL_law_215 : decode cL_law 215 = .ok (.iaload, 1) := by decide +kernel
theorem dL_law_216 : decode cL_law 216 = .ok (.invokevirtual 27, 3) := by decide +kernel
theorem dL_law_219 : decode cL_law 219 = .ok (.aload_n 2, 1) := by decide +kernel
theorem dL_law_220 : decode cL_law 220 = .ok (.aload_n 0, 1) := by decide +kernel
theorem dL_law_221 : decode cL_law 221 = .ok (.iload_n 3, 1) := by decide +kernel
theorem dL_law_222 : decode cL_law 222 = .ok (.iconst 1, 1) := by decide +kernel
theorem dL_law_223 : decode cL_law 223 = .ok (.iadd, 1) := by decide +kernel
theorem dL_law_224 : decode cL_law 224 = .ok (.iaload, 1) := by decide +kernel
theorem dL_law_225 : decode cL_law 225 = .ok (.aload_n 0, 1) := by decide +kernel
theorem dL_law_226 : decode cL_law 226 = .ok (.iload_n 3, 1) := by decide +kernel
theorem dL_law_227 : decode cL_law 227 = .ok (.iconst 2, 1) := by decide +kernel
theorem dL_law_228 : decode cL_law 228 = .ok (.iadd, 1) := by decide +kernel
theorem dL_law_229 : decode cL_law 229 = .ok (.iaload, 1) := by decide +kernel
theorem dL_law_230 : decode cL_law 230 = .ok (.invokevirtual 31, 3) := by decide +kernel
theorem dL_law_233 : decode cL_law 233 = .ok (.if_icmp .eq 605, 3) := by decide +kernel
theorem dL_law_236 : decode cL_law 236 = .ok (.iconst 0, 1) := by decide +kernel
theorem dL_law_237 : decode cL_law 237 = .ok (.ireturn, 1) := by decide +kernel
theorem dL_law_238 : decode cL_law 238 = .ok (.aload_n 1, 1) := by decide +kernel
theorem dL_law_239 : decode cL_law 239 = .ok (.aload_n 0, 1) := by decide +kernel
theorem dL_law_240 : decode cL_law 240 = .ok (.iload_n 3, 1) := by decide +kernel
theorem dL_law_241 : decode cL_law 241 = .ok (.iconst 1, 1) := by decide +kernel
theorem dL_law_242 : decode cL_law 242 = .ok (.iadd, 1) := by decide +kernel
theorem dL_law_243 : decode cL_law 243 = .ok (.iaload, 1) := by decide +kernel
theorem dL_law_244 : decode cL_law 244 = .ok (.aload_n 0, 1) := by decide +kernel
theorem dL_law_245 : decode cL_law 245 = .ok (.iload_n 3, 1) := by decide +kernel
theorem dL_law_246 : decode cL_law 246 = .ok (.iconst 2, 1) := by decide +kernel
theorem dL_law_247 : decode cL_law 247 = .ok (.iadd, 1) := by decide +kernel
theorem dL_law_248 : decode cL_law 248 = .ok (.iaload, 1) := by decide +kernel
theorem dL_law_249 : decode cL_law 249 = .ok (.aload_n 0, 1) := by decide +kernel
theorem dL_law_250 : decode cL_law 250 = .ok (.iload_n 3, 1) := by decide +kernel
theorem dL_law_251 : decode cL_law 251 = .ok (.iconst 3, 1) := by decide +kernel
theorem dL_law_252 : decode cL_law 252 = .ok (.iadd, 1) := by decide +kernel
theorem dL_law_253 : decode cL_law 253 = .ok (.iaload, 1) := by decide +kernel
theorem dL_law_254 : decode cL_law 254 = .ok (.invokevirtual 32, 3) := by decide +kernel
theorem dL_law_257 : decode cL_law 257 = .ok (.aload_n 2, 1) := by decide +kernel
theorem dL_law_258 : decode cL_law 258 = .ok (.aload_n 0, 1) := by decide +kernel
theorem dL_law_259 : decode cL_law 259 = .ok (.iload_n 3, 1) := by decide +kernel
theorem dL_law_260 : decode cL_law 260 = .ok (.iconst 1, 1) := by decide +kernel
theorem dL_law_261 : decode cL_law 261 = .ok (.iadd, 1) := by decide +kernel
theorem dL_law_262 : decode cL_law 262 = .ok (.iaload, 1) := by decide +kernel
theorem dL_law_263 : decode cL_law 263 = .ok (.aload_n 0, 1) := by decide +kernel
theorem dL_law_264 : decode cL_law 264 = .ok (.iload_n 3, 1) := by decide +kernel
theorem dL_law_265 : decode cL_law 265 = .ok (.iconst 2, 1) := by decide +kernel
theorem dL_law_266 : decode cL_law 266 = .ok (.iadd, 1) := by decide +kernel
theorem dL_law_267 : decode cL_law 267 = .ok (.iaload, 1) := by decide +kernel
theorem dL_law_268 : decode cL_law 268 = .ok (.aload_n 0, 1) := by decide +kernel
theorem dL_law_269 : decode cL_law 269 = .ok (.iload_n 3, 1) := by decide +kernel
theorem dL_law_270 : decode cL_law 270 = .ok (.iconst 3, 1) := by decide +kernel
theorem dL_law_271 : decode cL_law 271 = .ok (.iadd, 1) := by decide +kernel
theorem dL_law_272 : decode cL_law 272 = .ok (.iaload, 1) := by decide +kernel
theorem dL_law_273 : decode cL_law 273 = .ok (.invokevirtual 36, 3) := by decide +kernel
theorem dL_law_276 : decode cL_law 276 = .ok (.if_icmp .eq 562, 3) := by decide +kernel
theorem dL_law_279 : decode cL_law 279 = .ok (.iconst 0, 1) := by decide +kernel
theorem dL_law_280 : decode cL_law 280 = .ok (.ireturn, 1) := by decide +kernel
theorem dL_law_281 : decode cL_law 281 = .ok (.aload_n 1, 1) := by decide +kernel
theorem dL_law_282 : decode cL_law 282 = .ok (.aload_n 0, 1) := by decide +kernel
theorem dL_law_283 : decode cL_law 283 = .ok (.iload_n 3, 1) := by decide +kernel
theorem dL_law_284 : decode cL_law 284 = .ok (.iconst 1, 1) := by decide +kernel
theorem dL_law_285 : decode cL_law 285 = .ok (.iadd, 1) := by decide +kernel
theorem dL_law_286 : decode cL_law 286 = .ok (.iaload, 1) := by decide +kernel
theorem dL_law_287 : decode cL_law 287 = .ok (.aload_n 0, 1) := by decide +kernel
theorem dL_law_288 : decode cL_law 288 = .ok (.iload_n 3, 1) := by decide +kernel
theorem dL_law_289 : decode cL_law 289 = .ok (.iconst 2, 1) := by decide +kernel
theorem dL_law_290 : decode cL_law 290 = .ok (.iadd, 1) := by decide +kernel
theorem dL_law_291 : decode cL_law 291 = .ok (.iaload, 1) := by decide +kernel
theorem dL_law_292 : decode cL_law 292 = .ok (.aload_n 0, 1) := by decide +kernel
theorem dL_law_293 : decode cL_law 293 = .ok (.iload_n 3, 1) := by decide +kernel
theorem dL_law_294 : decode cL_law 294 = .ok (.iconst 3, 1) := by decide +kernel
theorem dL_law_295 : decode cL_law 295 = .ok (.iadd, 1) := by decide +kernel
theorem dL_law_296 : decode cL_law 296 = .ok (.iaload, 1) := by decide +kernel
theorem dL_law_297 : decode cL_law 297 = .ok (.invokevirtual 37, 3) := by decide +kernel
theorem dL_law_300 : decode cL_law 300 = .ok (.aload_n 2, 1) := by decide +kernel
theorem dL_law_301 : decode cL_law 301 = .ok (.aload_n 0, 1) := by decide +kernel
theorem dL_law_302 : decode cL_law 302 = .ok (.iload_n 3, 1) := by decide +kernel
theorem dL_law_303 : decode cL_law 303 = .ok (.iconst 1, 1) := by decide +kernel
theorem dL_law_304 : decode cL_law 304 = .ok (.iadd, 1) := by decide +kernel
theorem dL_law_305 : decode cL_law 305 = .ok (.iaload, 1) := by decide +kernel
theorem dL_law_306 : decode cL_law 306 = .ok (.aload_n 0, 1) := by decide +kernel
theorem dL_law_307 : decode cL_law 307 = .ok (.iload_n 3, 1) := by decide +kernel
theorem dL_law_308 : decode cL_law 308 = .ok (.iconst 2, 1) := by decide +kernel
theorem dL_law_309 : decode cL_law 309 = .ok (.iadd, 1) := by decide +kernel
theorem dL_law_310 : decode cL_law 310 = .ok (.iaload, 1) := by decide +kernel
theorem dL_law_311 : decode cL_law 311 = .ok (.aload_n 0, 1) := by decide +kernel
theorem dL_law_312 : decode cL_law 312 = .ok (.iload_n 3, 1) := by decide +kernel
theorem dL_law_313 : decode cL_law 313 = .ok (.iconst 3, 1) := by decide +kernel
theorem dL_law_314 : decode cL_law 314 = .ok (.iadd, 1) := by decide +kernel
theorem dL_law_315 : decode cL_law 315 = .ok (.iaload, 1) := by decide +kernel
theorem dL_law_316 : decode cL_law 316 = .ok (.invokevirtual 40, 3) := by decide +kernel
theorem dL_law_319 : decode cL_law 319 = .ok (.if_icmp .eq 519, 3) := by decide +kernel
theorem dL_law_322 : decode cL_law 322 = .ok (.iconst 0, 1) := by decide +kernel
theorem dL_law_323 : decode cL_law 323 = .ok (.ireturn, 1) := by decide +kernel
theorem dL_law_324 : decode cL_law 324 = .ok (.aload_n 1, 1) := by decide +kernel
theorem dL_law_325 : decode cL_law 325 = .ok (.aload_n 0, 1) := by decide +kernel
theorem dL_law_326 : decode cL_law 326 = .ok (.iload_n 3, 1) := by decide +kernel
theorem dL_law_327 : decode cL_law 327 = .ok (.iconst 1, 1) := by decide +kernel
theorem dL_law_328 : decode cL_law 328 = .ok (.iadd, 1) := by decide +kernel
theorem dL_law_329 : decode cL_law 329 = .ok (.iaload, 1) := by decide +kernel
theorem dL_law_330 : decode cL_law 330 = .ok (.aload_n 0, 1) := by decide +kernel
theorem dL_law_331 : decode cL_law 331 = .ok (.iload_n 3, 1) := by decide +kernel
theorem dL_law_332 : decode cL_law 332 = .ok (.iconst 2, 1) := by decide +kernel
theorem dL_law_333 : decode cL_law 333 = .ok (.iadd, 1) := by decide +kernel
theorem dL_law_334 : decode cL_law 334 = .ok (.iaload, 1) := by decide +kernel
theorem dL_law_335 : decode cL_law 335 = .ok (.invokevirtual 41, 3) := by decide +kernel
theorem dL_law_338 : decode cL_law 338 = .ok (.aload_n 2, 1) := by decide +kernel
theorem dL_law_339 : decode cL_law 339 = .ok (.aload_n 0, 1) := by decide +kernel
theorem dL_law_340 : decode cL_law 340 = .ok (.iload_n 3, 1) := by decide +kernel
theorem dL_law_341 : decode cL_law 341 = .ok (.iconst 1, 1) := by decide +kernel
theorem dL_law_342 : decode cL_law 342 = .ok (.iadd, 1) := by decide +kernel
theorem dL_law_343 : decode cL_law 343 = .ok (.iaload, 1) := by decide +kernel
theorem dL_law_344 : decode cL_law 344 = .ok (.aload_n 0, 1) := by decide +kernel
theorem dL_law_345 : decode cL_law 345 = .ok (.iload_n 3, 1) := by decide +kernel
theorem dL_law_346 : decode cL_law 346 = .ok (.iconst 2, 1) := by decide +kernel
theorem dL_law_347 : decode cL_law 347 = .ok (.iadd, 1) := by decide +kernel
theorem dL_law_348 : decode cL_law 348 = .ok (.iaload, 1) := by decide +kernel
theorem dL_law_349 : decode cL_law 349 = .ok (.invokevirtual 44, 3) := by decide +kernel
theorem dL_law_352 : decode cL_law 352 = .ok (.if_icmp .eq 486, 3) := by decide +kernel
theorem dL_law_355 : decode cL_law 355 = .ok (.iconst 0, 1) := by decide +kernel
theorem dL_law_356 : decode cL_law 356 = .ok (.ireturn, 1) := by decide +kernel
theorem dL_law_357 : decode cL_law 357 = .ok (.aload_n 1, 1) := by decide +kernel
theorem dL_law_358 : decode cL_law 358 = .ok (.aload_n 0, 1) := by decide +kernel
theorem dL_law_359 : decode cL_law 359 = .ok (.iload_n 3, 1) := by decide +kernel
theorem dL_law_360 : decode cL_law 360 = .ok (.iconst 1, 1) := by decide +kernel
theorem dL_law_361 : decode cL_law 361 = .ok (.iadd, 1) := by decide +kernel
theorem dL_law_362 : decode cL_law 362 = .ok (.iaload, 1) := by decide +kernel
theorem dL_law_363 : decode cL_law 363 = .ok (.invokevirtual 45, 3) := by decide +kernel
theorem dL_law_366 : decode cL_law 366 = .ok (.aload_n 2, 1) := by decide +kernel
theorem dL_law_367 : decode cL_law 367 = .ok (.aload_n 0, 1) := by decide +kernel
theorem dL_law_368 : decode cL_law 368 = .ok (.iload_n 3, 1) := by decide +kernel
theorem dL_law_369 : decode cL_law 369 = .ok (.iconst 1, 1) := by decide +kernel
theorem dL_law_370 : decode cL_law 370 = .ok (.iadd, 1) := by decide +kernel
theorem dL_law_371 : decode cL_law 371 = .ok (.iaload, 1) := by decide +kernel
theorem dL_law_372 : decode cL_law 372 = .ok (.invokevirtual 48, 3) := by decide +kernel
theorem dL_law_375 : decode cL_law 375 = .ok (.if_icmp .eq 463, 3) := by decide +kernel
theorem dL_law_378 : decode cL_law 378 = .ok (.iconst 0, 1) := by decide +kernel
theorem dL_law_379 : decode cL_law 379 = .ok (.ireturn, 1) := by decide +kernel
theorem dL_law_380 : decode cL_law 380 = .ok (.aload_n 1, 1) := by decide +kernel
theorem dL_law_381 : decode cL_law 381 = .ok (.aload_n 0, 1) := by decide +kernel
theorem dL_law_382 : decode cL_law 382 = .ok (.iload_n 3, 1) := by decide +kernel
theorem dL_law_383 : decode cL_law 383 = .ok (.iconst 1, 1) := by decide +kernel
theorem dL_law_384 : decode cL_law 384 = .ok (.iadd, 1) := by decide +kernel
theorem dL_law_385 : decode cL_law 385 = .ok (.iaload, 1) := by decide +kernel
theorem dL_law_386 : decode cL_law 386 = .ok (.invokevirtual 49, 3) := by decide +kernel
theorem dL_law_389 : decode cL_law 389 = .ok (.aload_n 2, 1) := by decide +kernel
theorem dL_law_390 : decode cL_law 390 = .ok (.aload_n 0, 1) := by decide +kernel
theorem dL_law_391 : decode cL_law 391 = .ok (.iload_n 3, 1) := by decide +kernel
theorem dL_law_392 : decode cL_law 392 = .ok (.iconst 1, 1) := by decide +kernel
theorem dL_law_393 : decode cL_law 393 = .ok (.iadd, 1) := by decide +kernel
theorem dL_law_394 : decode cL_law 394 = .ok (.iaload, 1) := by decide +kernel
theorem dL_law_395 : decode cL_law 395 = .ok (.invokevirtual 52, 3) := by decide +kernel
theorem dL_law_398 : decode cL_law 398 = .ok (.if_icmp .eq 440, 3) := by decide +kernel
theorem dL_law_401 : decode cL_law 401 = .ok (.iconst 0, 1) := by decide +kernel
theorem dL_law_402 : decode cL_law 402 = .ok (.ireturn, 1) := by decide +kernel
theorem dL_law_403 : decode cL_law 403 = .ok (.aload_n 1, 1) := by decide +kernel
theorem dL_law_404 : decode cL_law 404 = .ok (.aload_n 0, 1) := by decide +kernel
theorem dL_law_405 : decode cL_law 405 = .ok (.iload_n 3, 1) := by decide +kernel
theorem dL_law_406 : decode cL_law 406 = .ok (.iconst 1, 1) := by decide +kernel
theorem dL_law_407 : decode cL_law 407 = .ok (.iadd, 1) := by decide +kernel
theorem dL_law_408 : decode cL_law 408 = .ok (.iaload, 1) := by decide +kernel
theorem dL_law_409 : decode cL_law 409 = .ok (.invokevirtual 53, 3) := by decide +kernel
theorem dL_law_412 : decode cL_law 412 = .ok (.aload_n 2, 1) := by decide +kernel
theorem dL_law_413 : decode cL_law 413 = .ok (.aload_n 0, 1) := by decide +kernel
theorem dL_law_414 : decode cL_law 414 = .ok (.iload_n 3, 1) := by decide +kernel
theorem dL_law_415 : decode cL_law 415 = .ok (.iconst 1, 1) := by decide +kernel
theorem dL_law_416 : decode cL_law 416 = .ok (.iadd, 1) := by decide +kernel
theorem dL_law_417 : decode cL_law 417 = .ok (.iaload, 1) := by decide +kernel
theorem dL_law_418 : decode cL_law 418 = .ok (.invokevirtual 56, 3) := by decide +kernel
theorem dL_law_421 : decode cL_law 421 = .ok (.if_icmp .eq 417, 3) := by decide +kernel
theorem dL_law_424 : decode cL_law 424 = .ok (.iconst 0, 1) := by decide +kernel
theorem dL_law_425 : decode cL_law 425 = .ok (.ireturn, 1) := by decide +kernel
theorem dL_law_426 : decode cL_law 426 = .ok (.aload_n 1, 1) := by decide +kernel
theorem dL_law_427 : decode cL_law 427 = .ok (.aload_n 0, 1) := by decide +kernel
theorem dL_law_428 : decode cL_law 428 = .ok (.iload_n 3, 1) := by decide +kernel
theorem dL_law_429 : decode cL_law 429 = .ok (.iconst 1, 1) := by decide +kernel
theorem dL_law_430 : decode cL_law 430 = .ok (.iadd, 1) := by decide +kernel
theorem dL_law_431 : decode cL_law 431 = .ok (.iaload, 1) := by decide +kernel
theorem dL_law_432 : decode cL_law 432 = .ok (.invokevirtual 57, 3) := by decide +kernel
theorem dL_law_435 : decode cL_law 435 = .ok (.aload_n 2, 1) := by decide +kernel
theorem dL_law_436 : decode cL_law 436 = .ok (.aload_n 0, 1) := by decide +kernel
theorem dL_law_437 : decode cL_law 437 = .ok (.iload_n 3, 1) := by decide +kernel
theorem dL_law_438 : decode cL_law 438 = .ok (.iconst 1, 1) := by decide +kernel
theorem dL_law_439 : decode cL_law 439 = .ok (.iadd, 1) := by decide +kernel
theorem dL_law_440 : decode cL_law 440 = .ok (.iaload, 1) := by decide +kernel
theorem dL_law_441 : decode cL_law 441 = .ok (.invokevirtual 60, 3) := by decide +kernel
theorem dL_law_444 : decode cL_law 444 = .ok (.if_icmp .eq 394, 3) := by decide +kernel
theorem dL_law_447 : decode cL_law 447 = .ok (.iconst 0, 1) := by decide +kernel
theorem dL_law_448 : decode cL_law 448 = .ok (.ireturn, 1) := by decide +kernel
theorem dL_law_449 : decode cL_law 449 = .ok (.aload_n 1, 1) := by decide +kernel
theorem dL_law_450 : decode cL_law 450 = .ok (.aload_n 0, 1) := by decide +kernel
theorem dL_law_451 : decode cL_law 451 = .ok (.iload_n 3, 1) := by decide +kernel
theorem dL_law_452 : decode cL_law 452 = .ok (.iconst 1, 1) := by decide +kernel
theorem dL_law_453 : decode cL_law 453 = .ok (.iadd, 1) := by decide +kernel
theorem dL_law_454 : decode cL_law 454 = .ok (.iaload, 1) := by decide +kernel
theorem dL_law_455 : decode cL_law 455 = .ok (.aload_n 0, 1) := by decide +kernel
theorem dL_law_456 : decode cL_law 456 = .ok (.iload_n 3, 1) := by decide +kernel
theorem dL_law_457 : decode cL_law 457 = .ok (.iconst 2, 1) := by decide +kernel
theorem dL_law_458 : decode cL_law 458 = .ok (.iadd, 1) := by decide +kernel
theorem dL_law_459 : decode cL_law 459 = .ok (.iaload, 1) := by decide +kernel
theorem dL_law_460 : decode cL_law 460 = .ok (.invokevirtual 61, 3) := by decide +kernel
theorem dL_law_463 : decode cL_law 463 = .ok (.aload_n 2, 1) := by decide +kernel
theorem dL_law_464 : decode cL_law 464 = .ok (.aload_n 0, 1) := by decide +kernel
theorem dL_law_465 : decode cL_law 465 = .ok (.iload_n 3, 1) := by decide +kernel
theorem dL_law_466 : decode cL_law 466 = .ok (.iconst 1, 1) := by decide +kernel
theorem dL_law_467 : decode cL_law 467 = .ok (.iadd, 1) := by decide +kernel
theorem dL_law_468 : decode cL_law 468 = .ok (.iaload, 1) := by decide +kernel
theorem dL_law_469 : decode cL_law 469 = .ok (.aload_n 0, 1) := by decide +kernel
theorem dL_law_470 : decode cL_law 470 = .ok (.iload_n 3, 1) := by decide +kernel
theorem dL_law_471 : decode cL_law 471 = .ok (.iconst 2, 1) := by decide +kernel
theorem dL_law_472 : decode cL_law 472 = .ok (.iadd, 1) := by decide +kernel
theorem dL_law_473 : decode cL_law 473 = .ok (.iaload, 1) := by decide +kernel
theorem dL_law_474 : decode cL_law 474 = .ok (.invokevirtual 64, 3) := by decide +kernel
theorem dL_law_477 : decode cL_law 477 = .ok (.if_icmp .eq 361, 3) := by decide +kernel
theorem dL_law_480 : decode cL_law 480 = .ok (.iconst 0, 1) := by decide +kernel
theorem dL_law_481 : decode cL_law 481 = .ok (.ireturn, 1) := by decide +kernel
theorem dL_law_482 : decode cL_law 482 = .ok (.aload_n 1, 1) := by decide +kernel
theorem dL_law_483 : decode cL_law 483 = .ok (.aload_n 0, 1) := by decide +kernel
theorem dL_law_484 : decode cL_law 484 = .ok (.iload_n 3, 1) := by decide +kernel
theorem dL_law_485 : decode cL_law 485 = .ok (.iconst 1, 1) := by decide +kernel
theorem dL_law_486 : decode cL_law 486 = .ok (.iadd, 1) := by decide +kernel
theorem dL_law_487 : decode cL_law 487 = .ok (.iaload, 1) := by decide +kernel
theorem dL_law_488 : decode cL_law 488 = .ok (.invokevirtual 65, 3) := by decide +kernel
theorem dL_law_491 : decode cL_law 491 = .ok (.aload_n 2, 1) := by decide +kernel
theorem dL_law_492 : decode cL_law 492 = .ok (.aload_n 0, 1) := by decide +kernel
theorem dL_law_493 : decode cL_law 493 = .ok (.iload_n 3, 1) := by decide +kernel
theorem dL_law_494 : decode cL_law 494 = .ok (.iconst 1, 1) := by decide +kernel
theorem dL_law_495 : decode cL_law 495 = .ok (.iadd, 1) := by decide +kernel
theorem dL_law_496 : decode cL_law 496 = .ok (.iaload, 1) := by decide +kernel
theorem dL_law_497 : decode cL_law 497 = .ok (.invokevirtual 68, 3) := by decide +kernel
theorem dL_law_500 : decode cL_law 500 = .ok (.if_icmp .eq 338, 3) := by decide +kernel
theorem dL_law_503 : decode cL_law 503 = .ok (.iconst 0, 1) := by decide +kernel
theorem dL_law_504 : decode cL_law 504 = .ok (.ireturn, 1) := by decide +kernel
theorem dL_law_505 : decode cL_law 505 = .ok (.aload_n 1, 1) := by decide +kernel
theorem dL_law_506 : decode cL_law 506 = .ok (.aload_n 0, 1) := by decide +kernel
theorem dL_law_507 : decode cL_law 507 = .ok (.iload_n 3, 1) := by decide +kernel
theorem dL_law_508 : decode cL_law 508 = .ok (.iconst 1, 1) := by decide +kernel
theorem dL_law_509 : decode cL_law 509 = .ok (.iadd, 1) := by decide +kernel
theorem dL_law_510 : decode cL_law 510 = .ok (.iaload, 1) := by decide +kernel
theorem dL_law_511 : decode cL_law 511 = .ok (.invokevirtual 69, 3) := by decide +kernel
theorem dL_law_514 : decode cL_law 514 = .ok (.aload_n 2, 1) := by decide +kernel
theorem dL_law_515 : decode cL_law 515 = .ok (.aload_n 0, 1) := by decide +kernel
theorem dL_law_516 : decode cL_law 516 = .ok (.iload_n 3, 1) := by decide +kernel
theorem dL_law_517 : decode cL_law 517 = .ok (.iconst 1, 1) := by decide +kernel
theorem dL_law_518 : decode cL_law 518 = .ok (.iadd, 1) := by decide +kernel
theorem dL_law_519 : decode cL_law 519 = .ok (.iaload, 1) := by decide +kernel
theorem dL_law_520 : decode cL_law 520 = .ok (.invokevirtual 72, 3) := by decide +kernel
theorem dL_law_523 : decode cL_law 523 = .ok (.if_icmp .eq 315, 3) := by decide +kernel
theorem dL_law_526 : decode cL_law 526 = .ok (.iconst 0, 1) := by decide +kernel
theorem dL_law_527 : decode cL_law 527 = .ok (.ireturn, 1) := by decide +kernel
theorem dL_law_528 : decode cL_law 528 = .ok (.aload_n 1, 1) := by decide +kernel
theorem dL_law_529 : decode cL_law 529 = .ok (.invokevirtual 73, 3) := by decide +kernel
theorem dL_law_532 : decode cL_law 532 = .ok (.aload_n 2, 1) := by decide +kernel
theorem dL_law_533 : decode cL_law 533 = .ok (.invokevirtual 76, 3) := by decide +kernel
theorem dL_law_536 : decode cL_law 536 = .ok (.if_icmp .eq 302, 3) := by decide +kernel
theorem dL_law_539 : decode cL_law 539 = .ok (.iconst 0, 1) := by decide +kernel
theorem dL_law_540 : decode cL_law 540 = .ok (.ireturn, 1) := by decide +kernel
theorem dL_law_541 : decode cL_law 541 = .ok (.aload_n 1, 1) := by decide +kernel
theorem dL_law_542 : decode cL_law 542 = .ok (.aload_n 0, 1) := by decide +kernel
theorem dL_law_543 : decode cL_law 543 = .ok (.iload_n 3, 1) := by decide +kernel
theorem dL_law_544 : decode cL_law 544 = .ok (.iconst 1, 1) := by decide +kernel
theorem dL_law_545 : decode cL_law 545 = .ok (.iadd, 1) := by decide +kernel
theorem dL_law_546 : decode cL_law 546 = .ok (.iaload, 1) := by decide +kernel
theorem dL_law_547 : decode cL_law 547 = .ok (.invokevirtual 77, 3) := by decide +kernel
theorem dL_law_550 : decode cL_law 550 = .ok (.aload_n 2, 1) := by decide +kernel
theorem dL_law_551 : decode cL_law 551 = .ok (.aload_n 0, 1) := by decide +kernel
theorem dL_law_552 : decode cL_law 552 = .ok (.iload_n 3, 1) := by decide +kernel
theorem dL_law_553 : decode cL_law 553 = .ok (.iconst 1, 1) := by decide +kernel
theorem dL_law_554 : decode cL_law 554 = .ok (.iadd, 1) := by decide +kernel
theorem dL_law_555 : decode cL_law 555 = .ok (.iaload, 1) := by decide +kernel
theorem dL_law_556 : decode cL_law 556 = .ok (.invokevirtual 80, 3) := by decide +kernel
theorem dL_law_559 : decode cL_law 559 = .ok (.if_icmp .eq 279, 3) := by decide +kernel
theorem dL_law_562 : decode cL_law 562 = .ok (.iconst 0, 1) := by decide +kernel
theorem dL_law_563 : decode cL_law 563 = .ok (.ireturn, 1) := by decide +kernel
theorem dL_law_564 : decode cL_law 564 = .ok (.aload_n 1, 1) := by decide +kernel
theorem dL_law_565 : decode cL_law 565 = .ok (.aload_n 0, 1) := by decide +kernel
theorem dL_law_566 : decode cL_law 566 = .ok (.iload_n 3, 1) := by decide +kernel
theorem dL_law_567 : decode cL_law 567 = .ok (.iconst 1, 1) := by decide +kernel
theorem dL_law_568 : decode cL_law 568 = .ok (.iadd, 1) := by decide +kernel
theorem dL_law_569 : decode cL_law 569 = .ok (.iaload, 1) := by decide +kernel
theorem dL_law_570 : decode cL_law 570 = .ok (.invokevirtual 81, 3) := by decide +kernel
theorem dL_law_573 : decode cL_law 573 = .ok (.aload_n 2, 1) := by decide +kernel
theorem dL_law_574 : decode cL_law 574 = .ok (.aload_n 0, 1) := by decide +kernel
theorem dL_law_575 : decode cL_law 575 = .ok (.iload_n 3, 1) := by decide +kernel
theorem dL_law_576 : decode cL_law 576 = .ok (.iconst 1, 1) := by decide +kernel
theorem dL_law_577 : decode cL_law 577 = .ok (.iadd, 1) := by decide +kernel
theorem dL_law_578 : decode cL_law 578 = .ok (.iaload, 1) := by decide +kernel
theorem dL_law_579 : decode cL_law 579 = .ok (.invokevirtual 84, 3) := by decide +kernel
theorem dL_law_582 : decode cL_law 582 = .ok (.if_icmp .eq 256, 3) := by decide +kernel
theorem dL_law_585 : decode cL_law 585 = .ok (.iconst 0, 1) := by decide +kernel
theorem dL_law_586 : decode cL_law 586 = .ok (.ireturn, 1) := by decide +kernel
theorem dL_law_587 : decode cL_law 587 = .ok (.aload_n 1, 1) := by decide +kernel
theorem dL_law_588 : decode cL_law 588 = .ok (.aload_n 0, 1) := by decide +kernel
theorem dL_law_589 : decode cL_law 589 = .ok (.iload_n 3, 1) := by decide +kernel
theorem dL_law_590 : decode cL_law 590 = .ok (.iconst 1, 1) := by decide +kernel
theorem dL_law_591 : decode cL_law 591 = .ok (.iadd, 1) := by decide +kernel
theorem dL_law_592 : decode cL_law 592 = .ok (.iaload, 1) := by decide +kernel
theorem dL_law_593 : decode cL_law 593 = .ok (.aload_n 0, 1) := by decide +kernel
theorem dL_law_594 : decode cL_law 594 = .ok (.iload_n 3, 1) := by decide +kernel
theorem dL_law_595 : decode cL_law 595 = .ok (.iconst 2, 1) := by decide +kernel
theorem dL_law_596 : decode cL_law 596 = .ok (.iadd, 1) := by decide +kernel
theorem dL_law_597 : decode cL_law 597 = .ok (.iaload, 1) := by decide +kernel
theorem dL_law_598 : decode cL_law 598 = .ok (.aload_n 0, 1) := by decide +kernel
theorem dL_law_599 : decode cL_law 599 = .ok (.iload_n 3, 1) := by decide +kernel
theorem dL_law_600 : decode cL_law 600 = .ok (.iconst 3, 1) := by decide +kernel
theorem dL_law_601 : decode cL_law 601 = .ok (.iadd, 1) := by decide +kernel
theorem dL_law_602 : decode cL_law 602 = .ok (.iaload, 1) := by decide +kernel
theorem dL_law_603 : decode cL_law 603 = .ok (.aload_n 0, 1) := by decide +kernel
theorem dL_law_604 : decode cL_law 604 = .ok (.iload_n 3, 1) := by decide +kernel
theorem dL_law_605 : decode cL_law 605 = .ok (.iconst 4, 1) := by decide +kernel
theorem dL_law_606 : decode cL_law 606 = .ok (.iadd, 1) := by decide +kernel
theorem dL_law_607 : decode cL_law 607 = .ok (.iaload, 1) := by decide +kernel
theorem dL_law_608 : decode cL_law 608 = .ok (.invokevirtual 85, 3) := by decide +kernel
theorem dL_law_611 : decode cL_law 611 = .ok (.aload_n 2, 1) := by decide +kernel
theorem dL_law_612 : decode cL_law 612 = .ok (.aload_n 0, 1) := by decide +kernel
theorem dL_law_613 : decode cL_law 613 = .ok (.iload_n 3, 1) := by decide +kernel
theorem dL_law_614 : decode cL_law 614 = .ok (.iconst 1, 1) := by decide +kernel
theorem dL_law_615 : decode cL_law 615 = .ok (.iadd, 1) := by decide +kernel
theorem dL_law_616 : decode cL_law 616 = .ok (.iaload, 1) := by decide +kernel
theorem dL_law_617 : decode cL_law 617 = .ok (.aload_n 0, 1) := by decide +kernel
theorem dL_law_618 : decode cL_law 618 = .ok (.iload_n 3, 1) := by decide +kernel
theorem dL_law_619 : decode cL_law 619 = .ok (.iconst 2, 1) := by decide +kernel
theorem dL_law_620 : decode cL_law 620 = .ok (.iadd, 1) := by decide +kernel
theorem dL_law_621 : decode cL_law 621 = .ok (.iaload, 1) := by decide +kernel
theorem dL_law_622 : decode cL_law 622 = .ok (.aload_n 0, 1) := by decide +kernel
theorem dL_law_623 : decode cL_law 623 = .ok (.iload_n 3, 1) := by decide +kernel
theorem dL_law_624 : decode cL_law 624 = .ok (.iconst 3, 1) := by decide +kernel
theorem dL_law_625 : decode cL_law 625 = .ok (.iadd, 1) := by decide +kernel
theorem dL_law_626 : decode cL_law 626 = .ok (.iaload, 1) := by decide +kernel
theorem dL_law_627 : decode cL_law 627 = .ok (.aload_n 0, 1) := by decide +kernel
theorem dL_law_628 : decode cL_law 628 = .ok (.iload_n 3, 1) := by decide +kernel
theorem dL_law_629 : decode cL_law 629 = .ok (.iconst 4, 1) := by decide +kernel
theorem dL_law_630 : decode cL_law 630 = .ok (.iadd, 1) := by decide +kernel
theorem dL_law_631 : decode cL_law 631 = .ok (.iaload, 1) := by decide +kernel
theorem dL_law_632 : decode cL_law 632 = .ok (.invokevirtual 89, 3) := by decide +kernel
theorem dL_law_635 : decode cL_law 635 = .ok (.if_icmp .eq 203, 3) := by decide +kernel
theorem dL_law_638 : decode cL_law 638 = .ok (.iconst 0, 1) := by decide +kernel
theorem dL_law_639 : decode cL_law 639 = .ok (.ireturn, 1) := by decide +kernel
theorem dL_law_640 : decode cL_law 640 = .ok (.aload_n 1, 1) := by decide +kernel
theorem dL_law_641 : decode cL_law 641 = .ok (.aload_n 0, 1) := by decide +kernel
theorem dL_law_642 : decode cL_law 642 = .ok (.iload_n 3, 1) := by decide +kernel
theorem dL_law_643 : decode cL_law 643 = .ok (.iconst 1, 1) := by decide +kernel
theorem dL_law_644 : decode cL_law 644 = .ok (.iadd, 1) := by decide +kernel
theorem dL_law_645 : decode cL_law 645 = .ok (.iaload, 1) := by decide +kernel
theorem dL_law_646 : decode cL_law 646 = .ok (.aload_n 0, 1) := by decide +kernel
theorem dL_law_647 : decode cL_law 647 = .ok (.iload_n 3, 1) := by decide +kernel
theorem dL_law_648 : decode cL_law 648 = .ok (.iconst 2, 1) := by decide +kernel
theorem dL_law_649 : decode cL_law 649 = .ok (.iadd, 1) := by decide +kernel
theorem dL_law_650 : decode cL_law 650 = .ok (.iaload, 1) := by decide +kernel
theorem dL_law_651 : decode cL_law 651 = .ok (.aload_n 0, 1) := by decide +kernel
theorem dL_law_652 : decode cL_law 652 = .ok (.iload_n 3, 1) := by decide +kernel
theorem dL_law_653 : decode cL_law 653 = .ok (.iconst 3, 1) := by decide +kernel
theorem dL_law_654 : decode cL_law 654 = .ok (.iadd, 1) := by decide +kernel
theorem dL_law_655 : decode cL_law 655 = .ok (.iaload, 1) := by decide +kernel
theorem dL_law_656 : decode cL_law 656 = .ok (.invokevirtual 90, 3) := by decide +kernel
theorem dL_law_659 : decode cL_law 659 = .ok (.aload_n 2, 1) := by decide +kernel
theorem dL_law_660 : decode cL_law 660 = .ok (.aload_n 0, 1) := by decide +kernel
theorem dL_law_661 : decode cL_law 661 = .ok (.iload_n 3, 1) := by decide +kernel
theorem dL_law_662 : decode cL_law 662 = .ok (.iconst 1, 1) := by decide +kernel
theorem dL_law_663 : decode cL_law 663 = .ok (.iadd, 1) := by decide +kernel
theorem dL_law_664 : decode cL_law 664 = .ok (.iaload, 1) := by decide +kernel
theorem dL_law_665 : decode cL_law 665 = .ok (.aload_n 0, 1) := by decide +kernel
theorem dL_law_666 : decode cL_law 666 = .ok (.iload_n 3, 1) := by decide +kernel
theorem dL_law_667 : decode cL_law 667 = .ok (.iconst 2, 1) := by decide +kernel
theorem dL_law_668 : decode cL_law 668 = .ok (.iadd, 1) := by decide +kernel
theorem dL_law_669 : decode cL_law 669 = .ok (.iaload, 1) := by decide +kernel
theorem dL_law_670 : decode cL_law 670 = .ok (.aload_n 0, 1) := by decide +kernel
theorem dL_law_671 : decode cL_law 671 = .ok (.iload_n 3, 1) := by decide +kernel
theorem dL_law_672 : decode cL_law 672 = .ok (.iconst 3, 1) := by decide +kernel
theorem dL_law_673 : decode cL_law 673 = .ok (.iadd, 1) := by decide +kernel
theorem dL_law_674 : decode cL_law 674 = .ok (.iaload, 1) := by decide +kernel
theorem dL_law_675 : decode cL_law 675 = .ok (.invokevirtual 93, 3) := by decide +kernel
theorem dL_law_678 : decode cL_law 678 = .ok (.if_icmp .eq 160, 3) := by decide +kernel
theorem dL_law_681 : decode cL_law 681 = .ok (.iconst 0, 1) := by decide +kernel
theorem dL_law_682 : decode cL_law 682 = .ok (.ireturn, 1) := by decide +kernel
theorem dL_law_683 : decode cL_law 683 = .ok (.aload_n 1, 1) := by decide +kernel
theorem dL_law_684 : decode cL_law 684 = .ok (.invokevirtual 94, 3) := by decide +kernel
theorem dL_law_687 : decode cL_law 687 = .ok (.aload_n 2, 1) := by decide +kernel
theorem dL_law_688 : decode cL_law 688 = .ok (.invokevirtual 97, 3) := by decide +kernel
theorem dL_law_691 : decode cL_law 691 = .ok (.if_icmp .eq 147, 3) := by decide +kernel
theorem dL_law_694 : decode cL_law 694 = .ok (.iconst 0, 1) := by decide +kernel
theorem dL_law_695 : decode cL_law 695 = .ok (.ireturn, 1) := by decide +kernel
theorem dL_law_696 : decode cL_law 696 = .ok (.aload_n 1, 1) := by decide +kernel
theorem dL_law_697 : decode cL_law 697 = .ok (.invokevirtual 98, 3) := by decide +kernel
theorem dL_law_700 : decode cL_law 700 = .ok (.aload_n 2, 1) := by decide +kernel
theorem dL_law_701 : decode cL_law 701 = .ok (.invokevirtual 101, 3) := by decide +kernel
theorem dL_law_704 : decode cL_law 704 = .ok (.if_icmp .eq 134, 3) := by decide +kernel
theorem dL_law_707 : decode cL_law 707 = .ok (.iconst 0, 1) := by decide +kernel
theorem dL_law_708 : decode cL_law 708 = .ok (.ireturn, 1) := by decide +kernel
theorem dL_law_709 : decode cL_law 709 = .ok (.aload_n 1, 1) := by decide +kernel
theorem dL_law_710 : decode cL_law 710 = .ok (.invokevirtual 102, 3) := by decide +kernel
theorem dL_law_713 : decode cL_law 713 = .ok (.aload_n 2, 1) := by decide +kernel
theorem dL_law_714 : decode cL_law 714 = .ok (.invokevirtual 105, 3) := by decide +kernel
theorem dL_law_717 : decode cL_law 717 = .ok (.if_icmp .eq 121, 3) := by decide +kernel
theorem dL_law_720 : decode cL_law 720 = .ok (.iconst 0, 1) := by decide +kernel
theorem dL_law_721 : decode cL_law 721 = .ok (.ireturn, 1) := by decide +kernel
theorem dL_law_722 : decode cL_law 722 = .ok (.aload_n 1, 1) := by decide +kernel
theorem dL_law_723 : decode cL_law 723 = .ok (.aload_n 0, 1) := by decide +kernel
theorem dL_law_724 : decode cL_law 724 = .ok (.iload_n 3, 1) := by decide +kernel
theorem dL_law_725 : decode cL_law 725 = .ok (.iconst 1, 1) := by decide +kernel
theorem dL_law_726 : decode cL_law 726 = .ok (.iadd, 1) := by decide +kernel
theorem dL_law_727 : decode cL_law 727 = .ok (.iaload, 1) := by decide +kernel
theorem dL_law_728 : decode cL_law 728 = .ok (.aload_n 0, 1) := by decide +kernel
theorem dL_law_729 : decode cL_law 729 = .ok (.iload_n 3, 1) := by decide +kernel
theorem dL_law_730 : decode cL_law 730 = .ok (.iconst 2, 1) := by decide +kernel
theorem dL_law_731 : decode cL_law 731 = .ok (.iadd, 1) := by decide +kernel
theorem dL_law_732 : decode cL_law 732 = .ok (.iaload, 1) := by decide +kernel
theorem dL_law_733 : decode cL_law 733 = .ok (.invokevirtual 106, 3) := by decide +kernel
theorem dL_law_736 : decode cL_law 736 = .ok (.aload_n 2, 1) := by decide +kernel
theorem dL_law_737 : decode cL_law 737 = .ok (.aload_n 0, 1) := by decide +kernel
theorem dL_law_738 : decode cL_law 738 = .ok (.iload_n 3, 1) := by decide +kernel
theorem dL_law_739 : decode cL_law 739 = .ok (.iconst 1, 1) := by decide +kernel
theorem dL_law_740 : decode cL_law 740 = .ok (.iadd, 1) := by decide +kernel
theorem dL_law_741 : decode cL_law 741 = .ok (.iaload, 1) := by decide +kernel
theorem dL_law_742 : decode cL_law 742 = .ok (.aload_n 0, 1) := by decide +kernel
theorem dL_law_743 : decode cL_law 743 = .ok (.iload_n 3, 1) := by decide +kernel
theorem dL_law_744 : decode cL_law 744 = .ok (.iconst 2, 1) := by decide +kernel
theorem dL_law_745 : decode cL_law 745 = .ok (.iadd, 1) := by decide +kernel
theorem dL_law_746 : decode cL_law 746 = .ok (.iaload, 1) := by decide +kernel
theorem dL_law_747 : decode cL_law 747 = .ok (.invokevirtual 109, 3) := by decide +kernel
theorem dL_law_750 : decode cL_law 750 = .ok (.if_icmp .eq 88, 3) := by decide +kernel
theorem dL_law_753 : decode cL_law 753 = .ok (.iconst 0, 1) := by decide +kernel
theorem dL_law_754 : decode cL_law 754 = .ok (.ireturn, 1) := by decide +kernel
theorem dL_law_755 : decode cL_law 755 = .ok (.aload_n 1, 1) := by decide +kernel
theorem dL_law_756 : decode cL_law 756 = .ok (.aload_n 0, 1) := by decide +kernel
theorem dL_law_757 : decode cL_law 757 = .ok (.iload_n 3, 1) := by decide +kernel
theorem dL_law_758 : decode cL_law 758 = .ok (.iconst 1, 1) := by decide +kernel
theorem dL_law_759 : decode cL_law 759 = .ok (.iadd, 1) := by decide +kernel
theorem dL_law_760 : decode cL_law 760 = .ok (.iaload, 1) := by decide +kernel
theorem dL_law_761 : decode cL_law 761 = .ok (.invokevirtual 110, 3) := by decide +kernel
theorem dL_law_764 : decode cL_law 764 = .ok (.aload_n 2, 1) := by decide +kernel
theorem dL_law_765 : decode cL_law 765 = .ok (.aload_n 0, 1) := by decide +kernel
theorem dL_law_766 : decode cL_law 766 = .ok (.iload_n 3, 1) := by decide +kernel
theorem dL_law_767 : decode cL_law 767 = .ok (.iconst 1, 1) := by decide +kernel
theorem dL_law_768 : decode cL_law 768 = .ok (.iadd, 1) := by decide +kernel
theorem dL_law_769 : decode cL_law 769 = .ok (.iaload, 1) := by decide +kernel
theorem dL_law_770 : decode cL_law 770 = .ok (.invokevirtual 113, 3) := by decide +kernel
theorem dL_law_773 : decode cL_law 773 = .ok (.if_icmp .eq 65, 3) := by decide +kernel
theorem dL_law_776 : decode cL_law 776 = .ok (.iconst 0, 1) := by decide +kernel
theorem dL_law_777 : decode cL_law 777 = .ok (.ireturn, 1) := by decide +kernel
theorem dL_law_778 : decode cL_law 778 = .ok (.aload_n 1, 1) := by decide +kernel
theorem dL_law_779 : decode cL_law 779 = .ok (.aload_n 0, 1) := by decide +kernel
theorem dL_law_780 : decode cL_law 780 = .ok (.iload_n 3, 1) := by decide +kernel
theorem dL_law_781 : decode cL_law 781 = .ok (.iconst 1, 1) := by decide +kernel
theorem dL_law_782 : decode cL_law 782 = .ok (.iadd, 1) := by decide +kernel
