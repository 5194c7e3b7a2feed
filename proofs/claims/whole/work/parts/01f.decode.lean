theorem dX7_binOf_11 : decode cX7_binOf 11 = .ok (.iload_n 1, 1) := by decide +kernel
theorem dX7_binOf_12 : decode cX7_binOf 12 = .ok (.iload_n 2, 1) := by decide +kernel
theorem dX7_binOf_13 : decode cX7_binOf 13 = .ok (.invokevirtual 150, 3) := by decide +kernel
theorem dX7_binOf_16 : decode cX7_binOf 16 = .ok (.goto 9, 3) := by decide +kernel
theorem dX7_binOf_19 : decode cX7_binOf 19 = .ok (.aload_n 0, 1) := by decide +kernel
theorem dX7_binOf_20 : decode cX7_binOf 20 = .ok (.iload_n 1, 1) := by decide +kernel
theorem dX7_binOf_21 : decode cX7_binOf 21 = .ok (.iload_n 2, 1) := by decide +kernel
theorem dX7_binOf_22 : decode cX7_binOf 22 = .ok (.invokevirtual 143, 3) := by decide +kernel
theorem dX7_binOf_25 : decode cX7_binOf 25 = .ok (.aload_n 0, 1) := by decide +kernel
theorem dX7_binOf_26 : decode cX7_binOf 26 = .ok (.getfield 25, 3) := by decide +kernel
theorem dX7_binOf_29 : decode cX7_binOf 29 = .ok (.irem, 1) := by decide +kernel
theorem dX7_binOf_30 : decode cX7_binOf 30 = .ok (.ireturn, 1) := by decide +kernel
theorem dX7_sidesOf_0 : decode cX7_sidesOf 0 = .ok (.aload_n 0, 1) := by decide +kernel
theorem dX7_sidesOf_1 : decode cX7_sidesOf 1 = .ok (.iload_n 1, 1) := by decide +kernel
theorem dX7_sidesOf_2 : decode cX7_sidesOf 2 = .ok (.iload_n 2, 1) := by decide +kernel
theorem dX7_sidesOf_3 : decode cX7_sidesOf 3 = .ok (.invokevirtual 153, 3) := by decide +kernel
theorem dX7_sidesOf_6 : decode cX7_sidesOf 6 = .ok (.ifCond .le 7, 3) := by decide +kernel
theorem dX7_sidesOf_9 : decode cX7_sidesOf 9 = .ok (.iconst 2, 1) := by decide +kernel
theorem dX7_sidesOf_10 : decode cX7_sidesOf 10 = .ok (.goto 4, 3) := by decide +kernel
theorem dX7_sidesOf_13 : decode cX7_sidesOf 13 = .ok (.iconst 1, 1) := by decide +kernel
theorem dX7_sidesOf_14 : decode cX7_sidesOf 14 = .ok (.ireturn, 1) := by decide +kernel
theorem dX7_sheet_0 : decode cX7_sheet 0 = .ok (.aload_n 0, 1) := by decide +kernel
theorem dX7_sheet_1 : decode cX7_sheet 1 = .ok (.iload_n 1, 1) := by decide +kernel
theorem dX7_sheet_2 : decode cX7_sheet 2 = .ok (.invokevirtual 156, 3) := by decide +kernel
theorem dX7_sheet_5 : decode cX7_sheet 5 = .ok (.ifCond .eq 20, 3) := by decide +kernel
theorem dX7_sheet_8 : decode cX7_sheet 8 = .ok (.iload_n 2, 1) := by decide +kernel
theorem dX7_sheet_9 : decode cX7_sheet 9 = .ok (.i2l, 1) := by decide +kernel
theorem dX7_sheet_10 : decode cX7_sheet 10 = .ok (.lconst 0, 1) := by decide +kernel
theorem dX7_sheet_11 : decode cX7_sheet 11 = .ok (.aload_n 0, 1) := by decide +kernel
theorem dX7_sheet_12 : decode cX7_sheet 12 = .ok (.iload_n 1, 1) := by decide +kernel
theorem dX7_sheet_13 : decode cX7_sheet 13 = .ok (.invokevirtual 160, 3) := by decide +kernel
theorem dX7_sheet_16 : decode cX7_sheet 16 = .ok (.iconst 1, 1) := by decide +kernel
theorem dX7_sheet_17 : decode cX7_sheet 17 = .ok (.isub, 1) := by decide +kernel
theorem dX7_sheet_18 : decode cX7_sheet 18 = .ok (.i2l, 1) := by decide +kernel
theorem dX7_sheet_19 : decode cX7_sheet 19 = .ok (.invokestatic 62, 3) := by decide +kernel
theorem dX7_sheet_22 : decode cX7_sheet 22 = .ok (.ifCond .ne 5, 3) := by decide +kernel
theorem dX7_sheet_25 : decode cX7_sheet 25 = .ok (.iconst (-1), 1) := by decide +kernel
theorem dX7_sheet_26 : decode cX7_sheet 26 = .ok (.ireturn, 1) := by decide +kernel
theorem dX7_sheet_27 : decode cX7_sheet 27 = .ok (.iload_n 3, 1) := by decide +kernel
theorem dX7_sheet_28 : decode cX7_sheet 28 = .ok (.tableswitch 60 0 3 #[32, 39, 46, 53], 32) := by decide +kernel
theorem dX7_sheet_60 : decode cX7_sheet 60 = .ok (.aload_n 0, 1) := by decide +kernel
theorem dX7_sheet_61 : decode cX7_sheet 61 = .ok (.iload_n 1, 1) := by decide +kernel
theorem dX7_sheet_62 : decode cX7_sheet 62 = .ok (.iload_n 2, 1) := by decide +kernel
theorem dX7_sheet_63 : decode cX7_sheet 63 = .ok (.invokevirtual 150, 3) := by decide +kernel
theorem dX7_sheet_66 : decode cX7_sheet 66 = .ok (.ireturn, 1) := by decide +kernel
theorem dX7_sheet_67 : decode cX7_sheet 67 = .ok (.aload_n 0, 1) := by decide +kernel
theorem dX7_sheet_68 : decode cX7_sheet 68 = .ok (.iload_n 1, 1) := by decide +kernel
theorem dX7_sheet_69 : decode cX7_sheet 69 = .ok (.iload_n 2, 1) := by decide +kernel
theorem dX7_sheet_70 : decode cX7_sheet 70 = .ok (.invokevirtual 147, 3) := by decide +kernel
theorem dX7_sheet_73 : decode cX7_sheet 73 = .ok (.ireturn, 1) := by decide +kernel
theorem dX7_sheet_74 : decode cX7_sheet 74 = .ok (.aload_n 0, 1) := by decide +kernel
theorem dX7_sheet_75 : decode cX7_sheet 75 = .ok (.iload_n 1, 1) := by decide +kernel
theorem dX7_sheet_76 : decode cX7_sheet 76 = .ok (.iload_n 2, 1) := by decide +kernel
theorem dX7_sheet_77 : decode cX7_sheet 77 = .ok (.invokevirtual 153, 3) := by decide +kernel
theorem dX7_sheet_80 : decode cX7_sheet 80 = .ok (.ireturn, 1) := by decide +kernel
theorem dX7_sheet_81 : decode cX7_sheet 81 = .ok (.aload_n 0, 1) := by decide +kernel
theorem dX7_sheet_82 : decode cX7_sheet 82 = .ok (.iload_n 1, 1) := by decide +kernel
theorem dX7_sheet_83 : decode cX7_sheet 83 = .ok (.iload_n 2, 1) := by decide +kernel
theorem dX7_sheet_84 : decode cX7_sheet 84 = .ok (.invokevirtual 163, 3) := by decide +kernel
theorem dX7_sheet_87 : decode cX7_sheet 87 = .ok (.ireturn, 1) := by decide +kernel
theorem dX7_sheet_88 : decode cX7_sheet 88 = .ok (.iconst (-1), 1) := by decide +kernel
theorem dX7_sheet_89 : decode cX7_sheet 89 = .ok (.ireturn, 1) := by decide +kernel
theorem dX7_isPage_0 : decode cX7_isPage 0 = .ok (.iload_n 2, 1) := by decide +kernel
theorem dX7_isPage_1 : decode cX7_isPage 1 = .ok (.i2l, 1) := by decide +kernel
theorem dX7_isPage_2 : decode cX7_isPage 2 = .ok (.lconst 1, 1) := by decide +kernel
theorem dX7_isPage_3 : decode cX7_isPage 3 = .ok (.aload_n 0, 1) := by decide +kernel
theorem dX7_isPage_4 : decode cX7_isPage 4 = .ok (.getfield 7, 3) := by decide +kernel
theorem dX7_isPage_7 : decode cX7_isPage 7 = .ok (.iload_n 1, 1) := by decide +kernel
theorem dX7_isPage_8 : decode cX7_isPage 8 = .ok (.iaload, 1) := by decide +kernel
theorem dX7_isPage_9 : decode cX7_isPage 9 = .ok (.i2l, 1) := by decide +kernel
theorem dX7_isPage_10 : decode cX7_isPage 10 = .ok (.invokestatic 62, 3) := by decide +kernel
theorem dX7_isPage_13 : decode cX7_isPage 13 = .ok (.ireturn, 1) := by decide +kernel
theorem dX7_where_0 : decode cX7_where 0 = .ok (.aload_n 0, 1) := by decide +kernel
theorem dX7_where_1 : decode cX7_where 1 = .ok (.iload_n 1, 1) := by decide +kernel
theorem dX7_where_2 : decode cX7_where 2 = .ok (.invokevirtual 156, 3) := by decide +kernel
theorem dX7_where_5 : decode cX7_where 5 = .ok (.ifCond .eq 30, 3) := by decide +kernel
theorem dX7_where_8 : decode cX7_where 8 = .ok (.aload_n 0, 1) := by decide +kernel
theorem dX7_where_9 : decode cX7_where 9 = .ok (.iload_n 1, 1) := by decide +kernel
theorem dX7_where_10 : decode cX7_where 10 = .ok (.iload_n 2, 1) := by decide +kernel
theorem dX7_where_11 : decode cX7_where 11 = .ok (.invokevirtual 166, 3) := by decide +kernel
theorem dX7_where_14 : decode cX7_where 14 = .ok (.ifCond .eq 21, 3) := by decide +kernel
theorem dX7_where_17 : decode cX7_where 17 = .ok (.iload_n 3, 1) := by decide +kernel
theorem dX7_where_18 : decode cX7_where 18 = .ok (.i2l, 1) := by decide +kernel
theorem dX7_where_19 : decode cX7_where 19 = .ok (.lconst 0, 1) := by decide +kernel
theorem dX7_where_20 : decode cX7_where 20 = .ok (.aload_n 0, 1) := by decide +kernel
theorem dX7_where_21 : decode cX7_where 21 = .ok (.getfield 13, 3) := by decide +kernel
theorem dX7_where_24 : decode cX7_where 24 = .ok (.iload_n 1, 1) := by decide +kernel
theorem dX7_where_25 : decode cX7_where 25 = .ok (.iaload, 1) := by decide +kernel
theorem dX7_where_26 : decode cX7_where 26 = .ok (.iconst 1, 1) := by decide +kernel
theorem dX7_where_27 : decode cX7_where 27 = .ok (.isub, 1) := by decide +kernel
theorem dX7_where_28 : decode cX7_where 28 = .ok (.i2l, 1) := by decide +kernel
theorem dX7_where_29 : decode cX7_where 29 = .ok (.invokestatic 62, 3) := by decide +kernel
theorem dX7_where_32 : decode cX7_where 32 = .ok (.ifCond .ne 5, 3) := by decide +kernel
theorem dX7_where_35 : decode cX7_where 35 = .ok (.iconst (-1), 1) := by decide +kernel
theorem dX7_where_36 : decode cX7_where 36 = .ok (.ireturn, 1) := by decide +kernel
theorem dX7_where_37 : decode cX7_where 37 = .ok (.aload_n 0, 1) := by decide +kernel
theorem dX7_where_38 : decode cX7_where 38 = .ok (.getfield 16, 3) := by decide +kernel
theorem dX7_where_41 : decode cX7_where 41 = .ok (.iload_n 1, 1) := by decide +kernel
theorem dX7_where_42 : decode cX7_where 42 = .ok (.iaload, 1) := by decide +kernel
theorem dX7_where_43 : decode cX7_where 43 = .ok (.iconst 1, 1) := by decide +kernel
theorem dX7_where_44 : decode cX7_where 44 = .ok (.if_icmp .ne 11, 3) := by decide +kernel
theorem dX7_where_47 : decode cX7_where 47 = .ok (.iload_n 2, 1) := by decide +kernel
theorem dX7_where_48 : decode cX7_where 48 = .ok (.iconst 1, 1) := by decide +kernel
theorem dX7_where_49 : decode cX7_where 49 = .ok (.isub, 1) := by decide +kernel
theorem dX7_where_50 : decode cX7_where 50 = .ok (.iconst 2, 1) := by decide +kernel
theorem dX7_where_51 : decode cX7_where 51 = .ok (.idiv, 1) := by decide +kernel
theorem dX7_where_52 : decode cX7_where 52 = .ok (.goto 6, 3) := by decide +kernel
theorem dX7_where_55 : decode cX7_where 55 = .ok (.iload_n 2, 1) := by decide +kernel
theorem dX7_where_56 : decode cX7_where 56 = .ok (.iconst 1, 1) := by decide +kernel
theorem dX7_where_57 : decode cX7_where 57 = .ok (.isub, 1) := by decide +kernel
theorem dX7_where_58 : decode cX7_where 58 = .ok (.istore 4, 2) := by decide +kernel
theorem dX7_where_60 : decode cX7_where 60 = .ok (.aload_n 0, 1) := by decide +kernel
theorem dX7_where_61 : decode cX7_where 61 = .ok (.getfield 19, 3) := by decide +kernel
theorem dX7_where_64 : decode cX7_where 64 = .ok (.iload_n 1, 1) := by decide +kernel
theorem dX7_where_65 : decode cX7_where 65 = .ok (.iaload, 1) := by decide +kernel
theorem dX7_where_66 : decode cX7_where 66 = .ok (.iconst 1, 1) := by decide +kernel
theorem dX7_where_67 : decode cX7_where 67 = .ok (.if_icmp .ne 16, 3) := by decide +kernel
theorem dX7_where_70 : decode cX7_where 70 = .ok (.iload_n 3, 1) := by decide +kernel
theorem dX7_where_71 : decode cX7_where 71 = .ok (.aload_n 0, 1) := by decide +kernel
theorem dX7_where_72 : decode cX7_where 72 = .ok (.iload_n 1, 1) := by decide +kernel
theorem dX7_where_73 : decode cX7_where 73 = .ok (.invokevirtual 139, 3) := by decide +kernel
theorem dX7_where_76 : decode cX7_where 76 = .ok (.imul, 1) := by decide +kernel
theorem dX7_where_77 : decode cX7_where 77 = .ok (.iload 4, 2) := by decide +kernel
theorem dX7_where_79 : decode cX7_where 79 = .ok (.iadd, 1) := by decide +kernel
theorem dX7_where_80 : decode cX7_where 80 = .ok (.goto 14, 3) := by decide +kernel
theorem dX7_where_83 : decode cX7_where 83 = .ok (.iload 4, 2) := by decide +kernel
theorem dX7_where_85 : decode cX7_where 85 = .ok (.aload_n 0, 1) := by decide +kernel
theorem dX7_where_86 : decode cX7_where 86 = .ok (.getfield 13, 3) := by decide +kernel
theorem dX7_where_89 : decode cX7_where 89 = .ok (.iload_n 1, 1) := by decide +kernel
theorem dX7_where_90 : decode cX7_where 90 = .ok (.iaload, 1) := by decide +kernel
theorem dX7_where_91 : decode cX7_where 91 = .ok (.imul, 1) := by decide +kernel
theorem dX7_where_92 : decode cX7_where 92 = .ok (.iload_n 3, 1) := by decide +kernel
theorem dX7_where_93 : decode cX7_where 93 = .ok (.iadd, 1) := by decide +kernel
theorem dX7_where_94 : decode cX7_where 94 = .ok (.ireturn, 1) := by decide +kernel
theorem dX7_placeOf_0 : decode cX7_placeOf 0 = .ok (.iconst 0, 1) := by decide +kernel
theorem dX7_placeOf_1 : decode cX7_placeOf 1 = .ok (.istore_n 2, 1) := by decide +kernel
theorem dX7_placeOf_2 : decode cX7_placeOf 2 = .ok (.iload_n 2, 1) := by decide +kernel
theorem dX7_placeOf_3 : decode cX7_placeOf 3 = .ok (.aload_n 0, 1) := by decide +kernel
theorem dX7_placeOf_4 : decode cX7_placeOf 4 = .ok (.getfield 29, 3) := by decide +kernel
theorem dX7_placeOf_7 : decode cX7_placeOf 7 = .ok (.iconst 3, 1) := by decide +kernel
theorem dX7_placeOf_8 : decode cX7_placeOf 8 = .ok (.iaload, 1) := by decide +kernel
theorem dX7_placeOf_9 : decode cX7_placeOf 9 = .ok (.if_icmp .ge 24, 3) := by decide +kernel
theorem dX7_placeOf_12 : decode cX7_placeOf 12 = .ok (.aload_n 0, 1) := by decide +kernel
theorem dX7_placeOf_13 : decode cX7_placeOf 13 = .ok (.getfield 29, 3) := by decide +kernel
theorem dX7_placeOf_16 : decode cX7_placeOf 16 = .ok (.bipush 13, 2) := by decide +kernel
theorem dX7_placeOf_18 : decode cX7_placeOf 18 = .ok (.iload_n 2, 1) := by decide +kernel
theorem dX7_placeOf_19 : decode cX7_placeOf 19 = .ok (.iadd, 1) := by decide +kernel
theorem dX7_placeOf_20 : decode cX7_placeOf 20 = .ok (.iaload, 1) := by decide +kernel
theorem dX7_placeOf_21 : decode cX7_placeOf 21 = .ok (.iload_n 1, 1) := by decide +kernel
theorem dX7_placeOf_22 : decode cX7_placeOf 22 = .ok (.if_icmp .ne 5, 3) := by decide +kernel
theorem dX7_placeOf_25 : decode cX7_placeOf 25 = .ok (.iload_n 2, 1) := by decide +kernel
theorem dX7_placeOf_26 : decode cX7_placeOf 26 = .ok (.ireturn, 1) := by decide +kernel
theorem dX7_placeOf_27 : decode cX7_placeOf 27 = .ok (.iinc 2 1, 3) := by decide +kernel
theorem dX7_placeOf_30 : decode cX7_placeOf 30 = .ok (.goto (-28), 3) := by decide +kernel
theorem dX7_placeOf_33 : decode cX7_placeOf 33 = .ok (.bipush (-9), 2) := by decide +kernel
theorem dX7_placeOf_35 : decode cX7_placeOf 35 = .ok (.ireturn, 1) := by decide +kernel
theorem dX7_stands_0 : decode cX7_stands 0 = .ok (.aload_n 0, 1) := by decide +kernel
theorem dX7_stands_1 : decode cX7_stands 1 = .ok (.getfield 29, 3) := by decide +kernel
theorem dX7_stands_4 : decode cX7_stands 4 = .ok (.iconst 3, 1) := by decide +kernel
theorem dX7_stands_5 : decode cX7_stands 5 = .ok (.iaload, 1) := by decide +kernel
theorem dX7_stands_6 : decode cX7_stands 6 = .ok (.ifCond .ne 5, 3) := by decide +kernel
theorem dX7_stands_9 : decode cX7_stands 9 = .ok (.iconst 0, 1) := by decide +kernel
theorem dX7_stands_10 : decode cX7_stands 10 = .ok (.ireturn, 1) := by decide +kernel
theorem dX7_stands_11 : decode cX7_stands 11 = .ok (.aload_n 0, 1) := by decide +kernel
theorem dX7_stands_12 : decode cX7_stands 12 = .ok (.getfield 29, 3) := by decide +kernel
theorem dX7_stands_15 : decode cX7_stands 15 = .ok (.bipush 13, 2) := by decide +kernel
theorem dX7_stands_17 : decode cX7_stands 17 = .ok (.iaload, 1) := by decide +kernel
theorem dX7_stands_18 : decode cX7_stands 18 = .ok (.istore_n 1, 1) := by decide +kernel
theorem dX7_stands_19 : decode cX7_stands 19 = .ok (.aload_n 0, 1) := by decide +kernel
theorem dX7_stands_20 : decode cX7_stands 20 = .ok (.getfield 29, 3) := by decide +kernel
theorem dX7_stands_23 : decode cX7_stands 23 = .ok (.bipush 19, 2) := by decide +kernel
theorem dX7_stands_25 : decode cX7_stands 25 = .ok (.iload_n 1, 1) := by decide +kernel
theorem dX7_stands_26 : decode cX7_stands 26 = .ok (.iadd, 1) := by decide +kernel
theorem dX7_stands_27 : decode cX7_stands 27 = .ok (.iaload, 1) := by decide +kernel
theorem dX7_stands_28 : decode cX7_stands 28 = .ok (.istore_n 2, 1) := by decide +kernel
theorem dX7_stands_29 : decode cX7_stands 29 = .ok (.aload_n 0, 1) := by decide +kernel
theorem dX7_stands_30 : decode cX7_stands 30 = .ok (.getfield 29, 3) := by decide +kernel
theorem dX7_stands_33 : decode cX7_stands 33 = .ok (.iconst 4, 1) := by decide +kernel
theorem dX7_stands_34 : decode cX7_stands 34 = .ok (.aload_n 0, 1) := by decide +kernel
theorem dX7_stands_35 : decode cX7_stands 35 = .ok (.getfield 22, 3) := by decide +kernel
theorem dX7_stands_38 : decode cX7_stands 38 = .ok (.iload_n 1, 1) := by decide +kernel
theorem dX7_stands_39 : decode cX7_stands 39 = .ok (.iaload, 1) := by decide +kernel
theorem dX7_stands_40 : decode cX7_stands 40 = .ok (.iadd, 1) := by decide +kernel
theorem dX7_stands_41 : decode cX7_stands 41 = .ok (.iaload, 1) := by decide +kernel
theorem dX7_stands_42 : decode cX7_stands 42 = .ok (.ifCond .ne 7, 3) := by decide +kernel
theorem dX7_stands_45 : decode cX7_stands 45 = .ok (.iconst 1, 1) := by decide +kernel
theorem dX7_stands_46 : decode cX7_stands 46 = .ok (.goto 46, 3) := by decide +kernel
theorem dX7_stands_49 : decode cX7_stands 49 = .ok (.aload_n 0, 1) := by decide +kernel
theorem dX7_stands_50 : decode cX7_stands 50 = .ok (.getfield 29, 3) := by decide +kernel
theorem dX7_stands_53 : decode cX7_stands 53 = .ok (.iconst 1, 1) := by decide +kernel
theorem dX7_stands_54 : decode cX7_stands 54 = .ok (.iaload, 1) := by decide +kernel
theorem dX7_stands_55 : decode cX7_stands 55 = .ok (.aload_n 0, 1) := by decide +kernel
theorem dX7_stands_56 : decode cX7_stands 56 = .ok (.iload_n 1, 1) := by decide +kernel
theorem dX7_stands_57 : decode cX7_stands 57 = .ok (.iload_n 2, 1) := by decide +kernel
theorem dX7_stands_58 : decode cX7_stands 58 = .ok (.invokevirtual 169, 3) := by decide +kernel
theorem dX7_stands_61 : decode cX7_stands 61 = .ok (.if_icmp .ge 7, 3) := by decide +kernel
theorem dX7_stands_64 : decode cX7_stands 64 = .ok (.iconst 2, 1) := by decide +kernel
theorem dX7_stands_65 : decode cX7_stands 65 = .ok (.goto 27, 3) := by decide +kernel
theorem dX7_stands_68 : decode cX7_stands 68 = .ok (.aload_n 0, 1) := by decide +kernel
theorem dX7_stands_69 : decode cX7_stands 69 = .ok (.getfield 29, 3) := by decide +kernel
theorem dX7_stands_72 : decode cX7_stands 72 = .ok (.bipush 7, 2) := by decide +kernel
theorem dX7_stands_74 : decode cX7_stands 74 = .ok (.aload_n 0, 1) := by decide +kernel
theorem dX7_stands_75 : decode cX7_stands 75 = .ok (.iload_n 1, 1) := by decide +kernel
theorem dX7_stands_76 : decode cX7_stands 76 = .ok (.iload_n 2, 1) := by decide +kernel
theorem dX7_stands_77 : decode cX7_stands 77 = .ok (.invokevirtual 163, 3) := by decide +kernel
theorem dX7_stands_80 : decode cX7_stands 80 = .ok (.iadd, 1) := by decide +kernel
theorem dX7_stands_81 : decode cX7_stands 81 = .ok (.iaload, 1) := by decide +kernel
theorem dX7_stands_82 : decode cX7_stands 82 = .ok (.bipush 20, 2) := by decide +kernel
theorem dX7_stands_84 : decode cX7_stands 84 = .ok (.if_icmp .ne 7, 3) := by decide +kernel
theorem dX7_stands_87 : decode cX7_stands 87 = .ok (.iconst 3, 1) := by decide +kernel
theorem dX7_stands_88 : decode cX7_stands 88 = .ok (.goto 4, 3) := by decide +kernel
theorem dX7_stands_91 : decode cX7_stands 91 = .ok (.iconst 0, 1) := by decide +kernel
theorem dX7_stands_92 : decode cX7_stands 92 = .ok (.ireturn, 1) := by decide +kernel
theorem dX7_leaveAt_0 : decode cX7_leaveAt 0 = .ok (.aload_n 0, 1) := by decide +kernel
theorem dX7_leaveAt_1 : decode cX7_leaveAt 1 = .ok (.getfield 29, 3) := by decide +kernel
theorem dX7_leaveAt_4 : decode cX7_leaveAt 4 = .ok (.iconst 3, 1) := by decide +kernel
theorem dX7_leaveAt_5 : decode cX7_leaveAt 5 = .ok (.dup2, 1) := by decide +kernel
theorem dX7_leaveAt_6 : decode cX7_leaveAt 6 = .ok (.iaload, 1) := by decide +kernel
theorem dX7_leaveAt_7 : decode cX7_leaveAt 7 = .ok (.iconst 1, 1) := by decide +kernel
theorem dX7_leaveAt_8 : decode cX7_leaveAt 8 = .ok (.isub, 1) := by decide +kernel
theorem dX7_leaveAt_9 : decode cX7_leaveAt 9 = .ok (.iastore, 1) := by decide +kernel
theorem dX7_leaveAt_10 : decode cX7_leaveAt 10 = .ok (.iload_n 1, 1) := by decide +kernel
theorem dX7_leaveAt_11 : decode cX7_leaveAt 11 = .ok (.istore_n 2, 1) := by decide +kernel
theorem dX7_leaveAt_12 : decode cX7_leaveAt 12 = .ok (.iload_n 2, 1) := by decide +kernel
theorem dX7_leaveAt_13 : decode cX7_leaveAt 13 = .ok (.aload_n 0, 1) := by decide +kernel
theorem dX7_leaveAt_14 : decode cX7_leaveAt 14 = .ok (.getfield 29, 3) := by decide +kernel
theorem dX7_leaveAt_17 : decode cX7_leaveAt 17 = .ok (.iconst 3, 1) := by decide +kernel
theorem dX7_leaveAt_18 : decode cX7_leaveAt 18 = .ok (.iaload, 1) := by decide +kernel
theorem dX7_leaveAt_19 : decode cX7_leaveAt 19 = .ok (.if_icmp .ge 29, 3) := by decide +kernel
theorem dX7_leaveAt_22 : decode cX7_leaveAt 22 = .ok (.aload_n 0, 1) := by decide +kernel
theorem dX7_leaveAt_23 : decode cX7_leaveAt 23 = .ok (.getfield 29, 3) := by decide +kernel
theorem dX7_leaveAt_26 : decode cX7_leaveAt 26 = .ok (.bipush 13, 2) := by decide +kernel
theorem dX7_leaveAt_28 : decode cX7_leaveAt 28 = .ok (.iload_n 2, 1) := by decide +kernel
theorem dX7_leaveAt_29 : decode cX7_leaveAt 29 = .ok (.iadd, 1) := by decide +kernel
theorem dX7_leaveAt_30 : decode cX7_leaveAt 30 = .ok (.aload_n 0, 1) := by decide +kernel
theorem dX7_leaveAt_31 : decode cX7_leaveAt 31 = .ok (.getfield 29, 3) := by decide +kernel
theorem dX7_leaveAt_34 : decode cX7_leaveAt 34 = .ok (.bipush 13, 2) := by decide +kernel
theorem dX7_leaveAt_36 : decode cX7_leaveAt 36 = .ok (.iload_n 2, 1) := by decide +kernel
theorem dX7_leaveAt_37 : decode cX7_leaveAt 37 = .ok (.iadd, 1) := by decide +kernel
theorem dX7_leaveAt_38 : decode cX7_leaveAt 38 = .ok (.iconst 1, 1) := by decide +kernel
theorem dX7_leaveAt_39 : decode cX7_leaveAt 39 = .ok (.iadd, 1) := by decide +kernel
theorem dX7_leaveAt_40 : decode cX7_leaveAt 40 = .ok (.iaload, 1) := by decide +kernel
theorem dX7_leaveAt_41 : decode cX7_leaveAt 41 = .ok (.iastore, 1) := by decide +kernel
theorem dX7_leaveAt_42 : decode cX7_leaveAt 42 = .ok (.iinc 2 1, 3) := by decide +kernel
theorem dX7_leaveAt_45 : decode cX7_leaveAt 45 = .ok (.goto (-33), 3) := by decide +kernel
theorem dX7_leaveAt_48 : decode cX7_leaveAt 48 = .ok (.aload_n 0, 1) := by decide +kernel
theorem dX7_leaveAt_49 : decode cX7_leaveAt 49 = .ok (.getfield 29, 3) := by decide +kernel
theorem dX7_leaveAt_52 : decode cX7_leaveAt 52 = .ok (.bipush 13, 2) := by decide +kernel
theorem dX7_leaveAt_54 : decode cX7_leaveAt 54 = .ok (.aload_n 0, 1) := by decide +kernel
theorem dX7_leaveAt_55 : decode cX7_leaveAt 55 = .ok (.getfield 29, 3) := by decide +kernel
theorem dX7_leaveAt_58 : decode cX7_leaveAt 58 = .ok (.iconst 3, 1) := by decide +kernel
theorem dX7_leaveAt_59 : decode cX7_leaveAt 59 = .ok (.iaload, 1) := by decide +kernel
theorem dX7_leaveAt_60 : decode cX7_leaveAt 60 = .ok (.iadd, 1) := by decide +kernel
theorem dX7_leaveAt_61 : decode cX7_leaveAt 61 = .ok (.iconst 0, 1) := by decide +kernel
theorem dX7_leaveAt_62 : decode cX7_leaveAt 62 = .ok (.iastore, 1) := by decide +kernel
theorem dX7_leaveAt_63 : decode cX7_leaveAt 63 = .ok (.return_, 1) := by decide +kernel
theorem dX7_oneTick_0 : decode cX7_oneTick 0 = .ok (.aload_n 0, 1) := by decide +kernel
theorem dX7_oneTick_1 : decode cX7_oneTick 1 = .ok (.getfield 29, 3) := by decide +kernel
theorem dX7_oneTick_4 : decode cX7_oneTick 4 = .ok (.iconst 0, 1) := by decide +kernel
theorem dX7_oneTick_5 : decode cX7_oneTick 5 = .ok (.dup2, 1) := by decide +kernel
theorem dX7_oneTick_6 : decode cX7_oneTick 6 = .ok (.iaload, 1) := by decide +kernel
theorem dX7_oneTick_7 : decode cX7_oneTick 7 = .ok (.iconst 1, 1) := by decide +kernel
theorem dX7_oneTick_8 : decode cX7_oneTick 8 = .ok (.iadd, 1) := by decide +kernel
theorem dX7_oneTick_9 : decode cX7_oneTick 9 = .ok (.iastore, 1) := by decide +kernel
theorem dX7_oneTick_10 : decode cX7_oneTick 10 = .ok (.aload_n 0, 1) := by decide +kernel
theorem dX7_oneTick_11 : decode cX7_oneTick 11 = .ok (.getfield 29, 3) := by decide +kernel
theorem dX7_oneTick_14 : decode cX7_oneTick 14 = .ok (.iconst 3, 1) := by decide +kernel
theorem dX7_oneTick_15 : decode cX7_oneTick 15 = .ok (.iaload, 1) := by decide +kernel
theorem dX7_oneTick_16 : decode cX7_oneTick 16 = .ok (.ifCond .eq 10, 3) := by decide +kernel
theorem dX7_oneTick_19 : decode cX7_oneTick 19 = .ok (.aload_n 0, 1) := by decide +kernel
theorem dX7_oneTick_20 : decode cX7_oneTick 20 = .ok (.invokevirtual 172, 3) := by decide +kernel
theorem dX7_oneTick_23 : decode cX7_oneTick 23 = .ok (.ifCond .le 5, 3) := by decide +kernel
theorem dX7_oneTick_26 : decode cX7_oneTick 26 = .ok (.iconst 0, 1) := by decide +kernel
theorem dX7_oneTick_27 : decode cX7_oneTick 27 = .ok (.ireturn, 1) := by decide +kernel
theorem dX7_oneTick_28 : decode cX7_oneTick 28 = .ok (.aload_n 0, 1) := by decide +kernel
theorem dX7_oneTick_29 : decode cX7_oneTick 29 = .ok (.getfield 29, 3) := by decide +kernel
theorem dX7_oneTick_32 : decode cX7_oneTick 32 = .ok (.bipush 13, 2) := by decide +kernel
theorem dX7_oneTick_34 : decode cX7_oneTick 34 = .ok (.iaload, 1) := by decide +kernel
theorem dX7_oneTick_35 : decode cX7_oneTick 35 = .ok (.istore_n 1, 1) := by decide +kernel
theorem dX7_oneTick_36 : decode cX7_oneTick 36 = .ok (.aload_n 0, 1) := by decide +kernel
theorem dX7_oneTick_37 : decode cX7_oneTick 37 = .ok (.getfield 29, 3) := by decide +kernel
theorem dX7_oneTick_40 : decode cX7_oneTick 40 = .ok (.bipush 19, 2) := by decide +kernel
theorem dX7_oneTick_42 : decode cX7_oneTick 42 = .ok (.iload_n 1, 1) := by decide +kernel
theorem dX7_oneTick_43 : decode cX7_oneTick 43 = .ok (.iadd, 1) := by decide +kernel
theorem dX7_oneTick_44 : decode cX7_oneTick 44 = .ok (.iaload, 1) := by decide +kernel
theorem dX7_oneTick_45 : decode cX7_oneTick 45 = .ok (.istore_n 2, 1) := by decide +kernel
theorem dX7_oneTick_46 : decode cX7_oneTick 46 = .ok (.aload_n 0, 1) := by decide +kernel
theorem dX7_oneTick_47 : decode cX7_oneTick 47 = .ok (.iload_n 1, 1) := by decide +kernel
theorem dX7_oneTick_48 : decode cX7_oneTick 48 = .ok (.iload_n 2, 1) := by decide +kernel
theorem dX7_oneTick_49 : decode cX7_oneTick 49 = .ok (.invokevirtual 169, 3) := by decide +kernel
theorem dX7_oneTick_52 : decode cX7_oneTick 52 = .ok (.istore_n 3, 1) := by decide +kernel
theorem dX7_oneTick_53 : decode cX7_oneTick 53 = .ok (.iload_n 3, 1) := by decide +kernel
theorem dX7_oneTick_54 : decode cX7_oneTick 54 = .ok (.iconst 2, 1) := by decide +kernel
theorem dX7_oneTick_55 : decode cX7_oneTick 55 = .ok (.if_icmp .ne 21, 3) := by decide +kernel
theorem dX7_oneTick_58 : decode cX7_oneTick 58 = .ok (.aload_n 0, 1) := by decide +kernel
theorem dX7_oneTick_59 : decode cX7_oneTick 59 = .ok (.getfield 29, 3) := by decide +kernel
theorem dX7_oneTick_62 : decode cX7_oneTick 62 = .ok (.iconst 2, 1) := by decide +kernel
theorem dX7_oneTick_63 : decode cX7_oneTick 63 = .ok (.iaload, 1) := by decide +kernel
theorem dX7_oneTick_64 : decode cX7_oneTick 64 = .ok (.ifCond .ne 12, 3) := by decide +kernel
theorem dX7_oneTick_67 : decode cX7_oneTick 67 = .ok (.aload_n 0, 1) := by decide +kernel
theorem dX7_oneTick_68 : decode cX7_oneTick 68 = .ok (.getfield 29, 3) := by decide +kernel
theorem dX7_oneTick_71 : decode cX7_oneTick 71 = .ok (.iconst 2, 1) := by decide +kernel
theorem dX7_oneTick_72 : decode cX7_oneTick 72 = .ok (.iconst 1, 1) := by decide +kernel
theorem dX7_oneTick_73 : decode cX7_oneTick 73 = .ok (.iastore, 1) := by decide +kernel
theorem dX7_oneTick_74 : decode cX7_oneTick 74 = .ok (.iconst 0, 1) := by decide +kernel
theorem dX7_oneTick_75 : decode cX7_oneTick 75 = .ok (.ireturn, 1) := by decide +kernel
theorem dX7_oneTick_76 : decode cX7_oneTick 76 = .ok (.aload_n 0, 1) := by decide +kernel
theorem dX7_oneTick_77 : decode cX7_oneTick 77 = .ok (.getfield 29, 3) := by decide +kernel
theorem dX7_oneTick_80 : decode cX7_oneTick 80 = .ok (.iconst 2, 1) := by decide +kernel
theorem dX7_oneTick_81 : decode cX7_oneTick 81 = .ok (.iconst 0, 1) := by decide +kernel
theorem dX7_oneTick_82 : decode cX7_oneTick 82 = .ok (.iastore, 1) := by decide +kernel
theorem dX7_oneTick_83 : decode cX7_oneTick 83 = .ok (.aload_n 0, 1) := by decide +kernel
theorem dX7_oneTick_84 : decode cX7_oneTick 84 = .ok (.getfield 29, 3) := by decide +kernel
theorem dX7_oneTick_87 : decode cX7_oneTick 87 = .ok (.iconst 4, 1) := by decide +kernel
theorem dX7_oneTick_88 : decode cX7_oneTick 88 = .ok (.aload_n 0, 1) := by decide +kernel
theorem dX7_oneTick_89 : decode cX7_oneTick 89 = .ok (.getfield 22, 3) := by decide +kernel
theorem dX7_oneTick_92 : decode cX7_oneTick 92 = .ok (.iload_n 1, 1) := by decide +kernel
theorem dX7_oneTick_93 : decode cX7_oneTick 93 = .ok (.iaload, 1) := by decide +kernel
theorem dX7_oneTick_94 : decode cX7_oneTick 94 = .ok (.iadd, 1) := by decide +kernel
theorem dX7_oneTick_95 : decode cX7_oneTick 95 = .ok (.dup2, 1) := by decide +kernel
theorem dX7_oneTick_96 : decode cX7_oneTick 96 = .ok (.iaload, 1) := by decide +kernel
theorem dX7_oneTick_97 : decode cX7_oneTick 97 = .ok (.iconst 1, 1) := by decide +kernel
theorem dX7_oneTick_98 : decode cX7_oneTick 98 = .ok (.isub, 1) := by decide +kernel
theorem dX7_oneTick_99 : decode cX7_oneTick 99 = .ok (.iastore, 1) := by decide +kernel
theorem dX7_oneTick_100 : decode cX7_oneTick 100 = .ok (.aload_n 0, 1) := by decide +kernel
theorem dX7_oneTick_101 : decode cX7_oneTick 101 = .ok (.getfield 29, 3) := by decide +kernel
theorem dX7_oneTick_104 : decode cX7_oneTick 104 = .ok (.iconst 1, 1) := by decide +kernel
theorem dX7_oneTick_105 : decode cX7_oneTick 105 = .ok (.dup2, 1) := by decide +kernel
theorem dX7_oneTick_106 : decode cX7_oneTick 106 = .ok (.iaload, 1) := by decide +kernel
theorem dX7_oneTick_107 : decode cX7_oneTick 107 = .ok (.iload_n 3, 1) := by decide +kernel
theorem dX7_oneTick_108 : decode cX7_oneTick 108 = .ok (.isub, 1) := by decide +kernel
theorem dX7_oneTick_109 : decode cX7_oneTick 109 = .ok (.iastore, 1) := by decide +kernel
theorem dX7_oneTick_110 : decode cX7_oneTick 110 = .ok (.aload_n 0, 1) := by decide +kernel
theorem dX7_oneTick_111 : decode cX7_oneTick 111 = .ok (.getfield 29, 3) := by decide +kernel
theorem dX7_oneTick_114 : decode cX7_oneTick 114 = .ok (.bipush 7, 2) := by decide +kernel
theorem dX7_oneTick_116 : decode cX7_oneTick 116 = .ok (.aload_n 0, 1) := by decide +kernel
theorem dX7_oneTick_117 : decode cX7_oneTick 117 = .ok (.iload_n 1, 1) := by decide +kernel
theorem dX7_oneTick_118 : decode cX7_oneTick 118 = .ok (.iload_n 2, 1) := by decide +kernel
theorem dX7_oneTick_119 : decode cX7_oneTick 119 = .ok (.invokevirtual 163, 3) := by decide +kernel
theorem dX7_oneTick_122 : decode cX7_oneTick 122 = .ok (.iadd, 1) := by decide +kernel
theorem dX7_oneTick_123 : decode cX7_oneTick 123 = .ok (.dup2, 1) := by decide +kernel
theorem dX7_oneTick_124 : decode cX7_oneTick 124 = .ok (.iaload, 1) := by decide +kernel
theorem dX7_oneTick_125 : decode cX7_oneTick 125 = .ok (.iconst 1, 1) := by decide +kernel
theorem dX7_oneTick_126 : decode cX7_oneTick 126 = .ok (.iadd, 1) := by decide +kernel
theorem dX7_oneTick_127 : decode cX7_oneTick 127 = .ok (.iastore, 1) := by decide +kernel
theorem dX7_oneTick_128 : decode cX7_oneTick 128 = .ok (.aload_n 0, 1) := by decide +kernel
theorem dX7_oneTick_129 : decode cX7_oneTick 129 = .ok (.getfield 29, 3) := by decide +kernel
theorem dX7_oneTick_132 : decode cX7_oneTick 132 = .ok (.bipush 19, 2) := by decide +kernel
theorem dX7_oneTick_134 : decode cX7_oneTick 134 = .ok (.iload_n 1, 1) := by decide +kernel
theorem dX7_oneTick_135 : decode cX7_oneTick 135 = .ok (.iadd, 1) := by decide +kernel
theorem dX7_oneTick_136 : decode cX7_oneTick 136 = .ok (.dup2, 1) := by decide +kernel
theorem dX7_oneTick_137 : decode cX7_oneTick 137 = .ok (.iaload, 1) := by decide +kernel
theorem dX7_oneTick_138 : decode cX7_oneTick 138 = .ok (.iconst 1, 1) := by decide +kernel
theorem dX7_oneTick_139 : decode cX7_oneTick 139 = .ok (.iadd, 1) := by decide +kernel
theorem dX7_oneTick_140 : decode cX7_oneTick 140 = .ok (.iastore, 1) := by decide +kernel
theorem dX7_oneTick_141 : decode cX7_oneTick 141 = .ok (.aload_n 0, 1) := by decide +kernel
theorem dX7_oneTick_142 : decode cX7_oneTick 142 = .ok (.getfield 29, 3) := by decide +kernel
theorem dX7_oneTick_145 : decode cX7_oneTick 145 = .ok (.bipush 19, 2) := by decide +kernel
theorem dX7_oneTick_147 : decode cX7_oneTick 147 = .ok (.iload_n 1, 1) := by decide +kernel
theorem dX7_oneTick_148 : decode cX7_oneTick 148 = .ok (.iadd, 1) := by decide +kernel
theorem dX7_oneTick_149 : decode cX7_oneTick 149 = .ok (.iaload, 1) := by decide +kernel
theorem dX7_oneTick_150 : decode cX7_oneTick 150 = .ok (.aload_n 0, 1) := by decide +kernel
theorem dX7_oneTick_151 : decode cX7_oneTick 151 = .ok (.iload_n 1, 1) := by decide +kernel
theorem dX7_oneTick_152 : decode cX7_oneTick 152 = .ok (.invokevirtual 160, 3) := by decide +kernel
theorem dX7_oneTick_155 : decode cX7_oneTick 155 = .ok (.if_icmp .ne 23, 3) := by decide +kernel
theorem dX7_oneTick_158 : decode cX7_oneTick 158 = .ok (.aload_n 0, 1) := by decide +kernel
theorem dX7_oneTick_159 : decode cX7_oneTick 159 = .ok (.getfield 29, 3) := by decide +kernel
theorem dX7_oneTick_162 : decode cX7_oneTick 162 = .ok (.bipush 25, 2) := by decide +kernel
theorem dX7_oneTick_164 : decode cX7_oneTick 164 = .ok (.iload_n 1, 1) := by decide +kernel
theorem dX7_oneTick_165 : decode cX7_oneTick 165 = .ok (.iadd, 1) := by decide +kernel
theorem dX7_oneTick_166 : decode cX7_oneTick 166 = .ok (.aload_n 0, 1) := by decide +kernel
theorem dX7_oneTick_167 : decode cX7_oneTick 167 = .ok (.getfield 29, 3) := by decide +kernel
theorem dX7_oneTick_170 : decode cX7_oneTick 170 = .ok (.iconst 0, 1) := by decide +kernel
theorem dX7_oneTick_171 : decode cX7_oneTick 171 = .ok (.iaload, 1) := by decide +kernel
theorem dX7_oneTick_172 : decode cX7_oneTick 172 = .ok (.iastore, 1) := by decide +kernel
theorem dX7_oneTick_173 : decode cX7_oneTick 173 = .ok (.aload_n 0, 1) := by decide +kernel
theorem dX7_oneTick_174 : decode cX7_oneTick 174 = .ok (.iconst 0, 1) := by decide +kernel
theorem dX7_oneTick_175 : decode cX7_oneTick 175 = .ok (.invokevirtual 175, 3) := by decide +kernel
theorem dX7_oneTick_178 : decode cX7_oneTick 178 = .ok (.iconst 1, 1) := by decide +kernel
theorem dX7_oneTick_179 : decode cX7_oneTick 179 = .ok (.ireturn, 1) := by decide +kernel
theorem dX7_note_0 : decode cX7_note 0 = .ok (.aload_n 0, 1) := by decide +kernel
theorem dX7_note_1 : decode cX7_note 1 = .ok (.getfield 133, 3) := by decide +kernel
theorem dX7_note_4 : decode cX7_note 4 = .ok (.bipush 10, 2) := by decide +kernel
theorem dX7_note_6 : decode cX7_note 6 = .ok (.if_icmp .ne 43, 3) := by decide +kernel
theorem dX7_note_9 : decode cX7_note 9 = .ok (.iconst 0, 1) := by decide +kernel
theorem dX7_note_10 : decode cX7_note 10 = .ok (.istore_n 1, 1) := by decide +kernel
theorem dX7_note_11 : decode cX7_note 11 = .ok (.iload_n 1, 1) := by decide +kernel
theorem dX7_note_12 : decode cX7_note 12 = .ok (.sipush 279, 3) := by decide +kernel
theorem dX7_note_15 : decode cX7_note 15 = .ok (.if_icmp .ge 24, 3) := by decide +kernel
theorem dX7_note_18 : decode cX7_note 18 = .ok (.aload_n 0, 1) := by decide +kernel
theorem dX7_note_19 : decode cX7_note 19 = .ok (.getfield 32, 3) := by decide +kernel
theorem dX7_note_22 : decode cX7_note 22 = .ok (.iload_n 1, 1) := by decide +kernel
theorem dX7_note_23 : decode cX7_note 23 = .ok (.aload_n 0, 1) := by decide +kernel
theorem dX7_note_24 : decode cX7_note 24 = .ok (.getfield 32, 3) := by decide +kernel
theorem dX7_note_27 : decode cX7_note 27 = .ok (.iload_n 1, 1) := by decide +kernel
theorem dX7_note_28 : decode cX7_note 28 = .ok (.bipush 31, 2) := by decide +kernel
theorem dX7_note_30 : decode cX7_note 30 = .ok (.iadd, 1) := by decide +kernel
theorem dX7_note_31 : decode cX7_note 31 = .ok (.iaload, 1) := by decide +kernel
theorem dX7_note_32 : decode cX7_note 32 = .ok (.iastore, 1) := by decide +kernel
theorem dX7_note_33 : decode cX7_note 33 = .ok (.iinc 1 1, 3) := by decide +kernel
theorem dX7_note_36 : decode cX7_note 36 = .ok (.goto (-25), 3) := by decide +kernel
theorem dX7_note_39 : decode cX7_note 39 = .ok (.aload_n 0, 1) := by decide +kernel
theorem dX7_note_40 : decode cX7_note 40 = .ok (.dup, 1) := by decide +kernel
theorem dX7_note_41 : decode cX7_note 41 = .ok (.getfield 133, 3) := by decide +kernel
theorem dX7_note_44 : decode cX7_note 44 = .ok (.iconst 1, 1) := by decide +kernel
theorem dX7_note_45 : decode cX7_note 45 = .ok (.isub, 1) := by decide +kernel
theorem dX7_note_46 : decode cX7_note 46 = .ok (.putfield 133, 3) := by decide +kernel
theorem dX7_note_49 : decode cX7_note 49 = .ok (.iconst 0, 1) := by decide +kernel
theorem dX7_note_50 : decode cX7_note 50 = .ok (.istore_n 1, 1) := by decide +kernel
theorem dX7_note_51 : decode cX7_note 51 = .ok (.iload_n 1, 1) := by decide +kernel
theorem dX7_note_52 : decode cX7_note 52 = .ok (.bipush 31, 2) := by decide +kernel
theorem dX7_note_54 : decode cX7_note 54 = .ok (.if_icmp .ge 29, 3) := by decide +kernel
theorem dX7_note_57 : decode cX7_note 57 = .ok (.aload_n 0, 1) := by decide +kernel
theorem dX7_note_58 : decode cX7_note 58 = .ok (.getfield 32, 3) := by decide +kernel
theorem dX7_note_61 : decode cX7_note 61 = .ok (.bipush 31, 2) := by decide +kernel
theorem dX7_note_63 : decode cX7_note 63 = .ok (.aload_n 0, 1) := by decide +kernel
theorem dX7_note_64 : decode cX7_note 64 = .ok (.getfield 133, 3) := by decide +kernel
theorem dX7_note_67 : decode cX7_note 67 = .ok (.imul, 1) := by decide +kernel
theorem dX7_note_68 : decode cX7_note 68 = .ok (.iload_n 1, 1) := by decide +kernel
theorem dX7_note_69 : decode cX7_note 69 = .ok (.iadd, 1) := by decide +kernel
theorem dX7_note_70 : decode cX7_note 70 = .ok (.aload_n 0, 1) := by decide +kernel
theorem dX7_note_71 : decode cX7_note 71 = .ok (.getfield 29, 3) := by decide +kernel
theorem dX7_note_74 : decode cX7_note 74 = .ok (.iload_n 1, 1) := by decide +kernel
theorem dX7_note_75 : decode cX7_note 75 = .ok (.iaload, 1) := by decide +kernel
theorem dX7_note_76 : decode cX7_note 76 = .ok (.iastore, 1) := by decide +kernel
theorem dX7_note_77 : decode cX7_note 77 = .ok (.iinc 1 1, 3) := by decide +kernel
theorem dX7_note_80 : decode cX7_note 80 = .ok (.goto (-29), 3) := by decide +kernel
theorem dX7_note_83 : decode cX7_note 83 = .ok (.aload_n 0, 1) := by decide +kernel
theorem dX7_note_84 : decode cX7_note 84 = .ok (.dup, 1) := by decide +kernel
theorem dX7_note_85 : decode cX7_note 85 = .ok (.getfield 133, 3) := by decide +kernel
theorem dX7_note_88 : decode cX7_note 88 = .ok (.iconst 1, 1) := by decide +kernel
theorem dX7_note_89 : decode cX7_note 89 = .ok (.iadd, 1) := by decide +kernel
theorem dX7_note_90 : decode cX7_note 90 = .ok (.putfield 133, 3) := by decide +kernel
theorem dX7_note_93 : decode cX7_note 93 = .ok (.return_, 1) := by decide +kernel
theorem dX7_ticks_0 : decode cX7_ticks 0 = .ok (.iload_n 1, 1) := by decide +kernel
theorem dX7_ticks_1 : decode cX7_ticks 1 = .ok (.i2l, 1) := by decide +kernel
theorem dX7_ticks_2 : decode cX7_ticks 2 = .ok (.lconst 1, 1) := by decide +kernel
theorem dX7_ticks_3 : decode cX7_ticks 3 = .ok (.ldc2_w 179, 3) := by decide +kernel
theorem dX7_ticks_6 : decode cX7_ticks 6 = .ok (.invokestatic 62, 3) := by decide +kernel
theorem dX7_ticks_9 : decode cX7_ticks 9 = .ok (.ifCond .ne 5, 3) := by decide +kernel
theorem dX7_ticks_12 : decode cX7_ticks 12 = .ok (.iconst (-1), 1) := by decide +kernel
theorem dX7_ticks_13 : decode cX7_ticks 13 = .ok (.ireturn, 1) := by decide +kernel
theorem dX7_ticks_14 : decode cX7_ticks 14 = .ok (.aload_n 0, 1) := by decide +kernel
theorem dX7_ticks_15 : decode cX7_ticks 15 = .ok (.getfield 29, 3) := by decide +kernel
theorem dX7_ticks_18 : decode cX7_ticks 18 = .ok (.iconst 0, 1) := by decide +kernel
theorem dX7_ticks_19 : decode cX7_ticks 19 = .ok (.iaload, 1) := by decide +kernel
theorem dX7_ticks_20 : decode cX7_ticks 20 = .ok (.iload_n 1, 1) := by decide +kernel
theorem dX7_ticks_21 : decode cX7_ticks 21 = .ok (.iadd, 1) := by decide +kernel
theorem dX7_ticks_22 : decode cX7_ticks 22 = .ok (.sipush 9999, 3) := by decide +kernel
theorem dX7_ticks_25 : decode cX7_ticks 25 = .ok (.if_icmp .le 6, 3) := by decide +kernel
theorem dX7_ticks_28 : decode cX7_ticks 28 = .ok (.bipush (-2), 2) := by decide +kernel
theorem dX7_ticks_30 : decode cX7_ticks 30 = .ok (.ireturn, 1) := by decide +kernel
theorem dX7_ticks_31 : decode cX7_ticks 31 = .ok (.aload_n 0, 1) := by decide +kernel
theorem dX7_ticks_32 : decode cX7_ticks 32 = .ok (.invokevirtual 181, 3) := by decide +kernel
theorem dX7_ticks_35 : decode cX7_ticks 35 = .ok (.iconst 0, 1) := by decide +kernel
theorem dX7_ticks_36 : decode cX7_ticks 36 = .ok (.istore_n 2, 1) := by decide +kernel
theorem dX7_ticks_37 : decode cX7_ticks 37 = .ok (.iconst 0, 1) := by decide +kernel
theorem dX7_ticks_38 : decode cX7_ticks 38 = .ok (.istore_n 3, 1) := by decide +kernel
theorem dX7_ticks_39 : decode cX7_ticks 39 = .ok (.iload_n 3, 1) := by decide +kernel
theorem dX7_ticks_40 : decode cX7_ticks 40 = .ok (.iload_n 1, 1) := by decide +kernel
theorem dX7_ticks_41 : decode cX7_ticks 41 = .ok (.if_icmp .ge 16, 3) := by decide +kernel
theorem dX7_ticks_44 : decode cX7_ticks 44 = .ok (.iload_n 2, 1) := by decide +kernel
theorem dX7_ticks_45 : decode cX7_ticks 45 = .ok (.aload_n 0, 1) := by decide +kernel
theorem dX7_ticks_46 : decode cX7_ticks 46 = .ok (.invokevirtual 184, 3) := by decide +kernel
theorem dX7_ticks_49 : decode cX7_ticks 49 = .ok (.iadd, 1) := by decide +kernel
theorem dX7_ticks_50 : decode cX7_ticks 50 = .ok (.istore_n 2, 1) := by decide +kernel
theorem dX7_ticks_51 : decode cX7_ticks 51 = .ok (.iinc 3 1, 3) := by decide +kernel
theorem dX7_ticks_54 : decode cX7_ticks 54 = .ok (.goto (-15), 3) := by decide +kernel
theorem dX7_ticks_57 : decode cX7_ticks 57 = .ok (.iload_n 2, 1) := by decide +kernel
theorem dX7_ticks_58 : decode cX7_ticks 58 = .ok (.ireturn, 1) := by decide +kernel
theorem dX7_ahead_0 : decode cX7_ahead 0 = .ok (.aload_n 0, 1) := by decide +kernel
theorem dX7_ahead_1 : decode cX7_ahead 1 = .ok (.iload_n 1, 1) := by decide +kernel
theorem dX7_ahead_2 : decode cX7_ahead 2 = .ok (.invokevirtual 156, 3) := by decide +kernel
theorem dX7_ahead_5 : decode cX7_ahead 5 = .ok (.ifCond .ne 5, 3) := by decide +kernel
theorem dX7_ahead_8 : decode cX7_ahead 8 = .ok (.iconst (-1), 1) := by decide +kernel
theorem dX7_ahead_9 : decode cX7_ahead 9 = .ok (.ireturn, 1) := by decide +kernel
theorem dX7_ahead_10 : decode cX7_ahead 10 = .ok (.aload_n 0, 1) := by decide +kernel
theorem dX7_ahead_11 : decode cX7_ahead 11 = .ok (.iload_n 1, 1) := by decide +kernel
theorem dX7_ahead_12 : decode cX7_ahead 12 = .ok (.invokevirtual 187, 3) := by decide +kernel
theorem dX7_ahead_15 : decode cX7_ahead 15 = .ok (.istore_n 2, 1) := by decide +kernel
theorem dX7_ahead_16 : decode cX7_ahead 16 = .ok (.iload_n 2, 1) := by decide +kernel
theorem dX7_ahead_17 : decode cX7_ahead 17 = .ok (.ifCond .gt 6, 3) := by decide +kernel
theorem dX7_ahead_20 : decode cX7_ahead 20 = .ok (.bipush (-2), 2) := by decide +kernel
theorem dX7_ahead_22 : decode cX7_ahead 22 = .ok (.ireturn, 1) := by decide +kernel
theorem dX7_ahead_23 : decode cX7_ahead 23 = .ok (.aload_n 0, 1) := by decide +kernel
theorem dX7_ahead_24 : decode cX7_ahead 24 = .ok (.invokevirtual 181, 3) := by decide +kernel
theorem dX7_ahead_27 : decode cX7_ahead 27 = .ok (.aload_n 0, 1) := by decide +kernel
theorem dX7_ahead_28 : decode cX7_ahead 28 = .ok (.getfield 29, 3) := by decide +kernel
theorem dX7_ahead_31 : decode cX7_ahead 31 = .ok (.bipush 13, 2) := by decide +kernel
theorem dX7_ahead_33 : decode cX7_ahead 33 = .ok (.iaload, 1) := by decide +kernel
theorem dX7_ahead_34 : decode cX7_ahead 34 = .ok (.istore_n 3, 1) := by decide +kernel
theorem dX7_ahead_35 : decode cX7_ahead 35 = .ok (.iload_n 2, 1) := by decide +kernel
theorem dX7_ahead_36 : decode cX7_ahead 36 = .ok (.istore 4, 2) := by decide +kernel
theorem dX7_ahead_38 : decode cX7_ahead 38 = .ok (.iload 4, 2) := by decide +kernel
theorem dX7_ahead_40 : decode cX7_ahead 40 = .ok (.ifCond .le 31, 3) := by decide +kernel
theorem dX7_ahead_43 : decode cX7_ahead 43 = .ok (.aload_n 0, 1) := by decide +kernel
theorem dX7_ahead_44 : decode cX7_ahead 44 = .ok (.getfield 29, 3) := by decide +kernel
theorem dX7_ahead_47 : decode cX7_ahead 47 = .ok (.bipush 13, 2) := by decide +kernel
theorem dX7_ahead_49 : decode cX7_ahead 49 = .ok (.iload 4, 2) := by decide +kernel
theorem dX7_ahead_51 : decode cX7_ahead 51 = .ok (.iadd, 1) := by decide +kernel
theorem dX7_ahead_52 : decode cX7_ahead 52 = .ok (.aload_n 0, 1) := by decide +kernel
theorem dX7_ahead_53 : decode cX7_ahead 53 = .ok (.getfield 29, 3) := by decide +kernel
theorem dX7_ahead_56 : decode cX7_ahead 56 = .ok (.bipush 13, 2) := by decide +kernel
theorem dX7_ahead_58 : decode cX7_ahead 58 = .ok (.iload 4, 2) := by decide +kernel
theorem dX7_ahead_60 : decode cX7_ahead 60 = .ok (.iadd, 1) := by decide +kernel
theorem dX7_ahead_61 : decode cX7_ahead 61 = .ok (.iconst 1, 1) := by decide +kernel
theorem dX7_ahead_62 : decode cX7_ahead 62 = .ok (.isub, 1) := by decide +kernel
theorem dX7_ahead_63 : decode cX7_ahead 63 = .ok (.iaload, 1) := by decide +kernel
theorem dX7_ahead_64 : decode cX7_ahead 64 = .ok (.iastore, 1) := by decide +kernel
theorem dX7_ahead_65 : decode cX7_ahead 65 = .ok (.iinc 4 (-1), 3) := by decide +kernel
theorem dX7_ahead_68 : decode cX7_ahead 68 = .ok (.goto (-30), 3) := by decide +kernel
theorem dX7_ahead_71 : decode cX7_ahead 71 = .ok (.aload_n 0, 1) := by decide +kernel
theorem dX7_ahead_72 : decode cX7_ahead 72 = .ok (.getfield 29, 3) := by decide +kernel
theorem dX7_ahead_75 : decode cX7_ahead 75 = .ok (.bipush 13, 2) := by decide +kernel
theorem dX7_ahead_77 : decode cX7_ahead 77 = .ok (.iload_n 1, 1) := by decide +kernel
theorem dX7_ahead_78 : decode cX7_ahead 78 = .ok (.iastore, 1) := by decide +kernel
theorem dX7_ahead_79 : decode cX7_ahead 79 = .ok (.aload_n 0, 1) := by decide +kernel
theorem dX7_ahead_80 : decode cX7_ahead 80 = .ok (.getfield 29, 3) := by decide +kernel
theorem dX7_ahead_83 : decode cX7_ahead 83 = .ok (.iconst 2, 1) := by decide +kernel
theorem dX7_ahead_84 : decode cX7_ahead 84 = .ok (.iconst 0, 1) := by decide +kernel
theorem dX7_ahead_85 : decode cX7_ahead 85 = .ok (.iastore, 1) := by decide +kernel
theorem dX7_ahead_86 : decode cX7_ahead 86 = .ok (.iload_n 3, 1) := by decide +kernel
theorem dX7_ahead_87 : decode cX7_ahead 87 = .ok (.ireturn, 1) := by decide +kernel
theorem dX7_breaks_0 : decode cX7_breaks 0 = .ok (.aload_n 0, 1) := by decide +kernel
theorem dX7_breaks_1 : decode cX7_breaks 1 = .ok (.iload_n 1, 1) := by decide +kernel
theorem dX7_breaks_2 : decode cX7_breaks 2 = .ok (.invokevirtual 156, 3) := by decide +kernel
theorem dX7_breaks_5 : decode cX7_breaks 5 = .ok (.ifCond .ne 5, 3) := by decide +kernel
theorem dX7_breaks_8 : decode cX7_breaks 8 = .ok (.iconst (-1), 1) := by decide +kernel
theorem dX7_breaks_9 : decode cX7_breaks 9 = .ok (.ireturn, 1) := by decide +kernel
theorem dX7_breaks_10 : decode cX7_breaks 10 = .ok (.aload_n 0, 1) := by decide +kernel
theorem dX7_breaks_11 : decode cX7_breaks 11 = .ok (.iload_n 1, 1) := by decide +kernel
theorem dX7_breaks_12 : decode cX7_breaks 12 = .ok (.invokevirtual 187, 3) := by decide +kernel
theorem dX7_breaks_15 : decode cX7_breaks 15 = .ok (.istore_n 2, 1) := by decide +kernel
theorem dX7_breaks_16 : decode cX7_breaks 16 = .ok (.iload_n 2, 1) := by decide +kernel
theorem dX7_breaks_17 : decode cX7_breaks 17 = .ok (.ifCond .ge 6, 3) := by decide +kernel
theorem dX7_breaks_20 : decode cX7_breaks 20 = .ok (.bipush (-2), 2) := by decide +kernel
theorem dX7_breaks_22 : decode cX7_breaks 22 = .ok (.ireturn, 1) := by decide +kernel
theorem dX7_breaks_23 : decode cX7_breaks 23 = .ok (.aload_n 0, 1) := by decide +kernel
theorem dX7_breaks_24 : decode cX7_breaks 24 = .ok (.invokevirtual 181, 3) := by decide +kernel
theorem dX7_breaks_27 : decode cX7_breaks 27 = .ok (.aload_n 0, 1) := by decide +kernel
theorem dX7_breaks_28 : decode cX7_breaks 28 = .ok (.iload_n 2, 1) := by decide +kernel
theorem dX7_breaks_29 : decode cX7_breaks 29 = .ok (.invokevirtual 175, 3) := by decide +kernel
theorem dX7_breaks_32 : decode cX7_breaks 32 = .ok (.aload_n 0, 1) := by decide +kernel
theorem dX7_breaks_33 : decode cX7_breaks 33 = .ok (.getfield 29, 3) := by decide +kernel
theorem dX7_breaks_36 : decode cX7_breaks 36 = .ok (.iconst 2, 1) := by decide +kernel
theorem dX7_breaks_37 : decode cX7_breaks 37 = .ok (.iload_n 2, 1) := by decide +kernel
theorem dX7_breaks_38 : decode cX7_breaks 38 = .ok (.ifCond .ne 7, 3) := by decide +kernel
theorem dX7_breaks_41 : decode cX7_breaks 41 = .ok (.iconst 0, 1) := by decide +kernel
theorem dX7_breaks_42 : decode cX7_breaks 42 = .ok (.goto 9, 3) := by decide +kernel
theorem dX7_breaks_45 : decode cX7_breaks 45 = .ok (.aload_n 0, 1) := by decide +kernel
theorem dX7_breaks_46 : decode cX7_breaks 46 = .ok (.getfield 29, 3) := by decide +kernel
theorem dX7_breaks_49 : decode cX7_breaks 49 = .ok (.iconst 2, 1) := by decide +kernel
theorem dX7_breaks_50 : decode cX7_breaks 50 = .ok (.iaload, 1) := by decide +kernel
theorem dX7_breaks_51 : decode cX7_breaks 51 = .ok (.iastore, 1) := by decide +kernel
theorem dX7_breaks_52 : decode cX7_breaks 52 = .ok (.aload_n 0, 1) := by decide +kernel
theorem dX7_breaks_53 : decode cX7_breaks 53 = .ok (.getfield 29, 3) := by decide +kernel
theorem dX7_breaks_56 : decode cX7_breaks 56 = .ok (.iconst 3, 1) := by decide +kernel
theorem dX7_breaks_57 : decode cX7_breaks 57 = .ok (.iaload, 1) := by decide +kernel
theorem dX7_breaks_58 : decode cX7_breaks 58 = .ok (.ireturn, 1) := by decide +kernel
theorem dX7_fills_0 : decode cX7_fills 0 = .ok (.iload_n 1, 1) := by decide +kernel
theorem dX7_fills_1 : decode cX7_fills 1 = .ok (.i2l, 1) := by decide +kernel
theorem dX7_fills_2 : decode cX7_fills 2 = .ok (.lconst 0, 1) := by decide +kernel
theorem dX7_fills_3 : decode cX7_fills 3 = .ok (.ldc2_w 190, 3) := by decide +kernel
theorem dX7_fills_6 : decode cX7_fills 6 = .ok (.invokestatic 62, 3) := by decide +kernel
theorem dX7_fills_9 : decode cX7_fills 9 = .ok (.ifCond .eq 15, 3) := by decide +kernel
theorem dX7_fills_12 : decode cX7_fills 12 = .ok (.iload_n 2, 1) := by decide +kernel
theorem dX7_fills_13 : decode cX7_fills 13 = .ok (.i2l, 1) := by decide +kernel
theorem dX7_fills_14 : decode cX7_fills 14 = .ok (.lconst 1, 1) := by decide +kernel
theorem dX7_fills_15 : decode cX7_fills 15 = .ok (.ldc2_w 192, 3) := by decide +kernel
theorem dX7_fills_18 : decode cX7_fills 18 = .ok (.invokestatic 62, 3) := by decide +kernel
theorem dX7_fills_21 : decode cX7_fills 21 = .ok (.ifCond .ne 5, 3) := by decide +kernel
theorem dX7_fills_24 : decode cX7_fills 24 = .ok (.iconst (-1), 1) := by decide +kernel
theorem dX7_fills_25 : decode cX7_fills 25 = .ok (.ireturn, 1) := by decide +kernel
theorem dX7_fills_26 : decode cX7_fills 26 = .ok (.aload_n 0, 1) := by decide +kernel
theorem dX7_fills_27 : decode cX7_fills 27 = .ok (.getfield 29, 3) := by decide +kernel
theorem dX7_fills_30 : decode cX7_fills 30 = .ok (.iconst 4, 1) := by decide +kernel
theorem dX7_fills_31 : decode cX7_fills 31 = .ok (.iload_n 1, 1) := by decide +kernel
theorem dX7_fills_32 : decode cX7_fills 32 = .ok (.iadd, 1) := by decide +kernel
theorem dX7_fills_33 : decode cX7_fills 33 = .ok (.iaload, 1) := by decide +kernel
theorem dX7_fills_34 : decode cX7_fills 34 = .ok (.bipush 99, 2) := by decide +kernel
theorem dX7_fills_36 : decode cX7_fills 36 = .ok (.if_icmp .ne 6, 3) := by decide +kernel
theorem dX7_fills_39 : decode cX7_fills 39 = .ok (.bipush (-2), 2) := by decide +kernel
theorem dX7_fills_41 : decode cX7_fills 41 = .ok (.ireturn, 1) := by decide +kernel
theorem dX7_fills_42 : decode cX7_fills 42 = .ok (.aload_n 0, 1) := by decide +kernel
theorem dX7_fills_43 : decode cX7_fills 43 = .ok (.invokevirtual 181, 3) := by decide +kernel
theorem dX7_fills_46 : decode cX7_fills 46 = .ok (.aload_n 0, 1) := by decide +kernel
theorem dX7_fills_47 : decode cX7_fills 47 = .ok (.getfield 29, 3) := by decide +kernel
theorem dX7_fills_50 : decode cX7_fills 50 = .ok (.iconst 4, 1) := by decide +kernel
theorem dX7_fills_51 : decode cX7_fills 51 = .ok (.iload_n 1, 1) := by decide +kernel
theorem dX7_fills_52 : decode cX7_fills 52 = .ok (.iadd, 1) := by decide +kernel
theorem dX7_fills_53 : decode cX7_fills 53 = .ok (.iaload, 1) := by decide +kernel
theorem dX7_fills_54 : decode cX7_fills 54 = .ok (.iload_n 2, 1) := by decide +kernel
theorem dX7_fills_55 : decode cX7_fills 55 = .ok (.iadd, 1) := by decide +kernel
theorem dX7_fills_56 : decode cX7_fills 56 = .ok (.istore_n 3, 1) := by decide +kernel
theorem dX7_fills_57 : decode cX7_fills 57 = .ok (.aload_n 0, 1) := by decide +kernel
theorem dX7_fills_58 : decode cX7_fills 58 = .ok (.getfield 29, 3) := by decide +kernel
theorem dX7_fills_61 : decode cX7_fills 61 = .ok (.iconst 4, 1) := by decide +kernel
theorem dX7_fills_62 : decode cX7_fills 62 = .ok (.iload_n 1, 1) := by decide +kernel
theorem dX7_fills_63 : decode cX7_fills 63 = .ok (.iadd, 1) := by decide +kernel
theorem dX7_fills_64 : decode cX7_fills 64 = .ok (.iload_n 3, 1) := by decide +kernel
theorem dX7_fills_65 : decode cX7_fills 65 = .ok (.bipush 99, 2) := by decide +kernel
theorem dX7_fills_67 : decode cX7_fills 67 = .ok (.if_icmp .le 8, 3) := by decide +kernel
theorem dX7_fills_70 : decode cX7_fills 70 = .ok (.bipush 99, 2) := by decide +kernel
theorem dX7_fills_72 : decode cX7_fills 72 = .ok (.goto 4, 3) := by decide +kernel
theorem dX7_fills_75 : decode cX7_fills 75 = .ok (.iload_n 3, 1) := by decide +kernel
theorem dX7_fills_76 : decode cX7_fills 76 = .ok (.iastore, 1) := by decide +kernel
theorem dX7_fills_77 : decode cX7_fills 77 = .ok (.aload_n 0, 1) := by decide +kernel
theorem dX7_fills_78 : decode cX7_fills 78 = .ok (.getfield 29, 3) := by decide +kernel
theorem dX7_fills_81 : decode cX7_fills 81 = .ok (.iconst 4, 1) := by decide +kernel
theorem dX7_fills_82 : decode cX7_fills 82 = .ok (.iload_n 1, 1) := by decide +kernel
theorem dX7_fills_83 : decode cX7_fills 83 = .ok (.iadd, 1) := by decide +kernel
theorem dX7_fills_84 : decode cX7_fills 84 = .ok (.iaload, 1) := by decide +kernel
theorem dX7_fills_85 : decode cX7_fills 85 = .ok (.ireturn, 1) := by decide +kernel
theorem dX7_toner_0 : decode cX7_toner 0 = .ok (.iload_n 1, 1) := by decide +kernel
theorem dX7_toner_1 : decode cX7_toner 1 = .ok (.i2l, 1) := by decide +kernel
theorem dX7_toner_2 : decode cX7_toner 2 = .ok (.lconst 1, 1) := by decide +kernel
theorem dX7_toner_3 : decode cX7_toner 3 = .ok (.ldc2_w 194, 3) := by decide +kernel
theorem dX7_toner_6 : decode cX7_toner 6 = .ok (.invokestatic 62, 3) := by decide +kernel
theorem dX7_toner_9 : decode cX7_toner 9 = .ok (.ifCond .ne 5, 3) := by decide +kernel
theorem dX7_toner_12 : decode cX7_toner 12 = .ok (.iconst (-1), 1) := by decide +kernel
theorem dX7_toner_13 : decode cX7_toner 13 = .ok (.ireturn, 1) := by decide +kernel
theorem dX7_toner_14 : decode cX7_toner 14 = .ok (.aload_n 0, 1) := by decide +kernel
theorem dX7_toner_15 : decode cX7_toner 15 = .ok (.getfield 29, 3) := by decide +kernel
theorem dX7_toner_18 : decode cX7_toner 18 = .ok (.iconst 1, 1) := by decide +kernel
theorem dX7_toner_19 : decode cX7_toner 19 = .ok (.iaload, 1) := by decide +kernel
theorem dX7_toner_20 : decode cX7_toner 20 = .ok (.sipush 999, 3) := by decide +kernel
theorem dX7_toner_23 : decode cX7_toner 23 = .ok (.if_icmp .ne 6, 3) := by decide +kernel
theorem dX7_toner_26 : decode cX7_toner 26 = .ok (.bipush (-2), 2) := by decide +kernel
theorem dX7_toner_28 : decode cX7_toner 28 = .ok (.ireturn, 1) := by decide +kernel
theorem dX7_toner_29 : decode cX7_toner 29 = .ok (.aload_n 0, 1) := by decide +kernel
theorem dX7_toner_30 : decode cX7_toner 30 = .ok (.invokevirtual 181, 3) := by decide +kernel
theorem dX7_toner_33 : decode cX7_toner 33 = .ok (.aload_n 0, 1) := by decide +kernel
theorem dX7_toner_34 : decode cX7_toner 34 = .ok (.getfield 29, 3) := by decide +kernel
theorem dX7_toner_37 : decode cX7_toner 37 = .ok (.iconst 1, 1) := by decide +kernel
theorem dX7_toner_38 : decode cX7_toner 38 = .ok (.iaload, 1) := by decide +kernel
theorem dX7_toner_39 : decode cX7_toner 39 = .ok (.iload_n 1, 1) := by decide +kernel
theorem dX7_toner_40 : decode cX7_toner 40 = .ok (.iadd, 1) := by decide +kernel
theorem dX7_toner_41 : decode cX7_toner 41 = .ok (.istore_n 2, 1) := by decide +kernel
theorem dX7_toner_42 : decode cX7_toner 42 = .ok (.aload_n 0, 1) := by decide +kernel
theorem dX7_toner_43 : decode cX7_toner 43 = .ok (.getfield 29, 3) := by decide +kernel
theorem dX7_toner_46 : decode cX7_toner 46 = .ok (.iconst 1, 1) := by decide +kernel
theorem dX7_toner_47 : decode cX7_toner 47 = .ok (.iload_n 2, 1) := by decide +kernel
theorem dX7_toner_48 : decode cX7_toner 48 = .ok (.sipush 999, 3) := by decide +kernel
theorem dX7_toner_51 : decode cX7_toner 51 = .ok (.if_icmp .le 9, 3) := by decide +kernel
theorem dX7_toner_54 : decode cX7_toner 54 = .ok (.sipush 999, 3) := by decide +kernel
theorem dX7_toner_57 : decode cX7_toner 57 = .ok (.goto 4, 3) := by decide +kernel
theorem dX7_toner_60 : decode cX7_toner 60 = .ok (.iload_n 2, 1) := by decide +kernel
theorem dX7_toner_61 : decode cX7_toner 61 = .ok (.iastore, 1) := by decide +kernel
theorem dX7_toner_62 : decode cX7_toner 62 = .ok (.aload_n 0, 1) := by decide +kernel
theorem dX7_toner_63 : decode cX7_toner 63 = .ok (.getfield 29, 3) := by decide +kernel
theorem dX7_toner_66 : decode cX7_toner 66 = .ok (.iconst 1, 1) := by decide +kernel
theorem dX7_toner_67 : decode cX7_toner 67 = .ok (.iaload, 1) := by decide +kernel
theorem dX7_toner_68 : decode cX7_toner 68 = .ok (.ireturn, 1) := by decide +kernel
theorem dX7_empties_0 : decode cX7_empties 0 = .ok (.iload_n 1, 1) := by decide +kernel
theorem dX7_empties_1 : decode cX7_empties 1 = .ok (.i2l, 1) := by decide +kernel
theorem dX7_empties_2 : decode cX7_empties 2 = .ok (.lconst 0, 1) := by decide +kernel
theorem dX7_empties_3 : decode cX7_empties 3 = .ok (.aload_n 0, 1) := by decide +kernel
theorem dX7_empties_4 : decode cX7_empties 4 = .ok (.getfield 25, 3) := by decide +kernel
theorem dX7_empties_7 : decode cX7_empties 7 = .ok (.iconst 1, 1) := by decide +kernel
theorem dX7_empties_8 : decode cX7_empties 8 = .ok (.isub, 1) := by decide +kernel
theorem dX7_empties_9 : decode cX7_empties 9 = .ok (.i2l, 1) := by decide +kernel
theorem dX7_empties_10 : decode cX7_empties 10 = .ok (.invokestatic 62, 3) := by decide +kernel
theorem dX7_empties_13 : decode cX7_empties 13 = .ok (.ifCond .ne 5, 3) := by decide +kernel
theorem dX7_empties_16 : decode cX7_empties 16 = .ok (.iconst (-1), 1) := by decide +kernel
theorem dX7_empties_17 : decode cX7_empties 17 = .ok (.ireturn, 1) := by decide +kernel
theorem dX7_empties_18 : decode cX7_empties 18 = .ok (.aload_n 0, 1) := by decide +kernel
theorem dX7_empties_19 : decode cX7_empties 19 = .ok (.getfield 29, 3) := by decide +kernel
theorem dX7_empties_22 : decode cX7_empties 22 = .ok (.bipush 7, 2) := by decide +kernel
theorem dX7_empties_24 : decode cX7_empties 24 = .ok (.iload_n 1, 1) := by decide +kernel
theorem dX7_empties_25 : decode cX7_empties 25 = .ok (.iadd, 1) := by decide +kernel
theorem dX7_empties_26 : decode cX7_empties 26 = .ok (.iaload, 1) := by decide +kernel
theorem dX7_empties_27 : decode cX7_empties 27 = .ok (.istore_n 2, 1) := by decide +kernel
theorem dX7_empties_28 : decode cX7_empties 28 = .ok (.iload_n 2, 1) := by decide +kernel
theorem dX7_empties_29 : decode cX7_empties 29 = .ok (.ifCond .ne 6, 3) := by decide +kernel
theorem dX7_empties_32 : decode cX7_empties 32 = .ok (.bipush (-2), 2) := by decide +kernel
theorem dX7_empties_34 : decode cX7_empties 34 = .ok (.ireturn, 1) := by decide +kernel
theorem dX7_empties_35 : decode cX7_empties 35 = .ok (.aload_n 0, 1) := by decide +kernel
theorem dX7_empties_36 : decode cX7_empties 36 = .ok (.invokevirtual 181, 3) := by decide +kernel
theorem dX7_empties_39 : decode cX7_empties 39 = .ok (.aload_n 0, 1) := by decide +kernel
theorem dX7_empties_40 : decode cX7_empties 40 = .ok (.getfield 29, 3) := by decide +kernel
theorem dX7_empties_43 : decode cX7_empties 43 = .ok (.bipush 7, 2) := by decide +kernel
theorem dX7_empties_45 : decode cX7_empties 45 = .ok (.iload_n 1, 1) := by decide +kernel
theorem dX7_empties_46 : decode cX7_empties 46 = .ok (.iadd, 1) := by decide +kernel
theorem dX7_empties_47 : decode cX7_empties 47 = .ok (.iconst 0, 1) := by decide +kernel
theorem dX7_empties_48 : decode cX7_empties 48 = .ok (.iastore, 1) := by decide +kernel
theorem dX7_empties_49 : decode cX7_empties 49 = .ok (.iload_n 2, 1) := by decide +kernel
theorem dX7_empties_50 : decode cX7_empties 50 = .ok (.ireturn, 1) := by decide +kernel
theorem dX7_undo_0 : decode cX7_undo 0 = .ok (.aload_n 0, 1) := by decide +kernel
theorem dX7_undo_1 : decode cX7_undo 1 = .ok (.getfield 133, 3) := by decide +kernel
theorem dX7_undo_4 : decode cX7_undo 4 = .ok (.ifCond .ne 6, 3) := by decide +kernel
theorem dX7_undo_7 : decode cX7_undo 7 = .ok (.bipush (-2), 2) := by decide +kernel
theorem dX7_undo_9 : decode cX7_undo 9 = .ok (.ireturn, 1) := by decide +kernel
theorem dX7_undo_10 : decode cX7_undo 10 = .ok (.aload_n 0, 1) := by decide +kernel
theorem dX7_undo_11 : decode cX7_undo 11 = .ok (.dup, 1) := by decide +kernel
theorem dX7_undo_12 : decode cX7_undo 12 = .ok (.getfield 133, 3) := by decide +kernel
theorem dX7_undo_15 : decode cX7_undo 15 = .ok (.iconst 1, 1) := by decide +kernel
theorem dX7_undo_16 : decode cX7_undo 16 = .ok (.isub, 1) := by decide +kernel
theorem dX7_undo_17 : decode cX7_undo 17 = .ok (.putfield 133, 3) := by decide +kernel
theorem dX7_undo_20 : decode cX7_undo 20 = .ok (.iconst 0, 1) := by decide +kernel
theorem dX7_undo_21 : decode cX7_undo 21 = .ok (.istore_n 1, 1) := by decide +kernel
theorem dX7_undo_22 : decode cX7_undo 22 = .ok (.iload_n 1, 1) := by decide +kernel
theorem dX7_undo_23 : decode cX7_undo 23 = .ok (.bipush 31, 2) := by decide +kernel
theorem dX7_undo_25 : decode cX7_undo 25 = .ok (.if_icmp .ge 29, 3) := by decide +kernel
theorem dX7_undo_28 : decode cX7_undo 28 = .ok (.aload_n 0, 1) := by decide +kernel
theorem dX7_undo_29 : decode cX7_undo 29 = .ok (.getfield 29, 3) := by decide +kernel
theorem dX7_undo_32 : decode cX7_undo 32 = .ok (.iload_n 1, 1) := by decide +kernel
theorem dX7_undo_33 : decode cX7_undo 33 = .ok (.aload_n 0, 1) := by decide +kernel
theorem dX7_undo_34 : decode cX7_undo 34 = .ok (.getfield 32, 3) := by decide +kernel
theorem dX7_undo_37 : decode cX7_undo 37 = .ok (.bipush 31, 2) := by decide +kernel
theorem dX7_undo_39 : decode cX7_undo 39 = .ok (.aload_n 0, 1) := by decide +kernel
theorem dX7_undo_40 : decode cX7_undo 40 = .ok (.getfield 133, 3) := by decide +kernel
theorem dX7_undo_43 : decode cX7_undo 43 = .ok (.imul, 1) := by decide +kernel
theorem dX7_undo_44 : decode cX7_undo 44 = .ok (.iload_n 1, 1) := by decide +kernel
theorem dX7_undo_45 : decode cX7_undo 45 = .ok (.iadd, 1) := by decide +kernel
theorem dX7_undo_46 : decode cX7_undo 46 = .ok (.iaload, 1) := by decide +kernel
theorem dX7_undo_47 : decode cX7_undo 47 = .ok (.iastore, 1) := by decide +kernel
theorem dX7_undo_48 : decode cX7_undo 48 = .ok (.iinc 1 1, 3) := by decide +kernel
theorem dX7_undo_51 : decode cX7_undo 51 = .ok (.goto (-29), 3) := by decide +kernel
theorem dX7_undo_54 : decode cX7_undo 54 = .ok (.aload_n 0, 1) := by decide +kernel
theorem dX7_undo_55 : decode cX7_undo 55 = .ok (.getfield 133, 3) := by decide +kernel
theorem dX7_undo_58 : decode cX7_undo 58 = .ok (.ireturn, 1) := by decide +kernel
theorem dX7_inTicks_0 : decode cX7_inTicks 0 = .ok (.aload_n 0, 1) := by decide +kernel
theorem dX7_inTicks_1 : decode cX7_inTicks 1 = .ok (.iload_n 1, 1) := by decide +kernel
theorem dX7_inTicks_2 : decode cX7_inTicks 2 = .ok (.invokevirtual 187, 3) := by decide +kernel
theorem dX7_inTicks_5 : decode cX7_inTicks 5 = .ok (.ifCond .ge 6, 3) := by decide +kernel
theorem dX7_inTicks_8 : decode cX7_inTicks 8 = .ok (.bipush (-9), 2) := by decide +kernel
theorem dX7_inTicks_10 : decode cX7_inTicks 10 = .ok (.ireturn, 1) := by decide +kernel
theorem dX7_inTicks_11 : decode cX7_inTicks 11 = .ok (.iconst 0, 1) := by decide +kernel
theorem dX7_inTicks_12 : decode cX7_inTicks 12 = .ok (.istore_n 2, 1) := by decide +kernel
theorem dX7_inTicks_13 : decode cX7_inTicks 13 = .ok (.iload_n 2, 1) := by decide +kernel
theorem dX7_inTicks_14 : decode cX7_inTicks 14 = .ok (.bipush 31, 2) := by decide +kernel
theorem dX7_inTicks_16 : decode cX7_inTicks 16 = .ok (.if_icmp .ge 21, 3) := by decide +kernel
theorem dX7_inTicks_19 : decode cX7_inTicks 19 = .ok (.aload_n 0, 1) := by decide +kernel
theorem dX7_inTicks_20 : decode cX7_inTicks 20 = .ok (.getfield 47, 3) := by decide +kernel
theorem dX7_inTicks_23 : decode cX7_inTicks 23 = .ok (.iload_n 2, 1) := by decide +kernel
theorem dX7_inTicks_24 : decode cX7_inTicks 24 = .ok (.aload_n 0, 1) := by decide +kernel
theorem dX7_inTicks_25 : decode cX7_inTicks 25 = .ok (.getfield 29, 3) := by decide +kernel
theorem dX7_inTicks_28 : decode cX7_inTicks 28 = .ok (.iload_n 2, 1) := by decide +kernel
theorem dX7_inTicks_29 : decode cX7_inTicks 29 = .ok (.iaload, 1) := by decide +kernel
theorem dX7_inTicks_30 : decode cX7_inTicks 30 = .ok (.iastore, 1) := by decide +kernel
theorem dX7_inTicks_31 : decode cX7_inTicks 31 = .ok (.iinc 2 1, 3) := by decide +kernel
theorem dX7_inTicks_34 : decode cX7_inTicks 34 = .ok (.goto (-21), 3) := by decide +kernel
theorem dX7_inTicks_37 : decode cX7_inTicks 37 = .ok (.iconst 0, 1) := by decide +kernel
theorem dX7_inTicks_38 : decode cX7_inTicks 38 = .ok (.istore_n 2, 1) := by decide +kernel
theorem dX7_inTicks_39 : decode cX7_inTicks 39 = .ok (.aload_n 0, 1) := by decide +kernel
theorem dX7_inTicks_40 : decode cX7_inTicks 40 = .ok (.iload_n 1, 1) := by decide +kernel
theorem dX7_inTicks_41 : decode cX7_inTicks 41 = .ok (.invokevirtual 187, 3) := by decide +kernel
theorem dX7_inTicks_44 : decode cX7_inTicks 44 = .ok (.ifCond .lt 21, 3) := by decide +kernel
theorem dX7_inTicks_47 : decode cX7_inTicks 47 = .ok (.iload_n 2, 1) := by decide +kernel
theorem dX7_inTicks_48 : decode cX7_inTicks 48 = .ok (.sipush 400, 3) := by decide +kernel
theorem dX7_inTicks_51 : decode cX7_inTicks 51 = .ok (.if_icmp .ge 14, 3) := by decide +kernel
theorem dX7_inTicks_54 : decode cX7_inTicks 54 = .ok (.aload_n 0, 1) := by decide +kernel
theorem dX7_inTicks_55 : decode cX7_inTicks 55 = .ok (.invokevirtual 184, 3) := by decide +kernel
theorem dX7_inTicks_58 : decode cX7_inTicks 58 = .ok (.pop, 1) := by decide +kernel
theorem dX7_inTicks_59 : decode cX7_inTicks 59 = .ok (.iinc 2 1, 3) := by decide +kernel
theorem dX7_inTicks_62 : decode cX7_inTicks 62 = .ok (.goto (-23), 3) := by decide +kernel
theorem dX7_inTicks_65 : decode cX7_inTicks 65 = .ok (.aload_n 0, 1) := by decide +kernel
theorem dX7_inTicks_66 : decode cX7_inTicks 66 = .ok (.iload_n 1, 1) := by decide +kernel
theorem dX7_inTicks_67 : decode cX7_inTicks 67 = .ok (.invokevirtual 187, 3) := by decide +kernel
theorem dX7_inTicks_70 : decode cX7_inTicks 70 = .ok (.ifCond .ge 7, 3) := by decide +kernel
theorem dX7_inTicks_73 : decode cX7_inTicks 73 = .ok (.iconst 1, 1) := by decide +kernel
theorem dX7_inTicks_74 : decode cX7_inTicks 74 = .ok (.goto 4, 3) := by decide +kernel
theorem dX7_inTicks_77 : decode cX7_inTicks 77 = .ok (.iconst 0, 1) := by decide +kernel
theorem dX7_inTicks_78 : decode cX7_inTicks 78 = .ok (.istore_n 3, 1) := by decide +kernel
theorem dX7_inTicks_79 : decode cX7_inTicks 79 = .ok (.iconst 0, 1) := by decide +kernel
theorem dX7_inTicks_80 : decode cX7_inTicks 80 = .ok (.istore 4, 2) := by decide +kernel
theorem dX7_inTicks_82 : decode cX7_inTicks 82 = .ok (.iload 4, 2) := by decide +kernel
theorem dX7_inTicks_84 : decode cX7_inTicks 84 = .ok (.bipush 31, 2) := by decide +kernel
theorem dX7_inTicks_86 : decode cX7_inTicks 86 = .ok (.if_icmp .ge 23, 3) := by decide +kernel
theorem dX7_inTicks_89 : decode cX7_inTicks 89 = .ok (.aload_n 0, 1) := by decide +kernel
theorem dX7_inTicks_90 : decode cX7_inTicks 90 = .ok (.getfield 29, 3) := by decide +kernel
theorem dX7_inTicks_93 : decode cX7_inTicks 93 = .ok (.iload 4, 2) := by decide +kernel
theorem dX7_inTicks_95 : decode cX7_inTicks 95 = .ok (.aload_n 0, 1) := by decide +kernel
theorem dX7_inTicks_96 : decode cX7_inTicks 96 = .ok (.getfield 47, 3) := by decide +kernel
theorem dX7_inTicks_99 : decode cX7_inTicks 99 = .ok (.iload 4, 2) := by decide +kernel
theorem dX7_inTicks_101 : decode cX7_inTicks 101 = .ok (.iaload, 1) := by decide +kernel
theorem dX7_inTicks_102 : decode cX7_inTicks 102 = .ok (.iastore, 1) := by decide +kernel
theorem dX7_inTicks_103 : decode cX7_inTicks 103 = .ok (.iinc 4 1, 3) := by decide +kernel
theorem dX7_inTicks_106 : decode cX7_inTicks 106 = .ok (.goto (-24), 3) := by decide +kernel
theorem dX7_inTicks_109 : decode cX7_inTicks 109 = .ok (.iload_n 3, 1) := by decide +kernel
theorem dX7_inTicks_110 : decode cX7_inTicks 110 = .ok (.ifCond .eq 7, 3) := by decide +kernel
theorem dX7_inTicks_113 : decode cX7_inTicks 113 = .ok (.iload_n 2, 1) := by decide +kernel
theorem dX7_inTicks_114 : decode cX7_inTicks 114 = .ok (.goto 5, 3) := by decide +kernel
theorem dX7_inTicks_117 : decode cX7_inTicks 117 = .ok (.bipush (-9), 2) := by decide +kernel
theorem dX7_inTicks_119 : decode cX7_inTicks 119 = .ok (.ireturn, 1) := by decide +kernel
theorem dX7_leftOf_0 : decode cX7_leftOf 0 = .ok (.iconst 0, 1) := by decide +kernel
theorem dX7_leftOf_1 : decode cX7_leftOf 1 = .ok (.istore_n 2, 1) := by decide +kernel
theorem dX7_leftOf_2 : decode cX7_leftOf 2 = .ok (.aload_n 0, 1) := by decide +kernel
theorem dX7_leftOf_3 : decode cX7_leftOf 3 = .ok (.getfield 29, 3) := by decide +kernel
theorem dX7_leftOf_6 : decode cX7_leftOf 6 = .ok (.bipush 19, 2) := by decide +kernel
theorem dX7_leftOf_8 : decode cX7_leftOf 8 = .ok (.iload_n 1, 1) := by decide +kernel
theorem dX7_leftOf_9 : decode cX7_leftOf 9 = .ok (.iadd, 1) := by decide +kernel
theorem dX7_leftOf_10 : decode cX7_leftOf 10 = .ok (.iaload, 1) := by decide +kernel
theorem dX7_leftOf_11 : decode cX7_leftOf 11 = .ok (.istore_n 3, 1) := by decide +kernel
theorem dX7_leftOf_12 : decode cX7_leftOf 12 = .ok (.iload_n 3, 1) := by decide +kernel
theorem dX7_leftOf_13 : decode cX7_leftOf 13 = .ok (.aload_n 0, 1) := by decide +kernel
theorem dX7_leftOf_14 : decode cX7_leftOf 14 = .ok (.iload_n 1, 1) := by decide +kernel
theorem dX7_leftOf_15 : decode cX7_leftOf 15 = .ok (.invokevirtual 160, 3) := by decide +kernel
theorem dX7_leftOf_18 : decode cX7_leftOf 18 = .ok (.if_icmp .ge 26, 3) := by decide +kernel
theorem dX7_leftOf_21 : decode cX7_leftOf 21 = .ok (.aload_n 0, 1) := by decide +kernel
theorem dX7_leftOf_22 : decode cX7_leftOf 22 = .ok (.iload_n 1, 1) := by decide +kernel
theorem dX7_leftOf_23 : decode cX7_leftOf 23 = .ok (.invokevirtual 187, 3) := by decide +kernel
theorem dX7_leftOf_26 : decode cX7_leftOf 26 = .ok (.ifCond .lt 18, 3) := by decide +kernel
theorem dX7_leftOf_29 : decode cX7_leftOf 29 = .ok (.iload_n 2, 1) := by decide +kernel
theorem dX7_leftOf_30 : decode cX7_leftOf 30 = .ok (.aload_n 0, 1) := by decide +kernel
theorem dX7_leftOf_31 : decode cX7_leftOf 31 = .ok (.iload_n 1, 1) := by decide +kernel
theorem dX7_leftOf_32 : decode cX7_leftOf 32 = .ok (.iload_n 3, 1) := by decide +kernel
theorem dX7_leftOf_33 : decode cX7_leftOf 33 = .ok (.invokevirtual 169, 3) := by decide +kernel
theorem dX7_leftOf_36 : decode cX7_leftOf 36 = .ok (.iadd, 1) := by decide +kernel
theorem dX7_leftOf_37 : decode cX7_leftOf 37 = .ok (.istore_n 2, 1) := by decide +kernel
theorem dX7_leftOf_38 : decode cX7_leftOf 38 = .ok (.iinc 3 1, 3) := by decide +kernel
theorem dX7_leftOf_41 : decode cX7_leftOf 41 = .ok (.goto (-29), 3) := by decide +kernel
theorem dX7_leftOf_44 : decode cX7_leftOf 44 = .ok (.iload_n 2, 1) := by decide +kernel
theorem dX7_leftOf_45 : decode cX7_leftOf 45 = .ok (.ireturn, 1) := by decide +kernel
theorem dX7_job_0 : decode cX7_job 0 = .ok (.aload_n 0, 1) := by decide +kernel
theorem dX7_job_1 : decode cX7_job 1 = .ok (.iload_n 1, 1) := by decide +kernel
theorem dX7_job_2 : decode cX7_job 2 = .ok (.invokevirtual 156, 3) := by decide +kernel
theorem dX7_job_5 : decode cX7_job 5 = .ok (.ifCond .ne 5, 3) := by decide +kernel
theorem dX7_job_8 : decode cX7_job 8 = .ok (.iconst (-1), 1) := by decide +kernel
theorem dX7_job_9 : decode cX7_job 9 = .ok (.ireturn, 1) := by decide +kernel
theorem dX7_job_10 : decode cX7_job 10 = .ok (.iload_n 2, 1) := by decide +kernel
theorem dX7_job_11 : decode cX7_job 11 = .ok (.tableswitch 153 0 10 #[57, 64, 71, 78, 85, 92, 98, 108, 114, 141, 147], 57) := by decide +kernel
theorem dX7_job_68 : decode cX7_job 68 = .ok (.aload_n 0, 1) := by decide +kernel
theorem dX7_job_69 : decode cX7_job 69 = .ok (.getfield 7, 3) := by decide +kernel
theorem dX7_job_72 : decode cX7_job 72 = .ok (.iload_n 1, 1) := by decide +kernel
theorem dX7_job_73 : decode cX7_job 73 = .ok (.iaload, 1) := by decide +kernel
theorem dX7_job_74 : decode cX7_job 74 = .ok (.ireturn, 1) := by decide +kernel
theorem dX7_job_75 : decode cX7_job 75 = .ok (.aload_n 0, 1) := by decide +kernel
theorem dX7_job_76 : decode cX7_job 76 = .ok (.getfield 13, 3) := by decide +kernel
theorem dX7_job_79 : decode cX7_job 79 = .ok (.iload_n 1, 1) := by decide +kernel
theorem dX7_job_80 : decode cX7_job 80 = .ok (.iaload, 1) := by decide +kernel
theorem dX7_job_81 : decode cX7_job 81 = .ok (.ireturn, 1) := by decide +kernel
theorem dX7_job_82 : decode cX7_job 82 = .ok (.aload_n 0, 1) := by decide +kernel
theorem dX7_job_83 : decode cX7_job 83 = .ok (.getfield 16, 3) := by decide +kernel
theorem dX7_job_86 : decode cX7_job 86 = .ok (.iload_n 1, 1) := by decide +kernel
theorem dX7_job_87 : decode cX7_job 87 = .ok (.iaload, 1) := by decide +kernel
theorem dX7_job_88 : decode cX7_job 88 = .ok (.ireturn, 1) := by decide +kernel
theorem dX7_job_89 : decode cX7_job 89 = .ok (.aload_n 0, 1) := by decide +kernel
theorem dX7_job_90 : decode cX7_job 90 = .ok (.getfield 19, 3) := by decide +kernel
theorem dX7_job_93 : decode cX7_job 93 = .ok (.iload_n 1, 1) := by decide +kernel
theorem dX7_job_94 : decode cX7_job 94 = .ok (.iaload, 1) := by decide +kernel
theorem dX7_job_95 : decode cX7_job 95 = .ok (.ireturn, 1) := by decide +kernel
theorem dX7_job_96 : decode cX7_job 96 = .ok (.aload_n 0, 1) := by decide +kernel
theorem dX7_job_97 : decode cX7_job 97 = .ok (.getfield 22, 3) := by decide +kernel
theorem dX7_job_100 : decode cX7_job 100 = .ok (.iload_n 1, 1) := by decide +kernel
theorem dX7_job_101 : decode cX7_job 101 = .ok (.iaload, 1) := by decide +kernel
theorem dX7_job_102 : decode cX7_job 102 = .ok (.ireturn, 1) := by decide +kernel
theorem dX7_job_103 : decode cX7_job 103 = .ok (.aload_n 0, 1) := by decide +kernel
theorem dX7_job_104 : decode cX7_job 104 = .ok (.iload_n 1, 1) := by decide +kernel
theorem dX7_job_105 : decode cX7_job 105 = .ok (.invokevirtual 160, 3) := by decide +kernel
theorem dX7_job_108 : decode cX7_job 108 = .ok (.ireturn, 1) := by decide +kernel
theorem dX7_job_109 : decode cX7_job 109 = .ok (.aload_n 0, 1) := by decide +kernel
theorem dX7_job_110 : decode cX7_job 110 = .ok (.getfield 29, 3) := by decide +kernel
theorem dX7_job_113 : decode cX7_job 113 = .ok (.bipush 19, 2) := by decide +kernel
theorem dX7_job_115 : decode cX7_job 115 = .ok (.iload_n 1, 1) := by decide +kernel
theorem dX7_job_116 : decode cX7_job 116 = .ok (.iadd, 1) := by decide +kernel
theorem dX7_job_117 : decode cX7_job 117 = .ok (.iaload, 1) := by decide +kernel
theorem dX7_job_118 : decode cX7_job 118 = .ok (.ireturn, 1) := by decide +kernel
theorem dX7_job_119 : decode cX7_job 119 = .ok (.aload_n 0, 1) := by decide +kernel
theorem dX7_job_120 : decode cX7_job 120 = .ok (.iload_n 1, 1) := by decide +kernel
theorem dX7_job_121 : decode cX7_job 121 = .ok (.invokevirtual 187, 3) := by decide +kernel
theorem dX7_job_124 : decode cX7_job 124 = .ok (.ireturn, 1) := by decide +kernel
theorem dX7_job_125 : decode cX7_job 125 = .ok (.aload_n 0, 1) := by decide +kernel
theorem dX7_job_126 : decode cX7_job 126 = .ok (.getfield 29, 3) := by decide +kernel
theorem dX7_job_129 : decode cX7_job 129 = .ok (.bipush 25, 2) := by decide +kernel
theorem dX7_job_131 : decode cX7_job 131 = .ok (.iload_n 1, 1) := by decide +kernel
theorem dX7_job_132 : decode cX7_job 132 = .ok (.iadd, 1) := by decide +kernel
theorem dX7_job_133 : decode cX7_job 133 = .ok (.iaload, 1) := by decide +kernel
theorem dX7_job_134 : decode cX7_job 134 = .ok (.ifCond .ne 8, 3) := by decide +kernel
theorem dX7_job_137 : decode cX7_job 137 = .ok (.bipush (-9), 2) := by decide +kernel
theorem dX7_job_139 : decode cX7_job 139 = .ok (.goto 12, 3) := by decide +kernel
theorem dX7_job_142 : decode cX7_job 142 = .ok (.aload_n 0, 1) := by decide +kernel
theorem dX7_job_143 : decode cX7_job 143 = .ok (.getfield 29, 3) := by decide +kernel
theorem dX7_job_146 : decode cX7_job 146 = .ok (.bipush 25, 2) := by decide +kernel
theorem dX7_job_148 : decode cX7_job 148 = .ok (.iload_n 1, 1) := by decide +kernel
theorem dX7_job_149 : decode cX7_job 149 = .ok (.iadd, 1) := by decide +kernel
theorem dX7_job_150 : decode cX7_job 150 = .ok (.iaload, 1) := by decide +kernel
theorem dX7_job_151 : decode cX7_job 151 = .ok (.ireturn, 1) := by decide +kernel
theorem dX7_job_152 : decode cX7_job 152 = .ok (.aload_n 0, 1) := by decide +kernel
theorem dX7_job_153 : decode cX7_job 153 = .ok (.iload_n 1, 1) := by decide +kernel
theorem dX7_job_154 : decode cX7_job 154 = .ok (.invokevirtual 196, 3) := by decide +kernel
theorem dX7_job_157 : decode cX7_job 157 = .ok (.ireturn, 1) := by decide +kernel
theorem dX7_job_158 : decode cX7_job 158 = .ok (.aload_n 0, 1) := by decide +kernel
theorem dX7_job_159 : decode cX7_job 159 = .ok (.iload_n 1, 1) := by decide +kernel
theorem dX7_job_160 : decode cX7_job 160 = .ok (.invokevirtual 199, 3) := by decide +kernel
theorem dX7_job_163 : decode cX7_job 163 = .ok (.ireturn, 1) := by decide +kernel
theorem dX7_job_164 : decode cX7_job 164 = .ok (.iconst (-1), 1) := by decide +kernel
theorem dX7_job_165 : decode cX7_job 165 = .ok (.ireturn, 1) := by decide +kernel
theorem dX7_wantsOf_0 : decode cX7_wantsOf 0 = .ok (.aload_n 0, 1) := by decide +kernel
theorem dX7_wantsOf_1 : decode cX7_wantsOf 1 = .ok (.getfield 29, 3) := by decide +kernel
theorem dX7_wantsOf_4 : decode cX7_wantsOf 4 = .ok (.iconst 4, 1) := by decide +kernel
theorem dX7_wantsOf_5 : decode cX7_wantsOf 5 = .ok (.iload_n 1, 1) := by decide +kernel
theorem dX7_wantsOf_6 : decode cX7_wantsOf 6 = .ok (.iadd, 1) := by decide +kernel
theorem dX7_wantsOf_7 : decode cX7_wantsOf 7 = .ok (.iaload, 1) := by decide +kernel
theorem dX7_wantsOf_8 : decode cX7_wantsOf 8 = .ok (.ineg, 1) := by decide +kernel
theorem dX7_wantsOf_9 : decode cX7_wantsOf 9 = .ok (.istore_n 2, 1) := by decide +kernel
theorem dX7_wantsOf_10 : decode cX7_wantsOf 10 = .ok (.iconst 0, 1) := by decide +kernel
theorem dX7_wantsOf_11 : decode cX7_wantsOf 11 = .ok (.istore_n 3, 1) := by decide +kernel
theorem dX7_wantsOf_12 : decode cX7_wantsOf 12 = .ok (.iload_n 3, 1) := by decide +kernel
theorem dX7_wantsOf_13 : decode cX7_wantsOf 13 = .ok (.aload_n 0, 1) := by decide +kernel
theorem dX7_wantsOf_14 : decode cX7_wantsOf 14 = .ok (.getfield 66, 3) := by decide +kernel
theorem dX7_wantsOf_17 : decode cX7_wantsOf 17 = .ok (.if_icmp .ge 49, 3) := by decide +kernel
theorem dX7_wantsOf_20 : decode cX7_wantsOf 20 = .ok (.iload_n 2, 1) := by decide +kernel
theorem dX7_wantsOf_21 : decode cX7_wantsOf 21 = .ok (.aload_n 0, 1) := by decide +kernel
theorem dX7_wantsOf_22 : decode cX7_wantsOf 22 = .ok (.iload_n 3, 1) := by decide +kernel
theorem dX7_wantsOf_23 : decode cX7_wantsOf 23 = .ok (.invokevirtual 187, 3) := by decide +kernel
theorem dX7_wantsOf_26 : decode cX7_wantsOf 26 = .ok (.ifCond .lt 31, 3) := by decide +kernel
theorem dX7_wantsOf_29 : decode cX7_wantsOf 29 = .ok (.aload_n 0, 1) := by decide +kernel
theorem dX7_wantsOf_30 : decode cX7_wantsOf 30 = .ok (.getfield 22, 3) := by decide +kernel
theorem dX7_wantsOf_33 : decode cX7_wantsOf 33 = .ok (.iload_n 3, 1) := by decide +kernel
theorem dX7_wantsOf_34 : decode cX7_wantsOf 34 = .ok (.iaload, 1) := by decide +kernel
theorem dX7_wantsOf_35 : decode cX7_wantsOf 35 = .ok (.iload_n 1, 1) := by decide +kernel
theorem dX7_wantsOf_36 : decode cX7_wantsOf 36 = .ok (.if_icmp .ne 21, 3) := by decide +kernel
theorem dX7_wantsOf_39 : decode cX7_wantsOf 39 = .ok (.aload_n 0, 1) := by decide +kernel
theorem dX7_wantsOf_40 : decode cX7_wantsOf 40 = .ok (.iload_n 3, 1) := by decide +kernel
theorem dX7_wantsOf_41 : decode cX7_wantsOf 41 = .ok (.invokevirtual 160, 3) := by decide +kernel
theorem dX7_wantsOf_44 : decode cX7_wantsOf 44 = .ok (.aload_n 0, 1) := by decide +kernel
theorem dX7_wantsOf_45 : decode cX7_wantsOf 45 = .ok (.getfield 29, 3) := by decide +kernel
theorem dX7_wantsOf_48 : decode cX7_wantsOf 48 = .ok (.bipush 19, 2) := by decide +kernel
theorem dX7_wantsOf_50 : decode cX7_wantsOf 50 = .ok (.iload_n 3, 1) := by decide +kernel
theorem dX7_wantsOf_51 : decode cX7_wantsOf 51 = .ok (.iadd, 1) := by decide +kernel
theorem dX7_wantsOf_52 : decode cX7_wantsOf 52 = .ok (.iaload, 1) := by decide +kernel
theorem dX7_wantsOf_53 : decode cX7_wantsOf 53 = .ok (.isub, 1) := by decide +kernel
theorem dX7_wantsOf_54 : decode cX7_wantsOf 54 = .ok (.goto 4, 3) := by decide +kernel
theorem dX7_wantsOf_57 : decode cX7_wantsOf 57 = .ok (.iconst 0, 1) := by decide +kernel
theorem dX7_wantsOf_58 : decode cX7_wantsOf 58 = .ok (.iadd, 1) := by decide +kernel
theorem dX7_wantsOf_59 : decode cX7_wantsOf 59 = .ok (.istore_n 2, 1) := by decide +kernel
theorem dX7_wantsOf_60 : decode cX7_wantsOf 60 = .ok (.iinc 3 1, 3) := by decide +kernel
theorem dX7_wantsOf_63 : decode cX7_wantsOf 63 = .ok (.goto (-51), 3) := by decide +kernel
theorem dX7_wantsOf_66 : decode cX7_wantsOf 66 = .ok (.iload_n 2, 1) := by decide +kernel
theorem dX7_wantsOf_67 : decode cX7_wantsOf 67 = .ok (.ifCond .ge 7, 3) := by decide +kernel
theorem dX7_wantsOf_70 : decode cX7_wantsOf 70 = .ok (.iconst 0, 1) := by decide +kernel
theorem dX7_wantsOf_71 : decode cX7_wantsOf 71 = .ok (.goto 4, 3) := by decide +kernel
theorem dX7_wantsOf_74 : decode cX7_wantsOf 74 = .ok (.iload_n 2, 1) := by decide +kernel
theorem dX7_wantsOf_75 : decode cX7_wantsOf 75 = .ok (.ireturn, 1) := by decide +kernel
theorem dX7_wantsInk_0 : decode cX7_wantsInk 0 = .ok (.aload_n 0, 1) := by decide +kernel
theorem dX7_wantsInk_1 : decode cX7_wantsInk 1 = .ok (.getfield 29, 3) := by decide +kernel
theorem dX7_wantsInk_4 : decode cX7_wantsInk 4 = .ok (.iconst 1, 1) := by decide +kernel
theorem dX7_wantsInk_5 : decode cX7_wantsInk 5 = .ok (.iaload, 1) := by decide +kernel
theorem dX7_wantsInk_6 : decode cX7_wantsInk 6 = .ok (.ineg, 1) := by decide +kernel
theorem dX7_wantsInk_7 : decode cX7_wantsInk 7 = .ok (.istore_n 1, 1) := by decide +kernel
theorem dX7_wantsInk_8 : decode cX7_wantsInk 8 = .ok (.iconst 0, 1) := by decide +kernel
theorem dX7_wantsInk_9 : decode cX7_wantsInk 9 = .ok (.istore_n 2, 1) := by decide +kernel
theorem dX7_wantsInk_10 : decode cX7_wantsInk 10 = .ok (.iload_n 2, 1) := by decide +kernel
theorem dX7_wantsInk_11 : decode cX7_wantsInk 11 = .ok (.aload_n 0, 1) := by decide +kernel
theorem dX7_wantsInk_12 : decode cX7_wantsInk 12 = .ok (.getfield 66, 3) := by decide +kernel
theorem dX7_wantsInk_15 : decode cX7_wantsInk 15 = .ok (.if_icmp .ge 17, 3) := by decide +kernel
theorem dX7_wantsInk_18 : decode cX7_wantsInk 18 = .ok (.iload_n 1, 1) := by decide +kernel
theorem dX7_wantsInk_19 : decode cX7_wantsInk 19 = .ok (.aload_n 0, 1) := by decide +kernel
theorem dX7_wantsInk_20 : decode cX7_wantsInk 20 = .ok (.iload_n 2, 1) := by decide +kernel
theorem dX7_wantsInk_21 : decode cX7_wantsInk 21 = .ok (.invokevirtual 199, 3) := by decide +kernel
theorem dX7_wantsInk_24 : decode cX7_wantsInk 24 = .ok (.iadd, 1) := by decide +kernel
theorem dX7_wantsInk_25 : decode cX7_wantsInk 25 = .ok (.istore_n 1, 1) := by decide +kernel
theorem dX7_wantsInk_26 : decode cX7_wantsInk 26 = .ok (.iinc 2 1, 3) := by decide +kernel
theorem dX7_wantsInk_29 : decode cX7_wantsInk 29 = .ok (.goto (-19), 3) := by decide +kernel
theorem dX7_wantsInk_32 : decode cX7_wantsInk 32 = .ok (.iload_n 1, 1) := by decide +kernel
theorem dX7_wantsInk_33 : decode cX7_wantsInk 33 = .ok (.ifCond .ge 7, 3) := by decide +kernel
theorem dX7_wantsInk_36 : decode cX7_wantsInk 36 = .ok (.iconst 0, 1) := by decide +kernel
theorem dX7_wantsInk_37 : decode cX7_wantsInk 37 = .ok (.goto 4, 3) := by decide +kernel
theorem dX7_wantsInk_40 : decode cX7_wantsInk 40 = .ok (.iload_n 1, 1) := by decide +kernel
theorem dX7_wantsInk_41 : decode cX7_wantsInk 41 = .ok (.ireturn, 1) := by decide +kernel
theorem dX7_tray_0 : decode cX7_tray 0 = .ok (.iload_n 1, 1) := by decide +kernel
theorem dX7_tray_1 : decode cX7_tray 1 = .ok (.i2l, 1) := by decide +kernel
theorem dX7_tray_2 : decode cX7_tray 2 = .ok (.lconst 0, 1) := by decide +kernel
theorem dX7_tray_3 : decode cX7_tray 3 = .ok (.ldc2_w 190, 3) := by decide +kernel
theorem dX7_tray_6 : decode cX7_tray 6 = .ok (.invokestatic 62, 3) := by decide +kernel
theorem dX7_tray_9 : decode cX7_tray 9 = .ok (.ifCond .eq 10, 3) := by decide +kernel
theorem dX7_tray_12 : decode cX7_tray 12 = .ok (.iload_n 2, 1) := by decide +kernel
theorem dX7_tray_13 : decode cX7_tray 13 = .ok (.invokestatic 202, 3) := by decide +kernel
theorem dX7_tray_16 : decode cX7_tray 16 = .ok (.ifCond .ne 5, 3) := by decide +kernel
theorem dX7_tray_19 : decode cX7_tray 19 = .ok (.iconst (-1), 1) := by decide +kernel
theorem dX7_tray_20 : decode cX7_tray 20 = .ok (.ireturn, 1) := by decide +kernel
theorem dX7_tray_21 : decode cX7_tray 21 = .ok (.iload_n 2, 1) := by decide +kernel
theorem dX7_tray_22 : decode cX7_tray 22 = .ok (.ifCond .ne 14, 3) := by decide +kernel
theorem dX7_tray_25 : decode cX7_tray 25 = .ok (.aload_n 0, 1) := by decide +kernel
theorem dX7_tray_26 : decode cX7_tray 26 = .ok (.getfield 29, 3) := by decide +kernel
theorem dX7_tray_29 : decode cX7_tray 29 = .ok (.iconst 4, 1) := by decide +kernel
theorem dX7_tray_30 : decode cX7_tray 30 = .ok (.iload_n 1, 1) := by decide +kernel
theorem dX7_tray_31 : decode cX7_tray 31 = .ok (.iadd, 1) := by decide +kernel
theorem dX7_tray_32 : decode cX7_tray 32 = .ok (.iaload, 1) := by decide +kernel
theorem dX7_tray_33 : decode cX7_tray 33 = .ok (.goto 8, 3) := by decide +kernel
theorem dX7_tray_36 : decode cX7_tray 36 = .ok (.aload_n 0, 1) := by decide +kernel
theorem dX7_tray_37 : decode cX7_tray 37 = .ok (.iload_n 1, 1) := by decide +kernel
theorem dX7_tray_38 : decode cX7_tray 38 = .ok (.invokevirtual 205, 3) := by decide +kernel
theorem dX7_tray_41 : decode cX7_tray 41 = .ok (.ireturn, 1) := by decide +kernel
theorem dX7_bin_0 : decode cX7_bin 0 = .ok (.iload_n 1, 1) := by decide +kernel
theorem dX7_bin_1 : decode cX7_bin 1 = .ok (.i2l, 1) := by decide +kernel
theorem dX7_bin_2 : decode cX7_bin 2 = .ok (.lconst 0, 1) := by decide +kernel
theorem dX7_bin_3 : decode cX7_bin 3 = .ok (.aload_n 0, 1) := by decide +kernel
theorem dX7_bin_4 : decode cX7_bin 4 = .ok (.getfield 25, 3) := by decide +kernel
theorem dX7_bin_7 : decode cX7_bin 7 = .ok (.iconst 1, 1) := by decide +kernel
theorem dX7_bin_8 : decode cX7_bin 8 = .ok (.isub, 1) := by decide +kernel
theorem dX7_bin_9 : decode cX7_bin 9 = .ok (.i2l, 1) := by decide +kernel
theorem dX7_bin_10 : decode cX7_bin 10 = .ok (.invokestatic 62, 3) := by decide +kernel
theorem dX7_bin_13 : decode cX7_bin 13 = .ok (.ifCond .eq 15, 3) := by decide +kernel
theorem dX7_bin_16 : decode cX7_bin 16 = .ok (.aload_n 0, 1) := by decide +kernel
theorem dX7_bin_17 : decode cX7_bin 17 = .ok (.getfield 29, 3) := by decide +kernel
theorem dX7_bin_20 : decode cX7_bin 20 = .ok (.bipush 7, 2) := by decide +kernel
theorem dX7_bin_22 : decode cX7_bin 22 = .ok (.iload_n 1, 1) := by decide +kernel
theorem dX7_bin_23 : decode cX7_bin 23 = .ok (.iadd, 1) := by decide +kernel
theorem dX7_bin_24 : decode cX7_bin 24 = .ok (.iaload, 1) := by decide +kernel
theorem dX7_bin_25 : decode cX7_bin 25 = .ok (.goto 4, 3) := by decide +kernel
theorem dX7_bin_28 : decode cX7_bin 28 = .ok (.iconst (-1), 1) := by decide +kernel
theorem dX7_bin_29 : decode cX7_bin 29 = .ok (.ireturn, 1) := by decide +kernel
theorem dX7_inBins_0 : decode cX7_inBins 0 = .ok (.iconst 0, 1) := by decide +kernel
theorem dX7_inBins_1 : decode cX7_inBins 1 = .ok (.istore_n 1, 1) := by decide +kernel
theorem dX7_inBins_2 : decode cX7_inBins 2 = .ok (.iconst 0, 1) := by decide +kernel
theorem dX7_inBins_3 : decode cX7_inBins 3 = .ok (.istore_n 2, 1) := by decide +kernel
theorem dX7_inBins_4 : decode cX7_inBins 4 = .ok (.iload_n 2, 1) := by decide +kernel
theorem dX7_inBins_5 : decode cX7_inBins 5 = .ok (.bipush 6, 2) := by decide +kernel
theorem dX7_inBins_7 : decode cX7_inBins 7 = .ok (.if_icmp .ge 21, 3) := by decide +kernel
theorem dX7_inBins_10 : decode cX7_inBins 10 = .ok (.iload_n 1, 1) := by decide +kernel
theorem dX7_inBins_11 : decode cX7_inBins 11 = .ok (.aload_n 0, 1) := by decide +kernel
theorem dX7_inBins_12 : decode cX7_inBins 12 = .ok (.getfield 29, 3) := by decide +kernel
theorem dX7_inBins_15 : decode cX7_inBins 15 = .ok (.bipush 7, 2) := by decide +kernel
theorem dX7_inBins_17 : decode cX7_inBins 17 = .ok (.iload_n 2, 1) := by decide +kernel
theorem dX7_inBins_18 : decode cX7_inBins 18 = .ok (.iadd, 1) := by decide +kernel
theorem dX7_inBins_19 : decode cX7_inBins 19 = .ok (.iaload, 1) := by decide +kernel
theorem dX7_inBins_20 : decode cX7_inBins 20 = .ok (.iadd, 1) := by decide +kernel
theorem dX7_inBins_21 : decode cX7_inBins 21 = .ok (.istore_n 1, 1) := by decide +kernel
theorem dX7_inBins_22 : decode cX7_inBins 22 = .ok (.iinc 2 1, 3) := by decide +kernel
theorem dX7_inBins_25 : decode cX7_inBins 25 = .ok (.goto (-21), 3) := by decide +kernel
theorem dX7_inBins_28 : decode cX7_inBins 28 = .ok (.iload_n 1, 1) := by decide +kernel
theorem dX7_inBins_29 : decode cX7_inBins 29 = .ok (.ireturn, 1) := by decide +kernel
theorem dX7_now_0 : decode cX7_now 0 = .ok (.iload_n 1, 1) := by decide +kernel
theorem dX7_now_1 : decode cX7_now 1 = .ok (.tableswitch 112 0 7 #[47, 54, 61, 83, 88, 95, 102, 107], 47) := by decide +kernel
theorem dX7_now_48 : decode cX7_now 48 = .ok (.aload_n 0, 1) := by decide +kernel
theorem dX7_now_49 : decode cX7_now 49 = .ok (.getfield 29, 3) := by decide +kernel
theorem dX7_now_52 : decode cX7_now 52 = .ok (.iconst 0, 1) := by decide +kernel
theorem dX7_now_53 : decode cX7_now 53 = .ok (.iaload, 1) := by decide +kernel
theorem dX7_now_54 : decode cX7_now 54 = .ok (.ireturn, 1) := by decide +kernel
theorem dX7_now_55 : decode cX7_now 55 = .ok (.aload_n 0, 1) := by decide +kernel
theorem dX7_now_56 : decode cX7_now 56 = .ok (.getfield 29, 3) := by decide +kernel
theorem dX7_now_59 : decode cX7_now 59 = .ok (.iconst 1, 1) := by decide +kernel
theorem dX7_now_60 : decode cX7_now 60 = .ok (.iaload, 1) := by decide +kernel
theorem dX7_now_61 : decode cX7_now 61 = .ok (.ireturn, 1) := by decide +kernel
theorem dX7_now_62 : decode cX7_now 62 = .ok (.aload_n 0, 1) := by decide +kernel
theorem dX7_now_63 : decode cX7_now 63 = .ok (.getfield 29, 3) := by decide +kernel
theorem dX7_now_66 : decode cX7_now 66 = .ok (.iconst 3, 1) := by decide +kernel
theorem dX7_now_67 : decode cX7_now 67 = .ok (.iaload, 1) := by decide +kernel
theorem dX7_now_68 : decode cX7_now 68 = .ok (.ifCond .ne 8, 3) := by decide +kernel
theorem dX7_now_71 : decode cX7_now 71 = .ok (.bipush (-9), 2) := by decide +kernel
theorem dX7_now_73 : decode cX7_now 73 = .ok (.goto 10, 3) := by decide +kernel
theorem dX7_now_76 : decode cX7_now 76 = .ok (.aload_n 0, 1) := by decide +kernel
theorem dX7_now_77 : decode cX7_now 77 = .ok (.getfield 29, 3) := by decide +kernel
theorem dX7_now_80 : decode cX7_now 80 = .ok (.bipush 13, 2) := by decide +kernel
theorem dX7_now_82 : decode cX7_now 82 = .ok (.iaload, 1) := by decide +kernel
theorem dX7_now_83 : decode cX7_now 83 = .ok (.ireturn, 1) := by decide +kernel
theorem dX7_now_84 : decode cX7_now 84 = .ok (.aload_n 0, 1) := by decide +kernel
theorem dX7_now_85 : decode cX7_now 85 = .ok (.invokevirtual 172, 3) := by decide +kernel
theorem dX7_now_88 : decode cX7_now 88 = .ok (.ireturn, 1) := by decide +kernel
theorem dX7_now_89 : decode cX7_now 89 = .ok (.aload_n 0, 1) := by decide +kernel
theorem dX7_now_90 : decode cX7_now 90 = .ok (.getfield 29, 3) := by decide +kernel
theorem dX7_now_93 : decode cX7_now 93 = .ok (.iconst 2, 1) := by decide +kernel
theorem dX7_now_94 : decode cX7_now 94 = .ok (.iaload, 1) := by decide +kernel
theorem dX7_now_95 : decode cX7_now 95 = .ok (.ireturn, 1) := by decide +kernel
theorem dX7_now_96 : decode cX7_now 96 = .ok (.aload_n 0, 1) := by decide +kernel
theorem dX7_now_97 : decode cX7_now 97 = .ok (.getfield 29, 3) := by decide +kernel
theorem dX7_now_100 : decode cX7_now 100 = .ok (.iconst 3, 1) := by decide +kernel
theorem dX7_now_101 : decode cX7_now 101 = .ok (.iaload, 1) := by decide +kernel
theorem dX7_now_102 : decode cX7_now 102 = .ok (.ireturn, 1) := by decide +kernel
theorem dX7_now_103 : decode cX7_now 103 = .ok (.aload_n 0, 1) := by decide +kernel
theorem dX7_now_104 : decode cX7_now 104 = .ok (.invokevirtual 208, 3) := by decide +kernel
theorem dX7_now_107 : decode cX7_now 107 = .ok (.ireturn, 1) := by decide +kernel
theorem dX7_now_108 : decode cX7_now 108 = .ok (.aload_n 0, 1) := by decide +kernel
theorem dX7_now_109 : decode cX7_now 109 = .ok (.invokevirtual 211, 3) := by decide +kernel
theorem dX7_now_112 : decode cX7_now 112 = .ok (.ireturn, 1) := by decide +kernel
theorem dX7_now_113 : decode cX7_now 113 = .ok (.iconst (-1), 1) := by decide +kernel
theorem dX7_now_114 : decode cX7_now 114 = .ok (.ireturn, 1) := by decide +kernel
theorem dX7_shortest_0 : decode cX7_shortest 0 = .ok (.bipush (-9), 2) := by decide +kernel
theorem dX7_shortest_2 : decode cX7_shortest 2 = .ok (.istore_n 2, 1) := by decide +kernel
theorem dX7_shortest_3 : decode cX7_shortest 3 = .ok (.iconst 0, 1) := by decide +kernel
theorem dX7_shortest_4 : decode cX7_shortest 4 = .ok (.istore_n 3, 1) := by decide +kernel
theorem dX7_shortest_5 : decode cX7_shortest 5 = .ok (.iload_n 3, 1) := by decide +kernel
theorem dX7_shortest_6 : decode cX7_shortest 6 = .ok (.aload_n 0, 1) := by decide +kernel
theorem dX7_shortest_7 : decode cX7_shortest 7 = .ok (.getfield 66, 3) := by decide +kernel
theorem dX7_shortest_10 : decode cX7_shortest 10 = .ok (.if_icmp .ge 41, 3) := by decide +kernel
theorem dX7_shortest_13 : decode cX7_shortest 13 = .ok (.iload_n 1, 1) := by decide +kernel
theorem dX7_shortest_14 : decode cX7_shortest 14 = .ok (.iload_n 3, 1) := by decide +kernel
theorem dX7_shortest_15 : decode cX7_shortest 15 = .ok (.ishr, 1) := by decide +kernel
theorem dX7_shortest_16 : decode cX7_shortest 16 = .ok (.iconst 1, 1) := by decide +kernel
theorem dX7_shortest_17 : decode cX7_shortest 17 = .ok (.iand, 1) := by decide +kernel
theorem dX7_shortest_18 : decode cX7_shortest 18 = .ok (.iconst 1, 1) := by decide +kernel
theorem dX7_shortest_19 : decode cX7_shortest 19 = .ok (.if_icmp .ne 24, 3) := by decide +kernel
theorem dX7_shortest_22 : decode cX7_shortest 22 = .ok (.iload_n 2, 1) := by decide +kernel
theorem dX7_shortest_23 : decode cX7_shortest 23 = .ok (.ifCond .lt 16, 3) := by decide +kernel
theorem dX7_shortest_26 : decode cX7_shortest 26 = .ok (.aload_n 0, 1) := by decide +kernel
theorem dX7_shortest_27 : decode cX7_shortest 27 = .ok (.iload_n 3, 1) := by decide +kernel
theorem dX7_shortest_28 : decode cX7_shortest 28 = .ok (.invokevirtual 199, 3) := by decide +kernel
theorem dX7_shortest_31 : decode cX7_shortest 31 = .ok (.aload_n 0, 1) := by decide +kernel
theorem dX7_shortest_32 : decode cX7_shortest 32 = .ok (.iload_n 2, 1) := by decide +kernel
theorem dX7_shortest_33 : decode cX7_shortest 33 = .ok (.invokevirtual 199, 3) := by decide +kernel
theorem dX7_shortest_36 : decode cX7_shortest 36 = .ok (.if_icmp .ge 7, 3) := by decide +kernel
theorem dX7_shortest_39 : decode cX7_shortest 39 = .ok (.iload_n 3, 1) := by decide +kernel
theorem dX7_shortest_40 : decode cX7_shortest 40 = .ok (.goto 4, 3) := by decide +kernel
theorem dX7_shortest_43 : decode cX7_shortest 43 = .ok (.iload_n 2, 1) := by decide +kernel
theorem dX7_shortest_44 : decode cX7_shortest 44 = .ok (.istore_n 2, 1) := by decide +kernel
theorem dX7_shortest_45 : decode cX7_shortest 45 = .ok (.iinc 3 1, 3) := by decide +kernel
theorem dX7_shortest_48 : decode cX7_shortest 48 = .ok (.goto (-43), 3) := by decide +kernel
theorem dX7_shortest_51 : decode cX7_shortest 51 = .ok (.iload_n 2, 1) := by decide +kernel
theorem dX7_shortest_52 : decode cX7_shortest 52 = .ok (.ireturn, 1) := by decide +kernel
theorem dX7_soon_0 : decode cX7_soon 0 = .ok (.iload_n 1, 1) := by decide +kernel
theorem dX7_soon_1 : decode cX7_soon 1 = .ok (.invokestatic 202, 3) := by decide +kernel
theorem dX7_soon_4 : decode cX7_soon 4 = .ok (.ifCond .ne 5, 3) := by decide +kernel
theorem dX7_soon_7 : decode cX7_soon 7 = .ok (.iconst (-1), 1) := by decide +kernel
theorem dX7_soon_8 : decode cX7_soon 8 = .ok (.ireturn, 1) := by decide +kernel
theorem dX7_soon_9 : decode cX7_soon 9 = .ok (.iconst 0, 1) := by decide +kernel
theorem dX7_soon_10 : decode cX7_soon 10 = .ok (.istore_n 2, 1) := by decide +kernel
theorem dX7_soon_11 : decode cX7_soon 11 = .ok (.iconst 0, 1) := by decide +kernel
theorem dX7_soon_12 : decode cX7_soon 12 = .ok (.istore_n 3, 1) := by decide +kernel
theorem dX7_soon_13 : decode cX7_soon 13 = .ok (.iload_n 3, 1) := by decide +kernel
theorem dX7_soon_14 : decode cX7_soon 14 = .ok (.aload_n 0, 1) := by decide +kernel
theorem dX7_soon_15 : decode cX7_soon 15 = .ok (.getfield 29, 3) := by decide +kernel
theorem dX7_soon_18 : decode cX7_soon 18 = .ok (.iconst 3, 1) := by decide +kernel
theorem dX7_soon_19 : decode cX7_soon 19 = .ok (.iaload, 1) := by decide +kernel
theorem dX7_soon_20 : decode cX7_soon 20 = .ok (.if_icmp .ge 23, 3) := by decide +kernel
theorem dX7_soon_23 : decode cX7_soon 23 = .ok (.iload_n 2, 1) := by decide +kernel
theorem dX7_soon_24 : decode cX7_soon 24 = .ok (.iconst 1, 1) := by decide +kernel
theorem dX7_soon_25 : decode cX7_soon 25 = .ok (.aload_n 0, 1) := by decide +kernel
theorem dX7_soon_26 : decode cX7_soon 26 = .ok (.getfield 29, 3) := by decide +kernel
theorem dX7_soon_29 : decode cX7_soon 29 = .ok (.bipush 13, 2) := by decide +kernel
theorem dX7_soon_31 : decode cX7_soon 31 = .ok (.iload_n 3, 1) := by decide +kernel
theorem dX7_soon_32 : decode cX7_soon 32 = .ok (.iadd, 1) := by decide +kernel
theorem dX7_soon_33 : decode cX7_soon 33 = .ok (.iaload, 1) := by decide +kernel
theorem dX7_soon_34 : decode cX7_soon 34 = .ok (.ishl, 1) := by decide +kernel
theorem dX7_soon_35 : decode cX7_soon 35 = .ok (.ior, 1) := by decide +kernel
theorem dX7_soon_36 : decode cX7_soon 36 = .ok (.istore_n 2, 1) := by decide +kernel
theorem dX7_soon_37 : decode cX7_soon 37 = .ok (.iinc 3 1, 3) := by decide +kernel
theorem dX7_soon_40 : decode cX7_soon 40 = .ok (.goto (-27), 3) := by decide +kernel
theorem dX7_soon_43 : decode cX7_soon 43 = .ok (.iconst 0, 1) := by decide +kernel
theorem dX7_soon_44 : decode cX7_soon 44 = .ok (.istore_n 3, 1) := by decide +kernel
theorem dX7_soon_45 : decode cX7_soon 45 = .ok (.iconst 0, 1) := by decide +kernel
theorem dX7_soon_46 : decode cX7_soon 46 = .ok (.istore 4, 2) := by decide +kernel
theorem dX7_soon_48 : decode cX7_soon 48 = .ok (.iconst 0, 1) := by decide +kernel
theorem dX7_soon_49 : decode cX7_soon 49 = .ok (.istore 5, 2) := by decide +kernel
theorem dX7_soon_51 : decode cX7_soon 51 = .ok (.iload_n 2, 1) := by decide +kernel
theorem dX7_soon_52 : decode cX7_soon 52 = .ok (.ifCond .eq 50, 3) := by decide +kernel
theorem dX7_soon_55 : decode cX7_soon 55 = .ok (.aload_n 0, 1) := by decide +kernel
theorem dX7_soon_56 : decode cX7_soon 56 = .ok (.iload_n 2, 1) := by decide +kernel
theorem dX7_soon_57 : decode cX7_soon 57 = .ok (.invokevirtual 214, 3) := by decide +kernel
theorem dX7_soon_60 : decode cX7_soon 60 = .ok (.istore 6, 2) := by decide +kernel
theorem dX7_soon_62 : decode cX7_soon 62 = .ok (.iload 5, 2) := by decide +kernel
theorem dX7_soon_64 : decode cX7_soon 64 = .ok (.aload_n 0, 1) := by decide +kernel
theorem dX7_soon_65 : decode cX7_soon 65 = .ok (.iload 6, 2) := by decide +kernel
theorem dX7_soon_67 : decode cX7_soon 67 = .ok (.invokevirtual 199, 3) := by decide +kernel
theorem dX7_soon_70 : decode cX7_soon 70 = .ok (.iadd, 1) := by decide +kernel
theorem dX7_soon_71 : decode cX7_soon 71 = .ok (.istore 5, 2) := by decide +kernel
theorem dX7_soon_73 : decode cX7_soon 73 = .ok (.iload_n 3, 1) := by decide +kernel
theorem dX7_soon_74 : decode cX7_soon 74 = .ok (.iload 5, 2) := by decide +kernel
theorem dX7_soon_76 : decode cX7_soon 76 = .ok (.iadd, 1) := by decide +kernel
theorem dX7_soon_77 : decode cX7_soon 77 = .ok (.istore_n 3, 1) := by decide +kernel
theorem dX7_soon_78 : decode cX7_soon 78 = .ok (.bipush 10, 2) := by decide +kernel
theorem dX7_soon_80 : decode cX7_soon 80 = .ok (.iload 4, 2) := by decide +kernel
theorem dX7_soon_82 : decode cX7_soon 82 = .ok (.imul, 1) := by decide +kernel
theorem dX7_soon_83 : decode cX7_soon 83 = .ok (.iload 6, 2) := by decide +kernel
theorem dX7_soon_85 : decode cX7_soon 85 = .ok (.iadd, 1) := by decide +kernel
theorem dX7_soon_86 : decode cX7_soon 86 = .ok (.iconst 1, 1) := by decide +kernel
theorem dX7_soon_87 : decode cX7_soon 87 = .ok (.iadd, 1) := by decide +kernel
theorem dX7_soon_88 : decode cX7_soon 88 = .ok (.istore 4, 2) := by decide +kernel
theorem dX7_soon_90 : decode cX7_soon 90 = .ok (.iload_n 2, 1) := by decide +kernel
theorem dX7_soon_91 : decode cX7_soon 91 = .ok (.iconst 1, 1) := by decide +kernel
theorem dX7_soon_92 : decode cX7_soon 92 = .ok (.iload 6, 2) := by decide +kernel
theorem dX7_soon_94 : decode cX7_soon 94 = .ok (.ishl, 1) := by decide +kernel
theorem dX7_soon_95 : decode cX7_soon 95 = .ok (.iconst (-1), 1) := by decide +kernel
theorem dX7_soon_96 : decode cX7_soon 96 = .ok (.ixor, 1) := by decide +kernel
theorem dX7_soon_97 : decode cX7_soon 97 = .ok (.iand, 1) := by decide +kernel
theorem dX7_soon_98 : decode cX7_soon 98 = .ok (.istore_n 2, 1) := by decide +kernel
theorem dX7_soon_99 : decode cX7_soon 99 = .ok (.goto (-48), 3) := by decide +kernel
theorem dX7_soon_102 : decode cX7_soon 102 = .ok (.iload_n 1, 1) := by decide +kernel
theorem dX7_soon_103 : decode cX7_soon 103 = .ok (.ifCond .ne 7, 3) := by decide +kernel
theorem dX7_soon_106 : decode cX7_soon 106 = .ok (.iload_n 3, 1) := by decide +kernel
theorem dX7_soon_107 : decode cX7_soon 107 = .ok (.goto 5, 3) := by decide +kernel
theorem dX7_soon_110 : decode cX7_soon 110 = .ok (.iload 4, 2) := by decide +kernel
theorem dX7_soon_112 : decode cX7_soon 112 = .ok (.ireturn, 1) := by decide +kernel
theorem dX7_choose_0 : decode cX7_choose 0 = .ok (.lconst 1, 1) := by decide +kernel
theorem dX7_choose_1 : decode cX7_choose 1 = .ok (.lstore_n 2, 1) := by decide +kernel
theorem dX7_choose_2 : decode cX7_choose 2 = .ok (.iconst 0, 1) := by decide +kernel
theorem dX7_choose_3 : decode cX7_choose 3 = .ok (.istore 4, 2) := by decide +kernel
theorem dX7_choose_5 : decode cX7_choose 5 = .ok (.iload 4, 2) := by decide +kernel
theorem dX7_choose_7 : decode cX7_choose 7 = .ok (.iload_n 1, 1) := by decide +kernel
theorem dX7_choose_8 : decode cX7_choose 8 = .ok (.if_icmp .ge 23, 3) := by decide +kernel
theorem dX7_choose_11 : decode cX7_choose 11 = .ok (.lload_n 2, 1) := by decide +kernel
theorem dX7_choose_12 : decode cX7_choose 12 = .ok (.iload_n 0, 1) := by decide +kernel
theorem dX7_choose_13 : decode cX7_choose 13 = .ok (.iload 4, 2) := by decide +kernel
theorem dX7_choose_15 : decode cX7_choose 15 = .ok (.isub, 1) := by decide +kernel
theorem dX7_choose_16 : decode cX7_choose 16 = .ok (.i2l, 1) := by decide +kernel
theorem dX7_choose_17 : decode cX7_choose 17 = .ok (.lmul, 1) := by decide +kernel
theorem dX7_choose_18 : decode cX7_choose 18 = .ok (.iload 4, 2) := by decide +kernel
theorem dX7_choose_20 : decode cX7_choose 20 = .ok (.iconst 1, 1) := by decide +kernel
theorem dX7_choose_21 : decode cX7_choose 21 = .ok (.iadd, 1) := by decide +kernel
theorem dX7_choose_22 : decode cX7_choose 22 = .ok (.i2l, 1) := by decide +kernel
theorem dX7_choose_23 : decode cX7_choose 23 = .ok (.ldiv, 1) := by decide +kernel
theorem dX7_choose_24 : decode cX7_choose 24 = .ok (.lstore_n 2, 1) := by decide +kernel
theorem dX7_choose_25 : decode cX7_choose 25 = .ok (.iinc 4 1, 3) := by decide +kernel
theorem dX7_choose_28 : decode cX7_choose 28 = .ok (.goto (-23), 3) := by decide +kernel
theorem dX7_choose_31 : decode cX7_choose 31 = .ok (.lload_n 2, 1) := by decide +kernel
theorem dX7_choose_32 : decode cX7_choose 32 = .ok (.lreturn, 1) := by decide +kernel
theorem dX7_odds_0 : decode cX7_odds 0 = .ok (.aload_n 0, 1) := by decide +kernel
theorem dX7_odds_1 : decode cX7_odds 1 = .ok (.iload_n 1, 1) := by decide +kernel
theorem dX7_odds_2 : decode cX7_odds 2 = .ok (.invokevirtual 156, 3) := by decide +kernel
