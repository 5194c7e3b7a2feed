theorem dX6_keep_11 : decode cX6_keep 11 = .ok (.ifCond .lt 12, 3) := by decide +kernel
theorem dX6_keep_14 : decode cX6_keep 14 = .ok (.iload_n 1, 1) := by decide +kernel
theorem dX6_keep_15 : decode cX6_keep 15 = .ok (.aload_n 0, 1) := by decide +kernel
theorem dX6_keep_16 : decode cX6_keep 16 = .ok (.getfield 41, 3) := by decide +kernel
theorem dX6_keep_19 : decode cX6_keep 19 = .ok (.arraylength, 1) := by decide +kernel
theorem dX6_keep_20 : decode cX6_keep 20 = .ok (.if_icmp .lt 5, 3) := by decide +kernel
theorem dX6_keep_23 : decode cX6_keep 23 = .ok (.iconst (-1), 1) := by decide +kernel
theorem dX6_keep_24 : decode cX6_keep 24 = .ok (.ireturn, 1) := by decide +kernel
theorem dX6_keep_25 : decode cX6_keep 25 = .ok (.aload_n 2, 1) := by decide +kernel
theorem dX6_keep_26 : decode cX6_keep 26 = .ok (.aload_n 0, 1) := by decide +kernel
theorem dX6_keep_27 : decode cX6_keep 27 = .ok (.getfield 19, 3) := by decide +kernel
theorem dX6_keep_30 : decode cX6_keep 30 = .ok (.invokevirtual 263, 3) := by decide +kernel
theorem dX6_keep_33 : decode cX6_keep 33 = .ok (.aload_n 0, 1) := by decide +kernel
theorem dX6_keep_34 : decode cX6_keep 34 = .ok (.getfield 41, 3) := by decide +kernel
theorem dX6_keep_37 : decode cX6_keep 37 = .ok (.iload_n 1, 1) := by decide +kernel
theorem dX6_keep_38 : decode cX6_keep 38 = .ok (.iconst 1, 1) := by decide +kernel
theorem dX6_keep_39 : decode cX6_keep 39 = .ok (.bastore, 1) := by decide +kernel
theorem dX6_keep_40 : decode cX6_keep 40 = .ok (.aload_n 0, 1) := by decide +kernel
theorem dX6_keep_41 : decode cX6_keep 41 = .ok (.getfield 19, 3) := by decide +kernel
theorem dX6_keep_44 : decode cX6_keep 44 = .ok (.getfield 104, 3) := by decide +kernel
theorem dX6_keep_47 : decode cX6_keep 47 = .ok (.getfield 164, 3) := by decide +kernel
theorem dX6_keep_50 : decode cX6_keep 50 = .ok (.ireturn, 1) := by decide +kernel
theorem dX6_back_0 : decode cX6_back 0 = .ok (.aload_n 0, 1) := by decide +kernel
theorem dX6_back_1 : decode cX6_back 1 = .ok (.iload_n 1, 1) := by decide +kernel
theorem dX6_back_2 : decode cX6_back 2 = .ok (.invokevirtual 259, 3) := by decide +kernel
theorem dX6_back_5 : decode cX6_back 5 = .ok (.astore_n 2, 1) := by decide +kernel
theorem dX6_back_6 : decode cX6_back 6 = .ok (.aload_n 2, 1) := by decide +kernel
theorem dX6_back_7 : decode cX6_back 7 = .ok (.ifnull 16, 3) := by decide +kernel
theorem dX6_back_10 : decode cX6_back 10 = .ok (.iload_n 1, 1) := by decide +kernel
theorem dX6_back_11 : decode cX6_back 11 = .ok (.ifCond .lt 12, 3) := by decide +kernel
theorem dX6_back_14 : decode cX6_back 14 = .ok (.iload_n 1, 1) := by decide +kernel
theorem dX6_back_15 : decode cX6_back 15 = .ok (.aload_n 0, 1) := by decide +kernel
theorem dX6_back_16 : decode cX6_back 16 = .ok (.getfield 41, 3) := by decide +kernel
theorem dX6_back_19 : decode cX6_back 19 = .ok (.arraylength, 1) := by decide +kernel
theorem dX6_back_20 : decode cX6_back 20 = .ok (.if_icmp .lt 5, 3) := by decide +kernel
theorem dX6_back_23 : decode cX6_back 23 = .ok (.iconst (-1), 1) := by decide +kernel
theorem dX6_back_24 : decode cX6_back 24 = .ok (.ireturn, 1) := by decide +kernel
theorem dX6_back_25 : decode cX6_back 25 = .ok (.aload_n 0, 1) := by decide +kernel
theorem dX6_back_26 : decode cX6_back 26 = .ok (.getfield 41, 3) := by decide +kernel
theorem dX6_back_29 : decode cX6_back 29 = .ok (.iload_n 1, 1) := by decide +kernel
theorem dX6_back_30 : decode cX6_back 30 = .ok (.baload, 1) := by decide +kernel
theorem dX6_back_31 : decode cX6_back 31 = .ok (.ifCond .ne 6, 3) := by decide +kernel
theorem dX6_back_34 : decode cX6_back 34 = .ok (.bipush (-2), 2) := by decide +kernel
theorem dX6_back_36 : decode cX6_back 36 = .ok (.ireturn, 1) := by decide +kernel
theorem dX6_back_37 : decode cX6_back 37 = .ok (.aload_n 0, 1) := by decide +kernel
theorem dX6_back_38 : decode cX6_back 38 = .ok (.getfield 19, 3) := by decide +kernel
theorem dX6_back_41 : decode cX6_back 41 = .ok (.aload_n 2, 1) := by decide +kernel
theorem dX6_back_42 : decode cX6_back 42 = .ok (.invokevirtual 263, 3) := by decide +kernel
theorem dX6_back_45 : decode cX6_back 45 = .ok (.aload_n 0, 1) := by decide +kernel
theorem dX6_back_46 : decode cX6_back 46 = .ok (.getfield 19, 3) := by decide +kernel
theorem dX6_back_49 : decode cX6_back 49 = .ok (.getfield 104, 3) := by decide +kernel
theorem dX6_back_52 : decode cX6_back 52 = .ok (.getfield 164, 3) := by decide +kernel
theorem dX6_back_55 : decode cX6_back 55 = .ok (.ireturn, 1) := by decide +kernel
theorem dX6_count_0 : decode cX6_count 0 = .ok (.iload_n 1, 1) := by decide +kernel
theorem dX6_count_1 : decode cX6_count 1 = .ok (.tableswitch 75 0 4 #[35, 43, 51, 59, 67], 35) := by decide +kernel
theorem dX6_count_36 : decode cX6_count 36 = .ok (.aload_n 0, 1) := by decide +kernel
theorem dX6_count_37 : decode cX6_count 37 = .ok (.getfield 48, 3) := by decide +kernel
theorem dX6_count_40 : decode cX6_count 40 = .ok (.getfield 267, 3) := by decide +kernel
theorem dX6_count_43 : decode cX6_count 43 = .ok (.ireturn, 1) := by decide +kernel
theorem dX6_count_44 : decode cX6_count 44 = .ok (.aload_n 0, 1) := by decide +kernel
theorem dX6_count_45 : decode cX6_count 45 = .ok (.getfield 48, 3) := by decide +kernel
theorem dX6_count_48 : decode cX6_count 48 = .ok (.getfield 269, 3) := by decide +kernel
theorem dX6_count_51 : decode cX6_count 51 = .ok (.ireturn, 1) := by decide +kernel
theorem dX6_count_52 : decode cX6_count 52 = .ok (.aload_n 0, 1) := by decide +kernel
theorem dX6_count_53 : decode cX6_count 53 = .ok (.getfield 33, 3) := by decide +kernel
theorem dX6_count_56 : decode cX6_count 56 = .ok (.getfield 227, 3) := by decide +kernel
theorem dX6_count_59 : decode cX6_count 59 = .ok (.ireturn, 1) := by decide +kernel
theorem dX6_count_60 : decode cX6_count 60 = .ok (.aload_n 0, 1) := by decide +kernel
theorem dX6_count_61 : decode cX6_count 61 = .ok (.getfield 19, 3) := by decide +kernel
theorem dX6_count_64 : decode cX6_count 64 = .ok (.getfield 199, 3) := by decide +kernel
theorem dX6_count_67 : decode cX6_count 67 = .ok (.ireturn, 1) := by decide +kernel
theorem dX6_count_68 : decode cX6_count 68 = .ok (.aload_n 0, 1) := by decide +kernel
theorem dX6_count_69 : decode cX6_count 69 = .ok (.getfield 10, 3) := by decide +kernel
theorem dX6_count_72 : decode cX6_count 72 = .ok (.getfield 272, 3) := by decide +kernel
theorem dX6_count_75 : decode cX6_count 75 = .ok (.ireturn, 1) := by decide +kernel
theorem dX6_count_76 : decode cX6_count 76 = .ok (.iconst (-1), 1) := by decide +kernel
theorem dX6_count_77 : decode cX6_count 77 = .ok (.ireturn, 1) := by decide +kernel
theorem dX6_trace_0 : decode cX6_trace 0 = .ok (.aload_n 0, 1) := by decide +kernel
theorem dX6_trace_1 : decode cX6_trace 1 = .ok (.getfield 275, 3) := by decide +kernel
theorem dX6_trace_4 : decode cX6_trace 4 = .ok (.lreturn, 1) := by decide +kernel
theorem dX6_endsIn_0 : decode cX6_endsIn 0 = .ok (.aload_n 0, 1) := by decide +kernel
theorem dX6_endsIn_1 : decode cX6_endsIn 1 = .ok (.getfield 19, 3) := by decide +kernel
theorem dX6_endsIn_4 : decode cX6_endsIn 4 = .ok (.getfield 104, 3) := by decide +kernel
theorem dX6_endsIn_7 : decode cX6_endsIn 7 = .ok (.iload_n 1, 1) := by decide +kernel
theorem dX6_endsIn_8 : decode cX6_endsIn 8 = .ok (.invokevirtual 110, 3) := by decide +kernel
theorem dX6_endsIn_11 : decode cX6_endsIn 11 = .ok (.bipush (-9), 2) := by decide +kernel
theorem dX6_endsIn_13 : decode cX6_endsIn 13 = .ok (.if_icmp .ne 6, 3) := by decide +kernel
theorem dX6_endsIn_16 : decode cX6_endsIn 16 = .ok (.bipush (-9), 2) := by decide +kernel
theorem dX6_endsIn_18 : decode cX6_endsIn 18 = .ok (.ireturn, 1) := by decide +kernel
theorem dX6_endsIn_19 : decode cX6_endsIn 19 = .ok (.aload_n 0, 1) := by decide +kernel
theorem dX6_endsIn_20 : decode cX6_endsIn 20 = .ok (.getfield 26, 3) := by decide +kernel
theorem dX6_endsIn_23 : decode cX6_endsIn 23 = .ok (.aload_n 0, 1) := by decide +kernel
theorem dX6_endsIn_24 : decode cX6_endsIn 24 = .ok (.getfield 19, 3) := by decide +kernel
theorem dX6_endsIn_27 : decode cX6_endsIn 27 = .ok (.getfield 104, 3) := by decide +kernel
theorem dX6_endsIn_30 : decode cX6_endsIn 30 = .ok (.invokevirtual 279, 3) := by decide +kernel
theorem dX6_endsIn_33 : decode cX6_endsIn 33 = .ok (.iconst 1, 1) := by decide +kernel
theorem dX6_endsIn_34 : decode cX6_endsIn 34 = .ok (.istore_n 2, 1) := by decide +kernel
theorem dX6_endsIn_35 : decode cX6_endsIn 35 = .ok (.iload_n 2, 1) := by decide +kernel
theorem dX6_endsIn_36 : decode cX6_endsIn 36 = .ok (.sipush 400, 3) := by decide +kernel
theorem dX6_endsIn_39 : decode cX6_endsIn 39 = .ok (.if_icmp .gt 53, 3) := by decide +kernel
theorem dX6_endsIn_42 : decode cX6_endsIn 42 = .ok (.aload_n 0, 1) := by decide +kernel
theorem dX6_endsIn_43 : decode cX6_endsIn 43 = .ok (.getfield 26, 3) := by decide +kernel
theorem dX6_endsIn_46 : decode cX6_endsIn 46 = .ok (.aload_n 0, 1) := by decide +kernel
theorem dX6_endsIn_47 : decode cX6_endsIn 47 = .ok (.getfield 48, 3) := by decide +kernel
theorem dX6_endsIn_50 : decode cX6_endsIn 50 = .ok (.invokevirtual 205, 3) := by decide +kernel
theorem dX6_endsIn_53 : decode cX6_endsIn 53 = .ok (.ifCond .eq 6, 3) := by decide +kernel
theorem dX6_endsIn_56 : decode cX6_endsIn 56 = .ok (.bipush (-9), 2) := by decide +kernel
theorem dX6_endsIn_58 : decode cX6_endsIn 58 = .ok (.ireturn, 1) := by decide +kernel
theorem dX6_endsIn_59 : decode cX6_endsIn 59 = .ok (.aload_n 0, 1) := by decide +kernel
theorem dX6_endsIn_60 : decode cX6_endsIn 60 = .ok (.getfield 26, 3) := by decide +kernel
theorem dX6_endsIn_63 : decode cX6_endsIn 63 = .ok (.aload_n 0, 1) := by decide +kernel
theorem dX6_endsIn_64 : decode cX6_endsIn 64 = .ok (.getfield 48, 3) := by decide +kernel
theorem dX6_endsIn_67 : decode cX6_endsIn 67 = .ok (.invokevirtual 170, 3) := by decide +kernel
theorem dX6_endsIn_70 : decode cX6_endsIn 70 = .ok (.pop, 1) := by decide +kernel
theorem dX6_endsIn_71 : decode cX6_endsIn 71 = .ok (.aload_n 0, 1) := by decide +kernel
theorem dX6_endsIn_72 : decode cX6_endsIn 72 = .ok (.getfield 26, 3) := by decide +kernel
theorem dX6_endsIn_75 : decode cX6_endsIn 75 = .ok (.iload_n 1, 1) := by decide +kernel
theorem dX6_endsIn_76 : decode cX6_endsIn 76 = .ok (.invokevirtual 110, 3) := by decide +kernel
theorem dX6_endsIn_79 : decode cX6_endsIn 79 = .ok (.bipush (-9), 2) := by decide +kernel
theorem dX6_endsIn_81 : decode cX6_endsIn 81 = .ok (.if_icmp .ne 5, 3) := by decide +kernel
theorem dX6_endsIn_84 : decode cX6_endsIn 84 = .ok (.iload_n 2, 1) := by decide +kernel
theorem dX6_endsIn_85 : decode cX6_endsIn 85 = .ok (.ireturn, 1) := by decide +kernel
theorem dX6_endsIn_86 : decode cX6_endsIn 86 = .ok (.iinc 2 1, 3) := by decide +kernel
theorem dX6_endsIn_89 : decode cX6_endsIn 89 = .ok (.goto (-54), 3) := by decide +kernel
theorem dX6_endsIn_92 : decode cX6_endsIn 92 = .ok (.bipush (-9), 2) := by decide +kernel
theorem dX6_endsIn_94 : decode cX6_endsIn 94 = .ok (.ireturn, 1) := by decide +kernel
theorem dX6_shortestBut_0 : decode cX6_shortestBut 0 = .ok (.bipush (-9), 2) := by decide +kernel
theorem dX6_shortestBut_2 : decode cX6_shortestBut 2 = .ok (.istore_n 2, 1) := by decide +kernel
theorem dX6_shortestBut_3 : decode cX6_shortestBut 3 = .ok (.iconst 0, 1) := by decide +kernel
theorem dX6_shortestBut_4 : decode cX6_shortestBut 4 = .ok (.istore_n 3, 1) := by decide +kernel
theorem dX6_shortestBut_5 : decode cX6_shortestBut 5 = .ok (.iconst 0, 1) := by decide +kernel
theorem dX6_shortestBut_6 : decode cX6_shortestBut 6 = .ok (.istore 4, 2) := by decide +kernel
theorem dX6_shortestBut_8 : decode cX6_shortestBut 8 = .ok (.iload 4, 2) := by decide +kernel
theorem dX6_shortestBut_10 : decode cX6_shortestBut 10 = .ok (.aload_n 0, 1) := by decide +kernel
theorem dX6_shortestBut_11 : decode cX6_shortestBut 11 = .ok (.getfield 48, 3) := by decide +kernel
theorem dX6_shortestBut_14 : decode cX6_shortestBut 14 = .ok (.getfield 269, 3) := by decide +kernel
theorem dX6_shortestBut_17 : decode cX6_shortestBut 17 = .ok (.if_icmp .ge 74, 3) := by decide +kernel
theorem dX6_shortestBut_20 : decode cX6_shortestBut 20 = .ok (.aload_n 0, 1) := by decide +kernel
theorem dX6_shortestBut_21 : decode cX6_shortestBut 21 = .ok (.getfield 19, 3) := by decide +kernel
theorem dX6_shortestBut_24 : decode cX6_shortestBut 24 = .ok (.getfield 104, 3) := by decide +kernel
theorem dX6_shortestBut_27 : decode cX6_shortestBut 27 = .ok (.iload 4, 2) := by decide +kernel
theorem dX6_shortestBut_29 : decode cX6_shortestBut 29 = .ok (.invokevirtual 110, 3) := by decide +kernel
theorem dX6_shortestBut_32 : decode cX6_shortestBut 32 = .ok (.bipush (-9), 2) := by decide +kernel
theorem dX6_shortestBut_34 : decode cX6_shortestBut 34 = .ok (.if_icmp .eq 51, 3) := by decide +kernel
theorem dX6_shortestBut_37 : decode cX6_shortestBut 37 = .ok (.iload_n 1, 1) := by decide +kernel
theorem dX6_shortestBut_38 : decode cX6_shortestBut 38 = .ok (.iload 4, 2) := by decide +kernel
theorem dX6_shortestBut_40 : decode cX6_shortestBut 40 = .ok (.ishr, 1) := by decide +kernel
theorem dX6_shortestBut_41 : decode cX6_shortestBut 41 = .ok (.iconst 1, 1) := by decide +kernel
theorem dX6_shortestBut_42 : decode cX6_shortestBut 42 = .ok (.iand, 1) := by decide +kernel
theorem dX6_shortestBut_43 : decode cX6_shortestBut 43 = .ok (.ifCond .eq 6, 3) := by decide +kernel
theorem dX6_shortestBut_46 : decode cX6_shortestBut 46 = .ok (.goto 39, 3) := by decide +kernel
theorem dX6_shortestBut_49 : decode cX6_shortestBut 49 = .ok (.aload_n 0, 1) := by decide +kernel
theorem dX6_shortestBut_50 : decode cX6_shortestBut 50 = .ok (.getfield 19, 3) := by decide +kernel
theorem dX6_shortestBut_53 : decode cX6_shortestBut 53 = .ok (.getfield 104, 3) := by decide +kernel
theorem dX6_shortestBut_56 : decode cX6_shortestBut 56 = .ok (.aload_n 0, 1) := by decide +kernel
theorem dX6_shortestBut_57 : decode cX6_shortestBut 57 = .ok (.getfield 48, 3) := by decide +kernel
theorem dX6_shortestBut_60 : decode cX6_shortestBut 60 = .ok (.iload 4, 2) := by decide +kernel
theorem dX6_shortestBut_62 : decode cX6_shortestBut 62 = .ok (.invokevirtual 119, 3) := by decide +kernel
theorem dX6_shortestBut_65 : decode cX6_shortestBut 65 = .ok (.istore 5, 2) := by decide +kernel
theorem dX6_shortestBut_67 : decode cX6_shortestBut 67 = .ok (.iload_n 2, 1) := by decide +kernel
theorem dX6_shortestBut_68 : decode cX6_shortestBut 68 = .ok (.bipush (-9), 2) := by decide +kernel
theorem dX6_shortestBut_70 : decode cX6_shortestBut 70 = .ok (.if_icmp .eq 9, 3) := by decide +kernel
theorem dX6_shortestBut_73 : decode cX6_shortestBut 73 = .ok (.iload 5, 2) := by decide +kernel
theorem dX6_shortestBut_75 : decode cX6_shortestBut 75 = .ok (.iload_n 3, 1) := by decide +kernel
theorem dX6_shortestBut_76 : decode cX6_shortestBut 76 = .ok (.if_icmp .ge 9, 3) := by decide +kernel
theorem dX6_shortestBut_79 : decode cX6_shortestBut 79 = .ok (.iload 4, 2) := by decide +kernel
theorem dX6_shortestBut_81 : decode cX6_shortestBut 81 = .ok (.istore_n 2, 1) := by decide +kernel
theorem dX6_shortestBut_82 : decode cX6_shortestBut 82 = .ok (.iload 5, 2) := by decide +kernel
theorem dX6_shortestBut_84 : decode cX6_shortestBut 84 = .ok (.istore_n 3, 1) := by decide +kernel
theorem dX6_shortestBut_85 : decode cX6_shortestBut 85 = .ok (.iinc 4 1, 3) := by decide +kernel
theorem dX6_shortestBut_88 : decode cX6_shortestBut 88 = .ok (.goto (-80), 3) := by decide +kernel
theorem dX6_shortestBut_91 : decode cX6_shortestBut 91 = .ok (.iload_n 2, 1) := by decide +kernel
theorem dX6_shortestBut_92 : decode cX6_shortestBut 92 = .ok (.ireturn, 1) := by decide +kernel
theorem dX6_worthAs_0 : decode cX6_worthAs 0 = .ok (.iload 4, 2) := by decide +kernel
theorem dX6_worthAs_2 : decode cX6_worthAs 2 = .ok (.getstatic 251, 3) := by decide +kernel
theorem dX6_worthAs_5 : decode cX6_worthAs 5 = .ok (.arraylength, 1) := by decide +kernel
theorem dX6_worthAs_6 : decode cX6_worthAs 6 = .ok (.if_icmp .ge 15, 3) := by decide +kernel
theorem dX6_worthAs_9 : decode cX6_worthAs 9 = .ok (.iload_n 1, 1) := by decide +kernel
theorem dX6_worthAs_10 : decode cX6_worthAs 10 = .ok (.ifCond .lt 11, 3) := by decide +kernel
theorem dX6_worthAs_13 : decode cX6_worthAs 13 = .ok (.iload_n 1, 1) := by decide +kernel
theorem dX6_worthAs_14 : decode cX6_worthAs 14 = .ok (.getstatic 251, 3) := by decide +kernel
theorem dX6_worthAs_17 : decode cX6_worthAs 17 = .ok (.arraylength, 1) := by decide +kernel
theorem dX6_worthAs_18 : decode cX6_worthAs 18 = .ok (.if_icmp .lt 5, 3) := by decide +kernel
theorem dX6_worthAs_21 : decode cX6_worthAs 21 = .ok (.iconst 0, 1) := by decide +kernel
theorem dX6_worthAs_22 : decode cX6_worthAs 22 = .ok (.ireturn, 1) := by decide +kernel
theorem dX6_worthAs_23 : decode cX6_worthAs 23 = .ok (.aload_n 0, 1) := by decide +kernel
theorem dX6_worthAs_24 : decode cX6_worthAs 24 = .ok (.dup, 1) := by decide +kernel
theorem dX6_worthAs_25 : decode cX6_worthAs 25 = .ok (.getfield 275, 3) := by decide +kernel
theorem dX6_worthAs_28 : decode cX6_worthAs 28 = .ok (.getstatic 282, 3) := by decide +kernel
theorem dX6_worthAs_31 : decode cX6_worthAs 31 = .ok (.iload_n 1, 1) := by decide +kernel
theorem dX6_worthAs_32 : decode cX6_worthAs 32 = .ok (.invokestatic 151, 3) := by decide +kernel
theorem dX6_worthAs_35 : decode cX6_worthAs 35 = .ok (.i2l, 1) := by decide +kernel
theorem dX6_worthAs_36 : decode cX6_worthAs 36 = .ok (.ladd, 1) := by decide +kernel
theorem dX6_worthAs_37 : decode cX6_worthAs 37 = .ok (.putfield 275, 3) := by decide +kernel
theorem dX6_worthAs_40 : decode cX6_worthAs 40 = .ok (.iload_n 1, 1) := by decide +kernel
theorem dX6_worthAs_41 : decode cX6_worthAs 41 = .ok (.ifCond .ne 8, 3) := by decide +kernel
theorem dX6_worthAs_44 : decode cX6_worthAs 44 = .ok (.aload_n 2, 1) := by decide +kernel
theorem dX6_worthAs_45 : decode cX6_worthAs 45 = .ok (.getfield 82, 3) := by decide +kernel
theorem dX6_worthAs_48 : decode cX6_worthAs 48 = .ok (.ireturn, 1) := by decide +kernel
theorem dX6_worthAs_49 : decode cX6_worthAs 49 = .ok (.aload_n 0, 1) := by decide +kernel
theorem dX6_worthAs_50 : decode cX6_worthAs 50 = .ok (.getstatic 251, 3) := by decide +kernel
theorem dX6_worthAs_53 : decode cX6_worthAs 53 = .ok (.iload_n 1, 1) := by decide +kernel
theorem dX6_worthAs_54 : decode cX6_worthAs 54 = .ok (.iaload, 1) := by decide +kernel
theorem dX6_worthAs_55 : decode cX6_worthAs 55 = .ok (.aload_n 2, 1) := by decide +kernel
theorem dX6_worthAs_56 : decode cX6_worthAs 56 = .ok (.iload_n 3, 1) := by decide +kernel
theorem dX6_worthAs_57 : decode cX6_worthAs 57 = .ok (.iload 4, 2) := by decide +kernel
theorem dX6_worthAs_59 : decode cX6_worthAs 59 = .ok (.iconst 1, 1) := by decide +kernel
theorem dX6_worthAs_60 : decode cX6_worthAs 60 = .ok (.iadd, 1) := by decide +kernel
theorem dX6_worthAs_61 : decode cX6_worthAs 61 = .ok (.invokevirtual 255, 3) := by decide +kernel
theorem dX6_worthAs_64 : decode cX6_worthAs 64 = .ok (.istore 5, 2) := by decide +kernel
theorem dX6_worthAs_66 : decode cX6_worthAs 66 = .ok (.iload_n 1, 1) := by decide +kernel
theorem dX6_worthAs_67 : decode cX6_worthAs 67 = .ok (.tableswitch 80 1 5 #[33, 41, 56, 61, 66], 33) := by decide +kernel
theorem dX6_worthAs_100 : decode cX6_worthAs 100 = .ok (.iload 5, 2) := by decide +kernel
theorem dX6_worthAs_102 : decode cX6_worthAs 102 = .ok (.aload_n 2, 1) := by decide +kernel
theorem dX6_worthAs_103 : decode cX6_worthAs 103 = .ok (.getfield 88, 3) := by decide +kernel
theorem dX6_worthAs_106 : decode cX6_worthAs 106 = .ok (.iadd, 1) := by decide +kernel
theorem dX6_worthAs_107 : decode cX6_worthAs 107 = .ok (.ireturn, 1) := by decide +kernel
theorem dX6_worthAs_108 : decode cX6_worthAs 108 = .ok (.iload 5, 2) := by decide +kernel
theorem dX6_worthAs_110 : decode cX6_worthAs 110 = .ok (.aload_n 0, 1) := by decide +kernel
theorem dX6_worthAs_111 : decode cX6_worthAs 111 = .ok (.getfield 19, 3) := by decide +kernel
theorem dX6_worthAs_114 : decode cX6_worthAs 114 = .ok (.getfield 104, 3) := by decide +kernel
theorem dX6_worthAs_117 : decode cX6_worthAs 117 = .ok (.iload_n 3, 1) := by decide +kernel
theorem dX6_worthAs_118 : decode cX6_worthAs 118 = .ok (.invokevirtual 107, 3) := by decide +kernel
theorem dX6_worthAs_121 : decode cX6_worthAs 121 = .ok (.isub, 1) := by decide +kernel
theorem dX6_worthAs_122 : decode cX6_worthAs 122 = .ok (.ireturn, 1) := by decide +kernel
theorem dX6_worthAs_123 : decode cX6_worthAs 123 = .ok (.iload 5, 2) := by decide +kernel
theorem dX6_worthAs_125 : decode cX6_worthAs 125 = .ok (.iconst 2, 1) := by decide +kernel
theorem dX6_worthAs_126 : decode cX6_worthAs 126 = .ok (.imul, 1) := by decide +kernel
theorem dX6_worthAs_127 : decode cX6_worthAs 127 = .ok (.ireturn, 1) := by decide +kernel
theorem dX6_worthAs_128 : decode cX6_worthAs 128 = .ok (.iload 5, 2) := by decide +kernel
theorem dX6_worthAs_130 : decode cX6_worthAs 130 = .ok (.iload_n 3, 1) := by decide +kernel
theorem dX6_worthAs_131 : decode cX6_worthAs 131 = .ok (.iadd, 1) := by decide +kernel
theorem dX6_worthAs_132 : decode cX6_worthAs 132 = .ok (.ireturn, 1) := by decide +kernel
theorem dX6_worthAs_133 : decode cX6_worthAs 133 = .ok (.iload 5, 2) := by decide +kernel
theorem dX6_worthAs_135 : decode cX6_worthAs 135 = .ok (.aload_n 0, 1) := by decide +kernel
theorem dX6_worthAs_136 : decode cX6_worthAs 136 = .ok (.getfield 19, 3) := by decide +kernel
theorem dX6_worthAs_139 : decode cX6_worthAs 139 = .ok (.getfield 104, 3) := by decide +kernel
theorem dX6_worthAs_142 : decode cX6_worthAs 142 = .ok (.getfield 164, 3) := by decide +kernel
theorem dX6_worthAs_145 : decode cX6_worthAs 145 = .ok (.iadd, 1) := by decide +kernel
theorem dX6_worthAs_146 : decode cX6_worthAs 146 = .ok (.ireturn, 1) := by decide +kernel
theorem dX6_worthAs_147 : decode cX6_worthAs 147 = .ok (.iload 5, 2) := by decide +kernel
theorem dX6_worthAs_149 : decode cX6_worthAs 149 = .ok (.ireturn, 1) := by decide +kernel
theorem dX6_imageAt_0 : decode cX6_imageAt 0 = .ok (.iload_n 1, 1) := by decide +kernel
theorem dX6_imageAt_1 : decode cX6_imageAt 1 = .ok (.ifCond .lt 21, 3) := by decide +kernel
theorem dX6_imageAt_4 : decode cX6_imageAt 4 = .ok (.iload_n 1, 1) := by decide +kernel
theorem dX6_imageAt_5 : decode cX6_imageAt 5 = .ok (.aload_n 0, 1) := by decide +kernel
theorem dX6_imageAt_6 : decode cX6_imageAt 6 = .ok (.getfield 37, 3) := by decide +kernel
theorem dX6_imageAt_9 : decode cX6_imageAt 9 = .ok (.arraylength, 1) := by decide +kernel
theorem dX6_imageAt_10 : decode cX6_imageAt 10 = .ok (.if_icmp .ge 12, 3) := by decide +kernel
theorem dX6_imageAt_13 : decode cX6_imageAt 13 = .ok (.aload_n 0, 1) := by decide +kernel
theorem dX6_imageAt_14 : decode cX6_imageAt 14 = .ok (.getfield 37, 3) := by decide +kernel
theorem dX6_imageAt_17 : decode cX6_imageAt 17 = .ok (.iload_n 1, 1) := by decide +kernel
theorem dX6_imageAt_18 : decode cX6_imageAt 18 = .ok (.aaload, 1) := by decide +kernel
theorem dX6_imageAt_19 : decode cX6_imageAt 19 = .ok (.goto 4, 3) := by decide +kernel
theorem dX6_imageAt_22 : decode cX6_imageAt 22 = .ok (.aconst_null, 1) := by decide +kernel
theorem dX6_imageAt_23 : decode cX6_imageAt 23 = .ok (.areturn, 1) := by decide +kernel
theorem dX6_at_0 : decode cX6_at 0 = .ok (.iload_n 1, 1) := by decide +kernel
theorem dX6_at_1 : decode cX6_at 1 = .ok (.ifCond .lt 15, 3) := by decide +kernel
theorem dX6_at_4 : decode cX6_at 4 = .ok (.iload_n 1, 1) := by decide +kernel
theorem dX6_at_5 : decode cX6_at 5 = .ok (.aload_n 0, 1) := by decide +kernel
theorem dX6_at_6 : decode cX6_at 6 = .ok (.arraylength, 1) := by decide +kernel
theorem dX6_at_7 : decode cX6_at 7 = .ok (.if_icmp .ge 9, 3) := by decide +kernel
theorem dX6_at_10 : decode cX6_at 10 = .ok (.aload_n 0, 1) := by decide +kernel
theorem dX6_at_11 : decode cX6_at 11 = .ok (.iload_n 1, 1) := by decide +kernel
theorem dX6_at_12 : decode cX6_at 12 = .ok (.iaload, 1) := by decide +kernel
theorem dX6_at_13 : decode cX6_at 13 = .ok (.goto 4, 3) := by decide +kernel
theorem dX6_at_16 : decode cX6_at 16 = .ok (.iconst 0, 1) := by decide +kernel
theorem dX6_at_17 : decode cX6_at 17 = .ok (.ireturn, 1) := by decide +kernel
theorem dX6_put_0 : decode cX6_put 0 = .ok (.iload_n 1, 1) := by decide +kernel
theorem dX6_put_1 : decode cX6_put 1 = .ok (.ifCond .lt 13, 3) := by decide +kernel
theorem dX6_put_4 : decode cX6_put 4 = .ok (.iload_n 1, 1) := by decide +kernel
theorem dX6_put_5 : decode cX6_put 5 = .ok (.aload_n 0, 1) := by decide +kernel
theorem dX6_put_6 : decode cX6_put 6 = .ok (.arraylength, 1) := by decide +kernel
theorem dX6_put_7 : decode cX6_put 7 = .ok (.if_icmp .ge 7, 3) := by decide +kernel
theorem dX6_put_10 : decode cX6_put 10 = .ok (.aload_n 0, 1) := by decide +kernel
theorem dX6_put_11 : decode cX6_put 11 = .ok (.iload_n 1, 1) := by decide +kernel
theorem dX6_put_12 : decode cX6_put 12 = .ok (.iload_n 2, 1) := by decide +kernel
theorem dX6_put_13 : decode cX6_put 13 = .ok (.iastore, 1) := by decide +kernel
theorem dX6_put_14 : decode cX6_put 14 = .ok (.return_, 1) := by decide +kernel
theorem dX6_copyRow_0 : decode cX6_copyRow 0 = .ok (.iconst 0, 1) := by decide +kernel
theorem dX6_copyRow_1 : decode cX6_copyRow 1 = .ok (.istore_n 2, 1) := by decide +kernel
theorem dX6_copyRow_2 : decode cX6_copyRow 2 = .ok (.iload_n 2, 1) := by decide +kernel
theorem dX6_copyRow_3 : decode cX6_copyRow 3 = .ok (.aload_n 0, 1) := by decide +kernel
theorem dX6_copyRow_4 : decode cX6_copyRow 4 = .ok (.arraylength, 1) := by decide +kernel
theorem dX6_copyRow_5 : decode cX6_copyRow 5 = .ok (.if_icmp .ge 21, 3) := by decide +kernel
theorem dX6_copyRow_8 : decode cX6_copyRow 8 = .ok (.iload_n 2, 1) := by decide +kernel
theorem dX6_copyRow_9 : decode cX6_copyRow 9 = .ok (.aload_n 1, 1) := by decide +kernel
theorem dX6_copyRow_10 : decode cX6_copyRow 10 = .ok (.arraylength, 1) := by decide +kernel
theorem dX6_copyRow_11 : decode cX6_copyRow 11 = .ok (.if_icmp .ge 15, 3) := by decide +kernel
theorem dX6_copyRow_14 : decode cX6_copyRow 14 = .ok (.aload_n 1, 1) := by decide +kernel
theorem dX6_copyRow_15 : decode cX6_copyRow 15 = .ok (.iload_n 2, 1) := by decide +kernel
theorem dX6_copyRow_16 : decode cX6_copyRow 16 = .ok (.aload_n 0, 1) := by decide +kernel
theorem dX6_copyRow_17 : decode cX6_copyRow 17 = .ok (.iload_n 2, 1) := by decide +kernel
theorem dX6_copyRow_18 : decode cX6_copyRow 18 = .ok (.iaload, 1) := by decide +kernel
theorem dX6_copyRow_19 : decode cX6_copyRow 19 = .ok (.iastore, 1) := by decide +kernel
theorem dX6_copyRow_20 : decode cX6_copyRow 20 = .ok (.iinc 2 1, 3) := by decide +kernel
theorem dX6_copyRow_23 : decode cX6_copyRow 23 = .ok (.goto (-21), 3) := by decide +kernel
theorem dX6_copyRow_26 : decode cX6_copyRow 26 = .ok (.return_, 1) := by decide +kernel
theorem dX6_choose_0 : decode cX6_choose 0 = .ok (.iload_n 1, 1) := by decide +kernel
theorem dX6_choose_1 : decode cX6_choose 1 = .ok (.ifCond .lt 13, 3) := by decide +kernel
theorem dX6_choose_4 : decode cX6_choose 4 = .ok (.iload_n 1, 1) := by decide +kernel
theorem dX6_choose_5 : decode cX6_choose 5 = .ok (.iconst 4, 1) := by decide +kernel
theorem dX6_choose_6 : decode cX6_choose 6 = .ok (.if_icmp .gt 8, 3) := by decide +kernel
theorem dX6_choose_9 : decode cX6_choose 9 = .ok (.iload_n 0, 1) := by decide +kernel
theorem dX6_choose_10 : decode cX6_choose 10 = .ok (.iload_n 1, 1) := by decide +kernel
theorem dX6_choose_11 : decode cX6_choose 11 = .ok (.if_icmp .ge 5, 3) := by decide +kernel
theorem dX6_choose_14 : decode cX6_choose 14 = .ok (.iconst 0, 1) := by decide +kernel
theorem dX6_choose_15 : decode cX6_choose 15 = .ok (.ireturn, 1) := by decide +kernel
theorem dX6_choose_16 : decode cX6_choose 16 = .ok (.lconst 1, 1) := by decide +kernel
theorem dX6_choose_17 : decode cX6_choose 17 = .ok (.lstore_n 2, 1) := by decide +kernel
theorem dX6_choose_18 : decode cX6_choose 18 = .ok (.iconst 1, 1) := by decide +kernel
theorem dX6_choose_19 : decode cX6_choose 19 = .ok (.istore 4, 2) := by decide +kernel
theorem dX6_choose_21 : decode cX6_choose 21 = .ok (.iload 4, 2) := by decide +kernel
theorem dX6_choose_23 : decode cX6_choose 23 = .ok (.iload_n 1, 1) := by decide +kernel
theorem dX6_choose_24 : decode cX6_choose 24 = .ok (.if_icmp .gt 23, 3) := by decide +kernel
theorem dX6_choose_27 : decode cX6_choose 27 = .ok (.lload_n 2, 1) := by decide +kernel
theorem dX6_choose_28 : decode cX6_choose 28 = .ok (.iload_n 0, 1) := by decide +kernel
theorem dX6_choose_29 : decode cX6_choose 29 = .ok (.iload_n 1, 1) := by decide +kernel
theorem dX6_choose_30 : decode cX6_choose 30 = .ok (.isub, 1) := by decide +kernel
theorem dX6_choose_31 : decode cX6_choose 31 = .ok (.iload 4, 2) := by decide +kernel
theorem dX6_choose_33 : decode cX6_choose 33 = .ok (.iadd, 1) := by decide +kernel
theorem dX6_choose_34 : decode cX6_choose 34 = .ok (.i2l, 1) := by decide +kernel
theorem dX6_choose_35 : decode cX6_choose 35 = .ok (.lmul, 1) := by decide +kernel
theorem dX6_choose_36 : decode cX6_choose 36 = .ok (.iload 4, 2) := by decide +kernel
theorem dX6_choose_38 : decode cX6_choose 38 = .ok (.i2l, 1) := by decide +kernel
theorem dX6_choose_39 : decode cX6_choose 39 = .ok (.ldiv, 1) := by decide +kernel
theorem dX6_choose_40 : decode cX6_choose 40 = .ok (.lstore_n 2, 1) := by decide +kernel
theorem dX6_choose_41 : decode cX6_choose 41 = .ok (.iinc 4 1, 3) := by decide +kernel
theorem dX6_choose_44 : decode cX6_choose 44 = .ok (.goto (-23), 3) := by decide +kernel
theorem dX6_choose_47 : decode cX6_choose 47 = .ok (.lload_n 2, 1) := by decide +kernel
theorem dX6_choose_48 : decode cX6_choose 48 = .ok (.l2i, 1) := by decide +kernel
theorem dX6_choose_49 : decode cX6_choose 49 = .ok (.ireturn, 1) := by decide +kernel
theorem dX6_commonDivisor_0 : decode cX6_commonDivisor 0 = .ok (.iload_n 0, 1) := by decide +kernel
theorem dX6_commonDivisor_1 : decode cX6_commonDivisor 1 = .ok (.invokestatic 285, 3) := by decide +kernel
theorem dX6_commonDivisor_4 : decode cX6_commonDivisor 4 = .ok (.istore_n 2, 1) := by decide +kernel
theorem dX6_commonDivisor_5 : decode cX6_commonDivisor 5 = .ok (.iload_n 1, 1) := by decide +kernel
theorem dX6_commonDivisor_6 : decode cX6_commonDivisor 6 = .ok (.invokestatic 285, 3) := by decide +kernel
theorem dX6_commonDivisor_9 : decode cX6_commonDivisor 9 = .ok (.istore_n 3, 1) := by decide +kernel
theorem dX6_commonDivisor_10 : decode cX6_commonDivisor 10 = .ok (.iconst 0, 1) := by decide +kernel
theorem dX6_commonDivisor_11 : decode cX6_commonDivisor 11 = .ok (.istore 4, 2) := by decide +kernel
theorem dX6_commonDivisor_13 : decode cX6_commonDivisor 13 = .ok (.iload 4, 2) := by decide +kernel
theorem dX6_commonDivisor_15 : decode cX6_commonDivisor 15 = .ok (.bipush 50, 2) := by decide +kernel
theorem dX6_commonDivisor_17 : decode cX6_commonDivisor 17 = .ok (.if_icmp .ge 23, 3) := by decide +kernel
theorem dX6_commonDivisor_20 : decode cX6_commonDivisor 20 = .ok (.iload_n 3, 1) := by decide +kernel
theorem dX6_commonDivisor_21 : decode cX6_commonDivisor 21 = .ok (.ifCond .eq 19, 3) := by decide +kernel
theorem dX6_commonDivisor_24 : decode cX6_commonDivisor 24 = .ok (.iload_n 2, 1) := by decide +kernel
theorem dX6_commonDivisor_25 : decode cX6_commonDivisor 25 = .ok (.iload_n 3, 1) := by decide +kernel
theorem dX6_commonDivisor_26 : decode cX6_commonDivisor 26 = .ok (.irem, 1) := by decide +kernel
theorem dX6_commonDivisor_27 : decode cX6_commonDivisor 27 = .ok (.istore 5, 2) := by decide +kernel
theorem dX6_commonDivisor_29 : decode cX6_commonDivisor 29 = .ok (.iload_n 3, 1) := by decide +kernel
theorem dX6_commonDivisor_30 : decode cX6_commonDivisor 30 = .ok (.istore_n 2, 1) := by decide +kernel
theorem dX6_commonDivisor_31 : decode cX6_commonDivisor 31 = .ok (.iload 5, 2) := by decide +kernel
theorem dX6_commonDivisor_33 : decode cX6_commonDivisor 33 = .ok (.istore_n 3, 1) := by decide +kernel
theorem dX6_commonDivisor_34 : decode cX6_commonDivisor 34 = .ok (.iinc 4 1, 3) := by decide +kernel
theorem dX6_commonDivisor_37 : decode cX6_commonDivisor 37 = .ok (.goto (-24), 3) := by decide +kernel
theorem dX6_commonDivisor_40 : decode cX6_commonDivisor 40 = .ok (.iload_n 2, 1) := by decide +kernel
theorem dX6_commonDivisor_41 : decode cX6_commonDivisor 41 = .ok (.ireturn, 1) := by decide +kernel
theorem dX7_init_0 : decode cX7_init 0 = .ok (.aload_n 0, 1) := by decide +kernel
theorem dX7_init_1 : decode cX7_init 1 = .ok (.invokespecial 1, 3) := by decide +kernel
theorem dX7_init_4 : decode cX7_init 4 = .ok (.aload_n 0, 1) := by decide +kernel
theorem dX7_init_5 : decode cX7_init 5 = .ok (.bipush 6, 2) := by decide +kernel
theorem dX7_init_7 : decode cX7_init 7 = .ok (.newarray .int, 2) := by decide +kernel
theorem dX7_init_9 : decode cX7_init 9 = .ok (.putfield 7, 3) := by decide +kernel
theorem dX7_init_12 : decode cX7_init 12 = .ok (.aload_n 0, 1) := by decide +kernel
theorem dX7_init_13 : decode cX7_init 13 = .ok (.bipush 6, 2) := by decide +kernel
theorem dX7_init_15 : decode cX7_init 15 = .ok (.newarray .int, 2) := by decide +kernel
theorem dX7_init_17 : decode cX7_init 17 = .ok (.putfield 13, 3) := by decide +kernel
theorem dX7_init_20 : decode cX7_init 20 = .ok (.aload_n 0, 1) := by decide +kernel
theorem dX7_init_21 : decode cX7_init 21 = .ok (.bipush 6, 2) := by decide +kernel
theorem dX7_init_23 : decode cX7_init 23 = .ok (.newarray .int, 2) := by decide +kernel
theorem dX7_init_25 : decode cX7_init 25 = .ok (.putfield 16, 3) := by decide +kernel
theorem dX7_init_28 : decode cX7_init 28 = .ok (.aload_n 0, 1) := by decide +kernel
theorem dX7_init_29 : decode cX7_init 29 = .ok (.bipush 6, 2) := by decide +kernel
theorem dX7_init_31 : decode cX7_init 31 = .ok (.newarray .int, 2) := by decide +kernel
theorem dX7_init_33 : decode cX7_init 33 = .ok (.putfield 19, 3) := by decide +kernel
theorem dX7_init_36 : decode cX7_init 36 = .ok (.aload_n 0, 1) := by decide +kernel
theorem dX7_init_37 : decode cX7_init 37 = .ok (.bipush 6, 2) := by decide +kernel
theorem dX7_init_39 : decode cX7_init 39 = .ok (.newarray .int, 2) := by decide +kernel
theorem dX7_init_41 : decode cX7_init 41 = .ok (.putfield 22, 3) := by decide +kernel
theorem dX7_init_44 : decode cX7_init 44 = .ok (.aload_n 0, 1) := by decide +kernel
theorem dX7_init_45 : decode cX7_init 45 = .ok (.iconst 4, 1) := by decide +kernel
theorem dX7_init_46 : decode cX7_init 46 = .ok (.putfield 25, 3) := by decide +kernel
theorem dX7_init_49 : decode cX7_init 49 = .ok (.aload_n 0, 1) := by decide +kernel
theorem dX7_init_50 : decode cX7_init 50 = .ok (.bipush 31, 2) := by decide +kernel
theorem dX7_init_52 : decode cX7_init 52 = .ok (.newarray .int, 2) := by decide +kernel
theorem dX7_init_54 : decode cX7_init 54 = .ok (.putfield 29, 3) := by decide +kernel
theorem dX7_init_57 : decode cX7_init 57 = .ok (.aload_n 0, 1) := by decide +kernel
theorem dX7_init_58 : decode cX7_init 58 = .ok (.sipush 310, 3) := by decide +kernel
theorem dX7_init_61 : decode cX7_init 61 = .ok (.newarray .int, 2) := by decide +kernel
theorem dX7_init_63 : decode cX7_init 63 = .ok (.putfield 32, 3) := by decide +kernel
theorem dX7_init_66 : decode cX7_init 66 = .ok (.aload_n 0, 1) := by decide +kernel
theorem dX7_init_67 : decode cX7_init 67 = .ok (.bipush 18, 2) := by decide +kernel
theorem dX7_init_69 : decode cX7_init 69 = .ok (.newarray .int, 2) := by decide +kernel
theorem dX7_init_71 : decode cX7_init 71 = .ok (.putfield 35, 3) := by decide +kernel
theorem dX7_init_74 : decode cX7_init 74 = .ok (.aload_n 0, 1) := by decide +kernel
theorem dX7_init_75 : decode cX7_init 75 = .ok (.bipush 120, 2) := by decide +kernel
theorem dX7_init_77 : decode cX7_init 77 = .ok (.newarray .int, 2) := by decide +kernel
theorem dX7_init_79 : decode cX7_init 79 = .ok (.putfield 38, 3) := by decide +kernel
theorem dX7_init_82 : decode cX7_init 82 = .ok (.aload_n 0, 1) := by decide +kernel
theorem dX7_init_83 : decode cX7_init 83 = .ok (.iconst 3, 1) := by decide +kernel
theorem dX7_init_84 : decode cX7_init 84 = .ok (.newarray .int, 2) := by decide +kernel
theorem dX7_init_86 : decode cX7_init 86 = .ok (.putfield 41, 3) := by decide +kernel
theorem dX7_init_89 : decode cX7_init 89 = .ok (.aload_n 0, 1) := by decide +kernel
theorem dX7_init_90 : decode cX7_init 90 = .ok (.bipush 30, 2) := by decide +kernel
theorem dX7_init_92 : decode cX7_init 92 = .ok (.newarray .int, 2) := by decide +kernel
theorem dX7_init_94 : decode cX7_init 94 = .ok (.putfield 44, 3) := by decide +kernel
theorem dX7_init_97 : decode cX7_init 97 = .ok (.aload_n 0, 1) := by decide +kernel
theorem dX7_init_98 : decode cX7_init 98 = .ok (.bipush 31, 2) := by decide +kernel
theorem dX7_init_100 : decode cX7_init 100 = .ok (.newarray .int, 2) := by decide +kernel
theorem dX7_init_102 : decode cX7_init 102 = .ok (.putfield 47, 3) := by decide +kernel
theorem dX7_init_105 : decode cX7_init 105 = .ok (.aload_n 0, 1) := by decide +kernel
theorem dX7_init_106 : decode cX7_init 106 = .ok (.sipush 684, 3) := by decide +kernel
theorem dX7_init_109 : decode cX7_init 109 = .ok (.newarray .int, 2) := by decide +kernel
theorem dX7_init_111 : decode cX7_init 111 = .ok (.putfield 50, 3) := by decide +kernel
theorem dX7_init_114 : decode cX7_init 114 = .ok (.aload_n 0, 1) := by decide +kernel
theorem dX7_init_115 : decode cX7_init 115 = .ok (.iconst 2, 1) := by decide +kernel
theorem dX7_init_116 : decode cX7_init 116 = .ok (.newarray .int, 2) := by decide +kernel
theorem dX7_init_118 : decode cX7_init 118 = .ok (.putfield 53, 3) := by decide +kernel
theorem dX7_init_121 : decode cX7_init 121 = .ok (.aload_n 0, 1) := by decide +kernel
theorem dX7_init_122 : decode cX7_init 122 = .ok (.getfield 41, 3) := by decide +kernel
theorem dX7_init_125 : decode cX7_init 125 = .ok (.iconst 0, 1) := by decide +kernel
theorem dX7_init_126 : decode cX7_init 126 = .ok (.bipush 20, 2) := by decide +kernel
theorem dX7_init_128 : decode cX7_init 128 = .ok (.iastore, 1) := by decide +kernel
theorem dX7_init_129 : decode cX7_init 129 = .ok (.aload_n 0, 1) := by decide +kernel
theorem dX7_init_130 : decode cX7_init 130 = .ok (.getfield 41, 3) := by decide +kernel
theorem dX7_init_133 : decode cX7_init 133 = .ok (.iconst 1, 1) := by decide +kernel
theorem dX7_init_134 : decode cX7_init 134 = .ok (.bipush 20, 2) := by decide +kernel
theorem dX7_init_136 : decode cX7_init 136 = .ok (.iastore, 1) := by decide +kernel
theorem dX7_init_137 : decode cX7_init 137 = .ok (.aload_n 0, 1) := by decide +kernel
theorem dX7_init_138 : decode cX7_init 138 = .ok (.getfield 41, 3) := by decide +kernel
theorem dX7_init_141 : decode cX7_init 141 = .ok (.iconst 2, 1) := by decide +kernel
theorem dX7_init_142 : decode cX7_init 142 = .ok (.bipush 20, 2) := by decide +kernel
theorem dX7_init_144 : decode cX7_init 144 = .ok (.iastore, 1) := by decide +kernel
theorem dX7_init_145 : decode cX7_init 145 = .ok (.aload_n 0, 1) := by decide +kernel
theorem dX7_init_146 : decode cX7_init 146 = .ok (.sipush 200, 3) := by decide +kernel
theorem dX7_init_149 : decode cX7_init 149 = .ok (.putfield 56, 3) := by decide +kernel
theorem dX7_init_152 : decode cX7_init 152 = .ok (.aload_n 0, 1) := by decide +kernel
theorem dX7_init_153 : decode cX7_init 153 = .ok (.invokevirtual 59, 3) := by decide +kernel
theorem dX7_init_156 : decode cX7_init 156 = .ok (.return_, 1) := by decide +kernel
theorem dX7_in_0 : decode cX7_in 0 = .ok (.lload_n 0, 1) := by decide +kernel
theorem dX7_in_1 : decode cX7_in 1 = .ok (.lload_n 2, 1) := by decide +kernel
theorem dX7_in_2 : decode cX7_in 2 = .ok (.lcmp, 1) := by decide +kernel
theorem dX7_in_3 : decode cX7_in 3 = .ok (.ifCond .lt 14, 3) := by decide +kernel
theorem dX7_in_6 : decode cX7_in 6 = .ok (.lload_n 0, 1) := by decide +kernel
theorem dX7_in_7 : decode cX7_in 7 = .ok (.lload 4, 2) := by decide +kernel
theorem dX7_in_9 : decode cX7_in 9 = .ok (.lcmp, 1) := by decide +kernel
theorem dX7_in_10 : decode cX7_in 10 = .ok (.ifCond .gt 7, 3) := by decide +kernel
theorem dX7_in_13 : decode cX7_in 13 = .ok (.iconst 1, 1) := by decide +kernel
theorem dX7_in_14 : decode cX7_in 14 = .ok (.goto 4, 3) := by decide +kernel
theorem dX7_in_17 : decode cX7_in 17 = .ok (.iconst 0, 1) := by decide +kernel
theorem dX7_in_18 : decode cX7_in 18 = .ok (.ireturn, 1) := by decide +kernel
theorem dX7_isPart_0 : decode cX7_isPart 0 = .ok (.iload_n 0, 1) := by decide +kernel
theorem dX7_isPart_1 : decode cX7_isPart 1 = .ok (.i2l, 1) := by decide +kernel
theorem dX7_isPart_2 : decode cX7_isPart 2 = .ok (.lconst 0, 1) := by decide +kernel
theorem dX7_isPart_3 : decode cX7_isPart 3 = .ok (.lconst 1, 1) := by decide +kernel
theorem dX7_isPart_4 : decode cX7_isPart 4 = .ok (.invokestatic 62, 3) := by decide +kernel
theorem dX7_isPart_7 : decode cX7_isPart 7 = .ok (.ireturn, 1) := by decide +kernel
theorem dX7_isJob_0 : decode cX7_isJob 0 = .ok (.iload_n 1, 1) := by decide +kernel
theorem dX7_isJob_1 : decode cX7_isJob 1 = .ok (.i2l, 1) := by decide +kernel
theorem dX7_isJob_2 : decode cX7_isJob 2 = .ok (.lconst 0, 1) := by decide +kernel
theorem dX7_isJob_3 : decode cX7_isJob 3 = .ok (.aload_n 0, 1) := by decide +kernel
theorem dX7_isJob_4 : decode cX7_isJob 4 = .ok (.getfield 66, 3) := by decide +kernel
theorem dX7_isJob_7 : decode cX7_isJob 7 = .ok (.iconst 1, 1) := by decide +kernel
theorem dX7_isJob_8 : decode cX7_isJob 8 = .ok (.isub, 1) := by decide +kernel
theorem dX7_isJob_9 : decode cX7_isJob 9 = .ok (.i2l, 1) := by decide +kernel
theorem dX7_isJob_10 : decode cX7_isJob 10 = .ok (.invokestatic 62, 3) := by decide +kernel
theorem dX7_isJob_13 : decode cX7_isJob 13 = .ok (.ireturn, 1) := by decide +kernel
theorem dX7_type_0 : decode cX7_type 0 = .ok (.iload_n 1, 1) := by decide +kernel
theorem dX7_type_1 : decode cX7_type 1 = .ok (.i2l, 1) := by decide +kernel
theorem dX7_type_2 : decode cX7_type 2 = .ok (.lconst 0, 1) := by decide +kernel
theorem dX7_type_3 : decode cX7_type 3 = .ok (.ldc2_w 69, 3) := by decide +kernel
theorem dX7_type_6 : decode cX7_type 6 = .ok (.invokestatic 62, 3) := by decide +kernel
theorem dX7_type_9 : decode cX7_type 9 = .ok (.ifCond .ne 5, 3) := by decide +kernel
theorem dX7_type_12 : decode cX7_type 12 = .ok (.iconst (-1), 1) := by decide +kernel
theorem dX7_type_13 : decode cX7_type 13 = .ok (.ireturn, 1) := by decide +kernel
theorem dX7_type_14 : decode cX7_type 14 = .ok (.aload_n 0, 1) := by decide +kernel
theorem dX7_type_15 : decode cX7_type 15 = .ok (.getfield 71, 3) := by decide +kernel
theorem dX7_type_18 : decode cX7_type 18 = .ok (.bipush 120, 2) := by decide +kernel
theorem dX7_type_20 : decode cX7_type 20 = .ok (.if_icmp .ne 6, 3) := by decide +kernel
theorem dX7_type_23 : decode cX7_type 23 = .ok (.bipush (-3), 2) := by decide +kernel
theorem dX7_type_25 : decode cX7_type 25 = .ok (.ireturn, 1) := by decide +kernel
theorem dX7_type_26 : decode cX7_type 26 = .ok (.aload_n 0, 1) := by decide +kernel
theorem dX7_type_27 : decode cX7_type 27 = .ok (.getfield 38, 3) := by decide +kernel
theorem dX7_type_30 : decode cX7_type 30 = .ok (.aload_n 0, 1) := by decide +kernel
theorem dX7_type_31 : decode cX7_type 31 = .ok (.getfield 71, 3) := by decide +kernel
theorem dX7_type_34 : decode cX7_type 34 = .ok (.iload_n 1, 1) := by decide +kernel
theorem dX7_type_35 : decode cX7_type 35 = .ok (.iastore, 1) := by decide +kernel
theorem dX7_type_36 : decode cX7_type 36 = .ok (.aload_n 0, 1) := by decide +kernel
theorem dX7_type_37 : decode cX7_type 37 = .ok (.dup, 1) := by decide +kernel
theorem dX7_type_38 : decode cX7_type 38 = .ok (.getfield 71, 3) := by decide +kernel
theorem dX7_type_41 : decode cX7_type 41 = .ok (.iconst 1, 1) := by decide +kernel
theorem dX7_type_42 : decode cX7_type 42 = .ok (.iadd, 1) := by decide +kernel
theorem dX7_type_43 : decode cX7_type 43 = .ok (.putfield 71, 3) := by decide +kernel
theorem dX7_type_46 : decode cX7_type 46 = .ok (.aload_n 0, 1) := by decide +kernel
theorem dX7_type_47 : decode cX7_type 47 = .ok (.getfield 71, 3) := by decide +kernel
theorem dX7_type_50 : decode cX7_type 50 = .ok (.ireturn, 1) := by decide +kernel
theorem dX7_clear_0 : decode cX7_clear 0 = .ok (.aload_n 0, 1) := by decide +kernel
theorem dX7_clear_1 : decode cX7_clear 1 = .ok (.getfield 71, 3) := by decide +kernel
theorem dX7_clear_4 : decode cX7_clear 4 = .ok (.istore_n 1, 1) := by decide +kernel
theorem dX7_clear_5 : decode cX7_clear 5 = .ok (.aload_n 0, 1) := by decide +kernel
theorem dX7_clear_6 : decode cX7_clear 6 = .ok (.iconst 0, 1) := by decide +kernel
theorem dX7_clear_7 : decode cX7_clear 7 = .ok (.putfield 71, 3) := by decide +kernel
theorem dX7_clear_10 : decode cX7_clear 10 = .ok (.iload_n 1, 1) := by decide +kernel
theorem dX7_clear_11 : decode cX7_clear 11 = .ok (.ireturn, 1) := by decide +kernel
theorem dX7_letter_0 : decode cX7_letter 0 = .ok (.aload_n 0, 1) := by decide +kernel
theorem dX7_letter_1 : decode cX7_letter 1 = .ok (.getfield 74, 3) := by decide +kernel
theorem dX7_letter_4 : decode cX7_letter 4 = .ok (.aload_n 0, 1) := by decide +kernel
theorem dX7_letter_5 : decode cX7_letter 5 = .ok (.getfield 71, 3) := by decide +kernel
theorem dX7_letter_8 : decode cX7_letter 8 = .ok (.if_icmp .ge 15, 3) := by decide +kernel
theorem dX7_letter_11 : decode cX7_letter 11 = .ok (.aload_n 0, 1) := by decide +kernel
theorem dX7_letter_12 : decode cX7_letter 12 = .ok (.getfield 38, 3) := by decide +kernel
theorem dX7_letter_15 : decode cX7_letter 15 = .ok (.aload_n 0, 1) := by decide +kernel
theorem dX7_letter_16 : decode cX7_letter 16 = .ok (.getfield 74, 3) := by decide +kernel
theorem dX7_letter_19 : decode cX7_letter 19 = .ok (.iaload, 1) := by decide +kernel
theorem dX7_letter_20 : decode cX7_letter 20 = .ok (.goto 4, 3) := by decide +kernel
theorem dX7_letter_23 : decode cX7_letter 23 = .ok (.iconst (-1), 1) := by decide +kernel
theorem dX7_letter_24 : decode cX7_letter 24 = .ok (.ireturn, 1) := by decide +kernel
theorem dX7_readNumber_0 : decode cX7_readNumber 0 = .ok (.aload_n 0, 1) := by decide +kernel
theorem dX7_readNumber_1 : decode cX7_readNumber 1 = .ok (.iconst 0, 1) := by decide +kernel
theorem dX7_readNumber_2 : decode cX7_readNumber 2 = .ok (.putfield 77, 3) := by decide +kernel
theorem dX7_readNumber_5 : decode cX7_readNumber 5 = .ok (.aload_n 0, 1) := by decide +kernel
theorem dX7_readNumber_6 : decode cX7_readNumber 6 = .ok (.invokevirtual 80, 3) := by decide +kernel
theorem dX7_readNumber_9 : decode cX7_readNumber 9 = .ok (.i2l, 1) := by decide +kernel
theorem dX7_readNumber_10 : decode cX7_readNumber 10 = .ok (.ldc2_w 84, 3) := by decide +kernel
theorem dX7_readNumber_13 : decode cX7_readNumber 13 = .ok (.ldc2_w 86, 3) := by decide +kernel
theorem dX7_readNumber_16 : decode cX7_readNumber 16 = .ok (.invokestatic 62, 3) := by decide +kernel
theorem dX7_readNumber_19 : decode cX7_readNumber 19 = .ok (.ifCond .eq 52, 3) := by decide +kernel
theorem dX7_readNumber_22 : decode cX7_readNumber 22 = .ok (.aload_n 0, 1) := by decide +kernel
theorem dX7_readNumber_23 : decode cX7_readNumber 23 = .ok (.aload_n 0, 1) := by decide +kernel
theorem dX7_readNumber_24 : decode cX7_readNumber 24 = .ok (.getfield 77, 3) := by decide +kernel
theorem dX7_readNumber_27 : decode cX7_readNumber 27 = .ok (.sipush 1000, 3) := by decide +kernel
theorem dX7_readNumber_30 : decode cX7_readNumber 30 = .ok (.if_icmp .ge 21, 3) := by decide +kernel
theorem dX7_readNumber_33 : decode cX7_readNumber 33 = .ok (.bipush 10, 2) := by decide +kernel
theorem dX7_readNumber_35 : decode cX7_readNumber 35 = .ok (.aload_n 0, 1) := by decide +kernel
theorem dX7_readNumber_36 : decode cX7_readNumber 36 = .ok (.getfield 77, 3) := by decide +kernel
theorem dX7_readNumber_39 : decode cX7_readNumber 39 = .ok (.imul, 1) := by decide +kernel
theorem dX7_readNumber_40 : decode cX7_readNumber 40 = .ok (.aload_n 0, 1) := by decide +kernel
theorem dX7_readNumber_41 : decode cX7_readNumber 41 = .ok (.invokevirtual 80, 3) := by decide +kernel
theorem dX7_readNumber_44 : decode cX7_readNumber 44 = .ok (.iadd, 1) := by decide +kernel
theorem dX7_readNumber_45 : decode cX7_readNumber 45 = .ok (.bipush 48, 2) := by decide +kernel
theorem dX7_readNumber_47 : decode cX7_readNumber 47 = .ok (.isub, 1) := by decide +kernel
theorem dX7_readNumber_48 : decode cX7_readNumber 48 = .ok (.goto 7, 3) := by decide +kernel
theorem dX7_readNumber_51 : decode cX7_readNumber 51 = .ok (.aload_n 0, 1) := by decide +kernel
theorem dX7_readNumber_52 : decode cX7_readNumber 52 = .ok (.getfield 77, 3) := by decide +kernel
theorem dX7_readNumber_55 : decode cX7_readNumber 55 = .ok (.putfield 77, 3) := by decide +kernel
theorem dX7_readNumber_58 : decode cX7_readNumber 58 = .ok (.aload_n 0, 1) := by decide +kernel
theorem dX7_readNumber_59 : decode cX7_readNumber 59 = .ok (.dup, 1) := by decide +kernel
theorem dX7_readNumber_60 : decode cX7_readNumber 60 = .ok (.getfield 74, 3) := by decide +kernel
theorem dX7_readNumber_63 : decode cX7_readNumber 63 = .ok (.iconst 1, 1) := by decide +kernel
theorem dX7_readNumber_64 : decode cX7_readNumber 64 = .ok (.iadd, 1) := by decide +kernel
theorem dX7_readNumber_65 : decode cX7_readNumber 65 = .ok (.putfield 74, 3) := by decide +kernel
theorem dX7_readNumber_68 : decode cX7_readNumber 68 = .ok (.goto (-63), 3) := by decide +kernel
theorem dX7_readNumber_71 : decode cX7_readNumber 71 = .ok (.aload_n 0, 1) := by decide +kernel
theorem dX7_readNumber_72 : decode cX7_readNumber 72 = .ok (.aload_n 0, 1) := by decide +kernel
theorem dX7_readNumber_73 : decode cX7_readNumber 73 = .ok (.getfield 77, 3) := by decide +kernel
theorem dX7_readNumber_76 : decode cX7_readNumber 76 = .ok (.sipush 999, 3) := by decide +kernel
theorem dX7_readNumber_79 : decode cX7_readNumber 79 = .ok (.if_icmp .gt 30, 3) := by decide +kernel
theorem dX7_readNumber_82 : decode cX7_readNumber 82 = .ok (.aload_n 0, 1) := by decide +kernel
theorem dX7_readNumber_83 : decode cX7_readNumber 83 = .ok (.getfield 74, 3) := by decide +kernel
theorem dX7_readNumber_86 : decode cX7_readNumber 86 = .ok (.aload_n 0, 1) := by decide +kernel
theorem dX7_readNumber_87 : decode cX7_readNumber 87 = .ok (.getfield 88, 3) := by decide +kernel
theorem dX7_readNumber_90 : decode cX7_readNumber 90 = .ok (.iconst 1, 1) := by decide +kernel
theorem dX7_readNumber_91 : decode cX7_readNumber 91 = .ok (.iadd, 1) := by decide +kernel
theorem dX7_readNumber_92 : decode cX7_readNumber 92 = .ok (.if_icmp .le 21, 3) := by decide +kernel
theorem dX7_readNumber_95 : decode cX7_readNumber 95 = .ok (.aload_n 0, 1) := by decide +kernel
theorem dX7_readNumber_96 : decode cX7_readNumber 96 = .ok (.getfield 38, 3) := by decide +kernel
theorem dX7_readNumber_99 : decode cX7_readNumber 99 = .ok (.aload_n 0, 1) := by decide +kernel
theorem dX7_readNumber_100 : decode cX7_readNumber 100 = .ok (.getfield 88, 3) := by decide +kernel
theorem dX7_readNumber_103 : decode cX7_readNumber 103 = .ok (.iaload, 1) := by decide +kernel
theorem dX7_readNumber_104 : decode cX7_readNumber 104 = .ok (.bipush 48, 2) := by decide +kernel
theorem dX7_readNumber_106 : decode cX7_readNumber 106 = .ok (.if_icmp .ne 7, 3) := by decide +kernel
theorem dX7_readNumber_109 : decode cX7_readNumber 109 = .ok (.iconst (-1), 1) := by decide +kernel
theorem dX7_readNumber_110 : decode cX7_readNumber 110 = .ok (.goto 4, 3) := by decide +kernel
theorem dX7_readNumber_113 : decode cX7_readNumber 113 = .ok (.iconst 2, 1) := by decide +kernel
theorem dX7_readNumber_114 : decode cX7_readNumber 114 = .ok (.putfield 91, 3) := by decide +kernel
theorem dX7_readNumber_117 : decode cX7_readNumber 117 = .ok (.return_, 1) := by decide +kernel
theorem dX7_readLetters_0 : decode cX7_readLetters 0 = .ok (.aload_n 0, 1) := by decide +kernel
theorem dX7_readLetters_1 : decode cX7_readLetters 1 = .ok (.aload_n 0, 1) := by decide +kernel
theorem dX7_readLetters_2 : decode cX7_readLetters 2 = .ok (.invokevirtual 80, 3) := by decide +kernel
theorem dX7_readLetters_5 : decode cX7_readLetters 5 = .ok (.putfield 77, 3) := by decide +kernel
theorem dX7_readLetters_8 : decode cX7_readLetters 8 = .ok (.aload_n 0, 1) := by decide +kernel
theorem dX7_readLetters_9 : decode cX7_readLetters 9 = .ok (.invokevirtual 80, 3) := by decide +kernel
theorem dX7_readLetters_12 : decode cX7_readLetters 12 = .ok (.i2l, 1) := by decide +kernel
theorem dX7_readLetters_13 : decode cX7_readLetters 13 = .ok (.ldc2_w 94, 3) := by decide +kernel
theorem dX7_readLetters_16 : decode cX7_readLetters 16 = .ok (.ldc2_w 96, 3) := by decide +kernel
theorem dX7_readLetters_19 : decode cX7_readLetters 19 = .ok (.invokestatic 62, 3) := by decide +kernel
theorem dX7_readLetters_22 : decode cX7_readLetters 22 = .ok (.ifCond .eq 16, 3) := by decide +kernel
theorem dX7_readLetters_25 : decode cX7_readLetters 25 = .ok (.aload_n 0, 1) := by decide +kernel
theorem dX7_readLetters_26 : decode cX7_readLetters 26 = .ok (.dup, 1) := by decide +kernel
theorem dX7_readLetters_27 : decode cX7_readLetters 27 = .ok (.getfield 74, 3) := by decide +kernel
theorem dX7_readLetters_30 : decode cX7_readLetters 30 = .ok (.iconst 1, 1) := by decide +kernel
theorem dX7_readLetters_31 : decode cX7_readLetters 31 = .ok (.iadd, 1) := by decide +kernel
theorem dX7_readLetters_32 : decode cX7_readLetters 32 = .ok (.putfield 74, 3) := by decide +kernel
theorem dX7_readLetters_35 : decode cX7_readLetters 35 = .ok (.goto (-27), 3) := by decide +kernel
theorem dX7_readLetters_38 : decode cX7_readLetters 38 = .ok (.aload_n 0, 1) := by decide +kernel
theorem dX7_readLetters_39 : decode cX7_readLetters 39 = .ok (.aload_n 0, 1) := by decide +kernel
theorem dX7_readLetters_40 : decode cX7_readLetters 40 = .ok (.getfield 74, 3) := by decide +kernel
theorem dX7_readLetters_43 : decode cX7_readLetters 43 = .ok (.aload_n 0, 1) := by decide +kernel
theorem dX7_readLetters_44 : decode cX7_readLetters 44 = .ok (.getfield 88, 3) := by decide +kernel
theorem dX7_readLetters_47 : decode cX7_readLetters 47 = .ok (.iconst 1, 1) := by decide +kernel
theorem dX7_readLetters_48 : decode cX7_readLetters 48 = .ok (.iadd, 1) := by decide +kernel
theorem dX7_readLetters_49 : decode cX7_readLetters 49 = .ok (.if_icmp .le 7, 3) := by decide +kernel
theorem dX7_readLetters_52 : decode cX7_readLetters 52 = .ok (.iconst 0, 1) := by decide +kernel
theorem dX7_readLetters_53 : decode cX7_readLetters 53 = .ok (.goto 7, 3) := by decide +kernel
theorem dX7_readLetters_56 : decode cX7_readLetters 56 = .ok (.aload_n 0, 1) := by decide +kernel
theorem dX7_readLetters_57 : decode cX7_readLetters 57 = .ok (.getfield 77, 3) := by decide +kernel
theorem dX7_readLetters_60 : decode cX7_readLetters 60 = .ok (.putfield 77, 3) := by decide +kernel
theorem dX7_readLetters_63 : decode cX7_readLetters 63 = .ok (.aload_n 0, 1) := by decide +kernel
theorem dX7_readLetters_64 : decode cX7_readLetters 64 = .ok (.iconst 1, 1) := by decide +kernel
theorem dX7_readLetters_65 : decode cX7_readLetters 65 = .ok (.putfield 91, 3) := by decide +kernel
theorem dX7_readLetters_68 : decode cX7_readLetters 68 = .ok (.return_, 1) := by decide +kernel
theorem dX7_next_0 : decode cX7_next 0 = .ok (.aload_n 0, 1) := by decide +kernel
theorem dX7_next_1 : decode cX7_next 1 = .ok (.invokevirtual 80, 3) := by decide +kernel
theorem dX7_next_4 : decode cX7_next 4 = .ok (.bipush 32, 2) := by decide +kernel
theorem dX7_next_6 : decode cX7_next 6 = .ok (.if_icmp .ne 16, 3) := by decide +kernel
theorem dX7_next_9 : decode cX7_next 9 = .ok (.aload_n 0, 1) := by decide +kernel
theorem dX7_next_10 : decode cX7_next 10 = .ok (.dup, 1) := by decide +kernel
theorem dX7_next_11 : decode cX7_next 11 = .ok (.getfield 74, 3) := by decide +kernel
theorem dX7_next_14 : decode cX7_next 14 = .ok (.iconst 1, 1) := by decide +kernel
theorem dX7_next_15 : decode cX7_next 15 = .ok (.iadd, 1) := by decide +kernel
theorem dX7_next_16 : decode cX7_next 16 = .ok (.putfield 74, 3) := by decide +kernel
theorem dX7_next_19 : decode cX7_next 19 = .ok (.goto (-19), 3) := by decide +kernel
theorem dX7_next_22 : decode cX7_next 22 = .ok (.aload_n 0, 1) := by decide +kernel
theorem dX7_next_23 : decode cX7_next 23 = .ok (.aload_n 0, 1) := by decide +kernel
theorem dX7_next_24 : decode cX7_next 24 = .ok (.getfield 74, 3) := by decide +kernel
theorem dX7_next_27 : decode cX7_next 27 = .ok (.putfield 88, 3) := by decide +kernel
theorem dX7_next_30 : decode cX7_next 30 = .ok (.aload_n 0, 1) := by decide +kernel
theorem dX7_next_31 : decode cX7_next 31 = .ok (.invokevirtual 80, 3) := by decide +kernel
theorem dX7_next_34 : decode cX7_next 34 = .ok (.istore_n 1, 1) := by decide +kernel
theorem dX7_next_35 : decode cX7_next 35 = .ok (.iload_n 1, 1) := by decide +kernel
theorem dX7_next_36 : decode cX7_next 36 = .ok (.i2l, 1) := by decide +kernel
theorem dX7_next_37 : decode cX7_next 37 = .ok (.ldc2_w 84, 3) := by decide +kernel
theorem dX7_next_40 : decode cX7_next 40 = .ok (.ldc2_w 86, 3) := by decide +kernel
theorem dX7_next_43 : decode cX7_next 43 = .ok (.invokestatic 62, 3) := by decide +kernel
theorem dX7_next_46 : decode cX7_next 46 = .ok (.ifCond .eq 10, 3) := by decide +kernel
theorem dX7_next_49 : decode cX7_next 49 = .ok (.aload_n 0, 1) := by decide +kernel
theorem dX7_next_50 : decode cX7_next 50 = .ok (.invokevirtual 98, 3) := by decide +kernel
theorem dX7_next_53 : decode cX7_next 53 = .ok (.goto 57, 3) := by decide +kernel
theorem dX7_next_56 : decode cX7_next 56 = .ok (.iload_n 1, 1) := by decide +kernel
theorem dX7_next_57 : decode cX7_next 57 = .ok (.i2l, 1) := by decide +kernel
theorem dX7_next_58 : decode cX7_next 58 = .ok (.ldc2_w 94, 3) := by decide +kernel
theorem dX7_next_61 : decode cX7_next 61 = .ok (.ldc2_w 96, 3) := by decide +kernel
theorem dX7_next_64 : decode cX7_next 64 = .ok (.invokestatic 62, 3) := by decide +kernel
theorem dX7_next_67 : decode cX7_next 67 = .ok (.ifCond .eq 10, 3) := by decide +kernel
theorem dX7_next_70 : decode cX7_next 70 = .ok (.aload_n 0, 1) := by decide +kernel
theorem dX7_next_71 : decode cX7_next 71 = .ok (.invokevirtual 101, 3) := by decide +kernel
theorem dX7_next_74 : decode cX7_next 74 = .ok (.goto 36, 3) := by decide +kernel
theorem dX7_next_77 : decode cX7_next 77 = .ok (.aload_n 0, 1) := by decide +kernel
theorem dX7_next_78 : decode cX7_next 78 = .ok (.iload_n 1, 1) := by decide +kernel
theorem dX7_next_79 : decode cX7_next 79 = .ok (.ifCond .ge 7, 3) := by decide +kernel
theorem dX7_next_82 : decode cX7_next 82 = .ok (.iconst 0, 1) := by decide +kernel
theorem dX7_next_83 : decode cX7_next 83 = .ok (.goto 14, 3) := by decide +kernel
theorem dX7_next_86 : decode cX7_next 86 = .ok (.iload_n 1, 1) := by decide +kernel
theorem dX7_next_87 : decode cX7_next 87 = .ok (.bipush 59, 2) := by decide +kernel
theorem dX7_next_89 : decode cX7_next 89 = .ok (.if_icmp .ne 7, 3) := by decide +kernel
theorem dX7_next_92 : decode cX7_next 92 = .ok (.iconst 3, 1) := by decide +kernel
theorem dX7_next_93 : decode cX7_next 93 = .ok (.goto 4, 3) := by decide +kernel
theorem dX7_next_96 : decode cX7_next 96 = .ok (.iconst (-1), 1) := by decide +kernel
theorem dX7_next_97 : decode cX7_next 97 = .ok (.putfield 91, 3) := by decide +kernel
theorem dX7_next_100 : decode cX7_next 100 = .ok (.aload_n 0, 1) := by decide +kernel
theorem dX7_next_101 : decode cX7_next 101 = .ok (.dup, 1) := by decide +kernel
theorem dX7_next_102 : decode cX7_next 102 = .ok (.getfield 74, 3) := by decide +kernel
theorem dX7_next_105 : decode cX7_next 105 = .ok (.iconst 1, 1) := by decide +kernel
theorem dX7_next_106 : decode cX7_next 106 = .ok (.iadd, 1) := by decide +kernel
theorem dX7_next_107 : decode cX7_next 107 = .ok (.putfield 74, 3) := by decide +kernel
theorem dX7_next_110 : decode cX7_next 110 = .ok (.return_, 1) := by decide +kernel
theorem dX7_takesNumber_0 : decode cX7_takesNumber 0 = .ok (.aload_n 0, 1) := by decide +kernel
theorem dX7_takesNumber_1 : decode cX7_takesNumber 1 = .ok (.invokevirtual 104, 3) := by decide +kernel
theorem dX7_takesNumber_4 : decode cX7_takesNumber 4 = .ok (.aload_n 0, 1) := by decide +kernel
theorem dX7_takesNumber_5 : decode cX7_takesNumber 5 = .ok (.getfield 91, 3) := by decide +kernel
theorem dX7_takesNumber_8 : decode cX7_takesNumber 8 = .ok (.iconst 2, 1) := by decide +kernel
theorem dX7_takesNumber_9 : decode cX7_takesNumber 9 = .ok (.if_icmp .ne 22, 3) := by decide +kernel
theorem dX7_takesNumber_12 : decode cX7_takesNumber 12 = .ok (.aload_n 0, 1) := by decide +kernel
theorem dX7_takesNumber_13 : decode cX7_takesNumber 13 = .ok (.getfield 77, 3) := by decide +kernel
theorem dX7_takesNumber_16 : decode cX7_takesNumber 16 = .ok (.i2l, 1) := by decide +kernel
theorem dX7_takesNumber_17 : decode cX7_takesNumber 17 = .ok (.iload_n 1, 1) := by decide +kernel
theorem dX7_takesNumber_18 : decode cX7_takesNumber 18 = .ok (.i2l, 1) := by decide +kernel
theorem dX7_takesNumber_19 : decode cX7_takesNumber 19 = .ok (.iload_n 2, 1) := by decide +kernel
theorem dX7_takesNumber_20 : decode cX7_takesNumber 20 = .ok (.i2l, 1) := by decide +kernel
theorem dX7_takesNumber_21 : decode cX7_takesNumber 21 = .ok (.invokestatic 62, 3) := by decide +kernel
theorem dX7_takesNumber_24 : decode cX7_takesNumber 24 = .ok (.ifCond .eq 7, 3) := by decide +kernel
theorem dX7_takesNumber_27 : decode cX7_takesNumber 27 = .ok (.iconst 1, 1) := by decide +kernel
theorem dX7_takesNumber_28 : decode cX7_takesNumber 28 = .ok (.goto 4, 3) := by decide +kernel
theorem dX7_takesNumber_31 : decode cX7_takesNumber 31 = .ok (.iconst 0, 1) := by decide +kernel
theorem dX7_takesNumber_32 : decode cX7_takesNumber 32 = .ok (.ireturn, 1) := by decide +kernel
theorem dX7_ends_0 : decode cX7_ends 0 = .ok (.aload_n 0, 1) := by decide +kernel
theorem dX7_ends_1 : decode cX7_ends 1 = .ok (.invokevirtual 104, 3) := by decide +kernel
theorem dX7_ends_4 : decode cX7_ends 4 = .ok (.aload_n 0, 1) := by decide +kernel
theorem dX7_ends_5 : decode cX7_ends 5 = .ok (.getfield 91, 3) := by decide +kernel
theorem dX7_ends_8 : decode cX7_ends 8 = .ok (.iconst 3, 1) := by decide +kernel
theorem dX7_ends_9 : decode cX7_ends 9 = .ok (.if_icmp .ne 7, 3) := by decide +kernel
theorem dX7_ends_12 : decode cX7_ends 12 = .ok (.iconst 1, 1) := by decide +kernel
theorem dX7_ends_13 : decode cX7_ends 13 = .ok (.goto 4, 3) := by decide +kernel
theorem dX7_ends_16 : decode cX7_ends 16 = .ok (.iconst 0, 1) := by decide +kernel
theorem dX7_ends_17 : decode cX7_ends 17 = .ok (.ireturn, 1) := by decide +kernel
theorem dX7_readTrays_0 : decode cX7_readTrays 0 = .ok (.iconst 1, 1) := by decide +kernel
theorem dX7_readTrays_1 : decode cX7_readTrays 1 = .ok (.istore_n 1, 1) := by decide +kernel
theorem dX7_readTrays_2 : decode cX7_readTrays 2 = .ok (.iconst 0, 1) := by decide +kernel
theorem dX7_readTrays_3 : decode cX7_readTrays 3 = .ok (.istore_n 2, 1) := by decide +kernel
theorem dX7_readTrays_4 : decode cX7_readTrays 4 = .ok (.iload_n 2, 1) := by decide +kernel
theorem dX7_readTrays_5 : decode cX7_readTrays 5 = .ok (.iconst 3, 1) := by decide +kernel
theorem dX7_readTrays_6 : decode cX7_readTrays 6 = .ok (.if_icmp .ge 44, 3) := by decide +kernel
theorem dX7_readTrays_9 : decode cX7_readTrays 9 = .ok (.iload_n 1, 1) := by decide +kernel
theorem dX7_readTrays_10 : decode cX7_readTrays 10 = .ok (.ifCond .eq 40, 3) := by decide +kernel
theorem dX7_readTrays_13 : decode cX7_readTrays 13 = .ok (.aload_n 0, 1) := by decide +kernel
theorem dX7_readTrays_14 : decode cX7_readTrays 14 = .ok (.iconst 0, 1) := by decide +kernel
theorem dX7_readTrays_15 : decode cX7_readTrays 15 = .ok (.bipush 99, 2) := by decide +kernel
theorem dX7_readTrays_17 : decode cX7_readTrays 17 = .ok (.invokevirtual 107, 3) := by decide +kernel
theorem dX7_readTrays_20 : decode cX7_readTrays 20 = .ok (.istore_n 1, 1) := by decide +kernel
theorem dX7_readTrays_21 : decode cX7_readTrays 21 = .ok (.aload_n 0, 1) := by decide +kernel
theorem dX7_readTrays_22 : decode cX7_readTrays 22 = .ok (.getfield 41, 3) := by decide +kernel
theorem dX7_readTrays_25 : decode cX7_readTrays 25 = .ok (.iload_n 2, 1) := by decide +kernel
theorem dX7_readTrays_26 : decode cX7_readTrays 26 = .ok (.iload_n 1, 1) := by decide +kernel
theorem dX7_readTrays_27 : decode cX7_readTrays 27 = .ok (.ifCond .eq 10, 3) := by decide +kernel
theorem dX7_readTrays_30 : decode cX7_readTrays 30 = .ok (.aload_n 0, 1) := by decide +kernel
theorem dX7_readTrays_31 : decode cX7_readTrays 31 = .ok (.getfield 77, 3) := by decide +kernel
theorem dX7_readTrays_34 : decode cX7_readTrays 34 = .ok (.goto 9, 3) := by decide +kernel
theorem dX7_readTrays_37 : decode cX7_readTrays 37 = .ok (.aload_n 0, 1) := by decide +kernel
theorem dX7_readTrays_38 : decode cX7_readTrays 38 = .ok (.getfield 41, 3) := by decide +kernel
theorem dX7_readTrays_41 : decode cX7_readTrays 41 = .ok (.iload_n 2, 1) := by decide +kernel
theorem dX7_readTrays_42 : decode cX7_readTrays 42 = .ok (.iaload, 1) := by decide +kernel
theorem dX7_readTrays_43 : decode cX7_readTrays 43 = .ok (.iastore, 1) := by decide +kernel
theorem dX7_readTrays_44 : decode cX7_readTrays 44 = .ok (.iinc 2 1, 3) := by decide +kernel
theorem dX7_readTrays_47 : decode cX7_readTrays 47 = .ok (.goto (-43), 3) := by decide +kernel
theorem dX7_readTrays_50 : decode cX7_readTrays 50 = .ok (.iload_n 1, 1) := by decide +kernel
theorem dX7_readTrays_51 : decode cX7_readTrays 51 = .ok (.ireturn, 1) := by decide +kernel
theorem dX7_readJob_0 : decode cX7_readJob 0 = .ok (.iconst 1, 1) := by decide +kernel
theorem dX7_readJob_1 : decode cX7_readJob 1 = .ok (.istore_n 1, 1) := by decide +kernel
theorem dX7_readJob_2 : decode cX7_readJob 2 = .ok (.iconst 0, 1) := by decide +kernel
theorem dX7_readJob_3 : decode cX7_readJob 3 = .ok (.istore_n 2, 1) := by decide +kernel
theorem dX7_readJob_4 : decode cX7_readJob 4 = .ok (.iload_n 2, 1) := by decide +kernel
theorem dX7_readJob_5 : decode cX7_readJob 5 = .ok (.iconst 5, 1) := by decide +kernel
theorem dX7_readJob_6 : decode cX7_readJob 6 = .ok (.if_icmp .ge 65, 3) := by decide +kernel
theorem dX7_readJob_9 : decode cX7_readJob 9 = .ok (.iload_n 1, 1) := by decide +kernel
theorem dX7_readJob_10 : decode cX7_readJob 10 = .ok (.ifCond .eq 61, 3) := by decide +kernel
theorem dX7_readJob_13 : decode cX7_readJob 13 = .ok (.aload_n 0, 1) := by decide +kernel
theorem dX7_readJob_14 : decode cX7_readJob 14 = .ok (.iload_n 2, 1) := by decide +kernel
theorem dX7_readJob_15 : decode cX7_readJob 15 = .ok (.iconst 2, 1) := by decide +kernel
theorem dX7_readJob_16 : decode cX7_readJob 16 = .ok (.if_icmp .ge 7, 3) := by decide +kernel
theorem dX7_readJob_19 : decode cX7_readJob 19 = .ok (.iconst 1, 1) := by decide +kernel
theorem dX7_readJob_20 : decode cX7_readJob 20 = .ok (.goto 4, 3) := by decide +kernel
theorem dX7_readJob_23 : decode cX7_readJob 23 = .ok (.iconst 0, 1) := by decide +kernel
theorem dX7_readJob_24 : decode cX7_readJob 24 = .ok (.iload_n 2, 1) := by decide +kernel
theorem dX7_readJob_25 : decode cX7_readJob 25 = .ok (.iconst 2, 1) := by decide +kernel
theorem dX7_readJob_26 : decode cX7_readJob 26 = .ok (.if_icmp .ge 8, 3) := by decide +kernel
theorem dX7_readJob_29 : decode cX7_readJob 29 = .ok (.bipush 9, 2) := by decide +kernel
theorem dX7_readJob_31 : decode cX7_readJob 31 = .ok (.goto 13, 3) := by decide +kernel
theorem dX7_readJob_34 : decode cX7_readJob 34 = .ok (.iload_n 2, 1) := by decide +kernel
theorem dX7_readJob_35 : decode cX7_readJob 35 = .ok (.iconst 4, 1) := by decide +kernel
theorem dX7_readJob_36 : decode cX7_readJob 36 = .ok (.if_icmp .ne 7, 3) := by decide +kernel
theorem dX7_readJob_39 : decode cX7_readJob 39 = .ok (.iconst 2, 1) := by decide +kernel
theorem dX7_readJob_40 : decode cX7_readJob 40 = .ok (.goto 4, 3) := by decide +kernel
theorem dX7_readJob_43 : decode cX7_readJob 43 = .ok (.iconst 1, 1) := by decide +kernel
theorem dX7_readJob_44 : decode cX7_readJob 44 = .ok (.invokevirtual 107, 3) := by decide +kernel
theorem dX7_readJob_47 : decode cX7_readJob 47 = .ok (.istore_n 1, 1) := by decide +kernel
theorem dX7_readJob_48 : decode cX7_readJob 48 = .ok (.aload_n 0, 1) := by decide +kernel
theorem dX7_readJob_49 : decode cX7_readJob 49 = .ok (.getfield 44, 3) := by decide +kernel
theorem dX7_readJob_52 : decode cX7_readJob 52 = .ok (.iconst 5, 1) := by decide +kernel
theorem dX7_readJob_53 : decode cX7_readJob 53 = .ok (.aload_n 0, 1) := by decide +kernel
theorem dX7_readJob_54 : decode cX7_readJob 54 = .ok (.getfield 111, 3) := by decide +kernel
theorem dX7_readJob_57 : decode cX7_readJob 57 = .ok (.imul, 1) := by decide +kernel
theorem dX7_readJob_58 : decode cX7_readJob 58 = .ok (.iload_n 2, 1) := by decide +kernel
theorem dX7_readJob_59 : decode cX7_readJob 59 = .ok (.iadd, 1) := by decide +kernel
theorem dX7_readJob_60 : decode cX7_readJob 60 = .ok (.aload_n 0, 1) := by decide +kernel
theorem dX7_readJob_61 : decode cX7_readJob 61 = .ok (.getfield 77, 3) := by decide +kernel
theorem dX7_readJob_64 : decode cX7_readJob 64 = .ok (.iastore, 1) := by decide +kernel
theorem dX7_readJob_65 : decode cX7_readJob 65 = .ok (.iinc 2 1, 3) := by decide +kernel
theorem dX7_readJob_68 : decode cX7_readJob 68 = .ok (.goto (-64), 3) := by decide +kernel
theorem dX7_readJob_71 : decode cX7_readJob 71 = .ok (.aload_n 0, 1) := by decide +kernel
theorem dX7_readJob_72 : decode cX7_readJob 72 = .ok (.dup, 1) := by decide +kernel
theorem dX7_readJob_73 : decode cX7_readJob 73 = .ok (.getfield 111, 3) := by decide +kernel
theorem dX7_readJob_76 : decode cX7_readJob 76 = .ok (.iconst 1, 1) := by decide +kernel
theorem dX7_readJob_77 : decode cX7_readJob 77 = .ok (.iadd, 1) := by decide +kernel
theorem dX7_readJob_78 : decode cX7_readJob 78 = .ok (.putfield 111, 3) := by decide +kernel
theorem dX7_readJob_81 : decode cX7_readJob 81 = .ok (.iload_n 1, 1) := by decide +kernel
theorem dX7_readJob_82 : decode cX7_readJob 82 = .ok (.ireturn, 1) := by decide +kernel
theorem dX7_readItem_0 : decode cX7_readItem 0 = .ok (.aload_n 0, 1) := by decide +kernel
theorem dX7_readItem_1 : decode cX7_readItem 1 = .ok (.getfield 77, 3) := by decide +kernel
theorem dX7_readItem_4 : decode cX7_readItem 4 = .ok (.istore_n 1, 1) := by decide +kernel
theorem dX7_readItem_5 : decode cX7_readItem 5 = .ok (.iload_n 1, 1) := by decide +kernel
theorem dX7_readItem_6 : decode cX7_readItem 6 = .ok (.bipush 116, 2) := by decide +kernel
theorem dX7_readItem_8 : decode cX7_readItem 8 = .ok (.if_icmp .ne 7, 3) := by decide +kernel
theorem dX7_readItem_11 : decode cX7_readItem 11 = .ok (.iconst 1, 1) := by decide +kernel
theorem dX7_readItem_12 : decode cX7_readItem 12 = .ok (.goto 24, 3) := by decide +kernel
theorem dX7_readItem_15 : decode cX7_readItem 15 = .ok (.iload_n 1, 1) := by decide +kernel
theorem dX7_readItem_16 : decode cX7_readItem 16 = .ok (.bipush 107, 2) := by decide +kernel
theorem dX7_readItem_18 : decode cX7_readItem 18 = .ok (.if_icmp .ne 7, 3) := by decide +kernel
theorem dX7_readItem_21 : decode cX7_readItem 21 = .ok (.iconst 2, 1) := by decide +kernel
theorem dX7_readItem_22 : decode cX7_readItem 22 = .ok (.goto 14, 3) := by decide +kernel
theorem dX7_readItem_25 : decode cX7_readItem 25 = .ok (.iload_n 1, 1) := by decide +kernel
theorem dX7_readItem_26 : decode cX7_readItem 26 = .ok (.bipush 98, 2) := by decide +kernel
theorem dX7_readItem_28 : decode cX7_readItem 28 = .ok (.if_icmp .ne 7, 3) := by decide +kernel
theorem dX7_readItem_31 : decode cX7_readItem 31 = .ok (.iconst 4, 1) := by decide +kernel
theorem dX7_readItem_32 : decode cX7_readItem 32 = .ok (.goto 4, 3) := by decide +kernel
theorem dX7_readItem_35 : decode cX7_readItem 35 = .ok (.iconst 0, 1) := by decide +kernel
theorem dX7_readItem_36 : decode cX7_readItem 36 = .ok (.istore_n 2, 1) := by decide +kernel
theorem dX7_readItem_37 : decode cX7_readItem 37 = .ok (.aload_n 0, 1) := by decide +kernel
theorem dX7_readItem_38 : decode cX7_readItem 38 = .ok (.getfield 91, 3) := by decide +kernel
theorem dX7_readItem_41 : decode cX7_readItem 41 = .ok (.iconst 1, 1) := by decide +kernel
theorem dX7_readItem_42 : decode cX7_readItem 42 = .ok (.if_icmp .ne 37, 3) := by decide +kernel
theorem dX7_readItem_45 : decode cX7_readItem 45 = .ok (.iload_n 2, 1) := by decide +kernel
theorem dX7_readItem_46 : decode cX7_readItem 46 = .ok (.ifCond .ne 9, 3) := by decide +kernel
theorem dX7_readItem_49 : decode cX7_readItem 49 = .ok (.iload_n 1, 1) := by decide +kernel
theorem dX7_readItem_50 : decode cX7_readItem 50 = .ok (.bipush 106, 2) := by decide +kernel
theorem dX7_readItem_52 : decode cX7_readItem 52 = .ok (.if_icmp .ne 27, 3) := by decide +kernel
theorem dX7_readItem_55 : decode cX7_readItem 55 = .ok (.aload_n 0, 1) := by decide +kernel
theorem dX7_readItem_56 : decode cX7_readItem 56 = .ok (.getfield 114, 3) := by decide +kernel
theorem dX7_readItem_59 : decode cX7_readItem 59 = .ok (.iload_n 2, 1) := by decide +kernel
theorem dX7_readItem_60 : decode cX7_readItem 60 = .ok (.iand, 1) := by decide +kernel
theorem dX7_readItem_61 : decode cX7_readItem 61 = .ok (.ifCond .ne 18, 3) := by decide +kernel
theorem dX7_readItem_64 : decode cX7_readItem 64 = .ok (.iload_n 1, 1) := by decide +kernel
theorem dX7_readItem_65 : decode cX7_readItem 65 = .ok (.bipush 106, 2) := by decide +kernel
theorem dX7_readItem_67 : decode cX7_readItem 67 = .ok (.if_icmp .ne 14, 3) := by decide +kernel
theorem dX7_readItem_70 : decode cX7_readItem 70 = .ok (.aload_n 0, 1) := by decide +kernel
theorem dX7_readItem_71 : decode cX7_readItem 71 = .ok (.getfield 111, 3) := by decide +kernel
theorem dX7_readItem_74 : decode cX7_readItem 74 = .ok (.bipush 6, 2) := by decide +kernel
theorem dX7_readItem_76 : decode cX7_readItem 76 = .ok (.if_icmp .ne 5, 3) := by decide +kernel
theorem dX7_readItem_79 : decode cX7_readItem 79 = .ok (.iconst 0, 1) := by decide +kernel
theorem dX7_readItem_80 : decode cX7_readItem 80 = .ok (.ireturn, 1) := by decide +kernel
theorem dX7_readItem_81 : decode cX7_readItem 81 = .ok (.aload_n 0, 1) := by decide +kernel
theorem dX7_readItem_82 : decode cX7_readItem 82 = .ok (.dup, 1) := by decide +kernel
theorem dX7_readItem_83 : decode cX7_readItem 83 = .ok (.getfield 114, 3) := by decide +kernel
theorem dX7_readItem_86 : decode cX7_readItem 86 = .ok (.iload_n 2, 1) := by decide +kernel
theorem dX7_readItem_87 : decode cX7_readItem 87 = .ok (.ior, 1) := by decide +kernel
theorem dX7_readItem_88 : decode cX7_readItem 88 = .ok (.putfield 114, 3) := by decide +kernel
theorem dX7_readItem_91 : decode cX7_readItem 91 = .ok (.iconst 1, 1) := by decide +kernel
theorem dX7_readItem_92 : decode cX7_readItem 92 = .ok (.istore_n 3, 1) := by decide +kernel
theorem dX7_readItem_93 : decode cX7_readItem 93 = .ok (.iload_n 1, 1) := by decide +kernel
theorem dX7_readItem_94 : decode cX7_readItem 94 = .ok (.lookupswitch 81 #[(98, 62), (107, 42), (116, 34)], 34) := by decide +kernel
theorem dX7_readItem_128 : decode cX7_readItem 128 = .ok (.aload_n 0, 1) := by decide +kernel
theorem dX7_readItem_129 : decode cX7_readItem 129 = .ok (.invokevirtual 117, 3) := by decide +kernel
theorem dX7_readItem_132 : decode cX7_readItem 132 = .ok (.istore_n 3, 1) := by decide +kernel
theorem dX7_readItem_133 : decode cX7_readItem 133 = .ok (.goto 47, 3) := by decide +kernel
theorem dX7_readItem_136 : decode cX7_readItem 136 = .ok (.aload_n 0, 1) := by decide +kernel
theorem dX7_readItem_137 : decode cX7_readItem 137 = .ok (.iconst 0, 1) := by decide +kernel
theorem dX7_readItem_138 : decode cX7_readItem 138 = .ok (.sipush 999, 3) := by decide +kernel
theorem dX7_readItem_141 : decode cX7_readItem 141 = .ok (.invokevirtual 107, 3) := by decide +kernel
theorem dX7_readItem_144 : decode cX7_readItem 144 = .ok (.istore_n 3, 1) := by decide +kernel
theorem dX7_readItem_145 : decode cX7_readItem 145 = .ok (.aload_n 0, 1) := by decide +kernel
theorem dX7_readItem_146 : decode cX7_readItem 146 = .ok (.aload_n 0, 1) := by decide +kernel
theorem dX7_readItem_147 : decode cX7_readItem 147 = .ok (.getfield 77, 3) := by decide +kernel
theorem dX7_readItem_150 : decode cX7_readItem 150 = .ok (.putfield 56, 3) := by decide +kernel
theorem dX7_readItem_153 : decode cX7_readItem 153 = .ok (.goto 27, 3) := by decide +kernel
theorem dX7_readItem_156 : decode cX7_readItem 156 = .ok (.aload_n 0, 1) := by decide +kernel
theorem dX7_readItem_157 : decode cX7_readItem 157 = .ok (.iconst 1, 1) := by decide +kernel
theorem dX7_readItem_158 : decode cX7_readItem 158 = .ok (.bipush 6, 2) := by decide +kernel
theorem dX7_readItem_160 : decode cX7_readItem 160 = .ok (.invokevirtual 107, 3) := by decide +kernel
theorem dX7_readItem_163 : decode cX7_readItem 163 = .ok (.istore_n 3, 1) := by decide +kernel
theorem dX7_readItem_164 : decode cX7_readItem 164 = .ok (.aload_n 0, 1) := by decide +kernel
theorem dX7_readItem_165 : decode cX7_readItem 165 = .ok (.aload_n 0, 1) := by decide +kernel
theorem dX7_readItem_166 : decode cX7_readItem 166 = .ok (.getfield 77, 3) := by decide +kernel
theorem dX7_readItem_169 : decode cX7_readItem 169 = .ok (.putfield 121, 3) := by decide +kernel
theorem dX7_readItem_172 : decode cX7_readItem 172 = .ok (.goto 8, 3) := by decide +kernel
theorem dX7_readItem_175 : decode cX7_readItem 175 = .ok (.aload_n 0, 1) := by decide +kernel
theorem dX7_readItem_176 : decode cX7_readItem 176 = .ok (.invokevirtual 124, 3) := by decide +kernel
theorem dX7_readItem_179 : decode cX7_readItem 179 = .ok (.istore_n 3, 1) := by decide +kernel
theorem dX7_readItem_180 : decode cX7_readItem 180 = .ok (.iload_n 3, 1) := by decide +kernel
theorem dX7_readItem_181 : decode cX7_readItem 181 = .ok (.ifCond .eq 14, 3) := by decide +kernel
theorem dX7_readItem_184 : decode cX7_readItem 184 = .ok (.aload_n 0, 1) := by decide +kernel
theorem dX7_readItem_185 : decode cX7_readItem 185 = .ok (.invokevirtual 127, 3) := by decide +kernel
theorem dX7_readItem_188 : decode cX7_readItem 188 = .ok (.ifCond .eq 7, 3) := by decide +kernel
theorem dX7_readItem_191 : decode cX7_readItem 191 = .ok (.iconst 1, 1) := by decide +kernel
theorem dX7_readItem_192 : decode cX7_readItem 192 = .ok (.goto 4, 3) := by decide +kernel
theorem dX7_readItem_195 : decode cX7_readItem 195 = .ok (.iconst 0, 1) := by decide +kernel
theorem dX7_readItem_196 : decode cX7_readItem 196 = .ok (.ireturn, 1) := by decide +kernel
theorem dX7_office_0 : decode cX7_office 0 = .ok (.aload_n 0, 1) := by decide +kernel
theorem dX7_office_1 : decode cX7_office 1 = .ok (.iconst 0, 1) := by decide +kernel
theorem dX7_office_2 : decode cX7_office 2 = .ok (.putfield 74, 3) := by decide +kernel
theorem dX7_office_5 : decode cX7_office 5 = .ok (.aload_n 0, 1) := by decide +kernel
theorem dX7_office_6 : decode cX7_office 6 = .ok (.iconst 0, 1) := by decide +kernel
theorem dX7_office_7 : decode cX7_office 7 = .ok (.putfield 114, 3) := by decide +kernel
theorem dX7_office_10 : decode cX7_office 10 = .ok (.aload_n 0, 1) := by decide +kernel
theorem dX7_office_11 : decode cX7_office 11 = .ok (.iconst 0, 1) := by decide +kernel
theorem dX7_office_12 : decode cX7_office 12 = .ok (.putfield 111, 3) := by decide +kernel
theorem dX7_office_15 : decode cX7_office 15 = .ok (.aload_n 0, 1) := by decide +kernel
theorem dX7_office_16 : decode cX7_office 16 = .ok (.sipush 200, 3) := by decide +kernel
theorem dX7_office_19 : decode cX7_office 19 = .ok (.putfield 56, 3) := by decide +kernel
theorem dX7_office_22 : decode cX7_office 22 = .ok (.aload_n 0, 1) := by decide +kernel
theorem dX7_office_23 : decode cX7_office 23 = .ok (.iconst 4, 1) := by decide +kernel
theorem dX7_office_24 : decode cX7_office 24 = .ok (.putfield 121, 3) := by decide +kernel
theorem dX7_office_27 : decode cX7_office 27 = .ok (.iconst 0, 1) := by decide +kernel
theorem dX7_office_28 : decode cX7_office 28 = .ok (.istore_n 1, 1) := by decide +kernel
theorem dX7_office_29 : decode cX7_office 29 = .ok (.iload_n 1, 1) := by decide +kernel
theorem dX7_office_30 : decode cX7_office 30 = .ok (.iconst 3, 1) := by decide +kernel
theorem dX7_office_31 : decode cX7_office 31 = .ok (.if_icmp .ge 17, 3) := by decide +kernel
theorem dX7_office_34 : decode cX7_office 34 = .ok (.aload_n 0, 1) := by decide +kernel
theorem dX7_office_35 : decode cX7_office 35 = .ok (.getfield 41, 3) := by decide +kernel
theorem dX7_office_38 : decode cX7_office 38 = .ok (.iload_n 1, 1) := by decide +kernel
theorem dX7_office_39 : decode cX7_office 39 = .ok (.bipush 20, 2) := by decide +kernel
theorem dX7_office_41 : decode cX7_office 41 = .ok (.iastore, 1) := by decide +kernel
theorem dX7_office_42 : decode cX7_office 42 = .ok (.iinc 1 1, 3) := by decide +kernel
theorem dX7_office_45 : decode cX7_office 45 = .ok (.goto (-16), 3) := by decide +kernel
theorem dX7_office_48 : decode cX7_office 48 = .ok (.iconst 0, 1) := by decide +kernel
theorem dX7_office_49 : decode cX7_office 49 = .ok (.istore_n 1, 1) := by decide +kernel
theorem dX7_office_50 : decode cX7_office 50 = .ok (.iconst 1, 1) := by decide +kernel
theorem dX7_office_51 : decode cX7_office 51 = .ok (.istore_n 2, 1) := by decide +kernel
theorem dX7_office_52 : decode cX7_office 52 = .ok (.aload_n 0, 1) := by decide +kernel
theorem dX7_office_53 : decode cX7_office 53 = .ok (.invokevirtual 104, 3) := by decide +kernel
theorem dX7_office_56 : decode cX7_office 56 = .ok (.iload_n 2, 1) := by decide +kernel
theorem dX7_office_57 : decode cX7_office 57 = .ok (.ifCond .eq 29, 3) := by decide +kernel
theorem dX7_office_60 : decode cX7_office 60 = .ok (.aload_n 0, 1) := by decide +kernel
theorem dX7_office_61 : decode cX7_office 61 = .ok (.getfield 91, 3) := by decide +kernel
theorem dX7_office_64 : decode cX7_office 64 = .ok (.ifCond .eq 22, 3) := by decide +kernel
theorem dX7_office_67 : decode cX7_office 67 = .ok (.aload_n 0, 1) := by decide +kernel
theorem dX7_office_68 : decode cX7_office 68 = .ok (.invokevirtual 130, 3) := by decide +kernel
theorem dX7_office_71 : decode cX7_office 71 = .ok (.istore_n 2, 1) := by decide +kernel
theorem dX7_office_72 : decode cX7_office 72 = .ok (.iload_n 2, 1) := by decide +kernel
theorem dX7_office_73 : decode cX7_office 73 = .ok (.ifCond .eq (-17), 3) := by decide +kernel
theorem dX7_office_76 : decode cX7_office 76 = .ok (.iinc 1 1, 3) := by decide +kernel
theorem dX7_office_79 : decode cX7_office 79 = .ok (.aload_n 0, 1) := by decide +kernel
theorem dX7_office_80 : decode cX7_office 80 = .ok (.invokevirtual 104, 3) := by decide +kernel
theorem dX7_office_83 : decode cX7_office 83 = .ok (.goto (-27), 3) := by decide +kernel
theorem dX7_office_86 : decode cX7_office 86 = .ok (.iload_n 2, 1) := by decide +kernel
theorem dX7_office_87 : decode cX7_office 87 = .ok (.ifCond .ne 29, 3) := by decide +kernel
theorem dX7_office_90 : decode cX7_office 90 = .ok (.bipush (-10), 2) := by decide +kernel
theorem dX7_office_92 : decode cX7_office 92 = .ok (.aload_n 0, 1) := by decide +kernel
theorem dX7_office_93 : decode cX7_office 93 = .ok (.getfield 88, 3) := by decide +kernel
theorem dX7_office_96 : decode cX7_office 96 = .ok (.aload_n 0, 1) := by decide +kernel
theorem dX7_office_97 : decode cX7_office 97 = .ok (.getfield 71, 3) := by decide +kernel
theorem dX7_office_100 : decode cX7_office 100 = .ok (.if_icmp .ge 10, 3) := by decide +kernel
theorem dX7_office_103 : decode cX7_office 103 = .ok (.aload_n 0, 1) := by decide +kernel
theorem dX7_office_104 : decode cX7_office 104 = .ok (.getfield 88, 3) := by decide +kernel
theorem dX7_office_107 : decode cX7_office 107 = .ok (.goto 7, 3) := by decide +kernel
theorem dX7_office_110 : decode cX7_office 110 = .ok (.aload_n 0, 1) := by decide +kernel
theorem dX7_office_111 : decode cX7_office 111 = .ok (.getfield 71, 3) := by decide +kernel
theorem dX7_office_114 : decode cX7_office 114 = .ok (.isub, 1) := by decide +kernel
theorem dX7_office_115 : decode cX7_office 115 = .ok (.ireturn, 1) := by decide +kernel
theorem dX7_office_116 : decode cX7_office 116 = .ok (.aload_n 0, 1) := by decide +kernel
theorem dX7_office_117 : decode cX7_office 117 = .ok (.iconst 0, 1) := by decide +kernel
theorem dX7_office_118 : decode cX7_office 118 = .ok (.putfield 71, 3) := by decide +kernel
theorem dX7_office_121 : decode cX7_office 121 = .ok (.aload_n 0, 1) := by decide +kernel
theorem dX7_office_122 : decode cX7_office 122 = .ok (.aload_n 0, 1) := by decide +kernel
theorem dX7_office_123 : decode cX7_office 123 = .ok (.getfield 111, 3) := by decide +kernel
theorem dX7_office_126 : decode cX7_office 126 = .ok (.putfield 66, 3) := by decide +kernel
theorem dX7_office_129 : decode cX7_office 129 = .ok (.aload_n 0, 1) := by decide +kernel
theorem dX7_office_130 : decode cX7_office 130 = .ok (.aload_n 0, 1) := by decide +kernel
theorem dX7_office_131 : decode cX7_office 131 = .ok (.getfield 121, 3) := by decide +kernel
theorem dX7_office_134 : decode cX7_office 134 = .ok (.putfield 25, 3) := by decide +kernel
theorem dX7_office_137 : decode cX7_office 137 = .ok (.iconst 0, 1) := by decide +kernel
theorem dX7_office_138 : decode cX7_office 138 = .ok (.istore_n 3, 1) := by decide +kernel
theorem dX7_office_139 : decode cX7_office 139 = .ok (.iload_n 3, 1) := by decide +kernel
theorem dX7_office_140 : decode cX7_office 140 = .ok (.aload_n 0, 1) := by decide +kernel
theorem dX7_office_141 : decode cX7_office 141 = .ok (.getfield 66, 3) := by decide +kernel
theorem dX7_office_144 : decode cX7_office 144 = .ok (.if_icmp .ge 87, 3) := by decide +kernel
theorem dX7_office_147 : decode cX7_office 147 = .ok (.aload_n 0, 1) := by decide +kernel
theorem dX7_office_148 : decode cX7_office 148 = .ok (.getfield 7, 3) := by decide +kernel
theorem dX7_office_151 : decode cX7_office 151 = .ok (.iload_n 3, 1) := by decide +kernel
theorem dX7_office_152 : decode cX7_office 152 = .ok (.aload_n 0, 1) := by decide +kernel
theorem dX7_office_153 : decode cX7_office 153 = .ok (.getfield 44, 3) := by decide +kernel
theorem dX7_office_156 : decode cX7_office 156 = .ok (.iconst 5, 1) := by decide +kernel
theorem dX7_office_157 : decode cX7_office 157 = .ok (.iload_n 3, 1) := by decide +kernel
theorem dX7_office_158 : decode cX7_office 158 = .ok (.imul, 1) := by decide +kernel
theorem dX7_office_159 : decode cX7_office 159 = .ok (.iaload, 1) := by decide +kernel
theorem dX7_office_160 : decode cX7_office 160 = .ok (.iastore, 1) := by decide +kernel
theorem dX7_office_161 : decode cX7_office 161 = .ok (.aload_n 0, 1) := by decide +kernel
theorem dX7_office_162 : decode cX7_office 162 = .ok (.getfield 13, 3) := by decide +kernel
theorem dX7_office_165 : decode cX7_office 165 = .ok (.iload_n 3, 1) := by decide +kernel
theorem dX7_office_166 : decode cX7_office 166 = .ok (.aload_n 0, 1) := by decide +kernel
theorem dX7_office_167 : decode cX7_office 167 = .ok (.getfield 44, 3) := by decide +kernel
theorem dX7_office_170 : decode cX7_office 170 = .ok (.iconst 5, 1) := by decide +kernel
theorem dX7_office_171 : decode cX7_office 171 = .ok (.iload_n 3, 1) := by decide +kernel
theorem dX7_office_172 : decode cX7_office 172 = .ok (.imul, 1) := by decide +kernel
theorem dX7_office_173 : decode cX7_office 173 = .ok (.iconst 1, 1) := by decide +kernel
theorem dX7_office_174 : decode cX7_office 174 = .ok (.iadd, 1) := by decide +kernel
theorem dX7_office_175 : decode cX7_office 175 = .ok (.iaload, 1) := by decide +kernel
theorem dX7_office_176 : decode cX7_office 176 = .ok (.iastore, 1) := by decide +kernel
theorem dX7_office_177 : decode cX7_office 177 = .ok (.aload_n 0, 1) := by decide +kernel
theorem dX7_office_178 : decode cX7_office 178 = .ok (.getfield 16, 3) := by decide +kernel
theorem dX7_office_181 : decode cX7_office 181 = .ok (.iload_n 3, 1) := by decide +kernel
theorem dX7_office_182 : decode cX7_office 182 = .ok (.aload_n 0, 1) := by decide +kernel
theorem dX7_office_183 : decode cX7_office 183 = .ok (.getfield 44, 3) := by decide +kernel
theorem dX7_office_186 : decode cX7_office 186 = .ok (.iconst 5, 1) := by decide +kernel
theorem dX7_office_187 : decode cX7_office 187 = .ok (.iload_n 3, 1) := by decide +kernel
theorem dX7_office_188 : decode cX7_office 188 = .ok (.imul, 1) := by decide +kernel
theorem dX7_office_189 : decode cX7_office 189 = .ok (.iconst 2, 1) := by decide +kernel
theorem dX7_office_190 : decode cX7_office 190 = .ok (.iadd, 1) := by decide +kernel
theorem dX7_office_191 : decode cX7_office 191 = .ok (.iaload, 1) := by decide +kernel
theorem dX7_office_192 : decode cX7_office 192 = .ok (.iastore, 1) := by decide +kernel
theorem dX7_office_193 : decode cX7_office 193 = .ok (.aload_n 0, 1) := by decide +kernel
theorem dX7_office_194 : decode cX7_office 194 = .ok (.getfield 19, 3) := by decide +kernel
theorem dX7_office_197 : decode cX7_office 197 = .ok (.iload_n 3, 1) := by decide +kernel
theorem dX7_office_198 : decode cX7_office 198 = .ok (.aload_n 0, 1) := by decide +kernel
theorem dX7_office_199 : decode cX7_office 199 = .ok (.getfield 44, 3) := by decide +kernel
theorem dX7_office_202 : decode cX7_office 202 = .ok (.iconst 5, 1) := by decide +kernel
theorem dX7_office_203 : decode cX7_office 203 = .ok (.iload_n 3, 1) := by decide +kernel
theorem dX7_office_204 : decode cX7_office 204 = .ok (.imul, 1) := by decide +kernel
theorem dX7_office_205 : decode cX7_office 205 = .ok (.iconst 3, 1) := by decide +kernel
theorem dX7_office_206 : decode cX7_office 206 = .ok (.iadd, 1) := by decide +kernel
theorem dX7_office_207 : decode cX7_office 207 = .ok (.iaload, 1) := by decide +kernel
theorem dX7_office_208 : decode cX7_office 208 = .ok (.iastore, 1) := by decide +kernel
theorem dX7_office_209 : decode cX7_office 209 = .ok (.aload_n 0, 1) := by decide +kernel
theorem dX7_office_210 : decode cX7_office 210 = .ok (.getfield 22, 3) := by decide +kernel
theorem dX7_office_213 : decode cX7_office 213 = .ok (.iload_n 3, 1) := by decide +kernel
theorem dX7_office_214 : decode cX7_office 214 = .ok (.aload_n 0, 1) := by decide +kernel
theorem dX7_office_215 : decode cX7_office 215 = .ok (.getfield 44, 3) := by decide +kernel
theorem dX7_office_218 : decode cX7_office 218 = .ok (.iconst 5, 1) := by decide +kernel
theorem dX7_office_219 : decode cX7_office 219 = .ok (.iload_n 3, 1) := by decide +kernel
theorem dX7_office_220 : decode cX7_office 220 = .ok (.imul, 1) := by decide +kernel
theorem dX7_office_221 : decode cX7_office 221 = .ok (.iconst 4, 1) := by decide +kernel
theorem dX7_office_222 : decode cX7_office 222 = .ok (.iadd, 1) := by decide +kernel
theorem dX7_office_223 : decode cX7_office 223 = .ok (.iaload, 1) := by decide +kernel
theorem dX7_office_224 : decode cX7_office 224 = .ok (.iastore, 1) := by decide +kernel
theorem dX7_office_225 : decode cX7_office 225 = .ok (.iinc 3 1, 3) := by decide +kernel
theorem dX7_office_228 : decode cX7_office 228 = .ok (.goto (-89), 3) := by decide +kernel
theorem dX7_office_231 : decode cX7_office 231 = .ok (.aload_n 0, 1) := by decide +kernel
theorem dX7_office_232 : decode cX7_office 232 = .ok (.invokevirtual 59, 3) := by decide +kernel
theorem dX7_office_235 : decode cX7_office 235 = .ok (.iload_n 1, 1) := by decide +kernel
theorem dX7_office_236 : decode cX7_office 236 = .ok (.ireturn, 1) := by decide +kernel
theorem dX7_begin_0 : decode cX7_begin 0 = .ok (.iconst 0, 1) := by decide +kernel
theorem dX7_begin_1 : decode cX7_begin 1 = .ok (.istore_n 1, 1) := by decide +kernel
theorem dX7_begin_2 : decode cX7_begin 2 = .ok (.iload_n 1, 1) := by decide +kernel
theorem dX7_begin_3 : decode cX7_begin 3 = .ok (.bipush 31, 2) := by decide +kernel
theorem dX7_begin_5 : decode cX7_begin 5 = .ok (.if_icmp .ge 16, 3) := by decide +kernel
theorem dX7_begin_8 : decode cX7_begin 8 = .ok (.aload_n 0, 1) := by decide +kernel
theorem dX7_begin_9 : decode cX7_begin 9 = .ok (.getfield 29, 3) := by decide +kernel
theorem dX7_begin_12 : decode cX7_begin 12 = .ok (.iload_n 1, 1) := by decide +kernel
theorem dX7_begin_13 : decode cX7_begin 13 = .ok (.iconst 0, 1) := by decide +kernel
theorem dX7_begin_14 : decode cX7_begin 14 = .ok (.iastore, 1) := by decide +kernel
theorem dX7_begin_15 : decode cX7_begin 15 = .ok (.iinc 1 1, 3) := by decide +kernel
theorem dX7_begin_18 : decode cX7_begin 18 = .ok (.goto (-16), 3) := by decide +kernel
theorem dX7_begin_21 : decode cX7_begin 21 = .ok (.aload_n 0, 1) := by decide +kernel
theorem dX7_begin_22 : decode cX7_begin 22 = .ok (.getfield 29, 3) := by decide +kernel
theorem dX7_begin_25 : decode cX7_begin 25 = .ok (.iconst 1, 1) := by decide +kernel
theorem dX7_begin_26 : decode cX7_begin 26 = .ok (.aload_n 0, 1) := by decide +kernel
theorem dX7_begin_27 : decode cX7_begin 27 = .ok (.getfield 56, 3) := by decide +kernel
theorem dX7_begin_30 : decode cX7_begin 30 = .ok (.iastore, 1) := by decide +kernel
theorem dX7_begin_31 : decode cX7_begin 31 = .ok (.iconst 0, 1) := by decide +kernel
theorem dX7_begin_32 : decode cX7_begin 32 = .ok (.istore_n 1, 1) := by decide +kernel
theorem dX7_begin_33 : decode cX7_begin 33 = .ok (.iload_n 1, 1) := by decide +kernel
theorem dX7_begin_34 : decode cX7_begin 34 = .ok (.iconst 3, 1) := by decide +kernel
theorem dX7_begin_35 : decode cX7_begin 35 = .ok (.if_icmp .ge 23, 3) := by decide +kernel
theorem dX7_begin_38 : decode cX7_begin 38 = .ok (.aload_n 0, 1) := by decide +kernel
theorem dX7_begin_39 : decode cX7_begin 39 = .ok (.getfield 29, 3) := by decide +kernel
theorem dX7_begin_42 : decode cX7_begin 42 = .ok (.iconst 4, 1) := by decide +kernel
theorem dX7_begin_43 : decode cX7_begin 43 = .ok (.iload_n 1, 1) := by decide +kernel
theorem dX7_begin_44 : decode cX7_begin 44 = .ok (.iadd, 1) := by decide +kernel
theorem dX7_begin_45 : decode cX7_begin 45 = .ok (.aload_n 0, 1) := by decide +kernel
theorem dX7_begin_46 : decode cX7_begin 46 = .ok (.getfield 41, 3) := by decide +kernel
theorem dX7_begin_49 : decode cX7_begin 49 = .ok (.iload_n 1, 1) := by decide +kernel
theorem dX7_begin_50 : decode cX7_begin 50 = .ok (.iaload, 1) := by decide +kernel
theorem dX7_begin_51 : decode cX7_begin 51 = .ok (.iastore, 1) := by decide +kernel
theorem dX7_begin_52 : decode cX7_begin 52 = .ok (.iinc 1 1, 3) := by decide +kernel
theorem dX7_begin_55 : decode cX7_begin 55 = .ok (.goto (-22), 3) := by decide +kernel
theorem dX7_begin_58 : decode cX7_begin 58 = .ok (.aload_n 0, 1) := by decide +kernel
theorem dX7_begin_59 : decode cX7_begin 59 = .ok (.getfield 29, 3) := by decide +kernel
theorem dX7_begin_62 : decode cX7_begin 62 = .ok (.iconst 3, 1) := by decide +kernel
theorem dX7_begin_63 : decode cX7_begin 63 = .ok (.aload_n 0, 1) := by decide +kernel
theorem dX7_begin_64 : decode cX7_begin 64 = .ok (.getfield 66, 3) := by decide +kernel
theorem dX7_begin_67 : decode cX7_begin 67 = .ok (.iastore, 1) := by decide +kernel
theorem dX7_begin_68 : decode cX7_begin 68 = .ok (.iconst 0, 1) := by decide +kernel
theorem dX7_begin_69 : decode cX7_begin 69 = .ok (.istore_n 1, 1) := by decide +kernel
theorem dX7_begin_70 : decode cX7_begin 70 = .ok (.iload_n 1, 1) := by decide +kernel
theorem dX7_begin_71 : decode cX7_begin 71 = .ok (.aload_n 0, 1) := by decide +kernel
theorem dX7_begin_72 : decode cX7_begin 72 = .ok (.getfield 66, 3) := by decide +kernel
theorem dX7_begin_75 : decode cX7_begin 75 = .ok (.if_icmp .ge 19, 3) := by decide +kernel
theorem dX7_begin_78 : decode cX7_begin 78 = .ok (.aload_n 0, 1) := by decide +kernel
theorem dX7_begin_79 : decode cX7_begin 79 = .ok (.getfield 29, 3) := by decide +kernel
theorem dX7_begin_82 : decode cX7_begin 82 = .ok (.bipush 13, 2) := by decide +kernel
theorem dX7_begin_84 : decode cX7_begin 84 = .ok (.iload_n 1, 1) := by decide +kernel
theorem dX7_begin_85 : decode cX7_begin 85 = .ok (.iadd, 1) := by decide +kernel
theorem dX7_begin_86 : decode cX7_begin 86 = .ok (.iload_n 1, 1) := by decide +kernel
theorem dX7_begin_87 : decode cX7_begin 87 = .ok (.iastore, 1) := by decide +kernel
theorem dX7_begin_88 : decode cX7_begin 88 = .ok (.iinc 1 1, 3) := by decide +kernel
theorem dX7_begin_91 : decode cX7_begin 91 = .ok (.goto (-21), 3) := by decide +kernel
theorem dX7_begin_94 : decode cX7_begin 94 = .ok (.aload_n 0, 1) := by decide +kernel
theorem dX7_begin_95 : decode cX7_begin 95 = .ok (.iconst 0, 1) := by decide +kernel
theorem dX7_begin_96 : decode cX7_begin 96 = .ok (.putfield 133, 3) := by decide +kernel
theorem dX7_begin_99 : decode cX7_begin 99 = .ok (.aload_n 0, 1) := by decide +kernel
theorem dX7_begin_100 : decode cX7_begin 100 = .ok (.iconst 0, 1) := by decide +kernel
theorem dX7_begin_101 : decode cX7_begin 101 = .ok (.putfield 136, 3) := by decide +kernel
theorem dX7_begin_104 : decode cX7_begin 104 = .ok (.aload_n 0, 1) := by decide +kernel
theorem dX7_begin_105 : decode cX7_begin 105 = .ok (.getfield 53, 3) := by decide +kernel
theorem dX7_begin_108 : decode cX7_begin 108 = .ok (.iconst 0, 1) := by decide +kernel
theorem dX7_begin_109 : decode cX7_begin 109 = .ok (.iconst 0, 1) := by decide +kernel
theorem dX7_begin_110 : decode cX7_begin 110 = .ok (.iastore, 1) := by decide +kernel
theorem dX7_begin_111 : decode cX7_begin 111 = .ok (.aload_n 0, 1) := by decide +kernel
theorem dX7_begin_112 : decode cX7_begin 112 = .ok (.getfield 53, 3) := by decide +kernel
theorem dX7_begin_115 : decode cX7_begin 115 = .ok (.iconst 1, 1) := by decide +kernel
theorem dX7_begin_116 : decode cX7_begin 116 = .ok (.iconst 0, 1) := by decide +kernel
theorem dX7_begin_117 : decode cX7_begin 117 = .ok (.iastore, 1) := by decide +kernel
theorem dX7_begin_118 : decode cX7_begin 118 = .ok (.return_, 1) := by decide +kernel
theorem dX7_leaves_0 : decode cX7_leaves 0 = .ok (.aload_n 0, 1) := by decide +kernel
theorem dX7_leaves_1 : decode cX7_leaves 1 = .ok (.getfield 16, 3) := by decide +kernel
theorem dX7_leaves_4 : decode cX7_leaves 4 = .ok (.iload_n 1, 1) := by decide +kernel
theorem dX7_leaves_5 : decode cX7_leaves 5 = .ok (.iaload, 1) := by decide +kernel
theorem dX7_leaves_6 : decode cX7_leaves 6 = .ok (.iconst 1, 1) := by decide +kernel
theorem dX7_leaves_7 : decode cX7_leaves 7 = .ok (.if_icmp .ne 16, 3) := by decide +kernel
theorem dX7_leaves_10 : decode cX7_leaves 10 = .ok (.aload_n 0, 1) := by decide +kernel
theorem dX7_leaves_11 : decode cX7_leaves 11 = .ok (.getfield 7, 3) := by decide +kernel
theorem dX7_leaves_14 : decode cX7_leaves 14 = .ok (.iload_n 1, 1) := by decide +kernel
theorem dX7_leaves_15 : decode cX7_leaves 15 = .ok (.iaload, 1) := by decide +kernel
theorem dX7_leaves_16 : decode cX7_leaves 16 = .ok (.iconst 1, 1) := by decide +kernel
theorem dX7_leaves_17 : decode cX7_leaves 17 = .ok (.iadd, 1) := by decide +kernel
theorem dX7_leaves_18 : decode cX7_leaves 18 = .ok (.iconst 2, 1) := by decide +kernel
theorem dX7_leaves_19 : decode cX7_leaves 19 = .ok (.idiv, 1) := by decide +kernel
theorem dX7_leaves_20 : decode cX7_leaves 20 = .ok (.goto 9, 3) := by decide +kernel
theorem dX7_leaves_23 : decode cX7_leaves 23 = .ok (.aload_n 0, 1) := by decide +kernel
theorem dX7_leaves_24 : decode cX7_leaves 24 = .ok (.getfield 7, 3) := by decide +kernel
theorem dX7_leaves_27 : decode cX7_leaves 27 = .ok (.iload_n 1, 1) := by decide +kernel
theorem dX7_leaves_28 : decode cX7_leaves 28 = .ok (.iaload, 1) := by decide +kernel
theorem dX7_leaves_29 : decode cX7_leaves 29 = .ok (.ireturn, 1) := by decide +kernel
theorem dX7_allOf_0 : decode cX7_allOf 0 = .ok (.aload_n 0, 1) := by decide +kernel
theorem dX7_allOf_1 : decode cX7_allOf 1 = .ok (.iload_n 1, 1) := by decide +kernel
theorem dX7_allOf_2 : decode cX7_allOf 2 = .ok (.invokevirtual 139, 3) := by decide +kernel
theorem dX7_allOf_5 : decode cX7_allOf 5 = .ok (.aload_n 0, 1) := by decide +kernel
theorem dX7_allOf_6 : decode cX7_allOf 6 = .ok (.getfield 13, 3) := by decide +kernel
theorem dX7_allOf_9 : decode cX7_allOf 9 = .ok (.iload_n 1, 1) := by decide +kernel
theorem dX7_allOf_10 : decode cX7_allOf 10 = .ok (.iaload, 1) := by decide +kernel
theorem dX7_allOf_11 : decode cX7_allOf 11 = .ok (.imul, 1) := by decide +kernel
theorem dX7_allOf_12 : decode cX7_allOf 12 = .ok (.ireturn, 1) := by decide +kernel
theorem dX7_copyOf_0 : decode cX7_copyOf 0 = .ok (.aload_n 0, 1) := by decide +kernel
theorem dX7_copyOf_1 : decode cX7_copyOf 1 = .ok (.getfield 19, 3) := by decide +kernel
theorem dX7_copyOf_4 : decode cX7_copyOf 4 = .ok (.iload_n 1, 1) := by decide +kernel
theorem dX7_copyOf_5 : decode cX7_copyOf 5 = .ok (.iaload, 1) := by decide +kernel
theorem dX7_copyOf_6 : decode cX7_copyOf 6 = .ok (.iconst 1, 1) := by decide +kernel
theorem dX7_copyOf_7 : decode cX7_copyOf 7 = .ok (.if_icmp .ne 13, 3) := by decide +kernel
theorem dX7_copyOf_10 : decode cX7_copyOf 10 = .ok (.iload_n 2, 1) := by decide +kernel
theorem dX7_copyOf_11 : decode cX7_copyOf 11 = .ok (.aload_n 0, 1) := by decide +kernel
theorem dX7_copyOf_12 : decode cX7_copyOf 12 = .ok (.iload_n 1, 1) := by decide +kernel
theorem dX7_copyOf_13 : decode cX7_copyOf 13 = .ok (.invokevirtual 139, 3) := by decide +kernel
theorem dX7_copyOf_16 : decode cX7_copyOf 16 = .ok (.idiv, 1) := by decide +kernel
theorem dX7_copyOf_17 : decode cX7_copyOf 17 = .ok (.goto 11, 3) := by decide +kernel
theorem dX7_copyOf_20 : decode cX7_copyOf 20 = .ok (.iload_n 2, 1) := by decide +kernel
theorem dX7_copyOf_21 : decode cX7_copyOf 21 = .ok (.aload_n 0, 1) := by decide +kernel
theorem dX7_copyOf_22 : decode cX7_copyOf 22 = .ok (.getfield 13, 3) := by decide +kernel
theorem dX7_copyOf_25 : decode cX7_copyOf 25 = .ok (.iload_n 1, 1) := by decide +kernel
theorem dX7_copyOf_26 : decode cX7_copyOf 26 = .ok (.iaload, 1) := by decide +kernel
theorem dX7_copyOf_27 : decode cX7_copyOf 27 = .ok (.irem, 1) := by decide +kernel
theorem dX7_copyOf_28 : decode cX7_copyOf 28 = .ok (.ireturn, 1) := by decide +kernel
theorem dX7_leafOf_0 : decode cX7_leafOf 0 = .ok (.aload_n 0, 1) := by decide +kernel
theorem dX7_leafOf_1 : decode cX7_leafOf 1 = .ok (.getfield 19, 3) := by decide +kernel
theorem dX7_leafOf_4 : decode cX7_leafOf 4 = .ok (.iload_n 1, 1) := by decide +kernel
theorem dX7_leafOf_5 : decode cX7_leafOf 5 = .ok (.iaload, 1) := by decide +kernel
theorem dX7_leafOf_6 : decode cX7_leafOf 6 = .ok (.iconst 1, 1) := by decide +kernel
theorem dX7_leafOf_7 : decode cX7_leafOf 7 = .ok (.if_icmp .ne 13, 3) := by decide +kernel
theorem dX7_leafOf_10 : decode cX7_leafOf 10 = .ok (.iload_n 2, 1) := by decide +kernel
theorem dX7_leafOf_11 : decode cX7_leafOf 11 = .ok (.aload_n 0, 1) := by decide +kernel
theorem dX7_leafOf_12 : decode cX7_leafOf 12 = .ok (.iload_n 1, 1) := by decide +kernel
theorem dX7_leafOf_13 : decode cX7_leafOf 13 = .ok (.invokevirtual 139, 3) := by decide +kernel
theorem dX7_leafOf_16 : decode cX7_leafOf 16 = .ok (.irem, 1) := by decide +kernel
theorem dX7_leafOf_17 : decode cX7_leafOf 17 = .ok (.goto 11, 3) := by decide +kernel
theorem dX7_leafOf_20 : decode cX7_leafOf 20 = .ok (.iload_n 2, 1) := by decide +kernel
theorem dX7_leafOf_21 : decode cX7_leafOf 21 = .ok (.aload_n 0, 1) := by decide +kernel
theorem dX7_leafOf_22 : decode cX7_leafOf 22 = .ok (.getfield 13, 3) := by decide +kernel
theorem dX7_leafOf_25 : decode cX7_leafOf 25 = .ok (.iload_n 1, 1) := by decide +kernel
theorem dX7_leafOf_26 : decode cX7_leafOf 26 = .ok (.iaload, 1) := by decide +kernel
theorem dX7_leafOf_27 : decode cX7_leafOf 27 = .ok (.idiv, 1) := by decide +kernel
theorem dX7_leafOf_28 : decode cX7_leafOf 28 = .ok (.ireturn, 1) := by decide +kernel
theorem dX7_frontOf_0 : decode cX7_frontOf 0 = .ok (.aload_n 0, 1) := by decide +kernel
theorem dX7_frontOf_1 : decode cX7_frontOf 1 = .ok (.getfield 16, 3) := by decide +kernel
theorem dX7_frontOf_4 : decode cX7_frontOf 4 = .ok (.iload_n 1, 1) := by decide +kernel
theorem dX7_frontOf_5 : decode cX7_frontOf 5 = .ok (.iaload, 1) := by decide +kernel
theorem dX7_frontOf_6 : decode cX7_frontOf 6 = .ok (.iconst 1, 1) := by decide +kernel
theorem dX7_frontOf_7 : decode cX7_frontOf 7 = .ok (.if_icmp .ne 16, 3) := by decide +kernel
theorem dX7_frontOf_10 : decode cX7_frontOf 10 = .ok (.iconst 2, 1) := by decide +kernel
theorem dX7_frontOf_11 : decode cX7_frontOf 11 = .ok (.aload_n 0, 1) := by decide +kernel
theorem dX7_frontOf_12 : decode cX7_frontOf 12 = .ok (.iload_n 1, 1) := by decide +kernel
theorem dX7_frontOf_13 : decode cX7_frontOf 13 = .ok (.iload_n 2, 1) := by decide +kernel
theorem dX7_frontOf_14 : decode cX7_frontOf 14 = .ok (.invokevirtual 143, 3) := by decide +kernel
theorem dX7_frontOf_17 : decode cX7_frontOf 17 = .ok (.imul, 1) := by decide +kernel
theorem dX7_frontOf_18 : decode cX7_frontOf 18 = .ok (.iconst 1, 1) := by decide +kernel
theorem dX7_frontOf_19 : decode cX7_frontOf 19 = .ok (.iadd, 1) := by decide +kernel
theorem dX7_frontOf_20 : decode cX7_frontOf 20 = .ok (.goto 11, 3) := by decide +kernel
theorem dX7_frontOf_23 : decode cX7_frontOf 23 = .ok (.aload_n 0, 1) := by decide +kernel
theorem dX7_frontOf_24 : decode cX7_frontOf 24 = .ok (.iload_n 1, 1) := by decide +kernel
theorem dX7_frontOf_25 : decode cX7_frontOf 25 = .ok (.iload_n 2, 1) := by decide +kernel
theorem dX7_frontOf_26 : decode cX7_frontOf 26 = .ok (.invokevirtual 143, 3) := by decide +kernel
theorem dX7_frontOf_29 : decode cX7_frontOf 29 = .ok (.iconst 1, 1) := by decide +kernel
theorem dX7_frontOf_30 : decode cX7_frontOf 30 = .ok (.iadd, 1) := by decide +kernel
theorem dX7_frontOf_31 : decode cX7_frontOf 31 = .ok (.ireturn, 1) := by decide +kernel
theorem dX7_backOf_0 : decode cX7_backOf 0 = .ok (.aload_n 0, 1) := by decide +kernel
theorem dX7_backOf_1 : decode cX7_backOf 1 = .ok (.iload_n 1, 1) := by decide +kernel
theorem dX7_backOf_2 : decode cX7_backOf 2 = .ok (.iload_n 2, 1) := by decide +kernel
theorem dX7_backOf_3 : decode cX7_backOf 3 = .ok (.invokevirtual 147, 3) := by decide +kernel
theorem dX7_backOf_6 : decode cX7_backOf 6 = .ok (.iconst 1, 1) := by decide +kernel
theorem dX7_backOf_7 : decode cX7_backOf 7 = .ok (.iadd, 1) := by decide +kernel
theorem dX7_backOf_8 : decode cX7_backOf 8 = .ok (.istore_n 3, 1) := by decide +kernel
theorem dX7_backOf_9 : decode cX7_backOf 9 = .ok (.aload_n 0, 1) := by decide +kernel
theorem dX7_backOf_10 : decode cX7_backOf 10 = .ok (.getfield 16, 3) := by decide +kernel
theorem dX7_backOf_13 : decode cX7_backOf 13 = .ok (.iload_n 1, 1) := by decide +kernel
theorem dX7_backOf_14 : decode cX7_backOf 14 = .ok (.iaload, 1) := by decide +kernel
theorem dX7_backOf_15 : decode cX7_backOf 15 = .ok (.iconst 1, 1) := by decide +kernel
theorem dX7_backOf_16 : decode cX7_backOf 16 = .ok (.if_icmp .ne 17, 3) := by decide +kernel
theorem dX7_backOf_19 : decode cX7_backOf 19 = .ok (.iload_n 3, 1) := by decide +kernel
theorem dX7_backOf_20 : decode cX7_backOf 20 = .ok (.aload_n 0, 1) := by decide +kernel
theorem dX7_backOf_21 : decode cX7_backOf 21 = .ok (.getfield 7, 3) := by decide +kernel
theorem dX7_backOf_24 : decode cX7_backOf 24 = .ok (.iload_n 1, 1) := by decide +kernel
theorem dX7_backOf_25 : decode cX7_backOf 25 = .ok (.iaload, 1) := by decide +kernel
theorem dX7_backOf_26 : decode cX7_backOf 26 = .ok (.if_icmp .gt 7, 3) := by decide +kernel
theorem dX7_backOf_29 : decode cX7_backOf 29 = .ok (.iload_n 3, 1) := by decide +kernel
theorem dX7_backOf_30 : decode cX7_backOf 30 = .ok (.goto 4, 3) := by decide +kernel
theorem dX7_backOf_33 : decode cX7_backOf 33 = .ok (.iconst 0, 1) := by decide +kernel
theorem dX7_backOf_34 : decode cX7_backOf 34 = .ok (.ireturn, 1) := by decide +kernel
theorem dX7_binOf_0 : decode cX7_binOf 0 = .ok (.aload_n 0, 1) := by decide +kernel
theorem dX7_binOf_1 : decode cX7_binOf 1 = .ok (.getfield 19, 3) := by decide +kernel
theorem dX7_binOf_4 : decode cX7_binOf 4 = .ok (.iload_n 1, 1) := by decide +kernel
theorem dX7_binOf_5 : decode cX7_binOf 5 = .ok (.iaload, 1) := by decide +kernel
theorem dX7_binOf_6 : decode cX7_binOf 6 = .ok (.iconst 1, 1) := by decide +kernel
theorem dX7_binOf_7 : decode cX7_binOf 7 = .ok (.if_icmp .ne 12, 3) := by decide +kernel
theorem dX7_binOf_10 : decode cX7_binOf 10 = .ok (.aload_n 0, 1) := by decide +kernel
