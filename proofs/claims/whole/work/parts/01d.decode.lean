theorem dX4_add_25 : decode cX4_add 25 = .ok (.getfield 18, 3) := by decide +kernel
theorem dX4_add_28 : decode cX4_add 28 = .ok (.aload_n 0, 1) := by decide +kernel
theorem dX4_add_29 : decode cX4_add 29 = .ok (.getfield 24, 3) := by decide +kernel
theorem dX4_add_32 : decode cX4_add 32 = .ok (.iload_n 3, 1) := by decide +kernel
theorem dX4_add_33 : decode cX4_add 33 = .ok (.invokestatic 28, 3) := by decide +kernel
theorem dX4_add_36 : decode cX4_add 36 = .ok (.aload_n 0, 1) := by decide +kernel
theorem dX4_add_37 : decode cX4_add 37 = .ok (.dup, 1) := by decide +kernel
theorem dX4_add_38 : decode cX4_add 38 = .ok (.getfield 24, 3) := by decide +kernel
theorem dX4_add_41 : decode cX4_add 41 = .ok (.iconst 1, 1) := by decide +kernel
theorem dX4_add_42 : decode cX4_add 42 = .ok (.iadd, 1) := by decide +kernel
theorem dX4_add_43 : decode cX4_add 43 = .ok (.putfield 24, 3) := by decide +kernel
theorem dX4_add_46 : decode cX4_add 46 = .ok (.aload_n 0, 1) := by decide +kernel
theorem dX4_add_47 : decode cX4_add 47 = .ok (.getfield 24, 3) := by decide +kernel
theorem dX4_add_50 : decode cX4_add 50 = .ok (.ireturn, 1) := by decide +kernel
theorem dX4_forgetAll_0 : decode cX4_forgetAll 0 = .ok (.aload_n 0, 1) := by decide +kernel
theorem dX4_forgetAll_1 : decode cX4_forgetAll 1 = .ok (.getfield 24, 3) := by decide +kernel
theorem dX4_forgetAll_4 : decode cX4_forgetAll 4 = .ok (.istore_n 1, 1) := by decide +kernel
theorem dX4_forgetAll_5 : decode cX4_forgetAll 5 = .ok (.aload_n 0, 1) := by decide +kernel
theorem dX4_forgetAll_6 : decode cX4_forgetAll 6 = .ok (.iconst 0, 1) := by decide +kernel
theorem dX4_forgetAll_7 : decode cX4_forgetAll 7 = .ok (.putfield 24, 3) := by decide +kernel
theorem dX4_forgetAll_10 : decode cX4_forgetAll 10 = .ok (.iload_n 1, 1) := by decide +kernel
theorem dX4_forgetAll_11 : decode cX4_forgetAll 11 = .ok (.ireturn, 1) := by decide +kernel
theorem dX4_fittingOf_0 : decode cX4_fittingOf 0 = .ok (.iconst 0, 1) := by decide +kernel
theorem dX4_fittingOf_1 : decode cX4_fittingOf 1 = .ok (.istore_n 2, 1) := by decide +kernel
theorem dX4_fittingOf_2 : decode cX4_fittingOf 2 = .ok (.iconst 0, 1) := by decide +kernel
theorem dX4_fittingOf_3 : decode cX4_fittingOf 3 = .ok (.istore_n 3, 1) := by decide +kernel
theorem dX4_fittingOf_4 : decode cX4_fittingOf 4 = .ok (.iload_n 3, 1) := by decide +kernel
theorem dX4_fittingOf_5 : decode cX4_fittingOf 5 = .ok (.aload_n 1, 1) := by decide +kernel
theorem dX4_fittingOf_6 : decode cX4_fittingOf 6 = .ok (.getfield 32, 3) := by decide +kernel
theorem dX4_fittingOf_9 : decode cX4_fittingOf 9 = .ok (.if_icmp .ge 36, 3) := by decide +kernel
theorem dX4_fittingOf_12 : decode cX4_fittingOf 12 = .ok (.aload_n 1, 1) := by decide +kernel
theorem dX4_fittingOf_13 : decode cX4_fittingOf 13 = .ok (.iload_n 3, 1) := by decide +kernel
theorem dX4_fittingOf_14 : decode cX4_fittingOf 14 = .ok (.invokevirtual 37, 3) := by decide +kernel
theorem dX4_fittingOf_17 : decode cX4_fittingOf 17 = .ok (.astore 4, 2) := by decide +kernel
theorem dX4_fittingOf_19 : decode cX4_fittingOf 19 = .ok (.aload 4, 2) := by decide +kernel
theorem dX4_fittingOf_21 : decode cX4_fittingOf 21 = .ok (.ifnull 18, 3) := by decide +kernel
theorem dX4_fittingOf_24 : decode cX4_fittingOf 24 = .ok (.aload_n 0, 1) := by decide +kernel
theorem dX4_fittingOf_25 : decode cX4_fittingOf 25 = .ok (.aload 4, 2) := by decide +kernel
theorem dX4_fittingOf_27 : decode cX4_fittingOf 27 = .ok (.invokevirtual 41, 3) := by decide +kernel
theorem dX4_fittingOf_30 : decode cX4_fittingOf 30 = .ok (.ifCond .eq 9, 3) := by decide +kernel
theorem dX4_fittingOf_33 : decode cX4_fittingOf 33 = .ok (.iload_n 2, 1) := by decide +kernel
theorem dX4_fittingOf_34 : decode cX4_fittingOf 34 = .ok (.iconst 1, 1) := by decide +kernel
theorem dX4_fittingOf_35 : decode cX4_fittingOf 35 = .ok (.iload_n 3, 1) := by decide +kernel
theorem dX4_fittingOf_36 : decode cX4_fittingOf 36 = .ok (.ishl, 1) := by decide +kernel
theorem dX4_fittingOf_37 : decode cX4_fittingOf 37 = .ok (.ior, 1) := by decide +kernel
theorem dX4_fittingOf_38 : decode cX4_fittingOf 38 = .ok (.istore_n 2, 1) := by decide +kernel
theorem dX4_fittingOf_39 : decode cX4_fittingOf 39 = .ok (.iinc 3 1, 3) := by decide +kernel
theorem dX4_fittingOf_42 : decode cX4_fittingOf 42 = .ok (.goto (-38), 3) := by decide +kernel
theorem dX4_fittingOf_45 : decode cX4_fittingOf 45 = .ok (.iload_n 2, 1) := by decide +kernel
theorem dX4_fittingOf_46 : decode cX4_fittingOf 46 = .ok (.ireturn, 1) := by decide +kernel
theorem dX4_fits_0 : decode cX4_fits 0 = .ok (.iconst 0, 1) := by decide +kernel
theorem dX4_fits_1 : decode cX4_fits 1 = .ok (.istore_n 2, 1) := by decide +kernel
theorem dX4_fits_2 : decode cX4_fits 2 = .ok (.iload_n 2, 1) := by decide +kernel
theorem dX4_fits_3 : decode cX4_fits 3 = .ok (.aload_n 0, 1) := by decide +kernel
theorem dX4_fits_4 : decode cX4_fits 4 = .ok (.getfield 24, 3) := by decide +kernel
theorem dX4_fits_7 : decode cX4_fits 7 = .ok (.if_icmp .ge 73, 3) := by decide +kernel
theorem dX4_fits_10 : decode cX4_fits 10 = .ok (.aload_n 0, 1) := by decide +kernel
theorem dX4_fits_11 : decode cX4_fits 11 = .ok (.getfield 9, 3) := by decide +kernel
theorem dX4_fits_14 : decode cX4_fits 14 = .ok (.iload_n 2, 1) := by decide +kernel
theorem dX4_fits_15 : decode cX4_fits 15 = .ok (.invokestatic 45, 3) := by decide +kernel
theorem dX4_fits_18 : decode cX4_fits 18 = .ok (.istore_n 3, 1) := by decide +kernel
theorem dX4_fits_19 : decode cX4_fits 19 = .ok (.aload_n 1, 1) := by decide +kernel
theorem dX4_fits_20 : decode cX4_fits 20 = .ok (.iload_n 3, 1) := by decide +kernel
theorem dX4_fits_21 : decode cX4_fits 21 = .ok (.invokevirtual 49, 3) := by decide +kernel
theorem dX4_fits_24 : decode cX4_fits 24 = .ok (.ifCond .eq 23, 3) := by decide +kernel
theorem dX4_fits_27 : decode cX4_fits 27 = .ok (.aload_n 1, 1) := by decide +kernel
theorem dX4_fits_28 : decode cX4_fits 28 = .ok (.iload_n 3, 1) := by decide +kernel
theorem dX4_fits_29 : decode cX4_fits 29 = .ok (.invokevirtual 55, 3) := by decide +kernel
theorem dX4_fits_32 : decode cX4_fits 32 = .ok (.aload_n 0, 1) := by decide +kernel
theorem dX4_fits_33 : decode cX4_fits 33 = .ok (.getfield 15, 3) := by decide +kernel
theorem dX4_fits_36 : decode cX4_fits 36 = .ok (.iload_n 2, 1) := by decide +kernel
theorem dX4_fits_37 : decode cX4_fits 37 = .ok (.invokestatic 45, 3) := by decide +kernel
theorem dX4_fits_40 : decode cX4_fits 40 = .ok (.if_icmp .ne 7, 3) := by decide +kernel
theorem dX4_fits_43 : decode cX4_fits 43 = .ok (.iconst 1, 1) := by decide +kernel
theorem dX4_fits_44 : decode cX4_fits 44 = .ok (.goto 4, 3) := by decide +kernel
theorem dX4_fits_47 : decode cX4_fits 47 = .ok (.iconst 0, 1) := by decide +kernel
theorem dX4_fits_48 : decode cX4_fits 48 = .ok (.istore 4, 2) := by decide +kernel
theorem dX4_fits_50 : decode cX4_fits 50 = .ok (.iload 4, 2) := by decide +kernel
theorem dX4_fits_52 : decode cX4_fits 52 = .ok (.aload_n 0, 1) := by decide +kernel
theorem dX4_fits_53 : decode cX4_fits 53 = .ok (.getfield 18, 3) := by decide +kernel
theorem dX4_fits_56 : decode cX4_fits 56 = .ok (.iload_n 2, 1) := by decide +kernel
theorem dX4_fits_57 : decode cX4_fits 57 = .ok (.invokestatic 45, 3) := by decide +kernel
theorem dX4_fits_60 : decode cX4_fits 60 = .ok (.iconst 1, 1) := by decide +kernel
theorem dX4_fits_61 : decode cX4_fits 61 = .ok (.if_icmp .ne 7, 3) := by decide +kernel
theorem dX4_fits_64 : decode cX4_fits 64 = .ok (.iconst 1, 1) := by decide +kernel
theorem dX4_fits_65 : decode cX4_fits 65 = .ok (.goto 4, 3) := by decide +kernel
theorem dX4_fits_68 : decode cX4_fits 68 = .ok (.iconst 0, 1) := by decide +kernel
theorem dX4_fits_69 : decode cX4_fits 69 = .ok (.if_icmp .eq 5, 3) := by decide +kernel
theorem dX4_fits_72 : decode cX4_fits 72 = .ok (.iconst 0, 1) := by decide +kernel
theorem dX4_fits_73 : decode cX4_fits 73 = .ok (.ireturn, 1) := by decide +kernel
theorem dX4_fits_74 : decode cX4_fits 74 = .ok (.iinc 2 1, 3) := by decide +kernel
theorem dX4_fits_77 : decode cX4_fits 77 = .ok (.goto (-75), 3) := by decide +kernel
theorem dX4_fits_80 : decode cX4_fits 80 = .ok (.iconst 1, 1) := by decide +kernel
theorem dX4_fits_81 : decode cX4_fits 81 = .ok (.ireturn, 1) := by decide +kernel
theorem dX4_countFronts_0 : decode cX4_countFronts 0 = .ok (.aload_n 0, 1) := by decide +kernel
theorem dX4_countFronts_1 : decode cX4_countFronts 1 = .ok (.getfield 21, 3) := by decide +kernel
theorem dX4_countFronts_4 : decode cX4_countFronts 4 = .ok (.iconst 0, 1) := by decide +kernel
theorem dX4_countFronts_5 : decode cX4_countFronts 5 = .ok (.invokestatic 59, 3) := by decide +kernel
theorem dX4_countFronts_8 : decode cX4_countFronts 8 = .ok (.iconst 0, 1) := by decide +kernel
theorem dX4_countFronts_9 : decode cX4_countFronts 9 = .ok (.istore 4, 2) := by decide +kernel
theorem dX4_countFronts_11 : decode cX4_countFronts 11 = .ok (.iload 4, 2) := by decide +kernel
theorem dX4_countFronts_13 : decode cX4_countFronts 13 = .ok (.bipush 6, 2) := by decide +kernel
theorem dX4_countFronts_15 : decode cX4_countFronts 15 = .ok (.if_icmp .ge 68, 3) := by decide +kernel
theorem dX4_countFronts_18 : decode cX4_countFronts 18 = .ok (.aload_n 1, 1) := by decide +kernel
theorem dX4_countFronts_19 : decode cX4_countFronts 19 = .ok (.iload 4, 2) := by decide +kernel
theorem dX4_countFronts_21 : decode cX4_countFronts 21 = .ok (.invokevirtual 37, 3) := by decide +kernel
theorem dX4_countFronts_24 : decode cX4_countFronts 24 = .ok (.astore 5, 2) := by decide +kernel
theorem dX4_countFronts_26 : decode cX4_countFronts 26 = .ok (.iload_n 2, 1) := by decide +kernel
theorem dX4_countFronts_27 : decode cX4_countFronts 27 = .ok (.iload 4, 2) := by decide +kernel
theorem dX4_countFronts_29 : decode cX4_countFronts 29 = .ok (.ishr, 1) := by decide +kernel
theorem dX4_countFronts_30 : decode cX4_countFronts 30 = .ok (.iconst 1, 1) := by decide +kernel
theorem dX4_countFronts_31 : decode cX4_countFronts 31 = .ok (.iand, 1) := by decide +kernel
theorem dX4_countFronts_32 : decode cX4_countFronts 32 = .ok (.ifCond .eq 45, 3) := by decide +kernel
theorem dX4_countFronts_35 : decode cX4_countFronts 35 = .ok (.aload 5, 2) := by decide +kernel
theorem dX4_countFronts_37 : decode cX4_countFronts 37 = .ok (.ifnull 40, 3) := by decide +kernel
theorem dX4_countFronts_40 : decode cX4_countFronts 40 = .ok (.aload 5, 2) := by decide +kernel
theorem dX4_countFronts_42 : decode cX4_countFronts 42 = .ok (.iload_n 3, 1) := by decide +kernel
theorem dX4_countFronts_43 : decode cX4_countFronts 43 = .ok (.invokevirtual 49, 3) := by decide +kernel
theorem dX4_countFronts_46 : decode cX4_countFronts 46 = .ok (.ifCond .eq 31, 3) := by decide +kernel
theorem dX4_countFronts_49 : decode cX4_countFronts 49 = .ok (.aload 5, 2) := by decide +kernel
theorem dX4_countFronts_51 : decode cX4_countFronts 51 = .ok (.iload_n 3, 1) := by decide +kernel
theorem dX4_countFronts_52 : decode cX4_countFronts 52 = .ok (.invokevirtual 55, 3) := by decide +kernel
theorem dX4_countFronts_55 : decode cX4_countFronts 55 = .ok (.istore 6, 2) := by decide +kernel
theorem dX4_countFronts_57 : decode cX4_countFronts 57 = .ok (.aload_n 0, 1) := by decide +kernel
theorem dX4_countFronts_58 : decode cX4_countFronts 58 = .ok (.getfield 21, 3) := by decide +kernel
theorem dX4_countFronts_61 : decode cX4_countFronts 61 = .ok (.iload 6, 2) := by decide +kernel
theorem dX4_countFronts_63 : decode cX4_countFronts 63 = .ok (.aload_n 0, 1) := by decide +kernel
theorem dX4_countFronts_64 : decode cX4_countFronts 64 = .ok (.getfield 21, 3) := by decide +kernel
theorem dX4_countFronts_67 : decode cX4_countFronts 67 = .ok (.iload 6, 2) := by decide +kernel
theorem dX4_countFronts_69 : decode cX4_countFronts 69 = .ok (.invokestatic 45, 3) := by decide +kernel
theorem dX4_countFronts_72 : decode cX4_countFronts 72 = .ok (.iconst 1, 1) := by decide +kernel
theorem dX4_countFronts_73 : decode cX4_countFronts 73 = .ok (.iadd, 1) := by decide +kernel
theorem dX4_countFronts_74 : decode cX4_countFronts 74 = .ok (.invokestatic 28, 3) := by decide +kernel
theorem dX4_countFronts_77 : decode cX4_countFronts 77 = .ok (.iinc 4 1, 3) := by decide +kernel
theorem dX4_countFronts_80 : decode cX4_countFronts 80 = .ok (.goto (-69), 3) := by decide +kernel
theorem dX4_countFronts_83 : decode cX4_countFronts 83 = .ok (.return_, 1) := by decide +kernel
theorem dX5_init_0 : decode cX5_init 0 = .ok (.aload_n 0, 1) := by decide +kernel
theorem dX5_init_1 : decode cX5_init 1 = .ok (.invokespecial 3, 3) := by decide +kernel
theorem dX5_init_4 : decode cX5_init 4 = .ok (.aload_n 0, 1) := by decide +kernel
theorem dX5_init_5 : decode cX5_init 5 = .ok (.bipush 120, 2) := by decide +kernel
theorem dX5_init_7 : decode cX5_init 7 = .ok (.newarray .int, 2) := by decide +kernel
theorem dX5_init_9 : decode cX5_init 9 = .ok (.putfield 9, 3) := by decide +kernel
theorem dX5_init_12 : decode cX5_init 12 = .ok (.return_, 1) := by decide +kernel
theorem dX5_isFull_0 : decode cX5_isFull 0 = .ok (.aload_n 0, 1) := by decide +kernel
theorem dX5_isFull_1 : decode cX5_isFull 1 = .ok (.getfield 15, 3) := by decide +kernel
theorem dX5_isFull_4 : decode cX5_isFull 4 = .ok (.aload_n 0, 1) := by decide +kernel
theorem dX5_isFull_5 : decode cX5_isFull 5 = .ok (.getfield 9, 3) := by decide +kernel
theorem dX5_isFull_8 : decode cX5_isFull 8 = .ok (.arraylength, 1) := by decide +kernel
theorem dX5_isFull_9 : decode cX5_isFull 9 = .ok (.if_icmp .lt 7, 3) := by decide +kernel
theorem dX5_isFull_12 : decode cX5_isFull 12 = .ok (.iconst 1, 1) := by decide +kernel
theorem dX5_isFull_13 : decode cX5_isFull 13 = .ok (.goto 4, 3) := by decide +kernel
theorem dX5_isFull_16 : decode cX5_isFull 16 = .ok (.iconst 0, 1) := by decide +kernel
theorem dX5_isFull_17 : decode cX5_isFull 17 = .ok (.ireturn, 1) := by decide +kernel
theorem dX5_add_0 : decode cX5_add 0 = .ok (.aload_n 0, 1) := by decide +kernel
theorem dX5_add_1 : decode cX5_add 1 = .ok (.getfield 9, 3) := by decide +kernel
theorem dX5_add_4 : decode cX5_add 4 = .ok (.aload_n 0, 1) := by decide +kernel
theorem dX5_add_5 : decode cX5_add 5 = .ok (.getfield 15, 3) := by decide +kernel
theorem dX5_add_8 : decode cX5_add 8 = .ok (.iload_n 1, 1) := by decide +kernel
theorem dX5_add_9 : decode cX5_add 9 = .ok (.invokestatic 19, 3) := by decide +kernel
theorem dX5_add_12 : decode cX5_add 12 = .ok (.aload_n 0, 1) := by decide +kernel
theorem dX5_add_13 : decode cX5_add 13 = .ok (.dup, 1) := by decide +kernel
theorem dX5_add_14 : decode cX5_add 14 = .ok (.getfield 15, 3) := by decide +kernel
theorem dX5_add_17 : decode cX5_add 17 = .ok (.iconst 1, 1) := by decide +kernel
theorem dX5_add_18 : decode cX5_add 18 = .ok (.iadd, 1) := by decide +kernel
theorem dX5_add_19 : decode cX5_add 19 = .ok (.putfield 15, 3) := by decide +kernel
theorem dX5_add_22 : decode cX5_add 22 = .ok (.aload_n 0, 1) := by decide +kernel
theorem dX5_add_23 : decode cX5_add 23 = .ok (.getfield 15, 3) := by decide +kernel
theorem dX5_add_26 : decode cX5_add 26 = .ok (.ireturn, 1) := by decide +kernel
theorem dX5_wipe_0 : decode cX5_wipe 0 = .ok (.aload_n 0, 1) := by decide +kernel
theorem dX5_wipe_1 : decode cX5_wipe 1 = .ok (.getfield 15, 3) := by decide +kernel
theorem dX5_wipe_4 : decode cX5_wipe 4 = .ok (.istore_n 1, 1) := by decide +kernel
theorem dX5_wipe_5 : decode cX5_wipe 5 = .ok (.aload_n 0, 1) := by decide +kernel
theorem dX5_wipe_6 : decode cX5_wipe 6 = .ok (.iconst 0, 1) := by decide +kernel
theorem dX5_wipe_7 : decode cX5_wipe 7 = .ok (.putfield 15, 3) := by decide +kernel
theorem dX5_wipe_10 : decode cX5_wipe 10 = .ok (.iload_n 1, 1) := by decide +kernel
theorem dX5_wipe_11 : decode cX5_wipe 11 = .ok (.ireturn, 1) := by decide +kernel
theorem dX5_rewind_0 : decode cX5_rewind 0 = .ok (.aload_n 0, 1) := by decide +kernel
theorem dX5_rewind_1 : decode cX5_rewind 1 = .ok (.iconst 0, 1) := by decide +kernel
theorem dX5_rewind_2 : decode cX5_rewind 2 = .ok (.putfield 23, 3) := by decide +kernel
theorem dX5_rewind_5 : decode cX5_rewind 5 = .ok (.return_, 1) := by decide +kernel
theorem dX5_readToken_0 : decode cX5_readToken 0 = .ok (.aload_n 0, 1) := by decide +kernel
theorem dX5_readToken_1 : decode cX5_readToken 1 = .ok (.getfield 23, 3) := by decide +kernel
theorem dX5_readToken_4 : decode cX5_readToken 4 = .ok (.aload_n 0, 1) := by decide +kernel
theorem dX5_readToken_5 : decode cX5_readToken 5 = .ok (.getfield 15, 3) := by decide +kernel
theorem dX5_readToken_8 : decode cX5_readToken 8 = .ok (.if_icmp .ge 32, 3) := by decide +kernel
theorem dX5_readToken_11 : decode cX5_readToken 11 = .ok (.aload_n 0, 1) := by decide +kernel
theorem dX5_readToken_12 : decode cX5_readToken 12 = .ok (.getfield 9, 3) := by decide +kernel
theorem dX5_readToken_15 : decode cX5_readToken 15 = .ok (.aload_n 0, 1) := by decide +kernel
theorem dX5_readToken_16 : decode cX5_readToken 16 = .ok (.getfield 23, 3) := by decide +kernel
theorem dX5_readToken_19 : decode cX5_readToken 19 = .ok (.invokestatic 26, 3) := by decide +kernel
theorem dX5_readToken_22 : decode cX5_readToken 22 = .ok (.bipush 32, 2) := by decide +kernel
theorem dX5_readToken_24 : decode cX5_readToken 24 = .ok (.if_icmp .ne 16, 3) := by decide +kernel
theorem dX5_readToken_27 : decode cX5_readToken 27 = .ok (.aload_n 0, 1) := by decide +kernel
theorem dX5_readToken_28 : decode cX5_readToken 28 = .ok (.dup, 1) := by decide +kernel
theorem dX5_readToken_29 : decode cX5_readToken 29 = .ok (.getfield 23, 3) := by decide +kernel
theorem dX5_readToken_32 : decode cX5_readToken 32 = .ok (.iconst 1, 1) := by decide +kernel
theorem dX5_readToken_33 : decode cX5_readToken 33 = .ok (.iadd, 1) := by decide +kernel
theorem dX5_readToken_34 : decode cX5_readToken 34 = .ok (.putfield 23, 3) := by decide +kernel
theorem dX5_readToken_37 : decode cX5_readToken 37 = .ok (.goto (-37), 3) := by decide +kernel
theorem dX5_readToken_40 : decode cX5_readToken 40 = .ok (.aload_n 0, 1) := by decide +kernel
theorem dX5_readToken_41 : decode cX5_readToken 41 = .ok (.aload_n 0, 1) := by decide +kernel
theorem dX5_readToken_42 : decode cX5_readToken 42 = .ok (.getfield 23, 3) := by decide +kernel
theorem dX5_readToken_45 : decode cX5_readToken 45 = .ok (.putfield 30, 3) := by decide +kernel
theorem dX5_readToken_48 : decode cX5_readToken 48 = .ok (.aload_n 0, 1) := by decide +kernel
theorem dX5_readToken_49 : decode cX5_readToken 49 = .ok (.iconst 0, 1) := by decide +kernel
theorem dX5_readToken_50 : decode cX5_readToken 50 = .ok (.putfield 33, 3) := by decide +kernel
theorem dX5_readToken_53 : decode cX5_readToken 53 = .ok (.aload_n 0, 1) := by decide +kernel
theorem dX5_readToken_54 : decode cX5_readToken 54 = .ok (.getfield 9, 3) := by decide +kernel
theorem dX5_readToken_57 : decode cX5_readToken 57 = .ok (.aload_n 0, 1) := by decide +kernel
theorem dX5_readToken_58 : decode cX5_readToken 58 = .ok (.getfield 23, 3) := by decide +kernel
theorem dX5_readToken_61 : decode cX5_readToken 61 = .ok (.invokestatic 26, 3) := by decide +kernel
theorem dX5_readToken_64 : decode cX5_readToken 64 = .ok (.istore_n 1, 1) := by decide +kernel
theorem dX5_readToken_65 : decode cX5_readToken 65 = .ok (.aload_n 0, 1) := by decide +kernel
theorem dX5_readToken_66 : decode cX5_readToken 66 = .ok (.getfield 23, 3) := by decide +kernel
theorem dX5_readToken_69 : decode cX5_readToken 69 = .ok (.aload_n 0, 1) := by decide +kernel
theorem dX5_readToken_70 : decode cX5_readToken 70 = .ok (.getfield 15, 3) := by decide +kernel
theorem dX5_readToken_73 : decode cX5_readToken 73 = .ok (.if_icmp .lt 11, 3) := by decide +kernel
theorem dX5_readToken_76 : decode cX5_readToken 76 = .ok (.aload_n 0, 1) := by decide +kernel
theorem dX5_readToken_77 : decode cX5_readToken 77 = .ok (.iconst 0, 1) := by decide +kernel
theorem dX5_readToken_78 : decode cX5_readToken 78 = .ok (.putfield 36, 3) := by decide +kernel
theorem dX5_readToken_81 : decode cX5_readToken 81 = .ok (.goto 56, 3) := by decide +kernel
theorem dX5_readToken_84 : decode cX5_readToken 84 = .ok (.iload_n 1, 1) := by decide +kernel
theorem dX5_readToken_85 : decode cX5_readToken 85 = .ok (.invokestatic 39, 3) := by decide +kernel
theorem dX5_readToken_88 : decode cX5_readToken 88 = .ok (.ifCond .eq 10, 3) := by decide +kernel
theorem dX5_readToken_91 : decode cX5_readToken 91 = .ok (.aload_n 0, 1) := by decide +kernel
theorem dX5_readToken_92 : decode cX5_readToken 92 = .ok (.invokevirtual 43, 3) := by decide +kernel
theorem dX5_readToken_95 : decode cX5_readToken 95 = .ok (.goto 42, 3) := by decide +kernel
theorem dX5_readToken_98 : decode cX5_readToken 98 = .ok (.iload_n 1, 1) := by decide +kernel
theorem dX5_readToken_99 : decode cX5_readToken 99 = .ok (.invokestatic 46, 3) := by decide +kernel
theorem dX5_readToken_102 : decode cX5_readToken 102 = .ok (.ifCond .eq 10, 3) := by decide +kernel
theorem dX5_readToken_105 : decode cX5_readToken 105 = .ok (.aload_n 0, 1) := by decide +kernel
theorem dX5_readToken_106 : decode cX5_readToken 106 = .ok (.invokevirtual 49, 3) := by decide +kernel
theorem dX5_readToken_109 : decode cX5_readToken 109 = .ok (.goto 28, 3) := by decide +kernel
theorem dX5_readToken_112 : decode cX5_readToken 112 = .ok (.aload_n 0, 1) := by decide +kernel
theorem dX5_readToken_113 : decode cX5_readToken 113 = .ok (.iload_n 1, 1) := by decide +kernel
theorem dX5_readToken_114 : decode cX5_readToken 114 = .ok (.bipush 59, 2) := by decide +kernel
theorem dX5_readToken_116 : decode cX5_readToken 116 = .ok (.if_icmp .ne 7, 3) := by decide +kernel
theorem dX5_readToken_119 : decode cX5_readToken 119 = .ok (.iconst 3, 1) := by decide +kernel
theorem dX5_readToken_120 : decode cX5_readToken 120 = .ok (.goto 4, 3) := by decide +kernel
theorem dX5_readToken_123 : decode cX5_readToken 123 = .ok (.iconst 4, 1) := by decide +kernel
theorem dX5_readToken_124 : decode cX5_readToken 124 = .ok (.putfield 36, 3) := by decide +kernel
theorem dX5_readToken_127 : decode cX5_readToken 127 = .ok (.aload_n 0, 1) := by decide +kernel
theorem dX5_readToken_128 : decode cX5_readToken 128 = .ok (.dup, 1) := by decide +kernel
theorem dX5_readToken_129 : decode cX5_readToken 129 = .ok (.getfield 23, 3) := by decide +kernel
theorem dX5_readToken_132 : decode cX5_readToken 132 = .ok (.iconst 1, 1) := by decide +kernel
theorem dX5_readToken_133 : decode cX5_readToken 133 = .ok (.iadd, 1) := by decide +kernel
theorem dX5_readToken_134 : decode cX5_readToken 134 = .ok (.putfield 23, 3) := by decide +kernel
theorem dX5_readToken_137 : decode cX5_readToken 137 = .ok (.return_, 1) := by decide +kernel
theorem dX5_readLetters_0 : decode cX5_readLetters 0 = .ok (.aload_n 0, 1) := by decide +kernel
theorem dX5_readLetters_1 : decode cX5_readLetters 1 = .ok (.getfield 23, 3) := by decide +kernel
theorem dX5_readLetters_4 : decode cX5_readLetters 4 = .ok (.aload_n 0, 1) := by decide +kernel
theorem dX5_readLetters_5 : decode cX5_readLetters 5 = .ok (.getfield 15, 3) := by decide +kernel
theorem dX5_readLetters_8 : decode cX5_readLetters 8 = .ok (.if_icmp .ge 33, 3) := by decide +kernel
theorem dX5_readLetters_11 : decode cX5_readLetters 11 = .ok (.aload_n 0, 1) := by decide +kernel
theorem dX5_readLetters_12 : decode cX5_readLetters 12 = .ok (.getfield 9, 3) := by decide +kernel
theorem dX5_readLetters_15 : decode cX5_readLetters 15 = .ok (.aload_n 0, 1) := by decide +kernel
theorem dX5_readLetters_16 : decode cX5_readLetters 16 = .ok (.getfield 23, 3) := by decide +kernel
theorem dX5_readLetters_19 : decode cX5_readLetters 19 = .ok (.invokestatic 26, 3) := by decide +kernel
theorem dX5_readLetters_22 : decode cX5_readLetters 22 = .ok (.invokestatic 39, 3) := by decide +kernel
theorem dX5_readLetters_25 : decode cX5_readLetters 25 = .ok (.ifCond .eq 16, 3) := by decide +kernel
theorem dX5_readLetters_28 : decode cX5_readLetters 28 = .ok (.aload_n 0, 1) := by decide +kernel
theorem dX5_readLetters_29 : decode cX5_readLetters 29 = .ok (.dup, 1) := by decide +kernel
theorem dX5_readLetters_30 : decode cX5_readLetters 30 = .ok (.getfield 23, 3) := by decide +kernel
theorem dX5_readLetters_33 : decode cX5_readLetters 33 = .ok (.iconst 1, 1) := by decide +kernel
theorem dX5_readLetters_34 : decode cX5_readLetters 34 = .ok (.iadd, 1) := by decide +kernel
theorem dX5_readLetters_35 : decode cX5_readLetters 35 = .ok (.putfield 23, 3) := by decide +kernel
theorem dX5_readLetters_38 : decode cX5_readLetters 38 = .ok (.goto (-38), 3) := by decide +kernel
theorem dX5_readLetters_41 : decode cX5_readLetters 41 = .ok (.aload_n 0, 1) := by decide +kernel
theorem dX5_readLetters_42 : decode cX5_readLetters 42 = .ok (.iconst 1, 1) := by decide +kernel
theorem dX5_readLetters_43 : decode cX5_readLetters 43 = .ok (.putfield 36, 3) := by decide +kernel
theorem dX5_readLetters_46 : decode cX5_readLetters 46 = .ok (.aload_n 0, 1) := by decide +kernel
theorem dX5_readLetters_47 : decode cX5_readLetters 47 = .ok (.aload_n 0, 1) := by decide +kernel
theorem dX5_readLetters_48 : decode cX5_readLetters 48 = .ok (.getfield 23, 3) := by decide +kernel
theorem dX5_readLetters_51 : decode cX5_readLetters 51 = .ok (.aload_n 0, 1) := by decide +kernel
theorem dX5_readLetters_52 : decode cX5_readLetters 52 = .ok (.getfield 30, 3) := by decide +kernel
theorem dX5_readLetters_55 : decode cX5_readLetters 55 = .ok (.isub, 1) := by decide +kernel
theorem dX5_readLetters_56 : decode cX5_readLetters 56 = .ok (.iconst 1, 1) := by decide +kernel
theorem dX5_readLetters_57 : decode cX5_readLetters 57 = .ok (.if_icmp .ne 17, 3) := by decide +kernel
theorem dX5_readLetters_60 : decode cX5_readLetters 60 = .ok (.aload_n 0, 1) := by decide +kernel
theorem dX5_readLetters_61 : decode cX5_readLetters 61 = .ok (.getfield 9, 3) := by decide +kernel
theorem dX5_readLetters_64 : decode cX5_readLetters 64 = .ok (.aload_n 0, 1) := by decide +kernel
theorem dX5_readLetters_65 : decode cX5_readLetters 65 = .ok (.getfield 30, 3) := by decide +kernel
theorem dX5_readLetters_68 : decode cX5_readLetters 68 = .ok (.invokestatic 26, 3) := by decide +kernel
theorem dX5_readLetters_71 : decode cX5_readLetters 71 = .ok (.goto 4, 3) := by decide +kernel
theorem dX5_readLetters_74 : decode cX5_readLetters 74 = .ok (.iconst 0, 1) := by decide +kernel
theorem dX5_readLetters_75 : decode cX5_readLetters 75 = .ok (.putfield 33, 3) := by decide +kernel
theorem dX5_readLetters_78 : decode cX5_readLetters 78 = .ok (.return_, 1) := by decide +kernel
theorem dX5_readNumber_0 : decode cX5_readNumber 0 = .ok (.aload_n 0, 1) := by decide +kernel
theorem dX5_readNumber_1 : decode cX5_readNumber 1 = .ok (.getfield 23, 3) := by decide +kernel
theorem dX5_readNumber_4 : decode cX5_readNumber 4 = .ok (.aload_n 0, 1) := by decide +kernel
theorem dX5_readNumber_5 : decode cX5_readNumber 5 = .ok (.getfield 15, 3) := by decide +kernel
theorem dX5_readNumber_8 : decode cX5_readNumber 8 = .ok (.if_icmp .ge 65, 3) := by decide +kernel
theorem dX5_readNumber_11 : decode cX5_readNumber 11 = .ok (.aload_n 0, 1) := by decide +kernel
theorem dX5_readNumber_12 : decode cX5_readNumber 12 = .ok (.getfield 9, 3) := by decide +kernel
theorem dX5_readNumber_15 : decode cX5_readNumber 15 = .ok (.aload_n 0, 1) := by decide +kernel
theorem dX5_readNumber_16 : decode cX5_readNumber 16 = .ok (.getfield 23, 3) := by decide +kernel
theorem dX5_readNumber_19 : decode cX5_readNumber 19 = .ok (.invokestatic 26, 3) := by decide +kernel
theorem dX5_readNumber_22 : decode cX5_readNumber 22 = .ok (.invokestatic 46, 3) := by decide +kernel
theorem dX5_readNumber_25 : decode cX5_readNumber 25 = .ok (.ifCond .eq 48, 3) := by decide +kernel
theorem dX5_readNumber_28 : decode cX5_readNumber 28 = .ok (.aload_n 0, 1) := by decide +kernel
theorem dX5_readNumber_29 : decode cX5_readNumber 29 = .ok (.sipush 1000, 3) := by decide +kernel
theorem dX5_readNumber_32 : decode cX5_readNumber 32 = .ok (.aload_n 0, 1) := by decide +kernel
theorem dX5_readNumber_33 : decode cX5_readNumber 33 = .ok (.getfield 33, 3) := by decide +kernel
theorem dX5_readNumber_36 : decode cX5_readNumber 36 = .ok (.bipush 10, 2) := by decide +kernel
theorem dX5_readNumber_38 : decode cX5_readNumber 38 = .ok (.imul, 1) := by decide +kernel
theorem dX5_readNumber_39 : decode cX5_readNumber 39 = .ok (.aload_n 0, 1) := by decide +kernel
theorem dX5_readNumber_40 : decode cX5_readNumber 40 = .ok (.getfield 9, 3) := by decide +kernel
theorem dX5_readNumber_43 : decode cX5_readNumber 43 = .ok (.aload_n 0, 1) := by decide +kernel
theorem dX5_readNumber_44 : decode cX5_readNumber 44 = .ok (.getfield 23, 3) := by decide +kernel
theorem dX5_readNumber_47 : decode cX5_readNumber 47 = .ok (.invokestatic 26, 3) := by decide +kernel
theorem dX5_readNumber_50 : decode cX5_readNumber 50 = .ok (.iadd, 1) := by decide +kernel
theorem dX5_readNumber_51 : decode cX5_readNumber 51 = .ok (.bipush 48, 2) := by decide +kernel
theorem dX5_readNumber_53 : decode cX5_readNumber 53 = .ok (.isub, 1) := by decide +kernel
theorem dX5_readNumber_54 : decode cX5_readNumber 54 = .ok (.invokestatic 52, 3) := by decide +kernel
theorem dX5_readNumber_57 : decode cX5_readNumber 57 = .ok (.putfield 33, 3) := by decide +kernel
theorem dX5_readNumber_60 : decode cX5_readNumber 60 = .ok (.aload_n 0, 1) := by decide +kernel
theorem dX5_readNumber_61 : decode cX5_readNumber 61 = .ok (.dup, 1) := by decide +kernel
theorem dX5_readNumber_62 : decode cX5_readNumber 62 = .ok (.getfield 23, 3) := by decide +kernel
theorem dX5_readNumber_65 : decode cX5_readNumber 65 = .ok (.iconst 1, 1) := by decide +kernel
theorem dX5_readNumber_66 : decode cX5_readNumber 66 = .ok (.iadd, 1) := by decide +kernel
theorem dX5_readNumber_67 : decode cX5_readNumber 67 = .ok (.putfield 23, 3) := by decide +kernel
theorem dX5_readNumber_70 : decode cX5_readNumber 70 = .ok (.goto (-70), 3) := by decide +kernel
theorem dX5_readNumber_73 : decode cX5_readNumber 73 = .ok (.aload_n 0, 1) := by decide +kernel
theorem dX5_readNumber_74 : decode cX5_readNumber 74 = .ok (.getfield 9, 3) := by decide +kernel
theorem dX5_readNumber_77 : decode cX5_readNumber 77 = .ok (.aload_n 0, 1) := by decide +kernel
theorem dX5_readNumber_78 : decode cX5_readNumber 78 = .ok (.getfield 30, 3) := by decide +kernel
theorem dX5_readNumber_81 : decode cX5_readNumber 81 = .ok (.invokestatic 26, 3) := by decide +kernel
theorem dX5_readNumber_84 : decode cX5_readNumber 84 = .ok (.bipush 48, 2) := by decide +kernel
theorem dX5_readNumber_86 : decode cX5_readNumber 86 = .ok (.if_icmp .ne 20, 3) := by decide +kernel
theorem dX5_readNumber_89 : decode cX5_readNumber 89 = .ok (.aload_n 0, 1) := by decide +kernel
theorem dX5_readNumber_90 : decode cX5_readNumber 90 = .ok (.getfield 23, 3) := by decide +kernel
theorem dX5_readNumber_93 : decode cX5_readNumber 93 = .ok (.aload_n 0, 1) := by decide +kernel
theorem dX5_readNumber_94 : decode cX5_readNumber 94 = .ok (.getfield 30, 3) := by decide +kernel
theorem dX5_readNumber_97 : decode cX5_readNumber 97 = .ok (.isub, 1) := by decide +kernel
theorem dX5_readNumber_98 : decode cX5_readNumber 98 = .ok (.iconst 1, 1) := by decide +kernel
theorem dX5_readNumber_99 : decode cX5_readNumber 99 = .ok (.if_icmp .le 7, 3) := by decide +kernel
theorem dX5_readNumber_102 : decode cX5_readNumber 102 = .ok (.iconst 1, 1) := by decide +kernel
theorem dX5_readNumber_103 : decode cX5_readNumber 103 = .ok (.goto 4, 3) := by decide +kernel
theorem dX5_readNumber_106 : decode cX5_readNumber 106 = .ok (.iconst 0, 1) := by decide +kernel
theorem dX5_readNumber_107 : decode cX5_readNumber 107 = .ok (.istore_n 1, 1) := by decide +kernel
theorem dX5_readNumber_108 : decode cX5_readNumber 108 = .ok (.aload_n 0, 1) := by decide +kernel
theorem dX5_readNumber_109 : decode cX5_readNumber 109 = .ok (.iload_n 1, 1) := by decide +kernel
theorem dX5_readNumber_110 : decode cX5_readNumber 110 = .ok (.ifCond .ne 13, 3) := by decide +kernel
theorem dX5_readNumber_113 : decode cX5_readNumber 113 = .ok (.aload_n 0, 1) := by decide +kernel
theorem dX5_readNumber_114 : decode cX5_readNumber 114 = .ok (.getfield 33, 3) := by decide +kernel
theorem dX5_readNumber_117 : decode cX5_readNumber 117 = .ok (.sipush 999, 3) := by decide +kernel
theorem dX5_readNumber_120 : decode cX5_readNumber 120 = .ok (.if_icmp .le 7, 3) := by decide +kernel
theorem dX5_readNumber_123 : decode cX5_readNumber 123 = .ok (.iconst 4, 1) := by decide +kernel
theorem dX5_readNumber_124 : decode cX5_readNumber 124 = .ok (.goto 4, 3) := by decide +kernel
theorem dX5_readNumber_127 : decode cX5_readNumber 127 = .ok (.iconst 2, 1) := by decide +kernel
theorem dX5_readNumber_128 : decode cX5_readNumber 128 = .ok (.putfield 36, 3) := by decide +kernel
theorem dX5_readNumber_131 : decode cX5_readNumber 131 = .ok (.return_, 1) := by decide +kernel
theorem dX5_isLetter_0 : decode cX5_isLetter 0 = .ok (.iload_n 0, 1) := by decide +kernel
theorem dX5_isLetter_1 : decode cX5_isLetter 1 = .ok (.bipush 97, 2) := by decide +kernel
theorem dX5_isLetter_3 : decode cX5_isLetter 3 = .ok (.if_icmp .lt 13, 3) := by decide +kernel
theorem dX5_isLetter_6 : decode cX5_isLetter 6 = .ok (.iload_n 0, 1) := by decide +kernel
theorem dX5_isLetter_7 : decode cX5_isLetter 7 = .ok (.bipush 122, 2) := by decide +kernel
theorem dX5_isLetter_9 : decode cX5_isLetter 9 = .ok (.if_icmp .gt 7, 3) := by decide +kernel
theorem dX5_isLetter_12 : decode cX5_isLetter 12 = .ok (.iconst 1, 1) := by decide +kernel
theorem dX5_isLetter_13 : decode cX5_isLetter 13 = .ok (.goto 4, 3) := by decide +kernel
theorem dX5_isLetter_16 : decode cX5_isLetter 16 = .ok (.iconst 0, 1) := by decide +kernel
theorem dX5_isLetter_17 : decode cX5_isLetter 17 = .ok (.ireturn, 1) := by decide +kernel
theorem dX5_isDigit_0 : decode cX5_isDigit 0 = .ok (.iload_n 0, 1) := by decide +kernel
theorem dX5_isDigit_1 : decode cX5_isDigit 1 = .ok (.bipush 48, 2) := by decide +kernel
theorem dX5_isDigit_3 : decode cX5_isDigit 3 = .ok (.if_icmp .lt 13, 3) := by decide +kernel
theorem dX5_isDigit_6 : decode cX5_isDigit 6 = .ok (.iload_n 0, 1) := by decide +kernel
theorem dX5_isDigit_7 : decode cX5_isDigit 7 = .ok (.bipush 57, 2) := by decide +kernel
theorem dX5_isDigit_9 : decode cX5_isDigit 9 = .ok (.if_icmp .gt 7, 3) := by decide +kernel
theorem dX5_isDigit_12 : decode cX5_isDigit 12 = .ok (.iconst 1, 1) := by decide +kernel
theorem dX5_isDigit_13 : decode cX5_isDigit 13 = .ok (.goto 4, 3) := by decide +kernel
theorem dX5_isDigit_16 : decode cX5_isDigit 16 = .ok (.iconst 0, 1) := by decide +kernel
theorem dX5_isDigit_17 : decode cX5_isDigit 17 = .ok (.ireturn, 1) := by decide +kernel
theorem dX6_init_0 : decode cX6_init 0 = .ok (.aload_n 0, 1) := by decide +kernel
theorem dX6_init_1 : decode cX6_init 1 = .ok (.invokespecial 1, 3) := by decide +kernel
theorem dX6_init_4 : decode cX6_init 4 = .ok (.aload_n 0, 1) := by decide +kernel
theorem dX6_init_5 : decode cX6_init 5 = .ok (.new 7, 3) := by decide +kernel
theorem dX6_init_8 : decode cX6_init 8 = .ok (.dup, 1) := by decide +kernel
theorem dX6_init_9 : decode cX6_init 9 = .ok (.invokespecial 9, 3) := by decide +kernel
theorem dX6_init_12 : decode cX6_init 12 = .ok (.putfield 10, 3) := by decide +kernel
theorem dX6_init_15 : decode cX6_init 15 = .ok (.aload_n 0, 1) := by decide +kernel
theorem dX6_init_16 : decode cX6_init 16 = .ok (.new 16, 3) := by decide +kernel
theorem dX6_init_19 : decode cX6_init 19 = .ok (.dup, 1) := by decide +kernel
theorem dX6_init_20 : decode cX6_init 20 = .ok (.invokespecial 18, 3) := by decide +kernel
theorem dX6_init_23 : decode cX6_init 23 = .ok (.putfield 19, 3) := by decide +kernel
theorem dX6_init_26 : decode cX6_init 26 = .ok (.aload_n 0, 1) := by decide +kernel
theorem dX6_init_27 : decode cX6_init 27 = .ok (.new 23, 3) := by decide +kernel
theorem dX6_init_30 : decode cX6_init 30 = .ok (.dup, 1) := by decide +kernel
theorem dX6_init_31 : decode cX6_init 31 = .ok (.invokespecial 25, 3) := by decide +kernel
theorem dX6_init_34 : decode cX6_init 34 = .ok (.putfield 26, 3) := by decide +kernel
theorem dX6_init_37 : decode cX6_init 37 = .ok (.aload_n 0, 1) := by decide +kernel
theorem dX6_init_38 : decode cX6_init 38 = .ok (.new 30, 3) := by decide +kernel
theorem dX6_init_41 : decode cX6_init 41 = .ok (.dup, 1) := by decide +kernel
theorem dX6_init_42 : decode cX6_init 42 = .ok (.invokespecial 32, 3) := by decide +kernel
theorem dX6_init_45 : decode cX6_init 45 = .ok (.putfield 33, 3) := by decide +kernel
theorem dX6_init_48 : decode cX6_init 48 = .ok (.aload_n 0, 1) := by decide +kernel
theorem dX6_init_49 : decode cX6_init 49 = .ok (.iconst 2, 1) := by decide +kernel
theorem dX6_init_50 : decode cX6_init 50 = .ok (.anewarray 16, 3) := by decide +kernel
theorem dX6_init_53 : decode cX6_init 53 = .ok (.putfield 37, 3) := by decide +kernel
theorem dX6_init_56 : decode cX6_init 56 = .ok (.aload_n 0, 1) := by decide +kernel
theorem dX6_init_57 : decode cX6_init 57 = .ok (.iconst 2, 1) := by decide +kernel
theorem dX6_init_58 : decode cX6_init 58 = .ok (.newarray .boolean, 2) := by decide +kernel
theorem dX6_init_60 : decode cX6_init 60 = .ok (.putfield 41, 3) := by decide +kernel
theorem dX6_init_63 : decode cX6_init 63 = .ok (.aload_n 0, 1) := by decide +kernel
theorem dX6_init_64 : decode cX6_init 64 = .ok (.new 45, 3) := by decide +kernel
theorem dX6_init_67 : decode cX6_init 67 = .ok (.dup, 1) := by decide +kernel
theorem dX6_init_68 : decode cX6_init 68 = .ok (.invokespecial 47, 3) := by decide +kernel
theorem dX6_init_71 : decode cX6_init 71 = .ok (.putfield 48, 3) := by decide +kernel
theorem dX6_init_74 : decode cX6_init 74 = .ok (.aload_n 0, 1) := by decide +kernel
theorem dX6_init_75 : decode cX6_init 75 = .ok (.new 45, 3) := by decide +kernel
theorem dX6_init_78 : decode cX6_init 78 = .ok (.dup, 1) := by decide +kernel
theorem dX6_init_79 : decode cX6_init 79 = .ok (.invokespecial 47, 3) := by decide +kernel
theorem dX6_init_82 : decode cX6_init 82 = .ok (.putfield 52, 3) := by decide +kernel
theorem dX6_init_85 : decode cX6_init 85 = .ok (.iconst 0, 1) := by decide +kernel
theorem dX6_init_86 : decode cX6_init 86 = .ok (.istore_n 1, 1) := by decide +kernel
theorem dX6_init_87 : decode cX6_init 87 = .ok (.iload_n 1, 1) := by decide +kernel
theorem dX6_init_88 : decode cX6_init 88 = .ok (.aload_n 0, 1) := by decide +kernel
theorem dX6_init_89 : decode cX6_init 89 = .ok (.getfield 37, 3) := by decide +kernel
theorem dX6_init_92 : decode cX6_init 92 = .ok (.arraylength, 1) := by decide +kernel
theorem dX6_init_93 : decode cX6_init 93 = .ok (.if_icmp .ge 22, 3) := by decide +kernel
theorem dX6_init_96 : decode cX6_init 96 = .ok (.aload_n 0, 1) := by decide +kernel
theorem dX6_init_97 : decode cX6_init 97 = .ok (.getfield 37, 3) := by decide +kernel
theorem dX6_init_100 : decode cX6_init 100 = .ok (.iload_n 1, 1) := by decide +kernel
theorem dX6_init_101 : decode cX6_init 101 = .ok (.new 16, 3) := by decide +kernel
theorem dX6_init_104 : decode cX6_init 104 = .ok (.dup, 1) := by decide +kernel
theorem dX6_init_105 : decode cX6_init 105 = .ok (.invokespecial 18, 3) := by decide +kernel
theorem dX6_init_108 : decode cX6_init 108 = .ok (.aastore, 1) := by decide +kernel
theorem dX6_init_109 : decode cX6_init 109 = .ok (.iinc 1 1, 3) := by decide +kernel
theorem dX6_init_112 : decode cX6_init 112 = .ok (.goto (-25), 3) := by decide +kernel
theorem dX6_init_115 : decode cX6_init 115 = .ok (.aload_n 0, 1) := by decide +kernel
theorem dX6_init_116 : decode cX6_init 116 = .ok (.getfield 19, 3) := by decide +kernel
theorem dX6_init_119 : decode cX6_init 119 = .ok (.aload_n 0, 1) := by decide +kernel
theorem dX6_init_120 : decode cX6_init 120 = .ok (.getfield 48, 3) := by decide +kernel
theorem dX6_init_123 : decode cX6_init 123 = .ok (.invokevirtual 55, 3) := by decide +kernel
theorem dX6_init_126 : decode cX6_init 126 = .ok (.return_, 1) := by decide +kernel
theorem dX6_type_0 : decode cX6_type 0 = .ok (.iload_n 1, 1) := by decide +kernel
theorem dX6_type_1 : decode cX6_type 1 = .ok (.ifCond .lt 10, 3) := by decide +kernel
theorem dX6_type_4 : decode cX6_type 4 = .ok (.iload_n 1, 1) := by decide +kernel
theorem dX6_type_5 : decode cX6_type 5 = .ok (.sipush 255, 3) := by decide +kernel
theorem dX6_type_8 : decode cX6_type 8 = .ok (.if_icmp .le 5, 3) := by decide +kernel
theorem dX6_type_11 : decode cX6_type 11 = .ok (.iconst (-1), 1) := by decide +kernel
theorem dX6_type_12 : decode cX6_type 12 = .ok (.ireturn, 1) := by decide +kernel
theorem dX6_type_13 : decode cX6_type 13 = .ok (.aload_n 0, 1) := by decide +kernel
theorem dX6_type_14 : decode cX6_type 14 = .ok (.getfield 10, 3) := by decide +kernel
theorem dX6_type_17 : decode cX6_type 17 = .ok (.invokevirtual 59, 3) := by decide +kernel
theorem dX6_type_20 : decode cX6_type 20 = .ok (.ifCond .eq 8, 3) := by decide +kernel
theorem dX6_type_23 : decode cX6_type 23 = .ok (.bipush (-3), 2) := by decide +kernel
theorem dX6_type_25 : decode cX6_type 25 = .ok (.goto 11, 3) := by decide +kernel
theorem dX6_type_28 : decode cX6_type 28 = .ok (.aload_n 0, 1) := by decide +kernel
theorem dX6_type_29 : decode cX6_type 29 = .ok (.getfield 10, 3) := by decide +kernel
theorem dX6_type_32 : decode cX6_type 32 = .ok (.iload_n 1, 1) := by decide +kernel
theorem dX6_type_33 : decode cX6_type 33 = .ok (.invokevirtual 63, 3) := by decide +kernel
theorem dX6_type_36 : decode cX6_type 36 = .ok (.ireturn, 1) := by decide +kernel
theorem dX6_clear_0 : decode cX6_clear 0 = .ok (.aload_n 0, 1) := by decide +kernel
theorem dX6_clear_1 : decode cX6_clear 1 = .ok (.getfield 10, 3) := by decide +kernel
theorem dX6_clear_4 : decode cX6_clear 4 = .ok (.invokevirtual 67, 3) := by decide +kernel
theorem dX6_clear_7 : decode cX6_clear 7 = .ok (.ireturn, 1) := by decide +kernel
theorem dX6_office_0 : decode cX6_office 0 = .ok (.aload_n 0, 1) := by decide +kernel
theorem dX6_office_1 : decode cX6_office 1 = .ok (.getfield 52, 3) := by decide +kernel
theorem dX6_office_4 : decode cX6_office 4 = .ok (.aload_n 0, 1) := by decide +kernel
theorem dX6_office_5 : decode cX6_office 5 = .ok (.getfield 10, 3) := by decide +kernel
theorem dX6_office_8 : decode cX6_office 8 = .ok (.invokevirtual 71, 3) := by decide +kernel
theorem dX6_office_11 : decode cX6_office 11 = .ok (.istore_n 1, 1) := by decide +kernel
theorem dX6_office_12 : decode cX6_office 12 = .ok (.iload_n 1, 1) := by decide +kernel
theorem dX6_office_13 : decode cX6_office 13 = .ok (.ifCond .ge 5, 3) := by decide +kernel
theorem dX6_office_16 : decode cX6_office 16 = .ok (.iload_n 1, 1) := by decide +kernel
theorem dX6_office_17 : decode cX6_office 17 = .ok (.ireturn, 1) := by decide +kernel
theorem dX6_office_18 : decode cX6_office 18 = .ok (.aload_n 0, 1) := by decide +kernel
theorem dX6_office_19 : decode cX6_office 19 = .ok (.getfield 48, 3) := by decide +kernel
theorem dX6_office_22 : decode cX6_office 22 = .ok (.astore_n 2, 1) := by decide +kernel
theorem dX6_office_23 : decode cX6_office 23 = .ok (.aload_n 0, 1) := by decide +kernel
theorem dX6_office_24 : decode cX6_office 24 = .ok (.aload_n 0, 1) := by decide +kernel
theorem dX6_office_25 : decode cX6_office 25 = .ok (.getfield 52, 3) := by decide +kernel
theorem dX6_office_28 : decode cX6_office 28 = .ok (.putfield 48, 3) := by decide +kernel
theorem dX6_office_31 : decode cX6_office 31 = .ok (.aload_n 0, 1) := by decide +kernel
theorem dX6_office_32 : decode cX6_office 32 = .ok (.aload_n 2, 1) := by decide +kernel
theorem dX6_office_33 : decode cX6_office 33 = .ok (.putfield 52, 3) := by decide +kernel
theorem dX6_office_36 : decode cX6_office 36 = .ok (.aload_n 0, 1) := by decide +kernel
theorem dX6_office_37 : decode cX6_office 37 = .ok (.getfield 10, 3) := by decide +kernel
theorem dX6_office_40 : decode cX6_office 40 = .ok (.invokevirtual 67, 3) := by decide +kernel
theorem dX6_office_43 : decode cX6_office 43 = .ok (.pop, 1) := by decide +kernel
theorem dX6_office_44 : decode cX6_office 44 = .ok (.aload_n 0, 1) := by decide +kernel
theorem dX6_office_45 : decode cX6_office 45 = .ok (.getfield 19, 3) := by decide +kernel
theorem dX6_office_48 : decode cX6_office 48 = .ok (.aload_n 0, 1) := by decide +kernel
theorem dX6_office_49 : decode cX6_office 49 = .ok (.getfield 48, 3) := by decide +kernel
theorem dX6_office_52 : decode cX6_office 52 = .ok (.invokevirtual 55, 3) := by decide +kernel
theorem dX6_office_55 : decode cX6_office 55 = .ok (.aload_n 0, 1) := by decide +kernel
theorem dX6_office_56 : decode cX6_office 56 = .ok (.getfield 33, 3) := by decide +kernel
theorem dX6_office_59 : decode cX6_office 59 = .ok (.invokevirtual 75, 3) := by decide +kernel
theorem dX6_office_62 : decode cX6_office 62 = .ok (.pop, 1) := by decide +kernel
theorem dX6_office_63 : decode cX6_office 63 = .ok (.iconst 0, 1) := by decide +kernel
theorem dX6_office_64 : decode cX6_office 64 = .ok (.istore_n 3, 1) := by decide +kernel
theorem dX6_office_65 : decode cX6_office 65 = .ok (.iload_n 3, 1) := by decide +kernel
theorem dX6_office_66 : decode cX6_office 66 = .ok (.aload_n 0, 1) := by decide +kernel
theorem dX6_office_67 : decode cX6_office 67 = .ok (.getfield 41, 3) := by decide +kernel
theorem dX6_office_70 : decode cX6_office 70 = .ok (.arraylength, 1) := by decide +kernel
theorem dX6_office_71 : decode cX6_office 71 = .ok (.if_icmp .ge 16, 3) := by decide +kernel
theorem dX6_office_74 : decode cX6_office 74 = .ok (.aload_n 0, 1) := by decide +kernel
theorem dX6_office_75 : decode cX6_office 75 = .ok (.getfield 41, 3) := by decide +kernel
theorem dX6_office_78 : decode cX6_office 78 = .ok (.iload_n 3, 1) := by decide +kernel
theorem dX6_office_79 : decode cX6_office 79 = .ok (.iconst 0, 1) := by decide +kernel
theorem dX6_office_80 : decode cX6_office 80 = .ok (.bastore, 1) := by decide +kernel
theorem dX6_office_81 : decode cX6_office 81 = .ok (.iinc 3 1, 3) := by decide +kernel
theorem dX6_office_84 : decode cX6_office 84 = .ok (.goto (-19), 3) := by decide +kernel
theorem dX6_office_87 : decode cX6_office 87 = .ok (.iload_n 1, 1) := by decide +kernel
theorem dX6_office_88 : decode cX6_office 88 = .ok (.ireturn, 1) := by decide +kernel
theorem dX6_job_0 : decode cX6_job 0 = .ok (.aload_n 0, 1) := by decide +kernel
theorem dX6_job_1 : decode cX6_job 1 = .ok (.getfield 48, 3) := by decide +kernel
theorem dX6_job_4 : decode cX6_job 4 = .ok (.iload_n 1, 1) := by decide +kernel
theorem dX6_job_5 : decode cX6_job 5 = .ok (.invokevirtual 78, 3) := by decide +kernel
theorem dX6_job_8 : decode cX6_job 8 = .ok (.astore_n 3, 1) := by decide +kernel
theorem dX6_job_9 : decode cX6_job 9 = .ok (.aload_n 3, 1) := by decide +kernel
theorem dX6_job_10 : decode cX6_job 10 = .ok (.ifnonnull 5, 3) := by decide +kernel
theorem dX6_job_13 : decode cX6_job 13 = .ok (.iconst (-1), 1) := by decide +kernel
theorem dX6_job_14 : decode cX6_job 14 = .ok (.ireturn, 1) := by decide +kernel
theorem dX6_job_15 : decode cX6_job 15 = .ok (.iload_n 2, 1) := by decide +kernel
theorem dX6_job_16 : decode cX6_job 16 = .ok (.tableswitch 164 0 10 #[60, 65, 70, 83, 96, 101, 106, 118, 130, 142, 148], 60) := by decide +kernel
theorem dX6_job_76 : decode cX6_job 76 = .ok (.aload_n 3, 1) := by decide +kernel
theorem dX6_job_77 : decode cX6_job 77 = .ok (.getfield 82, 3) := by decide +kernel
theorem dX6_job_80 : decode cX6_job 80 = .ok (.ireturn, 1) := by decide +kernel
theorem dX6_job_81 : decode cX6_job 81 = .ok (.aload_n 3, 1) := by decide +kernel
theorem dX6_job_82 : decode cX6_job 82 = .ok (.getfield 88, 3) := by decide +kernel
theorem dX6_job_85 : decode cX6_job 85 = .ok (.ireturn, 1) := by decide +kernel
theorem dX6_job_86 : decode cX6_job 86 = .ok (.aload_n 3, 1) := by decide +kernel
theorem dX6_job_87 : decode cX6_job 87 = .ok (.getfield 91, 3) := by decide +kernel
theorem dX6_job_90 : decode cX6_job 90 = .ok (.ifCond .eq 7, 3) := by decide +kernel
theorem dX6_job_93 : decode cX6_job 93 = .ok (.iconst 1, 1) := by decide +kernel
theorem dX6_job_94 : decode cX6_job 94 = .ok (.goto 4, 3) := by decide +kernel
theorem dX6_job_97 : decode cX6_job 97 = .ok (.iconst 0, 1) := by decide +kernel
theorem dX6_job_98 : decode cX6_job 98 = .ok (.ireturn, 1) := by decide +kernel
theorem dX6_job_99 : decode cX6_job 99 = .ok (.aload_n 3, 1) := by decide +kernel
theorem dX6_job_100 : decode cX6_job 100 = .ok (.getfield 95, 3) := by decide +kernel
theorem dX6_job_103 : decode cX6_job 103 = .ok (.ifCond .eq 7, 3) := by decide +kernel
theorem dX6_job_106 : decode cX6_job 106 = .ok (.iconst 1, 1) := by decide +kernel
theorem dX6_job_107 : decode cX6_job 107 = .ok (.goto 4, 3) := by decide +kernel
theorem dX6_job_110 : decode cX6_job 110 = .ok (.iconst 0, 1) := by decide +kernel
theorem dX6_job_111 : decode cX6_job 111 = .ok (.ireturn, 1) := by decide +kernel
theorem dX6_job_112 : decode cX6_job 112 = .ok (.aload_n 3, 1) := by decide +kernel
theorem dX6_job_113 : decode cX6_job 113 = .ok (.getfield 98, 3) := by decide +kernel
theorem dX6_job_116 : decode cX6_job 116 = .ok (.ireturn, 1) := by decide +kernel
theorem dX6_job_117 : decode cX6_job 117 = .ok (.aload_n 3, 1) := by decide +kernel
theorem dX6_job_118 : decode cX6_job 118 = .ok (.invokevirtual 101, 3) := by decide +kernel
theorem dX6_job_121 : decode cX6_job 121 = .ok (.ireturn, 1) := by decide +kernel
theorem dX6_job_122 : decode cX6_job 122 = .ok (.aload_n 0, 1) := by decide +kernel
theorem dX6_job_123 : decode cX6_job 123 = .ok (.getfield 19, 3) := by decide +kernel
theorem dX6_job_126 : decode cX6_job 126 = .ok (.getfield 104, 3) := by decide +kernel
theorem dX6_job_129 : decode cX6_job 129 = .ok (.iload_n 1, 1) := by decide +kernel
theorem dX6_job_130 : decode cX6_job 130 = .ok (.invokevirtual 107, 3) := by decide +kernel
theorem dX6_job_133 : decode cX6_job 133 = .ok (.ireturn, 1) := by decide +kernel
theorem dX6_job_134 : decode cX6_job 134 = .ok (.aload_n 0, 1) := by decide +kernel
theorem dX6_job_135 : decode cX6_job 135 = .ok (.getfield 19, 3) := by decide +kernel
theorem dX6_job_138 : decode cX6_job 138 = .ok (.getfield 104, 3) := by decide +kernel
theorem dX6_job_141 : decode cX6_job 141 = .ok (.iload_n 1, 1) := by decide +kernel
theorem dX6_job_142 : decode cX6_job 142 = .ok (.invokevirtual 110, 3) := by decide +kernel
theorem dX6_job_145 : decode cX6_job 145 = .ok (.ireturn, 1) := by decide +kernel
theorem dX6_job_146 : decode cX6_job 146 = .ok (.aload_n 0, 1) := by decide +kernel
theorem dX6_job_147 : decode cX6_job 147 = .ok (.getfield 19, 3) := by decide +kernel
theorem dX6_job_150 : decode cX6_job 150 = .ok (.getfield 104, 3) := by decide +kernel
theorem dX6_job_153 : decode cX6_job 153 = .ok (.iload_n 1, 1) := by decide +kernel
theorem dX6_job_154 : decode cX6_job 154 = .ok (.invokevirtual 113, 3) := by decide +kernel
theorem dX6_job_157 : decode cX6_job 157 = .ok (.ireturn, 1) := by decide +kernel
theorem dX6_job_158 : decode cX6_job 158 = .ok (.aload_n 0, 1) := by decide +kernel
theorem dX6_job_159 : decode cX6_job 159 = .ok (.iload_n 1, 1) := by decide +kernel
theorem dX6_job_160 : decode cX6_job 160 = .ok (.invokevirtual 116, 3) := by decide +kernel
theorem dX6_job_163 : decode cX6_job 163 = .ok (.ireturn, 1) := by decide +kernel
theorem dX6_job_164 : decode cX6_job 164 = .ok (.aload_n 0, 1) := by decide +kernel
theorem dX6_job_165 : decode cX6_job 165 = .ok (.getfield 19, 3) := by decide +kernel
theorem dX6_job_168 : decode cX6_job 168 = .ok (.getfield 104, 3) := by decide +kernel
theorem dX6_job_171 : decode cX6_job 171 = .ok (.aload_n 0, 1) := by decide +kernel
theorem dX6_job_172 : decode cX6_job 172 = .ok (.getfield 48, 3) := by decide +kernel
theorem dX6_job_175 : decode cX6_job 175 = .ok (.iload_n 1, 1) := by decide +kernel
theorem dX6_job_176 : decode cX6_job 176 = .ok (.invokevirtual 119, 3) := by decide +kernel
theorem dX6_job_179 : decode cX6_job 179 = .ok (.ireturn, 1) := by decide +kernel
theorem dX6_job_180 : decode cX6_job 180 = .ok (.iconst (-1), 1) := by decide +kernel
theorem dX6_job_181 : decode cX6_job 181 = .ok (.ireturn, 1) := by decide +kernel
theorem dX6_sheet_0 : decode cX6_sheet 0 = .ok (.aload_n 0, 1) := by decide +kernel
theorem dX6_sheet_1 : decode cX6_sheet 1 = .ok (.getfield 48, 3) := by decide +kernel
theorem dX6_sheet_4 : decode cX6_sheet 4 = .ok (.iload_n 1, 1) := by decide +kernel
theorem dX6_sheet_5 : decode cX6_sheet 5 = .ok (.invokevirtual 78, 3) := by decide +kernel
theorem dX6_sheet_8 : decode cX6_sheet 8 = .ok (.astore 4, 2) := by decide +kernel
theorem dX6_sheet_10 : decode cX6_sheet 10 = .ok (.aload 4, 2) := by decide +kernel
theorem dX6_sheet_12 : decode cX6_sheet 12 = .ok (.ifnull 12, 3) := by decide +kernel
theorem dX6_sheet_15 : decode cX6_sheet 15 = .ok (.aload 4, 2) := by decide +kernel
theorem dX6_sheet_17 : decode cX6_sheet 17 = .ok (.iload_n 2, 1) := by decide +kernel
theorem dX6_sheet_18 : decode cX6_sheet 18 = .ok (.invokevirtual 123, 3) := by decide +kernel
theorem dX6_sheet_21 : decode cX6_sheet 21 = .ok (.ifCond .ne 5, 3) := by decide +kernel
theorem dX6_sheet_24 : decode cX6_sheet 24 = .ok (.iconst (-1), 1) := by decide +kernel
theorem dX6_sheet_25 : decode cX6_sheet 25 = .ok (.ireturn, 1) := by decide +kernel
theorem dX6_sheet_26 : decode cX6_sheet 26 = .ok (.iload_n 3, 1) := by decide +kernel
theorem dX6_sheet_27 : decode cX6_sheet 27 = .ok (.tableswitch 61 0 3 #[29, 36, 43, 50], 29) := by decide +kernel
theorem dX6_sheet_56 : decode cX6_sheet 56 = .ok (.aload 4, 2) := by decide +kernel
theorem dX6_sheet_58 : decode cX6_sheet 58 = .ok (.iload_n 2, 1) := by decide +kernel
theorem dX6_sheet_59 : decode cX6_sheet 59 = .ok (.invokevirtual 127, 3) := by decide +kernel
theorem dX6_sheet_62 : decode cX6_sheet 62 = .ok (.ireturn, 1) := by decide +kernel
theorem dX6_sheet_63 : decode cX6_sheet 63 = .ok (.aload 4, 2) := by decide +kernel
theorem dX6_sheet_65 : decode cX6_sheet 65 = .ok (.iload_n 2, 1) := by decide +kernel
theorem dX6_sheet_66 : decode cX6_sheet 66 = .ok (.invokevirtual 130, 3) := by decide +kernel
theorem dX6_sheet_69 : decode cX6_sheet 69 = .ok (.ireturn, 1) := by decide +kernel
theorem dX6_sheet_70 : decode cX6_sheet 70 = .ok (.aload 4, 2) := by decide +kernel
theorem dX6_sheet_72 : decode cX6_sheet 72 = .ok (.iload_n 2, 1) := by decide +kernel
theorem dX6_sheet_73 : decode cX6_sheet 73 = .ok (.invokevirtual 133, 3) := by decide +kernel
theorem dX6_sheet_76 : decode cX6_sheet 76 = .ok (.ireturn, 1) := by decide +kernel
theorem dX6_sheet_77 : decode cX6_sheet 77 = .ok (.aload_n 0, 1) := by decide +kernel
theorem dX6_sheet_78 : decode cX6_sheet 78 = .ok (.getfield 48, 3) := by decide +kernel
theorem dX6_sheet_81 : decode cX6_sheet 81 = .ok (.aload 4, 2) := by decide +kernel
theorem dX6_sheet_83 : decode cX6_sheet 83 = .ok (.iload_n 2, 1) := by decide +kernel
theorem dX6_sheet_84 : decode cX6_sheet 84 = .ok (.invokevirtual 136, 3) := by decide +kernel
theorem dX6_sheet_87 : decode cX6_sheet 87 = .ok (.ireturn, 1) := by decide +kernel
theorem dX6_sheet_88 : decode cX6_sheet 88 = .ok (.iconst (-1), 1) := by decide +kernel
theorem dX6_sheet_89 : decode cX6_sheet 89 = .ok (.ireturn, 1) := by decide +kernel
theorem dX6_where_0 : decode cX6_where 0 = .ok (.aload_n 0, 1) := by decide +kernel
theorem dX6_where_1 : decode cX6_where 1 = .ok (.getfield 48, 3) := by decide +kernel
theorem dX6_where_4 : decode cX6_where 4 = .ok (.iload_n 1, 1) := by decide +kernel
theorem dX6_where_5 : decode cX6_where 5 = .ok (.invokevirtual 78, 3) := by decide +kernel
theorem dX6_where_8 : decode cX6_where 8 = .ok (.astore 4, 2) := by decide +kernel
theorem dX6_where_10 : decode cX6_where 10 = .ok (.aload 4, 2) := by decide +kernel
theorem dX6_where_12 : decode cX6_where 12 = .ok (.ifnull 25, 3) := by decide +kernel
theorem dX6_where_15 : decode cX6_where 15 = .ok (.aload 4, 2) := by decide +kernel
theorem dX6_where_17 : decode cX6_where 17 = .ok (.iload_n 2, 1) := by decide +kernel
theorem dX6_where_18 : decode cX6_where 18 = .ok (.invokevirtual 140, 3) := by decide +kernel
theorem dX6_where_21 : decode cX6_where 21 = .ok (.ifCond .eq 16, 3) := by decide +kernel
theorem dX6_where_24 : decode cX6_where 24 = .ok (.iload_n 3, 1) := by decide +kernel
theorem dX6_where_25 : decode cX6_where 25 = .ok (.ifCond .lt 12, 3) := by decide +kernel
theorem dX6_where_28 : decode cX6_where 28 = .ok (.iload_n 3, 1) := by decide +kernel
theorem dX6_where_29 : decode cX6_where 29 = .ok (.aload 4, 2) := by decide +kernel
theorem dX6_where_31 : decode cX6_where 31 = .ok (.getfield 88, 3) := by decide +kernel
theorem dX6_where_34 : decode cX6_where 34 = .ok (.if_icmp .lt 5, 3) := by decide +kernel
theorem dX6_where_37 : decode cX6_where 37 = .ok (.iconst (-1), 1) := by decide +kernel
theorem dX6_where_38 : decode cX6_where 38 = .ok (.ireturn, 1) := by decide +kernel
theorem dX6_where_39 : decode cX6_where 39 = .ok (.aload 4, 2) := by decide +kernel
theorem dX6_where_41 : decode cX6_where 41 = .ok (.iload_n 2, 1) := by decide +kernel
theorem dX6_where_42 : decode cX6_where 42 = .ok (.iload_n 3, 1) := by decide +kernel
theorem dX6_where_43 : decode cX6_where 43 = .ok (.invokevirtual 143, 3) := by decide +kernel
theorem dX6_where_46 : decode cX6_where 46 = .ok (.ireturn, 1) := by decide +kernel
theorem dX6_tray_0 : decode cX6_tray 0 = .ok (.iload_n 1, 1) := by decide +kernel
theorem dX6_tray_1 : decode cX6_tray 1 = .ok (.ifCond .lt 8, 3) := by decide +kernel
theorem dX6_tray_4 : decode cX6_tray 4 = .ok (.iload_n 1, 1) := by decide +kernel
theorem dX6_tray_5 : decode cX6_tray 5 = .ok (.iconst 3, 1) := by decide +kernel
theorem dX6_tray_6 : decode cX6_tray 6 = .ok (.if_icmp .lt 5, 3) := by decide +kernel
theorem dX6_tray_9 : decode cX6_tray 9 = .ok (.iconst (-1), 1) := by decide +kernel
theorem dX6_tray_10 : decode cX6_tray 10 = .ok (.ireturn, 1) := by decide +kernel
theorem dX6_tray_11 : decode cX6_tray 11 = .ok (.iload_n 2, 1) := by decide +kernel
theorem dX6_tray_12 : decode cX6_tray 12 = .ok (.lookupswitch 59 #[(0, 28), (1, 43)], 28) := by decide +kernel
theorem dX6_tray_40 : decode cX6_tray 40 = .ok (.aload_n 0, 1) := by decide +kernel
theorem dX6_tray_41 : decode cX6_tray 41 = .ok (.getfield 19, 3) := by decide +kernel
theorem dX6_tray_44 : decode cX6_tray 44 = .ok (.getfield 104, 3) := by decide +kernel
theorem dX6_tray_47 : decode cX6_tray 47 = .ok (.getfield 147, 3) := by decide +kernel
theorem dX6_tray_50 : decode cX6_tray 50 = .ok (.iload_n 1, 1) := by decide +kernel
theorem dX6_tray_51 : decode cX6_tray 51 = .ok (.invokestatic 151, 3) := by decide +kernel
theorem dX6_tray_54 : decode cX6_tray 54 = .ok (.ireturn, 1) := by decide +kernel
theorem dX6_tray_55 : decode cX6_tray 55 = .ok (.aload_n 0, 1) := by decide +kernel
theorem dX6_tray_56 : decode cX6_tray 56 = .ok (.getfield 19, 3) := by decide +kernel
theorem dX6_tray_59 : decode cX6_tray 59 = .ok (.getfield 104, 3) := by decide +kernel
theorem dX6_tray_62 : decode cX6_tray 62 = .ok (.aload_n 0, 1) := by decide +kernel
theorem dX6_tray_63 : decode cX6_tray 63 = .ok (.getfield 48, 3) := by decide +kernel
theorem dX6_tray_66 : decode cX6_tray 66 = .ok (.iload_n 1, 1) := by decide +kernel
theorem dX6_tray_67 : decode cX6_tray 67 = .ok (.invokevirtual 155, 3) := by decide +kernel
theorem dX6_tray_70 : decode cX6_tray 70 = .ok (.ireturn, 1) := by decide +kernel
theorem dX6_tray_71 : decode cX6_tray 71 = .ok (.iconst (-1), 1) := by decide +kernel
theorem dX6_tray_72 : decode cX6_tray 72 = .ok (.ireturn, 1) := by decide +kernel
theorem dX6_bin_0 : decode cX6_bin 0 = .ok (.aload_n 0, 1) := by decide +kernel
theorem dX6_bin_1 : decode cX6_bin 1 = .ok (.getfield 48, 3) := by decide +kernel
theorem dX6_bin_4 : decode cX6_bin 4 = .ok (.iload_n 1, 1) := by decide +kernel
theorem dX6_bin_5 : decode cX6_bin 5 = .ok (.invokevirtual 158, 3) := by decide +kernel
theorem dX6_bin_8 : decode cX6_bin 8 = .ok (.ifCond .eq 20, 3) := by decide +kernel
theorem dX6_bin_11 : decode cX6_bin 11 = .ok (.aload_n 0, 1) := by decide +kernel
theorem dX6_bin_12 : decode cX6_bin 12 = .ok (.getfield 19, 3) := by decide +kernel
theorem dX6_bin_15 : decode cX6_bin 15 = .ok (.getfield 104, 3) := by decide +kernel
theorem dX6_bin_18 : decode cX6_bin 18 = .ok (.getfield 161, 3) := by decide +kernel
theorem dX6_bin_21 : decode cX6_bin 21 = .ok (.iload_n 1, 1) := by decide +kernel
theorem dX6_bin_22 : decode cX6_bin 22 = .ok (.invokestatic 151, 3) := by decide +kernel
theorem dX6_bin_25 : decode cX6_bin 25 = .ok (.goto 4, 3) := by decide +kernel
theorem dX6_bin_28 : decode cX6_bin 28 = .ok (.iconst (-1), 1) := by decide +kernel
theorem dX6_bin_29 : decode cX6_bin 29 = .ok (.ireturn, 1) := by decide +kernel
theorem dX6_ticks_0 : decode cX6_ticks 0 = .ok (.iload_n 1, 1) := by decide +kernel
theorem dX6_ticks_1 : decode cX6_ticks 1 = .ok (.iconst 1, 1) := by decide +kernel
theorem dX6_ticks_2 : decode cX6_ticks 2 = .ok (.if_icmp .lt 9, 3) := by decide +kernel
theorem dX6_ticks_5 : decode cX6_ticks 5 = .ok (.iload_n 1, 1) := by decide +kernel
theorem dX6_ticks_6 : decode cX6_ticks 6 = .ok (.bipush 20, 2) := by decide +kernel
theorem dX6_ticks_8 : decode cX6_ticks 8 = .ok (.if_icmp .le 5, 3) := by decide +kernel
theorem dX6_ticks_11 : decode cX6_ticks 11 = .ok (.iconst (-1), 1) := by decide +kernel
theorem dX6_ticks_12 : decode cX6_ticks 12 = .ok (.ireturn, 1) := by decide +kernel
theorem dX6_ticks_13 : decode cX6_ticks 13 = .ok (.aload_n 0, 1) := by decide +kernel
theorem dX6_ticks_14 : decode cX6_ticks 14 = .ok (.getfield 19, 3) := by decide +kernel
theorem dX6_ticks_17 : decode cX6_ticks 17 = .ok (.getfield 104, 3) := by decide +kernel
theorem dX6_ticks_20 : decode cX6_ticks 20 = .ok (.getfield 164, 3) := by decide +kernel
theorem dX6_ticks_23 : decode cX6_ticks 23 = .ok (.iload_n 1, 1) := by decide +kernel
theorem dX6_ticks_24 : decode cX6_ticks 24 = .ok (.iadd, 1) := by decide +kernel
theorem dX6_ticks_25 : decode cX6_ticks 25 = .ok (.sipush 9999, 3) := by decide +kernel
theorem dX6_ticks_28 : decode cX6_ticks 28 = .ok (.if_icmp .le 6, 3) := by decide +kernel
theorem dX6_ticks_31 : decode cX6_ticks 31 = .ok (.bipush (-2), 2) := by decide +kernel
theorem dX6_ticks_33 : decode cX6_ticks 33 = .ok (.ireturn, 1) := by decide +kernel
theorem dX6_ticks_34 : decode cX6_ticks 34 = .ok (.aload_n 0, 1) := by decide +kernel
theorem dX6_ticks_35 : decode cX6_ticks 35 = .ok (.getfield 19, 3) := by decide +kernel
theorem dX6_ticks_38 : decode cX6_ticks 38 = .ok (.invokevirtual 167, 3) := by decide +kernel
theorem dX6_ticks_41 : decode cX6_ticks 41 = .ok (.iconst 0, 1) := by decide +kernel
theorem dX6_ticks_42 : decode cX6_ticks 42 = .ok (.istore_n 2, 1) := by decide +kernel
theorem dX6_ticks_43 : decode cX6_ticks 43 = .ok (.iconst 0, 1) := by decide +kernel
theorem dX6_ticks_44 : decode cX6_ticks 44 = .ok (.istore_n 3, 1) := by decide +kernel
theorem dX6_ticks_45 : decode cX6_ticks 45 = .ok (.iload_n 3, 1) := by decide +kernel
theorem dX6_ticks_46 : decode cX6_ticks 46 = .ok (.iload_n 1, 1) := by decide +kernel
theorem dX6_ticks_47 : decode cX6_ticks 47 = .ok (.if_icmp .ge 29, 3) := by decide +kernel
theorem dX6_ticks_50 : decode cX6_ticks 50 = .ok (.aload_n 0, 1) := by decide +kernel
theorem dX6_ticks_51 : decode cX6_ticks 51 = .ok (.getfield 19, 3) := by decide +kernel
theorem dX6_ticks_54 : decode cX6_ticks 54 = .ok (.getfield 104, 3) := by decide +kernel
theorem dX6_ticks_57 : decode cX6_ticks 57 = .ok (.aload_n 0, 1) := by decide +kernel
theorem dX6_ticks_58 : decode cX6_ticks 58 = .ok (.getfield 48, 3) := by decide +kernel
theorem dX6_ticks_61 : decode cX6_ticks 61 = .ok (.invokevirtual 170, 3) := by decide +kernel
theorem dX6_ticks_64 : decode cX6_ticks 64 = .ok (.ifCond .eq 6, 3) := by decide +kernel
theorem dX6_ticks_67 : decode cX6_ticks 67 = .ok (.iinc 2 1, 3) := by decide +kernel
theorem dX6_ticks_70 : decode cX6_ticks 70 = .ok (.iinc 3 1, 3) := by decide +kernel
theorem dX6_ticks_73 : decode cX6_ticks 73 = .ok (.goto (-28), 3) := by decide +kernel
theorem dX6_ticks_76 : decode cX6_ticks 76 = .ok (.iload_n 2, 1) := by decide +kernel
theorem dX6_ticks_77 : decode cX6_ticks 77 = .ok (.ireturn, 1) := by decide +kernel
theorem dX6_ahead_0 : decode cX6_ahead 0 = .ok (.aload_n 0, 1) := by decide +kernel
theorem dX6_ahead_1 : decode cX6_ahead 1 = .ok (.getfield 48, 3) := by decide +kernel
theorem dX6_ahead_4 : decode cX6_ahead 4 = .ok (.iload_n 1, 1) := by decide +kernel
theorem dX6_ahead_5 : decode cX6_ahead 5 = .ok (.invokevirtual 78, 3) := by decide +kernel
theorem dX6_ahead_8 : decode cX6_ahead 8 = .ok (.ifnonnull 5, 3) := by decide +kernel
theorem dX6_ahead_11 : decode cX6_ahead 11 = .ok (.iconst (-1), 1) := by decide +kernel
theorem dX6_ahead_12 : decode cX6_ahead 12 = .ok (.ireturn, 1) := by decide +kernel
theorem dX6_ahead_13 : decode cX6_ahead 13 = .ok (.aload_n 0, 1) := by decide +kernel
theorem dX6_ahead_14 : decode cX6_ahead 14 = .ok (.getfield 19, 3) := by decide +kernel
theorem dX6_ahead_17 : decode cX6_ahead 17 = .ok (.getfield 104, 3) := by decide +kernel
theorem dX6_ahead_20 : decode cX6_ahead 20 = .ok (.iload_n 1, 1) := by decide +kernel
theorem dX6_ahead_21 : decode cX6_ahead 21 = .ok (.invokevirtual 110, 3) := by decide +kernel
theorem dX6_ahead_24 : decode cX6_ahead 24 = .ok (.istore_n 2, 1) := by decide +kernel
theorem dX6_ahead_25 : decode cX6_ahead 25 = .ok (.iload_n 2, 1) := by decide +kernel
theorem dX6_ahead_26 : decode cX6_ahead 26 = .ok (.bipush (-9), 2) := by decide +kernel
theorem dX6_ahead_28 : decode cX6_ahead 28 = .ok (.if_icmp .eq 7, 3) := by decide +kernel
theorem dX6_ahead_31 : decode cX6_ahead 31 = .ok (.iload_n 2, 1) := by decide +kernel
theorem dX6_ahead_32 : decode cX6_ahead 32 = .ok (.ifCond .ne 6, 3) := by decide +kernel
theorem dX6_ahead_35 : decode cX6_ahead 35 = .ok (.bipush (-2), 2) := by decide +kernel
theorem dX6_ahead_37 : decode cX6_ahead 37 = .ok (.ireturn, 1) := by decide +kernel
theorem dX6_ahead_38 : decode cX6_ahead 38 = .ok (.aload_n 0, 1) := by decide +kernel
theorem dX6_ahead_39 : decode cX6_ahead 39 = .ok (.getfield 19, 3) := by decide +kernel
theorem dX6_ahead_42 : decode cX6_ahead 42 = .ok (.invokevirtual 167, 3) := by decide +kernel
theorem dX6_ahead_45 : decode cX6_ahead 45 = .ok (.aload_n 0, 1) := by decide +kernel
theorem dX6_ahead_46 : decode cX6_ahead 46 = .ok (.getfield 19, 3) := by decide +kernel
theorem dX6_ahead_49 : decode cX6_ahead 49 = .ok (.getfield 104, 3) := by decide +kernel
theorem dX6_ahead_52 : decode cX6_ahead 52 = .ok (.invokevirtual 174, 3) := by decide +kernel
theorem dX6_ahead_55 : decode cX6_ahead 55 = .ok (.istore_n 3, 1) := by decide +kernel
theorem dX6_ahead_56 : decode cX6_ahead 56 = .ok (.aload_n 0, 1) := by decide +kernel
theorem dX6_ahead_57 : decode cX6_ahead 57 = .ok (.getfield 19, 3) := by decide +kernel
theorem dX6_ahead_60 : decode cX6_ahead 60 = .ok (.getfield 104, 3) := by decide +kernel
theorem dX6_ahead_63 : decode cX6_ahead 63 = .ok (.iload_n 1, 1) := by decide +kernel
theorem dX6_ahead_64 : decode cX6_ahead 64 = .ok (.invokevirtual 177, 3) := by decide +kernel
theorem dX6_ahead_67 : decode cX6_ahead 67 = .ok (.iload_n 3, 1) := by decide +kernel
theorem dX6_ahead_68 : decode cX6_ahead 68 = .ok (.ireturn, 1) := by decide +kernel
theorem dX6_breaks_0 : decode cX6_breaks 0 = .ok (.aload_n 0, 1) := by decide +kernel
theorem dX6_breaks_1 : decode cX6_breaks 1 = .ok (.getfield 48, 3) := by decide +kernel
theorem dX6_breaks_4 : decode cX6_breaks 4 = .ok (.iload_n 1, 1) := by decide +kernel
theorem dX6_breaks_5 : decode cX6_breaks 5 = .ok (.invokevirtual 78, 3) := by decide +kernel
theorem dX6_breaks_8 : decode cX6_breaks 8 = .ok (.ifnonnull 5, 3) := by decide +kernel
theorem dX6_breaks_11 : decode cX6_breaks 11 = .ok (.iconst (-1), 1) := by decide +kernel
theorem dX6_breaks_12 : decode cX6_breaks 12 = .ok (.ireturn, 1) := by decide +kernel
theorem dX6_breaks_13 : decode cX6_breaks 13 = .ok (.aload_n 0, 1) := by decide +kernel
theorem dX6_breaks_14 : decode cX6_breaks 14 = .ok (.getfield 19, 3) := by decide +kernel
theorem dX6_breaks_17 : decode cX6_breaks 17 = .ok (.getfield 104, 3) := by decide +kernel
theorem dX6_breaks_20 : decode cX6_breaks 20 = .ok (.iload_n 1, 1) := by decide +kernel
theorem dX6_breaks_21 : decode cX6_breaks 21 = .ok (.invokevirtual 110, 3) := by decide +kernel
theorem dX6_breaks_24 : decode cX6_breaks 24 = .ok (.bipush (-9), 2) := by decide +kernel
theorem dX6_breaks_26 : decode cX6_breaks 26 = .ok (.if_icmp .ne 6, 3) := by decide +kernel
theorem dX6_breaks_29 : decode cX6_breaks 29 = .ok (.bipush (-2), 2) := by decide +kernel
theorem dX6_breaks_31 : decode cX6_breaks 31 = .ok (.ireturn, 1) := by decide +kernel
theorem dX6_breaks_32 : decode cX6_breaks 32 = .ok (.aload_n 0, 1) := by decide +kernel
theorem dX6_breaks_33 : decode cX6_breaks 33 = .ok (.getfield 19, 3) := by decide +kernel
theorem dX6_breaks_36 : decode cX6_breaks 36 = .ok (.invokevirtual 167, 3) := by decide +kernel
theorem dX6_breaks_39 : decode cX6_breaks 39 = .ok (.aload_n 0, 1) := by decide +kernel
theorem dX6_breaks_40 : decode cX6_breaks 40 = .ok (.getfield 19, 3) := by decide +kernel
theorem dX6_breaks_43 : decode cX6_breaks 43 = .ok (.getfield 104, 3) := by decide +kernel
theorem dX6_breaks_46 : decode cX6_breaks 46 = .ok (.iload_n 1, 1) := by decide +kernel
theorem dX6_breaks_47 : decode cX6_breaks 47 = .ok (.invokevirtual 181, 3) := by decide +kernel
theorem dX6_breaks_50 : decode cX6_breaks 50 = .ok (.aload_n 0, 1) := by decide +kernel
theorem dX6_breaks_51 : decode cX6_breaks 51 = .ok (.getfield 19, 3) := by decide +kernel
theorem dX6_breaks_54 : decode cX6_breaks 54 = .ok (.getfield 104, 3) := by decide +kernel
theorem dX6_breaks_57 : decode cX6_breaks 57 = .ok (.getfield 184, 3) := by decide +kernel
theorem dX6_breaks_60 : decode cX6_breaks 60 = .ok (.ireturn, 1) := by decide +kernel
theorem dX6_fills_0 : decode cX6_fills 0 = .ok (.iload_n 1, 1) := by decide +kernel
theorem dX6_fills_1 : decode cX6_fills 1 = .ok (.ifCond .lt 19, 3) := by decide +kernel
theorem dX6_fills_4 : decode cX6_fills 4 = .ok (.iload_n 1, 1) := by decide +kernel
theorem dX6_fills_5 : decode cX6_fills 5 = .ok (.iconst 3, 1) := by decide +kernel
theorem dX6_fills_6 : decode cX6_fills 6 = .ok (.if_icmp .ge 14, 3) := by decide +kernel
theorem dX6_fills_9 : decode cX6_fills 9 = .ok (.iload_n 2, 1) := by decide +kernel
theorem dX6_fills_10 : decode cX6_fills 10 = .ok (.iconst 1, 1) := by decide +kernel
theorem dX6_fills_11 : decode cX6_fills 11 = .ok (.if_icmp .lt 9, 3) := by decide +kernel
theorem dX6_fills_14 : decode cX6_fills 14 = .ok (.iload_n 2, 1) := by decide +kernel
theorem dX6_fills_15 : decode cX6_fills 15 = .ok (.bipush 99, 2) := by decide +kernel
theorem dX6_fills_17 : decode cX6_fills 17 = .ok (.if_icmp .le 5, 3) := by decide +kernel
theorem dX6_fills_20 : decode cX6_fills 20 = .ok (.iconst (-1), 1) := by decide +kernel
theorem dX6_fills_21 : decode cX6_fills 21 = .ok (.ireturn, 1) := by decide +kernel
theorem dX6_fills_22 : decode cX6_fills 22 = .ok (.aload_n 0, 1) := by decide +kernel
theorem dX6_fills_23 : decode cX6_fills 23 = .ok (.getfield 19, 3) := by decide +kernel
theorem dX6_fills_26 : decode cX6_fills 26 = .ok (.getfield 104, 3) := by decide +kernel
theorem dX6_fills_29 : decode cX6_fills 29 = .ok (.getfield 147, 3) := by decide +kernel
theorem dX6_fills_32 : decode cX6_fills 32 = .ok (.iload_n 1, 1) := by decide +kernel
theorem dX6_fills_33 : decode cX6_fills 33 = .ok (.invokestatic 151, 3) := by decide +kernel
theorem dX6_fills_36 : decode cX6_fills 36 = .ok (.istore_n 3, 1) := by decide +kernel
theorem dX6_fills_37 : decode cX6_fills 37 = .ok (.iload_n 3, 1) := by decide +kernel
theorem dX6_fills_38 : decode cX6_fills 38 = .ok (.bipush 99, 2) := by decide +kernel
theorem dX6_fills_40 : decode cX6_fills 40 = .ok (.if_icmp .lt 6, 3) := by decide +kernel
theorem dX6_fills_43 : decode cX6_fills 43 = .ok (.bipush (-2), 2) := by decide +kernel
theorem dX6_fills_45 : decode cX6_fills 45 = .ok (.ireturn, 1) := by decide +kernel
theorem dX6_fills_46 : decode cX6_fills 46 = .ok (.aload_n 0, 1) := by decide +kernel
theorem dX6_fills_47 : decode cX6_fills 47 = .ok (.getfield 19, 3) := by decide +kernel
theorem dX6_fills_50 : decode cX6_fills 50 = .ok (.invokevirtual 167, 3) := by decide +kernel
theorem dX6_fills_53 : decode cX6_fills 53 = .ok (.aload_n 0, 1) := by decide +kernel
theorem dX6_fills_54 : decode cX6_fills 54 = .ok (.getfield 19, 3) := by decide +kernel
theorem dX6_fills_57 : decode cX6_fills 57 = .ok (.getfield 104, 3) := by decide +kernel
theorem dX6_fills_60 : decode cX6_fills 60 = .ok (.getfield 147, 3) := by decide +kernel
theorem dX6_fills_63 : decode cX6_fills 63 = .ok (.iload_n 1, 1) := by decide +kernel
theorem dX6_fills_64 : decode cX6_fills 64 = .ok (.bipush 99, 2) := by decide +kernel
theorem dX6_fills_66 : decode cX6_fills 66 = .ok (.iload_n 3, 1) := by decide +kernel
theorem dX6_fills_67 : decode cX6_fills 67 = .ok (.iload_n 2, 1) := by decide +kernel
theorem dX6_fills_68 : decode cX6_fills 68 = .ok (.iadd, 1) := by decide +kernel
theorem dX6_fills_69 : decode cX6_fills 69 = .ok (.invokestatic 187, 3) := by decide +kernel
theorem dX6_fills_72 : decode cX6_fills 72 = .ok (.invokestatic 192, 3) := by decide +kernel
theorem dX6_fills_75 : decode cX6_fills 75 = .ok (.aload_n 0, 1) := by decide +kernel
theorem dX6_fills_76 : decode cX6_fills 76 = .ok (.getfield 19, 3) := by decide +kernel
theorem dX6_fills_79 : decode cX6_fills 79 = .ok (.getfield 104, 3) := by decide +kernel
theorem dX6_fills_82 : decode cX6_fills 82 = .ok (.getfield 147, 3) := by decide +kernel
theorem dX6_fills_85 : decode cX6_fills 85 = .ok (.iload_n 1, 1) := by decide +kernel
theorem dX6_fills_86 : decode cX6_fills 86 = .ok (.invokestatic 151, 3) := by decide +kernel
theorem dX6_fills_89 : decode cX6_fills 89 = .ok (.ireturn, 1) := by decide +kernel
theorem dX6_toner_0 : decode cX6_toner 0 = .ok (.iload_n 1, 1) := by decide +kernel
theorem dX6_toner_1 : decode cX6_toner 1 = .ok (.iconst 1, 1) := by decide +kernel
theorem dX6_toner_2 : decode cX6_toner 2 = .ok (.if_icmp .lt 10, 3) := by decide +kernel
theorem dX6_toner_5 : decode cX6_toner 5 = .ok (.iload_n 1, 1) := by decide +kernel
theorem dX6_toner_6 : decode cX6_toner 6 = .ok (.sipush 999, 3) := by decide +kernel
theorem dX6_toner_9 : decode cX6_toner 9 = .ok (.if_icmp .le 5, 3) := by decide +kernel
theorem dX6_toner_12 : decode cX6_toner 12 = .ok (.iconst (-1), 1) := by decide +kernel
theorem dX6_toner_13 : decode cX6_toner 13 = .ok (.ireturn, 1) := by decide +kernel
theorem dX6_toner_14 : decode cX6_toner 14 = .ok (.aload_n 0, 1) := by decide +kernel
theorem dX6_toner_15 : decode cX6_toner 15 = .ok (.getfield 19, 3) := by decide +kernel
theorem dX6_toner_18 : decode cX6_toner 18 = .ok (.getfield 104, 3) := by decide +kernel
theorem dX6_toner_21 : decode cX6_toner 21 = .ok (.getfield 196, 3) := by decide +kernel
theorem dX6_toner_24 : decode cX6_toner 24 = .ok (.sipush 999, 3) := by decide +kernel
theorem dX6_toner_27 : decode cX6_toner 27 = .ok (.if_icmp .lt 6, 3) := by decide +kernel
theorem dX6_toner_30 : decode cX6_toner 30 = .ok (.bipush (-2), 2) := by decide +kernel
theorem dX6_toner_32 : decode cX6_toner 32 = .ok (.ireturn, 1) := by decide +kernel
theorem dX6_toner_33 : decode cX6_toner 33 = .ok (.aload_n 0, 1) := by decide +kernel
theorem dX6_toner_34 : decode cX6_toner 34 = .ok (.getfield 19, 3) := by decide +kernel
theorem dX6_toner_37 : decode cX6_toner 37 = .ok (.invokevirtual 167, 3) := by decide +kernel
theorem dX6_toner_40 : decode cX6_toner 40 = .ok (.aload_n 0, 1) := by decide +kernel
theorem dX6_toner_41 : decode cX6_toner 41 = .ok (.getfield 19, 3) := by decide +kernel
theorem dX6_toner_44 : decode cX6_toner 44 = .ok (.getfield 104, 3) := by decide +kernel
theorem dX6_toner_47 : decode cX6_toner 47 = .ok (.sipush 999, 3) := by decide +kernel
theorem dX6_toner_50 : decode cX6_toner 50 = .ok (.aload_n 0, 1) := by decide +kernel
theorem dX6_toner_51 : decode cX6_toner 51 = .ok (.getfield 19, 3) := by decide +kernel
theorem dX6_toner_54 : decode cX6_toner 54 = .ok (.getfield 104, 3) := by decide +kernel
theorem dX6_toner_57 : decode cX6_toner 57 = .ok (.getfield 196, 3) := by decide +kernel
theorem dX6_toner_60 : decode cX6_toner 60 = .ok (.iload_n 1, 1) := by decide +kernel
theorem dX6_toner_61 : decode cX6_toner 61 = .ok (.iadd, 1) := by decide +kernel
theorem dX6_toner_62 : decode cX6_toner 62 = .ok (.invokestatic 187, 3) := by decide +kernel
theorem dX6_toner_65 : decode cX6_toner 65 = .ok (.putfield 196, 3) := by decide +kernel
theorem dX6_toner_68 : decode cX6_toner 68 = .ok (.aload_n 0, 1) := by decide +kernel
theorem dX6_toner_69 : decode cX6_toner 69 = .ok (.getfield 19, 3) := by decide +kernel
theorem dX6_toner_72 : decode cX6_toner 72 = .ok (.getfield 104, 3) := by decide +kernel
theorem dX6_toner_75 : decode cX6_toner 75 = .ok (.getfield 196, 3) := by decide +kernel
theorem dX6_toner_78 : decode cX6_toner 78 = .ok (.ireturn, 1) := by decide +kernel
theorem dX6_empties_0 : decode cX6_empties 0 = .ok (.aload_n 0, 1) := by decide +kernel
theorem dX6_empties_1 : decode cX6_empties 1 = .ok (.getfield 48, 3) := by decide +kernel
theorem dX6_empties_4 : decode cX6_empties 4 = .ok (.iload_n 1, 1) := by decide +kernel
theorem dX6_empties_5 : decode cX6_empties 5 = .ok (.invokevirtual 158, 3) := by decide +kernel
theorem dX6_empties_8 : decode cX6_empties 8 = .ok (.ifCond .ne 5, 3) := by decide +kernel
theorem dX6_empties_11 : decode cX6_empties 11 = .ok (.iconst (-1), 1) := by decide +kernel
theorem dX6_empties_12 : decode cX6_empties 12 = .ok (.ireturn, 1) := by decide +kernel
theorem dX6_empties_13 : decode cX6_empties 13 = .ok (.aload_n 0, 1) := by decide +kernel
theorem dX6_empties_14 : decode cX6_empties 14 = .ok (.getfield 19, 3) := by decide +kernel
theorem dX6_empties_17 : decode cX6_empties 17 = .ok (.getfield 104, 3) := by decide +kernel
theorem dX6_empties_20 : decode cX6_empties 20 = .ok (.getfield 161, 3) := by decide +kernel
theorem dX6_empties_23 : decode cX6_empties 23 = .ok (.iload_n 1, 1) := by decide +kernel
theorem dX6_empties_24 : decode cX6_empties 24 = .ok (.invokestatic 151, 3) := by decide +kernel
theorem dX6_empties_27 : decode cX6_empties 27 = .ok (.istore_n 2, 1) := by decide +kernel
theorem dX6_empties_28 : decode cX6_empties 28 = .ok (.iload_n 2, 1) := by decide +kernel
theorem dX6_empties_29 : decode cX6_empties 29 = .ok (.ifCond .ne 6, 3) := by decide +kernel
theorem dX6_empties_32 : decode cX6_empties 32 = .ok (.bipush (-2), 2) := by decide +kernel
theorem dX6_empties_34 : decode cX6_empties 34 = .ok (.ireturn, 1) := by decide +kernel
theorem dX6_empties_35 : decode cX6_empties 35 = .ok (.aload_n 0, 1) := by decide +kernel
theorem dX6_empties_36 : decode cX6_empties 36 = .ok (.getfield 19, 3) := by decide +kernel
theorem dX6_empties_39 : decode cX6_empties 39 = .ok (.invokevirtual 167, 3) := by decide +kernel
theorem dX6_empties_42 : decode cX6_empties 42 = .ok (.aload_n 0, 1) := by decide +kernel
theorem dX6_empties_43 : decode cX6_empties 43 = .ok (.getfield 19, 3) := by decide +kernel
theorem dX6_empties_46 : decode cX6_empties 46 = .ok (.getfield 104, 3) := by decide +kernel
theorem dX6_empties_49 : decode cX6_empties 49 = .ok (.getfield 161, 3) := by decide +kernel
theorem dX6_empties_52 : decode cX6_empties 52 = .ok (.iload_n 1, 1) := by decide +kernel
theorem dX6_empties_53 : decode cX6_empties 53 = .ok (.iconst 0, 1) := by decide +kernel
theorem dX6_empties_54 : decode cX6_empties 54 = .ok (.invokestatic 192, 3) := by decide +kernel
theorem dX6_empties_57 : decode cX6_empties 57 = .ok (.iload_n 2, 1) := by decide +kernel
theorem dX6_empties_58 : decode cX6_empties 58 = .ok (.ireturn, 1) := by decide +kernel
theorem dX6_undo_0 : decode cX6_undo 0 = .ok (.aload_n 0, 1) := by decide +kernel
theorem dX6_undo_1 : decode cX6_undo 1 = .ok (.getfield 19, 3) := by decide +kernel
theorem dX6_undo_4 : decode cX6_undo 4 = .ok (.getfield 199, 3) := by decide +kernel
theorem dX6_undo_7 : decode cX6_undo 7 = .ok (.ifCond .ne 6, 3) := by decide +kernel
theorem dX6_undo_10 : decode cX6_undo 10 = .ok (.bipush (-2), 2) := by decide +kernel
theorem dX6_undo_12 : decode cX6_undo 12 = .ok (.ireturn, 1) := by decide +kernel
theorem dX6_undo_13 : decode cX6_undo 13 = .ok (.aload_n 0, 1) := by decide +kernel
theorem dX6_undo_14 : decode cX6_undo 14 = .ok (.getfield 19, 3) := by decide +kernel
theorem dX6_undo_17 : decode cX6_undo 17 = .ok (.invokevirtual 202, 3) := by decide +kernel
theorem dX6_undo_20 : decode cX6_undo 20 = .ok (.aload_n 0, 1) := by decide +kernel
theorem dX6_undo_21 : decode cX6_undo 21 = .ok (.getfield 19, 3) := by decide +kernel
theorem dX6_undo_24 : decode cX6_undo 24 = .ok (.getfield 199, 3) := by decide +kernel
theorem dX6_undo_27 : decode cX6_undo 27 = .ok (.ireturn, 1) := by decide +kernel
theorem dX6_now_0 : decode cX6_now 0 = .ok (.aload_n 0, 1) := by decide +kernel
theorem dX6_now_1 : decode cX6_now 1 = .ok (.getfield 19, 3) := by decide +kernel
theorem dX6_now_4 : decode cX6_now 4 = .ok (.getfield 104, 3) := by decide +kernel
theorem dX6_now_7 : decode cX6_now 7 = .ok (.astore_n 2, 1) := by decide +kernel
theorem dX6_now_8 : decode cX6_now 8 = .ok (.iload_n 1, 1) := by decide +kernel
theorem dX6_now_9 : decode cX6_now 9 = .ok (.tableswitch 103 0 7 #[47, 52, 57, 62, 71, 84, 89, 94], 47) := by decide +kernel
theorem dX6_now_56 : decode cX6_now 56 = .ok (.aload_n 2, 1) := by decide +kernel
theorem dX6_now_57 : decode cX6_now 57 = .ok (.getfield 164, 3) := by decide +kernel
theorem dX6_now_60 : decode cX6_now 60 = .ok (.ireturn, 1) := by decide +kernel
theorem dX6_now_61 : decode cX6_now 61 = .ok (.aload_n 2, 1) := by decide +kernel
theorem dX6_now_62 : decode cX6_now 62 = .ok (.getfield 196, 3) := by decide +kernel
theorem dX6_now_65 : decode cX6_now 65 = .ok (.ireturn, 1) := by decide +kernel
theorem dX6_now_66 : decode cX6_now 66 = .ok (.aload_n 2, 1) := by decide +kernel
theorem dX6_now_67 : decode cX6_now 67 = .ok (.invokevirtual 174, 3) := by decide +kernel
theorem dX6_now_70 : decode cX6_now 70 = .ok (.ireturn, 1) := by decide +kernel
theorem dX6_now_71 : decode cX6_now 71 = .ok (.aload_n 2, 1) := by decide +kernel
theorem dX6_now_72 : decode cX6_now 72 = .ok (.aload_n 0, 1) := by decide +kernel
theorem dX6_now_73 : decode cX6_now 73 = .ok (.getfield 48, 3) := by decide +kernel
theorem dX6_now_76 : decode cX6_now 76 = .ok (.invokevirtual 205, 3) := by decide +kernel
theorem dX6_now_79 : decode cX6_now 79 = .ok (.ireturn, 1) := by decide +kernel
theorem dX6_now_80 : decode cX6_now 80 = .ok (.aload_n 2, 1) := by decide +kernel
theorem dX6_now_81 : decode cX6_now 81 = .ok (.getfield 209, 3) := by decide +kernel
theorem dX6_now_84 : decode cX6_now 84 = .ok (.ifCond .eq 7, 3) := by decide +kernel
theorem dX6_now_87 : decode cX6_now 87 = .ok (.iconst 1, 1) := by decide +kernel
theorem dX6_now_88 : decode cX6_now 88 = .ok (.goto 4, 3) := by decide +kernel
theorem dX6_now_91 : decode cX6_now 91 = .ok (.iconst 0, 1) := by decide +kernel
theorem dX6_now_92 : decode cX6_now 92 = .ok (.ireturn, 1) := by decide +kernel
theorem dX6_now_93 : decode cX6_now 93 = .ok (.aload_n 2, 1) := by decide +kernel
theorem dX6_now_94 : decode cX6_now 94 = .ok (.getfield 184, 3) := by decide +kernel
theorem dX6_now_97 : decode cX6_now 97 = .ok (.ireturn, 1) := by decide +kernel
theorem dX6_now_98 : decode cX6_now 98 = .ok (.aload_n 2, 1) := by decide +kernel
theorem dX6_now_99 : decode cX6_now 99 = .ok (.invokevirtual 212, 3) := by decide +kernel
theorem dX6_now_102 : decode cX6_now 102 = .ok (.ireturn, 1) := by decide +kernel
theorem dX6_now_103 : decode cX6_now 103 = .ok (.aload_n 2, 1) := by decide +kernel
theorem dX6_now_104 : decode cX6_now 104 = .ok (.aload_n 0, 1) := by decide +kernel
theorem dX6_now_105 : decode cX6_now 105 = .ok (.getfield 48, 3) := by decide +kernel
theorem dX6_now_108 : decode cX6_now 108 = .ok (.invokevirtual 215, 3) := by decide +kernel
theorem dX6_now_111 : decode cX6_now 111 = .ok (.ireturn, 1) := by decide +kernel
theorem dX6_now_112 : decode cX6_now 112 = .ok (.iconst (-1), 1) := by decide +kernel
theorem dX6_now_113 : decode cX6_now 113 = .ok (.ireturn, 1) := by decide +kernel
theorem dX6_soon_0 : decode cX6_soon 0 = .ok (.iload_n 1, 1) := by decide +kernel
theorem dX6_soon_1 : decode cX6_soon 1 = .ok (.ifCond .eq 10, 3) := by decide +kernel
theorem dX6_soon_4 : decode cX6_soon 4 = .ok (.iload_n 1, 1) := by decide +kernel
theorem dX6_soon_5 : decode cX6_soon 5 = .ok (.iconst 1, 1) := by decide +kernel
theorem dX6_soon_6 : decode cX6_soon 6 = .ok (.if_icmp .eq 5, 3) := by decide +kernel
theorem dX6_soon_9 : decode cX6_soon 9 = .ok (.iconst (-1), 1) := by decide +kernel
theorem dX6_soon_10 : decode cX6_soon 10 = .ok (.ireturn, 1) := by decide +kernel
theorem dX6_soon_11 : decode cX6_soon 11 = .ok (.iconst 0, 1) := by decide +kernel
theorem dX6_soon_12 : decode cX6_soon 12 = .ok (.istore_n 2, 1) := by decide +kernel
theorem dX6_soon_13 : decode cX6_soon 13 = .ok (.iconst 0, 1) := by decide +kernel
theorem dX6_soon_14 : decode cX6_soon 14 = .ok (.istore_n 3, 1) := by decide +kernel
theorem dX6_soon_15 : decode cX6_soon 15 = .ok (.iconst 0, 1) := by decide +kernel
theorem dX6_soon_16 : decode cX6_soon 16 = .ok (.istore 4, 2) := by decide +kernel
theorem dX6_soon_18 : decode cX6_soon 18 = .ok (.iconst 0, 1) := by decide +kernel
theorem dX6_soon_19 : decode cX6_soon 19 = .ok (.istore 5, 2) := by decide +kernel
theorem dX6_soon_21 : decode cX6_soon 21 = .ok (.iconst 0, 1) := by decide +kernel
theorem dX6_soon_22 : decode cX6_soon 22 = .ok (.istore 6, 2) := by decide +kernel
theorem dX6_soon_24 : decode cX6_soon 24 = .ok (.iload 6, 2) := by decide +kernel
theorem dX6_soon_26 : decode cX6_soon 26 = .ok (.aload_n 0, 1) := by decide +kernel
theorem dX6_soon_27 : decode cX6_soon 27 = .ok (.getfield 19, 3) := by decide +kernel
theorem dX6_soon_30 : decode cX6_soon 30 = .ok (.getfield 104, 3) := by decide +kernel
theorem dX6_soon_33 : decode cX6_soon 33 = .ok (.getfield 184, 3) := by decide +kernel
theorem dX6_soon_36 : decode cX6_soon 36 = .ok (.if_icmp .ge 72, 3) := by decide +kernel
theorem dX6_soon_39 : decode cX6_soon 39 = .ok (.aload_n 0, 1) := by decide +kernel
theorem dX6_soon_40 : decode cX6_soon 40 = .ok (.iload 5, 2) := by decide +kernel
theorem dX6_soon_42 : decode cX6_soon 42 = .ok (.invokevirtual 218, 3) := by decide +kernel
theorem dX6_soon_45 : decode cX6_soon 45 = .ok (.istore 7, 2) := by decide +kernel
theorem dX6_soon_47 : decode cX6_soon 47 = .ok (.iload 7, 2) := by decide +kernel
theorem dX6_soon_49 : decode cX6_soon 49 = .ok (.bipush (-9), 2) := by decide +kernel
theorem dX6_soon_51 : decode cX6_soon 51 = .ok (.if_icmp .ne 6, 3) := by decide +kernel
theorem dX6_soon_54 : decode cX6_soon 54 = .ok (.goto 54, 3) := by decide +kernel
theorem dX6_soon_57 : decode cX6_soon 57 = .ok (.iload 5, 2) := by decide +kernel
theorem dX6_soon_59 : decode cX6_soon 59 = .ok (.iconst 1, 1) := by decide +kernel
theorem dX6_soon_60 : decode cX6_soon 60 = .ok (.iload 7, 2) := by decide +kernel
theorem dX6_soon_62 : decode cX6_soon 62 = .ok (.ishl, 1) := by decide +kernel
theorem dX6_soon_63 : decode cX6_soon 63 = .ok (.ior, 1) := by decide +kernel
theorem dX6_soon_64 : decode cX6_soon 64 = .ok (.istore 5, 2) := by decide +kernel
theorem dX6_soon_66 : decode cX6_soon 66 = .ok (.iload 4, 2) := by decide +kernel
theorem dX6_soon_68 : decode cX6_soon 68 = .ok (.aload_n 0, 1) := by decide +kernel
theorem dX6_soon_69 : decode cX6_soon 69 = .ok (.getfield 19, 3) := by decide +kernel
theorem dX6_soon_72 : decode cX6_soon 72 = .ok (.getfield 104, 3) := by decide +kernel
theorem dX6_soon_75 : decode cX6_soon 75 = .ok (.aload_n 0, 1) := by decide +kernel
theorem dX6_soon_76 : decode cX6_soon 76 = .ok (.getfield 48, 3) := by decide +kernel
theorem dX6_soon_79 : decode cX6_soon 79 = .ok (.iload 7, 2) := by decide +kernel
theorem dX6_soon_81 : decode cX6_soon 81 = .ok (.invokevirtual 119, 3) := by decide +kernel
theorem dX6_soon_84 : decode cX6_soon 84 = .ok (.iadd, 1) := by decide +kernel
theorem dX6_soon_85 : decode cX6_soon 85 = .ok (.istore 4, 2) := by decide +kernel
theorem dX6_soon_87 : decode cX6_soon 87 = .ok (.iload_n 2, 1) := by decide +kernel
theorem dX6_soon_88 : decode cX6_soon 88 = .ok (.iload 4, 2) := by decide +kernel
theorem dX6_soon_90 : decode cX6_soon 90 = .ok (.iadd, 1) := by decide +kernel
theorem dX6_soon_91 : decode cX6_soon 91 = .ok (.istore_n 2, 1) := by decide +kernel
theorem dX6_soon_92 : decode cX6_soon 92 = .ok (.iload_n 3, 1) := by decide +kernel
theorem dX6_soon_93 : decode cX6_soon 93 = .ok (.bipush 10, 2) := by decide +kernel
theorem dX6_soon_95 : decode cX6_soon 95 = .ok (.imul, 1) := by decide +kernel
theorem dX6_soon_96 : decode cX6_soon 96 = .ok (.iload 7, 2) := by decide +kernel
theorem dX6_soon_98 : decode cX6_soon 98 = .ok (.iadd, 1) := by decide +kernel
theorem dX6_soon_99 : decode cX6_soon 99 = .ok (.iconst 1, 1) := by decide +kernel
theorem dX6_soon_100 : decode cX6_soon 100 = .ok (.iadd, 1) := by decide +kernel
theorem dX6_soon_101 : decode cX6_soon 101 = .ok (.istore_n 3, 1) := by decide +kernel
theorem dX6_soon_102 : decode cX6_soon 102 = .ok (.iinc 6 1, 3) := by decide +kernel
theorem dX6_soon_105 : decode cX6_soon 105 = .ok (.goto (-81), 3) := by decide +kernel
theorem dX6_soon_108 : decode cX6_soon 108 = .ok (.iload_n 1, 1) := by decide +kernel
theorem dX6_soon_109 : decode cX6_soon 109 = .ok (.ifCond .ne 7, 3) := by decide +kernel
theorem dX6_soon_112 : decode cX6_soon 112 = .ok (.iload_n 2, 1) := by decide +kernel
theorem dX6_soon_113 : decode cX6_soon 113 = .ok (.goto 4, 3) := by decide +kernel
theorem dX6_soon_116 : decode cX6_soon 116 = .ok (.iload_n 3, 1) := by decide +kernel
theorem dX6_soon_117 : decode cX6_soon 117 = .ok (.ireturn, 1) := by decide +kernel
theorem dX6_odds_0 : decode cX6_odds 0 = .ok (.aload_n 0, 1) := by decide +kernel
theorem dX6_odds_1 : decode cX6_odds 1 = .ok (.getfield 48, 3) := by decide +kernel
theorem dX6_odds_4 : decode cX6_odds 4 = .ok (.iload_n 1, 1) := by decide +kernel
theorem dX6_odds_5 : decode cX6_odds 5 = .ok (.invokevirtual 78, 3) := by decide +kernel
theorem dX6_odds_8 : decode cX6_odds 8 = .ok (.astore 5, 2) := by decide +kernel
theorem dX6_odds_10 : decode cX6_odds 10 = .ok (.aload 5, 2) := by decide +kernel
theorem dX6_odds_12 : decode cX6_odds 12 = .ok (.ifnull 33, 3) := by decide +kernel
theorem dX6_odds_15 : decode cX6_odds 15 = .ok (.iload_n 2, 1) := by decide +kernel
theorem dX6_odds_16 : decode cX6_odds 16 = .ok (.iconst 1, 1) := by decide +kernel
theorem dX6_odds_17 : decode cX6_odds 17 = .ok (.if_icmp .lt 28, 3) := by decide +kernel
theorem dX6_odds_20 : decode cX6_odds 20 = .ok (.iload_n 2, 1) := by decide +kernel
theorem dX6_odds_21 : decode cX6_odds 21 = .ok (.iconst 4, 1) := by decide +kernel
theorem dX6_odds_22 : decode cX6_odds 22 = .ok (.if_icmp .gt 23, 3) := by decide +kernel
theorem dX6_odds_25 : decode cX6_odds 25 = .ok (.aload 5, 2) := by decide +kernel
theorem dX6_odds_27 : decode cX6_odds 27 = .ok (.iload_n 3, 1) := by decide +kernel
theorem dX6_odds_28 : decode cX6_odds 28 = .ok (.invokevirtual 140, 3) := by decide +kernel
theorem dX6_odds_31 : decode cX6_odds 31 = .ok (.ifCond .eq 14, 3) := by decide +kernel
theorem dX6_odds_34 : decode cX6_odds 34 = .ok (.iload 4, 2) := by decide +kernel
theorem dX6_odds_36 : decode cX6_odds 36 = .ok (.ifCond .lt 9, 3) := by decide +kernel
theorem dX6_odds_39 : decode cX6_odds 39 = .ok (.iload 4, 2) := by decide +kernel
theorem dX6_odds_41 : decode cX6_odds 41 = .ok (.iconst 1, 1) := by decide +kernel
theorem dX6_odds_42 : decode cX6_odds 42 = .ok (.if_icmp .le 5, 3) := by decide +kernel
theorem dX6_odds_45 : decode cX6_odds 45 = .ok (.iconst (-1), 1) := by decide +kernel
theorem dX6_odds_46 : decode cX6_odds 46 = .ok (.ireturn, 1) := by decide +kernel
theorem dX6_odds_47 : decode cX6_odds 47 = .ok (.aload 5, 2) := by decide +kernel
theorem dX6_odds_49 : decode cX6_odds 49 = .ok (.invokevirtual 101, 3) := by decide +kernel
theorem dX6_odds_52 : decode cX6_odds 52 = .ok (.iload_n 2, 1) := by decide +kernel
theorem dX6_odds_53 : decode cX6_odds 53 = .ok (.if_icmp .ge 6, 3) := by decide +kernel
theorem dX6_odds_56 : decode cX6_odds 56 = .ok (.bipush (-2), 2) := by decide +kernel
theorem dX6_odds_58 : decode cX6_odds 58 = .ok (.ireturn, 1) := by decide +kernel
theorem dX6_odds_59 : decode cX6_odds 59 = .ok (.aload 5, 2) := by decide +kernel
theorem dX6_odds_61 : decode cX6_odds 61 = .ok (.invokevirtual 101, 3) := by decide +kernel
theorem dX6_odds_64 : decode cX6_odds 64 = .ok (.iload_n 2, 1) := by decide +kernel
theorem dX6_odds_65 : decode cX6_odds 65 = .ok (.invokestatic 221, 3) := by decide +kernel
theorem dX6_odds_68 : decode cX6_odds 68 = .ok (.istore 6, 2) := by decide +kernel
theorem dX6_odds_70 : decode cX6_odds 70 = .ok (.iload 6, 2) := by decide +kernel
theorem dX6_odds_72 : decode cX6_odds 72 = .ok (.aload 5, 2) := by decide +kernel
theorem dX6_odds_74 : decode cX6_odds 74 = .ok (.invokevirtual 101, 3) := by decide +kernel
theorem dX6_odds_77 : decode cX6_odds 77 = .ok (.aload 5, 2) := by decide +kernel
theorem dX6_odds_79 : decode cX6_odds 79 = .ok (.getfield 88, 3) := by decide +kernel
theorem dX6_odds_82 : decode cX6_odds 82 = .ok (.isub, 1) := by decide +kernel
theorem dX6_odds_83 : decode cX6_odds 83 = .ok (.iload_n 2, 1) := by decide +kernel
theorem dX6_odds_84 : decode cX6_odds 84 = .ok (.invokestatic 221, 3) := by decide +kernel
theorem dX6_odds_87 : decode cX6_odds 87 = .ok (.isub, 1) := by decide +kernel
theorem dX6_odds_88 : decode cX6_odds 88 = .ok (.istore 7, 2) := by decide +kernel
theorem dX6_odds_90 : decode cX6_odds 90 = .ok (.iload 7, 2) := by decide +kernel
theorem dX6_odds_92 : decode cX6_odds 92 = .ok (.iload 6, 2) := by decide +kernel
theorem dX6_odds_94 : decode cX6_odds 94 = .ok (.invokestatic 224, 3) := by decide +kernel
theorem dX6_odds_97 : decode cX6_odds 97 = .ok (.istore 8, 2) := by decide +kernel
theorem dX6_odds_99 : decode cX6_odds 99 = .ok (.iload 8, 2) := by decide +kernel
theorem dX6_odds_101 : decode cX6_odds 101 = .ok (.ifCond .gt 5, 3) := by decide +kernel
theorem dX6_odds_104 : decode cX6_odds 104 = .ok (.iconst 0, 1) := by decide +kernel
theorem dX6_odds_105 : decode cX6_odds 105 = .ok (.ireturn, 1) := by decide +kernel
theorem dX6_odds_106 : decode cX6_odds 106 = .ok (.iload 4, 2) := by decide +kernel
theorem dX6_odds_108 : decode cX6_odds 108 = .ok (.ifCond .ne 8, 3) := by decide +kernel
theorem dX6_odds_111 : decode cX6_odds 111 = .ok (.iload 7, 2) := by decide +kernel
theorem dX6_odds_113 : decode cX6_odds 113 = .ok (.goto 5, 3) := by decide +kernel
theorem dX6_odds_116 : decode cX6_odds 116 = .ok (.iload 6, 2) := by decide +kernel
theorem dX6_odds_118 : decode cX6_odds 118 = .ok (.iload 8, 2) := by decide +kernel
theorem dX6_odds_120 : decode cX6_odds 120 = .ok (.idiv, 1) := by decide +kernel
theorem dX6_odds_121 : decode cX6_odds 121 = .ok (.ireturn, 1) := by decide +kernel
theorem dX6_sees_0 : decode cX6_sees 0 = .ok (.iload_n 1, 1) := by decide +kernel
theorem dX6_sees_1 : decode cX6_sees 1 = .ok (.ifCond .lt 29, 3) := by decide +kernel
theorem dX6_sees_4 : decode cX6_sees 4 = .ok (.iload_n 1, 1) := by decide +kernel
theorem dX6_sees_5 : decode cX6_sees 5 = .ok (.bipush 80, 2) := by decide +kernel
theorem dX6_sees_7 : decode cX6_sees 7 = .ok (.if_icmp .gt 23, 3) := by decide +kernel
theorem dX6_sees_10 : decode cX6_sees 10 = .ok (.iload_n 2, 1) := by decide +kernel
theorem dX6_sees_11 : decode cX6_sees 11 = .ok (.iconst 1, 1) := by decide +kernel
theorem dX6_sees_12 : decode cX6_sees 12 = .ok (.if_icmp .lt 18, 3) := by decide +kernel
theorem dX6_sees_15 : decode cX6_sees 15 = .ok (.iload_n 2, 1) := by decide +kernel
theorem dX6_sees_16 : decode cX6_sees 16 = .ok (.bipush 9, 2) := by decide +kernel
theorem dX6_sees_18 : decode cX6_sees 18 = .ok (.if_icmp .gt 12, 3) := by decide +kernel
theorem dX6_sees_21 : decode cX6_sees 21 = .ok (.iload_n 3, 1) := by decide +kernel
theorem dX6_sees_22 : decode cX6_sees 22 = .ok (.ifCond .lt 8, 3) := by decide +kernel
theorem dX6_sees_25 : decode cX6_sees 25 = .ok (.iload_n 3, 1) := by decide +kernel
theorem dX6_sees_26 : decode cX6_sees 26 = .ok (.iconst 1, 1) := by decide +kernel
theorem dX6_sees_27 : decode cX6_sees 27 = .ok (.if_icmp .le 5, 3) := by decide +kernel
theorem dX6_sees_30 : decode cX6_sees 30 = .ok (.iconst (-1), 1) := by decide +kernel
theorem dX6_sees_31 : decode cX6_sees 31 = .ok (.ireturn, 1) := by decide +kernel
theorem dX6_sees_32 : decode cX6_sees 32 = .ok (.aload_n 0, 1) := by decide +kernel
theorem dX6_sees_33 : decode cX6_sees 33 = .ok (.getfield 33, 3) := by decide +kernel
theorem dX6_sees_36 : decode cX6_sees 36 = .ok (.getfield 227, 3) := by decide +kernel
theorem dX6_sees_39 : decode cX6_sees 39 = .ok (.bipush 6, 2) := by decide +kernel
theorem dX6_sees_41 : decode cX6_sees 41 = .ok (.if_icmp .lt 8, 3) := by decide +kernel
theorem dX6_sees_44 : decode cX6_sees 44 = .ok (.bipush (-3), 2) := by decide +kernel
theorem dX6_sees_46 : decode cX6_sees 46 = .ok (.goto 13, 3) := by decide +kernel
theorem dX6_sees_49 : decode cX6_sees 49 = .ok (.aload_n 0, 1) := by decide +kernel
theorem dX6_sees_50 : decode cX6_sees 50 = .ok (.getfield 33, 3) := by decide +kernel
theorem dX6_sees_53 : decode cX6_sees 53 = .ok (.iload_n 1, 1) := by decide +kernel
theorem dX6_sees_54 : decode cX6_sees 54 = .ok (.iload_n 2, 1) := by decide +kernel
theorem dX6_sees_55 : decode cX6_sees 55 = .ok (.iload_n 3, 1) := by decide +kernel
theorem dX6_sees_56 : decode cX6_sees 56 = .ok (.invokevirtual 230, 3) := by decide +kernel
theorem dX6_sees_59 : decode cX6_sees 59 = .ok (.ireturn, 1) := by decide +kernel
theorem dX6_forget_0 : decode cX6_forget 0 = .ok (.aload_n 0, 1) := by decide +kernel
theorem dX6_forget_1 : decode cX6_forget 1 = .ok (.getfield 33, 3) := by decide +kernel
theorem dX6_forget_4 : decode cX6_forget 4 = .ok (.invokevirtual 75, 3) := by decide +kernel
theorem dX6_forget_7 : decode cX6_forget 7 = .ok (.ireturn, 1) := by decide +kernel
theorem dX6_whose_0 : decode cX6_whose 0 = .ok (.aload_n 0, 1) := by decide +kernel
theorem dX6_whose_1 : decode cX6_whose 1 = .ok (.getfield 33, 3) := by decide +kernel
theorem dX6_whose_4 : decode cX6_whose 4 = .ok (.aload_n 0, 1) := by decide +kernel
theorem dX6_whose_5 : decode cX6_whose 5 = .ok (.getfield 48, 3) := by decide +kernel
theorem dX6_whose_8 : decode cX6_whose 8 = .ok (.invokevirtual 233, 3) := by decide +kernel
theorem dX6_whose_11 : decode cX6_whose 11 = .ok (.ireturn, 1) := by decide +kernel
theorem dX6_look_0 : decode cX6_look 0 = .ok (.aload_n 0, 1) := by decide +kernel
theorem dX6_look_1 : decode cX6_look 1 = .ok (.getfield 33, 3) := by decide +kernel
theorem dX6_look_4 : decode cX6_look 4 = .ok (.aload_n 0, 1) := by decide +kernel
theorem dX6_look_5 : decode cX6_look 5 = .ok (.getfield 48, 3) := by decide +kernel
theorem dX6_look_8 : decode cX6_look 8 = .ok (.invokevirtual 233, 3) := by decide +kernel
theorem dX6_look_11 : decode cX6_look 11 = .ok (.istore_n 1, 1) := by decide +kernel
theorem dX6_look_12 : decode cX6_look 12 = .ok (.iload_n 1, 1) := by decide +kernel
theorem dX6_look_13 : decode cX6_look 13 = .ok (.invokestatic 236, 3) := by decide +kernel
theorem dX6_look_16 : decode cX6_look 16 = .ok (.istore_n 2, 1) := by decide +kernel
theorem dX6_look_17 : decode cX6_look 17 = .ok (.iload_n 2, 1) := by decide +kernel
theorem dX6_look_18 : decode cX6_look 18 = .ok (.istore_n 3, 1) := by decide +kernel
theorem dX6_look_19 : decode cX6_look 19 = .ok (.bipush (-9), 2) := by decide +kernel
theorem dX6_look_21 : decode cX6_look 21 = .ok (.istore 4, 2) := by decide +kernel
theorem dX6_look_23 : decode cX6_look 23 = .ok (.iconst 0, 1) := by decide +kernel
theorem dX6_look_24 : decode cX6_look 24 = .ok (.istore 5, 2) := by decide +kernel
theorem dX6_look_26 : decode cX6_look 26 = .ok (.iload 5, 2) := by decide +kernel
theorem dX6_look_28 : decode cX6_look 28 = .ok (.bipush 80, 2) := by decide +kernel
theorem dX6_look_30 : decode cX6_look 30 = .ok (.if_icmp .gt 83, 3) := by decide +kernel
theorem dX6_look_33 : decode cX6_look 33 = .ok (.aload_n 0, 1) := by decide +kernel
theorem dX6_look_34 : decode cX6_look 34 = .ok (.getfield 33, 3) := by decide +kernel
theorem dX6_look_37 : decode cX6_look 37 = .ok (.aload_n 0, 1) := by decide +kernel
theorem dX6_look_38 : decode cX6_look 38 = .ok (.getfield 48, 3) := by decide +kernel
theorem dX6_look_41 : decode cX6_look 41 = .ok (.iload_n 1, 1) := by decide +kernel
theorem dX6_look_42 : decode cX6_look 42 = .ok (.iload 5, 2) := by decide +kernel
theorem dX6_look_44 : decode cX6_look 44 = .ok (.invokevirtual 241, 3) := by decide +kernel
theorem dX6_look_47 : decode cX6_look 47 = .ok (.iconst 1, 1) := by decide +kernel
theorem dX6_look_48 : decode cX6_look 48 = .ok (.istore 6, 2) := by decide +kernel
theorem dX6_look_50 : decode cX6_look 50 = .ok (.iload 6, 2) := by decide +kernel
theorem dX6_look_52 : decode cX6_look 52 = .ok (.bipush 9, 2) := by decide +kernel
theorem dX6_look_54 : decode cX6_look 54 = .ok (.if_icmp .gt 53, 3) := by decide +kernel
theorem dX6_look_57 : decode cX6_look 57 = .ok (.aload_n 0, 1) := by decide +kernel
theorem dX6_look_58 : decode cX6_look 58 = .ok (.getfield 33, 3) := by decide +kernel
theorem dX6_look_61 : decode cX6_look 61 = .ok (.getfield 245, 3) := by decide +kernel
theorem dX6_look_64 : decode cX6_look 64 = .ok (.iload 6, 2) := by decide +kernel
theorem dX6_look_66 : decode cX6_look 66 = .ok (.invokestatic 151, 3) := by decide +kernel
theorem dX6_look_69 : decode cX6_look 69 = .ok (.istore 7, 2) := by decide +kernel
theorem dX6_look_71 : decode cX6_look 71 = .ok (.iload 7, 2) := by decide +kernel
theorem dX6_look_73 : decode cX6_look 73 = .ok (.iload_n 2, 1) := by decide +kernel
theorem dX6_look_74 : decode cX6_look 74 = .ok (.iload 7, 2) := by decide +kernel
theorem dX6_look_76 : decode cX6_look 76 = .ok (.isub, 1) := by decide +kernel
theorem dX6_look_77 : decode cX6_look 77 = .ok (.invokestatic 248, 3) := by decide +kernel
theorem dX6_look_80 : decode cX6_look 80 = .ok (.istore 8, 2) := by decide +kernel
theorem dX6_look_82 : decode cX6_look 82 = .ok (.iload 8, 2) := by decide +kernel
theorem dX6_look_84 : decode cX6_look 84 = .ok (.iload_n 3, 1) := by decide +kernel
theorem dX6_look_85 : decode cX6_look 85 = .ok (.if_icmp .ge 16, 3) := by decide +kernel
theorem dX6_look_88 : decode cX6_look 88 = .ok (.iload 8, 2) := by decide +kernel
theorem dX6_look_90 : decode cX6_look 90 = .ok (.istore_n 3, 1) := by decide +kernel
theorem dX6_look_91 : decode cX6_look 91 = .ok (.bipush 10, 2) := by decide +kernel
theorem dX6_look_93 : decode cX6_look 93 = .ok (.iload 5, 2) := by decide +kernel
theorem dX6_look_95 : decode cX6_look 95 = .ok (.imul, 1) := by decide +kernel
theorem dX6_look_96 : decode cX6_look 96 = .ok (.iload 6, 2) := by decide +kernel
theorem dX6_look_98 : decode cX6_look 98 = .ok (.iadd, 1) := by decide +kernel
theorem dX6_look_99 : decode cX6_look 99 = .ok (.istore 4, 2) := by decide +kernel
theorem dX6_look_101 : decode cX6_look 101 = .ok (.iinc 6 1, 3) := by decide +kernel
theorem dX6_look_104 : decode cX6_look 104 = .ok (.goto (-54), 3) := by decide +kernel
theorem dX6_look_107 : decode cX6_look 107 = .ok (.iinc 5 1, 3) := by decide +kernel
theorem dX6_look_110 : decode cX6_look 110 = .ok (.goto (-84), 3) := by decide +kernel
theorem dX6_look_113 : decode cX6_look 113 = .ok (.iload 4, 2) := by decide +kernel
theorem dX6_look_115 : decode cX6_look 115 = .ok (.ireturn, 1) := by decide +kernel
theorem dX6_mark_0 : decode cX6_mark 0 = .ok (.aload_n 0, 1) := by decide +kernel
theorem dX6_mark_1 : decode cX6_mark 1 = .ok (.getfield 48, 3) := by decide +kernel
theorem dX6_mark_4 : decode cX6_mark 4 = .ok (.iload_n 2, 1) := by decide +kernel
theorem dX6_mark_5 : decode cX6_mark 5 = .ok (.invokevirtual 78, 3) := by decide +kernel
theorem dX6_mark_8 : decode cX6_mark 8 = .ok (.astore_n 3, 1) := by decide +kernel
theorem dX6_mark_9 : decode cX6_mark 9 = .ok (.aload_n 3, 1) := by decide +kernel
theorem dX6_mark_10 : decode cX6_mark 10 = .ok (.ifnull 15, 3) := by decide +kernel
theorem dX6_mark_13 : decode cX6_mark 13 = .ok (.iload_n 1, 1) := by decide +kernel
theorem dX6_mark_14 : decode cX6_mark 14 = .ok (.ifCond .lt 11, 3) := by decide +kernel
theorem dX6_mark_17 : decode cX6_mark 17 = .ok (.iload_n 1, 1) := by decide +kernel
theorem dX6_mark_18 : decode cX6_mark 18 = .ok (.getstatic 251, 3) := by decide +kernel
theorem dX6_mark_21 : decode cX6_mark 21 = .ok (.arraylength, 1) := by decide +kernel
theorem dX6_mark_22 : decode cX6_mark 22 = .ok (.if_icmp .lt 6, 3) := by decide +kernel
theorem dX6_mark_25 : decode cX6_mark 25 = .ok (.ldc 254, 2) := by decide +kernel
theorem dX6_mark_27 : decode cX6_mark 27 = .ok (.ireturn, 1) := by decide +kernel
theorem dX6_mark_28 : decode cX6_mark 28 = .ok (.aload_n 0, 1) := by decide +kernel
theorem dX6_mark_29 : decode cX6_mark 29 = .ok (.iload_n 1, 1) := by decide +kernel
theorem dX6_mark_30 : decode cX6_mark 30 = .ok (.aload_n 3, 1) := by decide +kernel
theorem dX6_mark_31 : decode cX6_mark 31 = .ok (.iload_n 2, 1) := by decide +kernel
theorem dX6_mark_32 : decode cX6_mark 32 = .ok (.iconst 0, 1) := by decide +kernel
theorem dX6_mark_33 : decode cX6_mark 33 = .ok (.invokevirtual 255, 3) := by decide +kernel
theorem dX6_mark_36 : decode cX6_mark 36 = .ok (.ireturn, 1) := by decide +kernel
theorem dX6_keep_0 : decode cX6_keep 0 = .ok (.aload_n 0, 1) := by decide +kernel
theorem dX6_keep_1 : decode cX6_keep 1 = .ok (.iload_n 1, 1) := by decide +kernel
theorem dX6_keep_2 : decode cX6_keep 2 = .ok (.invokevirtual 259, 3) := by decide +kernel
theorem dX6_keep_5 : decode cX6_keep 5 = .ok (.astore_n 2, 1) := by decide +kernel
theorem dX6_keep_6 : decode cX6_keep 6 = .ok (.aload_n 2, 1) := by decide +kernel
theorem dX6_keep_7 : decode cX6_keep 7 = .ok (.ifnull 16, 3) := by decide +kernel
theorem dX6_keep_10 : decode cX6_keep 10 = .ok (.iload_n 1, 1) := by decide +kernel
