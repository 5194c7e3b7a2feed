theorem dX0_init_0 : decode cX0_init 0 = .ok (.aload_n 0, 1) := by decide +kernel
theorem dX0_init_1 : decode cX0_init 1 = .ok (.invokespecial 3, 3) := by decide +kernel
theorem dX0_init_4 : decode cX0_init 4 = .ok (.aload_n 0, 1) := by decide +kernel
theorem dX0_init_5 : decode cX0_init 5 = .ok (.new 9, 3) := by decide +kernel
theorem dX0_init_8 : decode cX0_init 8 = .ok (.dup, 1) := by decide +kernel
theorem dX0_init_9 : decode cX0_init 9 = .ok (.invokespecial 11, 3) := by decide +kernel
theorem dX0_init_12 : decode cX0_init 12 = .ok (.putfield 12, 3) := by decide +kernel
theorem dX0_init_15 : decode cX0_init 15 = .ok (.aload_n 0, 1) := by decide +kernel
theorem dX0_init_16 : decode cX0_init 16 = .ok (.bipush 10, 2) := by decide +kernel
theorem dX0_init_18 : decode cX0_init 18 = .ok (.anewarray 9, 3) := by decide +kernel
theorem dX0_init_21 : decode cX0_init 21 = .ok (.putfield 18, 3) := by decide +kernel
theorem dX0_init_24 : decode cX0_init 24 = .ok (.iconst 0, 1) := by decide +kernel
theorem dX0_init_25 : decode cX0_init 25 = .ok (.istore_n 1, 1) := by decide +kernel
theorem dX0_init_26 : decode cX0_init 26 = .ok (.iload_n 1, 1) := by decide +kernel
theorem dX0_init_27 : decode cX0_init 27 = .ok (.aload_n 0, 1) := by decide +kernel
theorem dX0_init_28 : decode cX0_init 28 = .ok (.getfield 18, 3) := by decide +kernel
theorem dX0_init_31 : decode cX0_init 31 = .ok (.arraylength, 1) := by decide +kernel
theorem dX0_init_32 : decode cX0_init 32 = .ok (.if_icmp .ge 22, 3) := by decide +kernel
theorem dX0_init_35 : decode cX0_init 35 = .ok (.aload_n 0, 1) := by decide +kernel
theorem dX0_init_36 : decode cX0_init 36 = .ok (.getfield 18, 3) := by decide +kernel
theorem dX0_init_39 : decode cX0_init 39 = .ok (.iload_n 1, 1) := by decide +kernel
theorem dX0_init_40 : decode cX0_init 40 = .ok (.new 9, 3) := by decide +kernel
theorem dX0_init_43 : decode cX0_init 43 = .ok (.dup, 1) := by decide +kernel
theorem dX0_init_44 : decode cX0_init 44 = .ok (.invokespecial 11, 3) := by decide +kernel
theorem dX0_init_47 : decode cX0_init 47 = .ok (.aastore, 1) := by decide +kernel
theorem dX0_init_48 : decode cX0_init 48 = .ok (.iinc 1 1, 3) := by decide +kernel
theorem dX0_init_51 : decode cX0_init 51 = .ok (.goto (-25), 3) := by decide +kernel
theorem dX0_init_54 : decode cX0_init 54 = .ok (.return_, 1) := by decide +kernel
theorem dX0_begin_0 : decode cX0_begin 0 = .ok (.aload_n 0, 1) := by decide +kernel
theorem dX0_begin_1 : decode cX0_begin 1 = .ok (.getfield 12, 3) := by decide +kernel
theorem dX0_begin_4 : decode cX0_begin 4 = .ok (.aload_n 1, 1) := by decide +kernel
theorem dX0_begin_5 : decode cX0_begin 5 = .ok (.invokevirtual 22, 3) := by decide +kernel
theorem dX0_begin_8 : decode cX0_begin 8 = .ok (.aload_n 0, 1) := by decide +kernel
theorem dX0_begin_9 : decode cX0_begin 9 = .ok (.iconst 0, 1) := by decide +kernel
theorem dX0_begin_10 : decode cX0_begin 10 = .ok (.putfield 26, 3) := by decide +kernel
theorem dX0_begin_13 : decode cX0_begin 13 = .ok (.aload_n 0, 1) := by decide +kernel
theorem dX0_begin_14 : decode cX0_begin 14 = .ok (.iconst 0, 1) := by decide +kernel
theorem dX0_begin_15 : decode cX0_begin 15 = .ok (.putfield 30, 3) := by decide +kernel
theorem dX0_begin_18 : decode cX0_begin 18 = .ok (.return_, 1) := by decide +kernel
theorem dX0_knownAt_0 : decode cX0_knownAt 0 = .ok (.aload_n 0, 1) := by decide +kernel
theorem dX0_knownAt_1 : decode cX0_knownAt 1 = .ok (.getfield 26, 3) := by decide +kernel
theorem dX0_knownAt_4 : decode cX0_knownAt 4 = .ok (.iload_n 1, 1) := by decide +kernel
theorem dX0_knownAt_5 : decode cX0_knownAt 5 = .ok (.iadd, 1) := by decide +kernel
theorem dX0_knownAt_6 : decode cX0_knownAt 6 = .ok (.bipush 10, 2) := by decide +kernel
theorem dX0_knownAt_8 : decode cX0_knownAt 8 = .ok (.invokestatic 33, 3) := by decide +kernel
theorem dX0_knownAt_11 : decode cX0_knownAt 11 = .ok (.istore_n 2, 1) := by decide +kernel
theorem dX0_knownAt_12 : decode cX0_knownAt 12 = .ok (.iload_n 2, 1) := by decide +kernel
theorem dX0_knownAt_13 : decode cX0_knownAt 13 = .ok (.aload_n 0, 1) := by decide +kernel
theorem dX0_knownAt_14 : decode cX0_knownAt 14 = .ok (.getfield 18, 3) := by decide +kernel
theorem dX0_knownAt_17 : decode cX0_knownAt 17 = .ok (.arraylength, 1) := by decide +kernel
theorem dX0_knownAt_18 : decode cX0_knownAt 18 = .ok (.if_icmp .ge 12, 3) := by decide +kernel
theorem dX0_knownAt_21 : decode cX0_knownAt 21 = .ok (.aload_n 0, 1) := by decide +kernel
theorem dX0_knownAt_22 : decode cX0_knownAt 22 = .ok (.getfield 18, 3) := by decide +kernel
theorem dX0_knownAt_25 : decode cX0_knownAt 25 = .ok (.iload_n 2, 1) := by decide +kernel
theorem dX0_knownAt_26 : decode cX0_knownAt 26 = .ok (.aaload, 1) := by decide +kernel
theorem dX0_knownAt_27 : decode cX0_knownAt 27 = .ok (.goto 4, 3) := by decide +kernel
theorem dX0_knownAt_30 : decode cX0_knownAt 30 = .ok (.aconst_null, 1) := by decide +kernel
theorem dX0_knownAt_31 : decode cX0_knownAt 31 = .ok (.areturn, 1) := by decide +kernel
theorem dX0_remember_0 : decode cX0_remember 0 = .ok (.aload_n 0, 1) := by decide +kernel
theorem dX0_remember_1 : decode cX0_remember 1 = .ok (.getfield 30, 3) := by decide +kernel
theorem dX0_remember_4 : decode cX0_remember 4 = .ok (.bipush 10, 2) := by decide +kernel
theorem dX0_remember_6 : decode cX0_remember 6 = .ok (.if_icmp .lt 24, 3) := by decide +kernel
theorem dX0_remember_9 : decode cX0_remember 9 = .ok (.aload_n 0, 1) := by decide +kernel
theorem dX0_remember_10 : decode cX0_remember 10 = .ok (.aload_n 0, 1) := by decide +kernel
theorem dX0_remember_11 : decode cX0_remember 11 = .ok (.getfield 26, 3) := by decide +kernel
theorem dX0_remember_14 : decode cX0_remember 14 = .ok (.iconst 1, 1) := by decide +kernel
theorem dX0_remember_15 : decode cX0_remember 15 = .ok (.iadd, 1) := by decide +kernel
theorem dX0_remember_16 : decode cX0_remember 16 = .ok (.bipush 10, 2) := by decide +kernel
theorem dX0_remember_18 : decode cX0_remember 18 = .ok (.invokestatic 33, 3) := by decide +kernel
theorem dX0_remember_21 : decode cX0_remember 21 = .ok (.putfield 26, 3) := by decide +kernel
theorem dX0_remember_24 : decode cX0_remember 24 = .ok (.aload_n 0, 1) := by decide +kernel
theorem dX0_remember_25 : decode cX0_remember 25 = .ok (.bipush 9, 2) := by decide +kernel
theorem dX0_remember_27 : decode cX0_remember 27 = .ok (.putfield 30, 3) := by decide +kernel
theorem dX0_remember_30 : decode cX0_remember 30 = .ok (.aload_n 0, 1) := by decide +kernel
theorem dX0_remember_31 : decode cX0_remember 31 = .ok (.aload_n 0, 1) := by decide +kernel
theorem dX0_remember_32 : decode cX0_remember 32 = .ok (.getfield 30, 3) := by decide +kernel
theorem dX0_remember_35 : decode cX0_remember 35 = .ok (.invokevirtual 39, 3) := by decide +kernel
theorem dX0_remember_38 : decode cX0_remember 38 = .ok (.astore_n 1, 1) := by decide +kernel
theorem dX0_remember_39 : decode cX0_remember 39 = .ok (.aload_n 1, 1) := by decide +kernel
theorem dX0_remember_40 : decode cX0_remember 40 = .ok (.ifnull 11, 3) := by decide +kernel
theorem dX0_remember_43 : decode cX0_remember 43 = .ok (.aload_n 1, 1) := by decide +kernel
theorem dX0_remember_44 : decode cX0_remember 44 = .ok (.aload_n 0, 1) := by decide +kernel
theorem dX0_remember_45 : decode cX0_remember 45 = .ok (.getfield 12, 3) := by decide +kernel
theorem dX0_remember_48 : decode cX0_remember 48 = .ok (.invokevirtual 43, 3) := by decide +kernel
theorem dX0_remember_51 : decode cX0_remember 51 = .ok (.aload_n 0, 1) := by decide +kernel
theorem dX0_remember_52 : decode cX0_remember 52 = .ok (.dup, 1) := by decide +kernel
theorem dX0_remember_53 : decode cX0_remember 53 = .ok (.getfield 30, 3) := by decide +kernel
theorem dX0_remember_56 : decode cX0_remember 56 = .ok (.iconst 1, 1) := by decide +kernel
theorem dX0_remember_57 : decode cX0_remember 57 = .ok (.iadd, 1) := by decide +kernel
theorem dX0_remember_58 : decode cX0_remember 58 = .ok (.putfield 30, 3) := by decide +kernel
theorem dX0_remember_61 : decode cX0_remember 61 = .ok (.return_, 1) := by decide +kernel
theorem dX0_takeBack_0 : decode cX0_takeBack 0 = .ok (.aload_n 0, 1) := by decide +kernel
theorem dX0_takeBack_1 : decode cX0_takeBack 1 = .ok (.getfield 30, 3) := by decide +kernel
theorem dX0_takeBack_4 : decode cX0_takeBack 4 = .ok (.ifCond .ne 4, 3) := by decide +kernel
theorem dX0_takeBack_7 : decode cX0_takeBack 7 = .ok (.return_, 1) := by decide +kernel
theorem dX0_takeBack_8 : decode cX0_takeBack 8 = .ok (.aload_n 0, 1) := by decide +kernel
theorem dX0_takeBack_9 : decode cX0_takeBack 9 = .ok (.dup, 1) := by decide +kernel
theorem dX0_takeBack_10 : decode cX0_takeBack 10 = .ok (.getfield 30, 3) := by decide +kernel
theorem dX0_takeBack_13 : decode cX0_takeBack 13 = .ok (.iconst 1, 1) := by decide +kernel
theorem dX0_takeBack_14 : decode cX0_takeBack 14 = .ok (.isub, 1) := by decide +kernel
theorem dX0_takeBack_15 : decode cX0_takeBack 15 = .ok (.putfield 30, 3) := by decide +kernel
theorem dX0_takeBack_18 : decode cX0_takeBack 18 = .ok (.aload_n 0, 1) := by decide +kernel
theorem dX0_takeBack_19 : decode cX0_takeBack 19 = .ok (.aload_n 0, 1) := by decide +kernel
theorem dX0_takeBack_20 : decode cX0_takeBack 20 = .ok (.getfield 30, 3) := by decide +kernel
theorem dX0_takeBack_23 : decode cX0_takeBack 23 = .ok (.invokevirtual 39, 3) := by decide +kernel
theorem dX0_takeBack_26 : decode cX0_takeBack 26 = .ok (.astore_n 1, 1) := by decide +kernel
theorem dX0_takeBack_27 : decode cX0_takeBack 27 = .ok (.aload_n 1, 1) := by decide +kernel
theorem dX0_takeBack_28 : decode cX0_takeBack 28 = .ok (.ifnull 11, 3) := by decide +kernel
theorem dX0_takeBack_31 : decode cX0_takeBack 31 = .ok (.aload_n 0, 1) := by decide +kernel
theorem dX0_takeBack_32 : decode cX0_takeBack 32 = .ok (.getfield 12, 3) := by decide +kernel
theorem dX0_takeBack_35 : decode cX0_takeBack 35 = .ok (.aload_n 1, 1) := by decide +kernel
theorem dX0_takeBack_36 : decode cX0_takeBack 36 = .ok (.invokevirtual 43, 3) := by decide +kernel
theorem dX0_takeBack_39 : decode cX0_takeBack 39 = .ok (.return_, 1) := by decide +kernel
theorem dX0_copyFrom_0 : decode cX0_copyFrom 0 = .ok (.aload_n 0, 1) := by decide +kernel
theorem dX0_copyFrom_1 : decode cX0_copyFrom 1 = .ok (.getfield 12, 3) := by decide +kernel
theorem dX0_copyFrom_4 : decode cX0_copyFrom 4 = .ok (.aload_n 1, 1) := by decide +kernel
theorem dX0_copyFrom_5 : decode cX0_copyFrom 5 = .ok (.getfield 12, 3) := by decide +kernel
theorem dX0_copyFrom_8 : decode cX0_copyFrom 8 = .ok (.invokevirtual 43, 3) := by decide +kernel
theorem dX0_copyFrom_11 : decode cX0_copyFrom 11 = .ok (.aload_n 0, 1) := by decide +kernel
theorem dX0_copyFrom_12 : decode cX0_copyFrom 12 = .ok (.iconst 0, 1) := by decide +kernel
theorem dX0_copyFrom_13 : decode cX0_copyFrom 13 = .ok (.putfield 26, 3) := by decide +kernel
theorem dX0_copyFrom_16 : decode cX0_copyFrom 16 = .ok (.aload_n 0, 1) := by decide +kernel
theorem dX0_copyFrom_17 : decode cX0_copyFrom 17 = .ok (.aload_n 1, 1) := by decide +kernel
theorem dX0_copyFrom_18 : decode cX0_copyFrom 18 = .ok (.getfield 30, 3) := by decide +kernel
theorem dX0_copyFrom_21 : decode cX0_copyFrom 21 = .ok (.putfield 30, 3) := by decide +kernel
theorem dX0_copyFrom_24 : decode cX0_copyFrom 24 = .ok (.iconst 0, 1) := by decide +kernel
theorem dX0_copyFrom_25 : decode cX0_copyFrom 25 = .ok (.istore_n 2, 1) := by decide +kernel
theorem dX0_copyFrom_26 : decode cX0_copyFrom 26 = .ok (.iload_n 2, 1) := by decide +kernel
theorem dX0_copyFrom_27 : decode cX0_copyFrom 27 = .ok (.aload_n 0, 1) := by decide +kernel
theorem dX0_copyFrom_28 : decode cX0_copyFrom 28 = .ok (.getfield 30, 3) := by decide +kernel
theorem dX0_copyFrom_31 : decode cX0_copyFrom 31 = .ok (.if_icmp .ge 37, 3) := by decide +kernel
theorem dX0_copyFrom_34 : decode cX0_copyFrom 34 = .ok (.aload_n 1, 1) := by decide +kernel
theorem dX0_copyFrom_35 : decode cX0_copyFrom 35 = .ok (.iload_n 2, 1) := by decide +kernel
theorem dX0_copyFrom_36 : decode cX0_copyFrom 36 = .ok (.invokevirtual 39, 3) := by decide +kernel
theorem dX0_copyFrom_39 : decode cX0_copyFrom 39 = .ok (.astore_n 3, 1) := by decide +kernel
theorem dX0_copyFrom_40 : decode cX0_copyFrom 40 = .ok (.aload_n 0, 1) := by decide +kernel
theorem dX0_copyFrom_41 : decode cX0_copyFrom 41 = .ok (.iload_n 2, 1) := by decide +kernel
theorem dX0_copyFrom_42 : decode cX0_copyFrom 42 = .ok (.invokevirtual 39, 3) := by decide +kernel
theorem dX0_copyFrom_45 : decode cX0_copyFrom 45 = .ok (.astore 4, 2) := by decide +kernel
theorem dX0_copyFrom_47 : decode cX0_copyFrom 47 = .ok (.aload_n 3, 1) := by decide +kernel
theorem dX0_copyFrom_48 : decode cX0_copyFrom 48 = .ok (.ifnull 14, 3) := by decide +kernel
theorem dX0_copyFrom_51 : decode cX0_copyFrom 51 = .ok (.aload 4, 2) := by decide +kernel
theorem dX0_copyFrom_53 : decode cX0_copyFrom 53 = .ok (.ifnull 9, 3) := by decide +kernel
theorem dX0_copyFrom_56 : decode cX0_copyFrom 56 = .ok (.aload 4, 2) := by decide +kernel
theorem dX0_copyFrom_58 : decode cX0_copyFrom 58 = .ok (.aload_n 3, 1) := by decide +kernel
theorem dX0_copyFrom_59 : decode cX0_copyFrom 59 = .ok (.invokevirtual 43, 3) := by decide +kernel
theorem dX0_copyFrom_62 : decode cX0_copyFrom 62 = .ok (.iinc 2 1, 3) := by decide +kernel
theorem dX0_copyFrom_65 : decode cX0_copyFrom 65 = .ok (.goto (-39), 3) := by decide +kernel
theorem dX0_copyFrom_68 : decode cX0_copyFrom 68 = .ok (.return_, 1) := by decide +kernel
theorem dX1_init_0 : decode cX1_init 0 = .ok (.aload_n 0, 1) := by decide +kernel
theorem dX1_init_1 : decode cX1_init 1 = .ok (.invokespecial 1, 3) := by decide +kernel
theorem dX1_init_4 : decode cX1_init 4 = .ok (.aload_n 0, 1) := by decide +kernel
theorem dX1_init_5 : decode cX1_init 5 = .ok (.iconst 1, 1) := by decide +kernel
theorem dX1_init_6 : decode cX1_init 6 = .ok (.putfield 7, 3) := by decide +kernel
theorem dX1_init_9 : decode cX1_init 9 = .ok (.aload_n 0, 1) := by decide +kernel
theorem dX1_init_10 : decode cX1_init 10 = .ok (.iconst 1, 1) := by decide +kernel
theorem dX1_init_11 : decode cX1_init 11 = .ok (.putfield 13, 3) := by decide +kernel
theorem dX1_init_14 : decode cX1_init 14 = .ok (.aload_n 0, 1) := by decide +kernel
theorem dX1_init_15 : decode cX1_init 15 = .ok (.iconst 1, 1) := by decide +kernel
theorem dX1_init_16 : decode cX1_init 16 = .ok (.putfield 16, 3) := by decide +kernel
theorem dX1_init_19 : decode cX1_init 19 = .ok (.aload_n 0, 1) := by decide +kernel
theorem dX1_init_20 : decode cX1_init 20 = .ok (.iconst 1, 1) := by decide +kernel
theorem dX1_init_21 : decode cX1_init 21 = .ok (.putfield 19, 3) := by decide +kernel
theorem dX1_init_24 : decode cX1_init 24 = .ok (.return_, 1) := by decide +kernel
theorem dX1_tell_0 : decode cX1_tell 0 = .ok (.aload_n 0, 1) := by decide +kernel
theorem dX1_tell_1 : decode cX1_tell 1 = .ok (.aload_n 1, 1) := by decide +kernel
theorem dX1_tell_2 : decode cX1_tell 2 = .ok (.iconst 0, 1) := by decide +kernel
theorem dX1_tell_3 : decode cX1_tell 3 = .ok (.invokestatic 22, 3) := by decide +kernel
theorem dX1_tell_6 : decode cX1_tell 6 = .ok (.putfield 7, 3) := by decide +kernel
theorem dX1_tell_9 : decode cX1_tell 9 = .ok (.aload_n 0, 1) := by decide +kernel
theorem dX1_tell_10 : decode cX1_tell 10 = .ok (.aload_n 1, 1) := by decide +kernel
theorem dX1_tell_11 : decode cX1_tell 11 = .ok (.iconst 1, 1) := by decide +kernel
theorem dX1_tell_12 : decode cX1_tell 12 = .ok (.invokestatic 22, 3) := by decide +kernel
theorem dX1_tell_15 : decode cX1_tell 15 = .ok (.putfield 13, 3) := by decide +kernel
theorem dX1_tell_18 : decode cX1_tell 18 = .ok (.aload_n 0, 1) := by decide +kernel
theorem dX1_tell_19 : decode cX1_tell 19 = .ok (.aload_n 1, 1) := by decide +kernel
theorem dX1_tell_20 : decode cX1_tell 20 = .ok (.iconst 2, 1) := by decide +kernel
theorem dX1_tell_21 : decode cX1_tell 21 = .ok (.invokestatic 22, 3) := by decide +kernel
theorem dX1_tell_24 : decode cX1_tell 24 = .ok (.iconst 1, 1) := by decide +kernel
theorem dX1_tell_25 : decode cX1_tell 25 = .ok (.if_icmp .ne 7, 3) := by decide +kernel
theorem dX1_tell_28 : decode cX1_tell 28 = .ok (.iconst 1, 1) := by decide +kernel
theorem dX1_tell_29 : decode cX1_tell 29 = .ok (.goto 4, 3) := by decide +kernel
theorem dX1_tell_32 : decode cX1_tell 32 = .ok (.iconst 0, 1) := by decide +kernel
theorem dX1_tell_33 : decode cX1_tell 33 = .ok (.putfield 28, 3) := by decide +kernel
theorem dX1_tell_36 : decode cX1_tell 36 = .ok (.aload_n 0, 1) := by decide +kernel
theorem dX1_tell_37 : decode cX1_tell 37 = .ok (.aload_n 1, 1) := by decide +kernel
theorem dX1_tell_38 : decode cX1_tell 38 = .ok (.iconst 3, 1) := by decide +kernel
theorem dX1_tell_39 : decode cX1_tell 39 = .ok (.invokestatic 22, 3) := by decide +kernel
theorem dX1_tell_42 : decode cX1_tell 42 = .ok (.iconst 1, 1) := by decide +kernel
theorem dX1_tell_43 : decode cX1_tell 43 = .ok (.if_icmp .ne 7, 3) := by decide +kernel
theorem dX1_tell_46 : decode cX1_tell 46 = .ok (.iconst 1, 1) := by decide +kernel
theorem dX1_tell_47 : decode cX1_tell 47 = .ok (.goto 4, 3) := by decide +kernel
theorem dX1_tell_50 : decode cX1_tell 50 = .ok (.iconst 0, 1) := by decide +kernel
theorem dX1_tell_51 : decode cX1_tell 51 = .ok (.putfield 32, 3) := by decide +kernel
theorem dX1_tell_54 : decode cX1_tell 54 = .ok (.aload_n 0, 1) := by decide +kernel
theorem dX1_tell_55 : decode cX1_tell 55 = .ok (.aload_n 1, 1) := by decide +kernel
theorem dX1_tell_56 : decode cX1_tell 56 = .ok (.iconst 4, 1) := by decide +kernel
theorem dX1_tell_57 : decode cX1_tell 57 = .ok (.invokestatic 22, 3) := by decide +kernel
theorem dX1_tell_60 : decode cX1_tell 60 = .ok (.putfield 35, 3) := by decide +kernel
theorem dX1_tell_63 : decode cX1_tell 63 = .ok (.aload_n 0, 1) := by decide +kernel
theorem dX1_tell_64 : decode cX1_tell 64 = .ok (.aload_n 0, 1) := by decide +kernel
theorem dX1_tell_65 : decode cX1_tell 65 = .ok (.getfield 28, 3) := by decide +kernel
theorem dX1_tell_68 : decode cX1_tell 68 = .ok (.ifCond .eq 14, 3) := by decide +kernel
theorem dX1_tell_71 : decode cX1_tell 71 = .ok (.aload_n 0, 1) := by decide +kernel
theorem dX1_tell_72 : decode cX1_tell 72 = .ok (.getfield 7, 3) := by decide +kernel
theorem dX1_tell_75 : decode cX1_tell 75 = .ok (.iconst 1, 1) := by decide +kernel
theorem dX1_tell_76 : decode cX1_tell 76 = .ok (.iadd, 1) := by decide +kernel
theorem dX1_tell_77 : decode cX1_tell 77 = .ok (.iconst 2, 1) := by decide +kernel
theorem dX1_tell_78 : decode cX1_tell 78 = .ok (.idiv, 1) := by decide +kernel
theorem dX1_tell_79 : decode cX1_tell 79 = .ok (.goto 7, 3) := by decide +kernel
theorem dX1_tell_82 : decode cX1_tell 82 = .ok (.aload_n 0, 1) := by decide +kernel
theorem dX1_tell_83 : decode cX1_tell 83 = .ok (.getfield 7, 3) := by decide +kernel
theorem dX1_tell_86 : decode cX1_tell 86 = .ok (.putfield 16, 3) := by decide +kernel
theorem dX1_tell_89 : decode cX1_tell 89 = .ok (.aload_n 0, 1) := by decide +kernel
theorem dX1_tell_90 : decode cX1_tell 90 = .ok (.aload_n 0, 1) := by decide +kernel
theorem dX1_tell_91 : decode cX1_tell 91 = .ok (.getfield 32, 3) := by decide +kernel
theorem dX1_tell_94 : decode cX1_tell 94 = .ok (.ifCond .eq 10, 3) := by decide +kernel
theorem dX1_tell_97 : decode cX1_tell 97 = .ok (.aload_n 0, 1) := by decide +kernel
theorem dX1_tell_98 : decode cX1_tell 98 = .ok (.getfield 16, 3) := by decide +kernel
theorem dX1_tell_101 : decode cX1_tell 101 = .ok (.goto 7, 3) := by decide +kernel
theorem dX1_tell_104 : decode cX1_tell 104 = .ok (.aload_n 0, 1) := by decide +kernel
theorem dX1_tell_105 : decode cX1_tell 105 = .ok (.getfield 13, 3) := by decide +kernel
theorem dX1_tell_108 : decode cX1_tell 108 = .ok (.putfield 19, 3) := by decide +kernel
theorem dX1_tell_111 : decode cX1_tell 111 = .ok (.return_, 1) := by decide +kernel
theorem dX1_all_0 : decode cX1_all 0 = .ok (.aload_n 0, 1) := by decide +kernel
theorem dX1_all_1 : decode cX1_all 1 = .ok (.getfield 16, 3) := by decide +kernel
theorem dX1_all_4 : decode cX1_all 4 = .ok (.aload_n 0, 1) := by decide +kernel
theorem dX1_all_5 : decode cX1_all 5 = .ok (.getfield 13, 3) := by decide +kernel
theorem dX1_all_8 : decode cX1_all 8 = .ok (.imul, 1) := by decide +kernel
theorem dX1_all_9 : decode cX1_all 9 = .ok (.ireturn, 1) := by decide +kernel
theorem dX1_hasSheet_0 : decode cX1_hasSheet 0 = .ok (.iload_n 1, 1) := by decide +kernel
theorem dX1_hasSheet_1 : decode cX1_hasSheet 1 = .ok (.ifCond .lt 15, 3) := by decide +kernel
theorem dX1_hasSheet_4 : decode cX1_hasSheet 4 = .ok (.iload_n 1, 1) := by decide +kernel
theorem dX1_hasSheet_5 : decode cX1_hasSheet 5 = .ok (.aload_n 0, 1) := by decide +kernel
theorem dX1_hasSheet_6 : decode cX1_hasSheet 6 = .ok (.invokevirtual 38, 3) := by decide +kernel
theorem dX1_hasSheet_9 : decode cX1_hasSheet 9 = .ok (.if_icmp .ge 7, 3) := by decide +kernel
theorem dX1_hasSheet_12 : decode cX1_hasSheet 12 = .ok (.iconst 1, 1) := by decide +kernel
theorem dX1_hasSheet_13 : decode cX1_hasSheet 13 = .ok (.goto 4, 3) := by decide +kernel
theorem dX1_hasSheet_16 : decode cX1_hasSheet 16 = .ok (.iconst 0, 1) := by decide +kernel
theorem dX1_hasSheet_17 : decode cX1_hasSheet 17 = .ok (.ireturn, 1) := by decide +kernel
theorem dX1_hasPage_0 : decode cX1_hasPage 0 = .ok (.iload_n 1, 1) := by decide +kernel
theorem dX1_hasPage_1 : decode cX1_hasPage 1 = .ok (.iconst 1, 1) := by decide +kernel
theorem dX1_hasPage_2 : decode cX1_hasPage 2 = .ok (.if_icmp .lt 15, 3) := by decide +kernel
theorem dX1_hasPage_5 : decode cX1_hasPage 5 = .ok (.iload_n 1, 1) := by decide +kernel
theorem dX1_hasPage_6 : decode cX1_hasPage 6 = .ok (.aload_n 0, 1) := by decide +kernel
theorem dX1_hasPage_7 : decode cX1_hasPage 7 = .ok (.getfield 7, 3) := by decide +kernel
theorem dX1_hasPage_10 : decode cX1_hasPage 10 = .ok (.if_icmp .gt 7, 3) := by decide +kernel
theorem dX1_hasPage_13 : decode cX1_hasPage 13 = .ok (.iconst 1, 1) := by decide +kernel
theorem dX1_hasPage_14 : decode cX1_hasPage 14 = .ok (.goto 4, 3) := by decide +kernel
theorem dX1_hasPage_17 : decode cX1_hasPage 17 = .ok (.iconst 0, 1) := by decide +kernel
theorem dX1_hasPage_18 : decode cX1_hasPage 18 = .ok (.ireturn, 1) := by decide +kernel
theorem dX1_copyOf_0 : decode cX1_copyOf 0 = .ok (.aload_n 0, 1) := by decide +kernel
theorem dX1_copyOf_1 : decode cX1_copyOf 1 = .ok (.getfield 19, 3) := by decide +kernel
theorem dX1_copyOf_4 : decode cX1_copyOf 4 = .ok (.ifCond .gt 5, 3) := by decide +kernel
theorem dX1_copyOf_7 : decode cX1_copyOf 7 = .ok (.iconst 0, 1) := by decide +kernel
theorem dX1_copyOf_8 : decode cX1_copyOf 8 = .ok (.ireturn, 1) := by decide +kernel
theorem dX1_copyOf_9 : decode cX1_copyOf 9 = .ok (.aload_n 0, 1) := by decide +kernel
theorem dX1_copyOf_10 : decode cX1_copyOf 10 = .ok (.getfield 32, 3) := by decide +kernel
theorem dX1_copyOf_13 : decode cX1_copyOf 13 = .ok (.ifCond .eq 12, 3) := by decide +kernel
theorem dX1_copyOf_16 : decode cX1_copyOf 16 = .ok (.iload_n 1, 1) := by decide +kernel
theorem dX1_copyOf_17 : decode cX1_copyOf 17 = .ok (.aload_n 0, 1) := by decide +kernel
theorem dX1_copyOf_18 : decode cX1_copyOf 18 = .ok (.getfield 19, 3) := by decide +kernel
theorem dX1_copyOf_21 : decode cX1_copyOf 21 = .ok (.idiv, 1) := by decide +kernel
theorem dX1_copyOf_22 : decode cX1_copyOf 22 = .ok (.goto 9, 3) := by decide +kernel
theorem dX1_copyOf_25 : decode cX1_copyOf 25 = .ok (.iload_n 1, 1) := by decide +kernel
theorem dX1_copyOf_26 : decode cX1_copyOf 26 = .ok (.aload_n 0, 1) := by decide +kernel
theorem dX1_copyOf_27 : decode cX1_copyOf 27 = .ok (.getfield 19, 3) := by decide +kernel
theorem dX1_copyOf_30 : decode cX1_copyOf 30 = .ok (.irem, 1) := by decide +kernel
theorem dX1_copyOf_31 : decode cX1_copyOf 31 = .ok (.ireturn, 1) := by decide +kernel
theorem dX1_leafOf_0 : decode cX1_leafOf 0 = .ok (.aload_n 0, 1) := by decide +kernel
theorem dX1_leafOf_1 : decode cX1_leafOf 1 = .ok (.getfield 19, 3) := by decide +kernel
theorem dX1_leafOf_4 : decode cX1_leafOf 4 = .ok (.ifCond .gt 5, 3) := by decide +kernel
theorem dX1_leafOf_7 : decode cX1_leafOf 7 = .ok (.iconst 0, 1) := by decide +kernel
theorem dX1_leafOf_8 : decode cX1_leafOf 8 = .ok (.ireturn, 1) := by decide +kernel
theorem dX1_leafOf_9 : decode cX1_leafOf 9 = .ok (.aload_n 0, 1) := by decide +kernel
theorem dX1_leafOf_10 : decode cX1_leafOf 10 = .ok (.getfield 32, 3) := by decide +kernel
theorem dX1_leafOf_13 : decode cX1_leafOf 13 = .ok (.ifCond .eq 12, 3) := by decide +kernel
theorem dX1_leafOf_16 : decode cX1_leafOf 16 = .ok (.iload_n 1, 1) := by decide +kernel
theorem dX1_leafOf_17 : decode cX1_leafOf 17 = .ok (.aload_n 0, 1) := by decide +kernel
theorem dX1_leafOf_18 : decode cX1_leafOf 18 = .ok (.getfield 19, 3) := by decide +kernel
theorem dX1_leafOf_21 : decode cX1_leafOf 21 = .ok (.irem, 1) := by decide +kernel
theorem dX1_leafOf_22 : decode cX1_leafOf 22 = .ok (.goto 9, 3) := by decide +kernel
theorem dX1_leafOf_25 : decode cX1_leafOf 25 = .ok (.iload_n 1, 1) := by decide +kernel
theorem dX1_leafOf_26 : decode cX1_leafOf 26 = .ok (.aload_n 0, 1) := by decide +kernel
theorem dX1_leafOf_27 : decode cX1_leafOf 27 = .ok (.getfield 19, 3) := by decide +kernel
theorem dX1_leafOf_30 : decode cX1_leafOf 30 = .ok (.idiv, 1) := by decide +kernel
theorem dX1_leafOf_31 : decode cX1_leafOf 31 = .ok (.ireturn, 1) := by decide +kernel
theorem dX1_frontOf_0 : decode cX1_frontOf 0 = .ok (.aload_n 0, 1) := by decide +kernel
theorem dX1_frontOf_1 : decode cX1_frontOf 1 = .ok (.getfield 28, 3) := by decide +kernel
theorem dX1_frontOf_4 : decode cX1_frontOf 4 = .ok (.ifCond .eq 15, 3) := by decide +kernel
theorem dX1_frontOf_7 : decode cX1_frontOf 7 = .ok (.iconst 2, 1) := by decide +kernel
theorem dX1_frontOf_8 : decode cX1_frontOf 8 = .ok (.aload_n 0, 1) := by decide +kernel
theorem dX1_frontOf_9 : decode cX1_frontOf 9 = .ok (.iload_n 1, 1) := by decide +kernel
theorem dX1_frontOf_10 : decode cX1_frontOf 10 = .ok (.invokevirtual 42, 3) := by decide +kernel
theorem dX1_frontOf_13 : decode cX1_frontOf 13 = .ok (.imul, 1) := by decide +kernel
theorem dX1_frontOf_14 : decode cX1_frontOf 14 = .ok (.iconst 1, 1) := by decide +kernel
theorem dX1_frontOf_15 : decode cX1_frontOf 15 = .ok (.iadd, 1) := by decide +kernel
theorem dX1_frontOf_16 : decode cX1_frontOf 16 = .ok (.goto 10, 3) := by decide +kernel
theorem dX1_frontOf_19 : decode cX1_frontOf 19 = .ok (.aload_n 0, 1) := by decide +kernel
theorem dX1_frontOf_20 : decode cX1_frontOf 20 = .ok (.iload_n 1, 1) := by decide +kernel
theorem dX1_frontOf_21 : decode cX1_frontOf 21 = .ok (.invokevirtual 42, 3) := by decide +kernel
theorem dX1_frontOf_24 : decode cX1_frontOf 24 = .ok (.iconst 1, 1) := by decide +kernel
theorem dX1_frontOf_25 : decode cX1_frontOf 25 = .ok (.iadd, 1) := by decide +kernel
theorem dX1_frontOf_26 : decode cX1_frontOf 26 = .ok (.ireturn, 1) := by decide +kernel
theorem dX1_backOf_0 : decode cX1_backOf 0 = .ok (.iconst 2, 1) := by decide +kernel
theorem dX1_backOf_1 : decode cX1_backOf 1 = .ok (.aload_n 0, 1) := by decide +kernel
theorem dX1_backOf_2 : decode cX1_backOf 2 = .ok (.iload_n 1, 1) := by decide +kernel
theorem dX1_backOf_3 : decode cX1_backOf 3 = .ok (.invokevirtual 42, 3) := by decide +kernel
theorem dX1_backOf_6 : decode cX1_backOf 6 = .ok (.imul, 1) := by decide +kernel
theorem dX1_backOf_7 : decode cX1_backOf 7 = .ok (.iconst 2, 1) := by decide +kernel
theorem dX1_backOf_8 : decode cX1_backOf 8 = .ok (.iadd, 1) := by decide +kernel
theorem dX1_backOf_9 : decode cX1_backOf 9 = .ok (.istore_n 2, 1) := by decide +kernel
theorem dX1_backOf_10 : decode cX1_backOf 10 = .ok (.aload_n 0, 1) := by decide +kernel
theorem dX1_backOf_11 : decode cX1_backOf 11 = .ok (.getfield 28, 3) := by decide +kernel
theorem dX1_backOf_14 : decode cX1_backOf 14 = .ok (.ifCond .eq 15, 3) := by decide +kernel
theorem dX1_backOf_17 : decode cX1_backOf 17 = .ok (.iload_n 2, 1) := by decide +kernel
theorem dX1_backOf_18 : decode cX1_backOf 18 = .ok (.aload_n 0, 1) := by decide +kernel
theorem dX1_backOf_19 : decode cX1_backOf 19 = .ok (.getfield 7, 3) := by decide +kernel
theorem dX1_backOf_22 : decode cX1_backOf 22 = .ok (.if_icmp .gt 7, 3) := by decide +kernel
theorem dX1_backOf_25 : decode cX1_backOf 25 = .ok (.iload_n 2, 1) := by decide +kernel
theorem dX1_backOf_26 : decode cX1_backOf 26 = .ok (.goto 4, 3) := by decide +kernel
theorem dX1_backOf_29 : decode cX1_backOf 29 = .ok (.iconst 0, 1) := by decide +kernel
theorem dX1_backOf_30 : decode cX1_backOf 30 = .ok (.ireturn, 1) := by decide +kernel
theorem dX1_sidesOf_0 : decode cX1_sidesOf 0 = .ok (.aload_n 0, 1) := by decide +kernel
theorem dX1_sidesOf_1 : decode cX1_sidesOf 1 = .ok (.iload_n 1, 1) := by decide +kernel
theorem dX1_sidesOf_2 : decode cX1_sidesOf 2 = .ok (.invokevirtual 46, 3) := by decide +kernel
theorem dX1_sidesOf_5 : decode cX1_sidesOf 5 = .ok (.ifCond .ne 7, 3) := by decide +kernel
theorem dX1_sidesOf_8 : decode cX1_sidesOf 8 = .ok (.iconst 1, 1) := by decide +kernel
theorem dX1_sidesOf_9 : decode cX1_sidesOf 9 = .ok (.goto 4, 3) := by decide +kernel
theorem dX1_sidesOf_12 : decode cX1_sidesOf 12 = .ok (.iconst 2, 1) := by decide +kernel
theorem dX1_sidesOf_13 : decode cX1_sidesOf 13 = .ok (.ireturn, 1) := by decide +kernel
theorem dX1_sheetWith_0 : decode cX1_sheetWith 0 = .ok (.aload_n 0, 1) := by decide +kernel
theorem dX1_sheetWith_1 : decode cX1_sheetWith 1 = .ok (.getfield 28, 3) := by decide +kernel
theorem dX1_sheetWith_4 : decode cX1_sheetWith 4 = .ok (.ifCond .eq 11, 3) := by decide +kernel
theorem dX1_sheetWith_7 : decode cX1_sheetWith 7 = .ok (.iload_n 1, 1) := by decide +kernel
theorem dX1_sheetWith_8 : decode cX1_sheetWith 8 = .ok (.iconst 1, 1) := by decide +kernel
theorem dX1_sheetWith_9 : decode cX1_sheetWith 9 = .ok (.isub, 1) := by decide +kernel
theorem dX1_sheetWith_10 : decode cX1_sheetWith 10 = .ok (.iconst 2, 1) := by decide +kernel
theorem dX1_sheetWith_11 : decode cX1_sheetWith 11 = .ok (.idiv, 1) := by decide +kernel
theorem dX1_sheetWith_12 : decode cX1_sheetWith 12 = .ok (.goto 6, 3) := by decide +kernel
theorem dX1_sheetWith_15 : decode cX1_sheetWith 15 = .ok (.iload_n 1, 1) := by decide +kernel
theorem dX1_sheetWith_16 : decode cX1_sheetWith 16 = .ok (.iconst 1, 1) := by decide +kernel
theorem dX1_sheetWith_17 : decode cX1_sheetWith 17 = .ok (.isub, 1) := by decide +kernel
theorem dX1_sheetWith_18 : decode cX1_sheetWith 18 = .ok (.istore_n 3, 1) := by decide +kernel
theorem dX1_sheetWith_19 : decode cX1_sheetWith 19 = .ok (.aload_n 0, 1) := by decide +kernel
theorem dX1_sheetWith_20 : decode cX1_sheetWith 20 = .ok (.getfield 32, 3) := by decide +kernel
theorem dX1_sheetWith_23 : decode cX1_sheetWith 23 = .ok (.ifCond .eq 14, 3) := by decide +kernel
theorem dX1_sheetWith_26 : decode cX1_sheetWith 26 = .ok (.iload_n 2, 1) := by decide +kernel
theorem dX1_sheetWith_27 : decode cX1_sheetWith 27 = .ok (.aload_n 0, 1) := by decide +kernel
theorem dX1_sheetWith_28 : decode cX1_sheetWith 28 = .ok (.getfield 16, 3) := by decide +kernel
theorem dX1_sheetWith_31 : decode cX1_sheetWith 31 = .ok (.imul, 1) := by decide +kernel
theorem dX1_sheetWith_32 : decode cX1_sheetWith 32 = .ok (.iload_n 3, 1) := by decide +kernel
theorem dX1_sheetWith_33 : decode cX1_sheetWith 33 = .ok (.iadd, 1) := by decide +kernel
theorem dX1_sheetWith_34 : decode cX1_sheetWith 34 = .ok (.goto 11, 3) := by decide +kernel
theorem dX1_sheetWith_37 : decode cX1_sheetWith 37 = .ok (.iload_n 3, 1) := by decide +kernel
theorem dX1_sheetWith_38 : decode cX1_sheetWith 38 = .ok (.aload_n 0, 1) := by decide +kernel
theorem dX1_sheetWith_39 : decode cX1_sheetWith 39 = .ok (.getfield 13, 3) := by decide +kernel
theorem dX1_sheetWith_42 : decode cX1_sheetWith 42 = .ok (.imul, 1) := by decide +kernel
theorem dX1_sheetWith_43 : decode cX1_sheetWith 43 = .ok (.iload_n 2, 1) := by decide +kernel
theorem dX1_sheetWith_44 : decode cX1_sheetWith 44 = .ok (.iadd, 1) := by decide +kernel
theorem dX1_sheetWith_45 : decode cX1_sheetWith 45 = .ok (.ireturn, 1) := by decide +kernel
theorem dX2_init_0 : decode cX2_init 0 = .ok (.aload_n 0, 1) := by decide +kernel
theorem dX2_init_1 : decode cX2_init 1 = .ok (.invokespecial 3, 3) := by decide +kernel
theorem dX2_init_4 : decode cX2_init 4 = .ok (.aload_n 0, 1) := by decide +kernel
theorem dX2_init_5 : decode cX2_init 5 = .ok (.bipush 6, 2) := by decide +kernel
theorem dX2_init_7 : decode cX2_init 7 = .ok (.newarray .int, 2) := by decide +kernel
theorem dX2_init_9 : decode cX2_init 9 = .ok (.putfield 9, 3) := by decide +kernel
theorem dX2_init_12 : decode cX2_init 12 = .ok (.aload_n 0, 1) := by decide +kernel
theorem dX2_init_13 : decode cX2_init 13 = .ok (.bipush 6, 2) := by decide +kernel
theorem dX2_init_15 : decode cX2_init 15 = .ok (.newarray .int, 2) := by decide +kernel
theorem dX2_init_17 : decode cX2_init 17 = .ok (.putfield 15, 3) := by decide +kernel
theorem dX2_init_20 : decode cX2_init 20 = .ok (.aload_n 0, 1) := by decide +kernel
theorem dX2_init_21 : decode cX2_init 21 = .ok (.bipush 6, 2) := by decide +kernel
theorem dX2_init_23 : decode cX2_init 23 = .ok (.newarray .int, 2) := by decide +kernel
theorem dX2_init_25 : decode cX2_init 25 = .ok (.putfield 18, 3) := by decide +kernel
theorem dX2_init_28 : decode cX2_init 28 = .ok (.aload_n 0, 1) := by decide +kernel
theorem dX2_init_29 : decode cX2_init 29 = .ok (.iconst 3, 1) := by decide +kernel
theorem dX2_init_30 : decode cX2_init 30 = .ok (.newarray .int, 2) := by decide +kernel
theorem dX2_init_32 : decode cX2_init 32 = .ok (.putfield 21, 3) := by decide +kernel
theorem dX2_init_35 : decode cX2_init 35 = .ok (.aload_n 0, 1) := by decide +kernel
theorem dX2_init_36 : decode cX2_init 36 = .ok (.bipush 6, 2) := by decide +kernel
theorem dX2_init_38 : decode cX2_init 38 = .ok (.newarray .int, 2) := by decide +kernel
theorem dX2_init_40 : decode cX2_init 40 = .ok (.putfield 24, 3) := by decide +kernel
theorem dX2_init_43 : decode cX2_init 43 = .ok (.return_, 1) := by decide +kernel
theorem dX2_begin_0 : decode cX2_begin 0 = .ok (.aload_n 0, 1) := by decide +kernel
theorem dX2_begin_1 : decode cX2_begin 1 = .ok (.iconst 0, 1) := by decide +kernel
theorem dX2_begin_2 : decode cX2_begin 2 = .ok (.putfield 27, 3) := by decide +kernel
theorem dX2_begin_5 : decode cX2_begin 5 = .ok (.aload_n 0, 1) := by decide +kernel
theorem dX2_begin_6 : decode cX2_begin 6 = .ok (.aload_n 1, 1) := by decide +kernel
theorem dX2_begin_7 : decode cX2_begin 7 = .ok (.getfield 31, 3) := by decide +kernel
theorem dX2_begin_10 : decode cX2_begin 10 = .ok (.putfield 36, 3) := by decide +kernel
theorem dX2_begin_13 : decode cX2_begin 13 = .ok (.aload_n 0, 1) := by decide +kernel
theorem dX2_begin_14 : decode cX2_begin 14 = .ok (.iconst 0, 1) := by decide +kernel
theorem dX2_begin_15 : decode cX2_begin 15 = .ok (.putfield 37, 3) := by decide +kernel
theorem dX2_begin_18 : decode cX2_begin 18 = .ok (.aload_n 0, 1) := by decide +kernel
theorem dX2_begin_19 : decode cX2_begin 19 = .ok (.aload_n 1, 1) := by decide +kernel
theorem dX2_begin_20 : decode cX2_begin 20 = .ok (.getfield 41, 3) := by decide +kernel
theorem dX2_begin_23 : decode cX2_begin 23 = .ok (.putfield 44, 3) := by decide +kernel
theorem dX2_begin_26 : decode cX2_begin 26 = .ok (.iconst 0, 1) := by decide +kernel
theorem dX2_begin_27 : decode cX2_begin 27 = .ok (.istore_n 2, 1) := by decide +kernel
theorem dX2_begin_28 : decode cX2_begin 28 = .ok (.iload_n 2, 1) := by decide +kernel
theorem dX2_begin_29 : decode cX2_begin 29 = .ok (.aload_n 0, 1) := by decide +kernel
theorem dX2_begin_30 : decode cX2_begin 30 = .ok (.getfield 9, 3) := by decide +kernel
theorem dX2_begin_33 : decode cX2_begin 33 = .ok (.arraylength, 1) := by decide +kernel
theorem dX2_begin_34 : decode cX2_begin 34 = .ok (.if_icmp .ge 16, 3) := by decide +kernel
theorem dX2_begin_37 : decode cX2_begin 37 = .ok (.aload_n 0, 1) := by decide +kernel
theorem dX2_begin_38 : decode cX2_begin 38 = .ok (.getfield 9, 3) := by decide +kernel
theorem dX2_begin_41 : decode cX2_begin 41 = .ok (.iload_n 2, 1) := by decide +kernel
theorem dX2_begin_42 : decode cX2_begin 42 = .ok (.iload_n 2, 1) := by decide +kernel
theorem dX2_begin_43 : decode cX2_begin 43 = .ok (.iastore, 1) := by decide +kernel
theorem dX2_begin_44 : decode cX2_begin 44 = .ok (.iinc 2 1, 3) := by decide +kernel
theorem dX2_begin_47 : decode cX2_begin 47 = .ok (.goto (-19), 3) := by decide +kernel
theorem dX2_begin_50 : decode cX2_begin 50 = .ok (.aload_n 0, 1) := by decide +kernel
theorem dX2_begin_51 : decode cX2_begin 51 = .ok (.getfield 15, 3) := by decide +kernel
theorem dX2_begin_54 : decode cX2_begin 54 = .ok (.iconst 0, 1) := by decide +kernel
theorem dX2_begin_55 : decode cX2_begin 55 = .ok (.invokestatic 47, 3) := by decide +kernel
theorem dX2_begin_58 : decode cX2_begin 58 = .ok (.aload_n 0, 1) := by decide +kernel
theorem dX2_begin_59 : decode cX2_begin 59 = .ok (.getfield 18, 3) := by decide +kernel
theorem dX2_begin_62 : decode cX2_begin 62 = .ok (.bipush (-9), 2) := by decide +kernel
theorem dX2_begin_64 : decode cX2_begin 64 = .ok (.invokestatic 47, 3) := by decide +kernel
theorem dX2_begin_67 : decode cX2_begin 67 = .ok (.aload_n 1, 1) := by decide +kernel
theorem dX2_begin_68 : decode cX2_begin 68 = .ok (.getfield 53, 3) := by decide +kernel
theorem dX2_begin_71 : decode cX2_begin 71 = .ok (.aload_n 0, 1) := by decide +kernel
theorem dX2_begin_72 : decode cX2_begin 72 = .ok (.getfield 21, 3) := by decide +kernel
theorem dX2_begin_75 : decode cX2_begin 75 = .ok (.invokestatic 54, 3) := by decide +kernel
theorem dX2_begin_78 : decode cX2_begin 78 = .ok (.aload_n 0, 1) := by decide +kernel
theorem dX2_begin_79 : decode cX2_begin 79 = .ok (.getfield 24, 3) := by decide +kernel
theorem dX2_begin_82 : decode cX2_begin 82 = .ok (.iconst 0, 1) := by decide +kernel
theorem dX2_begin_83 : decode cX2_begin 83 = .ok (.invokestatic 47, 3) := by decide +kernel
theorem dX2_begin_86 : decode cX2_begin 86 = .ok (.return_, 1) := by decide +kernel
theorem dX2_copyFrom_0 : decode cX2_copyFrom 0 = .ok (.aload_n 0, 1) := by decide +kernel
theorem dX2_copyFrom_1 : decode cX2_copyFrom 1 = .ok (.aload_n 1, 1) := by decide +kernel
theorem dX2_copyFrom_2 : decode cX2_copyFrom 2 = .ok (.getfield 27, 3) := by decide +kernel
theorem dX2_copyFrom_5 : decode cX2_copyFrom 5 = .ok (.putfield 27, 3) := by decide +kernel
theorem dX2_copyFrom_8 : decode cX2_copyFrom 8 = .ok (.aload_n 0, 1) := by decide +kernel
theorem dX2_copyFrom_9 : decode cX2_copyFrom 9 = .ok (.aload_n 1, 1) := by decide +kernel
theorem dX2_copyFrom_10 : decode cX2_copyFrom 10 = .ok (.getfield 36, 3) := by decide +kernel
theorem dX2_copyFrom_13 : decode cX2_copyFrom 13 = .ok (.putfield 36, 3) := by decide +kernel
theorem dX2_copyFrom_16 : decode cX2_copyFrom 16 = .ok (.aload_n 0, 1) := by decide +kernel
theorem dX2_copyFrom_17 : decode cX2_copyFrom 17 = .ok (.aload_n 1, 1) := by decide +kernel
theorem dX2_copyFrom_18 : decode cX2_copyFrom 18 = .ok (.getfield 37, 3) := by decide +kernel
theorem dX2_copyFrom_21 : decode cX2_copyFrom 21 = .ok (.putfield 37, 3) := by decide +kernel
theorem dX2_copyFrom_24 : decode cX2_copyFrom 24 = .ok (.aload_n 0, 1) := by decide +kernel
theorem dX2_copyFrom_25 : decode cX2_copyFrom 25 = .ok (.aload_n 1, 1) := by decide +kernel
theorem dX2_copyFrom_26 : decode cX2_copyFrom 26 = .ok (.getfield 44, 3) := by decide +kernel
theorem dX2_copyFrom_29 : decode cX2_copyFrom 29 = .ok (.putfield 44, 3) := by decide +kernel
theorem dX2_copyFrom_32 : decode cX2_copyFrom 32 = .ok (.aload_n 1, 1) := by decide +kernel
theorem dX2_copyFrom_33 : decode cX2_copyFrom 33 = .ok (.getfield 9, 3) := by decide +kernel
theorem dX2_copyFrom_36 : decode cX2_copyFrom 36 = .ok (.aload_n 0, 1) := by decide +kernel
theorem dX2_copyFrom_37 : decode cX2_copyFrom 37 = .ok (.getfield 9, 3) := by decide +kernel
theorem dX2_copyFrom_40 : decode cX2_copyFrom 40 = .ok (.invokestatic 54, 3) := by decide +kernel
theorem dX2_copyFrom_43 : decode cX2_copyFrom 43 = .ok (.aload_n 1, 1) := by decide +kernel
theorem dX2_copyFrom_44 : decode cX2_copyFrom 44 = .ok (.getfield 15, 3) := by decide +kernel
theorem dX2_copyFrom_47 : decode cX2_copyFrom 47 = .ok (.aload_n 0, 1) := by decide +kernel
theorem dX2_copyFrom_48 : decode cX2_copyFrom 48 = .ok (.getfield 15, 3) := by decide +kernel
theorem dX2_copyFrom_51 : decode cX2_copyFrom 51 = .ok (.invokestatic 54, 3) := by decide +kernel
theorem dX2_copyFrom_54 : decode cX2_copyFrom 54 = .ok (.aload_n 1, 1) := by decide +kernel
theorem dX2_copyFrom_55 : decode cX2_copyFrom 55 = .ok (.getfield 18, 3) := by decide +kernel
theorem dX2_copyFrom_58 : decode cX2_copyFrom 58 = .ok (.aload_n 0, 1) := by decide +kernel
theorem dX2_copyFrom_59 : decode cX2_copyFrom 59 = .ok (.getfield 18, 3) := by decide +kernel
theorem dX2_copyFrom_62 : decode cX2_copyFrom 62 = .ok (.invokestatic 54, 3) := by decide +kernel
theorem dX2_copyFrom_65 : decode cX2_copyFrom 65 = .ok (.aload_n 1, 1) := by decide +kernel
theorem dX2_copyFrom_66 : decode cX2_copyFrom 66 = .ok (.getfield 21, 3) := by decide +kernel
theorem dX2_copyFrom_69 : decode cX2_copyFrom 69 = .ok (.aload_n 0, 1) := by decide +kernel
theorem dX2_copyFrom_70 : decode cX2_copyFrom 70 = .ok (.getfield 21, 3) := by decide +kernel
theorem dX2_copyFrom_73 : decode cX2_copyFrom 73 = .ok (.invokestatic 54, 3) := by decide +kernel
theorem dX2_copyFrom_76 : decode cX2_copyFrom 76 = .ok (.aload_n 1, 1) := by decide +kernel
theorem dX2_copyFrom_77 : decode cX2_copyFrom 77 = .ok (.getfield 24, 3) := by decide +kernel
theorem dX2_copyFrom_80 : decode cX2_copyFrom 80 = .ok (.aload_n 0, 1) := by decide +kernel
theorem dX2_copyFrom_81 : decode cX2_copyFrom 81 = .ok (.getfield 24, 3) := by decide +kernel
theorem dX2_copyFrom_84 : decode cX2_copyFrom 84 = .ok (.invokestatic 54, 3) := by decide +kernel
theorem dX2_copyFrom_87 : decode cX2_copyFrom 87 = .ok (.return_, 1) := by decide +kernel
theorem dX2_madeOf_0 : decode cX2_madeOf 0 = .ok (.aload_n 0, 1) := by decide +kernel
theorem dX2_madeOf_1 : decode cX2_madeOf 1 = .ok (.getfield 15, 3) := by decide +kernel
theorem dX2_madeOf_4 : decode cX2_madeOf 4 = .ok (.iload_n 1, 1) := by decide +kernel
theorem dX2_madeOf_5 : decode cX2_madeOf 5 = .ok (.invokestatic 58, 3) := by decide +kernel
theorem dX2_madeOf_8 : decode cX2_madeOf 8 = .ok (.ireturn, 1) := by decide +kernel
theorem dX2_endOf_0 : decode cX2_endOf 0 = .ok (.aload_n 0, 1) := by decide +kernel
theorem dX2_endOf_1 : decode cX2_endOf 1 = .ok (.getfield 18, 3) := by decide +kernel
theorem dX2_endOf_4 : decode cX2_endOf 4 = .ok (.iload_n 1, 1) := by decide +kernel
theorem dX2_endOf_5 : decode cX2_endOf 5 = .ok (.invokestatic 58, 3) := by decide +kernel
theorem dX2_endOf_8 : decode cX2_endOf 8 = .ok (.ireturn, 1) := by decide +kernel
theorem dX2_firstJob_0 : decode cX2_firstJob 0 = .ok (.aload_n 0, 1) := by decide +kernel
theorem dX2_firstJob_1 : decode cX2_firstJob 1 = .ok (.getfield 44, 3) := by decide +kernel
theorem dX2_firstJob_4 : decode cX2_firstJob 4 = .ok (.ifCond .le 14, 3) := by decide +kernel
theorem dX2_firstJob_7 : decode cX2_firstJob 7 = .ok (.aload_n 0, 1) := by decide +kernel
theorem dX2_firstJob_8 : decode cX2_firstJob 8 = .ok (.getfield 9, 3) := by decide +kernel
theorem dX2_firstJob_11 : decode cX2_firstJob 11 = .ok (.iconst 0, 1) := by decide +kernel
theorem dX2_firstJob_12 : decode cX2_firstJob 12 = .ok (.invokestatic 58, 3) := by decide +kernel
theorem dX2_firstJob_15 : decode cX2_firstJob 15 = .ok (.goto 5, 3) := by decide +kernel
theorem dX2_firstJob_18 : decode cX2_firstJob 18 = .ok (.bipush (-9), 2) := by decide +kernel
theorem dX2_firstJob_20 : decode cX2_firstJob 20 = .ok (.ireturn, 1) := by decide +kernel
theorem dX2_placeOf_0 : decode cX2_placeOf 0 = .ok (.iconst 0, 1) := by decide +kernel
theorem dX2_placeOf_1 : decode cX2_placeOf 1 = .ok (.istore_n 2, 1) := by decide +kernel
theorem dX2_placeOf_2 : decode cX2_placeOf 2 = .ok (.iload_n 2, 1) := by decide +kernel
theorem dX2_placeOf_3 : decode cX2_placeOf 3 = .ok (.aload_n 0, 1) := by decide +kernel
theorem dX2_placeOf_4 : decode cX2_placeOf 4 = .ok (.getfield 44, 3) := by decide +kernel
theorem dX2_placeOf_7 : decode cX2_placeOf 7 = .ok (.if_icmp .ge 30, 3) := by decide +kernel
theorem dX2_placeOf_10 : decode cX2_placeOf 10 = .ok (.iload_n 2, 1) := by decide +kernel
theorem dX2_placeOf_11 : decode cX2_placeOf 11 = .ok (.aload_n 0, 1) := by decide +kernel
theorem dX2_placeOf_12 : decode cX2_placeOf 12 = .ok (.getfield 9, 3) := by decide +kernel
theorem dX2_placeOf_15 : decode cX2_placeOf 15 = .ok (.arraylength, 1) := by decide +kernel
theorem dX2_placeOf_16 : decode cX2_placeOf 16 = .ok (.if_icmp .ge 21, 3) := by decide +kernel
theorem dX2_placeOf_19 : decode cX2_placeOf 19 = .ok (.aload_n 0, 1) := by decide +kernel
theorem dX2_placeOf_20 : decode cX2_placeOf 20 = .ok (.getfield 9, 3) := by decide +kernel
theorem dX2_placeOf_23 : decode cX2_placeOf 23 = .ok (.iload_n 2, 1) := by decide +kernel
theorem dX2_placeOf_24 : decode cX2_placeOf 24 = .ok (.iaload, 1) := by decide +kernel
theorem dX2_placeOf_25 : decode cX2_placeOf 25 = .ok (.iload_n 1, 1) := by decide +kernel
theorem dX2_placeOf_26 : decode cX2_placeOf 26 = .ok (.if_icmp .ne 5, 3) := by decide +kernel
theorem dX2_placeOf_29 : decode cX2_placeOf 29 = .ok (.iload_n 2, 1) := by decide +kernel
theorem dX2_placeOf_30 : decode cX2_placeOf 30 = .ok (.ireturn, 1) := by decide +kernel
theorem dX2_placeOf_31 : decode cX2_placeOf 31 = .ok (.iinc 2 1, 3) := by decide +kernel
theorem dX2_placeOf_34 : decode cX2_placeOf 34 = .ok (.goto (-32), 3) := by decide +kernel
theorem dX2_placeOf_37 : decode cX2_placeOf 37 = .ok (.bipush (-9), 2) := by decide +kernel
theorem dX2_placeOf_39 : decode cX2_placeOf 39 = .ok (.ireturn, 1) := by decide +kernel
theorem dX2_comeToHead_0 : decode cX2_comeToHead 0 = .ok (.aload_n 0, 1) := by decide +kernel
theorem dX2_comeToHead_1 : decode cX2_comeToHead 1 = .ok (.iload_n 1, 1) := by decide +kernel
theorem dX2_comeToHead_2 : decode cX2_comeToHead 2 = .ok (.invokevirtual 62, 3) := by decide +kernel
theorem dX2_comeToHead_5 : decode cX2_comeToHead 5 = .ok (.istore_n 2, 1) := by decide +kernel
theorem dX2_comeToHead_6 : decode cX2_comeToHead 6 = .ok (.iload_n 2, 1) := by decide +kernel
theorem dX2_comeToHead_7 : decode cX2_comeToHead 7 = .ok (.ifCond .le 27, 3) := by decide +kernel
theorem dX2_comeToHead_10 : decode cX2_comeToHead 10 = .ok (.aload_n 0, 1) := by decide +kernel
theorem dX2_comeToHead_11 : decode cX2_comeToHead 11 = .ok (.getfield 9, 3) := by decide +kernel
theorem dX2_comeToHead_14 : decode cX2_comeToHead 14 = .ok (.iload_n 2, 1) := by decide +kernel
theorem dX2_comeToHead_15 : decode cX2_comeToHead 15 = .ok (.aload_n 0, 1) := by decide +kernel
theorem dX2_comeToHead_16 : decode cX2_comeToHead 16 = .ok (.getfield 9, 3) := by decide +kernel
theorem dX2_comeToHead_19 : decode cX2_comeToHead 19 = .ok (.iload_n 2, 1) := by decide +kernel
theorem dX2_comeToHead_20 : decode cX2_comeToHead 20 = .ok (.iconst 1, 1) := by decide +kernel
theorem dX2_comeToHead_21 : decode cX2_comeToHead 21 = .ok (.isub, 1) := by decide +kernel
theorem dX2_comeToHead_22 : decode cX2_comeToHead 22 = .ok (.invokestatic 58, 3) := by decide +kernel
theorem dX2_comeToHead_25 : decode cX2_comeToHead 25 = .ok (.invokestatic 66, 3) := by decide +kernel
theorem dX2_comeToHead_28 : decode cX2_comeToHead 28 = .ok (.iinc 2 (-1), 3) := by decide +kernel
theorem dX2_comeToHead_31 : decode cX2_comeToHead 31 = .ok (.goto (-25), 3) := by decide +kernel
theorem dX2_comeToHead_34 : decode cX2_comeToHead 34 = .ok (.aload_n 0, 1) := by decide +kernel
theorem dX2_comeToHead_35 : decode cX2_comeToHead 35 = .ok (.getfield 9, 3) := by decide +kernel
theorem dX2_comeToHead_38 : decode cX2_comeToHead 38 = .ok (.iconst 0, 1) := by decide +kernel
theorem dX2_comeToHead_39 : decode cX2_comeToHead 39 = .ok (.iload_n 1, 1) := by decide +kernel
theorem dX2_comeToHead_40 : decode cX2_comeToHead 40 = .ok (.invokestatic 66, 3) := by decide +kernel
theorem dX2_comeToHead_43 : decode cX2_comeToHead 43 = .ok (.aload_n 0, 1) := by decide +kernel
theorem dX2_comeToHead_44 : decode cX2_comeToHead 44 = .ok (.iconst 0, 1) := by decide +kernel
theorem dX2_comeToHead_45 : decode cX2_comeToHead 45 = .ok (.putfield 37, 3) := by decide +kernel
theorem dX2_comeToHead_48 : decode cX2_comeToHead 48 = .ok (.return_, 1) := by decide +kernel
theorem dX2_leaveQueue_0 : decode cX2_leaveQueue 0 = .ok (.aload_n 0, 1) := by decide +kernel
theorem dX2_leaveQueue_1 : decode cX2_leaveQueue 1 = .ok (.iload_n 1, 1) := by decide +kernel
theorem dX2_leaveQueue_2 : decode cX2_leaveQueue 2 = .ok (.invokevirtual 62, 3) := by decide +kernel
theorem dX2_leaveQueue_5 : decode cX2_leaveQueue 5 = .ok (.istore_n 2, 1) := by decide +kernel
theorem dX2_leaveQueue_6 : decode cX2_leaveQueue 6 = .ok (.iload_n 2, 1) := by decide +kernel
theorem dX2_leaveQueue_7 : decode cX2_leaveQueue 7 = .ok (.bipush (-9), 2) := by decide +kernel
theorem dX2_leaveQueue_9 : decode cX2_leaveQueue 9 = .ok (.if_icmp .ne 4, 3) := by decide +kernel
theorem dX2_leaveQueue_12 : decode cX2_leaveQueue 12 = .ok (.return_, 1) := by decide +kernel
theorem dX2_leaveQueue_13 : decode cX2_leaveQueue 13 = .ok (.iload_n 2, 1) := by decide +kernel
theorem dX2_leaveQueue_14 : decode cX2_leaveQueue 14 = .ok (.ifCond .ne 8, 3) := by decide +kernel
theorem dX2_leaveQueue_17 : decode cX2_leaveQueue 17 = .ok (.aload_n 0, 1) := by decide +kernel
theorem dX2_leaveQueue_18 : decode cX2_leaveQueue 18 = .ok (.iconst 0, 1) := by decide +kernel
theorem dX2_leaveQueue_19 : decode cX2_leaveQueue 19 = .ok (.putfield 37, 3) := by decide +kernel
theorem dX2_leaveQueue_22 : decode cX2_leaveQueue 22 = .ok (.iload_n 2, 1) := by decide +kernel
theorem dX2_leaveQueue_23 : decode cX2_leaveQueue 23 = .ok (.istore_n 3, 1) := by decide +kernel
theorem dX2_leaveQueue_24 : decode cX2_leaveQueue 24 = .ok (.iload_n 3, 1) := by decide +kernel
theorem dX2_leaveQueue_25 : decode cX2_leaveQueue 25 = .ok (.iconst 1, 1) := by decide +kernel
theorem dX2_leaveQueue_26 : decode cX2_leaveQueue 26 = .ok (.iadd, 1) := by decide +kernel
theorem dX2_leaveQueue_27 : decode cX2_leaveQueue 27 = .ok (.aload_n 0, 1) := by decide +kernel
theorem dX2_leaveQueue_28 : decode cX2_leaveQueue 28 = .ok (.getfield 44, 3) := by decide +kernel
theorem dX2_leaveQueue_31 : decode cX2_leaveQueue 31 = .ok (.if_icmp .ge 27, 3) := by decide +kernel
theorem dX2_leaveQueue_34 : decode cX2_leaveQueue 34 = .ok (.aload_n 0, 1) := by decide +kernel
theorem dX2_leaveQueue_35 : decode cX2_leaveQueue 35 = .ok (.getfield 9, 3) := by decide +kernel
theorem dX2_leaveQueue_38 : decode cX2_leaveQueue 38 = .ok (.iload_n 3, 1) := by decide +kernel
theorem dX2_leaveQueue_39 : decode cX2_leaveQueue 39 = .ok (.aload_n 0, 1) := by decide +kernel
theorem dX2_leaveQueue_40 : decode cX2_leaveQueue 40 = .ok (.getfield 9, 3) := by decide +kernel
theorem dX2_leaveQueue_43 : decode cX2_leaveQueue 43 = .ok (.iload_n 3, 1) := by decide +kernel
theorem dX2_leaveQueue_44 : decode cX2_leaveQueue 44 = .ok (.iconst 1, 1) := by decide +kernel
theorem dX2_leaveQueue_45 : decode cX2_leaveQueue 45 = .ok (.iadd, 1) := by decide +kernel
theorem dX2_leaveQueue_46 : decode cX2_leaveQueue 46 = .ok (.invokestatic 58, 3) := by decide +kernel
theorem dX2_leaveQueue_49 : decode cX2_leaveQueue 49 = .ok (.invokestatic 66, 3) := by decide +kernel
theorem dX2_leaveQueue_52 : decode cX2_leaveQueue 52 = .ok (.iinc 3 1, 3) := by decide +kernel
theorem dX2_leaveQueue_55 : decode cX2_leaveQueue 55 = .ok (.goto (-31), 3) := by decide +kernel
theorem dX2_leaveQueue_58 : decode cX2_leaveQueue 58 = .ok (.aload_n 0, 1) := by decide +kernel
theorem dX2_leaveQueue_59 : decode cX2_leaveQueue 59 = .ok (.dup, 1) := by decide +kernel
theorem dX2_leaveQueue_60 : decode cX2_leaveQueue 60 = .ok (.getfield 44, 3) := by decide +kernel
theorem dX2_leaveQueue_63 : decode cX2_leaveQueue 63 = .ok (.iconst 1, 1) := by decide +kernel
theorem dX2_leaveQueue_64 : decode cX2_leaveQueue 64 = .ok (.isub, 1) := by decide +kernel
theorem dX2_leaveQueue_65 : decode cX2_leaveQueue 65 = .ok (.putfield 44, 3) := by decide +kernel
theorem dX2_leaveQueue_68 : decode cX2_leaveQueue 68 = .ok (.return_, 1) := by decide +kernel
theorem dX2_whyStands_0 : decode cX2_whyStands 0 = .ok (.aload_n 0, 1) := by decide +kernel
theorem dX2_whyStands_1 : decode cX2_whyStands 1 = .ok (.invokevirtual 70, 3) := by decide +kernel
theorem dX2_whyStands_4 : decode cX2_whyStands 4 = .ok (.istore_n 2, 1) := by decide +kernel
theorem dX2_whyStands_5 : decode cX2_whyStands 5 = .ok (.aload_n 1, 1) := by decide +kernel
theorem dX2_whyStands_6 : decode cX2_whyStands 6 = .ok (.iload_n 2, 1) := by decide +kernel
theorem dX2_whyStands_7 : decode cX2_whyStands 7 = .ok (.invokevirtual 74, 3) := by decide +kernel
theorem dX2_whyStands_10 : decode cX2_whyStands 10 = .ok (.astore_n 3, 1) := by decide +kernel
theorem dX2_whyStands_11 : decode cX2_whyStands 11 = .ok (.aload_n 3, 1) := by decide +kernel
theorem dX2_whyStands_12 : decode cX2_whyStands 12 = .ok (.ifnonnull 5, 3) := by decide +kernel
theorem dX2_whyStands_15 : decode cX2_whyStands 15 = .ok (.iconst 0, 1) := by decide +kernel
theorem dX2_whyStands_16 : decode cX2_whyStands 16 = .ok (.ireturn, 1) := by decide +kernel
theorem dX2_whyStands_17 : decode cX2_whyStands 17 = .ok (.aload_n 0, 1) := by decide +kernel
theorem dX2_whyStands_18 : decode cX2_whyStands 18 = .ok (.iload_n 2, 1) := by decide +kernel
theorem dX2_whyStands_19 : decode cX2_whyStands 19 = .ok (.invokevirtual 78, 3) := by decide +kernel
theorem dX2_whyStands_22 : decode cX2_whyStands 22 = .ok (.istore 4, 2) := by decide +kernel
theorem dX2_whyStands_24 : decode cX2_whyStands 24 = .ok (.aload_n 0, 1) := by decide +kernel
theorem dX2_whyStands_25 : decode cX2_whyStands 25 = .ok (.getfield 21, 3) := by decide +kernel
theorem dX2_whyStands_28 : decode cX2_whyStands 28 = .ok (.aload_n 3, 1) := by decide +kernel
theorem dX2_whyStands_29 : decode cX2_whyStands 29 = .ok (.getfield 81, 3) := by decide +kernel
theorem dX2_whyStands_32 : decode cX2_whyStands 32 = .ok (.invokestatic 58, 3) := by decide +kernel
theorem dX2_whyStands_35 : decode cX2_whyStands 35 = .ok (.ifCond .gt 5, 3) := by decide +kernel
theorem dX2_whyStands_38 : decode cX2_whyStands 38 = .ok (.iconst 1, 1) := by decide +kernel
theorem dX2_whyStands_39 : decode cX2_whyStands 39 = .ok (.ireturn, 1) := by decide +kernel
theorem dX2_whyStands_40 : decode cX2_whyStands 40 = .ok (.aload_n 0, 1) := by decide +kernel
theorem dX2_whyStands_41 : decode cX2_whyStands 41 = .ok (.getfield 36, 3) := by decide +kernel
theorem dX2_whyStands_44 : decode cX2_whyStands 44 = .ok (.aload_n 3, 1) := by decide +kernel
theorem dX2_whyStands_45 : decode cX2_whyStands 45 = .ok (.iload 4, 2) := by decide +kernel
theorem dX2_whyStands_47 : decode cX2_whyStands 47 = .ok (.invokevirtual 86, 3) := by decide +kernel
theorem dX2_whyStands_50 : decode cX2_whyStands 50 = .ok (.if_icmp .ge 5, 3) := by decide +kernel
theorem dX2_whyStands_53 : decode cX2_whyStands 53 = .ok (.iconst 2, 1) := by decide +kernel
theorem dX2_whyStands_54 : decode cX2_whyStands 54 = .ok (.ireturn, 1) := by decide +kernel
theorem dX2_whyStands_55 : decode cX2_whyStands 55 = .ok (.aload_n 0, 1) := by decide +kernel
theorem dX2_whyStands_56 : decode cX2_whyStands 56 = .ok (.getfield 24, 3) := by decide +kernel
theorem dX2_whyStands_59 : decode cX2_whyStands 59 = .ok (.aload_n 1, 1) := by decide +kernel
theorem dX2_whyStands_60 : decode cX2_whyStands 60 = .ok (.aload_n 3, 1) := by decide +kernel
theorem dX2_whyStands_61 : decode cX2_whyStands 61 = .ok (.iload 4, 2) := by decide +kernel
theorem dX2_whyStands_63 : decode cX2_whyStands 63 = .ok (.invokevirtual 89, 3) := by decide +kernel
theorem dX2_whyStands_66 : decode cX2_whyStands 66 = .ok (.invokestatic 58, 3) := by decide +kernel
theorem dX2_whyStands_69 : decode cX2_whyStands 69 = .ok (.bipush 20, 2) := by decide +kernel
theorem dX2_whyStands_71 : decode cX2_whyStands 71 = .ok (.if_icmp .lt 7, 3) := by decide +kernel
theorem dX2_whyStands_74 : decode cX2_whyStands 74 = .ok (.iconst 3, 1) := by decide +kernel
theorem dX2_whyStands_75 : decode cX2_whyStands 75 = .ok (.goto 4, 3) := by decide +kernel
theorem dX2_whyStands_78 : decode cX2_whyStands 78 = .ok (.iconst 0, 1) := by decide +kernel
theorem dX2_whyStands_79 : decode cX2_whyStands 79 = .ok (.ireturn, 1) := by decide +kernel
theorem dX2_passTick_0 : decode cX2_passTick 0 = .ok (.aload_n 0, 1) := by decide +kernel
theorem dX2_passTick_1 : decode cX2_passTick 1 = .ok (.dup, 1) := by decide +kernel
theorem dX2_passTick_2 : decode cX2_passTick 2 = .ok (.getfield 27, 3) := by decide +kernel
theorem dX2_passTick_5 : decode cX2_passTick 5 = .ok (.iconst 1, 1) := by decide +kernel
theorem dX2_passTick_6 : decode cX2_passTick 6 = .ok (.iadd, 1) := by decide +kernel
theorem dX2_passTick_7 : decode cX2_passTick 7 = .ok (.putfield 27, 3) := by decide +kernel
theorem dX2_passTick_10 : decode cX2_passTick 10 = .ok (.aload_n 0, 1) := by decide +kernel
theorem dX2_passTick_11 : decode cX2_passTick 11 = .ok (.invokevirtual 70, 3) := by decide +kernel
theorem dX2_passTick_14 : decode cX2_passTick 14 = .ok (.istore_n 2, 1) := by decide +kernel
theorem dX2_passTick_15 : decode cX2_passTick 15 = .ok (.aload_n 1, 1) := by decide +kernel
theorem dX2_passTick_16 : decode cX2_passTick 16 = .ok (.iload_n 2, 1) := by decide +kernel
theorem dX2_passTick_17 : decode cX2_passTick 17 = .ok (.invokevirtual 74, 3) := by decide +kernel
theorem dX2_passTick_20 : decode cX2_passTick 20 = .ok (.astore_n 3, 1) := by decide +kernel
theorem dX2_passTick_21 : decode cX2_passTick 21 = .ok (.aload_n 3, 1) := by decide +kernel
theorem dX2_passTick_22 : decode cX2_passTick 22 = .ok (.ifnull 11, 3) := by decide +kernel
theorem dX2_passTick_25 : decode cX2_passTick 25 = .ok (.aload_n 0, 1) := by decide +kernel
theorem dX2_passTick_26 : decode cX2_passTick 26 = .ok (.aload_n 1, 1) := by decide +kernel
theorem dX2_passTick_27 : decode cX2_passTick 27 = .ok (.invokevirtual 93, 3) := by decide +kernel
theorem dX2_passTick_30 : decode cX2_passTick 30 = .ok (.ifCond .eq 5, 3) := by decide +kernel
theorem dX2_passTick_33 : decode cX2_passTick 33 = .ok (.iconst 0, 1) := by decide +kernel
theorem dX2_passTick_34 : decode cX2_passTick 34 = .ok (.ireturn, 1) := by decide +kernel
theorem dX2_passTick_35 : decode cX2_passTick 35 = .ok (.aload_n 0, 1) := by decide +kernel
theorem dX2_passTick_36 : decode cX2_passTick 36 = .ok (.getfield 37, 3) := by decide +kernel
theorem dX2_passTick_39 : decode cX2_passTick 39 = .ok (.ifCond .ne 23, 3) := by decide +kernel
theorem dX2_passTick_42 : decode cX2_passTick 42 = .ok (.aload_n 3, 1) := by decide +kernel
theorem dX2_passTick_43 : decode cX2_passTick 43 = .ok (.aload_n 0, 1) := by decide +kernel
theorem dX2_passTick_44 : decode cX2_passTick 44 = .ok (.iload_n 2, 1) := by decide +kernel
theorem dX2_passTick_45 : decode cX2_passTick 45 = .ok (.invokevirtual 78, 3) := by decide +kernel
theorem dX2_passTick_48 : decode cX2_passTick 48 = .ok (.invokevirtual 86, 3) := by decide +kernel
theorem dX2_passTick_51 : decode cX2_passTick 51 = .ok (.iconst 2, 1) := by decide +kernel
theorem dX2_passTick_52 : decode cX2_passTick 52 = .ok (.if_icmp .ne 10, 3) := by decide +kernel
theorem dX2_passTick_55 : decode cX2_passTick 55 = .ok (.aload_n 0, 1) := by decide +kernel
theorem dX2_passTick_56 : decode cX2_passTick 56 = .ok (.iconst 1, 1) := by decide +kernel
theorem dX2_passTick_57 : decode cX2_passTick 57 = .ok (.putfield 37, 3) := by decide +kernel
theorem dX2_passTick_60 : decode cX2_passTick 60 = .ok (.iconst 0, 1) := by decide +kernel
theorem dX2_passTick_61 : decode cX2_passTick 61 = .ok (.ireturn, 1) := by decide +kernel
theorem dX2_passTick_62 : decode cX2_passTick 62 = .ok (.aload_n 0, 1) := by decide +kernel
theorem dX2_passTick_63 : decode cX2_passTick 63 = .ok (.aload_n 1, 1) := by decide +kernel
theorem dX2_passTick_64 : decode cX2_passTick 64 = .ok (.aload_n 3, 1) := by decide +kernel
theorem dX2_passTick_65 : decode cX2_passTick 65 = .ok (.iload_n 2, 1) := by decide +kernel
theorem dX2_passTick_66 : decode cX2_passTick 66 = .ok (.invokevirtual 97, 3) := by decide +kernel
theorem dX2_passTick_69 : decode cX2_passTick 69 = .ok (.iconst 1, 1) := by decide +kernel
theorem dX2_passTick_70 : decode cX2_passTick 70 = .ok (.ireturn, 1) := by decide +kernel
theorem dX2_bringSheet_0 : decode cX2_bringSheet 0 = .ok (.aload_n 0, 1) := by decide +kernel
theorem dX2_bringSheet_1 : decode cX2_bringSheet 1 = .ok (.iload_n 3, 1) := by decide +kernel
theorem dX2_bringSheet_2 : decode cX2_bringSheet 2 = .ok (.invokevirtual 78, 3) := by decide +kernel
theorem dX2_bringSheet_5 : decode cX2_bringSheet 5 = .ok (.istore 4, 2) := by decide +kernel
theorem dX2_bringSheet_7 : decode cX2_bringSheet 7 = .ok (.aload_n 1, 1) := by decide +kernel
theorem dX2_bringSheet_8 : decode cX2_bringSheet 8 = .ok (.aload_n 2, 1) := by decide +kernel
theorem dX2_bringSheet_9 : decode cX2_bringSheet 9 = .ok (.iload 4, 2) := by decide +kernel
theorem dX2_bringSheet_11 : decode cX2_bringSheet 11 = .ok (.invokevirtual 89, 3) := by decide +kernel
theorem dX2_bringSheet_14 : decode cX2_bringSheet 14 = .ok (.istore 5, 2) := by decide +kernel
theorem dX2_bringSheet_16 : decode cX2_bringSheet 16 = .ok (.aload_n 0, 1) := by decide +kernel
theorem dX2_bringSheet_17 : decode cX2_bringSheet 17 = .ok (.iconst 0, 1) := by decide +kernel
theorem dX2_bringSheet_18 : decode cX2_bringSheet 18 = .ok (.putfield 37, 3) := by decide +kernel
theorem dX2_bringSheet_21 : decode cX2_bringSheet 21 = .ok (.aload_n 0, 1) := by decide +kernel
theorem dX2_bringSheet_22 : decode cX2_bringSheet 22 = .ok (.getfield 21, 3) := by decide +kernel
theorem dX2_bringSheet_25 : decode cX2_bringSheet 25 = .ok (.aload_n 2, 1) := by decide +kernel
theorem dX2_bringSheet_26 : decode cX2_bringSheet 26 = .ok (.getfield 81, 3) := by decide +kernel
theorem dX2_bringSheet_29 : decode cX2_bringSheet 29 = .ok (.aload_n 0, 1) := by decide +kernel
theorem dX2_bringSheet_30 : decode cX2_bringSheet 30 = .ok (.getfield 21, 3) := by decide +kernel
theorem dX2_bringSheet_33 : decode cX2_bringSheet 33 = .ok (.aload_n 2, 1) := by decide +kernel
theorem dX2_bringSheet_34 : decode cX2_bringSheet 34 = .ok (.getfield 81, 3) := by decide +kernel
theorem dX2_bringSheet_37 : decode cX2_bringSheet 37 = .ok (.invokestatic 58, 3) := by decide +kernel
theorem dX2_bringSheet_40 : decode cX2_bringSheet 40 = .ok (.iconst 1, 1) := by decide +kernel
theorem dX2_bringSheet_41 : decode cX2_bringSheet 41 = .ok (.isub, 1) := by decide +kernel
theorem dX2_bringSheet_42 : decode cX2_bringSheet 42 = .ok (.invokestatic 66, 3) := by decide +kernel
theorem dX2_bringSheet_45 : decode cX2_bringSheet 45 = .ok (.aload_n 0, 1) := by decide +kernel
theorem dX2_bringSheet_46 : decode cX2_bringSheet 46 = .ok (.dup, 1) := by decide +kernel
theorem dX2_bringSheet_47 : decode cX2_bringSheet 47 = .ok (.getfield 36, 3) := by decide +kernel
theorem dX2_bringSheet_50 : decode cX2_bringSheet 50 = .ok (.aload_n 2, 1) := by decide +kernel
theorem dX2_bringSheet_51 : decode cX2_bringSheet 51 = .ok (.iload 4, 2) := by decide +kernel
theorem dX2_bringSheet_53 : decode cX2_bringSheet 53 = .ok (.invokevirtual 86, 3) := by decide +kernel
theorem dX2_bringSheet_56 : decode cX2_bringSheet 56 = .ok (.isub, 1) := by decide +kernel
theorem dX2_bringSheet_57 : decode cX2_bringSheet 57 = .ok (.putfield 36, 3) := by decide +kernel
theorem dX2_bringSheet_60 : decode cX2_bringSheet 60 = .ok (.aload_n 0, 1) := by decide +kernel
theorem dX2_bringSheet_61 : decode cX2_bringSheet 61 = .ok (.getfield 24, 3) := by decide +kernel
theorem dX2_bringSheet_64 : decode cX2_bringSheet 64 = .ok (.iload 5, 2) := by decide +kernel
theorem dX2_bringSheet_66 : decode cX2_bringSheet 66 = .ok (.aload_n 0, 1) := by decide +kernel
theorem dX2_bringSheet_67 : decode cX2_bringSheet 67 = .ok (.getfield 24, 3) := by decide +kernel
theorem dX2_bringSheet_70 : decode cX2_bringSheet 70 = .ok (.iload 5, 2) := by decide +kernel
theorem dX2_bringSheet_72 : decode cX2_bringSheet 72 = .ok (.invokestatic 58, 3) := by decide +kernel
theorem dX2_bringSheet_75 : decode cX2_bringSheet 75 = .ok (.iconst 1, 1) := by decide +kernel
theorem dX2_bringSheet_76 : decode cX2_bringSheet 76 = .ok (.iadd, 1) := by decide +kernel
theorem dX2_bringSheet_77 : decode cX2_bringSheet 77 = .ok (.invokestatic 66, 3) := by decide +kernel
theorem dX2_bringSheet_80 : decode cX2_bringSheet 80 = .ok (.aload_n 0, 1) := by decide +kernel
theorem dX2_bringSheet_81 : decode cX2_bringSheet 81 = .ok (.getfield 15, 3) := by decide +kernel
theorem dX2_bringSheet_84 : decode cX2_bringSheet 84 = .ok (.iload_n 3, 1) := by decide +kernel
theorem dX2_bringSheet_85 : decode cX2_bringSheet 85 = .ok (.iload 4, 2) := by decide +kernel
theorem dX2_bringSheet_87 : decode cX2_bringSheet 87 = .ok (.iconst 1, 1) := by decide +kernel
theorem dX2_bringSheet_88 : decode cX2_bringSheet 88 = .ok (.iadd, 1) := by decide +kernel
theorem dX2_bringSheet_89 : decode cX2_bringSheet 89 = .ok (.invokestatic 66, 3) := by decide +kernel
theorem dX2_bringSheet_92 : decode cX2_bringSheet 92 = .ok (.iload 4, 2) := by decide +kernel
theorem dX2_bringSheet_94 : decode cX2_bringSheet 94 = .ok (.iconst 1, 1) := by decide +kernel
theorem dX2_bringSheet_95 : decode cX2_bringSheet 95 = .ok (.iadd, 1) := by decide +kernel
theorem dX2_bringSheet_96 : decode cX2_bringSheet 96 = .ok (.aload_n 2, 1) := by decide +kernel
theorem dX2_bringSheet_97 : decode cX2_bringSheet 97 = .ok (.invokevirtual 101, 3) := by decide +kernel
theorem dX2_bringSheet_100 : decode cX2_bringSheet 100 = .ok (.if_icmp .lt 20, 3) := by decide +kernel
theorem dX2_bringSheet_103 : decode cX2_bringSheet 103 = .ok (.aload_n 0, 1) := by decide +kernel
theorem dX2_bringSheet_104 : decode cX2_bringSheet 104 = .ok (.getfield 18, 3) := by decide +kernel
theorem dX2_bringSheet_107 : decode cX2_bringSheet 107 = .ok (.iload_n 3, 1) := by decide +kernel
theorem dX2_bringSheet_108 : decode cX2_bringSheet 108 = .ok (.aload_n 0, 1) := by decide +kernel
theorem dX2_bringSheet_109 : decode cX2_bringSheet 109 = .ok (.getfield 27, 3) := by decide +kernel
theorem dX2_bringSheet_112 : decode cX2_bringSheet 112 = .ok (.invokestatic 66, 3) := by decide +kernel
theorem dX2_bringSheet_115 : decode cX2_bringSheet 115 = .ok (.aload_n 0, 1) := by decide +kernel
theorem dX2_bringSheet_116 : decode cX2_bringSheet 116 = .ok (.iload_n 3, 1) := by decide +kernel
theorem dX2_bringSheet_117 : decode cX2_bringSheet 117 = .ok (.invokevirtual 104, 3) := by decide +kernel
theorem dX2_bringSheet_120 : decode cX2_bringSheet 120 = .ok (.return_, 1) := by decide +kernel
theorem dX2_leftOf_0 : decode cX2_leftOf 0 = .ok (.aload_n 1, 1) := by decide +kernel
theorem dX2_leftOf_1 : decode cX2_leftOf 1 = .ok (.iload_n 2, 1) := by decide +kernel
theorem dX2_leftOf_2 : decode cX2_leftOf 2 = .ok (.invokevirtual 74, 3) := by decide +kernel
theorem dX2_leftOf_5 : decode cX2_leftOf 5 = .ok (.astore_n 3, 1) := by decide +kernel
theorem dX2_leftOf_6 : decode cX2_leftOf 6 = .ok (.aload_n 3, 1) := by decide +kernel
theorem dX2_leftOf_7 : decode cX2_leftOf 7 = .ok (.ifnull 13, 3) := by decide +kernel
theorem dX2_leftOf_10 : decode cX2_leftOf 10 = .ok (.aload_n 0, 1) := by decide +kernel
theorem dX2_leftOf_11 : decode cX2_leftOf 11 = .ok (.iload_n 2, 1) := by decide +kernel
theorem dX2_leftOf_12 : decode cX2_leftOf 12 = .ok (.invokevirtual 62, 3) := by decide +kernel
theorem dX2_leftOf_15 : decode cX2_leftOf 15 = .ok (.bipush (-9), 2) := by decide +kernel
theorem dX2_leftOf_17 : decode cX2_leftOf 17 = .ok (.if_icmp .ne 5, 3) := by decide +kernel
theorem dX2_leftOf_20 : decode cX2_leftOf 20 = .ok (.iconst 0, 1) := by decide +kernel
theorem dX2_leftOf_21 : decode cX2_leftOf 21 = .ok (.ireturn, 1) := by decide +kernel
theorem dX2_leftOf_22 : decode cX2_leftOf 22 = .ok (.iconst 0, 1) := by decide +kernel
theorem dX2_leftOf_23 : decode cX2_leftOf 23 = .ok (.istore 4, 2) := by decide +kernel
theorem dX2_leftOf_25 : decode cX2_leftOf 25 = .ok (.aload_n 0, 1) := by decide +kernel
theorem dX2_leftOf_26 : decode cX2_leftOf 26 = .ok (.iload_n 2, 1) := by decide +kernel
theorem dX2_leftOf_27 : decode cX2_leftOf 27 = .ok (.invokevirtual 78, 3) := by decide +kernel
theorem dX2_leftOf_30 : decode cX2_leftOf 30 = .ok (.istore 5, 2) := by decide +kernel
theorem dX2_leftOf_32 : decode cX2_leftOf 32 = .ok (.iload 5, 2) := by decide +kernel
theorem dX2_leftOf_34 : decode cX2_leftOf 34 = .ok (.aload_n 3, 1) := by decide +kernel
theorem dX2_leftOf_35 : decode cX2_leftOf 35 = .ok (.invokevirtual 101, 3) := by decide +kernel
theorem dX2_leftOf_38 : decode cX2_leftOf 38 = .ok (.if_icmp .ge 20, 3) := by decide +kernel
theorem dX2_leftOf_41 : decode cX2_leftOf 41 = .ok (.iload 4, 2) := by decide +kernel
theorem dX2_leftOf_43 : decode cX2_leftOf 43 = .ok (.aload_n 3, 1) := by decide +kernel
theorem dX2_leftOf_44 : decode cX2_leftOf 44 = .ok (.iload 5, 2) := by decide +kernel
theorem dX2_leftOf_46 : decode cX2_leftOf 46 = .ok (.invokevirtual 86, 3) := by decide +kernel
theorem dX2_leftOf_49 : decode cX2_leftOf 49 = .ok (.iadd, 1) := by decide +kernel
theorem dX2_leftOf_50 : decode cX2_leftOf 50 = .ok (.istore 4, 2) := by decide +kernel
theorem dX2_leftOf_52 : decode cX2_leftOf 52 = .ok (.iinc 5 1, 3) := by decide +kernel
theorem dX2_leftOf_55 : decode cX2_leftOf 55 = .ok (.goto (-23), 3) := by decide +kernel
theorem dX2_leftOf_58 : decode cX2_leftOf 58 = .ok (.iload 4, 2) := by decide +kernel
theorem dX2_leftOf_60 : decode cX2_leftOf 60 = .ok (.ireturn, 1) := by decide +kernel
theorem dX2_sheetsInBins_0 : decode cX2_sheetsInBins 0 = .ok (.iconst 0, 1) := by decide +kernel
theorem dX2_sheetsInBins_1 : decode cX2_sheetsInBins 1 = .ok (.istore_n 1, 1) := by decide +kernel
theorem dX2_sheetsInBins_2 : decode cX2_sheetsInBins 2 = .ok (.iconst 0, 1) := by decide +kernel
theorem dX2_sheetsInBins_3 : decode cX2_sheetsInBins 3 = .ok (.istore_n 2, 1) := by decide +kernel
theorem dX2_sheetsInBins_4 : decode cX2_sheetsInBins 4 = .ok (.iload_n 2, 1) := by decide +kernel
theorem dX2_sheetsInBins_5 : decode cX2_sheetsInBins 5 = .ok (.aload_n 0, 1) := by decide +kernel
theorem dX2_sheetsInBins_6 : decode cX2_sheetsInBins 6 = .ok (.getfield 24, 3) := by decide +kernel
theorem dX2_sheetsInBins_9 : decode cX2_sheetsInBins 9 = .ok (.arraylength, 1) := by decide +kernel
theorem dX2_sheetsInBins_10 : decode cX2_sheetsInBins 10 = .ok (.if_icmp .ge 18, 3) := by decide +kernel
theorem dX2_sheetsInBins_13 : decode cX2_sheetsInBins 13 = .ok (.iload_n 1, 1) := by decide +kernel
theorem dX2_sheetsInBins_14 : decode cX2_sheetsInBins 14 = .ok (.aload_n 0, 1) := by decide +kernel
theorem dX2_sheetsInBins_15 : decode cX2_sheetsInBins 15 = .ok (.getfield 24, 3) := by decide +kernel
theorem dX2_sheetsInBins_18 : decode cX2_sheetsInBins 18 = .ok (.iload_n 2, 1) := by decide +kernel
theorem dX2_sheetsInBins_19 : decode cX2_sheetsInBins 19 = .ok (.iaload, 1) := by decide +kernel
theorem dX2_sheetsInBins_20 : decode cX2_sheetsInBins 20 = .ok (.iadd, 1) := by decide +kernel
theorem dX2_sheetsInBins_21 : decode cX2_sheetsInBins 21 = .ok (.istore_n 1, 1) := by decide +kernel
theorem dX2_sheetsInBins_22 : decode cX2_sheetsInBins 22 = .ok (.iinc 2 1, 3) := by decide +kernel
theorem dX2_sheetsInBins_25 : decode cX2_sheetsInBins 25 = .ok (.goto (-21), 3) := by decide +kernel
theorem dX2_sheetsInBins_28 : decode cX2_sheetsInBins 28 = .ok (.iload_n 1, 1) := by decide +kernel
theorem dX2_sheetsInBins_29 : decode cX2_sheetsInBins 29 = .ok (.ireturn, 1) := by decide +kernel
theorem dX2_trayWants_0 : decode cX2_trayWants 0 = .ok (.iconst 0, 1) := by decide +kernel
theorem dX2_trayWants_1 : decode cX2_trayWants 1 = .ok (.istore_n 3, 1) := by decide +kernel
theorem dX2_trayWants_2 : decode cX2_trayWants 2 = .ok (.iconst 0, 1) := by decide +kernel
theorem dX2_trayWants_3 : decode cX2_trayWants 3 = .ok (.istore 4, 2) := by decide +kernel
theorem dX2_trayWants_5 : decode cX2_trayWants 5 = .ok (.iload 4, 2) := by decide +kernel
theorem dX2_trayWants_7 : decode cX2_trayWants 7 = .ok (.aload_n 0, 1) := by decide +kernel
theorem dX2_trayWants_8 : decode cX2_trayWants 8 = .ok (.getfield 44, 3) := by decide +kernel
theorem dX2_trayWants_11 : decode cX2_trayWants 11 = .ok (.if_icmp .ge 57, 3) := by decide +kernel
theorem dX2_trayWants_14 : decode cX2_trayWants 14 = .ok (.aload_n 0, 1) := by decide +kernel
theorem dX2_trayWants_15 : decode cX2_trayWants 15 = .ok (.getfield 9, 3) := by decide +kernel
theorem dX2_trayWants_18 : decode cX2_trayWants 18 = .ok (.iload 4, 2) := by decide +kernel
theorem dX2_trayWants_20 : decode cX2_trayWants 20 = .ok (.invokestatic 58, 3) := by decide +kernel
theorem dX2_trayWants_23 : decode cX2_trayWants 23 = .ok (.istore 5, 2) := by decide +kernel
theorem dX2_trayWants_25 : decode cX2_trayWants 25 = .ok (.aload_n 1, 1) := by decide +kernel
theorem dX2_trayWants_26 : decode cX2_trayWants 26 = .ok (.iload 5, 2) := by decide +kernel
theorem dX2_trayWants_28 : decode cX2_trayWants 28 = .ok (.invokevirtual 74, 3) := by decide +kernel
theorem dX2_trayWants_31 : decode cX2_trayWants 31 = .ok (.astore 6, 2) := by decide +kernel
theorem dX2_trayWants_33 : decode cX2_trayWants 33 = .ok (.aload 6, 2) := by decide +kernel
theorem dX2_trayWants_35 : decode cX2_trayWants 35 = .ok (.ifnull 27, 3) := by decide +kernel
theorem dX2_trayWants_38 : decode cX2_trayWants 38 = .ok (.aload 6, 2) := by decide +kernel
theorem dX2_trayWants_40 : decode cX2_trayWants 40 = .ok (.getfield 81, 3) := by decide +kernel
theorem dX2_trayWants_43 : decode cX2_trayWants 43 = .ok (.iload_n 2, 1) := by decide +kernel
theorem dX2_trayWants_44 : decode cX2_trayWants 44 = .ok (.if_icmp .ne 18, 3) := by decide +kernel
theorem dX2_trayWants_47 : decode cX2_trayWants 47 = .ok (.iload_n 3, 1) := by decide +kernel
theorem dX2_trayWants_48 : decode cX2_trayWants 48 = .ok (.aload 6, 2) := by decide +kernel
theorem dX2_trayWants_50 : decode cX2_trayWants 50 = .ok (.invokevirtual 101, 3) := by decide +kernel
theorem dX2_trayWants_53 : decode cX2_trayWants 53 = .ok (.aload_n 0, 1) := by decide +kernel
theorem dX2_trayWants_54 : decode cX2_trayWants 54 = .ok (.iload 5, 2) := by decide +kernel
theorem dX2_trayWants_56 : decode cX2_trayWants 56 = .ok (.invokevirtual 78, 3) := by decide +kernel
theorem dX2_trayWants_59 : decode cX2_trayWants 59 = .ok (.isub, 1) := by decide +kernel
theorem dX2_trayWants_60 : decode cX2_trayWants 60 = .ok (.iadd, 1) := by decide +kernel
theorem dX2_trayWants_61 : decode cX2_trayWants 61 = .ok (.istore_n 3, 1) := by decide +kernel
theorem dX2_trayWants_62 : decode cX2_trayWants 62 = .ok (.iinc 4 1, 3) := by decide +kernel
theorem dX2_trayWants_65 : decode cX2_trayWants 65 = .ok (.goto (-60), 3) := by decide +kernel
theorem dX2_trayWants_68 : decode cX2_trayWants 68 = .ok (.iconst 0, 1) := by decide +kernel
theorem dX2_trayWants_69 : decode cX2_trayWants 69 = .ok (.iload_n 3, 1) := by decide +kernel
theorem dX2_trayWants_70 : decode cX2_trayWants 70 = .ok (.aload_n 0, 1) := by decide +kernel
theorem dX2_trayWants_71 : decode cX2_trayWants 71 = .ok (.getfield 21, 3) := by decide +kernel
theorem dX2_trayWants_74 : decode cX2_trayWants 74 = .ok (.iload_n 2, 1) := by decide +kernel
theorem dX2_trayWants_75 : decode cX2_trayWants 75 = .ok (.invokestatic 58, 3) := by decide +kernel
theorem dX2_trayWants_78 : decode cX2_trayWants 78 = .ok (.isub, 1) := by decide +kernel
theorem dX2_trayWants_79 : decode cX2_trayWants 79 = .ok (.invokestatic 108, 3) := by decide +kernel
theorem dX2_trayWants_82 : decode cX2_trayWants 82 = .ok (.ireturn, 1) := by decide +kernel
theorem dX2_tonerWants_0 : decode cX2_tonerWants 0 = .ok (.iconst 0, 1) := by decide +kernel
theorem dX2_tonerWants_1 : decode cX2_tonerWants 1 = .ok (.istore_n 2, 1) := by decide +kernel
theorem dX2_tonerWants_2 : decode cX2_tonerWants 2 = .ok (.iconst 0, 1) := by decide +kernel
theorem dX2_tonerWants_3 : decode cX2_tonerWants 3 = .ok (.istore_n 3, 1) := by decide +kernel
theorem dX2_tonerWants_4 : decode cX2_tonerWants 4 = .ok (.iload_n 3, 1) := by decide +kernel
theorem dX2_tonerWants_5 : decode cX2_tonerWants 5 = .ok (.aload_n 0, 1) := by decide +kernel
theorem dX2_tonerWants_6 : decode cX2_tonerWants 6 = .ok (.getfield 44, 3) := by decide +kernel
theorem dX2_tonerWants_9 : decode cX2_tonerWants 9 = .ok (.if_icmp .ge 25, 3) := by decide +kernel
theorem dX2_tonerWants_12 : decode cX2_tonerWants 12 = .ok (.iload_n 2, 1) := by decide +kernel
theorem dX2_tonerWants_13 : decode cX2_tonerWants 13 = .ok (.aload_n 0, 1) := by decide +kernel
theorem dX2_tonerWants_14 : decode cX2_tonerWants 14 = .ok (.aload_n 1, 1) := by decide +kernel
theorem dX2_tonerWants_15 : decode cX2_tonerWants 15 = .ok (.aload_n 0, 1) := by decide +kernel
theorem dX2_tonerWants_16 : decode cX2_tonerWants 16 = .ok (.getfield 9, 3) := by decide +kernel
theorem dX2_tonerWants_19 : decode cX2_tonerWants 19 = .ok (.iload_n 3, 1) := by decide +kernel
theorem dX2_tonerWants_20 : decode cX2_tonerWants 20 = .ok (.invokestatic 58, 3) := by decide +kernel
theorem dX2_tonerWants_23 : decode cX2_tonerWants 23 = .ok (.invokevirtual 114, 3) := by decide +kernel
theorem dX2_tonerWants_26 : decode cX2_tonerWants 26 = .ok (.iadd, 1) := by decide +kernel
theorem dX2_tonerWants_27 : decode cX2_tonerWants 27 = .ok (.istore_n 2, 1) := by decide +kernel
theorem dX2_tonerWants_28 : decode cX2_tonerWants 28 = .ok (.iinc 3 1, 3) := by decide +kernel
theorem dX2_tonerWants_31 : decode cX2_tonerWants 31 = .ok (.goto (-27), 3) := by decide +kernel
theorem dX2_tonerWants_34 : decode cX2_tonerWants 34 = .ok (.iconst 0, 1) := by decide +kernel
theorem dX2_tonerWants_35 : decode cX2_tonerWants 35 = .ok (.iload_n 2, 1) := by decide +kernel
theorem dX2_tonerWants_36 : decode cX2_tonerWants 36 = .ok (.aload_n 0, 1) := by decide +kernel
theorem dX2_tonerWants_37 : decode cX2_tonerWants 37 = .ok (.getfield 36, 3) := by decide +kernel
theorem dX2_tonerWants_40 : decode cX2_tonerWants 40 = .ok (.isub, 1) := by decide +kernel
theorem dX2_tonerWants_41 : decode cX2_tonerWants 41 = .ok (.invokestatic 108, 3) := by decide +kernel
theorem dX2_tonerWants_44 : decode cX2_tonerWants 44 = .ok (.ireturn, 1) := by decide +kernel
theorem dX3_init_0 : decode cX3_init 0 = .ok (.aload_n 0, 1) := by decide +kernel
theorem dX3_init_1 : decode cX3_init 1 = .ok (.invokespecial 3, 3) := by decide +kernel
theorem dX3_init_4 : decode cX3_init 4 = .ok (.aload_n 0, 1) := by decide +kernel
theorem dX3_init_5 : decode cX3_init 5 = .ok (.iconst 3, 1) := by decide +kernel
theorem dX3_init_6 : decode cX3_init 6 = .ok (.newarray .int, 2) := by decide +kernel
theorem dX3_init_8 : decode cX3_init 8 = .ok (.putfield 9, 3) := by decide +kernel
theorem dX3_init_11 : decode cX3_init 11 = .ok (.aload_n 0, 1) := by decide +kernel
theorem dX3_init_12 : decode cX3_init 12 = .ok (.bipush 6, 2) := by decide +kernel
theorem dX3_init_14 : decode cX3_init 14 = .ok (.anewarray 15, 3) := by decide +kernel
theorem dX3_init_17 : decode cX3_init 17 = .ok (.putfield 17, 3) := by decide +kernel
theorem dX3_init_20 : decode cX3_init 20 = .ok (.aload_n 0, 1) := by decide +kernel
theorem dX3_init_21 : decode cX3_init 21 = .ok (.getstatic 21, 3) := by decide +kernel
theorem dX3_init_24 : decode cX3_init 24 = .ok (.arraylength, 1) := by decide +kernel
theorem dX3_init_25 : decode cX3_init 25 = .ok (.newarray .int, 2) := by decide +kernel
theorem dX3_init_27 : decode cX3_init 27 = .ok (.putfield 24, 3) := by decide +kernel
theorem dX3_init_30 : decode cX3_init 30 = .ok (.iconst 0, 1) := by decide +kernel
theorem dX3_init_31 : decode cX3_init 31 = .ok (.istore_n 1, 1) := by decide +kernel
theorem dX3_init_32 : decode cX3_init 32 = .ok (.iload_n 1, 1) := by decide +kernel
theorem dX3_init_33 : decode cX3_init 33 = .ok (.aload_n 0, 1) := by decide +kernel
theorem dX3_init_34 : decode cX3_init 34 = .ok (.getfield 17, 3) := by decide +kernel
theorem dX3_init_37 : decode cX3_init 37 = .ok (.arraylength, 1) := by decide +kernel
theorem dX3_init_38 : decode cX3_init 38 = .ok (.if_icmp .ge 22, 3) := by decide +kernel
theorem dX3_init_41 : decode cX3_init 41 = .ok (.aload_n 0, 1) := by decide +kernel
theorem dX3_init_42 : decode cX3_init 42 = .ok (.getfield 17, 3) := by decide +kernel
theorem dX3_init_45 : decode cX3_init 45 = .ok (.iload_n 1, 1) := by decide +kernel
theorem dX3_init_46 : decode cX3_init 46 = .ok (.new 15, 3) := by decide +kernel
theorem dX3_init_49 : decode cX3_init 49 = .ok (.dup, 1) := by decide +kernel
theorem dX3_init_50 : decode cX3_init 50 = .ok (.invokespecial 27, 3) := by decide +kernel
theorem dX3_init_53 : decode cX3_init 53 = .ok (.aastore, 1) := by decide +kernel
theorem dX3_init_54 : decode cX3_init 54 = .ok (.iinc 1 1, 3) := by decide +kernel
theorem dX3_init_57 : decode cX3_init 57 = .ok (.goto (-25), 3) := by decide +kernel
theorem dX3_init_60 : decode cX3_init 60 = .ok (.aload_n 0, 1) := by decide +kernel
theorem dX3_init_61 : decode cX3_init 61 = .ok (.invokevirtual 28, 3) := by decide +kernel
theorem dX3_init_64 : decode cX3_init 64 = .ok (.return_, 1) := by decide +kernel
theorem dX3_untell_0 : decode cX3_untell 0 = .ok (.aload_n 0, 1) := by decide +kernel
theorem dX3_untell_1 : decode cX3_untell 1 = .ok (.getfield 9, 3) := by decide +kernel
theorem dX3_untell_4 : decode cX3_untell 4 = .ok (.bipush 20, 2) := by decide +kernel
theorem dX3_untell_6 : decode cX3_untell 6 = .ok (.invokestatic 31, 3) := by decide +kernel
theorem dX3_untell_9 : decode cX3_untell 9 = .ok (.aload_n 0, 1) := by decide +kernel
theorem dX3_untell_10 : decode cX3_untell 10 = .ok (.sipush 200, 3) := by decide +kernel
theorem dX3_untell_13 : decode cX3_untell 13 = .ok (.putfield 37, 3) := by decide +kernel
theorem dX3_untell_16 : decode cX3_untell 16 = .ok (.aload_n 0, 1) := by decide +kernel
theorem dX3_untell_17 : decode cX3_untell 17 = .ok (.iconst 4, 1) := by decide +kernel
theorem dX3_untell_18 : decode cX3_untell 18 = .ok (.putfield 41, 3) := by decide +kernel
theorem dX3_untell_21 : decode cX3_untell 21 = .ok (.aload_n 0, 1) := by decide +kernel
theorem dX3_untell_22 : decode cX3_untell 22 = .ok (.iconst 0, 1) := by decide +kernel
theorem dX3_untell_23 : decode cX3_untell 23 = .ok (.putfield 44, 3) := by decide +kernel
theorem dX3_untell_26 : decode cX3_untell 26 = .ok (.aload_n 0, 1) := by decide +kernel
theorem dX3_untell_27 : decode cX3_untell 27 = .ok (.iconst 0, 1) := by decide +kernel
theorem dX3_untell_28 : decode cX3_untell 28 = .ok (.putfield 47, 3) := by decide +kernel
theorem dX3_untell_31 : decode cX3_untell 31 = .ok (.aload_n 0, 1) := by decide +kernel
theorem dX3_untell_32 : decode cX3_untell 32 = .ok (.iconst 0, 1) := by decide +kernel
theorem dX3_untell_33 : decode cX3_untell 33 = .ok (.putfield 51, 3) := by decide +kernel
theorem dX3_untell_36 : decode cX3_untell 36 = .ok (.aload_n 0, 1) := by decide +kernel
theorem dX3_untell_37 : decode cX3_untell 37 = .ok (.iconst 0, 1) := by decide +kernel
theorem dX3_untell_38 : decode cX3_untell 38 = .ok (.putfield 54, 3) := by decide +kernel
theorem dX3_untell_41 : decode cX3_untell 41 = .ok (.return_, 1) := by decide +kernel
theorem dX3_jobAt_0 : decode cX3_jobAt 0 = .ok (.iload_n 1, 1) := by decide +kernel
theorem dX3_jobAt_1 : decode cX3_jobAt 1 = .ok (.ifCond .lt 29, 3) := by decide +kernel
theorem dX3_jobAt_4 : decode cX3_jobAt 4 = .ok (.iload_n 1, 1) := by decide +kernel
theorem dX3_jobAt_5 : decode cX3_jobAt 5 = .ok (.aload_n 0, 1) := by decide +kernel
theorem dX3_jobAt_6 : decode cX3_jobAt 6 = .ok (.getfield 44, 3) := by decide +kernel
theorem dX3_jobAt_9 : decode cX3_jobAt 9 = .ok (.if_icmp .ge 21, 3) := by decide +kernel
theorem dX3_jobAt_12 : decode cX3_jobAt 12 = .ok (.iload_n 1, 1) := by decide +kernel
theorem dX3_jobAt_13 : decode cX3_jobAt 13 = .ok (.aload_n 0, 1) := by decide +kernel
theorem dX3_jobAt_14 : decode cX3_jobAt 14 = .ok (.getfield 17, 3) := by decide +kernel
theorem dX3_jobAt_17 : decode cX3_jobAt 17 = .ok (.arraylength, 1) := by decide +kernel
theorem dX3_jobAt_18 : decode cX3_jobAt 18 = .ok (.if_icmp .ge 12, 3) := by decide +kernel
theorem dX3_jobAt_21 : decode cX3_jobAt 21 = .ok (.aload_n 0, 1) := by decide +kernel
theorem dX3_jobAt_22 : decode cX3_jobAt 22 = .ok (.getfield 17, 3) := by decide +kernel
theorem dX3_jobAt_25 : decode cX3_jobAt 25 = .ok (.iload_n 1, 1) := by decide +kernel
theorem dX3_jobAt_26 : decode cX3_jobAt 26 = .ok (.aaload, 1) := by decide +kernel
theorem dX3_jobAt_27 : decode cX3_jobAt 27 = .ok (.goto 4, 3) := by decide +kernel
theorem dX3_jobAt_30 : decode cX3_jobAt 30 = .ok (.aconst_null, 1) := by decide +kernel
theorem dX3_jobAt_31 : decode cX3_jobAt 31 = .ok (.areturn, 1) := by decide +kernel
theorem dX3_hasBin_0 : decode cX3_hasBin 0 = .ok (.iload_n 1, 1) := by decide +kernel
theorem dX3_hasBin_1 : decode cX3_hasBin 1 = .ok (.ifCond .lt 15, 3) := by decide +kernel
theorem dX3_hasBin_4 : decode cX3_hasBin 4 = .ok (.iload_n 1, 1) := by decide +kernel
theorem dX3_hasBin_5 : decode cX3_hasBin 5 = .ok (.aload_n 0, 1) := by decide +kernel
theorem dX3_hasBin_6 : decode cX3_hasBin 6 = .ok (.getfield 41, 3) := by decide +kernel
theorem dX3_hasBin_9 : decode cX3_hasBin 9 = .ok (.if_icmp .ge 7, 3) := by decide +kernel
theorem dX3_hasBin_12 : decode cX3_hasBin 12 = .ok (.iconst 1, 1) := by decide +kernel
theorem dX3_hasBin_13 : decode cX3_hasBin 13 = .ok (.goto 4, 3) := by decide +kernel
theorem dX3_hasBin_16 : decode cX3_hasBin 16 = .ok (.iconst 0, 1) := by decide +kernel
theorem dX3_hasBin_17 : decode cX3_hasBin 17 = .ok (.ireturn, 1) := by decide +kernel
theorem dX3_binOf_0 : decode cX3_binOf 0 = .ok (.aload_n 1, 1) := by decide +kernel
theorem dX3_binOf_1 : decode cX3_binOf 1 = .ok (.getfield 57, 3) := by decide +kernel
theorem dX3_binOf_4 : decode cX3_binOf 4 = .ok (.ifCond .eq 11, 3) := by decide +kernel
theorem dX3_binOf_7 : decode cX3_binOf 7 = .ok (.aload_n 1, 1) := by decide +kernel
theorem dX3_binOf_8 : decode cX3_binOf 8 = .ok (.iload_n 2, 1) := by decide +kernel
theorem dX3_binOf_9 : decode cX3_binOf 9 = .ok (.invokevirtual 60, 3) := by decide +kernel
theorem dX3_binOf_12 : decode cX3_binOf 12 = .ok (.goto 8, 3) := by decide +kernel
theorem dX3_binOf_15 : decode cX3_binOf 15 = .ok (.aload_n 1, 1) := by decide +kernel
theorem dX3_binOf_16 : decode cX3_binOf 16 = .ok (.iload_n 2, 1) := by decide +kernel
theorem dX3_binOf_17 : decode cX3_binOf 17 = .ok (.invokevirtual 64, 3) := by decide +kernel
theorem dX3_binOf_20 : decode cX3_binOf 20 = .ok (.istore_n 3, 1) := by decide +kernel
theorem dX3_binOf_21 : decode cX3_binOf 21 = .ok (.aload_n 0, 1) := by decide +kernel
theorem dX3_binOf_22 : decode cX3_binOf 22 = .ok (.getfield 41, 3) := by decide +kernel
theorem dX3_binOf_25 : decode cX3_binOf 25 = .ok (.ifCond .le 12, 3) := by decide +kernel
theorem dX3_binOf_28 : decode cX3_binOf 28 = .ok (.iload_n 3, 1) := by decide +kernel
theorem dX3_binOf_29 : decode cX3_binOf 29 = .ok (.aload_n 0, 1) := by decide +kernel
theorem dX3_binOf_30 : decode cX3_binOf 30 = .ok (.getfield 41, 3) := by decide +kernel
theorem dX3_binOf_33 : decode cX3_binOf 33 = .ok (.irem, 1) := by decide +kernel
theorem dX3_binOf_34 : decode cX3_binOf 34 = .ok (.goto 4, 3) := by decide +kernel
theorem dX3_binOf_37 : decode cX3_binOf 37 = .ok (.iconst 0, 1) := by decide +kernel
theorem dX3_binOf_38 : decode cX3_binOf 38 = .ok (.ireturn, 1) := by decide +kernel
theorem dX3_readFrom_0 : decode cX3_readFrom 0 = .ok (.aload_n 0, 1) := by decide +kernel
theorem dX3_readFrom_1 : decode cX3_readFrom 1 = .ok (.invokevirtual 28, 3) := by decide +kernel
theorem dX3_readFrom_4 : decode cX3_readFrom 4 = .ok (.aload_n 1, 1) := by decide +kernel
theorem dX3_readFrom_5 : decode cX3_readFrom 5 = .ok (.invokevirtual 67, 3) := by decide +kernel
theorem dX3_readFrom_8 : decode cX3_readFrom 8 = .ok (.iconst 0, 1) := by decide +kernel
theorem dX3_readFrom_9 : decode cX3_readFrom 9 = .ok (.istore_n 2, 1) := by decide +kernel
theorem dX3_readFrom_10 : decode cX3_readFrom 10 = .ok (.iload_n 2, 1) := by decide +kernel
theorem dX3_readFrom_11 : decode cX3_readFrom 11 = .ok (.bipush 120, 2) := by decide +kernel
theorem dX3_readFrom_13 : decode cX3_readFrom 13 = .ok (.if_icmp .gt 33, 3) := by decide +kernel
theorem dX3_readFrom_16 : decode cX3_readFrom 16 = .ok (.aload_n 1, 1) := by decide +kernel
theorem dX3_readFrom_17 : decode cX3_readFrom 17 = .ok (.invokevirtual 72, 3) := by decide +kernel
theorem dX3_readFrom_20 : decode cX3_readFrom 20 = .ok (.aload_n 1, 1) := by decide +kernel
theorem dX3_readFrom_21 : decode cX3_readFrom 21 = .ok (.getfield 75, 3) := by decide +kernel
theorem dX3_readFrom_24 : decode cX3_readFrom 24 = .ok (.ifCond .ne 5, 3) := by decide +kernel
theorem dX3_readFrom_27 : decode cX3_readFrom 27 = .ok (.iload_n 2, 1) := by decide +kernel
theorem dX3_readFrom_28 : decode cX3_readFrom 28 = .ok (.ireturn, 1) := by decide +kernel
theorem dX3_readFrom_29 : decode cX3_readFrom 29 = .ok (.aload_n 0, 1) := by decide +kernel
theorem dX3_readFrom_30 : decode cX3_readFrom 30 = .ok (.aload_n 1, 1) := by decide +kernel
theorem dX3_readFrom_31 : decode cX3_readFrom 31 = .ok (.invokevirtual 78, 3) := by decide +kernel
theorem dX3_readFrom_34 : decode cX3_readFrom 34 = .ok (.ifCond .ne 6, 3) := by decide +kernel
theorem dX3_readFrom_37 : decode cX3_readFrom 37 = .ok (.goto 9, 3) := by decide +kernel
theorem dX3_readFrom_40 : decode cX3_readFrom 40 = .ok (.iinc 2 1, 3) := by decide +kernel
theorem dX3_readFrom_43 : decode cX3_readFrom 43 = .ok (.goto (-33), 3) := by decide +kernel
theorem dX3_readFrom_46 : decode cX3_readFrom 46 = .ok (.bipush (-10), 2) := by decide +kernel
theorem dX3_readFrom_48 : decode cX3_readFrom 48 = .ok (.aload_n 1, 1) := by decide +kernel
theorem dX3_readFrom_49 : decode cX3_readFrom 49 = .ok (.getfield 82, 3) := by decide +kernel
theorem dX3_readFrom_52 : decode cX3_readFrom 52 = .ok (.isub, 1) := by decide +kernel
theorem dX3_readFrom_53 : decode cX3_readFrom 53 = .ok (.ireturn, 1) := by decide +kernel
theorem dX3_readItem_0 : decode cX3_readItem 0 = .ok (.aload_n 1, 1) := by decide +kernel
theorem dX3_readItem_1 : decode cX3_readItem 1 = .ok (.getfield 75, 3) := by decide +kernel
theorem dX3_readItem_4 : decode cX3_readItem 4 = .ok (.iconst 1, 1) := by decide +kernel
theorem dX3_readItem_5 : decode cX3_readItem 5 = .ok (.if_icmp .ne 10, 3) := by decide +kernel
theorem dX3_readItem_8 : decode cX3_readItem 8 = .ok (.aload_n 1, 1) := by decide +kernel
theorem dX3_readItem_9 : decode cX3_readItem 9 = .ok (.getfield 85, 3) := by decide +kernel
theorem dX3_readItem_12 : decode cX3_readItem 12 = .ok (.goto 4, 3) := by decide +kernel
theorem dX3_readItem_15 : decode cX3_readItem 15 = .ok (.iconst 0, 1) := by decide +kernel
theorem dX3_readItem_16 : decode cX3_readItem 16 = .ok (.lookupswitch 182 #[(98, 112), (106, 146), (107, 78), (116, 44)], 44) := by decide +kernel
theorem dX3_readItem_60 : decode cX3_readItem 60 = .ok (.aload_n 0, 1) := by decide +kernel
theorem dX3_readItem_61 : decode cX3_readItem 61 = .ok (.getfield 47, 3) := by decide +kernel
theorem dX3_readItem_64 : decode cX3_readItem 64 = .ok (.ifCond .ne 28, 3) := by decide +kernel
theorem dX3_readItem_67 : decode cX3_readItem 67 = .ok (.aload_n 0, 1) := by decide +kernel
theorem dX3_readItem_68 : decode cX3_readItem 68 = .ok (.aload_n 1, 1) := by decide +kernel
theorem dX3_readItem_69 : decode cX3_readItem 69 = .ok (.getstatic 88, 3) := by decide +kernel
theorem dX3_readItem_72 : decode cX3_readItem 72 = .ok (.getstatic 91, 3) := by decide +kernel
theorem dX3_readItem_75 : decode cX3_readItem 75 = .ok (.invokevirtual 94, 3) := by decide +kernel
theorem dX3_readItem_78 : decode cX3_readItem 78 = .ok (.ifCond .eq 14, 3) := by decide +kernel
theorem dX3_readItem_81 : decode cX3_readItem 81 = .ok (.aload_n 0, 1) := by decide +kernel
theorem dX3_readItem_82 : decode cX3_readItem 82 = .ok (.invokevirtual 98, 3) := by decide +kernel
theorem dX3_readItem_85 : decode cX3_readItem 85 = .ok (.ifCond .eq 7, 3) := by decide +kernel
theorem dX3_readItem_88 : decode cX3_readItem 88 = .ok (.iconst 1, 1) := by decide +kernel
theorem dX3_readItem_89 : decode cX3_readItem 89 = .ok (.goto 4, 3) := by decide +kernel
theorem dX3_readItem_92 : decode cX3_readItem 92 = .ok (.iconst 0, 1) := by decide +kernel
theorem dX3_readItem_93 : decode cX3_readItem 93 = .ok (.ireturn, 1) := by decide +kernel
theorem dX3_readItem_94 : decode cX3_readItem 94 = .ok (.aload_n 0, 1) := by decide +kernel
theorem dX3_readItem_95 : decode cX3_readItem 95 = .ok (.getfield 51, 3) := by decide +kernel
theorem dX3_readItem_98 : decode cX3_readItem 98 = .ok (.ifCond .ne 28, 3) := by decide +kernel
theorem dX3_readItem_101 : decode cX3_readItem 101 = .ok (.aload_n 0, 1) := by decide +kernel
theorem dX3_readItem_102 : decode cX3_readItem 102 = .ok (.aload_n 1, 1) := by decide +kernel
theorem dX3_readItem_103 : decode cX3_readItem 103 = .ok (.getstatic 102, 3) := by decide +kernel
theorem dX3_readItem_106 : decode cX3_readItem 106 = .ok (.getstatic 105, 3) := by decide +kernel
theorem dX3_readItem_109 : decode cX3_readItem 109 = .ok (.invokevirtual 94, 3) := by decide +kernel
theorem dX3_readItem_112 : decode cX3_readItem 112 = .ok (.ifCond .eq 14, 3) := by decide +kernel
theorem dX3_readItem_115 : decode cX3_readItem 115 = .ok (.aload_n 0, 1) := by decide +kernel
theorem dX3_readItem_116 : decode cX3_readItem 116 = .ok (.invokevirtual 108, 3) := by decide +kernel
theorem dX3_readItem_119 : decode cX3_readItem 119 = .ok (.ifCond .eq 7, 3) := by decide +kernel
theorem dX3_readItem_122 : decode cX3_readItem 122 = .ok (.iconst 1, 1) := by decide +kernel
theorem dX3_readItem_123 : decode cX3_readItem 123 = .ok (.goto 4, 3) := by decide +kernel
theorem dX3_readItem_126 : decode cX3_readItem 126 = .ok (.iconst 0, 1) := by decide +kernel
theorem dX3_readItem_127 : decode cX3_readItem 127 = .ok (.ireturn, 1) := by decide +kernel
theorem dX3_readItem_128 : decode cX3_readItem 128 = .ok (.aload_n 0, 1) := by decide +kernel
theorem dX3_readItem_129 : decode cX3_readItem 129 = .ok (.getfield 54, 3) := by decide +kernel
theorem dX3_readItem_132 : decode cX3_readItem 132 = .ok (.ifCond .ne 28, 3) := by decide +kernel
theorem dX3_readItem_135 : decode cX3_readItem 135 = .ok (.aload_n 0, 1) := by decide +kernel
theorem dX3_readItem_136 : decode cX3_readItem 136 = .ok (.aload_n 1, 1) := by decide +kernel
theorem dX3_readItem_137 : decode cX3_readItem 137 = .ok (.getstatic 111, 3) := by decide +kernel
theorem dX3_readItem_140 : decode cX3_readItem 140 = .ok (.getstatic 114, 3) := by decide +kernel
theorem dX3_readItem_143 : decode cX3_readItem 143 = .ok (.invokevirtual 94, 3) := by decide +kernel
theorem dX3_readItem_146 : decode cX3_readItem 146 = .ok (.ifCond .eq 14, 3) := by decide +kernel
theorem dX3_readItem_149 : decode cX3_readItem 149 = .ok (.aload_n 0, 1) := by decide +kernel
theorem dX3_readItem_150 : decode cX3_readItem 150 = .ok (.invokevirtual 117, 3) := by decide +kernel
theorem dX3_readItem_153 : decode cX3_readItem 153 = .ok (.ifCond .eq 7, 3) := by decide +kernel
theorem dX3_readItem_156 : decode cX3_readItem 156 = .ok (.iconst 1, 1) := by decide +kernel
theorem dX3_readItem_157 : decode cX3_readItem 157 = .ok (.goto 4, 3) := by decide +kernel
theorem dX3_readItem_160 : decode cX3_readItem 160 = .ok (.iconst 0, 1) := by decide +kernel
theorem dX3_readItem_161 : decode cX3_readItem 161 = .ok (.ireturn, 1) := by decide +kernel
theorem dX3_readItem_162 : decode cX3_readItem 162 = .ok (.aload_n 0, 1) := by decide +kernel
theorem dX3_readItem_163 : decode cX3_readItem 163 = .ok (.getfield 44, 3) := by decide +kernel
theorem dX3_readItem_166 : decode cX3_readItem 166 = .ok (.bipush 6, 2) := by decide +kernel
theorem dX3_readItem_168 : decode cX3_readItem 168 = .ok (.if_icmp .ge 28, 3) := by decide +kernel
theorem dX3_readItem_171 : decode cX3_readItem 171 = .ok (.aload_n 0, 1) := by decide +kernel
theorem dX3_readItem_172 : decode cX3_readItem 172 = .ok (.aload_n 1, 1) := by decide +kernel
theorem dX3_readItem_173 : decode cX3_readItem 173 = .ok (.getstatic 21, 3) := by decide +kernel
theorem dX3_readItem_176 : decode cX3_readItem 176 = .ok (.getstatic 120, 3) := by decide +kernel
theorem dX3_readItem_179 : decode cX3_readItem 179 = .ok (.invokevirtual 94, 3) := by decide +kernel
theorem dX3_readItem_182 : decode cX3_readItem 182 = .ok (.ifCond .eq 14, 3) := by decide +kernel
theorem dX3_readItem_185 : decode cX3_readItem 185 = .ok (.aload_n 0, 1) := by decide +kernel
theorem dX3_readItem_186 : decode cX3_readItem 186 = .ok (.invokevirtual 123, 3) := by decide +kernel
theorem dX3_readItem_189 : decode cX3_readItem 189 = .ok (.ifCond .eq 7, 3) := by decide +kernel
theorem dX3_readItem_192 : decode cX3_readItem 192 = .ok (.iconst 1, 1) := by decide +kernel
theorem dX3_readItem_193 : decode cX3_readItem 193 = .ok (.goto 4, 3) := by decide +kernel
theorem dX3_readItem_196 : decode cX3_readItem 196 = .ok (.iconst 0, 1) := by decide +kernel
theorem dX3_readItem_197 : decode cX3_readItem 197 = .ok (.ireturn, 1) := by decide +kernel
theorem dX3_readItem_198 : decode cX3_readItem 198 = .ok (.iconst 0, 1) := by decide +kernel
theorem dX3_readItem_199 : decode cX3_readItem 199 = .ok (.ireturn, 1) := by decide +kernel
theorem dX3_readNumbers_0 : decode cX3_readNumbers 0 = .ok (.iconst 0, 1) := by decide +kernel
theorem dX3_readNumbers_1 : decode cX3_readNumbers 1 = .ok (.istore 4, 2) := by decide +kernel
theorem dX3_readNumbers_3 : decode cX3_readNumbers 3 = .ok (.iload 4, 2) := by decide +kernel
theorem dX3_readNumbers_5 : decode cX3_readNumbers 5 = .ok (.aload_n 2, 1) := by decide +kernel
theorem dX3_readNumbers_6 : decode cX3_readNumbers 6 = .ok (.arraylength, 1) := by decide +kernel
theorem dX3_readNumbers_7 : decode cX3_readNumbers 7 = .ok (.if_icmp .ge 60, 3) := by decide +kernel
theorem dX3_readNumbers_10 : decode cX3_readNumbers 10 = .ok (.aload_n 1, 1) := by decide +kernel
theorem dX3_readNumbers_11 : decode cX3_readNumbers 11 = .ok (.invokevirtual 72, 3) := by decide +kernel
theorem dX3_readNumbers_14 : decode cX3_readNumbers 14 = .ok (.aload_n 1, 1) := by decide +kernel
theorem dX3_readNumbers_15 : decode cX3_readNumbers 15 = .ok (.getfield 75, 3) := by decide +kernel
theorem dX3_readNumbers_18 : decode cX3_readNumbers 18 = .ok (.iconst 2, 1) := by decide +kernel
theorem dX3_readNumbers_19 : decode cX3_readNumbers 19 = .ok (.if_icmp .ne 27, 3) := by decide +kernel
theorem dX3_readNumbers_22 : decode cX3_readNumbers 22 = .ok (.aload_n 1, 1) := by decide +kernel
theorem dX3_readNumbers_23 : decode cX3_readNumbers 23 = .ok (.getfield 85, 3) := by decide +kernel
theorem dX3_readNumbers_26 : decode cX3_readNumbers 26 = .ok (.aload_n 2, 1) := by decide +kernel
theorem dX3_readNumbers_27 : decode cX3_readNumbers 27 = .ok (.iload 4, 2) := by decide +kernel
theorem dX3_readNumbers_29 : decode cX3_readNumbers 29 = .ok (.iaload, 1) := by decide +kernel
theorem dX3_readNumbers_30 : decode cX3_readNumbers 30 = .ok (.if_icmp .lt 16, 3) := by decide +kernel
theorem dX3_readNumbers_33 : decode cX3_readNumbers 33 = .ok (.aload_n 1, 1) := by decide +kernel
theorem dX3_readNumbers_34 : decode cX3_readNumbers 34 = .ok (.getfield 85, 3) := by decide +kernel
theorem dX3_readNumbers_37 : decode cX3_readNumbers 37 = .ok (.aload_n 3, 1) := by decide +kernel
theorem dX3_readNumbers_38 : decode cX3_readNumbers 38 = .ok (.iload 4, 2) := by decide +kernel
theorem dX3_readNumbers_40 : decode cX3_readNumbers 40 = .ok (.invokestatic 126, 3) := by decide +kernel
theorem dX3_readNumbers_43 : decode cX3_readNumbers 43 = .ok (.if_icmp .le 5, 3) := by decide +kernel
theorem dX3_readNumbers_46 : decode cX3_readNumbers 46 = .ok (.iconst 0, 1) := by decide +kernel
theorem dX3_readNumbers_47 : decode cX3_readNumbers 47 = .ok (.ireturn, 1) := by decide +kernel
theorem dX3_readNumbers_48 : decode cX3_readNumbers 48 = .ok (.aload_n 0, 1) := by decide +kernel
theorem dX3_readNumbers_49 : decode cX3_readNumbers 49 = .ok (.getfield 24, 3) := by decide +kernel
theorem dX3_readNumbers_52 : decode cX3_readNumbers 52 = .ok (.iload 4, 2) := by decide +kernel
theorem dX3_readNumbers_54 : decode cX3_readNumbers 54 = .ok (.aload_n 1, 1) := by decide +kernel
theorem dX3_readNumbers_55 : decode cX3_readNumbers 55 = .ok (.getfield 85, 3) := by decide +kernel
theorem dX3_readNumbers_58 : decode cX3_readNumbers 58 = .ok (.invokestatic 130, 3) := by decide +kernel
theorem dX3_readNumbers_61 : decode cX3_readNumbers 61 = .ok (.iinc 4 1, 3) := by decide +kernel
theorem dX3_readNumbers_64 : decode cX3_readNumbers 64 = .ok (.goto (-61), 3) := by decide +kernel
theorem dX3_readNumbers_67 : decode cX3_readNumbers 67 = .ok (.aload_n 1, 1) := by decide +kernel
theorem dX3_readNumbers_68 : decode cX3_readNumbers 68 = .ok (.invokevirtual 72, 3) := by decide +kernel
theorem dX3_readNumbers_71 : decode cX3_readNumbers 71 = .ok (.aload_n 1, 1) := by decide +kernel
theorem dX3_readNumbers_72 : decode cX3_readNumbers 72 = .ok (.getfield 75, 3) := by decide +kernel
theorem dX3_readNumbers_75 : decode cX3_readNumbers 75 = .ok (.iconst 3, 1) := by decide +kernel
theorem dX3_readNumbers_76 : decode cX3_readNumbers 76 = .ok (.if_icmp .ne 7, 3) := by decide +kernel
theorem dX3_readNumbers_79 : decode cX3_readNumbers 79 = .ok (.iconst 1, 1) := by decide +kernel
theorem dX3_readNumbers_80 : decode cX3_readNumbers 80 = .ok (.goto 4, 3) := by decide +kernel
theorem dX3_readNumbers_83 : decode cX3_readNumbers 83 = .ok (.iconst 0, 1) := by decide +kernel
theorem dX3_readNumbers_84 : decode cX3_readNumbers 84 = .ok (.ireturn, 1) := by decide +kernel
theorem dX3_tellTrays_0 : decode cX3_tellTrays 0 = .ok (.aload_n 0, 1) := by decide +kernel
theorem dX3_tellTrays_1 : decode cX3_tellTrays 1 = .ok (.getfield 24, 3) := by decide +kernel
theorem dX3_tellTrays_4 : decode cX3_tellTrays 4 = .ok (.aload_n 0, 1) := by decide +kernel
theorem dX3_tellTrays_5 : decode cX3_tellTrays 5 = .ok (.getfield 9, 3) := by decide +kernel
theorem dX3_tellTrays_8 : decode cX3_tellTrays 8 = .ok (.invokestatic 134, 3) := by decide +kernel
theorem dX3_tellTrays_11 : decode cX3_tellTrays 11 = .ok (.aload_n 0, 1) := by decide +kernel
theorem dX3_tellTrays_12 : decode cX3_tellTrays 12 = .ok (.iconst 1, 1) := by decide +kernel
theorem dX3_tellTrays_13 : decode cX3_tellTrays 13 = .ok (.putfield 47, 3) := by decide +kernel
theorem dX3_tellTrays_16 : decode cX3_tellTrays 16 = .ok (.iconst 1, 1) := by decide +kernel
theorem dX3_tellTrays_17 : decode cX3_tellTrays 17 = .ok (.ireturn, 1) := by decide +kernel
theorem dX3_tellToner_0 : decode cX3_tellToner 0 = .ok (.aload_n 0, 1) := by decide +kernel
theorem dX3_tellToner_1 : decode cX3_tellToner 1 = .ok (.aload_n 0, 1) := by decide +kernel
theorem dX3_tellToner_2 : decode cX3_tellToner 2 = .ok (.getfield 24, 3) := by decide +kernel
theorem dX3_tellToner_5 : decode cX3_tellToner 5 = .ok (.iconst 0, 1) := by decide +kernel
theorem dX3_tellToner_6 : decode cX3_tellToner 6 = .ok (.invokestatic 126, 3) := by decide +kernel
theorem dX3_tellToner_9 : decode cX3_tellToner 9 = .ok (.putfield 37, 3) := by decide +kernel
theorem dX3_tellToner_12 : decode cX3_tellToner 12 = .ok (.aload_n 0, 1) := by decide +kernel
theorem dX3_tellToner_13 : decode cX3_tellToner 13 = .ok (.iconst 1, 1) := by decide +kernel
theorem dX3_tellToner_14 : decode cX3_tellToner 14 = .ok (.putfield 51, 3) := by decide +kernel
theorem dX3_tellToner_17 : decode cX3_tellToner 17 = .ok (.iconst 1, 1) := by decide +kernel
theorem dX3_tellToner_18 : decode cX3_tellToner 18 = .ok (.ireturn, 1) := by decide +kernel
theorem dX3_tellBins_0 : decode cX3_tellBins 0 = .ok (.aload_n 0, 1) := by decide +kernel
theorem dX3_tellBins_1 : decode cX3_tellBins 1 = .ok (.aload_n 0, 1) := by decide +kernel
theorem dX3_tellBins_2 : decode cX3_tellBins 2 = .ok (.getfield 24, 3) := by decide +kernel
theorem dX3_tellBins_5 : decode cX3_tellBins 5 = .ok (.iconst 0, 1) := by decide +kernel
theorem dX3_tellBins_6 : decode cX3_tellBins 6 = .ok (.invokestatic 126, 3) := by decide +kernel
theorem dX3_tellBins_9 : decode cX3_tellBins 9 = .ok (.putfield 41, 3) := by decide +kernel
theorem dX3_tellBins_12 : decode cX3_tellBins 12 = .ok (.aload_n 0, 1) := by decide +kernel
theorem dX3_tellBins_13 : decode cX3_tellBins 13 = .ok (.iconst 1, 1) := by decide +kernel
theorem dX3_tellBins_14 : decode cX3_tellBins 14 = .ok (.putfield 54, 3) := by decide +kernel
theorem dX3_tellBins_17 : decode cX3_tellBins 17 = .ok (.iconst 1, 1) := by decide +kernel
theorem dX3_tellBins_18 : decode cX3_tellBins 18 = .ok (.ireturn, 1) := by decide +kernel
theorem dX3_tellJob_0 : decode cX3_tellJob 0 = .ok (.aload_n 0, 1) := by decide +kernel
theorem dX3_tellJob_1 : decode cX3_tellJob 1 = .ok (.dup, 1) := by decide +kernel
theorem dX3_tellJob_2 : decode cX3_tellJob 2 = .ok (.getfield 44, 3) := by decide +kernel
theorem dX3_tellJob_5 : decode cX3_tellJob 5 = .ok (.iconst 1, 1) := by decide +kernel
theorem dX3_tellJob_6 : decode cX3_tellJob 6 = .ok (.iadd, 1) := by decide +kernel
theorem dX3_tellJob_7 : decode cX3_tellJob 7 = .ok (.putfield 44, 3) := by decide +kernel
theorem dX3_tellJob_10 : decode cX3_tellJob 10 = .ok (.aload_n 0, 1) := by decide +kernel
theorem dX3_tellJob_11 : decode cX3_tellJob 11 = .ok (.aload_n 0, 1) := by decide +kernel
theorem dX3_tellJob_12 : decode cX3_tellJob 12 = .ok (.getfield 44, 3) := by decide +kernel
theorem dX3_tellJob_15 : decode cX3_tellJob 15 = .ok (.iconst 1, 1) := by decide +kernel
theorem dX3_tellJob_16 : decode cX3_tellJob 16 = .ok (.isub, 1) := by decide +kernel
theorem dX3_tellJob_17 : decode cX3_tellJob 17 = .ok (.invokevirtual 138, 3) := by decide +kernel
theorem dX3_tellJob_20 : decode cX3_tellJob 20 = .ok (.astore_n 1, 1) := by decide +kernel
theorem dX3_tellJob_21 : decode cX3_tellJob 21 = .ok (.aload_n 1, 1) := by decide +kernel
theorem dX3_tellJob_22 : decode cX3_tellJob 22 = .ok (.ifnull 11, 3) := by decide +kernel
theorem dX3_tellJob_25 : decode cX3_tellJob 25 = .ok (.aload_n 1, 1) := by decide +kernel
theorem dX3_tellJob_26 : decode cX3_tellJob 26 = .ok (.aload_n 0, 1) := by decide +kernel
theorem dX3_tellJob_27 : decode cX3_tellJob 27 = .ok (.getfield 24, 3) := by decide +kernel
theorem dX3_tellJob_30 : decode cX3_tellJob 30 = .ok (.invokevirtual 142, 3) := by decide +kernel
theorem dX3_tellJob_33 : decode cX3_tellJob 33 = .ok (.aload_n 1, 1) := by decide +kernel
theorem dX3_tellJob_34 : decode cX3_tellJob 34 = .ok (.ifnull 7, 3) := by decide +kernel
theorem dX3_tellJob_37 : decode cX3_tellJob 37 = .ok (.iconst 1, 1) := by decide +kernel
theorem dX3_tellJob_38 : decode cX3_tellJob 38 = .ok (.goto 4, 3) := by decide +kernel
theorem dX3_tellJob_41 : decode cX3_tellJob 41 = .ok (.iconst 0, 1) := by decide +kernel
theorem dX3_tellJob_42 : decode cX3_tellJob 42 = .ok (.ireturn, 1) := by decide +kernel
theorem dX4_init_0 : decode cX4_init 0 = .ok (.aload_n 0, 1) := by decide +kernel
theorem dX4_init_1 : decode cX4_init 1 = .ok (.invokespecial 3, 3) := by decide +kernel
theorem dX4_init_4 : decode cX4_init 4 = .ok (.aload_n 0, 1) := by decide +kernel
theorem dX4_init_5 : decode cX4_init 5 = .ok (.bipush 6, 2) := by decide +kernel
theorem dX4_init_7 : decode cX4_init 7 = .ok (.newarray .int, 2) := by decide +kernel
theorem dX4_init_9 : decode cX4_init 9 = .ok (.putfield 9, 3) := by decide +kernel
theorem dX4_init_12 : decode cX4_init 12 = .ok (.aload_n 0, 1) := by decide +kernel
theorem dX4_init_13 : decode cX4_init 13 = .ok (.bipush 6, 2) := by decide +kernel
theorem dX4_init_15 : decode cX4_init 15 = .ok (.newarray .int, 2) := by decide +kernel
theorem dX4_init_17 : decode cX4_init 17 = .ok (.putfield 15, 3) := by decide +kernel
theorem dX4_init_20 : decode cX4_init 20 = .ok (.aload_n 0, 1) := by decide +kernel
theorem dX4_init_21 : decode cX4_init 21 = .ok (.bipush 6, 2) := by decide +kernel
theorem dX4_init_23 : decode cX4_init 23 = .ok (.newarray .int, 2) := by decide +kernel
theorem dX4_init_25 : decode cX4_init 25 = .ok (.putfield 18, 3) := by decide +kernel
theorem dX4_init_28 : decode cX4_init 28 = .ok (.aload_n 0, 1) := by decide +kernel
theorem dX4_init_29 : decode cX4_init 29 = .ok (.bipush 10, 2) := by decide +kernel
theorem dX4_init_31 : decode cX4_init 31 = .ok (.newarray .int, 2) := by decide +kernel
theorem dX4_init_33 : decode cX4_init 33 = .ok (.putfield 21, 3) := by decide +kernel
theorem dX4_init_36 : decode cX4_init 36 = .ok (.return_, 1) := by decide +kernel
theorem dX4_add_0 : decode cX4_add 0 = .ok (.aload_n 0, 1) := by decide +kernel
theorem dX4_add_1 : decode cX4_add 1 = .ok (.getfield 9, 3) := by decide +kernel
theorem dX4_add_4 : decode cX4_add 4 = .ok (.aload_n 0, 1) := by decide +kernel
theorem dX4_add_5 : decode cX4_add 5 = .ok (.getfield 24, 3) := by decide +kernel
theorem dX4_add_8 : decode cX4_add 8 = .ok (.iload_n 1, 1) := by decide +kernel
theorem dX4_add_9 : decode cX4_add 9 = .ok (.invokestatic 28, 3) := by decide +kernel
theorem dX4_add_12 : decode cX4_add 12 = .ok (.aload_n 0, 1) := by decide +kernel
theorem dX4_add_13 : decode cX4_add 13 = .ok (.getfield 15, 3) := by decide +kernel
theorem dX4_add_16 : decode cX4_add 16 = .ok (.aload_n 0, 1) := by decide +kernel
theorem dX4_add_17 : decode cX4_add 17 = .ok (.getfield 24, 3) := by decide +kernel
theorem dX4_add_20 : decode cX4_add 20 = .ok (.iload_n 2, 1) := by decide +kernel
theorem dX4_add_21 : decode cX4_add 21 = .ok (.invokestatic 28, 3) := by decide +kernel
theorem dX4_add_24 : decode cX4_add 24 = .ok (.aload_n 0, 1) := by decide +kernel
