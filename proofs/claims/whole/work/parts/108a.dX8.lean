theorem dX8_init_0 : decode cX8_init 0 = .ok (.aload_n 0, 1) := by decide +kernel
theorem dX8_init_1 : decode cX8_init 1 = .ok (.invokespecial 3, 3) := by decide +kernel
theorem dX8_init_4 : decode cX8_init 4 = .ok (.aload_n 0, 1) := by decide +kernel
theorem dX8_init_5 : decode cX8_init 5 = .ok (.iload_n 1, 1) := by decide +kernel
theorem dX8_init_6 : decode cX8_init 6 = .ok (.putfield 9, 3) := by decide +kernel
theorem dX8_init_9 : decode cX8_init 9 = .ok (.aload_n 0, 1) := by decide +kernel
theorem dX8_init_10 : decode cX8_init 10 = .ok (.iload_n 2, 1) := by decide +kernel
theorem dX8_init_11 : decode cX8_init 11 = .ok (.putfield 15, 3) := by decide +kernel
theorem dX8_init_14 : decode cX8_init 14 = .ok (.aload_n 0, 1) := by decide +kernel
theorem dX8_init_15 : decode cX8_init 15 = .ok (.iload_n 3, 1) := by decide +kernel
theorem dX8_init_16 : decode cX8_init 16 = .ok (.putfield 18, 3) := by decide +kernel
theorem dX8_init_19 : decode cX8_init 19 = .ok (.aload_n 0, 1) := by decide +kernel
theorem dX8_init_20 : decode cX8_init 20 = .ok (.iload 4, 2) := by decide +kernel
theorem dX8_init_22 : decode cX8_init 22 = .ok (.putfield 21, 3) := by decide +kernel
theorem dX8_init_25 : decode cX8_init 25 = .ok (.aload_n 0, 1) := by decide +kernel
theorem dX8_init_26 : decode cX8_init 26 = .ok (.iload 5, 2) := by decide +kernel
theorem dX8_init_28 : decode cX8_init 28 = .ok (.putfield 24, 3) := by decide +kernel
theorem dX8_init_31 : decode cX8_init 31 = .ok (.aload_n 0, 1) := by decide +kernel
theorem dX8_init_32 : decode cX8_init 32 = .ok (.aload 6, 2) := by decide +kernel
theorem dX8_init_34 : decode cX8_init 34 = .ok (.putfield 27, 3) := by decide +kernel
theorem dX8_init_37 : decode cX8_init 37 = .ok (.return_, 1) := by decide +kernel
theorem dX8_takeFrom_0 : decode cX8_takeFrom 0 = .ok (.aload_n 0, 1) := by decide +kernel
theorem dX8_takeFrom_1 : decode cX8_takeFrom 1 = .ok (.invokevirtual 31, 3) := by decide +kernel
theorem dX8_takeFrom_4 : decode cX8_takeFrom 4 = .ok (.bipush 15, 2) := by decide +kernel
theorem dX8_takeFrom_6 : decode cX8_takeFrom 6 = .ok (.iand, 1) := by decide +kernel
theorem dX8_takeFrom_7 : decode cX8_takeFrom 7 = .ok (.istore_n 1, 1) := by decide +kernel
theorem dX8_takeFrom_8 : decode cX8_takeFrom 8 = .ok (.aload_n 0, 1) := by decide +kernel
theorem dX8_takeFrom_9 : decode cX8_takeFrom 9 = .ok (.invokevirtual 37, 3) := by decide +kernel
theorem dX8_takeFrom_12 : decode cX8_takeFrom 12 = .ok (.istore_n 2, 1) := by decide +kernel
theorem dX8_takeFrom_13 : decode cX8_takeFrom 13 = .ok (.aload_n 0, 1) := by decide +kernel
theorem dX8_takeFrom_14 : decode cX8_takeFrom 14 = .ok (.invokevirtual 37, 3) := by decide +kernel
theorem dX8_takeFrom_17 : decode cX8_takeFrom 17 = .ok (.istore_n 3, 1) := by decide +kernel
theorem dX8_takeFrom_18 : decode cX8_takeFrom 18 = .ok (.aload_n 0, 1) := by decide +kernel
theorem dX8_takeFrom_19 : decode cX8_takeFrom 19 = .ok (.invokevirtual 40, 3) := by decide +kernel
theorem dX8_takeFrom_22 : decode cX8_takeFrom 22 = .ok (.istore 4, 2) := by decide +kernel
theorem dX8_takeFrom_24 : decode cX8_takeFrom 24 = .ok (.aload_n 0, 1) := by decide +kernel
theorem dX8_takeFrom_25 : decode cX8_takeFrom 25 = .ok (.invokevirtual 40, 3) := by decide +kernel
theorem dX8_takeFrom_28 : decode cX8_takeFrom 28 = .ok (.istore 5, 2) := by decide +kernel
theorem dX8_takeFrom_30 : decode cX8_takeFrom 30 = .ok (.bipush 16, 2) := by decide +kernel
theorem dX8_takeFrom_32 : decode cX8_takeFrom 32 = .ok (.newarray .int, 2) := by decide +kernel
theorem dX8_takeFrom_34 : decode cX8_takeFrom 34 = .ok (.astore 6, 2) := by decide +kernel
theorem dX8_takeFrom_36 : decode cX8_takeFrom 36 = .ok (.iconst 0, 1) := by decide +kernel
theorem dX8_takeFrom_37 : decode cX8_takeFrom 37 = .ok (.istore 7, 2) := by decide +kernel
theorem dX8_takeFrom_39 : decode cX8_takeFrom 39 = .ok (.iload 7, 2) := by decide +kernel
theorem dX8_takeFrom_41 : decode cX8_takeFrom 41 = .ok (.bipush 16, 2) := by decide +kernel
theorem dX8_takeFrom_43 : decode cX8_takeFrom 43 = .ok (.if_icmp .ge 28, 3) := by decide +kernel
theorem dX8_takeFrom_46 : decode cX8_takeFrom 46 = .ok (.iload 7, 2) := by decide +kernel
theorem dX8_takeFrom_48 : decode cX8_takeFrom 48 = .ok (.iload 5, 2) := by decide +kernel
theorem dX8_takeFrom_50 : decode cX8_takeFrom 50 = .ok (.invokestatic 43, 3) := by decide +kernel
theorem dX8_takeFrom_53 : decode cX8_takeFrom 53 = .ok (.ifCond .eq 12, 3) := by decide +kernel
theorem dX8_takeFrom_56 : decode cX8_takeFrom 56 = .ok (.aload 6, 2) := by decide +kernel
theorem dX8_takeFrom_58 : decode cX8_takeFrom 58 = .ok (.iload 7, 2) := by decide +kernel
theorem dX8_takeFrom_60 : decode cX8_takeFrom 60 = .ok (.aload_n 0, 1) := by decide +kernel
theorem dX8_takeFrom_61 : decode cX8_takeFrom 61 = .ok (.invokevirtual 47, 3) := by decide +kernel
theorem dX8_takeFrom_64 : decode cX8_takeFrom 64 = .ok (.iastore, 1) := by decide +kernel
theorem dX8_takeFrom_65 : decode cX8_takeFrom 65 = .ok (.iinc 7 1, 3) := by decide +kernel
theorem dX8_takeFrom_68 : decode cX8_takeFrom 68 = .ok (.goto (-29), 3) := by decide +kernel
theorem dX8_takeFrom_71 : decode cX8_takeFrom 71 = .ok (.new 10, 3) := by decide +kernel
theorem dX8_takeFrom_74 : decode cX8_takeFrom 74 = .ok (.dup, 1) := by decide +kernel
theorem dX8_takeFrom_75 : decode cX8_takeFrom 75 = .ok (.iload_n 1, 1) := by decide +kernel
theorem dX8_takeFrom_76 : decode cX8_takeFrom 76 = .ok (.iload_n 2, 1) := by decide +kernel
theorem dX8_takeFrom_77 : decode cX8_takeFrom 77 = .ok (.iload_n 3, 1) := by decide +kernel
theorem dX8_takeFrom_78 : decode cX8_takeFrom 78 = .ok (.iload 4, 2) := by decide +kernel
theorem dX8_takeFrom_80 : decode cX8_takeFrom 80 = .ok (.iload 5, 2) := by decide +kernel
theorem dX8_takeFrom_82 : decode cX8_takeFrom 82 = .ok (.aload 6, 2) := by decide +kernel
theorem dX8_takeFrom_84 : decode cX8_takeFrom 84 = .ok (.invokespecial 50, 3) := by decide +kernel
theorem dX8_takeFrom_87 : decode cX8_takeFrom 87 = .ok (.areturn, 1) := by decide +kernel
theorem dX8_writeTo_0 : decode cX8_writeTo 0 = .ok (.aload_n 1, 1) := by decide +kernel
theorem dX8_writeTo_1 : decode cX8_writeTo 1 = .ok (.aload_n 0, 1) := by decide +kernel
theorem dX8_writeTo_2 : decode cX8_writeTo 2 = .ok (.getfield 9, 3) := by decide +kernel
theorem dX8_writeTo_5 : decode cX8_writeTo 5 = .ok (.invokevirtual 53, 3) := by decide +kernel
theorem dX8_writeTo_8 : decode cX8_writeTo 8 = .ok (.aload_n 1, 1) := by decide +kernel
theorem dX8_writeTo_9 : decode cX8_writeTo 9 = .ok (.aload_n 0, 1) := by decide +kernel
theorem dX8_writeTo_10 : decode cX8_writeTo 10 = .ok (.getfield 15, 3) := by decide +kernel
theorem dX8_writeTo_13 : decode cX8_writeTo 13 = .ok (.invokevirtual 57, 3) := by decide +kernel
theorem dX8_writeTo_16 : decode cX8_writeTo 16 = .ok (.aload_n 1, 1) := by decide +kernel
theorem dX8_writeTo_17 : decode cX8_writeTo 17 = .ok (.aload_n 0, 1) := by decide +kernel
theorem dX8_writeTo_18 : decode cX8_writeTo 18 = .ok (.getfield 18, 3) := by decide +kernel
theorem dX8_writeTo_21 : decode cX8_writeTo 21 = .ok (.invokevirtual 57, 3) := by decide +kernel
theorem dX8_writeTo_24 : decode cX8_writeTo 24 = .ok (.aload_n 1, 1) := by decide +kernel
theorem dX8_writeTo_25 : decode cX8_writeTo 25 = .ok (.aload_n 0, 1) := by decide +kernel
theorem dX8_writeTo_26 : decode cX8_writeTo 26 = .ok (.getfield 21, 3) := by decide +kernel
theorem dX8_writeTo_29 : decode cX8_writeTo 29 = .ok (.invokevirtual 60, 3) := by decide +kernel
theorem dX8_writeTo_32 : decode cX8_writeTo 32 = .ok (.aload_n 1, 1) := by decide +kernel
theorem dX8_writeTo_33 : decode cX8_writeTo 33 = .ok (.aload_n 0, 1) := by decide +kernel
theorem dX8_writeTo_34 : decode cX8_writeTo 34 = .ok (.getfield 24, 3) := by decide +kernel
theorem dX8_writeTo_37 : decode cX8_writeTo 37 = .ok (.invokevirtual 60, 3) := by decide +kernel
theorem dX8_writeTo_40 : decode cX8_writeTo 40 = .ok (.iconst 0, 1) := by decide +kernel
theorem dX8_writeTo_41 : decode cX8_writeTo 41 = .ok (.istore_n 2, 1) := by decide +kernel
theorem dX8_writeTo_42 : decode cX8_writeTo 42 = .ok (.iload_n 2, 1) := by decide +kernel
theorem dX8_writeTo_43 : decode cX8_writeTo 43 = .ok (.bipush 16, 2) := by decide +kernel
theorem dX8_writeTo_45 : decode cX8_writeTo 45 = .ok (.if_icmp .ge 30, 3) := by decide +kernel
theorem dX8_writeTo_48 : decode cX8_writeTo 48 = .ok (.iload_n 2, 1) := by decide +kernel
theorem dX8_writeTo_49 : decode cX8_writeTo 49 = .ok (.aload_n 0, 1) := by decide +kernel
theorem dX8_writeTo_50 : decode cX8_writeTo 50 = .ok (.getfield 24, 3) := by decide +kernel
theorem dX8_writeTo_53 : decode cX8_writeTo 53 = .ok (.invokestatic 43, 3) := by decide +kernel
theorem dX8_writeTo_56 : decode cX8_writeTo 56 = .ok (.ifCond .eq 13, 3) := by decide +kernel
theorem dX8_writeTo_59 : decode cX8_writeTo 59 = .ok (.aload_n 1, 1) := by decide +kernel
theorem dX8_writeTo_60 : decode cX8_writeTo 60 = .ok (.aload_n 0, 1) := by decide +kernel
theorem dX8_writeTo_61 : decode cX8_writeTo 61 = .ok (.getfield 27, 3) := by decide +kernel
theorem dX8_writeTo_64 : decode cX8_writeTo 64 = .ok (.iload_n 2, 1) := by decide +kernel
theorem dX8_writeTo_65 : decode cX8_writeTo 65 = .ok (.iaload, 1) := by decide +kernel
theorem dX8_writeTo_66 : decode cX8_writeTo 66 = .ok (.invokevirtual 63, 3) := by decide +kernel
theorem dX8_writeTo_69 : decode cX8_writeTo 69 = .ok (.iinc 2 1, 3) := by decide +kernel
theorem dX8_writeTo_72 : decode cX8_writeTo 72 = .ok (.goto (-30), 3) := by decide +kernel
theorem dX8_writeTo_75 : decode cX8_writeTo 75 = .ok (.return_, 1) := by decide +kernel
theorem dX8_isLike_0 : decode cX8_isLike 0 = .ok (.aload_n 0, 1) := by decide +kernel
theorem dX8_isLike_1 : decode cX8_isLike 1 = .ok (.getfield 9, 3) := by decide +kernel
theorem dX8_isLike_4 : decode cX8_isLike 4 = .ok (.aload_n 1, 1) := by decide +kernel
theorem dX8_isLike_5 : decode cX8_isLike 5 = .ok (.getfield 9, 3) := by decide +kernel
theorem dX8_isLike_8 : decode cX8_isLike 8 = .ok (.if_icmp .ne 18, 3) := by decide +kernel
theorem dX8_isLike_11 : decode cX8_isLike 11 = .ok (.aload_n 0, 1) := by decide +kernel
theorem dX8_isLike_12 : decode cX8_isLike 12 = .ok (.getfield 15, 3) := by decide +kernel
theorem dX8_isLike_15 : decode cX8_isLike 15 = .ok (.aload_n 1, 1) := by decide +kernel
theorem dX8_isLike_16 : decode cX8_isLike 16 = .ok (.getfield 15, 3) := by decide +kernel
theorem dX8_isLike_19 : decode cX8_isLike 19 = .ok (.if_icmp .ne 7, 3) := by decide +kernel
theorem dX8_isLike_22 : decode cX8_isLike 22 = .ok (.iconst 1, 1) := by decide +kernel
theorem dX8_isLike_23 : decode cX8_isLike 23 = .ok (.goto 4, 3) := by decide +kernel
theorem dX8_isLike_26 : decode cX8_isLike 26 = .ok (.iconst 0, 1) := by decide +kernel
theorem dX8_isLike_27 : decode cX8_isLike 27 = .ok (.ireturn, 1) := by decide +kernel
theorem dX8_tell_0 : decode cX8_tell 0 = .ok (.iload_n 1, 1) := by decide +kernel
theorem dX8_tell_1 : decode cX8_tell 1 = .ok (.tableswitch 60 0 4 #[35, 40, 45, 50, 55], 35) := by decide +kernel
theorem dX8_tell_36 : decode cX8_tell 36 = .ok (.aload_n 0, 1) := by decide +kernel
theorem dX8_tell_37 : decode cX8_tell 37 = .ok (.getfield 9, 3) := by decide +kernel
theorem dX8_tell_40 : decode cX8_tell 40 = .ok (.ireturn, 1) := by decide +kernel
theorem dX8_tell_41 : decode cX8_tell 41 = .ok (.aload_n 0, 1) := by decide +kernel
theorem dX8_tell_42 : decode cX8_tell 42 = .ok (.getfield 15, 3) := by decide +kernel
theorem dX8_tell_45 : decode cX8_tell 45 = .ok (.ireturn, 1) := by decide +kernel
theorem dX8_tell_46 : decode cX8_tell 46 = .ok (.aload_n 0, 1) := by decide +kernel
theorem dX8_tell_47 : decode cX8_tell 47 = .ok (.getfield 18, 3) := by decide +kernel
theorem dX8_tell_50 : decode cX8_tell 50 = .ok (.ireturn, 1) := by decide +kernel
theorem dX8_tell_51 : decode cX8_tell 51 = .ok (.aload_n 0, 1) := by decide +kernel
theorem dX8_tell_52 : decode cX8_tell 52 = .ok (.getfield 21, 3) := by decide +kernel
theorem dX8_tell_55 : decode cX8_tell 55 = .ok (.ireturn, 1) := by decide +kernel
theorem dX8_tell_56 : decode cX8_tell 56 = .ok (.aload_n 0, 1) := by decide +kernel
theorem dX8_tell_57 : decode cX8_tell 57 = .ok (.getfield 24, 3) := by decide +kernel
theorem dX8_tell_60 : decode cX8_tell 60 = .ok (.ireturn, 1) := by decide +kernel
theorem dX8_tell_61 : decode cX8_tell 61 = .ok (.iconst (-1), 1) := by decide +kernel
theorem dX8_tell_62 : decode cX8_tell 62 = .ok (.ireturn, 1) := by decide +kernel
