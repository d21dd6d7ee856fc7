theorem dX2_init_0 : decode cX2_init 0 = .ok (.aload_n 0, 1) := by decide +kernel
theorem dX2_init_1 : decode cX2_init 1 = .ok (.invokespecial 3, 3) := by decide +kernel
theorem dX2_init_4 : decode cX2_init 4 = .ok (.aload_n 0, 1) := by decide +kernel
theorem dX2_init_5 : decode cX2_init 5 = .ok (.sipush 4096, 3) := by decide +kernel
theorem dX2_init_8 : decode cX2_init 8 = .ok (.newarray .long, 2) := by decide +kernel
theorem dX2_init_10 : decode cX2_init 10 = .ok (.putfield 9, 3) := by decide +kernel
theorem dX2_init_13 : decode cX2_init 13 = .ok (.aload_n 0, 1) := by decide +kernel
theorem dX2_init_14 : decode cX2_init 14 = .ok (.iconst (-1), 1) := by decide +kernel
theorem dX2_init_15 : decode cX2_init 15 = .ok (.putfield 15, 3) := by decide +kernel
theorem dX2_init_18 : decode cX2_init 18 = .ok (.aload_n 0, 1) := by decide +kernel
theorem dX2_init_19 : decode cX2_init 19 = .ok (.iconst 1, 1) := by decide +kernel
theorem dX2_init_20 : decode cX2_init 20 = .ok (.putfield 19, 3) := by decide +kernel
theorem dX2_init_23 : decode cX2_init 23 = .ok (.aload_n 0, 1) := by decide +kernel
theorem dX2_init_24 : decode cX2_init 24 = .ok (.aload_n 1, 1) := by decide +kernel
theorem dX2_init_25 : decode cX2_init 25 = .ok (.putfield 22, 3) := by decide +kernel
theorem dX2_init_28 : decode cX2_init 28 = .ok (.aload_n 0, 1) := by decide +kernel
theorem dX2_init_29 : decode cX2_init 29 = .ok (.iconst 1, 1) := by decide +kernel
theorem dX2_init_30 : decode cX2_init 30 = .ok (.iconst 0, 1) := by decide +kernel
theorem dX2_init_31 : decode cX2_init 31 = .ok (.invokevirtual 26, 3) := by decide +kernel
theorem dX2_init_34 : decode cX2_init 34 = .ok (.aload_n 0, 1) := by decide +kernel
theorem dX2_init_35 : decode cX2_init 35 = .ok (.iconst 1, 1) := by decide +kernel
theorem dX2_init_36 : decode cX2_init 36 = .ok (.sipush 512, 3) := by decide +kernel
theorem dX2_init_39 : decode cX2_init 39 = .ok (.invokevirtual 30, 3) := by decide +kernel
theorem dX2_init_42 : decode cX2_init 42 = .ok (.return_, 1) := by decide +kernel
theorem dX2_tell_0 : decode cX2_tell 0 = .ok (.iload_n 1, 1) := by decide +kernel
theorem dX2_tell_1 : decode cX2_tell 1 = .ok (.tableswitch 69 0 5 #[39, 44, 49, 54, 59, 64], 39) := by decide +kernel
theorem dX2_tell_40 : decode cX2_tell 40 = .ok (.aload_n 0, 1) := by decide +kernel
theorem dX2_tell_41 : decode cX2_tell 41 = .ok (.getfield 33, 3) := by decide +kernel
theorem dX2_tell_44 : decode cX2_tell 44 = .ok (.ireturn, 1) := by decide +kernel
theorem dX2_tell_45 : decode cX2_tell 45 = .ok (.aload_n 0, 1) := by decide +kernel
theorem dX2_tell_46 : decode cX2_tell 46 = .ok (.getfield 36, 3) := by decide +kernel
theorem dX2_tell_49 : decode cX2_tell 49 = .ok (.ireturn, 1) := by decide +kernel
theorem dX2_tell_50 : decode cX2_tell 50 = .ok (.aload_n 0, 1) := by decide +kernel
theorem dX2_tell_51 : decode cX2_tell 51 = .ok (.getfield 19, 3) := by decide +kernel
theorem dX2_tell_54 : decode cX2_tell 54 = .ok (.ireturn, 1) := by decide +kernel
theorem dX2_tell_55 : decode cX2_tell 55 = .ok (.aload_n 0, 1) := by decide +kernel
theorem dX2_tell_56 : decode cX2_tell 56 = .ok (.getfield 39, 3) := by decide +kernel
theorem dX2_tell_59 : decode cX2_tell 59 = .ok (.ireturn, 1) := by decide +kernel
theorem dX2_tell_60 : decode cX2_tell 60 = .ok (.aload_n 0, 1) := by decide +kernel
theorem dX2_tell_61 : decode cX2_tell 61 = .ok (.getfield 42, 3) := by decide +kernel
theorem dX2_tell_64 : decode cX2_tell 64 = .ok (.ireturn, 1) := by decide +kernel
theorem dX2_tell_65 : decode cX2_tell 65 = .ok (.aload_n 0, 1) := by decide +kernel
theorem dX2_tell_66 : decode cX2_tell 66 = .ok (.getfield 15, 3) := by decide +kernel
theorem dX2_tell_69 : decode cX2_tell 69 = .ok (.ireturn, 1) := by decide +kernel
theorem dX2_tell_70 : decode cX2_tell 70 = .ok (.iconst (-1), 1) := by decide +kernel
theorem dX2_tell_71 : decode cX2_tell 71 = .ok (.ireturn, 1) := by decide +kernel
theorem dX2_startImage_0 : decode cX2_startImage 0 = .ok (.aload_n 0, 1) := by decide +kernel
theorem dX2_startImage_1 : decode cX2_startImage 1 = .ok (.getfield 22, 3) := by decide +kernel
theorem dX2_startImage_4 : decode cX2_startImage 4 = .ok (.invokevirtual 45, 3) := by decide +kernel
theorem dX2_startImage_7 : decode cX2_startImage 7 = .ok (.aload_n 0, 1) := by decide +kernel
theorem dX2_startImage_8 : decode cX2_startImage 8 = .ok (.iconst 0, 1) := by decide +kernel
theorem dX2_startImage_9 : decode cX2_startImage 9 = .ok (.putfield 50, 3) := by decide +kernel
theorem dX2_startImage_12 : decode cX2_startImage 12 = .ok (.return_, 1) := by decide +kernel
theorem dX2_addRecord_0 : decode cX2_addRecord 0 = .ok (.aload_n 0, 1) := by decide +kernel
theorem dX2_addRecord_1 : decode cX2_addRecord 1 = .ok (.getfield 22, 3) := by decide +kernel
theorem dX2_addRecord_4 : decode cX2_addRecord 4 = .ok (.getfield 53, 3) := by decide +kernel
theorem dX2_addRecord_7 : decode cX2_addRecord 7 = .ok (.istore_n 2, 1) := by decide +kernel
theorem dX2_addRecord_8 : decode cX2_addRecord 8 = .ok (.aload_n 0, 1) := by decide +kernel
theorem dX2_addRecord_9 : decode cX2_addRecord 9 = .ok (.getfield 22, 3) := by decide +kernel
theorem dX2_addRecord_12 : decode cX2_addRecord 12 = .ok (.aload_n 1, 1) := by decide +kernel
theorem dX2_addRecord_13 : decode cX2_addRecord 13 = .ok (.getfield 53, 3) := by decide +kernel
theorem dX2_addRecord_16 : decode cX2_addRecord 16 = .ok (.invokevirtual 56, 3) := by decide +kernel
theorem dX2_addRecord_19 : decode cX2_addRecord 19 = .ok (.aload_n 0, 1) := by decide +kernel
theorem dX2_addRecord_20 : decode cX2_addRecord 20 = .ok (.getfield 22, 3) := by decide +kernel
theorem dX2_addRecord_23 : decode cX2_addRecord 23 = .ok (.aload_n 1, 1) := by decide +kernel
theorem dX2_addRecord_24 : decode cX2_addRecord 24 = .ok (.getfield 53, 3) := by decide +kernel
theorem dX2_addRecord_27 : decode cX2_addRecord 27 = .ok (.bipush 8, 2) := by decide +kernel
theorem dX2_addRecord_29 : decode cX2_addRecord 29 = .ok (.iushr, 1) := by decide +kernel
theorem dX2_addRecord_30 : decode cX2_addRecord 30 = .ok (.invokevirtual 56, 3) := by decide +kernel
theorem dX2_addRecord_33 : decode cX2_addRecord 33 = .ok (.aload_n 0, 1) := by decide +kernel
theorem dX2_addRecord_34 : decode cX2_addRecord 34 = .ok (.getfield 22, 3) := by decide +kernel
theorem dX2_addRecord_37 : decode cX2_addRecord 37 = .ok (.aload_n 1, 1) := by decide +kernel
theorem dX2_addRecord_38 : decode cX2_addRecord 38 = .ok (.getfield 60, 3) := by decide +kernel
theorem dX2_addRecord_41 : decode cX2_addRecord 41 = .ok (.iconst 0, 1) := by decide +kernel
theorem dX2_addRecord_42 : decode cX2_addRecord 42 = .ok (.aload_n 1, 1) := by decide +kernel
theorem dX2_addRecord_43 : decode cX2_addRecord 43 = .ok (.getfield 53, 3) := by decide +kernel
theorem dX2_addRecord_46 : decode cX2_addRecord 46 = .ok (.invokevirtual 64, 3) := by decide +kernel
theorem dX2_addRecord_49 : decode cX2_addRecord 49 = .ok (.aload_n 0, 1) := by decide +kernel
theorem dX2_addRecord_50 : decode cX2_addRecord 50 = .ok (.getfield 22, 3) := by decide +kernel
theorem dX2_addRecord_53 : decode cX2_addRecord 53 = .ok (.iload_n 2, 1) := by decide +kernel
theorem dX2_addRecord_54 : decode cX2_addRecord 54 = .ok (.invokevirtual 68, 3) := by decide +kernel
theorem dX2_addRecord_57 : decode cX2_addRecord 57 = .ok (.aload_n 1, 1) := by decide +kernel
theorem dX2_addRecord_58 : decode cX2_addRecord 58 = .ok (.getfield 53, 3) := by decide +kernel
theorem dX2_addRecord_61 : decode cX2_addRecord 61 = .ok (.iconst 1, 1) := by decide +kernel
theorem dX2_addRecord_62 : decode cX2_addRecord 62 = .ok (.iand, 1) := by decide +kernel
theorem dX2_addRecord_63 : decode cX2_addRecord 63 = .ok (.iconst 1, 1) := by decide +kernel
theorem dX2_addRecord_64 : decode cX2_addRecord 64 = .ok (.if_icmp .ne 11, 3) := by decide +kernel
theorem dX2_addRecord_67 : decode cX2_addRecord 67 = .ok (.aload_n 0, 1) := by decide +kernel
theorem dX2_addRecord_68 : decode cX2_addRecord 68 = .ok (.getfield 22, 3) := by decide +kernel
theorem dX2_addRecord_71 : decode cX2_addRecord 71 = .ok (.iconst 0, 1) := by decide +kernel
theorem dX2_addRecord_72 : decode cX2_addRecord 72 = .ok (.invokevirtual 56, 3) := by decide +kernel
theorem dX2_addRecord_75 : decode cX2_addRecord 75 = .ok (.aload_n 0, 1) := by decide +kernel
theorem dX2_addRecord_76 : decode cX2_addRecord 76 = .ok (.dup, 1) := by decide +kernel
theorem dX2_addRecord_77 : decode cX2_addRecord 77 = .ok (.getfield 50, 3) := by decide +kernel
theorem dX2_addRecord_80 : decode cX2_addRecord 80 = .ok (.iconst 1, 1) := by decide +kernel
theorem dX2_addRecord_81 : decode cX2_addRecord 81 = .ok (.iadd, 1) := by decide +kernel
theorem dX2_addRecord_82 : decode cX2_addRecord 82 = .ok (.putfield 50, 3) := by decide +kernel
theorem dX2_addRecord_85 : decode cX2_addRecord 85 = .ok (.aload_n 0, 1) := by decide +kernel
theorem dX2_addRecord_86 : decode cX2_addRecord 86 = .ok (.aload_n 0, 1) := by decide +kernel
theorem dX2_addRecord_87 : decode cX2_addRecord 87 = .ok (.getfield 22, 3) := by decide +kernel
theorem dX2_addRecord_90 : decode cX2_addRecord 90 = .ok (.getfield 53, 3) := by decide +kernel
theorem dX2_addRecord_93 : decode cX2_addRecord 93 = .ok (.putfield 71, 3) := by decide +kernel
theorem dX2_addRecord_96 : decode cX2_addRecord 96 = .ok (.return_, 1) := by decide +kernel
theorem dX2_writeNote_0 : decode cX2_writeNote 0 = .ok (.aload_n 0, 1) := by decide +kernel
theorem dX2_writeNote_1 : decode cX2_writeNote 1 = .ok (.getfield 39, 3) := by decide +kernel
theorem dX2_writeNote_4 : decode cX2_writeNote 4 = .ok (.invokestatic 74, 3) := by decide +kernel
theorem dX2_writeNote_7 : decode cX2_writeNote 7 = .ok (.aload_n 0, 1) := by decide +kernel
theorem dX2_writeNote_8 : decode cX2_writeNote 8 = .ok (.getfield 36, 3) := by decide +kernel
theorem dX2_writeNote_11 : decode cX2_writeNote 11 = .ok (.iadd, 1) := by decide +kernel
theorem dX2_writeNote_12 : decode cX2_writeNote 12 = .ok (.istore_n 1, 1) := by decide +kernel
theorem dX2_writeNote_13 : decode cX2_writeNote 13 = .ok (.aload_n 0, 1) := by decide +kernel
theorem dX2_writeNote_14 : decode cX2_writeNote 14 = .ok (.sipush 15872, 3) := by decide +kernel
theorem dX2_writeNote_17 : decode cX2_writeNote 17 = .ok (.aload_n 0, 1) := by decide +kernel
theorem dX2_writeNote_18 : decode cX2_writeNote 18 = .ok (.getfield 36, 3) := by decide +kernel
theorem dX2_writeNote_21 : decode cX2_writeNote 21 = .ok (.isub, 1) := by decide +kernel
theorem dX2_writeNote_22 : decode cX2_writeNote 22 = .ok (.invokevirtual 78, 3) := by decide +kernel
theorem dX2_writeNote_25 : decode cX2_writeNote 25 = .ok (.iload_n 1, 1) := by decide +kernel
theorem dX2_writeNote_26 : decode cX2_writeNote 26 = .ok (.aload_n 0, 1) := by decide +kernel
theorem dX2_writeNote_27 : decode cX2_writeNote 27 = .ok (.getfield 22, 3) := by decide +kernel
theorem dX2_writeNote_30 : decode cX2_writeNote 30 = .ok (.getfield 53, 3) := by decide +kernel
theorem dX2_writeNote_33 : decode cX2_writeNote 33 = .ok (.iadd, 1) := by decide +kernel
theorem dX2_writeNote_34 : decode cX2_writeNote 34 = .ok (.iconst 1, 1) := by decide +kernel
theorem dX2_writeNote_35 : decode cX2_writeNote 35 = .ok (.isub, 1) := by decide +kernel
theorem dX2_writeNote_36 : decode cX2_writeNote 36 = .ok (.sipush 512, 3) := by decide +kernel
theorem dX2_writeNote_39 : decode cX2_writeNote 39 = .ok (.idiv, 1) := by decide +kernel
theorem dX2_writeNote_40 : decode cX2_writeNote 40 = .ok (.istore_n 2, 1) := by decide +kernel
theorem dX2_writeNote_41 : decode cX2_writeNote 41 = .ok (.iload_n 2, 1) := by decide +kernel
theorem dX2_writeNote_42 : decode cX2_writeNote 42 = .ok (.istore_n 3, 1) := by decide +kernel
theorem dX2_writeNote_43 : decode cX2_writeNote 43 = .ok (.iload_n 3, 1) := by decide +kernel
theorem dX2_writeNote_44 : decode cX2_writeNote 44 = .ok (.iload_n 1, 1) := by decide +kernel
theorem dX2_writeNote_45 : decode cX2_writeNote 45 = .ok (.sipush 512, 3) := by decide +kernel
theorem dX2_writeNote_48 : decode cX2_writeNote 48 = .ok (.idiv, 1) := by decide +kernel
theorem dX2_writeNote_49 : decode cX2_writeNote 49 = .ok (.if_icmp .lt 24, 3) := by decide +kernel
theorem dX2_writeNote_52 : decode cX2_writeNote 52 = .ok (.aload_n 0, 1) := by decide +kernel
theorem dX2_writeNote_53 : decode cX2_writeNote 53 = .ok (.invokevirtual 81, 3) := by decide +kernel
theorem dX2_writeNote_56 : decode cX2_writeNote 56 = .ok (.ifCond .eq 5, 3) := by decide +kernel
theorem dX2_writeNote_59 : decode cX2_writeNote 59 = .ok (.iconst 0, 1) := by decide +kernel
theorem dX2_writeNote_60 : decode cX2_writeNote 60 = .ok (.ireturn, 1) := by decide +kernel
theorem dX2_writeNote_61 : decode cX2_writeNote 61 = .ok (.aload_n 0, 1) := by decide +kernel
theorem dX2_writeNote_62 : decode cX2_writeNote 62 = .ok (.iload_n 3, 1) := by decide +kernel
theorem dX2_writeNote_63 : decode cX2_writeNote 63 = .ok (.iload_n 1, 1) := by decide +kernel
theorem dX2_writeNote_64 : decode cX2_writeNote 64 = .ok (.invokevirtual 30, 3) := by decide +kernel
theorem dX2_writeNote_67 : decode cX2_writeNote 67 = .ok (.iinc 3 (-1), 3) := by decide +kernel
theorem dX2_writeNote_70 : decode cX2_writeNote 70 = .ok (.goto (-27), 3) := by decide +kernel
theorem dX2_writeNote_73 : decode cX2_writeNote 73 = .ok (.aload_n 0, 1) := by decide +kernel
theorem dX2_writeNote_74 : decode cX2_writeNote 74 = .ok (.dup, 1) := by decide +kernel
theorem dX2_writeNote_75 : decode cX2_writeNote 75 = .ok (.getfield 36, 3) := by decide +kernel
theorem dX2_writeNote_78 : decode cX2_writeNote 78 = .ok (.aload_n 0, 1) := by decide +kernel
theorem dX2_writeNote_79 : decode cX2_writeNote 79 = .ok (.getfield 71, 3) := by decide +kernel
theorem dX2_writeNote_82 : decode cX2_writeNote 82 = .ok (.iadd, 1) := by decide +kernel
theorem dX2_writeNote_83 : decode cX2_writeNote 83 = .ok (.putfield 36, 3) := by decide +kernel
theorem dX2_writeNote_86 : decode cX2_writeNote 86 = .ok (.aload_n 0, 1) := by decide +kernel
theorem dX2_writeNote_87 : decode cX2_writeNote 87 = .ok (.dup, 1) := by decide +kernel
theorem dX2_writeNote_88 : decode cX2_writeNote 88 = .ok (.getfield 33, 3) := by decide +kernel
theorem dX2_writeNote_91 : decode cX2_writeNote 91 = .ok (.aload_n 0, 1) := by decide +kernel
theorem dX2_writeNote_92 : decode cX2_writeNote 92 = .ok (.getfield 50, 3) := by decide +kernel
theorem dX2_writeNote_95 : decode cX2_writeNote 95 = .ok (.iadd, 1) := by decide +kernel
theorem dX2_writeNote_96 : decode cX2_writeNote 96 = .ok (.putfield 33, 3) := by decide +kernel
theorem dX2_writeNote_99 : decode cX2_writeNote 99 = .ok (.iconst 1, 1) := by decide +kernel
theorem dX2_writeNote_100 : decode cX2_writeNote 100 = .ok (.ireturn, 1) := by decide +kernel
theorem dX2_writeHalf_0 : decode cX2_writeHalf 0 = .ok (.iconst 1, 1) := by decide +kernel
theorem dX2_writeHalf_1 : decode cX2_writeHalf 1 = .ok (.aload_n 0, 1) := by decide +kernel
theorem dX2_writeHalf_2 : decode cX2_writeHalf 2 = .ok (.getfield 39, 3) := by decide +kernel
theorem dX2_writeHalf_5 : decode cX2_writeHalf 5 = .ok (.isub, 1) := by decide +kernel
theorem dX2_writeHalf_6 : decode cX2_writeHalf 6 = .ok (.invokestatic 74, 3) := by decide +kernel
theorem dX2_writeHalf_9 : decode cX2_writeHalf 9 = .ok (.istore_n 1, 1) := by decide +kernel
theorem dX2_writeHalf_10 : decode cX2_writeHalf 10 = .ok (.aload_n 0, 1) := by decide +kernel
theorem dX2_writeHalf_11 : decode cX2_writeHalf 11 = .ok (.sipush 15872, 3) := by decide +kernel
theorem dX2_writeHalf_14 : decode cX2_writeHalf 14 = .ok (.invokevirtual 78, 3) := by decide +kernel
theorem dX2_writeHalf_17 : decode cX2_writeHalf 17 = .ok (.iload_n 1, 1) := by decide +kernel
theorem dX2_writeHalf_18 : decode cX2_writeHalf 18 = .ok (.aload_n 0, 1) := by decide +kernel
theorem dX2_writeHalf_19 : decode cX2_writeHalf 19 = .ok (.getfield 22, 3) := by decide +kernel
theorem dX2_writeHalf_22 : decode cX2_writeHalf 22 = .ok (.getfield 53, 3) := by decide +kernel
theorem dX2_writeHalf_25 : decode cX2_writeHalf 25 = .ok (.iadd, 1) := by decide +kernel
theorem dX2_writeHalf_26 : decode cX2_writeHalf 26 = .ok (.iconst 1, 1) := by decide +kernel
theorem dX2_writeHalf_27 : decode cX2_writeHalf 27 = .ok (.isub, 1) := by decide +kernel
theorem dX2_writeHalf_28 : decode cX2_writeHalf 28 = .ok (.sipush 512, 3) := by decide +kernel
theorem dX2_writeHalf_31 : decode cX2_writeHalf 31 = .ok (.idiv, 1) := by decide +kernel
theorem dX2_writeHalf_32 : decode cX2_writeHalf 32 = .ok (.istore_n 2, 1) := by decide +kernel
theorem dX2_writeHalf_33 : decode cX2_writeHalf 33 = .ok (.iload_n 1, 1) := by decide +kernel
theorem dX2_writeHalf_34 : decode cX2_writeHalf 34 = .ok (.sipush 512, 3) := by decide +kernel
theorem dX2_writeHalf_37 : decode cX2_writeHalf 37 = .ok (.idiv, 1) := by decide +kernel
theorem dX2_writeHalf_38 : decode cX2_writeHalf 38 = .ok (.istore_n 3, 1) := by decide +kernel
theorem dX2_writeHalf_39 : decode cX2_writeHalf 39 = .ok (.iload_n 3, 1) := by decide +kernel
theorem dX2_writeHalf_40 : decode cX2_writeHalf 40 = .ok (.iload_n 2, 1) := by decide +kernel
theorem dX2_writeHalf_41 : decode cX2_writeHalf 41 = .ok (.if_icmp .gt 24, 3) := by decide +kernel
theorem dX2_writeHalf_44 : decode cX2_writeHalf 44 = .ok (.aload_n 0, 1) := by decide +kernel
theorem dX2_writeHalf_45 : decode cX2_writeHalf 45 = .ok (.invokevirtual 81, 3) := by decide +kernel
theorem dX2_writeHalf_48 : decode cX2_writeHalf 48 = .ok (.ifCond .eq 5, 3) := by decide +kernel
theorem dX2_writeHalf_51 : decode cX2_writeHalf 51 = .ok (.iconst 0, 1) := by decide +kernel
theorem dX2_writeHalf_52 : decode cX2_writeHalf 52 = .ok (.ireturn, 1) := by decide +kernel
theorem dX2_writeHalf_53 : decode cX2_writeHalf 53 = .ok (.aload_n 0, 1) := by decide +kernel
theorem dX2_writeHalf_54 : decode cX2_writeHalf 54 = .ok (.iload_n 3, 1) := by decide +kernel
theorem dX2_writeHalf_55 : decode cX2_writeHalf 55 = .ok (.iload_n 1, 1) := by decide +kernel
theorem dX2_writeHalf_56 : decode cX2_writeHalf 56 = .ok (.invokevirtual 30, 3) := by decide +kernel
theorem dX2_writeHalf_59 : decode cX2_writeHalf 59 = .ok (.iinc 3 1, 3) := by decide +kernel
theorem dX2_writeHalf_62 : decode cX2_writeHalf 62 = .ok (.goto (-23), 3) := by decide +kernel
theorem dX2_writeHalf_65 : decode cX2_writeHalf 65 = .ok (.iconst 1, 1) := by decide +kernel
theorem dX2_writeHalf_66 : decode cX2_writeHalf 66 = .ok (.ireturn, 1) := by decide +kernel
theorem dX2_makeHead_0 : decode cX2_makeHead 0 = .ok (.aload_n 0, 1) := by decide +kernel
theorem dX2_makeHead_1 : decode cX2_makeHead 1 = .ok (.getfield 22, 3) := by decide +kernel
theorem dX2_makeHead_4 : decode cX2_makeHead 4 = .ok (.invokevirtual 45, 3) := by decide +kernel
theorem dX2_makeHead_7 : decode cX2_makeHead 7 = .ok (.aload_n 0, 1) := by decide +kernel
theorem dX2_makeHead_8 : decode cX2_makeHead 8 = .ok (.getfield 22, 3) := by decide +kernel
theorem dX2_makeHead_11 : decode cX2_makeHead 11 = .ok (.bipush 74, 2) := by decide +kernel
theorem dX2_makeHead_13 : decode cX2_makeHead 13 = .ok (.invokevirtual 56, 3) := by decide +kernel
theorem dX2_makeHead_16 : decode cX2_makeHead 16 = .ok (.aload_n 0, 1) := by decide +kernel
theorem dX2_makeHead_17 : decode cX2_makeHead 17 = .ok (.getfield 22, 3) := by decide +kernel
theorem dX2_makeHead_20 : decode cX2_makeHead 20 = .ok (.bipush 49, 2) := by decide +kernel
theorem dX2_makeHead_22 : decode cX2_makeHead 22 = .ok (.invokevirtual 56, 3) := by decide +kernel
theorem dX2_makeHead_25 : decode cX2_makeHead 25 = .ok (.aload_n 0, 1) := by decide +kernel
theorem dX2_makeHead_26 : decode cX2_makeHead 26 = .ok (.getfield 22, 3) := by decide +kernel
theorem dX2_makeHead_29 : decode cX2_makeHead 29 = .ok (.iload_n 2, 1) := by decide +kernel
theorem dX2_makeHead_30 : decode cX2_makeHead 30 = .ok (.invokevirtual 56, 3) := by decide +kernel
theorem dX2_makeHead_33 : decode cX2_makeHead 33 = .ok (.aload_n 0, 1) := by decide +kernel
theorem dX2_makeHead_34 : decode cX2_makeHead 34 = .ok (.getfield 22, 3) := by decide +kernel
theorem dX2_makeHead_37 : decode cX2_makeHead 37 = .ok (.iconst 0, 1) := by decide +kernel
theorem dX2_makeHead_38 : decode cX2_makeHead 38 = .ok (.invokevirtual 56, 3) := by decide +kernel
theorem dX2_makeHead_41 : decode cX2_makeHead 41 = .ok (.iconst 0, 1) := by decide +kernel
theorem dX2_makeHead_42 : decode cX2_makeHead 42 = .ok (.istore_n 3, 1) := by decide +kernel
theorem dX2_makeHead_43 : decode cX2_makeHead 43 = .ok (.iload_n 3, 1) := by decide +kernel
theorem dX2_makeHead_44 : decode cX2_makeHead 44 = .ok (.bipush 32, 2) := by decide +kernel
theorem dX2_makeHead_46 : decode cX2_makeHead 46 = .ok (.if_icmp .ge 19, 3) := by decide +kernel
theorem dX2_makeHead_49 : decode cX2_makeHead 49 = .ok (.aload_n 0, 1) := by decide +kernel
theorem dX2_makeHead_50 : decode cX2_makeHead 50 = .ok (.getfield 22, 3) := by decide +kernel
theorem dX2_makeHead_53 : decode cX2_makeHead 53 = .ok (.iload_n 1, 1) := by decide +kernel
theorem dX2_makeHead_54 : decode cX2_makeHead 54 = .ok (.iload_n 3, 1) := by decide +kernel
theorem dX2_makeHead_55 : decode cX2_makeHead 55 = .ok (.iushr, 1) := by decide +kernel
theorem dX2_makeHead_56 : decode cX2_makeHead 56 = .ok (.invokevirtual 56, 3) := by decide +kernel
theorem dX2_makeHead_59 : decode cX2_makeHead 59 = .ok (.iinc 3 8, 3) := by decide +kernel
theorem dX2_makeHead_62 : decode cX2_makeHead 62 = .ok (.goto (-19), 3) := by decide +kernel
theorem dX2_makeHead_65 : decode cX2_makeHead 65 = .ok (.aload_n 0, 1) := by decide +kernel
theorem dX2_makeHead_66 : decode cX2_makeHead 66 = .ok (.getfield 22, 3) := by decide +kernel
theorem dX2_makeHead_69 : decode cX2_makeHead 69 = .ok (.iconst 0, 1) := by decide +kernel
theorem dX2_makeHead_70 : decode cX2_makeHead 70 = .ok (.invokevirtual 68, 3) := by decide +kernel
theorem dX2_makeHead_73 : decode cX2_makeHead 73 = .ok (.return_, 1) := by decide +kernel
theorem dX2_writeHead_0 : decode cX2_writeHead 0 = .ok (.aload_n 0, 1) := by decide +kernel
theorem dX2_writeHead_1 : decode cX2_writeHead 1 = .ok (.invokevirtual 81, 3) := by decide +kernel
theorem dX2_writeHead_4 : decode cX2_writeHead 4 = .ok (.ifCond .eq 5, 3) := by decide +kernel
theorem dX2_writeHead_7 : decode cX2_writeHead 7 = .ok (.iconst 0, 1) := by decide +kernel
theorem dX2_writeHead_8 : decode cX2_writeHead 8 = .ok (.ireturn, 1) := by decide +kernel
theorem dX2_writeHead_9 : decode cX2_writeHead 9 = .ok (.aload_n 0, 1) := by decide +kernel
theorem dX2_writeHead_10 : decode cX2_writeHead 10 = .ok (.dup, 1) := by decide +kernel
theorem dX2_writeHead_11 : decode cX2_writeHead 11 = .ok (.getfield 19, 3) := by decide +kernel
theorem dX2_writeHead_14 : decode cX2_writeHead 14 = .ok (.iconst 1, 1) := by decide +kernel
theorem dX2_writeHead_15 : decode cX2_writeHead 15 = .ok (.iadd, 1) := by decide +kernel
theorem dX2_writeHead_16 : decode cX2_writeHead 16 = .ok (.putfield 19, 3) := by decide +kernel
theorem dX2_writeHead_19 : decode cX2_writeHead 19 = .ok (.aload_n 0, 1) := by decide +kernel
theorem dX2_writeHead_20 : decode cX2_writeHead 20 = .ok (.iconst 1, 1) := by decide +kernel
theorem dX2_writeHead_21 : decode cX2_writeHead 21 = .ok (.aload_n 0, 1) := by decide +kernel
theorem dX2_writeHead_22 : decode cX2_writeHead 22 = .ok (.getfield 39, 3) := by decide +kernel
theorem dX2_writeHead_25 : decode cX2_writeHead 25 = .ok (.isub, 1) := by decide +kernel
theorem dX2_writeHead_26 : decode cX2_writeHead 26 = .ok (.putfield 39, 3) := by decide +kernel
theorem dX2_writeHead_29 : decode cX2_writeHead 29 = .ok (.aload_n 0, 1) := by decide +kernel
theorem dX2_writeHead_30 : decode cX2_writeHead 30 = .ok (.aload_n 0, 1) := by decide +kernel
theorem dX2_writeHead_31 : decode cX2_writeHead 31 = .ok (.getfield 71, 3) := by decide +kernel
theorem dX2_writeHead_34 : decode cX2_writeHead 34 = .ok (.putfield 36, 3) := by decide +kernel
theorem dX2_writeHead_37 : decode cX2_writeHead 37 = .ok (.aload_n 0, 1) := by decide +kernel
theorem dX2_writeHead_38 : decode cX2_writeHead 38 = .ok (.aload_n 0, 1) := by decide +kernel
theorem dX2_writeHead_39 : decode cX2_writeHead 39 = .ok (.getfield 50, 3) := by decide +kernel
theorem dX2_writeHead_42 : decode cX2_writeHead 42 = .ok (.putfield 33, 3) := by decide +kernel
theorem dX2_writeHead_45 : decode cX2_writeHead 45 = .ok (.aload_n 0, 1) := by decide +kernel
theorem dX2_writeHead_46 : decode cX2_writeHead 46 = .ok (.getfield 19, 3) := by decide +kernel
theorem dX2_writeHead_49 : decode cX2_writeHead 49 = .ok (.iconst 1, 1) := by decide +kernel
theorem dX2_writeHead_50 : decode cX2_writeHead 50 = .ok (.iand, 1) := by decide +kernel
theorem dX2_writeHead_51 : decode cX2_writeHead 51 = .ok (.istore_n 1, 1) := by decide +kernel
theorem dX2_writeHead_52 : decode cX2_writeHead 52 = .ok (.aload_n 0, 1) := by decide +kernel
theorem dX2_writeHead_53 : decode cX2_writeHead 53 = .ok (.iload_n 1, 1) := by decide +kernel
theorem dX2_writeHead_54 : decode cX2_writeHead 54 = .ok (.iload_n 1, 1) := by decide +kernel
theorem dX2_writeHead_55 : decode cX2_writeHead 55 = .ok (.sipush 512, 3) := by decide +kernel
theorem dX2_writeHead_58 : decode cX2_writeHead 58 = .ok (.imul, 1) := by decide +kernel
theorem dX2_writeHead_59 : decode cX2_writeHead 59 = .ok (.invokevirtual 30, 3) := by decide +kernel
theorem dX2_writeHead_62 : decode cX2_writeHead 62 = .ok (.iconst 1, 1) := by decide +kernel
theorem dX2_writeHead_63 : decode cX2_writeHead 63 = .ok (.ireturn, 1) := by decide +kernel
theorem dX2_closeImage_0 : decode cX2_closeImage 0 = .ok (.aload_n 0, 1) := by decide +kernel
theorem dX2_closeImage_1 : decode cX2_closeImage 1 = .ok (.getfield 22, 3) := by decide +kernel
theorem dX2_closeImage_4 : decode cX2_closeImage 4 = .ok (.getfield 53, 3) := by decide +kernel
theorem dX2_closeImage_7 : decode cX2_closeImage 7 = .ok (.iconst 2, 1) := by decide +kernel
theorem dX2_closeImage_8 : decode cX2_closeImage 8 = .ok (.iadd, 1) := by decide +kernel
theorem dX2_closeImage_9 : decode cX2_closeImage 9 = .ok (.iload_n 1, 1) := by decide +kernel
theorem dX2_closeImage_10 : decode cX2_closeImage 10 = .ok (.if_icmp .gt 19, 3) := by decide +kernel
theorem dX2_closeImage_13 : decode cX2_closeImage 13 = .ok (.aload_n 0, 1) := by decide +kernel
theorem dX2_closeImage_14 : decode cX2_closeImage 14 = .ok (.getfield 22, 3) := by decide +kernel
theorem dX2_closeImage_17 : decode cX2_closeImage 17 = .ok (.iconst 0, 1) := by decide +kernel
theorem dX2_closeImage_18 : decode cX2_closeImage 18 = .ok (.invokevirtual 56, 3) := by decide +kernel
theorem dX2_closeImage_21 : decode cX2_closeImage 21 = .ok (.aload_n 0, 1) := by decide +kernel
theorem dX2_closeImage_22 : decode cX2_closeImage 22 = .ok (.getfield 22, 3) := by decide +kernel
theorem dX2_closeImage_25 : decode cX2_closeImage 25 = .ok (.iconst 0, 1) := by decide +kernel
theorem dX2_closeImage_26 : decode cX2_closeImage 26 = .ok (.invokevirtual 56, 3) := by decide +kernel
theorem dX2_closeImage_29 : decode cX2_closeImage 29 = .ok (.return_, 1) := by decide +kernel
theorem dX2_startOf_0 : decode cX2_startOf 0 = .ok (.iconst 2, 1) := by decide +kernel
theorem dX2_startOf_1 : decode cX2_startOf 1 = .ok (.iload_n 0, 1) := by decide +kernel
theorem dX2_startOf_2 : decode cX2_startOf 2 = .ok (.bipush 31, 2) := by decide +kernel
theorem dX2_startOf_4 : decode cX2_startOf 4 = .ok (.imul, 1) := by decide +kernel
theorem dX2_startOf_5 : decode cX2_startOf 5 = .ok (.iadd, 1) := by decide +kernel
theorem dX2_startOf_6 : decode cX2_startOf 6 = .ok (.sipush 512, 3) := by decide +kernel
theorem dX2_startOf_9 : decode cX2_startOf 9 = .ok (.imul, 1) := by decide +kernel
theorem dX2_startOf_10 : decode cX2_startOf 10 = .ok (.ireturn, 1) := by decide +kernel
theorem dX2_crashes_0 : decode cX2_crashes 0 = .ok (.aload_n 0, 1) := by decide +kernel
theorem dX2_crashes_1 : decode cX2_crashes 1 = .ok (.getfield 15, 3) := by decide +kernel
theorem dX2_crashes_4 : decode cX2_crashes 4 = .ok (.ifCond .ne 10, 3) := by decide +kernel
theorem dX2_crashes_7 : decode cX2_crashes 7 = .ok (.aload_n 0, 1) := by decide +kernel
theorem dX2_crashes_8 : decode cX2_crashes 8 = .ok (.iconst (-1), 1) := by decide +kernel
theorem dX2_crashes_9 : decode cX2_crashes 9 = .ok (.putfield 15, 3) := by decide +kernel
theorem dX2_crashes_12 : decode cX2_crashes 12 = .ok (.iconst 1, 1) := by decide +kernel
theorem dX2_crashes_13 : decode cX2_crashes 13 = .ok (.ireturn, 1) := by decide +kernel
theorem dX2_crashes_14 : decode cX2_crashes 14 = .ok (.aload_n 0, 1) := by decide +kernel
theorem dX2_crashes_15 : decode cX2_crashes 15 = .ok (.getfield 15, 3) := by decide +kernel
theorem dX2_crashes_18 : decode cX2_crashes 18 = .ok (.ifCond .le 13, 3) := by decide +kernel
theorem dX2_crashes_21 : decode cX2_crashes 21 = .ok (.aload_n 0, 1) := by decide +kernel
theorem dX2_crashes_22 : decode cX2_crashes 22 = .ok (.dup, 1) := by decide +kernel
theorem dX2_crashes_23 : decode cX2_crashes 23 = .ok (.getfield 15, 3) := by decide +kernel
theorem dX2_crashes_26 : decode cX2_crashes 26 = .ok (.iconst 1, 1) := by decide +kernel
theorem dX2_crashes_27 : decode cX2_crashes 27 = .ok (.isub, 1) := by decide +kernel
theorem dX2_crashes_28 : decode cX2_crashes 28 = .ok (.putfield 15, 3) := by decide +kernel
theorem dX2_crashes_31 : decode cX2_crashes 31 = .ok (.aload_n 0, 1) := by decide +kernel
theorem dX2_crashes_32 : decode cX2_crashes 32 = .ok (.dup, 1) := by decide +kernel
theorem dX2_crashes_33 : decode cX2_crashes 33 = .ok (.getfield 42, 3) := by decide +kernel
theorem dX2_crashes_36 : decode cX2_crashes 36 = .ok (.iconst 1, 1) := by decide +kernel
theorem dX2_crashes_37 : decode cX2_crashes 37 = .ok (.iadd, 1) := by decide +kernel
theorem dX2_crashes_38 : decode cX2_crashes 38 = .ok (.putfield 42, 3) := by decide +kernel
theorem dX2_crashes_41 : decode cX2_crashes 41 = .ok (.iconst 0, 1) := by decide +kernel
theorem dX2_crashes_42 : decode cX2_crashes 42 = .ok (.ireturn, 1) := by decide +kernel
theorem dX2_place_0 : decode cX2_place 0 = .ok (.iload_n 1, 1) := by decide +kernel
theorem dX2_place_1 : decode cX2_place 1 = .ok (.iconst 1, 1) := by decide +kernel
theorem dX2_place_2 : decode cX2_place 2 = .ok (.iadd, 1) := by decide +kernel
theorem dX2_place_3 : decode cX2_place 3 = .ok (.sipush 512, 3) := by decide +kernel
theorem dX2_place_6 : decode cX2_place 6 = .ok (.imul, 1) := by decide +kernel
theorem dX2_place_7 : decode cX2_place 7 = .ok (.istore_n 3, 1) := by decide +kernel
theorem dX2_place_8 : decode cX2_place 8 = .ok (.iload_n 2, 1) := by decide +kernel
theorem dX2_place_9 : decode cX2_place 9 = .ok (.iload_n 1, 1) := by decide +kernel
theorem dX2_place_10 : decode cX2_place 10 = .ok (.sipush 512, 3) := by decide +kernel
theorem dX2_place_13 : decode cX2_place 13 = .ok (.imul, 1) := by decide +kernel
theorem dX2_place_14 : decode cX2_place 14 = .ok (.invokestatic 85, 3) := by decide +kernel
theorem dX2_place_17 : decode cX2_place 17 = .ok (.istore 4, 2) := by decide +kernel
theorem dX2_place_19 : decode cX2_place 19 = .ok (.iload 4, 2) := by decide +kernel
theorem dX2_place_21 : decode cX2_place 21 = .ok (.iload_n 3, 1) := by decide +kernel
theorem dX2_place_22 : decode cX2_place 22 = .ok (.if_icmp .ge 26, 3) := by decide +kernel
theorem dX2_place_25 : decode cX2_place 25 = .ok (.aload_n 0, 1) := by decide +kernel
theorem dX2_place_26 : decode cX2_place 26 = .ok (.iload 4, 2) := by decide +kernel
theorem dX2_place_28 : decode cX2_place 28 = .ok (.aload_n 0, 1) := by decide +kernel
theorem dX2_place_29 : decode cX2_place 29 = .ok (.getfield 22, 3) := by decide +kernel
theorem dX2_place_32 : decode cX2_place 32 = .ok (.iload 4, 2) := by decide +kernel
theorem dX2_place_34 : decode cX2_place 34 = .ok (.iload_n 2, 1) := by decide +kernel
theorem dX2_place_35 : decode cX2_place 35 = .ok (.isub, 1) := by decide +kernel
theorem dX2_place_36 : decode cX2_place 36 = .ok (.invokevirtual 91, 3) := by decide +kernel
theorem dX2_place_39 : decode cX2_place 39 = .ok (.invokevirtual 94, 3) := by decide +kernel
theorem dX2_place_42 : decode cX2_place 42 = .ok (.iinc 4 1, 3) := by decide +kernel
theorem dX2_place_45 : decode cX2_place 45 = .ok (.goto (-26), 3) := by decide +kernel
theorem dX2_place_48 : decode cX2_place 48 = .ok (.return_, 1) := by decide +kernel
theorem dX2_setByte_0 : decode cX2_setByte 0 = .ok (.iload_n 1, 1) := by decide +kernel
theorem dX2_setByte_1 : decode cX2_setByte 1 = .ok (.iconst 3, 1) := by decide +kernel
theorem dX2_setByte_2 : decode cX2_setByte 2 = .ok (.ishr, 1) := by decide +kernel
theorem dX2_setByte_3 : decode cX2_setByte 3 = .ok (.istore_n 3, 1) := by decide +kernel
theorem dX2_setByte_4 : decode cX2_setByte 4 = .ok (.iload_n 3, 1) := by decide +kernel
theorem dX2_setByte_5 : decode cX2_setByte 5 = .ok (.ifCond .lt 53, 3) := by decide +kernel
theorem dX2_setByte_8 : decode cX2_setByte 8 = .ok (.iload_n 3, 1) := by decide +kernel
theorem dX2_setByte_9 : decode cX2_setByte 9 = .ok (.aload_n 0, 1) := by decide +kernel
theorem dX2_setByte_10 : decode cX2_setByte 10 = .ok (.getfield 9, 3) := by decide +kernel
theorem dX2_setByte_13 : decode cX2_setByte 13 = .ok (.arraylength, 1) := by decide +kernel
theorem dX2_setByte_14 : decode cX2_setByte 14 = .ok (.if_icmp .ge 44, 3) := by decide +kernel
theorem dX2_setByte_17 : decode cX2_setByte 17 = .ok (.bipush 56, 2) := by decide +kernel
theorem dX2_setByte_19 : decode cX2_setByte 19 = .ok (.bipush 8, 2) := by decide +kernel
theorem dX2_setByte_21 : decode cX2_setByte 21 = .ok (.iload_n 1, 1) := by decide +kernel
theorem dX2_setByte_22 : decode cX2_setByte 22 = .ok (.bipush 7, 2) := by decide +kernel
theorem dX2_setByte_24 : decode cX2_setByte 24 = .ok (.iand, 1) := by decide +kernel
theorem dX2_setByte_25 : decode cX2_setByte 25 = .ok (.imul, 1) := by decide +kernel
theorem dX2_setByte_26 : decode cX2_setByte 26 = .ok (.isub, 1) := by decide +kernel
theorem dX2_setByte_27 : decode cX2_setByte 27 = .ok (.istore 4, 2) := by decide +kernel
theorem dX2_setByte_29 : decode cX2_setByte 29 = .ok (.aload_n 0, 1) := by decide +kernel
theorem dX2_setByte_30 : decode cX2_setByte 30 = .ok (.getfield 9, 3) := by decide +kernel
theorem dX2_setByte_33 : decode cX2_setByte 33 = .ok (.iload_n 3, 1) := by decide +kernel
theorem dX2_setByte_34 : decode cX2_setByte 34 = .ok (.aload_n 0, 1) := by decide +kernel
theorem dX2_setByte_35 : decode cX2_setByte 35 = .ok (.getfield 9, 3) := by decide +kernel
theorem dX2_setByte_38 : decode cX2_setByte 38 = .ok (.iload_n 3, 1) := by decide +kernel
theorem dX2_setByte_39 : decode cX2_setByte 39 = .ok (.laload, 1) := by decide +kernel
theorem dX2_setByte_40 : decode cX2_setByte 40 = .ok (.ldc2_w 97, 3) := by decide +kernel
theorem dX2_setByte_43 : decode cX2_setByte 43 = .ok (.iload 4, 2) := by decide +kernel
theorem dX2_setByte_45 : decode cX2_setByte 45 = .ok (.lshl, 1) := by decide +kernel
theorem dX2_setByte_46 : decode cX2_setByte 46 = .ok (.ldc2_w 99, 3) := by decide +kernel
theorem dX2_setByte_49 : decode cX2_setByte 49 = .ok (.lxor, 1) := by decide +kernel
theorem dX2_setByte_50 : decode cX2_setByte 50 = .ok (.land, 1) := by decide +kernel
theorem dX2_setByte_51 : decode cX2_setByte 51 = .ok (.iload_n 2, 1) := by decide +kernel
theorem dX2_setByte_52 : decode cX2_setByte 52 = .ok (.i2l, 1) := by decide +kernel
theorem dX2_setByte_53 : decode cX2_setByte 53 = .ok (.iload 4, 2) := by decide +kernel
theorem dX2_setByte_55 : decode cX2_setByte 55 = .ok (.lshl, 1) := by decide +kernel
theorem dX2_setByte_56 : decode cX2_setByte 56 = .ok (.lor, 1) := by decide +kernel
theorem dX2_setByte_57 : decode cX2_setByte 57 = .ok (.lastore, 1) := by decide +kernel
theorem dX2_setByte_58 : decode cX2_setByte 58 = .ok (.return_, 1) := by decide +kernel
theorem dX2_byteAt_0 : decode cX2_byteAt 0 = .ok (.iload_n 1, 1) := by decide +kernel
theorem dX2_byteAt_1 : decode cX2_byteAt 1 = .ok (.iconst 3, 1) := by decide +kernel
theorem dX2_byteAt_2 : decode cX2_byteAt 2 = .ok (.ishr, 1) := by decide +kernel
theorem dX2_byteAt_3 : decode cX2_byteAt 3 = .ok (.istore_n 2, 1) := by decide +kernel
theorem dX2_byteAt_4 : decode cX2_byteAt 4 = .ok (.iload_n 2, 1) := by decide +kernel
theorem dX2_byteAt_5 : decode cX2_byteAt 5 = .ok (.ifCond .lt 12, 3) := by decide +kernel
theorem dX2_byteAt_8 : decode cX2_byteAt 8 = .ok (.iload_n 2, 1) := by decide +kernel
theorem dX2_byteAt_9 : decode cX2_byteAt 9 = .ok (.aload_n 0, 1) := by decide +kernel
theorem dX2_byteAt_10 : decode cX2_byteAt 10 = .ok (.getfield 9, 3) := by decide +kernel
theorem dX2_byteAt_13 : decode cX2_byteAt 13 = .ok (.arraylength, 1) := by decide +kernel
theorem dX2_byteAt_14 : decode cX2_byteAt 14 = .ok (.if_icmp .lt 5, 3) := by decide +kernel
theorem dX2_byteAt_17 : decode cX2_byteAt 17 = .ok (.iconst 0, 1) := by decide +kernel
theorem dX2_byteAt_18 : decode cX2_byteAt 18 = .ok (.ireturn, 1) := by decide +kernel
theorem dX2_byteAt_19 : decode cX2_byteAt 19 = .ok (.aload_n 0, 1) := by decide +kernel
theorem dX2_byteAt_20 : decode cX2_byteAt 20 = .ok (.getfield 9, 3) := by decide +kernel
theorem dX2_byteAt_23 : decode cX2_byteAt 23 = .ok (.iload_n 2, 1) := by decide +kernel
theorem dX2_byteAt_24 : decode cX2_byteAt 24 = .ok (.laload, 1) := by decide +kernel
theorem dX2_byteAt_25 : decode cX2_byteAt 25 = .ok (.bipush 56, 2) := by decide +kernel
theorem dX2_byteAt_27 : decode cX2_byteAt 27 = .ok (.bipush 8, 2) := by decide +kernel
theorem dX2_byteAt_29 : decode cX2_byteAt 29 = .ok (.iload_n 1, 1) := by decide +kernel
theorem dX2_byteAt_30 : decode cX2_byteAt 30 = .ok (.bipush 7, 2) := by decide +kernel
theorem dX2_byteAt_32 : decode cX2_byteAt 32 = .ok (.iand, 1) := by decide +kernel
theorem dX2_byteAt_33 : decode cX2_byteAt 33 = .ok (.imul, 1) := by decide +kernel
theorem dX2_byteAt_34 : decode cX2_byteAt 34 = .ok (.isub, 1) := by decide +kernel
theorem dX2_byteAt_35 : decode cX2_byteAt 35 = .ok (.lushr, 1) := by decide +kernel
theorem dX2_byteAt_36 : decode cX2_byteAt 36 = .ok (.l2i, 1) := by decide +kernel
theorem dX2_byteAt_37 : decode cX2_byteAt 37 = .ok (.sipush 255, 3) := by decide +kernel
theorem dX2_byteAt_40 : decode cX2_byteAt 40 = .ok (.iand, 1) := by decide +kernel
theorem dX2_byteAt_41 : decode cX2_byteAt 41 = .ok (.ireturn, 1) := by decide +kernel
theorem dX2_twoLowFirst_0 : decode cX2_twoLowFirst 0 = .ok (.aload_n 0, 1) := by decide +kernel
theorem dX2_twoLowFirst_1 : decode cX2_twoLowFirst 1 = .ok (.iload_n 1, 1) := by decide +kernel
theorem dX2_twoLowFirst_2 : decode cX2_twoLowFirst 2 = .ok (.invokevirtual 101, 3) := by decide +kernel
theorem dX2_twoLowFirst_5 : decode cX2_twoLowFirst 5 = .ok (.aload_n 0, 1) := by decide +kernel
theorem dX2_twoLowFirst_6 : decode cX2_twoLowFirst 6 = .ok (.iload_n 1, 1) := by decide +kernel
theorem dX2_twoLowFirst_7 : decode cX2_twoLowFirst 7 = .ok (.iconst 1, 1) := by decide +kernel
theorem dX2_twoLowFirst_8 : decode cX2_twoLowFirst 8 = .ok (.iadd, 1) := by decide +kernel
theorem dX2_twoLowFirst_9 : decode cX2_twoLowFirst 9 = .ok (.invokevirtual 101, 3) := by decide +kernel
theorem dX2_twoLowFirst_12 : decode cX2_twoLowFirst 12 = .ok (.bipush 8, 2) := by decide +kernel
theorem dX2_twoLowFirst_14 : decode cX2_twoLowFirst 14 = .ok (.ishl, 1) := by decide +kernel
theorem dX2_twoLowFirst_15 : decode cX2_twoLowFirst 15 = .ok (.ior, 1) := by decide +kernel
theorem dX2_twoLowFirst_16 : decode cX2_twoLowFirst 16 = .ok (.ireturn, 1) := by decide +kernel
theorem dX2_fourLowFirst_0 : decode cX2_fourLowFirst 0 = .ok (.aload_n 0, 1) := by decide +kernel
theorem dX2_fourLowFirst_1 : decode cX2_fourLowFirst 1 = .ok (.iload_n 1, 1) := by decide +kernel
theorem dX2_fourLowFirst_2 : decode cX2_fourLowFirst 2 = .ok (.invokevirtual 102, 3) := by decide +kernel
theorem dX2_fourLowFirst_5 : decode cX2_fourLowFirst 5 = .ok (.aload_n 0, 1) := by decide +kernel
theorem dX2_fourLowFirst_6 : decode cX2_fourLowFirst 6 = .ok (.iload_n 1, 1) := by decide +kernel
theorem dX2_fourLowFirst_7 : decode cX2_fourLowFirst 7 = .ok (.iconst 2, 1) := by decide +kernel
theorem dX2_fourLowFirst_8 : decode cX2_fourLowFirst 8 = .ok (.iadd, 1) := by decide +kernel
theorem dX2_fourLowFirst_9 : decode cX2_fourLowFirst 9 = .ok (.invokevirtual 102, 3) := by decide +kernel
theorem dX2_fourLowFirst_12 : decode cX2_fourLowFirst 12 = .ok (.bipush 16, 2) := by decide +kernel
theorem dX2_fourLowFirst_14 : decode cX2_fourLowFirst 14 = .ok (.ishl, 1) := by decide +kernel
theorem dX2_fourLowFirst_15 : decode cX2_fourLowFirst 15 = .ok (.ior, 1) := by decide +kernel
theorem dX2_fourLowFirst_16 : decode cX2_fourLowFirst 16 = .ok (.ireturn, 1) := by decide +kernel
theorem dX2_open_0 : decode cX2_open 0 = .ok (.aload_n 0, 1) := by decide +kernel
theorem dX2_open_1 : decode cX2_open 1 = .ok (.iconst 0, 1) := by decide +kernel
theorem dX2_open_2 : decode cX2_open 2 = .ok (.invokevirtual 105, 3) := by decide +kernel
theorem dX2_open_5 : decode cX2_open 5 = .ok (.istore_n 1, 1) := by decide +kernel
theorem dX2_open_6 : decode cX2_open 6 = .ok (.aload_n 0, 1) := by decide +kernel
theorem dX2_open_7 : decode cX2_open 7 = .ok (.iconst 1, 1) := by decide +kernel
theorem dX2_open_8 : decode cX2_open 8 = .ok (.invokevirtual 105, 3) := by decide +kernel
theorem dX2_open_11 : decode cX2_open 11 = .ok (.istore_n 2, 1) := by decide +kernel
theorem dX2_open_12 : decode cX2_open 12 = .ok (.iload_n 1, 1) := by decide +kernel
theorem dX2_open_13 : decode cX2_open 13 = .ok (.iload_n 2, 1) := by decide +kernel
theorem dX2_open_14 : decode cX2_open 14 = .ok (.if_icmp .le 7, 3) := by decide +kernel
theorem dX2_open_17 : decode cX2_open 17 = .ok (.iconst 0, 1) := by decide +kernel
theorem dX2_open_18 : decode cX2_open 18 = .ok (.goto 4, 3) := by decide +kernel
theorem dX2_open_21 : decode cX2_open 21 = .ok (.iconst 1, 1) := by decide +kernel
theorem dX2_open_22 : decode cX2_open 22 = .ok (.istore_n 3, 1) := by decide +kernel
theorem dX2_open_23 : decode cX2_open 23 = .ok (.aload_n 0, 1) := by decide +kernel
theorem dX2_open_24 : decode cX2_open 24 = .ok (.iload_n 1, 1) := by decide +kernel
theorem dX2_open_25 : decode cX2_open 25 = .ok (.iload_n 2, 1) := by decide +kernel
theorem dX2_open_26 : decode cX2_open 26 = .ok (.invokestatic 85, 3) := by decide +kernel
theorem dX2_open_29 : decode cX2_open 29 = .ok (.putfield 19, 3) := by decide +kernel
theorem dX2_open_32 : decode cX2_open 32 = .ok (.aload_n 0, 1) := by decide +kernel
theorem dX2_open_33 : decode cX2_open 33 = .ok (.aload_n 0, 1) := by decide +kernel
theorem dX2_open_34 : decode cX2_open 34 = .ok (.iload_n 3, 1) := by decide +kernel
theorem dX2_open_35 : decode cX2_open 35 = .ok (.sipush 512, 3) := by decide +kernel
theorem dX2_open_38 : decode cX2_open 38 = .ok (.imul, 1) := by decide +kernel
theorem dX2_open_39 : decode cX2_open 39 = .ok (.iconst 2, 1) := by decide +kernel
theorem dX2_open_40 : decode cX2_open 40 = .ok (.iadd, 1) := by decide +kernel
theorem dX2_open_41 : decode cX2_open 41 = .ok (.invokevirtual 101, 3) := by decide +kernel
theorem dX2_open_44 : decode cX2_open 44 = .ok (.iconst 1, 1) := by decide +kernel
theorem dX2_open_45 : decode cX2_open 45 = .ok (.iand, 1) := by decide +kernel
theorem dX2_open_46 : decode cX2_open 46 = .ok (.putfield 39, 3) := by decide +kernel
theorem dX2_open_49 : decode cX2_open 49 = .ok (.aload_n 0, 1) := by decide +kernel
theorem dX2_open_50 : decode cX2_open 50 = .ok (.iconst 0, 1) := by decide +kernel
theorem dX2_open_51 : decode cX2_open 51 = .ok (.putfield 33, 3) := by decide +kernel
theorem dX2_open_54 : decode cX2_open 54 = .ok (.aload_n 0, 1) := by decide +kernel
theorem dX2_open_55 : decode cX2_open 55 = .ok (.iconst 0, 1) := by decide +kernel
theorem dX2_open_56 : decode cX2_open 56 = .ok (.putfield 36, 3) := by decide +kernel
theorem dX2_open_59 : decode cX2_open 59 = .ok (.return_, 1) := by decide +kernel
theorem dX2_generationIn_0 : decode cX2_generationIn 0 = .ok (.iload_n 1, 1) := by decide +kernel
theorem dX2_generationIn_1 : decode cX2_generationIn 1 = .ok (.sipush 512, 3) := by decide +kernel
theorem dX2_generationIn_4 : decode cX2_generationIn 4 = .ok (.imul, 1) := by decide +kernel
theorem dX2_generationIn_5 : decode cX2_generationIn 5 = .ok (.istore_n 2, 1) := by decide +kernel
theorem dX2_generationIn_6 : decode cX2_generationIn 6 = .ok (.aload_n 0, 1) := by decide +kernel
theorem dX2_generationIn_7 : decode cX2_generationIn 7 = .ok (.iload_n 2, 1) := by decide +kernel
theorem dX2_generationIn_8 : decode cX2_generationIn 8 = .ok (.invokevirtual 101, 3) := by decide +kernel
theorem dX2_generationIn_11 : decode cX2_generationIn 11 = .ok (.bipush 74, 2) := by decide +kernel
theorem dX2_generationIn_13 : decode cX2_generationIn 13 = .ok (.if_icmp .ne 40, 3) := by decide +kernel
theorem dX2_generationIn_16 : decode cX2_generationIn 16 = .ok (.aload_n 0, 1) := by decide +kernel
theorem dX2_generationIn_17 : decode cX2_generationIn 17 = .ok (.iload_n 2, 1) := by decide +kernel
theorem dX2_generationIn_18 : decode cX2_generationIn 18 = .ok (.iconst 1, 1) := by decide +kernel
theorem dX2_generationIn_19 : decode cX2_generationIn 19 = .ok (.iadd, 1) := by decide +kernel
theorem dX2_generationIn_20 : decode cX2_generationIn 20 = .ok (.invokevirtual 101, 3) := by decide +kernel
theorem dX2_generationIn_23 : decode cX2_generationIn 23 = .ok (.bipush 49, 2) := by decide +kernel
theorem dX2_generationIn_25 : decode cX2_generationIn 25 = .ok (.if_icmp .ne 28, 3) := by decide +kernel
theorem dX2_generationIn_28 : decode cX2_generationIn 28 = .ok (.aload_n 0, 1) := by decide +kernel
theorem dX2_generationIn_29 : decode cX2_generationIn 29 = .ok (.iload_n 2, 1) := by decide +kernel
theorem dX2_generationIn_30 : decode cX2_generationIn 30 = .ok (.iconst 2, 1) := by decide +kernel
theorem dX2_generationIn_31 : decode cX2_generationIn 31 = .ok (.iadd, 1) := by decide +kernel
theorem dX2_generationIn_32 : decode cX2_generationIn 32 = .ok (.invokevirtual 101, 3) := by decide +kernel
theorem dX2_generationIn_35 : decode cX2_generationIn 35 = .ok (.iconst 1, 1) := by decide +kernel
theorem dX2_generationIn_36 : decode cX2_generationIn 36 = .ok (.if_icmp .gt 17, 3) := by decide +kernel
theorem dX2_generationIn_39 : decode cX2_generationIn 39 = .ok (.aload_n 0, 1) := by decide +kernel
theorem dX2_generationIn_40 : decode cX2_generationIn 40 = .ok (.iload_n 2, 1) := by decide +kernel
theorem dX2_generationIn_41 : decode cX2_generationIn 41 = .ok (.iconst 3, 1) := by decide +kernel
theorem dX2_generationIn_42 : decode cX2_generationIn 42 = .ok (.iadd, 1) := by decide +kernel
theorem dX2_generationIn_43 : decode cX2_generationIn 43 = .ok (.invokevirtual 101, 3) := by decide +kernel
theorem dX2_generationIn_46 : decode cX2_generationIn 46 = .ok (.ifCond .ne 7, 3) := by decide +kernel
theorem dX2_generationIn_49 : decode cX2_generationIn 49 = .ok (.iconst 1, 1) := by decide +kernel
theorem dX2_generationIn_50 : decode cX2_generationIn 50 = .ok (.goto 4, 3) := by decide +kernel
theorem dX2_generationIn_53 : decode cX2_generationIn 53 = .ok (.iconst 0, 1) := by decide +kernel
theorem dX2_generationIn_54 : decode cX2_generationIn 54 = .ok (.istore_n 3, 1) := by decide +kernel
theorem dX2_generationIn_55 : decode cX2_generationIn 55 = .ok (.aload_n 0, 1) := by decide +kernel
theorem dX2_generationIn_56 : decode cX2_generationIn 56 = .ok (.iload_n 2, 1) := by decide +kernel
theorem dX2_generationIn_57 : decode cX2_generationIn 57 = .ok (.iconst 4, 1) := by decide +kernel
theorem dX2_generationIn_58 : decode cX2_generationIn 58 = .ok (.iadd, 1) := by decide +kernel
theorem dX2_generationIn_59 : decode cX2_generationIn 59 = .ok (.invokevirtual 108, 3) := by decide +kernel
theorem dX2_generationIn_62 : decode cX2_generationIn 62 = .ok (.istore 4, 2) := by decide +kernel
theorem dX2_generationIn_64 : decode cX2_generationIn 64 = .ok (.iload_n 3, 1) := by decide +kernel
theorem dX2_generationIn_65 : decode cX2_generationIn 65 = .ok (.ifCond .eq 23, 3) := by decide +kernel
theorem dX2_generationIn_68 : decode cX2_generationIn 68 = .ok (.iload 4, 2) := by decide +kernel
theorem dX2_generationIn_70 : decode cX2_generationIn 70 = .ok (.ifCond .le 18, 3) := by decide +kernel
theorem dX2_generationIn_73 : decode cX2_generationIn 73 = .ok (.aload_n 0, 1) := by decide +kernel
theorem dX2_generationIn_74 : decode cX2_generationIn 74 = .ok (.iload_n 2, 1) := by decide +kernel
theorem dX2_generationIn_75 : decode cX2_generationIn 75 = .ok (.bipush 8, 2) := by decide +kernel
theorem dX2_generationIn_77 : decode cX2_generationIn 77 = .ok (.invokevirtual 111, 3) := by decide +kernel
theorem dX2_generationIn_80 : decode cX2_generationIn 80 = .ok (.ifCond .eq 8, 3) := by decide +kernel
theorem dX2_generationIn_83 : decode cX2_generationIn 83 = .ok (.iload 4, 2) := by decide +kernel
theorem dX2_generationIn_85 : decode cX2_generationIn 85 = .ok (.goto 4, 3) := by decide +kernel
theorem dX2_generationIn_88 : decode cX2_generationIn 88 = .ok (.iconst 0, 1) := by decide +kernel
theorem dX2_generationIn_89 : decode cX2_generationIn 89 = .ok (.ireturn, 1) := by decide +kernel
theorem dX2_isChecked_0 : decode cX2_isChecked 0 = .ok (.iconst (-1), 1) := by decide +kernel
theorem dX2_isChecked_1 : decode cX2_isChecked 1 = .ok (.istore_n 3, 1) := by decide +kernel
theorem dX2_isChecked_2 : decode cX2_isChecked 2 = .ok (.iconst 0, 1) := by decide +kernel
theorem dX2_isChecked_3 : decode cX2_isChecked 3 = .ok (.istore 4, 2) := by decide +kernel
theorem dX2_isChecked_5 : decode cX2_isChecked 5 = .ok (.iload 4, 2) := by decide +kernel
theorem dX2_isChecked_7 : decode cX2_isChecked 7 = .ok (.iload_n 2, 1) := by decide +kernel
theorem dX2_isChecked_8 : decode cX2_isChecked 8 = .ok (.if_icmp .ge 22, 3) := by decide +kernel
theorem dX2_isChecked_11 : decode cX2_isChecked 11 = .ok (.iload_n 3, 1) := by decide +kernel
theorem dX2_isChecked_12 : decode cX2_isChecked 12 = .ok (.aload_n 0, 1) := by decide +kernel
theorem dX2_isChecked_13 : decode cX2_isChecked 13 = .ok (.iload_n 1, 1) := by decide +kernel
theorem dX2_isChecked_14 : decode cX2_isChecked 14 = .ok (.iload 4, 2) := by decide +kernel
theorem dX2_isChecked_16 : decode cX2_isChecked 16 = .ok (.iadd, 1) := by decide +kernel
theorem dX2_isChecked_17 : decode cX2_isChecked 17 = .ok (.invokevirtual 101, 3) := by decide +kernel
theorem dX2_isChecked_20 : decode cX2_isChecked 20 = .ok (.invokestatic 115, 3) := by decide +kernel
theorem dX2_isChecked_23 : decode cX2_isChecked 23 = .ok (.istore_n 3, 1) := by decide +kernel
theorem dX2_isChecked_24 : decode cX2_isChecked 24 = .ok (.iinc 4 1, 3) := by decide +kernel
theorem dX2_isChecked_27 : decode cX2_isChecked 27 = .ok (.goto (-22), 3) := by decide +kernel
theorem dX2_isChecked_30 : decode cX2_isChecked 30 = .ok (.iload_n 3, 1) := by decide +kernel
theorem dX2_isChecked_31 : decode cX2_isChecked 31 = .ok (.iconst (-1), 1) := by decide +kernel
theorem dX2_isChecked_32 : decode cX2_isChecked 32 = .ok (.ixor, 1) := by decide +kernel
theorem dX2_isChecked_33 : decode cX2_isChecked 33 = .ok (.aload_n 0, 1) := by decide +kernel
theorem dX2_isChecked_34 : decode cX2_isChecked 34 = .ok (.iload_n 1, 1) := by decide +kernel
theorem dX2_isChecked_35 : decode cX2_isChecked 35 = .ok (.iload_n 2, 1) := by decide +kernel
theorem dX2_isChecked_36 : decode cX2_isChecked 36 = .ok (.iadd, 1) := by decide +kernel
theorem dX2_isChecked_37 : decode cX2_isChecked 37 = .ok (.invokevirtual 108, 3) := by decide +kernel
theorem dX2_isChecked_40 : decode cX2_isChecked 40 = .ok (.if_icmp .ne 7, 3) := by decide +kernel
theorem dX2_isChecked_43 : decode cX2_isChecked 43 = .ok (.iconst 1, 1) := by decide +kernel
theorem dX2_isChecked_44 : decode cX2_isChecked 44 = .ok (.goto 4, 3) := by decide +kernel
theorem dX2_isChecked_47 : decode cX2_isChecked 47 = .ok (.iconst 0, 1) := by decide +kernel
theorem dX2_isChecked_48 : decode cX2_isChecked 48 = .ok (.ireturn, 1) := by decide +kernel
theorem dX2_readNext_0 : decode cX2_readNext 0 = .ok (.sipush 15872, 3) := by decide +kernel
theorem dX2_readNext_3 : decode cX2_readNext 3 = .ok (.aload_n 0, 1) := by decide +kernel
theorem dX2_readNext_4 : decode cX2_readNext 4 = .ok (.getfield 36, 3) := by decide +kernel
theorem dX2_readNext_7 : decode cX2_readNext 7 = .ok (.isub, 1) := by decide +kernel
theorem dX2_readNext_8 : decode cX2_readNext 8 = .ok (.istore_n 2, 1) := by decide +kernel
theorem dX2_readNext_9 : decode cX2_readNext 9 = .ok (.iload_n 2, 1) := by decide +kernel
theorem dX2_readNext_10 : decode cX2_readNext 10 = .ok (.iconst 2, 1) := by decide +kernel
theorem dX2_readNext_11 : decode cX2_readNext 11 = .ok (.if_icmp .ge 5, 3) := by decide +kernel
theorem dX2_readNext_14 : decode cX2_readNext 14 = .ok (.iconst 0, 1) := by decide +kernel
theorem dX2_readNext_15 : decode cX2_readNext 15 = .ok (.ireturn, 1) := by decide +kernel
theorem dX2_readNext_16 : decode cX2_readNext 16 = .ok (.aload_n 0, 1) := by decide +kernel
theorem dX2_readNext_17 : decode cX2_readNext 17 = .ok (.getfield 39, 3) := by decide +kernel
theorem dX2_readNext_20 : decode cX2_readNext 20 = .ok (.invokestatic 74, 3) := by decide +kernel
theorem dX2_readNext_23 : decode cX2_readNext 23 = .ok (.aload_n 0, 1) := by decide +kernel
theorem dX2_readNext_24 : decode cX2_readNext 24 = .ok (.getfield 36, 3) := by decide +kernel
theorem dX2_readNext_27 : decode cX2_readNext 27 = .ok (.iadd, 1) := by decide +kernel
theorem dX2_readNext_28 : decode cX2_readNext 28 = .ok (.istore_n 3, 1) := by decide +kernel
theorem dX2_readNext_29 : decode cX2_readNext 29 = .ok (.aload_n 0, 1) := by decide +kernel
theorem dX2_readNext_30 : decode cX2_readNext 30 = .ok (.iload_n 3, 1) := by decide +kernel
theorem dX2_readNext_31 : decode cX2_readNext 31 = .ok (.invokevirtual 102, 3) := by decide +kernel
theorem dX2_readNext_34 : decode cX2_readNext 34 = .ok (.istore 4, 2) := by decide +kernel
theorem dX2_readNext_36 : decode cX2_readNext 36 = .ok (.iconst 2, 1) := by decide +kernel
theorem dX2_readNext_37 : decode cX2_readNext 37 = .ok (.iload 4, 2) := by decide +kernel
theorem dX2_readNext_39 : decode cX2_readNext 39 = .ok (.iadd, 1) := by decide +kernel
theorem dX2_readNext_40 : decode cX2_readNext 40 = .ok (.iconst 4, 1) := by decide +kernel
theorem dX2_readNext_41 : decode cX2_readNext 41 = .ok (.iadd, 1) := by decide +kernel
theorem dX2_readNext_42 : decode cX2_readNext 42 = .ok (.iload 4, 2) := by decide +kernel
theorem dX2_readNext_44 : decode cX2_readNext 44 = .ok (.iconst 1, 1) := by decide +kernel
theorem dX2_readNext_45 : decode cX2_readNext 45 = .ok (.iand, 1) := by decide +kernel
theorem dX2_readNext_46 : decode cX2_readNext 46 = .ok (.iadd, 1) := by decide +kernel
theorem dX2_readNext_47 : decode cX2_readNext 47 = .ok (.istore 5, 2) := by decide +kernel
theorem dX2_readNext_49 : decode cX2_readNext 49 = .ok (.iload 4, 2) := by decide +kernel
theorem dX2_readNext_51 : decode cX2_readNext 51 = .ok (.iconst 1, 1) := by decide +kernel
theorem dX2_readNext_52 : decode cX2_readNext 52 = .ok (.if_icmp .lt 21, 3) := by decide +kernel
theorem dX2_readNext_55 : decode cX2_readNext 55 = .ok (.iload 5, 2) := by decide +kernel
theorem dX2_readNext_57 : decode cX2_readNext 57 = .ok (.iload_n 2, 1) := by decide +kernel
theorem dX2_readNext_58 : decode cX2_readNext 58 = .ok (.if_icmp .gt 15, 3) := by decide +kernel
theorem dX2_readNext_61 : decode cX2_readNext 61 = .ok (.aload_n 0, 1) := by decide +kernel
theorem dX2_readNext_62 : decode cX2_readNext 62 = .ok (.iload_n 3, 1) := by decide +kernel
theorem dX2_readNext_63 : decode cX2_readNext 63 = .ok (.iconst 2, 1) := by decide +kernel
theorem dX2_readNext_64 : decode cX2_readNext 64 = .ok (.iload 4, 2) := by decide +kernel
theorem dX2_readNext_66 : decode cX2_readNext 66 = .ok (.iadd, 1) := by decide +kernel
theorem dX2_readNext_67 : decode cX2_readNext 67 = .ok (.invokevirtual 111, 3) := by decide +kernel
theorem dX2_readNext_70 : decode cX2_readNext 70 = .ok (.ifCond .ne 5, 3) := by decide +kernel
theorem dX2_readNext_73 : decode cX2_readNext 73 = .ok (.iconst 0, 1) := by decide +kernel
theorem dX2_readNext_74 : decode cX2_readNext 74 = .ok (.ireturn, 1) := by decide +kernel
theorem dX2_readNext_75 : decode cX2_readNext 75 = .ok (.aload_n 1, 1) := by decide +kernel
theorem dX2_readNext_76 : decode cX2_readNext 76 = .ok (.invokevirtual 45, 3) := by decide +kernel
theorem dX2_readNext_79 : decode cX2_readNext 79 = .ok (.iconst 0, 1) := by decide +kernel
theorem dX2_readNext_80 : decode cX2_readNext 80 = .ok (.istore 6, 2) := by decide +kernel
theorem dX2_readNext_82 : decode cX2_readNext 82 = .ok (.iload 6, 2) := by decide +kernel
theorem dX2_readNext_84 : decode cX2_readNext 84 = .ok (.iload 4, 2) := by decide +kernel
theorem dX2_readNext_86 : decode cX2_readNext 86 = .ok (.if_icmp .ge 23, 3) := by decide +kernel
theorem dX2_readNext_89 : decode cX2_readNext 89 = .ok (.aload_n 1, 1) := by decide +kernel
theorem dX2_readNext_90 : decode cX2_readNext 90 = .ok (.aload_n 0, 1) := by decide +kernel
theorem dX2_readNext_91 : decode cX2_readNext 91 = .ok (.iload_n 3, 1) := by decide +kernel
theorem dX2_readNext_92 : decode cX2_readNext 92 = .ok (.iconst 2, 1) := by decide +kernel
theorem dX2_readNext_93 : decode cX2_readNext 93 = .ok (.iadd, 1) := by decide +kernel
theorem dX2_readNext_94 : decode cX2_readNext 94 = .ok (.iload 6, 2) := by decide +kernel
theorem dX2_readNext_96 : decode cX2_readNext 96 = .ok (.iadd, 1) := by decide +kernel
theorem dX2_readNext_97 : decode cX2_readNext 97 = .ok (.invokevirtual 101, 3) := by decide +kernel
theorem dX2_readNext_100 : decode cX2_readNext 100 = .ok (.invokevirtual 56, 3) := by decide +kernel
theorem dX2_readNext_103 : decode cX2_readNext 103 = .ok (.iinc 6 1, 3) := by decide +kernel
theorem dX2_readNext_106 : decode cX2_readNext 106 = .ok (.goto (-24), 3) := by decide +kernel
theorem dX2_readNext_109 : decode cX2_readNext 109 = .ok (.aload_n 0, 1) := by decide +kernel
theorem dX2_readNext_110 : decode cX2_readNext 110 = .ok (.dup, 1) := by decide +kernel
theorem dX2_readNext_111 : decode cX2_readNext 111 = .ok (.getfield 36, 3) := by decide +kernel
theorem dX2_readNext_114 : decode cX2_readNext 114 = .ok (.iload 5, 2) := by decide +kernel
theorem dX2_readNext_116 : decode cX2_readNext 116 = .ok (.iadd, 1) := by decide +kernel
theorem dX2_readNext_117 : decode cX2_readNext 117 = .ok (.putfield 36, 3) := by decide +kernel
theorem dX2_readNext_120 : decode cX2_readNext 120 = .ok (.aload_n 0, 1) := by decide +kernel
theorem dX2_readNext_121 : decode cX2_readNext 121 = .ok (.dup, 1) := by decide +kernel
theorem dX2_readNext_122 : decode cX2_readNext 122 = .ok (.getfield 33, 3) := by decide +kernel
theorem dX2_readNext_125 : decode cX2_readNext 125 = .ok (.iconst 1, 1) := by decide +kernel
theorem dX2_readNext_126 : decode cX2_readNext 126 = .ok (.iadd, 1) := by decide +kernel
theorem dX2_readNext_127 : decode cX2_readNext 127 = .ok (.putfield 33, 3) := by decide +kernel
theorem dX2_readNext_130 : decode cX2_readNext 130 = .ok (.iconst 1, 1) := by decide +kernel
theorem dX2_readNext_131 : decode cX2_readNext 131 = .ok (.ireturn, 1) := by decide +kernel
