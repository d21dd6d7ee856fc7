theorem dX10_init_0 : decode cX10_init 0 = .ok (.aload_n 0, 1) := by decide +kernel
theorem dX10_init_1 : decode cX10_init 1 = .ok (.invokespecial 3, 3) := by decide +kernel
theorem dX10_init_4 : decode cX10_init 4 = .ok (.aload_n 0, 1) := by decide +kernel
theorem dX10_init_5 : decode cX10_init 5 = .ok (.bipush 16, 2) := by decide +kernel
theorem dX10_init_7 : decode cX10_init 7 = .ok (.newarray .int, 2) := by decide +kernel
theorem dX10_init_9 : decode cX10_init 9 = .ok (.putfield 9, 3) := by decide +kernel
theorem dX10_init_12 : decode cX10_init 12 = .ok (.aload_n 0, 1) := by decide +kernel
theorem dX10_init_13 : decode cX10_init 13 = .ok (.bipush 16, 2) := by decide +kernel
theorem dX10_init_15 : decode cX10_init 15 = .ok (.newarray .int, 2) := by decide +kernel
theorem dX10_init_17 : decode cX10_init 17 = .ok (.putfield 15, 3) := by decide +kernel
theorem dX10_init_20 : decode cX10_init 20 = .ok (.aload_n 0, 1) := by decide +kernel
theorem dX10_init_21 : decode cX10_init 21 = .ok (.bipush 16, 2) := by decide +kernel
theorem dX10_init_23 : decode cX10_init 23 = .ok (.newarray .int, 2) := by decide +kernel
theorem dX10_init_25 : decode cX10_init 25 = .ok (.putfield 18, 3) := by decide +kernel
theorem dX10_init_28 : decode cX10_init 28 = .ok (.aload_n 0, 1) := by decide +kernel
theorem dX10_init_29 : decode cX10_init 29 = .ok (.sipush 272, 3) := by decide +kernel
theorem dX10_init_32 : decode cX10_init 32 = .ok (.newarray .int, 2) := by decide +kernel
theorem dX10_init_34 : decode cX10_init 34 = .ok (.putfield 21, 3) := by decide +kernel
theorem dX10_init_37 : decode cX10_init 37 = .ok (.aload_n 0, 1) := by decide +kernel
theorem dX10_init_38 : decode cX10_init 38 = .ok (.bipush 32, 2) := by decide +kernel
theorem dX10_init_40 : decode cX10_init 40 = .ok (.anewarray 24, 3) := by decide +kernel
theorem dX10_init_43 : decode cX10_init 43 = .ok (.putfield 26, 3) := by decide +kernel
theorem dX10_init_46 : decode cX10_init 46 = .ok (.aload_n 0, 1) := by decide +kernel
theorem dX10_init_47 : decode cX10_init 47 = .ok (.iload_n 1, 1) := by decide +kernel
theorem dX10_init_48 : decode cX10_init 48 = .ok (.putfield 30, 3) := by decide +kernel
theorem dX10_init_51 : decode cX10_init 51 = .ok (.aload_n 0, 1) := by decide +kernel
theorem dX10_init_52 : decode cX10_init 52 = .ok (.iload_n 2, 1) := by decide +kernel
theorem dX10_init_53 : decode cX10_init 53 = .ok (.putfield 34, 3) := by decide +kernel
theorem dX10_init_56 : decode cX10_init 56 = .ok (.return_, 1) := by decide +kernel
theorem dX10_forget_0 : decode cX10_forget 0 = .ok (.aload_n 0, 1) := by decide +kernel
theorem dX10_forget_1 : decode cX10_forget 1 = .ok (.iconst 0, 1) := by decide +kernel
theorem dX10_forget_2 : decode cX10_forget 2 = .ok (.putfield 37, 3) := by decide +kernel
theorem dX10_forget_5 : decode cX10_forget 5 = .ok (.aload_n 0, 1) := by decide +kernel
theorem dX10_forget_6 : decode cX10_forget 6 = .ok (.iconst 0, 1) := by decide +kernel
theorem dX10_forget_7 : decode cX10_forget 7 = .ok (.putfield 40, 3) := by decide +kernel
theorem dX10_forget_10 : decode cX10_forget 10 = .ok (.aload_n 0, 1) := by decide +kernel
theorem dX10_forget_11 : decode cX10_forget 11 = .ok (.iconst 0, 1) := by decide +kernel
theorem dX10_forget_12 : decode cX10_forget 12 = .ok (.putfield 43, 3) := by decide +kernel
theorem dX10_forget_15 : decode cX10_forget 15 = .ok (.iconst 0, 1) := by decide +kernel
theorem dX10_forget_16 : decode cX10_forget 16 = .ok (.istore_n 1, 1) := by decide +kernel
theorem dX10_forget_17 : decode cX10_forget 17 = .ok (.iload_n 1, 1) := by decide +kernel
theorem dX10_forget_18 : decode cX10_forget 18 = .ok (.bipush 16, 2) := by decide +kernel
theorem dX10_forget_20 : decode cX10_forget 20 = .ok (.if_icmp .ge 23, 3) := by decide +kernel
theorem dX10_forget_23 : decode cX10_forget 23 = .ok (.aload_n 0, 1) := by decide +kernel
theorem dX10_forget_24 : decode cX10_forget 24 = .ok (.getfield 9, 3) := by decide +kernel
theorem dX10_forget_27 : decode cX10_forget 27 = .ok (.iload_n 1, 1) := by decide +kernel
theorem dX10_forget_28 : decode cX10_forget 28 = .ok (.iconst 0, 1) := by decide +kernel
theorem dX10_forget_29 : decode cX10_forget 29 = .ok (.iastore, 1) := by decide +kernel
theorem dX10_forget_30 : decode cX10_forget 30 = .ok (.aload_n 0, 1) := by decide +kernel
theorem dX10_forget_31 : decode cX10_forget 31 = .ok (.getfield 15, 3) := by decide +kernel
theorem dX10_forget_34 : decode cX10_forget 34 = .ok (.iload_n 1, 1) := by decide +kernel
theorem dX10_forget_35 : decode cX10_forget 35 = .ok (.iconst 0, 1) := by decide +kernel
theorem dX10_forget_36 : decode cX10_forget 36 = .ok (.iastore, 1) := by decide +kernel
theorem dX10_forget_37 : decode cX10_forget 37 = .ok (.iinc 1 1, 3) := by decide +kernel
theorem dX10_forget_40 : decode cX10_forget 40 = .ok (.goto (-23), 3) := by decide +kernel
theorem dX10_forget_43 : decode cX10_forget 43 = .ok (.iconst 0, 1) := by decide +kernel
theorem dX10_forget_44 : decode cX10_forget 44 = .ok (.istore_n 1, 1) := by decide +kernel
theorem dX10_forget_45 : decode cX10_forget 45 = .ok (.iload_n 1, 1) := by decide +kernel
theorem dX10_forget_46 : decode cX10_forget 46 = .ok (.bipush 16, 2) := by decide +kernel
theorem dX10_forget_48 : decode cX10_forget 48 = .ok (.if_icmp .ge 16, 3) := by decide +kernel
theorem dX10_forget_51 : decode cX10_forget 51 = .ok (.aload_n 0, 1) := by decide +kernel
theorem dX10_forget_52 : decode cX10_forget 52 = .ok (.getfield 18, 3) := by decide +kernel
theorem dX10_forget_55 : decode cX10_forget 55 = .ok (.iload_n 1, 1) := by decide +kernel
theorem dX10_forget_56 : decode cX10_forget 56 = .ok (.iconst 0, 1) := by decide +kernel
theorem dX10_forget_57 : decode cX10_forget 57 = .ok (.iastore, 1) := by decide +kernel
theorem dX10_forget_58 : decode cX10_forget 58 = .ok (.iinc 1 1, 3) := by decide +kernel
theorem dX10_forget_61 : decode cX10_forget 61 = .ok (.goto (-16), 3) := by decide +kernel
theorem dX10_forget_64 : decode cX10_forget 64 = .ok (.iconst 0, 1) := by decide +kernel
theorem dX10_forget_65 : decode cX10_forget 65 = .ok (.istore_n 1, 1) := by decide +kernel
theorem dX10_forget_66 : decode cX10_forget 66 = .ok (.iload_n 1, 1) := by decide +kernel
theorem dX10_forget_67 : decode cX10_forget 67 = .ok (.bipush 16, 2) := by decide +kernel
theorem dX10_forget_69 : decode cX10_forget 69 = .ok (.if_icmp .ge 16, 3) := by decide +kernel
theorem dX10_forget_72 : decode cX10_forget 72 = .ok (.aload_n 0, 1) := by decide +kernel
theorem dX10_forget_73 : decode cX10_forget 73 = .ok (.getfield 21, 3) := by decide +kernel
theorem dX10_forget_76 : decode cX10_forget 76 = .ok (.iload_n 1, 1) := by decide +kernel
theorem dX10_forget_77 : decode cX10_forget 77 = .ok (.iconst 0, 1) := by decide +kernel
theorem dX10_forget_78 : decode cX10_forget 78 = .ok (.iastore, 1) := by decide +kernel
theorem dX10_forget_79 : decode cX10_forget 79 = .ok (.iinc 1 1, 3) := by decide +kernel
theorem dX10_forget_82 : decode cX10_forget 82 = .ok (.goto (-16), 3) := by decide +kernel
theorem dX10_forget_85 : decode cX10_forget 85 = .ok (.return_, 1) := by decide +kernel
theorem dX10_rowOf_0 : decode cX10_rowOf 0 = .ok (.iload_n 0, 1) := by decide +kernel
theorem dX10_rowOf_1 : decode cX10_rowOf 1 = .ok (.bipush 17, 2) := by decide +kernel
theorem dX10_rowOf_3 : decode cX10_rowOf 3 = .ok (.invokestatic 46, 3) := by decide +kernel
theorem dX10_rowOf_6 : decode cX10_rowOf 6 = .ok (.bipush 16, 2) := by decide +kernel
theorem dX10_rowOf_8 : decode cX10_rowOf 8 = .ok (.imul, 1) := by decide +kernel
theorem dX10_rowOf_9 : decode cX10_rowOf 9 = .ok (.ireturn, 1) := by decide +kernel
theorem dX10_valueOf_0 : decode cX10_valueOf 0 = .ok (.aload_n 0, 1) := by decide +kernel
theorem dX10_valueOf_1 : decode cX10_valueOf 1 = .ok (.getfield 21, 3) := by decide +kernel
theorem dX10_valueOf_4 : decode cX10_valueOf 4 = .ok (.iload_n 2, 1) := by decide +kernel
theorem dX10_valueOf_5 : decode cX10_valueOf 5 = .ok (.invokestatic 52, 3) := by decide +kernel
theorem dX10_valueOf_8 : decode cX10_valueOf 8 = .ok (.iload_n 1, 1) := by decide +kernel
theorem dX10_valueOf_9 : decode cX10_valueOf 9 = .ok (.iadd, 1) := by decide +kernel
theorem dX10_valueOf_10 : decode cX10_valueOf 10 = .ok (.iaload, 1) := by decide +kernel
theorem dX10_valueOf_11 : decode cX10_valueOf 11 = .ok (.ireturn, 1) := by decide +kernel
theorem dX10_requestOf_0 : decode cX10_requestOf 0 = .ok (.iload_n 1, 1) := by decide +kernel
theorem dX10_requestOf_1 : decode cX10_requestOf 1 = .ok (.aload_n 0, 1) := by decide +kernel
theorem dX10_requestOf_2 : decode cX10_requestOf 2 = .ok (.getfield 37, 3) := by decide +kernel
theorem dX10_requestOf_5 : decode cX10_requestOf 5 = .ok (.if_icmp .gt 15, 3) := by decide +kernel
theorem dX10_requestOf_8 : decode cX10_requestOf 8 = .ok (.iload_n 1, 1) := by decide +kernel
theorem dX10_requestOf_9 : decode cX10_requestOf 9 = .ok (.aload_n 0, 1) := by decide +kernel
theorem dX10_requestOf_10 : decode cX10_requestOf 10 = .ok (.invokevirtual 56, 3) := by decide +kernel
theorem dX10_requestOf_13 : decode cX10_requestOf 13 = .ok (.if_icmp .le 7, 3) := by decide +kernel
theorem dX10_requestOf_16 : decode cX10_requestOf 16 = .ok (.iconst 1, 1) := by decide +kernel
theorem dX10_requestOf_17 : decode cX10_requestOf 17 = .ok (.goto 4, 3) := by decide +kernel
theorem dX10_requestOf_20 : decode cX10_requestOf 20 = .ok (.iconst 0, 1) := by decide +kernel
theorem dX10_requestOf_21 : decode cX10_requestOf 21 = .ok (.istore_n 2, 1) := by decide +kernel
theorem dX10_requestOf_22 : decode cX10_requestOf 22 = .ok (.iload_n 2, 1) := by decide +kernel
theorem dX10_requestOf_23 : decode cX10_requestOf 23 = .ok (.ifCond .eq 17, 3) := by decide +kernel
theorem dX10_requestOf_26 : decode cX10_requestOf 26 = .ok (.aload_n 0, 1) := by decide +kernel
theorem dX10_requestOf_27 : decode cX10_requestOf 27 = .ok (.getfield 26, 3) := by decide +kernel
theorem dX10_requestOf_30 : decode cX10_requestOf 30 = .ok (.iload_n 1, 1) := by decide +kernel
theorem dX10_requestOf_31 : decode cX10_requestOf 31 = .ok (.bipush 32, 2) := by decide +kernel
theorem dX10_requestOf_33 : decode cX10_requestOf 33 = .ok (.invokestatic 46, 3) := by decide +kernel
theorem dX10_requestOf_36 : decode cX10_requestOf 36 = .ok (.aaload, 1) := by decide +kernel
theorem dX10_requestOf_37 : decode cX10_requestOf 37 = .ok (.goto 4, 3) := by decide +kernel
theorem dX10_requestOf_40 : decode cX10_requestOf 40 = .ok (.aconst_null, 1) := by decide +kernel
theorem dX10_requestOf_41 : decode cX10_requestOf 41 = .ok (.areturn, 1) := by decide +kernel
theorem dX10_base_0 : decode cX10_base 0 = .ok (.aload_n 0, 1) := by decide +kernel
theorem dX10_base_1 : decode cX10_base 1 = .ok (.getfield 37, 3) := by decide +kernel
theorem dX10_base_4 : decode cX10_base 4 = .ok (.aload_n 0, 1) := by decide +kernel
theorem dX10_base_5 : decode cX10_base 5 = .ok (.getfield 43, 3) := by decide +kernel
theorem dX10_base_8 : decode cX10_base 8 = .ok (.isub, 1) := by decide +kernel
theorem dX10_base_9 : decode cX10_base 9 = .ok (.ireturn, 1) := by decide +kernel
theorem dX10_isNew_0 : decode cX10_isNew 0 = .ok (.aload_n 1, 1) := by decide +kernel
theorem dX10_isNew_1 : decode cX10_isNew 1 = .ok (.getfield 60, 3) := by decide +kernel
theorem dX10_isNew_4 : decode cX10_isNew 4 = .ok (.aload_n 0, 1) := by decide +kernel
theorem dX10_isNew_5 : decode cX10_isNew 5 = .ok (.getfield 9, 3) := by decide +kernel
theorem dX10_isNew_8 : decode cX10_isNew 8 = .ok (.aload_n 1, 1) := by decide +kernel
theorem dX10_isNew_9 : decode cX10_isNew 9 = .ok (.getfield 63, 3) := by decide +kernel
theorem dX10_isNew_12 : decode cX10_isNew 12 = .ok (.iaload, 1) := by decide +kernel
theorem dX10_isNew_13 : decode cX10_isNew 13 = .ok (.if_icmp .le 7, 3) := by decide +kernel
theorem dX10_isNew_16 : decode cX10_isNew 16 = .ok (.iconst 1, 1) := by decide +kernel
theorem dX10_isNew_17 : decode cX10_isNew 17 = .ok (.goto 4, 3) := by decide +kernel
theorem dX10_isNew_20 : decode cX10_isNew 20 = .ok (.iconst 0, 1) := by decide +kernel
theorem dX10_isNew_21 : decode cX10_isNew 21 = .ok (.ireturn, 1) := by decide +kernel
theorem dX10_learn_0 : decode cX10_learn 0 = .ok (.iconst 0, 1) := by decide +kernel
theorem dX10_learn_1 : decode cX10_learn 1 = .ok (.istore_n 2, 1) := by decide +kernel
theorem dX10_learn_2 : decode cX10_learn 2 = .ok (.aload_n 0, 1) := by decide +kernel
theorem dX10_learn_3 : decode cX10_learn 3 = .ok (.getfield 21, 3) := by decide +kernel
theorem dX10_learn_6 : decode cX10_learn 6 = .ok (.aload_n 0, 1) := by decide +kernel
theorem dX10_learn_7 : decode cX10_learn 7 = .ok (.getfield 37, 3) := by decide +kernel
theorem dX10_learn_10 : decode cX10_learn 10 = .ok (.invokestatic 52, 3) := by decide +kernel
theorem dX10_learn_13 : decode cX10_learn 13 = .ok (.aload_n 0, 1) := by decide +kernel
theorem dX10_learn_14 : decode cX10_learn 14 = .ok (.getfield 21, 3) := by decide +kernel
theorem dX10_learn_17 : decode cX10_learn 17 = .ok (.aload_n 0, 1) := by decide +kernel
theorem dX10_learn_18 : decode cX10_learn 18 = .ok (.getfield 37, 3) := by decide +kernel
theorem dX10_learn_21 : decode cX10_learn 21 = .ok (.iconst 1, 1) := by decide +kernel
theorem dX10_learn_22 : decode cX10_learn 22 = .ok (.iadd, 1) := by decide +kernel
theorem dX10_learn_23 : decode cX10_learn 23 = .ok (.invokestatic 52, 3) := by decide +kernel
theorem dX10_learn_26 : decode cX10_learn 26 = .ok (.bipush 16, 2) := by decide +kernel
theorem dX10_learn_28 : decode cX10_learn 28 = .ok (.invokestatic 66, 3) := by decide +kernel
theorem dX10_learn_31 : decode cX10_learn 31 = .ok (.aload_n 0, 1) := by decide +kernel
theorem dX10_learn_32 : decode cX10_learn 32 = .ok (.aload_n 1, 1) := by decide +kernel
theorem dX10_learn_33 : decode cX10_learn 33 = .ok (.invokevirtual 72, 3) := by decide +kernel
theorem dX10_learn_36 : decode cX10_learn 36 = .ok (.ifCond .eq 53, 3) := by decide +kernel
theorem dX10_learn_39 : decode cX10_learn 39 = .ok (.aload_n 0, 1) := by decide +kernel
theorem dX10_learn_40 : decode cX10_learn 40 = .ok (.aload_n 1, 1) := by decide +kernel
theorem dX10_learn_41 : decode cX10_learn 41 = .ok (.invokevirtual 76, 3) := by decide +kernel
theorem dX10_learn_44 : decode cX10_learn 44 = .ok (.istore_n 3, 1) := by decide +kernel
theorem dX10_learn_45 : decode cX10_learn 45 = .ok (.iload_n 3, 1) := by decide +kernel
theorem dX10_learn_46 : decode cX10_learn 46 = .ok (.ifCond .eq 7, 3) := by decide +kernel
theorem dX10_learn_49 : decode cX10_learn 49 = .ok (.iconst 0, 1) := by decide +kernel
theorem dX10_learn_50 : decode cX10_learn 50 = .ok (.goto 7, 3) := by decide +kernel
theorem dX10_learn_53 : decode cX10_learn 53 = .ok (.aload_n 1, 1) := by decide +kernel
theorem dX10_learn_54 : decode cX10_learn 54 = .ok (.getfield 79, 3) := by decide +kernel
theorem dX10_learn_57 : decode cX10_learn 57 = .ok (.istore_n 2, 1) := by decide +kernel
theorem dX10_learn_58 : decode cX10_learn 58 = .ok (.aload_n 0, 1) := by decide +kernel
theorem dX10_learn_59 : decode cX10_learn 59 = .ok (.getfield 9, 3) := by decide +kernel
theorem dX10_learn_62 : decode cX10_learn 62 = .ok (.aload_n 1, 1) := by decide +kernel
theorem dX10_learn_63 : decode cX10_learn 63 = .ok (.getfield 63, 3) := by decide +kernel
theorem dX10_learn_66 : decode cX10_learn 66 = .ok (.aload_n 1, 1) := by decide +kernel
theorem dX10_learn_67 : decode cX10_learn 67 = .ok (.getfield 60, 3) := by decide +kernel
theorem dX10_learn_70 : decode cX10_learn 70 = .ok (.iastore, 1) := by decide +kernel
theorem dX10_learn_71 : decode cX10_learn 71 = .ok (.aload_n 0, 1) := by decide +kernel
theorem dX10_learn_72 : decode cX10_learn 72 = .ok (.getfield 15, 3) := by decide +kernel
theorem dX10_learn_75 : decode cX10_learn 75 = .ok (.aload_n 1, 1) := by decide +kernel
theorem dX10_learn_76 : decode cX10_learn 76 = .ok (.getfield 63, 3) := by decide +kernel
theorem dX10_learn_79 : decode cX10_learn 79 = .ok (.iload_n 3, 1) := by decide +kernel
theorem dX10_learn_80 : decode cX10_learn 80 = .ok (.ifCond .eq 7, 3) := by decide +kernel
theorem dX10_learn_83 : decode cX10_learn 83 = .ok (.iconst 2, 1) := by decide +kernel
theorem dX10_learn_84 : decode cX10_learn 84 = .ok (.goto 4, 3) := by decide +kernel
theorem dX10_learn_87 : decode cX10_learn 87 = .ok (.iconst 1, 1) := by decide +kernel
theorem dX10_learn_88 : decode cX10_learn 88 = .ok (.iastore, 1) := by decide +kernel
theorem dX10_learn_89 : decode cX10_learn 89 = .ok (.aload_n 0, 1) := by decide +kernel
theorem dX10_learn_90 : decode cX10_learn 90 = .ok (.dup, 1) := by decide +kernel
theorem dX10_learn_91 : decode cX10_learn 91 = .ok (.getfield 37, 3) := by decide +kernel
theorem dX10_learn_94 : decode cX10_learn 94 = .ok (.iconst 1, 1) := by decide +kernel
theorem dX10_learn_95 : decode cX10_learn 95 = .ok (.iadd, 1) := by decide +kernel
theorem dX10_learn_96 : decode cX10_learn 96 = .ok (.putfield 37, 3) := by decide +kernel
theorem dX10_learn_99 : decode cX10_learn 99 = .ok (.aload_n 0, 1) := by decide +kernel
theorem dX10_learn_100 : decode cX10_learn 100 = .ok (.aload_n 1, 1) := by decide +kernel
theorem dX10_learn_101 : decode cX10_learn 101 = .ok (.iload_n 2, 1) := by decide +kernel
theorem dX10_learn_102 : decode cX10_learn 102 = .ok (.invokevirtual 82, 3) := by decide +kernel
theorem dX10_learn_105 : decode cX10_learn 105 = .ok (.aload_n 0, 1) := by decide +kernel
theorem dX10_learn_106 : decode cX10_learn 106 = .ok (.getfield 30, 3) := by decide +kernel
theorem dX10_learn_109 : decode cX10_learn 109 = .ok (.iconst 1, 1) := by decide +kernel
theorem dX10_learn_110 : decode cX10_learn 110 = .ok (.isub, 1) := by decide +kernel
theorem dX10_learn_111 : decode cX10_learn 111 = .ok (.istore_n 3, 1) := by decide +kernel
theorem dX10_learn_112 : decode cX10_learn 112 = .ok (.iload_n 3, 1) := by decide +kernel
theorem dX10_learn_113 : decode cX10_learn 113 = .ok (.ifCond .le 23, 3) := by decide +kernel
theorem dX10_learn_116 : decode cX10_learn 116 = .ok (.aload_n 0, 1) := by decide +kernel
theorem dX10_learn_117 : decode cX10_learn 117 = .ok (.getfield 18, 3) := by decide +kernel
theorem dX10_learn_120 : decode cX10_learn 120 = .ok (.iload_n 3, 1) := by decide +kernel
theorem dX10_learn_121 : decode cX10_learn 121 = .ok (.aload_n 0, 1) := by decide +kernel
theorem dX10_learn_122 : decode cX10_learn 122 = .ok (.getfield 18, 3) := by decide +kernel
theorem dX10_learn_125 : decode cX10_learn 125 = .ok (.iload_n 3, 1) := by decide +kernel
theorem dX10_learn_126 : decode cX10_learn 126 = .ok (.iconst 1, 1) := by decide +kernel
theorem dX10_learn_127 : decode cX10_learn 127 = .ok (.isub, 1) := by decide +kernel
theorem dX10_learn_128 : decode cX10_learn 128 = .ok (.iaload, 1) := by decide +kernel
theorem dX10_learn_129 : decode cX10_learn 129 = .ok (.iastore, 1) := by decide +kernel
theorem dX10_learn_130 : decode cX10_learn 130 = .ok (.iinc 3 (-1), 3) := by decide +kernel
theorem dX10_learn_133 : decode cX10_learn 133 = .ok (.goto (-21), 3) := by decide +kernel
theorem dX10_learn_136 : decode cX10_learn 136 = .ok (.aload_n 0, 1) := by decide +kernel
theorem dX10_learn_137 : decode cX10_learn 137 = .ok (.getfield 18, 3) := by decide +kernel
theorem dX10_learn_140 : decode cX10_learn 140 = .ok (.iconst 0, 1) := by decide +kernel
theorem dX10_learn_141 : decode cX10_learn 141 = .ok (.iload_n 2, 1) := by decide +kernel
theorem dX10_learn_142 : decode cX10_learn 142 = .ok (.iastore, 1) := by decide +kernel
theorem dX10_learn_143 : decode cX10_learn 143 = .ok (.aload_n 0, 1) := by decide +kernel
theorem dX10_learn_144 : decode cX10_learn 144 = .ok (.aload_n 0, 1) := by decide +kernel
theorem dX10_learn_145 : decode cX10_learn 145 = .ok (.getfield 40, 3) := by decide +kernel
theorem dX10_learn_148 : decode cX10_learn 148 = .ok (.aload_n 0, 1) := by decide +kernel
theorem dX10_learn_149 : decode cX10_learn 149 = .ok (.getfield 37, 3) := by decide +kernel
theorem dX10_learn_152 : decode cX10_learn 152 = .ok (.aload_n 0, 1) := by decide +kernel
theorem dX10_learn_153 : decode cX10_learn 153 = .ok (.getfield 30, 3) := by decide +kernel
theorem dX10_learn_156 : decode cX10_learn 156 = .ok (.isub, 1) := by decide +kernel
theorem dX10_learn_157 : decode cX10_learn 157 = .ok (.invokestatic 86, 3) := by decide +kernel
theorem dX10_learn_160 : decode cX10_learn 160 = .ok (.putfield 40, 3) := by decide +kernel
theorem dX10_learn_163 : decode cX10_learn 163 = .ok (.aload_n 0, 1) := by decide +kernel
theorem dX10_learn_164 : decode cX10_learn 164 = .ok (.getfield 26, 3) := by decide +kernel
theorem dX10_learn_167 : decode cX10_learn 167 = .ok (.aload_n 0, 1) := by decide +kernel
theorem dX10_learn_168 : decode cX10_learn 168 = .ok (.getfield 37, 3) := by decide +kernel
theorem dX10_learn_171 : decode cX10_learn 171 = .ok (.bipush 32, 2) := by decide +kernel
theorem dX10_learn_173 : decode cX10_learn 173 = .ok (.invokestatic 46, 3) := by decide +kernel
theorem dX10_learn_176 : decode cX10_learn 176 = .ok (.aload_n 1, 1) := by decide +kernel
theorem dX10_learn_177 : decode cX10_learn 177 = .ok (.aastore, 1) := by decide +kernel
theorem dX10_learn_178 : decode cX10_learn 178 = .ok (.aload_n 0, 1) := by decide +kernel
theorem dX10_learn_179 : decode cX10_learn 179 = .ok (.aload_n 0, 1) := by decide +kernel
theorem dX10_learn_180 : decode cX10_learn 180 = .ok (.getfield 43, 3) := by decide +kernel
theorem dX10_learn_183 : decode cX10_learn 183 = .ok (.iconst 1, 1) := by decide +kernel
theorem dX10_learn_184 : decode cX10_learn 184 = .ok (.iadd, 1) := by decide +kernel
theorem dX10_learn_185 : decode cX10_learn 185 = .ok (.aload_n 0, 1) := by decide +kernel
theorem dX10_learn_186 : decode cX10_learn 186 = .ok (.getfield 34, 3) := by decide +kernel
theorem dX10_learn_189 : decode cX10_learn 189 = .ok (.invokestatic 89, 3) := by decide +kernel
theorem dX10_learn_192 : decode cX10_learn 192 = .ok (.putfield 43, 3) := by decide +kernel
theorem dX10_learn_195 : decode cX10_learn 195 = .ok (.return_, 1) := by decide +kernel
theorem dX10_isBelated_0 : decode cX10_isBelated 0 = .ok (.aload_n 1, 1) := by decide +kernel
theorem dX10_isBelated_1 : decode cX10_isBelated 1 = .ok (.getfield 92, 3) := by decide +kernel
theorem dX10_isBelated_4 : decode cX10_isBelated 4 = .ok (.aload_n 0, 1) := by decide +kernel
theorem dX10_isBelated_5 : decode cX10_isBelated 5 = .ok (.getfield 37, 3) := by decide +kernel
theorem dX10_isBelated_8 : decode cX10_isBelated 8 = .ok (.aload_n 0, 1) := by decide +kernel
theorem dX10_isBelated_9 : decode cX10_isBelated 9 = .ok (.getfield 30, 3) := by decide +kernel
theorem dX10_isBelated_12 : decode cX10_isBelated 12 = .ok (.isub, 1) := by decide +kernel
theorem dX10_isBelated_13 : decode cX10_isBelated 13 = .ok (.if_icmp .ge 5, 3) := by decide +kernel
theorem dX10_isBelated_16 : decode cX10_isBelated 16 = .ok (.iconst 1, 1) := by decide +kernel
theorem dX10_isBelated_17 : decode cX10_isBelated 17 = .ok (.ireturn, 1) := by decide +kernel
theorem dX10_isBelated_18 : decode cX10_isBelated 18 = .ok (.iconst 0, 1) := by decide +kernel
theorem dX10_isBelated_19 : decode cX10_isBelated 19 = .ok (.istore_n 2, 1) := by decide +kernel
theorem dX10_isBelated_20 : decode cX10_isBelated 20 = .ok (.iload_n 2, 1) := by decide +kernel
theorem dX10_isBelated_21 : decode cX10_isBelated 21 = .ok (.aload_n 0, 1) := by decide +kernel
theorem dX10_isBelated_22 : decode cX10_isBelated 22 = .ok (.getfield 30, 3) := by decide +kernel
theorem dX10_isBelated_25 : decode cX10_isBelated 25 = .ok (.if_icmp .ge 38, 3) := by decide +kernel
theorem dX10_isBelated_28 : decode cX10_isBelated 28 = .ok (.aload_n 0, 1) := by decide +kernel
theorem dX10_isBelated_29 : decode cX10_isBelated 29 = .ok (.getfield 37, 3) := by decide +kernel
theorem dX10_isBelated_32 : decode cX10_isBelated 32 = .ok (.iload_n 2, 1) := by decide +kernel
theorem dX10_isBelated_33 : decode cX10_isBelated 33 = .ok (.isub, 1) := by decide +kernel
theorem dX10_isBelated_34 : decode cX10_isBelated 34 = .ok (.aload_n 1, 1) := by decide +kernel
theorem dX10_isBelated_35 : decode cX10_isBelated 35 = .ok (.getfield 92, 3) := by decide +kernel
theorem dX10_isBelated_38 : decode cX10_isBelated 38 = .ok (.if_icmp .le 19, 3) := by decide +kernel
theorem dX10_isBelated_41 : decode cX10_isBelated 41 = .ok (.aload_n 0, 1) := by decide +kernel
theorem dX10_isBelated_42 : decode cX10_isBelated 42 = .ok (.getfield 18, 3) := by decide +kernel
theorem dX10_isBelated_45 : decode cX10_isBelated 45 = .ok (.iload_n 2, 1) := by decide +kernel
theorem dX10_isBelated_46 : decode cX10_isBelated 46 = .ok (.iaload, 1) := by decide +kernel
theorem dX10_isBelated_47 : decode cX10_isBelated 47 = .ok (.aload_n 1, 1) := by decide +kernel
theorem dX10_isBelated_48 : decode cX10_isBelated 48 = .ok (.getfield 95, 3) := by decide +kernel
theorem dX10_isBelated_51 : decode cX10_isBelated 51 = .ok (.iand, 1) := by decide +kernel
theorem dX10_isBelated_52 : decode cX10_isBelated 52 = .ok (.ifCond .eq 5, 3) := by decide +kernel
theorem dX10_isBelated_55 : decode cX10_isBelated 55 = .ok (.iconst 1, 1) := by decide +kernel
theorem dX10_isBelated_56 : decode cX10_isBelated 56 = .ok (.ireturn, 1) := by decide +kernel
theorem dX10_isBelated_57 : decode cX10_isBelated 57 = .ok (.iinc 2 1, 3) := by decide +kernel
theorem dX10_isBelated_60 : decode cX10_isBelated 60 = .ok (.goto (-40), 3) := by decide +kernel
theorem dX10_isBelated_63 : decode cX10_isBelated 63 = .ok (.iconst 0, 1) := by decide +kernel
theorem dX10_isBelated_64 : decode cX10_isBelated 64 = .ok (.ireturn, 1) := by decide +kernel
theorem dX10_writeValues_0 : decode cX10_writeValues 0 = .ok (.aload_n 0, 1) := by decide +kernel
theorem dX10_writeValues_1 : decode cX10_writeValues 1 = .ok (.getfield 37, 3) := by decide +kernel
theorem dX10_writeValues_4 : decode cX10_writeValues 4 = .ok (.invokestatic 52, 3) := by decide +kernel
theorem dX10_writeValues_7 : decode cX10_writeValues 7 = .ok (.istore_n 3, 1) := by decide +kernel
theorem dX10_writeValues_8 : decode cX10_writeValues 8 = .ok (.iconst 0, 1) := by decide +kernel
theorem dX10_writeValues_9 : decode cX10_writeValues 9 = .ok (.istore 4, 2) := by decide +kernel
theorem dX10_writeValues_11 : decode cX10_writeValues 11 = .ok (.iload 4, 2) := by decide +kernel
theorem dX10_writeValues_13 : decode cX10_writeValues 13 = .ok (.bipush 16, 2) := by decide +kernel
theorem dX10_writeValues_15 : decode cX10_writeValues 15 = .ok (.if_icmp .ge 34, 3) := by decide +kernel
theorem dX10_writeValues_18 : decode cX10_writeValues 18 = .ok (.iload 4, 2) := by decide +kernel
theorem dX10_writeValues_20 : decode cX10_writeValues 20 = .ok (.iload_n 2, 1) := by decide +kernel
theorem dX10_writeValues_21 : decode cX10_writeValues 21 = .ok (.invokestatic 98, 3) := by decide +kernel
theorem dX10_writeValues_24 : decode cX10_writeValues 24 = .ok (.ifCond .eq 19, 3) := by decide +kernel
theorem dX10_writeValues_27 : decode cX10_writeValues 27 = .ok (.aload_n 0, 1) := by decide +kernel
theorem dX10_writeValues_28 : decode cX10_writeValues 28 = .ok (.getfield 21, 3) := by decide +kernel
theorem dX10_writeValues_31 : decode cX10_writeValues 31 = .ok (.iload_n 3, 1) := by decide +kernel
theorem dX10_writeValues_32 : decode cX10_writeValues 32 = .ok (.iload 4, 2) := by decide +kernel
theorem dX10_writeValues_34 : decode cX10_writeValues 34 = .ok (.iadd, 1) := by decide +kernel
theorem dX10_writeValues_35 : decode cX10_writeValues 35 = .ok (.aload_n 1, 1) := by decide +kernel
theorem dX10_writeValues_36 : decode cX10_writeValues 36 = .ok (.getfield 102, 3) := by decide +kernel
theorem dX10_writeValues_39 : decode cX10_writeValues 39 = .ok (.iload 4, 2) := by decide +kernel
theorem dX10_writeValues_41 : decode cX10_writeValues 41 = .ok (.iaload, 1) := by decide +kernel
theorem dX10_writeValues_42 : decode cX10_writeValues 42 = .ok (.iastore, 1) := by decide +kernel
theorem dX10_writeValues_43 : decode cX10_writeValues 43 = .ok (.iinc 4 1, 3) := by decide +kernel
theorem dX10_writeValues_46 : decode cX10_writeValues 46 = .ok (.goto (-35), 3) := by decide +kernel
theorem dX10_writeValues_49 : decode cX10_writeValues 49 = .ok (.return_, 1) := by decide +kernel
theorem dX10_writeTo_0 : decode cX10_writeTo 0 = .ok (.aload_n 1, 1) := by decide +kernel
theorem dX10_writeTo_1 : decode cX10_writeTo 1 = .ok (.aload_n 0, 1) := by decide +kernel
theorem dX10_writeTo_2 : decode cX10_writeTo 2 = .ok (.getfield 37, 3) := by decide +kernel
theorem dX10_writeTo_5 : decode cX10_writeTo 5 = .ok (.invokevirtual 105, 3) := by decide +kernel
theorem dX10_writeTo_8 : decode cX10_writeTo 8 = .ok (.aload_n 0, 1) := by decide +kernel
theorem dX10_writeTo_9 : decode cX10_writeTo 9 = .ok (.getfield 37, 3) := by decide +kernel
theorem dX10_writeTo_12 : decode cX10_writeTo 12 = .ok (.invokestatic 52, 3) := by decide +kernel
theorem dX10_writeTo_15 : decode cX10_writeTo 15 = .ok (.istore_n 2, 1) := by decide +kernel
theorem dX10_writeTo_16 : decode cX10_writeTo 16 = .ok (.iconst 0, 1) := by decide +kernel
theorem dX10_writeTo_17 : decode cX10_writeTo 17 = .ok (.istore_n 3, 1) := by decide +kernel
theorem dX10_writeTo_18 : decode cX10_writeTo 18 = .ok (.iload_n 3, 1) := by decide +kernel
theorem dX10_writeTo_19 : decode cX10_writeTo 19 = .ok (.bipush 16, 2) := by decide +kernel
theorem dX10_writeTo_21 : decode cX10_writeTo 21 = .ok (.if_icmp .ge 21, 3) := by decide +kernel
theorem dX10_writeTo_24 : decode cX10_writeTo 24 = .ok (.aload_n 1, 1) := by decide +kernel
theorem dX10_writeTo_25 : decode cX10_writeTo 25 = .ok (.aload_n 0, 1) := by decide +kernel
theorem dX10_writeTo_26 : decode cX10_writeTo 26 = .ok (.getfield 21, 3) := by decide +kernel
theorem dX10_writeTo_29 : decode cX10_writeTo 29 = .ok (.iload_n 2, 1) := by decide +kernel
theorem dX10_writeTo_30 : decode cX10_writeTo 30 = .ok (.iload_n 3, 1) := by decide +kernel
theorem dX10_writeTo_31 : decode cX10_writeTo 31 = .ok (.iadd, 1) := by decide +kernel
theorem dX10_writeTo_32 : decode cX10_writeTo 32 = .ok (.iaload, 1) := by decide +kernel
theorem dX10_writeTo_33 : decode cX10_writeTo 33 = .ok (.invokevirtual 111, 3) := by decide +kernel
theorem dX10_writeTo_36 : decode cX10_writeTo 36 = .ok (.iinc 3 1, 3) := by decide +kernel
theorem dX10_writeTo_39 : decode cX10_writeTo 39 = .ok (.goto (-21), 3) := by decide +kernel
theorem dX10_writeTo_42 : decode cX10_writeTo 42 = .ok (.iconst 0, 1) := by decide +kernel
theorem dX10_writeTo_43 : decode cX10_writeTo 43 = .ok (.istore_n 3, 1) := by decide +kernel
theorem dX10_writeTo_44 : decode cX10_writeTo 44 = .ok (.iload_n 3, 1) := by decide +kernel
theorem dX10_writeTo_45 : decode cX10_writeTo 45 = .ok (.bipush 16, 2) := by decide +kernel
theorem dX10_writeTo_47 : decode cX10_writeTo 47 = .ok (.if_icmp .ge 29, 3) := by decide +kernel
theorem dX10_writeTo_50 : decode cX10_writeTo 50 = .ok (.aload_n 1, 1) := by decide +kernel
theorem dX10_writeTo_51 : decode cX10_writeTo 51 = .ok (.aload_n 0, 1) := by decide +kernel
theorem dX10_writeTo_52 : decode cX10_writeTo 52 = .ok (.getfield 9, 3) := by decide +kernel
theorem dX10_writeTo_55 : decode cX10_writeTo 55 = .ok (.iload_n 3, 1) := by decide +kernel
theorem dX10_writeTo_56 : decode cX10_writeTo 56 = .ok (.iaload, 1) := by decide +kernel
theorem dX10_writeTo_57 : decode cX10_writeTo 57 = .ok (.invokevirtual 105, 3) := by decide +kernel
theorem dX10_writeTo_60 : decode cX10_writeTo 60 = .ok (.aload_n 1, 1) := by decide +kernel
theorem dX10_writeTo_61 : decode cX10_writeTo 61 = .ok (.aload_n 0, 1) := by decide +kernel
theorem dX10_writeTo_62 : decode cX10_writeTo 62 = .ok (.getfield 15, 3) := by decide +kernel
theorem dX10_writeTo_65 : decode cX10_writeTo 65 = .ok (.iload_n 3, 1) := by decide +kernel
theorem dX10_writeTo_66 : decode cX10_writeTo 66 = .ok (.iaload, 1) := by decide +kernel
theorem dX10_writeTo_67 : decode cX10_writeTo 67 = .ok (.invokevirtual 114, 3) := by decide +kernel
theorem dX10_writeTo_70 : decode cX10_writeTo 70 = .ok (.iinc 3 1, 3) := by decide +kernel
theorem dX10_writeTo_73 : decode cX10_writeTo 73 = .ok (.goto (-29), 3) := by decide +kernel
theorem dX10_writeTo_76 : decode cX10_writeTo 76 = .ok (.iconst 0, 1) := by decide +kernel
theorem dX10_writeTo_77 : decode cX10_writeTo 77 = .ok (.istore_n 3, 1) := by decide +kernel
theorem dX10_writeTo_78 : decode cX10_writeTo 78 = .ok (.iload_n 3, 1) := by decide +kernel
theorem dX10_writeTo_79 : decode cX10_writeTo 79 = .ok (.aload_n 0, 1) := by decide +kernel
theorem dX10_writeTo_80 : decode cX10_writeTo 80 = .ok (.getfield 30, 3) := by decide +kernel
theorem dX10_writeTo_83 : decode cX10_writeTo 83 = .ok (.if_icmp .ge 19, 3) := by decide +kernel
theorem dX10_writeTo_86 : decode cX10_writeTo 86 = .ok (.aload_n 1, 1) := by decide +kernel
theorem dX10_writeTo_87 : decode cX10_writeTo 87 = .ok (.aload_n 0, 1) := by decide +kernel
theorem dX10_writeTo_88 : decode cX10_writeTo 88 = .ok (.getfield 18, 3) := by decide +kernel
theorem dX10_writeTo_91 : decode cX10_writeTo 91 = .ok (.iload_n 3, 1) := by decide +kernel
theorem dX10_writeTo_92 : decode cX10_writeTo 92 = .ok (.iaload, 1) := by decide +kernel
theorem dX10_writeTo_93 : decode cX10_writeTo 93 = .ok (.invokevirtual 117, 3) := by decide +kernel
theorem dX10_writeTo_96 : decode cX10_writeTo 96 = .ok (.iinc 3 1, 3) := by decide +kernel
theorem dX10_writeTo_99 : decode cX10_writeTo 99 = .ok (.goto (-21), 3) := by decide +kernel
theorem dX10_writeTo_102 : decode cX10_writeTo 102 = .ok (.return_, 1) := by decide +kernel
theorem dX10_writeValuesTo_0 : decode cX10_writeValuesTo 0 = .ok (.iload_n 2, 1) := by decide +kernel
theorem dX10_writeValuesTo_1 : decode cX10_writeValuesTo 1 = .ok (.invokestatic 52, 3) := by decide +kernel
theorem dX10_writeValuesTo_4 : decode cX10_writeValuesTo 4 = .ok (.istore_n 3, 1) := by decide +kernel
theorem dX10_writeValuesTo_5 : decode cX10_writeValuesTo 5 = .ok (.iconst 0, 1) := by decide +kernel
theorem dX10_writeValuesTo_6 : decode cX10_writeValuesTo 6 = .ok (.istore 4, 2) := by decide +kernel
theorem dX10_writeValuesTo_8 : decode cX10_writeValuesTo 8 = .ok (.iload 4, 2) := by decide +kernel
theorem dX10_writeValuesTo_10 : decode cX10_writeValuesTo 10 = .ok (.bipush 16, 2) := by decide +kernel
theorem dX10_writeValuesTo_12 : decode cX10_writeValuesTo 12 = .ok (.if_icmp .ge 22, 3) := by decide +kernel
theorem dX10_writeValuesTo_15 : decode cX10_writeValuesTo 15 = .ok (.aload_n 1, 1) := by decide +kernel
theorem dX10_writeValuesTo_16 : decode cX10_writeValuesTo 16 = .ok (.aload_n 0, 1) := by decide +kernel
theorem dX10_writeValuesTo_17 : decode cX10_writeValuesTo 17 = .ok (.getfield 21, 3) := by decide +kernel
theorem dX10_writeValuesTo_20 : decode cX10_writeValuesTo 20 = .ok (.iload_n 3, 1) := by decide +kernel
theorem dX10_writeValuesTo_21 : decode cX10_writeValuesTo 21 = .ok (.iload 4, 2) := by decide +kernel
theorem dX10_writeValuesTo_23 : decode cX10_writeValuesTo 23 = .ok (.iadd, 1) := by decide +kernel
theorem dX10_writeValuesTo_24 : decode cX10_writeValuesTo 24 = .ok (.iaload, 1) := by decide +kernel
theorem dX10_writeValuesTo_25 : decode cX10_writeValuesTo 25 = .ok (.invokevirtual 111, 3) := by decide +kernel
theorem dX10_writeValuesTo_28 : decode cX10_writeValuesTo 28 = .ok (.iinc 4 1, 3) := by decide +kernel
theorem dX10_writeValuesTo_31 : decode cX10_writeValuesTo 31 = .ok (.goto (-23), 3) := by decide +kernel
theorem dX10_writeValuesTo_34 : decode cX10_writeValuesTo 34 = .ok (.return_, 1) := by decide +kernel
theorem dX10_takeFrom_0 : decode cX10_takeFrom 0 = .ok (.aload_n 0, 1) := by decide +kernel
theorem dX10_takeFrom_1 : decode cX10_takeFrom 1 = .ok (.aload_n 1, 1) := by decide +kernel
theorem dX10_takeFrom_2 : decode cX10_takeFrom 2 = .ok (.invokevirtual 120, 3) := by decide +kernel
theorem dX10_takeFrom_5 : decode cX10_takeFrom 5 = .ok (.putfield 37, 3) := by decide +kernel
theorem dX10_takeFrom_8 : decode cX10_takeFrom 8 = .ok (.aload_n 0, 1) := by decide +kernel
theorem dX10_takeFrom_9 : decode cX10_takeFrom 9 = .ok (.aload_n 0, 1) := by decide +kernel
theorem dX10_takeFrom_10 : decode cX10_takeFrom 10 = .ok (.getfield 37, 3) := by decide +kernel
theorem dX10_takeFrom_13 : decode cX10_takeFrom 13 = .ok (.putfield 40, 3) := by decide +kernel
theorem dX10_takeFrom_16 : decode cX10_takeFrom 16 = .ok (.aload_n 0, 1) := by decide +kernel
theorem dX10_takeFrom_17 : decode cX10_takeFrom 17 = .ok (.iconst 0, 1) := by decide +kernel
theorem dX10_takeFrom_18 : decode cX10_takeFrom 18 = .ok (.putfield 43, 3) := by decide +kernel
theorem dX10_takeFrom_21 : decode cX10_takeFrom 21 = .ok (.aload_n 0, 1) := by decide +kernel
theorem dX10_takeFrom_22 : decode cX10_takeFrom 22 = .ok (.aload_n 1, 1) := by decide +kernel
theorem dX10_takeFrom_23 : decode cX10_takeFrom 23 = .ok (.invokevirtual 123, 3) := by decide +kernel
theorem dX10_takeFrom_26 : decode cX10_takeFrom 26 = .ok (.iconst 0, 1) := by decide +kernel
theorem dX10_takeFrom_27 : decode cX10_takeFrom 27 = .ok (.istore_n 2, 1) := by decide +kernel
theorem dX10_takeFrom_28 : decode cX10_takeFrom 28 = .ok (.iload_n 2, 1) := by decide +kernel
theorem dX10_takeFrom_29 : decode cX10_takeFrom 29 = .ok (.bipush 16, 2) := by decide +kernel
theorem dX10_takeFrom_31 : decode cX10_takeFrom 31 = .ok (.if_icmp .ge 29, 3) := by decide +kernel
theorem dX10_takeFrom_34 : decode cX10_takeFrom 34 = .ok (.aload_n 0, 1) := by decide +kernel
theorem dX10_takeFrom_35 : decode cX10_takeFrom 35 = .ok (.getfield 9, 3) := by decide +kernel
theorem dX10_takeFrom_38 : decode cX10_takeFrom 38 = .ok (.iload_n 2, 1) := by decide +kernel
theorem dX10_takeFrom_39 : decode cX10_takeFrom 39 = .ok (.aload_n 1, 1) := by decide +kernel
theorem dX10_takeFrom_40 : decode cX10_takeFrom 40 = .ok (.invokevirtual 120, 3) := by decide +kernel
theorem dX10_takeFrom_43 : decode cX10_takeFrom 43 = .ok (.iastore, 1) := by decide +kernel
theorem dX10_takeFrom_44 : decode cX10_takeFrom 44 = .ok (.aload_n 0, 1) := by decide +kernel
theorem dX10_takeFrom_45 : decode cX10_takeFrom 45 = .ok (.getfield 15, 3) := by decide +kernel
theorem dX10_takeFrom_48 : decode cX10_takeFrom 48 = .ok (.iload_n 2, 1) := by decide +kernel
theorem dX10_takeFrom_49 : decode cX10_takeFrom 49 = .ok (.aload_n 1, 1) := by decide +kernel
theorem dX10_takeFrom_50 : decode cX10_takeFrom 50 = .ok (.invokevirtual 127, 3) := by decide +kernel
theorem dX10_takeFrom_53 : decode cX10_takeFrom 53 = .ok (.iastore, 1) := by decide +kernel
theorem dX10_takeFrom_54 : decode cX10_takeFrom 54 = .ok (.iinc 2 1, 3) := by decide +kernel
theorem dX10_takeFrom_57 : decode cX10_takeFrom 57 = .ok (.goto (-29), 3) := by decide +kernel
theorem dX10_takeFrom_60 : decode cX10_takeFrom 60 = .ok (.iconst 0, 1) := by decide +kernel
theorem dX10_takeFrom_61 : decode cX10_takeFrom 61 = .ok (.istore_n 2, 1) := by decide +kernel
theorem dX10_takeFrom_62 : decode cX10_takeFrom 62 = .ok (.iload_n 2, 1) := by decide +kernel
theorem dX10_takeFrom_63 : decode cX10_takeFrom 63 = .ok (.aload_n 0, 1) := by decide +kernel
theorem dX10_takeFrom_64 : decode cX10_takeFrom 64 = .ok (.getfield 30, 3) := by decide +kernel
theorem dX10_takeFrom_67 : decode cX10_takeFrom 67 = .ok (.if_icmp .ge 19, 3) := by decide +kernel
theorem dX10_takeFrom_70 : decode cX10_takeFrom 70 = .ok (.aload_n 0, 1) := by decide +kernel
theorem dX10_takeFrom_71 : decode cX10_takeFrom 71 = .ok (.getfield 18, 3) := by decide +kernel
theorem dX10_takeFrom_74 : decode cX10_takeFrom 74 = .ok (.iload_n 2, 1) := by decide +kernel
theorem dX10_takeFrom_75 : decode cX10_takeFrom 75 = .ok (.aload_n 1, 1) := by decide +kernel
theorem dX10_takeFrom_76 : decode cX10_takeFrom 76 = .ok (.invokevirtual 130, 3) := by decide +kernel
theorem dX10_takeFrom_79 : decode cX10_takeFrom 79 = .ok (.iastore, 1) := by decide +kernel
theorem dX10_takeFrom_80 : decode cX10_takeFrom 80 = .ok (.iinc 2 1, 3) := by decide +kernel
theorem dX10_takeFrom_83 : decode cX10_takeFrom 83 = .ok (.goto (-21), 3) := by decide +kernel
theorem dX10_takeFrom_86 : decode cX10_takeFrom 86 = .ok (.return_, 1) := by decide +kernel
theorem dX10_takeValuesFrom_0 : decode cX10_takeValuesFrom 0 = .ok (.aload_n 0, 1) := by decide +kernel
theorem dX10_takeValuesFrom_1 : decode cX10_takeValuesFrom 1 = .ok (.getfield 40, 3) := by decide +kernel
theorem dX10_takeValuesFrom_4 : decode cX10_takeValuesFrom 4 = .ok (.invokestatic 52, 3) := by decide +kernel
theorem dX10_takeValuesFrom_7 : decode cX10_takeValuesFrom 7 = .ok (.istore_n 2, 1) := by decide +kernel
theorem dX10_takeValuesFrom_8 : decode cX10_takeValuesFrom 8 = .ok (.iconst 0, 1) := by decide +kernel
theorem dX10_takeValuesFrom_9 : decode cX10_takeValuesFrom 9 = .ok (.istore_n 3, 1) := by decide +kernel
theorem dX10_takeValuesFrom_10 : decode cX10_takeValuesFrom 10 = .ok (.iload_n 3, 1) := by decide +kernel
theorem dX10_takeValuesFrom_11 : decode cX10_takeValuesFrom 11 = .ok (.bipush 16, 2) := by decide +kernel
theorem dX10_takeValuesFrom_13 : decode cX10_takeValuesFrom 13 = .ok (.if_icmp .ge 21, 3) := by decide +kernel
theorem dX10_takeValuesFrom_16 : decode cX10_takeValuesFrom 16 = .ok (.aload_n 0, 1) := by decide +kernel
theorem dX10_takeValuesFrom_17 : decode cX10_takeValuesFrom 17 = .ok (.getfield 21, 3) := by decide +kernel
theorem dX10_takeValuesFrom_20 : decode cX10_takeValuesFrom 20 = .ok (.iload_n 2, 1) := by decide +kernel
theorem dX10_takeValuesFrom_21 : decode cX10_takeValuesFrom 21 = .ok (.iload_n 3, 1) := by decide +kernel
theorem dX10_takeValuesFrom_22 : decode cX10_takeValuesFrom 22 = .ok (.iadd, 1) := by decide +kernel
theorem dX10_takeValuesFrom_23 : decode cX10_takeValuesFrom 23 = .ok (.aload_n 1, 1) := by decide +kernel
theorem dX10_takeValuesFrom_24 : decode cX10_takeValuesFrom 24 = .ok (.invokevirtual 133, 3) := by decide +kernel
theorem dX10_takeValuesFrom_27 : decode cX10_takeValuesFrom 27 = .ok (.iastore, 1) := by decide +kernel
theorem dX10_takeValuesFrom_28 : decode cX10_takeValuesFrom 28 = .ok (.iinc 3 1, 3) := by decide +kernel
theorem dX10_takeValuesFrom_31 : decode cX10_takeValuesFrom 31 = .ok (.goto (-21), 3) := by decide +kernel
theorem dX10_takeValuesFrom_34 : decode cX10_takeValuesFrom 34 = .ok (.return_, 1) := by decide +kernel
theorem dX10_takeOlderFrom_0 : decode cX10_takeOlderFrom 0 = .ok (.aload_n 0, 1) := by decide +kernel
theorem dX10_takeOlderFrom_1 : decode cX10_takeOlderFrom 1 = .ok (.getfield 37, 3) := by decide +kernel
theorem dX10_takeOlderFrom_4 : decode cX10_takeOlderFrom 4 = .ok (.aload_n 0, 1) := by decide +kernel
theorem dX10_takeOlderFrom_5 : decode cX10_takeOlderFrom 5 = .ok (.getfield 40, 3) := by decide +kernel
theorem dX10_takeOlderFrom_8 : decode cX10_takeOlderFrom 8 = .ok (.isub, 1) := by decide +kernel
theorem dX10_takeOlderFrom_9 : decode cX10_takeOlderFrom 9 = .ok (.aload_n 0, 1) := by decide +kernel
theorem dX10_takeOlderFrom_10 : decode cX10_takeOlderFrom 10 = .ok (.getfield 30, 3) := by decide +kernel
theorem dX10_takeOlderFrom_13 : decode cX10_takeOlderFrom 13 = .ok (.if_icmp .ge 18, 3) := by decide +kernel
theorem dX10_takeOlderFrom_16 : decode cX10_takeOlderFrom 16 = .ok (.aload_n 0, 1) := by decide +kernel
theorem dX10_takeOlderFrom_17 : decode cX10_takeOlderFrom 17 = .ok (.dup, 1) := by decide +kernel
theorem dX10_takeOlderFrom_18 : decode cX10_takeOlderFrom 18 = .ok (.getfield 40, 3) := by decide +kernel
theorem dX10_takeOlderFrom_21 : decode cX10_takeOlderFrom 21 = .ok (.iconst 1, 1) := by decide +kernel
theorem dX10_takeOlderFrom_22 : decode cX10_takeOlderFrom 22 = .ok (.isub, 1) := by decide +kernel
theorem dX10_takeOlderFrom_23 : decode cX10_takeOlderFrom 23 = .ok (.putfield 40, 3) := by decide +kernel
theorem dX10_takeOlderFrom_26 : decode cX10_takeOlderFrom 26 = .ok (.aload_n 0, 1) := by decide +kernel
theorem dX10_takeOlderFrom_27 : decode cX10_takeOlderFrom 27 = .ok (.aload_n 1, 1) := by decide +kernel
theorem dX10_takeOlderFrom_28 : decode cX10_takeOlderFrom 28 = .ok (.invokevirtual 123, 3) := by decide +kernel
theorem dX10_takeOlderFrom_31 : decode cX10_takeOlderFrom 31 = .ok (.return_, 1) := by decide +kernel
