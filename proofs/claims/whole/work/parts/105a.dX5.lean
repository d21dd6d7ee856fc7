theorem dX5_init_0 : decode cX5_init 0 = .ok (.aload_n 0, 1) := by decide +kernel
theorem dX5_init_1 : decode cX5_init 1 = .ok (.invokespecial 3, 3) := by decide +kernel
theorem dX5_init_4 : decode cX5_init 4 = .ok (.aload_n 0, 1) := by decide +kernel
theorem dX5_init_5 : decode cX5_init 5 = .ok (.sipush 256, 3) := by decide +kernel
theorem dX5_init_8 : decode cX5_init 8 = .ok (.newarray .byte, 2) := by decide +kernel
theorem dX5_init_10 : decode cX5_init 10 = .ok (.putfield 9, 3) := by decide +kernel
theorem dX5_init_13 : decode cX5_init 13 = .ok (.aload_n 0, 1) := by decide +kernel
theorem dX5_init_14 : decode cX5_init 14 = .ok (.iconst (-1), 1) := by decide +kernel
theorem dX5_init_15 : decode cX5_init 15 = .ok (.putfield 15, 3) := by decide +kernel
theorem dX5_init_18 : decode cX5_init 18 = .ok (.return_, 1) := by decide +kernel
theorem dX5_drop_0 : decode cX5_drop 0 = .ok (.aload_n 0, 1) := by decide +kernel
theorem dX5_drop_1 : decode cX5_drop 1 = .ok (.iconst (-1), 1) := by decide +kernel
theorem dX5_drop_2 : decode cX5_drop 2 = .ok (.putfield 15, 3) := by decide +kernel
theorem dX5_drop_5 : decode cX5_drop 5 = .ok (.aload_n 0, 1) := by decide +kernel
theorem dX5_drop_6 : decode cX5_drop 6 = .ok (.iconst 0, 1) := by decide +kernel
theorem dX5_drop_7 : decode cX5_drop 7 = .ok (.putfield 19, 3) := by decide +kernel
theorem dX5_drop_10 : decode cX5_drop 10 = .ok (.aload_n 0, 1) := by decide +kernel
theorem dX5_drop_11 : decode cX5_drop 11 = .ok (.iconst 0, 1) := by decide +kernel
theorem dX5_drop_12 : decode cX5_drop 12 = .ok (.putfield 22, 3) := by decide +kernel
theorem dX5_drop_15 : decode cX5_drop 15 = .ok (.return_, 1) := by decide +kernel
theorem dX5_gather_0 : decode cX5_gather 0 = .ok (.aload_n 1, 1) := by decide +kernel
theorem dX5_gather_1 : decode cX5_gather 1 = .ok (.getfield 25, 3) := by decide +kernel
theorem dX5_gather_4 : decode cX5_gather 4 = .ok (.ifnull 14, 3) := by decide +kernel
theorem dX5_gather_7 : decode cX5_gather 7 = .ok (.aload_n 1, 1) := by decide +kernel
theorem dX5_gather_8 : decode cX5_gather 8 = .ok (.getfield 25, 3) := by decide +kernel
theorem dX5_gather_11 : decode cX5_gather 11 = .ok (.arraylength, 1) := by decide +kernel
theorem dX5_gather_12 : decode cX5_gather 12 = .ok (.sipush 256, 3) := by decide +kernel
theorem dX5_gather_15 : decode cX5_gather 15 = .ok (.if_icmp .le 5, 3) := by decide +kernel
theorem dX5_gather_18 : decode cX5_gather 18 = .ok (.iconst 0, 1) := by decide +kernel
theorem dX5_gather_19 : decode cX5_gather 19 = .ok (.ireturn, 1) := by decide +kernel
theorem dX5_gather_20 : decode cX5_gather 20 = .ok (.aload_n 0, 1) := by decide +kernel
theorem dX5_gather_21 : decode cX5_gather 21 = .ok (.getfield 15, 3) := by decide +kernel
theorem dX5_gather_24 : decode cX5_gather 24 = .ok (.aload_n 1, 1) := by decide +kernel
theorem dX5_gather_25 : decode cX5_gather 25 = .ok (.getfield 30, 3) := by decide +kernel
theorem dX5_gather_28 : decode cX5_gather 28 = .ok (.if_icmp .ge 15, 3) := by decide +kernel
theorem dX5_gather_31 : decode cX5_gather 31 = .ok (.aload_n 0, 1) := by decide +kernel
theorem dX5_gather_32 : decode cX5_gather 32 = .ok (.invokevirtual 33, 3) := by decide +kernel
theorem dX5_gather_35 : decode cX5_gather 35 = .ok (.aload_n 0, 1) := by decide +kernel
theorem dX5_gather_36 : decode cX5_gather 36 = .ok (.aload_n 1, 1) := by decide +kernel
theorem dX5_gather_37 : decode cX5_gather 37 = .ok (.getfield 30, 3) := by decide +kernel
theorem dX5_gather_40 : decode cX5_gather 40 = .ok (.putfield 15, 3) := by decide +kernel
theorem dX5_gather_43 : decode cX5_gather 43 = .ok (.aload_n 1, 1) := by decide +kernel
theorem dX5_gather_44 : decode cX5_gather 44 = .ok (.invokevirtual 36, 3) := by decide +kernel
theorem dX5_gather_47 : decode cX5_gather 47 = .ok (.istore_n 2, 1) := by decide +kernel
theorem dX5_gather_48 : decode cX5_gather 48 = .ok (.aload_n 1, 1) := by decide +kernel
theorem dX5_gather_49 : decode cX5_gather 49 = .ok (.invokevirtual 40, 3) := by decide +kernel
theorem dX5_gather_52 : decode cX5_gather 52 = .ok (.istore_n 3, 1) := by decide +kernel
theorem dX5_gather_53 : decode cX5_gather 53 = .ok (.iconst 0, 1) := by decide +kernel
theorem dX5_gather_54 : decode cX5_gather 54 = .ok (.iload_n 2, 1) := by decide +kernel
theorem dX5_gather_55 : decode cX5_gather 55 = .ok (.invokestatic 43, 3) := by decide +kernel
theorem dX5_gather_58 : decode cX5_gather 58 = .ok (.istore 4, 2) := by decide +kernel
theorem dX5_gather_60 : decode cX5_gather 60 = .ok (.iload 4, 2) := by decide +kernel
theorem dX5_gather_62 : decode cX5_gather 62 = .ok (.iload_n 3, 1) := by decide +kernel
theorem dX5_gather_63 : decode cX5_gather 63 = .ok (.if_icmp .ge 23, 3) := by decide +kernel
theorem dX5_gather_66 : decode cX5_gather 66 = .ok (.aload_n 0, 1) := by decide +kernel
theorem dX5_gather_67 : decode cX5_gather 67 = .ok (.getfield 9, 3) := by decide +kernel
theorem dX5_gather_70 : decode cX5_gather 70 = .ok (.iload 4, 2) := by decide +kernel
theorem dX5_gather_72 : decode cX5_gather 72 = .ok (.aload_n 1, 1) := by decide +kernel
theorem dX5_gather_73 : decode cX5_gather 73 = .ok (.getfield 25, 3) := by decide +kernel
theorem dX5_gather_76 : decode cX5_gather 76 = .ok (.iload 4, 2) := by decide +kernel
theorem dX5_gather_78 : decode cX5_gather 78 = .ok (.baload, 1) := by decide +kernel
theorem dX5_gather_79 : decode cX5_gather 79 = .ok (.bastore, 1) := by decide +kernel
theorem dX5_gather_80 : decode cX5_gather 80 = .ok (.iinc 4 1, 3) := by decide +kernel
theorem dX5_gather_83 : decode cX5_gather 83 = .ok (.goto (-23), 3) := by decide +kernel
theorem dX5_gather_86 : decode cX5_gather 86 = .ok (.aload_n 0, 1) := by decide +kernel
theorem dX5_gather_87 : decode cX5_gather 87 = .ok (.dup, 1) := by decide +kernel
theorem dX5_gather_88 : decode cX5_gather 88 = .ok (.getfield 19, 3) := by decide +kernel
theorem dX5_gather_91 : decode cX5_gather 91 = .ok (.iconst 1, 1) := by decide +kernel
theorem dX5_gather_92 : decode cX5_gather 92 = .ok (.aload_n 1, 1) := by decide +kernel
theorem dX5_gather_93 : decode cX5_gather 93 = .ok (.getfield 49, 3) := by decide +kernel
theorem dX5_gather_96 : decode cX5_gather 96 = .ok (.ishl, 1) := by decide +kernel
theorem dX5_gather_97 : decode cX5_gather 97 = .ok (.ior, 1) := by decide +kernel
theorem dX5_gather_98 : decode cX5_gather 98 = .ok (.putfield 19, 3) := by decide +kernel
theorem dX5_gather_101 : decode cX5_gather 101 = .ok (.aload_n 0, 1) := by decide +kernel
theorem dX5_gather_102 : decode cX5_gather 102 = .ok (.aload_n 0, 1) := by decide +kernel
theorem dX5_gather_103 : decode cX5_gather 103 = .ok (.getfield 22, 3) := by decide +kernel
theorem dX5_gather_106 : decode cX5_gather 106 = .ok (.iload_n 3, 1) := by decide +kernel
theorem dX5_gather_107 : decode cX5_gather 107 = .ok (.invokestatic 43, 3) := by decide +kernel
theorem dX5_gather_110 : decode cX5_gather 110 = .ok (.putfield 22, 3) := by decide +kernel
theorem dX5_gather_113 : decode cX5_gather 113 = .ok (.aload_n 0, 1) := by decide +kernel
theorem dX5_gather_114 : decode cX5_gather 114 = .ok (.getfield 19, 3) := by decide +kernel
theorem dX5_gather_117 : decode cX5_gather 117 = .ok (.iconst 1, 1) := by decide +kernel
theorem dX5_gather_118 : decode cX5_gather 118 = .ok (.aload_n 1, 1) := by decide +kernel
theorem dX5_gather_119 : decode cX5_gather 119 = .ok (.getfield 25, 3) := by decide +kernel
theorem dX5_gather_122 : decode cX5_gather 122 = .ok (.invokestatic 52, 3) := by decide +kernel
theorem dX5_gather_125 : decode cX5_gather 125 = .ok (.ishl, 1) := by decide +kernel
theorem dX5_gather_126 : decode cX5_gather 126 = .ok (.iconst 1, 1) := by decide +kernel
theorem dX5_gather_127 : decode cX5_gather 127 = .ok (.isub, 1) := by decide +kernel
theorem dX5_gather_128 : decode cX5_gather 128 = .ok (.if_icmp .ne 7, 3) := by decide +kernel
theorem dX5_gather_131 : decode cX5_gather 131 = .ok (.iconst 1, 1) := by decide +kernel
theorem dX5_gather_132 : decode cX5_gather 132 = .ok (.goto 4, 3) := by decide +kernel
theorem dX5_gather_135 : decode cX5_gather 135 = .ok (.iconst 0, 1) := by decide +kernel
theorem dX5_gather_136 : decode cX5_gather 136 = .ok (.ireturn, 1) := by decide +kernel
