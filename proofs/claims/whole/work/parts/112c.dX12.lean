theorem dX12_frameOf_5 : decode cX12_frameOf 5 = .ok (.iload_n 1, 1) := by decide +kernel
theorem dX12_frameOf_6 : decode cX12_frameOf 6 = .ok (.ifCond .lt 22, 3) := by decide +kernel
theorem dX12_frameOf_9 : decode cX12_frameOf 9 = .ok (.iload_n 1, 1) := by decide +kernel
theorem dX12_frameOf_10 : decode cX12_frameOf 10 = .ok (.aload_n 0, 1) := by decide +kernel
theorem dX12_frameOf_11 : decode cX12_frameOf 11 = .ok (.getfield 290, 3) := by decide +kernel
theorem dX12_frameOf_14 : decode cX12_frameOf 14 = .ok (.if_icmp .ge 14, 3) := by decide +kernel
theorem dX12_frameOf_17 : decode cX12_frameOf 17 = .ok (.iload_n 2, 1) := by decide +kernel
theorem dX12_frameOf_18 : decode cX12_frameOf 18 = .ok (.ifCond .lt 10, 3) := by decide +kernel
theorem dX12_frameOf_21 : decode cX12_frameOf 21 = .ok (.iload_n 2, 1) := by decide +kernel
theorem dX12_frameOf_22 : decode cX12_frameOf 22 = .ok (.sipush 1000, 3) := by decide +kernel
theorem dX12_frameOf_25 : decode cX12_frameOf 25 = .ok (.if_icmp .le 5, 3) := by decide +kernel
theorem dX12_frameOf_28 : decode cX12_frameOf 28 = .ok (.lconst 0, 1) := by decide +kernel
theorem dX12_frameOf_29 : decode cX12_frameOf 29 = .ok (.lreturn, 1) := by decide +kernel
theorem dX12_frameOf_30 : decode cX12_frameOf 30 = .ok (.aload_n 0, 1) := by decide +kernel
theorem dX12_frameOf_31 : decode cX12_frameOf 31 = .ok (.iload_n 1, 1) := by decide +kernel
theorem dX12_frameOf_32 : decode cX12_frameOf 32 = .ok (.invokevirtual 391, 3) := by decide +kernel
theorem dX12_frameOf_35 : decode cX12_frameOf 35 = .ok (.lconst 0, 1) := by decide +kernel
theorem dX12_frameOf_36 : decode cX12_frameOf 36 = .ok (.lstore_n 3, 1) := by decide +kernel
theorem dX12_frameOf_37 : decode cX12_frameOf 37 = .ok (.bipush 8, 2) := by decide +kernel
theorem dX12_frameOf_39 : decode cX12_frameOf 39 = .ok (.iload_n 2, 1) := by decide +kernel
theorem dX12_frameOf_40 : decode cX12_frameOf 40 = .ok (.imul, 1) := by decide +kernel
theorem dX12_frameOf_41 : decode cX12_frameOf 41 = .ok (.istore 5, 2) := by decide +kernel
theorem dX12_frameOf_43 : decode cX12_frameOf 43 = .ok (.iload 5, 2) := by decide +kernel
theorem dX12_frameOf_45 : decode cX12_frameOf 45 = .ok (.bipush 8, 2) := by decide +kernel
theorem dX12_frameOf_47 : decode cX12_frameOf 47 = .ok (.iload_n 2, 1) := by decide +kernel
theorem dX12_frameOf_48 : decode cX12_frameOf 48 = .ok (.imul, 1) := by decide +kernel
theorem dX12_frameOf_49 : decode cX12_frameOf 49 = .ok (.bipush 8, 2) := by decide +kernel
theorem dX12_frameOf_51 : decode cX12_frameOf 51 = .ok (.iadd, 1) := by decide +kernel
theorem dX12_frameOf_52 : decode cX12_frameOf 52 = .ok (.if_icmp .ge 49, 3) := by decide +kernel
theorem dX12_frameOf_55 : decode cX12_frameOf 55 = .ok (.lload_n 3, 1) := by decide +kernel
theorem dX12_frameOf_56 : decode cX12_frameOf 56 = .ok (.bipush 8, 2) := by decide +kernel
theorem dX12_frameOf_58 : decode cX12_frameOf 58 = .ok (.lshl, 1) := by decide +kernel
theorem dX12_frameOf_59 : decode cX12_frameOf 59 = .ok (.iload 5, 2) := by decide +kernel
theorem dX12_frameOf_61 : decode cX12_frameOf 61 = .ok (.aload_n 0, 1) := by decide +kernel
theorem dX12_frameOf_62 : decode cX12_frameOf 62 = .ok (.getfield 218, 3) := by decide +kernel
theorem dX12_frameOf_65 : decode cX12_frameOf 65 = .ok (.if_icmp .ge 26, 3) := by decide +kernel
theorem dX12_frameOf_68 : decode cX12_frameOf 68 = .ok (.aload_n 0, 1) := by decide +kernel
theorem dX12_frameOf_69 : decode cX12_frameOf 69 = .ok (.getfield 133, 3) := by decide +kernel
theorem dX12_frameOf_72 : decode cX12_frameOf 72 = .ok (.iload 5, 2) := by decide +kernel
theorem dX12_frameOf_74 : decode cX12_frameOf 74 = .ok (.aload_n 0, 1) := by decide +kernel
theorem dX12_frameOf_75 : decode cX12_frameOf 75 = .ok (.getfield 218, 3) := by decide +kernel
theorem dX12_frameOf_78 : decode cX12_frameOf 78 = .ok (.if_icmp .ge 8, 3) := by decide +kernel
theorem dX12_frameOf_81 : decode cX12_frameOf 81 = .ok (.iload 5, 2) := by decide +kernel
theorem dX12_frameOf_83 : decode cX12_frameOf 83 = .ok (.goto 4, 3) := by decide +kernel
theorem dX12_frameOf_86 : decode cX12_frameOf 86 = .ok (.iconst 0, 1) := by decide +kernel
theorem dX12_frameOf_87 : decode cX12_frameOf 87 = .ok (.iaload, 1) := by decide +kernel
theorem dX12_frameOf_88 : decode cX12_frameOf 88 = .ok (.goto 4, 3) := by decide +kernel
theorem dX12_frameOf_91 : decode cX12_frameOf 91 = .ok (.iconst 0, 1) := by decide +kernel
theorem dX12_frameOf_92 : decode cX12_frameOf 92 = .ok (.i2l, 1) := by decide +kernel
theorem dX12_frameOf_93 : decode cX12_frameOf 93 = .ok (.lor, 1) := by decide +kernel
theorem dX12_frameOf_94 : decode cX12_frameOf 94 = .ok (.lstore_n 3, 1) := by decide +kernel
theorem dX12_frameOf_95 : decode cX12_frameOf 95 = .ok (.iinc 5 1, 3) := by decide +kernel
theorem dX12_frameOf_98 : decode cX12_frameOf 98 = .ok (.goto (-55), 3) := by decide +kernel
theorem dX12_frameOf_101 : decode cX12_frameOf 101 = .ok (.lload_n 3, 1) := by decide +kernel
theorem dX12_frameOf_102 : decode cX12_frameOf 102 = .ok (.lreturn, 1) := by decide +kernel
theorem dX12_valueAt_0 : decode cX12_valueAt 0 = .ok (.aload_n 0, 1) := by decide +kernel
theorem dX12_valueAt_1 : decode cX12_valueAt 1 = .ok (.aload_n 0, 1) := by decide +kernel
theorem dX12_valueAt_2 : decode cX12_valueAt 2 = .ok (.iload_n 1, 1) := by decide +kernel
theorem dX12_valueAt_3 : decode cX12_valueAt 3 = .ok (.invokevirtual 373, 3) := by decide +kernel
theorem dX12_valueAt_6 : decode cX12_valueAt 6 = .ok (.ifCond .eq 54, 3) := by decide +kernel
theorem dX12_valueAt_9 : decode cX12_valueAt 9 = .ok (.iload_n 2, 1) := by decide +kernel
theorem dX12_valueAt_10 : decode cX12_valueAt 10 = .ok (.invokestatic 376, 3) := by decide +kernel
theorem dX12_valueAt_13 : decode cX12_valueAt 13 = .ok (.ifCond .eq 47, 3) := by decide +kernel
theorem dX12_valueAt_16 : decode cX12_valueAt 16 = .ok (.iload_n 3, 1) := by decide +kernel
theorem dX12_valueAt_17 : decode cX12_valueAt 17 = .ok (.aload_n 0, 1) := by decide +kernel
theorem dX12_valueAt_18 : decode cX12_valueAt 18 = .ok (.getfield 40, 3) := by decide +kernel
theorem dX12_valueAt_21 : decode cX12_valueAt 21 = .ok (.aload_n 0, 1) := by decide +kernel
theorem dX12_valueAt_22 : decode cX12_valueAt 22 = .ok (.iload_n 1, 1) := by decide +kernel
theorem dX12_valueAt_23 : decode cX12_valueAt 23 = .ok (.invokevirtual 373, 3) := by decide +kernel
theorem dX12_valueAt_26 : decode cX12_valueAt 26 = .ok (.ifCond .eq 7, 3) := by decide +kernel
theorem dX12_valueAt_29 : decode cX12_valueAt 29 = .ok (.iload_n 1, 1) := by decide +kernel
theorem dX12_valueAt_30 : decode cX12_valueAt 30 = .ok (.goto 4, 3) := by decide +kernel
theorem dX12_valueAt_33 : decode cX12_valueAt 33 = .ok (.iconst 0, 1) := by decide +kernel
theorem dX12_valueAt_34 : decode cX12_valueAt 34 = .ok (.iaload, 1) := by decide +kernel
theorem dX12_valueAt_35 : decode cX12_valueAt 35 = .ok (.if_icmp .lt 25, 3) := by decide +kernel
theorem dX12_valueAt_38 : decode cX12_valueAt 38 = .ok (.iload_n 3, 1) := by decide +kernel
theorem dX12_valueAt_39 : decode cX12_valueAt 39 = .ok (.aload_n 0, 1) := by decide +kernel
theorem dX12_valueAt_40 : decode cX12_valueAt 40 = .ok (.getfield 37, 3) := by decide +kernel
theorem dX12_valueAt_43 : decode cX12_valueAt 43 = .ok (.aload_n 0, 1) := by decide +kernel
theorem dX12_valueAt_44 : decode cX12_valueAt 44 = .ok (.iload_n 1, 1) := by decide +kernel
theorem dX12_valueAt_45 : decode cX12_valueAt 45 = .ok (.invokevirtual 373, 3) := by decide +kernel
theorem dX12_valueAt_48 : decode cX12_valueAt 48 = .ok (.ifCond .eq 7, 3) := by decide +kernel
theorem dX12_valueAt_51 : decode cX12_valueAt 51 = .ok (.iload_n 1, 1) := by decide +kernel
theorem dX12_valueAt_52 : decode cX12_valueAt 52 = .ok (.goto 4, 3) := by decide +kernel
theorem dX12_valueAt_55 : decode cX12_valueAt 55 = .ok (.iconst 0, 1) := by decide +kernel
theorem dX12_valueAt_56 : decode cX12_valueAt 56 = .ok (.iaload, 1) := by decide +kernel
theorem dX12_valueAt_57 : decode cX12_valueAt 57 = .ok (.if_icmp .le 7, 3) := by decide +kernel
theorem dX12_valueAt_60 : decode cX12_valueAt 60 = .ok (.iconst 1, 1) := by decide +kernel
theorem dX12_valueAt_61 : decode cX12_valueAt 61 = .ok (.goto 4, 3) := by decide +kernel
theorem dX12_valueAt_64 : decode cX12_valueAt 64 = .ok (.iconst 0, 1) := by decide +kernel
theorem dX12_valueAt_65 : decode cX12_valueAt 65 = .ok (.putfield 204, 3) := by decide +kernel
theorem dX12_valueAt_68 : decode cX12_valueAt 68 = .ok (.aload_n 0, 1) := by decide +kernel
theorem dX12_valueAt_69 : decode cX12_valueAt 69 = .ok (.getfield 204, 3) := by decide +kernel
theorem dX12_valueAt_72 : decode cX12_valueAt 72 = .ok (.ifCond .le 7, 3) := by decide +kernel
theorem dX12_valueAt_75 : decode cX12_valueAt 75 = .ok (.iconst 0, 1) := by decide +kernel
theorem dX12_valueAt_76 : decode cX12_valueAt 76 = .ok (.goto 18, 3) := by decide +kernel
theorem dX12_valueAt_79 : decode cX12_valueAt 79 = .ok (.aload_n 0, 1) := by decide +kernel
theorem dX12_valueAt_80 : decode cX12_valueAt 80 = .ok (.getfield 58, 3) := by decide +kernel
theorem dX12_valueAt_83 : decode cX12_valueAt 83 = .ok (.bipush 16, 2) := by decide +kernel
theorem dX12_valueAt_85 : decode cX12_valueAt 85 = .ok (.iload_n 1, 1) := by decide +kernel
theorem dX12_valueAt_86 : decode cX12_valueAt 86 = .ok (.iload_n 3, 1) := by decide +kernel
theorem dX12_valueAt_87 : decode cX12_valueAt 87 = .ok (.invokestatic 211, 3) := by decide +kernel
theorem dX12_valueAt_90 : decode cX12_valueAt 90 = .ok (.imul, 1) := by decide +kernel
theorem dX12_valueAt_91 : decode cX12_valueAt 91 = .ok (.iload_n 2, 1) := by decide +kernel
theorem dX12_valueAt_92 : decode cX12_valueAt 92 = .ok (.iadd, 1) := by decide +kernel
theorem dX12_valueAt_93 : decode cX12_valueAt 93 = .ok (.iaload, 1) := by decide +kernel
theorem dX12_valueAt_94 : decode cX12_valueAt 94 = .ok (.ireturn, 1) := by decide +kernel
theorem dX12_slotOf_0 : decode cX12_slotOf 0 = .ok (.aload_n 0, 1) := by decide +kernel
theorem dX12_slotOf_1 : decode cX12_slotOf 1 = .ok (.iconst 0, 1) := by decide +kernel
theorem dX12_slotOf_2 : decode cX12_slotOf 2 = .ok (.putfield 204, 3) := by decide +kernel
theorem dX12_slotOf_5 : decode cX12_slotOf 5 = .ok (.aload_n 0, 1) := by decide +kernel
theorem dX12_slotOf_6 : decode cX12_slotOf 6 = .ok (.iload_n 1, 1) := by decide +kernel
theorem dX12_slotOf_7 : decode cX12_slotOf 7 = .ok (.invokevirtual 373, 3) := by decide +kernel
theorem dX12_slotOf_10 : decode cX12_slotOf 10 = .ok (.ifCond .eq 47, 3) := by decide +kernel
theorem dX12_slotOf_13 : decode cX12_slotOf 13 = .ok (.iload_n 2, 1) := by decide +kernel
theorem dX12_slotOf_14 : decode cX12_slotOf 14 = .ok (.aload_n 0, 1) := by decide +kernel
theorem dX12_slotOf_15 : decode cX12_slotOf 15 = .ok (.getfield 43, 3) := by decide +kernel
theorem dX12_slotOf_18 : decode cX12_slotOf 18 = .ok (.aload_n 0, 1) := by decide +kernel
theorem dX12_slotOf_19 : decode cX12_slotOf 19 = .ok (.iload_n 1, 1) := by decide +kernel
theorem dX12_slotOf_20 : decode cX12_slotOf 20 = .ok (.invokevirtual 373, 3) := by decide +kernel
theorem dX12_slotOf_23 : decode cX12_slotOf 23 = .ok (.ifCond .eq 7, 3) := by decide +kernel
theorem dX12_slotOf_26 : decode cX12_slotOf 26 = .ok (.iload_n 1, 1) := by decide +kernel
theorem dX12_slotOf_27 : decode cX12_slotOf 27 = .ok (.goto 4, 3) := by decide +kernel
theorem dX12_slotOf_30 : decode cX12_slotOf 30 = .ok (.iconst 0, 1) := by decide +kernel
theorem dX12_slotOf_31 : decode cX12_slotOf 31 = .ok (.iaload, 1) := by decide +kernel
theorem dX12_slotOf_32 : decode cX12_slotOf 32 = .ok (.if_icmp .le 25, 3) := by decide +kernel
theorem dX12_slotOf_35 : decode cX12_slotOf 35 = .ok (.iload_n 2, 1) := by decide +kernel
theorem dX12_slotOf_36 : decode cX12_slotOf 36 = .ok (.aload_n 0, 1) := by decide +kernel
theorem dX12_slotOf_37 : decode cX12_slotOf 37 = .ok (.getfield 37, 3) := by decide +kernel
theorem dX12_slotOf_40 : decode cX12_slotOf 40 = .ok (.aload_n 0, 1) := by decide +kernel
theorem dX12_slotOf_41 : decode cX12_slotOf 41 = .ok (.iload_n 1, 1) := by decide +kernel
theorem dX12_slotOf_42 : decode cX12_slotOf 42 = .ok (.invokevirtual 373, 3) := by decide +kernel
theorem dX12_slotOf_45 : decode cX12_slotOf 45 = .ok (.ifCond .eq 7, 3) := by decide +kernel
theorem dX12_slotOf_48 : decode cX12_slotOf 48 = .ok (.iload_n 1, 1) := by decide +kernel
theorem dX12_slotOf_49 : decode cX12_slotOf 49 = .ok (.goto 4, 3) := by decide +kernel
theorem dX12_slotOf_52 : decode cX12_slotOf 52 = .ok (.iconst 0, 1) := by decide +kernel
theorem dX12_slotOf_53 : decode cX12_slotOf 53 = .ok (.iaload, 1) := by decide +kernel
theorem dX12_slotOf_54 : decode cX12_slotOf 54 = .ok (.if_icmp .le 5, 3) := by decide +kernel
theorem dX12_slotOf_57 : decode cX12_slotOf 57 = .ok (.iconst (-1), 1) := by decide +kernel
theorem dX12_slotOf_58 : decode cX12_slotOf 58 = .ok (.ireturn, 1) := by decide +kernel
theorem dX12_slotOf_59 : decode cX12_slotOf 59 = .ok (.aload_n 0, 1) := by decide +kernel
theorem dX12_slotOf_60 : decode cX12_slotOf 60 = .ok (.getfield 64, 3) := by decide +kernel
theorem dX12_slotOf_63 : decode cX12_slotOf 63 = .ok (.iload_n 1, 1) := by decide +kernel
theorem dX12_slotOf_64 : decode cX12_slotOf 64 = .ok (.iload_n 2, 1) := by decide +kernel
theorem dX12_slotOf_65 : decode cX12_slotOf 65 = .ok (.invokestatic 211, 3) := by decide +kernel
theorem dX12_slotOf_68 : decode cX12_slotOf 68 = .ok (.iaload, 1) := by decide +kernel
theorem dX12_slotOf_69 : decode cX12_slotOf 69 = .ok (.istore 4, 2) := by decide +kernel
theorem dX12_slotOf_71 : decode cX12_slotOf 71 = .ok (.iload_n 3, 1) := by decide +kernel
theorem dX12_slotOf_72 : decode cX12_slotOf 72 = .ok (.ifCond .ne 13, 3) := by decide +kernel
theorem dX12_slotOf_75 : decode cX12_slotOf 75 = .ok (.aload_n 0, 1) := by decide +kernel
theorem dX12_slotOf_76 : decode cX12_slotOf 76 = .ok (.getfield 13, 3) := by decide +kernel
theorem dX12_slotOf_79 : decode cX12_slotOf 79 = .ok (.iload 4, 2) := by decide +kernel
theorem dX12_slotOf_81 : decode cX12_slotOf 81 = .ok (.iaload, 1) := by decide +kernel
theorem dX12_slotOf_82 : decode cX12_slotOf 82 = .ok (.goto 64, 3) := by decide +kernel
theorem dX12_slotOf_85 : decode cX12_slotOf 85 = .ok (.iload_n 3, 1) := by decide +kernel
theorem dX12_slotOf_86 : decode cX12_slotOf 86 = .ok (.iconst 1, 1) := by decide +kernel
theorem dX12_slotOf_87 : decode cX12_slotOf 87 = .ok (.if_icmp .ne 13, 3) := by decide +kernel
theorem dX12_slotOf_90 : decode cX12_slotOf 90 = .ok (.aload_n 0, 1) := by decide +kernel
theorem dX12_slotOf_91 : decode cX12_slotOf 91 = .ok (.getfield 17, 3) := by decide +kernel
theorem dX12_slotOf_94 : decode cX12_slotOf 94 = .ok (.iload 4, 2) := by decide +kernel
theorem dX12_slotOf_96 : decode cX12_slotOf 96 = .ok (.iaload, 1) := by decide +kernel
theorem dX12_slotOf_97 : decode cX12_slotOf 97 = .ok (.goto 49, 3) := by decide +kernel
theorem dX12_slotOf_100 : decode cX12_slotOf 100 = .ok (.iload_n 3, 1) := by decide +kernel
theorem dX12_slotOf_101 : decode cX12_slotOf 101 = .ok (.iconst 2, 1) := by decide +kernel
theorem dX12_slotOf_102 : decode cX12_slotOf 102 = .ok (.if_icmp .ne 13, 3) := by decide +kernel
theorem dX12_slotOf_105 : decode cX12_slotOf 105 = .ok (.aload_n 0, 1) := by decide +kernel
theorem dX12_slotOf_106 : decode cX12_slotOf 106 = .ok (.getfield 20, 3) := by decide +kernel
theorem dX12_slotOf_109 : decode cX12_slotOf 109 = .ok (.iload 4, 2) := by decide +kernel
theorem dX12_slotOf_111 : decode cX12_slotOf 111 = .ok (.iaload, 1) := by decide +kernel
theorem dX12_slotOf_112 : decode cX12_slotOf 112 = .ok (.goto 34, 3) := by decide +kernel
theorem dX12_slotOf_115 : decode cX12_slotOf 115 = .ok (.iload_n 3, 1) := by decide +kernel
theorem dX12_slotOf_116 : decode cX12_slotOf 116 = .ok (.iconst 3, 1) := by decide +kernel
theorem dX12_slotOf_117 : decode cX12_slotOf 117 = .ok (.if_icmp .ne 13, 3) := by decide +kernel
theorem dX12_slotOf_120 : decode cX12_slotOf 120 = .ok (.aload_n 0, 1) := by decide +kernel
theorem dX12_slotOf_121 : decode cX12_slotOf 121 = .ok (.getfield 23, 3) := by decide +kernel
theorem dX12_slotOf_124 : decode cX12_slotOf 124 = .ok (.iload 4, 2) := by decide +kernel
theorem dX12_slotOf_126 : decode cX12_slotOf 126 = .ok (.iaload, 1) := by decide +kernel
theorem dX12_slotOf_127 : decode cX12_slotOf 127 = .ok (.goto 19, 3) := by decide +kernel
theorem dX12_slotOf_130 : decode cX12_slotOf 130 = .ok (.iload_n 3, 1) := by decide +kernel
theorem dX12_slotOf_131 : decode cX12_slotOf 131 = .ok (.iconst 4, 1) := by decide +kernel
theorem dX12_slotOf_132 : decode cX12_slotOf 132 = .ok (.if_icmp .ne 13, 3) := by decide +kernel
theorem dX12_slotOf_135 : decode cX12_slotOf 135 = .ok (.aload_n 0, 1) := by decide +kernel
theorem dX12_slotOf_136 : decode cX12_slotOf 136 = .ok (.getfield 26, 3) := by decide +kernel
theorem dX12_slotOf_139 : decode cX12_slotOf 139 = .ok (.iload 4, 2) := by decide +kernel
theorem dX12_slotOf_141 : decode cX12_slotOf 141 = .ok (.iaload, 1) := by decide +kernel
theorem dX12_slotOf_142 : decode cX12_slotOf 142 = .ok (.goto 4, 3) := by decide +kernel
theorem dX12_slotOf_145 : decode cX12_slotOf 145 = .ok (.iconst (-1), 1) := by decide +kernel
theorem dX12_slotOf_146 : decode cX12_slotOf 146 = .ok (.ireturn, 1) := by decide +kernel
theorem dX12_knownOf_0 : decode cX12_knownOf 0 = .ok (.aload_n 0, 1) := by decide +kernel
theorem dX12_knownOf_1 : decode cX12_knownOf 1 = .ok (.iconst 0, 1) := by decide +kernel
theorem dX12_knownOf_2 : decode cX12_knownOf 2 = .ok (.putfield 204, 3) := by decide +kernel
theorem dX12_knownOf_5 : decode cX12_knownOf 5 = .ok (.aload_n 0, 1) := by decide +kernel
theorem dX12_knownOf_6 : decode cX12_knownOf 6 = .ok (.iload_n 1, 1) := by decide +kernel
theorem dX12_knownOf_7 : decode cX12_knownOf 7 = .ok (.invokevirtual 373, 3) := by decide +kernel
theorem dX12_knownOf_10 : decode cX12_knownOf 10 = .ok (.ifCond .eq 10, 3) := by decide +kernel
theorem dX12_knownOf_13 : decode cX12_knownOf 13 = .ok (.iload_n 2, 1) := by decide +kernel
theorem dX12_knownOf_14 : decode cX12_knownOf 14 = .ok (.invokestatic 370, 3) := by decide +kernel
theorem dX12_knownOf_17 : decode cX12_knownOf 17 = .ok (.ifCond .ne 5, 3) := by decide +kernel
theorem dX12_knownOf_20 : decode cX12_knownOf 20 = .ok (.iconst (-1), 1) := by decide +kernel
theorem dX12_knownOf_21 : decode cX12_knownOf 21 = .ok (.ireturn, 1) := by decide +kernel
theorem dX12_knownOf_22 : decode cX12_knownOf 22 = .ok (.iload_n 3, 1) := by decide +kernel
theorem dX12_knownOf_23 : decode cX12_knownOf 23 = .ok (.ifCond .eq 17, 3) := by decide +kernel
theorem dX12_knownOf_26 : decode cX12_knownOf 26 = .ok (.aload_n 0, 1) := by decide +kernel
theorem dX12_knownOf_27 : decode cX12_knownOf 27 = .ok (.getfield 70, 3) := by decide +kernel
theorem dX12_knownOf_30 : decode cX12_knownOf 30 = .ok (.bipush 16, 2) := by decide +kernel
theorem dX12_knownOf_32 : decode cX12_knownOf 32 = .ok (.iload_n 1, 1) := by decide +kernel
theorem dX12_knownOf_33 : decode cX12_knownOf 33 = .ok (.imul, 1) := by decide +kernel
theorem dX12_knownOf_34 : decode cX12_knownOf 34 = .ok (.iload_n 2, 1) := by decide +kernel
theorem dX12_knownOf_35 : decode cX12_knownOf 35 = .ok (.iadd, 1) := by decide +kernel
theorem dX12_knownOf_36 : decode cX12_knownOf 36 = .ok (.iaload, 1) := by decide +kernel
theorem dX12_knownOf_37 : decode cX12_knownOf 37 = .ok (.goto 14, 3) := by decide +kernel
theorem dX12_knownOf_40 : decode cX12_knownOf 40 = .ok (.aload_n 0, 1) := by decide +kernel
theorem dX12_knownOf_41 : decode cX12_knownOf 41 = .ok (.getfield 67, 3) := by decide +kernel
theorem dX12_knownOf_44 : decode cX12_knownOf 44 = .ok (.bipush 16, 2) := by decide +kernel
theorem dX12_knownOf_46 : decode cX12_knownOf 46 = .ok (.iload_n 1, 1) := by decide +kernel
theorem dX12_knownOf_47 : decode cX12_knownOf 47 = .ok (.imul, 1) := by decide +kernel
theorem dX12_knownOf_48 : decode cX12_knownOf 48 = .ok (.iload_n 2, 1) := by decide +kernel
theorem dX12_knownOf_49 : decode cX12_knownOf 49 = .ok (.iadd, 1) := by decide +kernel
theorem dX12_knownOf_50 : decode cX12_knownOf 50 = .ok (.iaload, 1) := by decide +kernel
theorem dX12_knownOf_51 : decode cX12_knownOf 51 = .ok (.ireturn, 1) := by decide +kernel
theorem dX12_sessionOf_0 : decode cX12_sessionOf 0 = .ok (.aload_n 0, 1) := by decide +kernel
theorem dX12_sessionOf_1 : decode cX12_sessionOf 1 = .ok (.iconst 0, 1) := by decide +kernel
theorem dX12_sessionOf_2 : decode cX12_sessionOf 2 = .ok (.putfield 204, 3) := by decide +kernel
theorem dX12_sessionOf_5 : decode cX12_sessionOf 5 = .ok (.iload_n 1, 1) := by decide +kernel
theorem dX12_sessionOf_6 : decode cX12_sessionOf 6 = .ok (.invokestatic 370, 3) := by decide +kernel
theorem dX12_sessionOf_9 : decode cX12_sessionOf 9 = .ok (.ifCond .ne 5, 3) := by decide +kernel
theorem dX12_sessionOf_12 : decode cX12_sessionOf 12 = .ok (.iconst (-1), 1) := by decide +kernel
theorem dX12_sessionOf_13 : decode cX12_sessionOf 13 = .ok (.ireturn, 1) := by decide +kernel
theorem dX12_sessionOf_14 : decode cX12_sessionOf 14 = .ok (.iload_n 2, 1) := by decide +kernel
theorem dX12_sessionOf_15 : decode cX12_sessionOf 15 = .ok (.tableswitch 103 0 5 #[37, 44, 51, 82, 89, 96], 37) := by decide +kernel
theorem dX12_sessionOf_52 : decode cX12_sessionOf 52 = .ok (.aload_n 0, 1) := by decide +kernel
theorem dX12_sessionOf_53 : decode cX12_sessionOf 53 = .ok (.getfield 157, 3) := by decide +kernel
theorem dX12_sessionOf_56 : decode cX12_sessionOf 56 = .ok (.iload_n 1, 1) := by decide +kernel
theorem dX12_sessionOf_57 : decode cX12_sessionOf 57 = .ok (.iaload, 1) := by decide +kernel
theorem dX12_sessionOf_58 : decode cX12_sessionOf 58 = .ok (.ireturn, 1) := by decide +kernel
theorem dX12_sessionOf_59 : decode cX12_sessionOf 59 = .ok (.aload_n 0, 1) := by decide +kernel
theorem dX12_sessionOf_60 : decode cX12_sessionOf 60 = .ok (.getfield 160, 3) := by decide +kernel
theorem dX12_sessionOf_63 : decode cX12_sessionOf 63 = .ok (.iload_n 1, 1) := by decide +kernel
theorem dX12_sessionOf_64 : decode cX12_sessionOf 64 = .ok (.iaload, 1) := by decide +kernel
theorem dX12_sessionOf_65 : decode cX12_sessionOf 65 = .ok (.ireturn, 1) := by decide +kernel
theorem dX12_sessionOf_66 : decode cX12_sessionOf 66 = .ok (.aload_n 0, 1) := by decide +kernel
theorem dX12_sessionOf_67 : decode cX12_sessionOf 67 = .ok (.getfield 157, 3) := by decide +kernel
theorem dX12_sessionOf_70 : decode cX12_sessionOf 70 = .ok (.iload_n 1, 1) := by decide +kernel
theorem dX12_sessionOf_71 : decode cX12_sessionOf 71 = .ok (.iaload, 1) := by decide +kernel
theorem dX12_sessionOf_72 : decode cX12_sessionOf 72 = .ok (.iconst 1, 1) := by decide +kernel
theorem dX12_sessionOf_73 : decode cX12_sessionOf 73 = .ok (.if_icmp .eq 13, 3) := by decide +kernel
theorem dX12_sessionOf_76 : decode cX12_sessionOf 76 = .ok (.aload_n 0, 1) := by decide +kernel
theorem dX12_sessionOf_77 : decode cX12_sessionOf 77 = .ok (.getfield 157, 3) := by decide +kernel
theorem dX12_sessionOf_80 : decode cX12_sessionOf 80 = .ok (.iload_n 1, 1) := by decide +kernel
theorem dX12_sessionOf_81 : decode cX12_sessionOf 81 = .ok (.iaload, 1) := by decide +kernel
theorem dX12_sessionOf_82 : decode cX12_sessionOf 82 = .ok (.iconst 2, 1) := by decide +kernel
theorem dX12_sessionOf_83 : decode cX12_sessionOf 83 = .ok (.if_icmp .ne 12, 3) := by decide +kernel
theorem dX12_sessionOf_86 : decode cX12_sessionOf 86 = .ok (.aload_n 0, 1) := by decide +kernel
theorem dX12_sessionOf_87 : decode cX12_sessionOf 87 = .ok (.getfield 163, 3) := by decide +kernel
theorem dX12_sessionOf_90 : decode cX12_sessionOf 90 = .ok (.iload_n 1, 1) := by decide +kernel
theorem dX12_sessionOf_91 : decode cX12_sessionOf 91 = .ok (.iaload, 1) := by decide +kernel
theorem dX12_sessionOf_92 : decode cX12_sessionOf 92 = .ok (.goto 4, 3) := by decide +kernel
theorem dX12_sessionOf_95 : decode cX12_sessionOf 95 = .ok (.iconst (-1), 1) := by decide +kernel
theorem dX12_sessionOf_96 : decode cX12_sessionOf 96 = .ok (.ireturn, 1) := by decide +kernel
theorem dX12_sessionOf_97 : decode cX12_sessionOf 97 = .ok (.aload_n 0, 1) := by decide +kernel
theorem dX12_sessionOf_98 : decode cX12_sessionOf 98 = .ok (.getfield 166, 3) := by decide +kernel
theorem dX12_sessionOf_101 : decode cX12_sessionOf 101 = .ok (.iload_n 1, 1) := by decide +kernel
theorem dX12_sessionOf_102 : decode cX12_sessionOf 102 = .ok (.iaload, 1) := by decide +kernel
theorem dX12_sessionOf_103 : decode cX12_sessionOf 103 = .ok (.ireturn, 1) := by decide +kernel
theorem dX12_sessionOf_104 : decode cX12_sessionOf 104 = .ok (.aload_n 0, 1) := by decide +kernel
theorem dX12_sessionOf_105 : decode cX12_sessionOf 105 = .ok (.getfield 169, 3) := by decide +kernel
theorem dX12_sessionOf_108 : decode cX12_sessionOf 108 = .ok (.iload_n 1, 1) := by decide +kernel
theorem dX12_sessionOf_109 : decode cX12_sessionOf 109 = .ok (.iaload, 1) := by decide +kernel
theorem dX12_sessionOf_110 : decode cX12_sessionOf 110 = .ok (.ireturn, 1) := by decide +kernel
theorem dX12_sessionOf_111 : decode cX12_sessionOf 111 = .ok (.aload_n 0, 1) := by decide +kernel
theorem dX12_sessionOf_112 : decode cX12_sessionOf 112 = .ok (.getfield 172, 3) := by decide +kernel
theorem dX12_sessionOf_115 : decode cX12_sessionOf 115 = .ok (.iload_n 1, 1) := by decide +kernel
theorem dX12_sessionOf_116 : decode cX12_sessionOf 116 = .ok (.iaload, 1) := by decide +kernel
theorem dX12_sessionOf_117 : decode cX12_sessionOf 117 = .ok (.ireturn, 1) := by decide +kernel
theorem dX12_sessionOf_118 : decode cX12_sessionOf 118 = .ok (.iconst (-1), 1) := by decide +kernel
theorem dX12_sessionOf_119 : decode cX12_sessionOf 119 = .ok (.ireturn, 1) := by decide +kernel
theorem dX12_messageOf_0 : decode cX12_messageOf 0 = .ok (.aload_n 0, 1) := by decide +kernel
theorem dX12_messageOf_1 : decode cX12_messageOf 1 = .ok (.iconst 0, 1) := by decide +kernel
theorem dX12_messageOf_2 : decode cX12_messageOf 2 = .ok (.putfield 204, 3) := by decide +kernel
theorem dX12_messageOf_5 : decode cX12_messageOf 5 = .ok (.iload_n 1, 1) := by decide +kernel
theorem dX12_messageOf_6 : decode cX12_messageOf 6 = .ok (.ifCond .lt 21, 3) := by decide +kernel
theorem dX12_messageOf_9 : decode cX12_messageOf 9 = .ok (.iload_n 1, 1) := by decide +kernel
theorem dX12_messageOf_10 : decode cX12_messageOf 10 = .ok (.aload_n 0, 1) := by decide +kernel
theorem dX12_messageOf_11 : decode cX12_messageOf 11 = .ok (.getfield 290, 3) := by decide +kernel
theorem dX12_messageOf_14 : decode cX12_messageOf 14 = .ok (.if_icmp .ge 13, 3) := by decide +kernel
theorem dX12_messageOf_17 : decode cX12_messageOf 17 = .ok (.iload_n 2, 1) := by decide +kernel
theorem dX12_messageOf_18 : decode cX12_messageOf 18 = .ok (.ifCond .lt 9, 3) := by decide +kernel
theorem dX12_messageOf_21 : decode cX12_messageOf 21 = .ok (.iload_n 2, 1) := by decide +kernel
theorem dX12_messageOf_22 : decode cX12_messageOf 22 = .ok (.bipush 9, 2) := by decide +kernel
theorem dX12_messageOf_24 : decode cX12_messageOf 24 = .ok (.if_icmp .le 5, 3) := by decide +kernel
theorem dX12_messageOf_27 : decode cX12_messageOf 27 = .ok (.iconst (-1), 1) := by decide +kernel
theorem dX12_messageOf_28 : decode cX12_messageOf 28 = .ok (.ireturn, 1) := by decide +kernel
theorem dX12_messageOf_29 : decode cX12_messageOf 29 = .ok (.bipush 8, 2) := by decide +kernel
theorem dX12_messageOf_31 : decode cX12_messageOf 31 = .ok (.iload_n 1, 1) := by decide +kernel
theorem dX12_messageOf_32 : decode cX12_messageOf 32 = .ok (.imul, 1) := by decide +kernel
theorem dX12_messageOf_33 : decode cX12_messageOf 33 = .ok (.istore_n 3, 1) := by decide +kernel
theorem dX12_messageOf_34 : decode cX12_messageOf 34 = .ok (.iload_n 2, 1) := by decide +kernel
theorem dX12_messageOf_35 : decode cX12_messageOf 35 = .ok (.bipush 9, 2) := by decide +kernel
theorem dX12_messageOf_37 : decode cX12_messageOf 37 = .ok (.if_icmp .ne 10, 3) := by decide +kernel
theorem dX12_messageOf_40 : decode cX12_messageOf 40 = .ok (.aload_n 0, 1) := by decide +kernel
theorem dX12_messageOf_41 : decode cX12_messageOf 41 = .ok (.getfield 142, 3) := by decide +kernel
theorem dX12_messageOf_44 : decode cX12_messageOf 44 = .ok (.iload_n 1, 1) := by decide +kernel
theorem dX12_messageOf_45 : decode cX12_messageOf 45 = .ok (.iaload, 1) := by decide +kernel
theorem dX12_messageOf_46 : decode cX12_messageOf 46 = .ok (.ireturn, 1) := by decide +kernel
theorem dX12_messageOf_47 : decode cX12_messageOf 47 = .ok (.iload_n 2, 1) := by decide +kernel
theorem dX12_messageOf_48 : decode cX12_messageOf 48 = .ok (.bipush 7, 2) := by decide +kernel
theorem dX12_messageOf_50 : decode cX12_messageOf 50 = .ok (.if_icmp .ne 21, 3) := by decide +kernel
theorem dX12_messageOf_53 : decode cX12_messageOf 53 = .ok (.aload_n 0, 1) := by decide +kernel
theorem dX12_messageOf_54 : decode cX12_messageOf 54 = .ok (.getfield 136, 3) := by decide +kernel
theorem dX12_messageOf_57 : decode cX12_messageOf 57 = .ok (.iload_n 3, 1) := by decide +kernel
theorem dX12_messageOf_58 : decode cX12_messageOf 58 = .ok (.bipush 7, 2) := by decide +kernel
theorem dX12_messageOf_60 : decode cX12_messageOf 60 = .ok (.iadd, 1) := by decide +kernel
theorem dX12_messageOf_61 : decode cX12_messageOf 61 = .ok (.iaload, 1) := by decide +kernel
theorem dX12_messageOf_62 : decode cX12_messageOf 62 = .ok (.ifCond .le 7, 3) := by decide +kernel
theorem dX12_messageOf_65 : decode cX12_messageOf 65 = .ok (.iconst 1, 1) := by decide +kernel
theorem dX12_messageOf_66 : decode cX12_messageOf 66 = .ok (.goto 4, 3) := by decide +kernel
theorem dX12_messageOf_69 : decode cX12_messageOf 69 = .ok (.iconst 0, 1) := by decide +kernel
theorem dX12_messageOf_70 : decode cX12_messageOf 70 = .ok (.ireturn, 1) := by decide +kernel
theorem dX12_messageOf_71 : decode cX12_messageOf 71 = .ok (.iload_n 2, 1) := by decide +kernel
theorem dX12_messageOf_72 : decode cX12_messageOf 72 = .ok (.bipush 8, 2) := by decide +kernel
theorem dX12_messageOf_74 : decode cX12_messageOf 74 = .ok (.if_icmp .ne 13, 3) := by decide +kernel
theorem dX12_messageOf_77 : decode cX12_messageOf 77 = .ok (.aload_n 0, 1) := by decide +kernel
theorem dX12_messageOf_78 : decode cX12_messageOf 78 = .ok (.iload_n 1, 1) := by decide +kernel
theorem dX12_messageOf_79 : decode cX12_messageOf 79 = .ok (.invokevirtual 391, 3) := by decide +kernel
theorem dX12_messageOf_82 : decode cX12_messageOf 82 = .ok (.aload_n 0, 1) := by decide +kernel
theorem dX12_messageOf_83 : decode cX12_messageOf 83 = .ok (.getfield 218, 3) := by decide +kernel
theorem dX12_messageOf_86 : decode cX12_messageOf 86 = .ok (.ireturn, 1) := by decide +kernel
theorem dX12_messageOf_87 : decode cX12_messageOf 87 = .ok (.iload_n 2, 1) := by decide +kernel
theorem dX12_messageOf_88 : decode cX12_messageOf 88 = .ok (.iconst 5, 1) := by decide +kernel
theorem dX12_messageOf_89 : decode cX12_messageOf 89 = .ok (.if_icmp .ne 32, 3) := by decide +kernel
theorem dX12_messageOf_92 : decode cX12_messageOf 92 = .ok (.aload_n 0, 1) := by decide +kernel
theorem dX12_messageOf_93 : decode cX12_messageOf 93 = .ok (.getfield 136, 3) := by decide +kernel
theorem dX12_messageOf_96 : decode cX12_messageOf 96 = .ok (.iload_n 3, 1) := by decide +kernel
theorem dX12_messageOf_97 : decode cX12_messageOf 97 = .ok (.iconst 5, 1) := by decide +kernel
theorem dX12_messageOf_98 : decode cX12_messageOf 98 = .ok (.iadd, 1) := by decide +kernel
theorem dX12_messageOf_99 : decode cX12_messageOf 99 = .ok (.iaload, 1) := by decide +kernel
theorem dX12_messageOf_100 : decode cX12_messageOf 100 = .ok (.ifCond .le 19, 3) := by decide +kernel
theorem dX12_messageOf_103 : decode cX12_messageOf 103 = .ok (.aload_n 0, 1) := by decide +kernel
theorem dX12_messageOf_104 : decode cX12_messageOf 104 = .ok (.getfield 13, 3) := by decide +kernel
theorem dX12_messageOf_107 : decode cX12_messageOf 107 = .ok (.aload_n 0, 1) := by decide +kernel
theorem dX12_messageOf_108 : decode cX12_messageOf 108 = .ok (.getfield 136, 3) := by decide +kernel
theorem dX12_messageOf_111 : decode cX12_messageOf 111 = .ok (.iload_n 3, 1) := by decide +kernel
theorem dX12_messageOf_112 : decode cX12_messageOf 112 = .ok (.iconst 5, 1) := by decide +kernel
theorem dX12_messageOf_113 : decode cX12_messageOf 113 = .ok (.iadd, 1) := by decide +kernel
theorem dX12_messageOf_114 : decode cX12_messageOf 114 = .ok (.iaload, 1) := by decide +kernel
theorem dX12_messageOf_115 : decode cX12_messageOf 115 = .ok (.iaload, 1) := by decide +kernel
theorem dX12_messageOf_116 : decode cX12_messageOf 116 = .ok (.goto 4, 3) := by decide +kernel
theorem dX12_messageOf_119 : decode cX12_messageOf 119 = .ok (.iconst (-1), 1) := by decide +kernel
theorem dX12_messageOf_120 : decode cX12_messageOf 120 = .ok (.ireturn, 1) := by decide +kernel
theorem dX12_messageOf_121 : decode cX12_messageOf 121 = .ok (.aload_n 0, 1) := by decide +kernel
theorem dX12_messageOf_122 : decode cX12_messageOf 122 = .ok (.getfield 136, 3) := by decide +kernel
theorem dX12_messageOf_125 : decode cX12_messageOf 125 = .ok (.iload_n 3, 1) := by decide +kernel
theorem dX12_messageOf_126 : decode cX12_messageOf 126 = .ok (.iload_n 2, 1) := by decide +kernel
theorem dX12_messageOf_127 : decode cX12_messageOf 127 = .ok (.iadd, 1) := by decide +kernel
theorem dX12_messageOf_128 : decode cX12_messageOf 128 = .ok (.iaload, 1) := by decide +kernel
theorem dX12_messageOf_129 : decode cX12_messageOf 129 = .ok (.ireturn, 1) := by decide +kernel
theorem dX12_lookAt_0 : decode cX12_lookAt 0 = .ok (.aload_n 0, 1) := by decide +kernel
theorem dX12_lookAt_1 : decode cX12_lookAt 1 = .ok (.iconst 0, 1) := by decide +kernel
theorem dX12_lookAt_2 : decode cX12_lookAt 2 = .ok (.putfield 204, 3) := by decide +kernel
theorem dX12_lookAt_5 : decode cX12_lookAt 5 = .ok (.iconst 0, 1) := by decide +kernel
theorem dX12_lookAt_6 : decode cX12_lookAt 6 = .ok (.istore_n 2, 1) := by decide +kernel
theorem dX12_lookAt_7 : decode cX12_lookAt 7 = .ok (.iconst 0, 1) := by decide +kernel
theorem dX12_lookAt_8 : decode cX12_lookAt 8 = .ok (.istore_n 3, 1) := by decide +kernel
theorem dX12_lookAt_9 : decode cX12_lookAt 9 = .ok (.iload_n 3, 1) := by decide +kernel
theorem dX12_lookAt_10 : decode cX12_lookAt 10 = .ok (.aload_n 0, 1) := by decide +kernel
theorem dX12_lookAt_11 : decode cX12_lookAt 11 = .ok (.getfield 184, 3) := by decide +kernel
theorem dX12_lookAt_14 : decode cX12_lookAt 14 = .ok (.if_icmp .ge 39, 3) := by decide +kernel
theorem dX12_lookAt_17 : decode cX12_lookAt 17 = .ok (.aload_n 0, 1) := by decide +kernel
theorem dX12_lookAt_18 : decode cX12_lookAt 18 = .ok (.getfield 33, 3) := by decide +kernel
theorem dX12_lookAt_21 : decode cX12_lookAt 21 = .ok (.iload_n 3, 1) := by decide +kernel
theorem dX12_lookAt_22 : decode cX12_lookAt 22 = .ok (.baload, 1) := by decide +kernel
theorem dX12_lookAt_23 : decode cX12_lookAt 23 = .ok (.ifCond .eq 22, 3) := by decide +kernel
theorem dX12_lookAt_26 : decode cX12_lookAt 26 = .ok (.aload_n 0, 1) := by decide +kernel
theorem dX12_lookAt_27 : decode cX12_lookAt 27 = .ok (.getfield 37, 3) := by decide +kernel
theorem dX12_lookAt_30 : decode cX12_lookAt 30 = .ok (.iload_n 3, 1) := by decide +kernel
theorem dX12_lookAt_31 : decode cX12_lookAt 31 = .ok (.iaload, 1) := by decide +kernel
theorem dX12_lookAt_32 : decode cX12_lookAt 32 = .ok (.iload_n 2, 1) := by decide +kernel
theorem dX12_lookAt_33 : decode cX12_lookAt 33 = .ok (.if_icmp .le 12, 3) := by decide +kernel
theorem dX12_lookAt_36 : decode cX12_lookAt 36 = .ok (.aload_n 0, 1) := by decide +kernel
theorem dX12_lookAt_37 : decode cX12_lookAt 37 = .ok (.getfield 37, 3) := by decide +kernel
theorem dX12_lookAt_40 : decode cX12_lookAt 40 = .ok (.iload_n 3, 1) := by decide +kernel
theorem dX12_lookAt_41 : decode cX12_lookAt 41 = .ok (.iaload, 1) := by decide +kernel
theorem dX12_lookAt_42 : decode cX12_lookAt 42 = .ok (.goto 4, 3) := by decide +kernel
theorem dX12_lookAt_45 : decode cX12_lookAt 45 = .ok (.iload_n 2, 1) := by decide +kernel
theorem dX12_lookAt_46 : decode cX12_lookAt 46 = .ok (.istore_n 2, 1) := by decide +kernel
theorem dX12_lookAt_47 : decode cX12_lookAt 47 = .ok (.iinc 3 1, 3) := by decide +kernel
theorem dX12_lookAt_50 : decode cX12_lookAt 50 = .ok (.goto (-41), 3) := by decide +kernel
theorem dX12_lookAt_53 : decode cX12_lookAt 53 = .ok (.iconst 0, 1) := by decide +kernel
theorem dX12_lookAt_54 : decode cX12_lookAt 54 = .ok (.istore_n 3, 1) := by decide +kernel
theorem dX12_lookAt_55 : decode cX12_lookAt 55 = .ok (.iconst 0, 1) := by decide +kernel
theorem dX12_lookAt_56 : decode cX12_lookAt 56 = .ok (.istore 4, 2) := by decide +kernel
theorem dX12_lookAt_58 : decode cX12_lookAt 58 = .ok (.iload 4, 2) := by decide +kernel
theorem dX12_lookAt_60 : decode cX12_lookAt 60 = .ok (.bipush 16, 2) := by decide +kernel
theorem dX12_lookAt_62 : decode cX12_lookAt 62 = .ok (.if_icmp .ge 28, 3) := by decide +kernel
theorem dX12_lookAt_65 : decode cX12_lookAt 65 = .ok (.iload_n 3, 1) := by decide +kernel
theorem dX12_lookAt_66 : decode cX12_lookAt 66 = .ok (.aload_n 0, 1) := by decide +kernel
theorem dX12_lookAt_67 : decode cX12_lookAt 67 = .ok (.getfield 157, 3) := by decide +kernel
theorem dX12_lookAt_70 : decode cX12_lookAt 70 = .ok (.iload 4, 2) := by decide +kernel
theorem dX12_lookAt_72 : decode cX12_lookAt 72 = .ok (.iaload, 1) := by decide +kernel
theorem dX12_lookAt_73 : decode cX12_lookAt 73 = .ok (.iconst 2, 1) := by decide +kernel
theorem dX12_lookAt_74 : decode cX12_lookAt 74 = .ok (.if_icmp .ne 7, 3) := by decide +kernel
theorem dX12_lookAt_77 : decode cX12_lookAt 77 = .ok (.iconst 1, 1) := by decide +kernel
theorem dX12_lookAt_78 : decode cX12_lookAt 78 = .ok (.goto 4, 3) := by decide +kernel
theorem dX12_lookAt_81 : decode cX12_lookAt 81 = .ok (.iconst 0, 1) := by decide +kernel
theorem dX12_lookAt_82 : decode cX12_lookAt 82 = .ok (.iadd, 1) := by decide +kernel
theorem dX12_lookAt_83 : decode cX12_lookAt 83 = .ok (.istore_n 3, 1) := by decide +kernel
theorem dX12_lookAt_84 : decode cX12_lookAt 84 = .ok (.iinc 4 1, 3) := by decide +kernel
theorem dX12_lookAt_87 : decode cX12_lookAt 87 = .ok (.goto (-29), 3) := by decide +kernel
theorem dX12_lookAt_90 : decode cX12_lookAt 90 = .ok (.iload_n 1, 1) := by decide +kernel
theorem dX12_lookAt_91 : decode cX12_lookAt 91 = .ok (.tableswitch 97 0 9 #[53, 58, 63, 68, 73, 78, 83, 85, 87, 92], 53) := by decide +kernel
theorem dX12_lookAt_144 : decode cX12_lookAt 144 = .ok (.aload_n 0, 1) := by decide +kernel
theorem dX12_lookAt_145 : decode cX12_lookAt 145 = .ok (.getfield 184, 3) := by decide +kernel
theorem dX12_lookAt_148 : decode cX12_lookAt 148 = .ok (.ireturn, 1) := by decide +kernel
theorem dX12_lookAt_149 : decode cX12_lookAt 149 = .ok (.aload_n 0, 1) := by decide +kernel
theorem dX12_lookAt_150 : decode cX12_lookAt 150 = .ok (.getfield 190, 3) := by decide +kernel
theorem dX12_lookAt_153 : decode cX12_lookAt 153 = .ok (.ireturn, 1) := by decide +kernel
theorem dX12_lookAt_154 : decode cX12_lookAt 154 = .ok (.aload_n 0, 1) := by decide +kernel
theorem dX12_lookAt_155 : decode cX12_lookAt 155 = .ok (.getfield 193, 3) := by decide +kernel
theorem dX12_lookAt_158 : decode cX12_lookAt 158 = .ok (.ireturn, 1) := by decide +kernel
theorem dX12_lookAt_159 : decode cX12_lookAt 159 = .ok (.aload_n 0, 1) := by decide +kernel
theorem dX12_lookAt_160 : decode cX12_lookAt 160 = .ok (.getfield 290, 3) := by decide +kernel
theorem dX12_lookAt_163 : decode cX12_lookAt 163 = .ok (.ireturn, 1) := by decide +kernel
theorem dX12_lookAt_164 : decode cX12_lookAt 164 = .ok (.aload_n 0, 1) := by decide +kernel
theorem dX12_lookAt_165 : decode cX12_lookAt 165 = .ok (.getfield 287, 3) := by decide +kernel
theorem dX12_lookAt_168 : decode cX12_lookAt 168 = .ok (.ireturn, 1) := by decide +kernel
theorem dX12_lookAt_169 : decode cX12_lookAt 169 = .ok (.aload_n 0, 1) := by decide +kernel
theorem dX12_lookAt_170 : decode cX12_lookAt 170 = .ok (.getfield 293, 3) := by decide +kernel
theorem dX12_lookAt_173 : decode cX12_lookAt 173 = .ok (.ireturn, 1) := by decide +kernel
theorem dX12_lookAt_174 : decode cX12_lookAt 174 = .ok (.iload_n 2, 1) := by decide +kernel
theorem dX12_lookAt_175 : decode cX12_lookAt 175 = .ok (.ireturn, 1) := by decide +kernel
theorem dX12_lookAt_176 : decode cX12_lookAt 176 = .ok (.iload_n 3, 1) := by decide +kernel
theorem dX12_lookAt_177 : decode cX12_lookAt 177 = .ok (.ireturn, 1) := by decide +kernel
theorem dX12_lookAt_178 : decode cX12_lookAt 178 = .ok (.aload_n 0, 1) := by decide +kernel
theorem dX12_lookAt_179 : decode cX12_lookAt 179 = .ok (.getfield 187, 3) := by decide +kernel
theorem dX12_lookAt_182 : decode cX12_lookAt 182 = .ok (.ireturn, 1) := by decide +kernel
theorem dX12_lookAt_183 : decode cX12_lookAt 183 = .ok (.aload_n 0, 1) := by decide +kernel
theorem dX12_lookAt_184 : decode cX12_lookAt 184 = .ok (.getfield 385, 3) := by decide +kernel
theorem dX12_lookAt_187 : decode cX12_lookAt 187 = .ok (.ireturn, 1) := by decide +kernel
theorem dX12_lookAt_188 : decode cX12_lookAt 188 = .ok (.iconst (-1), 1) := by decide +kernel
theorem dX12_lookAt_189 : decode cX12_lookAt 189 = .ok (.ireturn, 1) := by decide +kernel
