theorem dX12_campaign_50 : decode cX12_campaign 50 = .ok (.aload_n 0, 1) := by decide +kernel
theorem dX12_campaign_51 : decode cX12_campaign 51 = .ok (.getfield 184, 3) := by decide +kernel
theorem dX12_campaign_54 : decode cX12_campaign 54 = .ok (.iadd, 1) := by decide +kernel
theorem dX12_campaign_55 : decode cX12_campaign 55 = .ok (.istore_n 3, 1) := by decide +kernel
theorem dX12_campaign_56 : decode cX12_campaign 56 = .ok (.goto (-12), 3) := by decide +kernel
theorem dX12_campaign_59 : decode cX12_campaign 59 = .ok (.aload_n 0, 1) := by decide +kernel
theorem dX12_campaign_60 : decode cX12_campaign 60 = .ok (.iload_n 1, 1) := by decide +kernel
theorem dX12_campaign_61 : decode cX12_campaign 61 = .ok (.iload_n 3, 1) := by decide +kernel
theorem dX12_campaign_62 : decode cX12_campaign 62 = .ok (.invokevirtual 307, 3) := by decide +kernel
theorem dX12_campaign_65 : decode cX12_campaign 65 = .ok (.ifCond .ne 4, 3) := by decide +kernel
theorem dX12_campaign_68 : decode cX12_campaign 68 = .ok (.return_, 1) := by decide +kernel
theorem dX12_campaign_69 : decode cX12_campaign 69 = .ok (.aload_n 0, 1) := by decide +kernel
theorem dX12_campaign_70 : decode cX12_campaign 70 = .ok (.getfield 46, 3) := by decide +kernel
theorem dX12_campaign_73 : decode cX12_campaign 73 = .ok (.iload_n 1, 1) := by decide +kernel
theorem dX12_campaign_74 : decode cX12_campaign 74 = .ok (.iload_n 3, 1) := by decide +kernel
theorem dX12_campaign_75 : decode cX12_campaign 75 = .ok (.iastore, 1) := by decide +kernel
theorem dX12_campaign_76 : decode cX12_campaign 76 = .ok (.aload_n 0, 1) := by decide +kernel
theorem dX12_campaign_77 : decode cX12_campaign 77 = .ok (.iload_n 1, 1) := by decide +kernel
theorem dX12_campaign_78 : decode cX12_campaign 78 = .ok (.invokevirtual 281, 3) := by decide +kernel
theorem dX12_campaign_81 : decode cX12_campaign 81 = .ok (.ifCond .ne 4, 3) := by decide +kernel
theorem dX12_campaign_84 : decode cX12_campaign 84 = .ok (.return_, 1) := by decide +kernel
theorem dX12_campaign_85 : decode cX12_campaign 85 = .ok (.aload_n 0, 1) := by decide +kernel
theorem dX12_campaign_86 : decode cX12_campaign 86 = .ok (.iload_n 1, 1) := by decide +kernel
theorem dX12_campaign_87 : decode cX12_campaign 87 = .ok (.invokevirtual 284, 3) := by decide +kernel
theorem dX12_campaign_90 : decode cX12_campaign 90 = .ok (.aload_n 0, 1) := by decide +kernel
theorem dX12_campaign_91 : decode cX12_campaign 91 = .ok (.getfield 73, 3) := by decide +kernel
theorem dX12_campaign_94 : decode cX12_campaign 94 = .ok (.iload_n 1, 1) := by decide +kernel
theorem dX12_campaign_95 : decode cX12_campaign 95 = .ok (.iconst 1, 1) := by decide +kernel
theorem dX12_campaign_96 : decode cX12_campaign 96 = .ok (.iastore, 1) := by decide +kernel
theorem dX12_campaign_97 : decode cX12_campaign 97 = .ok (.aload_n 0, 1) := by decide +kernel
theorem dX12_campaign_98 : decode cX12_campaign 98 = .ok (.getfield 76, 3) := by decide +kernel
theorem dX12_campaign_101 : decode cX12_campaign 101 = .ok (.iload_n 1, 1) := by decide +kernel
theorem dX12_campaign_102 : decode cX12_campaign 102 = .ok (.iload_n 3, 1) := by decide +kernel
theorem dX12_campaign_103 : decode cX12_campaign 103 = .ok (.iastore, 1) := by decide +kernel
theorem dX12_campaign_104 : decode cX12_campaign 104 = .ok (.aload_n 0, 1) := by decide +kernel
theorem dX12_campaign_105 : decode cX12_campaign 105 = .ok (.getfield 79, 3) := by decide +kernel
theorem dX12_campaign_108 : decode cX12_campaign 108 = .ok (.iload_n 1, 1) := by decide +kernel
theorem dX12_campaign_109 : decode cX12_campaign 109 = .ok (.iconst 1, 1) := by decide +kernel
theorem dX12_campaign_110 : decode cX12_campaign 110 = .ok (.iload_n 1, 1) := by decide +kernel
theorem dX12_campaign_111 : decode cX12_campaign 111 = .ok (.ishl, 1) := by decide +kernel
theorem dX12_campaign_112 : decode cX12_campaign 112 = .ok (.iastore, 1) := by decide +kernel
theorem dX12_campaign_113 : decode cX12_campaign 113 = .ok (.aload_n 0, 1) := by decide +kernel
theorem dX12_campaign_114 : decode cX12_campaign 114 = .ok (.getfield 85, 3) := by decide +kernel
theorem dX12_campaign_117 : decode cX12_campaign 117 = .ok (.iload_n 1, 1) := by decide +kernel
theorem dX12_campaign_118 : decode cX12_campaign 118 = .ok (.aload_n 0, 1) := by decide +kernel
theorem dX12_campaign_119 : decode cX12_campaign 119 = .ok (.getfield 52, 3) := by decide +kernel
theorem dX12_campaign_122 : decode cX12_campaign 122 = .ok (.iload_n 1, 1) := by decide +kernel
theorem dX12_campaign_123 : decode cX12_campaign 123 = .ok (.iaload, 1) := by decide +kernel
theorem dX12_campaign_124 : decode cX12_campaign 124 = .ok (.iastore, 1) := by decide +kernel
theorem dX12_campaign_125 : decode cX12_campaign 125 = .ok (.aload_n 0, 1) := by decide +kernel
theorem dX12_campaign_126 : decode cX12_campaign 126 = .ok (.getfield 88, 3) := by decide +kernel
theorem dX12_campaign_129 : decode cX12_campaign 129 = .ok (.iload_n 1, 1) := by decide +kernel
theorem dX12_campaign_130 : decode cX12_campaign 130 = .ok (.aload_n 0, 1) := by decide +kernel
theorem dX12_campaign_131 : decode cX12_campaign 131 = .ok (.getfield 49, 3) := by decide +kernel
theorem dX12_campaign_134 : decode cX12_campaign 134 = .ok (.iload_n 1, 1) := by decide +kernel
theorem dX12_campaign_135 : decode cX12_campaign 135 = .ok (.iaload, 1) := by decide +kernel
theorem dX12_campaign_136 : decode cX12_campaign 136 = .ok (.iastore, 1) := by decide +kernel
theorem dX12_campaign_137 : decode cX12_campaign 137 = .ok (.aload_n 0, 1) := by decide +kernel
theorem dX12_campaign_138 : decode cX12_campaign 138 = .ok (.getfield 55, 3) := by decide +kernel
theorem dX12_campaign_141 : decode cX12_campaign 141 = .ok (.iload_n 1, 1) := by decide +kernel
theorem dX12_campaign_142 : decode cX12_campaign 142 = .ok (.iconst 0, 1) := by decide +kernel
theorem dX12_campaign_143 : decode cX12_campaign 143 = .ok (.iastore, 1) := by decide +kernel
theorem dX12_campaign_144 : decode cX12_campaign 144 = .ok (.aload_n 0, 1) := by decide +kernel
theorem dX12_campaign_145 : decode cX12_campaign 145 = .ok (.iconst 1, 1) := by decide +kernel
theorem dX12_campaign_146 : decode cX12_campaign 146 = .ok (.iload_n 1, 1) := by decide +kernel
theorem dX12_campaign_147 : decode cX12_campaign 147 = .ok (.iload_n 3, 1) := by decide +kernel
theorem dX12_campaign_148 : decode cX12_campaign 148 = .ok (.aload_n 0, 1) := by decide +kernel
theorem dX12_campaign_149 : decode cX12_campaign 149 = .ok (.getfield 37, 3) := by decide +kernel
theorem dX12_campaign_152 : decode cX12_campaign 152 = .ok (.iload_n 1, 1) := by decide +kernel
theorem dX12_campaign_153 : decode cX12_campaign 153 = .ok (.iaload, 1) := by decide +kernel
theorem dX12_campaign_154 : decode cX12_campaign 154 = .ok (.iconst 1, 1) := by decide +kernel
theorem dX12_campaign_155 : decode cX12_campaign 155 = .ok (.iadd, 1) := by decide +kernel
theorem dX12_campaign_156 : decode cX12_campaign 156 = .ok (.iconst 0, 1) := by decide +kernel
theorem dX12_campaign_157 : decode cX12_campaign 157 = .ok (.invokevirtual 311, 3) := by decide +kernel
theorem dX12_campaign_160 : decode cX12_campaign 160 = .ok (.return_, 1) := by decide +kernel
theorem dX12_accepts_0 : decode cX12_accepts 0 = .ok (.aload_n 0, 1) := by decide +kernel
theorem dX12_accepts_1 : decode cX12_accepts 1 = .ok (.iconst 0, 1) := by decide +kernel
theorem dX12_accepts_2 : decode cX12_accepts 2 = .ok (.putfield 218, 3) := by decide +kernel
theorem dX12_accepts_5 : decode cX12_accepts 5 = .ok (.aload_n 0, 1) := by decide +kernel
theorem dX12_accepts_6 : decode cX12_accepts 6 = .ok (.iload_n 2, 1) := by decide +kernel
theorem dX12_accepts_7 : decode cX12_accepts 7 = .ok (.aload_n 0, 1) := by decide +kernel
theorem dX12_accepts_8 : decode cX12_accepts 8 = .ok (.getfield 37, 3) := by decide +kernel
theorem dX12_accepts_11 : decode cX12_accepts 11 = .ok (.iload_n 1, 1) := by decide +kernel
theorem dX12_accepts_12 : decode cX12_accepts 12 = .ok (.iaload, 1) := by decide +kernel
theorem dX12_accepts_13 : decode cX12_accepts 13 = .ok (.iconst 1, 1) := by decide +kernel
theorem dX12_accepts_14 : decode cX12_accepts 14 = .ok (.iadd, 1) := by decide +kernel
theorem dX12_accepts_15 : decode cX12_accepts 15 = .ok (.iload_n 3, 1) := by decide +kernel
theorem dX12_accepts_16 : decode cX12_accepts 16 = .ok (.invokevirtual 268, 3) := by decide +kernel
theorem dX12_accepts_19 : decode cX12_accepts 19 = .ok (.aload_n 0, 1) := by decide +kernel
theorem dX12_accepts_20 : decode cX12_accepts 20 = .ok (.iload_n 1, 1) := by decide +kernel
theorem dX12_accepts_21 : decode cX12_accepts 21 = .ok (.iconst 2, 1) := by decide +kernel
theorem dX12_accepts_22 : decode cX12_accepts 22 = .ok (.iload_n 2, 1) := by decide +kernel
theorem dX12_accepts_23 : decode cX12_accepts 23 = .ok (.aload_n 0, 1) := by decide +kernel
theorem dX12_accepts_24 : decode cX12_accepts 24 = .ok (.getfield 37, 3) := by decide +kernel
theorem dX12_accepts_27 : decode cX12_accepts 27 = .ok (.iload_n 1, 1) := by decide +kernel
theorem dX12_accepts_28 : decode cX12_accepts 28 = .ok (.iaload, 1) := by decide +kernel
theorem dX12_accepts_29 : decode cX12_accepts 29 = .ok (.iconst 1, 1) := by decide +kernel
theorem dX12_accepts_30 : decode cX12_accepts 30 = .ok (.iadd, 1) := by decide +kernel
theorem dX12_accepts_31 : decode cX12_accepts 31 = .ok (.iload_n 3, 1) := by decide +kernel
theorem dX12_accepts_32 : decode cX12_accepts 32 = .ok (.invokevirtual 253, 3) := by decide +kernel
theorem dX12_accepts_35 : decode cX12_accepts 35 = .ok (.ifCond .ne 5, 3) := by decide +kernel
theorem dX12_accepts_38 : decode cX12_accepts 38 = .ok (.iconst 0, 1) := by decide +kernel
theorem dX12_accepts_39 : decode cX12_accepts 39 = .ok (.ireturn, 1) := by decide +kernel
theorem dX12_accepts_40 : decode cX12_accepts 40 = .ok (.aload_n 0, 1) := by decide +kernel
theorem dX12_accepts_41 : decode cX12_accepts 41 = .ok (.getfield 46, 3) := by decide +kernel
theorem dX12_accepts_44 : decode cX12_accepts 44 = .ok (.iload_n 1, 1) := by decide +kernel
theorem dX12_accepts_45 : decode cX12_accepts 45 = .ok (.iload_n 2, 1) := by decide +kernel
theorem dX12_accepts_46 : decode cX12_accepts 46 = .ok (.iastore, 1) := by decide +kernel
theorem dX12_accepts_47 : decode cX12_accepts 47 = .ok (.aload_n 0, 1) := by decide +kernel
theorem dX12_accepts_48 : decode cX12_accepts 48 = .ok (.iload_n 1, 1) := by decide +kernel
theorem dX12_accepts_49 : decode cX12_accepts 49 = .ok (.iload_n 2, 1) := by decide +kernel
theorem dX12_accepts_50 : decode cX12_accepts 50 = .ok (.iload_n 3, 1) := by decide +kernel
theorem dX12_accepts_51 : decode cX12_accepts 51 = .ok (.invokevirtual 272, 3) := by decide +kernel
theorem dX12_accepts_54 : decode cX12_accepts 54 = .ok (.aload_n 0, 1) := by decide +kernel
theorem dX12_accepts_55 : decode cX12_accepts 55 = .ok (.iload_n 1, 1) := by decide +kernel
theorem dX12_accepts_56 : decode cX12_accepts 56 = .ok (.invokevirtual 281, 3) := by decide +kernel
theorem dX12_accepts_59 : decode cX12_accepts 59 = .ok (.ireturn, 1) := by decide +kernel
theorem dX12_proposeIt_0 : decode cX12_proposeIt 0 = .ok (.aload_n 0, 1) := by decide +kernel
theorem dX12_proposeIt_1 : decode cX12_proposeIt 1 = .ok (.iload_n 1, 1) := by decide +kernel
theorem dX12_proposeIt_2 : decode cX12_proposeIt 2 = .ok (.aload_n 0, 1) := by decide +kernel
theorem dX12_proposeIt_3 : decode cX12_proposeIt 3 = .ok (.getfield 76, 3) := by decide +kernel
theorem dX12_proposeIt_6 : decode cX12_proposeIt 6 = .ok (.iload_n 1, 1) := by decide +kernel
theorem dX12_proposeIt_7 : decode cX12_proposeIt 7 = .ok (.iaload, 1) := by decide +kernel
theorem dX12_proposeIt_8 : decode cX12_proposeIt 8 = .ok (.iload_n 2, 1) := by decide +kernel
theorem dX12_proposeIt_9 : decode cX12_proposeIt 9 = .ok (.invokevirtual 314, 3) := by decide +kernel
theorem dX12_proposeIt_12 : decode cX12_proposeIt 12 = .ok (.ifCond .ne 4, 3) := by decide +kernel
theorem dX12_proposeIt_15 : decode cX12_proposeIt 15 = .ok (.return_, 1) := by decide +kernel
theorem dX12_proposeIt_16 : decode cX12_proposeIt 16 = .ok (.aload_n 0, 1) := by decide +kernel
theorem dX12_proposeIt_17 : decode cX12_proposeIt 17 = .ok (.getfield 82, 3) := by decide +kernel
theorem dX12_proposeIt_20 : decode cX12_proposeIt 20 = .ok (.iload_n 1, 1) := by decide +kernel
theorem dX12_proposeIt_21 : decode cX12_proposeIt 21 = .ok (.iload_n 2, 1) := by decide +kernel
theorem dX12_proposeIt_22 : decode cX12_proposeIt 22 = .ok (.iastore, 1) := by decide +kernel
theorem dX12_proposeIt_23 : decode cX12_proposeIt 23 = .ok (.aload_n 0, 1) := by decide +kernel
theorem dX12_proposeIt_24 : decode cX12_proposeIt 24 = .ok (.getfield 79, 3) := by decide +kernel
theorem dX12_proposeIt_27 : decode cX12_proposeIt 27 = .ok (.iload_n 1, 1) := by decide +kernel
theorem dX12_proposeIt_28 : decode cX12_proposeIt 28 = .ok (.iconst 1, 1) := by decide +kernel
theorem dX12_proposeIt_29 : decode cX12_proposeIt 29 = .ok (.iload_n 1, 1) := by decide +kernel
theorem dX12_proposeIt_30 : decode cX12_proposeIt 30 = .ok (.ishl, 1) := by decide +kernel
theorem dX12_proposeIt_31 : decode cX12_proposeIt 31 = .ok (.iastore, 1) := by decide +kernel
theorem dX12_proposeIt_32 : decode cX12_proposeIt 32 = .ok (.aload_n 0, 1) := by decide +kernel
theorem dX12_proposeIt_33 : decode cX12_proposeIt 33 = .ok (.getfield 55, 3) := by decide +kernel
theorem dX12_proposeIt_36 : decode cX12_proposeIt 36 = .ok (.iload_n 1, 1) := by decide +kernel
theorem dX12_proposeIt_37 : decode cX12_proposeIt 37 = .ok (.iconst 0, 1) := by decide +kernel
theorem dX12_proposeIt_38 : decode cX12_proposeIt 38 = .ok (.iastore, 1) := by decide +kernel
theorem dX12_proposeIt_39 : decode cX12_proposeIt 39 = .ok (.aload_n 0, 1) := by decide +kernel
theorem dX12_proposeIt_40 : decode cX12_proposeIt 40 = .ok (.iconst 3, 1) := by decide +kernel
theorem dX12_proposeIt_41 : decode cX12_proposeIt 41 = .ok (.iload_n 1, 1) := by decide +kernel
theorem dX12_proposeIt_42 : decode cX12_proposeIt 42 = .ok (.aload_n 0, 1) := by decide +kernel
theorem dX12_proposeIt_43 : decode cX12_proposeIt 43 = .ok (.getfield 76, 3) := by decide +kernel
theorem dX12_proposeIt_46 : decode cX12_proposeIt 46 = .ok (.iload_n 1, 1) := by decide +kernel
theorem dX12_proposeIt_47 : decode cX12_proposeIt 47 = .ok (.iaload, 1) := by decide +kernel
theorem dX12_proposeIt_48 : decode cX12_proposeIt 48 = .ok (.aload_n 0, 1) := by decide +kernel
theorem dX12_proposeIt_49 : decode cX12_proposeIt 49 = .ok (.getfield 37, 3) := by decide +kernel
theorem dX12_proposeIt_52 : decode cX12_proposeIt 52 = .ok (.iload_n 1, 1) := by decide +kernel
theorem dX12_proposeIt_53 : decode cX12_proposeIt 53 = .ok (.iaload, 1) := by decide +kernel
theorem dX12_proposeIt_54 : decode cX12_proposeIt 54 = .ok (.iconst 1, 1) := by decide +kernel
theorem dX12_proposeIt_55 : decode cX12_proposeIt 55 = .ok (.iadd, 1) := by decide +kernel
theorem dX12_proposeIt_56 : decode cX12_proposeIt 56 = .ok (.iload_n 2, 1) := by decide +kernel
theorem dX12_proposeIt_57 : decode cX12_proposeIt 57 = .ok (.invokevirtual 311, 3) := by decide +kernel
theorem dX12_proposeIt_60 : decode cX12_proposeIt 60 = .ok (.return_, 1) := by decide +kernel
theorem dX12_dropFirst_0 : decode cX12_dropFirst 0 = .ok (.aload_n 0, 1) := by decide +kernel
theorem dX12_dropFirst_1 : decode cX12_dropFirst 1 = .ok (.getfield 97, 3) := by decide +kernel
theorem dX12_dropFirst_4 : decode cX12_dropFirst 4 = .ok (.iload_n 1, 1) := by decide +kernel
theorem dX12_dropFirst_5 : decode cX12_dropFirst 5 = .ok (.dup2, 1) := by decide +kernel
theorem dX12_dropFirst_6 : decode cX12_dropFirst 6 = .ok (.iaload, 1) := by decide +kernel
theorem dX12_dropFirst_7 : decode cX12_dropFirst 7 = .ok (.iconst 1, 1) := by decide +kernel
theorem dX12_dropFirst_8 : decode cX12_dropFirst 8 = .ok (.isub, 1) := by decide +kernel
theorem dX12_dropFirst_9 : decode cX12_dropFirst 9 = .ok (.iastore, 1) := by decide +kernel
theorem dX12_dropFirst_10 : decode cX12_dropFirst 10 = .ok (.iload_n 2, 1) := by decide +kernel
theorem dX12_dropFirst_11 : decode cX12_dropFirst 11 = .ok (.istore_n 3, 1) := by decide +kernel
theorem dX12_dropFirst_12 : decode cX12_dropFirst 12 = .ok (.iload_n 3, 1) := by decide +kernel
theorem dX12_dropFirst_13 : decode cX12_dropFirst 13 = .ok (.aload_n 0, 1) := by decide +kernel
theorem dX12_dropFirst_14 : decode cX12_dropFirst 14 = .ok (.getfield 97, 3) := by decide +kernel
theorem dX12_dropFirst_17 : decode cX12_dropFirst 17 = .ok (.iload_n 1, 1) := by decide +kernel
theorem dX12_dropFirst_18 : decode cX12_dropFirst 18 = .ok (.iaload, 1) := by decide +kernel
theorem dX12_dropFirst_19 : decode cX12_dropFirst 19 = .ok (.if_icmp .ge 33, 3) := by decide +kernel
theorem dX12_dropFirst_22 : decode cX12_dropFirst 22 = .ok (.aload_n 0, 1) := by decide +kernel
theorem dX12_dropFirst_23 : decode cX12_dropFirst 23 = .ok (.getfield 94, 3) := by decide +kernel
theorem dX12_dropFirst_26 : decode cX12_dropFirst 26 = .ok (.bipush 8, 2) := by decide +kernel
theorem dX12_dropFirst_28 : decode cX12_dropFirst 28 = .ok (.iload_n 1, 1) := by decide +kernel
theorem dX12_dropFirst_29 : decode cX12_dropFirst 29 = .ok (.imul, 1) := by decide +kernel
theorem dX12_dropFirst_30 : decode cX12_dropFirst 30 = .ok (.iload_n 3, 1) := by decide +kernel
theorem dX12_dropFirst_31 : decode cX12_dropFirst 31 = .ok (.iadd, 1) := by decide +kernel
theorem dX12_dropFirst_32 : decode cX12_dropFirst 32 = .ok (.aload_n 0, 1) := by decide +kernel
theorem dX12_dropFirst_33 : decode cX12_dropFirst 33 = .ok (.getfield 94, 3) := by decide +kernel
theorem dX12_dropFirst_36 : decode cX12_dropFirst 36 = .ok (.bipush 8, 2) := by decide +kernel
theorem dX12_dropFirst_38 : decode cX12_dropFirst 38 = .ok (.iload_n 1, 1) := by decide +kernel
theorem dX12_dropFirst_39 : decode cX12_dropFirst 39 = .ok (.imul, 1) := by decide +kernel
theorem dX12_dropFirst_40 : decode cX12_dropFirst 40 = .ok (.iload_n 3, 1) := by decide +kernel
theorem dX12_dropFirst_41 : decode cX12_dropFirst 41 = .ok (.iadd, 1) := by decide +kernel
theorem dX12_dropFirst_42 : decode cX12_dropFirst 42 = .ok (.iconst 1, 1) := by decide +kernel
theorem dX12_dropFirst_43 : decode cX12_dropFirst 43 = .ok (.iadd, 1) := by decide +kernel
theorem dX12_dropFirst_44 : decode cX12_dropFirst 44 = .ok (.iaload, 1) := by decide +kernel
theorem dX12_dropFirst_45 : decode cX12_dropFirst 45 = .ok (.iastore, 1) := by decide +kernel
theorem dX12_dropFirst_46 : decode cX12_dropFirst 46 = .ok (.iinc 3 1, 3) := by decide +kernel
theorem dX12_dropFirst_49 : decode cX12_dropFirst 49 = .ok (.goto (-37), 3) := by decide +kernel
theorem dX12_dropFirst_52 : decode cX12_dropFirst 52 = .ok (.return_, 1) := by decide +kernel
theorem dX12_isKnown_0 : decode cX12_isKnown 0 = .ok (.aload_n 0, 1) := by decide +kernel
theorem dX12_isKnown_1 : decode cX12_isKnown 1 = .ok (.getfield 17, 3) := by decide +kernel
theorem dX12_isKnown_4 : decode cX12_isKnown 4 = .ok (.iload_n 2, 1) := by decide +kernel
theorem dX12_isKnown_5 : decode cX12_isKnown 5 = .ok (.iaload, 1) := by decide +kernel
theorem dX12_isKnown_6 : decode cX12_isKnown 6 = .ok (.aload_n 0, 1) := by decide +kernel
theorem dX12_isKnown_7 : decode cX12_isKnown 7 = .ok (.getfield 67, 3) := by decide +kernel
theorem dX12_isKnown_10 : decode cX12_isKnown 10 = .ok (.bipush 16, 2) := by decide +kernel
theorem dX12_isKnown_12 : decode cX12_isKnown 12 = .ok (.iload_n 1, 1) := by decide +kernel
theorem dX12_isKnown_13 : decode cX12_isKnown 13 = .ok (.imul, 1) := by decide +kernel
theorem dX12_isKnown_14 : decode cX12_isKnown 14 = .ok (.aload_n 0, 1) := by decide +kernel
theorem dX12_isKnown_15 : decode cX12_isKnown 15 = .ok (.getfield 13, 3) := by decide +kernel
theorem dX12_isKnown_18 : decode cX12_isKnown 18 = .ok (.iload_n 2, 1) := by decide +kernel
theorem dX12_isKnown_19 : decode cX12_isKnown 19 = .ok (.iaload, 1) := by decide +kernel
theorem dX12_isKnown_20 : decode cX12_isKnown 20 = .ok (.iadd, 1) := by decide +kernel
theorem dX12_isKnown_21 : decode cX12_isKnown 21 = .ok (.iaload, 1) := by decide +kernel
theorem dX12_isKnown_22 : decode cX12_isKnown 22 = .ok (.if_icmp .gt 7, 3) := by decide +kernel
theorem dX12_isKnown_25 : decode cX12_isKnown 25 = .ok (.iconst 1, 1) := by decide +kernel
theorem dX12_isKnown_26 : decode cX12_isKnown 26 = .ok (.goto 4, 3) := by decide +kernel
theorem dX12_isKnown_29 : decode cX12_isKnown 29 = .ok (.iconst 0, 1) := by decide +kernel
theorem dX12_isKnown_30 : decode cX12_isKnown 30 = .ok (.ireturn, 1) := by decide +kernel
theorem dX12_propose_0 : decode cX12_propose 0 = .ok (.iconst 0, 1) := by decide +kernel
theorem dX12_propose_1 : decode cX12_propose 1 = .ok (.istore_n 2, 1) := by decide +kernel
theorem dX12_propose_2 : decode cX12_propose 2 = .ok (.iload_n 2, 1) := by decide +kernel
theorem dX12_propose_3 : decode cX12_propose 3 = .ok (.aload_n 0, 1) := by decide +kernel
theorem dX12_propose_4 : decode cX12_propose 4 = .ok (.getfield 97, 3) := by decide +kernel
theorem dX12_propose_7 : decode cX12_propose 7 = .ok (.iload_n 1, 1) := by decide +kernel
theorem dX12_propose_8 : decode cX12_propose 8 = .ok (.iaload, 1) := by decide +kernel
theorem dX12_propose_9 : decode cX12_propose 9 = .ok (.if_icmp .ge 28, 3) := by decide +kernel
theorem dX12_propose_12 : decode cX12_propose 12 = .ok (.aload_n 0, 1) := by decide +kernel
theorem dX12_propose_13 : decode cX12_propose 13 = .ok (.iload_n 1, 1) := by decide +kernel
theorem dX12_propose_14 : decode cX12_propose 14 = .ok (.aload_n 0, 1) := by decide +kernel
theorem dX12_propose_15 : decode cX12_propose 15 = .ok (.getfield 94, 3) := by decide +kernel
theorem dX12_propose_18 : decode cX12_propose 18 = .ok (.bipush 8, 2) := by decide +kernel
theorem dX12_propose_20 : decode cX12_propose 20 = .ok (.iload_n 1, 1) := by decide +kernel
theorem dX12_propose_21 : decode cX12_propose 21 = .ok (.imul, 1) := by decide +kernel
theorem dX12_propose_22 : decode cX12_propose 22 = .ok (.iload_n 2, 1) := by decide +kernel
theorem dX12_propose_23 : decode cX12_propose 23 = .ok (.iadd, 1) := by decide +kernel
theorem dX12_propose_24 : decode cX12_propose 24 = .ok (.iaload, 1) := by decide +kernel
theorem dX12_propose_25 : decode cX12_propose 25 = .ok (.invokevirtual 317, 3) := by decide +kernel
theorem dX12_propose_28 : decode cX12_propose 28 = .ok (.ifCond .eq 9, 3) := by decide +kernel
theorem dX12_propose_31 : decode cX12_propose 31 = .ok (.iinc 2 1, 3) := by decide +kernel
theorem dX12_propose_34 : decode cX12_propose 34 = .ok (.goto (-32), 3) := by decide +kernel
theorem dX12_propose_37 : decode cX12_propose 37 = .ok (.iload_n 2, 1) := by decide +kernel
theorem dX12_propose_38 : decode cX12_propose 38 = .ok (.aload_n 0, 1) := by decide +kernel
theorem dX12_propose_39 : decode cX12_propose 39 = .ok (.getfield 97, 3) := by decide +kernel
theorem dX12_propose_42 : decode cX12_propose 42 = .ok (.iload_n 1, 1) := by decide +kernel
theorem dX12_propose_43 : decode cX12_propose 43 = .ok (.iaload, 1) := by decide +kernel
theorem dX12_propose_44 : decode cX12_propose 44 = .ok (.if_icmp .ne 5, 3) := by decide +kernel
theorem dX12_propose_47 : decode cX12_propose 47 = .ok (.iconst 0, 1) := by decide +kernel
theorem dX12_propose_48 : decode cX12_propose 48 = .ok (.ireturn, 1) := by decide +kernel
theorem dX12_propose_49 : decode cX12_propose 49 = .ok (.iconst 0, 1) := by decide +kernel
theorem dX12_propose_50 : decode cX12_propose 50 = .ok (.istore_n 3, 1) := by decide +kernel
theorem dX12_propose_51 : decode cX12_propose 51 = .ok (.iload_n 3, 1) := by decide +kernel
theorem dX12_propose_52 : decode cX12_propose 52 = .ok (.iload_n 2, 1) := by decide +kernel
theorem dX12_propose_53 : decode cX12_propose 53 = .ok (.if_icmp .ge 15, 3) := by decide +kernel
theorem dX12_propose_56 : decode cX12_propose 56 = .ok (.aload_n 0, 1) := by decide +kernel
theorem dX12_propose_57 : decode cX12_propose 57 = .ok (.iload_n 1, 1) := by decide +kernel
theorem dX12_propose_58 : decode cX12_propose 58 = .ok (.iconst 0, 1) := by decide +kernel
theorem dX12_propose_59 : decode cX12_propose 59 = .ok (.invokevirtual 320, 3) := by decide +kernel
theorem dX12_propose_62 : decode cX12_propose 62 = .ok (.iinc 3 1, 3) := by decide +kernel
theorem dX12_propose_65 : decode cX12_propose 65 = .ok (.goto (-14), 3) := by decide +kernel
theorem dX12_propose_68 : decode cX12_propose 68 = .ok (.aload_n 0, 1) := by decide +kernel
theorem dX12_propose_69 : decode cX12_propose 69 = .ok (.iload_n 1, 1) := by decide +kernel
theorem dX12_propose_70 : decode cX12_propose 70 = .ok (.aload_n 0, 1) := by decide +kernel
theorem dX12_propose_71 : decode cX12_propose 71 = .ok (.getfield 94, 3) := by decide +kernel
theorem dX12_propose_74 : decode cX12_propose 74 = .ok (.bipush 8, 2) := by decide +kernel
theorem dX12_propose_76 : decode cX12_propose 76 = .ok (.iload_n 1, 1) := by decide +kernel
theorem dX12_propose_77 : decode cX12_propose 77 = .ok (.imul, 1) := by decide +kernel
theorem dX12_propose_78 : decode cX12_propose 78 = .ok (.iaload, 1) := by decide +kernel
theorem dX12_propose_79 : decode cX12_propose 79 = .ok (.invokevirtual 323, 3) := by decide +kernel
theorem dX12_propose_82 : decode cX12_propose 82 = .ok (.iconst 1, 1) := by decide +kernel
theorem dX12_propose_83 : decode cX12_propose 83 = .ok (.ireturn, 1) := by decide +kernel
theorem dX12_tell_0 : decode cX12_tell 0 = .ok (.aload_n 0, 1) := by decide +kernel
theorem dX12_tell_1 : decode cX12_tell 1 = .ok (.getfield 148, 3) := by decide +kernel
theorem dX12_tell_4 : decode cX12_tell 4 = .ok (.iload_n 1, 1) := by decide +kernel
theorem dX12_tell_5 : decode cX12_tell 5 = .ok (.iaload, 1) := by decide +kernel
theorem dX12_tell_6 : decode cX12_tell 6 = .ok (.aload_n 0, 1) := by decide +kernel
theorem dX12_tell_7 : decode cX12_tell 7 = .ok (.getfield 37, 3) := by decide +kernel
theorem dX12_tell_10 : decode cX12_tell 10 = .ok (.iload_n 1, 1) := by decide +kernel
theorem dX12_tell_11 : decode cX12_tell 11 = .ok (.iaload, 1) := by decide +kernel
theorem dX12_tell_12 : decode cX12_tell 12 = .ok (.if_icmp .gt 17, 3) := by decide +kernel
theorem dX12_tell_15 : decode cX12_tell 15 = .ok (.aload_n 0, 1) := by decide +kernel
theorem dX12_tell_16 : decode cX12_tell 16 = .ok (.getfield 148, 3) := by decide +kernel
theorem dX12_tell_19 : decode cX12_tell 19 = .ok (.iload_n 1, 1) := by decide +kernel
theorem dX12_tell_20 : decode cX12_tell 20 = .ok (.iconst 0, 1) := by decide +kernel
theorem dX12_tell_21 : decode cX12_tell 21 = .ok (.iastore, 1) := by decide +kernel
theorem dX12_tell_22 : decode cX12_tell 22 = .ok (.aload_n 0, 1) := by decide +kernel
theorem dX12_tell_23 : decode cX12_tell 23 = .ok (.getfield 151, 3) := by decide +kernel
theorem dX12_tell_26 : decode cX12_tell 26 = .ok (.iload_n 1, 1) := by decide +kernel
theorem dX12_tell_27 : decode cX12_tell 27 = .ok (.iconst 0, 1) := by decide +kernel
theorem dX12_tell_28 : decode cX12_tell 28 = .ok (.iastore, 1) := by decide +kernel
theorem dX12_tell_29 : decode cX12_tell 29 = .ok (.iconst 0, 1) := by decide +kernel
theorem dX12_tell_30 : decode cX12_tell 30 = .ok (.istore_n 2, 1) := by decide +kernel
theorem dX12_tell_31 : decode cX12_tell 31 = .ok (.iload_n 2, 1) := by decide +kernel
theorem dX12_tell_32 : decode cX12_tell 32 = .ok (.bipush 16, 2) := by decide +kernel
theorem dX12_tell_34 : decode cX12_tell 34 = .ok (.if_icmp .ge 68, 3) := by decide +kernel
theorem dX12_tell_37 : decode cX12_tell 37 = .ok (.aload_n 0, 1) := by decide +kernel
theorem dX12_tell_38 : decode cX12_tell 38 = .ok (.getfield 157, 3) := by decide +kernel
theorem dX12_tell_41 : decode cX12_tell 41 = .ok (.iload_n 2, 1) := by decide +kernel
theorem dX12_tell_42 : decode cX12_tell 42 = .ok (.iaload, 1) := by decide +kernel
theorem dX12_tell_43 : decode cX12_tell 43 = .ok (.iconst 2, 1) := by decide +kernel
theorem dX12_tell_44 : decode cX12_tell 44 = .ok (.if_icmp .ne 52, 3) := by decide +kernel
theorem dX12_tell_47 : decode cX12_tell 47 = .ok (.aload_n 0, 1) := by decide +kernel
theorem dX12_tell_48 : decode cX12_tell 48 = .ok (.getfield 163, 3) := by decide +kernel
theorem dX12_tell_51 : decode cX12_tell 51 = .ok (.iload_n 2, 1) := by decide +kernel
theorem dX12_tell_52 : decode cX12_tell 52 = .ok (.iaload, 1) := by decide +kernel
theorem dX12_tell_53 : decode cX12_tell 53 = .ok (.iload_n 1, 1) := by decide +kernel
theorem dX12_tell_54 : decode cX12_tell 54 = .ok (.if_icmp .ne 42, 3) := by decide +kernel
theorem dX12_tell_57 : decode cX12_tell 57 = .ok (.aload_n 0, 1) := by decide +kernel
theorem dX12_tell_58 : decode cX12_tell 58 = .ok (.getfield 67, 3) := by decide +kernel
theorem dX12_tell_61 : decode cX12_tell 61 = .ok (.bipush 16, 2) := by decide +kernel
theorem dX12_tell_63 : decode cX12_tell 63 = .ok (.iload_n 1, 1) := by decide +kernel
theorem dX12_tell_64 : decode cX12_tell 64 = .ok (.imul, 1) := by decide +kernel
theorem dX12_tell_65 : decode cX12_tell 65 = .ok (.iload_n 2, 1) := by decide +kernel
theorem dX12_tell_66 : decode cX12_tell 66 = .ok (.iadd, 1) := by decide +kernel
theorem dX12_tell_67 : decode cX12_tell 67 = .ok (.iaload, 1) := by decide +kernel
theorem dX12_tell_68 : decode cX12_tell 68 = .ok (.aload_n 0, 1) := by decide +kernel
theorem dX12_tell_69 : decode cX12_tell 69 = .ok (.getfield 160, 3) := by decide +kernel
theorem dX12_tell_72 : decode cX12_tell 72 = .ok (.iload_n 2, 1) := by decide +kernel
theorem dX12_tell_73 : decode cX12_tell 73 = .ok (.iaload, 1) := by decide +kernel
theorem dX12_tell_74 : decode cX12_tell 74 = .ok (.if_icmp .ne 22, 3) := by decide +kernel
theorem dX12_tell_77 : decode cX12_tell 77 = .ok (.aload_n 0, 1) := by decide +kernel
theorem dX12_tell_78 : decode cX12_tell 78 = .ok (.getfield 157, 3) := by decide +kernel
theorem dX12_tell_81 : decode cX12_tell 81 = .ok (.iload_n 2, 1) := by decide +kernel
theorem dX12_tell_82 : decode cX12_tell 82 = .ok (.iconst 2, 1) := by decide +kernel
theorem dX12_tell_83 : decode cX12_tell 83 = .ok (.aload_n 0, 1) := by decide +kernel
theorem dX12_tell_84 : decode cX12_tell 84 = .ok (.getfield 70, 3) := by decide +kernel
theorem dX12_tell_87 : decode cX12_tell 87 = .ok (.bipush 16, 2) := by decide +kernel
theorem dX12_tell_89 : decode cX12_tell 89 = .ok (.iload_n 1, 1) := by decide +kernel
theorem dX12_tell_90 : decode cX12_tell 90 = .ok (.imul, 1) := by decide +kernel
theorem dX12_tell_91 : decode cX12_tell 91 = .ok (.iload_n 2, 1) := by decide +kernel
theorem dX12_tell_92 : decode cX12_tell 92 = .ok (.iadd, 1) := by decide +kernel
theorem dX12_tell_93 : decode cX12_tell 93 = .ok (.iaload, 1) := by decide +kernel
theorem dX12_tell_94 : decode cX12_tell 94 = .ok (.iadd, 1) := by decide +kernel
theorem dX12_tell_95 : decode cX12_tell 95 = .ok (.iastore, 1) := by decide +kernel
theorem dX12_tell_96 : decode cX12_tell 96 = .ok (.iinc 2 1, 3) := by decide +kernel
theorem dX12_tell_99 : decode cX12_tell 99 = .ok (.goto (-68), 3) := by decide +kernel
theorem dX12_tell_102 : decode cX12_tell 102 = .ok (.aload_n 0, 1) := by decide +kernel
theorem dX12_tell_103 : decode cX12_tell 103 = .ok (.getfield 97, 3) := by decide +kernel
theorem dX12_tell_106 : decode cX12_tell 106 = .ok (.iload_n 1, 1) := by decide +kernel
theorem dX12_tell_107 : decode cX12_tell 107 = .ok (.iaload, 1) := by decide +kernel
theorem dX12_tell_108 : decode cX12_tell 108 = .ok (.iconst 1, 1) := by decide +kernel
theorem dX12_tell_109 : decode cX12_tell 109 = .ok (.isub, 1) := by decide +kernel
theorem dX12_tell_110 : decode cX12_tell 110 = .ok (.istore_n 2, 1) := by decide +kernel
theorem dX12_tell_111 : decode cX12_tell 111 = .ok (.iload_n 2, 1) := by decide +kernel
theorem dX12_tell_112 : decode cX12_tell 112 = .ok (.ifCond .lt 34, 3) := by decide +kernel
theorem dX12_tell_115 : decode cX12_tell 115 = .ok (.aload_n 0, 1) := by decide +kernel
theorem dX12_tell_116 : decode cX12_tell 116 = .ok (.iload_n 1, 1) := by decide +kernel
theorem dX12_tell_117 : decode cX12_tell 117 = .ok (.aload_n 0, 1) := by decide +kernel
theorem dX12_tell_118 : decode cX12_tell 118 = .ok (.getfield 94, 3) := by decide +kernel
theorem dX12_tell_121 : decode cX12_tell 121 = .ok (.bipush 8, 2) := by decide +kernel
theorem dX12_tell_123 : decode cX12_tell 123 = .ok (.iload_n 1, 1) := by decide +kernel
theorem dX12_tell_124 : decode cX12_tell 124 = .ok (.imul, 1) := by decide +kernel
theorem dX12_tell_125 : decode cX12_tell 125 = .ok (.iload_n 2, 1) := by decide +kernel
theorem dX12_tell_126 : decode cX12_tell 126 = .ok (.iadd, 1) := by decide +kernel
theorem dX12_tell_127 : decode cX12_tell 127 = .ok (.iaload, 1) := by decide +kernel
theorem dX12_tell_128 : decode cX12_tell 128 = .ok (.invokevirtual 317, 3) := by decide +kernel
theorem dX12_tell_131 : decode cX12_tell 131 = .ok (.ifCond .eq 9, 3) := by decide +kernel
theorem dX12_tell_134 : decode cX12_tell 134 = .ok (.aload_n 0, 1) := by decide +kernel
theorem dX12_tell_135 : decode cX12_tell 135 = .ok (.iload_n 1, 1) := by decide +kernel
theorem dX12_tell_136 : decode cX12_tell 136 = .ok (.iload_n 2, 1) := by decide +kernel
theorem dX12_tell_137 : decode cX12_tell 137 = .ok (.invokevirtual 320, 3) := by decide +kernel
theorem dX12_tell_140 : decode cX12_tell 140 = .ok (.iinc 2 (-1), 3) := by decide +kernel
theorem dX12_tell_143 : decode cX12_tell 143 = .ok (.goto (-32), 3) := by decide +kernel
theorem dX12_tell_146 : decode cX12_tell 146 = .ok (.return_, 1) := by decide +kernel
theorem dX12_learn_0 : decode cX12_learn 0 = .ok (.aload_n 0, 1) := by decide +kernel
theorem dX12_learn_1 : decode cX12_learn 1 = .ok (.iconst 0, 1) := by decide +kernel
theorem dX12_learn_2 : decode cX12_learn 2 = .ok (.putfield 218, 3) := by decide +kernel
theorem dX12_learn_5 : decode cX12_learn 5 = .ok (.aload_n 0, 1) := by decide +kernel
theorem dX12_learn_6 : decode cX12_learn 6 = .ok (.iconst 3, 1) := by decide +kernel
theorem dX12_learn_7 : decode cX12_learn 7 = .ok (.invokevirtual 221, 3) := by decide +kernel
theorem dX12_learn_10 : decode cX12_learn 10 = .ok (.aload_n 0, 1) := by decide +kernel
theorem dX12_learn_11 : decode cX12_learn 11 = .ok (.iload_n 2, 1) := by decide +kernel
theorem dX12_learn_12 : decode cX12_learn 12 = .ok (.invokevirtual 257, 3) := by decide +kernel
theorem dX12_learn_15 : decode cX12_learn 15 = .ok (.aload_n 0, 1) := by decide +kernel
theorem dX12_learn_16 : decode cX12_learn 16 = .ok (.iload_n 1, 1) := by decide +kernel
theorem dX12_learn_17 : decode cX12_learn 17 = .ok (.iconst 3, 1) := by decide +kernel
theorem dX12_learn_18 : decode cX12_learn 18 = .ok (.iconst 0, 1) := by decide +kernel
theorem dX12_learn_19 : decode cX12_learn 19 = .ok (.iconst 0, 1) := by decide +kernel
theorem dX12_learn_20 : decode cX12_learn 20 = .ok (.iload_n 2, 1) := by decide +kernel
theorem dX12_learn_21 : decode cX12_learn 21 = .ok (.invokevirtual 253, 3) := by decide +kernel
theorem dX12_learn_24 : decode cX12_learn 24 = .ok (.ifCond .ne 5, 3) := by decide +kernel
theorem dX12_learn_27 : decode cX12_learn 27 = .ok (.iconst 0, 1) := by decide +kernel
theorem dX12_learn_28 : decode cX12_learn 28 = .ok (.ireturn, 1) := by decide +kernel
theorem dX12_learn_29 : decode cX12_learn 29 = .ok (.aload_n 0, 1) := by decide +kernel
theorem dX12_learn_30 : decode cX12_learn 30 = .ok (.iload_n 1, 1) := by decide +kernel
theorem dX12_learn_31 : decode cX12_learn 31 = .ok (.iload_n 2, 1) := by decide +kernel
theorem dX12_learn_32 : decode cX12_learn 32 = .ok (.invokevirtual 275, 3) := by decide +kernel
theorem dX12_learn_35 : decode cX12_learn 35 = .ok (.aload_n 0, 1) := by decide +kernel
theorem dX12_learn_36 : decode cX12_learn 36 = .ok (.iload_n 1, 1) := by decide +kernel
theorem dX12_learn_37 : decode cX12_learn 37 = .ok (.iconst 0, 1) := by decide +kernel
theorem dX12_learn_38 : decode cX12_learn 38 = .ok (.iconst 0, 1) := by decide +kernel
theorem dX12_learn_39 : decode cX12_learn 39 = .ok (.invokevirtual 272, 3) := by decide +kernel
theorem dX12_learn_42 : decode cX12_learn 42 = .ok (.aload_n 0, 1) := by decide +kernel
theorem dX12_learn_43 : decode cX12_learn 43 = .ok (.iload_n 1, 1) := by decide +kernel
theorem dX12_learn_44 : decode cX12_learn 44 = .ok (.invokevirtual 281, 3) := by decide +kernel
theorem dX12_learn_47 : decode cX12_learn 47 = .ok (.ifCond .ne 5, 3) := by decide +kernel
theorem dX12_learn_50 : decode cX12_learn 50 = .ok (.iconst 0, 1) := by decide +kernel
theorem dX12_learn_51 : decode cX12_learn 51 = .ok (.ireturn, 1) := by decide +kernel
theorem dX12_learn_52 : decode cX12_learn 52 = .ok (.aload_n 0, 1) := by decide +kernel
theorem dX12_learn_53 : decode cX12_learn 53 = .ok (.getfield 73, 3) := by decide +kernel
theorem dX12_learn_56 : decode cX12_learn 56 = .ok (.iload_n 1, 1) := by decide +kernel
theorem dX12_learn_57 : decode cX12_learn 57 = .ok (.iaload, 1) := by decide +kernel
theorem dX12_learn_58 : decode cX12_learn 58 = .ok (.iconst 1, 1) := by decide +kernel
theorem dX12_learn_59 : decode cX12_learn 59 = .ok (.if_icmp .ne 8, 3) := by decide +kernel
theorem dX12_learn_62 : decode cX12_learn 62 = .ok (.aload_n 0, 1) := by decide +kernel
theorem dX12_learn_63 : decode cX12_learn 63 = .ok (.iload_n 1, 1) := by decide +kernel
theorem dX12_learn_64 : decode cX12_learn 64 = .ok (.invokevirtual 284, 3) := by decide +kernel
theorem dX12_learn_67 : decode cX12_learn 67 = .ok (.aload_n 0, 1) := by decide +kernel
theorem dX12_learn_68 : decode cX12_learn 68 = .ok (.getfield 82, 3) := by decide +kernel
theorem dX12_learn_71 : decode cX12_learn 71 = .ok (.iload_n 1, 1) := by decide +kernel
theorem dX12_learn_72 : decode cX12_learn 72 = .ok (.iconst 0, 1) := by decide +kernel
theorem dX12_learn_73 : decode cX12_learn 73 = .ok (.iastore, 1) := by decide +kernel
theorem dX12_learn_74 : decode cX12_learn 74 = .ok (.aload_n 0, 1) := by decide +kernel
theorem dX12_learn_75 : decode cX12_learn 75 = .ok (.getfield 73, 3) := by decide +kernel
theorem dX12_learn_78 : decode cX12_learn 78 = .ok (.iload_n 1, 1) := by decide +kernel
theorem dX12_learn_79 : decode cX12_learn 79 = .ok (.iaload, 1) := by decide +kernel
theorem dX12_learn_80 : decode cX12_learn 80 = .ok (.iconst 2, 1) := by decide +kernel
theorem dX12_learn_81 : decode cX12_learn 81 = .ok (.if_icmp .ne 10, 3) := by decide +kernel
theorem dX12_learn_84 : decode cX12_learn 84 = .ok (.aload_n 0, 1) := by decide +kernel
theorem dX12_learn_85 : decode cX12_learn 85 = .ok (.getfield 79, 3) := by decide +kernel
theorem dX12_learn_88 : decode cX12_learn 88 = .ok (.iload_n 1, 1) := by decide +kernel
theorem dX12_learn_89 : decode cX12_learn 89 = .ok (.iconst 0, 1) := by decide +kernel
theorem dX12_learn_90 : decode cX12_learn 90 = .ok (.iastore, 1) := by decide +kernel
theorem dX12_learn_91 : decode cX12_learn 91 = .ok (.aload_n 0, 1) := by decide +kernel
theorem dX12_learn_92 : decode cX12_learn 92 = .ok (.getfield 55, 3) := by decide +kernel
theorem dX12_learn_95 : decode cX12_learn 95 = .ok (.iload_n 1, 1) := by decide +kernel
theorem dX12_learn_96 : decode cX12_learn 96 = .ok (.iconst 0, 1) := by decide +kernel
theorem dX12_learn_97 : decode cX12_learn 97 = .ok (.iastore, 1) := by decide +kernel
theorem dX12_learn_98 : decode cX12_learn 98 = .ok (.aload_n 0, 1) := by decide +kernel
theorem dX12_learn_99 : decode cX12_learn 99 = .ok (.iload_n 1, 1) := by decide +kernel
theorem dX12_learn_100 : decode cX12_learn 100 = .ok (.invokevirtual 326, 3) := by decide +kernel
theorem dX12_learn_103 : decode cX12_learn 103 = .ok (.iconst 1, 1) := by decide +kernel
theorem dX12_learn_104 : decode cX12_learn 104 = .ok (.ireturn, 1) := by decide +kernel
theorem dX12_help_0 : decode cX12_help 0 = .ok (.iload_n 3, 1) := by decide +kernel
theorem dX12_help_1 : decode cX12_help 1 = .ok (.aload_n 0, 1) := by decide +kernel
theorem dX12_help_2 : decode cX12_help 2 = .ok (.getfield 43, 3) := by decide +kernel
theorem dX12_help_5 : decode cX12_help 5 = .ok (.iload_n 1, 1) := by decide +kernel
theorem dX12_help_6 : decode cX12_help 6 = .ok (.iaload, 1) := by decide +kernel
theorem dX12_help_7 : decode cX12_help 7 = .ok (.if_icmp .le 36, 3) := by decide +kernel
theorem dX12_help_10 : decode cX12_help 10 = .ok (.iload_n 3, 1) := by decide +kernel
theorem dX12_help_11 : decode cX12_help 11 = .ok (.aload_n 0, 1) := by decide +kernel
theorem dX12_help_12 : decode cX12_help 12 = .ok (.getfield 37, 3) := by decide +kernel
theorem dX12_help_15 : decode cX12_help 15 = .ok (.iload_n 1, 1) := by decide +kernel
theorem dX12_help_16 : decode cX12_help 16 = .ok (.iaload, 1) := by decide +kernel
theorem dX12_help_17 : decode cX12_help 17 = .ok (.if_icmp .gt 26, 3) := by decide +kernel
theorem dX12_help_20 : decode cX12_help 20 = .ok (.aload_n 0, 1) := by decide +kernel
theorem dX12_help_21 : decode cX12_help 21 = .ok (.iconst 5, 1) := by decide +kernel
theorem dX12_help_22 : decode cX12_help 22 = .ok (.iload_n 1, 1) := by decide +kernel
theorem dX12_help_23 : decode cX12_help 23 = .ok (.iload_n 2, 1) := by decide +kernel
theorem dX12_help_24 : decode cX12_help 24 = .ok (.iconst 0, 1) := by decide +kernel
theorem dX12_help_25 : decode cX12_help 25 = .ok (.iload_n 3, 1) := by decide +kernel
theorem dX12_help_26 : decode cX12_help 26 = .ok (.aload_n 0, 1) := by decide +kernel
theorem dX12_help_27 : decode cX12_help 27 = .ok (.getfield 64, 3) := by decide +kernel
theorem dX12_help_30 : decode cX12_help 30 = .ok (.iload_n 1, 1) := by decide +kernel
theorem dX12_help_31 : decode cX12_help 31 = .ok (.iload_n 3, 1) := by decide +kernel
theorem dX12_help_32 : decode cX12_help 32 = .ok (.invokestatic 211, 3) := by decide +kernel
theorem dX12_help_35 : decode cX12_help 35 = .ok (.iaload, 1) := by decide +kernel
theorem dX12_help_36 : decode cX12_help 36 = .ok (.iconst 0, 1) := by decide +kernel
theorem dX12_help_37 : decode cX12_help 37 = .ok (.invokevirtual 299, 3) := by decide +kernel
theorem dX12_help_40 : decode cX12_help 40 = .ok (.goto 69, 3) := by decide +kernel
theorem dX12_help_43 : decode cX12_help 43 = .ok (.aload_n 0, 1) := by decide +kernel
theorem dX12_help_44 : decode cX12_help 44 = .ok (.iload_n 1, 1) := by decide +kernel
theorem dX12_help_45 : decode cX12_help 45 = .ok (.aload_n 0, 1) := by decide +kernel
theorem dX12_help_46 : decode cX12_help 46 = .ok (.getfield 130, 3) := by decide +kernel
theorem dX12_help_49 : decode cX12_help 49 = .ok (.iconst 0, 1) := by decide +kernel
theorem dX12_help_50 : decode cX12_help 50 = .ok (.invokevirtual 260, 3) := by decide +kernel
theorem dX12_help_53 : decode cX12_help 53 = .ok (.aload_n 0, 1) := by decide +kernel
theorem dX12_help_54 : decode cX12_help 54 = .ok (.aload_n 0, 1) := by decide +kernel
theorem dX12_help_55 : decode cX12_help 55 = .ok (.getfield 130, 3) := by decide +kernel
theorem dX12_help_58 : decode cX12_help 58 = .ok (.iconst 0, 1) := by decide +kernel
theorem dX12_help_59 : decode cX12_help 59 = .ok (.invokevirtual 303, 3) := by decide +kernel
theorem dX12_help_62 : decode cX12_help 62 = .ok (.bipush 63, 2) := by decide +kernel
theorem dX12_help_64 : decode cX12_help 64 = .ok (.iadd, 1) := by decide +kernel
theorem dX12_help_65 : decode cX12_help 65 = .ok (.bipush 64, 2) := by decide +kernel
theorem dX12_help_67 : decode cX12_help 67 = .ok (.idiv, 1) := by decide +kernel
theorem dX12_help_68 : decode cX12_help 68 = .ok (.istore 4, 2) := by decide +kernel
theorem dX12_help_70 : decode cX12_help 70 = .ok (.iconst 0, 1) := by decide +kernel
theorem dX12_help_71 : decode cX12_help 71 = .ok (.istore 5, 2) := by decide +kernel
theorem dX12_help_73 : decode cX12_help 73 = .ok (.iload 5, 2) := by decide +kernel
theorem dX12_help_75 : decode cX12_help 75 = .ok (.iload 4, 2) := by decide +kernel
theorem dX12_help_77 : decode cX12_help 77 = .ok (.if_icmp .ge 32, 3) := by decide +kernel
theorem dX12_help_80 : decode cX12_help 80 = .ok (.aload_n 0, 1) := by decide +kernel
theorem dX12_help_81 : decode cX12_help 81 = .ok (.iload 5, 2) := by decide +kernel
theorem dX12_help_83 : decode cX12_help 83 = .ok (.putfield 296, 3) := by decide +kernel
theorem dX12_help_86 : decode cX12_help 86 = .ok (.aload_n 0, 1) := by decide +kernel
theorem dX12_help_87 : decode cX12_help 87 = .ok (.bipush 8, 2) := by decide +kernel
theorem dX12_help_89 : decode cX12_help 89 = .ok (.iload_n 1, 1) := by decide +kernel
theorem dX12_help_90 : decode cX12_help 90 = .ok (.iload_n 2, 1) := by decide +kernel
theorem dX12_help_91 : decode cX12_help 91 = .ok (.iconst 0, 1) := by decide +kernel
theorem dX12_help_92 : decode cX12_help 92 = .ok (.aload_n 0, 1) := by decide +kernel
theorem dX12_help_93 : decode cX12_help 93 = .ok (.getfield 37, 3) := by decide +kernel
theorem dX12_help_96 : decode cX12_help 96 = .ok (.iload_n 1, 1) := by decide +kernel
theorem dX12_help_97 : decode cX12_help 97 = .ok (.iaload, 1) := by decide +kernel
theorem dX12_help_98 : decode cX12_help 98 = .ok (.iconst 0, 1) := by decide +kernel
theorem dX12_help_99 : decode cX12_help 99 = .ok (.iconst 0, 1) := by decide +kernel
theorem dX12_help_100 : decode cX12_help 100 = .ok (.invokevirtual 299, 3) := by decide +kernel
theorem dX12_help_103 : decode cX12_help 103 = .ok (.iinc 5 1, 3) := by decide +kernel
theorem dX12_help_106 : decode cX12_help 106 = .ok (.goto (-33), 3) := by decide +kernel
theorem dX12_help_109 : decode cX12_help 109 = .ok (.return_, 1) := by decide +kernel
theorem dX12_count_0 : decode cX12_count 0 = .ok (.iconst 0, 1) := by decide +kernel
theorem dX12_count_1 : decode cX12_count 1 = .ok (.istore_n 2, 1) := by decide +kernel
theorem dX12_count_2 : decode cX12_count 2 = .ok (.iconst 0, 1) := by decide +kernel
theorem dX12_count_3 : decode cX12_count 3 = .ok (.istore_n 3, 1) := by decide +kernel
theorem dX12_count_4 : decode cX12_count 4 = .ok (.iload_n 3, 1) := by decide +kernel
theorem dX12_count_5 : decode cX12_count 5 = .ok (.aload_n 0, 1) := by decide +kernel
theorem dX12_count_6 : decode cX12_count 6 = .ok (.getfield 184, 3) := by decide +kernel
theorem dX12_count_9 : decode cX12_count 9 = .ok (.if_icmp .ge 17, 3) := by decide +kernel
theorem dX12_count_12 : decode cX12_count 12 = .ok (.iload_n 2, 1) := by decide +kernel
theorem dX12_count_13 : decode cX12_count 13 = .ok (.iload_n 1, 1) := by decide +kernel
theorem dX12_count_14 : decode cX12_count 14 = .ok (.iload_n 3, 1) := by decide +kernel
theorem dX12_count_15 : decode cX12_count 15 = .ok (.ishr, 1) := by decide +kernel
theorem dX12_count_16 : decode cX12_count 16 = .ok (.iconst 1, 1) := by decide +kernel
theorem dX12_count_17 : decode cX12_count 17 = .ok (.iand, 1) := by decide +kernel
theorem dX12_count_18 : decode cX12_count 18 = .ok (.iadd, 1) := by decide +kernel
theorem dX12_count_19 : decode cX12_count 19 = .ok (.istore_n 2, 1) := by decide +kernel
theorem dX12_count_20 : decode cX12_count 20 = .ok (.iinc 3 1, 3) := by decide +kernel
theorem dX12_count_23 : decode cX12_count 23 = .ok (.goto (-19), 3) := by decide +kernel
theorem dX12_count_26 : decode cX12_count 26 = .ok (.iload_n 2, 1) := by decide +kernel
theorem dX12_count_27 : decode cX12_count 27 = .ok (.ireturn, 1) := by decide +kernel
theorem dX12_prepared_0 : decode cX12_prepared 0 = .ok (.iload 4, 2) := by decide +kernel
theorem dX12_prepared_2 : decode cX12_prepared 2 = .ok (.aload_n 0, 1) := by decide +kernel
theorem dX12_prepared_3 : decode cX12_prepared 3 = .ok (.getfield 37, 3) := by decide +kernel
theorem dX12_prepared_6 : decode cX12_prepared 6 = .ok (.iload_n 1, 1) := by decide +kernel
theorem dX12_prepared_7 : decode cX12_prepared 7 = .ok (.iaload, 1) := by decide +kernel
theorem dX12_prepared_8 : decode cX12_prepared 8 = .ok (.if_icmp .gt 14, 3) := by decide +kernel
theorem dX12_prepared_11 : decode cX12_prepared 11 = .ok (.aload_n 0, 1) := by decide +kernel
theorem dX12_prepared_12 : decode cX12_prepared 12 = .ok (.iload_n 1, 1) := by decide +kernel
theorem dX12_prepared_13 : decode cX12_prepared 13 = .ok (.iload_n 2, 1) := by decide +kernel
theorem dX12_prepared_14 : decode cX12_prepared 14 = .ok (.iload 4, 2) := by decide +kernel
theorem dX12_prepared_16 : decode cX12_prepared 16 = .ok (.invokevirtual 329, 3) := by decide +kernel
theorem dX12_prepared_19 : decode cX12_prepared 19 = .ok (.goto 143, 3) := by decide +kernel
theorem dX12_prepared_22 : decode cX12_prepared 22 = .ok (.iload_n 3, 1) := by decide +kernel
theorem dX12_prepared_23 : decode cX12_prepared 23 = .ok (.aload_n 0, 1) := by decide +kernel
theorem dX12_prepared_24 : decode cX12_prepared 24 = .ok (.getfield 46, 3) := by decide +kernel
theorem dX12_prepared_27 : decode cX12_prepared 27 = .ok (.iload_n 1, 1) := by decide +kernel
theorem dX12_prepared_28 : decode cX12_prepared 28 = .ok (.iaload, 1) := by decide +kernel
theorem dX12_prepared_29 : decode cX12_prepared 29 = .ok (.if_icmp .ge 23, 3) := by decide +kernel
theorem dX12_prepared_32 : decode cX12_prepared 32 = .ok (.aload_n 0, 1) := by decide +kernel
theorem dX12_prepared_33 : decode cX12_prepared 33 = .ok (.bipush 7, 2) := by decide +kernel
theorem dX12_prepared_35 : decode cX12_prepared 35 = .ok (.iload_n 1, 1) := by decide +kernel
theorem dX12_prepared_36 : decode cX12_prepared 36 = .ok (.iload_n 2, 1) := by decide +kernel
theorem dX12_prepared_37 : decode cX12_prepared 37 = .ok (.aload_n 0, 1) := by decide +kernel
theorem dX12_prepared_38 : decode cX12_prepared 38 = .ok (.getfield 46, 3) := by decide +kernel
theorem dX12_prepared_41 : decode cX12_prepared 41 = .ok (.iload_n 1, 1) := by decide +kernel
theorem dX12_prepared_42 : decode cX12_prepared 42 = .ok (.iaload, 1) := by decide +kernel
theorem dX12_prepared_43 : decode cX12_prepared 43 = .ok (.iconst 0, 1) := by decide +kernel
theorem dX12_prepared_44 : decode cX12_prepared 44 = .ok (.iconst 0, 1) := by decide +kernel
theorem dX12_prepared_45 : decode cX12_prepared 45 = .ok (.iconst 0, 1) := by decide +kernel
theorem dX12_prepared_46 : decode cX12_prepared 46 = .ok (.invokevirtual 299, 3) := by decide +kernel
theorem dX12_prepared_49 : decode cX12_prepared 49 = .ok (.goto 113, 3) := by decide +kernel
theorem dX12_prepared_52 : decode cX12_prepared 52 = .ok (.iload_n 3, 1) := by decide +kernel
theorem dX12_prepared_53 : decode cX12_prepared 53 = .ok (.aload_n 0, 1) := by decide +kernel
theorem dX12_prepared_54 : decode cX12_prepared 54 = .ok (.getfield 46, 3) := by decide +kernel
theorem dX12_prepared_57 : decode cX12_prepared 57 = .ok (.iload_n 1, 1) := by decide +kernel
theorem dX12_prepared_58 : decode cX12_prepared 58 = .ok (.iaload, 1) := by decide +kernel
theorem dX12_prepared_59 : decode cX12_prepared 59 = .ok (.if_icmp .le 29, 3) := by decide +kernel
theorem dX12_prepared_62 : decode cX12_prepared 62 = .ok (.aload_n 0, 1) := by decide +kernel
theorem dX12_prepared_63 : decode cX12_prepared 63 = .ok (.iload_n 1, 1) := by decide +kernel
theorem dX12_prepared_64 : decode cX12_prepared 64 = .ok (.iload_n 3, 1) := by decide +kernel
theorem dX12_prepared_65 : decode cX12_prepared 65 = .ok (.invokevirtual 307, 3) := by decide +kernel
theorem dX12_prepared_68 : decode cX12_prepared 68 = .ok (.ifCond .ne 4, 3) := by decide +kernel
theorem dX12_prepared_71 : decode cX12_prepared 71 = .ok (.return_, 1) := by decide +kernel
theorem dX12_prepared_72 : decode cX12_prepared 72 = .ok (.aload_n 0, 1) := by decide +kernel
theorem dX12_prepared_73 : decode cX12_prepared 73 = .ok (.getfield 46, 3) := by decide +kernel
theorem dX12_prepared_76 : decode cX12_prepared 76 = .ok (.iload_n 1, 1) := by decide +kernel
theorem dX12_prepared_77 : decode cX12_prepared 77 = .ok (.iload_n 3, 1) := by decide +kernel
theorem dX12_prepared_78 : decode cX12_prepared 78 = .ok (.iastore, 1) := by decide +kernel
theorem dX12_prepared_79 : decode cX12_prepared 79 = .ok (.aload_n 0, 1) := by decide +kernel
theorem dX12_prepared_80 : decode cX12_prepared 80 = .ok (.iload_n 1, 1) := by decide +kernel
theorem dX12_prepared_81 : decode cX12_prepared 81 = .ok (.invokevirtual 281, 3) := by decide +kernel
theorem dX12_prepared_84 : decode cX12_prepared 84 = .ok (.ifCond .ne 4, 3) := by decide +kernel
theorem dX12_prepared_87 : decode cX12_prepared 87 = .ok (.return_, 1) := by decide +kernel
theorem dX12_prepared_88 : decode cX12_prepared 88 = .ok (.aload_n 0, 1) := by decide +kernel
theorem dX12_prepared_89 : decode cX12_prepared 89 = .ok (.iload_n 1, 1) := by decide +kernel
theorem dX12_prepared_90 : decode cX12_prepared 90 = .ok (.invokevirtual 284, 3) := by decide +kernel
theorem dX12_prepared_93 : decode cX12_prepared 93 = .ok (.iload 4, 2) := by decide +kernel
theorem dX12_prepared_95 : decode cX12_prepared 95 = .ok (.aload_n 0, 1) := by decide +kernel
theorem dX12_prepared_96 : decode cX12_prepared 96 = .ok (.getfield 37, 3) := by decide +kernel
theorem dX12_prepared_99 : decode cX12_prepared 99 = .ok (.iload_n 1, 1) := by decide +kernel
theorem dX12_prepared_100 : decode cX12_prepared 100 = .ok (.iaload, 1) := by decide +kernel
theorem dX12_prepared_101 : decode cX12_prepared 101 = .ok (.iconst 1, 1) := by decide +kernel
theorem dX12_prepared_102 : decode cX12_prepared 102 = .ok (.iadd, 1) := by decide +kernel
theorem dX12_prepared_103 : decode cX12_prepared 103 = .ok (.if_icmp .ne 16, 3) := by decide +kernel
theorem dX12_prepared_106 : decode cX12_prepared 106 = .ok (.aload_n 0, 1) := by decide +kernel
theorem dX12_prepared_107 : decode cX12_prepared 107 = .ok (.getfield 52, 3) := by decide +kernel
theorem dX12_prepared_110 : decode cX12_prepared 110 = .ok (.iload_n 1, 1) := by decide +kernel
theorem dX12_prepared_111 : decode cX12_prepared 111 = .ok (.iaload, 1) := by decide +kernel
theorem dX12_prepared_112 : decode cX12_prepared 112 = .ok (.ifCond .le 7, 3) := by decide +kernel
theorem dX12_prepared_115 : decode cX12_prepared 115 = .ok (.iconst 1, 1) := by decide +kernel
theorem dX12_prepared_116 : decode cX12_prepared 116 = .ok (.goto 4, 3) := by decide +kernel
theorem dX12_prepared_119 : decode cX12_prepared 119 = .ok (.iconst 0, 1) := by decide +kernel
theorem dX12_prepared_120 : decode cX12_prepared 120 = .ok (.istore 5, 2) := by decide +kernel
theorem dX12_prepared_122 : decode cX12_prepared 122 = .ok (.aload_n 0, 1) := by decide +kernel
theorem dX12_prepared_123 : decode cX12_prepared 123 = .ok (.iconst 2, 1) := by decide +kernel
theorem dX12_prepared_124 : decode cX12_prepared 124 = .ok (.iload_n 1, 1) := by decide +kernel
theorem dX12_prepared_125 : decode cX12_prepared 125 = .ok (.iload_n 2, 1) := by decide +kernel
theorem dX12_prepared_126 : decode cX12_prepared 126 = .ok (.iload_n 3, 1) := by decide +kernel
theorem dX12_prepared_127 : decode cX12_prepared 127 = .ok (.iload 4, 2) := by decide +kernel
theorem dX12_prepared_129 : decode cX12_prepared 129 = .ok (.iload 5, 2) := by decide +kernel
theorem dX12_prepared_131 : decode cX12_prepared 131 = .ok (.ifCond .eq 12, 3) := by decide +kernel
theorem dX12_prepared_134 : decode cX12_prepared 134 = .ok (.aload_n 0, 1) := by decide +kernel
theorem dX12_prepared_135 : decode cX12_prepared 135 = .ok (.getfield 52, 3) := by decide +kernel
theorem dX12_prepared_138 : decode cX12_prepared 138 = .ok (.iload_n 1, 1) := by decide +kernel
theorem dX12_prepared_139 : decode cX12_prepared 139 = .ok (.iaload, 1) := by decide +kernel
theorem dX12_prepared_140 : decode cX12_prepared 140 = .ok (.goto 4, 3) := by decide +kernel
theorem dX12_prepared_143 : decode cX12_prepared 143 = .ok (.iconst 0, 1) := by decide +kernel
theorem dX12_prepared_144 : decode cX12_prepared 144 = .ok (.iload 5, 2) := by decide +kernel
theorem dX12_prepared_146 : decode cX12_prepared 146 = .ok (.ifCond .eq 12, 3) := by decide +kernel
theorem dX12_prepared_149 : decode cX12_prepared 149 = .ok (.aload_n 0, 1) := by decide +kernel
theorem dX12_prepared_150 : decode cX12_prepared 150 = .ok (.getfield 49, 3) := by decide +kernel
theorem dX12_prepared_153 : decode cX12_prepared 153 = .ok (.iload_n 1, 1) := by decide +kernel
theorem dX12_prepared_154 : decode cX12_prepared 154 = .ok (.iaload, 1) := by decide +kernel
theorem dX12_prepared_155 : decode cX12_prepared 155 = .ok (.goto 4, 3) := by decide +kernel
theorem dX12_prepared_158 : decode cX12_prepared 158 = .ok (.iconst 0, 1) := by decide +kernel
theorem dX12_prepared_159 : decode cX12_prepared 159 = .ok (.invokevirtual 299, 3) := by decide +kernel
theorem dX12_prepared_162 : decode cX12_prepared 162 = .ok (.return_, 1) := by decide +kernel
theorem dX12_gotPromise_0 : decode cX12_gotPromise 0 = .ok (.aload_n 0, 1) := by decide +kernel
theorem dX12_gotPromise_1 : decode cX12_gotPromise 1 = .ok (.getfield 73, 3) := by decide +kernel
theorem dX12_gotPromise_4 : decode cX12_gotPromise 4 = .ok (.iload_n 1, 1) := by decide +kernel
theorem dX12_gotPromise_5 : decode cX12_gotPromise 5 = .ok (.iaload, 1) := by decide +kernel
theorem dX12_gotPromise_6 : decode cX12_gotPromise 6 = .ok (.iconst 1, 1) := by decide +kernel
theorem dX12_gotPromise_7 : decode cX12_gotPromise 7 = .ok (.if_icmp .ne 40, 3) := by decide +kernel
theorem dX12_gotPromise_10 : decode cX12_gotPromise 10 = .ok (.aload_n 0, 1) := by decide +kernel
theorem dX12_gotPromise_11 : decode cX12_gotPromise 11 = .ok (.getfield 76, 3) := by decide +kernel
theorem dX12_gotPromise_14 : decode cX12_gotPromise 14 = .ok (.iload_n 1, 1) := by decide +kernel
theorem dX12_gotPromise_15 : decode cX12_gotPromise 15 = .ok (.iaload, 1) := by decide +kernel
theorem dX12_gotPromise_16 : decode cX12_gotPromise 16 = .ok (.iload_n 3, 1) := by decide +kernel
theorem dX12_gotPromise_17 : decode cX12_gotPromise 17 = .ok (.if_icmp .ne 30, 3) := by decide +kernel
theorem dX12_gotPromise_20 : decode cX12_gotPromise 20 = .ok (.iload 4, 2) := by decide +kernel
theorem dX12_gotPromise_22 : decode cX12_gotPromise 22 = .ok (.aload_n 0, 1) := by decide +kernel
theorem dX12_gotPromise_23 : decode cX12_gotPromise 23 = .ok (.getfield 37, 3) := by decide +kernel
theorem dX12_gotPromise_26 : decode cX12_gotPromise 26 = .ok (.iload_n 1, 1) := by decide +kernel
theorem dX12_gotPromise_27 : decode cX12_gotPromise 27 = .ok (.iaload, 1) := by decide +kernel
theorem dX12_gotPromise_28 : decode cX12_gotPromise 28 = .ok (.iconst 1, 1) := by decide +kernel
theorem dX12_gotPromise_29 : decode cX12_gotPromise 29 = .ok (.iadd, 1) := by decide +kernel
theorem dX12_gotPromise_30 : decode cX12_gotPromise 30 = .ok (.if_icmp .ne 17, 3) := by decide +kernel
theorem dX12_gotPromise_33 : decode cX12_gotPromise 33 = .ok (.aload_n 0, 1) := by decide +kernel
theorem dX12_gotPromise_34 : decode cX12_gotPromise 34 = .ok (.getfield 79, 3) := by decide +kernel
theorem dX12_gotPromise_37 : decode cX12_gotPromise 37 = .ok (.iload_n 1, 1) := by decide +kernel
theorem dX12_gotPromise_38 : decode cX12_gotPromise 38 = .ok (.iaload, 1) := by decide +kernel
theorem dX12_gotPromise_39 : decode cX12_gotPromise 39 = .ok (.iload_n 2, 1) := by decide +kernel
theorem dX12_gotPromise_40 : decode cX12_gotPromise 40 = .ok (.ishr, 1) := by decide +kernel
theorem dX12_gotPromise_41 : decode cX12_gotPromise 41 = .ok (.iconst 1, 1) := by decide +kernel
theorem dX12_gotPromise_42 : decode cX12_gotPromise 42 = .ok (.iand, 1) := by decide +kernel
theorem dX12_gotPromise_43 : decode cX12_gotPromise 43 = .ok (.iconst 1, 1) := by decide +kernel
theorem dX12_gotPromise_44 : decode cX12_gotPromise 44 = .ok (.if_icmp .ne 4, 3) := by decide +kernel
theorem dX12_gotPromise_47 : decode cX12_gotPromise 47 = .ok (.return_, 1) := by decide +kernel
theorem dX12_gotPromise_48 : decode cX12_gotPromise 48 = .ok (.aload_n 0, 1) := by decide +kernel
theorem dX12_gotPromise_49 : decode cX12_gotPromise 49 = .ok (.getfield 79, 3) := by decide +kernel
theorem dX12_gotPromise_52 : decode cX12_gotPromise 52 = .ok (.iload_n 1, 1) := by decide +kernel
theorem dX12_gotPromise_53 : decode cX12_gotPromise 53 = .ok (.dup2, 1) := by decide +kernel
theorem dX12_gotPromise_54 : decode cX12_gotPromise 54 = .ok (.iaload, 1) := by decide +kernel
theorem dX12_gotPromise_55 : decode cX12_gotPromise 55 = .ok (.iconst 1, 1) := by decide +kernel
theorem dX12_gotPromise_56 : decode cX12_gotPromise 56 = .ok (.iload_n 2, 1) := by decide +kernel
theorem dX12_gotPromise_57 : decode cX12_gotPromise 57 = .ok (.ishl, 1) := by decide +kernel
theorem dX12_gotPromise_58 : decode cX12_gotPromise 58 = .ok (.ior, 1) := by decide +kernel
theorem dX12_gotPromise_59 : decode cX12_gotPromise 59 = .ok (.iastore, 1) := by decide +kernel
theorem dX12_gotPromise_60 : decode cX12_gotPromise 60 = .ok (.iload 5, 2) := by decide +kernel
theorem dX12_gotPromise_62 : decode cX12_gotPromise 62 = .ok (.ifCond .le 30, 3) := by decide +kernel
theorem dX12_gotPromise_65 : decode cX12_gotPromise 65 = .ok (.iload 6, 2) := by decide +kernel
theorem dX12_gotPromise_67 : decode cX12_gotPromise 67 = .ok (.aload_n 0, 1) := by decide +kernel
theorem dX12_gotPromise_68 : decode cX12_gotPromise 68 = .ok (.getfield 88, 3) := by decide +kernel
theorem dX12_gotPromise_71 : decode cX12_gotPromise 71 = .ok (.iload_n 1, 1) := by decide +kernel
theorem dX12_gotPromise_72 : decode cX12_gotPromise 72 = .ok (.iaload, 1) := by decide +kernel
theorem dX12_gotPromise_73 : decode cX12_gotPromise 73 = .ok (.if_icmp .le 19, 3) := by decide +kernel
theorem dX12_gotPromise_76 : decode cX12_gotPromise 76 = .ok (.aload_n 0, 1) := by decide +kernel
theorem dX12_gotPromise_77 : decode cX12_gotPromise 77 = .ok (.getfield 85, 3) := by decide +kernel
theorem dX12_gotPromise_80 : decode cX12_gotPromise 80 = .ok (.iload_n 1, 1) := by decide +kernel
theorem dX12_gotPromise_81 : decode cX12_gotPromise 81 = .ok (.iload 5, 2) := by decide +kernel
theorem dX12_gotPromise_83 : decode cX12_gotPromise 83 = .ok (.iastore, 1) := by decide +kernel
theorem dX12_gotPromise_84 : decode cX12_gotPromise 84 = .ok (.aload_n 0, 1) := by decide +kernel
theorem dX12_gotPromise_85 : decode cX12_gotPromise 85 = .ok (.getfield 88, 3) := by decide +kernel
theorem dX12_gotPromise_88 : decode cX12_gotPromise 88 = .ok (.iload_n 1, 1) := by decide +kernel
theorem dX12_gotPromise_89 : decode cX12_gotPromise 89 = .ok (.iload 6, 2) := by decide +kernel
theorem dX12_gotPromise_91 : decode cX12_gotPromise 91 = .ok (.iastore, 1) := by decide +kernel
theorem dX12_gotPromise_92 : decode cX12_gotPromise 92 = .ok (.iconst 2, 1) := by decide +kernel
theorem dX12_gotPromise_93 : decode cX12_gotPromise 93 = .ok (.aload_n 0, 1) := by decide +kernel
theorem dX12_gotPromise_94 : decode cX12_gotPromise 94 = .ok (.aload_n 0, 1) := by decide +kernel
theorem dX12_gotPromise_95 : decode cX12_gotPromise 95 = .ok (.getfield 79, 3) := by decide +kernel
theorem dX12_gotPromise_98 : decode cX12_gotPromise 98 = .ok (.iload_n 1, 1) := by decide +kernel
theorem dX12_gotPromise_99 : decode cX12_gotPromise 99 = .ok (.iaload, 1) := by decide +kernel
theorem dX12_gotPromise_100 : decode cX12_gotPromise 100 = .ok (.invokevirtual 332, 3) := by decide +kernel
theorem dX12_gotPromise_103 : decode cX12_gotPromise 103 = .ok (.imul, 1) := by decide +kernel
theorem dX12_gotPromise_104 : decode cX12_gotPromise 104 = .ok (.aload_n 0, 1) := by decide +kernel
theorem dX12_gotPromise_105 : decode cX12_gotPromise 105 = .ok (.getfield 184, 3) := by decide +kernel
theorem dX12_gotPromise_108 : decode cX12_gotPromise 108 = .ok (.if_icmp .le 54, 3) := by decide +kernel
theorem dX12_gotPromise_111 : decode cX12_gotPromise 111 = .ok (.aload_n 0, 1) := by decide +kernel
theorem dX12_gotPromise_112 : decode cX12_gotPromise 112 = .ok (.getfield 73, 3) := by decide +kernel
theorem dX12_gotPromise_115 : decode cX12_gotPromise 115 = .ok (.iload_n 1, 1) := by decide +kernel
theorem dX12_gotPromise_116 : decode cX12_gotPromise 116 = .ok (.iconst 2, 1) := by decide +kernel
theorem dX12_gotPromise_117 : decode cX12_gotPromise 117 = .ok (.iastore, 1) := by decide +kernel
theorem dX12_gotPromise_118 : decode cX12_gotPromise 118 = .ok (.aload_n 0, 1) := by decide +kernel
theorem dX12_gotPromise_119 : decode cX12_gotPromise 119 = .ok (.getfield 79, 3) := by decide +kernel
theorem dX12_gotPromise_122 : decode cX12_gotPromise 122 = .ok (.iload_n 1, 1) := by decide +kernel
theorem dX12_gotPromise_123 : decode cX12_gotPromise 123 = .ok (.iconst 0, 1) := by decide +kernel
theorem dX12_gotPromise_124 : decode cX12_gotPromise 124 = .ok (.iastore, 1) := by decide +kernel
theorem dX12_gotPromise_125 : decode cX12_gotPromise 125 = .ok (.aload_n 0, 1) := by decide +kernel
theorem dX12_gotPromise_126 : decode cX12_gotPromise 126 = .ok (.getfield 55, 3) := by decide +kernel
theorem dX12_gotPromise_129 : decode cX12_gotPromise 129 = .ok (.iload_n 1, 1) := by decide +kernel
theorem dX12_gotPromise_130 : decode cX12_gotPromise 130 = .ok (.iconst 0, 1) := by decide +kernel
theorem dX12_gotPromise_131 : decode cX12_gotPromise 131 = .ok (.iastore, 1) := by decide +kernel
theorem dX12_gotPromise_132 : decode cX12_gotPromise 132 = .ok (.aload_n 0, 1) := by decide +kernel
theorem dX12_gotPromise_133 : decode cX12_gotPromise 133 = .ok (.getfield 85, 3) := by decide +kernel
theorem dX12_gotPromise_136 : decode cX12_gotPromise 136 = .ok (.iload_n 1, 1) := by decide +kernel
theorem dX12_gotPromise_137 : decode cX12_gotPromise 137 = .ok (.iaload, 1) := by decide +kernel
theorem dX12_gotPromise_138 : decode cX12_gotPromise 138 = .ok (.ifCond .le 17, 3) := by decide +kernel
theorem dX12_gotPromise_141 : decode cX12_gotPromise 141 = .ok (.aload_n 0, 1) := by decide +kernel
theorem dX12_gotPromise_142 : decode cX12_gotPromise 142 = .ok (.iload_n 1, 1) := by decide +kernel
theorem dX12_gotPromise_143 : decode cX12_gotPromise 143 = .ok (.aload_n 0, 1) := by decide +kernel
theorem dX12_gotPromise_144 : decode cX12_gotPromise 144 = .ok (.getfield 85, 3) := by decide +kernel
theorem dX12_gotPromise_147 : decode cX12_gotPromise 147 = .ok (.iload_n 1, 1) := by decide +kernel
theorem dX12_gotPromise_148 : decode cX12_gotPromise 148 = .ok (.iaload, 1) := by decide +kernel
theorem dX12_gotPromise_149 : decode cX12_gotPromise 149 = .ok (.invokevirtual 323, 3) := by decide +kernel
theorem dX12_gotPromise_152 : decode cX12_gotPromise 152 = .ok (.goto 10, 3) := by decide +kernel
theorem dX12_gotPromise_155 : decode cX12_gotPromise 155 = .ok (.aload_n 0, 1) := by decide +kernel
theorem dX12_gotPromise_156 : decode cX12_gotPromise 156 = .ok (.iload_n 1, 1) := by decide +kernel
theorem dX12_gotPromise_157 : decode cX12_gotPromise 157 = .ok (.invokevirtual 335, 3) := by decide +kernel
theorem dX12_gotPromise_160 : decode cX12_gotPromise 160 = .ok (.istore 7, 2) := by decide +kernel
theorem dX12_gotPromise_162 : decode cX12_gotPromise 162 = .ok (.return_, 1) := by decide +kernel
theorem dX12_gotAccept_0 : decode cX12_gotAccept 0 = .ok (.iload 4, 2) := by decide +kernel
theorem dX12_gotAccept_2 : decode cX12_gotAccept 2 = .ok (.aload_n 0, 1) := by decide +kernel
theorem dX12_gotAccept_3 : decode cX12_gotAccept 3 = .ok (.getfield 37, 3) := by decide +kernel
theorem dX12_gotAccept_6 : decode cX12_gotAccept 6 = .ok (.iload_n 1, 1) := by decide +kernel
theorem dX12_gotAccept_7 : decode cX12_gotAccept 7 = .ok (.iaload, 1) := by decide +kernel
theorem dX12_gotAccept_8 : decode cX12_gotAccept 8 = .ok (.if_icmp .gt 14, 3) := by decide +kernel
theorem dX12_gotAccept_11 : decode cX12_gotAccept 11 = .ok (.aload_n 0, 1) := by decide +kernel
theorem dX12_gotAccept_12 : decode cX12_gotAccept 12 = .ok (.iload_n 1, 1) := by decide +kernel
theorem dX12_gotAccept_13 : decode cX12_gotAccept 13 = .ok (.iload_n 2, 1) := by decide +kernel
theorem dX12_gotAccept_14 : decode cX12_gotAccept 14 = .ok (.iload 4, 2) := by decide +kernel
theorem dX12_gotAccept_16 : decode cX12_gotAccept 16 = .ok (.invokevirtual 329, 3) := by decide +kernel
theorem dX12_gotAccept_19 : decode cX12_gotAccept 19 = .ok (.goto 134, 3) := by decide +kernel
theorem dX12_gotAccept_22 : decode cX12_gotAccept 22 = .ok (.iload 4, 2) := by decide +kernel
theorem dX12_gotAccept_24 : decode cX12_gotAccept 24 = .ok (.aload_n 0, 1) := by decide +kernel
theorem dX12_gotAccept_25 : decode cX12_gotAccept 25 = .ok (.getfield 37, 3) := by decide +kernel
theorem dX12_gotAccept_28 : decode cX12_gotAccept 28 = .ok (.iload_n 1, 1) := by decide +kernel
theorem dX12_gotAccept_29 : decode cX12_gotAccept 29 = .ok (.iaload, 1) := by decide +kernel
theorem dX12_gotAccept_30 : decode cX12_gotAccept 30 = .ok (.iconst 1, 1) := by decide +kernel
theorem dX12_gotAccept_31 : decode cX12_gotAccept 31 = .ok (.iadd, 1) := by decide +kernel
theorem dX12_gotAccept_32 : decode cX12_gotAccept 32 = .ok (.if_icmp .le 25, 3) := by decide +kernel
theorem dX12_gotAccept_35 : decode cX12_gotAccept 35 = .ok (.aload_n 0, 1) := by decide +kernel
theorem dX12_gotAccept_36 : decode cX12_gotAccept 36 = .ok (.bipush 6, 2) := by decide +kernel
theorem dX12_gotAccept_38 : decode cX12_gotAccept 38 = .ok (.iload_n 1, 1) := by decide +kernel
theorem dX12_gotAccept_39 : decode cX12_gotAccept 39 = .ok (.iload_n 2, 1) := by decide +kernel
theorem dX12_gotAccept_40 : decode cX12_gotAccept 40 = .ok (.iconst 0, 1) := by decide +kernel
theorem dX12_gotAccept_41 : decode cX12_gotAccept 41 = .ok (.aload_n 0, 1) := by decide +kernel
theorem dX12_gotAccept_42 : decode cX12_gotAccept 42 = .ok (.getfield 37, 3) := by decide +kernel
theorem dX12_gotAccept_45 : decode cX12_gotAccept 45 = .ok (.iload_n 1, 1) := by decide +kernel
theorem dX12_gotAccept_46 : decode cX12_gotAccept 46 = .ok (.iaload, 1) := by decide +kernel
theorem dX12_gotAccept_47 : decode cX12_gotAccept 47 = .ok (.iconst 1, 1) := by decide +kernel
theorem dX12_gotAccept_48 : decode cX12_gotAccept 48 = .ok (.iadd, 1) := by decide +kernel
theorem dX12_gotAccept_49 : decode cX12_gotAccept 49 = .ok (.iconst 0, 1) := by decide +kernel
theorem dX12_gotAccept_50 : decode cX12_gotAccept 50 = .ok (.iconst 0, 1) := by decide +kernel
theorem dX12_gotAccept_51 : decode cX12_gotAccept 51 = .ok (.invokevirtual 299, 3) := by decide +kernel
theorem dX12_gotAccept_54 : decode cX12_gotAccept 54 = .ok (.goto 99, 3) := by decide +kernel
theorem dX12_gotAccept_57 : decode cX12_gotAccept 57 = .ok (.iload_n 3, 1) := by decide +kernel
theorem dX12_gotAccept_58 : decode cX12_gotAccept 58 = .ok (.aload_n 0, 1) := by decide +kernel
theorem dX12_gotAccept_59 : decode cX12_gotAccept 59 = .ok (.getfield 46, 3) := by decide +kernel
theorem dX12_gotAccept_62 : decode cX12_gotAccept 62 = .ok (.iload_n 1, 1) := by decide +kernel
theorem dX12_gotAccept_63 : decode cX12_gotAccept 63 = .ok (.iaload, 1) := by decide +kernel
theorem dX12_gotAccept_64 : decode cX12_gotAccept 64 = .ok (.if_icmp .lt 72, 3) := by decide +kernel
theorem dX12_gotAccept_67 : decode cX12_gotAccept 67 = .ok (.aload_n 0, 1) := by decide +kernel
theorem dX12_gotAccept_68 : decode cX12_gotAccept 68 = .ok (.iload_n 1, 1) := by decide +kernel
theorem dX12_gotAccept_69 : decode cX12_gotAccept 69 = .ok (.iload_n 3, 1) := by decide +kernel
theorem dX12_gotAccept_70 : decode cX12_gotAccept 70 = .ok (.iload 5, 2) := by decide +kernel
theorem dX12_gotAccept_72 : decode cX12_gotAccept 72 = .ok (.invokevirtual 314, 3) := by decide +kernel
theorem dX12_gotAccept_75 : decode cX12_gotAccept 75 = .ok (.ifCond .ne 4, 3) := by decide +kernel
theorem dX12_gotAccept_78 : decode cX12_gotAccept 78 = .ok (.return_, 1) := by decide +kernel
theorem dX12_gotAccept_79 : decode cX12_gotAccept 79 = .ok (.aload_n 0, 1) := by decide +kernel
theorem dX12_gotAccept_80 : decode cX12_gotAccept 80 = .ok (.getfield 73, 3) := by decide +kernel
theorem dX12_gotAccept_83 : decode cX12_gotAccept 83 = .ok (.iload_n 1, 1) := by decide +kernel
theorem dX12_gotAccept_84 : decode cX12_gotAccept 84 = .ok (.iaload, 1) := by decide +kernel
theorem dX12_gotAccept_85 : decode cX12_gotAccept 85 = .ok (.iconst 1, 1) := by decide +kernel
theorem dX12_gotAccept_86 : decode cX12_gotAccept 86 = .ok (.if_icmp .eq 23, 3) := by decide +kernel
theorem dX12_gotAccept_89 : decode cX12_gotAccept 89 = .ok (.aload_n 0, 1) := by decide +kernel
theorem dX12_gotAccept_90 : decode cX12_gotAccept 90 = .ok (.getfield 73, 3) := by decide +kernel
theorem dX12_gotAccept_93 : decode cX12_gotAccept 93 = .ok (.iload_n 1, 1) := by decide +kernel
theorem dX12_gotAccept_94 : decode cX12_gotAccept 94 = .ok (.iaload, 1) := by decide +kernel
theorem dX12_gotAccept_95 : decode cX12_gotAccept 95 = .ok (.iconst 2, 1) := by decide +kernel
theorem dX12_gotAccept_96 : decode cX12_gotAccept 96 = .ok (.if_icmp .ne 18, 3) := by decide +kernel
theorem dX12_gotAccept_99 : decode cX12_gotAccept 99 = .ok (.aload_n 0, 1) := by decide +kernel
theorem dX12_gotAccept_100 : decode cX12_gotAccept 100 = .ok (.getfield 76, 3) := by decide +kernel
theorem dX12_gotAccept_103 : decode cX12_gotAccept 103 = .ok (.iload_n 1, 1) := by decide +kernel
theorem dX12_gotAccept_104 : decode cX12_gotAccept 104 = .ok (.iaload, 1) := by decide +kernel
theorem dX12_gotAccept_105 : decode cX12_gotAccept 105 = .ok (.iload_n 3, 1) := by decide +kernel
theorem dX12_gotAccept_106 : decode cX12_gotAccept 106 = .ok (.if_icmp .eq 8, 3) := by decide +kernel
theorem dX12_gotAccept_109 : decode cX12_gotAccept 109 = .ok (.aload_n 0, 1) := by decide +kernel
theorem dX12_gotAccept_110 : decode cX12_gotAccept 110 = .ok (.iload_n 1, 1) := by decide +kernel
theorem dX12_gotAccept_111 : decode cX12_gotAccept 111 = .ok (.invokevirtual 284, 3) := by decide +kernel
theorem dX12_gotAccept_114 : decode cX12_gotAccept 114 = .ok (.aload_n 0, 1) := by decide +kernel
theorem dX12_gotAccept_115 : decode cX12_gotAccept 115 = .ok (.getfield 55, 3) := by decide +kernel
theorem dX12_gotAccept_118 : decode cX12_gotAccept 118 = .ok (.iload_n 1, 1) := by decide +kernel
theorem dX12_gotAccept_119 : decode cX12_gotAccept 119 = .ok (.iconst 0, 1) := by decide +kernel
theorem dX12_gotAccept_120 : decode cX12_gotAccept 120 = .ok (.iastore, 1) := by decide +kernel
theorem dX12_gotAccept_121 : decode cX12_gotAccept 121 = .ok (.aload_n 0, 1) := by decide +kernel
theorem dX12_gotAccept_122 : decode cX12_gotAccept 122 = .ok (.iconst 4, 1) := by decide +kernel
theorem dX12_gotAccept_123 : decode cX12_gotAccept 123 = .ok (.iload_n 1, 1) := by decide +kernel
theorem dX12_gotAccept_124 : decode cX12_gotAccept 124 = .ok (.iload_n 2, 1) := by decide +kernel
theorem dX12_gotAccept_125 : decode cX12_gotAccept 125 = .ok (.iload_n 3, 1) := by decide +kernel
theorem dX12_gotAccept_126 : decode cX12_gotAccept 126 = .ok (.iload 4, 2) := by decide +kernel
theorem dX12_gotAccept_128 : decode cX12_gotAccept 128 = .ok (.iconst 0, 1) := by decide +kernel
theorem dX12_gotAccept_129 : decode cX12_gotAccept 129 = .ok (.iconst 0, 1) := by decide +kernel
theorem dX12_gotAccept_130 : decode cX12_gotAccept 130 = .ok (.invokevirtual 299, 3) := by decide +kernel
theorem dX12_gotAccept_133 : decode cX12_gotAccept 133 = .ok (.goto 20, 3) := by decide +kernel
theorem dX12_gotAccept_136 : decode cX12_gotAccept 136 = .ok (.aload_n 0, 1) := by decide +kernel
theorem dX12_gotAccept_137 : decode cX12_gotAccept 137 = .ok (.bipush 7, 2) := by decide +kernel
theorem dX12_gotAccept_139 : decode cX12_gotAccept 139 = .ok (.iload_n 1, 1) := by decide +kernel
theorem dX12_gotAccept_140 : decode cX12_gotAccept 140 = .ok (.iload_n 2, 1) := by decide +kernel
theorem dX12_gotAccept_141 : decode cX12_gotAccept 141 = .ok (.aload_n 0, 1) := by decide +kernel
theorem dX12_gotAccept_142 : decode cX12_gotAccept 142 = .ok (.getfield 46, 3) := by decide +kernel
theorem dX12_gotAccept_145 : decode cX12_gotAccept 145 = .ok (.iload_n 1, 1) := by decide +kernel
theorem dX12_gotAccept_146 : decode cX12_gotAccept 146 = .ok (.iaload, 1) := by decide +kernel
theorem dX12_gotAccept_147 : decode cX12_gotAccept 147 = .ok (.iconst 0, 1) := by decide +kernel
theorem dX12_gotAccept_148 : decode cX12_gotAccept 148 = .ok (.iconst 0, 1) := by decide +kernel
theorem dX12_gotAccept_149 : decode cX12_gotAccept 149 = .ok (.iconst 0, 1) := by decide +kernel
theorem dX12_gotAccept_150 : decode cX12_gotAccept 150 = .ok (.invokevirtual 299, 3) := by decide +kernel
theorem dX12_gotAccept_153 : decode cX12_gotAccept 153 = .ok (.return_, 1) := by decide +kernel
theorem dX12_gotAccepted_0 : decode cX12_gotAccepted 0 = .ok (.aload_n 0, 1) := by decide +kernel
theorem dX12_gotAccepted_1 : decode cX12_gotAccepted 1 = .ok (.getfield 73, 3) := by decide +kernel
theorem dX12_gotAccepted_4 : decode cX12_gotAccepted 4 = .ok (.iload_n 1, 1) := by decide +kernel
theorem dX12_gotAccepted_5 : decode cX12_gotAccepted 5 = .ok (.iaload, 1) := by decide +kernel
theorem dX12_gotAccepted_6 : decode cX12_gotAccepted 6 = .ok (.iconst 2, 1) := by decide +kernel
theorem dX12_gotAccepted_7 : decode cX12_gotAccepted 7 = .ok (.if_icmp .ne 49, 3) := by decide +kernel
theorem dX12_gotAccepted_10 : decode cX12_gotAccepted 10 = .ok (.aload_n 0, 1) := by decide +kernel
theorem dX12_gotAccepted_11 : decode cX12_gotAccepted 11 = .ok (.getfield 76, 3) := by decide +kernel
theorem dX12_gotAccepted_14 : decode cX12_gotAccepted 14 = .ok (.iload_n 1, 1) := by decide +kernel
theorem dX12_gotAccepted_15 : decode cX12_gotAccepted 15 = .ok (.iaload, 1) := by decide +kernel
theorem dX12_gotAccepted_16 : decode cX12_gotAccepted 16 = .ok (.iload_n 3, 1) := by decide +kernel
theorem dX12_gotAccepted_17 : decode cX12_gotAccepted 17 = .ok (.if_icmp .ne 39, 3) := by decide +kernel
theorem dX12_gotAccepted_20 : decode cX12_gotAccepted 20 = .ok (.aload_n 0, 1) := by decide +kernel
theorem dX12_gotAccepted_21 : decode cX12_gotAccepted 21 = .ok (.getfield 82, 3) := by decide +kernel
theorem dX12_gotAccepted_24 : decode cX12_gotAccepted 24 = .ok (.iload_n 1, 1) := by decide +kernel
theorem dX12_gotAccepted_25 : decode cX12_gotAccepted 25 = .ok (.iaload, 1) := by decide +kernel
theorem dX12_gotAccepted_26 : decode cX12_gotAccepted 26 = .ok (.ifCond .eq 30, 3) := by decide +kernel
theorem dX12_gotAccepted_29 : decode cX12_gotAccepted 29 = .ok (.iload 4, 2) := by decide +kernel
theorem dX12_gotAccepted_31 : decode cX12_gotAccepted 31 = .ok (.aload_n 0, 1) := by decide +kernel
theorem dX12_gotAccepted_32 : decode cX12_gotAccepted 32 = .ok (.getfield 37, 3) := by decide +kernel
theorem dX12_gotAccepted_35 : decode cX12_gotAccepted 35 = .ok (.iload_n 1, 1) := by decide +kernel
theorem dX12_gotAccepted_36 : decode cX12_gotAccepted 36 = .ok (.iaload, 1) := by decide +kernel
theorem dX12_gotAccepted_37 : decode cX12_gotAccepted 37 = .ok (.iconst 1, 1) := by decide +kernel
theorem dX12_gotAccepted_38 : decode cX12_gotAccepted 38 = .ok (.iadd, 1) := by decide +kernel
theorem dX12_gotAccepted_39 : decode cX12_gotAccepted 39 = .ok (.if_icmp .ne 17, 3) := by decide +kernel
theorem dX12_gotAccepted_42 : decode cX12_gotAccepted 42 = .ok (.aload_n 0, 1) := by decide +kernel
theorem dX12_gotAccepted_43 : decode cX12_gotAccepted 43 = .ok (.getfield 79, 3) := by decide +kernel
theorem dX12_gotAccepted_46 : decode cX12_gotAccepted 46 = .ok (.iload_n 1, 1) := by decide +kernel
theorem dX12_gotAccepted_47 : decode cX12_gotAccepted 47 = .ok (.iaload, 1) := by decide +kernel
theorem dX12_gotAccepted_48 : decode cX12_gotAccepted 48 = .ok (.iload_n 2, 1) := by decide +kernel
theorem dX12_gotAccepted_49 : decode cX12_gotAccepted 49 = .ok (.ishr, 1) := by decide +kernel
theorem dX12_gotAccepted_50 : decode cX12_gotAccepted 50 = .ok (.iconst 1, 1) := by decide +kernel
theorem dX12_gotAccepted_51 : decode cX12_gotAccepted 51 = .ok (.iand, 1) := by decide +kernel
theorem dX12_gotAccepted_52 : decode cX12_gotAccepted 52 = .ok (.iconst 1, 1) := by decide +kernel
theorem dX12_gotAccepted_53 : decode cX12_gotAccepted 53 = .ok (.if_icmp .ne 4, 3) := by decide +kernel
theorem dX12_gotAccepted_56 : decode cX12_gotAccepted 56 = .ok (.return_, 1) := by decide +kernel
theorem dX12_gotAccepted_57 : decode cX12_gotAccepted 57 = .ok (.aload_n 0, 1) := by decide +kernel
theorem dX12_gotAccepted_58 : decode cX12_gotAccepted 58 = .ok (.getfield 79, 3) := by decide +kernel
theorem dX12_gotAccepted_61 : decode cX12_gotAccepted 61 = .ok (.iload_n 1, 1) := by decide +kernel
theorem dX12_gotAccepted_62 : decode cX12_gotAccepted 62 = .ok (.dup2, 1) := by decide +kernel
theorem dX12_gotAccepted_63 : decode cX12_gotAccepted 63 = .ok (.iaload, 1) := by decide +kernel
theorem dX12_gotAccepted_64 : decode cX12_gotAccepted 64 = .ok (.iconst 1, 1) := by decide +kernel
theorem dX12_gotAccepted_65 : decode cX12_gotAccepted 65 = .ok (.iload_n 2, 1) := by decide +kernel
theorem dX12_gotAccepted_66 : decode cX12_gotAccepted 66 = .ok (.ishl, 1) := by decide +kernel
theorem dX12_gotAccepted_67 : decode cX12_gotAccepted 67 = .ok (.ior, 1) := by decide +kernel
theorem dX12_gotAccepted_68 : decode cX12_gotAccepted 68 = .ok (.iastore, 1) := by decide +kernel
theorem dX12_gotAccepted_69 : decode cX12_gotAccepted 69 = .ok (.iconst 2, 1) := by decide +kernel
theorem dX12_gotAccepted_70 : decode cX12_gotAccepted 70 = .ok (.aload_n 0, 1) := by decide +kernel
theorem dX12_gotAccepted_71 : decode cX12_gotAccepted 71 = .ok (.aload_n 0, 1) := by decide +kernel
theorem dX12_gotAccepted_72 : decode cX12_gotAccepted 72 = .ok (.getfield 79, 3) := by decide +kernel
theorem dX12_gotAccepted_75 : decode cX12_gotAccepted 75 = .ok (.iload_n 1, 1) := by decide +kernel
theorem dX12_gotAccepted_76 : decode cX12_gotAccepted 76 = .ok (.iaload, 1) := by decide +kernel
theorem dX12_gotAccepted_77 : decode cX12_gotAccepted 77 = .ok (.invokevirtual 332, 3) := by decide +kernel
theorem dX12_gotAccepted_80 : decode cX12_gotAccepted 80 = .ok (.imul, 1) := by decide +kernel
theorem dX12_gotAccepted_81 : decode cX12_gotAccepted 81 = .ok (.aload_n 0, 1) := by decide +kernel
theorem dX12_gotAccepted_82 : decode cX12_gotAccepted 82 = .ok (.getfield 184, 3) := by decide +kernel
theorem dX12_gotAccepted_85 : decode cX12_gotAccepted 85 = .ok (.if_icmp .le 47, 3) := by decide +kernel
theorem dX12_gotAccepted_88 : decode cX12_gotAccepted 88 = .ok (.aload_n 0, 1) := by decide +kernel
theorem dX12_gotAccepted_89 : decode cX12_gotAccepted 89 = .ok (.getfield 82, 3) := by decide +kernel
theorem dX12_gotAccepted_92 : decode cX12_gotAccepted 92 = .ok (.iload_n 1, 1) := by decide +kernel
theorem dX12_gotAccepted_93 : decode cX12_gotAccepted 93 = .ok (.iaload, 1) := by decide +kernel
theorem dX12_gotAccepted_94 : decode cX12_gotAccepted 94 = .ok (.istore 5, 2) := by decide +kernel
theorem dX12_gotAccepted_96 : decode cX12_gotAccepted 96 = .ok (.aload_n 0, 1) := by decide +kernel
theorem dX12_gotAccepted_97 : decode cX12_gotAccepted 97 = .ok (.iconst 5, 1) := by decide +kernel
theorem dX12_gotAccepted_98 : decode cX12_gotAccepted 98 = .ok (.iload_n 1, 1) := by decide +kernel
theorem dX12_gotAccepted_99 : decode cX12_gotAccepted 99 = .ok (.iconst 0, 1) := by decide +kernel
theorem dX12_gotAccepted_100 : decode cX12_gotAccepted 100 = .ok (.iload 4, 2) := by decide +kernel
theorem dX12_gotAccepted_102 : decode cX12_gotAccepted 102 = .ok (.iload 5, 2) := by decide +kernel
theorem dX12_gotAccepted_104 : decode cX12_gotAccepted 104 = .ok (.invokevirtual 311, 3) := by decide +kernel
theorem dX12_gotAccepted_107 : decode cX12_gotAccepted 107 = .ok (.aload_n 0, 1) := by decide +kernel
theorem dX12_gotAccepted_108 : decode cX12_gotAccepted 108 = .ok (.iload_n 1, 1) := by decide +kernel
theorem dX12_gotAccepted_109 : decode cX12_gotAccepted 109 = .ok (.iload 5, 2) := by decide +kernel
theorem dX12_gotAccepted_111 : decode cX12_gotAccepted 111 = .ok (.invokevirtual 338, 3) := by decide +kernel
theorem dX12_gotAccepted_114 : decode cX12_gotAccepted 114 = .ok (.ifCond .eq 15, 3) := by decide +kernel
theorem dX12_gotAccepted_117 : decode cX12_gotAccepted 117 = .ok (.aload_n 0, 1) := by decide +kernel
theorem dX12_gotAccepted_118 : decode cX12_gotAccepted 118 = .ok (.iload_n 1, 1) := by decide +kernel
theorem dX12_gotAccepted_119 : decode cX12_gotAccepted 119 = .ok (.invokevirtual 335, 3) := by decide +kernel
theorem dX12_gotAccepted_122 : decode cX12_gotAccepted 122 = .ok (.ifCond .eq 7, 3) := by decide +kernel
theorem dX12_gotAccepted_125 : decode cX12_gotAccepted 125 = .ok (.iconst 1, 1) := by decide +kernel
theorem dX12_gotAccepted_126 : decode cX12_gotAccepted 126 = .ok (.goto 4, 3) := by decide +kernel
theorem dX12_gotAccepted_129 : decode cX12_gotAccepted 129 = .ok (.iconst 0, 1) := by decide +kernel
theorem dX12_gotAccepted_130 : decode cX12_gotAccepted 130 = .ok (.istore 6, 2) := by decide +kernel
theorem dX12_gotAccepted_132 : decode cX12_gotAccepted 132 = .ok (.return_, 1) := by decide +kernel
theorem dX12_gotForward_0 : decode cX12_gotForward 0 = .ok (.aload_n 0, 1) := by decide +kernel
theorem dX12_gotForward_1 : decode cX12_gotForward 1 = .ok (.iload_n 1, 1) := by decide +kernel
theorem dX12_gotForward_2 : decode cX12_gotForward 2 = .ok (.iload_n 2, 1) := by decide +kernel
theorem dX12_gotForward_3 : decode cX12_gotForward 3 = .ok (.invokevirtual 317, 3) := by decide +kernel
theorem dX12_gotForward_6 : decode cX12_gotForward 6 = .ok (.ifCond .ne 9, 3) := by decide +kernel
theorem dX12_gotForward_9 : decode cX12_gotForward 9 = .ok (.aload_n 0, 1) := by decide +kernel
theorem dX12_gotForward_10 : decode cX12_gotForward 10 = .ok (.iload_n 1, 1) := by decide +kernel
theorem dX12_gotForward_11 : decode cX12_gotForward 11 = .ok (.iload_n 2, 1) := by decide +kernel
theorem dX12_gotForward_12 : decode cX12_gotForward 12 = .ok (.invokevirtual 341, 3) := by decide +kernel
theorem dX12_gotForward_15 : decode cX12_gotForward 15 = .ok (.return_, 1) := by decide +kernel
theorem dX12_gotBeat_0 : decode cX12_gotBeat 0 = .ok (.iload_n 3, 1) := by decide +kernel
theorem dX12_gotBeat_1 : decode cX12_gotBeat 1 = .ok (.aload_n 0, 1) := by decide +kernel
theorem dX12_gotBeat_2 : decode cX12_gotBeat 2 = .ok (.getfield 46, 3) := by decide +kernel
theorem dX12_gotBeat_5 : decode cX12_gotBeat 5 = .ok (.iload_n 1, 1) := by decide +kernel
theorem dX12_gotBeat_6 : decode cX12_gotBeat 6 = .ok (.iaload, 1) := by decide +kernel
theorem dX12_gotBeat_7 : decode cX12_gotBeat 7 = .ok (.if_icmp .ge 21, 3) := by decide +kernel
theorem dX12_gotBeat_10 : decode cX12_gotBeat 10 = .ok (.aload_n 0, 1) := by decide +kernel
theorem dX12_gotBeat_11 : decode cX12_gotBeat 11 = .ok (.bipush 7, 2) := by decide +kernel
theorem dX12_gotBeat_13 : decode cX12_gotBeat 13 = .ok (.iload_n 1, 1) := by decide +kernel
theorem dX12_gotBeat_14 : decode cX12_gotBeat 14 = .ok (.iload_n 2, 1) := by decide +kernel
theorem dX12_gotBeat_15 : decode cX12_gotBeat 15 = .ok (.aload_n 0, 1) := by decide +kernel
theorem dX12_gotBeat_16 : decode cX12_gotBeat 16 = .ok (.getfield 46, 3) := by decide +kernel
theorem dX12_gotBeat_19 : decode cX12_gotBeat 19 = .ok (.iload_n 1, 1) := by decide +kernel
theorem dX12_gotBeat_20 : decode cX12_gotBeat 20 = .ok (.iaload, 1) := by decide +kernel
theorem dX12_gotBeat_21 : decode cX12_gotBeat 21 = .ok (.iconst 0, 1) := by decide +kernel
theorem dX12_gotBeat_22 : decode cX12_gotBeat 22 = .ok (.iconst 0, 1) := by decide +kernel
theorem dX12_gotBeat_23 : decode cX12_gotBeat 23 = .ok (.iconst 0, 1) := by decide +kernel
theorem dX12_gotBeat_24 : decode cX12_gotBeat 24 = .ok (.invokevirtual 299, 3) := by decide +kernel
theorem dX12_gotBeat_27 : decode cX12_gotBeat 27 = .ok (.return_, 1) := by decide +kernel
theorem dX12_gotBeat_28 : decode cX12_gotBeat 28 = .ok (.aload_n 0, 1) := by decide +kernel
theorem dX12_gotBeat_29 : decode cX12_gotBeat 29 = .ok (.getfield 55, 3) := by decide +kernel
theorem dX12_gotBeat_32 : decode cX12_gotBeat 32 = .ok (.iload_n 1, 1) := by decide +kernel
theorem dX12_gotBeat_33 : decode cX12_gotBeat 33 = .ok (.iconst 0, 1) := by decide +kernel
theorem dX12_gotBeat_34 : decode cX12_gotBeat 34 = .ok (.iastore, 1) := by decide +kernel
theorem dX12_gotBeat_35 : decode cX12_gotBeat 35 = .ok (.aload_n 0, 1) := by decide +kernel
theorem dX12_gotBeat_36 : decode cX12_gotBeat 36 = .ok (.getfield 73, 3) := by decide +kernel
theorem dX12_gotBeat_39 : decode cX12_gotBeat 39 = .ok (.iload_n 1, 1) := by decide +kernel
theorem dX12_gotBeat_40 : decode cX12_gotBeat 40 = .ok (.iaload, 1) := by decide +kernel
theorem dX12_gotBeat_41 : decode cX12_gotBeat 41 = .ok (.ifCond .le 18, 3) := by decide +kernel
theorem dX12_gotBeat_44 : decode cX12_gotBeat 44 = .ok (.aload_n 0, 1) := by decide +kernel
theorem dX12_gotBeat_45 : decode cX12_gotBeat 45 = .ok (.getfield 76, 3) := by decide +kernel
theorem dX12_gotBeat_48 : decode cX12_gotBeat 48 = .ok (.iload_n 1, 1) := by decide +kernel
theorem dX12_gotBeat_49 : decode cX12_gotBeat 49 = .ok (.iaload, 1) := by decide +kernel
theorem dX12_gotBeat_50 : decode cX12_gotBeat 50 = .ok (.iload_n 3, 1) := by decide +kernel
theorem dX12_gotBeat_51 : decode cX12_gotBeat 51 = .ok (.if_icmp .ge 8, 3) := by decide +kernel
theorem dX12_gotBeat_54 : decode cX12_gotBeat 54 = .ok (.aload_n 0, 1) := by decide +kernel
theorem dX12_gotBeat_55 : decode cX12_gotBeat 55 = .ok (.iload_n 1, 1) := by decide +kernel
theorem dX12_gotBeat_56 : decode cX12_gotBeat 56 = .ok (.invokevirtual 284, 3) := by decide +kernel
theorem dX12_gotBeat_59 : decode cX12_gotBeat 59 = .ok (.iload 4, 2) := by decide +kernel
theorem dX12_gotBeat_61 : decode cX12_gotBeat 61 = .ok (.aload_n 0, 1) := by decide +kernel
theorem dX12_gotBeat_62 : decode cX12_gotBeat 62 = .ok (.getfield 37, 3) := by decide +kernel
theorem dX12_gotBeat_65 : decode cX12_gotBeat 65 = .ok (.iload_n 1, 1) := by decide +kernel
theorem dX12_gotBeat_66 : decode cX12_gotBeat 66 = .ok (.iaload, 1) := by decide +kernel
theorem dX12_gotBeat_67 : decode cX12_gotBeat 67 = .ok (.if_icmp .le 25, 3) := by decide +kernel
theorem dX12_gotBeat_70 : decode cX12_gotBeat 70 = .ok (.aload_n 0, 1) := by decide +kernel
theorem dX12_gotBeat_71 : decode cX12_gotBeat 71 = .ok (.bipush 6, 2) := by decide +kernel
theorem dX12_gotBeat_73 : decode cX12_gotBeat 73 = .ok (.iload_n 1, 1) := by decide +kernel
theorem dX12_gotBeat_74 : decode cX12_gotBeat 74 = .ok (.iload_n 2, 1) := by decide +kernel
theorem dX12_gotBeat_75 : decode cX12_gotBeat 75 = .ok (.iconst 0, 1) := by decide +kernel
theorem dX12_gotBeat_76 : decode cX12_gotBeat 76 = .ok (.aload_n 0, 1) := by decide +kernel
theorem dX12_gotBeat_77 : decode cX12_gotBeat 77 = .ok (.getfield 37, 3) := by decide +kernel
theorem dX12_gotBeat_80 : decode cX12_gotBeat 80 = .ok (.iload_n 1, 1) := by decide +kernel
theorem dX12_gotBeat_81 : decode cX12_gotBeat 81 = .ok (.iaload, 1) := by decide +kernel
theorem dX12_gotBeat_82 : decode cX12_gotBeat 82 = .ok (.iconst 1, 1) := by decide +kernel
theorem dX12_gotBeat_83 : decode cX12_gotBeat 83 = .ok (.iadd, 1) := by decide +kernel
theorem dX12_gotBeat_84 : decode cX12_gotBeat 84 = .ok (.iconst 0, 1) := by decide +kernel
theorem dX12_gotBeat_85 : decode cX12_gotBeat 85 = .ok (.iconst 0, 1) := by decide +kernel
theorem dX12_gotBeat_86 : decode cX12_gotBeat 86 = .ok (.invokevirtual 299, 3) := by decide +kernel
theorem dX12_gotBeat_89 : decode cX12_gotBeat 89 = .ok (.goto 24, 3) := by decide +kernel
theorem dX12_gotBeat_92 : decode cX12_gotBeat 92 = .ok (.iload 4, 2) := by decide +kernel
theorem dX12_gotBeat_94 : decode cX12_gotBeat 94 = .ok (.aload_n 0, 1) := by decide +kernel
theorem dX12_gotBeat_95 : decode cX12_gotBeat 95 = .ok (.getfield 37, 3) := by decide +kernel
theorem dX12_gotBeat_98 : decode cX12_gotBeat 98 = .ok (.iload_n 1, 1) := by decide +kernel
theorem dX12_gotBeat_99 : decode cX12_gotBeat 99 = .ok (.iaload, 1) := by decide +kernel
theorem dX12_gotBeat_100 : decode cX12_gotBeat 100 = .ok (.if_icmp .ge 13, 3) := by decide +kernel
theorem dX12_gotBeat_103 : decode cX12_gotBeat 103 = .ok (.aload_n 0, 1) := by decide +kernel
theorem dX12_gotBeat_104 : decode cX12_gotBeat 104 = .ok (.iload_n 1, 1) := by decide +kernel
theorem dX12_gotBeat_105 : decode cX12_gotBeat 105 = .ok (.iload_n 2, 1) := by decide +kernel
theorem dX12_gotBeat_106 : decode cX12_gotBeat 106 = .ok (.iload 4, 2) := by decide +kernel
theorem dX12_gotBeat_108 : decode cX12_gotBeat 108 = .ok (.iconst 1, 1) := by decide +kernel
theorem dX12_gotBeat_109 : decode cX12_gotBeat 109 = .ok (.iadd, 1) := by decide +kernel
theorem dX12_gotBeat_110 : decode cX12_gotBeat 110 = .ok (.invokevirtual 329, 3) := by decide +kernel
theorem dX12_gotBeat_113 : decode cX12_gotBeat 113 = .ok (.return_, 1) := by decide +kernel
theorem dX12_gotState_0 : decode cX12_gotState 0 = .ok (.iload_n 2, 1) := by decide +kernel
theorem dX12_gotState_1 : decode cX12_gotState 1 = .ok (.aload_n 0, 1) := by decide +kernel
theorem dX12_gotState_2 : decode cX12_gotState 2 = .ok (.getfield 37, 3) := by decide +kernel
theorem dX12_gotState_5 : decode cX12_gotState 5 = .ok (.iload_n 1, 1) := by decide +kernel
theorem dX12_gotState_6 : decode cX12_gotState 6 = .ok (.iaload, 1) := by decide +kernel
theorem dX12_gotState_7 : decode cX12_gotState 7 = .ok (.if_icmp .le 13, 3) := by decide +kernel
theorem dX12_gotState_10 : decode cX12_gotState 10 = .ok (.iload_n 2, 1) := by decide +kernel
theorem dX12_gotState_11 : decode cX12_gotState 11 = .ok (.aload_n 0, 1) := by decide +kernel
theorem dX12_gotState_12 : decode cX12_gotState 12 = .ok (.getfield 148, 3) := by decide +kernel
theorem dX12_gotState_15 : decode cX12_gotState 15 = .ok (.iload_n 1, 1) := by decide +kernel
theorem dX12_gotState_16 : decode cX12_gotState 16 = .ok (.iaload, 1) := by decide +kernel
theorem dX12_gotState_17 : decode cX12_gotState 17 = .ok (.if_icmp .ge 4, 3) := by decide +kernel
theorem dX12_gotState_20 : decode cX12_gotState 20 = .ok (.return_, 1) := by decide +kernel
theorem dX12_gotState_21 : decode cX12_gotState 21 = .ok (.aload_n 0, 1) := by decide +kernel
theorem dX12_gotState_22 : decode cX12_gotState 22 = .ok (.getfield 151, 3) := by decide +kernel
theorem dX12_gotState_25 : decode cX12_gotState 25 = .ok (.iload_n 1, 1) := by decide +kernel
theorem dX12_gotState_26 : decode cX12_gotState 26 = .ok (.iload_n 2, 1) := by decide +kernel
theorem dX12_gotState_27 : decode cX12_gotState 27 = .ok (.aload_n 0, 1) := by decide +kernel
theorem dX12_gotState_28 : decode cX12_gotState 28 = .ok (.getfield 148, 3) := by decide +kernel
theorem dX12_gotState_31 : decode cX12_gotState 31 = .ok (.iload_n 1, 1) := by decide +kernel
theorem dX12_gotState_32 : decode cX12_gotState 32 = .ok (.iaload, 1) := by decide +kernel
theorem dX12_gotState_33 : decode cX12_gotState 33 = .ok (.if_icmp .le 7, 3) := by decide +kernel
theorem dX12_gotState_36 : decode cX12_gotState 36 = .ok (.iconst 0, 1) := by decide +kernel
theorem dX12_gotState_37 : decode cX12_gotState 37 = .ok (.goto 9, 3) := by decide +kernel
theorem dX12_gotState_40 : decode cX12_gotState 40 = .ok (.aload_n 0, 1) := by decide +kernel
theorem dX12_gotState_41 : decode cX12_gotState 41 = .ok (.getfield 151, 3) := by decide +kernel
theorem dX12_gotState_44 : decode cX12_gotState 44 = .ok (.iload_n 1, 1) := by decide +kernel
theorem dX12_gotState_45 : decode cX12_gotState 45 = .ok (.iaload, 1) := by decide +kernel
theorem dX12_gotState_46 : decode cX12_gotState 46 = .ok (.iastore, 1) := by decide +kernel
theorem dX12_gotState_47 : decode cX12_gotState 47 = .ok (.aload_n 0, 1) := by decide +kernel
theorem dX12_gotState_48 : decode cX12_gotState 48 = .ok (.getfield 148, 3) := by decide +kernel
theorem dX12_gotState_51 : decode cX12_gotState 51 = .ok (.iload_n 1, 1) := by decide +kernel
theorem dX12_gotState_52 : decode cX12_gotState 52 = .ok (.iload_n 2, 1) := by decide +kernel
theorem dX12_gotState_53 : decode cX12_gotState 53 = .ok (.iastore, 1) := by decide +kernel
theorem dX12_gotState_54 : decode cX12_gotState 54 = .ok (.aload_n 0, 1) := by decide +kernel
theorem dX12_gotState_55 : decode cX12_gotState 55 = .ok (.getfield 151, 3) := by decide +kernel
theorem dX12_gotState_58 : decode cX12_gotState 58 = .ok (.iload_n 1, 1) := by decide +kernel
theorem dX12_gotState_59 : decode cX12_gotState 59 = .ok (.dup2, 1) := by decide +kernel
theorem dX12_gotState_60 : decode cX12_gotState 60 = .ok (.iaload, 1) := by decide +kernel
theorem dX12_gotState_61 : decode cX12_gotState 61 = .ok (.iconst 1, 1) := by decide +kernel
theorem dX12_gotState_62 : decode cX12_gotState 62 = .ok (.iload_n 3, 1) := by decide +kernel
theorem dX12_gotState_63 : decode cX12_gotState 63 = .ok (.ishl, 1) := by decide +kernel
theorem dX12_gotState_64 : decode cX12_gotState 64 = .ok (.ior, 1) := by decide +kernel
theorem dX12_gotState_65 : decode cX12_gotState 65 = .ok (.iastore, 1) := by decide +kernel
theorem dX12_gotState_66 : decode cX12_gotState 66 = .ok (.aload_n 0, 1) := by decide +kernel
theorem dX12_gotState_67 : decode cX12_gotState 67 = .ok (.aload_n 0, 1) := by decide +kernel
theorem dX12_gotState_68 : decode cX12_gotState 68 = .ok (.getfield 154, 3) := by decide +kernel
theorem dX12_gotState_71 : decode cX12_gotState 71 = .ok (.iconst 0, 1) := by decide +kernel
theorem dX12_gotState_72 : decode cX12_gotState 72 = .ok (.invokevirtual 303, 3) := by decide +kernel
theorem dX12_gotState_75 : decode cX12_gotState 75 = .ok (.bipush 63, 2) := by decide +kernel
theorem dX12_gotState_77 : decode cX12_gotState 77 = .ok (.iadd, 1) := by decide +kernel
theorem dX12_gotState_78 : decode cX12_gotState 78 = .ok (.bipush 64, 2) := by decide +kernel
theorem dX12_gotState_80 : decode cX12_gotState 80 = .ok (.idiv, 1) := by decide +kernel
theorem dX12_gotState_81 : decode cX12_gotState 81 = .ok (.istore 4, 2) := by decide +kernel
theorem dX12_gotState_83 : decode cX12_gotState 83 = .ok (.aload_n 0, 1) := by decide +kernel
theorem dX12_gotState_84 : decode cX12_gotState 84 = .ok (.getfield 151, 3) := by decide +kernel
theorem dX12_gotState_87 : decode cX12_gotState 87 = .ok (.iload_n 1, 1) := by decide +kernel
theorem dX12_gotState_88 : decode cX12_gotState 88 = .ok (.iaload, 1) := by decide +kernel
theorem dX12_gotState_89 : decode cX12_gotState 89 = .ok (.iconst 1, 1) := by decide +kernel
theorem dX12_gotState_90 : decode cX12_gotState 90 = .ok (.iload 4, 2) := by decide +kernel
theorem dX12_gotState_92 : decode cX12_gotState 92 = .ok (.ishl, 1) := by decide +kernel
theorem dX12_gotState_93 : decode cX12_gotState 93 = .ok (.iconst 1, 1) := by decide +kernel
theorem dX12_gotState_94 : decode cX12_gotState 94 = .ok (.isub, 1) := by decide +kernel
theorem dX12_gotState_95 : decode cX12_gotState 95 = .ok (.if_icmp .eq 4, 3) := by decide +kernel
theorem dX12_gotState_98 : decode cX12_gotState 98 = .ok (.return_, 1) := by decide +kernel
theorem dX12_gotState_99 : decode cX12_gotState 99 = .ok (.aload_n 0, 1) := by decide +kernel
theorem dX12_gotState_100 : decode cX12_gotState 100 = .ok (.iconst 0, 1) := by decide +kernel
theorem dX12_gotState_101 : decode cX12_gotState 101 = .ok (.putfield 218, 3) := by decide +kernel
theorem dX12_gotState_104 : decode cX12_gotState 104 = .ok (.aload_n 0, 1) := by decide +kernel
theorem dX12_gotState_105 : decode cX12_gotState 105 = .ok (.iconst 4, 1) := by decide +kernel
theorem dX12_gotState_106 : decode cX12_gotState 106 = .ok (.invokevirtual 221, 3) := by decide +kernel
theorem dX12_gotState_109 : decode cX12_gotState 109 = .ok (.aload_n 0, 1) := by decide +kernel
theorem dX12_gotState_110 : decode cX12_gotState 110 = .ok (.aload_n 0, 1) := by decide +kernel
theorem dX12_gotState_111 : decode cX12_gotState 111 = .ok (.getfield 154, 3) := by decide +kernel
theorem dX12_gotState_114 : decode cX12_gotState 114 = .ok (.iconst 0, 1) := by decide +kernel
theorem dX12_gotState_115 : decode cX12_gotState 115 = .ok (.invokevirtual 264, 3) := by decide +kernel
theorem dX12_gotState_118 : decode cX12_gotState 118 = .ok (.iconst 0, 1) := by decide +kernel
theorem dX12_gotState_119 : decode cX12_gotState 119 = .ok (.istore 5, 2) := by decide +kernel
theorem dX12_gotState_121 : decode cX12_gotState 121 = .ok (.iload 5, 2) := by decide +kernel
theorem dX12_gotState_123 : decode cX12_gotState 123 = .ok (.bipush 100, 2) := by decide +kernel
theorem dX12_gotState_125 : decode cX12_gotState 125 = .ok (.if_icmp .ge 38, 3) := by decide +kernel
theorem dX12_gotState_128 : decode cX12_gotState 128 = .ok (.aload_n 0, 1) := by decide +kernel
theorem dX12_gotState_129 : decode cX12_gotState 129 = .ok (.getfield 104, 3) := by decide +kernel
theorem dX12_gotState_132 : decode cX12_gotState 132 = .ok (.bipush 100, 2) := by decide +kernel
theorem dX12_gotState_134 : decode cX12_gotState 134 = .ok (.bipush 64, 2) := by decide +kernel
theorem dX12_gotState_136 : decode cX12_gotState 136 = .ok (.iload_n 1, 1) := by decide +kernel
theorem dX12_gotState_137 : decode cX12_gotState 137 = .ok (.imul, 1) := by decide +kernel
theorem dX12_gotState_138 : decode cX12_gotState 138 = .ok (.aload_n 0, 1) := by decide +kernel
theorem dX12_gotState_139 : decode cX12_gotState 139 = .ok (.getfield 107, 3) := by decide +kernel
theorem dX12_gotState_142 : decode cX12_gotState 142 = .ok (.iload_n 1, 1) := by decide +kernel
theorem dX12_gotState_143 : decode cX12_gotState 143 = .ok (.iaload, 1) := by decide +kernel
theorem dX12_gotState_144 : decode cX12_gotState 144 = .ok (.iadd, 1) := by decide +kernel
theorem dX12_gotState_145 : decode cX12_gotState 145 = .ok (.imul, 1) := by decide +kernel
theorem dX12_gotState_146 : decode cX12_gotState 146 = .ok (.iload 5, 2) := by decide +kernel
theorem dX12_gotState_148 : decode cX12_gotState 148 = .ok (.iadd, 1) := by decide +kernel
theorem dX12_gotState_149 : decode cX12_gotState 149 = .ok (.aload_n 0, 1) := by decide +kernel
theorem dX12_gotState_150 : decode cX12_gotState 150 = .ok (.getfield 154, 3) := by decide +kernel
theorem dX12_gotState_153 : decode cX12_gotState 153 = .ok (.iload 5, 2) := by decide +kernel
theorem dX12_gotState_155 : decode cX12_gotState 155 = .ok (.iaload, 1) := by decide +kernel
theorem dX12_gotState_156 : decode cX12_gotState 156 = .ok (.iastore, 1) := by decide +kernel
theorem dX12_gotState_157 : decode cX12_gotState 157 = .ok (.iinc 5 1, 3) := by decide +kernel
theorem dX12_gotState_160 : decode cX12_gotState 160 = .ok (.goto (-39), 3) := by decide +kernel
theorem dX12_gotState_163 : decode cX12_gotState 163 = .ok (.aload_n 0, 1) := by decide +kernel
theorem dX12_gotState_164 : decode cX12_gotState 164 = .ok (.iload_n 1, 1) := by decide +kernel
theorem dX12_gotState_165 : decode cX12_gotState 165 = .ok (.iconst 4, 1) := by decide +kernel
theorem dX12_gotState_166 : decode cX12_gotState 166 = .ok (.iconst 0, 1) := by decide +kernel
theorem dX12_gotState_167 : decode cX12_gotState 167 = .ok (.iconst 0, 1) := by decide +kernel
theorem dX12_gotState_168 : decode cX12_gotState 168 = .ok (.iconst 0, 1) := by decide +kernel
theorem dX12_gotState_169 : decode cX12_gotState 169 = .ok (.invokevirtual 253, 3) := by decide +kernel
theorem dX12_gotState_172 : decode cX12_gotState 172 = .ok (.ifCond .ne 4, 3) := by decide +kernel
theorem dX12_gotState_175 : decode cX12_gotState 175 = .ok (.return_, 1) := by decide +kernel
theorem dX12_gotState_176 : decode cX12_gotState 176 = .ok (.aload_n 0, 1) := by decide +kernel
theorem dX12_gotState_177 : decode cX12_gotState 177 = .ok (.iload_n 1, 1) := by decide +kernel
theorem dX12_gotState_178 : decode cX12_gotState 178 = .ok (.aload_n 0, 1) := by decide +kernel
theorem dX12_gotState_179 : decode cX12_gotState 179 = .ok (.getfield 154, 3) := by decide +kernel
theorem dX12_gotState_182 : decode cX12_gotState 182 = .ok (.iconst 0, 1) := by decide +kernel
theorem dX12_gotState_183 : decode cX12_gotState 183 = .ok (.invokevirtual 278, 3) := by decide +kernel
theorem dX12_gotState_186 : decode cX12_gotState 186 = .ok (.aload_n 0, 1) := by decide +kernel
theorem dX12_gotState_187 : decode cX12_gotState 187 = .ok (.iload_n 1, 1) := by decide +kernel
theorem dX12_gotState_188 : decode cX12_gotState 188 = .ok (.iconst 0, 1) := by decide +kernel
theorem dX12_gotState_189 : decode cX12_gotState 189 = .ok (.iconst 0, 1) := by decide +kernel
theorem dX12_gotState_190 : decode cX12_gotState 190 = .ok (.invokevirtual 272, 3) := by decide +kernel
theorem dX12_gotState_193 : decode cX12_gotState 193 = .ok (.aload_n 0, 1) := by decide +kernel
theorem dX12_gotState_194 : decode cX12_gotState 194 = .ok (.iload_n 1, 1) := by decide +kernel
theorem dX12_gotState_195 : decode cX12_gotState 195 = .ok (.invokevirtual 281, 3) := by decide +kernel
theorem dX12_gotState_198 : decode cX12_gotState 198 = .ok (.ifCond .ne 4, 3) := by decide +kernel
theorem dX12_gotState_201 : decode cX12_gotState 201 = .ok (.return_, 1) := by decide +kernel
theorem dX12_gotState_202 : decode cX12_gotState 202 = .ok (.aload_n 0, 1) := by decide +kernel
theorem dX12_gotState_203 : decode cX12_gotState 203 = .ok (.iload_n 1, 1) := by decide +kernel
theorem dX12_gotState_204 : decode cX12_gotState 204 = .ok (.invokevirtual 284, 3) := by decide +kernel
theorem dX12_gotState_207 : decode cX12_gotState 207 = .ok (.aload_n 0, 1) := by decide +kernel
theorem dX12_gotState_208 : decode cX12_gotState 208 = .ok (.getfield 55, 3) := by decide +kernel
theorem dX12_gotState_211 : decode cX12_gotState 211 = .ok (.iload_n 1, 1) := by decide +kernel
theorem dX12_gotState_212 : decode cX12_gotState 212 = .ok (.iconst 0, 1) := by decide +kernel
theorem dX12_gotState_213 : decode cX12_gotState 213 = .ok (.iastore, 1) := by decide +kernel
theorem dX12_gotState_214 : decode cX12_gotState 214 = .ok (.aload_n 0, 1) := by decide +kernel
theorem dX12_gotState_215 : decode cX12_gotState 215 = .ok (.iload_n 1, 1) := by decide +kernel
theorem dX12_gotState_216 : decode cX12_gotState 216 = .ok (.invokevirtual 326, 3) := by decide +kernel
theorem dX12_gotState_219 : decode cX12_gotState 219 = .ok (.return_, 1) := by decide +kernel
theorem dX12_comes_0 : decode cX12_comes 0 = .ok (.aload_n 0, 1) := by decide +kernel
theorem dX12_comes_1 : decode cX12_comes 1 = .ok (.getfield 91, 3) := by decide +kernel
theorem dX12_comes_4 : decode cX12_comes 4 = .ok (.iload_n 3, 1) := by decide +kernel
theorem dX12_comes_5 : decode cX12_comes 5 = .ok (.iload 4, 2) := by decide +kernel
theorem dX12_comes_7 : decode cX12_comes 7 = .ok (.aload_n 0, 1) := by decide +kernel
theorem dX12_comes_8 : decode cX12_comes 8 = .ok (.getfield 91, 3) := by decide +kernel
theorem dX12_comes_11 : decode cX12_comes 11 = .ok (.iload_n 3, 1) := by decide +kernel
theorem dX12_comes_12 : decode cX12_comes 12 = .ok (.iaload, 1) := by decide +kernel
theorem dX12_comes_13 : decode cX12_comes 13 = .ok (.if_icmp .le 8, 3) := by decide +kernel
theorem dX12_comes_16 : decode cX12_comes 16 = .ok (.iload 4, 2) := by decide +kernel
theorem dX12_comes_18 : decode cX12_comes 18 = .ok (.goto 9, 3) := by decide +kernel
theorem dX12_comes_21 : decode cX12_comes 21 = .ok (.aload_n 0, 1) := by decide +kernel
theorem dX12_comes_22 : decode cX12_comes 22 = .ok (.getfield 91, 3) := by decide +kernel
theorem dX12_comes_25 : decode cX12_comes 25 = .ok (.iload_n 3, 1) := by decide +kernel
theorem dX12_comes_26 : decode cX12_comes 26 = .ok (.iaload, 1) := by decide +kernel
theorem dX12_comes_27 : decode cX12_comes 27 = .ok (.iastore, 1) := by decide +kernel
theorem dX12_comes_28 : decode cX12_comes 28 = .ok (.iload_n 1, 1) := by decide +kernel
theorem dX12_comes_29 : decode cX12_comes 29 = .ok (.tableswitch 243 1 9 #[51, 64, 81, 96, 109, 169, 191, 219, 233], 51) := by decide +kernel
theorem dX12_comes_80 : decode cX12_comes 80 = .ok (.aload_n 0, 1) := by decide +kernel
theorem dX12_comes_81 : decode cX12_comes 81 = .ok (.iload_n 3, 1) := by decide +kernel
theorem dX12_comes_82 : decode cX12_comes 82 = .ok (.iload_n 2, 1) := by decide +kernel
theorem dX12_comes_83 : decode cX12_comes 83 = .ok (.iload 4, 2) := by decide +kernel
theorem dX12_comes_85 : decode cX12_comes 85 = .ok (.iload 5, 2) := by decide +kernel
theorem dX12_comes_87 : decode cX12_comes 87 = .ok (.invokevirtual 344, 3) := by decide +kernel
theorem dX12_comes_90 : decode cX12_comes 90 = .ok (.goto 192, 3) := by decide +kernel
theorem dX12_comes_93 : decode cX12_comes 93 = .ok (.aload_n 0, 1) := by decide +kernel
theorem dX12_comes_94 : decode cX12_comes 94 = .ok (.iload_n 3, 1) := by decide +kernel
theorem dX12_comes_95 : decode cX12_comes 95 = .ok (.iload_n 2, 1) := by decide +kernel
theorem dX12_comes_96 : decode cX12_comes 96 = .ok (.iload 4, 2) := by decide +kernel
theorem dX12_comes_98 : decode cX12_comes 98 = .ok (.iload 5, 2) := by decide +kernel
theorem dX12_comes_100 : decode cX12_comes 100 = .ok (.iload 6, 2) := by decide +kernel
theorem dX12_comes_102 : decode cX12_comes 102 = .ok (.iload 7, 2) := by decide +kernel
theorem dX12_comes_104 : decode cX12_comes 104 = .ok (.invokevirtual 348, 3) := by decide +kernel
theorem dX12_comes_107 : decode cX12_comes 107 = .ok (.goto 175, 3) := by decide +kernel
theorem dX12_comes_110 : decode cX12_comes 110 = .ok (.aload_n 0, 1) := by decide +kernel
theorem dX12_comes_111 : decode cX12_comes 111 = .ok (.iload_n 3, 1) := by decide +kernel
theorem dX12_comes_112 : decode cX12_comes 112 = .ok (.iload_n 2, 1) := by decide +kernel
theorem dX12_comes_113 : decode cX12_comes 113 = .ok (.iload 4, 2) := by decide +kernel
theorem dX12_comes_115 : decode cX12_comes 115 = .ok (.iload 5, 2) := by decide +kernel
theorem dX12_comes_117 : decode cX12_comes 117 = .ok (.iload 6, 2) := by decide +kernel
theorem dX12_comes_119 : decode cX12_comes 119 = .ok (.invokevirtual 352, 3) := by decide +kernel
theorem dX12_comes_122 : decode cX12_comes 122 = .ok (.goto 160, 3) := by decide +kernel
theorem dX12_comes_125 : decode cX12_comes 125 = .ok (.aload_n 0, 1) := by decide +kernel
theorem dX12_comes_126 : decode cX12_comes 126 = .ok (.iload_n 3, 1) := by decide +kernel
theorem dX12_comes_127 : decode cX12_comes 127 = .ok (.iload_n 2, 1) := by decide +kernel
theorem dX12_comes_128 : decode cX12_comes 128 = .ok (.iload 4, 2) := by decide +kernel
theorem dX12_comes_130 : decode cX12_comes 130 = .ok (.iload 5, 2) := by decide +kernel
theorem dX12_comes_132 : decode cX12_comes 132 = .ok (.invokevirtual 355, 3) := by decide +kernel
theorem dX12_comes_135 : decode cX12_comes 135 = .ok (.goto 147, 3) := by decide +kernel
theorem dX12_comes_138 : decode cX12_comes 138 = .ok (.iload 5, 2) := by decide +kernel
theorem dX12_comes_140 : decode cX12_comes 140 = .ok (.aload_n 0, 1) := by decide +kernel
theorem dX12_comes_141 : decode cX12_comes 141 = .ok (.getfield 37, 3) := by decide +kernel
theorem dX12_comes_144 : decode cX12_comes 144 = .ok (.iload_n 3, 1) := by decide +kernel
theorem dX12_comes_145 : decode cX12_comes 145 = .ok (.iaload, 1) := by decide +kernel
theorem dX12_comes_146 : decode cX12_comes 146 = .ok (.iconst 1, 1) := by decide +kernel
theorem dX12_comes_147 : decode cX12_comes 147 = .ok (.iadd, 1) := by decide +kernel
theorem dX12_comes_148 : decode cX12_comes 148 = .ok (.if_icmp .ne 15, 3) := by decide +kernel
theorem dX12_comes_151 : decode cX12_comes 151 = .ok (.aload_n 0, 1) := by decide +kernel
theorem dX12_comes_152 : decode cX12_comes 152 = .ok (.iload_n 3, 1) := by decide +kernel
theorem dX12_comes_153 : decode cX12_comes 153 = .ok (.iload 6, 2) := by decide +kernel
theorem dX12_comes_155 : decode cX12_comes 155 = .ok (.invokevirtual 338, 3) := by decide +kernel
theorem dX12_comes_158 : decode cX12_comes 158 = .ok (.istore 8, 2) := by decide +kernel
theorem dX12_comes_160 : decode cX12_comes 160 = .ok (.goto 122, 3) := by decide +kernel
theorem dX12_comes_163 : decode cX12_comes 163 = .ok (.iload 5, 2) := by decide +kernel
theorem dX12_comes_165 : decode cX12_comes 165 = .ok (.aload_n 0, 1) := by decide +kernel
theorem dX12_comes_166 : decode cX12_comes 166 = .ok (.getfield 37, 3) := by decide +kernel
theorem dX12_comes_169 : decode cX12_comes 169 = .ok (.iload_n 3, 1) := by decide +kernel
theorem dX12_comes_170 : decode cX12_comes 170 = .ok (.iaload, 1) := by decide +kernel
theorem dX12_comes_171 : decode cX12_comes 171 = .ok (.iconst 1, 1) := by decide +kernel
theorem dX12_comes_172 : decode cX12_comes 172 = .ok (.iadd, 1) := by decide +kernel
theorem dX12_comes_173 : decode cX12_comes 173 = .ok (.if_icmp .le 109, 3) := by decide +kernel
theorem dX12_comes_176 : decode cX12_comes 176 = .ok (.aload_n 0, 1) := by decide +kernel
theorem dX12_comes_177 : decode cX12_comes 177 = .ok (.bipush 6, 2) := by decide +kernel
theorem dX12_comes_179 : decode cX12_comes 179 = .ok (.iload_n 3, 1) := by decide +kernel
theorem dX12_comes_180 : decode cX12_comes 180 = .ok (.iload_n 2, 1) := by decide +kernel
theorem dX12_comes_181 : decode cX12_comes 181 = .ok (.iconst 0, 1) := by decide +kernel
theorem dX12_comes_182 : decode cX12_comes 182 = .ok (.aload_n 0, 1) := by decide +kernel
theorem dX12_comes_183 : decode cX12_comes 183 = .ok (.getfield 37, 3) := by decide +kernel
theorem dX12_comes_186 : decode cX12_comes 186 = .ok (.iload_n 3, 1) := by decide +kernel
theorem dX12_comes_187 : decode cX12_comes 187 = .ok (.iaload, 1) := by decide +kernel
theorem dX12_comes_188 : decode cX12_comes 188 = .ok (.iconst 1, 1) := by decide +kernel
theorem dX12_comes_189 : decode cX12_comes 189 = .ok (.iadd, 1) := by decide +kernel
theorem dX12_comes_190 : decode cX12_comes 190 = .ok (.iconst 0, 1) := by decide +kernel
theorem dX12_comes_191 : decode cX12_comes 191 = .ok (.iconst 0, 1) := by decide +kernel
theorem dX12_comes_192 : decode cX12_comes 192 = .ok (.invokevirtual 299, 3) := by decide +kernel
theorem dX12_comes_195 : decode cX12_comes 195 = .ok (.goto 87, 3) := by decide +kernel
theorem dX12_comes_198 : decode cX12_comes 198 = .ok (.iload 5, 2) := by decide +kernel
theorem dX12_comes_200 : decode cX12_comes 200 = .ok (.aload_n 0, 1) := by decide +kernel
theorem dX12_comes_201 : decode cX12_comes 201 = .ok (.getfield 37, 3) := by decide +kernel
theorem dX12_comes_204 : decode cX12_comes 204 = .ok (.iload_n 3, 1) := by decide +kernel
theorem dX12_comes_205 : decode cX12_comes 205 = .ok (.iaload, 1) := by decide +kernel
theorem dX12_comes_206 : decode cX12_comes 206 = .ok (.if_icmp .gt 76, 3) := by decide +kernel
theorem dX12_comes_209 : decode cX12_comes 209 = .ok (.aload_n 0, 1) := by decide +kernel
theorem dX12_comes_210 : decode cX12_comes 210 = .ok (.iload_n 3, 1) := by decide +kernel
theorem dX12_comes_211 : decode cX12_comes 211 = .ok (.iload_n 2, 1) := by decide +kernel
theorem dX12_comes_212 : decode cX12_comes 212 = .ok (.iload 5, 2) := by decide +kernel
theorem dX12_comes_214 : decode cX12_comes 214 = .ok (.invokevirtual 329, 3) := by decide +kernel
theorem dX12_comes_217 : decode cX12_comes 217 = .ok (.goto 65, 3) := by decide +kernel
theorem dX12_comes_220 : decode cX12_comes 220 = .ok (.aload_n 0, 1) := by decide +kernel
theorem dX12_comes_221 : decode cX12_comes 221 = .ok (.getfield 73, 3) := by decide +kernel
theorem dX12_comes_224 : decode cX12_comes 224 = .ok (.iload_n 3, 1) := by decide +kernel
theorem dX12_comes_225 : decode cX12_comes 225 = .ok (.iaload, 1) := by decide +kernel
theorem dX12_comes_226 : decode cX12_comes 226 = .ok (.ifCond .le 56, 3) := by decide +kernel
theorem dX12_comes_229 : decode cX12_comes 229 = .ok (.aload_n 0, 1) := by decide +kernel
theorem dX12_comes_230 : decode cX12_comes 230 = .ok (.getfield 76, 3) := by decide +kernel
theorem dX12_comes_233 : decode cX12_comes 233 = .ok (.iload_n 3, 1) := by decide +kernel
theorem dX12_comes_234 : decode cX12_comes 234 = .ok (.iaload, 1) := by decide +kernel
theorem dX12_comes_235 : decode cX12_comes 235 = .ok (.iload 4, 2) := by decide +kernel
theorem dX12_comes_237 : decode cX12_comes 237 = .ok (.if_icmp .ge 45, 3) := by decide +kernel
theorem dX12_comes_240 : decode cX12_comes 240 = .ok (.aload_n 0, 1) := by decide +kernel
theorem dX12_comes_241 : decode cX12_comes 241 = .ok (.iload_n 3, 1) := by decide +kernel
theorem dX12_comes_242 : decode cX12_comes 242 = .ok (.invokevirtual 284, 3) := by decide +kernel
theorem dX12_comes_245 : decode cX12_comes 245 = .ok (.goto 37, 3) := by decide +kernel
theorem dX12_comes_248 : decode cX12_comes 248 = .ok (.aload_n 0, 1) := by decide +kernel
theorem dX12_comes_249 : decode cX12_comes 249 = .ok (.iload_n 3, 1) := by decide +kernel
theorem dX12_comes_250 : decode cX12_comes 250 = .ok (.iload 5, 2) := by decide +kernel
theorem dX12_comes_252 : decode cX12_comes 252 = .ok (.aload_n 0, 1) := by decide +kernel
theorem dX12_comes_253 : decode cX12_comes 253 = .ok (.getfield 358, 3) := by decide +kernel
theorem dX12_comes_256 : decode cX12_comes 256 = .ok (.invokevirtual 361, 3) := by decide +kernel
theorem dX12_comes_259 : decode cX12_comes 259 = .ok (.goto 23, 3) := by decide +kernel
theorem dX12_comes_262 : decode cX12_comes 262 = .ok (.aload_n 0, 1) := by decide +kernel
theorem dX12_comes_263 : decode cX12_comes 263 = .ok (.iload_n 3, 1) := by decide +kernel
theorem dX12_comes_264 : decode cX12_comes 264 = .ok (.iload 6, 2) := by decide +kernel
theorem dX12_comes_266 : decode cX12_comes 266 = .ok (.invokevirtual 364, 3) := by decide +kernel
theorem dX12_comes_269 : decode cX12_comes 269 = .ok (.goto 13, 3) := by decide +kernel
theorem dX12_comes_272 : decode cX12_comes 272 = .ok (.aload_n 0, 1) := by decide +kernel
theorem dX12_comes_273 : decode cX12_comes 273 = .ok (.iload_n 3, 1) := by decide +kernel
theorem dX12_comes_274 : decode cX12_comes 274 = .ok (.iload_n 2, 1) := by decide +kernel
theorem dX12_comes_275 : decode cX12_comes 275 = .ok (.iload 4, 2) := by decide +kernel
theorem dX12_comes_277 : decode cX12_comes 277 = .ok (.iload 5, 2) := by decide +kernel
theorem dX12_comes_279 : decode cX12_comes 279 = .ok (.invokevirtual 367, 3) := by decide +kernel
theorem dX12_comes_282 : decode cX12_comes 282 = .ok (.return_, 1) := by decide +kernel
theorem dX12_beginAt_0 : decode cX12_beginAt 0 = .ok (.aload_n 0, 1) := by decide +kernel
theorem dX12_beginAt_1 : decode cX12_beginAt 1 = .ok (.iconst 0, 1) := by decide +kernel
theorem dX12_beginAt_2 : decode cX12_beginAt 2 = .ok (.putfield 204, 3) := by decide +kernel
theorem dX12_beginAt_5 : decode cX12_beginAt 5 = .ok (.iload_n 1, 1) := by decide +kernel
theorem dX12_beginAt_6 : decode cX12_beginAt 6 = .ok (.invokestatic 370, 3) := by decide +kernel
theorem dX12_beginAt_9 : decode cX12_beginAt 9 = .ok (.ifCond .eq 31, 3) := by decide +kernel
theorem dX12_beginAt_12 : decode cX12_beginAt 12 = .ok (.aload_n 0, 1) := by decide +kernel
theorem dX12_beginAt_13 : decode cX12_beginAt 13 = .ok (.iload_n 2, 1) := by decide +kernel
theorem dX12_beginAt_14 : decode cX12_beginAt 14 = .ok (.invokevirtual 373, 3) := by decide +kernel
theorem dX12_beginAt_17 : decode cX12_beginAt 17 = .ok (.ifCond .eq 23, 3) := by decide +kernel
theorem dX12_beginAt_20 : decode cX12_beginAt 20 = .ok (.aload_n 0, 1) := by decide +kernel
theorem dX12_beginAt_21 : decode cX12_beginAt 21 = .ok (.getfield 157, 3) := by decide +kernel
theorem dX12_beginAt_24 : decode cX12_beginAt 24 = .ok (.iload_n 1, 1) := by decide +kernel
theorem dX12_beginAt_25 : decode cX12_beginAt 25 = .ok (.iaload, 1) := by decide +kernel
theorem dX12_beginAt_26 : decode cX12_beginAt 26 = .ok (.iconst 1, 1) := by decide +kernel
theorem dX12_beginAt_27 : decode cX12_beginAt 27 = .ok (.if_icmp .eq 13, 3) := by decide +kernel
theorem dX12_beginAt_30 : decode cX12_beginAt 30 = .ok (.aload_n 0, 1) := by decide +kernel
theorem dX12_beginAt_31 : decode cX12_beginAt 31 = .ok (.getfield 157, 3) := by decide +kernel
theorem dX12_beginAt_34 : decode cX12_beginAt 34 = .ok (.iload_n 1, 1) := by decide +kernel
theorem dX12_beginAt_35 : decode cX12_beginAt 35 = .ok (.iaload, 1) := by decide +kernel
theorem dX12_beginAt_36 : decode cX12_beginAt 36 = .ok (.iconst 2, 1) := by decide +kernel
theorem dX12_beginAt_37 : decode cX12_beginAt 37 = .ok (.if_icmp .ne 5, 3) := by decide +kernel
theorem dX12_beginAt_40 : decode cX12_beginAt 40 = .ok (.iconst 0, 1) := by decide +kernel
theorem dX12_beginAt_41 : decode cX12_beginAt 41 = .ok (.ireturn, 1) := by decide +kernel
theorem dX12_beginAt_42 : decode cX12_beginAt 42 = .ok (.aload_n 0, 1) := by decide +kernel
theorem dX12_beginAt_43 : decode cX12_beginAt 43 = .ok (.getfield 157, 3) := by decide +kernel
theorem dX12_beginAt_46 : decode cX12_beginAt 46 = .ok (.iload_n 1, 1) := by decide +kernel
theorem dX12_beginAt_47 : decode cX12_beginAt 47 = .ok (.iconst 1, 1) := by decide +kernel
theorem dX12_beginAt_48 : decode cX12_beginAt 48 = .ok (.iastore, 1) := by decide +kernel
theorem dX12_beginAt_49 : decode cX12_beginAt 49 = .ok (.aload_n 0, 1) := by decide +kernel
theorem dX12_beginAt_50 : decode cX12_beginAt 50 = .ok (.getfield 163, 3) := by decide +kernel
theorem dX12_beginAt_53 : decode cX12_beginAt 53 = .ok (.iload_n 1, 1) := by decide +kernel
theorem dX12_beginAt_54 : decode cX12_beginAt 54 = .ok (.iload_n 2, 1) := by decide +kernel
theorem dX12_beginAt_55 : decode cX12_beginAt 55 = .ok (.iastore, 1) := by decide +kernel
theorem dX12_beginAt_56 : decode cX12_beginAt 56 = .ok (.aload_n 0, 1) := by decide +kernel
theorem dX12_beginAt_57 : decode cX12_beginAt 57 = .ok (.getfield 166, 3) := by decide +kernel
theorem dX12_beginAt_60 : decode cX12_beginAt 60 = .ok (.iload_n 1, 1) := by decide +kernel
theorem dX12_beginAt_61 : decode cX12_beginAt 61 = .ok (.aload_n 0, 1) := by decide +kernel
theorem dX12_beginAt_62 : decode cX12_beginAt 62 = .ok (.getfield 37, 3) := by decide +kernel
theorem dX12_beginAt_65 : decode cX12_beginAt 65 = .ok (.iload_n 2, 1) := by decide +kernel
theorem dX12_beginAt_66 : decode cX12_beginAt 66 = .ok (.iaload, 1) := by decide +kernel
theorem dX12_beginAt_67 : decode cX12_beginAt 67 = .ok (.iastore, 1) := by decide +kernel
theorem dX12_beginAt_68 : decode cX12_beginAt 68 = .ok (.aload_n 0, 1) := by decide +kernel
theorem dX12_beginAt_69 : decode cX12_beginAt 69 = .ok (.getfield 169, 3) := by decide +kernel
theorem dX12_beginAt_72 : decode cX12_beginAt 72 = .ok (.iload_n 1, 1) := by decide +kernel
theorem dX12_beginAt_73 : decode cX12_beginAt 73 = .ok (.iconst 0, 1) := by decide +kernel
theorem dX12_beginAt_74 : decode cX12_beginAt 74 = .ok (.iastore, 1) := by decide +kernel
theorem dX12_beginAt_75 : decode cX12_beginAt 75 = .ok (.aload_n 0, 1) := by decide +kernel
theorem dX12_beginAt_76 : decode cX12_beginAt 76 = .ok (.getfield 172, 3) := by decide +kernel
theorem dX12_beginAt_79 : decode cX12_beginAt 79 = .ok (.iload_n 1, 1) := by decide +kernel
theorem dX12_beginAt_80 : decode cX12_beginAt 80 = .ok (.iconst 0, 1) := by decide +kernel
theorem dX12_beginAt_81 : decode cX12_beginAt 81 = .ok (.iastore, 1) := by decide +kernel
theorem dX12_beginAt_82 : decode cX12_beginAt 82 = .ok (.aload_n 0, 1) := by decide +kernel
theorem dX12_beginAt_83 : decode cX12_beginAt 83 = .ok (.getfield 175, 3) := by decide +kernel
theorem dX12_beginAt_86 : decode cX12_beginAt 86 = .ok (.iload_n 1, 1) := by decide +kernel
theorem dX12_beginAt_87 : decode cX12_beginAt 87 = .ok (.iload_n 3, 1) := by decide +kernel
theorem dX12_beginAt_88 : decode cX12_beginAt 88 = .ok (.bastore, 1) := by decide +kernel
theorem dX12_beginAt_89 : decode cX12_beginAt 89 = .ok (.iconst 1, 1) := by decide +kernel
theorem dX12_beginAt_90 : decode cX12_beginAt 90 = .ok (.ireturn, 1) := by decide +kernel
theorem dX12_readKey_0 : decode cX12_readKey 0 = .ok (.aload_n 0, 1) := by decide +kernel
theorem dX12_readKey_1 : decode cX12_readKey 1 = .ok (.iload_n 1, 1) := by decide +kernel
theorem dX12_readKey_2 : decode cX12_readKey 2 = .ok (.invokestatic 370, 3) := by decide +kernel
theorem dX12_readKey_5 : decode cX12_readKey 5 = .ok (.ifCond .eq 10, 3) := by decide +kernel
theorem dX12_readKey_8 : decode cX12_readKey 8 = .ok (.iload_n 2, 1) := by decide +kernel
theorem dX12_readKey_9 : decode cX12_readKey 9 = .ok (.invokestatic 376, 3) := by decide +kernel
theorem dX12_readKey_12 : decode cX12_readKey 12 = .ok (.ifCond .ne 7, 3) := by decide +kernel
theorem dX12_readKey_15 : decode cX12_readKey 15 = .ok (.iconst 1, 1) := by decide +kernel
theorem dX12_readKey_16 : decode cX12_readKey 16 = .ok (.goto 4, 3) := by decide +kernel
theorem dX12_readKey_19 : decode cX12_readKey 19 = .ok (.iconst 0, 1) := by decide +kernel
theorem dX12_readKey_20 : decode cX12_readKey 20 = .ok (.putfield 204, 3) := by decide +kernel
theorem dX12_readKey_23 : decode cX12_readKey 23 = .ok (.aload_n 0, 1) := by decide +kernel
theorem dX12_readKey_24 : decode cX12_readKey 24 = .ok (.getfield 204, 3) := by decide +kernel
theorem dX12_readKey_27 : decode cX12_readKey 27 = .ok (.ifCond .le 5, 3) := by decide +kernel
theorem dX12_readKey_30 : decode cX12_readKey 30 = .ok (.iconst 0, 1) := by decide +kernel
theorem dX12_readKey_31 : decode cX12_readKey 31 = .ok (.ireturn, 1) := by decide +kernel
theorem dX12_readKey_32 : decode cX12_readKey 32 = .ok (.aload_n 0, 1) := by decide +kernel
theorem dX12_readKey_33 : decode cX12_readKey 33 = .ok (.aload_n 0, 1) := by decide +kernel
theorem dX12_readKey_34 : decode cX12_readKey 34 = .ok (.getfield 157, 3) := by decide +kernel
theorem dX12_readKey_37 : decode cX12_readKey 37 = .ok (.iload_n 1, 1) := by decide +kernel
theorem dX12_readKey_38 : decode cX12_readKey 38 = .ok (.iaload, 1) := by decide +kernel
theorem dX12_readKey_39 : decode cX12_readKey 39 = .ok (.iconst 1, 1) := by decide +kernel
theorem dX12_readKey_40 : decode cX12_readKey 40 = .ok (.if_icmp .eq 7, 3) := by decide +kernel
theorem dX12_readKey_43 : decode cX12_readKey 43 = .ok (.iconst 2, 1) := by decide +kernel
theorem dX12_readKey_44 : decode cX12_readKey 44 = .ok (.goto 4, 3) := by decide +kernel
theorem dX12_readKey_47 : decode cX12_readKey 47 = .ok (.iconst 0, 1) := by decide +kernel
theorem dX12_readKey_48 : decode cX12_readKey 48 = .ok (.putfield 204, 3) := by decide +kernel
theorem dX12_readKey_51 : decode cX12_readKey 51 = .ok (.aload_n 0, 1) := by decide +kernel
theorem dX12_readKey_52 : decode cX12_readKey 52 = .ok (.getfield 204, 3) := by decide +kernel
theorem dX12_readKey_55 : decode cX12_readKey 55 = .ok (.ifCond .le 5, 3) := by decide +kernel
theorem dX12_readKey_58 : decode cX12_readKey 58 = .ok (.iconst 0, 1) := by decide +kernel
theorem dX12_readKey_59 : decode cX12_readKey 59 = .ok (.ireturn, 1) := by decide +kernel
theorem dX12_readKey_60 : decode cX12_readKey 60 = .ok (.aload_n 0, 1) := by decide +kernel
theorem dX12_readKey_61 : decode cX12_readKey 61 = .ok (.getfield 163, 3) := by decide +kernel
theorem dX12_readKey_64 : decode cX12_readKey 64 = .ok (.iload_n 1, 1) := by decide +kernel
theorem dX12_readKey_65 : decode cX12_readKey 65 = .ok (.iaload, 1) := by decide +kernel
theorem dX12_readKey_66 : decode cX12_readKey 66 = .ok (.istore_n 3, 1) := by decide +kernel
theorem dX12_readKey_67 : decode cX12_readKey 67 = .ok (.aload_n 0, 1) := by decide +kernel
theorem dX12_readKey_68 : decode cX12_readKey 68 = .ok (.getfield 166, 3) := by decide +kernel
theorem dX12_readKey_71 : decode cX12_readKey 71 = .ok (.iload_n 1, 1) := by decide +kernel
theorem dX12_readKey_72 : decode cX12_readKey 72 = .ok (.iaload, 1) := by decide +kernel
theorem dX12_readKey_73 : decode cX12_readKey 73 = .ok (.aload_n 0, 1) := by decide +kernel
theorem dX12_readKey_74 : decode cX12_readKey 74 = .ok (.getfield 40, 3) := by decide +kernel
theorem dX12_readKey_77 : decode cX12_readKey 77 = .ok (.iload_n 3, 1) := by decide +kernel
theorem dX12_readKey_78 : decode cX12_readKey 78 = .ok (.iaload, 1) := by decide +kernel
theorem dX12_readKey_79 : decode cX12_readKey 79 = .ok (.if_icmp .ge 17, 3) := by decide +kernel
theorem dX12_readKey_82 : decode cX12_readKey 82 = .ok (.aload_n 0, 1) := by decide +kernel
theorem dX12_readKey_83 : decode cX12_readKey 83 = .ok (.getfield 157, 3) := by decide +kernel
theorem dX12_readKey_86 : decode cX12_readKey 86 = .ok (.iload_n 1, 1) := by decide +kernel
theorem dX12_readKey_87 : decode cX12_readKey 87 = .ok (.iconst 4, 1) := by decide +kernel
theorem dX12_readKey_88 : decode cX12_readKey 88 = .ok (.iastore, 1) := by decide +kernel
theorem dX12_readKey_89 : decode cX12_readKey 89 = .ok (.aload_n 0, 1) := by decide +kernel
theorem dX12_readKey_90 : decode cX12_readKey 90 = .ok (.iconst 2, 1) := by decide +kernel
theorem dX12_readKey_91 : decode cX12_readKey 91 = .ok (.putfield 204, 3) := by decide +kernel
theorem dX12_readKey_94 : decode cX12_readKey 94 = .ok (.iconst 0, 1) := by decide +kernel
theorem dX12_readKey_95 : decode cX12_readKey 95 = .ok (.ireturn, 1) := by decide +kernel
theorem dX12_readKey_96 : decode cX12_readKey 96 = .ok (.aload_n 0, 1) := by decide +kernel
theorem dX12_readKey_97 : decode cX12_readKey 97 = .ok (.getfield 172, 3) := by decide +kernel
theorem dX12_readKey_100 : decode cX12_readKey 100 = .ok (.iload_n 1, 1) := by decide +kernel
theorem dX12_readKey_101 : decode cX12_readKey 101 = .ok (.iaload, 1) := by decide +kernel
theorem dX12_readKey_102 : decode cX12_readKey 102 = .ok (.iload_n 2, 1) := by decide +kernel
theorem dX12_readKey_103 : decode cX12_readKey 103 = .ok (.ishr, 1) := by decide +kernel
theorem dX12_readKey_104 : decode cX12_readKey 104 = .ok (.iconst 1, 1) := by decide +kernel
theorem dX12_readKey_105 : decode cX12_readKey 105 = .ok (.iand, 1) := by decide +kernel
theorem dX12_readKey_106 : decode cX12_readKey 106 = .ok (.iconst 1, 1) := by decide +kernel
theorem dX12_readKey_107 : decode cX12_readKey 107 = .ok (.if_icmp .ne 15, 3) := by decide +kernel
theorem dX12_readKey_110 : decode cX12_readKey 110 = .ok (.aload_n 0, 1) := by decide +kernel
theorem dX12_readKey_111 : decode cX12_readKey 111 = .ok (.getfield 181, 3) := by decide +kernel
theorem dX12_readKey_114 : decode cX12_readKey 114 = .ok (.bipush 16, 2) := by decide +kernel
theorem dX12_readKey_116 : decode cX12_readKey 116 = .ok (.iload_n 1, 1) := by decide +kernel
theorem dX12_readKey_117 : decode cX12_readKey 117 = .ok (.imul, 1) := by decide +kernel
theorem dX12_readKey_118 : decode cX12_readKey 118 = .ok (.iload_n 2, 1) := by decide +kernel
theorem dX12_readKey_119 : decode cX12_readKey 119 = .ok (.iadd, 1) := by decide +kernel
theorem dX12_readKey_120 : decode cX12_readKey 120 = .ok (.iaload, 1) := by decide +kernel
theorem dX12_readKey_121 : decode cX12_readKey 121 = .ok (.ireturn, 1) := by decide +kernel
theorem dX12_readKey_122 : decode cX12_readKey 122 = .ok (.aload_n 0, 1) := by decide +kernel
theorem dX12_readKey_123 : decode cX12_readKey 123 = .ok (.getfield 169, 3) := by decide +kernel
theorem dX12_readKey_126 : decode cX12_readKey 126 = .ok (.iload_n 1, 1) := by decide +kernel
theorem dX12_readKey_127 : decode cX12_readKey 127 = .ok (.dup2, 1) := by decide +kernel
theorem dX12_readKey_128 : decode cX12_readKey 128 = .ok (.iaload, 1) := by decide +kernel
theorem dX12_readKey_129 : decode cX12_readKey 129 = .ok (.iconst 1, 1) := by decide +kernel
theorem dX12_readKey_130 : decode cX12_readKey 130 = .ok (.iload_n 2, 1) := by decide +kernel
theorem dX12_readKey_131 : decode cX12_readKey 131 = .ok (.ishl, 1) := by decide +kernel
theorem dX12_readKey_132 : decode cX12_readKey 132 = .ok (.ior, 1) := by decide +kernel
theorem dX12_readKey_133 : decode cX12_readKey 133 = .ok (.iastore, 1) := by decide +kernel
theorem dX12_readKey_134 : decode cX12_readKey 134 = .ok (.aload_n 0, 1) := by decide +kernel
theorem dX12_readKey_135 : decode cX12_readKey 135 = .ok (.getfield 58, 3) := by decide +kernel
theorem dX12_readKey_138 : decode cX12_readKey 138 = .ok (.bipush 16, 2) := by decide +kernel
theorem dX12_readKey_140 : decode cX12_readKey 140 = .ok (.iload_n 3, 1) := by decide +kernel
theorem dX12_readKey_141 : decode cX12_readKey 141 = .ok (.aload_n 0, 1) := by decide +kernel
theorem dX12_readKey_142 : decode cX12_readKey 142 = .ok (.getfield 166, 3) := by decide +kernel
theorem dX12_readKey_145 : decode cX12_readKey 145 = .ok (.iload_n 1, 1) := by decide +kernel
theorem dX12_readKey_146 : decode cX12_readKey 146 = .ok (.iaload, 1) := by decide +kernel
theorem dX12_readKey_147 : decode cX12_readKey 147 = .ok (.invokestatic 211, 3) := by decide +kernel
theorem dX12_readKey_150 : decode cX12_readKey 150 = .ok (.imul, 1) := by decide +kernel
theorem dX12_readKey_151 : decode cX12_readKey 151 = .ok (.iload_n 2, 1) := by decide +kernel
theorem dX12_readKey_152 : decode cX12_readKey 152 = .ok (.iadd, 1) := by decide +kernel
theorem dX12_readKey_153 : decode cX12_readKey 153 = .ok (.iaload, 1) := by decide +kernel
theorem dX12_readKey_154 : decode cX12_readKey 154 = .ok (.ireturn, 1) := by decide +kernel
theorem dX12_writeKey_0 : decode cX12_writeKey 0 = .ok (.aload_n 0, 1) := by decide +kernel
theorem dX12_writeKey_1 : decode cX12_writeKey 1 = .ok (.iconst 0, 1) := by decide +kernel
theorem dX12_writeKey_2 : decode cX12_writeKey 2 = .ok (.putfield 204, 3) := by decide +kernel
theorem dX12_writeKey_5 : decode cX12_writeKey 5 = .ok (.iload_n 1, 1) := by decide +kernel
theorem dX12_writeKey_6 : decode cX12_writeKey 6 = .ok (.invokestatic 370, 3) := by decide +kernel
theorem dX12_writeKey_9 : decode cX12_writeKey 9 = .ok (.ifCond .eq 29, 3) := by decide +kernel
theorem dX12_writeKey_12 : decode cX12_writeKey 12 = .ok (.iload_n 2, 1) := by decide +kernel
theorem dX12_writeKey_13 : decode cX12_writeKey 13 = .ok (.invokestatic 376, 3) := by decide +kernel
theorem dX12_writeKey_16 : decode cX12_writeKey 16 = .ok (.ifCond .eq 22, 3) := by decide +kernel
theorem dX12_writeKey_19 : decode cX12_writeKey 19 = .ok (.aload_n 0, 1) := by decide +kernel
theorem dX12_writeKey_20 : decode cX12_writeKey 20 = .ok (.getfield 157, 3) := by decide +kernel
theorem dX12_writeKey_23 : decode cX12_writeKey 23 = .ok (.iload_n 1, 1) := by decide +kernel
theorem dX12_writeKey_24 : decode cX12_writeKey 24 = .ok (.iaload, 1) := by decide +kernel
theorem dX12_writeKey_25 : decode cX12_writeKey 25 = .ok (.iconst 1, 1) := by decide +kernel
theorem dX12_writeKey_26 : decode cX12_writeKey 26 = .ok (.if_icmp .ne 12, 3) := by decide +kernel
theorem dX12_writeKey_29 : decode cX12_writeKey 29 = .ok (.aload_n 0, 1) := by decide +kernel
theorem dX12_writeKey_30 : decode cX12_writeKey 30 = .ok (.getfield 175, 3) := by decide +kernel
theorem dX12_writeKey_33 : decode cX12_writeKey 33 = .ok (.iload_n 1, 1) := by decide +kernel
theorem dX12_writeKey_34 : decode cX12_writeKey 34 = .ok (.baload, 1) := by decide +kernel
theorem dX12_writeKey_35 : decode cX12_writeKey 35 = .ok (.ifCond .eq 5, 3) := by decide +kernel
theorem dX12_writeKey_38 : decode cX12_writeKey 38 = .ok (.iconst 0, 1) := by decide +kernel
theorem dX12_writeKey_39 : decode cX12_writeKey 39 = .ok (.ireturn, 1) := by decide +kernel
theorem dX12_writeKey_40 : decode cX12_writeKey 40 = .ok (.aload_n 0, 1) := by decide +kernel
theorem dX12_writeKey_41 : decode cX12_writeKey 41 = .ok (.getfield 172, 3) := by decide +kernel
theorem dX12_writeKey_44 : decode cX12_writeKey 44 = .ok (.iload_n 1, 1) := by decide +kernel
theorem dX12_writeKey_45 : decode cX12_writeKey 45 = .ok (.dup2, 1) := by decide +kernel
theorem dX12_writeKey_46 : decode cX12_writeKey 46 = .ok (.iaload, 1) := by decide +kernel
theorem dX12_writeKey_47 : decode cX12_writeKey 47 = .ok (.iconst 1, 1) := by decide +kernel
theorem dX12_writeKey_48 : decode cX12_writeKey 48 = .ok (.iload_n 2, 1) := by decide +kernel
theorem dX12_writeKey_49 : decode cX12_writeKey 49 = .ok (.ishl, 1) := by decide +kernel
theorem dX12_writeKey_50 : decode cX12_writeKey 50 = .ok (.ior, 1) := by decide +kernel
theorem dX12_writeKey_51 : decode cX12_writeKey 51 = .ok (.iastore, 1) := by decide +kernel
theorem dX12_writeKey_52 : decode cX12_writeKey 52 = .ok (.aload_n 0, 1) := by decide +kernel
theorem dX12_writeKey_53 : decode cX12_writeKey 53 = .ok (.getfield 181, 3) := by decide +kernel
theorem dX12_writeKey_56 : decode cX12_writeKey 56 = .ok (.bipush 16, 2) := by decide +kernel
theorem dX12_writeKey_58 : decode cX12_writeKey 58 = .ok (.iload_n 1, 1) := by decide +kernel
theorem dX12_writeKey_59 : decode cX12_writeKey 59 = .ok (.imul, 1) := by decide +kernel
theorem dX12_writeKey_60 : decode cX12_writeKey 60 = .ok (.iload_n 2, 1) := by decide +kernel
theorem dX12_writeKey_61 : decode cX12_writeKey 61 = .ok (.iadd, 1) := by decide +kernel
theorem dX12_writeKey_62 : decode cX12_writeKey 62 = .ok (.iload_n 3, 1) := by decide +kernel
theorem dX12_writeKey_63 : decode cX12_writeKey 63 = .ok (.iastore, 1) := by decide +kernel
theorem dX12_writeKey_64 : decode cX12_writeKey 64 = .ok (.iconst 1, 1) := by decide +kernel
theorem dX12_writeKey_65 : decode cX12_writeKey 65 = .ok (.ireturn, 1) := by decide +kernel
theorem dX12_waitAt_0 : decode cX12_waitAt 0 = .ok (.iconst 0, 1) := by decide +kernel
theorem dX12_waitAt_1 : decode cX12_waitAt 1 = .ok (.istore_n 3, 1) := by decide +kernel
theorem dX12_waitAt_2 : decode cX12_waitAt 2 = .ok (.iconst 0, 1) := by decide +kernel
theorem dX12_waitAt_3 : decode cX12_waitAt 3 = .ok (.istore 4, 2) := by decide +kernel
theorem dX12_waitAt_5 : decode cX12_waitAt 5 = .ok (.iload 4, 2) := by decide +kernel
theorem dX12_waitAt_7 : decode cX12_waitAt 7 = .ok (.aload_n 0, 1) := by decide +kernel
theorem dX12_waitAt_8 : decode cX12_waitAt 8 = .ok (.getfield 97, 3) := by decide +kernel
theorem dX12_waitAt_11 : decode cX12_waitAt 11 = .ok (.iload_n 1, 1) := by decide +kernel
theorem dX12_waitAt_12 : decode cX12_waitAt 12 = .ok (.iaload, 1) := by decide +kernel
theorem dX12_waitAt_13 : decode cX12_waitAt 13 = .ok (.if_icmp .ge 35, 3) := by decide +kernel
theorem dX12_waitAt_16 : decode cX12_waitAt 16 = .ok (.iload_n 3, 1) := by decide +kernel
theorem dX12_waitAt_17 : decode cX12_waitAt 17 = .ok (.ifCond .ne 19, 3) := by decide +kernel
theorem dX12_waitAt_20 : decode cX12_waitAt 20 = .ok (.aload_n 0, 1) := by decide +kernel
theorem dX12_waitAt_21 : decode cX12_waitAt 21 = .ok (.getfield 94, 3) := by decide +kernel
theorem dX12_waitAt_24 : decode cX12_waitAt 24 = .ok (.bipush 8, 2) := by decide +kernel
theorem dX12_waitAt_26 : decode cX12_waitAt 26 = .ok (.iload_n 1, 1) := by decide +kernel
theorem dX12_waitAt_27 : decode cX12_waitAt 27 = .ok (.imul, 1) := by decide +kernel
theorem dX12_waitAt_28 : decode cX12_waitAt 28 = .ok (.iload 4, 2) := by decide +kernel
theorem dX12_waitAt_30 : decode cX12_waitAt 30 = .ok (.iadd, 1) := by decide +kernel
theorem dX12_waitAt_31 : decode cX12_waitAt 31 = .ok (.iaload, 1) := by decide +kernel
theorem dX12_waitAt_32 : decode cX12_waitAt 32 = .ok (.iload_n 2, 1) := by decide +kernel
theorem dX12_waitAt_33 : decode cX12_waitAt 33 = .ok (.if_icmp .ne 7, 3) := by decide +kernel
theorem dX12_waitAt_36 : decode cX12_waitAt 36 = .ok (.iconst 1, 1) := by decide +kernel
theorem dX12_waitAt_37 : decode cX12_waitAt 37 = .ok (.goto 4, 3) := by decide +kernel
theorem dX12_waitAt_40 : decode cX12_waitAt 40 = .ok (.iconst 0, 1) := by decide +kernel
theorem dX12_waitAt_41 : decode cX12_waitAt 41 = .ok (.istore_n 3, 1) := by decide +kernel
theorem dX12_waitAt_42 : decode cX12_waitAt 42 = .ok (.iinc 4 1, 3) := by decide +kernel
theorem dX12_waitAt_45 : decode cX12_waitAt 45 = .ok (.goto (-40), 3) := by decide +kernel
theorem dX12_waitAt_48 : decode cX12_waitAt 48 = .ok (.iload_n 3, 1) := by decide +kernel
theorem dX12_waitAt_49 : decode cX12_waitAt 49 = .ok (.ifCond .ne 41, 3) := by decide +kernel
theorem dX12_waitAt_52 : decode cX12_waitAt 52 = .ok (.aload_n 0, 1) := by decide +kernel
theorem dX12_waitAt_53 : decode cX12_waitAt 53 = .ok (.getfield 97, 3) := by decide +kernel
theorem dX12_waitAt_56 : decode cX12_waitAt 56 = .ok (.iload_n 1, 1) := by decide +kernel
theorem dX12_waitAt_57 : decode cX12_waitAt 57 = .ok (.iaload, 1) := by decide +kernel
theorem dX12_waitAt_58 : decode cX12_waitAt 58 = .ok (.bipush 8, 2) := by decide +kernel
theorem dX12_waitAt_60 : decode cX12_waitAt 60 = .ok (.if_icmp .ge 30, 3) := by decide +kernel
theorem dX12_waitAt_63 : decode cX12_waitAt 63 = .ok (.aload_n 0, 1) := by decide +kernel
theorem dX12_waitAt_64 : decode cX12_waitAt 64 = .ok (.getfield 94, 3) := by decide +kernel
theorem dX12_waitAt_67 : decode cX12_waitAt 67 = .ok (.bipush 8, 2) := by decide +kernel
theorem dX12_waitAt_69 : decode cX12_waitAt 69 = .ok (.iload_n 1, 1) := by decide +kernel
theorem dX12_waitAt_70 : decode cX12_waitAt 70 = .ok (.imul, 1) := by decide +kernel
theorem dX12_waitAt_71 : decode cX12_waitAt 71 = .ok (.aload_n 0, 1) := by decide +kernel
theorem dX12_waitAt_72 : decode cX12_waitAt 72 = .ok (.getfield 97, 3) := by decide +kernel
theorem dX12_waitAt_75 : decode cX12_waitAt 75 = .ok (.iload_n 1, 1) := by decide +kernel
theorem dX12_waitAt_76 : decode cX12_waitAt 76 = .ok (.iaload, 1) := by decide +kernel
theorem dX12_waitAt_77 : decode cX12_waitAt 77 = .ok (.iadd, 1) := by decide +kernel
theorem dX12_waitAt_78 : decode cX12_waitAt 78 = .ok (.iload_n 2, 1) := by decide +kernel
theorem dX12_waitAt_79 : decode cX12_waitAt 79 = .ok (.iastore, 1) := by decide +kernel
theorem dX12_waitAt_80 : decode cX12_waitAt 80 = .ok (.aload_n 0, 1) := by decide +kernel
theorem dX12_waitAt_81 : decode cX12_waitAt 81 = .ok (.getfield 97, 3) := by decide +kernel
theorem dX12_waitAt_84 : decode cX12_waitAt 84 = .ok (.iload_n 1, 1) := by decide +kernel
theorem dX12_waitAt_85 : decode cX12_waitAt 85 = .ok (.dup2, 1) := by decide +kernel
theorem dX12_waitAt_86 : decode cX12_waitAt 86 = .ok (.iaload, 1) := by decide +kernel
theorem dX12_waitAt_87 : decode cX12_waitAt 87 = .ok (.iconst 1, 1) := by decide +kernel
theorem dX12_waitAt_88 : decode cX12_waitAt 88 = .ok (.iadd, 1) := by decide +kernel
theorem dX12_waitAt_89 : decode cX12_waitAt 89 = .ok (.iastore, 1) := by decide +kernel
theorem dX12_waitAt_90 : decode cX12_waitAt 90 = .ok (.return_, 1) := by decide +kernel
theorem dX12_commitIt_0 : decode cX12_commitIt 0 = .ok (.aload_n 0, 1) := by decide +kernel
theorem dX12_commitIt_1 : decode cX12_commitIt 1 = .ok (.iconst 0, 1) := by decide +kernel
theorem dX12_commitIt_2 : decode cX12_commitIt 2 = .ok (.putfield 204, 3) := by decide +kernel
theorem dX12_commitIt_5 : decode cX12_commitIt 5 = .ok (.iload_n 1, 1) := by decide +kernel
theorem dX12_commitIt_6 : decode cX12_commitIt 6 = .ok (.invokestatic 370, 3) := by decide +kernel
theorem dX12_commitIt_9 : decode cX12_commitIt 9 = .ok (.ifCond .eq 13, 3) := by decide +kernel
theorem dX12_commitIt_12 : decode cX12_commitIt 12 = .ok (.aload_n 0, 1) := by decide +kernel
theorem dX12_commitIt_13 : decode cX12_commitIt 13 = .ok (.getfield 157, 3) := by decide +kernel
theorem dX12_commitIt_16 : decode cX12_commitIt 16 = .ok (.iload_n 1, 1) := by decide +kernel
theorem dX12_commitIt_17 : decode cX12_commitIt 17 = .ok (.iaload, 1) := by decide +kernel
theorem dX12_commitIt_18 : decode cX12_commitIt 18 = .ok (.iconst 1, 1) := by decide +kernel
theorem dX12_commitIt_19 : decode cX12_commitIt 19 = .ok (.if_icmp .eq 5, 3) := by decide +kernel
theorem dX12_commitIt_22 : decode cX12_commitIt 22 = .ok (.iconst (-1), 1) := by decide +kernel
theorem dX12_commitIt_23 : decode cX12_commitIt 23 = .ok (.ireturn, 1) := by decide +kernel
theorem dX12_commitIt_24 : decode cX12_commitIt 24 = .ok (.aload_n 0, 1) := by decide +kernel
theorem dX12_commitIt_25 : decode cX12_commitIt 25 = .ok (.getfield 172, 3) := by decide +kernel
theorem dX12_commitIt_28 : decode cX12_commitIt 28 = .ok (.iload_n 1, 1) := by decide +kernel
theorem dX12_commitIt_29 : decode cX12_commitIt 29 = .ok (.iaload, 1) := by decide +kernel
theorem dX12_commitIt_30 : decode cX12_commitIt 30 = .ok (.ifCond .ne 12, 3) := by decide +kernel
theorem dX12_commitIt_33 : decode cX12_commitIt 33 = .ok (.aload_n 0, 1) := by decide +kernel
theorem dX12_commitIt_34 : decode cX12_commitIt 34 = .ok (.getfield 157, 3) := by decide +kernel
theorem dX12_commitIt_37 : decode cX12_commitIt 37 = .ok (.iload_n 1, 1) := by decide +kernel
theorem dX12_commitIt_38 : decode cX12_commitIt 38 = .ok (.iconst 3, 1) := by decide +kernel
theorem dX12_commitIt_39 : decode cX12_commitIt 39 = .ok (.iastore, 1) := by decide +kernel
theorem dX12_commitIt_40 : decode cX12_commitIt 40 = .ok (.iconst 3, 1) := by decide +kernel
theorem dX12_commitIt_41 : decode cX12_commitIt 41 = .ok (.ireturn, 1) := by decide +kernel
theorem dX12_commitIt_42 : decode cX12_commitIt 42 = .ok (.aload_n 0, 1) := by decide +kernel
theorem dX12_commitIt_43 : decode cX12_commitIt 43 = .ok (.getfield 160, 3) := by decide +kernel
theorem dX12_commitIt_46 : decode cX12_commitIt 46 = .ok (.iload_n 1, 1) := by decide +kernel
theorem dX12_commitIt_47 : decode cX12_commitIt 47 = .ok (.dup2, 1) := by decide +kernel
theorem dX12_commitIt_48 : decode cX12_commitIt 48 = .ok (.iaload, 1) := by decide +kernel
theorem dX12_commitIt_49 : decode cX12_commitIt 49 = .ok (.iconst 1, 1) := by decide +kernel
theorem dX12_commitIt_50 : decode cX12_commitIt 50 = .ok (.iadd, 1) := by decide +kernel
theorem dX12_commitIt_51 : decode cX12_commitIt 51 = .ok (.iastore, 1) := by decide +kernel
theorem dX12_commitIt_52 : decode cX12_commitIt 52 = .ok (.aload_n 0, 1) := by decide +kernel
theorem dX12_commitIt_53 : decode cX12_commitIt 53 = .ok (.getfield 7, 3) := by decide +kernel
theorem dX12_commitIt_56 : decode cX12_commitIt 56 = .ok (.istore_n 2, 1) := by decide +kernel
theorem dX12_commitIt_57 : decode cX12_commitIt 57 = .ok (.aload_n 0, 1) := by decide +kernel
theorem dX12_commitIt_58 : decode cX12_commitIt 58 = .ok (.dup, 1) := by decide +kernel
theorem dX12_commitIt_59 : decode cX12_commitIt 59 = .ok (.getfield 7, 3) := by decide +kernel
theorem dX12_commitIt_62 : decode cX12_commitIt 62 = .ok (.iconst 1, 1) := by decide +kernel
theorem dX12_commitIt_63 : decode cX12_commitIt 63 = .ok (.iadd, 1) := by decide +kernel
theorem dX12_commitIt_64 : decode cX12_commitIt 64 = .ok (.putfield 7, 3) := by decide +kernel
theorem dX12_commitIt_67 : decode cX12_commitIt 67 = .ok (.aload_n 0, 1) := by decide +kernel
theorem dX12_commitIt_68 : decode cX12_commitIt 68 = .ok (.getfield 13, 3) := by decide +kernel
theorem dX12_commitIt_71 : decode cX12_commitIt 71 = .ok (.iload_n 2, 1) := by decide +kernel
theorem dX12_commitIt_72 : decode cX12_commitIt 72 = .ok (.iload_n 1, 1) := by decide +kernel
theorem dX12_commitIt_73 : decode cX12_commitIt 73 = .ok (.iastore, 1) := by decide +kernel
theorem dX12_commitIt_74 : decode cX12_commitIt 74 = .ok (.aload_n 0, 1) := by decide +kernel
theorem dX12_commitIt_75 : decode cX12_commitIt 75 = .ok (.getfield 17, 3) := by decide +kernel
theorem dX12_commitIt_78 : decode cX12_commitIt 78 = .ok (.iload_n 2, 1) := by decide +kernel
theorem dX12_commitIt_79 : decode cX12_commitIt 79 = .ok (.aload_n 0, 1) := by decide +kernel
theorem dX12_commitIt_80 : decode cX12_commitIt 80 = .ok (.getfield 160, 3) := by decide +kernel
theorem dX12_commitIt_83 : decode cX12_commitIt 83 = .ok (.iload_n 1, 1) := by decide +kernel
theorem dX12_commitIt_84 : decode cX12_commitIt 84 = .ok (.iaload, 1) := by decide +kernel
theorem dX12_commitIt_85 : decode cX12_commitIt 85 = .ok (.iastore, 1) := by decide +kernel
theorem dX12_commitIt_86 : decode cX12_commitIt 86 = .ok (.aload_n 0, 1) := by decide +kernel
theorem dX12_commitIt_87 : decode cX12_commitIt 87 = .ok (.getfield 20, 3) := by decide +kernel
theorem dX12_commitIt_90 : decode cX12_commitIt 90 = .ok (.iload_n 2, 1) := by decide +kernel
theorem dX12_commitIt_91 : decode cX12_commitIt 91 = .ok (.aload_n 0, 1) := by decide +kernel
theorem dX12_commitIt_92 : decode cX12_commitIt 92 = .ok (.getfield 166, 3) := by decide +kernel
theorem dX12_commitIt_95 : decode cX12_commitIt 95 = .ok (.iload_n 1, 1) := by decide +kernel
theorem dX12_commitIt_96 : decode cX12_commitIt 96 = .ok (.iaload, 1) := by decide +kernel
theorem dX12_commitIt_97 : decode cX12_commitIt 97 = .ok (.iastore, 1) := by decide +kernel
theorem dX12_commitIt_98 : decode cX12_commitIt 98 = .ok (.aload_n 0, 1) := by decide +kernel
theorem dX12_commitIt_99 : decode cX12_commitIt 99 = .ok (.getfield 23, 3) := by decide +kernel
theorem dX12_commitIt_102 : decode cX12_commitIt 102 = .ok (.iload_n 2, 1) := by decide +kernel
theorem dX12_commitIt_103 : decode cX12_commitIt 103 = .ok (.aload_n 0, 1) := by decide +kernel
theorem dX12_commitIt_104 : decode cX12_commitIt 104 = .ok (.getfield 169, 3) := by decide +kernel
theorem dX12_commitIt_107 : decode cX12_commitIt 107 = .ok (.iload_n 1, 1) := by decide +kernel
theorem dX12_commitIt_108 : decode cX12_commitIt 108 = .ok (.iaload, 1) := by decide +kernel
theorem dX12_commitIt_109 : decode cX12_commitIt 109 = .ok (.iastore, 1) := by decide +kernel
theorem dX12_commitIt_110 : decode cX12_commitIt 110 = .ok (.aload_n 0, 1) := by decide +kernel
theorem dX12_commitIt_111 : decode cX12_commitIt 111 = .ok (.getfield 26, 3) := by decide +kernel
theorem dX12_commitIt_114 : decode cX12_commitIt 114 = .ok (.iload_n 2, 1) := by decide +kernel
theorem dX12_commitIt_115 : decode cX12_commitIt 115 = .ok (.aload_n 0, 1) := by decide +kernel
theorem dX12_commitIt_116 : decode cX12_commitIt 116 = .ok (.getfield 172, 3) := by decide +kernel
theorem dX12_commitIt_119 : decode cX12_commitIt 119 = .ok (.iload_n 1, 1) := by decide +kernel
theorem dX12_commitIt_120 : decode cX12_commitIt 120 = .ok (.iaload, 1) := by decide +kernel
theorem dX12_commitIt_121 : decode cX12_commitIt 121 = .ok (.iastore, 1) := by decide +kernel
theorem dX12_commitIt_122 : decode cX12_commitIt 122 = .ok (.iconst 0, 1) := by decide +kernel
theorem dX12_commitIt_123 : decode cX12_commitIt 123 = .ok (.istore_n 3, 1) := by decide +kernel
theorem dX12_commitIt_124 : decode cX12_commitIt 124 = .ok (.iload_n 3, 1) := by decide +kernel
theorem dX12_commitIt_125 : decode cX12_commitIt 125 = .ok (.bipush 16, 2) := by decide +kernel
theorem dX12_commitIt_127 : decode cX12_commitIt 127 = .ok (.if_icmp .ge 31, 3) := by decide +kernel
theorem dX12_commitIt_130 : decode cX12_commitIt 130 = .ok (.aload_n 0, 1) := by decide +kernel
theorem dX12_commitIt_131 : decode cX12_commitIt 131 = .ok (.getfield 30, 3) := by decide +kernel
theorem dX12_commitIt_134 : decode cX12_commitIt 134 = .ok (.bipush 16, 2) := by decide +kernel
theorem dX12_commitIt_136 : decode cX12_commitIt 136 = .ok (.iload_n 2, 1) := by decide +kernel
theorem dX12_commitIt_137 : decode cX12_commitIt 137 = .ok (.imul, 1) := by decide +kernel
theorem dX12_commitIt_138 : decode cX12_commitIt 138 = .ok (.iload_n 3, 1) := by decide +kernel
theorem dX12_commitIt_139 : decode cX12_commitIt 139 = .ok (.iadd, 1) := by decide +kernel
theorem dX12_commitIt_140 : decode cX12_commitIt 140 = .ok (.aload_n 0, 1) := by decide +kernel
theorem dX12_commitIt_141 : decode cX12_commitIt 141 = .ok (.getfield 181, 3) := by decide +kernel
theorem dX12_commitIt_144 : decode cX12_commitIt 144 = .ok (.bipush 16, 2) := by decide +kernel
theorem dX12_commitIt_146 : decode cX12_commitIt 146 = .ok (.iload_n 1, 1) := by decide +kernel
theorem dX12_commitIt_147 : decode cX12_commitIt 147 = .ok (.imul, 1) := by decide +kernel
theorem dX12_commitIt_148 : decode cX12_commitIt 148 = .ok (.iload_n 3, 1) := by decide +kernel
theorem dX12_commitIt_149 : decode cX12_commitIt 149 = .ok (.iadd, 1) := by decide +kernel
theorem dX12_commitIt_150 : decode cX12_commitIt 150 = .ok (.iaload, 1) := by decide +kernel
theorem dX12_commitIt_151 : decode cX12_commitIt 151 = .ok (.iastore, 1) := by decide +kernel
theorem dX12_commitIt_152 : decode cX12_commitIt 152 = .ok (.iinc 3 1, 3) := by decide +kernel
theorem dX12_commitIt_155 : decode cX12_commitIt 155 = .ok (.goto (-31), 3) := by decide +kernel
theorem dX12_commitIt_158 : decode cX12_commitIt 158 = .ok (.aload_n 0, 1) := by decide +kernel
theorem dX12_commitIt_159 : decode cX12_commitIt 159 = .ok (.getfield 178, 3) := by decide +kernel
theorem dX12_commitIt_162 : decode cX12_commitIt 162 = .ok (.iload_n 1, 1) := by decide +kernel
theorem dX12_commitIt_163 : decode cX12_commitIt 163 = .ok (.iload_n 2, 1) := by decide +kernel
theorem dX12_commitIt_164 : decode cX12_commitIt 164 = .ok (.iastore, 1) := by decide +kernel
theorem dX12_commitIt_165 : decode cX12_commitIt 165 = .ok (.aload_n 0, 1) := by decide +kernel
theorem dX12_commitIt_166 : decode cX12_commitIt 166 = .ok (.getfield 157, 3) := by decide +kernel
theorem dX12_commitIt_169 : decode cX12_commitIt 169 = .ok (.iload_n 1, 1) := by decide +kernel
theorem dX12_commitIt_170 : decode cX12_commitIt 170 = .ok (.iconst 2, 1) := by decide +kernel
theorem dX12_commitIt_171 : decode cX12_commitIt 171 = .ok (.iastore, 1) := by decide +kernel
theorem dX12_commitIt_172 : decode cX12_commitIt 172 = .ok (.aload_n 0, 1) := by decide +kernel
theorem dX12_commitIt_173 : decode cX12_commitIt 173 = .ok (.aload_n 0, 1) := by decide +kernel
theorem dX12_commitIt_174 : decode cX12_commitIt 174 = .ok (.getfield 163, 3) := by decide +kernel
theorem dX12_commitIt_177 : decode cX12_commitIt 177 = .ok (.iload_n 1, 1) := by decide +kernel
theorem dX12_commitIt_178 : decode cX12_commitIt 178 = .ok (.iaload, 1) := by decide +kernel
theorem dX12_commitIt_179 : decode cX12_commitIt 179 = .ok (.iload_n 2, 1) := by decide +kernel
theorem dX12_commitIt_180 : decode cX12_commitIt 180 = .ok (.invokevirtual 341, 3) := by decide +kernel
theorem dX12_commitIt_183 : decode cX12_commitIt 183 = .ok (.iconst 2, 1) := by decide +kernel
theorem dX12_commitIt_184 : decode cX12_commitIt 184 = .ok (.ireturn, 1) := by decide +kernel
theorem dX12_giveUp_0 : decode cX12_giveUp 0 = .ok (.aload_n 0, 1) := by decide +kernel
theorem dX12_giveUp_1 : decode cX12_giveUp 1 = .ok (.iconst 0, 1) := by decide +kernel
theorem dX12_giveUp_2 : decode cX12_giveUp 2 = .ok (.putfield 204, 3) := by decide +kernel
theorem dX12_giveUp_5 : decode cX12_giveUp 5 = .ok (.iload_n 1, 1) := by decide +kernel
theorem dX12_giveUp_6 : decode cX12_giveUp 6 = .ok (.invokestatic 370, 3) := by decide +kernel
theorem dX12_giveUp_9 : decode cX12_giveUp 9 = .ok (.ifCond .eq 13, 3) := by decide +kernel
theorem dX12_giveUp_12 : decode cX12_giveUp 12 = .ok (.aload_n 0, 1) := by decide +kernel
theorem dX12_giveUp_13 : decode cX12_giveUp 13 = .ok (.getfield 157, 3) := by decide +kernel
theorem dX12_giveUp_16 : decode cX12_giveUp 16 = .ok (.iload_n 1, 1) := by decide +kernel
theorem dX12_giveUp_17 : decode cX12_giveUp 17 = .ok (.iaload, 1) := by decide +kernel
theorem dX12_giveUp_18 : decode cX12_giveUp 18 = .ok (.iconst 1, 1) := by decide +kernel
theorem dX12_giveUp_19 : decode cX12_giveUp 19 = .ok (.if_icmp .eq 5, 3) := by decide +kernel
theorem dX12_giveUp_22 : decode cX12_giveUp 22 = .ok (.iconst 0, 1) := by decide +kernel
theorem dX12_giveUp_23 : decode cX12_giveUp 23 = .ok (.ireturn, 1) := by decide +kernel
theorem dX12_giveUp_24 : decode cX12_giveUp 24 = .ok (.aload_n 0, 1) := by decide +kernel
theorem dX12_giveUp_25 : decode cX12_giveUp 25 = .ok (.getfield 157, 3) := by decide +kernel
theorem dX12_giveUp_28 : decode cX12_giveUp 28 = .ok (.iload_n 1, 1) := by decide +kernel
theorem dX12_giveUp_29 : decode cX12_giveUp 29 = .ok (.iconst 4, 1) := by decide +kernel
theorem dX12_giveUp_30 : decode cX12_giveUp 30 = .ok (.iastore, 1) := by decide +kernel
theorem dX12_giveUp_31 : decode cX12_giveUp 31 = .ok (.iconst 1, 1) := by decide +kernel
theorem dX12_giveUp_32 : decode cX12_giveUp 32 = .ok (.ireturn, 1) := by decide +kernel
theorem dX12_retryAt_0 : decode cX12_retryAt 0 = .ok (.aload_n 0, 1) := by decide +kernel
theorem dX12_retryAt_1 : decode cX12_retryAt 1 = .ok (.iconst 0, 1) := by decide +kernel
theorem dX12_retryAt_2 : decode cX12_retryAt 2 = .ok (.putfield 204, 3) := by decide +kernel
theorem dX12_retryAt_5 : decode cX12_retryAt 5 = .ok (.iload_n 1, 1) := by decide +kernel
theorem dX12_retryAt_6 : decode cX12_retryAt 6 = .ok (.invokestatic 370, 3) := by decide +kernel
theorem dX12_retryAt_9 : decode cX12_retryAt 9 = .ok (.ifCond .eq 21, 3) := by decide +kernel
theorem dX12_retryAt_12 : decode cX12_retryAt 12 = .ok (.aload_n 0, 1) := by decide +kernel
theorem dX12_retryAt_13 : decode cX12_retryAt 13 = .ok (.iload_n 2, 1) := by decide +kernel
theorem dX12_retryAt_14 : decode cX12_retryAt 14 = .ok (.invokevirtual 373, 3) := by decide +kernel
theorem dX12_retryAt_17 : decode cX12_retryAt 17 = .ok (.ifCond .eq 13, 3) := by decide +kernel
theorem dX12_retryAt_20 : decode cX12_retryAt 20 = .ok (.aload_n 0, 1) := by decide +kernel
theorem dX12_retryAt_21 : decode cX12_retryAt 21 = .ok (.getfield 157, 3) := by decide +kernel
theorem dX12_retryAt_24 : decode cX12_retryAt 24 = .ok (.iload_n 1, 1) := by decide +kernel
theorem dX12_retryAt_25 : decode cX12_retryAt 25 = .ok (.iaload, 1) := by decide +kernel
theorem dX12_retryAt_26 : decode cX12_retryAt 26 = .ok (.iconst 2, 1) := by decide +kernel
theorem dX12_retryAt_27 : decode cX12_retryAt 27 = .ok (.if_icmp .eq 5, 3) := by decide +kernel
theorem dX12_retryAt_30 : decode cX12_retryAt 30 = .ok (.iconst (-1), 1) := by decide +kernel
theorem dX12_retryAt_31 : decode cX12_retryAt 31 = .ok (.ireturn, 1) := by decide +kernel
theorem dX12_retryAt_32 : decode cX12_retryAt 32 = .ok (.aload_n 0, 1) := by decide +kernel
theorem dX12_retryAt_33 : decode cX12_retryAt 33 = .ok (.getfield 163, 3) := by decide +kernel
theorem dX12_retryAt_36 : decode cX12_retryAt 36 = .ok (.iload_n 1, 1) := by decide +kernel
theorem dX12_retryAt_37 : decode cX12_retryAt 37 = .ok (.iload_n 2, 1) := by decide +kernel
theorem dX12_retryAt_38 : decode cX12_retryAt 38 = .ok (.iastore, 1) := by decide +kernel
theorem dX12_retryAt_39 : decode cX12_retryAt 39 = .ok (.aload_n 0, 1) := by decide +kernel
theorem dX12_retryAt_40 : decode cX12_retryAt 40 = .ok (.getfield 67, 3) := by decide +kernel
theorem dX12_retryAt_43 : decode cX12_retryAt 43 = .ok (.bipush 16, 2) := by decide +kernel
theorem dX12_retryAt_45 : decode cX12_retryAt 45 = .ok (.iload_n 2, 1) := by decide +kernel
theorem dX12_retryAt_46 : decode cX12_retryAt 46 = .ok (.imul, 1) := by decide +kernel
theorem dX12_retryAt_47 : decode cX12_retryAt 47 = .ok (.iload_n 1, 1) := by decide +kernel
theorem dX12_retryAt_48 : decode cX12_retryAt 48 = .ok (.iadd, 1) := by decide +kernel
theorem dX12_retryAt_49 : decode cX12_retryAt 49 = .ok (.iaload, 1) := by decide +kernel
theorem dX12_retryAt_50 : decode cX12_retryAt 50 = .ok (.aload_n 0, 1) := by decide +kernel
theorem dX12_retryAt_51 : decode cX12_retryAt 51 = .ok (.getfield 160, 3) := by decide +kernel
theorem dX12_retryAt_54 : decode cX12_retryAt 54 = .ok (.iload_n 1, 1) := by decide +kernel
theorem dX12_retryAt_55 : decode cX12_retryAt 55 = .ok (.iaload, 1) := by decide +kernel
theorem dX12_retryAt_56 : decode cX12_retryAt 56 = .ok (.if_icmp .ne 25, 3) := by decide +kernel
theorem dX12_retryAt_59 : decode cX12_retryAt 59 = .ok (.aload_n 0, 1) := by decide +kernel
theorem dX12_retryAt_60 : decode cX12_retryAt 60 = .ok (.getfield 157, 3) := by decide +kernel
theorem dX12_retryAt_63 : decode cX12_retryAt 63 = .ok (.iload_n 1, 1) := by decide +kernel
theorem dX12_retryAt_64 : decode cX12_retryAt 64 = .ok (.iconst 2, 1) := by decide +kernel
theorem dX12_retryAt_65 : decode cX12_retryAt 65 = .ok (.aload_n 0, 1) := by decide +kernel
theorem dX12_retryAt_66 : decode cX12_retryAt 66 = .ok (.getfield 70, 3) := by decide +kernel
theorem dX12_retryAt_69 : decode cX12_retryAt 69 = .ok (.bipush 16, 2) := by decide +kernel
theorem dX12_retryAt_71 : decode cX12_retryAt 71 = .ok (.iload_n 2, 1) := by decide +kernel
theorem dX12_retryAt_72 : decode cX12_retryAt 72 = .ok (.imul, 1) := by decide +kernel
theorem dX12_retryAt_73 : decode cX12_retryAt 73 = .ok (.iload_n 1, 1) := by decide +kernel
theorem dX12_retryAt_74 : decode cX12_retryAt 74 = .ok (.iadd, 1) := by decide +kernel
theorem dX12_retryAt_75 : decode cX12_retryAt 75 = .ok (.iaload, 1) := by decide +kernel
theorem dX12_retryAt_76 : decode cX12_retryAt 76 = .ok (.iadd, 1) := by decide +kernel
theorem dX12_retryAt_77 : decode cX12_retryAt 77 = .ok (.iastore, 1) := by decide +kernel
theorem dX12_retryAt_78 : decode cX12_retryAt 78 = .ok (.goto 14, 3) := by decide +kernel
theorem dX12_retryAt_81 : decode cX12_retryAt 81 = .ok (.aload_n 0, 1) := by decide +kernel
theorem dX12_retryAt_82 : decode cX12_retryAt 82 = .ok (.iload_n 2, 1) := by decide +kernel
theorem dX12_retryAt_83 : decode cX12_retryAt 83 = .ok (.aload_n 0, 1) := by decide +kernel
theorem dX12_retryAt_84 : decode cX12_retryAt 84 = .ok (.getfield 178, 3) := by decide +kernel
theorem dX12_retryAt_87 : decode cX12_retryAt 87 = .ok (.iload_n 1, 1) := by decide +kernel
theorem dX12_retryAt_88 : decode cX12_retryAt 88 = .ok (.iaload, 1) := by decide +kernel
theorem dX12_retryAt_89 : decode cX12_retryAt 89 = .ok (.invokevirtual 341, 3) := by decide +kernel
theorem dX12_retryAt_92 : decode cX12_retryAt 92 = .ok (.aload_n 0, 1) := by decide +kernel
theorem dX12_retryAt_93 : decode cX12_retryAt 93 = .ok (.getfield 157, 3) := by decide +kernel
theorem dX12_retryAt_96 : decode cX12_retryAt 96 = .ok (.iload_n 1, 1) := by decide +kernel
theorem dX12_retryAt_97 : decode cX12_retryAt 97 = .ok (.iaload, 1) := by decide +kernel
theorem dX12_retryAt_98 : decode cX12_retryAt 98 = .ok (.ireturn, 1) := by decide +kernel
theorem dX12_tickOf_0 : decode cX12_tickOf 0 = .ok (.aload_n 0, 1) := by decide +kernel
theorem dX12_tickOf_1 : decode cX12_tickOf 1 = .ok (.iconst 0, 1) := by decide +kernel
theorem dX12_tickOf_2 : decode cX12_tickOf 2 = .ok (.putfield 204, 3) := by decide +kernel
theorem dX12_tickOf_5 : decode cX12_tickOf 5 = .ok (.aload_n 0, 1) := by decide +kernel
theorem dX12_tickOf_6 : decode cX12_tickOf 6 = .ok (.iload_n 1, 1) := by decide +kernel
theorem dX12_tickOf_7 : decode cX12_tickOf 7 = .ok (.invokevirtual 373, 3) := by decide +kernel
theorem dX12_tickOf_10 : decode cX12_tickOf 10 = .ok (.ifCond .ne 5, 3) := by decide +kernel
theorem dX12_tickOf_13 : decode cX12_tickOf 13 = .ok (.iconst (-1), 1) := by decide +kernel
theorem dX12_tickOf_14 : decode cX12_tickOf 14 = .ok (.ireturn, 1) := by decide +kernel
theorem dX12_tickOf_15 : decode cX12_tickOf 15 = .ok (.aload_n 0, 1) := by decide +kernel
theorem dX12_tickOf_16 : decode cX12_tickOf 16 = .ok (.getfield 55, 3) := by decide +kernel
theorem dX12_tickOf_19 : decode cX12_tickOf 19 = .ok (.iload_n 1, 1) := by decide +kernel
theorem dX12_tickOf_20 : decode cX12_tickOf 20 = .ok (.dup2, 1) := by decide +kernel
theorem dX12_tickOf_21 : decode cX12_tickOf 21 = .ok (.iaload, 1) := by decide +kernel
theorem dX12_tickOf_22 : decode cX12_tickOf 22 = .ok (.iconst 1, 1) := by decide +kernel
theorem dX12_tickOf_23 : decode cX12_tickOf 23 = .ok (.iadd, 1) := by decide +kernel
theorem dX12_tickOf_24 : decode cX12_tickOf 24 = .ok (.iastore, 1) := by decide +kernel
theorem dX12_tickOf_25 : decode cX12_tickOf 25 = .ok (.aload_n 0, 1) := by decide +kernel
theorem dX12_tickOf_26 : decode cX12_tickOf 26 = .ok (.getfield 55, 3) := by decide +kernel
theorem dX12_tickOf_29 : decode cX12_tickOf 29 = .ok (.iload_n 1, 1) := by decide +kernel
theorem dX12_tickOf_30 : decode cX12_tickOf 30 = .ok (.iaload, 1) := by decide +kernel
theorem dX12_tickOf_31 : decode cX12_tickOf 31 = .ok (.aload_n 0, 1) := by decide +kernel
theorem dX12_tickOf_32 : decode cX12_tickOf 32 = .ok (.getfield 187, 3) := by decide +kernel
theorem dX12_tickOf_35 : decode cX12_tickOf 35 = .ok (.if_icmp .lt 7, 3) := by decide +kernel
theorem dX12_tickOf_38 : decode cX12_tickOf 38 = .ok (.iconst 1, 1) := by decide +kernel
theorem dX12_tickOf_39 : decode cX12_tickOf 39 = .ok (.goto 4, 3) := by decide +kernel
theorem dX12_tickOf_42 : decode cX12_tickOf 42 = .ok (.iconst 0, 1) := by decide +kernel
theorem dX12_tickOf_43 : decode cX12_tickOf 43 = .ok (.istore_n 2, 1) := by decide +kernel
theorem dX12_tickOf_44 : decode cX12_tickOf 44 = .ok (.aload_n 0, 1) := by decide +kernel
theorem dX12_tickOf_45 : decode cX12_tickOf 45 = .ok (.getfield 73, 3) := by decide +kernel
theorem dX12_tickOf_48 : decode cX12_tickOf 48 = .ok (.iload_n 1, 1) := by decide +kernel
theorem dX12_tickOf_49 : decode cX12_tickOf 49 = .ok (.iaload, 1) := by decide +kernel
theorem dX12_tickOf_50 : decode cX12_tickOf 50 = .ok (.iconst 2, 1) := by decide +kernel
theorem dX12_tickOf_51 : decode cX12_tickOf 51 = .ok (.if_icmp .ne 52, 3) := by decide +kernel
theorem dX12_tickOf_54 : decode cX12_tickOf 54 = .ok (.aload_n 0, 1) := by decide +kernel
theorem dX12_tickOf_55 : decode cX12_tickOf 55 = .ok (.getfield 82, 3) := by decide +kernel
theorem dX12_tickOf_58 : decode cX12_tickOf 58 = .ok (.iload_n 1, 1) := by decide +kernel
theorem dX12_tickOf_59 : decode cX12_tickOf 59 = .ok (.iaload, 1) := by decide +kernel
theorem dX12_tickOf_60 : decode cX12_tickOf 60 = .ok (.ifCond .le 43, 3) := by decide +kernel
theorem dX12_tickOf_63 : decode cX12_tickOf 63 = .ok (.iload_n 2, 1) := by decide +kernel
theorem dX12_tickOf_64 : decode cX12_tickOf 64 = .ok (.ifCond .eq 239, 3) := by decide +kernel
theorem dX12_tickOf_67 : decode cX12_tickOf 67 = .ok (.aload_n 0, 1) := by decide +kernel
theorem dX12_tickOf_68 : decode cX12_tickOf 68 = .ok (.getfield 55, 3) := by decide +kernel
theorem dX12_tickOf_71 : decode cX12_tickOf 71 = .ok (.iload_n 1, 1) := by decide +kernel
theorem dX12_tickOf_72 : decode cX12_tickOf 72 = .ok (.iconst 0, 1) := by decide +kernel
theorem dX12_tickOf_73 : decode cX12_tickOf 73 = .ok (.iastore, 1) := by decide +kernel
theorem dX12_tickOf_74 : decode cX12_tickOf 74 = .ok (.aload_n 0, 1) := by decide +kernel
theorem dX12_tickOf_75 : decode cX12_tickOf 75 = .ok (.iconst 3, 1) := by decide +kernel
theorem dX12_tickOf_76 : decode cX12_tickOf 76 = .ok (.iload_n 1, 1) := by decide +kernel
theorem dX12_tickOf_77 : decode cX12_tickOf 77 = .ok (.aload_n 0, 1) := by decide +kernel
theorem dX12_tickOf_78 : decode cX12_tickOf 78 = .ok (.getfield 76, 3) := by decide +kernel
theorem dX12_tickOf_81 : decode cX12_tickOf 81 = .ok (.iload_n 1, 1) := by decide +kernel
theorem dX12_tickOf_82 : decode cX12_tickOf 82 = .ok (.iaload, 1) := by decide +kernel
theorem dX12_tickOf_83 : decode cX12_tickOf 83 = .ok (.aload_n 0, 1) := by decide +kernel
theorem dX12_tickOf_84 : decode cX12_tickOf 84 = .ok (.getfield 37, 3) := by decide +kernel
theorem dX12_tickOf_87 : decode cX12_tickOf 87 = .ok (.iload_n 1, 1) := by decide +kernel
theorem dX12_tickOf_88 : decode cX12_tickOf 88 = .ok (.iaload, 1) := by decide +kernel
theorem dX12_tickOf_89 : decode cX12_tickOf 89 = .ok (.iconst 1, 1) := by decide +kernel
theorem dX12_tickOf_90 : decode cX12_tickOf 90 = .ok (.iadd, 1) := by decide +kernel
theorem dX12_tickOf_91 : decode cX12_tickOf 91 = .ok (.aload_n 0, 1) := by decide +kernel
theorem dX12_tickOf_92 : decode cX12_tickOf 92 = .ok (.getfield 82, 3) := by decide +kernel
theorem dX12_tickOf_95 : decode cX12_tickOf 95 = .ok (.iload_n 1, 1) := by decide +kernel
theorem dX12_tickOf_96 : decode cX12_tickOf 96 = .ok (.iaload, 1) := by decide +kernel
theorem dX12_tickOf_97 : decode cX12_tickOf 97 = .ok (.invokevirtual 311, 3) := by decide +kernel
theorem dX12_tickOf_100 : decode cX12_tickOf 100 = .ok (.goto 203, 3) := by decide +kernel
theorem dX12_tickOf_103 : decode cX12_tickOf 103 = .ok (.aload_n 0, 1) := by decide +kernel
theorem dX12_tickOf_104 : decode cX12_tickOf 104 = .ok (.getfield 73, 3) := by decide +kernel
theorem dX12_tickOf_107 : decode cX12_tickOf 107 = .ok (.iload_n 1, 1) := by decide +kernel
theorem dX12_tickOf_108 : decode cX12_tickOf 108 = .ok (.iaload, 1) := by decide +kernel
theorem dX12_tickOf_109 : decode cX12_tickOf 109 = .ok (.iconst 2, 1) := by decide +kernel
theorem dX12_tickOf_110 : decode cX12_tickOf 110 = .ok (.if_icmp .ne 45, 3) := by decide +kernel
theorem dX12_tickOf_113 : decode cX12_tickOf 113 = .ok (.aload_n 0, 1) := by decide +kernel
theorem dX12_tickOf_114 : decode cX12_tickOf 114 = .ok (.iload_n 1, 1) := by decide +kernel
theorem dX12_tickOf_115 : decode cX12_tickOf 115 = .ok (.invokevirtual 335, 3) := by decide +kernel
theorem dX12_tickOf_118 : decode cX12_tickOf 118 = .ok (.ifCond .ne 185, 3) := by decide +kernel
theorem dX12_tickOf_121 : decode cX12_tickOf 121 = .ok (.iload_n 2, 1) := by decide +kernel
theorem dX12_tickOf_122 : decode cX12_tickOf 122 = .ok (.ifCond .eq 181, 3) := by decide +kernel
theorem dX12_tickOf_125 : decode cX12_tickOf 125 = .ok (.aload_n 0, 1) := by decide +kernel
theorem dX12_tickOf_126 : decode cX12_tickOf 126 = .ok (.getfield 55, 3) := by decide +kernel
theorem dX12_tickOf_129 : decode cX12_tickOf 129 = .ok (.iload_n 1, 1) := by decide +kernel
theorem dX12_tickOf_130 : decode cX12_tickOf 130 = .ok (.iconst 0, 1) := by decide +kernel
theorem dX12_tickOf_131 : decode cX12_tickOf 131 = .ok (.iastore, 1) := by decide +kernel
theorem dX12_tickOf_132 : decode cX12_tickOf 132 = .ok (.aload_n 0, 1) := by decide +kernel
theorem dX12_tickOf_133 : decode cX12_tickOf 133 = .ok (.bipush 10, 2) := by decide +kernel
theorem dX12_tickOf_135 : decode cX12_tickOf 135 = .ok (.iload_n 1, 1) := by decide +kernel
theorem dX12_tickOf_136 : decode cX12_tickOf 136 = .ok (.aload_n 0, 1) := by decide +kernel
theorem dX12_tickOf_137 : decode cX12_tickOf 137 = .ok (.getfield 76, 3) := by decide +kernel
theorem dX12_tickOf_140 : decode cX12_tickOf 140 = .ok (.iload_n 1, 1) := by decide +kernel
theorem dX12_tickOf_141 : decode cX12_tickOf 141 = .ok (.iaload, 1) := by decide +kernel
theorem dX12_tickOf_142 : decode cX12_tickOf 142 = .ok (.aload_n 0, 1) := by decide +kernel
theorem dX12_tickOf_143 : decode cX12_tickOf 143 = .ok (.getfield 37, 3) := by decide +kernel
theorem dX12_tickOf_146 : decode cX12_tickOf 146 = .ok (.iload_n 1, 1) := by decide +kernel
theorem dX12_tickOf_147 : decode cX12_tickOf 147 = .ok (.iaload, 1) := by decide +kernel
theorem dX12_tickOf_148 : decode cX12_tickOf 148 = .ok (.iconst 0, 1) := by decide +kernel
theorem dX12_tickOf_149 : decode cX12_tickOf 149 = .ok (.invokevirtual 311, 3) := by decide +kernel
theorem dX12_tickOf_152 : decode cX12_tickOf 152 = .ok (.goto 151, 3) := by decide +kernel
theorem dX12_tickOf_155 : decode cX12_tickOf 155 = .ok (.aload_n 0, 1) := by decide +kernel
theorem dX12_tickOf_156 : decode cX12_tickOf 156 = .ok (.getfield 73, 3) := by decide +kernel
theorem dX12_tickOf_159 : decode cX12_tickOf 159 = .ok (.iload_n 1, 1) := by decide +kernel
theorem dX12_tickOf_160 : decode cX12_tickOf 160 = .ok (.iaload, 1) := by decide +kernel
theorem dX12_tickOf_161 : decode cX12_tickOf 161 = .ok (.iconst 1, 1) := by decide +kernel
theorem dX12_tickOf_162 : decode cX12_tickOf 162 = .ok (.if_icmp .ne 15, 3) := by decide +kernel
theorem dX12_tickOf_165 : decode cX12_tickOf 165 = .ok (.iload_n 2, 1) := by decide +kernel
theorem dX12_tickOf_166 : decode cX12_tickOf 166 = .ok (.ifCond .eq 137, 3) := by decide +kernel
theorem dX12_tickOf_169 : decode cX12_tickOf 169 = .ok (.aload_n 0, 1) := by decide +kernel
theorem dX12_tickOf_170 : decode cX12_tickOf 170 = .ok (.iload_n 1, 1) := by decide +kernel
theorem dX12_tickOf_171 : decode cX12_tickOf 171 = .ok (.invokevirtual 379, 3) := by decide +kernel
theorem dX12_tickOf_174 : decode cX12_tickOf 174 = .ok (.goto 129, 3) := by decide +kernel
theorem dX12_tickOf_177 : decode cX12_tickOf 177 = .ok (.aload_n 0, 1) := by decide +kernel
theorem dX12_tickOf_178 : decode cX12_tickOf 178 = .ok (.getfield 97, 3) := by decide +kernel
theorem dX12_tickOf_181 : decode cX12_tickOf 181 = .ok (.iload_n 1, 1) := by decide +kernel
theorem dX12_tickOf_182 : decode cX12_tickOf 182 = .ok (.iaload, 1) := by decide +kernel
theorem dX12_tickOf_183 : decode cX12_tickOf 183 = .ok (.ifCond .le 83, 3) := by decide +kernel
theorem dX12_tickOf_186 : decode cX12_tickOf 186 = .ok (.aload_n 0, 1) := by decide +kernel
theorem dX12_tickOf_187 : decode cX12_tickOf 187 = .ok (.getfield 55, 3) := by decide +kernel
theorem dX12_tickOf_190 : decode cX12_tickOf 190 = .ok (.iload_n 1, 1) := by decide +kernel
theorem dX12_tickOf_191 : decode cX12_tickOf 191 = .ok (.iaload, 1) := by decide +kernel
theorem dX12_tickOf_192 : decode cX12_tickOf 192 = .ok (.aload_n 0, 1) := by decide +kernel
theorem dX12_tickOf_193 : decode cX12_tickOf 193 = .ok (.getfield 187, 3) := by decide +kernel
theorem dX12_tickOf_196 : decode cX12_tickOf 196 = .ok (.iload_n 1, 1) := by decide +kernel
theorem dX12_tickOf_197 : decode cX12_tickOf 197 = .ok (.iadd, 1) := by decide +kernel
theorem dX12_tickOf_198 : decode cX12_tickOf 198 = .ok (.if_icmp .lt 11, 3) := by decide +kernel
theorem dX12_tickOf_201 : decode cX12_tickOf 201 = .ok (.aload_n 0, 1) := by decide +kernel
theorem dX12_tickOf_202 : decode cX12_tickOf 202 = .ok (.iload_n 1, 1) := by decide +kernel
theorem dX12_tickOf_203 : decode cX12_tickOf 203 = .ok (.invokevirtual 379, 3) := by decide +kernel
theorem dX12_tickOf_206 : decode cX12_tickOf 206 = .ok (.goto 97, 3) := by decide +kernel
theorem dX12_tickOf_209 : decode cX12_tickOf 209 = .ok (.aload_n 0, 1) := by decide +kernel
theorem dX12_tickOf_210 : decode cX12_tickOf 210 = .ok (.getfield 91, 3) := by decide +kernel
theorem dX12_tickOf_213 : decode cX12_tickOf 213 = .ok (.iload_n 1, 1) := by decide +kernel
theorem dX12_tickOf_214 : decode cX12_tickOf 214 = .ok (.iaload, 1) := by decide +kernel
theorem dX12_tickOf_215 : decode cX12_tickOf 215 = .ok (.ifCond .le 88, 3) := by decide +kernel
theorem dX12_tickOf_218 : decode cX12_tickOf 218 = .ok (.aload_n 0, 1) := by decide +kernel
theorem dX12_tickOf_219 : decode cX12_tickOf 219 = .ok (.getfield 91, 3) := by decide +kernel
theorem dX12_tickOf_222 : decode cX12_tickOf 222 = .ok (.iload_n 1, 1) := by decide +kernel
theorem dX12_tickOf_223 : decode cX12_tickOf 223 = .ok (.iaload, 1) := by decide +kernel
theorem dX12_tickOf_224 : decode cX12_tickOf 224 = .ok (.aload_n 0, 1) := by decide +kernel
theorem dX12_tickOf_225 : decode cX12_tickOf 225 = .ok (.getfield 184, 3) := by decide +kernel
theorem dX12_tickOf_228 : decode cX12_tickOf 228 = .ok (.irem, 1) := by decide +kernel
theorem dX12_tickOf_229 : decode cX12_tickOf 229 = .ok (.iload_n 1, 1) := by decide +kernel
theorem dX12_tickOf_230 : decode cX12_tickOf 230 = .ok (.if_icmp .eq 73, 3) := by decide +kernel
theorem dX12_tickOf_233 : decode cX12_tickOf 233 = .ok (.aload_n 0, 1) := by decide +kernel
theorem dX12_tickOf_234 : decode cX12_tickOf 234 = .ok (.bipush 9, 2) := by decide +kernel
theorem dX12_tickOf_236 : decode cX12_tickOf 236 = .ok (.iload_n 1, 1) := by decide +kernel
theorem dX12_tickOf_237 : decode cX12_tickOf 237 = .ok (.aload_n 0, 1) := by decide +kernel
theorem dX12_tickOf_238 : decode cX12_tickOf 238 = .ok (.getfield 91, 3) := by decide +kernel
theorem dX12_tickOf_241 : decode cX12_tickOf 241 = .ok (.iload_n 1, 1) := by decide +kernel
theorem dX12_tickOf_242 : decode cX12_tickOf 242 = .ok (.iaload, 1) := by decide +kernel
theorem dX12_tickOf_243 : decode cX12_tickOf 243 = .ok (.aload_n 0, 1) := by decide +kernel
theorem dX12_tickOf_244 : decode cX12_tickOf 244 = .ok (.getfield 184, 3) := by decide +kernel
theorem dX12_tickOf_247 : decode cX12_tickOf 247 = .ok (.irem, 1) := by decide +kernel
theorem dX12_tickOf_248 : decode cX12_tickOf 248 = .ok (.iconst 0, 1) := by decide +kernel
theorem dX12_tickOf_249 : decode cX12_tickOf 249 = .ok (.iconst 0, 1) := by decide +kernel
theorem dX12_tickOf_250 : decode cX12_tickOf 250 = .ok (.aload_n 0, 1) := by decide +kernel
theorem dX12_tickOf_251 : decode cX12_tickOf 251 = .ok (.getfield 94, 3) := by decide +kernel
theorem dX12_tickOf_254 : decode cX12_tickOf 254 = .ok (.bipush 8, 2) := by decide +kernel
theorem dX12_tickOf_256 : decode cX12_tickOf 256 = .ok (.iload_n 1, 1) := by decide +kernel
theorem dX12_tickOf_257 : decode cX12_tickOf 257 = .ok (.imul, 1) := by decide +kernel
theorem dX12_tickOf_258 : decode cX12_tickOf 258 = .ok (.iaload, 1) := by decide +kernel
theorem dX12_tickOf_259 : decode cX12_tickOf 259 = .ok (.iconst 0, 1) := by decide +kernel
theorem dX12_tickOf_260 : decode cX12_tickOf 260 = .ok (.invokevirtual 299, 3) := by decide +kernel
theorem dX12_tickOf_263 : decode cX12_tickOf 263 = .ok (.goto 40, 3) := by decide +kernel
theorem dX12_tickOf_266 : decode cX12_tickOf 266 = .ok (.iload_n 2, 1) := by decide +kernel
theorem dX12_tickOf_267 : decode cX12_tickOf 267 = .ok (.ifCond .eq 36, 3) := by decide +kernel
theorem dX12_tickOf_270 : decode cX12_tickOf 270 = .ok (.aload_n 0, 1) := by decide +kernel
theorem dX12_tickOf_271 : decode cX12_tickOf 271 = .ok (.getfield 55, 3) := by decide +kernel
theorem dX12_tickOf_274 : decode cX12_tickOf 274 = .ok (.iload_n 1, 1) := by decide +kernel
theorem dX12_tickOf_275 : decode cX12_tickOf 275 = .ok (.iconst 0, 1) := by decide +kernel
theorem dX12_tickOf_276 : decode cX12_tickOf 276 = .ok (.iastore, 1) := by decide +kernel
theorem dX12_tickOf_277 : decode cX12_tickOf 277 = .ok (.aload_n 0, 1) := by decide +kernel
theorem dX12_tickOf_278 : decode cX12_tickOf 278 = .ok (.bipush 6, 2) := by decide +kernel
theorem dX12_tickOf_280 : decode cX12_tickOf 280 = .ok (.iload_n 1, 1) := by decide +kernel
theorem dX12_tickOf_281 : decode cX12_tickOf 281 = .ok (.iload_n 1, 1) := by decide +kernel
theorem dX12_tickOf_282 : decode cX12_tickOf 282 = .ok (.iconst 1, 1) := by decide +kernel
theorem dX12_tickOf_283 : decode cX12_tickOf 283 = .ok (.iadd, 1) := by decide +kernel
theorem dX12_tickOf_284 : decode cX12_tickOf 284 = .ok (.aload_n 0, 1) := by decide +kernel
theorem dX12_tickOf_285 : decode cX12_tickOf 285 = .ok (.getfield 184, 3) := by decide +kernel
theorem dX12_tickOf_288 : decode cX12_tickOf 288 = .ok (.irem, 1) := by decide +kernel
theorem dX12_tickOf_289 : decode cX12_tickOf 289 = .ok (.iconst 0, 1) := by decide +kernel
theorem dX12_tickOf_290 : decode cX12_tickOf 290 = .ok (.aload_n 0, 1) := by decide +kernel
theorem dX12_tickOf_291 : decode cX12_tickOf 291 = .ok (.getfield 37, 3) := by decide +kernel
theorem dX12_tickOf_294 : decode cX12_tickOf 294 = .ok (.iload_n 1, 1) := by decide +kernel
theorem dX12_tickOf_295 : decode cX12_tickOf 295 = .ok (.iaload, 1) := by decide +kernel
theorem dX12_tickOf_296 : decode cX12_tickOf 296 = .ok (.iconst 1, 1) := by decide +kernel
theorem dX12_tickOf_297 : decode cX12_tickOf 297 = .ok (.iadd, 1) := by decide +kernel
theorem dX12_tickOf_298 : decode cX12_tickOf 298 = .ok (.iconst 0, 1) := by decide +kernel
theorem dX12_tickOf_299 : decode cX12_tickOf 299 = .ok (.iconst 0, 1) := by decide +kernel
theorem dX12_tickOf_300 : decode cX12_tickOf 300 = .ok (.invokevirtual 299, 3) := by decide +kernel
theorem dX12_tickOf_303 : decode cX12_tickOf 303 = .ok (.aload_n 0, 1) := by decide +kernel
theorem dX12_tickOf_304 : decode cX12_tickOf 304 = .ok (.getfield 290, 3) := by decide +kernel
theorem dX12_tickOf_307 : decode cX12_tickOf 307 = .ok (.ireturn, 1) := by decide +kernel
theorem dX12_deliverAt_0 : decode cX12_deliverAt 0 = .ok (.aload_n 0, 1) := by decide +kernel
theorem dX12_deliverAt_1 : decode cX12_deliverAt 1 = .ok (.iconst 0, 1) := by decide +kernel
theorem dX12_deliverAt_2 : decode cX12_deliverAt 2 = .ok (.putfield 204, 3) := by decide +kernel
theorem dX12_deliverAt_5 : decode cX12_deliverAt 5 = .ok (.iload_n 1, 1) := by decide +kernel
theorem dX12_deliverAt_6 : decode cX12_deliverAt 6 = .ok (.ifCond .lt 11, 3) := by decide +kernel
theorem dX12_deliverAt_9 : decode cX12_deliverAt 9 = .ok (.iload_n 1, 1) := by decide +kernel
theorem dX12_deliverAt_10 : decode cX12_deliverAt 10 = .ok (.aload_n 0, 1) := by decide +kernel
theorem dX12_deliverAt_11 : decode cX12_deliverAt 11 = .ok (.getfield 290, 3) := by decide +kernel
theorem dX12_deliverAt_14 : decode cX12_deliverAt 14 = .ok (.if_icmp .lt 5, 3) := by decide +kernel
theorem dX12_deliverAt_17 : decode cX12_deliverAt 17 = .ok (.iconst (-1), 1) := by decide +kernel
theorem dX12_deliverAt_18 : decode cX12_deliverAt 18 = .ok (.ireturn, 1) := by decide +kernel
theorem dX12_deliverAt_19 : decode cX12_deliverAt 19 = .ok (.bipush 8, 2) := by decide +kernel
theorem dX12_deliverAt_21 : decode cX12_deliverAt 21 = .ok (.iload_n 1, 1) := by decide +kernel
theorem dX12_deliverAt_22 : decode cX12_deliverAt 22 = .ok (.imul, 1) := by decide +kernel
theorem dX12_deliverAt_23 : decode cX12_deliverAt 23 = .ok (.istore_n 2, 1) := by decide +kernel
theorem dX12_deliverAt_24 : decode cX12_deliverAt 24 = .ok (.aload_n 0, 1) := by decide +kernel
theorem dX12_deliverAt_25 : decode cX12_deliverAt 25 = .ok (.getfield 136, 3) := by decide +kernel
theorem dX12_deliverAt_28 : decode cX12_deliverAt 28 = .ok (.iload_n 2, 1) := by decide +kernel
theorem dX12_deliverAt_29 : decode cX12_deliverAt 29 = .ok (.iaload, 1) := by decide +kernel
theorem dX12_deliverAt_30 : decode cX12_deliverAt 30 = .ok (.istore_n 3, 1) := by decide +kernel
theorem dX12_deliverAt_31 : decode cX12_deliverAt 31 = .ok (.aload_n 0, 1) := by decide +kernel
theorem dX12_deliverAt_32 : decode cX12_deliverAt 32 = .ok (.getfield 136, 3) := by decide +kernel
theorem dX12_deliverAt_35 : decode cX12_deliverAt 35 = .ok (.iload_n 2, 1) := by decide +kernel
theorem dX12_deliverAt_36 : decode cX12_deliverAt 36 = .ok (.iconst 1, 1) := by decide +kernel
theorem dX12_deliverAt_37 : decode cX12_deliverAt 37 = .ok (.iadd, 1) := by decide +kernel
theorem dX12_deliverAt_38 : decode cX12_deliverAt 38 = .ok (.iaload, 1) := by decide +kernel
theorem dX12_deliverAt_39 : decode cX12_deliverAt 39 = .ok (.istore 4, 2) := by decide +kernel
theorem dX12_deliverAt_41 : decode cX12_deliverAt 41 = .ok (.aload_n 0, 1) := by decide +kernel
theorem dX12_deliverAt_42 : decode cX12_deliverAt 42 = .ok (.getfield 136, 3) := by decide +kernel
theorem dX12_deliverAt_45 : decode cX12_deliverAt 45 = .ok (.iload_n 2, 1) := by decide +kernel
theorem dX12_deliverAt_46 : decode cX12_deliverAt 46 = .ok (.iconst 2, 1) := by decide +kernel
theorem dX12_deliverAt_47 : decode cX12_deliverAt 47 = .ok (.iadd, 1) := by decide +kernel
theorem dX12_deliverAt_48 : decode cX12_deliverAt 48 = .ok (.iaload, 1) := by decide +kernel
theorem dX12_deliverAt_49 : decode cX12_deliverAt 49 = .ok (.istore 5, 2) := by decide +kernel
theorem dX12_deliverAt_51 : decode cX12_deliverAt 51 = .ok (.aload_n 0, 1) := by decide +kernel
theorem dX12_deliverAt_52 : decode cX12_deliverAt 52 = .ok (.getfield 136, 3) := by decide +kernel
theorem dX12_deliverAt_55 : decode cX12_deliverAt 55 = .ok (.iload_n 2, 1) := by decide +kernel
theorem dX12_deliverAt_56 : decode cX12_deliverAt 56 = .ok (.iconst 3, 1) := by decide +kernel
theorem dX12_deliverAt_57 : decode cX12_deliverAt 57 = .ok (.iadd, 1) := by decide +kernel
theorem dX12_deliverAt_58 : decode cX12_deliverAt 58 = .ok (.iaload, 1) := by decide +kernel
theorem dX12_deliverAt_59 : decode cX12_deliverAt 59 = .ok (.istore 6, 2) := by decide +kernel
theorem dX12_deliverAt_61 : decode cX12_deliverAt 61 = .ok (.aload_n 0, 1) := by decide +kernel
theorem dX12_deliverAt_62 : decode cX12_deliverAt 62 = .ok (.getfield 136, 3) := by decide +kernel
theorem dX12_deliverAt_65 : decode cX12_deliverAt 65 = .ok (.iload_n 2, 1) := by decide +kernel
theorem dX12_deliverAt_66 : decode cX12_deliverAt 66 = .ok (.iconst 4, 1) := by decide +kernel
theorem dX12_deliverAt_67 : decode cX12_deliverAt 67 = .ok (.iadd, 1) := by decide +kernel
theorem dX12_deliverAt_68 : decode cX12_deliverAt 68 = .ok (.iaload, 1) := by decide +kernel
theorem dX12_deliverAt_69 : decode cX12_deliverAt 69 = .ok (.istore 7, 2) := by decide +kernel
theorem dX12_deliverAt_71 : decode cX12_deliverAt 71 = .ok (.aload_n 0, 1) := by decide +kernel
theorem dX12_deliverAt_72 : decode cX12_deliverAt 72 = .ok (.getfield 136, 3) := by decide +kernel
theorem dX12_deliverAt_75 : decode cX12_deliverAt 75 = .ok (.iload_n 2, 1) := by decide +kernel
theorem dX12_deliverAt_76 : decode cX12_deliverAt 76 = .ok (.iconst 5, 1) := by decide +kernel
theorem dX12_deliverAt_77 : decode cX12_deliverAt 77 = .ok (.iadd, 1) := by decide +kernel
theorem dX12_deliverAt_78 : decode cX12_deliverAt 78 = .ok (.iaload, 1) := by decide +kernel
theorem dX12_deliverAt_79 : decode cX12_deliverAt 79 = .ok (.istore 8, 2) := by decide +kernel
theorem dX12_deliverAt_81 : decode cX12_deliverAt 81 = .ok (.aload_n 0, 1) := by decide +kernel
theorem dX12_deliverAt_82 : decode cX12_deliverAt 82 = .ok (.getfield 136, 3) := by decide +kernel
theorem dX12_deliverAt_85 : decode cX12_deliverAt 85 = .ok (.iload_n 2, 1) := by decide +kernel
theorem dX12_deliverAt_86 : decode cX12_deliverAt 86 = .ok (.bipush 6, 2) := by decide +kernel
theorem dX12_deliverAt_88 : decode cX12_deliverAt 88 = .ok (.iadd, 1) := by decide +kernel
theorem dX12_deliverAt_89 : decode cX12_deliverAt 89 = .ok (.iaload, 1) := by decide +kernel
theorem dX12_deliverAt_90 : decode cX12_deliverAt 90 = .ok (.istore 9, 2) := by decide +kernel
theorem dX12_deliverAt_92 : decode cX12_deliverAt 92 = .ok (.aload_n 0, 1) := by decide +kernel
theorem dX12_deliverAt_93 : decode cX12_deliverAt 93 = .ok (.getfield 136, 3) := by decide +kernel
theorem dX12_deliverAt_96 : decode cX12_deliverAt 96 = .ok (.iload_n 2, 1) := by decide +kernel
theorem dX12_deliverAt_97 : decode cX12_deliverAt 97 = .ok (.bipush 7, 2) := by decide +kernel
theorem dX12_deliverAt_99 : decode cX12_deliverAt 99 = .ok (.iadd, 1) := by decide +kernel
theorem dX12_deliverAt_100 : decode cX12_deliverAt 100 = .ok (.iaload, 1) := by decide +kernel
theorem dX12_deliverAt_101 : decode cX12_deliverAt 101 = .ok (.ifCond .le 7, 3) := by decide +kernel
theorem dX12_deliverAt_104 : decode cX12_deliverAt 104 = .ok (.iconst 1, 1) := by decide +kernel
theorem dX12_deliverAt_105 : decode cX12_deliverAt 105 = .ok (.goto 4, 3) := by decide +kernel
theorem dX12_deliverAt_108 : decode cX12_deliverAt 108 = .ok (.iconst 0, 1) := by decide +kernel
theorem dX12_deliverAt_109 : decode cX12_deliverAt 109 = .ok (.istore 10, 2) := by decide +kernel
theorem dX12_deliverAt_111 : decode cX12_deliverAt 111 = .ok (.iconst 0, 1) := by decide +kernel
theorem dX12_deliverAt_112 : decode cX12_deliverAt 112 = .ok (.istore 11, 2) := by decide +kernel
theorem dX12_deliverAt_114 : decode cX12_deliverAt 114 = .ok (.iload 11, 2) := by decide +kernel
theorem dX12_deliverAt_116 : decode cX12_deliverAt 116 = .ok (.bipush 100, 2) := by decide +kernel
theorem dX12_deliverAt_118 : decode cX12_deliverAt 118 = .ok (.if_icmp .ge 28, 3) := by decide +kernel
theorem dX12_deliverAt_121 : decode cX12_deliverAt 121 = .ok (.aload_n 0, 1) := by decide +kernel
theorem dX12_deliverAt_122 : decode cX12_deliverAt 122 = .ok (.getfield 154, 3) := by decide +kernel
theorem dX12_deliverAt_125 : decode cX12_deliverAt 125 = .ok (.iload 11, 2) := by decide +kernel
theorem dX12_deliverAt_127 : decode cX12_deliverAt 127 = .ok (.aload_n 0, 1) := by decide +kernel
theorem dX12_deliverAt_128 : decode cX12_deliverAt 128 = .ok (.getfield 139, 3) := by decide +kernel
theorem dX12_deliverAt_131 : decode cX12_deliverAt 131 = .ok (.bipush 100, 2) := by decide +kernel
theorem dX12_deliverAt_133 : decode cX12_deliverAt 133 = .ok (.iload_n 1, 1) := by decide +kernel
theorem dX12_deliverAt_134 : decode cX12_deliverAt 134 = .ok (.imul, 1) := by decide +kernel
theorem dX12_deliverAt_135 : decode cX12_deliverAt 135 = .ok (.iload 11, 2) := by decide +kernel
theorem dX12_deliverAt_137 : decode cX12_deliverAt 137 = .ok (.iadd, 1) := by decide +kernel
theorem dX12_deliverAt_138 : decode cX12_deliverAt 138 = .ok (.iaload, 1) := by decide +kernel
theorem dX12_deliverAt_139 : decode cX12_deliverAt 139 = .ok (.iastore, 1) := by decide +kernel
theorem dX12_deliverAt_140 : decode cX12_deliverAt 140 = .ok (.iinc 11 1, 3) := by decide +kernel
theorem dX12_deliverAt_143 : decode cX12_deliverAt 143 = .ok (.goto (-29), 3) := by decide +kernel
theorem dX12_deliverAt_146 : decode cX12_deliverAt 146 = .ok (.aload_n 0, 1) := by decide +kernel
theorem dX12_deliverAt_147 : decode cX12_deliverAt 147 = .ok (.aload_n 0, 1) := by decide +kernel
theorem dX12_deliverAt_148 : decode cX12_deliverAt 148 = .ok (.getfield 142, 3) := by decide +kernel
theorem dX12_deliverAt_151 : decode cX12_deliverAt 151 = .ok (.iload_n 1, 1) := by decide +kernel
theorem dX12_deliverAt_152 : decode cX12_deliverAt 152 = .ok (.iaload, 1) := by decide +kernel
theorem dX12_deliverAt_153 : decode cX12_deliverAt 153 = .ok (.putfield 358, 3) := by decide +kernel
theorem dX12_deliverAt_156 : decode cX12_deliverAt 156 = .ok (.aload_n 0, 1) := by decide +kernel
theorem dX12_deliverAt_157 : decode cX12_deliverAt 157 = .ok (.iload_n 1, 1) := by decide +kernel
theorem dX12_deliverAt_158 : decode cX12_deliverAt 158 = .ok (.invokevirtual 382, 3) := by decide +kernel
theorem dX12_deliverAt_161 : decode cX12_deliverAt 161 = .ok (.iload 10, 2) := by decide +kernel
theorem dX12_deliverAt_163 : decode cX12_deliverAt 163 = .ok (.ifCond .eq 15, 3) := by decide +kernel
theorem dX12_deliverAt_166 : decode cX12_deliverAt 166 = .ok (.aload_n 0, 1) := by decide +kernel
theorem dX12_deliverAt_167 : decode cX12_deliverAt 167 = .ok (.dup, 1) := by decide +kernel
theorem dX12_deliverAt_168 : decode cX12_deliverAt 168 = .ok (.getfield 385, 3) := by decide +kernel
theorem dX12_deliverAt_171 : decode cX12_deliverAt 171 = .ok (.iconst 1, 1) := by decide +kernel
theorem dX12_deliverAt_172 : decode cX12_deliverAt 172 = .ok (.iadd, 1) := by decide +kernel
theorem dX12_deliverAt_173 : decode cX12_deliverAt 173 = .ok (.putfield 385, 3) := by decide +kernel
theorem dX12_deliverAt_176 : decode cX12_deliverAt 176 = .ok (.iconst 0, 1) := by decide +kernel
theorem dX12_deliverAt_177 : decode cX12_deliverAt 177 = .ok (.ireturn, 1) := by decide +kernel
theorem dX12_deliverAt_178 : decode cX12_deliverAt 178 = .ok (.aload_n 0, 1) := by decide +kernel
theorem dX12_deliverAt_179 : decode cX12_deliverAt 179 = .ok (.getfield 33, 3) := by decide +kernel
theorem dX12_deliverAt_182 : decode cX12_deliverAt 182 = .ok (.iload 5, 2) := by decide +kernel
theorem dX12_deliverAt_184 : decode cX12_deliverAt 184 = .ok (.baload, 1) := by decide +kernel
theorem dX12_deliverAt_185 : decode cX12_deliverAt 185 = .ok (.ifCond .eq 20, 3) := by decide +kernel
theorem dX12_deliverAt_188 : decode cX12_deliverAt 188 = .ok (.aload_n 0, 1) := by decide +kernel
theorem dX12_deliverAt_189 : decode cX12_deliverAt 189 = .ok (.iload_n 3, 1) := by decide +kernel
theorem dX12_deliverAt_190 : decode cX12_deliverAt 190 = .ok (.iload 4, 2) := by decide +kernel
theorem dX12_deliverAt_192 : decode cX12_deliverAt 192 = .ok (.iload 5, 2) := by decide +kernel
theorem dX12_deliverAt_194 : decode cX12_deliverAt 194 = .ok (.iload 6, 2) := by decide +kernel
theorem dX12_deliverAt_196 : decode cX12_deliverAt 196 = .ok (.iload 7, 2) := by decide +kernel
theorem dX12_deliverAt_198 : decode cX12_deliverAt 198 = .ok (.iload 8, 2) := by decide +kernel
theorem dX12_deliverAt_200 : decode cX12_deliverAt 200 = .ok (.iload 9, 2) := by decide +kernel
theorem dX12_deliverAt_202 : decode cX12_deliverAt 202 = .ok (.invokevirtual 388, 3) := by decide +kernel
theorem dX12_deliverAt_205 : decode cX12_deliverAt 205 = .ok (.iload_n 3, 1) := by decide +kernel
theorem dX12_deliverAt_206 : decode cX12_deliverAt 206 = .ok (.ireturn, 1) := by decide +kernel
theorem dX12_loseAt_0 : decode cX12_loseAt 0 = .ok (.aload_n 0, 1) := by decide +kernel
theorem dX12_loseAt_1 : decode cX12_loseAt 1 = .ok (.iconst 0, 1) := by decide +kernel
theorem dX12_loseAt_2 : decode cX12_loseAt 2 = .ok (.putfield 204, 3) := by decide +kernel
theorem dX12_loseAt_5 : decode cX12_loseAt 5 = .ok (.iload_n 1, 1) := by decide +kernel
theorem dX12_loseAt_6 : decode cX12_loseAt 6 = .ok (.ifCond .lt 11, 3) := by decide +kernel
theorem dX12_loseAt_9 : decode cX12_loseAt 9 = .ok (.iload_n 1, 1) := by decide +kernel
theorem dX12_loseAt_10 : decode cX12_loseAt 10 = .ok (.aload_n 0, 1) := by decide +kernel
theorem dX12_loseAt_11 : decode cX12_loseAt 11 = .ok (.getfield 290, 3) := by decide +kernel
theorem dX12_loseAt_14 : decode cX12_loseAt 14 = .ok (.if_icmp .lt 5, 3) := by decide +kernel
theorem dX12_loseAt_17 : decode cX12_loseAt 17 = .ok (.iconst 0, 1) := by decide +kernel
theorem dX12_loseAt_18 : decode cX12_loseAt 18 = .ok (.ireturn, 1) := by decide +kernel
theorem dX12_loseAt_19 : decode cX12_loseAt 19 = .ok (.aload_n 0, 1) := by decide +kernel
theorem dX12_loseAt_20 : decode cX12_loseAt 20 = .ok (.iload_n 1, 1) := by decide +kernel
theorem dX12_loseAt_21 : decode cX12_loseAt 21 = .ok (.invokevirtual 382, 3) := by decide +kernel
theorem dX12_loseAt_24 : decode cX12_loseAt 24 = .ok (.iconst 1, 1) := by decide +kernel
theorem dX12_loseAt_25 : decode cX12_loseAt 25 = .ok (.ireturn, 1) := by decide +kernel
theorem dX12_doubleAt_0 : decode cX12_doubleAt 0 = .ok (.aload_n 0, 1) := by decide +kernel
theorem dX12_doubleAt_1 : decode cX12_doubleAt 1 = .ok (.iconst 0, 1) := by decide +kernel
theorem dX12_doubleAt_2 : decode cX12_doubleAt 2 = .ok (.putfield 204, 3) := by decide +kernel
theorem dX12_doubleAt_5 : decode cX12_doubleAt 5 = .ok (.iload_n 1, 1) := by decide +kernel
theorem dX12_doubleAt_6 : decode cX12_doubleAt 6 = .ok (.ifCond .lt 21, 3) := by decide +kernel
theorem dX12_doubleAt_9 : decode cX12_doubleAt 9 = .ok (.iload_n 1, 1) := by decide +kernel
theorem dX12_doubleAt_10 : decode cX12_doubleAt 10 = .ok (.aload_n 0, 1) := by decide +kernel
theorem dX12_doubleAt_11 : decode cX12_doubleAt 11 = .ok (.getfield 290, 3) := by decide +kernel
theorem dX12_doubleAt_14 : decode cX12_doubleAt 14 = .ok (.if_icmp .ge 13, 3) := by decide +kernel
theorem dX12_doubleAt_17 : decode cX12_doubleAt 17 = .ok (.aload_n 0, 1) := by decide +kernel
theorem dX12_doubleAt_18 : decode cX12_doubleAt 18 = .ok (.getfield 290, 3) := by decide +kernel
theorem dX12_doubleAt_21 : decode cX12_doubleAt 21 = .ok (.sipush 200, 3) := by decide +kernel
theorem dX12_doubleAt_24 : decode cX12_doubleAt 24 = .ok (.if_icmp .ne 5, 3) := by decide +kernel
theorem dX12_doubleAt_27 : decode cX12_doubleAt 27 = .ok (.iconst 0, 1) := by decide +kernel
theorem dX12_doubleAt_28 : decode cX12_doubleAt 28 = .ok (.ireturn, 1) := by decide +kernel
theorem dX12_doubleAt_29 : decode cX12_doubleAt 29 = .ok (.iconst 0, 1) := by decide +kernel
theorem dX12_doubleAt_30 : decode cX12_doubleAt 30 = .ok (.istore_n 2, 1) := by decide +kernel
theorem dX12_doubleAt_31 : decode cX12_doubleAt 31 = .ok (.iload_n 2, 1) := by decide +kernel
theorem dX12_doubleAt_32 : decode cX12_doubleAt 32 = .ok (.bipush 8, 2) := by decide +kernel
theorem dX12_doubleAt_34 : decode cX12_doubleAt 34 = .ok (.if_icmp .ge 34, 3) := by decide +kernel
theorem dX12_doubleAt_37 : decode cX12_doubleAt 37 = .ok (.aload_n 0, 1) := by decide +kernel
theorem dX12_doubleAt_38 : decode cX12_doubleAt 38 = .ok (.getfield 136, 3) := by decide +kernel
theorem dX12_doubleAt_41 : decode cX12_doubleAt 41 = .ok (.bipush 8, 2) := by decide +kernel
theorem dX12_doubleAt_43 : decode cX12_doubleAt 43 = .ok (.aload_n 0, 1) := by decide +kernel
theorem dX12_doubleAt_44 : decode cX12_doubleAt 44 = .ok (.getfield 290, 3) := by decide +kernel
theorem dX12_doubleAt_47 : decode cX12_doubleAt 47 = .ok (.imul, 1) := by decide +kernel
theorem dX12_doubleAt_48 : decode cX12_doubleAt 48 = .ok (.iload_n 2, 1) := by decide +kernel
theorem dX12_doubleAt_49 : decode cX12_doubleAt 49 = .ok (.iadd, 1) := by decide +kernel
theorem dX12_doubleAt_50 : decode cX12_doubleAt 50 = .ok (.aload_n 0, 1) := by decide +kernel
theorem dX12_doubleAt_51 : decode cX12_doubleAt 51 = .ok (.getfield 136, 3) := by decide +kernel
theorem dX12_doubleAt_54 : decode cX12_doubleAt 54 = .ok (.bipush 8, 2) := by decide +kernel
theorem dX12_doubleAt_56 : decode cX12_doubleAt 56 = .ok (.iload_n 1, 1) := by decide +kernel
theorem dX12_doubleAt_57 : decode cX12_doubleAt 57 = .ok (.imul, 1) := by decide +kernel
theorem dX12_doubleAt_58 : decode cX12_doubleAt 58 = .ok (.iload_n 2, 1) := by decide +kernel
theorem dX12_doubleAt_59 : decode cX12_doubleAt 59 = .ok (.iadd, 1) := by decide +kernel
theorem dX12_doubleAt_60 : decode cX12_doubleAt 60 = .ok (.iaload, 1) := by decide +kernel
theorem dX12_doubleAt_61 : decode cX12_doubleAt 61 = .ok (.iastore, 1) := by decide +kernel
theorem dX12_doubleAt_62 : decode cX12_doubleAt 62 = .ok (.iinc 2 1, 3) := by decide +kernel
theorem dX12_doubleAt_65 : decode cX12_doubleAt 65 = .ok (.goto (-34), 3) := by decide +kernel
theorem dX12_doubleAt_68 : decode cX12_doubleAt 68 = .ok (.iconst 0, 1) := by decide +kernel
theorem dX12_doubleAt_69 : decode cX12_doubleAt 69 = .ok (.istore_n 2, 1) := by decide +kernel
theorem dX12_doubleAt_70 : decode cX12_doubleAt 70 = .ok (.iload_n 2, 1) := by decide +kernel
theorem dX12_doubleAt_71 : decode cX12_doubleAt 71 = .ok (.bipush 100, 2) := by decide +kernel
theorem dX12_doubleAt_73 : decode cX12_doubleAt 73 = .ok (.if_icmp .ge 34, 3) := by decide +kernel
theorem dX12_doubleAt_76 : decode cX12_doubleAt 76 = .ok (.aload_n 0, 1) := by decide +kernel
theorem dX12_doubleAt_77 : decode cX12_doubleAt 77 = .ok (.getfield 139, 3) := by decide +kernel
theorem dX12_doubleAt_80 : decode cX12_doubleAt 80 = .ok (.bipush 100, 2) := by decide +kernel
theorem dX12_doubleAt_82 : decode cX12_doubleAt 82 = .ok (.aload_n 0, 1) := by decide +kernel
theorem dX12_doubleAt_83 : decode cX12_doubleAt 83 = .ok (.getfield 290, 3) := by decide +kernel
theorem dX12_doubleAt_86 : decode cX12_doubleAt 86 = .ok (.imul, 1) := by decide +kernel
theorem dX12_doubleAt_87 : decode cX12_doubleAt 87 = .ok (.iload_n 2, 1) := by decide +kernel
theorem dX12_doubleAt_88 : decode cX12_doubleAt 88 = .ok (.iadd, 1) := by decide +kernel
theorem dX12_doubleAt_89 : decode cX12_doubleAt 89 = .ok (.aload_n 0, 1) := by decide +kernel
theorem dX12_doubleAt_90 : decode cX12_doubleAt 90 = .ok (.getfield 139, 3) := by decide +kernel
theorem dX12_doubleAt_93 : decode cX12_doubleAt 93 = .ok (.bipush 100, 2) := by decide +kernel
theorem dX12_doubleAt_95 : decode cX12_doubleAt 95 = .ok (.iload_n 1, 1) := by decide +kernel
theorem dX12_doubleAt_96 : decode cX12_doubleAt 96 = .ok (.imul, 1) := by decide +kernel
theorem dX12_doubleAt_97 : decode cX12_doubleAt 97 = .ok (.iload_n 2, 1) := by decide +kernel
theorem dX12_doubleAt_98 : decode cX12_doubleAt 98 = .ok (.iadd, 1) := by decide +kernel
theorem dX12_doubleAt_99 : decode cX12_doubleAt 99 = .ok (.iaload, 1) := by decide +kernel
theorem dX12_doubleAt_100 : decode cX12_doubleAt 100 = .ok (.iastore, 1) := by decide +kernel
theorem dX12_doubleAt_101 : decode cX12_doubleAt 101 = .ok (.iinc 2 1, 3) := by decide +kernel
theorem dX12_doubleAt_104 : decode cX12_doubleAt 104 = .ok (.goto (-34), 3) := by decide +kernel
theorem dX12_doubleAt_107 : decode cX12_doubleAt 107 = .ok (.aload_n 0, 1) := by decide +kernel
theorem dX12_doubleAt_108 : decode cX12_doubleAt 108 = .ok (.getfield 142, 3) := by decide +kernel
theorem dX12_doubleAt_111 : decode cX12_doubleAt 111 = .ok (.aload_n 0, 1) := by decide +kernel
theorem dX12_doubleAt_112 : decode cX12_doubleAt 112 = .ok (.getfield 290, 3) := by decide +kernel
theorem dX12_doubleAt_115 : decode cX12_doubleAt 115 = .ok (.aload_n 0, 1) := by decide +kernel
theorem dX12_doubleAt_116 : decode cX12_doubleAt 116 = .ok (.getfield 142, 3) := by decide +kernel
theorem dX12_doubleAt_119 : decode cX12_doubleAt 119 = .ok (.iload_n 1, 1) := by decide +kernel
theorem dX12_doubleAt_120 : decode cX12_doubleAt 120 = .ok (.iaload, 1) := by decide +kernel
theorem dX12_doubleAt_121 : decode cX12_doubleAt 121 = .ok (.iastore, 1) := by decide +kernel
theorem dX12_doubleAt_122 : decode cX12_doubleAt 122 = .ok (.aload_n 0, 1) := by decide +kernel
theorem dX12_doubleAt_123 : decode cX12_doubleAt 123 = .ok (.dup, 1) := by decide +kernel
theorem dX12_doubleAt_124 : decode cX12_doubleAt 124 = .ok (.getfield 290, 3) := by decide +kernel
theorem dX12_doubleAt_127 : decode cX12_doubleAt 127 = .ok (.iconst 1, 1) := by decide +kernel
theorem dX12_doubleAt_128 : decode cX12_doubleAt 128 = .ok (.iadd, 1) := by decide +kernel
theorem dX12_doubleAt_129 : decode cX12_doubleAt 129 = .ok (.putfield 290, 3) := by decide +kernel
theorem dX12_doubleAt_132 : decode cX12_doubleAt 132 = .ok (.iconst 1, 1) := by decide +kernel
theorem dX12_doubleAt_133 : decode cX12_doubleAt 133 = .ok (.ireturn, 1) := by decide +kernel
theorem dX12_spoilAt_0 : decode cX12_spoilAt 0 = .ok (.aload_n 0, 1) := by decide +kernel
theorem dX12_spoilAt_1 : decode cX12_spoilAt 1 = .ok (.iconst 0, 1) := by decide +kernel
theorem dX12_spoilAt_2 : decode cX12_spoilAt 2 = .ok (.putfield 204, 3) := by decide +kernel
theorem dX12_spoilAt_5 : decode cX12_spoilAt 5 = .ok (.iload_n 1, 1) := by decide +kernel
theorem dX12_spoilAt_6 : decode cX12_spoilAt 6 = .ok (.ifCond .lt 40, 3) := by decide +kernel
theorem dX12_spoilAt_9 : decode cX12_spoilAt 9 = .ok (.iload_n 1, 1) := by decide +kernel
theorem dX12_spoilAt_10 : decode cX12_spoilAt 10 = .ok (.aload_n 0, 1) := by decide +kernel
theorem dX12_spoilAt_11 : decode cX12_spoilAt 11 = .ok (.getfield 290, 3) := by decide +kernel
theorem dX12_spoilAt_14 : decode cX12_spoilAt 14 = .ok (.if_icmp .ge 32, 3) := by decide +kernel
theorem dX12_spoilAt_17 : decode cX12_spoilAt 17 = .ok (.iload_n 2, 1) := by decide +kernel
theorem dX12_spoilAt_18 : decode cX12_spoilAt 18 = .ok (.ifCond .lt 28, 3) := by decide +kernel
theorem dX12_spoilAt_21 : decode cX12_spoilAt 21 = .ok (.iload_n 3, 1) := by decide +kernel
theorem dX12_spoilAt_22 : decode cX12_spoilAt 22 = .ok (.ifCond .lt 24, 3) := by decide +kernel
theorem dX12_spoilAt_25 : decode cX12_spoilAt 25 = .ok (.iload_n 3, 1) := by decide +kernel
theorem dX12_spoilAt_26 : decode cX12_spoilAt 26 = .ok (.bipush 7, 2) := by decide +kernel
theorem dX12_spoilAt_28 : decode cX12_spoilAt 28 = .ok (.if_icmp .gt 18, 3) := by decide +kernel
theorem dX12_spoilAt_31 : decode cX12_spoilAt 31 = .ok (.aload_n 0, 1) := by decide +kernel
theorem dX12_spoilAt_32 : decode cX12_spoilAt 32 = .ok (.getfield 136, 3) := by decide +kernel
theorem dX12_spoilAt_35 : decode cX12_spoilAt 35 = .ok (.bipush 8, 2) := by decide +kernel
theorem dX12_spoilAt_37 : decode cX12_spoilAt 37 = .ok (.iload_n 1, 1) := by decide +kernel
theorem dX12_spoilAt_38 : decode cX12_spoilAt 38 = .ok (.imul, 1) := by decide +kernel
theorem dX12_spoilAt_39 : decode cX12_spoilAt 39 = .ok (.bipush 7, 2) := by decide +kernel
theorem dX12_spoilAt_41 : decode cX12_spoilAt 41 = .ok (.iadd, 1) := by decide +kernel
theorem dX12_spoilAt_42 : decode cX12_spoilAt 42 = .ok (.iaload, 1) := by decide +kernel
theorem dX12_spoilAt_43 : decode cX12_spoilAt 43 = .ok (.ifCond .le 5, 3) := by decide +kernel
theorem dX12_spoilAt_46 : decode cX12_spoilAt 46 = .ok (.iconst 0, 1) := by decide +kernel
theorem dX12_spoilAt_47 : decode cX12_spoilAt 47 = .ok (.ireturn, 1) := by decide +kernel
theorem dX12_spoilAt_48 : decode cX12_spoilAt 48 = .ok (.aload_n 0, 1) := by decide +kernel
theorem dX12_spoilAt_49 : decode cX12_spoilAt 49 = .ok (.iload_n 1, 1) := by decide +kernel
theorem dX12_spoilAt_50 : decode cX12_spoilAt 50 = .ok (.invokevirtual 391, 3) := by decide +kernel
theorem dX12_spoilAt_53 : decode cX12_spoilAt 53 = .ok (.iload_n 2, 1) := by decide +kernel
theorem dX12_spoilAt_54 : decode cX12_spoilAt 54 = .ok (.aload_n 0, 1) := by decide +kernel
theorem dX12_spoilAt_55 : decode cX12_spoilAt 55 = .ok (.getfield 218, 3) := by decide +kernel
theorem dX12_spoilAt_58 : decode cX12_spoilAt 58 = .ok (.if_icmp .lt 5, 3) := by decide +kernel
theorem dX12_spoilAt_61 : decode cX12_spoilAt 61 = .ok (.iconst 0, 1) := by decide +kernel
theorem dX12_spoilAt_62 : decode cX12_spoilAt 62 = .ok (.ireturn, 1) := by decide +kernel
theorem dX12_spoilAt_63 : decode cX12_spoilAt 63 = .ok (.aload_n 0, 1) := by decide +kernel
theorem dX12_spoilAt_64 : decode cX12_spoilAt 64 = .ok (.getfield 136, 3) := by decide +kernel
theorem dX12_spoilAt_67 : decode cX12_spoilAt 67 = .ok (.bipush 8, 2) := by decide +kernel
theorem dX12_spoilAt_69 : decode cX12_spoilAt 69 = .ok (.iload_n 1, 1) := by decide +kernel
theorem dX12_spoilAt_70 : decode cX12_spoilAt 70 = .ok (.imul, 1) := by decide +kernel
theorem dX12_spoilAt_71 : decode cX12_spoilAt 71 = .ok (.bipush 7, 2) := by decide +kernel
theorem dX12_spoilAt_73 : decode cX12_spoilAt 73 = .ok (.iadd, 1) := by decide +kernel
theorem dX12_spoilAt_74 : decode cX12_spoilAt 74 = .ok (.iconst 1, 1) := by decide +kernel
theorem dX12_spoilAt_75 : decode cX12_spoilAt 75 = .ok (.bipush 8, 2) := by decide +kernel
theorem dX12_spoilAt_77 : decode cX12_spoilAt 77 = .ok (.iload_n 2, 1) := by decide +kernel
theorem dX12_spoilAt_78 : decode cX12_spoilAt 78 = .ok (.imul, 1) := by decide +kernel
theorem dX12_spoilAt_79 : decode cX12_spoilAt 79 = .ok (.iadd, 1) := by decide +kernel
theorem dX12_spoilAt_80 : decode cX12_spoilAt 80 = .ok (.iload_n 3, 1) := by decide +kernel
theorem dX12_spoilAt_81 : decode cX12_spoilAt 81 = .ok (.iadd, 1) := by decide +kernel
theorem dX12_spoilAt_82 : decode cX12_spoilAt 82 = .ok (.iastore, 1) := by decide +kernel
theorem dX12_spoilAt_83 : decode cX12_spoilAt 83 = .ok (.iconst 1, 1) := by decide +kernel
theorem dX12_spoilAt_84 : decode cX12_spoilAt 84 = .ok (.ireturn, 1) := by decide +kernel
theorem dX12_turnTo_0 : decode cX12_turnTo 0 = .ok (.aload_n 0, 1) := by decide +kernel
theorem dX12_turnTo_1 : decode cX12_turnTo 1 = .ok (.iconst 0, 1) := by decide +kernel
theorem dX12_turnTo_2 : decode cX12_turnTo 2 = .ok (.putfield 204, 3) := by decide +kernel
theorem dX12_turnTo_5 : decode cX12_turnTo 5 = .ok (.aload_n 0, 1) := by decide +kernel
theorem dX12_turnTo_6 : decode cX12_turnTo 6 = .ok (.iload_n 1, 1) := by decide +kernel
theorem dX12_turnTo_7 : decode cX12_turnTo 7 = .ok (.invokevirtual 207, 3) := by decide +kernel
theorem dX12_turnTo_10 : decode cX12_turnTo 10 = .ok (.ifCond .eq 25, 3) := by decide +kernel
theorem dX12_turnTo_13 : decode cX12_turnTo 13 = .ok (.aload_n 0, 1) := by decide +kernel
theorem dX12_turnTo_14 : decode cX12_turnTo 14 = .ok (.getfield 33, 3) := by decide +kernel
theorem dX12_turnTo_17 : decode cX12_turnTo 17 = .ok (.aload_n 0, 1) := by decide +kernel
theorem dX12_turnTo_18 : decode cX12_turnTo 18 = .ok (.iload_n 1, 1) := by decide +kernel
theorem dX12_turnTo_19 : decode cX12_turnTo 19 = .ok (.invokevirtual 207, 3) := by decide +kernel
theorem dX12_turnTo_22 : decode cX12_turnTo 22 = .ok (.ifCond .eq 7, 3) := by decide +kernel
theorem dX12_turnTo_25 : decode cX12_turnTo 25 = .ok (.iload_n 1, 1) := by decide +kernel
theorem dX12_turnTo_26 : decode cX12_turnTo 26 = .ok (.goto 4, 3) := by decide +kernel
theorem dX12_turnTo_29 : decode cX12_turnTo 29 = .ok (.iconst 0, 1) := by decide +kernel
theorem dX12_turnTo_30 : decode cX12_turnTo 30 = .ok (.baload, 1) := by decide +kernel
theorem dX12_turnTo_31 : decode cX12_turnTo 31 = .ok (.iload_n 2, 1) := by decide +kernel
theorem dX12_turnTo_32 : decode cX12_turnTo 32 = .ok (.if_icmp .ne 5, 3) := by decide +kernel
theorem dX12_turnTo_35 : decode cX12_turnTo 35 = .ok (.iconst 0, 1) := by decide +kernel
theorem dX12_turnTo_36 : decode cX12_turnTo 36 = .ok (.ireturn, 1) := by decide +kernel
theorem dX12_turnTo_37 : decode cX12_turnTo 37 = .ok (.iload_n 2, 1) := by decide +kernel
theorem dX12_turnTo_38 : decode cX12_turnTo 38 = .ok (.ifCond .eq 18, 3) := by decide +kernel
theorem dX12_turnTo_41 : decode cX12_turnTo 41 = .ok (.aload_n 0, 1) := by decide +kernel
theorem dX12_turnTo_42 : decode cX12_turnTo 42 = .ok (.getfield 33, 3) := by decide +kernel
theorem dX12_turnTo_45 : decode cX12_turnTo 45 = .ok (.iload_n 1, 1) := by decide +kernel
theorem dX12_turnTo_46 : decode cX12_turnTo 46 = .ok (.iconst 1, 1) := by decide +kernel
theorem dX12_turnTo_47 : decode cX12_turnTo 47 = .ok (.bastore, 1) := by decide +kernel
theorem dX12_turnTo_48 : decode cX12_turnTo 48 = .ok (.aload_n 0, 1) := by decide +kernel
theorem dX12_turnTo_49 : decode cX12_turnTo 49 = .ok (.iload_n 1, 1) := by decide +kernel
theorem dX12_turnTo_50 : decode cX12_turnTo 50 = .ok (.invokevirtual 394, 3) := by decide +kernel
theorem dX12_turnTo_53 : decode cX12_turnTo 53 = .ok (.goto 8, 3) := by decide +kernel
theorem dX12_turnTo_56 : decode cX12_turnTo 56 = .ok (.aload_n 0, 1) := by decide +kernel
theorem dX12_turnTo_57 : decode cX12_turnTo 57 = .ok (.iload_n 1, 1) := by decide +kernel
theorem dX12_turnTo_58 : decode cX12_turnTo 58 = .ok (.invokevirtual 238, 3) := by decide +kernel
theorem dX12_turnTo_61 : decode cX12_turnTo 61 = .ok (.iconst 1, 1) := by decide +kernel
theorem dX12_turnTo_62 : decode cX12_turnTo 62 = .ok (.ireturn, 1) := by decide +kernel
theorem dX12_crashAfter_0 : decode cX12_crashAfter 0 = .ok (.aload_n 0, 1) := by decide +kernel
theorem dX12_crashAfter_1 : decode cX12_crashAfter 1 = .ok (.iconst 0, 1) := by decide +kernel
theorem dX12_crashAfter_2 : decode cX12_crashAfter 2 = .ok (.putfield 204, 3) := by decide +kernel
theorem dX12_crashAfter_5 : decode cX12_crashAfter 5 = .ok (.aload_n 0, 1) := by decide +kernel
theorem dX12_crashAfter_6 : decode cX12_crashAfter 6 = .ok (.iload_n 1, 1) := by decide +kernel
theorem dX12_crashAfter_7 : decode cX12_crashAfter 7 = .ok (.invokevirtual 373, 3) := by decide +kernel
theorem dX12_crashAfter_10 : decode cX12_crashAfter 10 = .ok (.ifCond .eq 10, 3) := by decide +kernel
theorem dX12_crashAfter_13 : decode cX12_crashAfter 13 = .ok (.iload_n 2, 1) := by decide +kernel
theorem dX12_crashAfter_14 : decode cX12_crashAfter 14 = .ok (.sipush 1000, 3) := by decide +kernel
theorem dX12_crashAfter_17 : decode cX12_crashAfter 17 = .ok (.if_icmp .le 5, 3) := by decide +kernel
theorem dX12_crashAfter_20 : decode cX12_crashAfter 20 = .ok (.iconst 0, 1) := by decide +kernel
theorem dX12_crashAfter_21 : decode cX12_crashAfter 21 = .ok (.ireturn, 1) := by decide +kernel
theorem dX12_crashAfter_22 : decode cX12_crashAfter 22 = .ok (.aload_n 0, 1) := by decide +kernel
theorem dX12_crashAfter_23 : decode cX12_crashAfter 23 = .ok (.getfield 122, 3) := by decide +kernel
theorem dX12_crashAfter_26 : decode cX12_crashAfter 26 = .ok (.iload_n 1, 1) := by decide +kernel
theorem dX12_crashAfter_27 : decode cX12_crashAfter 27 = .ok (.iload_n 2, 1) := by decide +kernel
theorem dX12_crashAfter_28 : decode cX12_crashAfter 28 = .ok (.ifCond .ge 7, 3) := by decide +kernel
theorem dX12_crashAfter_31 : decode cX12_crashAfter 31 = .ok (.iconst (-1), 1) := by decide +kernel
theorem dX12_crashAfter_32 : decode cX12_crashAfter 32 = .ok (.goto 4, 3) := by decide +kernel
theorem dX12_crashAfter_35 : decode cX12_crashAfter 35 = .ok (.iload_n 2, 1) := by decide +kernel
theorem dX12_crashAfter_36 : decode cX12_crashAfter 36 = .ok (.iastore, 1) := by decide +kernel
theorem dX12_crashAfter_37 : decode cX12_crashAfter 37 = .ok (.iconst 1, 1) := by decide +kernel
theorem dX12_crashAfter_38 : decode cX12_crashAfter 38 = .ok (.ireturn, 1) := by decide +kernel
theorem dX12_replicaOf_0 : decode cX12_replicaOf 0 = .ok (.aload_n 0, 1) := by decide +kernel
theorem dX12_replicaOf_1 : decode cX12_replicaOf 1 = .ok (.iconst 0, 1) := by decide +kernel
theorem dX12_replicaOf_2 : decode cX12_replicaOf 2 = .ok (.putfield 204, 3) := by decide +kernel
theorem dX12_replicaOf_5 : decode cX12_replicaOf 5 = .ok (.aload_n 0, 1) := by decide +kernel
theorem dX12_replicaOf_6 : decode cX12_replicaOf 6 = .ok (.iload_n 1, 1) := by decide +kernel
theorem dX12_replicaOf_7 : decode cX12_replicaOf 7 = .ok (.invokevirtual 207, 3) := by decide +kernel
theorem dX12_replicaOf_10 : decode cX12_replicaOf 10 = .ok (.ifCond .eq 38, 3) := by decide +kernel
theorem dX12_replicaOf_13 : decode cX12_replicaOf 13 = .ok (.iload_n 2, 1) := by decide +kernel
theorem dX12_replicaOf_14 : decode cX12_replicaOf 14 = .ok (.ifCond .lt 34, 3) := by decide +kernel
theorem dX12_replicaOf_17 : decode cX12_replicaOf 17 = .ok (.iload_n 2, 1) := by decide +kernel
theorem dX12_replicaOf_18 : decode cX12_replicaOf 18 = .ok (.bipush 14, 2) := by decide +kernel
theorem dX12_replicaOf_20 : decode cX12_replicaOf 20 = .ok (.if_icmp .gt 28, 3) := by decide +kernel
theorem dX12_replicaOf_23 : decode cX12_replicaOf 23 = .ok (.iload_n 2, 1) := by decide +kernel
theorem dX12_replicaOf_24 : decode cX12_replicaOf 24 = .ok (.ifCond .le 26, 3) := by decide +kernel
theorem dX12_replicaOf_27 : decode cX12_replicaOf 27 = .ok (.aload_n 0, 1) := by decide +kernel
theorem dX12_replicaOf_28 : decode cX12_replicaOf 28 = .ok (.getfield 33, 3) := by decide +kernel
theorem dX12_replicaOf_31 : decode cX12_replicaOf 31 = .ok (.aload_n 0, 1) := by decide +kernel
theorem dX12_replicaOf_32 : decode cX12_replicaOf 32 = .ok (.iload_n 1, 1) := by decide +kernel
theorem dX12_replicaOf_33 : decode cX12_replicaOf 33 = .ok (.invokevirtual 207, 3) := by decide +kernel
theorem dX12_replicaOf_36 : decode cX12_replicaOf 36 = .ok (.ifCond .eq 7, 3) := by decide +kernel
theorem dX12_replicaOf_39 : decode cX12_replicaOf 39 = .ok (.iload_n 1, 1) := by decide +kernel
theorem dX12_replicaOf_40 : decode cX12_replicaOf 40 = .ok (.goto 4, 3) := by decide +kernel
theorem dX12_replicaOf_43 : decode cX12_replicaOf 43 = .ok (.iconst 0, 1) := by decide +kernel
theorem dX12_replicaOf_44 : decode cX12_replicaOf 44 = .ok (.baload, 1) := by decide +kernel
theorem dX12_replicaOf_45 : decode cX12_replicaOf 45 = .ok (.ifCond .ne 5, 3) := by decide +kernel
theorem dX12_replicaOf_48 : decode cX12_replicaOf 48 = .ok (.iconst (-1), 1) := by decide +kernel
theorem dX12_replicaOf_49 : decode cX12_replicaOf 49 = .ok (.ireturn, 1) := by decide +kernel
theorem dX12_replicaOf_50 : decode cX12_replicaOf 50 = .ok (.iload_n 2, 1) := by decide +kernel
theorem dX12_replicaOf_51 : decode cX12_replicaOf 51 = .ok (.tableswitch 242 0 13 #[69, 84, 91, 98, 105, 112, 132, 139, 146, 176, 183, 190, 215, 222], 69) := by decide +kernel
theorem dX12_replicaOf_120 : decode cX12_replicaOf 120 = .ok (.aload_n 0, 1) := by decide +kernel
theorem dX12_replicaOf_121 : decode cX12_replicaOf 121 = .ok (.getfield 33, 3) := by decide +kernel
theorem dX12_replicaOf_124 : decode cX12_replicaOf 124 = .ok (.iload_n 1, 1) := by decide +kernel
theorem dX12_replicaOf_125 : decode cX12_replicaOf 125 = .ok (.baload, 1) := by decide +kernel
theorem dX12_replicaOf_126 : decode cX12_replicaOf 126 = .ok (.ifCond .eq 7, 3) := by decide +kernel
theorem dX12_replicaOf_129 : decode cX12_replicaOf 129 = .ok (.iconst 1, 1) := by decide +kernel
theorem dX12_replicaOf_130 : decode cX12_replicaOf 130 = .ok (.goto 4, 3) := by decide +kernel
theorem dX12_replicaOf_133 : decode cX12_replicaOf 133 = .ok (.iconst 0, 1) := by decide +kernel
theorem dX12_replicaOf_134 : decode cX12_replicaOf 134 = .ok (.ireturn, 1) := by decide +kernel
theorem dX12_replicaOf_135 : decode cX12_replicaOf 135 = .ok (.aload_n 0, 1) := by decide +kernel
theorem dX12_replicaOf_136 : decode cX12_replicaOf 136 = .ok (.getfield 37, 3) := by decide +kernel
theorem dX12_replicaOf_139 : decode cX12_replicaOf 139 = .ok (.iload_n 1, 1) := by decide +kernel
theorem dX12_replicaOf_140 : decode cX12_replicaOf 140 = .ok (.iaload, 1) := by decide +kernel
theorem dX12_replicaOf_141 : decode cX12_replicaOf 141 = .ok (.ireturn, 1) := by decide +kernel
theorem dX12_replicaOf_142 : decode cX12_replicaOf 142 = .ok (.aload_n 0, 1) := by decide +kernel
theorem dX12_replicaOf_143 : decode cX12_replicaOf 143 = .ok (.getfield 40, 3) := by decide +kernel
theorem dX12_replicaOf_146 : decode cX12_replicaOf 146 = .ok (.iload_n 1, 1) := by decide +kernel
theorem dX12_replicaOf_147 : decode cX12_replicaOf 147 = .ok (.iaload, 1) := by decide +kernel
theorem dX12_replicaOf_148 : decode cX12_replicaOf 148 = .ok (.ireturn, 1) := by decide +kernel
theorem dX12_replicaOf_149 : decode cX12_replicaOf 149 = .ok (.aload_n 0, 1) := by decide +kernel
theorem dX12_replicaOf_150 : decode cX12_replicaOf 150 = .ok (.getfield 43, 3) := by decide +kernel
theorem dX12_replicaOf_153 : decode cX12_replicaOf 153 = .ok (.iload_n 1, 1) := by decide +kernel
theorem dX12_replicaOf_154 : decode cX12_replicaOf 154 = .ok (.iaload, 1) := by decide +kernel
theorem dX12_replicaOf_155 : decode cX12_replicaOf 155 = .ok (.ireturn, 1) := by decide +kernel
theorem dX12_replicaOf_156 : decode cX12_replicaOf 156 = .ok (.aload_n 0, 1) := by decide +kernel
theorem dX12_replicaOf_157 : decode cX12_replicaOf 157 = .ok (.getfield 46, 3) := by decide +kernel
theorem dX12_replicaOf_160 : decode cX12_replicaOf 160 = .ok (.iload_n 1, 1) := by decide +kernel
theorem dX12_replicaOf_161 : decode cX12_replicaOf 161 = .ok (.iaload, 1) := by decide +kernel
theorem dX12_replicaOf_162 : decode cX12_replicaOf 162 = .ok (.ireturn, 1) := by decide +kernel
theorem dX12_replicaOf_163 : decode cX12_replicaOf 163 = .ok (.aload_n 0, 1) := by decide +kernel
theorem dX12_replicaOf_164 : decode cX12_replicaOf 164 = .ok (.getfield 52, 3) := by decide +kernel
theorem dX12_replicaOf_167 : decode cX12_replicaOf 167 = .ok (.iload_n 1, 1) := by decide +kernel
theorem dX12_replicaOf_168 : decode cX12_replicaOf 168 = .ok (.iaload, 1) := by decide +kernel
theorem dX12_replicaOf_169 : decode cX12_replicaOf 169 = .ok (.ifCond .le 12, 3) := by decide +kernel
theorem dX12_replicaOf_172 : decode cX12_replicaOf 172 = .ok (.aload_n 0, 1) := by decide +kernel
theorem dX12_replicaOf_173 : decode cX12_replicaOf 173 = .ok (.getfield 49, 3) := by decide +kernel
theorem dX12_replicaOf_176 : decode cX12_replicaOf 176 = .ok (.iload_n 1, 1) := by decide +kernel
theorem dX12_replicaOf_177 : decode cX12_replicaOf 177 = .ok (.iaload, 1) := by decide +kernel
theorem dX12_replicaOf_178 : decode cX12_replicaOf 178 = .ok (.goto 4, 3) := by decide +kernel
theorem dX12_replicaOf_181 : decode cX12_replicaOf 181 = .ok (.iconst (-1), 1) := by decide +kernel
theorem dX12_replicaOf_182 : decode cX12_replicaOf 182 = .ok (.ireturn, 1) := by decide +kernel
theorem dX12_replicaOf_183 : decode cX12_replicaOf 183 = .ok (.aload_n 0, 1) := by decide +kernel
theorem dX12_replicaOf_184 : decode cX12_replicaOf 184 = .ok (.getfield 73, 3) := by decide +kernel
theorem dX12_replicaOf_187 : decode cX12_replicaOf 187 = .ok (.iload_n 1, 1) := by decide +kernel
theorem dX12_replicaOf_188 : decode cX12_replicaOf 188 = .ok (.iaload, 1) := by decide +kernel
theorem dX12_replicaOf_189 : decode cX12_replicaOf 189 = .ok (.ireturn, 1) := by decide +kernel
theorem dX12_replicaOf_190 : decode cX12_replicaOf 190 = .ok (.aload_n 0, 1) := by decide +kernel
theorem dX12_replicaOf_191 : decode cX12_replicaOf 191 = .ok (.getfield 76, 3) := by decide +kernel
theorem dX12_replicaOf_194 : decode cX12_replicaOf 194 = .ok (.iload_n 1, 1) := by decide +kernel
theorem dX12_replicaOf_195 : decode cX12_replicaOf 195 = .ok (.iaload, 1) := by decide +kernel
theorem dX12_replicaOf_196 : decode cX12_replicaOf 196 = .ok (.ireturn, 1) := by decide +kernel
theorem dX12_replicaOf_197 : decode cX12_replicaOf 197 = .ok (.aload_n 0, 1) := by decide +kernel
theorem dX12_replicaOf_198 : decode cX12_replicaOf 198 = .ok (.getfield 73, 3) := by decide +kernel
theorem dX12_replicaOf_201 : decode cX12_replicaOf 201 = .ok (.iload_n 1, 1) := by decide +kernel
theorem dX12_replicaOf_202 : decode cX12_replicaOf 202 = .ok (.iaload, 1) := by decide +kernel
theorem dX12_replicaOf_203 : decode cX12_replicaOf 203 = .ok (.iconst 2, 1) := by decide +kernel
theorem dX12_replicaOf_204 : decode cX12_replicaOf 204 = .ok (.if_icmp .ne 16, 3) := by decide +kernel
theorem dX12_replicaOf_207 : decode cX12_replicaOf 207 = .ok (.aload_n 0, 1) := by decide +kernel
theorem dX12_replicaOf_208 : decode cX12_replicaOf 208 = .ok (.getfield 82, 3) := by decide +kernel
theorem dX12_replicaOf_211 : decode cX12_replicaOf 211 = .ok (.iload_n 1, 1) := by decide +kernel
theorem dX12_replicaOf_212 : decode cX12_replicaOf 212 = .ok (.iaload, 1) := by decide +kernel
theorem dX12_replicaOf_213 : decode cX12_replicaOf 213 = .ok (.ifCond .ne 7, 3) := by decide +kernel
theorem dX12_replicaOf_216 : decode cX12_replicaOf 216 = .ok (.iconst 0, 1) := by decide +kernel
theorem dX12_replicaOf_217 : decode cX12_replicaOf 217 = .ok (.goto 9, 3) := by decide +kernel
theorem dX12_replicaOf_220 : decode cX12_replicaOf 220 = .ok (.aload_n 0, 1) := by decide +kernel
theorem dX12_replicaOf_221 : decode cX12_replicaOf 221 = .ok (.getfield 79, 3) := by decide +kernel
theorem dX12_replicaOf_224 : decode cX12_replicaOf 224 = .ok (.iload_n 1, 1) := by decide +kernel
theorem dX12_replicaOf_225 : decode cX12_replicaOf 225 = .ok (.iaload, 1) := by decide +kernel
theorem dX12_replicaOf_226 : decode cX12_replicaOf 226 = .ok (.ireturn, 1) := by decide +kernel
theorem dX12_replicaOf_227 : decode cX12_replicaOf 227 = .ok (.aload_n 0, 1) := by decide +kernel
theorem dX12_replicaOf_228 : decode cX12_replicaOf 228 = .ok (.getfield 91, 3) := by decide +kernel
theorem dX12_replicaOf_231 : decode cX12_replicaOf 231 = .ok (.iload_n 1, 1) := by decide +kernel
theorem dX12_replicaOf_232 : decode cX12_replicaOf 232 = .ok (.iaload, 1) := by decide +kernel
theorem dX12_replicaOf_233 : decode cX12_replicaOf 233 = .ok (.ireturn, 1) := by decide +kernel
theorem dX12_replicaOf_234 : decode cX12_replicaOf 234 = .ok (.aload_n 0, 1) := by decide +kernel
theorem dX12_replicaOf_235 : decode cX12_replicaOf 235 = .ok (.getfield 97, 3) := by decide +kernel
theorem dX12_replicaOf_238 : decode cX12_replicaOf 238 = .ok (.iload_n 1, 1) := by decide +kernel
theorem dX12_replicaOf_239 : decode cX12_replicaOf 239 = .ok (.iaload, 1) := by decide +kernel
theorem dX12_replicaOf_240 : decode cX12_replicaOf 240 = .ok (.ireturn, 1) := by decide +kernel
theorem dX12_replicaOf_241 : decode cX12_replicaOf 241 = .ok (.aload_n 0, 1) := by decide +kernel
theorem dX12_replicaOf_242 : decode cX12_replicaOf 242 = .ok (.getfield 82, 3) := by decide +kernel
theorem dX12_replicaOf_245 : decode cX12_replicaOf 245 = .ok (.iload_n 1, 1) := by decide +kernel
theorem dX12_replicaOf_246 : decode cX12_replicaOf 246 = .ok (.iaload, 1) := by decide +kernel
theorem dX12_replicaOf_247 : decode cX12_replicaOf 247 = .ok (.ifCond .le 17, 3) := by decide +kernel
theorem dX12_replicaOf_250 : decode cX12_replicaOf 250 = .ok (.aload_n 0, 1) := by decide +kernel
theorem dX12_replicaOf_251 : decode cX12_replicaOf 251 = .ok (.getfield 13, 3) := by decide +kernel
theorem dX12_replicaOf_254 : decode cX12_replicaOf 254 = .ok (.aload_n 0, 1) := by decide +kernel
theorem dX12_replicaOf_255 : decode cX12_replicaOf 255 = .ok (.getfield 82, 3) := by decide +kernel
theorem dX12_replicaOf_258 : decode cX12_replicaOf 258 = .ok (.iload_n 1, 1) := by decide +kernel
theorem dX12_replicaOf_259 : decode cX12_replicaOf 259 = .ok (.iaload, 1) := by decide +kernel
theorem dX12_replicaOf_260 : decode cX12_replicaOf 260 = .ok (.iaload, 1) := by decide +kernel
theorem dX12_replicaOf_261 : decode cX12_replicaOf 261 = .ok (.goto 4, 3) := by decide +kernel
theorem dX12_replicaOf_264 : decode cX12_replicaOf 264 = .ok (.iconst (-1), 1) := by decide +kernel
theorem dX12_replicaOf_265 : decode cX12_replicaOf 265 = .ok (.ireturn, 1) := by decide +kernel
theorem dX12_replicaOf_266 : decode cX12_replicaOf 266 = .ok (.aload_n 0, 1) := by decide +kernel
theorem dX12_replicaOf_267 : decode cX12_replicaOf 267 = .ok (.getfield 55, 3) := by decide +kernel
theorem dX12_replicaOf_270 : decode cX12_replicaOf 270 = .ok (.iload_n 1, 1) := by decide +kernel
theorem dX12_replicaOf_271 : decode cX12_replicaOf 271 = .ok (.iaload, 1) := by decide +kernel
theorem dX12_replicaOf_272 : decode cX12_replicaOf 272 = .ok (.ireturn, 1) := by decide +kernel
theorem dX12_replicaOf_273 : decode cX12_replicaOf 273 = .ok (.aload_n 0, 1) := by decide +kernel
theorem dX12_replicaOf_274 : decode cX12_replicaOf 274 = .ok (.getfield 148, 3) := by decide +kernel
theorem dX12_replicaOf_277 : decode cX12_replicaOf 277 = .ok (.iload_n 1, 1) := by decide +kernel
theorem dX12_replicaOf_278 : decode cX12_replicaOf 278 = .ok (.iaload, 1) := by decide +kernel
theorem dX12_replicaOf_279 : decode cX12_replicaOf 279 = .ok (.ifCond .le 12, 3) := by decide +kernel
theorem dX12_replicaOf_282 : decode cX12_replicaOf 282 = .ok (.aload_n 0, 1) := by decide +kernel
theorem dX12_replicaOf_283 : decode cX12_replicaOf 283 = .ok (.getfield 148, 3) := by decide +kernel
theorem dX12_replicaOf_286 : decode cX12_replicaOf 286 = .ok (.iload_n 1, 1) := by decide +kernel
theorem dX12_replicaOf_287 : decode cX12_replicaOf 287 = .ok (.iaload, 1) := by decide +kernel
theorem dX12_replicaOf_288 : decode cX12_replicaOf 288 = .ok (.goto 4, 3) := by decide +kernel
theorem dX12_replicaOf_291 : decode cX12_replicaOf 291 = .ok (.iconst (-1), 1) := by decide +kernel
theorem dX12_replicaOf_292 : decode cX12_replicaOf 292 = .ok (.ireturn, 1) := by decide +kernel
theorem dX12_replicaOf_293 : decode cX12_replicaOf 293 = .ok (.aload_n 0, 1) := by decide +kernel
theorem dX12_replicaOf_294 : decode cX12_replicaOf 294 = .ok (.getfield 151, 3) := by decide +kernel
theorem dX12_replicaOf_297 : decode cX12_replicaOf 297 = .ok (.iload_n 1, 1) := by decide +kernel
theorem dX12_replicaOf_298 : decode cX12_replicaOf 298 = .ok (.iaload, 1) := by decide +kernel
theorem dX12_replicaOf_299 : decode cX12_replicaOf 299 = .ok (.ireturn, 1) := by decide +kernel
theorem dX12_journalOf_0 : decode cX12_journalOf 0 = .ok (.aload_n 0, 1) := by decide +kernel
theorem dX12_journalOf_1 : decode cX12_journalOf 1 = .ok (.iconst 0, 1) := by decide +kernel
theorem dX12_journalOf_2 : decode cX12_journalOf 2 = .ok (.putfield 204, 3) := by decide +kernel
theorem dX12_journalOf_5 : decode cX12_journalOf 5 = .ok (.aload_n 0, 1) := by decide +kernel
theorem dX12_journalOf_6 : decode cX12_journalOf 6 = .ok (.iload_n 1, 1) := by decide +kernel
theorem dX12_journalOf_7 : decode cX12_journalOf 7 = .ok (.invokevirtual 207, 3) := by decide +kernel
theorem dX12_journalOf_10 : decode cX12_journalOf 10 = .ok (.ifCond .eq 29, 3) := by decide +kernel
theorem dX12_journalOf_13 : decode cX12_journalOf 13 = .ok (.iload_n 2, 1) := by decide +kernel
theorem dX12_journalOf_14 : decode cX12_journalOf 14 = .ok (.iconst 4, 1) := by decide +kernel
theorem dX12_journalOf_15 : decode cX12_journalOf 15 = .ok (.if_icmp .ge 26, 3) := by decide +kernel
theorem dX12_journalOf_18 : decode cX12_journalOf 18 = .ok (.aload_n 0, 1) := by decide +kernel
theorem dX12_journalOf_19 : decode cX12_journalOf 19 = .ok (.getfield 33, 3) := by decide +kernel
theorem dX12_journalOf_22 : decode cX12_journalOf 22 = .ok (.aload_n 0, 1) := by decide +kernel
theorem dX12_journalOf_23 : decode cX12_journalOf 23 = .ok (.iload_n 1, 1) := by decide +kernel
theorem dX12_journalOf_24 : decode cX12_journalOf 24 = .ok (.invokevirtual 207, 3) := by decide +kernel
theorem dX12_journalOf_27 : decode cX12_journalOf 27 = .ok (.ifCond .eq 7, 3) := by decide +kernel
theorem dX12_journalOf_30 : decode cX12_journalOf 30 = .ok (.iload_n 1, 1) := by decide +kernel
theorem dX12_journalOf_31 : decode cX12_journalOf 31 = .ok (.goto 4, 3) := by decide +kernel
theorem dX12_journalOf_34 : decode cX12_journalOf 34 = .ok (.iconst 0, 1) := by decide +kernel
theorem dX12_journalOf_35 : decode cX12_journalOf 35 = .ok (.baload, 1) := by decide +kernel
theorem dX12_journalOf_36 : decode cX12_journalOf 36 = .ok (.ifCond .ne 5, 3) := by decide +kernel
theorem dX12_journalOf_39 : decode cX12_journalOf 39 = .ok (.iconst (-1), 1) := by decide +kernel
theorem dX12_journalOf_40 : decode cX12_journalOf 40 = .ok (.ireturn, 1) := by decide +kernel
theorem dX12_journalOf_41 : decode cX12_journalOf 41 = .ok (.iload_n 2, 1) := by decide +kernel
theorem dX12_journalOf_42 : decode cX12_journalOf 42 = .ok (.tableswitch 80 0 5 #[38, 45, 52, 59, 66, 73], 38) := by decide +kernel
theorem dX12_journalOf_80 : decode cX12_journalOf 80 = .ok (.aload_n 0, 1) := by decide +kernel
theorem dX12_journalOf_81 : decode cX12_journalOf 81 = .ok (.getfield 107, 3) := by decide +kernel
theorem dX12_journalOf_84 : decode cX12_journalOf 84 = .ok (.iload_n 1, 1) := by decide +kernel
theorem dX12_journalOf_85 : decode cX12_journalOf 85 = .ok (.iaload, 1) := by decide +kernel
theorem dX12_journalOf_86 : decode cX12_journalOf 86 = .ok (.ireturn, 1) := by decide +kernel
theorem dX12_journalOf_87 : decode cX12_journalOf 87 = .ok (.aload_n 0, 1) := by decide +kernel
theorem dX12_journalOf_88 : decode cX12_journalOf 88 = .ok (.getfield 110, 3) := by decide +kernel
theorem dX12_journalOf_91 : decode cX12_journalOf 91 = .ok (.iload_n 1, 1) := by decide +kernel
theorem dX12_journalOf_92 : decode cX12_journalOf 92 = .ok (.iaload, 1) := by decide +kernel
theorem dX12_journalOf_93 : decode cX12_journalOf 93 = .ok (.ireturn, 1) := by decide +kernel
theorem dX12_journalOf_94 : decode cX12_journalOf 94 = .ok (.aload_n 0, 1) := by decide +kernel
theorem dX12_journalOf_95 : decode cX12_journalOf 95 = .ok (.getfield 113, 3) := by decide +kernel
theorem dX12_journalOf_98 : decode cX12_journalOf 98 = .ok (.iload_n 1, 1) := by decide +kernel
theorem dX12_journalOf_99 : decode cX12_journalOf 99 = .ok (.iaload, 1) := by decide +kernel
theorem dX12_journalOf_100 : decode cX12_journalOf 100 = .ok (.ireturn, 1) := by decide +kernel
theorem dX12_journalOf_101 : decode cX12_journalOf 101 = .ok (.aload_n 0, 1) := by decide +kernel
theorem dX12_journalOf_102 : decode cX12_journalOf 102 = .ok (.getfield 116, 3) := by decide +kernel
theorem dX12_journalOf_105 : decode cX12_journalOf 105 = .ok (.iload_n 1, 1) := by decide +kernel
theorem dX12_journalOf_106 : decode cX12_journalOf 106 = .ok (.iaload, 1) := by decide +kernel
theorem dX12_journalOf_107 : decode cX12_journalOf 107 = .ok (.ireturn, 1) := by decide +kernel
theorem dX12_journalOf_108 : decode cX12_journalOf 108 = .ok (.aload_n 0, 1) := by decide +kernel
theorem dX12_journalOf_109 : decode cX12_journalOf 109 = .ok (.getfield 119, 3) := by decide +kernel
theorem dX12_journalOf_112 : decode cX12_journalOf 112 = .ok (.iload_n 1, 1) := by decide +kernel
theorem dX12_journalOf_113 : decode cX12_journalOf 113 = .ok (.iaload, 1) := by decide +kernel
theorem dX12_journalOf_114 : decode cX12_journalOf 114 = .ok (.ireturn, 1) := by decide +kernel
theorem dX12_journalOf_115 : decode cX12_journalOf 115 = .ok (.aload_n 0, 1) := by decide +kernel
theorem dX12_journalOf_116 : decode cX12_journalOf 116 = .ok (.getfield 122, 3) := by decide +kernel
theorem dX12_journalOf_119 : decode cX12_journalOf 119 = .ok (.iload_n 1, 1) := by decide +kernel
theorem dX12_journalOf_120 : decode cX12_journalOf 120 = .ok (.iaload, 1) := by decide +kernel
theorem dX12_journalOf_121 : decode cX12_journalOf 121 = .ok (.ireturn, 1) := by decide +kernel
theorem dX12_journalOf_122 : decode cX12_journalOf 122 = .ok (.iconst (-1), 1) := by decide +kernel
theorem dX12_journalOf_123 : decode cX12_journalOf 123 = .ok (.ireturn, 1) := by decide +kernel
theorem dX12_blockOf_0 : decode cX12_blockOf 0 = .ok (.aload_n 0, 1) := by decide +kernel
theorem dX12_blockOf_1 : decode cX12_blockOf 1 = .ok (.iconst 0, 1) := by decide +kernel
theorem dX12_blockOf_2 : decode cX12_blockOf 2 = .ok (.putfield 204, 3) := by decide +kernel
theorem dX12_blockOf_5 : decode cX12_blockOf 5 = .ok (.aload_n 0, 1) := by decide +kernel
theorem dX12_blockOf_6 : decode cX12_blockOf 6 = .ok (.iload_n 1, 1) := by decide +kernel
theorem dX12_blockOf_7 : decode cX12_blockOf 7 = .ok (.invokevirtual 207, 3) := by decide +kernel
theorem dX12_blockOf_10 : decode cX12_blockOf 10 = .ok (.ifCond .eq 23, 3) := by decide +kernel
theorem dX12_blockOf_13 : decode cX12_blockOf 13 = .ok (.iload_n 2, 1) := by decide +kernel
theorem dX12_blockOf_14 : decode cX12_blockOf 14 = .ok (.ifCond .lt 19, 3) := by decide +kernel
theorem dX12_blockOf_17 : decode cX12_blockOf 17 = .ok (.iload_n 2, 1) := by decide +kernel
theorem dX12_blockOf_18 : decode cX12_blockOf 18 = .ok (.bipush 63, 2) := by decide +kernel
theorem dX12_blockOf_20 : decode cX12_blockOf 20 = .ok (.if_icmp .gt 13, 3) := by decide +kernel
theorem dX12_blockOf_23 : decode cX12_blockOf 23 = .ok (.iload_n 3, 1) := by decide +kernel
theorem dX12_blockOf_24 : decode cX12_blockOf 24 = .ok (.ifCond .lt 9, 3) := by decide +kernel
theorem dX12_blockOf_27 : decode cX12_blockOf 27 = .ok (.iload_n 3, 1) := by decide +kernel
theorem dX12_blockOf_28 : decode cX12_blockOf 28 = .ok (.bipush 63, 2) := by decide +kernel
theorem dX12_blockOf_30 : decode cX12_blockOf 30 = .ok (.if_icmp .le 5, 3) := by decide +kernel
theorem dX12_blockOf_33 : decode cX12_blockOf 33 = .ok (.lconst 0, 1) := by decide +kernel
theorem dX12_blockOf_34 : decode cX12_blockOf 34 = .ok (.lreturn, 1) := by decide +kernel
theorem dX12_blockOf_35 : decode cX12_blockOf 35 = .ok (.lconst 0, 1) := by decide +kernel
theorem dX12_blockOf_36 : decode cX12_blockOf 36 = .ok (.lstore 4, 2) := by decide +kernel
theorem dX12_blockOf_38 : decode cX12_blockOf 38 = .ok (.iconst 0, 1) := by decide +kernel
theorem dX12_blockOf_39 : decode cX12_blockOf 39 = .ok (.istore 6, 2) := by decide +kernel
theorem dX12_blockOf_41 : decode cX12_blockOf 41 = .ok (.iload 6, 2) := by decide +kernel
theorem dX12_blockOf_43 : decode cX12_blockOf 43 = .ok (.bipush 8, 2) := by decide +kernel
theorem dX12_blockOf_45 : decode cX12_blockOf 45 = .ok (.if_icmp .ge 45, 3) := by decide +kernel
theorem dX12_blockOf_48 : decode cX12_blockOf 48 = .ok (.lload 4, 2) := by decide +kernel
theorem dX12_blockOf_50 : decode cX12_blockOf 50 = .ok (.bipush 8, 2) := by decide +kernel
theorem dX12_blockOf_52 : decode cX12_blockOf 52 = .ok (.lshl, 1) := by decide +kernel
theorem dX12_blockOf_53 : decode cX12_blockOf 53 = .ok (.aload_n 0, 1) := by decide +kernel
theorem dX12_blockOf_54 : decode cX12_blockOf 54 = .ok (.getfield 126, 3) := by decide +kernel
theorem dX12_blockOf_57 : decode cX12_blockOf 57 = .ok (.ldc 241, 2) := by decide +kernel
theorem dX12_blockOf_59 : decode cX12_blockOf 59 = .ok (.iload_n 1, 1) := by decide +kernel
theorem dX12_blockOf_60 : decode cX12_blockOf 60 = .ok (.imul, 1) := by decide +kernel
theorem dX12_blockOf_61 : decode cX12_blockOf 61 = .ok (.sipush 512, 3) := by decide +kernel
theorem dX12_blockOf_64 : decode cX12_blockOf 64 = .ok (.iload_n 2, 1) := by decide +kernel
theorem dX12_blockOf_65 : decode cX12_blockOf 65 = .ok (.imul, 1) := by decide +kernel
theorem dX12_blockOf_66 : decode cX12_blockOf 66 = .ok (.iadd, 1) := by decide +kernel
theorem dX12_blockOf_67 : decode cX12_blockOf 67 = .ok (.bipush 8, 2) := by decide +kernel
theorem dX12_blockOf_69 : decode cX12_blockOf 69 = .ok (.iload_n 3, 1) := by decide +kernel
theorem dX12_blockOf_70 : decode cX12_blockOf 70 = .ok (.imul, 1) := by decide +kernel
theorem dX12_blockOf_71 : decode cX12_blockOf 71 = .ok (.iadd, 1) := by decide +kernel
theorem dX12_blockOf_72 : decode cX12_blockOf 72 = .ok (.iload 6, 2) := by decide +kernel
theorem dX12_blockOf_74 : decode cX12_blockOf 74 = .ok (.iadd, 1) := by decide +kernel
theorem dX12_blockOf_75 : decode cX12_blockOf 75 = .ok (.baload, 1) := by decide +kernel
theorem dX12_blockOf_76 : decode cX12_blockOf 76 = .ok (.i2l, 1) := by decide +kernel
theorem dX12_blockOf_77 : decode cX12_blockOf 77 = .ok (.ldc2_w 397, 3) := by decide +kernel
theorem dX12_blockOf_80 : decode cX12_blockOf 80 = .ok (.land, 1) := by decide +kernel
theorem dX12_blockOf_81 : decode cX12_blockOf 81 = .ok (.lor, 1) := by decide +kernel
theorem dX12_blockOf_82 : decode cX12_blockOf 82 = .ok (.lstore 4, 2) := by decide +kernel
theorem dX12_blockOf_84 : decode cX12_blockOf 84 = .ok (.iinc 6 1, 3) := by decide +kernel
theorem dX12_blockOf_87 : decode cX12_blockOf 87 = .ok (.goto (-46), 3) := by decide +kernel
theorem dX12_blockOf_90 : decode cX12_blockOf 90 = .ok (.lload 4, 2) := by decide +kernel
theorem dX12_blockOf_92 : decode cX12_blockOf 92 = .ok (.lreturn, 1) := by decide +kernel
theorem dX12_frameOf_0 : decode cX12_frameOf 0 = .ok (.aload_n 0, 1) := by decide +kernel
theorem dX12_frameOf_1 : decode cX12_frameOf 1 = .ok (.iconst 0, 1) := by decide +kernel
theorem dX12_frameOf_2 : decode cX12_frameOf 2 = .ok (.putfield 204, 3) := by decide +kernel
