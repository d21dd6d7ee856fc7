theorem dX7_init_0 : decode cX7_init 0 = .ok (.aload_n 0, 1) := by decide +kernel
theorem dX7_init_1 : decode cX7_init 1 = .ok (.invokespecial 3, 3) := by decide +kernel
theorem dX7_init_4 : decode cX7_init 4 = .ok (.aload_n 0, 1) := by decide +kernel
theorem dX7_init_5 : decode cX7_init 5 = .ok (.new 9, 3) := by decide +kernel
theorem dX7_init_8 : decode cX7_init 8 = .ok (.dup, 1) := by decide +kernel
theorem dX7_init_9 : decode cX7_init 9 = .ok (.invokespecial 11, 3) := by decide +kernel
theorem dX7_init_12 : decode cX7_init 12 = .ok (.putfield 12, 3) := by decide +kernel
theorem dX7_init_15 : decode cX7_init 15 = .ok (.aload_n 0, 1) := by decide +kernel
theorem dX7_init_16 : decode cX7_init 16 = .ok (.new 18, 3) := by decide +kernel
theorem dX7_init_19 : decode cX7_init 19 = .ok (.dup, 1) := by decide +kernel
theorem dX7_init_20 : decode cX7_init 20 = .ok (.invokespecial 20, 3) := by decide +kernel
theorem dX7_init_23 : decode cX7_init 23 = .ok (.putfield 21, 3) := by decide +kernel
theorem dX7_init_26 : decode cX7_init 26 = .ok (.aload_n 0, 1) := by decide +kernel
theorem dX7_init_27 : decode cX7_init 27 = .ok (.new 25, 3) := by decide +kernel
theorem dX7_init_30 : decode cX7_init 30 = .ok (.dup, 1) := by decide +kernel
theorem dX7_init_31 : decode cX7_init 31 = .ok (.invokespecial 27, 3) := by decide +kernel
theorem dX7_init_34 : decode cX7_init 34 = .ok (.putfield 28, 3) := by decide +kernel
theorem dX7_init_37 : decode cX7_init 37 = .ok (.aload_n 0, 1) := by decide +kernel
theorem dX7_init_38 : decode cX7_init 38 = .ok (.iconst 1, 1) := by decide +kernel
theorem dX7_init_39 : decode cX7_init 39 = .ok (.putfield 32, 3) := by decide +kernel
theorem dX7_init_42 : decode cX7_init 42 = .ok (.aload_n 0, 1) := by decide +kernel
theorem dX7_init_43 : decode cX7_init 43 = .ok (.iload_n 1, 1) := by decide +kernel
theorem dX7_init_44 : decode cX7_init 44 = .ok (.putfield 36, 3) := by decide +kernel
theorem dX7_init_47 : decode cX7_init 47 = .ok (.aload_n 0, 1) := by decide +kernel
theorem dX7_init_48 : decode cX7_init 48 = .ok (.iload_n 2, 1) := by decide +kernel
theorem dX7_init_49 : decode cX7_init 49 = .ok (.putfield 40, 3) := by decide +kernel
theorem dX7_init_52 : decode cX7_init 52 = .ok (.aload_n 0, 1) := by decide +kernel
theorem dX7_init_53 : decode cX7_init 53 = .ok (.iload_n 3, 1) := by decide +kernel
theorem dX7_init_54 : decode cX7_init 54 = .ok (.putfield 43, 3) := by decide +kernel
theorem dX7_init_57 : decode cX7_init 57 = .ok (.aload_n 0, 1) := by decide +kernel
theorem dX7_init_58 : decode cX7_init 58 = .ok (.aload 4, 2) := by decide +kernel
theorem dX7_init_60 : decode cX7_init 60 = .ok (.putfield 46, 3) := by decide +kernel
theorem dX7_init_63 : decode cX7_init 63 = .ok (.aload_n 0, 1) := by decide +kernel
theorem dX7_init_64 : decode cX7_init 64 = .ok (.aload 5, 2) := by decide +kernel
theorem dX7_init_66 : decode cX7_init 66 = .ok (.putfield 50, 3) := by decide +kernel
theorem dX7_init_69 : decode cX7_init 69 = .ok (.return_, 1) := by decide +kernel
theorem dX7_connect_0 : decode cX7_connect 0 = .ok (.aload_n 0, 1) := by decide +kernel
theorem dX7_connect_1 : decode cX7_connect 1 = .ok (.aload_n 1, 1) := by decide +kernel
theorem dX7_connect_2 : decode cX7_connect 2 = .ok (.putfield 54, 3) := by decide +kernel
theorem dX7_connect_5 : decode cX7_connect 5 = .ok (.aload_n 0, 1) := by decide +kernel
theorem dX7_connect_6 : decode cX7_connect 6 = .ok (.aload_n 2, 1) := by decide +kernel
theorem dX7_connect_7 : decode cX7_connect 7 = .ok (.putfield 58, 3) := by decide +kernel
theorem dX7_connect_10 : decode cX7_connect 10 = .ok (.aload_n 0, 1) := by decide +kernel
theorem dX7_connect_11 : decode cX7_connect 11 = .ok (.aload_n 3, 1) := by decide +kernel
theorem dX7_connect_12 : decode cX7_connect 12 = .ok (.putfield 62, 3) := by decide +kernel
theorem dX7_connect_15 : decode cX7_connect 15 = .ok (.return_, 1) := by decide +kernel
theorem dX7_tell_0 : decode cX7_tell 0 = .ok (.iload_n 1, 1) := by decide +kernel
theorem dX7_tell_1 : decode cX7_tell 1 = .ok (.tableswitch 199 1 14 #[71, 79, 87, 95, 100, 116, 124, 132, 140, 145, 153, 178, 183, 191], 71) := by decide +kernel
theorem dX7_tell_72 : decode cX7_tell 72 = .ok (.aload_n 0, 1) := by decide +kernel
theorem dX7_tell_73 : decode cX7_tell 73 = .ok (.getfield 46, 3) := by decide +kernel
theorem dX7_tell_76 : decode cX7_tell 76 = .ok (.getfield 66, 3) := by decide +kernel
theorem dX7_tell_79 : decode cX7_tell 79 = .ok (.ireturn, 1) := by decide +kernel
theorem dX7_tell_80 : decode cX7_tell 80 = .ok (.aload_n 0, 1) := by decide +kernel
theorem dX7_tell_81 : decode cX7_tell 81 = .ok (.getfield 46, 3) := by decide +kernel
theorem dX7_tell_84 : decode cX7_tell 84 = .ok (.getfield 71, 3) := by decide +kernel
theorem dX7_tell_87 : decode cX7_tell 87 = .ok (.ireturn, 1) := by decide +kernel
theorem dX7_tell_88 : decode cX7_tell 88 = .ok (.aload_n 0, 1) := by decide +kernel
theorem dX7_tell_89 : decode cX7_tell 89 = .ok (.getfield 46, 3) := by decide +kernel
theorem dX7_tell_92 : decode cX7_tell 92 = .ok (.invokevirtual 74, 3) := by decide +kernel
theorem dX7_tell_95 : decode cX7_tell 95 = .ok (.ireturn, 1) := by decide +kernel
theorem dX7_tell_96 : decode cX7_tell 96 = .ok (.aload_n 0, 1) := by decide +kernel
theorem dX7_tell_97 : decode cX7_tell 97 = .ok (.getfield 78, 3) := by decide +kernel
theorem dX7_tell_100 : decode cX7_tell 100 = .ok (.ireturn, 1) := by decide +kernel
theorem dX7_tell_101 : decode cX7_tell 101 = .ok (.aload_n 0, 1) := by decide +kernel
theorem dX7_tell_102 : decode cX7_tell 102 = .ok (.getfield 81, 3) := by decide +kernel
theorem dX7_tell_105 : decode cX7_tell 105 = .ok (.ifnonnull 7, 3) := by decide +kernel
theorem dX7_tell_108 : decode cX7_tell 108 = .ok (.iconst (-1), 1) := by decide +kernel
theorem dX7_tell_109 : decode cX7_tell 109 = .ok (.goto 7, 3) := by decide +kernel
theorem dX7_tell_112 : decode cX7_tell 112 = .ok (.aload_n 0, 1) := by decide +kernel
theorem dX7_tell_113 : decode cX7_tell 113 = .ok (.getfield 85, 3) := by decide +kernel
theorem dX7_tell_116 : decode cX7_tell 116 = .ok (.ireturn, 1) := by decide +kernel
theorem dX7_tell_117 : decode cX7_tell 117 = .ok (.aload_n 0, 1) := by decide +kernel
theorem dX7_tell_118 : decode cX7_tell 118 = .ok (.getfield 28, 3) := by decide +kernel
theorem dX7_tell_121 : decode cX7_tell 121 = .ok (.getfield 88, 3) := by decide +kernel
theorem dX7_tell_124 : decode cX7_tell 124 = .ok (.ireturn, 1) := by decide +kernel
theorem dX7_tell_125 : decode cX7_tell 125 = .ok (.aload_n 0, 1) := by decide +kernel
theorem dX7_tell_126 : decode cX7_tell 126 = .ok (.getfield 28, 3) := by decide +kernel
theorem dX7_tell_129 : decode cX7_tell 129 = .ok (.getfield 91, 3) := by decide +kernel
theorem dX7_tell_132 : decode cX7_tell 132 = .ok (.ireturn, 1) := by decide +kernel
theorem dX7_tell_133 : decode cX7_tell 133 = .ok (.aload_n 0, 1) := by decide +kernel
theorem dX7_tell_134 : decode cX7_tell 134 = .ok (.getfield 28, 3) := by decide +kernel
theorem dX7_tell_137 : decode cX7_tell 137 = .ok (.getfield 94, 3) := by decide +kernel
theorem dX7_tell_140 : decode cX7_tell 140 = .ok (.ireturn, 1) := by decide +kernel
theorem dX7_tell_141 : decode cX7_tell 141 = .ok (.aload_n 0, 1) := by decide +kernel
theorem dX7_tell_142 : decode cX7_tell 142 = .ok (.getfield 97, 3) := by decide +kernel
theorem dX7_tell_145 : decode cX7_tell 145 = .ok (.ireturn, 1) := by decide +kernel
theorem dX7_tell_146 : decode cX7_tell 146 = .ok (.aload_n 0, 1) := by decide +kernel
theorem dX7_tell_147 : decode cX7_tell 147 = .ok (.getfield 12, 3) := by decide +kernel
theorem dX7_tell_150 : decode cX7_tell 150 = .ok (.getfield 100, 3) := by decide +kernel
theorem dX7_tell_153 : decode cX7_tell 153 = .ok (.ireturn, 1) := by decide +kernel
theorem dX7_tell_154 : decode cX7_tell 154 = .ok (.aload_n 0, 1) := by decide +kernel
theorem dX7_tell_155 : decode cX7_tell 155 = .ok (.getfield 28, 3) := by decide +kernel
theorem dX7_tell_158 : decode cX7_tell 158 = .ok (.getfield 103, 3) := by decide +kernel
theorem dX7_tell_161 : decode cX7_tell 161 = .ok (.ifnonnull 7, 3) := by decide +kernel
theorem dX7_tell_164 : decode cX7_tell 164 = .ok (.iconst (-1), 1) := by decide +kernel
theorem dX7_tell_165 : decode cX7_tell 165 = .ok (.goto 13, 3) := by decide +kernel
theorem dX7_tell_168 : decode cX7_tell 168 = .ok (.aload_n 0, 1) := by decide +kernel
theorem dX7_tell_169 : decode cX7_tell 169 = .ok (.getfield 28, 3) := by decide +kernel
theorem dX7_tell_172 : decode cX7_tell 172 = .ok (.getfield 103, 3) := by decide +kernel
theorem dX7_tell_175 : decode cX7_tell 175 = .ok (.getfield 106, 3) := by decide +kernel
theorem dX7_tell_178 : decode cX7_tell 178 = .ok (.ireturn, 1) := by decide +kernel
theorem dX7_tell_179 : decode cX7_tell 179 = .ok (.aload_n 0, 1) := by decide +kernel
theorem dX7_tell_180 : decode cX7_tell 180 = .ok (.getfield 111, 3) := by decide +kernel
theorem dX7_tell_183 : decode cX7_tell 183 = .ok (.ireturn, 1) := by decide +kernel
theorem dX7_tell_184 : decode cX7_tell 184 = .ok (.aload_n 0, 1) := by decide +kernel
theorem dX7_tell_185 : decode cX7_tell 185 = .ok (.getfield 21, 3) := by decide +kernel
theorem dX7_tell_188 : decode cX7_tell 188 = .ok (.getfield 114, 3) := by decide +kernel
theorem dX7_tell_191 : decode cX7_tell 191 = .ok (.ireturn, 1) := by decide +kernel
theorem dX7_tell_192 : decode cX7_tell 192 = .ok (.aload_n 0, 1) := by decide +kernel
theorem dX7_tell_193 : decode cX7_tell 193 = .ok (.getfield 21, 3) := by decide +kernel
theorem dX7_tell_196 : decode cX7_tell 196 = .ok (.getfield 115, 3) := by decide +kernel
theorem dX7_tell_199 : decode cX7_tell 199 = .ok (.ireturn, 1) := by decide +kernel
theorem dX7_tell_200 : decode cX7_tell 200 = .ok (.iconst (-1), 1) := by decide +kernel
theorem dX7_tell_201 : decode cX7_tell 201 = .ok (.ireturn, 1) := by decide +kernel
theorem dX7_goDown_0 : decode cX7_goDown 0 = .ok (.aload_n 0, 1) := by decide +kernel
theorem dX7_goDown_1 : decode cX7_goDown 1 = .ok (.iconst 0, 1) := by decide +kernel
theorem dX7_goDown_2 : decode cX7_goDown 2 = .ok (.putfield 32, 3) := by decide +kernel
theorem dX7_goDown_5 : decode cX7_goDown 5 = .ok (.iconst 0, 1) := by decide +kernel
theorem dX7_goDown_6 : decode cX7_goDown 6 = .ok (.istore_n 1, 1) := by decide +kernel
theorem dX7_goDown_7 : decode cX7_goDown 7 = .ok (.iload_n 1, 1) := by decide +kernel
theorem dX7_goDown_8 : decode cX7_goDown 8 = .ok (.bipush 16, 2) := by decide +kernel
theorem dX7_goDown_10 : decode cX7_goDown 10 = .ok (.if_icmp .ge 48, 3) := by decide +kernel
theorem dX7_goDown_13 : decode cX7_goDown 13 = .ok (.aload_n 0, 1) := by decide +kernel
theorem dX7_goDown_14 : decode cX7_goDown 14 = .ok (.getfield 58, 3) := by decide +kernel
theorem dX7_goDown_17 : decode cX7_goDown 17 = .ok (.iload_n 1, 1) := by decide +kernel
theorem dX7_goDown_18 : decode cX7_goDown 18 = .ok (.aaload, 1) := by decide +kernel
theorem dX7_goDown_19 : decode cX7_goDown 19 = .ok (.getfield 118, 3) := by decide +kernel
theorem dX7_goDown_22 : decode cX7_goDown 22 = .ok (.iconst 1, 1) := by decide +kernel
theorem dX7_goDown_23 : decode cX7_goDown 23 = .ok (.if_icmp .ne 29, 3) := by decide +kernel
theorem dX7_goDown_26 : decode cX7_goDown 26 = .ok (.aload_n 0, 1) := by decide +kernel
theorem dX7_goDown_27 : decode cX7_goDown 27 = .ok (.getfield 58, 3) := by decide +kernel
theorem dX7_goDown_30 : decode cX7_goDown 30 = .ok (.iload_n 1, 1) := by decide +kernel
theorem dX7_goDown_31 : decode cX7_goDown 31 = .ok (.aaload, 1) := by decide +kernel
theorem dX7_goDown_32 : decode cX7_goDown 32 = .ok (.getfield 123, 3) := by decide +kernel
theorem dX7_goDown_35 : decode cX7_goDown 35 = .ok (.aload_n 0, 1) := by decide +kernel
theorem dX7_goDown_36 : decode cX7_goDown 36 = .ok (.getfield 36, 3) := by decide +kernel
theorem dX7_goDown_39 : decode cX7_goDown 39 = .ok (.if_icmp .ne 13, 3) := by decide +kernel
theorem dX7_goDown_42 : decode cX7_goDown 42 = .ok (.aload_n 0, 1) := by decide +kernel
theorem dX7_goDown_43 : decode cX7_goDown 43 = .ok (.getfield 58, 3) := by decide +kernel
theorem dX7_goDown_46 : decode cX7_goDown 46 = .ok (.iload_n 1, 1) := by decide +kernel
theorem dX7_goDown_47 : decode cX7_goDown 47 = .ok (.aaload, 1) := by decide +kernel
theorem dX7_goDown_48 : decode cX7_goDown 48 = .ok (.iconst 4, 1) := by decide +kernel
theorem dX7_goDown_49 : decode cX7_goDown 49 = .ok (.invokevirtual 126, 3) := by decide +kernel
theorem dX7_goDown_52 : decode cX7_goDown 52 = .ok (.iinc 1 1, 3) := by decide +kernel
theorem dX7_goDown_55 : decode cX7_goDown 55 = .ok (.goto (-48), 3) := by decide +kernel
theorem dX7_goDown_58 : decode cX7_goDown 58 = .ok (.return_, 1) := by decide +kernel
theorem dX7_comeUp_0 : decode cX7_comeUp 0 = .ok (.aload_n 0, 1) := by decide +kernel
theorem dX7_comeUp_1 : decode cX7_comeUp 1 = .ok (.invokevirtual 130, 3) := by decide +kernel
theorem dX7_comeUp_4 : decode cX7_comeUp 4 = .ok (.aload_n 0, 1) := by decide +kernel
theorem dX7_comeUp_5 : decode cX7_comeUp 5 = .ok (.getfield 50, 3) := by decide +kernel
theorem dX7_comeUp_8 : decode cX7_comeUp 8 = .ok (.invokevirtual 133, 3) := by decide +kernel
theorem dX7_comeUp_11 : decode cX7_comeUp 11 = .ok (.iconst 0, 1) := by decide +kernel
theorem dX7_comeUp_12 : decode cX7_comeUp 12 = .ok (.istore_n 1, 1) := by decide +kernel
theorem dX7_comeUp_13 : decode cX7_comeUp 13 = .ok (.iload_n 1, 1) := by decide +kernel
theorem dX7_comeUp_14 : decode cX7_comeUp 14 = .ok (.sipush 15872, 3) := by decide +kernel
theorem dX7_comeUp_17 : decode cX7_comeUp 17 = .ok (.if_icmp .ge 27, 3) := by decide +kernel
theorem dX7_comeUp_20 : decode cX7_comeUp 20 = .ok (.aload_n 0, 1) := by decide +kernel
theorem dX7_comeUp_21 : decode cX7_comeUp 21 = .ok (.getfield 50, 3) := by decide +kernel
theorem dX7_comeUp_24 : decode cX7_comeUp 24 = .ok (.aload_n 0, 1) := by decide +kernel
theorem dX7_comeUp_25 : decode cX7_comeUp 25 = .ok (.getfield 62, 3) := by decide +kernel
theorem dX7_comeUp_28 : decode cX7_comeUp 28 = .ok (.invokevirtual 138, 3) := by decide +kernel
theorem dX7_comeUp_31 : decode cX7_comeUp 31 = .ok (.ifCond .eq 13, 3) := by decide +kernel
theorem dX7_comeUp_34 : decode cX7_comeUp 34 = .ok (.aload_n 0, 1) := by decide +kernel
theorem dX7_comeUp_35 : decode cX7_comeUp 35 = .ok (.invokevirtual 142, 3) := by decide +kernel
theorem dX7_comeUp_38 : decode cX7_comeUp 38 = .ok (.iinc 1 1, 3) := by decide +kernel
theorem dX7_comeUp_41 : decode cX7_comeUp 41 = .ok (.goto (-28), 3) := by decide +kernel
theorem dX7_comeUp_44 : decode cX7_comeUp 44 = .ok (.aload_n 0, 1) := by decide +kernel
theorem dX7_comeUp_45 : decode cX7_comeUp 45 = .ok (.aload_n 0, 1) := by decide +kernel
theorem dX7_comeUp_46 : decode cX7_comeUp 46 = .ok (.getfield 78, 3) := by decide +kernel
theorem dX7_comeUp_49 : decode cX7_comeUp 49 = .ok (.putfield 97, 3) := by decide +kernel
theorem dX7_comeUp_52 : decode cX7_comeUp 52 = .ok (.aload_n 0, 1) := by decide +kernel
theorem dX7_comeUp_53 : decode cX7_comeUp 53 = .ok (.getfield 50, 3) := by decide +kernel
theorem dX7_comeUp_56 : decode cX7_comeUp 56 = .ok (.iconst (-1), 1) := by decide +kernel
theorem dX7_comeUp_57 : decode cX7_comeUp 57 = .ok (.putfield 145, 3) := by decide +kernel
theorem dX7_comeUp_60 : decode cX7_comeUp 60 = .ok (.aload_n 0, 1) := by decide +kernel
theorem dX7_comeUp_61 : decode cX7_comeUp 61 = .ok (.iconst 1, 1) := by decide +kernel
theorem dX7_comeUp_62 : decode cX7_comeUp 62 = .ok (.putfield 32, 3) := by decide +kernel
theorem dX7_comeUp_65 : decode cX7_comeUp 65 = .ok (.aload_n 0, 1) := by decide +kernel
theorem dX7_comeUp_66 : decode cX7_comeUp 66 = .ok (.invokevirtual 148, 3) := by decide +kernel
theorem dX7_comeUp_69 : decode cX7_comeUp 69 = .ok (.pop, 1) := by decide +kernel
theorem dX7_comeUp_70 : decode cX7_comeUp 70 = .ok (.return_, 1) := by decide +kernel
theorem dX7_forget_0 : decode cX7_forget 0 = .ok (.aload_n 0, 1) := by decide +kernel
theorem dX7_forget_1 : decode cX7_forget 1 = .ok (.getfield 46, 3) := by decide +kernel
theorem dX7_forget_4 : decode cX7_forget 4 = .ok (.invokevirtual 152, 3) := by decide +kernel
theorem dX7_forget_7 : decode cX7_forget 7 = .ok (.aload_n 0, 1) := by decide +kernel
theorem dX7_forget_8 : decode cX7_forget 8 = .ok (.getfield 12, 3) := by decide +kernel
theorem dX7_forget_11 : decode cX7_forget 11 = .ok (.invokevirtual 153, 3) := by decide +kernel
theorem dX7_forget_14 : decode cX7_forget 14 = .ok (.aload_n 0, 1) := by decide +kernel
theorem dX7_forget_15 : decode cX7_forget 15 = .ok (.getfield 21, 3) := by decide +kernel
theorem dX7_forget_18 : decode cX7_forget 18 = .ok (.invokevirtual 156, 3) := by decide +kernel
theorem dX7_forget_21 : decode cX7_forget 21 = .ok (.aload_n 0, 1) := by decide +kernel
theorem dX7_forget_22 : decode cX7_forget 22 = .ok (.getfield 28, 3) := by decide +kernel
theorem dX7_forget_25 : decode cX7_forget 25 = .ok (.invokevirtual 159, 3) := by decide +kernel
theorem dX7_forget_28 : decode cX7_forget 28 = .ok (.aload_n 0, 1) := by decide +kernel
theorem dX7_forget_29 : decode cX7_forget 29 = .ok (.iconst 0, 1) := by decide +kernel
theorem dX7_forget_30 : decode cX7_forget 30 = .ok (.putfield 78, 3) := by decide +kernel
theorem dX7_forget_33 : decode cX7_forget 33 = .ok (.aload_n 0, 1) := by decide +kernel
theorem dX7_forget_34 : decode cX7_forget 34 = .ok (.aconst_null, 1) := by decide +kernel
theorem dX7_forget_35 : decode cX7_forget 35 = .ok (.putfield 81, 3) := by decide +kernel
theorem dX7_forget_38 : decode cX7_forget 38 = .ok (.aload_n 0, 1) := by decide +kernel
theorem dX7_forget_39 : decode cX7_forget 39 = .ok (.iconst 0, 1) := by decide +kernel
theorem dX7_forget_40 : decode cX7_forget 40 = .ok (.putfield 85, 3) := by decide +kernel
theorem dX7_forget_43 : decode cX7_forget 43 = .ok (.aload_n 0, 1) := by decide +kernel
theorem dX7_forget_44 : decode cX7_forget 44 = .ok (.iconst 0, 1) := by decide +kernel
theorem dX7_forget_45 : decode cX7_forget 45 = .ok (.putfield 111, 3) := by decide +kernel
theorem dX7_forget_48 : decode cX7_forget 48 = .ok (.return_, 1) := by decide +kernel
theorem dX7_replay_0 : decode cX7_replay 0 = .ok (.aload_n 0, 1) := by decide +kernel
theorem dX7_replay_1 : decode cX7_replay 1 = .ok (.getfield 62, 3) := by decide +kernel
theorem dX7_replay_4 : decode cX7_replay 4 = .ok (.invokevirtual 162, 3) := by decide +kernel
theorem dX7_replay_7 : decode cX7_replay 7 = .ok (.tableswitch 109 1 5 #[33, 47, 54, 76, 95], 33) := by decide +kernel
theorem dX7_replay_40 : decode cX7_replay 40 = .ok (.aload_n 0, 1) := by decide +kernel
theorem dX7_replay_41 : decode cX7_replay 41 = .ok (.aload_n 0, 1) := by decide +kernel
theorem dX7_replay_42 : decode cX7_replay 42 = .ok (.getfield 62, 3) := by decide +kernel
theorem dX7_replay_45 : decode cX7_replay 45 = .ok (.invokevirtual 167, 3) := by decide +kernel
theorem dX7_replay_48 : decode cX7_replay 48 = .ok (.putfield 78, 3) := by decide +kernel
theorem dX7_replay_51 : decode cX7_replay 51 = .ok (.goto 65, 3) := by decide +kernel
theorem dX7_replay_54 : decode cX7_replay 54 = .ok (.aload_n 0, 1) := by decide +kernel
theorem dX7_replay_55 : decode cX7_replay 55 = .ok (.invokevirtual 170, 3) := by decide +kernel
theorem dX7_replay_58 : decode cX7_replay 58 = .ok (.goto 58, 3) := by decide +kernel
theorem dX7_replay_61 : decode cX7_replay 61 = .ok (.aload_n 0, 1) := by decide +kernel
theorem dX7_replay_62 : decode cX7_replay 62 = .ok (.getfield 46, 3) := by decide +kernel
theorem dX7_replay_65 : decode cX7_replay 65 = .ok (.aload_n 0, 1) := by decide +kernel
theorem dX7_replay_66 : decode cX7_replay 66 = .ok (.getfield 62, 3) := by decide +kernel
theorem dX7_replay_69 : decode cX7_replay 69 = .ok (.invokestatic 173, 3) := by decide +kernel
theorem dX7_replay_72 : decode cX7_replay 72 = .ok (.invokevirtual 177, 3) := by decide +kernel
theorem dX7_replay_75 : decode cX7_replay 75 = .ok (.aload_n 0, 1) := by decide +kernel
theorem dX7_replay_76 : decode cX7_replay 76 = .ok (.aconst_null, 1) := by decide +kernel
theorem dX7_replay_77 : decode cX7_replay 77 = .ok (.putfield 81, 3) := by decide +kernel
theorem dX7_replay_80 : decode cX7_replay 80 = .ok (.goto 36, 3) := by decide +kernel
theorem dX7_replay_83 : decode cX7_replay 83 = .ok (.aload_n 0, 1) := by decide +kernel
theorem dX7_replay_84 : decode cX7_replay 84 = .ok (.getfield 46, 3) := by decide +kernel
theorem dX7_replay_87 : decode cX7_replay 87 = .ok (.aload_n 0, 1) := by decide +kernel
theorem dX7_replay_88 : decode cX7_replay 88 = .ok (.getfield 62, 3) := by decide +kernel
theorem dX7_replay_91 : decode cX7_replay 91 = .ok (.invokevirtual 181, 3) := by decide +kernel
theorem dX7_replay_94 : decode cX7_replay 94 = .ok (.aload_n 0, 1) := by decide +kernel
theorem dX7_replay_95 : decode cX7_replay 95 = .ok (.aconst_null, 1) := by decide +kernel
theorem dX7_replay_96 : decode cX7_replay 96 = .ok (.putfield 81, 3) := by decide +kernel
theorem dX7_replay_99 : decode cX7_replay 99 = .ok (.goto 17, 3) := by decide +kernel
theorem dX7_replay_102 : decode cX7_replay 102 = .ok (.aload_n 0, 1) := by decide +kernel
theorem dX7_replay_103 : decode cX7_replay 103 = .ok (.getfield 46, 3) := by decide +kernel
theorem dX7_replay_106 : decode cX7_replay 106 = .ok (.aload_n 0, 1) := by decide +kernel
theorem dX7_replay_107 : decode cX7_replay 107 = .ok (.getfield 62, 3) := by decide +kernel
theorem dX7_replay_110 : decode cX7_replay 110 = .ok (.invokevirtual 184, 3) := by decide +kernel
theorem dX7_replay_113 : decode cX7_replay 113 = .ok (.goto 3, 3) := by decide +kernel
theorem dX7_replay_116 : decode cX7_replay 116 = .ok (.return_, 1) := by decide +kernel
theorem dX7_replayAccepted_0 : decode cX7_replayAccepted 0 = .ok (.aload_n 0, 1) := by decide +kernel
theorem dX7_replayAccepted_1 : decode cX7_replayAccepted 1 = .ok (.aload_n 0, 1) := by decide +kernel
theorem dX7_replayAccepted_2 : decode cX7_replayAccepted 2 = .ok (.getfield 62, 3) := by decide +kernel
theorem dX7_replayAccepted_5 : decode cX7_replayAccepted 5 = .ok (.invokevirtual 167, 3) := by decide +kernel
theorem dX7_replayAccepted_8 : decode cX7_replayAccepted 8 = .ok (.putfield 78, 3) := by decide +kernel
theorem dX7_replayAccepted_11 : decode cX7_replayAccepted 11 = .ok (.aload_n 0, 1) := by decide +kernel
theorem dX7_replayAccepted_12 : decode cX7_replayAccepted 12 = .ok (.getfield 62, 3) := by decide +kernel
theorem dX7_replayAccepted_15 : decode cX7_replayAccepted 15 = .ok (.invokevirtual 167, 3) := by decide +kernel
theorem dX7_replayAccepted_18 : decode cX7_replayAccepted 18 = .ok (.istore_n 1, 1) := by decide +kernel
theorem dX7_replayAccepted_19 : decode cX7_replayAccepted 19 = .ok (.iload_n 1, 1) := by decide +kernel
theorem dX7_replayAccepted_20 : decode cX7_replayAccepted 20 = .ok (.aload_n 0, 1) := by decide +kernel
theorem dX7_replayAccepted_21 : decode cX7_replayAccepted 21 = .ok (.getfield 46, 3) := by decide +kernel
theorem dX7_replayAccepted_24 : decode cX7_replayAccepted 24 = .ok (.getfield 66, 3) := by decide +kernel
theorem dX7_replayAccepted_27 : decode cX7_replayAccepted 27 = .ok (.iconst 1, 1) := by decide +kernel
theorem dX7_replayAccepted_28 : decode cX7_replayAccepted 28 = .ok (.iadd, 1) := by decide +kernel
theorem dX7_replayAccepted_29 : decode cX7_replayAccepted 29 = .ok (.if_icmp .ne 22, 3) := by decide +kernel
theorem dX7_replayAccepted_32 : decode cX7_replayAccepted 32 = .ok (.aload_n 0, 1) := by decide +kernel
theorem dX7_replayAccepted_33 : decode cX7_replayAccepted 33 = .ok (.aload_n 0, 1) := by decide +kernel
theorem dX7_replayAccepted_34 : decode cX7_replayAccepted 34 = .ok (.getfield 62, 3) := by decide +kernel
theorem dX7_replayAccepted_37 : decode cX7_replayAccepted 37 = .ok (.invokestatic 173, 3) := by decide +kernel
theorem dX7_replayAccepted_40 : decode cX7_replayAccepted 40 = .ok (.putfield 81, 3) := by decide +kernel
theorem dX7_replayAccepted_43 : decode cX7_replayAccepted 43 = .ok (.aload_n 0, 1) := by decide +kernel
theorem dX7_replayAccepted_44 : decode cX7_replayAccepted 44 = .ok (.aload_n 0, 1) := by decide +kernel
theorem dX7_replayAccepted_45 : decode cX7_replayAccepted 45 = .ok (.getfield 78, 3) := by decide +kernel
theorem dX7_replayAccepted_48 : decode cX7_replayAccepted 48 = .ok (.putfield 85, 3) := by decide +kernel
theorem dX7_replayAccepted_51 : decode cX7_replayAccepted 51 = .ok (.return_, 1) := by decide +kernel
theorem dX7_note_0 : decode cX7_note 0 = .ok (.aload_n 0, 1) := by decide +kernel
theorem dX7_note_1 : decode cX7_note 1 = .ok (.getfield 50, 3) := by decide +kernel
theorem dX7_note_4 : decode cX7_note 4 = .ok (.invokevirtual 187, 3) := by decide +kernel
theorem dX7_note_7 : decode cX7_note 7 = .ok (.aload_n 0, 1) := by decide +kernel
theorem dX7_note_8 : decode cX7_note 8 = .ok (.getfield 50, 3) := by decide +kernel
theorem dX7_note_11 : decode cX7_note 11 = .ok (.aload_n 0, 1) := by decide +kernel
theorem dX7_note_12 : decode cX7_note 12 = .ok (.getfield 62, 3) := by decide +kernel
theorem dX7_note_15 : decode cX7_note 15 = .ok (.invokevirtual 190, 3) := by decide +kernel
theorem dX7_note_18 : decode cX7_note 18 = .ok (.aload_n 0, 1) := by decide +kernel
theorem dX7_note_19 : decode cX7_note 19 = .ok (.getfield 50, 3) := by decide +kernel
theorem dX7_note_22 : decode cX7_note 22 = .ok (.invokevirtual 193, 3) := by decide +kernel
theorem dX7_note_25 : decode cX7_note 25 = .ok (.ifCond .eq 5, 3) := by decide +kernel
theorem dX7_note_28 : decode cX7_note 28 = .ok (.iconst 1, 1) := by decide +kernel
theorem dX7_note_29 : decode cX7_note 29 = .ok (.ireturn, 1) := by decide +kernel
theorem dX7_note_30 : decode cX7_note 30 = .ok (.aload_n 0, 1) := by decide +kernel
theorem dX7_note_31 : decode cX7_note 31 = .ok (.invokevirtual 196, 3) := by decide +kernel
theorem dX7_note_34 : decode cX7_note 34 = .ok (.iconst 0, 1) := by decide +kernel
theorem dX7_note_35 : decode cX7_note 35 = .ok (.ireturn, 1) := by decide +kernel
theorem dX7_checkpointIfDue_0 : decode cX7_checkpointIfDue 0 = .ok (.aload_n 0, 1) := by decide +kernel
theorem dX7_checkpointIfDue_1 : decode cX7_checkpointIfDue 1 = .ok (.getfield 50, 3) := by decide +kernel
theorem dX7_checkpointIfDue_4 : decode cX7_checkpointIfDue 4 = .ok (.getfield 199, 3) := by decide +kernel
theorem dX7_checkpointIfDue_7 : decode cX7_checkpointIfDue 7 = .ok (.bipush 48, 2) := by decide +kernel
theorem dX7_checkpointIfDue_9 : decode cX7_checkpointIfDue 9 = .ok (.if_icmp .ge 5, 3) := by decide +kernel
theorem dX7_checkpointIfDue_12 : decode cX7_checkpointIfDue 12 = .ok (.iconst 1, 1) := by decide +kernel
theorem dX7_checkpointIfDue_13 : decode cX7_checkpointIfDue 13 = .ok (.ireturn, 1) := by decide +kernel
theorem dX7_checkpointIfDue_14 : decode cX7_checkpointIfDue 14 = .ok (.aload_n 0, 1) := by decide +kernel
theorem dX7_checkpointIfDue_15 : decode cX7_checkpointIfDue 15 = .ok (.getfield 50, 3) := by decide +kernel
theorem dX7_checkpointIfDue_18 : decode cX7_checkpointIfDue 18 = .ok (.invokevirtual 187, 3) := by decide +kernel
theorem dX7_checkpointIfDue_21 : decode cX7_checkpointIfDue 21 = .ok (.aload_n 0, 1) := by decide +kernel
theorem dX7_checkpointIfDue_22 : decode cX7_checkpointIfDue 22 = .ok (.iconst 4, 1) := by decide +kernel
theorem dX7_checkpointIfDue_23 : decode cX7_checkpointIfDue 23 = .ok (.invokevirtual 202, 3) := by decide +kernel
theorem dX7_checkpointIfDue_26 : decode cX7_checkpointIfDue 26 = .ok (.aload_n 0, 1) := by decide +kernel
theorem dX7_checkpointIfDue_27 : decode cX7_checkpointIfDue 27 = .ok (.getfield 46, 3) := by decide +kernel
theorem dX7_checkpointIfDue_30 : decode cX7_checkpointIfDue 30 = .ok (.aload_n 0, 1) := by decide +kernel
theorem dX7_checkpointIfDue_31 : decode cX7_checkpointIfDue 31 = .ok (.getfield 62, 3) := by decide +kernel
theorem dX7_checkpointIfDue_34 : decode cX7_checkpointIfDue 34 = .ok (.invokevirtual 205, 3) := by decide +kernel
theorem dX7_checkpointIfDue_37 : decode cX7_checkpointIfDue 37 = .ok (.aload_n 0, 1) := by decide +kernel
theorem dX7_checkpointIfDue_38 : decode cX7_checkpointIfDue 38 = .ok (.getfield 50, 3) := by decide +kernel
theorem dX7_checkpointIfDue_41 : decode cX7_checkpointIfDue 41 = .ok (.aload_n 0, 1) := by decide +kernel
theorem dX7_checkpointIfDue_42 : decode cX7_checkpointIfDue 42 = .ok (.getfield 62, 3) := by decide +kernel
theorem dX7_checkpointIfDue_45 : decode cX7_checkpointIfDue 45 = .ok (.invokevirtual 190, 3) := by decide +kernel
theorem dX7_checkpointIfDue_48 : decode cX7_checkpointIfDue 48 = .ok (.aload_n 0, 1) := by decide +kernel
theorem dX7_checkpointIfDue_49 : decode cX7_checkpointIfDue 49 = .ok (.getfield 46, 3) := by decide +kernel
theorem dX7_checkpointIfDue_52 : decode cX7_checkpointIfDue 52 = .ok (.getfield 66, 3) := by decide +kernel
theorem dX7_checkpointIfDue_55 : decode cX7_checkpointIfDue 55 = .ok (.iconst 1, 1) := by decide +kernel
theorem dX7_checkpointIfDue_56 : decode cX7_checkpointIfDue 56 = .ok (.isub, 1) := by decide +kernel
theorem dX7_checkpointIfDue_57 : decode cX7_checkpointIfDue 57 = .ok (.istore_n 1, 1) := by decide +kernel
theorem dX7_checkpointIfDue_58 : decode cX7_checkpointIfDue 58 = .ok (.iload_n 1, 1) := by decide +kernel
theorem dX7_checkpointIfDue_59 : decode cX7_checkpointIfDue 59 = .ok (.aload_n 0, 1) := by decide +kernel
theorem dX7_checkpointIfDue_60 : decode cX7_checkpointIfDue 60 = .ok (.getfield 46, 3) := by decide +kernel
theorem dX7_checkpointIfDue_63 : decode cX7_checkpointIfDue 63 = .ok (.getfield 71, 3) := by decide +kernel
theorem dX7_checkpointIfDue_66 : decode cX7_checkpointIfDue 66 = .ok (.if_icmp .lt 37, 3) := by decide +kernel
theorem dX7_checkpointIfDue_69 : decode cX7_checkpointIfDue 69 = .ok (.aload_n 0, 1) := by decide +kernel
theorem dX7_checkpointIfDue_70 : decode cX7_checkpointIfDue 70 = .ok (.iconst 5, 1) := by decide +kernel
theorem dX7_checkpointIfDue_71 : decode cX7_checkpointIfDue 71 = .ok (.invokevirtual 202, 3) := by decide +kernel
theorem dX7_checkpointIfDue_74 : decode cX7_checkpointIfDue 74 = .ok (.aload_n 0, 1) := by decide +kernel
theorem dX7_checkpointIfDue_75 : decode cX7_checkpointIfDue 75 = .ok (.getfield 46, 3) := by decide +kernel
theorem dX7_checkpointIfDue_78 : decode cX7_checkpointIfDue 78 = .ok (.aload_n 0, 1) := by decide +kernel
theorem dX7_checkpointIfDue_79 : decode cX7_checkpointIfDue 79 = .ok (.getfield 62, 3) := by decide +kernel
theorem dX7_checkpointIfDue_82 : decode cX7_checkpointIfDue 82 = .ok (.iload_n 1, 1) := by decide +kernel
theorem dX7_checkpointIfDue_83 : decode cX7_checkpointIfDue 83 = .ok (.invokevirtual 208, 3) := by decide +kernel
theorem dX7_checkpointIfDue_86 : decode cX7_checkpointIfDue 86 = .ok (.aload_n 0, 1) := by decide +kernel
theorem dX7_checkpointIfDue_87 : decode cX7_checkpointIfDue 87 = .ok (.getfield 50, 3) := by decide +kernel
theorem dX7_checkpointIfDue_90 : decode cX7_checkpointIfDue 90 = .ok (.aload_n 0, 1) := by decide +kernel
theorem dX7_checkpointIfDue_91 : decode cX7_checkpointIfDue 91 = .ok (.getfield 62, 3) := by decide +kernel
theorem dX7_checkpointIfDue_94 : decode cX7_checkpointIfDue 94 = .ok (.invokevirtual 190, 3) := by decide +kernel
theorem dX7_checkpointIfDue_97 : decode cX7_checkpointIfDue 97 = .ok (.iinc 1 (-1), 3) := by decide +kernel
theorem dX7_checkpointIfDue_100 : decode cX7_checkpointIfDue 100 = .ok (.goto (-42), 3) := by decide +kernel
theorem dX7_checkpointIfDue_103 : decode cX7_checkpointIfDue 103 = .ok (.aload_n 0, 1) := by decide +kernel
theorem dX7_checkpointIfDue_104 : decode cX7_checkpointIfDue 104 = .ok (.getfield 81, 3) := by decide +kernel
theorem dX7_checkpointIfDue_107 : decode cX7_checkpointIfDue 107 = .ok (.ifnull 57, 3) := by decide +kernel
theorem dX7_checkpointIfDue_110 : decode cX7_checkpointIfDue 110 = .ok (.aload_n 0, 1) := by decide +kernel
theorem dX7_checkpointIfDue_111 : decode cX7_checkpointIfDue 111 = .ok (.iconst 2, 1) := by decide +kernel
theorem dX7_checkpointIfDue_112 : decode cX7_checkpointIfDue 112 = .ok (.invokevirtual 202, 3) := by decide +kernel
theorem dX7_checkpointIfDue_115 : decode cX7_checkpointIfDue 115 = .ok (.aload_n 0, 1) := by decide +kernel
theorem dX7_checkpointIfDue_116 : decode cX7_checkpointIfDue 116 = .ok (.getfield 62, 3) := by decide +kernel
theorem dX7_checkpointIfDue_119 : decode cX7_checkpointIfDue 119 = .ok (.aload_n 0, 1) := by decide +kernel
theorem dX7_checkpointIfDue_120 : decode cX7_checkpointIfDue 120 = .ok (.getfield 85, 3) := by decide +kernel
theorem dX7_checkpointIfDue_123 : decode cX7_checkpointIfDue 123 = .ok (.invokevirtual 212, 3) := by decide +kernel
theorem dX7_checkpointIfDue_126 : decode cX7_checkpointIfDue 126 = .ok (.aload_n 0, 1) := by decide +kernel
theorem dX7_checkpointIfDue_127 : decode cX7_checkpointIfDue 127 = .ok (.getfield 62, 3) := by decide +kernel
theorem dX7_checkpointIfDue_130 : decode cX7_checkpointIfDue 130 = .ok (.aload_n 0, 1) := by decide +kernel
theorem dX7_checkpointIfDue_131 : decode cX7_checkpointIfDue 131 = .ok (.getfield 46, 3) := by decide +kernel
theorem dX7_checkpointIfDue_134 : decode cX7_checkpointIfDue 134 = .ok (.getfield 66, 3) := by decide +kernel
theorem dX7_checkpointIfDue_137 : decode cX7_checkpointIfDue 137 = .ok (.iconst 1, 1) := by decide +kernel
theorem dX7_checkpointIfDue_138 : decode cX7_checkpointIfDue 138 = .ok (.iadd, 1) := by decide +kernel
theorem dX7_checkpointIfDue_139 : decode cX7_checkpointIfDue 139 = .ok (.invokevirtual 212, 3) := by decide +kernel
theorem dX7_checkpointIfDue_142 : decode cX7_checkpointIfDue 142 = .ok (.aload_n 0, 1) := by decide +kernel
theorem dX7_checkpointIfDue_143 : decode cX7_checkpointIfDue 143 = .ok (.getfield 81, 3) := by decide +kernel
theorem dX7_checkpointIfDue_146 : decode cX7_checkpointIfDue 146 = .ok (.aload_n 0, 1) := by decide +kernel
theorem dX7_checkpointIfDue_147 : decode cX7_checkpointIfDue 147 = .ok (.getfield 62, 3) := by decide +kernel
theorem dX7_checkpointIfDue_150 : decode cX7_checkpointIfDue 150 = .ok (.invokevirtual 215, 3) := by decide +kernel
theorem dX7_checkpointIfDue_153 : decode cX7_checkpointIfDue 153 = .ok (.aload_n 0, 1) := by decide +kernel
theorem dX7_checkpointIfDue_154 : decode cX7_checkpointIfDue 154 = .ok (.getfield 50, 3) := by decide +kernel
theorem dX7_checkpointIfDue_157 : decode cX7_checkpointIfDue 157 = .ok (.aload_n 0, 1) := by decide +kernel
theorem dX7_checkpointIfDue_158 : decode cX7_checkpointIfDue 158 = .ok (.getfield 62, 3) := by decide +kernel
theorem dX7_checkpointIfDue_161 : decode cX7_checkpointIfDue 161 = .ok (.invokevirtual 190, 3) := by decide +kernel
theorem dX7_checkpointIfDue_164 : decode cX7_checkpointIfDue 164 = .ok (.aload_n 0, 1) := by decide +kernel
theorem dX7_checkpointIfDue_165 : decode cX7_checkpointIfDue 165 = .ok (.iconst 1, 1) := by decide +kernel
theorem dX7_checkpointIfDue_166 : decode cX7_checkpointIfDue 166 = .ok (.invokevirtual 202, 3) := by decide +kernel
theorem dX7_checkpointIfDue_169 : decode cX7_checkpointIfDue 169 = .ok (.aload_n 0, 1) := by decide +kernel
theorem dX7_checkpointIfDue_170 : decode cX7_checkpointIfDue 170 = .ok (.getfield 62, 3) := by decide +kernel
theorem dX7_checkpointIfDue_173 : decode cX7_checkpointIfDue 173 = .ok (.aload_n 0, 1) := by decide +kernel
theorem dX7_checkpointIfDue_174 : decode cX7_checkpointIfDue 174 = .ok (.getfield 78, 3) := by decide +kernel
theorem dX7_checkpointIfDue_177 : decode cX7_checkpointIfDue 177 = .ok (.invokevirtual 212, 3) := by decide +kernel
theorem dX7_checkpointIfDue_180 : decode cX7_checkpointIfDue 180 = .ok (.aload_n 0, 1) := by decide +kernel
theorem dX7_checkpointIfDue_181 : decode cX7_checkpointIfDue 181 = .ok (.getfield 50, 3) := by decide +kernel
theorem dX7_checkpointIfDue_184 : decode cX7_checkpointIfDue 184 = .ok (.aload_n 0, 1) := by decide +kernel
theorem dX7_checkpointIfDue_185 : decode cX7_checkpointIfDue 185 = .ok (.getfield 62, 3) := by decide +kernel
theorem dX7_checkpointIfDue_188 : decode cX7_checkpointIfDue 188 = .ok (.invokevirtual 190, 3) := by decide +kernel
theorem dX7_checkpointIfDue_191 : decode cX7_checkpointIfDue 191 = .ok (.aload_n 0, 1) := by decide +kernel
theorem dX7_checkpointIfDue_192 : decode cX7_checkpointIfDue 192 = .ok (.getfield 50, 3) := by decide +kernel
theorem dX7_checkpointIfDue_195 : decode cX7_checkpointIfDue 195 = .ok (.invokevirtual 216, 3) := by decide +kernel
theorem dX7_checkpointIfDue_198 : decode cX7_checkpointIfDue 198 = .ok (.ifCond .eq 40, 3) := by decide +kernel
theorem dX7_checkpointIfDue_201 : decode cX7_checkpointIfDue 201 = .ok (.aload_n 0, 1) := by decide +kernel
theorem dX7_checkpointIfDue_202 : decode cX7_checkpointIfDue 202 = .ok (.getfield 50, 3) := by decide +kernel
theorem dX7_checkpointIfDue_205 : decode cX7_checkpointIfDue 205 = .ok (.aload_n 0, 1) := by decide +kernel
theorem dX7_checkpointIfDue_206 : decode cX7_checkpointIfDue 206 = .ok (.getfield 50, 3) := by decide +kernel
theorem dX7_checkpointIfDue_209 : decode cX7_checkpointIfDue 209 = .ok (.getfield 219, 3) := by decide +kernel
theorem dX7_checkpointIfDue_212 : decode cX7_checkpointIfDue 212 = .ok (.iconst 1, 1) := by decide +kernel
theorem dX7_checkpointIfDue_213 : decode cX7_checkpointIfDue 213 = .ok (.iadd, 1) := by decide +kernel
theorem dX7_checkpointIfDue_214 : decode cX7_checkpointIfDue 214 = .ok (.iconst 1, 1) := by decide +kernel
theorem dX7_checkpointIfDue_215 : decode cX7_checkpointIfDue 215 = .ok (.aload_n 0, 1) := by decide +kernel
theorem dX7_checkpointIfDue_216 : decode cX7_checkpointIfDue 216 = .ok (.getfield 50, 3) := by decide +kernel
theorem dX7_checkpointIfDue_219 : decode cX7_checkpointIfDue 219 = .ok (.getfield 222, 3) := by decide +kernel
theorem dX7_checkpointIfDue_222 : decode cX7_checkpointIfDue 222 = .ok (.isub, 1) := by decide +kernel
theorem dX7_checkpointIfDue_223 : decode cX7_checkpointIfDue 223 = .ok (.invokevirtual 225, 3) := by decide +kernel
theorem dX7_checkpointIfDue_226 : decode cX7_checkpointIfDue 226 = .ok (.aload_n 0, 1) := by decide +kernel
theorem dX7_checkpointIfDue_227 : decode cX7_checkpointIfDue 227 = .ok (.getfield 50, 3) := by decide +kernel
theorem dX7_checkpointIfDue_230 : decode cX7_checkpointIfDue 230 = .ok (.invokevirtual 229, 3) := by decide +kernel
theorem dX7_checkpointIfDue_233 : decode cX7_checkpointIfDue 233 = .ok (.ifCond .eq 5, 3) := by decide +kernel
theorem dX7_checkpointIfDue_236 : decode cX7_checkpointIfDue 236 = .ok (.iconst 1, 1) := by decide +kernel
theorem dX7_checkpointIfDue_237 : decode cX7_checkpointIfDue 237 = .ok (.ireturn, 1) := by decide +kernel
theorem dX7_checkpointIfDue_238 : decode cX7_checkpointIfDue 238 = .ok (.aload_n 0, 1) := by decide +kernel
theorem dX7_checkpointIfDue_239 : decode cX7_checkpointIfDue 239 = .ok (.invokevirtual 196, 3) := by decide +kernel
theorem dX7_checkpointIfDue_242 : decode cX7_checkpointIfDue 242 = .ok (.iconst 0, 1) := by decide +kernel
theorem dX7_checkpointIfDue_243 : decode cX7_checkpointIfDue 243 = .ok (.ireturn, 1) := by decide +kernel
theorem dX7_startPayload_0 : decode cX7_startPayload 0 = .ok (.aload_n 0, 1) := by decide +kernel
theorem dX7_startPayload_1 : decode cX7_startPayload 1 = .ok (.getfield 62, 3) := by decide +kernel
theorem dX7_startPayload_4 : decode cX7_startPayload 4 = .ok (.invokevirtual 232, 3) := by decide +kernel
theorem dX7_startPayload_7 : decode cX7_startPayload 7 = .ok (.aload_n 0, 1) := by decide +kernel
theorem dX7_startPayload_8 : decode cX7_startPayload 8 = .ok (.getfield 62, 3) := by decide +kernel
theorem dX7_startPayload_11 : decode cX7_startPayload 11 = .ok (.iload_n 1, 1) := by decide +kernel
theorem dX7_startPayload_12 : decode cX7_startPayload 12 = .ok (.invokevirtual 233, 3) := by decide +kernel
theorem dX7_startPayload_15 : decode cX7_startPayload 15 = .ok (.return_, 1) := by decide +kernel
theorem dX7_promise_0 : decode cX7_promise 0 = .ok (.aload_n 0, 1) := by decide +kernel
theorem dX7_promise_1 : decode cX7_promise 1 = .ok (.iconst 1, 1) := by decide +kernel
theorem dX7_promise_2 : decode cX7_promise 2 = .ok (.invokevirtual 202, 3) := by decide +kernel
theorem dX7_promise_5 : decode cX7_promise 5 = .ok (.aload_n 0, 1) := by decide +kernel
theorem dX7_promise_6 : decode cX7_promise 6 = .ok (.getfield 62, 3) := by decide +kernel
theorem dX7_promise_9 : decode cX7_promise 9 = .ok (.iload_n 1, 1) := by decide +kernel
theorem dX7_promise_10 : decode cX7_promise 10 = .ok (.invokevirtual 212, 3) := by decide +kernel
theorem dX7_promise_13 : decode cX7_promise 13 = .ok (.aload_n 0, 1) := by decide +kernel
theorem dX7_promise_14 : decode cX7_promise 14 = .ok (.invokevirtual 236, 3) := by decide +kernel
theorem dX7_promise_17 : decode cX7_promise 17 = .ok (.ifCond .ne 5, 3) := by decide +kernel
theorem dX7_promise_20 : decode cX7_promise 20 = .ok (.iconst 0, 1) := by decide +kernel
theorem dX7_promise_21 : decode cX7_promise 21 = .ok (.ireturn, 1) := by decide +kernel
theorem dX7_promise_22 : decode cX7_promise 22 = .ok (.aload_n 0, 1) := by decide +kernel
theorem dX7_promise_23 : decode cX7_promise 23 = .ok (.iload_n 1, 1) := by decide +kernel
theorem dX7_promise_24 : decode cX7_promise 24 = .ok (.putfield 78, 3) := by decide +kernel
theorem dX7_promise_27 : decode cX7_promise 27 = .ok (.aload_n 0, 1) := by decide +kernel
theorem dX7_promise_28 : decode cX7_promise 28 = .ok (.invokevirtual 148, 3) := by decide +kernel
theorem dX7_promise_31 : decode cX7_promise 31 = .ok (.ireturn, 1) := by decide +kernel
theorem dX7_accept_0 : decode cX7_accept 0 = .ok (.aload_n 0, 1) := by decide +kernel
theorem dX7_accept_1 : decode cX7_accept 1 = .ok (.iconst 2, 1) := by decide +kernel
theorem dX7_accept_2 : decode cX7_accept 2 = .ok (.invokevirtual 202, 3) := by decide +kernel
theorem dX7_accept_5 : decode cX7_accept 5 = .ok (.aload_n 0, 1) := by decide +kernel
theorem dX7_accept_6 : decode cX7_accept 6 = .ok (.getfield 62, 3) := by decide +kernel
theorem dX7_accept_9 : decode cX7_accept 9 = .ok (.iload_n 2, 1) := by decide +kernel
theorem dX7_accept_10 : decode cX7_accept 10 = .ok (.invokevirtual 212, 3) := by decide +kernel
theorem dX7_accept_13 : decode cX7_accept 13 = .ok (.aload_n 0, 1) := by decide +kernel
theorem dX7_accept_14 : decode cX7_accept 14 = .ok (.getfield 62, 3) := by decide +kernel
theorem dX7_accept_17 : decode cX7_accept 17 = .ok (.aload_n 0, 1) := by decide +kernel
theorem dX7_accept_18 : decode cX7_accept 18 = .ok (.getfield 46, 3) := by decide +kernel
theorem dX7_accept_21 : decode cX7_accept 21 = .ok (.getfield 66, 3) := by decide +kernel
theorem dX7_accept_24 : decode cX7_accept 24 = .ok (.iconst 1, 1) := by decide +kernel
theorem dX7_accept_25 : decode cX7_accept 25 = .ok (.iadd, 1) := by decide +kernel
theorem dX7_accept_26 : decode cX7_accept 26 = .ok (.invokevirtual 212, 3) := by decide +kernel
theorem dX7_accept_29 : decode cX7_accept 29 = .ok (.aload_n 1, 1) := by decide +kernel
theorem dX7_accept_30 : decode cX7_accept 30 = .ok (.aload_n 0, 1) := by decide +kernel
theorem dX7_accept_31 : decode cX7_accept 31 = .ok (.getfield 62, 3) := by decide +kernel
theorem dX7_accept_34 : decode cX7_accept 34 = .ok (.invokevirtual 215, 3) := by decide +kernel
theorem dX7_accept_37 : decode cX7_accept 37 = .ok (.aload_n 0, 1) := by decide +kernel
theorem dX7_accept_38 : decode cX7_accept 38 = .ok (.invokevirtual 236, 3) := by decide +kernel
theorem dX7_accept_41 : decode cX7_accept 41 = .ok (.ifCond .ne 5, 3) := by decide +kernel
theorem dX7_accept_44 : decode cX7_accept 44 = .ok (.iconst 0, 1) := by decide +kernel
theorem dX7_accept_45 : decode cX7_accept 45 = .ok (.ireturn, 1) := by decide +kernel
theorem dX7_accept_46 : decode cX7_accept 46 = .ok (.aload_n 0, 1) := by decide +kernel
theorem dX7_accept_47 : decode cX7_accept 47 = .ok (.iload_n 2, 1) := by decide +kernel
theorem dX7_accept_48 : decode cX7_accept 48 = .ok (.putfield 78, 3) := by decide +kernel
theorem dX7_accept_51 : decode cX7_accept 51 = .ok (.aload_n 0, 1) := by decide +kernel
theorem dX7_accept_52 : decode cX7_accept 52 = .ok (.aload_n 1, 1) := by decide +kernel
theorem dX7_accept_53 : decode cX7_accept 53 = .ok (.putfield 81, 3) := by decide +kernel
theorem dX7_accept_56 : decode cX7_accept 56 = .ok (.aload_n 0, 1) := by decide +kernel
theorem dX7_accept_57 : decode cX7_accept 57 = .ok (.iload_n 2, 1) := by decide +kernel
theorem dX7_accept_58 : decode cX7_accept 58 = .ok (.putfield 85, 3) := by decide +kernel
theorem dX7_accept_61 : decode cX7_accept 61 = .ok (.aload_n 0, 1) := by decide +kernel
theorem dX7_accept_62 : decode cX7_accept 62 = .ok (.invokevirtual 148, 3) := by decide +kernel
theorem dX7_accept_65 : decode cX7_accept 65 = .ok (.ireturn, 1) := by decide +kernel
theorem dX7_learn_0 : decode cX7_learn 0 = .ok (.aload_n 0, 1) := by decide +kernel
theorem dX7_learn_1 : decode cX7_learn 1 = .ok (.iconst 3, 1) := by decide +kernel
theorem dX7_learn_2 : decode cX7_learn 2 = .ok (.invokevirtual 202, 3) := by decide +kernel
theorem dX7_learn_5 : decode cX7_learn 5 = .ok (.aload_n 1, 1) := by decide +kernel
theorem dX7_learn_6 : decode cX7_learn 6 = .ok (.aload_n 0, 1) := by decide +kernel
theorem dX7_learn_7 : decode cX7_learn 7 = .ok (.getfield 62, 3) := by decide +kernel
theorem dX7_learn_10 : decode cX7_learn 10 = .ok (.invokevirtual 215, 3) := by decide +kernel
theorem dX7_learn_13 : decode cX7_learn 13 = .ok (.aload_n 0, 1) := by decide +kernel
theorem dX7_learn_14 : decode cX7_learn 14 = .ok (.invokevirtual 236, 3) := by decide +kernel
theorem dX7_learn_17 : decode cX7_learn 17 = .ok (.ifCond .ne 5, 3) := by decide +kernel
theorem dX7_learn_20 : decode cX7_learn 20 = .ok (.iconst 0, 1) := by decide +kernel
theorem dX7_learn_21 : decode cX7_learn 21 = .ok (.ireturn, 1) := by decide +kernel
theorem dX7_learn_22 : decode cX7_learn 22 = .ok (.aload_n 0, 1) := by decide +kernel
theorem dX7_learn_23 : decode cX7_learn 23 = .ok (.getfield 46, 3) := by decide +kernel
theorem dX7_learn_26 : decode cX7_learn 26 = .ok (.aload_n 1, 1) := by decide +kernel
theorem dX7_learn_27 : decode cX7_learn 27 = .ok (.invokevirtual 177, 3) := by decide +kernel
theorem dX7_learn_30 : decode cX7_learn 30 = .ok (.aload_n 0, 1) := by decide +kernel
theorem dX7_learn_31 : decode cX7_learn 31 = .ok (.aconst_null, 1) := by decide +kernel
theorem dX7_learn_32 : decode cX7_learn 32 = .ok (.putfield 81, 3) := by decide +kernel
theorem dX7_learn_35 : decode cX7_learn 35 = .ok (.aload_n 0, 1) := by decide +kernel
theorem dX7_learn_36 : decode cX7_learn 36 = .ok (.invokevirtual 148, 3) := by decide +kernel
theorem dX7_learn_39 : decode cX7_learn 39 = .ok (.ifCond .ne 5, 3) := by decide +kernel
theorem dX7_learn_42 : decode cX7_learn 42 = .ok (.iconst 0, 1) := by decide +kernel
theorem dX7_learn_43 : decode cX7_learn 43 = .ok (.ireturn, 1) := by decide +kernel
theorem dX7_learn_44 : decode cX7_learn 44 = .ok (.aload_n 0, 1) := by decide +kernel
theorem dX7_learn_45 : decode cX7_learn 45 = .ok (.getfield 28, 3) := by decide +kernel
theorem dX7_learn_48 : decode cX7_learn 48 = .ok (.getfield 88, 3) := by decide +kernel
theorem dX7_learn_51 : decode cX7_learn 51 = .ok (.iconst 1, 1) := by decide +kernel
theorem dX7_learn_52 : decode cX7_learn 52 = .ok (.if_icmp .ne 13, 3) := by decide +kernel
theorem dX7_learn_55 : decode cX7_learn 55 = .ok (.aload_n 0, 1) := by decide +kernel
theorem dX7_learn_56 : decode cX7_learn 56 = .ok (.getfield 28, 3) := by decide +kernel
theorem dX7_learn_59 : decode cX7_learn 59 = .ok (.invokevirtual 159, 3) := by decide +kernel
theorem dX7_learn_62 : decode cX7_learn 62 = .ok (.goto 10, 3) := by decide +kernel
theorem dX7_learn_65 : decode cX7_learn 65 = .ok (.aload_n 0, 1) := by decide +kernel
theorem dX7_learn_66 : decode cX7_learn 66 = .ok (.getfield 28, 3) := by decide +kernel
theorem dX7_learn_69 : decode cX7_learn 69 = .ok (.invokevirtual 239, 3) := by decide +kernel
theorem dX7_learn_72 : decode cX7_learn 72 = .ok (.aload_n 0, 1) := by decide +kernel
theorem dX7_learn_73 : decode cX7_learn 73 = .ok (.invokevirtual 242, 3) := by decide +kernel
theorem dX7_learn_76 : decode cX7_learn 76 = .ok (.iconst 1, 1) := by decide +kernel
theorem dX7_learn_77 : decode cX7_learn 77 = .ok (.ireturn, 1) := by decide +kernel
theorem dX7_tellAll_0 : decode cX7_tellAll 0 = .ok (.aload_n 0, 1) := by decide +kernel
theorem dX7_tellAll_1 : decode cX7_tellAll 1 = .ok (.iconst 0, 1) := by decide +kernel
theorem dX7_tellAll_2 : decode cX7_tellAll 2 = .ok (.putfield 111, 3) := by decide +kernel
theorem dX7_tellAll_5 : decode cX7_tellAll 5 = .ok (.aload_n 0, 1) := by decide +kernel
theorem dX7_tellAll_6 : decode cX7_tellAll 6 = .ok (.getfield 21, 3) := by decide +kernel
theorem dX7_tellAll_9 : decode cX7_tellAll 9 = .ok (.getfield 114, 3) := by decide +kernel
theorem dX7_tellAll_12 : decode cX7_tellAll 12 = .ok (.aload_n 0, 1) := by decide +kernel
theorem dX7_tellAll_13 : decode cX7_tellAll 13 = .ok (.getfield 46, 3) := by decide +kernel
theorem dX7_tellAll_16 : decode cX7_tellAll 16 = .ok (.getfield 66, 3) := by decide +kernel
theorem dX7_tellAll_19 : decode cX7_tellAll 19 = .ok (.if_icmp .gt 10, 3) := by decide +kernel
theorem dX7_tellAll_22 : decode cX7_tellAll 22 = .ok (.aload_n 0, 1) := by decide +kernel
theorem dX7_tellAll_23 : decode cX7_tellAll 23 = .ok (.getfield 21, 3) := by decide +kernel
theorem dX7_tellAll_26 : decode cX7_tellAll 26 = .ok (.invokevirtual 156, 3) := by decide +kernel
theorem dX7_tellAll_29 : decode cX7_tellAll 29 = .ok (.iconst 0, 1) := by decide +kernel
theorem dX7_tellAll_30 : decode cX7_tellAll 30 = .ok (.istore_n 1, 1) := by decide +kernel
theorem dX7_tellAll_31 : decode cX7_tellAll 31 = .ok (.iload_n 1, 1) := by decide +kernel
theorem dX7_tellAll_32 : decode cX7_tellAll 32 = .ok (.bipush 16, 2) := by decide +kernel
theorem dX7_tellAll_34 : decode cX7_tellAll 34 = .ok (.if_icmp .ge 64, 3) := by decide +kernel
theorem dX7_tellAll_37 : decode cX7_tellAll 37 = .ok (.aload_n 0, 1) := by decide +kernel
theorem dX7_tellAll_38 : decode cX7_tellAll 38 = .ok (.getfield 58, 3) := by decide +kernel
theorem dX7_tellAll_41 : decode cX7_tellAll 41 = .ok (.iload_n 1, 1) := by decide +kernel
theorem dX7_tellAll_42 : decode cX7_tellAll 42 = .ok (.aaload, 1) := by decide +kernel
theorem dX7_tellAll_43 : decode cX7_tellAll 43 = .ok (.astore_n 2, 1) := by decide +kernel
theorem dX7_tellAll_44 : decode cX7_tellAll 44 = .ok (.aload_n 2, 1) := by decide +kernel
theorem dX7_tellAll_45 : decode cX7_tellAll 45 = .ok (.getfield 118, 3) := by decide +kernel
theorem dX7_tellAll_48 : decode cX7_tellAll 48 = .ok (.iconst 2, 1) := by decide +kernel
theorem dX7_tellAll_49 : decode cX7_tellAll 49 = .ok (.if_icmp .ne 43, 3) := by decide +kernel
theorem dX7_tellAll_52 : decode cX7_tellAll 52 = .ok (.aload_n 2, 1) := by decide +kernel
theorem dX7_tellAll_53 : decode cX7_tellAll 53 = .ok (.getfield 123, 3) := by decide +kernel
theorem dX7_tellAll_56 : decode cX7_tellAll 56 = .ok (.aload_n 0, 1) := by decide +kernel
theorem dX7_tellAll_57 : decode cX7_tellAll 57 = .ok (.getfield 36, 3) := by decide +kernel
theorem dX7_tellAll_60 : decode cX7_tellAll 60 = .ok (.if_icmp .ne 32, 3) := by decide +kernel
theorem dX7_tellAll_63 : decode cX7_tellAll 63 = .ok (.aload_n 2, 1) := by decide +kernel
theorem dX7_tellAll_64 : decode cX7_tellAll 64 = .ok (.getfield 245, 3) := by decide +kernel
theorem dX7_tellAll_67 : decode cX7_tellAll 67 = .ok (.aload_n 0, 1) := by decide +kernel
theorem dX7_tellAll_68 : decode cX7_tellAll 68 = .ok (.getfield 46, 3) := by decide +kernel
theorem dX7_tellAll_71 : decode cX7_tellAll 71 = .ok (.getfield 248, 3) := by decide +kernel
theorem dX7_tellAll_74 : decode cX7_tellAll 74 = .ok (.iload_n 1, 1) := by decide +kernel
theorem dX7_tellAll_75 : decode cX7_tellAll 75 = .ok (.iaload, 1) := by decide +kernel
theorem dX7_tellAll_76 : decode cX7_tellAll 76 = .ok (.if_icmp .ne 16, 3) := by decide +kernel
theorem dX7_tellAll_79 : decode cX7_tellAll 79 = .ok (.aload_n 2, 1) := by decide +kernel
theorem dX7_tellAll_80 : decode cX7_tellAll 80 = .ok (.aload_n 0, 1) := by decide +kernel
theorem dX7_tellAll_81 : decode cX7_tellAll 81 = .ok (.getfield 46, 3) := by decide +kernel
theorem dX7_tellAll_84 : decode cX7_tellAll 84 = .ok (.getfield 252, 3) := by decide +kernel
theorem dX7_tellAll_87 : decode cX7_tellAll 87 = .ok (.iload_n 1, 1) := by decide +kernel
theorem dX7_tellAll_88 : decode cX7_tellAll 88 = .ok (.iaload, 1) := by decide +kernel
theorem dX7_tellAll_89 : decode cX7_tellAll 89 = .ok (.invokevirtual 255, 3) := by decide +kernel
theorem dX7_tellAll_92 : decode cX7_tellAll 92 = .ok (.iinc 1 1, 3) := by decide +kernel
theorem dX7_tellAll_95 : decode cX7_tellAll 95 = .ok (.goto (-64), 3) := by decide +kernel
theorem dX7_tellAll_98 : decode cX7_tellAll 98 = .ok (.aload_n 0, 1) := by decide +kernel
theorem dX7_tellAll_99 : decode cX7_tellAll 99 = .ok (.getfield 12, 3) := by decide +kernel
theorem dX7_tellAll_102 : decode cX7_tellAll 102 = .ok (.aload_n 0, 1) := by decide +kernel
theorem dX7_tellAll_103 : decode cX7_tellAll 103 = .ok (.getfield 46, 3) := by decide +kernel
theorem dX7_tellAll_106 : decode cX7_tellAll 106 = .ok (.invokevirtual 258, 3) := by decide +kernel
theorem dX7_tellAll_109 : decode cX7_tellAll 109 = .ok (.return_, 1) := by decide +kernel
theorem dX7_sendTo_0 : decode cX7_sendTo 0 = .ok (.aload_n 0, 1) := by decide +kernel
theorem dX7_sendTo_1 : decode cX7_sendTo 1 = .ok (.getfield 54, 3) := by decide +kernel
theorem dX7_sendTo_4 : decode cX7_sendTo 4 = .ok (.invokevirtual 262, 3) := by decide +kernel
theorem dX7_sendTo_7 : decode cX7_sendTo 7 = .ok (.astore 5, 2) := by decide +kernel
theorem dX7_sendTo_9 : decode cX7_sendTo 9 = .ok (.aload 5, 2) := by decide +kernel
theorem dX7_sendTo_11 : decode cX7_sendTo 11 = .ok (.iload_n 2, 1) := by decide +kernel
theorem dX7_sendTo_12 : decode cX7_sendTo 12 = .ok (.aload_n 0, 1) := by decide +kernel
theorem dX7_sendTo_13 : decode cX7_sendTo 13 = .ok (.getfield 36, 3) := by decide +kernel
theorem dX7_sendTo_16 : decode cX7_sendTo 16 = .ok (.iload_n 1, 1) := by decide +kernel
theorem dX7_sendTo_17 : decode cX7_sendTo 17 = .ok (.invokevirtual 268, 3) := by decide +kernel
theorem dX7_sendTo_20 : decode cX7_sendTo 20 = .ok (.aload 5, 2) := by decide +kernel
theorem dX7_sendTo_22 : decode cX7_sendTo 22 = .ok (.iload_n 3, 1) := by decide +kernel
theorem dX7_sendTo_23 : decode cX7_sendTo 23 = .ok (.iload 4, 2) := by decide +kernel
theorem dX7_sendTo_25 : decode cX7_sendTo 25 = .ok (.invokevirtual 274, 3) := by decide +kernel
theorem dX7_sendTo_28 : decode cX7_sendTo 28 = .ok (.aload 5, 2) := by decide +kernel
theorem dX7_sendTo_30 : decode cX7_sendTo 30 = .ok (.areturn, 1) := by decide +kernel
theorem dX7_sendToAll_0 : decode cX7_sendToAll 0 = .ok (.iconst 0, 1) := by decide +kernel
theorem dX7_sendToAll_1 : decode cX7_sendToAll 1 = .ok (.istore 5, 2) := by decide +kernel
theorem dX7_sendToAll_3 : decode cX7_sendToAll 3 = .ok (.iload 5, 2) := by decide +kernel
theorem dX7_sendToAll_5 : decode cX7_sendToAll 5 = .ok (.aload_n 0, 1) := by decide +kernel
theorem dX7_sendToAll_6 : decode cX7_sendToAll 6 = .ok (.getfield 40, 3) := by decide +kernel
theorem dX7_sendToAll_9 : decode cX7_sendToAll 9 = .ok (.if_icmp .ge 33, 3) := by decide +kernel
theorem dX7_sendToAll_12 : decode cX7_sendToAll 12 = .ok (.iload 5, 2) := by decide +kernel
theorem dX7_sendToAll_14 : decode cX7_sendToAll 14 = .ok (.aload_n 0, 1) := by decide +kernel
theorem dX7_sendToAll_15 : decode cX7_sendToAll 15 = .ok (.getfield 36, 3) := by decide +kernel
theorem dX7_sendToAll_18 : decode cX7_sendToAll 18 = .ok (.if_icmp .eq 18, 3) := by decide +kernel
theorem dX7_sendToAll_21 : decode cX7_sendToAll 21 = .ok (.aload_n 0, 1) := by decide +kernel
theorem dX7_sendToAll_22 : decode cX7_sendToAll 22 = .ok (.iload 5, 2) := by decide +kernel
theorem dX7_sendToAll_24 : decode cX7_sendToAll 24 = .ok (.iload_n 1, 1) := by decide +kernel
theorem dX7_sendToAll_25 : decode cX7_sendToAll 25 = .ok (.iload_n 2, 1) := by decide +kernel
theorem dX7_sendToAll_26 : decode cX7_sendToAll 26 = .ok (.iload_n 3, 1) := by decide +kernel
theorem dX7_sendToAll_27 : decode cX7_sendToAll 27 = .ok (.invokevirtual 277, 3) := by decide +kernel
theorem dX7_sendToAll_30 : decode cX7_sendToAll 30 = .ok (.aload 4, 2) := by decide +kernel
theorem dX7_sendToAll_32 : decode cX7_sendToAll 32 = .ok (.iconst 0, 1) := by decide +kernel
theorem dX7_sendToAll_33 : decode cX7_sendToAll 33 = .ok (.invokevirtual 281, 3) := by decide +kernel
theorem dX7_sendToAll_36 : decode cX7_sendToAll 36 = .ok (.iinc 5 1, 3) := by decide +kernel
theorem dX7_sendToAll_39 : decode cX7_sendToAll 39 = .ok (.goto (-36), 3) := by decide +kernel
theorem dX7_sendToAll_42 : decode cX7_sendToAll 42 = .ok (.return_, 1) := by decide +kernel
theorem dX7_askFor_0 : decode cX7_askFor 0 = .ok (.aload_n 0, 1) := by decide +kernel
theorem dX7_askFor_1 : decode cX7_askFor 1 = .ok (.iload_n 1, 1) := by decide +kernel
theorem dX7_askFor_2 : decode cX7_askFor 2 = .ok (.bipush 6, 2) := by decide +kernel
theorem dX7_askFor_4 : decode cX7_askFor 4 = .ok (.iconst 0, 1) := by decide +kernel
theorem dX7_askFor_5 : decode cX7_askFor 5 = .ok (.aload_n 0, 1) := by decide +kernel
theorem dX7_askFor_6 : decode cX7_askFor 6 = .ok (.getfield 46, 3) := by decide +kernel
theorem dX7_askFor_9 : decode cX7_askFor 9 = .ok (.getfield 66, 3) := by decide +kernel
theorem dX7_askFor_12 : decode cX7_askFor 12 = .ok (.iconst 1, 1) := by decide +kernel
theorem dX7_askFor_13 : decode cX7_askFor 13 = .ok (.iadd, 1) := by decide +kernel
theorem dX7_askFor_14 : decode cX7_askFor 14 = .ok (.invokevirtual 277, 3) := by decide +kernel
theorem dX7_askFor_17 : decode cX7_askFor 17 = .ok (.pop, 1) := by decide +kernel
theorem dX7_askFor_18 : decode cX7_askFor 18 = .ok (.return_, 1) := by decide +kernel
theorem dX7_deny_0 : decode cX7_deny 0 = .ok (.aload_n 0, 1) := by decide +kernel
theorem dX7_deny_1 : decode cX7_deny 1 = .ok (.iload_n 1, 1) := by decide +kernel
theorem dX7_deny_2 : decode cX7_deny 2 = .ok (.bipush 7, 2) := by decide +kernel
theorem dX7_deny_4 : decode cX7_deny 4 = .ok (.aload_n 0, 1) := by decide +kernel
theorem dX7_deny_5 : decode cX7_deny 5 = .ok (.getfield 78, 3) := by decide +kernel
theorem dX7_deny_8 : decode cX7_deny 8 = .ok (.iconst 0, 1) := by decide +kernel
theorem dX7_deny_9 : decode cX7_deny 9 = .ok (.invokevirtual 277, 3) := by decide +kernel
theorem dX7_deny_12 : decode cX7_deny 12 = .ok (.pop, 1) := by decide +kernel
theorem dX7_deny_13 : decode cX7_deny 13 = .ok (.return_, 1) := by decide +kernel
theorem dX7_help_0 : decode cX7_help 0 = .ok (.aload_n 0, 1) := by decide +kernel
theorem dX7_help_1 : decode cX7_help 1 = .ok (.getfield 46, 3) := by decide +kernel
theorem dX7_help_4 : decode cX7_help 4 = .ok (.iload_n 2, 1) := by decide +kernel
theorem dX7_help_5 : decode cX7_help 5 = .ok (.invokevirtual 285, 3) := by decide +kernel
theorem dX7_help_8 : decode cX7_help 8 = .ok (.astore_n 3, 1) := by decide +kernel
theorem dX7_help_9 : decode cX7_help 9 = .ok (.aload_n 3, 1) := by decide +kernel
theorem dX7_help_10 : decode cX7_help 10 = .ok (.ifnull 17, 3) := by decide +kernel
theorem dX7_help_13 : decode cX7_help 13 = .ok (.aload_n 0, 1) := by decide +kernel
theorem dX7_help_14 : decode cX7_help 14 = .ok (.iload_n 1, 1) := by decide +kernel
theorem dX7_help_15 : decode cX7_help 15 = .ok (.iconst 5, 1) := by decide +kernel
theorem dX7_help_16 : decode cX7_help 16 = .ok (.iconst 0, 1) := by decide +kernel
theorem dX7_help_17 : decode cX7_help 17 = .ok (.iload_n 2, 1) := by decide +kernel
theorem dX7_help_18 : decode cX7_help 18 = .ok (.invokevirtual 277, 3) := by decide +kernel
theorem dX7_help_21 : decode cX7_help 21 = .ok (.aload_n 3, 1) := by decide +kernel
theorem dX7_help_22 : decode cX7_help 22 = .ok (.iconst 0, 1) := by decide +kernel
theorem dX7_help_23 : decode cX7_help 23 = .ok (.invokevirtual 281, 3) := by decide +kernel
theorem dX7_help_26 : decode cX7_help 26 = .ok (.return_, 1) := by decide +kernel
theorem dX7_help_27 : decode cX7_help 27 = .ok (.aload_n 0, 1) := by decide +kernel
theorem dX7_help_28 : decode cX7_help 28 = .ok (.getfield 62, 3) := by decide +kernel
theorem dX7_help_31 : decode cX7_help 31 = .ok (.invokevirtual 232, 3) := by decide +kernel
theorem dX7_help_34 : decode cX7_help 34 = .ok (.aload_n 0, 1) := by decide +kernel
theorem dX7_help_35 : decode cX7_help 35 = .ok (.getfield 46, 3) := by decide +kernel
theorem dX7_help_38 : decode cX7_help 38 = .ok (.aload_n 0, 1) := by decide +kernel
theorem dX7_help_39 : decode cX7_help 39 = .ok (.getfield 62, 3) := by decide +kernel
theorem dX7_help_42 : decode cX7_help 42 = .ok (.invokevirtual 205, 3) := by decide +kernel
theorem dX7_help_45 : decode cX7_help 45 = .ok (.aload_n 0, 1) := by decide +kernel
theorem dX7_help_46 : decode cX7_help 46 = .ok (.getfield 62, 3) := by decide +kernel
theorem dX7_help_49 : decode cX7_help 49 = .ok (.invokevirtual 289, 3) := by decide +kernel
theorem dX7_help_52 : decode cX7_help 52 = .ok (.astore 4, 2) := by decide +kernel
theorem dX7_help_54 : decode cX7_help 54 = .ok (.aload 4, 2) := by decide +kernel
theorem dX7_help_56 : decode cX7_help 56 = .ok (.invokestatic 293, 3) := by decide +kernel
theorem dX7_help_59 : decode cX7_help 59 = .ok (.istore 5, 2) := by decide +kernel
theorem dX7_help_61 : decode cX7_help 61 = .ok (.iconst 0, 1) := by decide +kernel
theorem dX7_help_62 : decode cX7_help 62 = .ok (.istore 6, 2) := by decide +kernel
theorem dX7_help_64 : decode cX7_help 64 = .ok (.iload 6, 2) := by decide +kernel
theorem dX7_help_66 : decode cX7_help 66 = .ok (.iload 5, 2) := by decide +kernel
theorem dX7_help_68 : decode cX7_help 68 = .ok (.if_icmp .ge 31, 3) := by decide +kernel
theorem dX7_help_71 : decode cX7_help 71 = .ok (.aload_n 0, 1) := by decide +kernel
theorem dX7_help_72 : decode cX7_help 72 = .ok (.iload_n 1, 1) := by decide +kernel
theorem dX7_help_73 : decode cX7_help 73 = .ok (.bipush 8, 2) := by decide +kernel
theorem dX7_help_75 : decode cX7_help 75 = .ok (.iconst 0, 1) := by decide +kernel
theorem dX7_help_76 : decode cX7_help 76 = .ok (.aload_n 0, 1) := by decide +kernel
theorem dX7_help_77 : decode cX7_help 77 = .ok (.getfield 46, 3) := by decide +kernel
theorem dX7_help_80 : decode cX7_help 80 = .ok (.getfield 66, 3) := by decide +kernel
theorem dX7_help_83 : decode cX7_help 83 = .ok (.invokevirtual 277, 3) := by decide +kernel
theorem dX7_help_86 : decode cX7_help 86 = .ok (.aload 4, 2) := by decide +kernel
theorem dX7_help_88 : decode cX7_help 88 = .ok (.iload 6, 2) := by decide +kernel
theorem dX7_help_90 : decode cX7_help 90 = .ok (.invokevirtual 297, 3) := by decide +kernel
theorem dX7_help_93 : decode cX7_help 93 = .ok (.iinc 6 1, 3) := by decide +kernel
theorem dX7_help_96 : decode cX7_help 96 = .ok (.goto (-32), 3) := by decide +kernel
theorem dX7_help_99 : decode cX7_help 99 = .ok (.return_, 1) := by decide +kernel
theorem dX7_tick_0 : decode cX7_tick 0 = .ok (.aload_n 0, 1) := by decide +kernel
theorem dX7_tick_1 : decode cX7_tick 1 = .ok (.dup, 1) := by decide +kernel
theorem dX7_tick_2 : decode cX7_tick 2 = .ok (.getfield 111, 3) := by decide +kernel
theorem dX7_tick_5 : decode cX7_tick 5 = .ok (.iconst 1, 1) := by decide +kernel
theorem dX7_tick_6 : decode cX7_tick 6 = .ok (.iadd, 1) := by decide +kernel
theorem dX7_tick_7 : decode cX7_tick 7 = .ok (.putfield 111, 3) := by decide +kernel
theorem dX7_tick_10 : decode cX7_tick 10 = .ok (.aload_n 0, 1) := by decide +kernel
theorem dX7_tick_11 : decode cX7_tick 11 = .ok (.getfield 28, 3) := by decide +kernel
theorem dX7_tick_14 : decode cX7_tick 14 = .ok (.getfield 88, 3) := by decide +kernel
theorem dX7_tick_17 : decode cX7_tick 17 = .ok (.iconst 2, 1) := by decide +kernel
theorem dX7_tick_18 : decode cX7_tick 18 = .ok (.if_icmp .ne 59, 3) := by decide +kernel
theorem dX7_tick_21 : decode cX7_tick 21 = .ok (.aload_n 0, 1) := by decide +kernel
theorem dX7_tick_22 : decode cX7_tick 22 = .ok (.getfield 28, 3) := by decide +kernel
theorem dX7_tick_25 : decode cX7_tick 25 = .ok (.getfield 103, 3) := by decide +kernel
theorem dX7_tick_28 : decode cX7_tick 28 = .ok (.ifnonnull 17, 3) := by decide +kernel
theorem dX7_tick_31 : decode cX7_tick 31 = .ok (.aload_n 0, 1) := by decide +kernel
theorem dX7_tick_32 : decode cX7_tick 32 = .ok (.getfield 12, 3) := by decide +kernel
theorem dX7_tick_35 : decode cX7_tick 35 = .ok (.aload_n 0, 1) := by decide +kernel
theorem dX7_tick_36 : decode cX7_tick 36 = .ok (.getfield 46, 3) := by decide +kernel
theorem dX7_tick_39 : decode cX7_tick 39 = .ok (.invokevirtual 301, 3) := by decide +kernel
theorem dX7_tick_42 : decode cX7_tick 42 = .ok (.goto 4, 3) := by decide +kernel
theorem dX7_tick_45 : decode cX7_tick 45 = .ok (.aconst_null, 1) := by decide +kernel
theorem dX7_tick_46 : decode cX7_tick 46 = .ok (.astore_n 1, 1) := by decide +kernel
theorem dX7_tick_47 : decode cX7_tick 47 = .ok (.aload_n 1, 1) := by decide +kernel
theorem dX7_tick_48 : decode cX7_tick 48 = .ok (.ifnull 11, 3) := by decide +kernel
theorem dX7_tick_51 : decode cX7_tick 51 = .ok (.aload_n 0, 1) := by decide +kernel
theorem dX7_tick_52 : decode cX7_tick 52 = .ok (.aload_n 1, 1) := by decide +kernel
theorem dX7_tick_53 : decode cX7_tick 53 = .ok (.invokevirtual 305, 3) := by decide +kernel
theorem dX7_tick_56 : decode cX7_tick 56 = .ok (.goto 18, 3) := by decide +kernel
theorem dX7_tick_59 : decode cX7_tick 59 = .ok (.aload_n 0, 1) := by decide +kernel
theorem dX7_tick_60 : decode cX7_tick 60 = .ok (.getfield 111, 3) := by decide +kernel
theorem dX7_tick_63 : decode cX7_tick 63 = .ok (.aload_n 0, 1) := by decide +kernel
theorem dX7_tick_64 : decode cX7_tick 64 = .ok (.getfield 43, 3) := by decide +kernel
theorem dX7_tick_67 : decode cX7_tick 67 = .ok (.if_icmp .lt 7, 3) := by decide +kernel
theorem dX7_tick_70 : decode cX7_tick 70 = .ok (.aload_n 0, 1) := by decide +kernel
theorem dX7_tick_71 : decode cX7_tick 71 = .ok (.invokevirtual 308, 3) := by decide +kernel
theorem dX7_tick_74 : decode cX7_tick 74 = .ok (.goto 31, 3) := by decide +kernel
theorem dX7_tick_77 : decode cX7_tick 77 = .ok (.aload_n 0, 1) := by decide +kernel
theorem dX7_tick_78 : decode cX7_tick 78 = .ok (.invokevirtual 311, 3) := by decide +kernel
theorem dX7_tick_81 : decode cX7_tick 81 = .ok (.ifCond .eq 10, 3) := by decide +kernel
theorem dX7_tick_84 : decode cX7_tick 84 = .ok (.aload_n 0, 1) := by decide +kernel
theorem dX7_tick_85 : decode cX7_tick 85 = .ok (.invokevirtual 314, 3) := by decide +kernel
theorem dX7_tick_88 : decode cX7_tick 88 = .ok (.goto 17, 3) := by decide +kernel
theorem dX7_tick_91 : decode cX7_tick 91 = .ok (.aload_n 0, 1) := by decide +kernel
theorem dX7_tick_92 : decode cX7_tick 92 = .ok (.getfield 28, 3) := by decide +kernel
theorem dX7_tick_95 : decode cX7_tick 95 = .ok (.getfield 88, 3) := by decide +kernel
theorem dX7_tick_98 : decode cX7_tick 98 = .ok (.ifCond .ne 7, 3) := by decide +kernel
theorem dX7_tick_101 : decode cX7_tick 101 = .ok (.aload_n 0, 1) := by decide +kernel
theorem dX7_tick_102 : decode cX7_tick 102 = .ok (.invokevirtual 317, 3) := by decide +kernel
theorem dX7_tick_105 : decode cX7_tick 105 = .ok (.return_, 1) := by decide +kernel
theorem dX7_remind_0 : decode cX7_remind 0 = .ok (.aload_n 0, 1) := by decide +kernel
theorem dX7_remind_1 : decode cX7_remind 1 = .ok (.iconst 0, 1) := by decide +kernel
theorem dX7_remind_2 : decode cX7_remind 2 = .ok (.putfield 111, 3) := by decide +kernel
theorem dX7_remind_5 : decode cX7_remind 5 = .ok (.aload_n 0, 1) := by decide +kernel
theorem dX7_remind_6 : decode cX7_remind 6 = .ok (.getfield 28, 3) := by decide +kernel
theorem dX7_remind_9 : decode cX7_remind 9 = .ok (.getfield 103, 3) := by decide +kernel
theorem dX7_remind_12 : decode cX7_remind 12 = .ok (.ifnonnull 27, 3) := by decide +kernel
theorem dX7_remind_15 : decode cX7_remind 15 = .ok (.aload_n 0, 1) := by decide +kernel
theorem dX7_remind_16 : decode cX7_remind 16 = .ok (.bipush 10, 2) := by decide +kernel
theorem dX7_remind_18 : decode cX7_remind 18 = .ok (.aload_n 0, 1) := by decide +kernel
theorem dX7_remind_19 : decode cX7_remind 19 = .ok (.getfield 28, 3) := by decide +kernel
theorem dX7_remind_22 : decode cX7_remind 22 = .ok (.getfield 91, 3) := by decide +kernel
theorem dX7_remind_25 : decode cX7_remind 25 = .ok (.aload_n 0, 1) := by decide +kernel
theorem dX7_remind_26 : decode cX7_remind 26 = .ok (.getfield 46, 3) := by decide +kernel
theorem dX7_remind_29 : decode cX7_remind 29 = .ok (.getfield 66, 3) := by decide +kernel
theorem dX7_remind_32 : decode cX7_remind 32 = .ok (.aconst_null, 1) := by decide +kernel
theorem dX7_remind_33 : decode cX7_remind 33 = .ok (.invokevirtual 320, 3) := by decide +kernel
theorem dX7_remind_36 : decode cX7_remind 36 = .ok (.goto 31, 3) := by decide +kernel
theorem dX7_remind_39 : decode cX7_remind 39 = .ok (.aload_n 0, 1) := by decide +kernel
theorem dX7_remind_40 : decode cX7_remind 40 = .ok (.iconst 3, 1) := by decide +kernel
theorem dX7_remind_41 : decode cX7_remind 41 = .ok (.aload_n 0, 1) := by decide +kernel
theorem dX7_remind_42 : decode cX7_remind 42 = .ok (.getfield 28, 3) := by decide +kernel
theorem dX7_remind_45 : decode cX7_remind 45 = .ok (.getfield 91, 3) := by decide +kernel
theorem dX7_remind_48 : decode cX7_remind 48 = .ok (.aload_n 0, 1) := by decide +kernel
theorem dX7_remind_49 : decode cX7_remind 49 = .ok (.getfield 46, 3) := by decide +kernel
theorem dX7_remind_52 : decode cX7_remind 52 = .ok (.getfield 66, 3) := by decide +kernel
theorem dX7_remind_55 : decode cX7_remind 55 = .ok (.iconst 1, 1) := by decide +kernel
theorem dX7_remind_56 : decode cX7_remind 56 = .ok (.iadd, 1) := by decide +kernel
theorem dX7_remind_57 : decode cX7_remind 57 = .ok (.aload_n 0, 1) := by decide +kernel
theorem dX7_remind_58 : decode cX7_remind 58 = .ok (.getfield 28, 3) := by decide +kernel
theorem dX7_remind_61 : decode cX7_remind 61 = .ok (.getfield 103, 3) := by decide +kernel
theorem dX7_remind_64 : decode cX7_remind 64 = .ok (.invokevirtual 320, 3) := by decide +kernel
theorem dX7_remind_67 : decode cX7_remind 67 = .ok (.return_, 1) := by decide +kernel
theorem dX7_campaignIsDue_0 : decode cX7_campaignIsDue 0 = .ok (.aload_n 0, 1) := by decide +kernel
theorem dX7_campaignIsDue_1 : decode cX7_campaignIsDue 1 = .ok (.getfield 28, 3) := by decide +kernel
theorem dX7_campaignIsDue_4 : decode cX7_campaignIsDue 4 = .ok (.getfield 88, 3) := by decide +kernel
theorem dX7_campaignIsDue_7 : decode cX7_campaignIsDue 7 = .ok (.iconst 1, 1) := by decide +kernel
theorem dX7_campaignIsDue_8 : decode cX7_campaignIsDue 8 = .ok (.if_icmp .ne 20, 3) := by decide +kernel
theorem dX7_campaignIsDue_11 : decode cX7_campaignIsDue 11 = .ok (.aload_n 0, 1) := by decide +kernel
theorem dX7_campaignIsDue_12 : decode cX7_campaignIsDue 12 = .ok (.getfield 111, 3) := by decide +kernel
theorem dX7_campaignIsDue_15 : decode cX7_campaignIsDue 15 = .ok (.aload_n 0, 1) := by decide +kernel
theorem dX7_campaignIsDue_16 : decode cX7_campaignIsDue 16 = .ok (.getfield 43, 3) := by decide +kernel
theorem dX7_campaignIsDue_19 : decode cX7_campaignIsDue 19 = .ok (.if_icmp .lt 7, 3) := by decide +kernel
theorem dX7_campaignIsDue_22 : decode cX7_campaignIsDue 22 = .ok (.iconst 1, 1) := by decide +kernel
theorem dX7_campaignIsDue_23 : decode cX7_campaignIsDue 23 = .ok (.goto 4, 3) := by decide +kernel
theorem dX7_campaignIsDue_26 : decode cX7_campaignIsDue 26 = .ok (.iconst 0, 1) := by decide +kernel
theorem dX7_campaignIsDue_27 : decode cX7_campaignIsDue 27 = .ok (.ireturn, 1) := by decide +kernel
theorem dX7_campaignIsDue_28 : decode cX7_campaignIsDue 28 = .ok (.aload_n 0, 1) := by decide +kernel
theorem dX7_campaignIsDue_29 : decode cX7_campaignIsDue 29 = .ok (.getfield 12, 3) := by decide +kernel
theorem dX7_campaignIsDue_32 : decode cX7_campaignIsDue 32 = .ok (.getfield 100, 3) := by decide +kernel
theorem dX7_campaignIsDue_35 : decode cX7_campaignIsDue 35 = .ok (.ifCond .le 23, 3) := by decide +kernel
theorem dX7_campaignIsDue_38 : decode cX7_campaignIsDue 38 = .ok (.aload_n 0, 1) := by decide +kernel
theorem dX7_campaignIsDue_39 : decode cX7_campaignIsDue 39 = .ok (.getfield 111, 3) := by decide +kernel
theorem dX7_campaignIsDue_42 : decode cX7_campaignIsDue 42 = .ok (.aload_n 0, 1) := by decide +kernel
theorem dX7_campaignIsDue_43 : decode cX7_campaignIsDue 43 = .ok (.getfield 43, 3) := by decide +kernel
theorem dX7_campaignIsDue_46 : decode cX7_campaignIsDue 46 = .ok (.aload_n 0, 1) := by decide +kernel
theorem dX7_campaignIsDue_47 : decode cX7_campaignIsDue 47 = .ok (.getfield 36, 3) := by decide +kernel
theorem dX7_campaignIsDue_50 : decode cX7_campaignIsDue 50 = .ok (.iadd, 1) := by decide +kernel
theorem dX7_campaignIsDue_51 : decode cX7_campaignIsDue 51 = .ok (.if_icmp .lt 7, 3) := by decide +kernel
theorem dX7_campaignIsDue_54 : decode cX7_campaignIsDue 54 = .ok (.iconst 1, 1) := by decide +kernel
theorem dX7_campaignIsDue_55 : decode cX7_campaignIsDue 55 = .ok (.goto 4, 3) := by decide +kernel
theorem dX7_campaignIsDue_58 : decode cX7_campaignIsDue 58 = .ok (.iconst 0, 1) := by decide +kernel
theorem dX7_campaignIsDue_59 : decode cX7_campaignIsDue 59 = .ok (.ireturn, 1) := by decide +kernel
theorem dX7_tickAsFollower_0 : decode cX7_tickAsFollower 0 = .ok (.aload_n 0, 1) := by decide +kernel
theorem dX7_tickAsFollower_1 : decode cX7_tickAsFollower 1 = .ok (.getfield 12, 3) := by decide +kernel
theorem dX7_tickAsFollower_4 : decode cX7_tickAsFollower 4 = .ok (.getfield 100, 3) := by decide +kernel
theorem dX7_tickAsFollower_7 : decode cX7_tickAsFollower 7 = .ok (.ifCond .le 10, 3) := by decide +kernel
theorem dX7_tickAsFollower_10 : decode cX7_tickAsFollower 10 = .ok (.aload_n 0, 1) := by decide +kernel
theorem dX7_tickAsFollower_11 : decode cX7_tickAsFollower 11 = .ok (.invokevirtual 324, 3) := by decide +kernel
theorem dX7_tickAsFollower_14 : decode cX7_tickAsFollower 14 = .ok (.goto 34, 3) := by decide +kernel
theorem dX7_tickAsFollower_17 : decode cX7_tickAsFollower 17 = .ok (.aload_n 0, 1) := by decide +kernel
theorem dX7_tickAsFollower_18 : decode cX7_tickAsFollower 18 = .ok (.getfield 111, 3) := by decide +kernel
theorem dX7_tickAsFollower_21 : decode cX7_tickAsFollower 21 = .ok (.aload_n 0, 1) := by decide +kernel
theorem dX7_tickAsFollower_22 : decode cX7_tickAsFollower 22 = .ok (.getfield 43, 3) := by decide +kernel
theorem dX7_tickAsFollower_25 : decode cX7_tickAsFollower 25 = .ok (.if_icmp .lt 23, 3) := by decide +kernel
theorem dX7_tickAsFollower_28 : decode cX7_tickAsFollower 28 = .ok (.aload_n 0, 1) := by decide +kernel
theorem dX7_tickAsFollower_29 : decode cX7_tickAsFollower 29 = .ok (.iconst 0, 1) := by decide +kernel
theorem dX7_tickAsFollower_30 : decode cX7_tickAsFollower 30 = .ok (.putfield 111, 3) := by decide +kernel
theorem dX7_tickAsFollower_33 : decode cX7_tickAsFollower 33 = .ok (.aload_n 0, 1) := by decide +kernel
theorem dX7_tickAsFollower_34 : decode cX7_tickAsFollower 34 = .ok (.aload_n 0, 1) := by decide +kernel
theorem dX7_tickAsFollower_35 : decode cX7_tickAsFollower 35 = .ok (.getfield 36, 3) := by decide +kernel
theorem dX7_tickAsFollower_38 : decode cX7_tickAsFollower 38 = .ok (.iconst 1, 1) := by decide +kernel
theorem dX7_tickAsFollower_39 : decode cX7_tickAsFollower 39 = .ok (.iadd, 1) := by decide +kernel
theorem dX7_tickAsFollower_40 : decode cX7_tickAsFollower 40 = .ok (.aload_n 0, 1) := by decide +kernel
theorem dX7_tickAsFollower_41 : decode cX7_tickAsFollower 41 = .ok (.getfield 40, 3) := by decide +kernel
theorem dX7_tickAsFollower_44 : decode cX7_tickAsFollower 44 = .ok (.irem, 1) := by decide +kernel
theorem dX7_tickAsFollower_45 : decode cX7_tickAsFollower 45 = .ok (.invokevirtual 327, 3) := by decide +kernel
theorem dX7_tickAsFollower_48 : decode cX7_tickAsFollower 48 = .ok (.return_, 1) := by decide +kernel
theorem dX7_campaign_0 : decode cX7_campaign 0 = .ok (.aload_n 0, 1) := by decide +kernel
theorem dX7_campaign_1 : decode cX7_campaign 1 = .ok (.getfield 78, 3) := by decide +kernel
theorem dX7_campaign_4 : decode cX7_campaign 4 = .ok (.aload_n 0, 1) := by decide +kernel
theorem dX7_campaign_5 : decode cX7_campaign 5 = .ok (.getfield 97, 3) := by decide +kernel
theorem dX7_campaign_8 : decode cX7_campaign 8 = .ok (.invokestatic 330, 3) := by decide +kernel
theorem dX7_campaign_11 : decode cX7_campaign 11 = .ok (.istore_n 1, 1) := by decide +kernel
theorem dX7_campaign_12 : decode cX7_campaign 12 = .ok (.iload_n 1, 1) := by decide +kernel
theorem dX7_campaign_13 : decode cX7_campaign 13 = .ok (.iload_n 1, 1) := by decide +kernel
theorem dX7_campaign_14 : decode cX7_campaign 14 = .ok (.aload_n 0, 1) := by decide +kernel
theorem dX7_campaign_15 : decode cX7_campaign 15 = .ok (.getfield 40, 3) := by decide +kernel
theorem dX7_campaign_18 : decode cX7_campaign 18 = .ok (.irem, 1) := by decide +kernel
theorem dX7_campaign_19 : decode cX7_campaign 19 = .ok (.isub, 1) := by decide +kernel
theorem dX7_campaign_20 : decode cX7_campaign 20 = .ok (.aload_n 0, 1) := by decide +kernel
theorem dX7_campaign_21 : decode cX7_campaign 21 = .ok (.getfield 36, 3) := by decide +kernel
theorem dX7_campaign_24 : decode cX7_campaign 24 = .ok (.iadd, 1) := by decide +kernel
theorem dX7_campaign_25 : decode cX7_campaign 25 = .ok (.istore_n 2, 1) := by decide +kernel
theorem dX7_campaign_26 : decode cX7_campaign 26 = .ok (.iload_n 2, 1) := by decide +kernel
theorem dX7_campaign_27 : decode cX7_campaign 27 = .ok (.iload_n 1, 1) := by decide +kernel
theorem dX7_campaign_28 : decode cX7_campaign 28 = .ok (.if_icmp .gt 10, 3) := by decide +kernel
theorem dX7_campaign_31 : decode cX7_campaign 31 = .ok (.iload_n 2, 1) := by decide +kernel
theorem dX7_campaign_32 : decode cX7_campaign 32 = .ok (.aload_n 0, 1) := by decide +kernel
theorem dX7_campaign_33 : decode cX7_campaign 33 = .ok (.getfield 40, 3) := by decide +kernel
theorem dX7_campaign_36 : decode cX7_campaign 36 = .ok (.iadd, 1) := by decide +kernel
theorem dX7_campaign_37 : decode cX7_campaign 37 = .ok (.istore_n 2, 1) := by decide +kernel
theorem dX7_campaign_38 : decode cX7_campaign 38 = .ok (.aload_n 0, 1) := by decide +kernel
theorem dX7_campaign_39 : decode cX7_campaign 39 = .ok (.iload_n 2, 1) := by decide +kernel
theorem dX7_campaign_40 : decode cX7_campaign 40 = .ok (.invokevirtual 336, 3) := by decide +kernel
theorem dX7_campaign_43 : decode cX7_campaign 43 = .ok (.ifCond .ne 4, 3) := by decide +kernel
theorem dX7_campaign_46 : decode cX7_campaign 46 = .ok (.return_, 1) := by decide +kernel
theorem dX7_campaign_47 : decode cX7_campaign 47 = .ok (.aload_n 0, 1) := by decide +kernel
theorem dX7_campaign_48 : decode cX7_campaign 48 = .ok (.getfield 28, 3) := by decide +kernel
theorem dX7_campaign_51 : decode cX7_campaign 51 = .ok (.iload_n 2, 1) := by decide +kernel
theorem dX7_campaign_52 : decode cX7_campaign 52 = .ok (.aload_n 0, 1) := by decide +kernel
theorem dX7_campaign_53 : decode cX7_campaign 53 = .ok (.getfield 36, 3) := by decide +kernel
theorem dX7_campaign_56 : decode cX7_campaign 56 = .ok (.invokevirtual 340, 3) := by decide +kernel
theorem dX7_campaign_59 : decode cX7_campaign 59 = .ok (.aload_n 0, 1) := by decide +kernel
theorem dX7_campaign_60 : decode cX7_campaign 60 = .ok (.getfield 28, 3) := by decide +kernel
theorem dX7_campaign_63 : decode cX7_campaign 63 = .ok (.aload_n 0, 1) := by decide +kernel
theorem dX7_campaign_64 : decode cX7_campaign 64 = .ok (.getfield 81, 3) := by decide +kernel
theorem dX7_campaign_67 : decode cX7_campaign 67 = .ok (.aload_n 0, 1) := by decide +kernel
theorem dX7_campaign_68 : decode cX7_campaign 68 = .ok (.getfield 85, 3) := by decide +kernel
theorem dX7_campaign_71 : decode cX7_campaign 71 = .ok (.invokevirtual 343, 3) := by decide +kernel
theorem dX7_campaign_74 : decode cX7_campaign 74 = .ok (.aload_n 0, 1) := by decide +kernel
theorem dX7_campaign_75 : decode cX7_campaign 75 = .ok (.iconst 0, 1) := by decide +kernel
theorem dX7_campaign_76 : decode cX7_campaign 76 = .ok (.putfield 111, 3) := by decide +kernel
theorem dX7_campaign_79 : decode cX7_campaign 79 = .ok (.aload_n 0, 1) := by decide +kernel
theorem dX7_campaign_80 : decode cX7_campaign 80 = .ok (.iconst 1, 1) := by decide +kernel
theorem dX7_campaign_81 : decode cX7_campaign 81 = .ok (.iload_n 2, 1) := by decide +kernel
theorem dX7_campaign_82 : decode cX7_campaign 82 = .ok (.aload_n 0, 1) := by decide +kernel
theorem dX7_campaign_83 : decode cX7_campaign 83 = .ok (.getfield 46, 3) := by decide +kernel
theorem dX7_campaign_86 : decode cX7_campaign 86 = .ok (.getfield 66, 3) := by decide +kernel
theorem dX7_campaign_89 : decode cX7_campaign 89 = .ok (.iconst 1, 1) := by decide +kernel
theorem dX7_campaign_90 : decode cX7_campaign 90 = .ok (.iadd, 1) := by decide +kernel
theorem dX7_campaign_91 : decode cX7_campaign 91 = .ok (.aconst_null, 1) := by decide +kernel
theorem dX7_campaign_92 : decode cX7_campaign 92 = .ok (.invokevirtual 320, 3) := by decide +kernel
theorem dX7_campaign_95 : decode cX7_campaign 95 = .ok (.return_, 1) := by decide +kernel
theorem dX7_forward_0 : decode cX7_forward 0 = .ok (.aload_n 0, 1) := by decide +kernel
theorem dX7_forward_1 : decode cX7_forward 1 = .ok (.getfield 97, 3) := by decide +kernel
theorem dX7_forward_4 : decode cX7_forward 4 = .ok (.aload_n 0, 1) := by decide +kernel
theorem dX7_forward_5 : decode cX7_forward 5 = .ok (.getfield 40, 3) := by decide +kernel
theorem dX7_forward_8 : decode cX7_forward 8 = .ok (.irem, 1) := by decide +kernel
theorem dX7_forward_9 : decode cX7_forward 9 = .ok (.istore_n 1, 1) := by decide +kernel
theorem dX7_forward_10 : decode cX7_forward 10 = .ok (.aload_n 0, 1) := by decide +kernel
theorem dX7_forward_11 : decode cX7_forward 11 = .ok (.getfield 97, 3) := by decide +kernel
theorem dX7_forward_14 : decode cX7_forward 14 = .ok (.ifCond .le 31, 3) := by decide +kernel
theorem dX7_forward_17 : decode cX7_forward 17 = .ok (.iload_n 1, 1) := by decide +kernel
theorem dX7_forward_18 : decode cX7_forward 18 = .ok (.aload_n 0, 1) := by decide +kernel
theorem dX7_forward_19 : decode cX7_forward 19 = .ok (.getfield 36, 3) := by decide +kernel
theorem dX7_forward_22 : decode cX7_forward 22 = .ok (.if_icmp .eq 23, 3) := by decide +kernel
theorem dX7_forward_25 : decode cX7_forward 25 = .ok (.aload_n 0, 1) := by decide +kernel
theorem dX7_forward_26 : decode cX7_forward 26 = .ok (.iload_n 1, 1) := by decide +kernel
theorem dX7_forward_27 : decode cX7_forward 27 = .ok (.bipush 9, 2) := by decide +kernel
theorem dX7_forward_29 : decode cX7_forward 29 = .ok (.iconst 0, 1) := by decide +kernel
theorem dX7_forward_30 : decode cX7_forward 30 = .ok (.iconst 0, 1) := by decide +kernel
theorem dX7_forward_31 : decode cX7_forward 31 = .ok (.invokevirtual 277, 3) := by decide +kernel
theorem dX7_forward_34 : decode cX7_forward 34 = .ok (.aload_n 0, 1) := by decide +kernel
theorem dX7_forward_35 : decode cX7_forward 35 = .ok (.getfield 12, 3) := by decide +kernel
theorem dX7_forward_38 : decode cX7_forward 38 = .ok (.invokevirtual 346, 3) := by decide +kernel
theorem dX7_forward_41 : decode cX7_forward 41 = .ok (.iconst 0, 1) := by decide +kernel
theorem dX7_forward_42 : decode cX7_forward 42 = .ok (.invokevirtual 281, 3) := by decide +kernel
theorem dX7_forward_45 : decode cX7_forward 45 = .ok (.return_, 1) := by decide +kernel
theorem dX7_propose_0 : decode cX7_propose 0 = .ok (.aload_n 1, 1) := by decide +kernel
theorem dX7_propose_1 : decode cX7_propose 1 = .ok (.ifnull 18, 3) := by decide +kernel
theorem dX7_propose_4 : decode cX7_propose 4 = .ok (.aload_n 0, 1) := by decide +kernel
theorem dX7_propose_5 : decode cX7_propose 5 = .ok (.aload_n 1, 1) := by decide +kernel
theorem dX7_propose_6 : decode cX7_propose 6 = .ok (.aload_n 0, 1) := by decide +kernel
theorem dX7_propose_7 : decode cX7_propose 7 = .ok (.getfield 28, 3) := by decide +kernel
theorem dX7_propose_10 : decode cX7_propose 10 = .ok (.getfield 91, 3) := by decide +kernel
theorem dX7_propose_13 : decode cX7_propose 13 = .ok (.invokevirtual 350, 3) := by decide +kernel
theorem dX7_propose_16 : decode cX7_propose 16 = .ok (.ifCond .ne 4, 3) := by decide +kernel
theorem dX7_propose_19 : decode cX7_propose 19 = .ok (.return_, 1) := by decide +kernel
theorem dX7_propose_20 : decode cX7_propose 20 = .ok (.aload_n 0, 1) := by decide +kernel
theorem dX7_propose_21 : decode cX7_propose 21 = .ok (.getfield 28, 3) := by decide +kernel
theorem dX7_propose_24 : decode cX7_propose 24 = .ok (.aload_n 1, 1) := by decide +kernel
theorem dX7_propose_25 : decode cX7_propose 25 = .ok (.aload_n 0, 1) := by decide +kernel
theorem dX7_propose_26 : decode cX7_propose 26 = .ok (.getfield 36, 3) := by decide +kernel
theorem dX7_propose_29 : decode cX7_propose 29 = .ok (.invokevirtual 354, 3) := by decide +kernel
theorem dX7_propose_32 : decode cX7_propose 32 = .ok (.aload_n 0, 1) := by decide +kernel
theorem dX7_propose_33 : decode cX7_propose 33 = .ok (.iconst 0, 1) := by decide +kernel
theorem dX7_propose_34 : decode cX7_propose 34 = .ok (.putfield 111, 3) := by decide +kernel
theorem dX7_propose_37 : decode cX7_propose 37 = .ok (.aload_n 0, 1) := by decide +kernel
theorem dX7_propose_38 : decode cX7_propose 38 = .ok (.iconst 3, 1) := by decide +kernel
theorem dX7_propose_39 : decode cX7_propose 39 = .ok (.aload_n 0, 1) := by decide +kernel
theorem dX7_propose_40 : decode cX7_propose 40 = .ok (.getfield 28, 3) := by decide +kernel
theorem dX7_propose_43 : decode cX7_propose 43 = .ok (.getfield 91, 3) := by decide +kernel
theorem dX7_propose_46 : decode cX7_propose 46 = .ok (.aload_n 0, 1) := by decide +kernel
theorem dX7_propose_47 : decode cX7_propose 47 = .ok (.getfield 46, 3) := by decide +kernel
theorem dX7_propose_50 : decode cX7_propose 50 = .ok (.getfield 66, 3) := by decide +kernel
theorem dX7_propose_53 : decode cX7_propose 53 = .ok (.iconst 1, 1) := by decide +kernel
theorem dX7_propose_54 : decode cX7_propose 54 = .ok (.iadd, 1) := by decide +kernel
theorem dX7_propose_55 : decode cX7_propose 55 = .ok (.aload_n 1, 1) := by decide +kernel
theorem dX7_propose_56 : decode cX7_propose 56 = .ok (.invokevirtual 320, 3) := by decide +kernel
theorem dX7_propose_59 : decode cX7_propose 59 = .ok (.return_, 1) := by decide +kernel
theorem dX7_receive_0 : decode cX7_receive 0 = .ok (.aload_n 0, 1) := by decide +kernel
theorem dX7_receive_1 : decode cX7_receive 1 = .ok (.aload_n 0, 1) := by decide +kernel
theorem dX7_receive_2 : decode cX7_receive 2 = .ok (.getfield 97, 3) := by decide +kernel
theorem dX7_receive_5 : decode cX7_receive 5 = .ok (.aload_n 1, 1) := by decide +kernel
theorem dX7_receive_6 : decode cX7_receive 6 = .ok (.getfield 356, 3) := by decide +kernel
theorem dX7_receive_9 : decode cX7_receive 9 = .ok (.invokestatic 330, 3) := by decide +kernel
theorem dX7_receive_12 : decode cX7_receive 12 = .ok (.putfield 97, 3) := by decide +kernel
theorem dX7_receive_15 : decode cX7_receive 15 = .ok (.aload_n 1, 1) := by decide +kernel
theorem dX7_receive_16 : decode cX7_receive 16 = .ok (.getfield 357, 3) := by decide +kernel
theorem dX7_receive_19 : decode cX7_receive 19 = .ok (.tableswitch 168 1 10 #[53, 61, 73, 81, 93, 101, 130, 144, 152, 160], 53) := by decide +kernel
theorem dX7_receive_72 : decode cX7_receive 72 = .ok (.aload_n 0, 1) := by decide +kernel
theorem dX7_receive_73 : decode cX7_receive 73 = .ok (.aload_n 1, 1) := by decide +kernel
theorem dX7_receive_74 : decode cX7_receive 74 = .ok (.invokevirtual 360, 3) := by decide +kernel
theorem dX7_receive_77 : decode cX7_receive 77 = .ok (.goto 110, 3) := by decide +kernel
theorem dX7_receive_80 : decode cX7_receive 80 = .ok (.aload_n 0, 1) := by decide +kernel
theorem dX7_receive_81 : decode cX7_receive 81 = .ok (.aload_n 0, 1) := by decide +kernel
theorem dX7_receive_82 : decode cX7_receive 82 = .ok (.aload_n 1, 1) := by decide +kernel
theorem dX7_receive_83 : decode cX7_receive 83 = .ok (.invokevirtual 364, 3) := by decide +kernel
theorem dX7_receive_86 : decode cX7_receive 86 = .ok (.invokevirtual 305, 3) := by decide +kernel
theorem dX7_receive_89 : decode cX7_receive 89 = .ok (.goto 98, 3) := by decide +kernel
theorem dX7_receive_92 : decode cX7_receive 92 = .ok (.aload_n 0, 1) := by decide +kernel
theorem dX7_receive_93 : decode cX7_receive 93 = .ok (.aload_n 1, 1) := by decide +kernel
theorem dX7_receive_94 : decode cX7_receive 94 = .ok (.invokevirtual 368, 3) := by decide +kernel
theorem dX7_receive_97 : decode cX7_receive 97 = .ok (.goto 90, 3) := by decide +kernel
theorem dX7_receive_100 : decode cX7_receive 100 = .ok (.aload_n 0, 1) := by decide +kernel
theorem dX7_receive_101 : decode cX7_receive 101 = .ok (.aload_n 0, 1) := by decide +kernel
theorem dX7_receive_102 : decode cX7_receive 102 = .ok (.aload_n 1, 1) := by decide +kernel
theorem dX7_receive_103 : decode cX7_receive 103 = .ok (.invokevirtual 371, 3) := by decide +kernel
theorem dX7_receive_106 : decode cX7_receive 106 = .ok (.invokevirtual 305, 3) := by decide +kernel
theorem dX7_receive_109 : decode cX7_receive 109 = .ok (.goto 78, 3) := by decide +kernel
theorem dX7_receive_112 : decode cX7_receive 112 = .ok (.aload_n 0, 1) := by decide +kernel
theorem dX7_receive_113 : decode cX7_receive 113 = .ok (.aload_n 1, 1) := by decide +kernel
theorem dX7_receive_114 : decode cX7_receive 114 = .ok (.invokevirtual 374, 3) := by decide +kernel
theorem dX7_receive_117 : decode cX7_receive 117 = .ok (.goto 70, 3) := by decide +kernel
theorem dX7_receive_120 : decode cX7_receive 120 = .ok (.aload_n 1, 1) := by decide +kernel
theorem dX7_receive_121 : decode cX7_receive 121 = .ok (.getfield 377, 3) := by decide +kernel
theorem dX7_receive_124 : decode cX7_receive 124 = .ok (.aload_n 0, 1) := by decide +kernel
theorem dX7_receive_125 : decode cX7_receive 125 = .ok (.getfield 46, 3) := by decide +kernel
theorem dX7_receive_128 : decode cX7_receive 128 = .ok (.getfield 66, 3) := by decide +kernel
theorem dX7_receive_131 : decode cX7_receive 131 = .ok (.if_icmp .gt 56, 3) := by decide +kernel
theorem dX7_receive_134 : decode cX7_receive 134 = .ok (.aload_n 0, 1) := by decide +kernel
theorem dX7_receive_135 : decode cX7_receive 135 = .ok (.aload_n 1, 1) := by decide +kernel
theorem dX7_receive_136 : decode cX7_receive 136 = .ok (.getfield 380, 3) := by decide +kernel
theorem dX7_receive_139 : decode cX7_receive 139 = .ok (.aload_n 1, 1) := by decide +kernel
theorem dX7_receive_140 : decode cX7_receive 140 = .ok (.getfield 377, 3) := by decide +kernel
theorem dX7_receive_143 : decode cX7_receive 143 = .ok (.invokevirtual 383, 3) := by decide +kernel
theorem dX7_receive_146 : decode cX7_receive 146 = .ok (.goto 41, 3) := by decide +kernel
theorem dX7_receive_149 : decode cX7_receive 149 = .ok (.aload_n 0, 1) := by decide +kernel
theorem dX7_receive_150 : decode cX7_receive 150 = .ok (.getfield 28, 3) := by decide +kernel
theorem dX7_receive_153 : decode cX7_receive 153 = .ok (.aload_n 1, 1) := by decide +kernel
theorem dX7_receive_154 : decode cX7_receive 154 = .ok (.getfield 356, 3) := by decide +kernel
theorem dX7_receive_157 : decode cX7_receive 157 = .ok (.invokevirtual 386, 3) := by decide +kernel
theorem dX7_receive_160 : decode cX7_receive 160 = .ok (.goto 27, 3) := by decide +kernel
theorem dX7_receive_163 : decode cX7_receive 163 = .ok (.aload_n 0, 1) := by decide +kernel
theorem dX7_receive_164 : decode cX7_receive 164 = .ok (.aload_n 1, 1) := by decide +kernel
theorem dX7_receive_165 : decode cX7_receive 165 = .ok (.invokevirtual 389, 3) := by decide +kernel
theorem dX7_receive_168 : decode cX7_receive 168 = .ok (.goto 19, 3) := by decide +kernel
theorem dX7_receive_171 : decode cX7_receive 171 = .ok (.aload_n 0, 1) := by decide +kernel
theorem dX7_receive_172 : decode cX7_receive 172 = .ok (.aload_n 1, 1) := by decide +kernel
theorem dX7_receive_173 : decode cX7_receive 173 = .ok (.invokevirtual 392, 3) := by decide +kernel
theorem dX7_receive_176 : decode cX7_receive 176 = .ok (.goto 11, 3) := by decide +kernel
theorem dX7_receive_179 : decode cX7_receive 179 = .ok (.aload_n 0, 1) := by decide +kernel
theorem dX7_receive_180 : decode cX7_receive 180 = .ok (.aload_n 1, 1) := by decide +kernel
theorem dX7_receive_181 : decode cX7_receive 181 = .ok (.invokevirtual 395, 3) := by decide +kernel
theorem dX7_receive_184 : decode cX7_receive 184 = .ok (.goto 3, 3) := by decide +kernel
theorem dX7_receive_187 : decode cX7_receive 187 = .ok (.return_, 1) := by decide +kernel
theorem dX7_onPrepare_0 : decode cX7_onPrepare 0 = .ok (.aload_n 1, 1) := by decide +kernel
theorem dX7_onPrepare_1 : decode cX7_onPrepare 1 = .ok (.getfield 377, 3) := by decide +kernel
theorem dX7_onPrepare_4 : decode cX7_onPrepare 4 = .ok (.aload_n 0, 1) := by decide +kernel
theorem dX7_onPrepare_5 : decode cX7_onPrepare 5 = .ok (.getfield 46, 3) := by decide +kernel
theorem dX7_onPrepare_8 : decode cX7_onPrepare 8 = .ok (.getfield 66, 3) := by decide +kernel
theorem dX7_onPrepare_11 : decode cX7_onPrepare 11 = .ok (.if_icmp .gt 16, 3) := by decide +kernel
theorem dX7_onPrepare_14 : decode cX7_onPrepare 14 = .ok (.aload_n 0, 1) := by decide +kernel
theorem dX7_onPrepare_15 : decode cX7_onPrepare 15 = .ok (.aload_n 1, 1) := by decide +kernel
theorem dX7_onPrepare_16 : decode cX7_onPrepare 16 = .ok (.getfield 380, 3) := by decide +kernel
theorem dX7_onPrepare_19 : decode cX7_onPrepare 19 = .ok (.aload_n 1, 1) := by decide +kernel
theorem dX7_onPrepare_20 : decode cX7_onPrepare 20 = .ok (.getfield 377, 3) := by decide +kernel
theorem dX7_onPrepare_23 : decode cX7_onPrepare 23 = .ok (.invokevirtual 383, 3) := by decide +kernel
theorem dX7_onPrepare_26 : decode cX7_onPrepare 26 = .ok (.return_, 1) := by decide +kernel
theorem dX7_onPrepare_27 : decode cX7_onPrepare 27 = .ok (.aload_n 1, 1) := by decide +kernel
theorem dX7_onPrepare_28 : decode cX7_onPrepare 28 = .ok (.getfield 356, 3) := by decide +kernel
theorem dX7_onPrepare_31 : decode cX7_onPrepare 31 = .ok (.aload_n 0, 1) := by decide +kernel
theorem dX7_onPrepare_32 : decode cX7_onPrepare 32 = .ok (.getfield 78, 3) := by decide +kernel
theorem dX7_onPrepare_35 : decode cX7_onPrepare 35 = .ok (.if_icmp .ge 12, 3) := by decide +kernel
theorem dX7_onPrepare_38 : decode cX7_onPrepare 38 = .ok (.aload_n 0, 1) := by decide +kernel
theorem dX7_onPrepare_39 : decode cX7_onPrepare 39 = .ok (.aload_n 1, 1) := by decide +kernel
theorem dX7_onPrepare_40 : decode cX7_onPrepare 40 = .ok (.getfield 380, 3) := by decide +kernel
theorem dX7_onPrepare_43 : decode cX7_onPrepare 43 = .ok (.invokevirtual 398, 3) := by decide +kernel
theorem dX7_onPrepare_46 : decode cX7_onPrepare 46 = .ok (.return_, 1) := by decide +kernel
theorem dX7_onPrepare_47 : decode cX7_onPrepare 47 = .ok (.aload_n 1, 1) := by decide +kernel
theorem dX7_onPrepare_48 : decode cX7_onPrepare 48 = .ok (.getfield 356, 3) := by decide +kernel
theorem dX7_onPrepare_51 : decode cX7_onPrepare 51 = .ok (.aload_n 0, 1) := by decide +kernel
theorem dX7_onPrepare_52 : decode cX7_onPrepare 52 = .ok (.getfield 78, 3) := by decide +kernel
theorem dX7_onPrepare_55 : decode cX7_onPrepare 55 = .ok (.if_icmp .le 15, 3) := by decide +kernel
theorem dX7_onPrepare_58 : decode cX7_onPrepare 58 = .ok (.aload_n 0, 1) := by decide +kernel
theorem dX7_onPrepare_59 : decode cX7_onPrepare 59 = .ok (.aload_n 1, 1) := by decide +kernel
theorem dX7_onPrepare_60 : decode cX7_onPrepare 60 = .ok (.getfield 356, 3) := by decide +kernel
theorem dX7_onPrepare_63 : decode cX7_onPrepare 63 = .ok (.invokevirtual 336, 3) := by decide +kernel
theorem dX7_onPrepare_66 : decode cX7_onPrepare 66 = .ok (.ifCond .ne 4, 3) := by decide +kernel
theorem dX7_onPrepare_69 : decode cX7_onPrepare 69 = .ok (.return_, 1) := by decide +kernel
theorem dX7_onPrepare_70 : decode cX7_onPrepare 70 = .ok (.aload_n 0, 1) := by decide +kernel
theorem dX7_onPrepare_71 : decode cX7_onPrepare 71 = .ok (.getfield 28, 3) := by decide +kernel
theorem dX7_onPrepare_74 : decode cX7_onPrepare 74 = .ok (.invokevirtual 159, 3) := by decide +kernel
theorem dX7_onPrepare_77 : decode cX7_onPrepare 77 = .ok (.aload_n 0, 1) := by decide +kernel
theorem dX7_onPrepare_78 : decode cX7_onPrepare 78 = .ok (.aload_n 1, 1) := by decide +kernel
theorem dX7_onPrepare_79 : decode cX7_onPrepare 79 = .ok (.getfield 380, 3) := by decide +kernel
theorem dX7_onPrepare_82 : decode cX7_onPrepare 82 = .ok (.iconst 2, 1) := by decide +kernel
theorem dX7_onPrepare_83 : decode cX7_onPrepare 83 = .ok (.aload_n 1, 1) := by decide +kernel
theorem dX7_onPrepare_84 : decode cX7_onPrepare 84 = .ok (.getfield 356, 3) := by decide +kernel
theorem dX7_onPrepare_87 : decode cX7_onPrepare 87 = .ok (.aload_n 1, 1) := by decide +kernel
theorem dX7_onPrepare_88 : decode cX7_onPrepare 88 = .ok (.getfield 377, 3) := by decide +kernel
theorem dX7_onPrepare_91 : decode cX7_onPrepare 91 = .ok (.invokevirtual 277, 3) := by decide +kernel
theorem dX7_onPrepare_94 : decode cX7_onPrepare 94 = .ok (.astore_n 2, 1) := by decide +kernel
theorem dX7_onPrepare_95 : decode cX7_onPrepare 95 = .ok (.aload_n 0, 1) := by decide +kernel
theorem dX7_onPrepare_96 : decode cX7_onPrepare 96 = .ok (.getfield 81, 3) := by decide +kernel
theorem dX7_onPrepare_99 : decode cX7_onPrepare 99 = .ok (.ifnull 31, 3) := by decide +kernel
theorem dX7_onPrepare_102 : decode cX7_onPrepare 102 = .ok (.aload_n 1, 1) := by decide +kernel
theorem dX7_onPrepare_103 : decode cX7_onPrepare 103 = .ok (.getfield 377, 3) := by decide +kernel
theorem dX7_onPrepare_106 : decode cX7_onPrepare 106 = .ok (.aload_n 0, 1) := by decide +kernel
theorem dX7_onPrepare_107 : decode cX7_onPrepare 107 = .ok (.getfield 46, 3) := by decide +kernel
theorem dX7_onPrepare_110 : decode cX7_onPrepare 110 = .ok (.getfield 66, 3) := by decide +kernel
theorem dX7_onPrepare_113 : decode cX7_onPrepare 113 = .ok (.iconst 1, 1) := by decide +kernel
theorem dX7_onPrepare_114 : decode cX7_onPrepare 114 = .ok (.iadd, 1) := by decide +kernel
theorem dX7_onPrepare_115 : decode cX7_onPrepare 115 = .ok (.if_icmp .ne 15, 3) := by decide +kernel
theorem dX7_onPrepare_118 : decode cX7_onPrepare 118 = .ok (.aload_n 2, 1) := by decide +kernel
theorem dX7_onPrepare_119 : decode cX7_onPrepare 119 = .ok (.aload_n 0, 1) := by decide +kernel
theorem dX7_onPrepare_120 : decode cX7_onPrepare 120 = .ok (.getfield 81, 3) := by decide +kernel
theorem dX7_onPrepare_123 : decode cX7_onPrepare 123 = .ok (.aload_n 0, 1) := by decide +kernel
theorem dX7_onPrepare_124 : decode cX7_onPrepare 124 = .ok (.getfield 85, 3) := by decide +kernel
theorem dX7_onPrepare_127 : decode cX7_onPrepare 127 = .ok (.invokevirtual 281, 3) := by decide +kernel
theorem dX7_onPrepare_130 : decode cX7_onPrepare 130 = .ok (.return_, 1) := by decide +kernel
theorem dX7_afterPromise_0 : decode cX7_afterPromise 0 = .ok (.aload_n 0, 1) := by decide +kernel
theorem dX7_afterPromise_1 : decode cX7_afterPromise 1 = .ok (.getfield 28, 3) := by decide +kernel
theorem dX7_afterPromise_4 : decode cX7_afterPromise 4 = .ok (.iconst 1, 1) := by decide +kernel
theorem dX7_afterPromise_5 : decode cX7_afterPromise 5 = .ok (.aload_n 1, 1) := by decide +kernel
theorem dX7_afterPromise_6 : decode cX7_afterPromise 6 = .ok (.getfield 356, 3) := by decide +kernel
theorem dX7_afterPromise_9 : decode cX7_afterPromise 9 = .ok (.invokevirtual 401, 3) := by decide +kernel
theorem dX7_afterPromise_12 : decode cX7_afterPromise 12 = .ok (.ifCond .eq 33, 3) := by decide +kernel
theorem dX7_afterPromise_15 : decode cX7_afterPromise 15 = .ok (.aload_n 1, 1) := by decide +kernel
theorem dX7_afterPromise_16 : decode cX7_afterPromise 16 = .ok (.getfield 377, 3) := by decide +kernel
theorem dX7_afterPromise_19 : decode cX7_afterPromise 19 = .ok (.aload_n 0, 1) := by decide +kernel
theorem dX7_afterPromise_20 : decode cX7_afterPromise 20 = .ok (.getfield 46, 3) := by decide +kernel
theorem dX7_afterPromise_23 : decode cX7_afterPromise 23 = .ok (.getfield 66, 3) := by decide +kernel
theorem dX7_afterPromise_26 : decode cX7_afterPromise 26 = .ok (.iconst 1, 1) := by decide +kernel
theorem dX7_afterPromise_27 : decode cX7_afterPromise 27 = .ok (.iadd, 1) := by decide +kernel
theorem dX7_afterPromise_28 : decode cX7_afterPromise 28 = .ok (.if_icmp .ne 17, 3) := by decide +kernel
theorem dX7_afterPromise_31 : decode cX7_afterPromise 31 = .ok (.aload_n 0, 1) := by decide +kernel
theorem dX7_afterPromise_32 : decode cX7_afterPromise 32 = .ok (.getfield 28, 3) := by decide +kernel
theorem dX7_afterPromise_35 : decode cX7_afterPromise 35 = .ok (.aload_n 1, 1) := by decide +kernel
theorem dX7_afterPromise_36 : decode cX7_afterPromise 36 = .ok (.getfield 380, 3) := by decide +kernel
theorem dX7_afterPromise_39 : decode cX7_afterPromise 39 = .ok (.invokevirtual 405, 3) := by decide +kernel
theorem dX7_afterPromise_42 : decode cX7_afterPromise 42 = .ok (.ifCond .eq 5, 3) := by decide +kernel
theorem dX7_afterPromise_45 : decode cX7_afterPromise 45 = .ok (.aconst_null, 1) := by decide +kernel
theorem dX7_afterPromise_46 : decode cX7_afterPromise 46 = .ok (.areturn, 1) := by decide +kernel
theorem dX7_afterPromise_47 : decode cX7_afterPromise 47 = .ok (.aload_n 0, 1) := by decide +kernel
theorem dX7_afterPromise_48 : decode cX7_afterPromise 48 = .ok (.getfield 28, 3) := by decide +kernel
theorem dX7_afterPromise_51 : decode cX7_afterPromise 51 = .ok (.aload_n 1, 1) := by decide +kernel
theorem dX7_afterPromise_52 : decode cX7_afterPromise 52 = .ok (.getfield 408, 3) := by decide +kernel
theorem dX7_afterPromise_55 : decode cX7_afterPromise 55 = .ok (.aload_n 1, 1) := by decide +kernel
theorem dX7_afterPromise_56 : decode cX7_afterPromise 56 = .ok (.getfield 411, 3) := by decide +kernel
theorem dX7_afterPromise_59 : decode cX7_afterPromise 59 = .ok (.invokevirtual 343, 3) := by decide +kernel
theorem dX7_afterPromise_62 : decode cX7_afterPromise 62 = .ok (.aload_n 0, 1) := by decide +kernel
theorem dX7_afterPromise_63 : decode cX7_afterPromise 63 = .ok (.getfield 28, 3) := by decide +kernel
theorem dX7_afterPromise_66 : decode cX7_afterPromise 66 = .ok (.aload_n 1, 1) := by decide +kernel
theorem dX7_afterPromise_67 : decode cX7_afterPromise 67 = .ok (.getfield 380, 3) := by decide +kernel
theorem dX7_afterPromise_70 : decode cX7_afterPromise 70 = .ok (.aload_n 0, 1) := by decide +kernel
theorem dX7_afterPromise_71 : decode cX7_afterPromise 71 = .ok (.getfield 40, 3) := by decide +kernel
theorem dX7_afterPromise_74 : decode cX7_afterPromise 74 = .ok (.invokevirtual 414, 3) := by decide +kernel
theorem dX7_afterPromise_77 : decode cX7_afterPromise 77 = .ok (.ifCond .ne 5, 3) := by decide +kernel
theorem dX7_afterPromise_80 : decode cX7_afterPromise 80 = .ok (.aconst_null, 1) := by decide +kernel
theorem dX7_afterPromise_81 : decode cX7_afterPromise 81 = .ok (.areturn, 1) := by decide +kernel
theorem dX7_afterPromise_82 : decode cX7_afterPromise 82 = .ok (.aload_n 0, 1) := by decide +kernel
theorem dX7_afterPromise_83 : decode cX7_afterPromise 83 = .ok (.getfield 28, 3) := by decide +kernel
theorem dX7_afterPromise_86 : decode cX7_afterPromise 86 = .ok (.invokevirtual 417, 3) := by decide +kernel
theorem dX7_afterPromise_89 : decode cX7_afterPromise 89 = .ok (.aload_n 0, 1) := by decide +kernel
theorem dX7_afterPromise_90 : decode cX7_afterPromise 90 = .ok (.iconst 0, 1) := by decide +kernel
theorem dX7_afterPromise_91 : decode cX7_afterPromise 91 = .ok (.putfield 111, 3) := by decide +kernel
theorem dX7_afterPromise_94 : decode cX7_afterPromise 94 = .ok (.aload_n 0, 1) := by decide +kernel
theorem dX7_afterPromise_95 : decode cX7_afterPromise 95 = .ok (.getfield 28, 3) := by decide +kernel
theorem dX7_afterPromise_98 : decode cX7_afterPromise 98 = .ok (.getfield 420, 3) := by decide +kernel
theorem dX7_afterPromise_101 : decode cX7_afterPromise 101 = .ok (.ifnull 13, 3) := by decide +kernel
theorem dX7_afterPromise_104 : decode cX7_afterPromise 104 = .ok (.aload_n 0, 1) := by decide +kernel
theorem dX7_afterPromise_105 : decode cX7_afterPromise 105 = .ok (.getfield 28, 3) := by decide +kernel
theorem dX7_afterPromise_108 : decode cX7_afterPromise 108 = .ok (.getfield 420, 3) := by decide +kernel
theorem dX7_afterPromise_111 : decode cX7_afterPromise 111 = .ok (.goto 14, 3) := by decide +kernel
theorem dX7_afterPromise_114 : decode cX7_afterPromise 114 = .ok (.aload_n 0, 1) := by decide +kernel
theorem dX7_afterPromise_115 : decode cX7_afterPromise 115 = .ok (.getfield 12, 3) := by decide +kernel
theorem dX7_afterPromise_118 : decode cX7_afterPromise 118 = .ok (.aload_n 0, 1) := by decide +kernel
theorem dX7_afterPromise_119 : decode cX7_afterPromise 119 = .ok (.getfield 46, 3) := by decide +kernel
theorem dX7_afterPromise_122 : decode cX7_afterPromise 122 = .ok (.invokevirtual 301, 3) := by decide +kernel
theorem dX7_afterPromise_125 : decode cX7_afterPromise 125 = .ok (.areturn, 1) := by decide +kernel
theorem dX7_onAccept_0 : decode cX7_onAccept 0 = .ok (.aload_n 1, 1) := by decide +kernel
theorem dX7_onAccept_1 : decode cX7_onAccept 1 = .ok (.getfield 377, 3) := by decide +kernel
theorem dX7_onAccept_4 : decode cX7_onAccept 4 = .ok (.aload_n 0, 1) := by decide +kernel
theorem dX7_onAccept_5 : decode cX7_onAccept 5 = .ok (.getfield 46, 3) := by decide +kernel
theorem dX7_onAccept_8 : decode cX7_onAccept 8 = .ok (.getfield 66, 3) := by decide +kernel
theorem dX7_onAccept_11 : decode cX7_onAccept 11 = .ok (.if_icmp .gt 16, 3) := by decide +kernel
theorem dX7_onAccept_14 : decode cX7_onAccept 14 = .ok (.aload_n 0, 1) := by decide +kernel
theorem dX7_onAccept_15 : decode cX7_onAccept 15 = .ok (.aload_n 1, 1) := by decide +kernel
theorem dX7_onAccept_16 : decode cX7_onAccept 16 = .ok (.getfield 380, 3) := by decide +kernel
theorem dX7_onAccept_19 : decode cX7_onAccept 19 = .ok (.aload_n 1, 1) := by decide +kernel
theorem dX7_onAccept_20 : decode cX7_onAccept 20 = .ok (.getfield 377, 3) := by decide +kernel
theorem dX7_onAccept_23 : decode cX7_onAccept 23 = .ok (.invokevirtual 383, 3) := by decide +kernel
theorem dX7_onAccept_26 : decode cX7_onAccept 26 = .ok (.return_, 1) := by decide +kernel
theorem dX7_onAccept_27 : decode cX7_onAccept 27 = .ok (.aload_n 1, 1) := by decide +kernel
theorem dX7_onAccept_28 : decode cX7_onAccept 28 = .ok (.getfield 377, 3) := by decide +kernel
theorem dX7_onAccept_31 : decode cX7_onAccept 31 = .ok (.aload_n 0, 1) := by decide +kernel
theorem dX7_onAccept_32 : decode cX7_onAccept 32 = .ok (.getfield 46, 3) := by decide +kernel
theorem dX7_onAccept_35 : decode cX7_onAccept 35 = .ok (.getfield 66, 3) := by decide +kernel
theorem dX7_onAccept_38 : decode cX7_onAccept 38 = .ok (.iconst 1, 1) := by decide +kernel
theorem dX7_onAccept_39 : decode cX7_onAccept 39 = .ok (.iadd, 1) := by decide +kernel
theorem dX7_onAccept_40 : decode cX7_onAccept 40 = .ok (.if_icmp .le 12, 3) := by decide +kernel
theorem dX7_onAccept_43 : decode cX7_onAccept 43 = .ok (.aload_n 0, 1) := by decide +kernel
theorem dX7_onAccept_44 : decode cX7_onAccept 44 = .ok (.aload_n 1, 1) := by decide +kernel
theorem dX7_onAccept_45 : decode cX7_onAccept 45 = .ok (.getfield 380, 3) := by decide +kernel
theorem dX7_onAccept_48 : decode cX7_onAccept 48 = .ok (.invokevirtual 327, 3) := by decide +kernel
theorem dX7_onAccept_51 : decode cX7_onAccept 51 = .ok (.return_, 1) := by decide +kernel
theorem dX7_onAccept_52 : decode cX7_onAccept 52 = .ok (.aload_n 1, 1) := by decide +kernel
theorem dX7_onAccept_53 : decode cX7_onAccept 53 = .ok (.getfield 356, 3) := by decide +kernel
theorem dX7_onAccept_56 : decode cX7_onAccept 56 = .ok (.aload_n 0, 1) := by decide +kernel
theorem dX7_onAccept_57 : decode cX7_onAccept 57 = .ok (.getfield 78, 3) := by decide +kernel
theorem dX7_onAccept_60 : decode cX7_onAccept 60 = .ok (.if_icmp .ge 12, 3) := by decide +kernel
theorem dX7_onAccept_63 : decode cX7_onAccept 63 = .ok (.aload_n 0, 1) := by decide +kernel
theorem dX7_onAccept_64 : decode cX7_onAccept 64 = .ok (.aload_n 1, 1) := by decide +kernel
theorem dX7_onAccept_65 : decode cX7_onAccept 65 = .ok (.getfield 380, 3) := by decide +kernel
theorem dX7_onAccept_68 : decode cX7_onAccept 68 = .ok (.invokevirtual 398, 3) := by decide +kernel
theorem dX7_onAccept_71 : decode cX7_onAccept 71 = .ok (.return_, 1) := by decide +kernel
theorem dX7_onAccept_72 : decode cX7_onAccept 72 = .ok (.aload_n 1, 1) := by decide +kernel
theorem dX7_onAccept_73 : decode cX7_onAccept 73 = .ok (.getfield 408, 3) := by decide +kernel
theorem dX7_onAccept_76 : decode cX7_onAccept 76 = .ok (.ifnull 18, 3) := by decide +kernel
theorem dX7_onAccept_79 : decode cX7_onAccept 79 = .ok (.aload_n 0, 1) := by decide +kernel
theorem dX7_onAccept_80 : decode cX7_onAccept 80 = .ok (.aload_n 1, 1) := by decide +kernel
theorem dX7_onAccept_81 : decode cX7_onAccept 81 = .ok (.getfield 408, 3) := by decide +kernel
theorem dX7_onAccept_84 : decode cX7_onAccept 84 = .ok (.aload_n 1, 1) := by decide +kernel
theorem dX7_onAccept_85 : decode cX7_onAccept 85 = .ok (.getfield 356, 3) := by decide +kernel
theorem dX7_onAccept_88 : decode cX7_onAccept 88 = .ok (.invokevirtual 350, 3) := by decide +kernel
theorem dX7_onAccept_91 : decode cX7_onAccept 91 = .ok (.ifCond .ne 4, 3) := by decide +kernel
theorem dX7_onAccept_94 : decode cX7_onAccept 94 = .ok (.return_, 1) := by decide +kernel
theorem dX7_onAccept_95 : decode cX7_onAccept 95 = .ok (.aload_n 0, 1) := by decide +kernel
theorem dX7_onAccept_96 : decode cX7_onAccept 96 = .ok (.getfield 28, 3) := by decide +kernel
theorem dX7_onAccept_99 : decode cX7_onAccept 99 = .ok (.iconst 2, 1) := by decide +kernel
theorem dX7_onAccept_100 : decode cX7_onAccept 100 = .ok (.aload_n 1, 1) := by decide +kernel
theorem dX7_onAccept_101 : decode cX7_onAccept 101 = .ok (.getfield 356, 3) := by decide +kernel
theorem dX7_onAccept_104 : decode cX7_onAccept 104 = .ok (.invokevirtual 401, 3) := by decide +kernel
theorem dX7_onAccept_107 : decode cX7_onAccept 107 = .ok (.ifCond .ne 10, 3) := by decide +kernel
theorem dX7_onAccept_110 : decode cX7_onAccept 110 = .ok (.aload_n 0, 1) := by decide +kernel
theorem dX7_onAccept_111 : decode cX7_onAccept 111 = .ok (.getfield 28, 3) := by decide +kernel
theorem dX7_onAccept_114 : decode cX7_onAccept 114 = .ok (.invokevirtual 159, 3) := by decide +kernel
theorem dX7_onAccept_117 : decode cX7_onAccept 117 = .ok (.aload_n 0, 1) := by decide +kernel
theorem dX7_onAccept_118 : decode cX7_onAccept 118 = .ok (.iconst 0, 1) := by decide +kernel
theorem dX7_onAccept_119 : decode cX7_onAccept 119 = .ok (.putfield 111, 3) := by decide +kernel
theorem dX7_onAccept_122 : decode cX7_onAccept 122 = .ok (.aload_n 0, 1) := by decide +kernel
theorem dX7_onAccept_123 : decode cX7_onAccept 123 = .ok (.aload_n 1, 1) := by decide +kernel
theorem dX7_onAccept_124 : decode cX7_onAccept 124 = .ok (.getfield 380, 3) := by decide +kernel
theorem dX7_onAccept_127 : decode cX7_onAccept 127 = .ok (.iconst 4, 1) := by decide +kernel
theorem dX7_onAccept_128 : decode cX7_onAccept 128 = .ok (.aload_n 1, 1) := by decide +kernel
theorem dX7_onAccept_129 : decode cX7_onAccept 129 = .ok (.getfield 356, 3) := by decide +kernel
theorem dX7_onAccept_132 : decode cX7_onAccept 132 = .ok (.aload_n 1, 1) := by decide +kernel
theorem dX7_onAccept_133 : decode cX7_onAccept 133 = .ok (.getfield 377, 3) := by decide +kernel
theorem dX7_onAccept_136 : decode cX7_onAccept 136 = .ok (.invokevirtual 277, 3) := by decide +kernel
theorem dX7_onAccept_139 : decode cX7_onAccept 139 = .ok (.pop, 1) := by decide +kernel
theorem dX7_onAccept_140 : decode cX7_onAccept 140 = .ok (.return_, 1) := by decide +kernel
theorem dX7_afterAccepted_0 : decode cX7_afterAccepted 0 = .ok (.aload_n 0, 1) := by decide +kernel
theorem dX7_afterAccepted_1 : decode cX7_afterAccepted 1 = .ok (.getfield 28, 3) := by decide +kernel
theorem dX7_afterAccepted_4 : decode cX7_afterAccepted 4 = .ok (.iconst 2, 1) := by decide +kernel
theorem dX7_afterAccepted_5 : decode cX7_afterAccepted 5 = .ok (.aload_n 1, 1) := by decide +kernel
theorem dX7_afterAccepted_6 : decode cX7_afterAccepted 6 = .ok (.getfield 356, 3) := by decide +kernel
theorem dX7_afterAccepted_9 : decode cX7_afterAccepted 9 = .ok (.invokevirtual 401, 3) := by decide +kernel
theorem dX7_afterAccepted_12 : decode cX7_afterAccepted 12 = .ok (.ifCond .eq 43, 3) := by decide +kernel
theorem dX7_afterAccepted_15 : decode cX7_afterAccepted 15 = .ok (.aload_n 0, 1) := by decide +kernel
theorem dX7_afterAccepted_16 : decode cX7_afterAccepted 16 = .ok (.getfield 28, 3) := by decide +kernel
theorem dX7_afterAccepted_19 : decode cX7_afterAccepted 19 = .ok (.getfield 103, 3) := by decide +kernel
theorem dX7_afterAccepted_22 : decode cX7_afterAccepted 22 = .ok (.ifnull 33, 3) := by decide +kernel
theorem dX7_afterAccepted_25 : decode cX7_afterAccepted 25 = .ok (.aload_n 1, 1) := by decide +kernel
theorem dX7_afterAccepted_26 : decode cX7_afterAccepted 26 = .ok (.getfield 377, 3) := by decide +kernel
theorem dX7_afterAccepted_29 : decode cX7_afterAccepted 29 = .ok (.aload_n 0, 1) := by decide +kernel
theorem dX7_afterAccepted_30 : decode cX7_afterAccepted 30 = .ok (.getfield 46, 3) := by decide +kernel
theorem dX7_afterAccepted_33 : decode cX7_afterAccepted 33 = .ok (.getfield 66, 3) := by decide +kernel
theorem dX7_afterAccepted_36 : decode cX7_afterAccepted 36 = .ok (.iconst 1, 1) := by decide +kernel
theorem dX7_afterAccepted_37 : decode cX7_afterAccepted 37 = .ok (.iadd, 1) := by decide +kernel
theorem dX7_afterAccepted_38 : decode cX7_afterAccepted 38 = .ok (.if_icmp .ne 17, 3) := by decide +kernel
theorem dX7_afterAccepted_41 : decode cX7_afterAccepted 41 = .ok (.aload_n 0, 1) := by decide +kernel
theorem dX7_afterAccepted_42 : decode cX7_afterAccepted 42 = .ok (.getfield 28, 3) := by decide +kernel
theorem dX7_afterAccepted_45 : decode cX7_afterAccepted 45 = .ok (.aload_n 1, 1) := by decide +kernel
theorem dX7_afterAccepted_46 : decode cX7_afterAccepted 46 = .ok (.getfield 380, 3) := by decide +kernel
theorem dX7_afterAccepted_49 : decode cX7_afterAccepted 49 = .ok (.invokevirtual 405, 3) := by decide +kernel
theorem dX7_afterAccepted_52 : decode cX7_afterAccepted 52 = .ok (.ifCond .eq 5, 3) := by decide +kernel
theorem dX7_afterAccepted_55 : decode cX7_afterAccepted 55 = .ok (.aconst_null, 1) := by decide +kernel
theorem dX7_afterAccepted_56 : decode cX7_afterAccepted 56 = .ok (.areturn, 1) := by decide +kernel
theorem dX7_afterAccepted_57 : decode cX7_afterAccepted 57 = .ok (.aload_n 0, 1) := by decide +kernel
theorem dX7_afterAccepted_58 : decode cX7_afterAccepted 58 = .ok (.getfield 28, 3) := by decide +kernel
theorem dX7_afterAccepted_61 : decode cX7_afterAccepted 61 = .ok (.aload_n 1, 1) := by decide +kernel
theorem dX7_afterAccepted_62 : decode cX7_afterAccepted 62 = .ok (.getfield 380, 3) := by decide +kernel
theorem dX7_afterAccepted_65 : decode cX7_afterAccepted 65 = .ok (.aload_n 0, 1) := by decide +kernel
theorem dX7_afterAccepted_66 : decode cX7_afterAccepted 66 = .ok (.getfield 40, 3) := by decide +kernel
theorem dX7_afterAccepted_69 : decode cX7_afterAccepted 69 = .ok (.invokevirtual 414, 3) := by decide +kernel
theorem dX7_afterAccepted_72 : decode cX7_afterAccepted 72 = .ok (.ifCond .ne 5, 3) := by decide +kernel
theorem dX7_afterAccepted_75 : decode cX7_afterAccepted 75 = .ok (.aconst_null, 1) := by decide +kernel
theorem dX7_afterAccepted_76 : decode cX7_afterAccepted 76 = .ok (.areturn, 1) := by decide +kernel
theorem dX7_afterAccepted_77 : decode cX7_afterAccepted 77 = .ok (.aload_n 0, 1) := by decide +kernel
theorem dX7_afterAccepted_78 : decode cX7_afterAccepted 78 = .ok (.getfield 28, 3) := by decide +kernel
theorem dX7_afterAccepted_81 : decode cX7_afterAccepted 81 = .ok (.getfield 103, 3) := by decide +kernel
theorem dX7_afterAccepted_84 : decode cX7_afterAccepted 84 = .ok (.astore_n 2, 1) := by decide +kernel
theorem dX7_afterAccepted_85 : decode cX7_afterAccepted 85 = .ok (.aload_n 0, 1) := by decide +kernel
theorem dX7_afterAccepted_86 : decode cX7_afterAccepted 86 = .ok (.iconst 5, 1) := by decide +kernel
theorem dX7_afterAccepted_87 : decode cX7_afterAccepted 87 = .ok (.iconst 0, 1) := by decide +kernel
theorem dX7_afterAccepted_88 : decode cX7_afterAccepted 88 = .ok (.aload_n 1, 1) := by decide +kernel
theorem dX7_afterAccepted_89 : decode cX7_afterAccepted 89 = .ok (.getfield 377, 3) := by decide +kernel
theorem dX7_afterAccepted_92 : decode cX7_afterAccepted 92 = .ok (.aload_n 2, 1) := by decide +kernel
theorem dX7_afterAccepted_93 : decode cX7_afterAccepted 93 = .ok (.invokevirtual 320, 3) := by decide +kernel
theorem dX7_afterAccepted_96 : decode cX7_afterAccepted 96 = .ok (.aload_n 0, 1) := by decide +kernel
theorem dX7_afterAccepted_97 : decode cX7_afterAccepted 97 = .ok (.aload_n 2, 1) := by decide +kernel
theorem dX7_afterAccepted_98 : decode cX7_afterAccepted 98 = .ok (.invokevirtual 422, 3) := by decide +kernel
theorem dX7_afterAccepted_101 : decode cX7_afterAccepted 101 = .ok (.ifCond .eq 17, 3) := by decide +kernel
theorem dX7_afterAccepted_104 : decode cX7_afterAccepted 104 = .ok (.aload_n 0, 1) := by decide +kernel
theorem dX7_afterAccepted_105 : decode cX7_afterAccepted 105 = .ok (.getfield 12, 3) := by decide +kernel
theorem dX7_afterAccepted_108 : decode cX7_afterAccepted 108 = .ok (.aload_n 0, 1) := by decide +kernel
theorem dX7_afterAccepted_109 : decode cX7_afterAccepted 109 = .ok (.getfield 46, 3) := by decide +kernel
theorem dX7_afterAccepted_112 : decode cX7_afterAccepted 112 = .ok (.invokevirtual 301, 3) := by decide +kernel
theorem dX7_afterAccepted_115 : decode cX7_afterAccepted 115 = .ok (.goto 4, 3) := by decide +kernel
theorem dX7_afterAccepted_118 : decode cX7_afterAccepted 118 = .ok (.aconst_null, 1) := by decide +kernel
theorem dX7_afterAccepted_119 : decode cX7_afterAccepted 119 = .ok (.areturn, 1) := by decide +kernel
theorem dX7_onChosen_0 : decode cX7_onChosen 0 = .ok (.aload_n 1, 1) := by decide +kernel
theorem dX7_onChosen_1 : decode cX7_onChosen 1 = .ok (.getfield 377, 3) := by decide +kernel
theorem dX7_onChosen_4 : decode cX7_onChosen 4 = .ok (.aload_n 0, 1) := by decide +kernel
theorem dX7_onChosen_5 : decode cX7_onChosen 5 = .ok (.getfield 46, 3) := by decide +kernel
theorem dX7_onChosen_8 : decode cX7_onChosen 8 = .ok (.getfield 66, 3) := by decide +kernel
theorem dX7_onChosen_11 : decode cX7_onChosen 11 = .ok (.iconst 1, 1) := by decide +kernel
theorem dX7_onChosen_12 : decode cX7_onChosen 12 = .ok (.iadd, 1) := by decide +kernel
theorem dX7_onChosen_13 : decode cX7_onChosen 13 = .ok (.if_icmp .le 14, 3) := by decide +kernel
theorem dX7_onChosen_16 : decode cX7_onChosen 16 = .ok (.aload_n 0, 1) := by decide +kernel
theorem dX7_onChosen_17 : decode cX7_onChosen 17 = .ok (.aload_n 1, 1) := by decide +kernel
theorem dX7_onChosen_18 : decode cX7_onChosen 18 = .ok (.getfield 380, 3) := by decide +kernel
theorem dX7_onChosen_21 : decode cX7_onChosen 21 = .ok (.invokevirtual 327, 3) := by decide +kernel
theorem dX7_onChosen_24 : decode cX7_onChosen 24 = .ok (.goto 35, 3) := by decide +kernel
theorem dX7_onChosen_27 : decode cX7_onChosen 27 = .ok (.aload_n 1, 1) := by decide +kernel
theorem dX7_onChosen_28 : decode cX7_onChosen 28 = .ok (.getfield 377, 3) := by decide +kernel
theorem dX7_onChosen_31 : decode cX7_onChosen 31 = .ok (.aload_n 0, 1) := by decide +kernel
theorem dX7_onChosen_32 : decode cX7_onChosen 32 = .ok (.getfield 46, 3) := by decide +kernel
theorem dX7_onChosen_35 : decode cX7_onChosen 35 = .ok (.getfield 66, 3) := by decide +kernel
theorem dX7_onChosen_38 : decode cX7_onChosen 38 = .ok (.iconst 1, 1) := by decide +kernel
theorem dX7_onChosen_39 : decode cX7_onChosen 39 = .ok (.iadd, 1) := by decide +kernel
theorem dX7_onChosen_40 : decode cX7_onChosen 40 = .ok (.if_icmp .ne 19, 3) := by decide +kernel
theorem dX7_onChosen_43 : decode cX7_onChosen 43 = .ok (.aload_n 1, 1) := by decide +kernel
theorem dX7_onChosen_44 : decode cX7_onChosen 44 = .ok (.getfield 408, 3) := by decide +kernel
theorem dX7_onChosen_47 : decode cX7_onChosen 47 = .ok (.ifnull 12, 3) := by decide +kernel
theorem dX7_onChosen_50 : decode cX7_onChosen 50 = .ok (.aload_n 0, 1) := by decide +kernel
theorem dX7_onChosen_51 : decode cX7_onChosen 51 = .ok (.aload_n 1, 1) := by decide +kernel
theorem dX7_onChosen_52 : decode cX7_onChosen 52 = .ok (.getfield 408, 3) := by decide +kernel
theorem dX7_onChosen_55 : decode cX7_onChosen 55 = .ok (.invokevirtual 422, 3) := by decide +kernel
theorem dX7_onChosen_58 : decode cX7_onChosen 58 = .ok (.pop, 1) := by decide +kernel
theorem dX7_onChosen_59 : decode cX7_onChosen 59 = .ok (.return_, 1) := by decide +kernel
theorem dX7_onState_0 : decode cX7_onState 0 = .ok (.aload_n 1, 1) := by decide +kernel
theorem dX7_onState_1 : decode cX7_onState 1 = .ok (.getfield 377, 3) := by decide +kernel
theorem dX7_onState_4 : decode cX7_onState 4 = .ok (.aload_n 0, 1) := by decide +kernel
theorem dX7_onState_5 : decode cX7_onState 5 = .ok (.getfield 46, 3) := by decide +kernel
theorem dX7_onState_8 : decode cX7_onState 8 = .ok (.getfield 66, 3) := by decide +kernel
theorem dX7_onState_11 : decode cX7_onState 11 = .ok (.if_icmp .le 28, 3) := by decide +kernel
theorem dX7_onState_14 : decode cX7_onState 14 = .ok (.aload_n 1, 1) := by decide +kernel
theorem dX7_onState_15 : decode cX7_onState 15 = .ok (.getfield 377, 3) := by decide +kernel
theorem dX7_onState_18 : decode cX7_onState 18 = .ok (.aload_n 0, 1) := by decide +kernel
theorem dX7_onState_19 : decode cX7_onState 19 = .ok (.getfield 21, 3) := by decide +kernel
theorem dX7_onState_22 : decode cX7_onState 22 = .ok (.getfield 114, 3) := by decide +kernel
theorem dX7_onState_25 : decode cX7_onState 25 = .ok (.if_icmp .lt 14, 3) := by decide +kernel
theorem dX7_onState_28 : decode cX7_onState 28 = .ok (.aload_n 0, 1) := by decide +kernel
theorem dX7_onState_29 : decode cX7_onState 29 = .ok (.getfield 21, 3) := by decide +kernel
theorem dX7_onState_32 : decode cX7_onState 32 = .ok (.aload_n 1, 1) := by decide +kernel
theorem dX7_onState_33 : decode cX7_onState 33 = .ok (.invokevirtual 425, 3) := by decide +kernel
theorem dX7_onState_36 : decode cX7_onState 36 = .ok (.ifCond .ne 4, 3) := by decide +kernel
theorem dX7_onState_39 : decode cX7_onState 39 = .ok (.return_, 1) := by decide +kernel
theorem dX7_onState_40 : decode cX7_onState 40 = .ok (.aload_n 0, 1) := by decide +kernel
theorem dX7_onState_41 : decode cX7_onState 41 = .ok (.iconst 4, 1) := by decide +kernel
theorem dX7_onState_42 : decode cX7_onState 42 = .ok (.invokevirtual 202, 3) := by decide +kernel
theorem dX7_onState_45 : decode cX7_onState 45 = .ok (.aload_n 0, 1) := by decide +kernel
theorem dX7_onState_46 : decode cX7_onState 46 = .ok (.getfield 62, 3) := by decide +kernel
theorem dX7_onState_49 : decode cX7_onState 49 = .ok (.aload_n 0, 1) := by decide +kernel
theorem dX7_onState_50 : decode cX7_onState 50 = .ok (.getfield 21, 3) := by decide +kernel
theorem dX7_onState_53 : decode cX7_onState 53 = .ok (.getfield 429, 3) := by decide +kernel
theorem dX7_onState_56 : decode cX7_onState 56 = .ok (.iconst 0, 1) := by decide +kernel
theorem dX7_onState_57 : decode cX7_onState 57 = .ok (.aload_n 0, 1) := by decide +kernel
theorem dX7_onState_58 : decode cX7_onState 58 = .ok (.getfield 21, 3) := by decide +kernel
theorem dX7_onState_61 : decode cX7_onState 61 = .ok (.getfield 433, 3) := by decide +kernel
theorem dX7_onState_64 : decode cX7_onState 64 = .ok (.invokevirtual 436, 3) := by decide +kernel
theorem dX7_onState_67 : decode cX7_onState 67 = .ok (.aload_n 0, 1) := by decide +kernel
theorem dX7_onState_68 : decode cX7_onState 68 = .ok (.invokevirtual 236, 3) := by decide +kernel
theorem dX7_onState_71 : decode cX7_onState 71 = .ok (.ifCond .ne 4, 3) := by decide +kernel
theorem dX7_onState_74 : decode cX7_onState 74 = .ok (.return_, 1) := by decide +kernel
theorem dX7_onState_75 : decode cX7_onState 75 = .ok (.aload_n 0, 1) := by decide +kernel
theorem dX7_onState_76 : decode cX7_onState 76 = .ok (.getfield 62, 3) := by decide +kernel
theorem dX7_onState_79 : decode cX7_onState 79 = .ok (.invokevirtual 162, 3) := by decide +kernel
theorem dX7_onState_82 : decode cX7_onState 82 = .ok (.pop, 1) := by decide +kernel
theorem dX7_onState_83 : decode cX7_onState 83 = .ok (.aload_n 0, 1) := by decide +kernel
theorem dX7_onState_84 : decode cX7_onState 84 = .ok (.getfield 46, 3) := by decide +kernel
theorem dX7_onState_87 : decode cX7_onState 87 = .ok (.aload_n 0, 1) := by decide +kernel
theorem dX7_onState_88 : decode cX7_onState 88 = .ok (.getfield 62, 3) := by decide +kernel
theorem dX7_onState_91 : decode cX7_onState 91 = .ok (.invokevirtual 181, 3) := by decide +kernel
theorem dX7_onState_94 : decode cX7_onState 94 = .ok (.aload_n 0, 1) := by decide +kernel
theorem dX7_onState_95 : decode cX7_onState 95 = .ok (.aconst_null, 1) := by decide +kernel
theorem dX7_onState_96 : decode cX7_onState 96 = .ok (.putfield 81, 3) := by decide +kernel
theorem dX7_onState_99 : decode cX7_onState 99 = .ok (.aload_n 0, 1) := by decide +kernel
theorem dX7_onState_100 : decode cX7_onState 100 = .ok (.invokevirtual 148, 3) := by decide +kernel
theorem dX7_onState_103 : decode cX7_onState 103 = .ok (.ifCond .ne 4, 3) := by decide +kernel
theorem dX7_onState_106 : decode cX7_onState 106 = .ok (.return_, 1) := by decide +kernel
theorem dX7_onState_107 : decode cX7_onState 107 = .ok (.aload_n 0, 1) := by decide +kernel
theorem dX7_onState_108 : decode cX7_onState 108 = .ok (.getfield 28, 3) := by decide +kernel
theorem dX7_onState_111 : decode cX7_onState 111 = .ok (.invokevirtual 159, 3) := by decide +kernel
theorem dX7_onState_114 : decode cX7_onState 114 = .ok (.aload_n 0, 1) := by decide +kernel
theorem dX7_onState_115 : decode cX7_onState 115 = .ok (.invokevirtual 242, 3) := by decide +kernel
theorem dX7_onState_118 : decode cX7_onState 118 = .ok (.return_, 1) := by decide +kernel
theorem dX7_onForward_0 : decode cX7_onForward 0 = .ok (.aload_n 1, 1) := by decide +kernel
theorem dX7_onForward_1 : decode cX7_onForward 1 = .ok (.getfield 408, 3) := by decide +kernel
theorem dX7_onForward_4 : decode cX7_onForward 4 = .ok (.ifnull 28, 3) := by decide +kernel
theorem dX7_onForward_7 : decode cX7_onForward 7 = .ok (.aload_n 0, 1) := by decide +kernel
theorem dX7_onForward_8 : decode cX7_onForward 8 = .ok (.getfield 46, 3) := by decide +kernel
theorem dX7_onForward_11 : decode cX7_onForward 11 = .ok (.aload_n 1, 1) := by decide +kernel
theorem dX7_onForward_12 : decode cX7_onForward 12 = .ok (.getfield 408, 3) := by decide +kernel
theorem dX7_onForward_15 : decode cX7_onForward 15 = .ok (.invokevirtual 440, 3) := by decide +kernel
theorem dX7_onForward_18 : decode cX7_onForward 18 = .ok (.ifCond .eq 14, 3) := by decide +kernel
theorem dX7_onForward_21 : decode cX7_onForward 21 = .ok (.aload_n 0, 1) := by decide +kernel
theorem dX7_onForward_22 : decode cX7_onForward 22 = .ok (.getfield 12, 3) := by decide +kernel
theorem dX7_onForward_25 : decode cX7_onForward 25 = .ok (.aload_n 1, 1) := by decide +kernel
theorem dX7_onForward_26 : decode cX7_onForward 26 = .ok (.getfield 408, 3) := by decide +kernel
theorem dX7_onForward_29 : decode cX7_onForward 29 = .ok (.invokevirtual 443, 3) := by decide +kernel
theorem dX7_onForward_32 : decode cX7_onForward 32 = .ok (.return_, 1) := by decide +kernel
theorem dX7_onBeat_0 : decode cX7_onBeat 0 = .ok (.aload_n 1, 1) := by decide +kernel
theorem dX7_onBeat_1 : decode cX7_onBeat 1 = .ok (.getfield 356, 3) := by decide +kernel
theorem dX7_onBeat_4 : decode cX7_onBeat 4 = .ok (.aload_n 0, 1) := by decide +kernel
theorem dX7_onBeat_5 : decode cX7_onBeat 5 = .ok (.getfield 78, 3) := by decide +kernel
theorem dX7_onBeat_8 : decode cX7_onBeat 8 = .ok (.if_icmp .ge 12, 3) := by decide +kernel
theorem dX7_onBeat_11 : decode cX7_onBeat 11 = .ok (.aload_n 0, 1) := by decide +kernel
theorem dX7_onBeat_12 : decode cX7_onBeat 12 = .ok (.aload_n 1, 1) := by decide +kernel
theorem dX7_onBeat_13 : decode cX7_onBeat 13 = .ok (.getfield 380, 3) := by decide +kernel
theorem dX7_onBeat_16 : decode cX7_onBeat 16 = .ok (.invokevirtual 398, 3) := by decide +kernel
theorem dX7_onBeat_19 : decode cX7_onBeat 19 = .ok (.return_, 1) := by decide +kernel
theorem dX7_onBeat_20 : decode cX7_onBeat 20 = .ok (.aload_n 0, 1) := by decide +kernel
theorem dX7_onBeat_21 : decode cX7_onBeat 21 = .ok (.iconst 0, 1) := by decide +kernel
theorem dX7_onBeat_22 : decode cX7_onBeat 22 = .ok (.putfield 111, 3) := by decide +kernel
theorem dX7_onBeat_25 : decode cX7_onBeat 25 = .ok (.aload_n 0, 1) := by decide +kernel
theorem dX7_onBeat_26 : decode cX7_onBeat 26 = .ok (.getfield 28, 3) := by decide +kernel
theorem dX7_onBeat_29 : decode cX7_onBeat 29 = .ok (.aload_n 1, 1) := by decide +kernel
theorem dX7_onBeat_30 : decode cX7_onBeat 30 = .ok (.getfield 356, 3) := by decide +kernel
theorem dX7_onBeat_33 : decode cX7_onBeat 33 = .ok (.invokevirtual 386, 3) := by decide +kernel
theorem dX7_onBeat_36 : decode cX7_onBeat 36 = .ok (.aload_n 1, 1) := by decide +kernel
theorem dX7_onBeat_37 : decode cX7_onBeat 37 = .ok (.getfield 377, 3) := by decide +kernel
theorem dX7_onBeat_40 : decode cX7_onBeat 40 = .ok (.aload_n 0, 1) := by decide +kernel
theorem dX7_onBeat_41 : decode cX7_onBeat 41 = .ok (.getfield 46, 3) := by decide +kernel
theorem dX7_onBeat_44 : decode cX7_onBeat 44 = .ok (.getfield 66, 3) := by decide +kernel
theorem dX7_onBeat_47 : decode cX7_onBeat 47 = .ok (.if_icmp .le 14, 3) := by decide +kernel
theorem dX7_onBeat_50 : decode cX7_onBeat 50 = .ok (.aload_n 0, 1) := by decide +kernel
theorem dX7_onBeat_51 : decode cX7_onBeat 51 = .ok (.aload_n 1, 1) := by decide +kernel
theorem dX7_onBeat_52 : decode cX7_onBeat 52 = .ok (.getfield 380, 3) := by decide +kernel
theorem dX7_onBeat_55 : decode cX7_onBeat 55 = .ok (.invokevirtual 327, 3) := by decide +kernel
theorem dX7_onBeat_58 : decode cX7_onBeat 58 = .ok (.goto 31, 3) := by decide +kernel
theorem dX7_onBeat_61 : decode cX7_onBeat 61 = .ok (.aload_n 1, 1) := by decide +kernel
theorem dX7_onBeat_62 : decode cX7_onBeat 62 = .ok (.getfield 377, 3) := by decide +kernel
theorem dX7_onBeat_65 : decode cX7_onBeat 65 = .ok (.aload_n 0, 1) := by decide +kernel
theorem dX7_onBeat_66 : decode cX7_onBeat 66 = .ok (.getfield 46, 3) := by decide +kernel
theorem dX7_onBeat_69 : decode cX7_onBeat 69 = .ok (.getfield 66, 3) := by decide +kernel
theorem dX7_onBeat_72 : decode cX7_onBeat 72 = .ok (.if_icmp .ge 17, 3) := by decide +kernel
theorem dX7_onBeat_75 : decode cX7_onBeat 75 = .ok (.aload_n 0, 1) := by decide +kernel
theorem dX7_onBeat_76 : decode cX7_onBeat 76 = .ok (.aload_n 1, 1) := by decide +kernel
theorem dX7_onBeat_77 : decode cX7_onBeat 77 = .ok (.getfield 380, 3) := by decide +kernel
theorem dX7_onBeat_80 : decode cX7_onBeat 80 = .ok (.aload_n 1, 1) := by decide +kernel
theorem dX7_onBeat_81 : decode cX7_onBeat 81 = .ok (.getfield 377, 3) := by decide +kernel
theorem dX7_onBeat_84 : decode cX7_onBeat 84 = .ok (.iconst 1, 1) := by decide +kernel
theorem dX7_onBeat_85 : decode cX7_onBeat 85 = .ok (.iadd, 1) := by decide +kernel
theorem dX7_onBeat_86 : decode cX7_onBeat 86 = .ok (.invokevirtual 383, 3) := by decide +kernel
theorem dX7_onBeat_89 : decode cX7_onBeat 89 = .ok (.return_, 1) := by decide +kernel
