theorem dX11_init_0 : decode cX11_init 0 = .ok (.aload_n 0, 1) := by decide +kernel
theorem dX11_init_1 : decode cX11_init 1 = .ok (.invokespecial 3, 3) := by decide +kernel
theorem dX11_init_4 : decode cX11_init 4 = .ok (.iconst 3, 1) := by decide +kernel
theorem dX11_init_5 : decode cX11_init 5 = .ok (.bipush 9, 2) := by decide +kernel
theorem dX11_init_7 : decode cX11_init 7 = .ok (.iload_n 1, 1) := by decide +kernel
theorem dX11_init_8 : decode cX11_init 8 = .ok (.invokestatic 9, 3) := by decide +kernel
theorem dX11_init_11 : decode cX11_init 11 = .ok (.invokestatic 15, 3) := by decide +kernel
theorem dX11_init_14 : decode cX11_init 14 = .ok (.istore 5, 2) := by decide +kernel
theorem dX11_init_16 : decode cX11_init 16 = .ok (.aload_n 0, 1) := by decide +kernel
theorem dX11_init_17 : decode cX11_init 17 = .ok (.iconst 1, 1) := by decide +kernel
theorem dX11_init_18 : decode cX11_init 18 = .ok (.bipush 16, 2) := by decide +kernel
theorem dX11_init_20 : decode cX11_init 20 = .ok (.iload_n 2, 1) := by decide +kernel
theorem dX11_init_21 : decode cX11_init 21 = .ok (.invokestatic 9, 3) := by decide +kernel
theorem dX11_init_24 : decode cX11_init 24 = .ok (.invokestatic 15, 3) := by decide +kernel
theorem dX11_init_27 : decode cX11_init 27 = .ok (.putfield 18, 3) := by decide +kernel
theorem dX11_init_30 : decode cX11_init 30 = .ok (.aload_n 0, 1) := by decide +kernel
theorem dX11_init_31 : decode cX11_init 31 = .ok (.iconst 1, 1) := by decide +kernel
theorem dX11_init_32 : decode cX11_init 32 = .ok (.bipush 32, 2) := by decide +kernel
theorem dX11_init_34 : decode cX11_init 34 = .ok (.iload_n 3, 1) := by decide +kernel
theorem dX11_init_35 : decode cX11_init 35 = .ok (.invokestatic 9, 3) := by decide +kernel
theorem dX11_init_38 : decode cX11_init 38 = .ok (.invokestatic 15, 3) := by decide +kernel
theorem dX11_init_41 : decode cX11_init 41 = .ok (.putfield 22, 3) := by decide +kernel
theorem dX11_init_44 : decode cX11_init 44 = .ok (.aload_n 0, 1) := by decide +kernel
theorem dX11_init_45 : decode cX11_init 45 = .ok (.iconst 2, 1) := by decide +kernel
theorem dX11_init_46 : decode cX11_init 46 = .ok (.bipush 40, 2) := by decide +kernel
theorem dX11_init_48 : decode cX11_init 48 = .ok (.iload 4, 2) := by decide +kernel
theorem dX11_init_50 : decode cX11_init 50 = .ok (.invokestatic 9, 3) := by decide +kernel
theorem dX11_init_53 : decode cX11_init 53 = .ok (.invokestatic 15, 3) := by decide +kernel
theorem dX11_init_56 : decode cX11_init 56 = .ok (.putfield 25, 3) := by decide +kernel
theorem dX11_init_59 : decode cX11_init 59 = .ok (.aload_n 0, 1) := by decide +kernel
theorem dX11_init_60 : decode cX11_init 60 = .ok (.new 28, 3) := by decide +kernel
theorem dX11_init_63 : decode cX11_init 63 = .ok (.dup, 1) := by decide +kernel
theorem dX11_init_64 : decode cX11_init 64 = .ok (.sipush 2048, 3) := by decide +kernel
theorem dX11_init_67 : decode cX11_init 67 = .ok (.invokespecial 30, 3) := by decide +kernel
theorem dX11_init_70 : decode cX11_init 70 = .ok (.putfield 33, 3) := by decide +kernel
theorem dX11_init_73 : decode cX11_init 73 = .ok (.aload_n 0, 1) := by decide +kernel
theorem dX11_init_74 : decode cX11_init 74 = .ok (.new 37, 3) := by decide +kernel
theorem dX11_init_77 : decode cX11_init 77 = .ok (.dup, 1) := by decide +kernel
theorem dX11_init_78 : decode cX11_init 78 = .ok (.invokespecial 39, 3) := by decide +kernel
theorem dX11_init_81 : decode cX11_init 81 = .ok (.putfield 40, 3) := by decide +kernel
theorem dX11_init_84 : decode cX11_init 84 = .ok (.aload_n 0, 1) := by decide +kernel
theorem dX11_init_85 : decode cX11_init 85 = .ok (.bipush 16, 2) := by decide +kernel
theorem dX11_init_87 : decode cX11_init 87 = .ok (.anewarray 44, 3) := by decide +kernel
theorem dX11_init_90 : decode cX11_init 90 = .ok (.putfield 46, 3) := by decide +kernel
theorem dX11_init_93 : decode cX11_init 93 = .ok (.iconst 0, 1) := by decide +kernel
theorem dX11_init_94 : decode cX11_init 94 = .ok (.istore 6, 2) := by decide +kernel
theorem dX11_init_96 : decode cX11_init 96 = .ok (.iload 6, 2) := by decide +kernel
theorem dX11_init_98 : decode cX11_init 98 = .ok (.bipush 16, 2) := by decide +kernel
theorem dX11_init_100 : decode cX11_init 100 = .ok (.if_icmp .ge 23, 3) := by decide +kernel
theorem dX11_init_103 : decode cX11_init 103 = .ok (.aload_n 0, 1) := by decide +kernel
theorem dX11_init_104 : decode cX11_init 104 = .ok (.getfield 46, 3) := by decide +kernel
theorem dX11_init_107 : decode cX11_init 107 = .ok (.iload 6, 2) := by decide +kernel
theorem dX11_init_109 : decode cX11_init 109 = .ok (.new 44, 3) := by decide +kernel
theorem dX11_init_112 : decode cX11_init 112 = .ok (.dup, 1) := by decide +kernel
theorem dX11_init_113 : decode cX11_init 113 = .ok (.invokespecial 50, 3) := by decide +kernel
theorem dX11_init_116 : decode cX11_init 116 = .ok (.aastore, 1) := by decide +kernel
theorem dX11_init_117 : decode cX11_init 117 = .ok (.iinc 6 1, 3) := by decide +kernel
theorem dX11_init_120 : decode cX11_init 120 = .ok (.goto (-24), 3) := by decide +kernel
theorem dX11_init_123 : decode cX11_init 123 = .ok (.new 28, 3) := by decide +kernel
theorem dX11_init_126 : decode cX11_init 126 = .ok (.dup, 1) := by decide +kernel
theorem dX11_init_127 : decode cX11_init 127 = .ok (.sipush 2048, 3) := by decide +kernel
theorem dX11_init_130 : decode cX11_init 130 = .ok (.invokespecial 30, 3) := by decide +kernel
theorem dX11_init_133 : decode cX11_init 133 = .ok (.astore 6, 2) := by decide +kernel
theorem dX11_init_135 : decode cX11_init 135 = .ok (.new 28, 3) := by decide +kernel
theorem dX11_init_138 : decode cX11_init 138 = .ok (.dup, 1) := by decide +kernel
theorem dX11_init_139 : decode cX11_init 139 = .ok (.sipush 2048, 3) := by decide +kernel
theorem dX11_init_142 : decode cX11_init 142 = .ok (.invokespecial 30, 3) := by decide +kernel
theorem dX11_init_145 : decode cX11_init 145 = .ok (.astore 7, 2) := by decide +kernel
theorem dX11_init_147 : decode cX11_init 147 = .ok (.aload_n 0, 1) := by decide +kernel
theorem dX11_init_148 : decode cX11_init 148 = .ok (.iload 5, 2) := by decide +kernel
theorem dX11_init_150 : decode cX11_init 150 = .ok (.anewarray 51, 3) := by decide +kernel
theorem dX11_init_153 : decode cX11_init 153 = .ok (.putfield 53, 3) := by decide +kernel
theorem dX11_init_156 : decode cX11_init 156 = .ok (.iconst 0, 1) := by decide +kernel
theorem dX11_init_157 : decode cX11_init 157 = .ok (.istore 8, 2) := by decide +kernel
theorem dX11_init_159 : decode cX11_init 159 = .ok (.iload 8, 2) := by decide +kernel
theorem dX11_init_161 : decode cX11_init 161 = .ok (.iload 5, 2) := by decide +kernel
theorem dX11_init_163 : decode cX11_init 163 = .ok (.if_icmp .ge 82, 3) := by decide +kernel
theorem dX11_init_166 : decode cX11_init 166 = .ok (.new 57, 3) := by decide +kernel
theorem dX11_init_169 : decode cX11_init 169 = .ok (.dup, 1) := by decide +kernel
theorem dX11_init_170 : decode cX11_init 170 = .ok (.aload_n 0, 1) := by decide +kernel
theorem dX11_init_171 : decode cX11_init 171 = .ok (.getfield 18, 3) := by decide +kernel
theorem dX11_init_174 : decode cX11_init 174 = .ok (.aload_n 0, 1) := by decide +kernel
theorem dX11_init_175 : decode cX11_init 175 = .ok (.getfield 22, 3) := by decide +kernel
theorem dX11_init_178 : decode cX11_init 178 = .ok (.invokespecial 59, 3) := by decide +kernel
theorem dX11_init_181 : decode cX11_init 181 = .ok (.astore 9, 2) := by decide +kernel
theorem dX11_init_183 : decode cX11_init 183 = .ok (.new 62, 3) := by decide +kernel
theorem dX11_init_186 : decode cX11_init 186 = .ok (.dup, 1) := by decide +kernel
theorem dX11_init_187 : decode cX11_init 187 = .ok (.aload 7, 2) := by decide +kernel
theorem dX11_init_189 : decode cX11_init 189 = .ok (.invokespecial 64, 3) := by decide +kernel
theorem dX11_init_192 : decode cX11_init 192 = .ok (.astore 10, 2) := by decide +kernel
theorem dX11_init_194 : decode cX11_init 194 = .ok (.new 51, 3) := by decide +kernel
theorem dX11_init_197 : decode cX11_init 197 = .ok (.dup, 1) := by decide +kernel
theorem dX11_init_198 : decode cX11_init 198 = .ok (.iload 8, 2) := by decide +kernel
theorem dX11_init_200 : decode cX11_init 200 = .ok (.iload 5, 2) := by decide +kernel
theorem dX11_init_202 : decode cX11_init 202 = .ok (.aload_n 0, 1) := by decide +kernel
theorem dX11_init_203 : decode cX11_init 203 = .ok (.getfield 25, 3) := by decide +kernel
theorem dX11_init_206 : decode cX11_init 206 = .ok (.aload 9, 2) := by decide +kernel
theorem dX11_init_208 : decode cX11_init 208 = .ok (.aload 10, 2) := by decide +kernel
theorem dX11_init_210 : decode cX11_init 210 = .ok (.invokespecial 67, 3) := by decide +kernel
theorem dX11_init_213 : decode cX11_init 213 = .ok (.astore 11, 2) := by decide +kernel
theorem dX11_init_215 : decode cX11_init 215 = .ok (.aload 11, 2) := by decide +kernel
theorem dX11_init_217 : decode cX11_init 217 = .ok (.aload_n 0, 1) := by decide +kernel
theorem dX11_init_218 : decode cX11_init 218 = .ok (.getfield 40, 3) := by decide +kernel
theorem dX11_init_221 : decode cX11_init 221 = .ok (.aload_n 0, 1) := by decide +kernel
theorem dX11_init_222 : decode cX11_init 222 = .ok (.getfield 46, 3) := by decide +kernel
theorem dX11_init_225 : decode cX11_init 225 = .ok (.aload 6, 2) := by decide +kernel
theorem dX11_init_227 : decode cX11_init 227 = .ok (.invokevirtual 70, 3) := by decide +kernel
theorem dX11_init_230 : decode cX11_init 230 = .ok (.aload_n 0, 1) := by decide +kernel
theorem dX11_init_231 : decode cX11_init 231 = .ok (.getfield 53, 3) := by decide +kernel
theorem dX11_init_234 : decode cX11_init 234 = .ok (.iload 8, 2) := by decide +kernel
theorem dX11_init_236 : decode cX11_init 236 = .ok (.aload 11, 2) := by decide +kernel
theorem dX11_init_238 : decode cX11_init 238 = .ok (.aastore, 1) := by decide +kernel
theorem dX11_init_239 : decode cX11_init 239 = .ok (.iinc 8 1, 3) := by decide +kernel
theorem dX11_init_242 : decode cX11_init 242 = .ok (.goto (-83), 3) := by decide +kernel
theorem dX11_init_245 : decode cX11_init 245 = .ok (.return_, 1) := by decide +kernel
theorem dX11_beginAt_0 : decode cX11_beginAt 0 = .ok (.aload_n 0, 1) := by decide +kernel
theorem dX11_beginAt_1 : decode cX11_beginAt 1 = .ok (.iload_n 1, 1) := by decide +kernel
theorem dX11_beginAt_2 : decode cX11_beginAt 2 = .ok (.invokevirtual 74, 3) := by decide +kernel
theorem dX11_beginAt_5 : decode cX11_beginAt 5 = .ok (.astore 4, 2) := by decide +kernel
theorem dX11_beginAt_7 : decode cX11_beginAt 7 = .ok (.aload_n 0, 1) := by decide +kernel
theorem dX11_beginAt_8 : decode cX11_beginAt 8 = .ok (.iload_n 2, 1) := by decide +kernel
theorem dX11_beginAt_9 : decode cX11_beginAt 9 = .ok (.invokevirtual 78, 3) := by decide +kernel
theorem dX11_beginAt_12 : decode cX11_beginAt 12 = .ok (.astore 5, 2) := by decide +kernel
theorem dX11_beginAt_14 : decode cX11_beginAt 14 = .ok (.aload 4, 2) := by decide +kernel
theorem dX11_beginAt_16 : decode cX11_beginAt 16 = .ok (.ifnull 26, 3) := by decide +kernel
theorem dX11_beginAt_19 : decode cX11_beginAt 19 = .ok (.aload 5, 2) := by decide +kernel
theorem dX11_beginAt_21 : decode cX11_beginAt 21 = .ok (.ifnull 21, 3) := by decide +kernel
theorem dX11_beginAt_24 : decode cX11_beginAt 24 = .ok (.aload 4, 2) := by decide +kernel
theorem dX11_beginAt_26 : decode cX11_beginAt 26 = .ok (.getfield 82, 3) := by decide +kernel
theorem dX11_beginAt_29 : decode cX11_beginAt 29 = .ok (.iconst 1, 1) := by decide +kernel
theorem dX11_beginAt_30 : decode cX11_beginAt 30 = .ok (.if_icmp .eq 12, 3) := by decide +kernel
theorem dX11_beginAt_33 : decode cX11_beginAt 33 = .ok (.aload 4, 2) := by decide +kernel
theorem dX11_beginAt_35 : decode cX11_beginAt 35 = .ok (.getfield 82, 3) := by decide +kernel
theorem dX11_beginAt_38 : decode cX11_beginAt 38 = .ok (.iconst 2, 1) := by decide +kernel
theorem dX11_beginAt_39 : decode cX11_beginAt 39 = .ok (.if_icmp .ne 5, 3) := by decide +kernel
theorem dX11_beginAt_42 : decode cX11_beginAt 42 = .ok (.iconst 0, 1) := by decide +kernel
theorem dX11_beginAt_43 : decode cX11_beginAt 43 = .ok (.ireturn, 1) := by decide +kernel
theorem dX11_beginAt_44 : decode cX11_beginAt 44 = .ok (.aload 4, 2) := by decide +kernel
theorem dX11_beginAt_46 : decode cX11_beginAt 46 = .ok (.iload_n 2, 1) := by decide +kernel
theorem dX11_beginAt_47 : decode cX11_beginAt 47 = .ok (.aload 5, 2) := by decide +kernel
theorem dX11_beginAt_49 : decode cX11_beginAt 49 = .ok (.getfield 85, 3) := by decide +kernel
theorem dX11_beginAt_52 : decode cX11_beginAt 52 = .ok (.getfield 89, 3) := by decide +kernel
theorem dX11_beginAt_55 : decode cX11_beginAt 55 = .ok (.iload_n 3, 1) := by decide +kernel
theorem dX11_beginAt_56 : decode cX11_beginAt 56 = .ok (.invokevirtual 92, 3) := by decide +kernel
theorem dX11_beginAt_59 : decode cX11_beginAt 59 = .ok (.iconst 1, 1) := by decide +kernel
theorem dX11_beginAt_60 : decode cX11_beginAt 60 = .ok (.ireturn, 1) := by decide +kernel
theorem dX11_readKey_0 : decode cX11_readKey 0 = .ok (.aload_n 0, 1) := by decide +kernel
theorem dX11_readKey_1 : decode cX11_readKey 1 = .ok (.iload_n 1, 1) := by decide +kernel
theorem dX11_readKey_2 : decode cX11_readKey 2 = .ok (.invokevirtual 74, 3) := by decide +kernel
theorem dX11_readKey_5 : decode cX11_readKey 5 = .ok (.astore_n 3, 1) := by decide +kernel
theorem dX11_readKey_6 : decode cX11_readKey 6 = .ok (.aload_n 3, 1) := by decide +kernel
theorem dX11_readKey_7 : decode cX11_readKey 7 = .ok (.ifnull 10, 3) := by decide +kernel
theorem dX11_readKey_10 : decode cX11_readKey 10 = .ok (.iload_n 2, 1) := by decide +kernel
theorem dX11_readKey_11 : decode cX11_readKey 11 = .ok (.invokestatic 96, 3) := by decide +kernel
theorem dX11_readKey_14 : decode cX11_readKey 14 = .ok (.ifCond .ne 11, 3) := by decide +kernel
theorem dX11_readKey_17 : decode cX11_readKey 17 = .ok (.new 100, 3) := by decide +kernel
theorem dX11_readKey_20 : decode cX11_readKey 20 = .ok (.dup, 1) := by decide +kernel
theorem dX11_readKey_21 : decode cX11_readKey 21 = .ok (.invokespecial 102, 3) := by decide +kernel
theorem dX11_readKey_24 : decode cX11_readKey 24 = .ok (.athrow, 1) := by decide +kernel
theorem dX11_readKey_25 : decode cX11_readKey 25 = .ok (.aload_n 3, 1) := by decide +kernel
theorem dX11_readKey_26 : decode cX11_readKey 26 = .ok (.getfield 82, 3) := by decide +kernel
theorem dX11_readKey_29 : decode cX11_readKey 29 = .ok (.iconst 1, 1) := by decide +kernel
theorem dX11_readKey_30 : decode cX11_readKey 30 = .ok (.if_icmp .eq 11, 3) := by decide +kernel
theorem dX11_readKey_33 : decode cX11_readKey 33 = .ok (.new 103, 3) := by decide +kernel
theorem dX11_readKey_36 : decode cX11_readKey 36 = .ok (.dup, 1) := by decide +kernel
theorem dX11_readKey_37 : decode cX11_readKey 37 = .ok (.invokespecial 105, 3) := by decide +kernel
theorem dX11_readKey_40 : decode cX11_readKey 40 = .ok (.athrow, 1) := by decide +kernel
theorem dX11_readKey_41 : decode cX11_readKey 41 = .ok (.aload_n 0, 1) := by decide +kernel
theorem dX11_readKey_42 : decode cX11_readKey 42 = .ok (.aload_n 3, 1) := by decide +kernel
theorem dX11_readKey_43 : decode cX11_readKey 43 = .ok (.getfield 106, 3) := by decide +kernel
theorem dX11_readKey_46 : decode cX11_readKey 46 = .ok (.invokevirtual 78, 3) := by decide +kernel
theorem dX11_readKey_49 : decode cX11_readKey 49 = .ok (.astore 4, 2) := by decide +kernel
theorem dX11_readKey_51 : decode cX11_readKey 51 = .ok (.aload 4, 2) := by decide +kernel
theorem dX11_readKey_53 : decode cX11_readKey 53 = .ok (.ifnull 18, 3) := by decide +kernel
theorem dX11_readKey_56 : decode cX11_readKey 56 = .ok (.aload_n 3, 1) := by decide +kernel
theorem dX11_readKey_57 : decode cX11_readKey 57 = .ok (.getfield 109, 3) := by decide +kernel
theorem dX11_readKey_60 : decode cX11_readKey 60 = .ok (.aload 4, 2) := by decide +kernel
theorem dX11_readKey_62 : decode cX11_readKey 62 = .ok (.getfield 85, 3) := by decide +kernel
theorem dX11_readKey_65 : decode cX11_readKey 65 = .ok (.getfield 112, 3) := by decide +kernel
theorem dX11_readKey_68 : decode cX11_readKey 68 = .ok (.if_icmp .ge 16, 3) := by decide +kernel
theorem dX11_readKey_71 : decode cX11_readKey 71 = .ok (.aload_n 3, 1) := by decide +kernel
theorem dX11_readKey_72 : decode cX11_readKey 72 = .ok (.iconst 4, 1) := by decide +kernel
theorem dX11_readKey_73 : decode cX11_readKey 73 = .ok (.invokevirtual 115, 3) := by decide +kernel
theorem dX11_readKey_76 : decode cX11_readKey 76 = .ok (.new 103, 3) := by decide +kernel
theorem dX11_readKey_79 : decode cX11_readKey 79 = .ok (.dup, 1) := by decide +kernel
theorem dX11_readKey_80 : decode cX11_readKey 80 = .ok (.invokespecial 105, 3) := by decide +kernel
theorem dX11_readKey_83 : decode cX11_readKey 83 = .ok (.athrow, 1) := by decide +kernel
theorem dX11_readKey_84 : decode cX11_readKey 84 = .ok (.aload_n 3, 1) := by decide +kernel
theorem dX11_readKey_85 : decode cX11_readKey 85 = .ok (.iload_n 2, 1) := by decide +kernel
theorem dX11_readKey_86 : decode cX11_readKey 86 = .ok (.aload 4, 2) := by decide +kernel
theorem dX11_readKey_88 : decode cX11_readKey 88 = .ok (.getfield 85, 3) := by decide +kernel
theorem dX11_readKey_91 : decode cX11_readKey 91 = .ok (.invokevirtual 118, 3) := by decide +kernel
theorem dX11_readKey_94 : decode cX11_readKey 94 = .ok (.ireturn, 1) := by decide +kernel
theorem dX11_writeKey_0 : decode cX11_writeKey 0 = .ok (.aload_n 0, 1) := by decide +kernel
theorem dX11_writeKey_1 : decode cX11_writeKey 1 = .ok (.iload_n 1, 1) := by decide +kernel
theorem dX11_writeKey_2 : decode cX11_writeKey 2 = .ok (.invokevirtual 74, 3) := by decide +kernel
theorem dX11_writeKey_5 : decode cX11_writeKey 5 = .ok (.astore 4, 2) := by decide +kernel
theorem dX11_writeKey_7 : decode cX11_writeKey 7 = .ok (.aload 4, 2) := by decide +kernel
theorem dX11_writeKey_9 : decode cX11_writeKey 9 = .ok (.ifnull 27, 3) := by decide +kernel
theorem dX11_writeKey_12 : decode cX11_writeKey 12 = .ok (.iload_n 2, 1) := by decide +kernel
theorem dX11_writeKey_13 : decode cX11_writeKey 13 = .ok (.invokestatic 96, 3) := by decide +kernel
theorem dX11_writeKey_16 : decode cX11_writeKey 16 = .ok (.ifCond .eq 20, 3) := by decide +kernel
theorem dX11_writeKey_19 : decode cX11_writeKey 19 = .ok (.aload 4, 2) := by decide +kernel
theorem dX11_writeKey_21 : decode cX11_writeKey 21 = .ok (.getfield 82, 3) := by decide +kernel
theorem dX11_writeKey_24 : decode cX11_writeKey 24 = .ok (.iconst 1, 1) := by decide +kernel
theorem dX11_writeKey_25 : decode cX11_writeKey 25 = .ok (.if_icmp .ne 11, 3) := by decide +kernel
theorem dX11_writeKey_28 : decode cX11_writeKey 28 = .ok (.aload 4, 2) := by decide +kernel
theorem dX11_writeKey_30 : decode cX11_writeKey 30 = .ok (.getfield 122, 3) := by decide +kernel
theorem dX11_writeKey_33 : decode cX11_writeKey 33 = .ok (.ifCond .eq 5, 3) := by decide +kernel
theorem dX11_writeKey_36 : decode cX11_writeKey 36 = .ok (.iconst 0, 1) := by decide +kernel
theorem dX11_writeKey_37 : decode cX11_writeKey 37 = .ok (.ireturn, 1) := by decide +kernel
theorem dX11_writeKey_38 : decode cX11_writeKey 38 = .ok (.aload 4, 2) := by decide +kernel
theorem dX11_writeKey_40 : decode cX11_writeKey 40 = .ok (.iload_n 2, 1) := by decide +kernel
theorem dX11_writeKey_41 : decode cX11_writeKey 41 = .ok (.iload_n 3, 1) := by decide +kernel
theorem dX11_writeKey_42 : decode cX11_writeKey 42 = .ok (.invokevirtual 126, 3) := by decide +kernel
theorem dX11_writeKey_45 : decode cX11_writeKey 45 = .ok (.iconst 1, 1) := by decide +kernel
theorem dX11_writeKey_46 : decode cX11_writeKey 46 = .ok (.ireturn, 1) := by decide +kernel
theorem dX11_commitIt_0 : decode cX11_commitIt 0 = .ok (.aload_n 0, 1) := by decide +kernel
theorem dX11_commitIt_1 : decode cX11_commitIt 1 = .ok (.iload_n 1, 1) := by decide +kernel
theorem dX11_commitIt_2 : decode cX11_commitIt 2 = .ok (.invokevirtual 74, 3) := by decide +kernel
theorem dX11_commitIt_5 : decode cX11_commitIt 5 = .ok (.astore_n 2, 1) := by decide +kernel
theorem dX11_commitIt_6 : decode cX11_commitIt 6 = .ok (.aload_n 2, 1) := by decide +kernel
theorem dX11_commitIt_7 : decode cX11_commitIt 7 = .ok (.ifnull 11, 3) := by decide +kernel
theorem dX11_commitIt_10 : decode cX11_commitIt 10 = .ok (.aload_n 2, 1) := by decide +kernel
theorem dX11_commitIt_11 : decode cX11_commitIt 11 = .ok (.getfield 82, 3) := by decide +kernel
theorem dX11_commitIt_14 : decode cX11_commitIt 14 = .ok (.iconst 1, 1) := by decide +kernel
theorem dX11_commitIt_15 : decode cX11_commitIt 15 = .ok (.if_icmp .eq 5, 3) := by decide +kernel
theorem dX11_commitIt_18 : decode cX11_commitIt 18 = .ok (.iconst (-1), 1) := by decide +kernel
theorem dX11_commitIt_19 : decode cX11_commitIt 19 = .ok (.ireturn, 1) := by decide +kernel
theorem dX11_commitIt_20 : decode cX11_commitIt 20 = .ok (.aload_n 2, 1) := by decide +kernel
theorem dX11_commitIt_21 : decode cX11_commitIt 21 = .ok (.getfield 129, 3) := by decide +kernel
theorem dX11_commitIt_24 : decode cX11_commitIt 24 = .ok (.ifCond .ne 13, 3) := by decide +kernel
theorem dX11_commitIt_27 : decode cX11_commitIt 27 = .ok (.aload_n 2, 1) := by decide +kernel
theorem dX11_commitIt_28 : decode cX11_commitIt 28 = .ok (.iconst 3, 1) := by decide +kernel
theorem dX11_commitIt_29 : decode cX11_commitIt 29 = .ok (.invokevirtual 115, 3) := by decide +kernel
theorem dX11_commitIt_32 : decode cX11_commitIt 32 = .ok (.aload_n 2, 1) := by decide +kernel
theorem dX11_commitIt_33 : decode cX11_commitIt 33 = .ok (.getfield 82, 3) := by decide +kernel
theorem dX11_commitIt_36 : decode cX11_commitIt 36 = .ok (.ireturn, 1) := by decide +kernel
theorem dX11_commitIt_37 : decode cX11_commitIt 37 = .ok (.aload_n 0, 1) := by decide +kernel
theorem dX11_commitIt_38 : decode cX11_commitIt 38 = .ok (.aload_n 2, 1) := by decide +kernel
theorem dX11_commitIt_39 : decode cX11_commitIt 39 = .ok (.getfield 106, 3) := by decide +kernel
theorem dX11_commitIt_42 : decode cX11_commitIt 42 = .ok (.invokevirtual 78, 3) := by decide +kernel
theorem dX11_commitIt_45 : decode cX11_commitIt 45 = .ok (.astore_n 3, 1) := by decide +kernel
theorem dX11_commitIt_46 : decode cX11_commitIt 46 = .ok (.aload_n 2, 1) := by decide +kernel
theorem dX11_commitIt_47 : decode cX11_commitIt 47 = .ok (.iload_n 1, 1) := by decide +kernel
theorem dX11_commitIt_48 : decode cX11_commitIt 48 = .ok (.invokevirtual 132, 3) := by decide +kernel
theorem dX11_commitIt_51 : decode cX11_commitIt 51 = .ok (.aload_n 3, 1) := by decide +kernel
theorem dX11_commitIt_52 : decode cX11_commitIt 52 = .ok (.ifnull 14, 3) := by decide +kernel
theorem dX11_commitIt_55 : decode cX11_commitIt 55 = .ok (.aload_n 3, 1) := by decide +kernel
theorem dX11_commitIt_56 : decode cX11_commitIt 56 = .ok (.getfield 135, 3) := by decide +kernel
theorem dX11_commitIt_59 : decode cX11_commitIt 59 = .ok (.aload_n 2, 1) := by decide +kernel
theorem dX11_commitIt_60 : decode cX11_commitIt 60 = .ok (.getfield 139, 3) := by decide +kernel
theorem dX11_commitIt_63 : decode cX11_commitIt 63 = .ok (.invokevirtual 143, 3) := by decide +kernel
theorem dX11_commitIt_66 : decode cX11_commitIt 66 = .ok (.aload_n 2, 1) := by decide +kernel
theorem dX11_commitIt_67 : decode cX11_commitIt 67 = .ok (.getfield 82, 3) := by decide +kernel
theorem dX11_commitIt_70 : decode cX11_commitIt 70 = .ok (.ireturn, 1) := by decide +kernel
theorem dX11_giveUp_0 : decode cX11_giveUp 0 = .ok (.aload_n 0, 1) := by decide +kernel
theorem dX11_giveUp_1 : decode cX11_giveUp 1 = .ok (.iload_n 1, 1) := by decide +kernel
theorem dX11_giveUp_2 : decode cX11_giveUp 2 = .ok (.invokevirtual 74, 3) := by decide +kernel
theorem dX11_giveUp_5 : decode cX11_giveUp 5 = .ok (.astore_n 2, 1) := by decide +kernel
theorem dX11_giveUp_6 : decode cX11_giveUp 6 = .ok (.aload_n 2, 1) := by decide +kernel
theorem dX11_giveUp_7 : decode cX11_giveUp 7 = .ok (.ifnull 11, 3) := by decide +kernel
theorem dX11_giveUp_10 : decode cX11_giveUp 10 = .ok (.aload_n 2, 1) := by decide +kernel
theorem dX11_giveUp_11 : decode cX11_giveUp 11 = .ok (.getfield 82, 3) := by decide +kernel
theorem dX11_giveUp_14 : decode cX11_giveUp 14 = .ok (.iconst 1, 1) := by decide +kernel
theorem dX11_giveUp_15 : decode cX11_giveUp 15 = .ok (.if_icmp .eq 5, 3) := by decide +kernel
theorem dX11_giveUp_18 : decode cX11_giveUp 18 = .ok (.iconst 0, 1) := by decide +kernel
theorem dX11_giveUp_19 : decode cX11_giveUp 19 = .ok (.ireturn, 1) := by decide +kernel
theorem dX11_giveUp_20 : decode cX11_giveUp 20 = .ok (.aload_n 2, 1) := by decide +kernel
theorem dX11_giveUp_21 : decode cX11_giveUp 21 = .ok (.iconst 4, 1) := by decide +kernel
theorem dX11_giveUp_22 : decode cX11_giveUp 22 = .ok (.invokevirtual 115, 3) := by decide +kernel
theorem dX11_giveUp_25 : decode cX11_giveUp 25 = .ok (.iconst 1, 1) := by decide +kernel
theorem dX11_giveUp_26 : decode cX11_giveUp 26 = .ok (.ireturn, 1) := by decide +kernel
theorem dX11_retryAt_0 : decode cX11_retryAt 0 = .ok (.aload_n 0, 1) := by decide +kernel
theorem dX11_retryAt_1 : decode cX11_retryAt 1 = .ok (.iload_n 1, 1) := by decide +kernel
theorem dX11_retryAt_2 : decode cX11_retryAt 2 = .ok (.invokevirtual 74, 3) := by decide +kernel
theorem dX11_retryAt_5 : decode cX11_retryAt 5 = .ok (.astore_n 3, 1) := by decide +kernel
theorem dX11_retryAt_6 : decode cX11_retryAt 6 = .ok (.aload_n 0, 1) := by decide +kernel
theorem dX11_retryAt_7 : decode cX11_retryAt 7 = .ok (.iload_n 2, 1) := by decide +kernel
theorem dX11_retryAt_8 : decode cX11_retryAt 8 = .ok (.invokevirtual 78, 3) := by decide +kernel
theorem dX11_retryAt_11 : decode cX11_retryAt 11 = .ok (.astore 4, 2) := by decide +kernel
theorem dX11_retryAt_13 : decode cX11_retryAt 13 = .ok (.aload_n 3, 1) := by decide +kernel
theorem dX11_retryAt_14 : decode cX11_retryAt 14 = .ok (.ifnull 16, 3) := by decide +kernel
theorem dX11_retryAt_17 : decode cX11_retryAt 17 = .ok (.aload 4, 2) := by decide +kernel
theorem dX11_retryAt_19 : decode cX11_retryAt 19 = .ok (.ifnull 11, 3) := by decide +kernel
theorem dX11_retryAt_22 : decode cX11_retryAt 22 = .ok (.aload_n 3, 1) := by decide +kernel
theorem dX11_retryAt_23 : decode cX11_retryAt 23 = .ok (.getfield 82, 3) := by decide +kernel
theorem dX11_retryAt_26 : decode cX11_retryAt 26 = .ok (.iconst 2, 1) := by decide +kernel
theorem dX11_retryAt_27 : decode cX11_retryAt 27 = .ok (.if_icmp .eq 5, 3) := by decide +kernel
theorem dX11_retryAt_30 : decode cX11_retryAt 30 = .ok (.iconst (-1), 1) := by decide +kernel
theorem dX11_retryAt_31 : decode cX11_retryAt 31 = .ok (.ireturn, 1) := by decide +kernel
theorem dX11_retryAt_32 : decode cX11_retryAt 32 = .ok (.aload_n 3, 1) := by decide +kernel
theorem dX11_retryAt_33 : decode cX11_retryAt 33 = .ok (.iload_n 2, 1) := by decide +kernel
theorem dX11_retryAt_34 : decode cX11_retryAt 34 = .ok (.putfield 106, 3) := by decide +kernel
theorem dX11_retryAt_37 : decode cX11_retryAt 37 = .ok (.aload 4, 2) := by decide +kernel
theorem dX11_retryAt_39 : decode cX11_retryAt 39 = .ok (.getfield 85, 3) := by decide +kernel
theorem dX11_retryAt_42 : decode cX11_retryAt 42 = .ok (.getfield 149, 3) := by decide +kernel
theorem dX11_retryAt_45 : decode cX11_retryAt 45 = .ok (.iload_n 1, 1) := by decide +kernel
theorem dX11_retryAt_46 : decode cX11_retryAt 46 = .ok (.iaload, 1) := by decide +kernel
theorem dX11_retryAt_47 : decode cX11_retryAt 47 = .ok (.aload_n 3, 1) := by decide +kernel
theorem dX11_retryAt_48 : decode cX11_retryAt 48 = .ok (.getfield 153, 3) := by decide +kernel
theorem dX11_retryAt_51 : decode cX11_retryAt 51 = .ok (.if_icmp .ne 20, 3) := by decide +kernel
theorem dX11_retryAt_54 : decode cX11_retryAt 54 = .ok (.aload_n 3, 1) := by decide +kernel
theorem dX11_retryAt_55 : decode cX11_retryAt 55 = .ok (.aload 4, 2) := by decide +kernel
theorem dX11_retryAt_57 : decode cX11_retryAt 57 = .ok (.getfield 85, 3) := by decide +kernel
theorem dX11_retryAt_60 : decode cX11_retryAt 60 = .ok (.getfield 156, 3) := by decide +kernel
theorem dX11_retryAt_63 : decode cX11_retryAt 63 = .ok (.iload_n 1, 1) := by decide +kernel
theorem dX11_retryAt_64 : decode cX11_retryAt 64 = .ok (.iaload, 1) := by decide +kernel
theorem dX11_retryAt_65 : decode cX11_retryAt 65 = .ok (.invokevirtual 159, 3) := by decide +kernel
theorem dX11_retryAt_68 : decode cX11_retryAt 68 = .ok (.goto 15, 3) := by decide +kernel
theorem dX11_retryAt_71 : decode cX11_retryAt 71 = .ok (.aload 4, 2) := by decide +kernel
theorem dX11_retryAt_73 : decode cX11_retryAt 73 = .ok (.getfield 135, 3) := by decide +kernel
theorem dX11_retryAt_76 : decode cX11_retryAt 76 = .ok (.aload_n 3, 1) := by decide +kernel
theorem dX11_retryAt_77 : decode cX11_retryAt 77 = .ok (.getfield 139, 3) := by decide +kernel
theorem dX11_retryAt_80 : decode cX11_retryAt 80 = .ok (.invokevirtual 143, 3) := by decide +kernel
theorem dX11_retryAt_83 : decode cX11_retryAt 83 = .ok (.aload_n 3, 1) := by decide +kernel
theorem dX11_retryAt_84 : decode cX11_retryAt 84 = .ok (.getfield 82, 3) := by decide +kernel
theorem dX11_retryAt_87 : decode cX11_retryAt 87 = .ok (.ireturn, 1) := by decide +kernel
theorem dX11_tickOf_0 : decode cX11_tickOf 0 = .ok (.aload_n 0, 1) := by decide +kernel
theorem dX11_tickOf_1 : decode cX11_tickOf 1 = .ok (.iload_n 1, 1) := by decide +kernel
theorem dX11_tickOf_2 : decode cX11_tickOf 2 = .ok (.invokevirtual 78, 3) := by decide +kernel
theorem dX11_tickOf_5 : decode cX11_tickOf 5 = .ok (.astore_n 2, 1) := by decide +kernel
theorem dX11_tickOf_6 : decode cX11_tickOf 6 = .ok (.aload_n 2, 1) := by decide +kernel
theorem dX11_tickOf_7 : decode cX11_tickOf 7 = .ok (.ifnonnull 5, 3) := by decide +kernel
theorem dX11_tickOf_10 : decode cX11_tickOf 10 = .ok (.iconst (-1), 1) := by decide +kernel
theorem dX11_tickOf_11 : decode cX11_tickOf 11 = .ok (.ireturn, 1) := by decide +kernel
theorem dX11_tickOf_12 : decode cX11_tickOf 12 = .ok (.aload_n 2, 1) := by decide +kernel
theorem dX11_tickOf_13 : decode cX11_tickOf 13 = .ok (.invokevirtual 162, 3) := by decide +kernel
theorem dX11_tickOf_16 : decode cX11_tickOf 16 = .ok (.aload_n 0, 1) := by decide +kernel
theorem dX11_tickOf_17 : decode cX11_tickOf 17 = .ok (.getfield 40, 3) := by decide +kernel
theorem dX11_tickOf_20 : decode cX11_tickOf 20 = .ok (.getfield 165, 3) := by decide +kernel
theorem dX11_tickOf_23 : decode cX11_tickOf 23 = .ok (.ireturn, 1) := by decide +kernel
theorem dX11_deliverAt_0 : decode cX11_deliverAt 0 = .ok (.aload_n 0, 1) := by decide +kernel
theorem dX11_deliverAt_1 : decode cX11_deliverAt 1 = .ok (.getfield 40, 3) := by decide +kernel
theorem dX11_deliverAt_4 : decode cX11_deliverAt 4 = .ok (.iload_n 1, 1) := by decide +kernel
theorem dX11_deliverAt_5 : decode cX11_deliverAt 5 = .ok (.invokevirtual 168, 3) := by decide +kernel
theorem dX11_deliverAt_8 : decode cX11_deliverAt 8 = .ok (.astore_n 2, 1) := by decide +kernel
theorem dX11_deliverAt_9 : decode cX11_deliverAt 9 = .ok (.aload_n 2, 1) := by decide +kernel
theorem dX11_deliverAt_10 : decode cX11_deliverAt 10 = .ok (.ifnonnull 5, 3) := by decide +kernel
theorem dX11_deliverAt_13 : decode cX11_deliverAt 13 = .ok (.iconst (-1), 1) := by decide +kernel
theorem dX11_deliverAt_14 : decode cX11_deliverAt 14 = .ok (.ireturn, 1) := by decide +kernel
theorem dX11_deliverAt_15 : decode cX11_deliverAt 15 = .ok (.aload_n 2, 1) := by decide +kernel
theorem dX11_deliverAt_16 : decode cX11_deliverAt 16 = .ok (.invokevirtual 172, 3) := by decide +kernel
theorem dX11_deliverAt_19 : decode cX11_deliverAt 19 = .ok (.ifCond .eq 18, 3) := by decide +kernel
theorem dX11_deliverAt_22 : decode cX11_deliverAt 22 = .ok (.aload_n 0, 1) := by decide +kernel
theorem dX11_deliverAt_23 : decode cX11_deliverAt 23 = .ok (.getfield 40, 3) := by decide +kernel
theorem dX11_deliverAt_26 : decode cX11_deliverAt 26 = .ok (.dup, 1) := by decide +kernel
theorem dX11_deliverAt_27 : decode cX11_deliverAt 27 = .ok (.getfield 178, 3) := by decide +kernel
theorem dX11_deliverAt_30 : decode cX11_deliverAt 30 = .ok (.iconst 1, 1) := by decide +kernel
theorem dX11_deliverAt_31 : decode cX11_deliverAt 31 = .ok (.iadd, 1) := by decide +kernel
theorem dX11_deliverAt_32 : decode cX11_deliverAt 32 = .ok (.putfield 178, 3) := by decide +kernel
theorem dX11_deliverAt_35 : decode cX11_deliverAt 35 = .ok (.iconst 0, 1) := by decide +kernel
theorem dX11_deliverAt_36 : decode cX11_deliverAt 36 = .ok (.ireturn, 1) := by decide +kernel
theorem dX11_deliverAt_37 : decode cX11_deliverAt 37 = .ok (.aload_n 2, 1) := by decide +kernel
theorem dX11_deliverAt_38 : decode cX11_deliverAt 38 = .ok (.getfield 181, 3) := by decide +kernel
theorem dX11_deliverAt_41 : decode cX11_deliverAt 41 = .ok (.istore_n 3, 1) := by decide +kernel
theorem dX11_deliverAt_42 : decode cX11_deliverAt 42 = .ok (.aload_n 0, 1) := by decide +kernel
theorem dX11_deliverAt_43 : decode cX11_deliverAt 43 = .ok (.aload_n 2, 1) := by decide +kernel
theorem dX11_deliverAt_44 : decode cX11_deliverAt 44 = .ok (.getfield 184, 3) := by decide +kernel
theorem dX11_deliverAt_47 : decode cX11_deliverAt 47 = .ok (.invokevirtual 78, 3) := by decide +kernel
theorem dX11_deliverAt_50 : decode cX11_deliverAt 50 = .ok (.astore 4, 2) := by decide +kernel
theorem dX11_deliverAt_52 : decode cX11_deliverAt 52 = .ok (.aload 4, 2) := by decide +kernel
theorem dX11_deliverAt_54 : decode cX11_deliverAt 54 = .ok (.ifnull 9, 3) := by decide +kernel
theorem dX11_deliverAt_57 : decode cX11_deliverAt 57 = .ok (.aload 4, 2) := by decide +kernel
theorem dX11_deliverAt_59 : decode cX11_deliverAt 59 = .ok (.aload_n 2, 1) := by decide +kernel
theorem dX11_deliverAt_60 : decode cX11_deliverAt 60 = .ok (.invokevirtual 187, 3) := by decide +kernel
theorem dX11_deliverAt_63 : decode cX11_deliverAt 63 = .ok (.iload_n 3, 1) := by decide +kernel
theorem dX11_deliverAt_64 : decode cX11_deliverAt 64 = .ok (.ireturn, 1) := by decide +kernel
theorem dX11_loseAt_0 : decode cX11_loseAt 0 = .ok (.aload_n 0, 1) := by decide +kernel
theorem dX11_loseAt_1 : decode cX11_loseAt 1 = .ok (.getfield 40, 3) := by decide +kernel
theorem dX11_loseAt_4 : decode cX11_loseAt 4 = .ok (.iload_n 1, 1) := by decide +kernel
theorem dX11_loseAt_5 : decode cX11_loseAt 5 = .ok (.invokevirtual 168, 3) := by decide +kernel
theorem dX11_loseAt_8 : decode cX11_loseAt 8 = .ok (.ifnull 7, 3) := by decide +kernel
theorem dX11_loseAt_11 : decode cX11_loseAt 11 = .ok (.iconst 1, 1) := by decide +kernel
theorem dX11_loseAt_12 : decode cX11_loseAt 12 = .ok (.goto 4, 3) := by decide +kernel
theorem dX11_loseAt_15 : decode cX11_loseAt 15 = .ok (.iconst 0, 1) := by decide +kernel
theorem dX11_loseAt_16 : decode cX11_loseAt 16 = .ok (.ireturn, 1) := by decide +kernel
theorem dX11_doubleAt_0 : decode cX11_doubleAt 0 = .ok (.aload_n 0, 1) := by decide +kernel
theorem dX11_doubleAt_1 : decode cX11_doubleAt 1 = .ok (.getfield 40, 3) := by decide +kernel
theorem dX11_doubleAt_4 : decode cX11_doubleAt 4 = .ok (.iload_n 1, 1) := by decide +kernel
theorem dX11_doubleAt_5 : decode cX11_doubleAt 5 = .ok (.invokevirtual 191, 3) := by decide +kernel
theorem dX11_doubleAt_8 : decode cX11_doubleAt 8 = .ok (.astore_n 2, 1) := by decide +kernel
theorem dX11_doubleAt_9 : decode cX11_doubleAt 9 = .ok (.aload_n 2, 1) := by decide +kernel
theorem dX11_doubleAt_10 : decode cX11_doubleAt 10 = .ok (.ifnull 16, 3) := by decide +kernel
theorem dX11_doubleAt_13 : decode cX11_doubleAt 13 = .ok (.aload_n 0, 1) := by decide +kernel
theorem dX11_doubleAt_14 : decode cX11_doubleAt 14 = .ok (.getfield 40, 3) := by decide +kernel
theorem dX11_doubleAt_17 : decode cX11_doubleAt 17 = .ok (.getfield 165, 3) := by decide +kernel
theorem dX11_doubleAt_20 : decode cX11_doubleAt 20 = .ok (.sipush 200, 3) := by decide +kernel
theorem dX11_doubleAt_23 : decode cX11_doubleAt 23 = .ok (.if_icmp .lt 5, 3) := by decide +kernel
theorem dX11_doubleAt_26 : decode cX11_doubleAt 26 = .ok (.iconst 0, 1) := by decide +kernel
theorem dX11_doubleAt_27 : decode cX11_doubleAt 27 = .ok (.ireturn, 1) := by decide +kernel
theorem dX11_doubleAt_28 : decode cX11_doubleAt 28 = .ok (.aload_n 0, 1) := by decide +kernel
theorem dX11_doubleAt_29 : decode cX11_doubleAt 29 = .ok (.getfield 40, 3) := by decide +kernel
theorem dX11_doubleAt_32 : decode cX11_doubleAt 32 = .ok (.aload_n 2, 1) := by decide +kernel
theorem dX11_doubleAt_33 : decode cX11_doubleAt 33 = .ok (.invokevirtual 194, 3) := by decide +kernel
theorem dX11_doubleAt_36 : decode cX11_doubleAt 36 = .ok (.iconst 1, 1) := by decide +kernel
theorem dX11_doubleAt_37 : decode cX11_doubleAt 37 = .ok (.ireturn, 1) := by decide +kernel
theorem dX11_spoilAt_0 : decode cX11_spoilAt 0 = .ok (.aload_n 0, 1) := by decide +kernel
theorem dX11_spoilAt_1 : decode cX11_spoilAt 1 = .ok (.getfield 40, 3) := by decide +kernel
theorem dX11_spoilAt_4 : decode cX11_spoilAt 4 = .ok (.iload_n 1, 1) := by decide +kernel
theorem dX11_spoilAt_5 : decode cX11_spoilAt 5 = .ok (.invokevirtual 191, 3) := by decide +kernel
theorem dX11_spoilAt_8 : decode cX11_spoilAt 8 = .ok (.astore 4, 2) := by decide +kernel
theorem dX11_spoilAt_10 : decode cX11_spoilAt 10 = .ok (.aload 4, 2) := by decide +kernel
theorem dX11_spoilAt_12 : decode cX11_spoilAt 12 = .ok (.ifnull 25, 3) := by decide +kernel
theorem dX11_spoilAt_15 : decode cX11_spoilAt 15 = .ok (.aload 4, 2) := by decide +kernel
theorem dX11_spoilAt_17 : decode cX11_spoilAt 17 = .ok (.invokevirtual 172, 3) := by decide +kernel
theorem dX11_spoilAt_20 : decode cX11_spoilAt 20 = .ok (.ifCond .ne 17, 3) := by decide +kernel
theorem dX11_spoilAt_23 : decode cX11_spoilAt 23 = .ok (.iload_n 2, 1) := by decide +kernel
theorem dX11_spoilAt_24 : decode cX11_spoilAt 24 = .ok (.ifCond .lt 13, 3) := by decide +kernel
theorem dX11_spoilAt_27 : decode cX11_spoilAt 27 = .ok (.iload_n 3, 1) := by decide +kernel
theorem dX11_spoilAt_28 : decode cX11_spoilAt 28 = .ok (.ifCond .lt 9, 3) := by decide +kernel
theorem dX11_spoilAt_31 : decode cX11_spoilAt 31 = .ok (.iload_n 3, 1) := by decide +kernel
theorem dX11_spoilAt_32 : decode cX11_spoilAt 32 = .ok (.bipush 7, 2) := by decide +kernel
theorem dX11_spoilAt_34 : decode cX11_spoilAt 34 = .ok (.if_icmp .le 5, 3) := by decide +kernel
theorem dX11_spoilAt_37 : decode cX11_spoilAt 37 = .ok (.iconst 0, 1) := by decide +kernel
theorem dX11_spoilAt_38 : decode cX11_spoilAt 38 = .ok (.ireturn, 1) := by decide +kernel
theorem dX11_spoilAt_39 : decode cX11_spoilAt 39 = .ok (.aload 4, 2) := by decide +kernel
theorem dX11_spoilAt_41 : decode cX11_spoilAt 41 = .ok (.aload_n 0, 1) := by decide +kernel
theorem dX11_spoilAt_42 : decode cX11_spoilAt 42 = .ok (.getfield 33, 3) := by decide +kernel
theorem dX11_spoilAt_45 : decode cX11_spoilAt 45 = .ok (.invokevirtual 197, 3) := by decide +kernel
theorem dX11_spoilAt_48 : decode cX11_spoilAt 48 = .ok (.iload_n 2, 1) := by decide +kernel
theorem dX11_spoilAt_49 : decode cX11_spoilAt 49 = .ok (.aload_n 0, 1) := by decide +kernel
theorem dX11_spoilAt_50 : decode cX11_spoilAt 50 = .ok (.getfield 33, 3) := by decide +kernel
theorem dX11_spoilAt_53 : decode cX11_spoilAt 53 = .ok (.getfield 200, 3) := by decide +kernel
theorem dX11_spoilAt_56 : decode cX11_spoilAt 56 = .ok (.if_icmp .lt 5, 3) := by decide +kernel
theorem dX11_spoilAt_59 : decode cX11_spoilAt 59 = .ok (.iconst 0, 1) := by decide +kernel
theorem dX11_spoilAt_60 : decode cX11_spoilAt 60 = .ok (.ireturn, 1) := by decide +kernel
theorem dX11_spoilAt_61 : decode cX11_spoilAt 61 = .ok (.aload 4, 2) := by decide +kernel
theorem dX11_spoilAt_63 : decode cX11_spoilAt 63 = .ok (.iload_n 2, 1) := by decide +kernel
theorem dX11_spoilAt_64 : decode cX11_spoilAt 64 = .ok (.putfield 203, 3) := by decide +kernel
theorem dX11_spoilAt_67 : decode cX11_spoilAt 67 = .ok (.aload 4, 2) := by decide +kernel
theorem dX11_spoilAt_69 : decode cX11_spoilAt 69 = .ok (.iload_n 3, 1) := by decide +kernel
theorem dX11_spoilAt_70 : decode cX11_spoilAt 70 = .ok (.putfield 206, 3) := by decide +kernel
theorem dX11_spoilAt_73 : decode cX11_spoilAt 73 = .ok (.iconst 1, 1) := by decide +kernel
theorem dX11_spoilAt_74 : decode cX11_spoilAt 74 = .ok (.ireturn, 1) := by decide +kernel
theorem dX11_turnTo_0 : decode cX11_turnTo 0 = .ok (.aload_n 0, 1) := by decide +kernel
theorem dX11_turnTo_1 : decode cX11_turnTo 1 = .ok (.iload_n 1, 1) := by decide +kernel
theorem dX11_turnTo_2 : decode cX11_turnTo 2 = .ok (.invokevirtual 209, 3) := by decide +kernel
theorem dX11_turnTo_5 : decode cX11_turnTo 5 = .ok (.astore_n 3, 1) := by decide +kernel
theorem dX11_turnTo_6 : decode cX11_turnTo 6 = .ok (.aload_n 3, 1) := by decide +kernel
theorem dX11_turnTo_7 : decode cX11_turnTo 7 = .ok (.ifnull 11, 3) := by decide +kernel
theorem dX11_turnTo_10 : decode cX11_turnTo 10 = .ok (.aload_n 3, 1) := by decide +kernel
theorem dX11_turnTo_11 : decode cX11_turnTo 11 = .ok (.getfield 212, 3) := by decide +kernel
theorem dX11_turnTo_14 : decode cX11_turnTo 14 = .ok (.iload_n 2, 1) := by decide +kernel
theorem dX11_turnTo_15 : decode cX11_turnTo 15 = .ok (.if_icmp .ne 5, 3) := by decide +kernel
theorem dX11_turnTo_18 : decode cX11_turnTo 18 = .ok (.iconst 0, 1) := by decide +kernel
theorem dX11_turnTo_19 : decode cX11_turnTo 19 = .ok (.ireturn, 1) := by decide +kernel
theorem dX11_turnTo_20 : decode cX11_turnTo 20 = .ok (.iload_n 2, 1) := by decide +kernel
theorem dX11_turnTo_21 : decode cX11_turnTo 21 = .ok (.ifCond .eq 10, 3) := by decide +kernel
theorem dX11_turnTo_24 : decode cX11_turnTo 24 = .ok (.aload_n 3, 1) := by decide +kernel
theorem dX11_turnTo_25 : decode cX11_turnTo 25 = .ok (.invokevirtual 215, 3) := by decide +kernel
theorem dX11_turnTo_28 : decode cX11_turnTo 28 = .ok (.goto 7, 3) := by decide +kernel
theorem dX11_turnTo_31 : decode cX11_turnTo 31 = .ok (.aload_n 3, 1) := by decide +kernel
theorem dX11_turnTo_32 : decode cX11_turnTo 32 = .ok (.invokevirtual 218, 3) := by decide +kernel
theorem dX11_turnTo_35 : decode cX11_turnTo 35 = .ok (.iconst 1, 1) := by decide +kernel
theorem dX11_turnTo_36 : decode cX11_turnTo 36 = .ok (.ireturn, 1) := by decide +kernel
theorem dX11_crashAfter_0 : decode cX11_crashAfter 0 = .ok (.aload_n 0, 1) := by decide +kernel
theorem dX11_crashAfter_1 : decode cX11_crashAfter 1 = .ok (.iload_n 1, 1) := by decide +kernel
theorem dX11_crashAfter_2 : decode cX11_crashAfter 2 = .ok (.invokevirtual 78, 3) := by decide +kernel
theorem dX11_crashAfter_5 : decode cX11_crashAfter 5 = .ok (.astore_n 3, 1) := by decide +kernel
theorem dX11_crashAfter_6 : decode cX11_crashAfter 6 = .ok (.aload_n 3, 1) := by decide +kernel
theorem dX11_crashAfter_7 : decode cX11_crashAfter 7 = .ok (.ifnull 10, 3) := by decide +kernel
theorem dX11_crashAfter_10 : decode cX11_crashAfter 10 = .ok (.iload_n 2, 1) := by decide +kernel
theorem dX11_crashAfter_11 : decode cX11_crashAfter 11 = .ok (.sipush 1000, 3) := by decide +kernel
theorem dX11_crashAfter_14 : decode cX11_crashAfter 14 = .ok (.if_icmp .le 5, 3) := by decide +kernel
theorem dX11_crashAfter_17 : decode cX11_crashAfter 17 = .ok (.iconst 0, 1) := by decide +kernel
theorem dX11_crashAfter_18 : decode cX11_crashAfter 18 = .ok (.ireturn, 1) := by decide +kernel
theorem dX11_crashAfter_19 : decode cX11_crashAfter 19 = .ok (.aload_n 3, 1) := by decide +kernel
theorem dX11_crashAfter_20 : decode cX11_crashAfter 20 = .ok (.getfield 221, 3) := by decide +kernel
theorem dX11_crashAfter_23 : decode cX11_crashAfter 23 = .ok (.iload_n 2, 1) := by decide +kernel
theorem dX11_crashAfter_24 : decode cX11_crashAfter 24 = .ok (.ifCond .ge 7, 3) := by decide +kernel
theorem dX11_crashAfter_27 : decode cX11_crashAfter 27 = .ok (.iconst (-1), 1) := by decide +kernel
theorem dX11_crashAfter_28 : decode cX11_crashAfter 28 = .ok (.goto 4, 3) := by decide +kernel
theorem dX11_crashAfter_31 : decode cX11_crashAfter 31 = .ok (.iload_n 2, 1) := by decide +kernel
theorem dX11_crashAfter_32 : decode cX11_crashAfter 32 = .ok (.putfield 225, 3) := by decide +kernel
theorem dX11_crashAfter_35 : decode cX11_crashAfter 35 = .ok (.iconst 1, 1) := by decide +kernel
theorem dX11_crashAfter_36 : decode cX11_crashAfter 36 = .ok (.ireturn, 1) := by decide +kernel
theorem dX11_replicaOf_0 : decode cX11_replicaOf 0 = .ok (.aload_n 0, 1) := by decide +kernel
theorem dX11_replicaOf_1 : decode cX11_replicaOf 1 = .ok (.iload_n 1, 1) := by decide +kernel
theorem dX11_replicaOf_2 : decode cX11_replicaOf 2 = .ok (.invokevirtual 209, 3) := by decide +kernel
theorem dX11_replicaOf_5 : decode cX11_replicaOf 5 = .ok (.astore_n 3, 1) := by decide +kernel
theorem dX11_replicaOf_6 : decode cX11_replicaOf 6 = .ok (.aload_n 3, 1) := by decide +kernel
theorem dX11_replicaOf_7 : decode cX11_replicaOf 7 = .ok (.ifnonnull 5, 3) := by decide +kernel
theorem dX11_replicaOf_10 : decode cX11_replicaOf 10 = .ok (.iconst (-1), 1) := by decide +kernel
theorem dX11_replicaOf_11 : decode cX11_replicaOf 11 = .ok (.ireturn, 1) := by decide +kernel
theorem dX11_replicaOf_12 : decode cX11_replicaOf 12 = .ok (.iload_n 2, 1) := by decide +kernel
theorem dX11_replicaOf_13 : decode cX11_replicaOf 13 = .ok (.ifCond .ne 16, 3) := by decide +kernel
theorem dX11_replicaOf_16 : decode cX11_replicaOf 16 = .ok (.aload_n 3, 1) := by decide +kernel
theorem dX11_replicaOf_17 : decode cX11_replicaOf 17 = .ok (.getfield 212, 3) := by decide +kernel
theorem dX11_replicaOf_20 : decode cX11_replicaOf 20 = .ok (.ifCond .eq 7, 3) := by decide +kernel
theorem dX11_replicaOf_23 : decode cX11_replicaOf 23 = .ok (.iconst 1, 1) := by decide +kernel
theorem dX11_replicaOf_24 : decode cX11_replicaOf 24 = .ok (.goto 4, 3) := by decide +kernel
theorem dX11_replicaOf_27 : decode cX11_replicaOf 27 = .ok (.iconst 0, 1) := by decide +kernel
theorem dX11_replicaOf_28 : decode cX11_replicaOf 28 = .ok (.ireturn, 1) := by decide +kernel
theorem dX11_replicaOf_29 : decode cX11_replicaOf 29 = .ok (.aload_n 3, 1) := by decide +kernel
theorem dX11_replicaOf_30 : decode cX11_replicaOf 30 = .ok (.getfield 212, 3) := by decide +kernel
theorem dX11_replicaOf_33 : decode cX11_replicaOf 33 = .ok (.ifCond .eq 11, 3) := by decide +kernel
theorem dX11_replicaOf_36 : decode cX11_replicaOf 36 = .ok (.aload_n 3, 1) := by decide +kernel
theorem dX11_replicaOf_37 : decode cX11_replicaOf 37 = .ok (.iload_n 2, 1) := by decide +kernel
theorem dX11_replicaOf_38 : decode cX11_replicaOf 38 = .ok (.invokevirtual 228, 3) := by decide +kernel
theorem dX11_replicaOf_41 : decode cX11_replicaOf 41 = .ok (.goto 4, 3) := by decide +kernel
theorem dX11_replicaOf_44 : decode cX11_replicaOf 44 = .ok (.iconst (-1), 1) := by decide +kernel
theorem dX11_replicaOf_45 : decode cX11_replicaOf 45 = .ok (.ireturn, 1) := by decide +kernel
theorem dX11_journalOf_0 : decode cX11_journalOf 0 = .ok (.aload_n 0, 1) := by decide +kernel
theorem dX11_journalOf_1 : decode cX11_journalOf 1 = .ok (.iload_n 1, 1) := by decide +kernel
theorem dX11_journalOf_2 : decode cX11_journalOf 2 = .ok (.invokevirtual 209, 3) := by decide +kernel
theorem dX11_journalOf_5 : decode cX11_journalOf 5 = .ok (.astore_n 3, 1) := by decide +kernel
theorem dX11_journalOf_6 : decode cX11_journalOf 6 = .ok (.aload_n 3, 1) := by decide +kernel
theorem dX11_journalOf_7 : decode cX11_journalOf 7 = .ok (.ifnull 15, 3) := by decide +kernel
theorem dX11_journalOf_10 : decode cX11_journalOf 10 = .ok (.aload_n 3, 1) := by decide +kernel
theorem dX11_journalOf_11 : decode cX11_journalOf 11 = .ok (.getfield 212, 3) := by decide +kernel
theorem dX11_journalOf_14 : decode cX11_journalOf 14 = .ok (.ifCond .ne 10, 3) := by decide +kernel
theorem dX11_journalOf_17 : decode cX11_journalOf 17 = .ok (.iload_n 2, 1) := by decide +kernel
theorem dX11_journalOf_18 : decode cX11_journalOf 18 = .ok (.iconst 4, 1) := by decide +kernel
theorem dX11_journalOf_19 : decode cX11_journalOf 19 = .ok (.if_icmp .ge 5, 3) := by decide +kernel
theorem dX11_journalOf_22 : decode cX11_journalOf 22 = .ok (.iconst (-1), 1) := by decide +kernel
theorem dX11_journalOf_23 : decode cX11_journalOf 23 = .ok (.ireturn, 1) := by decide +kernel
theorem dX11_journalOf_24 : decode cX11_journalOf 24 = .ok (.aload_n 3, 1) := by decide +kernel
theorem dX11_journalOf_25 : decode cX11_journalOf 25 = .ok (.getfield 221, 3) := by decide +kernel
theorem dX11_journalOf_28 : decode cX11_journalOf 28 = .ok (.iload_n 2, 1) := by decide +kernel
theorem dX11_journalOf_29 : decode cX11_journalOf 29 = .ok (.invokevirtual 232, 3) := by decide +kernel
theorem dX11_journalOf_32 : decode cX11_journalOf 32 = .ok (.ireturn, 1) := by decide +kernel
theorem dX11_blockOf_0 : decode cX11_blockOf 0 = .ok (.aload_n 0, 1) := by decide +kernel
theorem dX11_blockOf_1 : decode cX11_blockOf 1 = .ok (.iload_n 1, 1) := by decide +kernel
theorem dX11_blockOf_2 : decode cX11_blockOf 2 = .ok (.invokevirtual 209, 3) := by decide +kernel
theorem dX11_blockOf_5 : decode cX11_blockOf 5 = .ok (.astore 4, 2) := by decide +kernel
theorem dX11_blockOf_7 : decode cX11_blockOf 7 = .ok (.aload 4, 2) := by decide +kernel
theorem dX11_blockOf_9 : decode cX11_blockOf 9 = .ok (.ifnull 23, 3) := by decide +kernel
theorem dX11_blockOf_12 : decode cX11_blockOf 12 = .ok (.iload_n 2, 1) := by decide +kernel
theorem dX11_blockOf_13 : decode cX11_blockOf 13 = .ok (.ifCond .lt 19, 3) := by decide +kernel
theorem dX11_blockOf_16 : decode cX11_blockOf 16 = .ok (.iload_n 2, 1) := by decide +kernel
theorem dX11_blockOf_17 : decode cX11_blockOf 17 = .ok (.bipush 64, 2) := by decide +kernel
theorem dX11_blockOf_19 : decode cX11_blockOf 19 = .ok (.if_icmp .ge 13, 3) := by decide +kernel
theorem dX11_blockOf_22 : decode cX11_blockOf 22 = .ok (.iload_n 3, 1) := by decide +kernel
theorem dX11_blockOf_23 : decode cX11_blockOf 23 = .ok (.ifCond .lt 9, 3) := by decide +kernel
theorem dX11_blockOf_26 : decode cX11_blockOf 26 = .ok (.iload_n 3, 1) := by decide +kernel
theorem dX11_blockOf_27 : decode cX11_blockOf 27 = .ok (.bipush 64, 2) := by decide +kernel
theorem dX11_blockOf_29 : decode cX11_blockOf 29 = .ok (.if_icmp .lt 5, 3) := by decide +kernel
theorem dX11_blockOf_32 : decode cX11_blockOf 32 = .ok (.lconst 0, 1) := by decide +kernel
theorem dX11_blockOf_33 : decode cX11_blockOf 33 = .ok (.lreturn, 1) := by decide +kernel
theorem dX11_blockOf_34 : decode cX11_blockOf 34 = .ok (.aload 4, 2) := by decide +kernel
theorem dX11_blockOf_36 : decode cX11_blockOf 36 = .ok (.getfield 221, 3) := by decide +kernel
theorem dX11_blockOf_39 : decode cX11_blockOf 39 = .ok (.getfield 233, 3) := by decide +kernel
theorem dX11_blockOf_42 : decode cX11_blockOf 42 = .ok (.iload_n 2, 1) := by decide +kernel
theorem dX11_blockOf_43 : decode cX11_blockOf 43 = .ok (.bipush 64, 2) := by decide +kernel
theorem dX11_blockOf_45 : decode cX11_blockOf 45 = .ok (.imul, 1) := by decide +kernel
theorem dX11_blockOf_46 : decode cX11_blockOf 46 = .ok (.iload_n 3, 1) := by decide +kernel
theorem dX11_blockOf_47 : decode cX11_blockOf 47 = .ok (.iadd, 1) := by decide +kernel
theorem dX11_blockOf_48 : decode cX11_blockOf 48 = .ok (.laload, 1) := by decide +kernel
theorem dX11_blockOf_49 : decode cX11_blockOf 49 = .ok (.lreturn, 1) := by decide +kernel
theorem dX11_frameOf_0 : decode cX11_frameOf 0 = .ok (.aload_n 0, 1) := by decide +kernel
theorem dX11_frameOf_1 : decode cX11_frameOf 1 = .ok (.getfield 40, 3) := by decide +kernel
theorem dX11_frameOf_4 : decode cX11_frameOf 4 = .ok (.iload_n 1, 1) := by decide +kernel
theorem dX11_frameOf_5 : decode cX11_frameOf 5 = .ok (.invokevirtual 191, 3) := by decide +kernel
theorem dX11_frameOf_8 : decode cX11_frameOf 8 = .ok (.astore_n 3, 1) := by decide +kernel
theorem dX11_frameOf_9 : decode cX11_frameOf 9 = .ok (.aload_n 3, 1) := by decide +kernel
theorem dX11_frameOf_10 : decode cX11_frameOf 10 = .ok (.ifnull 14, 3) := by decide +kernel
theorem dX11_frameOf_13 : decode cX11_frameOf 13 = .ok (.iload_n 2, 1) := by decide +kernel
theorem dX11_frameOf_14 : decode cX11_frameOf 14 = .ok (.ifCond .lt 10, 3) := by decide +kernel
theorem dX11_frameOf_17 : decode cX11_frameOf 17 = .ok (.iload_n 2, 1) := by decide +kernel
theorem dX11_frameOf_18 : decode cX11_frameOf 18 = .ok (.sipush 256, 3) := by decide +kernel
theorem dX11_frameOf_21 : decode cX11_frameOf 21 = .ok (.if_icmp .lt 5, 3) := by decide +kernel
theorem dX11_frameOf_24 : decode cX11_frameOf 24 = .ok (.lconst 0, 1) := by decide +kernel
theorem dX11_frameOf_25 : decode cX11_frameOf 25 = .ok (.lreturn, 1) := by decide +kernel
theorem dX11_frameOf_26 : decode cX11_frameOf 26 = .ok (.aload_n 3, 1) := by decide +kernel
theorem dX11_frameOf_27 : decode cX11_frameOf 27 = .ok (.aload_n 0, 1) := by decide +kernel
theorem dX11_frameOf_28 : decode cX11_frameOf 28 = .ok (.getfield 33, 3) := by decide +kernel
theorem dX11_frameOf_31 : decode cX11_frameOf 31 = .ok (.invokevirtual 197, 3) := by decide +kernel
theorem dX11_frameOf_34 : decode cX11_frameOf 34 = .ok (.lconst 0, 1) := by decide +kernel
theorem dX11_frameOf_35 : decode cX11_frameOf 35 = .ok (.lstore 4, 2) := by decide +kernel
theorem dX11_frameOf_37 : decode cX11_frameOf 37 = .ok (.bipush 8, 2) := by decide +kernel
theorem dX11_frameOf_39 : decode cX11_frameOf 39 = .ok (.iload_n 2, 1) := by decide +kernel
theorem dX11_frameOf_40 : decode cX11_frameOf 40 = .ok (.imul, 1) := by decide +kernel
theorem dX11_frameOf_41 : decode cX11_frameOf 41 = .ok (.istore 6, 2) := by decide +kernel
theorem dX11_frameOf_43 : decode cX11_frameOf 43 = .ok (.iload 6, 2) := by decide +kernel
theorem dX11_frameOf_45 : decode cX11_frameOf 45 = .ok (.bipush 8, 2) := by decide +kernel
theorem dX11_frameOf_47 : decode cX11_frameOf 47 = .ok (.iload_n 2, 1) := by decide +kernel
theorem dX11_frameOf_48 : decode cX11_frameOf 48 = .ok (.imul, 1) := by decide +kernel
theorem dX11_frameOf_49 : decode cX11_frameOf 49 = .ok (.bipush 8, 2) := by decide +kernel
theorem dX11_frameOf_51 : decode cX11_frameOf 51 = .ok (.iadd, 1) := by decide +kernel
theorem dX11_frameOf_52 : decode cX11_frameOf 52 = .ok (.if_icmp .ge 51, 3) := by decide +kernel
theorem dX11_frameOf_55 : decode cX11_frameOf 55 = .ok (.iload 6, 2) := by decide +kernel
theorem dX11_frameOf_57 : decode cX11_frameOf 57 = .ok (.aload_n 3, 1) := by decide +kernel
theorem dX11_frameOf_58 : decode cX11_frameOf 58 = .ok (.getfield 203, 3) := by decide +kernel
theorem dX11_frameOf_61 : decode cX11_frameOf 61 = .ok (.if_icmp .ne 12, 3) := by decide +kernel
theorem dX11_frameOf_64 : decode cX11_frameOf 64 = .ok (.iconst 1, 1) := by decide +kernel
theorem dX11_frameOf_65 : decode cX11_frameOf 65 = .ok (.aload_n 3, 1) := by decide +kernel
theorem dX11_frameOf_66 : decode cX11_frameOf 66 = .ok (.getfield 206, 3) := by decide +kernel
theorem dX11_frameOf_69 : decode cX11_frameOf 69 = .ok (.ishl, 1) := by decide +kernel
theorem dX11_frameOf_70 : decode cX11_frameOf 70 = .ok (.goto 4, 3) := by decide +kernel
theorem dX11_frameOf_73 : decode cX11_frameOf 73 = .ok (.iconst 0, 1) := by decide +kernel
theorem dX11_frameOf_74 : decode cX11_frameOf 74 = .ok (.istore 7, 2) := by decide +kernel
theorem dX11_frameOf_76 : decode cX11_frameOf 76 = .ok (.lload 4, 2) := by decide +kernel
theorem dX11_frameOf_78 : decode cX11_frameOf 78 = .ok (.bipush 8, 2) := by decide +kernel
theorem dX11_frameOf_80 : decode cX11_frameOf 80 = .ok (.lshl, 1) := by decide +kernel
theorem dX11_frameOf_81 : decode cX11_frameOf 81 = .ok (.aload_n 0, 1) := by decide +kernel
theorem dX11_frameOf_82 : decode cX11_frameOf 82 = .ok (.getfield 33, 3) := by decide +kernel
theorem dX11_frameOf_85 : decode cX11_frameOf 85 = .ok (.iload 6, 2) := by decide +kernel
theorem dX11_frameOf_87 : decode cX11_frameOf 87 = .ok (.invokevirtual 237, 3) := by decide +kernel
theorem dX11_frameOf_90 : decode cX11_frameOf 90 = .ok (.iload 7, 2) := by decide +kernel
theorem dX11_frameOf_92 : decode cX11_frameOf 92 = .ok (.ixor, 1) := by decide +kernel
theorem dX11_frameOf_93 : decode cX11_frameOf 93 = .ok (.i2l, 1) := by decide +kernel
theorem dX11_frameOf_94 : decode cX11_frameOf 94 = .ok (.lor, 1) := by decide +kernel
theorem dX11_frameOf_95 : decode cX11_frameOf 95 = .ok (.lstore 4, 2) := by decide +kernel
theorem dX11_frameOf_97 : decode cX11_frameOf 97 = .ok (.iinc 6 1, 3) := by decide +kernel
theorem dX11_frameOf_100 : decode cX11_frameOf 100 = .ok (.goto (-57), 3) := by decide +kernel
theorem dX11_frameOf_103 : decode cX11_frameOf 103 = .ok (.lload 4, 2) := by decide +kernel
theorem dX11_frameOf_105 : decode cX11_frameOf 105 = .ok (.lreturn, 1) := by decide +kernel
theorem dX11_valueAt_0 : decode cX11_valueAt 0 = .ok (.aload_n 0, 1) := by decide +kernel
theorem dX11_valueAt_1 : decode cX11_valueAt 1 = .ok (.iload_n 1, 1) := by decide +kernel
theorem dX11_valueAt_2 : decode cX11_valueAt 2 = .ok (.invokevirtual 78, 3) := by decide +kernel
theorem dX11_valueAt_5 : decode cX11_valueAt 5 = .ok (.astore 4, 2) := by decide +kernel
theorem dX11_valueAt_7 : decode cX11_valueAt 7 = .ok (.aload 4, 2) := by decide +kernel
theorem dX11_valueAt_9 : decode cX11_valueAt 9 = .ok (.ifnull 34, 3) := by decide +kernel
theorem dX11_valueAt_12 : decode cX11_valueAt 12 = .ok (.iload_n 2, 1) := by decide +kernel
theorem dX11_valueAt_13 : decode cX11_valueAt 13 = .ok (.invokestatic 96, 3) := by decide +kernel
theorem dX11_valueAt_16 : decode cX11_valueAt 16 = .ok (.ifCond .eq 27, 3) := by decide +kernel
theorem dX11_valueAt_19 : decode cX11_valueAt 19 = .ok (.iload_n 3, 1) := by decide +kernel
theorem dX11_valueAt_20 : decode cX11_valueAt 20 = .ok (.aload 4, 2) := by decide +kernel
theorem dX11_valueAt_22 : decode cX11_valueAt 22 = .ok (.getfield 85, 3) := by decide +kernel
theorem dX11_valueAt_25 : decode cX11_valueAt 25 = .ok (.getfield 112, 3) := by decide +kernel
theorem dX11_valueAt_28 : decode cX11_valueAt 28 = .ok (.if_icmp .lt 15, 3) := by decide +kernel
theorem dX11_valueAt_31 : decode cX11_valueAt 31 = .ok (.iload_n 3, 1) := by decide +kernel
theorem dX11_valueAt_32 : decode cX11_valueAt 32 = .ok (.aload 4, 2) := by decide +kernel
theorem dX11_valueAt_34 : decode cX11_valueAt 34 = .ok (.getfield 85, 3) := by decide +kernel
theorem dX11_valueAt_37 : decode cX11_valueAt 37 = .ok (.getfield 89, 3) := by decide +kernel
theorem dX11_valueAt_40 : decode cX11_valueAt 40 = .ok (.if_icmp .le 11, 3) := by decide +kernel
theorem dX11_valueAt_43 : decode cX11_valueAt 43 = .ok (.new 240, 3) := by decide +kernel
theorem dX11_valueAt_46 : decode cX11_valueAt 46 = .ok (.dup, 1) := by decide +kernel
theorem dX11_valueAt_47 : decode cX11_valueAt 47 = .ok (.invokespecial 242, 3) := by decide +kernel
theorem dX11_valueAt_50 : decode cX11_valueAt 50 = .ok (.athrow, 1) := by decide +kernel
theorem dX11_valueAt_51 : decode cX11_valueAt 51 = .ok (.aload 4, 2) := by decide +kernel
theorem dX11_valueAt_53 : decode cX11_valueAt 53 = .ok (.getfield 85, 3) := by decide +kernel
theorem dX11_valueAt_56 : decode cX11_valueAt 56 = .ok (.iload_n 2, 1) := by decide +kernel
theorem dX11_valueAt_57 : decode cX11_valueAt 57 = .ok (.iload_n 3, 1) := by decide +kernel
theorem dX11_valueAt_58 : decode cX11_valueAt 58 = .ok (.invokevirtual 243, 3) := by decide +kernel
theorem dX11_valueAt_61 : decode cX11_valueAt 61 = .ok (.ireturn, 1) := by decide +kernel
theorem dX11_slotOf_0 : decode cX11_slotOf 0 = .ok (.aload_n 0, 1) := by decide +kernel
theorem dX11_slotOf_1 : decode cX11_slotOf 1 = .ok (.iload_n 1, 1) := by decide +kernel
theorem dX11_slotOf_2 : decode cX11_slotOf 2 = .ok (.invokevirtual 78, 3) := by decide +kernel
theorem dX11_slotOf_5 : decode cX11_slotOf 5 = .ok (.astore 4, 2) := by decide +kernel
theorem dX11_slotOf_7 : decode cX11_slotOf 7 = .ok (.aload 4, 2) := by decide +kernel
theorem dX11_slotOf_9 : decode cX11_slotOf 9 = .ok (.ifnonnull 7, 3) := by decide +kernel
theorem dX11_slotOf_12 : decode cX11_slotOf 12 = .ok (.aconst_null, 1) := by decide +kernel
theorem dX11_slotOf_13 : decode cX11_slotOf 13 = .ok (.goto 12, 3) := by decide +kernel
theorem dX11_slotOf_16 : decode cX11_slotOf 16 = .ok (.aload 4, 2) := by decide +kernel
theorem dX11_slotOf_18 : decode cX11_slotOf 18 = .ok (.getfield 85, 3) := by decide +kernel
theorem dX11_slotOf_21 : decode cX11_slotOf 21 = .ok (.iload_n 2, 1) := by decide +kernel
theorem dX11_slotOf_22 : decode cX11_slotOf 22 = .ok (.invokevirtual 246, 3) := by decide +kernel
theorem dX11_slotOf_25 : decode cX11_slotOf 25 = .ok (.astore 5, 2) := by decide +kernel
theorem dX11_slotOf_27 : decode cX11_slotOf 27 = .ok (.aload 5, 2) := by decide +kernel
theorem dX11_slotOf_29 : decode cX11_slotOf 29 = .ok (.ifnonnull 7, 3) := by decide +kernel
theorem dX11_slotOf_32 : decode cX11_slotOf 32 = .ok (.iconst (-1), 1) := by decide +kernel
theorem dX11_slotOf_33 : decode cX11_slotOf 33 = .ok (.goto 9, 3) := by decide +kernel
theorem dX11_slotOf_36 : decode cX11_slotOf 36 = .ok (.aload 5, 2) := by decide +kernel
theorem dX11_slotOf_38 : decode cX11_slotOf 38 = .ok (.iload_n 3, 1) := by decide +kernel
theorem dX11_slotOf_39 : decode cX11_slotOf 39 = .ok (.invokevirtual 250, 3) := by decide +kernel
theorem dX11_slotOf_42 : decode cX11_slotOf 42 = .ok (.ireturn, 1) := by decide +kernel
theorem dX11_knownOf_0 : decode cX11_knownOf 0 = .ok (.aload_n 0, 1) := by decide +kernel
theorem dX11_knownOf_1 : decode cX11_knownOf 1 = .ok (.iload_n 1, 1) := by decide +kernel
theorem dX11_knownOf_2 : decode cX11_knownOf 2 = .ok (.invokevirtual 78, 3) := by decide +kernel
theorem dX11_knownOf_5 : decode cX11_knownOf 5 = .ok (.astore 4, 2) := by decide +kernel
theorem dX11_knownOf_7 : decode cX11_knownOf 7 = .ok (.aload 4, 2) := by decide +kernel
theorem dX11_knownOf_9 : decode cX11_knownOf 9 = .ok (.ifnull 11, 3) := by decide +kernel
theorem dX11_knownOf_12 : decode cX11_knownOf 12 = .ok (.aload_n 0, 1) := by decide +kernel
theorem dX11_knownOf_13 : decode cX11_knownOf 13 = .ok (.iload_n 2, 1) := by decide +kernel
theorem dX11_knownOf_14 : decode cX11_knownOf 14 = .ok (.invokevirtual 74, 3) := by decide +kernel
theorem dX11_knownOf_17 : decode cX11_knownOf 17 = .ok (.ifnonnull 5, 3) := by decide +kernel
theorem dX11_knownOf_20 : decode cX11_knownOf 20 = .ok (.iconst (-1), 1) := by decide +kernel
theorem dX11_knownOf_21 : decode cX11_knownOf 21 = .ok (.ireturn, 1) := by decide +kernel
theorem dX11_knownOf_22 : decode cX11_knownOf 22 = .ok (.iload_n 3, 1) := by decide +kernel
theorem dX11_knownOf_23 : decode cX11_knownOf 23 = .ok (.ifCond .eq 16, 3) := by decide +kernel
theorem dX11_knownOf_26 : decode cX11_knownOf 26 = .ok (.aload 4, 2) := by decide +kernel
theorem dX11_knownOf_28 : decode cX11_knownOf 28 = .ok (.getfield 85, 3) := by decide +kernel
theorem dX11_knownOf_31 : decode cX11_knownOf 31 = .ok (.getfield 156, 3) := by decide +kernel
theorem dX11_knownOf_34 : decode cX11_knownOf 34 = .ok (.iload_n 2, 1) := by decide +kernel
theorem dX11_knownOf_35 : decode cX11_knownOf 35 = .ok (.iaload, 1) := by decide +kernel
theorem dX11_knownOf_36 : decode cX11_knownOf 36 = .ok (.goto 13, 3) := by decide +kernel
theorem dX11_knownOf_39 : decode cX11_knownOf 39 = .ok (.aload 4, 2) := by decide +kernel
theorem dX11_knownOf_41 : decode cX11_knownOf 41 = .ok (.getfield 85, 3) := by decide +kernel
theorem dX11_knownOf_44 : decode cX11_knownOf 44 = .ok (.getfield 149, 3) := by decide +kernel
theorem dX11_knownOf_47 : decode cX11_knownOf 47 = .ok (.iload_n 2, 1) := by decide +kernel
theorem dX11_knownOf_48 : decode cX11_knownOf 48 = .ok (.iaload, 1) := by decide +kernel
theorem dX11_knownOf_49 : decode cX11_knownOf 49 = .ok (.ireturn, 1) := by decide +kernel
theorem dX11_sessionOf_0 : decode cX11_sessionOf 0 = .ok (.aload_n 0, 1) := by decide +kernel
theorem dX11_sessionOf_1 : decode cX11_sessionOf 1 = .ok (.iload_n 1, 1) := by decide +kernel
theorem dX11_sessionOf_2 : decode cX11_sessionOf 2 = .ok (.invokevirtual 74, 3) := by decide +kernel
theorem dX11_sessionOf_5 : decode cX11_sessionOf 5 = .ok (.astore_n 3, 1) := by decide +kernel
theorem dX11_sessionOf_6 : decode cX11_sessionOf 6 = .ok (.aload_n 3, 1) := by decide +kernel
theorem dX11_sessionOf_7 : decode cX11_sessionOf 7 = .ok (.ifnonnull 7, 3) := by decide +kernel
theorem dX11_sessionOf_10 : decode cX11_sessionOf 10 = .ok (.iconst (-1), 1) := by decide +kernel
theorem dX11_sessionOf_11 : decode cX11_sessionOf 11 = .ok (.goto 8, 3) := by decide +kernel
theorem dX11_sessionOf_14 : decode cX11_sessionOf 14 = .ok (.aload_n 3, 1) := by decide +kernel
theorem dX11_sessionOf_15 : decode cX11_sessionOf 15 = .ok (.iload_n 2, 1) := by decide +kernel
theorem dX11_sessionOf_16 : decode cX11_sessionOf 16 = .ok (.invokevirtual 253, 3) := by decide +kernel
theorem dX11_sessionOf_19 : decode cX11_sessionOf 19 = .ok (.ireturn, 1) := by decide +kernel
theorem dX11_messageOf_0 : decode cX11_messageOf 0 = .ok (.aload_n 0, 1) := by decide +kernel
theorem dX11_messageOf_1 : decode cX11_messageOf 1 = .ok (.getfield 40, 3) := by decide +kernel
theorem dX11_messageOf_4 : decode cX11_messageOf 4 = .ok (.iload_n 1, 1) := by decide +kernel
theorem dX11_messageOf_5 : decode cX11_messageOf 5 = .ok (.invokevirtual 191, 3) := by decide +kernel
theorem dX11_messageOf_8 : decode cX11_messageOf 8 = .ok (.astore_n 3, 1) := by decide +kernel
theorem dX11_messageOf_9 : decode cX11_messageOf 9 = .ok (.aload_n 3, 1) := by decide +kernel
theorem dX11_messageOf_10 : decode cX11_messageOf 10 = .ok (.ifnonnull 5, 3) := by decide +kernel
theorem dX11_messageOf_13 : decode cX11_messageOf 13 = .ok (.iconst (-1), 1) := by decide +kernel
theorem dX11_messageOf_14 : decode cX11_messageOf 14 = .ok (.ireturn, 1) := by decide +kernel
theorem dX11_messageOf_15 : decode cX11_messageOf 15 = .ok (.iload_n 2, 1) := by decide +kernel
theorem dX11_messageOf_16 : decode cX11_messageOf 16 = .ok (.bipush 8, 2) := by decide +kernel
theorem dX11_messageOf_18 : decode cX11_messageOf 18 = .ok (.if_icmp .ne 19, 3) := by decide +kernel
theorem dX11_messageOf_21 : decode cX11_messageOf 21 = .ok (.aload_n 3, 1) := by decide +kernel
theorem dX11_messageOf_22 : decode cX11_messageOf 22 = .ok (.aload_n 0, 1) := by decide +kernel
theorem dX11_messageOf_23 : decode cX11_messageOf 23 = .ok (.getfield 33, 3) := by decide +kernel
theorem dX11_messageOf_26 : decode cX11_messageOf 26 = .ok (.invokevirtual 197, 3) := by decide +kernel
theorem dX11_messageOf_29 : decode cX11_messageOf 29 = .ok (.aload_n 0, 1) := by decide +kernel
theorem dX11_messageOf_30 : decode cX11_messageOf 30 = .ok (.getfield 33, 3) := by decide +kernel
theorem dX11_messageOf_33 : decode cX11_messageOf 33 = .ok (.getfield 200, 3) := by decide +kernel
theorem dX11_messageOf_36 : decode cX11_messageOf 36 = .ok (.ireturn, 1) := by decide +kernel
theorem dX11_messageOf_37 : decode cX11_messageOf 37 = .ok (.aload_n 3, 1) := by decide +kernel
theorem dX11_messageOf_38 : decode cX11_messageOf 38 = .ok (.iload_n 2, 1) := by decide +kernel
theorem dX11_messageOf_39 : decode cX11_messageOf 39 = .ok (.invokevirtual 254, 3) := by decide +kernel
theorem dX11_messageOf_42 : decode cX11_messageOf 42 = .ok (.ireturn, 1) := by decide +kernel
theorem dX11_lookAt_0 : decode cX11_lookAt 0 = .ok (.iload_n 1, 1) := by decide +kernel
theorem dX11_lookAt_1 : decode cX11_lookAt 1 = .ok (.tableswitch 118 0 9 #[55, 61, 66, 71, 79, 87, 95, 100, 105, 110], 55) := by decide +kernel
theorem dX11_lookAt_56 : decode cX11_lookAt 56 = .ok (.aload_n 0, 1) := by decide +kernel
theorem dX11_lookAt_57 : decode cX11_lookAt 57 = .ok (.getfield 53, 3) := by decide +kernel
theorem dX11_lookAt_60 : decode cX11_lookAt 60 = .ok (.arraylength, 1) := by decide +kernel
theorem dX11_lookAt_61 : decode cX11_lookAt 61 = .ok (.ireturn, 1) := by decide +kernel
theorem dX11_lookAt_62 : decode cX11_lookAt 62 = .ok (.aload_n 0, 1) := by decide +kernel
theorem dX11_lookAt_63 : decode cX11_lookAt 63 = .ok (.getfield 18, 3) := by decide +kernel
theorem dX11_lookAt_66 : decode cX11_lookAt 66 = .ok (.ireturn, 1) := by decide +kernel
theorem dX11_lookAt_67 : decode cX11_lookAt 67 = .ok (.aload_n 0, 1) := by decide +kernel
theorem dX11_lookAt_68 : decode cX11_lookAt 68 = .ok (.getfield 22, 3) := by decide +kernel
theorem dX11_lookAt_71 : decode cX11_lookAt 71 = .ok (.ireturn, 1) := by decide +kernel
theorem dX11_lookAt_72 : decode cX11_lookAt 72 = .ok (.aload_n 0, 1) := by decide +kernel
theorem dX11_lookAt_73 : decode cX11_lookAt 73 = .ok (.getfield 40, 3) := by decide +kernel
theorem dX11_lookAt_76 : decode cX11_lookAt 76 = .ok (.getfield 165, 3) := by decide +kernel
theorem dX11_lookAt_79 : decode cX11_lookAt 79 = .ok (.ireturn, 1) := by decide +kernel
theorem dX11_lookAt_80 : decode cX11_lookAt 80 = .ok (.aload_n 0, 1) := by decide +kernel
theorem dX11_lookAt_81 : decode cX11_lookAt 81 = .ok (.getfield 40, 3) := by decide +kernel
theorem dX11_lookAt_84 : decode cX11_lookAt 84 = .ok (.getfield 255, 3) := by decide +kernel
theorem dX11_lookAt_87 : decode cX11_lookAt 87 = .ok (.ireturn, 1) := by decide +kernel
theorem dX11_lookAt_88 : decode cX11_lookAt 88 = .ok (.aload_n 0, 1) := by decide +kernel
theorem dX11_lookAt_89 : decode cX11_lookAt 89 = .ok (.getfield 40, 3) := by decide +kernel
theorem dX11_lookAt_92 : decode cX11_lookAt 92 = .ok (.getfield 258, 3) := by decide +kernel
theorem dX11_lookAt_95 : decode cX11_lookAt 95 = .ok (.ireturn, 1) := by decide +kernel
theorem dX11_lookAt_96 : decode cX11_lookAt 96 = .ok (.aload_n 0, 1) := by decide +kernel
theorem dX11_lookAt_97 : decode cX11_lookAt 97 = .ok (.invokevirtual 261, 3) := by decide +kernel
theorem dX11_lookAt_100 : decode cX11_lookAt 100 = .ok (.ireturn, 1) := by decide +kernel
theorem dX11_lookAt_101 : decode cX11_lookAt 101 = .ok (.aload_n 0, 1) := by decide +kernel
theorem dX11_lookAt_102 : decode cX11_lookAt 102 = .ok (.invokevirtual 265, 3) := by decide +kernel
theorem dX11_lookAt_105 : decode cX11_lookAt 105 = .ok (.ireturn, 1) := by decide +kernel
theorem dX11_lookAt_106 : decode cX11_lookAt 106 = .ok (.aload_n 0, 1) := by decide +kernel
theorem dX11_lookAt_107 : decode cX11_lookAt 107 = .ok (.getfield 25, 3) := by decide +kernel
theorem dX11_lookAt_110 : decode cX11_lookAt 110 = .ok (.ireturn, 1) := by decide +kernel
theorem dX11_lookAt_111 : decode cX11_lookAt 111 = .ok (.aload_n 0, 1) := by decide +kernel
theorem dX11_lookAt_112 : decode cX11_lookAt 112 = .ok (.getfield 40, 3) := by decide +kernel
theorem dX11_lookAt_115 : decode cX11_lookAt 115 = .ok (.getfield 178, 3) := by decide +kernel
theorem dX11_lookAt_118 : decode cX11_lookAt 118 = .ok (.ireturn, 1) := by decide +kernel
theorem dX11_lookAt_119 : decode cX11_lookAt 119 = .ok (.iconst (-1), 1) := by decide +kernel
theorem dX11_lookAt_120 : decode cX11_lookAt 120 = .ok (.ireturn, 1) := by decide +kernel
theorem dX11_greatestIndex_0 : decode cX11_greatestIndex 0 = .ok (.iconst 0, 1) := by decide +kernel
theorem dX11_greatestIndex_1 : decode cX11_greatestIndex 1 = .ok (.istore_n 1, 1) := by decide +kernel
theorem dX11_greatestIndex_2 : decode cX11_greatestIndex 2 = .ok (.iconst 0, 1) := by decide +kernel
theorem dX11_greatestIndex_3 : decode cX11_greatestIndex 3 = .ok (.istore_n 2, 1) := by decide +kernel
theorem dX11_greatestIndex_4 : decode cX11_greatestIndex 4 = .ok (.iload_n 2, 1) := by decide +kernel
theorem dX11_greatestIndex_5 : decode cX11_greatestIndex 5 = .ok (.aload_n 0, 1) := by decide +kernel
theorem dX11_greatestIndex_6 : decode cX11_greatestIndex 6 = .ok (.getfield 53, 3) := by decide +kernel
theorem dX11_greatestIndex_9 : decode cX11_greatestIndex 9 = .ok (.arraylength, 1) := by decide +kernel
theorem dX11_greatestIndex_10 : decode cX11_greatestIndex 10 = .ok (.if_icmp .ge 38, 3) := by decide +kernel
theorem dX11_greatestIndex_13 : decode cX11_greatestIndex 13 = .ok (.aload_n 0, 1) := by decide +kernel
theorem dX11_greatestIndex_14 : decode cX11_greatestIndex 14 = .ok (.getfield 53, 3) := by decide +kernel
theorem dX11_greatestIndex_17 : decode cX11_greatestIndex 17 = .ok (.iload_n 2, 1) := by decide +kernel
theorem dX11_greatestIndex_18 : decode cX11_greatestIndex 18 = .ok (.aaload, 1) := by decide +kernel
theorem dX11_greatestIndex_19 : decode cX11_greatestIndex 19 = .ok (.getfield 212, 3) := by decide +kernel
theorem dX11_greatestIndex_22 : decode cX11_greatestIndex 22 = .ok (.ifCond .eq 20, 3) := by decide +kernel
theorem dX11_greatestIndex_25 : decode cX11_greatestIndex 25 = .ok (.iload_n 1, 1) := by decide +kernel
theorem dX11_greatestIndex_26 : decode cX11_greatestIndex 26 = .ok (.aload_n 0, 1) := by decide +kernel
theorem dX11_greatestIndex_27 : decode cX11_greatestIndex 27 = .ok (.getfield 53, 3) := by decide +kernel
theorem dX11_greatestIndex_30 : decode cX11_greatestIndex 30 = .ok (.iload_n 2, 1) := by decide +kernel
theorem dX11_greatestIndex_31 : decode cX11_greatestIndex 31 = .ok (.aaload, 1) := by decide +kernel
theorem dX11_greatestIndex_32 : decode cX11_greatestIndex 32 = .ok (.getfield 85, 3) := by decide +kernel
theorem dX11_greatestIndex_35 : decode cX11_greatestIndex 35 = .ok (.getfield 89, 3) := by decide +kernel
theorem dX11_greatestIndex_38 : decode cX11_greatestIndex 38 = .ok (.invokestatic 15, 3) := by decide +kernel
theorem dX11_greatestIndex_41 : decode cX11_greatestIndex 41 = .ok (.istore_n 1, 1) := by decide +kernel
theorem dX11_greatestIndex_42 : decode cX11_greatestIndex 42 = .ok (.iinc 2 1, 3) := by decide +kernel
theorem dX11_greatestIndex_45 : decode cX11_greatestIndex 45 = .ok (.goto (-41), 3) := by decide +kernel
theorem dX11_greatestIndex_48 : decode cX11_greatestIndex 48 = .ok (.iload_n 1, 1) := by decide +kernel
theorem dX11_greatestIndex_49 : decode cX11_greatestIndex 49 = .ok (.ireturn, 1) := by decide +kernel
theorem dX11_waitingSessions_0 : decode cX11_waitingSessions 0 = .ok (.iconst 0, 1) := by decide +kernel
theorem dX11_waitingSessions_1 : decode cX11_waitingSessions 1 = .ok (.istore_n 1, 1) := by decide +kernel
theorem dX11_waitingSessions_2 : decode cX11_waitingSessions 2 = .ok (.iconst 0, 1) := by decide +kernel
theorem dX11_waitingSessions_3 : decode cX11_waitingSessions 3 = .ok (.istore_n 2, 1) := by decide +kernel
theorem dX11_waitingSessions_4 : decode cX11_waitingSessions 4 = .ok (.iload_n 2, 1) := by decide +kernel
theorem dX11_waitingSessions_5 : decode cX11_waitingSessions 5 = .ok (.bipush 16, 2) := by decide +kernel
theorem dX11_waitingSessions_7 : decode cX11_waitingSessions 7 = .ok (.if_icmp .ge 25, 3) := by decide +kernel
theorem dX11_waitingSessions_10 : decode cX11_waitingSessions 10 = .ok (.aload_n 0, 1) := by decide +kernel
theorem dX11_waitingSessions_11 : decode cX11_waitingSessions 11 = .ok (.getfield 46, 3) := by decide +kernel
theorem dX11_waitingSessions_14 : decode cX11_waitingSessions 14 = .ok (.iload_n 2, 1) := by decide +kernel
theorem dX11_waitingSessions_15 : decode cX11_waitingSessions 15 = .ok (.aaload, 1) := by decide +kernel
theorem dX11_waitingSessions_16 : decode cX11_waitingSessions 16 = .ok (.getfield 82, 3) := by decide +kernel
theorem dX11_waitingSessions_19 : decode cX11_waitingSessions 19 = .ok (.iconst 2, 1) := by decide +kernel
theorem dX11_waitingSessions_20 : decode cX11_waitingSessions 20 = .ok (.if_icmp .ne 6, 3) := by decide +kernel
theorem dX11_waitingSessions_23 : decode cX11_waitingSessions 23 = .ok (.iinc 1 1, 3) := by decide +kernel
theorem dX11_waitingSessions_26 : decode cX11_waitingSessions 26 = .ok (.iinc 2 1, 3) := by decide +kernel
theorem dX11_waitingSessions_29 : decode cX11_waitingSessions 29 = .ok (.goto (-25), 3) := by decide +kernel
theorem dX11_waitingSessions_32 : decode cX11_waitingSessions 32 = .ok (.iload_n 1, 1) := by decide +kernel
theorem dX11_waitingSessions_33 : decode cX11_waitingSessions 33 = .ok (.ireturn, 1) := by decide +kernel
theorem dX11_isKey_0 : decode cX11_isKey 0 = .ok (.iload_n 0, 1) := by decide +kernel
theorem dX11_isKey_1 : decode cX11_isKey 1 = .ok (.ifCond .lt 13, 3) := by decide +kernel
theorem dX11_isKey_4 : decode cX11_isKey 4 = .ok (.iload_n 0, 1) := by decide +kernel
theorem dX11_isKey_5 : decode cX11_isKey 5 = .ok (.bipush 16, 2) := by decide +kernel
theorem dX11_isKey_7 : decode cX11_isKey 7 = .ok (.if_icmp .ge 7, 3) := by decide +kernel
theorem dX11_isKey_10 : decode cX11_isKey 10 = .ok (.iconst 1, 1) := by decide +kernel
theorem dX11_isKey_11 : decode cX11_isKey 11 = .ok (.goto 4, 3) := by decide +kernel
theorem dX11_isKey_14 : decode cX11_isKey 14 = .ok (.iconst 0, 1) := by decide +kernel
theorem dX11_isKey_15 : decode cX11_isKey 15 = .ok (.ireturn, 1) := by decide +kernel
theorem dX11_isIn_0 : decode cX11_isIn 0 = .ok (.iload_n 1, 1) := by decide +kernel
theorem dX11_isIn_1 : decode cX11_isIn 1 = .ok (.iload_n 0, 1) := by decide +kernel
theorem dX11_isIn_2 : decode cX11_isIn 2 = .ok (.ishr, 1) := by decide +kernel
theorem dX11_isIn_3 : decode cX11_isIn 3 = .ok (.iconst 1, 1) := by decide +kernel
theorem dX11_isIn_4 : decode cX11_isIn 4 = .ok (.iand, 1) := by decide +kernel
theorem dX11_isIn_5 : decode cX11_isIn 5 = .ok (.iconst 1, 1) := by decide +kernel
theorem dX11_isIn_6 : decode cX11_isIn 6 = .ok (.if_icmp .ne 7, 3) := by decide +kernel
theorem dX11_isIn_9 : decode cX11_isIn 9 = .ok (.iconst 1, 1) := by decide +kernel
theorem dX11_isIn_10 : decode cX11_isIn 10 = .ok (.goto 4, 3) := by decide +kernel
theorem dX11_isIn_13 : decode cX11_isIn 13 = .ok (.iconst 0, 1) := by decide +kernel
theorem dX11_isIn_14 : decode cX11_isIn 14 = .ok (.ireturn, 1) := by decide +kernel
theorem dX11_sessionNumber_0 : decode cX11_sessionNumber 0 = .ok (.iload_n 1, 1) := by decide +kernel
theorem dX11_sessionNumber_1 : decode cX11_sessionNumber 1 = .ok (.ifCond .lt 18, 3) := by decide +kernel
theorem dX11_sessionNumber_4 : decode cX11_sessionNumber 4 = .ok (.iload_n 1, 1) := by decide +kernel
theorem dX11_sessionNumber_5 : decode cX11_sessionNumber 5 = .ok (.bipush 16, 2) := by decide +kernel
theorem dX11_sessionNumber_7 : decode cX11_sessionNumber 7 = .ok (.if_icmp .ge 12, 3) := by decide +kernel
theorem dX11_sessionNumber_10 : decode cX11_sessionNumber 10 = .ok (.aload_n 0, 1) := by decide +kernel
theorem dX11_sessionNumber_11 : decode cX11_sessionNumber 11 = .ok (.getfield 46, 3) := by decide +kernel
theorem dX11_sessionNumber_14 : decode cX11_sessionNumber 14 = .ok (.iload_n 1, 1) := by decide +kernel
theorem dX11_sessionNumber_15 : decode cX11_sessionNumber 15 = .ok (.aaload, 1) := by decide +kernel
theorem dX11_sessionNumber_16 : decode cX11_sessionNumber 16 = .ok (.goto 4, 3) := by decide +kernel
theorem dX11_sessionNumber_19 : decode cX11_sessionNumber 19 = .ok (.aconst_null, 1) := by decide +kernel
theorem dX11_sessionNumber_20 : decode cX11_sessionNumber 20 = .ok (.areturn, 1) := by decide +kernel
theorem dX11_replicaNumber_0 : decode cX11_replicaNumber 0 = .ok (.iload_n 1, 1) := by decide +kernel
theorem dX11_replicaNumber_1 : decode cX11_replicaNumber 1 = .ok (.ifCond .lt 21, 3) := by decide +kernel
theorem dX11_replicaNumber_4 : decode cX11_replicaNumber 4 = .ok (.iload_n 1, 1) := by decide +kernel
theorem dX11_replicaNumber_5 : decode cX11_replicaNumber 5 = .ok (.aload_n 0, 1) := by decide +kernel
theorem dX11_replicaNumber_6 : decode cX11_replicaNumber 6 = .ok (.getfield 53, 3) := by decide +kernel
theorem dX11_replicaNumber_9 : decode cX11_replicaNumber 9 = .ok (.arraylength, 1) := by decide +kernel
theorem dX11_replicaNumber_10 : decode cX11_replicaNumber 10 = .ok (.if_icmp .ge 12, 3) := by decide +kernel
theorem dX11_replicaNumber_13 : decode cX11_replicaNumber 13 = .ok (.aload_n 0, 1) := by decide +kernel
theorem dX11_replicaNumber_14 : decode cX11_replicaNumber 14 = .ok (.getfield 53, 3) := by decide +kernel
theorem dX11_replicaNumber_17 : decode cX11_replicaNumber 17 = .ok (.iload_n 1, 1) := by decide +kernel
theorem dX11_replicaNumber_18 : decode cX11_replicaNumber 18 = .ok (.aaload, 1) := by decide +kernel
theorem dX11_replicaNumber_19 : decode cX11_replicaNumber 19 = .ok (.goto 4, 3) := by decide +kernel
theorem dX11_replicaNumber_22 : decode cX11_replicaNumber 22 = .ok (.aconst_null, 1) := by decide +kernel
theorem dX11_replicaNumber_23 : decode cX11_replicaNumber 23 = .ok (.areturn, 1) := by decide +kernel
theorem dX11_upNumber_0 : decode cX11_upNumber 0 = .ok (.aload_n 0, 1) := by decide +kernel
theorem dX11_upNumber_1 : decode cX11_upNumber 1 = .ok (.iload_n 1, 1) := by decide +kernel
theorem dX11_upNumber_2 : decode cX11_upNumber 2 = .ok (.invokevirtual 209, 3) := by decide +kernel
theorem dX11_upNumber_5 : decode cX11_upNumber 5 = .ok (.astore_n 2, 1) := by decide +kernel
theorem dX11_upNumber_6 : decode cX11_upNumber 6 = .ok (.aload_n 2, 1) := by decide +kernel
theorem dX11_upNumber_7 : decode cX11_upNumber 7 = .ok (.ifnull 14, 3) := by decide +kernel
theorem dX11_upNumber_10 : decode cX11_upNumber 10 = .ok (.aload_n 2, 1) := by decide +kernel
theorem dX11_upNumber_11 : decode cX11_upNumber 11 = .ok (.getfield 212, 3) := by decide +kernel
theorem dX11_upNumber_14 : decode cX11_upNumber 14 = .ok (.ifCond .eq 7, 3) := by decide +kernel
theorem dX11_upNumber_17 : decode cX11_upNumber 17 = .ok (.aload_n 2, 1) := by decide +kernel
theorem dX11_upNumber_18 : decode cX11_upNumber 18 = .ok (.goto 4, 3) := by decide +kernel
theorem dX11_upNumber_21 : decode cX11_upNumber 21 = .ok (.aconst_null, 1) := by decide +kernel
theorem dX11_upNumber_22 : decode cX11_upNumber 22 = .ok (.areturn, 1) := by decide +kernel
