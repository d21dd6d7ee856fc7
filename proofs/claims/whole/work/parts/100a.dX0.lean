theorem dX0_init_0 : decode cX0_init 0 = .ok (.aload_n 0, 1) := by decide +kernel
theorem dX0_init_1 : decode cX0_init 1 = .ok (.invokespecial 1, 3) := by decide +kernel
theorem dX0_init_4 : decode cX0_init 4 = .ok (.aload_n 0, 1) := by decide +kernel
theorem dX0_init_5 : decode cX0_init 5 = .ok (.iload_n 1, 1) := by decide +kernel
theorem dX0_init_6 : decode cX0_init 6 = .ok (.newarray .byte, 2) := by decide +kernel
theorem dX0_init_8 : decode cX0_init 8 = .ok (.putfield 7, 3) := by decide +kernel
theorem dX0_init_11 : decode cX0_init 11 = .ok (.return_, 1) := by decide +kernel
theorem dX0_clear_0 : decode cX0_clear 0 = .ok (.aload_n 0, 1) := by decide +kernel
theorem dX0_clear_1 : decode cX0_clear 1 = .ok (.iconst 0, 1) := by decide +kernel
theorem dX0_clear_2 : decode cX0_clear 2 = .ok (.putfield 13, 3) := by decide +kernel
theorem dX0_clear_5 : decode cX0_clear 5 = .ok (.aload_n 0, 1) := by decide +kernel
theorem dX0_clear_6 : decode cX0_clear 6 = .ok (.iconst 0, 1) := by decide +kernel
theorem dX0_clear_7 : decode cX0_clear 7 = .ok (.putfield 17, 3) := by decide +kernel
theorem dX0_clear_10 : decode cX0_clear 10 = .ok (.return_, 1) := by decide +kernel
theorem dX0_put_0 : decode cX0_put 0 = .ok (.aload_n 0, 1) := by decide +kernel
theorem dX0_put_1 : decode cX0_put 1 = .ok (.getfield 13, 3) := by decide +kernel
theorem dX0_put_4 : decode cX0_put 4 = .ok (.aload_n 0, 1) := by decide +kernel
theorem dX0_put_5 : decode cX0_put 5 = .ok (.getfield 7, 3) := by decide +kernel
theorem dX0_put_8 : decode cX0_put 8 = .ok (.arraylength, 1) := by decide +kernel
theorem dX0_put_9 : decode cX0_put 9 = .ok (.if_icmp .ge 24, 3) := by decide +kernel
theorem dX0_put_12 : decode cX0_put 12 = .ok (.aload_n 0, 1) := by decide +kernel
theorem dX0_put_13 : decode cX0_put 13 = .ok (.getfield 7, 3) := by decide +kernel
theorem dX0_put_16 : decode cX0_put 16 = .ok (.aload_n 0, 1) := by decide +kernel
theorem dX0_put_17 : decode cX0_put 17 = .ok (.getfield 13, 3) := by decide +kernel
theorem dX0_put_20 : decode cX0_put 20 = .ok (.iload_n 1, 1) := by decide +kernel
theorem dX0_put_21 : decode cX0_put 21 = .ok (.i2b, 1) := by decide +kernel
theorem dX0_put_22 : decode cX0_put 22 = .ok (.bastore, 1) := by decide +kernel
theorem dX0_put_23 : decode cX0_put 23 = .ok (.aload_n 0, 1) := by decide +kernel
theorem dX0_put_24 : decode cX0_put 24 = .ok (.dup, 1) := by decide +kernel
theorem dX0_put_25 : decode cX0_put 25 = .ok (.getfield 13, 3) := by decide +kernel
theorem dX0_put_28 : decode cX0_put 28 = .ok (.iconst 1, 1) := by decide +kernel
theorem dX0_put_29 : decode cX0_put 29 = .ok (.iadd, 1) := by decide +kernel
theorem dX0_put_30 : decode cX0_put 30 = .ok (.putfield 13, 3) := by decide +kernel
theorem dX0_put_33 : decode cX0_put 33 = .ok (.return_, 1) := by decide +kernel
theorem dX0_putU_0 : decode cX0_putU 0 = .ok (.iload_n 1, 1) := by decide +kernel
theorem dX0_putU_1 : decode cX0_putU 1 = .ok (.istore_n 2, 1) := by decide +kernel
theorem dX0_putU_2 : decode cX0_putU 2 = .ok (.iconst 0, 1) := by decide +kernel
theorem dX0_putU_3 : decode cX0_putU 3 = .ok (.istore_n 3, 1) := by decide +kernel
theorem dX0_putU_4 : decode cX0_putU 4 = .ok (.iload_n 3, 1) := by decide +kernel
theorem dX0_putU_5 : decode cX0_putU 5 = .ok (.iconst 4, 1) := by decide +kernel
theorem dX0_putU_6 : decode cX0_putU 6 = .ok (.if_icmp .ge 32, 3) := by decide +kernel
theorem dX0_putU_9 : decode cX0_putU 9 = .ok (.iload_n 2, 1) := by decide +kernel
theorem dX0_putU_10 : decode cX0_putU 10 = .ok (.bipush 127, 2) := by decide +kernel
theorem dX0_putU_12 : decode cX0_putU 12 = .ok (.if_icmp .le 26, 3) := by decide +kernel
theorem dX0_putU_15 : decode cX0_putU 15 = .ok (.aload_n 0, 1) := by decide +kernel
theorem dX0_putU_16 : decode cX0_putU 16 = .ok (.iload_n 2, 1) := by decide +kernel
theorem dX0_putU_17 : decode cX0_putU 17 = .ok (.bipush 127, 2) := by decide +kernel
theorem dX0_putU_19 : decode cX0_putU 19 = .ok (.iand, 1) := by decide +kernel
theorem dX0_putU_20 : decode cX0_putU 20 = .ok (.sipush 128, 3) := by decide +kernel
theorem dX0_putU_23 : decode cX0_putU 23 = .ok (.ior, 1) := by decide +kernel
theorem dX0_putU_24 : decode cX0_putU 24 = .ok (.invokevirtual 20, 3) := by decide +kernel
theorem dX0_putU_27 : decode cX0_putU 27 = .ok (.iload_n 2, 1) := by decide +kernel
theorem dX0_putU_28 : decode cX0_putU 28 = .ok (.bipush 7, 2) := by decide +kernel
theorem dX0_putU_30 : decode cX0_putU 30 = .ok (.iushr, 1) := by decide +kernel
theorem dX0_putU_31 : decode cX0_putU 31 = .ok (.istore_n 2, 1) := by decide +kernel
theorem dX0_putU_32 : decode cX0_putU 32 = .ok (.iinc 3 1, 3) := by decide +kernel
theorem dX0_putU_35 : decode cX0_putU 35 = .ok (.goto (-31), 3) := by decide +kernel
theorem dX0_putU_38 : decode cX0_putU 38 = .ok (.aload_n 0, 1) := by decide +kernel
theorem dX0_putU_39 : decode cX0_putU 39 = .ok (.iload_n 2, 1) := by decide +kernel
theorem dX0_putU_40 : decode cX0_putU 40 = .ok (.invokevirtual 20, 3) := by decide +kernel
theorem dX0_putU_43 : decode cX0_putU 43 = .ok (.return_, 1) := by decide +kernel
theorem dX0_putTwo_0 : decode cX0_putTwo 0 = .ok (.aload_n 0, 1) := by decide +kernel
theorem dX0_putTwo_1 : decode cX0_putTwo 1 = .ok (.iload_n 1, 1) := by decide +kernel
theorem dX0_putTwo_2 : decode cX0_putTwo 2 = .ok (.bipush 8, 2) := by decide +kernel
theorem dX0_putTwo_4 : decode cX0_putTwo 4 = .ok (.iushr, 1) := by decide +kernel
theorem dX0_putTwo_5 : decode cX0_putTwo 5 = .ok (.invokevirtual 20, 3) := by decide +kernel
theorem dX0_putTwo_8 : decode cX0_putTwo 8 = .ok (.aload_n 0, 1) := by decide +kernel
theorem dX0_putTwo_9 : decode cX0_putTwo 9 = .ok (.iload_n 1, 1) := by decide +kernel
theorem dX0_putTwo_10 : decode cX0_putTwo 10 = .ok (.invokevirtual 20, 3) := by decide +kernel
theorem dX0_putTwo_13 : decode cX0_putTwo 13 = .ok (.return_, 1) := by decide +kernel
theorem dX0_putFour_0 : decode cX0_putFour 0 = .ok (.bipush 24, 2) := by decide +kernel
theorem dX0_putFour_2 : decode cX0_putFour 2 = .ok (.istore_n 2, 1) := by decide +kernel
theorem dX0_putFour_3 : decode cX0_putFour 3 = .ok (.iload_n 2, 1) := by decide +kernel
theorem dX0_putFour_4 : decode cX0_putFour 4 = .ok (.ifCond .lt 16, 3) := by decide +kernel
theorem dX0_putFour_7 : decode cX0_putFour 7 = .ok (.aload_n 0, 1) := by decide +kernel
theorem dX0_putFour_8 : decode cX0_putFour 8 = .ok (.iload_n 1, 1) := by decide +kernel
theorem dX0_putFour_9 : decode cX0_putFour 9 = .ok (.iload_n 2, 1) := by decide +kernel
theorem dX0_putFour_10 : decode cX0_putFour 10 = .ok (.iushr, 1) := by decide +kernel
theorem dX0_putFour_11 : decode cX0_putFour 11 = .ok (.invokevirtual 20, 3) := by decide +kernel
theorem dX0_putFour_14 : decode cX0_putFour 14 = .ok (.iinc 2 (-8), 3) := by decide +kernel
theorem dX0_putFour_17 : decode cX0_putFour 17 = .ok (.goto (-14), 3) := by decide +kernel
theorem dX0_putFour_20 : decode cX0_putFour 20 = .ok (.return_, 1) := by decide +kernel
theorem dX0_putAll_0 : decode cX0_putAll 0 = .ok (.iconst 0, 1) := by decide +kernel
theorem dX0_putAll_1 : decode cX0_putAll 1 = .ok (.iload_n 2, 1) := by decide +kernel
theorem dX0_putAll_2 : decode cX0_putAll 2 = .ok (.invokestatic 24, 3) := by decide +kernel
theorem dX0_putAll_5 : decode cX0_putAll 5 = .ok (.istore 4, 2) := by decide +kernel
theorem dX0_putAll_7 : decode cX0_putAll 7 = .ok (.iload 4, 2) := by decide +kernel
theorem dX0_putAll_9 : decode cX0_putAll 9 = .ok (.iload_n 3, 1) := by decide +kernel
theorem dX0_putAll_10 : decode cX0_putAll 10 = .ok (.if_icmp .ge 24, 3) := by decide +kernel
theorem dX0_putAll_13 : decode cX0_putAll 13 = .ok (.iload 4, 2) := by decide +kernel
theorem dX0_putAll_15 : decode cX0_putAll 15 = .ok (.aload_n 1, 1) := by decide +kernel
theorem dX0_putAll_16 : decode cX0_putAll 16 = .ok (.arraylength, 1) := by decide +kernel
theorem dX0_putAll_17 : decode cX0_putAll 17 = .ok (.if_icmp .ge 17, 3) := by decide +kernel
theorem dX0_putAll_20 : decode cX0_putAll 20 = .ok (.aload_n 0, 1) := by decide +kernel
theorem dX0_putAll_21 : decode cX0_putAll 21 = .ok (.aload_n 1, 1) := by decide +kernel
theorem dX0_putAll_22 : decode cX0_putAll 22 = .ok (.iload 4, 2) := by decide +kernel
theorem dX0_putAll_24 : decode cX0_putAll 24 = .ok (.baload, 1) := by decide +kernel
theorem dX0_putAll_25 : decode cX0_putAll 25 = .ok (.invokevirtual 20, 3) := by decide +kernel
theorem dX0_putAll_28 : decode cX0_putAll 28 = .ok (.iinc 4 1, 3) := by decide +kernel
theorem dX0_putAll_31 : decode cX0_putAll 31 = .ok (.goto (-24), 3) := by decide +kernel
theorem dX0_putAll_34 : decode cX0_putAll 34 = .ok (.return_, 1) := by decide +kernel
theorem dX0_putCheck_0 : decode cX0_putCheck 0 = .ok (.iconst (-1), 1) := by decide +kernel
theorem dX0_putCheck_1 : decode cX0_putCheck 1 = .ok (.istore_n 2, 1) := by decide +kernel
theorem dX0_putCheck_2 : decode cX0_putCheck 2 = .ok (.iload_n 1, 1) := by decide +kernel
theorem dX0_putCheck_3 : decode cX0_putCheck 3 = .ok (.istore_n 3, 1) := by decide +kernel
theorem dX0_putCheck_4 : decode cX0_putCheck 4 = .ok (.iload_n 3, 1) := by decide +kernel
theorem dX0_putCheck_5 : decode cX0_putCheck 5 = .ok (.aload_n 0, 1) := by decide +kernel
theorem dX0_putCheck_6 : decode cX0_putCheck 6 = .ok (.getfield 13, 3) := by decide +kernel
theorem dX0_putCheck_9 : decode cX0_putCheck 9 = .ok (.if_icmp .ge 19, 3) := by decide +kernel
theorem dX0_putCheck_12 : decode cX0_putCheck 12 = .ok (.iload_n 2, 1) := by decide +kernel
theorem dX0_putCheck_13 : decode cX0_putCheck 13 = .ok (.aload_n 0, 1) := by decide +kernel
theorem dX0_putCheck_14 : decode cX0_putCheck 14 = .ok (.iload_n 3, 1) := by decide +kernel
theorem dX0_putCheck_15 : decode cX0_putCheck 15 = .ok (.invokevirtual 30, 3) := by decide +kernel
theorem dX0_putCheck_18 : decode cX0_putCheck 18 = .ok (.invokestatic 34, 3) := by decide +kernel
theorem dX0_putCheck_21 : decode cX0_putCheck 21 = .ok (.istore_n 2, 1) := by decide +kernel
theorem dX0_putCheck_22 : decode cX0_putCheck 22 = .ok (.iinc 3 1, 3) := by decide +kernel
theorem dX0_putCheck_25 : decode cX0_putCheck 25 = .ok (.goto (-21), 3) := by decide +kernel
theorem dX0_putCheck_28 : decode cX0_putCheck 28 = .ok (.iconst 0, 1) := by decide +kernel
theorem dX0_putCheck_29 : decode cX0_putCheck 29 = .ok (.istore_n 3, 1) := by decide +kernel
theorem dX0_putCheck_30 : decode cX0_putCheck 30 = .ok (.iload_n 3, 1) := by decide +kernel
theorem dX0_putCheck_31 : decode cX0_putCheck 31 = .ok (.bipush 32, 2) := by decide +kernel
theorem dX0_putCheck_33 : decode cX0_putCheck 33 = .ok (.if_icmp .ge 18, 3) := by decide +kernel
theorem dX0_putCheck_36 : decode cX0_putCheck 36 = .ok (.aload_n 0, 1) := by decide +kernel
theorem dX0_putCheck_37 : decode cX0_putCheck 37 = .ok (.iload_n 2, 1) := by decide +kernel
theorem dX0_putCheck_38 : decode cX0_putCheck 38 = .ok (.iconst (-1), 1) := by decide +kernel
theorem dX0_putCheck_39 : decode cX0_putCheck 39 = .ok (.ixor, 1) := by decide +kernel
theorem dX0_putCheck_40 : decode cX0_putCheck 40 = .ok (.iload_n 3, 1) := by decide +kernel
theorem dX0_putCheck_41 : decode cX0_putCheck 41 = .ok (.iushr, 1) := by decide +kernel
theorem dX0_putCheck_42 : decode cX0_putCheck 42 = .ok (.invokevirtual 20, 3) := by decide +kernel
theorem dX0_putCheck_45 : decode cX0_putCheck 45 = .ok (.iinc 3 8, 3) := by decide +kernel
theorem dX0_putCheck_48 : decode cX0_putCheck 48 = .ok (.goto (-18), 3) := by decide +kernel
theorem dX0_putCheck_51 : decode cX0_putCheck 51 = .ok (.return_, 1) := by decide +kernel
theorem dX0_checkStep_0 : decode cX0_checkStep 0 = .ok (.iload_n 0, 1) := by decide +kernel
theorem dX0_checkStep_1 : decode cX0_checkStep 1 = .ok (.iload_n 1, 1) := by decide +kernel
theorem dX0_checkStep_2 : decode cX0_checkStep 2 = .ok (.ixor, 1) := by decide +kernel
theorem dX0_checkStep_3 : decode cX0_checkStep 3 = .ok (.istore_n 2, 1) := by decide +kernel
theorem dX0_checkStep_4 : decode cX0_checkStep 4 = .ok (.iconst 0, 1) := by decide +kernel
theorem dX0_checkStep_5 : decode cX0_checkStep 5 = .ok (.istore_n 3, 1) := by decide +kernel
theorem dX0_checkStep_6 : decode cX0_checkStep 6 = .ok (.iload_n 3, 1) := by decide +kernel
theorem dX0_checkStep_7 : decode cX0_checkStep 7 = .ok (.bipush 8, 2) := by decide +kernel
theorem dX0_checkStep_9 : decode cX0_checkStep 9 = .ok (.if_icmp .ge 29, 3) := by decide +kernel
theorem dX0_checkStep_12 : decode cX0_checkStep 12 = .ok (.iload_n 2, 1) := by decide +kernel
theorem dX0_checkStep_13 : decode cX0_checkStep 13 = .ok (.iconst 1, 1) := by decide +kernel
theorem dX0_checkStep_14 : decode cX0_checkStep 14 = .ok (.iand, 1) := by decide +kernel
theorem dX0_checkStep_15 : decode cX0_checkStep 15 = .ok (.iconst 1, 1) := by decide +kernel
theorem dX0_checkStep_16 : decode cX0_checkStep 16 = .ok (.if_icmp .ne 12, 3) := by decide +kernel
theorem dX0_checkStep_19 : decode cX0_checkStep 19 = .ok (.iload_n 2, 1) := by decide +kernel
theorem dX0_checkStep_20 : decode cX0_checkStep 20 = .ok (.iconst 1, 1) := by decide +kernel
theorem dX0_checkStep_21 : decode cX0_checkStep 21 = .ok (.iushr, 1) := by decide +kernel
theorem dX0_checkStep_22 : decode cX0_checkStep 22 = .ok (.ldc 37, 2) := by decide +kernel
theorem dX0_checkStep_24 : decode cX0_checkStep 24 = .ok (.ixor, 1) := by decide +kernel
theorem dX0_checkStep_25 : decode cX0_checkStep 25 = .ok (.goto 6, 3) := by decide +kernel
theorem dX0_checkStep_28 : decode cX0_checkStep 28 = .ok (.iload_n 2, 1) := by decide +kernel
theorem dX0_checkStep_29 : decode cX0_checkStep 29 = .ok (.iconst 1, 1) := by decide +kernel
theorem dX0_checkStep_30 : decode cX0_checkStep 30 = .ok (.iushr, 1) := by decide +kernel
theorem dX0_checkStep_31 : decode cX0_checkStep 31 = .ok (.istore_n 2, 1) := by decide +kernel
theorem dX0_checkStep_32 : decode cX0_checkStep 32 = .ok (.iinc 3 1, 3) := by decide +kernel
theorem dX0_checkStep_35 : decode cX0_checkStep 35 = .ok (.goto (-29), 3) := by decide +kernel
theorem dX0_checkStep_38 : decode cX0_checkStep 38 = .ok (.iload_n 2, 1) := by decide +kernel
theorem dX0_checkStep_39 : decode cX0_checkStep 39 = .ok (.ireturn, 1) := by decide +kernel
theorem dX0_byteAt_0 : decode cX0_byteAt 0 = .ok (.iload_n 1, 1) := by decide +kernel
theorem dX0_byteAt_1 : decode cX0_byteAt 1 = .ok (.ifCond .lt 24, 3) := by decide +kernel
theorem dX0_byteAt_4 : decode cX0_byteAt 4 = .ok (.iload_n 1, 1) := by decide +kernel
theorem dX0_byteAt_5 : decode cX0_byteAt 5 = .ok (.aload_n 0, 1) := by decide +kernel
theorem dX0_byteAt_6 : decode cX0_byteAt 6 = .ok (.getfield 13, 3) := by decide +kernel
theorem dX0_byteAt_9 : decode cX0_byteAt 9 = .ok (.if_icmp .ge 16, 3) := by decide +kernel
theorem dX0_byteAt_12 : decode cX0_byteAt 12 = .ok (.aload_n 0, 1) := by decide +kernel
theorem dX0_byteAt_13 : decode cX0_byteAt 13 = .ok (.getfield 7, 3) := by decide +kernel
theorem dX0_byteAt_16 : decode cX0_byteAt 16 = .ok (.iload_n 1, 1) := by decide +kernel
theorem dX0_byteAt_17 : decode cX0_byteAt 17 = .ok (.baload, 1) := by decide +kernel
theorem dX0_byteAt_18 : decode cX0_byteAt 18 = .ok (.sipush 255, 3) := by decide +kernel
theorem dX0_byteAt_21 : decode cX0_byteAt 21 = .ok (.iand, 1) := by decide +kernel
theorem dX0_byteAt_22 : decode cX0_byteAt 22 = .ok (.goto 4, 3) := by decide +kernel
theorem dX0_byteAt_25 : decode cX0_byteAt 25 = .ok (.iconst 0, 1) := by decide +kernel
theorem dX0_byteAt_26 : decode cX0_byteAt 26 = .ok (.ireturn, 1) := by decide +kernel
theorem dX0_take_0 : decode cX0_take 0 = .ok (.aload_n 0, 1) := by decide +kernel
theorem dX0_take_1 : decode cX0_take 1 = .ok (.aload_n 0, 1) := by decide +kernel
theorem dX0_take_2 : decode cX0_take 2 = .ok (.getfield 17, 3) := by decide +kernel
theorem dX0_take_5 : decode cX0_take 5 = .ok (.invokevirtual 30, 3) := by decide +kernel
theorem dX0_take_8 : decode cX0_take 8 = .ok (.istore_n 1, 1) := by decide +kernel
theorem dX0_take_9 : decode cX0_take 9 = .ok (.aload_n 0, 1) := by decide +kernel
theorem dX0_take_10 : decode cX0_take 10 = .ok (.dup, 1) := by decide +kernel
theorem dX0_take_11 : decode cX0_take 11 = .ok (.getfield 17, 3) := by decide +kernel
theorem dX0_take_14 : decode cX0_take 14 = .ok (.iconst 1, 1) := by decide +kernel
theorem dX0_take_15 : decode cX0_take 15 = .ok (.iadd, 1) := by decide +kernel
theorem dX0_take_16 : decode cX0_take 16 = .ok (.putfield 17, 3) := by decide +kernel
theorem dX0_take_19 : decode cX0_take 19 = .ok (.iload_n 1, 1) := by decide +kernel
theorem dX0_take_20 : decode cX0_take 20 = .ok (.ireturn, 1) := by decide +kernel
theorem dX0_takeU_0 : decode cX0_takeU 0 = .ok (.iconst 0, 1) := by decide +kernel
theorem dX0_takeU_1 : decode cX0_takeU 1 = .ok (.istore_n 1, 1) := by decide +kernel
theorem dX0_takeU_2 : decode cX0_takeU 2 = .ok (.iconst 0, 1) := by decide +kernel
theorem dX0_takeU_3 : decode cX0_takeU 3 = .ok (.istore_n 2, 1) := by decide +kernel
theorem dX0_takeU_4 : decode cX0_takeU 4 = .ok (.iload_n 2, 1) := by decide +kernel
theorem dX0_takeU_5 : decode cX0_takeU 5 = .ok (.bipush 35, 2) := by decide +kernel
theorem dX0_takeU_7 : decode cX0_takeU 7 = .ok (.if_icmp .ge 33, 3) := by decide +kernel
theorem dX0_takeU_10 : decode cX0_takeU 10 = .ok (.aload_n 0, 1) := by decide +kernel
theorem dX0_takeU_11 : decode cX0_takeU 11 = .ok (.invokevirtual 38, 3) := by decide +kernel
theorem dX0_takeU_14 : decode cX0_takeU 14 = .ok (.istore_n 3, 1) := by decide +kernel
theorem dX0_takeU_15 : decode cX0_takeU 15 = .ok (.iload_n 1, 1) := by decide +kernel
theorem dX0_takeU_16 : decode cX0_takeU 16 = .ok (.iload_n 3, 1) := by decide +kernel
theorem dX0_takeU_17 : decode cX0_takeU 17 = .ok (.bipush 127, 2) := by decide +kernel
theorem dX0_takeU_19 : decode cX0_takeU 19 = .ok (.iand, 1) := by decide +kernel
theorem dX0_takeU_20 : decode cX0_takeU 20 = .ok (.iload_n 2, 1) := by decide +kernel
theorem dX0_takeU_21 : decode cX0_takeU 21 = .ok (.ishl, 1) := by decide +kernel
theorem dX0_takeU_22 : decode cX0_takeU 22 = .ok (.ior, 1) := by decide +kernel
theorem dX0_takeU_23 : decode cX0_takeU 23 = .ok (.istore_n 1, 1) := by decide +kernel
theorem dX0_takeU_24 : decode cX0_takeU 24 = .ok (.iload_n 3, 1) := by decide +kernel
theorem dX0_takeU_25 : decode cX0_takeU 25 = .ok (.sipush 128, 3) := by decide +kernel
theorem dX0_takeU_28 : decode cX0_takeU 28 = .ok (.if_icmp .ge 6, 3) := by decide +kernel
theorem dX0_takeU_31 : decode cX0_takeU 31 = .ok (.goto 9, 3) := by decide +kernel
theorem dX0_takeU_34 : decode cX0_takeU 34 = .ok (.iinc 2 7, 3) := by decide +kernel
theorem dX0_takeU_37 : decode cX0_takeU 37 = .ok (.goto (-33), 3) := by decide +kernel
theorem dX0_takeU_40 : decode cX0_takeU 40 = .ok (.iload_n 1, 1) := by decide +kernel
theorem dX0_takeU_41 : decode cX0_takeU 41 = .ok (.ireturn, 1) := by decide +kernel
theorem dX0_takeTwo_0 : decode cX0_takeTwo 0 = .ok (.aload_n 0, 1) := by decide +kernel
theorem dX0_takeTwo_1 : decode cX0_takeTwo 1 = .ok (.invokevirtual 38, 3) := by decide +kernel
theorem dX0_takeTwo_4 : decode cX0_takeTwo 4 = .ok (.istore_n 1, 1) := by decide +kernel
theorem dX0_takeTwo_5 : decode cX0_takeTwo 5 = .ok (.iload_n 1, 1) := by decide +kernel
theorem dX0_takeTwo_6 : decode cX0_takeTwo 6 = .ok (.bipush 8, 2) := by decide +kernel
theorem dX0_takeTwo_8 : decode cX0_takeTwo 8 = .ok (.ishl, 1) := by decide +kernel
theorem dX0_takeTwo_9 : decode cX0_takeTwo 9 = .ok (.aload_n 0, 1) := by decide +kernel
theorem dX0_takeTwo_10 : decode cX0_takeTwo 10 = .ok (.invokevirtual 38, 3) := by decide +kernel
theorem dX0_takeTwo_13 : decode cX0_takeTwo 13 = .ok (.ior, 1) := by decide +kernel
theorem dX0_takeTwo_14 : decode cX0_takeTwo 14 = .ok (.ireturn, 1) := by decide +kernel
theorem dX0_takeFour_0 : decode cX0_takeFour 0 = .ok (.iconst 0, 1) := by decide +kernel
theorem dX0_takeFour_1 : decode cX0_takeFour 1 = .ok (.istore_n 1, 1) := by decide +kernel
theorem dX0_takeFour_2 : decode cX0_takeFour 2 = .ok (.iconst 0, 1) := by decide +kernel
theorem dX0_takeFour_3 : decode cX0_takeFour 3 = .ok (.istore_n 2, 1) := by decide +kernel
theorem dX0_takeFour_4 : decode cX0_takeFour 4 = .ok (.iload_n 2, 1) := by decide +kernel
theorem dX0_takeFour_5 : decode cX0_takeFour 5 = .ok (.iconst 4, 1) := by decide +kernel
theorem dX0_takeFour_6 : decode cX0_takeFour 6 = .ok (.if_icmp .ge 19, 3) := by decide +kernel
theorem dX0_takeFour_9 : decode cX0_takeFour 9 = .ok (.iload_n 1, 1) := by decide +kernel
theorem dX0_takeFour_10 : decode cX0_takeFour 10 = .ok (.bipush 8, 2) := by decide +kernel
theorem dX0_takeFour_12 : decode cX0_takeFour 12 = .ok (.ishl, 1) := by decide +kernel
theorem dX0_takeFour_13 : decode cX0_takeFour 13 = .ok (.aload_n 0, 1) := by decide +kernel
theorem dX0_takeFour_14 : decode cX0_takeFour 14 = .ok (.invokevirtual 38, 3) := by decide +kernel
theorem dX0_takeFour_17 : decode cX0_takeFour 17 = .ok (.ior, 1) := by decide +kernel
theorem dX0_takeFour_18 : decode cX0_takeFour 18 = .ok (.istore_n 1, 1) := by decide +kernel
theorem dX0_takeFour_19 : decode cX0_takeFour 19 = .ok (.iinc 2 1, 3) := by decide +kernel
theorem dX0_takeFour_22 : decode cX0_takeFour 22 = .ok (.goto (-18), 3) := by decide +kernel
theorem dX0_takeFour_25 : decode cX0_takeFour 25 = .ok (.iload_n 1, 1) := by decide +kernel
theorem dX0_takeFour_26 : decode cX0_takeFour 26 = .ok (.ireturn, 1) := by decide +kernel
theorem dX0_copy_0 : decode cX0_copy 0 = .ok (.aload_n 0, 1) := by decide +kernel
theorem dX0_copy_1 : decode cX0_copy 1 = .ok (.getfield 13, 3) := by decide +kernel
theorem dX0_copy_4 : decode cX0_copy 4 = .ok (.newarray .byte, 2) := by decide +kernel
theorem dX0_copy_6 : decode cX0_copy 6 = .ok (.astore_n 1, 1) := by decide +kernel
theorem dX0_copy_7 : decode cX0_copy 7 = .ok (.aload_n 0, 1) := by decide +kernel
theorem dX0_copy_8 : decode cX0_copy 8 = .ok (.getfield 7, 3) := by decide +kernel
theorem dX0_copy_11 : decode cX0_copy 11 = .ok (.iconst 0, 1) := by decide +kernel
theorem dX0_copy_12 : decode cX0_copy 12 = .ok (.aload_n 1, 1) := by decide +kernel
theorem dX0_copy_13 : decode cX0_copy 13 = .ok (.iconst 0, 1) := by decide +kernel
theorem dX0_copy_14 : decode cX0_copy 14 = .ok (.aload_n 0, 1) := by decide +kernel
theorem dX0_copy_15 : decode cX0_copy 15 = .ok (.getfield 13, 3) := by decide +kernel
theorem dX0_copy_18 : decode cX0_copy 18 = .ok (.invokestatic 42, 3) := by decide +kernel
theorem dX0_copy_21 : decode cX0_copy 21 = .ok (.aload_n 1, 1) := by decide +kernel
theorem dX0_copy_22 : decode cX0_copy 22 = .ok (.areturn, 1) := by decide +kernel
