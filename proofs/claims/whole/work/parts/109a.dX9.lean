theorem dX9_init_0 : decode cX9_init 0 = .ok (.aload_n 0, 1) := by decide +kernel
theorem dX9_init_1 : decode cX9_init 1 = .ok (.invokespecial 3, 3) := by decide +kernel
theorem dX9_init_4 : decode cX9_init 4 = .ok (.aload_n 0, 1) := by decide +kernel
theorem dX9_init_5 : decode cX9_init 5 = .ok (.bipush 16, 2) := by decide +kernel
theorem dX9_init_7 : decode cX9_init 7 = .ok (.newarray .int, 2) := by decide +kernel
theorem dX9_init_9 : decode cX9_init 9 = .ok (.putfield 9, 3) := by decide +kernel
theorem dX9_init_12 : decode cX9_init 12 = .ok (.aload_n 0, 1) := by decide +kernel
theorem dX9_init_13 : decode cX9_init 13 = .ok (.iconst 0, 1) := by decide +kernel
theorem dX9_init_14 : decode cX9_init 14 = .ok (.putfield 15, 3) := by decide +kernel
theorem dX9_init_17 : decode cX9_init 17 = .ok (.aload_n 0, 1) := by decide +kernel
theorem dX9_init_18 : decode cX9_init 18 = .ok (.iconst (-1), 1) := by decide +kernel
theorem dX9_init_19 : decode cX9_init 19 = .ok (.putfield 19, 3) := by decide +kernel
theorem dX9_init_22 : decode cX9_init 22 = .ok (.aload_n 0, 1) := by decide +kernel
theorem dX9_init_23 : decode cX9_init 23 = .ok (.iconst (-1), 1) := by decide +kernel
theorem dX9_init_24 : decode cX9_init 24 = .ok (.putfield 22, 3) := by decide +kernel
theorem dX9_init_27 : decode cX9_init 27 = .ok (.return_, 1) := by decide +kernel
theorem dX9_begin_0 : decode cX9_begin 0 = .ok (.aload_n 0, 1) := by decide +kernel
theorem dX9_begin_1 : decode cX9_begin 1 = .ok (.iconst 1, 1) := by decide +kernel
theorem dX9_begin_2 : decode cX9_begin 2 = .ok (.putfield 15, 3) := by decide +kernel
theorem dX9_begin_5 : decode cX9_begin 5 = .ok (.aload_n 0, 1) := by decide +kernel
theorem dX9_begin_6 : decode cX9_begin 6 = .ok (.iload_n 1, 1) := by decide +kernel
theorem dX9_begin_7 : decode cX9_begin 7 = .ok (.putfield 19, 3) := by decide +kernel
theorem dX9_begin_10 : decode cX9_begin 10 = .ok (.aload_n 0, 1) := by decide +kernel
theorem dX9_begin_11 : decode cX9_begin 11 = .ok (.iload_n 2, 1) := by decide +kernel
theorem dX9_begin_12 : decode cX9_begin 12 = .ok (.putfield 22, 3) := by decide +kernel
theorem dX9_begin_15 : decode cX9_begin 15 = .ok (.aload_n 0, 1) := by decide +kernel
theorem dX9_begin_16 : decode cX9_begin 16 = .ok (.iload_n 3, 1) := by decide +kernel
theorem dX9_begin_17 : decode cX9_begin 17 = .ok (.putfield 25, 3) := by decide +kernel
theorem dX9_begin_20 : decode cX9_begin 20 = .ok (.aload_n 0, 1) := by decide +kernel
theorem dX9_begin_21 : decode cX9_begin 21 = .ok (.iconst 0, 1) := by decide +kernel
theorem dX9_begin_22 : decode cX9_begin 22 = .ok (.putfield 29, 3) := by decide +kernel
theorem dX9_begin_25 : decode cX9_begin 25 = .ok (.aload_n 0, 1) := by decide +kernel
theorem dX9_begin_26 : decode cX9_begin 26 = .ok (.iconst 0, 1) := by decide +kernel
theorem dX9_begin_27 : decode cX9_begin 27 = .ok (.putfield 32, 3) := by decide +kernel
theorem dX9_begin_30 : decode cX9_begin 30 = .ok (.return_, 1) := by decide +kernel
theorem dX9_read_0 : decode cX9_read 0 = .ok (.iload_n 1, 1) := by decide +kernel
theorem dX9_read_1 : decode cX9_read 1 = .ok (.aload_n 0, 1) := by decide +kernel
theorem dX9_read_2 : decode cX9_read 2 = .ok (.getfield 32, 3) := by decide +kernel
theorem dX9_read_5 : decode cX9_read 5 = .ok (.invokestatic 35, 3) := by decide +kernel
theorem dX9_read_8 : decode cX9_read 8 = .ok (.ifCond .eq 10, 3) := by decide +kernel
theorem dX9_read_11 : decode cX9_read 11 = .ok (.aload_n 0, 1) := by decide +kernel
theorem dX9_read_12 : decode cX9_read 12 = .ok (.getfield 9, 3) := by decide +kernel
theorem dX9_read_15 : decode cX9_read 15 = .ok (.iload_n 1, 1) := by decide +kernel
theorem dX9_read_16 : decode cX9_read 16 = .ok (.iaload, 1) := by decide +kernel
theorem dX9_read_17 : decode cX9_read 17 = .ok (.ireturn, 1) := by decide +kernel
theorem dX9_read_18 : decode cX9_read 18 = .ok (.aload_n 0, 1) := by decide +kernel
theorem dX9_read_19 : decode cX9_read 19 = .ok (.dup, 1) := by decide +kernel
theorem dX9_read_20 : decode cX9_read 20 = .ok (.getfield 29, 3) := by decide +kernel
theorem dX9_read_23 : decode cX9_read 23 = .ok (.iconst 1, 1) := by decide +kernel
theorem dX9_read_24 : decode cX9_read 24 = .ok (.iload_n 1, 1) := by decide +kernel
theorem dX9_read_25 : decode cX9_read 25 = .ok (.ishl, 1) := by decide +kernel
theorem dX9_read_26 : decode cX9_read 26 = .ok (.ior, 1) := by decide +kernel
theorem dX9_read_27 : decode cX9_read 27 = .ok (.putfield 29, 3) := by decide +kernel
theorem dX9_read_30 : decode cX9_read 30 = .ok (.aload_n 2, 1) := by decide +kernel
theorem dX9_read_31 : decode cX9_read 31 = .ok (.iload_n 1, 1) := by decide +kernel
theorem dX9_read_32 : decode cX9_read 32 = .ok (.aload_n 0, 1) := by decide +kernel
theorem dX9_read_33 : decode cX9_read 33 = .ok (.getfield 22, 3) := by decide +kernel
theorem dX9_read_36 : decode cX9_read 36 = .ok (.invokevirtual 39, 3) := by decide +kernel
theorem dX9_read_39 : decode cX9_read 39 = .ok (.ireturn, 1) := by decide +kernel
theorem dX9_write_0 : decode cX9_write 0 = .ok (.aload_n 0, 1) := by decide +kernel
theorem dX9_write_1 : decode cX9_write 1 = .ok (.dup, 1) := by decide +kernel
theorem dX9_write_2 : decode cX9_write 2 = .ok (.getfield 32, 3) := by decide +kernel
theorem dX9_write_5 : decode cX9_write 5 = .ok (.iconst 1, 1) := by decide +kernel
theorem dX9_write_6 : decode cX9_write 6 = .ok (.iload_n 1, 1) := by decide +kernel
theorem dX9_write_7 : decode cX9_write 7 = .ok (.ishl, 1) := by decide +kernel
theorem dX9_write_8 : decode cX9_write 8 = .ok (.ior, 1) := by decide +kernel
theorem dX9_write_9 : decode cX9_write 9 = .ok (.putfield 32, 3) := by decide +kernel
theorem dX9_write_12 : decode cX9_write 12 = .ok (.aload_n 0, 1) := by decide +kernel
theorem dX9_write_13 : decode cX9_write 13 = .ok (.getfield 9, 3) := by decide +kernel
theorem dX9_write_16 : decode cX9_write 16 = .ok (.iload_n 1, 1) := by decide +kernel
theorem dX9_write_17 : decode cX9_write 17 = .ok (.iload_n 2, 1) := by decide +kernel
theorem dX9_write_18 : decode cX9_write 18 = .ok (.iastore, 1) := by decide +kernel
theorem dX9_write_19 : decode cX9_write 19 = .ok (.return_, 1) := by decide +kernel
theorem dX9_ask_0 : decode cX9_ask 0 = .ok (.aload_n 0, 1) := by decide +kernel
theorem dX9_ask_1 : decode cX9_ask 1 = .ok (.iconst 2, 1) := by decide +kernel
theorem dX9_ask_2 : decode cX9_ask 2 = .ok (.putfield 15, 3) := by decide +kernel
theorem dX9_ask_5 : decode cX9_ask 5 = .ok (.aload_n 0, 1) := by decide +kernel
theorem dX9_ask_6 : decode cX9_ask 6 = .ok (.dup, 1) := by decide +kernel
theorem dX9_ask_7 : decode cX9_ask 7 = .ok (.getfield 45, 3) := by decide +kernel
theorem dX9_ask_10 : decode cX9_ask 10 = .ok (.iconst 1, 1) := by decide +kernel
theorem dX9_ask_11 : decode cX9_ask 11 = .ok (.iadd, 1) := by decide +kernel
theorem dX9_ask_12 : decode cX9_ask 12 = .ok (.putfield 45, 3) := by decide +kernel
theorem dX9_ask_15 : decode cX9_ask 15 = .ok (.aload_n 0, 1) := by decide +kernel
theorem dX9_ask_16 : decode cX9_ask 16 = .ok (.new 48, 3) := by decide +kernel
theorem dX9_ask_19 : decode cX9_ask 19 = .ok (.dup, 1) := by decide +kernel
theorem dX9_ask_20 : decode cX9_ask 20 = .ok (.iload_n 1, 1) := by decide +kernel
theorem dX9_ask_21 : decode cX9_ask 21 = .ok (.aload_n 0, 1) := by decide +kernel
theorem dX9_ask_22 : decode cX9_ask 22 = .ok (.getfield 45, 3) := by decide +kernel
theorem dX9_ask_25 : decode cX9_ask 25 = .ok (.aload_n 0, 1) := by decide +kernel
theorem dX9_ask_26 : decode cX9_ask 26 = .ok (.getfield 22, 3) := by decide +kernel
theorem dX9_ask_29 : decode cX9_ask 29 = .ok (.aload_n 0, 1) := by decide +kernel
theorem dX9_ask_30 : decode cX9_ask 30 = .ok (.getfield 29, 3) := by decide +kernel
theorem dX9_ask_33 : decode cX9_ask 33 = .ok (.aload_n 0, 1) := by decide +kernel
theorem dX9_ask_34 : decode cX9_ask 34 = .ok (.getfield 32, 3) := by decide +kernel
theorem dX9_ask_37 : decode cX9_ask 37 = .ok (.aload_n 0, 1) := by decide +kernel
theorem dX9_ask_38 : decode cX9_ask 38 = .ok (.getfield 9, 3) := by decide +kernel
theorem dX9_ask_41 : decode cX9_ask 41 = .ok (.invokevirtual 50, 3) := by decide +kernel
theorem dX9_ask_44 : decode cX9_ask 44 = .ok (.checkcast 51, 3) := by decide +kernel
theorem dX9_ask_47 : decode cX9_ask 47 = .ok (.invokespecial 55, 3) := by decide +kernel
theorem dX9_ask_50 : decode cX9_ask 50 = .ok (.putfield 58, 3) := by decide +kernel
theorem dX9_ask_53 : decode cX9_ask 53 = .ok (.return_, 1) := by decide +kernel
theorem dX9_end_0 : decode cX9_end 0 = .ok (.aload_n 0, 1) := by decide +kernel
theorem dX9_end_1 : decode cX9_end 1 = .ok (.iload_n 1, 1) := by decide +kernel
theorem dX9_end_2 : decode cX9_end 2 = .ok (.putfield 15, 3) := by decide +kernel
theorem dX9_end_5 : decode cX9_end 5 = .ok (.aload_n 0, 1) := by decide +kernel
theorem dX9_end_6 : decode cX9_end 6 = .ok (.iconst (-1), 1) := by decide +kernel
theorem dX9_end_7 : decode cX9_end 7 = .ok (.putfield 19, 3) := by decide +kernel
theorem dX9_end_10 : decode cX9_end 10 = .ok (.return_, 1) := by decide +kernel
theorem dX9_endBy_0 : decode cX9_endBy 0 = .ok (.aload_n 0, 1) := by decide +kernel
theorem dX9_endBy_1 : decode cX9_endBy 1 = .ok (.iload_n 1, 1) := by decide +kernel
theorem dX9_endBy_2 : decode cX9_endBy 2 = .ok (.iconst 1, 1) := by decide +kernel
theorem dX9_endBy_3 : decode cX9_endBy 3 = .ok (.if_icmp .ne 7, 3) := by decide +kernel
theorem dX9_endBy_6 : decode cX9_endBy 6 = .ok (.iconst 3, 1) := by decide +kernel
theorem dX9_endBy_7 : decode cX9_endBy 7 = .ok (.goto 4, 3) := by decide +kernel
theorem dX9_endBy_10 : decode cX9_endBy 10 = .ok (.iconst 4, 1) := by decide +kernel
theorem dX9_endBy_11 : decode cX9_endBy 11 = .ok (.invokevirtual 62, 3) := by decide +kernel
theorem dX9_endBy_14 : decode cX9_endBy 14 = .ok (.return_, 1) := by decide +kernel
theorem dX9_tell_0 : decode cX9_tell 0 = .ok (.iload_n 1, 1) := by decide +kernel
theorem dX9_tell_1 : decode cX9_tell 1 = .ok (.tableswitch 69 0 5 #[39, 44, 49, 54, 59, 64], 39) := by decide +kernel
theorem dX9_tell_40 : decode cX9_tell 40 = .ok (.aload_n 0, 1) := by decide +kernel
theorem dX9_tell_41 : decode cX9_tell 41 = .ok (.getfield 15, 3) := by decide +kernel
theorem dX9_tell_44 : decode cX9_tell 44 = .ok (.ireturn, 1) := by decide +kernel
theorem dX9_tell_45 : decode cX9_tell 45 = .ok (.aload_n 0, 1) := by decide +kernel
theorem dX9_tell_46 : decode cX9_tell 46 = .ok (.getfield 45, 3) := by decide +kernel
theorem dX9_tell_49 : decode cX9_tell 49 = .ok (.ireturn, 1) := by decide +kernel
theorem dX9_tell_50 : decode cX9_tell 50 = .ok (.aload_n 0, 1) := by decide +kernel
theorem dX9_tell_51 : decode cX9_tell 51 = .ok (.getfield 19, 3) := by decide +kernel
theorem dX9_tell_54 : decode cX9_tell 54 = .ok (.ireturn, 1) := by decide +kernel
theorem dX9_tell_55 : decode cX9_tell 55 = .ok (.aload_n 0, 1) := by decide +kernel
theorem dX9_tell_56 : decode cX9_tell 56 = .ok (.getfield 22, 3) := by decide +kernel
theorem dX9_tell_59 : decode cX9_tell 59 = .ok (.ireturn, 1) := by decide +kernel
theorem dX9_tell_60 : decode cX9_tell 60 = .ok (.aload_n 0, 1) := by decide +kernel
theorem dX9_tell_61 : decode cX9_tell 61 = .ok (.getfield 29, 3) := by decide +kernel
theorem dX9_tell_64 : decode cX9_tell 64 = .ok (.ireturn, 1) := by decide +kernel
theorem dX9_tell_65 : decode cX9_tell 65 = .ok (.aload_n 0, 1) := by decide +kernel
theorem dX9_tell_66 : decode cX9_tell 66 = .ok (.getfield 32, 3) := by decide +kernel
theorem dX9_tell_69 : decode cX9_tell 69 = .ok (.ireturn, 1) := by decide +kernel
theorem dX9_tell_70 : decode cX9_tell 70 = .ok (.iconst (-1), 1) := by decide +kernel
theorem dX9_tell_71 : decode cX9_tell 71 = .ok (.ireturn, 1) := by decide +kernel
