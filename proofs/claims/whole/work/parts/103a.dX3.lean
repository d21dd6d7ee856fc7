theorem dX3_init_0 : decode cX3_init 0 = .ok (.aload_n 0, 1) := by decide +kernel
theorem dX3_init_1 : decode cX3_init 1 = .ok (.invokespecial 3, 3) := by decide +kernel
theorem dX3_init_4 : decode cX3_init 4 = .ok (.aload_n 0, 1) := by decide +kernel
theorem dX3_init_5 : decode cX3_init 5 = .ok (.sipush 200, 3) := by decide +kernel
theorem dX3_init_8 : decode cX3_init 8 = .ok (.anewarray 9, 3) := by decide +kernel
theorem dX3_init_11 : decode cX3_init 11 = .ok (.putfield 11, 3) := by decide +kernel
theorem dX3_init_14 : decode cX3_init 14 = .ok (.aload_n 0, 1) := by decide +kernel
theorem dX3_init_15 : decode cX3_init 15 = .ok (.new 9, 3) := by decide +kernel
theorem dX3_init_18 : decode cX3_init 18 = .ok (.dup, 1) := by decide +kernel
theorem dX3_init_19 : decode cX3_init 19 = .ok (.invokespecial 17, 3) := by decide +kernel
theorem dX3_init_22 : decode cX3_init 22 = .ok (.putfield 18, 3) := by decide +kernel
theorem dX3_init_25 : decode cX3_init 25 = .ok (.aload_n 0, 1) := by decide +kernel
theorem dX3_init_26 : decode cX3_init 26 = .ok (.new 9, 3) := by decide +kernel
theorem dX3_init_29 : decode cX3_init 29 = .ok (.dup, 1) := by decide +kernel
theorem dX3_init_30 : decode cX3_init 30 = .ok (.invokespecial 17, 3) := by decide +kernel
theorem dX3_init_33 : decode cX3_init 33 = .ok (.putfield 22, 3) := by decide +kernel
theorem dX3_init_36 : decode cX3_init 36 = .ok (.iconst 0, 1) := by decide +kernel
theorem dX3_init_37 : decode cX3_init 37 = .ok (.istore_n 1, 1) := by decide +kernel
theorem dX3_init_38 : decode cX3_init 38 = .ok (.iload_n 1, 1) := by decide +kernel
theorem dX3_init_39 : decode cX3_init 39 = .ok (.sipush 200, 3) := by decide +kernel
theorem dX3_init_42 : decode cX3_init 42 = .ok (.if_icmp .ge 22, 3) := by decide +kernel
theorem dX3_init_45 : decode cX3_init 45 = .ok (.aload_n 0, 1) := by decide +kernel
theorem dX3_init_46 : decode cX3_init 46 = .ok (.getfield 11, 3) := by decide +kernel
theorem dX3_init_49 : decode cX3_init 49 = .ok (.iload_n 1, 1) := by decide +kernel
theorem dX3_init_50 : decode cX3_init 50 = .ok (.new 9, 3) := by decide +kernel
theorem dX3_init_53 : decode cX3_init 53 = .ok (.dup, 1) := by decide +kernel
theorem dX3_init_54 : decode cX3_init 54 = .ok (.invokespecial 17, 3) := by decide +kernel
theorem dX3_init_57 : decode cX3_init 57 = .ok (.aastore, 1) := by decide +kernel
theorem dX3_init_58 : decode cX3_init 58 = .ok (.iinc 1 1, 3) := by decide +kernel
theorem dX3_init_61 : decode cX3_init 61 = .ok (.goto (-23), 3) := by decide +kernel
theorem dX3_init_64 : decode cX3_init 64 = .ok (.return_, 1) := by decide +kernel
theorem dX3_look_0 : decode cX3_look 0 = .ok (.iload_n 1, 1) := by decide +kernel
theorem dX3_look_1 : decode cX3_look 1 = .ok (.ifCond .lt 20, 3) := by decide +kernel
theorem dX3_look_4 : decode cX3_look 4 = .ok (.iload_n 1, 1) := by decide +kernel
theorem dX3_look_5 : decode cX3_look 5 = .ok (.aload_n 0, 1) := by decide +kernel
theorem dX3_look_6 : decode cX3_look 6 = .ok (.getfield 25, 3) := by decide +kernel
theorem dX3_look_9 : decode cX3_look 9 = .ok (.if_icmp .ge 12, 3) := by decide +kernel
theorem dX3_look_12 : decode cX3_look 12 = .ok (.aload_n 0, 1) := by decide +kernel
theorem dX3_look_13 : decode cX3_look 13 = .ok (.getfield 11, 3) := by decide +kernel
theorem dX3_look_16 : decode cX3_look 16 = .ok (.iload_n 1, 1) := by decide +kernel
theorem dX3_look_17 : decode cX3_look 17 = .ok (.aaload, 1) := by decide +kernel
theorem dX3_look_18 : decode cX3_look 18 = .ok (.goto 4, 3) := by decide +kernel
theorem dX3_look_21 : decode cX3_look 21 = .ok (.aconst_null, 1) := by decide +kernel
theorem dX3_look_22 : decode cX3_look 22 = .ok (.areturn, 1) := by decide +kernel
theorem dX3_take_0 : decode cX3_take 0 = .ok (.aload_n 0, 1) := by decide +kernel
theorem dX3_take_1 : decode cX3_take 1 = .ok (.iload_n 1, 1) := by decide +kernel
theorem dX3_take_2 : decode cX3_take 2 = .ok (.invokevirtual 29, 3) := by decide +kernel
theorem dX3_take_5 : decode cX3_take 5 = .ok (.astore_n 2, 1) := by decide +kernel
theorem dX3_take_6 : decode cX3_take 6 = .ok (.aload_n 2, 1) := by decide +kernel
theorem dX3_take_7 : decode cX3_take 7 = .ok (.ifnonnull 5, 3) := by decide +kernel
theorem dX3_take_10 : decode cX3_take 10 = .ok (.aconst_null, 1) := by decide +kernel
theorem dX3_take_11 : decode cX3_take 11 = .ok (.areturn, 1) := by decide +kernel
theorem dX3_take_12 : decode cX3_take 12 = .ok (.iload_n 1, 1) := by decide +kernel
theorem dX3_take_13 : decode cX3_take 13 = .ok (.istore_n 3, 1) := by decide +kernel
theorem dX3_take_14 : decode cX3_take 14 = .ok (.iload_n 3, 1) := by decide +kernel
theorem dX3_take_15 : decode cX3_take 15 = .ok (.iconst 1, 1) := by decide +kernel
theorem dX3_take_16 : decode cX3_take 16 = .ok (.iadd, 1) := by decide +kernel
theorem dX3_take_17 : decode cX3_take 17 = .ok (.aload_n 0, 1) := by decide +kernel
theorem dX3_take_18 : decode cX3_take 18 = .ok (.getfield 25, 3) := by decide +kernel
theorem dX3_take_21 : decode cX3_take 21 = .ok (.if_icmp .ge 23, 3) := by decide +kernel
theorem dX3_take_24 : decode cX3_take 24 = .ok (.aload_n 0, 1) := by decide +kernel
theorem dX3_take_25 : decode cX3_take 25 = .ok (.getfield 11, 3) := by decide +kernel
theorem dX3_take_28 : decode cX3_take 28 = .ok (.iload_n 3, 1) := by decide +kernel
theorem dX3_take_29 : decode cX3_take 29 = .ok (.aload_n 0, 1) := by decide +kernel
theorem dX3_take_30 : decode cX3_take 30 = .ok (.getfield 11, 3) := by decide +kernel
theorem dX3_take_33 : decode cX3_take 33 = .ok (.iload_n 3, 1) := by decide +kernel
theorem dX3_take_34 : decode cX3_take 34 = .ok (.iconst 1, 1) := by decide +kernel
theorem dX3_take_35 : decode cX3_take 35 = .ok (.iadd, 1) := by decide +kernel
theorem dX3_take_36 : decode cX3_take 36 = .ok (.aaload, 1) := by decide +kernel
theorem dX3_take_37 : decode cX3_take 37 = .ok (.aastore, 1) := by decide +kernel
theorem dX3_take_38 : decode cX3_take 38 = .ok (.iinc 3 1, 3) := by decide +kernel
theorem dX3_take_41 : decode cX3_take 41 = .ok (.goto (-27), 3) := by decide +kernel
theorem dX3_take_44 : decode cX3_take 44 = .ok (.aload_n 0, 1) := by decide +kernel
theorem dX3_take_45 : decode cX3_take 45 = .ok (.dup, 1) := by decide +kernel
theorem dX3_take_46 : decode cX3_take 46 = .ok (.getfield 25, 3) := by decide +kernel
theorem dX3_take_49 : decode cX3_take 49 = .ok (.iconst 1, 1) := by decide +kernel
theorem dX3_take_50 : decode cX3_take 50 = .ok (.isub, 1) := by decide +kernel
theorem dX3_take_51 : decode cX3_take 51 = .ok (.putfield 25, 3) := by decide +kernel
theorem dX3_take_54 : decode cX3_take 54 = .ok (.aload_n 0, 1) := by decide +kernel
theorem dX3_take_55 : decode cX3_take 55 = .ok (.getfield 11, 3) := by decide +kernel
theorem dX3_take_58 : decode cX3_take 58 = .ok (.aload_n 0, 1) := by decide +kernel
theorem dX3_take_59 : decode cX3_take 59 = .ok (.getfield 25, 3) := by decide +kernel
theorem dX3_take_62 : decode cX3_take 62 = .ok (.aload_n 0, 1) := by decide +kernel
theorem dX3_take_63 : decode cX3_take 63 = .ok (.getfield 18, 3) := by decide +kernel
theorem dX3_take_66 : decode cX3_take 66 = .ok (.aastore, 1) := by decide +kernel
theorem dX3_take_67 : decode cX3_take 67 = .ok (.aload_n 0, 1) := by decide +kernel
theorem dX3_take_68 : decode cX3_take 68 = .ok (.aload_n 2, 1) := by decide +kernel
theorem dX3_take_69 : decode cX3_take 69 = .ok (.putfield 18, 3) := by decide +kernel
theorem dX3_take_72 : decode cX3_take 72 = .ok (.aload_n 2, 1) := by decide +kernel
theorem dX3_take_73 : decode cX3_take 73 = .ok (.areturn, 1) := by decide +kernel
theorem dX3_send_0 : decode cX3_send 0 = .ok (.aload_n 0, 1) := by decide +kernel
theorem dX3_send_1 : decode cX3_send 1 = .ok (.dup, 1) := by decide +kernel
theorem dX3_send_2 : decode cX3_send 2 = .ok (.getfield 33, 3) := by decide +kernel
theorem dX3_send_5 : decode cX3_send 5 = .ok (.iconst 1, 1) := by decide +kernel
theorem dX3_send_6 : decode cX3_send 6 = .ok (.iadd, 1) := by decide +kernel
theorem dX3_send_7 : decode cX3_send 7 = .ok (.putfield 33, 3) := by decide +kernel
theorem dX3_send_10 : decode cX3_send 10 = .ok (.aload_n 0, 1) := by decide +kernel
theorem dX3_send_11 : decode cX3_send 11 = .ok (.getfield 25, 3) := by decide +kernel
theorem dX3_send_14 : decode cX3_send 14 = .ok (.sipush 200, 3) := by decide +kernel
theorem dX3_send_17 : decode cX3_send 17 = .ok (.if_icmp .lt 18, 3) := by decide +kernel
theorem dX3_send_20 : decode cX3_send 20 = .ok (.aload_n 0, 1) := by decide +kernel
theorem dX3_send_21 : decode cX3_send 21 = .ok (.dup, 1) := by decide +kernel
theorem dX3_send_22 : decode cX3_send 22 = .ok (.getfield 36, 3) := by decide +kernel
theorem dX3_send_25 : decode cX3_send 25 = .ok (.iconst 1, 1) := by decide +kernel
theorem dX3_send_26 : decode cX3_send 26 = .ok (.iadd, 1) := by decide +kernel
theorem dX3_send_27 : decode cX3_send 27 = .ok (.putfield 36, 3) := by decide +kernel
theorem dX3_send_30 : decode cX3_send 30 = .ok (.aload_n 0, 1) := by decide +kernel
theorem dX3_send_31 : decode cX3_send 31 = .ok (.getfield 22, 3) := by decide +kernel
theorem dX3_send_34 : decode cX3_send 34 = .ok (.areturn, 1) := by decide +kernel
theorem dX3_send_35 : decode cX3_send 35 = .ok (.aload_n 0, 1) := by decide +kernel
theorem dX3_send_36 : decode cX3_send 36 = .ok (.dup, 1) := by decide +kernel
theorem dX3_send_37 : decode cX3_send 37 = .ok (.getfield 25, 3) := by decide +kernel
theorem dX3_send_40 : decode cX3_send 40 = .ok (.iconst 1, 1) := by decide +kernel
theorem dX3_send_41 : decode cX3_send 41 = .ok (.iadd, 1) := by decide +kernel
theorem dX3_send_42 : decode cX3_send 42 = .ok (.putfield 25, 3) := by decide +kernel
theorem dX3_send_45 : decode cX3_send 45 = .ok (.aload_n 0, 1) := by decide +kernel
theorem dX3_send_46 : decode cX3_send 46 = .ok (.getfield 11, 3) := by decide +kernel
theorem dX3_send_49 : decode cX3_send 49 = .ok (.aload_n 0, 1) := by decide +kernel
theorem dX3_send_50 : decode cX3_send 50 = .ok (.getfield 25, 3) := by decide +kernel
theorem dX3_send_53 : decode cX3_send 53 = .ok (.iconst 1, 1) := by decide +kernel
theorem dX3_send_54 : decode cX3_send 54 = .ok (.isub, 1) := by decide +kernel
theorem dX3_send_55 : decode cX3_send 55 = .ok (.aaload, 1) := by decide +kernel
theorem dX3_send_56 : decode cX3_send 56 = .ok (.areturn, 1) := by decide +kernel
theorem dX3_repeat_0 : decode cX3_repeat 0 = .ok (.aload_n 0, 1) := by decide +kernel
theorem dX3_repeat_1 : decode cX3_repeat 1 = .ok (.getfield 25, 3) := by decide +kernel
theorem dX3_repeat_4 : decode cX3_repeat 4 = .ok (.sipush 200, 3) := by decide +kernel
theorem dX3_repeat_7 : decode cX3_repeat 7 = .ok (.if_icmp .ge 26, 3) := by decide +kernel
theorem dX3_repeat_10 : decode cX3_repeat 10 = .ok (.aload_n 0, 1) := by decide +kernel
theorem dX3_repeat_11 : decode cX3_repeat 11 = .ok (.getfield 11, 3) := by decide +kernel
theorem dX3_repeat_14 : decode cX3_repeat 14 = .ok (.aload_n 0, 1) := by decide +kernel
theorem dX3_repeat_15 : decode cX3_repeat 15 = .ok (.getfield 25, 3) := by decide +kernel
theorem dX3_repeat_18 : decode cX3_repeat 18 = .ok (.aaload, 1) := by decide +kernel
theorem dX3_repeat_19 : decode cX3_repeat 19 = .ok (.aload_n 1, 1) := by decide +kernel
theorem dX3_repeat_20 : decode cX3_repeat 20 = .ok (.invokevirtual 39, 3) := by decide +kernel
theorem dX3_repeat_23 : decode cX3_repeat 23 = .ok (.aload_n 0, 1) := by decide +kernel
theorem dX3_repeat_24 : decode cX3_repeat 24 = .ok (.dup, 1) := by decide +kernel
theorem dX3_repeat_25 : decode cX3_repeat 25 = .ok (.getfield 25, 3) := by decide +kernel
theorem dX3_repeat_28 : decode cX3_repeat 28 = .ok (.iconst 1, 1) := by decide +kernel
theorem dX3_repeat_29 : decode cX3_repeat 29 = .ok (.iadd, 1) := by decide +kernel
theorem dX3_repeat_30 : decode cX3_repeat 30 = .ok (.putfield 25, 3) := by decide +kernel
theorem dX3_repeat_33 : decode cX3_repeat 33 = .ok (.return_, 1) := by decide +kernel
