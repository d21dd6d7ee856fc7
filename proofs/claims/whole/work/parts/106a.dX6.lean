theorem dX6_init_0 : decode cX6_init 0 = .ok (.aload_n 0, 1) := by decide +kernel
theorem dX6_init_1 : decode cX6_init 1 = .ok (.invokespecial 3, 3) := by decide +kernel
theorem dX6_init_4 : decode cX6_init 4 = .ok (.aload_n 0, 1) := by decide +kernel
theorem dX6_init_5 : decode cX6_init 5 = .ok (.bipush 8, 2) := by decide +kernel
theorem dX6_init_7 : decode cX6_init 7 = .ok (.anewarray 9, 3) := by decide +kernel
theorem dX6_init_10 : decode cX6_init 10 = .ok (.putfield 11, 3) := by decide +kernel
theorem dX6_init_13 : decode cX6_init 13 = .ok (.return_, 1) := by decide +kernel
theorem dX6_clear_0 : decode cX6_clear 0 = .ok (.aload_n 0, 1) := by decide +kernel
theorem dX6_clear_1 : decode cX6_clear 1 = .ok (.iconst 0, 1) := by decide +kernel
theorem dX6_clear_2 : decode cX6_clear 2 = .ok (.putfield 17, 3) := by decide +kernel
theorem dX6_clear_5 : decode cX6_clear 5 = .ok (.return_, 1) := by decide +kernel
theorem dX6_add_0 : decode cX6_add 0 = .ok (.aload_n 1, 1) := by decide +kernel
theorem dX6_add_1 : decode cX6_add 1 = .ok (.ifnull 12, 3) := by decide +kernel
theorem dX6_add_4 : decode cX6_add 4 = .ok (.aload_n 0, 1) := by decide +kernel
theorem dX6_add_5 : decode cX6_add 5 = .ok (.getfield 17, 3) := by decide +kernel
theorem dX6_add_8 : decode cX6_add 8 = .ok (.bipush 8, 2) := by decide +kernel
theorem dX6_add_10 : decode cX6_add 10 = .ok (.if_icmp .lt 4, 3) := by decide +kernel
theorem dX6_add_13 : decode cX6_add 13 = .ok (.return_, 1) := by decide +kernel
theorem dX6_add_14 : decode cX6_add 14 = .ok (.iconst 0, 1) := by decide +kernel
theorem dX6_add_15 : decode cX6_add 15 = .ok (.istore_n 2, 1) := by decide +kernel
theorem dX6_add_16 : decode cX6_add 16 = .ok (.iload_n 2, 1) := by decide +kernel
theorem dX6_add_17 : decode cX6_add 17 = .ok (.aload_n 0, 1) := by decide +kernel
theorem dX6_add_18 : decode cX6_add 18 = .ok (.getfield 17, 3) := by decide +kernel
theorem dX6_add_21 : decode cX6_add 21 = .ok (.if_icmp .ge 23, 3) := by decide +kernel
theorem dX6_add_24 : decode cX6_add 24 = .ok (.aload_n 0, 1) := by decide +kernel
theorem dX6_add_25 : decode cX6_add 25 = .ok (.getfield 11, 3) := by decide +kernel
theorem dX6_add_28 : decode cX6_add 28 = .ok (.iload_n 2, 1) := by decide +kernel
theorem dX6_add_29 : decode cX6_add 29 = .ok (.aaload, 1) := by decide +kernel
theorem dX6_add_30 : decode cX6_add 30 = .ok (.aload_n 1, 1) := by decide +kernel
theorem dX6_add_31 : decode cX6_add 31 = .ok (.invokevirtual 21, 3) := by decide +kernel
theorem dX6_add_34 : decode cX6_add 34 = .ok (.ifCond .eq 4, 3) := by decide +kernel
theorem dX6_add_37 : decode cX6_add 37 = .ok (.return_, 1) := by decide +kernel
theorem dX6_add_38 : decode cX6_add 38 = .ok (.iinc 2 1, 3) := by decide +kernel
theorem dX6_add_41 : decode cX6_add 41 = .ok (.goto (-25), 3) := by decide +kernel
theorem dX6_add_44 : decode cX6_add 44 = .ok (.aload_n 0, 1) := by decide +kernel
theorem dX6_add_45 : decode cX6_add 45 = .ok (.getfield 11, 3) := by decide +kernel
theorem dX6_add_48 : decode cX6_add 48 = .ok (.aload_n 0, 1) := by decide +kernel
theorem dX6_add_49 : decode cX6_add 49 = .ok (.getfield 17, 3) := by decide +kernel
theorem dX6_add_52 : decode cX6_add 52 = .ok (.aload_n 1, 1) := by decide +kernel
theorem dX6_add_53 : decode cX6_add 53 = .ok (.aastore, 1) := by decide +kernel
theorem dX6_add_54 : decode cX6_add 54 = .ok (.aload_n 0, 1) := by decide +kernel
theorem dX6_add_55 : decode cX6_add 55 = .ok (.dup, 1) := by decide +kernel
theorem dX6_add_56 : decode cX6_add 56 = .ok (.getfield 17, 3) := by decide +kernel
theorem dX6_add_59 : decode cX6_add 59 = .ok (.iconst 1, 1) := by decide +kernel
theorem dX6_add_60 : decode cX6_add 60 = .ok (.iadd, 1) := by decide +kernel
theorem dX6_add_61 : decode cX6_add 61 = .ok (.putfield 17, 3) := by decide +kernel
theorem dX6_add_64 : decode cX6_add 64 = .ok (.return_, 1) := by decide +kernel
theorem dX6_first_0 : decode cX6_first 0 = .ok (.aload_n 0, 1) := by decide +kernel
theorem dX6_first_1 : decode cX6_first 1 = .ok (.getfield 17, 3) := by decide +kernel
theorem dX6_first_4 : decode cX6_first 4 = .ok (.ifCond .le 12, 3) := by decide +kernel
theorem dX6_first_7 : decode cX6_first 7 = .ok (.aload_n 0, 1) := by decide +kernel
theorem dX6_first_8 : decode cX6_first 8 = .ok (.getfield 11, 3) := by decide +kernel
theorem dX6_first_11 : decode cX6_first 11 = .ok (.iconst 0, 1) := by decide +kernel
theorem dX6_first_12 : decode cX6_first 12 = .ok (.aaload, 1) := by decide +kernel
theorem dX6_first_13 : decode cX6_first 13 = .ok (.goto 4, 3) := by decide +kernel
theorem dX6_first_16 : decode cX6_first 16 = .ok (.aconst_null, 1) := by decide +kernel
theorem dX6_first_17 : decode cX6_first 17 = .ok (.areturn, 1) := by decide +kernel
theorem dX6_advance_0 : decode cX6_advance 0 = .ok (.iconst 0, 1) := by decide +kernel
theorem dX6_advance_1 : decode cX6_advance 1 = .ok (.istore_n 2, 1) := by decide +kernel
theorem dX6_advance_2 : decode cX6_advance 2 = .ok (.iload_n 2, 1) := by decide +kernel
theorem dX6_advance_3 : decode cX6_advance 3 = .ok (.aload_n 0, 1) := by decide +kernel
theorem dX6_advance_4 : decode cX6_advance 4 = .ok (.getfield 17, 3) := by decide +kernel
theorem dX6_advance_7 : decode cX6_advance 7 = .ok (.if_icmp .ge 34, 3) := by decide +kernel
theorem dX6_advance_10 : decode cX6_advance 10 = .ok (.aload_n 1, 1) := by decide +kernel
theorem dX6_advance_11 : decode cX6_advance 11 = .ok (.aload_n 0, 1) := by decide +kernel
theorem dX6_advance_12 : decode cX6_advance 12 = .ok (.getfield 11, 3) := by decide +kernel
theorem dX6_advance_15 : decode cX6_advance 15 = .ok (.iload_n 2, 1) := by decide +kernel
theorem dX6_advance_16 : decode cX6_advance 16 = .ok (.aaload, 1) := by decide +kernel
theorem dX6_advance_17 : decode cX6_advance 17 = .ok (.invokevirtual 25, 3) := by decide +kernel
theorem dX6_advance_20 : decode cX6_advance 20 = .ok (.ifCond .eq 15, 3) := by decide +kernel
theorem dX6_advance_23 : decode cX6_advance 23 = .ok (.aload_n 0, 1) := by decide +kernel
theorem dX6_advance_24 : decode cX6_advance 24 = .ok (.iload_n 2, 1) := by decide +kernel
theorem dX6_advance_25 : decode cX6_advance 25 = .ok (.invokevirtual 30, 3) := by decide +kernel
theorem dX6_advance_28 : decode cX6_advance 28 = .ok (.aload_n 0, 1) := by decide +kernel
theorem dX6_advance_29 : decode cX6_advance 29 = .ok (.getfield 11, 3) := by decide +kernel
theorem dX6_advance_32 : decode cX6_advance 32 = .ok (.iconst 0, 1) := by decide +kernel
theorem dX6_advance_33 : decode cX6_advance 33 = .ok (.aaload, 1) := by decide +kernel
theorem dX6_advance_34 : decode cX6_advance 34 = .ok (.areturn, 1) := by decide +kernel
theorem dX6_advance_35 : decode cX6_advance 35 = .ok (.iinc 2 1, 3) := by decide +kernel
theorem dX6_advance_38 : decode cX6_advance 38 = .ok (.goto (-36), 3) := by decide +kernel
theorem dX6_advance_41 : decode cX6_advance 41 = .ok (.aconst_null, 1) := by decide +kernel
theorem dX6_advance_42 : decode cX6_advance 42 = .ok (.areturn, 1) := by decide +kernel
theorem dX6_dropFirst_0 : decode cX6_dropFirst 0 = .ok (.iload_n 1, 1) := by decide +kernel
theorem dX6_dropFirst_1 : decode cX6_dropFirst 1 = .ok (.istore_n 2, 1) := by decide +kernel
theorem dX6_dropFirst_2 : decode cX6_dropFirst 2 = .ok (.iload_n 2, 1) := by decide +kernel
theorem dX6_dropFirst_3 : decode cX6_dropFirst 3 = .ok (.aload_n 0, 1) := by decide +kernel
theorem dX6_dropFirst_4 : decode cX6_dropFirst 4 = .ok (.getfield 17, 3) := by decide +kernel
theorem dX6_dropFirst_7 : decode cX6_dropFirst 7 = .ok (.if_icmp .ge 23, 3) := by decide +kernel
theorem dX6_dropFirst_10 : decode cX6_dropFirst 10 = .ok (.aload_n 0, 1) := by decide +kernel
theorem dX6_dropFirst_11 : decode cX6_dropFirst 11 = .ok (.getfield 11, 3) := by decide +kernel
theorem dX6_dropFirst_14 : decode cX6_dropFirst 14 = .ok (.iload_n 2, 1) := by decide +kernel
theorem dX6_dropFirst_15 : decode cX6_dropFirst 15 = .ok (.iload_n 1, 1) := by decide +kernel
theorem dX6_dropFirst_16 : decode cX6_dropFirst 16 = .ok (.isub, 1) := by decide +kernel
theorem dX6_dropFirst_17 : decode cX6_dropFirst 17 = .ok (.aload_n 0, 1) := by decide +kernel
theorem dX6_dropFirst_18 : decode cX6_dropFirst 18 = .ok (.getfield 11, 3) := by decide +kernel
theorem dX6_dropFirst_21 : decode cX6_dropFirst 21 = .ok (.iload_n 2, 1) := by decide +kernel
theorem dX6_dropFirst_22 : decode cX6_dropFirst 22 = .ok (.aaload, 1) := by decide +kernel
theorem dX6_dropFirst_23 : decode cX6_dropFirst 23 = .ok (.aastore, 1) := by decide +kernel
theorem dX6_dropFirst_24 : decode cX6_dropFirst 24 = .ok (.iinc 2 1, 3) := by decide +kernel
theorem dX6_dropFirst_27 : decode cX6_dropFirst 27 = .ok (.goto (-25), 3) := by decide +kernel
theorem dX6_dropFirst_30 : decode cX6_dropFirst 30 = .ok (.aload_n 0, 1) := by decide +kernel
theorem dX6_dropFirst_31 : decode cX6_dropFirst 31 = .ok (.dup, 1) := by decide +kernel
theorem dX6_dropFirst_32 : decode cX6_dropFirst 32 = .ok (.getfield 17, 3) := by decide +kernel
theorem dX6_dropFirst_35 : decode cX6_dropFirst 35 = .ok (.iload_n 1, 1) := by decide +kernel
theorem dX6_dropFirst_36 : decode cX6_dropFirst 36 = .ok (.isub, 1) := by decide +kernel
theorem dX6_dropFirst_37 : decode cX6_dropFirst 37 = .ok (.putfield 17, 3) := by decide +kernel
theorem dX6_dropFirst_40 : decode cX6_dropFirst 40 = .ok (.return_, 1) := by decide +kernel
theorem dX6_dropDecided_0 : decode cX6_dropDecided 0 = .ok (.iconst 0, 1) := by decide +kernel
theorem dX6_dropDecided_1 : decode cX6_dropDecided 1 = .ok (.istore_n 2, 1) := by decide +kernel
theorem dX6_dropDecided_2 : decode cX6_dropDecided 2 = .ok (.iconst 0, 1) := by decide +kernel
theorem dX6_dropDecided_3 : decode cX6_dropDecided 3 = .ok (.istore_n 3, 1) := by decide +kernel
theorem dX6_dropDecided_4 : decode cX6_dropDecided 4 = .ok (.iload_n 3, 1) := by decide +kernel
theorem dX6_dropDecided_5 : decode cX6_dropDecided 5 = .ok (.aload_n 0, 1) := by decide +kernel
theorem dX6_dropDecided_6 : decode cX6_dropDecided 6 = .ok (.getfield 17, 3) := by decide +kernel
theorem dX6_dropDecided_9 : decode cX6_dropDecided 9 = .ok (.if_icmp .ge 37, 3) := by decide +kernel
theorem dX6_dropDecided_12 : decode cX6_dropDecided 12 = .ok (.aload_n 1, 1) := by decide +kernel
theorem dX6_dropDecided_13 : decode cX6_dropDecided 13 = .ok (.aload_n 0, 1) := by decide +kernel
theorem dX6_dropDecided_14 : decode cX6_dropDecided 14 = .ok (.getfield 11, 3) := by decide +kernel
theorem dX6_dropDecided_17 : decode cX6_dropDecided 17 = .ok (.iload_n 3, 1) := by decide +kernel
theorem dX6_dropDecided_18 : decode cX6_dropDecided 18 = .ok (.aaload, 1) := by decide +kernel
theorem dX6_dropDecided_19 : decode cX6_dropDecided 19 = .ok (.invokevirtual 25, 3) := by decide +kernel
theorem dX6_dropDecided_22 : decode cX6_dropDecided 22 = .ok (.ifCond .eq 18, 3) := by decide +kernel
theorem dX6_dropDecided_25 : decode cX6_dropDecided 25 = .ok (.aload_n 0, 1) := by decide +kernel
theorem dX6_dropDecided_26 : decode cX6_dropDecided 26 = .ok (.getfield 11, 3) := by decide +kernel
theorem dX6_dropDecided_29 : decode cX6_dropDecided 29 = .ok (.iload_n 2, 1) := by decide +kernel
theorem dX6_dropDecided_30 : decode cX6_dropDecided 30 = .ok (.aload_n 0, 1) := by decide +kernel
theorem dX6_dropDecided_31 : decode cX6_dropDecided 31 = .ok (.getfield 11, 3) := by decide +kernel
theorem dX6_dropDecided_34 : decode cX6_dropDecided 34 = .ok (.iload_n 3, 1) := by decide +kernel
theorem dX6_dropDecided_35 : decode cX6_dropDecided 35 = .ok (.aaload, 1) := by decide +kernel
theorem dX6_dropDecided_36 : decode cX6_dropDecided 36 = .ok (.aastore, 1) := by decide +kernel
theorem dX6_dropDecided_37 : decode cX6_dropDecided 37 = .ok (.iinc 2 1, 3) := by decide +kernel
theorem dX6_dropDecided_40 : decode cX6_dropDecided 40 = .ok (.iinc 3 1, 3) := by decide +kernel
theorem dX6_dropDecided_43 : decode cX6_dropDecided 43 = .ok (.goto (-39), 3) := by decide +kernel
theorem dX6_dropDecided_46 : decode cX6_dropDecided 46 = .ok (.aload_n 0, 1) := by decide +kernel
theorem dX6_dropDecided_47 : decode cX6_dropDecided 47 = .ok (.iload_n 2, 1) := by decide +kernel
theorem dX6_dropDecided_48 : decode cX6_dropDecided 48 = .ok (.putfield 17, 3) := by decide +kernel
theorem dX6_dropDecided_51 : decode cX6_dropDecided 51 = .ok (.return_, 1) := by decide +kernel
