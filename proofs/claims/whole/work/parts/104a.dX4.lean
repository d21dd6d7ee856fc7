theorem dX4_init_0 : decode cX4_init 0 = .ok (.aload_n 0, 1) := by decide +kernel
theorem dX4_init_1 : decode cX4_init 1 = .ok (.invokespecial 3, 3) := by decide +kernel
theorem dX4_init_4 : decode cX4_init 4 = .ok (.aload_n 0, 1) := by decide +kernel
theorem dX4_init_5 : decode cX4_init 5 = .ok (.iconst 0, 1) := by decide +kernel
theorem dX4_init_6 : decode cX4_init 6 = .ok (.putfield 9, 3) := by decide +kernel
theorem dX4_init_9 : decode cX4_init 9 = .ok (.return_, 1) := by decide +kernel
theorem dX4_follow_0 : decode cX4_follow 0 = .ok (.aload_n 0, 1) := by decide +kernel
theorem dX4_follow_1 : decode cX4_follow 1 = .ok (.iconst 0, 1) := by decide +kernel
theorem dX4_follow_2 : decode cX4_follow 2 = .ok (.putfield 9, 3) := by decide +kernel
theorem dX4_follow_5 : decode cX4_follow 5 = .ok (.aload_n 0, 1) := by decide +kernel
theorem dX4_follow_6 : decode cX4_follow 6 = .ok (.iconst 0, 1) := by decide +kernel
theorem dX4_follow_7 : decode cX4_follow 7 = .ok (.putfield 15, 3) := by decide +kernel
theorem dX4_follow_10 : decode cX4_follow 10 = .ok (.aload_n 0, 1) := by decide +kernel
theorem dX4_follow_11 : decode cX4_follow 11 = .ok (.invokevirtual 18, 3) := by decide +kernel
theorem dX4_follow_14 : decode cX4_follow 14 = .ok (.aload_n 0, 1) := by decide +kernel
theorem dX4_follow_15 : decode cX4_follow 15 = .ok (.aconst_null, 1) := by decide +kernel
theorem dX4_follow_16 : decode cX4_follow 16 = .ok (.putfield 21, 3) := by decide +kernel
theorem dX4_follow_19 : decode cX4_follow 19 = .ok (.aload_n 0, 1) := by decide +kernel
theorem dX4_follow_20 : decode cX4_follow 20 = .ok (.iconst 0, 1) := by decide +kernel
theorem dX4_follow_21 : decode cX4_follow 21 = .ok (.putfield 25, 3) := by decide +kernel
theorem dX4_follow_24 : decode cX4_follow 24 = .ok (.return_, 1) := by decide +kernel
theorem dX4_followAbove_0 : decode cX4_followAbove 0 = .ok (.aload_n 0, 1) := by decide +kernel
theorem dX4_followAbove_1 : decode cX4_followAbove 1 = .ok (.getfield 15, 3) := by decide +kernel
theorem dX4_followAbove_4 : decode cX4_followAbove 4 = .ok (.iload_n 1, 1) := by decide +kernel
theorem dX4_followAbove_5 : decode cX4_followAbove 5 = .ok (.if_icmp .ge 7, 3) := by decide +kernel
theorem dX4_followAbove_8 : decode cX4_followAbove 8 = .ok (.aload_n 0, 1) := by decide +kernel
theorem dX4_followAbove_9 : decode cX4_followAbove 9 = .ok (.invokevirtual 28, 3) := by decide +kernel
theorem dX4_followAbove_12 : decode cX4_followAbove 12 = .ok (.return_, 1) := by decide +kernel
theorem dX4_stand_0 : decode cX4_stand 0 = .ok (.aload_n 0, 1) := by decide +kernel
theorem dX4_stand_1 : decode cX4_stand 1 = .ok (.invokevirtual 28, 3) := by decide +kernel
theorem dX4_stand_4 : decode cX4_stand 4 = .ok (.aload_n 0, 1) := by decide +kernel
theorem dX4_stand_5 : decode cX4_stand 5 = .ok (.iconst 1, 1) := by decide +kernel
theorem dX4_stand_6 : decode cX4_stand 6 = .ok (.putfield 9, 3) := by decide +kernel
theorem dX4_stand_9 : decode cX4_stand 9 = .ok (.aload_n 0, 1) := by decide +kernel
theorem dX4_stand_10 : decode cX4_stand 10 = .ok (.iload_n 1, 1) := by decide +kernel
theorem dX4_stand_11 : decode cX4_stand 11 = .ok (.putfield 15, 3) := by decide +kernel
theorem dX4_stand_14 : decode cX4_stand 14 = .ok (.aload_n 0, 1) := by decide +kernel
theorem dX4_stand_15 : decode cX4_stand 15 = .ok (.iconst 1, 1) := by decide +kernel
theorem dX4_stand_16 : decode cX4_stand 16 = .ok (.iload_n 2, 1) := by decide +kernel
theorem dX4_stand_17 : decode cX4_stand 17 = .ok (.ishl, 1) := by decide +kernel
theorem dX4_stand_18 : decode cX4_stand 18 = .ok (.putfield 31, 3) := by decide +kernel
theorem dX4_stand_21 : decode cX4_stand 21 = .ok (.return_, 1) := by decide +kernel
theorem dX4_lead_0 : decode cX4_lead 0 = .ok (.aload_n 0, 1) := by decide +kernel
theorem dX4_lead_1 : decode cX4_lead 1 = .ok (.iconst 2, 1) := by decide +kernel
theorem dX4_lead_2 : decode cX4_lead 2 = .ok (.putfield 9, 3) := by decide +kernel
theorem dX4_lead_5 : decode cX4_lead 5 = .ok (.aload_n 0, 1) := by decide +kernel
theorem dX4_lead_6 : decode cX4_lead 6 = .ok (.iconst 0, 1) := by decide +kernel
theorem dX4_lead_7 : decode cX4_lead 7 = .ok (.putfield 31, 3) := by decide +kernel
theorem dX4_lead_10 : decode cX4_lead 10 = .ok (.return_, 1) := by decide +kernel
theorem dX4_propose_0 : decode cX4_propose 0 = .ok (.aload_n 0, 1) := by decide +kernel
theorem dX4_propose_1 : decode cX4_propose 1 = .ok (.aload_n 1, 1) := by decide +kernel
theorem dX4_propose_2 : decode cX4_propose 2 = .ok (.putfield 34, 3) := by decide +kernel
theorem dX4_propose_5 : decode cX4_propose 5 = .ok (.aload_n 0, 1) := by decide +kernel
theorem dX4_propose_6 : decode cX4_propose 6 = .ok (.iconst 1, 1) := by decide +kernel
theorem dX4_propose_7 : decode cX4_propose 7 = .ok (.iload_n 2, 1) := by decide +kernel
theorem dX4_propose_8 : decode cX4_propose 8 = .ok (.ishl, 1) := by decide +kernel
theorem dX4_propose_9 : decode cX4_propose 9 = .ok (.putfield 31, 3) := by decide +kernel
theorem dX4_propose_12 : decode cX4_propose 12 = .ok (.return_, 1) := by decide +kernel
theorem dX4_dropProposed_0 : decode cX4_dropProposed 0 = .ok (.aload_n 0, 1) := by decide +kernel
theorem dX4_dropProposed_1 : decode cX4_dropProposed 1 = .ok (.aconst_null, 1) := by decide +kernel
theorem dX4_dropProposed_2 : decode cX4_dropProposed 2 = .ok (.putfield 34, 3) := by decide +kernel
theorem dX4_dropProposed_5 : decode cX4_dropProposed 5 = .ok (.aload_n 0, 1) := by decide +kernel
theorem dX4_dropProposed_6 : decode cX4_dropProposed 6 = .ok (.iconst 0, 1) := by decide +kernel
theorem dX4_dropProposed_7 : decode cX4_dropProposed 7 = .ok (.putfield 31, 3) := by decide +kernel
theorem dX4_dropProposed_10 : decode cX4_dropProposed 10 = .ok (.return_, 1) := by decide +kernel
theorem dX4_hear_0 : decode cX4_hear 0 = .ok (.aload_n 1, 1) := by decide +kernel
theorem dX4_hear_1 : decode cX4_hear 1 = .ok (.ifnull 28, 3) := by decide +kernel
theorem dX4_hear_4 : decode cX4_hear 4 = .ok (.aload_n 0, 1) := by decide +kernel
theorem dX4_hear_5 : decode cX4_hear 5 = .ok (.getfield 21, 3) := by decide +kernel
theorem dX4_hear_8 : decode cX4_hear 8 = .ok (.ifnull 11, 3) := by decide +kernel
theorem dX4_hear_11 : decode cX4_hear 11 = .ok (.iload_n 2, 1) := by decide +kernel
theorem dX4_hear_12 : decode cX4_hear 12 = .ok (.aload_n 0, 1) := by decide +kernel
theorem dX4_hear_13 : decode cX4_hear 13 = .ok (.getfield 25, 3) := by decide +kernel
theorem dX4_hear_16 : decode cX4_hear 16 = .ok (.if_icmp .le 13, 3) := by decide +kernel
theorem dX4_hear_19 : decode cX4_hear 19 = .ok (.aload_n 0, 1) := by decide +kernel
theorem dX4_hear_20 : decode cX4_hear 20 = .ok (.aload_n 1, 1) := by decide +kernel
theorem dX4_hear_21 : decode cX4_hear 21 = .ok (.putfield 21, 3) := by decide +kernel
theorem dX4_hear_24 : decode cX4_hear 24 = .ok (.aload_n 0, 1) := by decide +kernel
theorem dX4_hear_25 : decode cX4_hear 25 = .ok (.iload_n 2, 1) := by decide +kernel
theorem dX4_hear_26 : decode cX4_hear 26 = .ok (.putfield 25, 3) := by decide +kernel
theorem dX4_hear_29 : decode cX4_hear 29 = .ok (.return_, 1) := by decide +kernel
theorem dX4_is_0 : decode cX4_is 0 = .ok (.aload_n 0, 1) := by decide +kernel
theorem dX4_is_1 : decode cX4_is 1 = .ok (.getfield 9, 3) := by decide +kernel
theorem dX4_is_4 : decode cX4_is 4 = .ok (.iload_n 1, 1) := by decide +kernel
theorem dX4_is_5 : decode cX4_is 5 = .ok (.if_icmp .ne 15, 3) := by decide +kernel
theorem dX4_is_8 : decode cX4_is 8 = .ok (.aload_n 0, 1) := by decide +kernel
theorem dX4_is_9 : decode cX4_is 9 = .ok (.getfield 15, 3) := by decide +kernel
theorem dX4_is_12 : decode cX4_is 12 = .ok (.iload_n 2, 1) := by decide +kernel
theorem dX4_is_13 : decode cX4_is 13 = .ok (.if_icmp .ne 7, 3) := by decide +kernel
theorem dX4_is_16 : decode cX4_is 16 = .ok (.iconst 1, 1) := by decide +kernel
theorem dX4_is_17 : decode cX4_is 17 = .ok (.goto 4, 3) := by decide +kernel
theorem dX4_is_20 : decode cX4_is 20 = .ok (.iconst 0, 1) := by decide +kernel
theorem dX4_is_21 : decode cX4_is 21 = .ok (.ireturn, 1) := by decide +kernel
theorem dX4_hasAnswer_0 : decode cX4_hasAnswer 0 = .ok (.iload_n 1, 1) := by decide +kernel
theorem dX4_hasAnswer_1 : decode cX4_hasAnswer 1 = .ok (.aload_n 0, 1) := by decide +kernel
theorem dX4_hasAnswer_2 : decode cX4_hasAnswer 2 = .ok (.getfield 31, 3) := by decide +kernel
theorem dX4_hasAnswer_5 : decode cX4_hasAnswer 5 = .ok (.invokestatic 37, 3) := by decide +kernel
theorem dX4_hasAnswer_8 : decode cX4_hasAnswer 8 = .ok (.ireturn, 1) := by decide +kernel
theorem dX4_answer_0 : decode cX4_answer 0 = .ok (.aload_n 0, 1) := by decide +kernel
theorem dX4_answer_1 : decode cX4_answer 1 = .ok (.dup, 1) := by decide +kernel
theorem dX4_answer_2 : decode cX4_answer 2 = .ok (.getfield 31, 3) := by decide +kernel
theorem dX4_answer_5 : decode cX4_answer 5 = .ok (.iconst 1, 1) := by decide +kernel
theorem dX4_answer_6 : decode cX4_answer 6 = .ok (.iload_n 1, 1) := by decide +kernel
theorem dX4_answer_7 : decode cX4_answer 7 = .ok (.ishl, 1) := by decide +kernel
theorem dX4_answer_8 : decode cX4_answer 8 = .ok (.ior, 1) := by decide +kernel
theorem dX4_answer_9 : decode cX4_answer 9 = .ok (.putfield 31, 3) := by decide +kernel
theorem dX4_answer_12 : decode cX4_answer 12 = .ok (.iconst 2, 1) := by decide +kernel
theorem dX4_answer_13 : decode cX4_answer 13 = .ok (.aload_n 0, 1) := by decide +kernel
theorem dX4_answer_14 : decode cX4_answer 14 = .ok (.getfield 31, 3) := by decide +kernel
theorem dX4_answer_17 : decode cX4_answer 17 = .ok (.invokestatic 41, 3) := by decide +kernel
theorem dX4_answer_20 : decode cX4_answer 20 = .ok (.imul, 1) := by decide +kernel
theorem dX4_answer_21 : decode cX4_answer 21 = .ok (.iload_n 2, 1) := by decide +kernel
theorem dX4_answer_22 : decode cX4_answer 22 = .ok (.if_icmp .le 7, 3) := by decide +kernel
theorem dX4_answer_25 : decode cX4_answer 25 = .ok (.iconst 1, 1) := by decide +kernel
theorem dX4_answer_26 : decode cX4_answer 26 = .ok (.goto 4, 3) := by decide +kernel
theorem dX4_answer_29 : decode cX4_answer 29 = .ok (.iconst 0, 1) := by decide +kernel
theorem dX4_answer_30 : decode cX4_answer 30 = .ok (.ireturn, 1) := by decide +kernel
