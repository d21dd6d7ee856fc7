theorem dX1_init_0 : decode cX1_init 0 = .ok (.aload_n 0, 1) := by decide +kernel
theorem dX1_init_1 : decode cX1_init 1 = .ok (.invokespecial 3, 3) := by decide +kernel
theorem dX1_init_4 : decode cX1_init 4 = .ok (.aload_n 0, 1) := by decide +kernel
theorem dX1_init_5 : decode cX1_init 5 = .ok (.iconst (-1), 1) := by decide +kernel
theorem dX1_init_6 : decode cX1_init 6 = .ok (.putfield 9, 3) := by decide +kernel
theorem dX1_init_9 : decode cX1_init 9 = .ok (.aload_n 0, 1) := by decide +kernel
theorem dX1_init_10 : decode cX1_init 10 = .ok (.iconst (-1), 1) := by decide +kernel
theorem dX1_init_11 : decode cX1_init 11 = .ok (.putfield 15, 3) := by decide +kernel
theorem dX1_init_14 : decode cX1_init 14 = .ok (.return_, 1) := by decide +kernel
theorem dX1_address_0 : decode cX1_address 0 = .ok (.aload_n 0, 1) := by decide +kernel
theorem dX1_address_1 : decode cX1_address 1 = .ok (.iload_n 1, 1) := by decide +kernel
theorem dX1_address_2 : decode cX1_address 2 = .ok (.putfield 18, 3) := by decide +kernel
theorem dX1_address_5 : decode cX1_address 5 = .ok (.aload_n 0, 1) := by decide +kernel
theorem dX1_address_6 : decode cX1_address 6 = .ok (.iload_n 2, 1) := by decide +kernel
theorem dX1_address_7 : decode cX1_address 7 = .ok (.putfield 21, 3) := by decide +kernel
theorem dX1_address_10 : decode cX1_address 10 = .ok (.aload_n 0, 1) := by decide +kernel
theorem dX1_address_11 : decode cX1_address 11 = .ok (.iload_n 3, 1) := by decide +kernel
theorem dX1_address_12 : decode cX1_address 12 = .ok (.putfield 24, 3) := by decide +kernel
theorem dX1_address_15 : decode cX1_address 15 = .ok (.aload_n 0, 1) := by decide +kernel
theorem dX1_address_16 : decode cX1_address 16 = .ok (.aconst_null, 1) := by decide +kernel
theorem dX1_address_17 : decode cX1_address 17 = .ok (.putfield 27, 3) := by decide +kernel
theorem dX1_address_20 : decode cX1_address 20 = .ok (.aload_n 0, 1) := by decide +kernel
theorem dX1_address_21 : decode cX1_address 21 = .ok (.iconst 0, 1) := by decide +kernel
theorem dX1_address_22 : decode cX1_address 22 = .ok (.putfield 31, 3) := by decide +kernel
theorem dX1_address_25 : decode cX1_address 25 = .ok (.aload_n 0, 1) := by decide +kernel
theorem dX1_address_26 : decode cX1_address 26 = .ok (.aconst_null, 1) := by decide +kernel
theorem dX1_address_27 : decode cX1_address 27 = .ok (.putfield 34, 3) := by decide +kernel
theorem dX1_address_30 : decode cX1_address 30 = .ok (.aload_n 0, 1) := by decide +kernel
theorem dX1_address_31 : decode cX1_address 31 = .ok (.iconst (-1), 1) := by decide +kernel
theorem dX1_address_32 : decode cX1_address 32 = .ok (.putfield 9, 3) := by decide +kernel
theorem dX1_address_35 : decode cX1_address 35 = .ok (.aload_n 0, 1) := by decide +kernel
theorem dX1_address_36 : decode cX1_address 36 = .ok (.iconst (-1), 1) := by decide +kernel
theorem dX1_address_37 : decode cX1_address 37 = .ok (.putfield 15, 3) := by decide +kernel
theorem dX1_address_40 : decode cX1_address 40 = .ok (.return_, 1) := by decide +kernel
theorem dX1_say_0 : decode cX1_say 0 = .ok (.aload_n 0, 1) := by decide +kernel
theorem dX1_say_1 : decode cX1_say 1 = .ok (.iload_n 1, 1) := by decide +kernel
theorem dX1_say_2 : decode cX1_say 2 = .ok (.putfield 38, 3) := by decide +kernel
theorem dX1_say_5 : decode cX1_say 5 = .ok (.aload_n 0, 1) := by decide +kernel
theorem dX1_say_6 : decode cX1_say 6 = .ok (.iload_n 2, 1) := by decide +kernel
theorem dX1_say_7 : decode cX1_say 7 = .ok (.putfield 41, 3) := by decide +kernel
theorem dX1_say_10 : decode cX1_say 10 = .ok (.return_, 1) := by decide +kernel
theorem dX1_carry_0 : decode cX1_carry 0 = .ok (.aload_n 0, 1) := by decide +kernel
theorem dX1_carry_1 : decode cX1_carry 1 = .ok (.aload_n 1, 1) := by decide +kernel
theorem dX1_carry_2 : decode cX1_carry 2 = .ok (.putfield 27, 3) := by decide +kernel
theorem dX1_carry_5 : decode cX1_carry 5 = .ok (.aload_n 0, 1) := by decide +kernel
theorem dX1_carry_6 : decode cX1_carry 6 = .ok (.iload_n 2, 1) := by decide +kernel
theorem dX1_carry_7 : decode cX1_carry 7 = .ok (.putfield 31, 3) := by decide +kernel
theorem dX1_carry_10 : decode cX1_carry 10 = .ok (.return_, 1) := by decide +kernel
theorem dX1_carryPiece_0 : decode cX1_carryPiece 0 = .ok (.aload_n 0, 1) := by decide +kernel
theorem dX1_carryPiece_1 : decode cX1_carryPiece 1 = .ok (.aload_n 1, 1) := by decide +kernel
theorem dX1_carryPiece_2 : decode cX1_carryPiece 2 = .ok (.putfield 34, 3) := by decide +kernel
theorem dX1_carryPiece_5 : decode cX1_carryPiece 5 = .ok (.aload_n 0, 1) := by decide +kernel
theorem dX1_carryPiece_6 : decode cX1_carryPiece 6 = .ok (.iload_n 2, 1) := by decide +kernel
theorem dX1_carryPiece_7 : decode cX1_carryPiece 7 = .ok (.putfield 9, 3) := by decide +kernel
theorem dX1_carryPiece_10 : decode cX1_carryPiece 10 = .ok (.return_, 1) := by decide +kernel
theorem dX1_copy_0 : decode cX1_copy 0 = .ok (.aload_n 0, 1) := by decide +kernel
theorem dX1_copy_1 : decode cX1_copy 1 = .ok (.aload_n 1, 1) := by decide +kernel
theorem dX1_copy_2 : decode cX1_copy 2 = .ok (.getfield 18, 3) := by decide +kernel
theorem dX1_copy_5 : decode cX1_copy 5 = .ok (.aload_n 1, 1) := by decide +kernel
theorem dX1_copy_6 : decode cX1_copy 6 = .ok (.getfield 21, 3) := by decide +kernel
theorem dX1_copy_9 : decode cX1_copy 9 = .ok (.aload_n 1, 1) := by decide +kernel
theorem dX1_copy_10 : decode cX1_copy 10 = .ok (.getfield 24, 3) := by decide +kernel
theorem dX1_copy_13 : decode cX1_copy 13 = .ok (.invokevirtual 44, 3) := by decide +kernel
theorem dX1_copy_16 : decode cX1_copy 16 = .ok (.aload_n 0, 1) := by decide +kernel
theorem dX1_copy_17 : decode cX1_copy 17 = .ok (.aload_n 1, 1) := by decide +kernel
theorem dX1_copy_18 : decode cX1_copy 18 = .ok (.getfield 38, 3) := by decide +kernel
theorem dX1_copy_21 : decode cX1_copy 21 = .ok (.aload_n 1, 1) := by decide +kernel
theorem dX1_copy_22 : decode cX1_copy 22 = .ok (.getfield 41, 3) := by decide +kernel
theorem dX1_copy_25 : decode cX1_copy 25 = .ok (.invokevirtual 48, 3) := by decide +kernel
theorem dX1_copy_28 : decode cX1_copy 28 = .ok (.aload_n 0, 1) := by decide +kernel
theorem dX1_copy_29 : decode cX1_copy 29 = .ok (.aload_n 1, 1) := by decide +kernel
theorem dX1_copy_30 : decode cX1_copy 30 = .ok (.getfield 27, 3) := by decide +kernel
theorem dX1_copy_33 : decode cX1_copy 33 = .ok (.aload_n 1, 1) := by decide +kernel
theorem dX1_copy_34 : decode cX1_copy 34 = .ok (.getfield 31, 3) := by decide +kernel
theorem dX1_copy_37 : decode cX1_copy 37 = .ok (.invokevirtual 52, 3) := by decide +kernel
theorem dX1_copy_40 : decode cX1_copy 40 = .ok (.aload_n 0, 1) := by decide +kernel
theorem dX1_copy_41 : decode cX1_copy 41 = .ok (.aload_n 1, 1) := by decide +kernel
theorem dX1_copy_42 : decode cX1_copy 42 = .ok (.getfield 34, 3) := by decide +kernel
theorem dX1_copy_45 : decode cX1_copy 45 = .ok (.aload_n 1, 1) := by decide +kernel
theorem dX1_copy_46 : decode cX1_copy 46 = .ok (.getfield 9, 3) := by decide +kernel
theorem dX1_copy_49 : decode cX1_copy 49 = .ok (.invokevirtual 56, 3) := by decide +kernel
theorem dX1_copy_52 : decode cX1_copy 52 = .ok (.aload_n 0, 1) := by decide +kernel
theorem dX1_copy_53 : decode cX1_copy 53 = .ok (.aload_n 1, 1) := by decide +kernel
theorem dX1_copy_54 : decode cX1_copy 54 = .ok (.getfield 15, 3) := by decide +kernel
theorem dX1_copy_57 : decode cX1_copy 57 = .ok (.putfield 15, 3) := by decide +kernel
theorem dX1_copy_60 : decode cX1_copy 60 = .ok (.aload_n 0, 1) := by decide +kernel
theorem dX1_copy_61 : decode cX1_copy 61 = .ok (.aload_n 1, 1) := by decide +kernel
theorem dX1_copy_62 : decode cX1_copy 62 = .ok (.getfield 60, 3) := by decide +kernel
theorem dX1_copy_65 : decode cX1_copy 65 = .ok (.putfield 60, 3) := by decide +kernel
theorem dX1_copy_68 : decode cX1_copy 68 = .ok (.return_, 1) := by decide +kernel
theorem dX1_isSpoilt_0 : decode cX1_isSpoilt 0 = .ok (.aload_n 0, 1) := by decide +kernel
theorem dX1_isSpoilt_1 : decode cX1_isSpoilt 1 = .ok (.getfield 15, 3) := by decide +kernel
theorem dX1_isSpoilt_4 : decode cX1_isSpoilt 4 = .ok (.iconst (-1), 1) := by decide +kernel
theorem dX1_isSpoilt_5 : decode cX1_isSpoilt 5 = .ok (.if_icmp .eq 7, 3) := by decide +kernel
theorem dX1_isSpoilt_8 : decode cX1_isSpoilt 8 = .ok (.iconst 1, 1) := by decide +kernel
theorem dX1_isSpoilt_9 : decode cX1_isSpoilt 9 = .ok (.goto 4, 3) := by decide +kernel
theorem dX1_isSpoilt_12 : decode cX1_isSpoilt 12 = .ok (.iconst 0, 1) := by decide +kernel
theorem dX1_isSpoilt_13 : decode cX1_isSpoilt 13 = .ok (.ireturn, 1) := by decide +kernel
theorem dX1_piecesOf_0 : decode cX1_piecesOf 0 = .ok (.aload_n 0, 1) := by decide +kernel
theorem dX1_piecesOf_1 : decode cX1_piecesOf 1 = .ok (.arraylength, 1) := by decide +kernel
theorem dX1_piecesOf_2 : decode cX1_piecesOf 2 = .ok (.bipush 64, 2) := by decide +kernel
theorem dX1_piecesOf_4 : decode cX1_piecesOf 4 = .ok (.iadd, 1) := by decide +kernel
theorem dX1_piecesOf_5 : decode cX1_piecesOf 5 = .ok (.iconst 1, 1) := by decide +kernel
theorem dX1_piecesOf_6 : decode cX1_piecesOf 6 = .ok (.isub, 1) := by decide +kernel
theorem dX1_piecesOf_7 : decode cX1_piecesOf 7 = .ok (.bipush 64, 2) := by decide +kernel
theorem dX1_piecesOf_9 : decode cX1_piecesOf 9 = .ok (.idiv, 1) := by decide +kernel
theorem dX1_piecesOf_10 : decode cX1_piecesOf 10 = .ok (.ireturn, 1) := by decide +kernel
theorem dX1_pieceStart_0 : decode cX1_pieceStart 0 = .ok (.aload_n 0, 1) := by decide +kernel
theorem dX1_pieceStart_1 : decode cX1_pieceStart 1 = .ok (.getfield 9, 3) := by decide +kernel
theorem dX1_pieceStart_4 : decode cX1_pieceStart 4 = .ok (.bipush 64, 2) := by decide +kernel
theorem dX1_pieceStart_6 : decode cX1_pieceStart 6 = .ok (.imul, 1) := by decide +kernel
theorem dX1_pieceStart_7 : decode cX1_pieceStart 7 = .ok (.ireturn, 1) := by decide +kernel
theorem dX1_pieceEnd_0 : decode cX1_pieceEnd 0 = .ok (.aload_n 0, 1) := by decide +kernel
theorem dX1_pieceEnd_1 : decode cX1_pieceEnd 1 = .ok (.getfield 34, 3) := by decide +kernel
theorem dX1_pieceEnd_4 : decode cX1_pieceEnd 4 = .ok (.ifnonnull 7, 3) := by decide +kernel
theorem dX1_pieceEnd_7 : decode cX1_pieceEnd 7 = .ok (.iconst 0, 1) := by decide +kernel
theorem dX1_pieceEnd_8 : decode cX1_pieceEnd 8 = .ok (.goto 18, 3) := by decide +kernel
theorem dX1_pieceEnd_11 : decode cX1_pieceEnd 11 = .ok (.aload_n 0, 1) := by decide +kernel
theorem dX1_pieceEnd_12 : decode cX1_pieceEnd 12 = .ok (.getfield 34, 3) := by decide +kernel
theorem dX1_pieceEnd_15 : decode cX1_pieceEnd 15 = .ok (.arraylength, 1) := by decide +kernel
theorem dX1_pieceEnd_16 : decode cX1_pieceEnd 16 = .ok (.aload_n 0, 1) := by decide +kernel
theorem dX1_pieceEnd_17 : decode cX1_pieceEnd 17 = .ok (.invokevirtual 63, 3) := by decide +kernel
theorem dX1_pieceEnd_20 : decode cX1_pieceEnd 20 = .ok (.bipush 64, 2) := by decide +kernel
theorem dX1_pieceEnd_22 : decode cX1_pieceEnd 22 = .ok (.iadd, 1) := by decide +kernel
theorem dX1_pieceEnd_23 : decode cX1_pieceEnd 23 = .ok (.invokestatic 67, 3) := by decide +kernel
theorem dX1_pieceEnd_26 : decode cX1_pieceEnd 26 = .ok (.ireturn, 1) := by decide +kernel
theorem dX1_writeTo_0 : decode cX1_writeTo 0 = .ok (.aload_n 1, 1) := by decide +kernel
theorem dX1_writeTo_1 : decode cX1_writeTo 1 = .ok (.invokevirtual 73, 3) := by decide +kernel
theorem dX1_writeTo_4 : decode cX1_writeTo 4 = .ok (.aload_n 1, 1) := by decide +kernel
theorem dX1_writeTo_5 : decode cX1_writeTo 5 = .ok (.sipush 165, 3) := by decide +kernel
theorem dX1_writeTo_8 : decode cX1_writeTo 8 = .ok (.invokevirtual 78, 3) := by decide +kernel
theorem dX1_writeTo_11 : decode cX1_writeTo 11 = .ok (.aload_n 1, 1) := by decide +kernel
theorem dX1_writeTo_12 : decode cX1_writeTo 12 = .ok (.aload_n 0, 1) := by decide +kernel
theorem dX1_writeTo_13 : decode cX1_writeTo 13 = .ok (.getfield 18, 3) := by decide +kernel
theorem dX1_writeTo_16 : decode cX1_writeTo 16 = .ok (.invokevirtual 78, 3) := by decide +kernel
theorem dX1_writeTo_19 : decode cX1_writeTo 19 = .ok (.aload_n 1, 1) := by decide +kernel
theorem dX1_writeTo_20 : decode cX1_writeTo 20 = .ok (.bipush 16, 2) := by decide +kernel
theorem dX1_writeTo_22 : decode cX1_writeTo 22 = .ok (.aload_n 0, 1) := by decide +kernel
theorem dX1_writeTo_23 : decode cX1_writeTo 23 = .ok (.getfield 21, 3) := by decide +kernel
theorem dX1_writeTo_26 : decode cX1_writeTo 26 = .ok (.imul, 1) := by decide +kernel
theorem dX1_writeTo_27 : decode cX1_writeTo 27 = .ok (.aload_n 0, 1) := by decide +kernel
theorem dX1_writeTo_28 : decode cX1_writeTo 28 = .ok (.getfield 24, 3) := by decide +kernel
theorem dX1_writeTo_31 : decode cX1_writeTo 31 = .ok (.iadd, 1) := by decide +kernel
theorem dX1_writeTo_32 : decode cX1_writeTo 32 = .ok (.invokevirtual 78, 3) := by decide +kernel
theorem dX1_writeTo_35 : decode cX1_writeTo 35 = .ok (.aload_n 1, 1) := by decide +kernel
theorem dX1_writeTo_36 : decode cX1_writeTo 36 = .ok (.aload_n 0, 1) := by decide +kernel
theorem dX1_writeTo_37 : decode cX1_writeTo 37 = .ok (.getfield 38, 3) := by decide +kernel
theorem dX1_writeTo_40 : decode cX1_writeTo 40 = .ok (.invokevirtual 82, 3) := by decide +kernel
theorem dX1_writeTo_43 : decode cX1_writeTo 43 = .ok (.aload_n 1, 1) := by decide +kernel
theorem dX1_writeTo_44 : decode cX1_writeTo 44 = .ok (.aload_n 0, 1) := by decide +kernel
theorem dX1_writeTo_45 : decode cX1_writeTo 45 = .ok (.getfield 41, 3) := by decide +kernel
theorem dX1_writeTo_48 : decode cX1_writeTo 48 = .ok (.invokevirtual 82, 3) := by decide +kernel
theorem dX1_writeTo_51 : decode cX1_writeTo 51 = .ok (.aload_n 0, 1) := by decide +kernel
theorem dX1_writeTo_52 : decode cX1_writeTo 52 = .ok (.getfield 18, 3) := by decide +kernel
theorem dX1_writeTo_55 : decode cX1_writeTo 55 = .ok (.iconst 2, 1) := by decide +kernel
theorem dX1_writeTo_56 : decode cX1_writeTo 56 = .ok (.if_icmp .ne 34, 3) := by decide +kernel
theorem dX1_writeTo_59 : decode cX1_writeTo 59 = .ok (.aload_n 1, 1) := by decide +kernel
theorem dX1_writeTo_60 : decode cX1_writeTo 60 = .ok (.aload_n 0, 1) := by decide +kernel
theorem dX1_writeTo_61 : decode cX1_writeTo 61 = .ok (.getfield 27, 3) := by decide +kernel
theorem dX1_writeTo_64 : decode cX1_writeTo 64 = .ok (.ifnonnull 7, 3) := by decide +kernel
theorem dX1_writeTo_67 : decode cX1_writeTo 67 = .ok (.iconst 0, 1) := by decide +kernel
theorem dX1_writeTo_68 : decode cX1_writeTo 68 = .ok (.goto 4, 3) := by decide +kernel
theorem dX1_writeTo_71 : decode cX1_writeTo 71 = .ok (.iconst 1, 1) := by decide +kernel
theorem dX1_writeTo_72 : decode cX1_writeTo 72 = .ok (.invokevirtual 78, 3) := by decide +kernel
theorem dX1_writeTo_75 : decode cX1_writeTo 75 = .ok (.aload_n 0, 1) := by decide +kernel
theorem dX1_writeTo_76 : decode cX1_writeTo 76 = .ok (.getfield 27, 3) := by decide +kernel
theorem dX1_writeTo_79 : decode cX1_writeTo 79 = .ok (.ifnull 11, 3) := by decide +kernel
theorem dX1_writeTo_82 : decode cX1_writeTo 82 = .ok (.aload_n 1, 1) := by decide +kernel
theorem dX1_writeTo_83 : decode cX1_writeTo 83 = .ok (.aload_n 0, 1) := by decide +kernel
theorem dX1_writeTo_84 : decode cX1_writeTo 84 = .ok (.getfield 31, 3) := by decide +kernel
theorem dX1_writeTo_87 : decode cX1_writeTo 87 = .ok (.invokevirtual 82, 3) := by decide +kernel
theorem dX1_writeTo_90 : decode cX1_writeTo 90 = .ok (.aload_n 0, 1) := by decide +kernel
theorem dX1_writeTo_91 : decode cX1_writeTo 91 = .ok (.getfield 27, 3) := by decide +kernel
theorem dX1_writeTo_94 : decode cX1_writeTo 94 = .ok (.ifnull 11, 3) := by decide +kernel
theorem dX1_writeTo_97 : decode cX1_writeTo 97 = .ok (.aload_n 0, 1) := by decide +kernel
theorem dX1_writeTo_98 : decode cX1_writeTo 98 = .ok (.getfield 27, 3) := by decide +kernel
theorem dX1_writeTo_101 : decode cX1_writeTo 101 = .ok (.aload_n 1, 1) := by decide +kernel
theorem dX1_writeTo_102 : decode cX1_writeTo 102 = .ok (.invokevirtual 85, 3) := by decide +kernel
theorem dX1_writeTo_105 : decode cX1_writeTo 105 = .ok (.aload_n 0, 1) := by decide +kernel
theorem dX1_writeTo_106 : decode cX1_writeTo 106 = .ok (.getfield 34, 3) := by decide +kernel
theorem dX1_writeTo_109 : decode cX1_writeTo 109 = .ok (.ifnull 51, 3) := by decide +kernel
theorem dX1_writeTo_112 : decode cX1_writeTo 112 = .ok (.aload_n 1, 1) := by decide +kernel
theorem dX1_writeTo_113 : decode cX1_writeTo 113 = .ok (.aload_n 0, 1) := by decide +kernel
theorem dX1_writeTo_114 : decode cX1_writeTo 114 = .ok (.getfield 9, 3) := by decide +kernel
theorem dX1_writeTo_117 : decode cX1_writeTo 117 = .ok (.invokevirtual 78, 3) := by decide +kernel
theorem dX1_writeTo_120 : decode cX1_writeTo 120 = .ok (.aload_n 1, 1) := by decide +kernel
theorem dX1_writeTo_121 : decode cX1_writeTo 121 = .ok (.aload_n 0, 1) := by decide +kernel
theorem dX1_writeTo_122 : decode cX1_writeTo 122 = .ok (.getfield 34, 3) := by decide +kernel
theorem dX1_writeTo_125 : decode cX1_writeTo 125 = .ok (.invokestatic 91, 3) := by decide +kernel
theorem dX1_writeTo_128 : decode cX1_writeTo 128 = .ok (.invokevirtual 78, 3) := by decide +kernel
theorem dX1_writeTo_131 : decode cX1_writeTo 131 = .ok (.aload_n 1, 1) := by decide +kernel
theorem dX1_writeTo_132 : decode cX1_writeTo 132 = .ok (.aload_n 0, 1) := by decide +kernel
theorem dX1_writeTo_133 : decode cX1_writeTo 133 = .ok (.invokevirtual 95, 3) := by decide +kernel
theorem dX1_writeTo_136 : decode cX1_writeTo 136 = .ok (.aload_n 0, 1) := by decide +kernel
theorem dX1_writeTo_137 : decode cX1_writeTo 137 = .ok (.invokevirtual 63, 3) := by decide +kernel
theorem dX1_writeTo_140 : decode cX1_writeTo 140 = .ok (.isub, 1) := by decide +kernel
theorem dX1_writeTo_141 : decode cX1_writeTo 141 = .ok (.invokevirtual 78, 3) := by decide +kernel
theorem dX1_writeTo_144 : decode cX1_writeTo 144 = .ok (.aload_n 1, 1) := by decide +kernel
theorem dX1_writeTo_145 : decode cX1_writeTo 145 = .ok (.aload_n 0, 1) := by decide +kernel
theorem dX1_writeTo_146 : decode cX1_writeTo 146 = .ok (.getfield 34, 3) := by decide +kernel
theorem dX1_writeTo_149 : decode cX1_writeTo 149 = .ok (.aload_n 0, 1) := by decide +kernel
theorem dX1_writeTo_150 : decode cX1_writeTo 150 = .ok (.invokevirtual 63, 3) := by decide +kernel
theorem dX1_writeTo_153 : decode cX1_writeTo 153 = .ok (.aload_n 0, 1) := by decide +kernel
theorem dX1_writeTo_154 : decode cX1_writeTo 154 = .ok (.invokevirtual 95, 3) := by decide +kernel
theorem dX1_writeTo_157 : decode cX1_writeTo 157 = .ok (.invokevirtual 98, 3) := by decide +kernel
theorem dX1_writeTo_160 : decode cX1_writeTo 160 = .ok (.aload_n 1, 1) := by decide +kernel
theorem dX1_writeTo_161 : decode cX1_writeTo 161 = .ok (.iconst 0, 1) := by decide +kernel
theorem dX1_writeTo_162 : decode cX1_writeTo 162 = .ok (.invokevirtual 102, 3) := by decide +kernel
theorem dX1_writeTo_165 : decode cX1_writeTo 165 = .ok (.return_, 1) := by decide +kernel
theorem dX1_tell_0 : decode cX1_tell 0 = .ok (.iload_n 1, 1) := by decide +kernel
theorem dX1_tell_1 : decode cX1_tell 1 = .ok (.tableswitch 122 0 9 #[55, 60, 65, 70, 75, 80, 99, 104, 122, 117], 55) := by decide +kernel
theorem dX1_tell_56 : decode cX1_tell 56 = .ok (.aload_n 0, 1) := by decide +kernel
theorem dX1_tell_57 : decode cX1_tell 57 = .ok (.getfield 18, 3) := by decide +kernel
theorem dX1_tell_60 : decode cX1_tell 60 = .ok (.ireturn, 1) := by decide +kernel
theorem dX1_tell_61 : decode cX1_tell 61 = .ok (.aload_n 0, 1) := by decide +kernel
theorem dX1_tell_62 : decode cX1_tell 62 = .ok (.getfield 21, 3) := by decide +kernel
theorem dX1_tell_65 : decode cX1_tell 65 = .ok (.ireturn, 1) := by decide +kernel
theorem dX1_tell_66 : decode cX1_tell 66 = .ok (.aload_n 0, 1) := by decide +kernel
theorem dX1_tell_67 : decode cX1_tell 67 = .ok (.getfield 24, 3) := by decide +kernel
theorem dX1_tell_70 : decode cX1_tell 70 = .ok (.ireturn, 1) := by decide +kernel
theorem dX1_tell_71 : decode cX1_tell 71 = .ok (.aload_n 0, 1) := by decide +kernel
theorem dX1_tell_72 : decode cX1_tell 72 = .ok (.getfield 38, 3) := by decide +kernel
theorem dX1_tell_75 : decode cX1_tell 75 = .ok (.ireturn, 1) := by decide +kernel
theorem dX1_tell_76 : decode cX1_tell 76 = .ok (.aload_n 0, 1) := by decide +kernel
theorem dX1_tell_77 : decode cX1_tell 77 = .ok (.getfield 41, 3) := by decide +kernel
theorem dX1_tell_80 : decode cX1_tell 80 = .ok (.ireturn, 1) := by decide +kernel
theorem dX1_tell_81 : decode cX1_tell 81 = .ok (.aload_n 0, 1) := by decide +kernel
theorem dX1_tell_82 : decode cX1_tell 82 = .ok (.getfield 27, 3) := by decide +kernel
theorem dX1_tell_85 : decode cX1_tell 85 = .ok (.ifnonnull 7, 3) := by decide +kernel
theorem dX1_tell_88 : decode cX1_tell 88 = .ok (.iconst (-1), 1) := by decide +kernel
theorem dX1_tell_89 : decode cX1_tell 89 = .ok (.goto 10, 3) := by decide +kernel
theorem dX1_tell_92 : decode cX1_tell 92 = .ok (.aload_n 0, 1) := by decide +kernel
theorem dX1_tell_93 : decode cX1_tell 93 = .ok (.getfield 27, 3) := by decide +kernel
theorem dX1_tell_96 : decode cX1_tell 96 = .ok (.getfield 105, 3) := by decide +kernel
theorem dX1_tell_99 : decode cX1_tell 99 = .ok (.ireturn, 1) := by decide +kernel
theorem dX1_tell_100 : decode cX1_tell 100 = .ok (.aload_n 0, 1) := by decide +kernel
theorem dX1_tell_101 : decode cX1_tell 101 = .ok (.getfield 31, 3) := by decide +kernel
theorem dX1_tell_104 : decode cX1_tell 104 = .ok (.ireturn, 1) := by decide +kernel
theorem dX1_tell_105 : decode cX1_tell 105 = .ok (.aload_n 0, 1) := by decide +kernel
theorem dX1_tell_106 : decode cX1_tell 106 = .ok (.invokevirtual 108, 3) := by decide +kernel
theorem dX1_tell_109 : decode cX1_tell 109 = .ok (.ifCond .eq 7, 3) := by decide +kernel
theorem dX1_tell_112 : decode cX1_tell 112 = .ok (.iconst 1, 1) := by decide +kernel
theorem dX1_tell_113 : decode cX1_tell 113 = .ok (.goto 4, 3) := by decide +kernel
theorem dX1_tell_116 : decode cX1_tell 116 = .ok (.iconst 0, 1) := by decide +kernel
theorem dX1_tell_117 : decode cX1_tell 117 = .ok (.ireturn, 1) := by decide +kernel
theorem dX1_tell_118 : decode cX1_tell 118 = .ok (.aload_n 0, 1) := by decide +kernel
theorem dX1_tell_119 : decode cX1_tell 119 = .ok (.getfield 9, 3) := by decide +kernel
theorem dX1_tell_122 : decode cX1_tell 122 = .ok (.ireturn, 1) := by decide +kernel
theorem dX1_tell_123 : decode cX1_tell 123 = .ok (.iconst (-1), 1) := by decide +kernel
theorem dX1_tell_124 : decode cX1_tell 124 = .ok (.ireturn, 1) := by decide +kernel
