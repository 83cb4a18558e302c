theorem dX0_init_0 : decode cX0_init 0 = .ok (.aload_n 0, 1) := by decide +kernel
theorem dX0_init_1 : decode cX0_init 1 = .ok (.invokespecial 3, 3) := by decide +kernel
theorem dX0_init_4 : decode cX0_init 4 = .ok (.aload_n 0, 1) := by decide +kernel
theorem dX0_init_5 : decode cX0_init 5 = .ok (.bipush 80, 2) := by decide +kernel
theorem dX0_init_7 : decode cX0_init 7 = .ok (.anewarray 9, 3) := by decide +kernel
theorem dX0_init_10 : decode cX0_init 10 = .ok (.putfield 11, 3) := by decide +kernel
theorem dX0_init_13 : decode cX0_init 13 = .ok (.aload_n 0, 1) := by decide +kernel
theorem dX0_init_14 : decode cX0_init 14 = .ok (.iconst 0, 1) := by decide +kernel
theorem dX0_init_15 : decode cX0_init 15 = .ok (.putfield 17, 3) := by decide +kernel
theorem dX0_init_18 : decode cX0_init 18 = .ok (.aload_n 0, 1) := by decide +kernel
theorem dX0_init_19 : decode cX0_init 19 = .ok (.bipush 80, 2) := by decide +kernel
theorem dX0_init_21 : decode cX0_init 21 = .ok (.anewarray 9, 3) := by decide +kernel
theorem dX0_init_24 : decode cX0_init 24 = .ok (.putfield 21, 3) := by decide +kernel
theorem dX0_init_27 : decode cX0_init 27 = .ok (.aload_n 0, 1) := by decide +kernel
theorem dX0_init_28 : decode cX0_init 28 = .ok (.bipush 80, 2) := by decide +kernel
theorem dX0_init_30 : decode cX0_init 30 = .ok (.newarray .boolean, 2) := by decide +kernel
theorem dX0_init_32 : decode cX0_init 32 = .ok (.putfield 24, 3) := by decide +kernel
theorem dX0_init_35 : decode cX0_init 35 = .ok (.return_, 1) := by decide +kernel
theorem dX0_at_0 : decode cX0_at 0 = .ok (.iload_n 1, 1) := by decide +kernel
theorem dX0_at_1 : decode cX0_at 1 = .ok (.ifCond .lt 20, 3) := by decide +kernel
theorem dX0_at_4 : decode cX0_at 4 = .ok (.iload_n 1, 1) := by decide +kernel
theorem dX0_at_5 : decode cX0_at 5 = .ok (.aload_n 0, 1) := by decide +kernel
theorem dX0_at_6 : decode cX0_at 6 = .ok (.getfield 17, 3) := by decide +kernel
theorem dX0_at_9 : decode cX0_at 9 = .ok (.if_icmp .ge 12, 3) := by decide +kernel
theorem dX0_at_12 : decode cX0_at 12 = .ok (.aload_n 0, 1) := by decide +kernel
theorem dX0_at_13 : decode cX0_at 13 = .ok (.getfield 11, 3) := by decide +kernel
theorem dX0_at_16 : decode cX0_at 16 = .ok (.iload_n 1, 1) := by decide +kernel
theorem dX0_at_17 : decode cX0_at 17 = .ok (.aaload, 1) := by decide +kernel
theorem dX0_at_18 : decode cX0_at 18 = .ok (.goto 4, 3) := by decide +kernel
theorem dX0_at_21 : decode cX0_at 21 = .ok (.aconst_null, 1) := by decide +kernel
theorem dX0_at_22 : decode cX0_at 22 = .ok (.areturn, 1) := by decide +kernel
theorem dX0_add_0 : decode cX0_add 0 = .ok (.aload_n 0, 1) := by decide +kernel
theorem dX0_add_1 : decode cX0_add 1 = .ok (.getfield 17, 3) := by decide +kernel
theorem dX0_add_4 : decode cX0_add 4 = .ok (.istore_n 3, 1) := by decide +kernel
theorem dX0_add_5 : decode cX0_add 5 = .ok (.iload_n 3, 1) := by decide +kernel
theorem dX0_add_6 : decode cX0_add 6 = .ok (.bipush 80, 2) := by decide +kernel
theorem dX0_add_8 : decode cX0_add 8 = .ok (.if_icmp .lt 5, 3) := by decide +kernel
theorem dX0_add_11 : decode cX0_add 11 = .ok (.iconst (-1), 1) := by decide +kernel
theorem dX0_add_12 : decode cX0_add 12 = .ok (.ireturn, 1) := by decide +kernel
theorem dX0_add_13 : decode cX0_add 13 = .ok (.aload_n 0, 1) := by decide +kernel
theorem dX0_add_14 : decode cX0_add 14 = .ok (.getfield 11, 3) := by decide +kernel
theorem dX0_add_17 : decode cX0_add 17 = .ok (.iload_n 3, 1) := by decide +kernel
theorem dX0_add_18 : decode cX0_add 18 = .ok (.new 9, 3) := by decide +kernel
theorem dX0_add_21 : decode cX0_add 21 = .ok (.dup, 1) := by decide +kernel
theorem dX0_add_22 : decode cX0_add 22 = .ok (.iload_n 3, 1) := by decide +kernel
theorem dX0_add_23 : decode cX0_add 23 = .ok (.iload_n 1, 1) := by decide +kernel
theorem dX0_add_24 : decode cX0_add 24 = .ok (.aload_n 2, 1) := by decide +kernel
theorem dX0_add_25 : decode cX0_add 25 = .ok (.invokespecial 28, 3) := by decide +kernel
theorem dX0_add_28 : decode cX0_add 28 = .ok (.aastore, 1) := by decide +kernel
theorem dX0_add_29 : decode cX0_add 29 = .ok (.aload_n 0, 1) := by decide +kernel
theorem dX0_add_30 : decode cX0_add 30 = .ok (.iload_n 3, 1) := by decide +kernel
theorem dX0_add_31 : decode cX0_add 31 = .ok (.iconst 1, 1) := by decide +kernel
theorem dX0_add_32 : decode cX0_add 32 = .ok (.iadd, 1) := by decide +kernel
theorem dX0_add_33 : decode cX0_add 33 = .ok (.putfield 17, 3) := by decide +kernel
theorem dX0_add_36 : decode cX0_add 36 = .ok (.iload_n 3, 1) := by decide +kernel
theorem dX0_add_37 : decode cX0_add 37 = .ok (.ireturn, 1) := by decide +kernel
theorem dX0_rightIn_0 : decode cX0_rightIn 0 = .ok (.iconst 0, 1) := by decide +kernel
theorem dX0_rightIn_1 : decode cX0_rightIn 1 = .ok (.istore_n 2, 1) := by decide +kernel
theorem dX0_rightIn_2 : decode cX0_rightIn 2 = .ok (.iconst 0, 1) := by decide +kernel
theorem dX0_rightIn_3 : decode cX0_rightIn 3 = .ok (.istore_n 3, 1) := by decide +kernel
theorem dX0_rightIn_4 : decode cX0_rightIn 4 = .ok (.iload_n 3, 1) := by decide +kernel
theorem dX0_rightIn_5 : decode cX0_rightIn 5 = .ok (.aload_n 0, 1) := by decide +kernel
theorem dX0_rightIn_6 : decode cX0_rightIn 6 = .ok (.getfield 17, 3) := by decide +kernel
theorem dX0_rightIn_9 : decode cX0_rightIn 9 = .ok (.if_icmp .ge 25, 3) := by decide +kernel
theorem dX0_rightIn_12 : decode cX0_rightIn 12 = .ok (.aload_n 0, 1) := by decide +kernel
theorem dX0_rightIn_13 : decode cX0_rightIn 13 = .ok (.getfield 11, 3) := by decide +kernel
theorem dX0_rightIn_16 : decode cX0_rightIn 16 = .ok (.iload_n 3, 1) := by decide +kernel
theorem dX0_rightIn_17 : decode cX0_rightIn 17 = .ok (.aaload, 1) := by decide +kernel
theorem dX0_rightIn_18 : decode cX0_rightIn 18 = .ok (.getfield 31, 3) := by decide +kernel
theorem dX0_rightIn_21 : decode cX0_rightIn 21 = .ok (.aload_n 1, 1) := by decide +kernel
theorem dX0_rightIn_22 : decode cX0_rightIn 22 = .ok (.if_acmp .ne 6, 3) := by decide +kernel
theorem dX0_rightIn_25 : decode cX0_rightIn 25 = .ok (.iinc 2 1, 3) := by decide +kernel
theorem dX0_rightIn_28 : decode cX0_rightIn 28 = .ok (.iinc 3 1, 3) := by decide +kernel
theorem dX0_rightIn_31 : decode cX0_rightIn 31 = .ok (.goto (-27), 3) := by decide +kernel
theorem dX0_rightIn_34 : decode cX0_rightIn 34 = .ok (.iload_n 2, 1) := by decide +kernel
theorem dX0_rightIn_35 : decode cX0_rightIn 35 = .ok (.ireturn, 1) := by decide +kernel
theorem dX0_heldDay_0 : decode cX0_heldDay 0 = .ok (.aload_n 1, 1) := by decide +kernel
theorem dX0_heldDay_1 : decode cX0_heldDay 1 = .ok (.invokevirtual 35, 3) := by decide +kernel
theorem dX0_heldDay_4 : decode cX0_heldDay 4 = .ok (.ifCond .eq 19, 3) := by decide +kernel
theorem dX0_heldDay_7 : decode cX0_heldDay 7 = .ok (.iload_n 2, 1) := by decide +kernel
theorem dX0_heldDay_8 : decode cX0_heldDay 8 = .ok (.ifCond .eq 10, 3) := by decide +kernel
theorem dX0_heldDay_11 : decode cX0_heldDay 11 = .ok (.aload_n 1, 1) := by decide +kernel
theorem dX0_heldDay_12 : decode cX0_heldDay 12 = .ok (.getfield 39, 3) := by decide +kernel
theorem dX0_heldDay_15 : decode cX0_heldDay 15 = .ok (.goto 7, 3) := by decide +kernel
theorem dX0_heldDay_18 : decode cX0_heldDay 18 = .ok (.aload_n 1, 1) := by decide +kernel
theorem dX0_heldDay_19 : decode cX0_heldDay 19 = .ok (.getfield 42, 3) := by decide +kernel
theorem dX0_heldDay_22 : decode cX0_heldDay 22 = .ok (.ireturn, 1) := by decide +kernel
theorem dX0_heldDay_23 : decode cX0_heldDay 23 = .ok (.iconst (-1), 1) := by decide +kernel
theorem dX0_heldDay_24 : decode cX0_heldDay 24 = .ok (.istore_n 3, 1) := by decide +kernel
theorem dX0_heldDay_25 : decode cX0_heldDay 25 = .ok (.iconst 0, 1) := by decide +kernel
theorem dX0_heldDay_26 : decode cX0_heldDay 26 = .ok (.istore 4, 2) := by decide +kernel
theorem dX0_heldDay_28 : decode cX0_heldDay 28 = .ok (.iload 4, 2) := by decide +kernel
theorem dX0_heldDay_30 : decode cX0_heldDay 30 = .ok (.aload_n 0, 1) := by decide +kernel
theorem dX0_heldDay_31 : decode cX0_heldDay 31 = .ok (.getfield 17, 3) := by decide +kernel
theorem dX0_heldDay_34 : decode cX0_heldDay 34 = .ok (.if_icmp .ge 53, 3) := by decide +kernel
theorem dX0_heldDay_37 : decode cX0_heldDay 37 = .ok (.aload_n 0, 1) := by decide +kernel
theorem dX0_heldDay_38 : decode cX0_heldDay 38 = .ok (.getfield 11, 3) := by decide +kernel
theorem dX0_heldDay_41 : decode cX0_heldDay 41 = .ok (.iload 4, 2) := by decide +kernel
theorem dX0_heldDay_43 : decode cX0_heldDay 43 = .ok (.aaload, 1) := by decide +kernel
theorem dX0_heldDay_44 : decode cX0_heldDay 44 = .ok (.astore 5, 2) := by decide +kernel
theorem dX0_heldDay_46 : decode cX0_heldDay 46 = .ok (.aload 5, 2) := by decide +kernel
theorem dX0_heldDay_48 : decode cX0_heldDay 48 = .ok (.aload_n 1, 1) := by decide +kernel
theorem dX0_heldDay_49 : decode cX0_heldDay 49 = .ok (.invokevirtual 45, 3) := by decide +kernel
theorem dX0_heldDay_52 : decode cX0_heldDay 52 = .ok (.ifCond .eq 29, 3) := by decide +kernel
theorem dX0_heldDay_55 : decode cX0_heldDay 55 = .ok (.iload_n 2, 1) := by decide +kernel
theorem dX0_heldDay_56 : decode cX0_heldDay 56 = .ok (.ifCond .eq 15, 3) := by decide +kernel
theorem dX0_heldDay_59 : decode cX0_heldDay 59 = .ok (.iload_n 3, 1) := by decide +kernel
theorem dX0_heldDay_60 : decode cX0_heldDay 60 = .ok (.aload 5, 2) := by decide +kernel
theorem dX0_heldDay_62 : decode cX0_heldDay 62 = .ok (.getfield 39, 3) := by decide +kernel
theorem dX0_heldDay_65 : decode cX0_heldDay 65 = .ok (.invokestatic 49, 3) := by decide +kernel
theorem dX0_heldDay_68 : decode cX0_heldDay 68 = .ok (.goto 12, 3) := by decide +kernel
theorem dX0_heldDay_71 : decode cX0_heldDay 71 = .ok (.iload_n 3, 1) := by decide +kernel
theorem dX0_heldDay_72 : decode cX0_heldDay 72 = .ok (.aload 5, 2) := by decide +kernel
theorem dX0_heldDay_74 : decode cX0_heldDay 74 = .ok (.getfield 42, 3) := by decide +kernel
theorem dX0_heldDay_77 : decode cX0_heldDay 77 = .ok (.invokestatic 55, 3) := by decide +kernel
theorem dX0_heldDay_80 : decode cX0_heldDay 80 = .ok (.istore_n 3, 1) := by decide +kernel
theorem dX0_heldDay_81 : decode cX0_heldDay 81 = .ok (.iinc 4 1, 3) := by decide +kernel
theorem dX0_heldDay_84 : decode cX0_heldDay 84 = .ok (.goto (-56), 3) := by decide +kernel
theorem dX0_heldDay_87 : decode cX0_heldDay 87 = .ok (.iload_n 3, 1) := by decide +kernel
theorem dX0_heldDay_88 : decode cX0_heldDay 88 = .ok (.ireturn, 1) := by decide +kernel
theorem dX0_earlier_0 : decode cX0_earlier 0 = .ok (.iload_n 0, 1) := by decide +kernel
theorem dX0_earlier_1 : decode cX0_earlier 1 = .ok (.iconst (-1), 1) := by decide +kernel
theorem dX0_earlier_2 : decode cX0_earlier 2 = .ok (.if_icmp .ne 7, 3) := by decide +kernel
theorem dX0_earlier_5 : decode cX0_earlier 5 = .ok (.iload_n 1, 1) := by decide +kernel
theorem dX0_earlier_6 : decode cX0_earlier 6 = .ok (.goto 8, 3) := by decide +kernel
theorem dX0_earlier_9 : decode cX0_earlier 9 = .ok (.iload_n 0, 1) := by decide +kernel
theorem dX0_earlier_10 : decode cX0_earlier 10 = .ok (.iload_n 1, 1) := by decide +kernel
theorem dX0_earlier_11 : decode cX0_earlier 11 = .ok (.invokestatic 58, 3) := by decide +kernel
theorem dX0_earlier_14 : decode cX0_earlier 14 = .ok (.ireturn, 1) := by decide +kernel
theorem dX0_quarrelling_0 : decode cX0_quarrelling 0 = .ok (.iload_n 1, 1) := by decide +kernel
theorem dX0_quarrelling_1 : decode cX0_quarrelling 1 = .ok (.istore_n 2, 1) := by decide +kernel
theorem dX0_quarrelling_2 : decode cX0_quarrelling 2 = .ok (.iconst 0, 1) := by decide +kernel
theorem dX0_quarrelling_3 : decode cX0_quarrelling 3 = .ok (.istore_n 3, 1) := by decide +kernel
theorem dX0_quarrelling_4 : decode cX0_quarrelling 4 = .ok (.iload_n 3, 1) := by decide +kernel
theorem dX0_quarrelling_5 : decode cX0_quarrelling 5 = .ok (.aload_n 0, 1) := by decide +kernel
theorem dX0_quarrelling_6 : decode cX0_quarrelling 6 = .ok (.getfield 17, 3) := by decide +kernel
theorem dX0_quarrelling_9 : decode cX0_quarrelling 9 = .ok (.if_icmp .ge 30, 3) := by decide +kernel
theorem dX0_quarrelling_12 : decode cX0_quarrelling 12 = .ok (.aload_n 0, 1) := by decide +kernel
theorem dX0_quarrelling_13 : decode cX0_quarrelling 13 = .ok (.getfield 11, 3) := by decide +kernel
theorem dX0_quarrelling_16 : decode cX0_quarrelling 16 = .ok (.iload_n 3, 1) := by decide +kernel
theorem dX0_quarrelling_17 : decode cX0_quarrelling 17 = .ok (.aaload, 1) := by decide +kernel
theorem dX0_quarrelling_18 : decode cX0_quarrelling 18 = .ok (.invokevirtual 61, 3) := by decide +kernel
theorem dX0_quarrelling_21 : decode cX0_quarrelling 21 = .ok (.ifCond .eq 12, 3) := by decide +kernel
theorem dX0_quarrelling_24 : decode cX0_quarrelling 24 = .ok (.iload_n 2, 1) := by decide +kernel
theorem dX0_quarrelling_25 : decode cX0_quarrelling 25 = .ok (.ifCond .ne 5, 3) := by decide +kernel
theorem dX0_quarrelling_28 : decode cX0_quarrelling 28 = .ok (.iload_n 3, 1) := by decide +kernel
theorem dX0_quarrelling_29 : decode cX0_quarrelling 29 = .ok (.ireturn, 1) := by decide +kernel
theorem dX0_quarrelling_30 : decode cX0_quarrelling 30 = .ok (.iinc 2 (-1), 3) := by decide +kernel
theorem dX0_quarrelling_33 : decode cX0_quarrelling 33 = .ok (.iinc 3 1, 3) := by decide +kernel
theorem dX0_quarrelling_36 : decode cX0_quarrelling 36 = .ok (.goto (-32), 3) := by decide +kernel
theorem dX0_quarrelling_39 : decode cX0_quarrelling 39 = .ok (.iconst (-1), 1) := by decide +kernel
theorem dX0_quarrelling_40 : decode cX0_quarrelling 40 = .ok (.ireturn, 1) := by decide +kernel
theorem dX0_unite_0 : decode cX0_unite 0 = .ok (.iconst 0, 1) := by decide +kernel
theorem dX0_unite_1 : decode cX0_unite 1 = .ok (.istore_n 3, 1) := by decide +kernel
theorem dX0_unite_2 : decode cX0_unite 2 = .ok (.iload_n 3, 1) := by decide +kernel
theorem dX0_unite_3 : decode cX0_unite 3 = .ok (.aload_n 0, 1) := by decide +kernel
theorem dX0_unite_4 : decode cX0_unite 4 = .ok (.getfield 17, 3) := by decide +kernel
theorem dX0_unite_7 : decode cX0_unite 7 = .ok (.if_icmp .ge 32, 3) := by decide +kernel
theorem dX0_unite_10 : decode cX0_unite 10 = .ok (.aload_n 0, 1) := by decide +kernel
theorem dX0_unite_11 : decode cX0_unite 11 = .ok (.getfield 11, 3) := by decide +kernel
theorem dX0_unite_14 : decode cX0_unite 14 = .ok (.iload_n 3, 1) := by decide +kernel
theorem dX0_unite_15 : decode cX0_unite 15 = .ok (.aaload, 1) := by decide +kernel
theorem dX0_unite_16 : decode cX0_unite 16 = .ok (.getfield 64, 3) := by decide +kernel
theorem dX0_unite_19 : decode cX0_unite 19 = .ok (.iload_n 2, 1) := by decide +kernel
theorem dX0_unite_20 : decode cX0_unite 20 = .ok (.if_icmp .ne 13, 3) := by decide +kernel
theorem dX0_unite_23 : decode cX0_unite 23 = .ok (.aload_n 0, 1) := by decide +kernel
theorem dX0_unite_24 : decode cX0_unite 24 = .ok (.getfield 11, 3) := by decide +kernel
theorem dX0_unite_27 : decode cX0_unite 27 = .ok (.iload_n 3, 1) := by decide +kernel
theorem dX0_unite_28 : decode cX0_unite 28 = .ok (.aaload, 1) := by decide +kernel
theorem dX0_unite_29 : decode cX0_unite 29 = .ok (.iload_n 1, 1) := by decide +kernel
theorem dX0_unite_30 : decode cX0_unite 30 = .ok (.putfield 64, 3) := by decide +kernel
theorem dX0_unite_33 : decode cX0_unite 33 = .ok (.iinc 3 1, 3) := by decide +kernel
theorem dX0_unite_36 : decode cX0_unite 36 = .ok (.goto (-34), 3) := by decide +kernel
theorem dX0_unite_39 : decode cX0_unite 39 = .ok (.return_, 1) := by decide +kernel
theorem dX0_partsSeen_0 : decode cX0_partsSeen 0 = .ok (.iconst 0, 1) := by decide +kernel
theorem dX0_partsSeen_1 : decode cX0_partsSeen 1 = .ok (.istore 5, 2) := by decide +kernel
theorem dX0_partsSeen_3 : decode cX0_partsSeen 3 = .ok (.iconst 0, 1) := by decide +kernel
theorem dX0_partsSeen_4 : decode cX0_partsSeen 4 = .ok (.istore 6, 2) := by decide +kernel
theorem dX0_partsSeen_6 : decode cX0_partsSeen 6 = .ok (.iload 6, 2) := by decide +kernel
theorem dX0_partsSeen_8 : decode cX0_partsSeen 8 = .ok (.aload_n 0, 1) := by decide +kernel
theorem dX0_partsSeen_9 : decode cX0_partsSeen 9 = .ok (.getfield 17, 3) := by decide +kernel
theorem dX0_partsSeen_12 : decode cX0_partsSeen 12 = .ok (.if_icmp .ge 30, 3) := by decide +kernel
theorem dX0_partsSeen_15 : decode cX0_partsSeen 15 = .ok (.aload_n 0, 1) := by decide +kernel
theorem dX0_partsSeen_16 : decode cX0_partsSeen 16 = .ok (.getfield 11, 3) := by decide +kernel
theorem dX0_partsSeen_19 : decode cX0_partsSeen 19 = .ok (.iload 6, 2) := by decide +kernel
theorem dX0_partsSeen_21 : decode cX0_partsSeen 21 = .ok (.aaload, 1) := by decide +kernel
theorem dX0_partsSeen_22 : decode cX0_partsSeen 22 = .ok (.aload_n 1, 1) := by decide +kernel
theorem dX0_partsSeen_23 : decode cX0_partsSeen 23 = .ok (.iload_n 2, 1) := by decide +kernel
theorem dX0_partsSeen_24 : decode cX0_partsSeen 24 = .ok (.iload_n 3, 1) := by decide +kernel
theorem dX0_partsSeen_25 : decode cX0_partsSeen 25 = .ok (.iload 4, 2) := by decide +kernel
theorem dX0_partsSeen_27 : decode cX0_partsSeen 27 = .ok (.invokestatic 67, 3) := by decide +kernel
theorem dX0_partsSeen_30 : decode cX0_partsSeen 30 = .ok (.ifCond .eq 6, 3) := by decide +kernel
theorem dX0_partsSeen_33 : decode cX0_partsSeen 33 = .ok (.iinc 5 1, 3) := by decide +kernel
theorem dX0_partsSeen_36 : decode cX0_partsSeen 36 = .ok (.iinc 6 1, 3) := by decide +kernel
theorem dX0_partsSeen_39 : decode cX0_partsSeen 39 = .ok (.goto (-33), 3) := by decide +kernel
theorem dX0_partsSeen_42 : decode cX0_partsSeen 42 = .ok (.iload 5, 2) := by decide +kernel
theorem dX0_partsSeen_44 : decode cX0_partsSeen 44 = .ok (.ireturn, 1) := by decide +kernel
theorem dX0_piecesSeen_0 : decode cX0_piecesSeen 0 = .ok (.iconst 0, 1) := by decide +kernel
theorem dX0_piecesSeen_1 : decode cX0_piecesSeen 1 = .ok (.istore 4, 2) := by decide +kernel
theorem dX0_piecesSeen_3 : decode cX0_piecesSeen 3 = .ok (.iload 4, 2) := by decide +kernel
theorem dX0_piecesSeen_5 : decode cX0_piecesSeen 5 = .ok (.aload_n 0, 1) := by decide +kernel
theorem dX0_piecesSeen_6 : decode cX0_piecesSeen 6 = .ok (.getfield 17, 3) := by decide +kernel
theorem dX0_piecesSeen_9 : decode cX0_piecesSeen 9 = .ok (.if_icmp .ge 17, 3) := by decide +kernel
theorem dX0_piecesSeen_12 : decode cX0_piecesSeen 12 = .ok (.aload_n 0, 1) := by decide +kernel
theorem dX0_piecesSeen_13 : decode cX0_piecesSeen 13 = .ok (.getfield 24, 3) := by decide +kernel
theorem dX0_piecesSeen_16 : decode cX0_piecesSeen 16 = .ok (.iload 4, 2) := by decide +kernel
theorem dX0_piecesSeen_18 : decode cX0_piecesSeen 18 = .ok (.iconst 0, 1) := by decide +kernel
theorem dX0_piecesSeen_19 : decode cX0_piecesSeen 19 = .ok (.bastore, 1) := by decide +kernel
theorem dX0_piecesSeen_20 : decode cX0_piecesSeen 20 = .ok (.iinc 4 1, 3) := by decide +kernel
theorem dX0_piecesSeen_23 : decode cX0_piecesSeen 23 = .ok (.goto (-20), 3) := by decide +kernel
theorem dX0_piecesSeen_26 : decode cX0_piecesSeen 26 = .ok (.iconst 0, 1) := by decide +kernel
theorem dX0_piecesSeen_27 : decode cX0_piecesSeen 27 = .ok (.istore 4, 2) := by decide +kernel
theorem dX0_piecesSeen_29 : decode cX0_piecesSeen 29 = .ok (.iconst 0, 1) := by decide +kernel
theorem dX0_piecesSeen_30 : decode cX0_piecesSeen 30 = .ok (.istore 5, 2) := by decide +kernel
theorem dX0_piecesSeen_32 : decode cX0_piecesSeen 32 = .ok (.iload 5, 2) := by decide +kernel
theorem dX0_piecesSeen_34 : decode cX0_piecesSeen 34 = .ok (.aload_n 0, 1) := by decide +kernel
theorem dX0_piecesSeen_35 : decode cX0_piecesSeen 35 = .ok (.getfield 17, 3) := by decide +kernel
theorem dX0_piecesSeen_38 : decode cX0_piecesSeen 38 = .ok (.if_icmp .ge 57, 3) := by decide +kernel
theorem dX0_piecesSeen_41 : decode cX0_piecesSeen 41 = .ok (.aload_n 0, 1) := by decide +kernel
theorem dX0_piecesSeen_42 : decode cX0_piecesSeen 42 = .ok (.getfield 11, 3) := by decide +kernel
theorem dX0_piecesSeen_45 : decode cX0_piecesSeen 45 = .ok (.iload 5, 2) := by decide +kernel
theorem dX0_piecesSeen_47 : decode cX0_piecesSeen 47 = .ok (.aaload, 1) := by decide +kernel
theorem dX0_piecesSeen_48 : decode cX0_piecesSeen 48 = .ok (.astore 6, 2) := by decide +kernel
theorem dX0_piecesSeen_50 : decode cX0_piecesSeen 50 = .ok (.aload 6, 2) := by decide +kernel
theorem dX0_piecesSeen_52 : decode cX0_piecesSeen 52 = .ok (.aload_n 1, 1) := by decide +kernel
theorem dX0_piecesSeen_53 : decode cX0_piecesSeen 53 = .ok (.iconst 3, 1) := by decide +kernel
theorem dX0_piecesSeen_54 : decode cX0_piecesSeen 54 = .ok (.iload_n 2, 1) := by decide +kernel
theorem dX0_piecesSeen_55 : decode cX0_piecesSeen 55 = .ok (.iload_n 3, 1) := by decide +kernel
theorem dX0_piecesSeen_56 : decode cX0_piecesSeen 56 = .ok (.invokestatic 67, 3) := by decide +kernel
theorem dX0_piecesSeen_59 : decode cX0_piecesSeen 59 = .ok (.ifCond .eq 30, 3) := by decide +kernel
theorem dX0_piecesSeen_62 : decode cX0_piecesSeen 62 = .ok (.aload_n 0, 1) := by decide +kernel
theorem dX0_piecesSeen_63 : decode cX0_piecesSeen 63 = .ok (.getfield 24, 3) := by decide +kernel
theorem dX0_piecesSeen_66 : decode cX0_piecesSeen 66 = .ok (.aload 6, 2) := by decide +kernel
theorem dX0_piecesSeen_68 : decode cX0_piecesSeen 68 = .ok (.getfield 64, 3) := by decide +kernel
theorem dX0_piecesSeen_71 : decode cX0_piecesSeen 71 = .ok (.baload, 1) := by decide +kernel
theorem dX0_piecesSeen_72 : decode cX0_piecesSeen 72 = .ok (.ifCond .ne 17, 3) := by decide +kernel
theorem dX0_piecesSeen_75 : decode cX0_piecesSeen 75 = .ok (.aload_n 0, 1) := by decide +kernel
theorem dX0_piecesSeen_76 : decode cX0_piecesSeen 76 = .ok (.getfield 24, 3) := by decide +kernel
theorem dX0_piecesSeen_79 : decode cX0_piecesSeen 79 = .ok (.aload 6, 2) := by decide +kernel
theorem dX0_piecesSeen_81 : decode cX0_piecesSeen 81 = .ok (.getfield 64, 3) := by decide +kernel
theorem dX0_piecesSeen_84 : decode cX0_piecesSeen 84 = .ok (.iconst 1, 1) := by decide +kernel
theorem dX0_piecesSeen_85 : decode cX0_piecesSeen 85 = .ok (.bastore, 1) := by decide +kernel
theorem dX0_piecesSeen_86 : decode cX0_piecesSeen 86 = .ok (.iinc 4 1, 3) := by decide +kernel
theorem dX0_piecesSeen_89 : decode cX0_piecesSeen 89 = .ok (.iinc 5 1, 3) := by decide +kernel
theorem dX0_piecesSeen_92 : decode cX0_piecesSeen 92 = .ok (.goto (-60), 3) := by decide +kernel
theorem dX0_piecesSeen_95 : decode cX0_piecesSeen 95 = .ok (.iload 4, 2) := by decide +kernel
theorem dX0_piecesSeen_97 : decode cX0_piecesSeen 97 = .ok (.ireturn, 1) := by decide +kernel
theorem dX0_uncataloguedSeen_0 : decode cX0_uncataloguedSeen 0 = .ok (.iconst 0, 1) := by decide +kernel
theorem dX0_uncataloguedSeen_1 : decode cX0_uncataloguedSeen 1 = .ok (.istore 4, 2) := by decide +kernel
theorem dX0_uncataloguedSeen_3 : decode cX0_uncataloguedSeen 3 = .ok (.iconst 0, 1) := by decide +kernel
theorem dX0_uncataloguedSeen_4 : decode cX0_uncataloguedSeen 4 = .ok (.istore 5, 2) := by decide +kernel
theorem dX0_uncataloguedSeen_6 : decode cX0_uncataloguedSeen 6 = .ok (.iload 5, 2) := by decide +kernel
theorem dX0_uncataloguedSeen_8 : decode cX0_uncataloguedSeen 8 = .ok (.aload_n 0, 1) := by decide +kernel
theorem dX0_uncataloguedSeen_9 : decode cX0_uncataloguedSeen 9 = .ok (.getfield 17, 3) := by decide +kernel
theorem dX0_uncataloguedSeen_12 : decode cX0_uncataloguedSeen 12 = .ok (.if_icmp .ge 49, 3) := by decide +kernel
theorem dX0_uncataloguedSeen_15 : decode cX0_uncataloguedSeen 15 = .ok (.aload_n 0, 1) := by decide +kernel
theorem dX0_uncataloguedSeen_16 : decode cX0_uncataloguedSeen 16 = .ok (.getfield 11, 3) := by decide +kernel
theorem dX0_uncataloguedSeen_19 : decode cX0_uncataloguedSeen 19 = .ok (.iload 5, 2) := by decide +kernel
theorem dX0_uncataloguedSeen_21 : decode cX0_uncataloguedSeen 21 = .ok (.aaload, 1) := by decide +kernel
theorem dX0_uncataloguedSeen_22 : decode cX0_uncataloguedSeen 22 = .ok (.astore 6, 2) := by decide +kernel
theorem dX0_uncataloguedSeen_24 : decode cX0_uncataloguedSeen 24 = .ok (.aload 6, 2) := by decide +kernel
theorem dX0_uncataloguedSeen_26 : decode cX0_uncataloguedSeen 26 = .ok (.getfield 71, 3) := by decide +kernel
theorem dX0_uncataloguedSeen_29 : decode cX0_uncataloguedSeen 29 = .ok (.iconst (-1), 1) := by decide +kernel
theorem dX0_uncataloguedSeen_30 : decode cX0_uncataloguedSeen 30 = .ok (.if_icmp .eq 25, 3) := by decide +kernel
theorem dX0_uncataloguedSeen_33 : decode cX0_uncataloguedSeen 33 = .ok (.aload 6, 2) := by decide +kernel
theorem dX0_uncataloguedSeen_35 : decode cX0_uncataloguedSeen 35 = .ok (.aload_n 1, 1) := by decide +kernel
theorem dX0_uncataloguedSeen_36 : decode cX0_uncataloguedSeen 36 = .ok (.iconst 2, 1) := by decide +kernel
theorem dX0_uncataloguedSeen_37 : decode cX0_uncataloguedSeen 37 = .ok (.iload_n 2, 1) := by decide +kernel
theorem dX0_uncataloguedSeen_38 : decode cX0_uncataloguedSeen 38 = .ok (.iload_n 3, 1) := by decide +kernel
theorem dX0_uncataloguedSeen_39 : decode cX0_uncataloguedSeen 39 = .ok (.invokestatic 67, 3) := by decide +kernel
theorem dX0_uncataloguedSeen_42 : decode cX0_uncataloguedSeen 42 = .ok (.ifCond .eq 13, 3) := by decide +kernel
theorem dX0_uncataloguedSeen_45 : decode cX0_uncataloguedSeen 45 = .ok (.iload 4, 2) := by decide +kernel
theorem dX0_uncataloguedSeen_47 : decode cX0_uncataloguedSeen 47 = .ok (.aload 6, 2) := by decide +kernel
theorem dX0_uncataloguedSeen_49 : decode cX0_uncataloguedSeen 49 = .ok (.getfield 71, 3) := by decide +kernel
theorem dX0_uncataloguedSeen_52 : decode cX0_uncataloguedSeen 52 = .ok (.iadd, 1) := by decide +kernel
theorem dX0_uncataloguedSeen_53 : decode cX0_uncataloguedSeen 53 = .ok (.istore 4, 2) := by decide +kernel
theorem dX0_uncataloguedSeen_55 : decode cX0_uncataloguedSeen 55 = .ok (.iinc 5 1, 3) := by decide +kernel
theorem dX0_uncataloguedSeen_58 : decode cX0_uncataloguedSeen 58 = .ok (.goto (-52), 3) := by decide +kernel
theorem dX0_uncataloguedSeen_61 : decode cX0_uncataloguedSeen 61 = .ok (.iload 4, 2) := by decide +kernel
theorem dX0_uncataloguedSeen_63 : decode cX0_uncataloguedSeen 63 = .ok (.ireturn, 1) := by decide +kernel
theorem dX0_isPartSeen_0 : decode cX0_isPartSeen 0 = .ok (.aload_n 0, 1) := by decide +kernel
theorem dX0_isPartSeen_1 : decode cX0_isPartSeen 1 = .ok (.getfield 74, 3) := by decide +kernel
theorem dX0_isPartSeen_4 : decode cX0_isPartSeen 4 = .ok (.iload_n 2, 1) := by decide +kernel
theorem dX0_isPartSeen_5 : decode cX0_isPartSeen 5 = .ok (.if_icmp .ne 25, 3) := by decide +kernel
theorem dX0_isPartSeen_8 : decode cX0_isPartSeen 8 = .ok (.aload_n 0, 1) := by decide +kernel
theorem dX0_isPartSeen_9 : decode cX0_isPartSeen 9 = .ok (.aload_n 1, 1) := by decide +kernel
theorem dX0_isPartSeen_10 : decode cX0_isPartSeen 10 = .ok (.invokevirtual 77, 3) := by decide +kernel
theorem dX0_isPartSeen_13 : decode cX0_isPartSeen 13 = .ok (.ifCond .eq 17, 3) := by decide +kernel
theorem dX0_isPartSeen_16 : decode cX0_isPartSeen 16 = .ok (.aload_n 0, 1) := by decide +kernel
theorem dX0_isPartSeen_17 : decode cX0_isPartSeen 17 = .ok (.iload_n 3, 1) := by decide +kernel
theorem dX0_isPartSeen_18 : decode cX0_isPartSeen 18 = .ok (.iload 4, 2) := by decide +kernel
theorem dX0_isPartSeen_20 : decode cX0_isPartSeen 20 = .ok (.invokevirtual 80, 3) := by decide +kernel
theorem dX0_isPartSeen_23 : decode cX0_isPartSeen 23 = .ok (.ifCond .eq 7, 3) := by decide +kernel
theorem dX0_isPartSeen_26 : decode cX0_isPartSeen 26 = .ok (.iconst 1, 1) := by decide +kernel
theorem dX0_isPartSeen_27 : decode cX0_isPartSeen 27 = .ok (.goto 4, 3) := by decide +kernel
theorem dX0_isPartSeen_30 : decode cX0_isPartSeen 30 = .ok (.iconst 0, 1) := by decide +kernel
theorem dX0_isPartSeen_31 : decode cX0_isPartSeen 31 = .ok (.ireturn, 1) := by decide +kernel
theorem dX0_isMarkOfAnother_0 : decode cX0_isMarkOfAnother 0 = .ok (.iconst 0, 1) := by decide +kernel
theorem dX0_isMarkOfAnother_1 : decode cX0_isMarkOfAnother 1 = .ok (.istore_n 3, 1) := by decide +kernel
theorem dX0_isMarkOfAnother_2 : decode cX0_isMarkOfAnother 2 = .ok (.iload_n 3, 1) := by decide +kernel
theorem dX0_isMarkOfAnother_3 : decode cX0_isMarkOfAnother 3 = .ok (.aload_n 0, 1) := by decide +kernel
theorem dX0_isMarkOfAnother_4 : decode cX0_isMarkOfAnother 4 = .ok (.getfield 17, 3) := by decide +kernel
theorem dX0_isMarkOfAnother_7 : decode cX0_isMarkOfAnother 7 = .ok (.if_icmp .ge 34, 3) := by decide +kernel
theorem dX0_isMarkOfAnother_10 : decode cX0_isMarkOfAnother 10 = .ok (.aload_n 0, 1) := by decide +kernel
theorem dX0_isMarkOfAnother_11 : decode cX0_isMarkOfAnother 11 = .ok (.getfield 11, 3) := by decide +kernel
theorem dX0_isMarkOfAnother_14 : decode cX0_isMarkOfAnother 14 = .ok (.iload_n 3, 1) := by decide +kernel
theorem dX0_isMarkOfAnother_15 : decode cX0_isMarkOfAnother 15 = .ok (.aaload, 1) := by decide +kernel
theorem dX0_isMarkOfAnother_16 : decode cX0_isMarkOfAnother 16 = .ok (.getfield 84, 3) := by decide +kernel
theorem dX0_isMarkOfAnother_19 : decode cX0_isMarkOfAnother 19 = .ok (.iload_n 1, 1) := by decide +kernel
theorem dX0_isMarkOfAnother_20 : decode cX0_isMarkOfAnother 20 = .ok (.if_icmp .ne 15, 3) := by decide +kernel
theorem dX0_isMarkOfAnother_23 : decode cX0_isMarkOfAnother 23 = .ok (.aload_n 0, 1) := by decide +kernel
theorem dX0_isMarkOfAnother_24 : decode cX0_isMarkOfAnother 24 = .ok (.getfield 11, 3) := by decide +kernel
theorem dX0_isMarkOfAnother_27 : decode cX0_isMarkOfAnother 27 = .ok (.iload_n 3, 1) := by decide +kernel
theorem dX0_isMarkOfAnother_28 : decode cX0_isMarkOfAnother 28 = .ok (.aaload, 1) := by decide +kernel
theorem dX0_isMarkOfAnother_29 : decode cX0_isMarkOfAnother 29 = .ok (.aload_n 2, 1) := by decide +kernel
theorem dX0_isMarkOfAnother_30 : decode cX0_isMarkOfAnother 30 = .ok (.if_acmp .eq 5, 3) := by decide +kernel
theorem dX0_isMarkOfAnother_33 : decode cX0_isMarkOfAnother 33 = .ok (.iconst 1, 1) := by decide +kernel
theorem dX0_isMarkOfAnother_34 : decode cX0_isMarkOfAnother 34 = .ok (.ireturn, 1) := by decide +kernel
theorem dX0_isMarkOfAnother_35 : decode cX0_isMarkOfAnother 35 = .ok (.iinc 3 1, 3) := by decide +kernel
theorem dX0_isMarkOfAnother_38 : decode cX0_isMarkOfAnother 38 = .ok (.goto (-36), 3) := by decide +kernel
theorem dX0_isMarkOfAnother_41 : decode cX0_isMarkOfAnother 41 = .ok (.iconst 0, 1) := by decide +kernel
theorem dX0_isMarkOfAnother_42 : decode cX0_isMarkOfAnother 42 = .ok (.ireturn, 1) := by decide +kernel
theorem dX0_lineUpByMark_0 : decode cX0_lineUpByMark 0 = .ok (.iconst 0, 1) := by decide +kernel
theorem dX0_lineUpByMark_1 : decode cX0_lineUpByMark 1 = .ok (.istore_n 3, 1) := by decide +kernel
theorem dX0_lineUpByMark_2 : decode cX0_lineUpByMark 2 = .ok (.iconst 0, 1) := by decide +kernel
theorem dX0_lineUpByMark_3 : decode cX0_lineUpByMark 3 = .ok (.istore 4, 2) := by decide +kernel
theorem dX0_lineUpByMark_5 : decode cX0_lineUpByMark 5 = .ok (.iload 4, 2) := by decide +kernel
theorem dX0_lineUpByMark_7 : decode cX0_lineUpByMark 7 = .ok (.aload_n 0, 1) := by decide +kernel
theorem dX0_lineUpByMark_8 : decode cX0_lineUpByMark 8 = .ok (.getfield 17, 3) := by decide +kernel
theorem dX0_lineUpByMark_11 : decode cX0_lineUpByMark 11 = .ok (.if_icmp .ge 47, 3) := by decide +kernel
theorem dX0_lineUpByMark_14 : decode cX0_lineUpByMark 14 = .ok (.aload_n 0, 1) := by decide +kernel
theorem dX0_lineUpByMark_15 : decode cX0_lineUpByMark 15 = .ok (.getfield 11, 3) := by decide +kernel
theorem dX0_lineUpByMark_18 : decode cX0_lineUpByMark 18 = .ok (.iload 4, 2) := by decide +kernel
theorem dX0_lineUpByMark_20 : decode cX0_lineUpByMark 20 = .ok (.aaload, 1) := by decide +kernel
theorem dX0_lineUpByMark_21 : decode cX0_lineUpByMark 21 = .ok (.astore 5, 2) := by decide +kernel
theorem dX0_lineUpByMark_23 : decode cX0_lineUpByMark 23 = .ok (.aload 5, 2) := by decide +kernel
theorem dX0_lineUpByMark_25 : decode cX0_lineUpByMark 25 = .ok (.getfield 84, 3) := by decide +kernel
theorem dX0_lineUpByMark_28 : decode cX0_lineUpByMark 28 = .ok (.iconst (-1), 1) := by decide +kernel
theorem dX0_lineUpByMark_29 : decode cX0_lineUpByMark 29 = .ok (.if_icmp .eq 23, 3) := by decide +kernel
theorem dX0_lineUpByMark_32 : decode cX0_lineUpByMark 32 = .ok (.aload 5, 2) := by decide +kernel
theorem dX0_lineUpByMark_34 : decode cX0_lineUpByMark 34 = .ok (.iload_n 1, 1) := by decide +kernel
theorem dX0_lineUpByMark_35 : decode cX0_lineUpByMark 35 = .ok (.iload_n 2, 1) := by decide +kernel
theorem dX0_lineUpByMark_36 : decode cX0_lineUpByMark 36 = .ok (.invokevirtual 80, 3) := by decide +kernel
theorem dX0_lineUpByMark_39 : decode cX0_lineUpByMark 39 = .ok (.ifCond .eq 13, 3) := by decide +kernel
theorem dX0_lineUpByMark_42 : decode cX0_lineUpByMark 42 = .ok (.aload_n 0, 1) := by decide +kernel
theorem dX0_lineUpByMark_43 : decode cX0_lineUpByMark 43 = .ok (.aload 5, 2) := by decide +kernel
theorem dX0_lineUpByMark_45 : decode cX0_lineUpByMark 45 = .ok (.iload_n 3, 1) := by decide +kernel
theorem dX0_lineUpByMark_46 : decode cX0_lineUpByMark 46 = .ok (.invokevirtual 87, 3) := by decide +kernel
theorem dX0_lineUpByMark_49 : decode cX0_lineUpByMark 49 = .ok (.iinc 3 1, 3) := by decide +kernel
theorem dX0_lineUpByMark_52 : decode cX0_lineUpByMark 52 = .ok (.iinc 4 1, 3) := by decide +kernel
theorem dX0_lineUpByMark_55 : decode cX0_lineUpByMark 55 = .ok (.goto (-50), 3) := by decide +kernel
theorem dX0_lineUpByMark_58 : decode cX0_lineUpByMark 58 = .ok (.iload_n 3, 1) := by decide +kernel
theorem dX0_lineUpByMark_59 : decode cX0_lineUpByMark 59 = .ok (.ireturn, 1) := by decide +kernel
theorem dX0_insertByMark_0 : decode cX0_insertByMark 0 = .ok (.iload_n 2, 1) := by decide +kernel
theorem dX0_insertByMark_1 : decode cX0_insertByMark 1 = .ok (.istore_n 3, 1) := by decide +kernel
theorem dX0_insertByMark_2 : decode cX0_insertByMark 2 = .ok (.iload_n 3, 1) := by decide +kernel
theorem dX0_insertByMark_3 : decode cX0_insertByMark 3 = .ok (.ifCond .le 41, 3) := by decide +kernel
theorem dX0_insertByMark_6 : decode cX0_insertByMark 6 = .ok (.aload_n 0, 1) := by decide +kernel
theorem dX0_insertByMark_7 : decode cX0_insertByMark 7 = .ok (.getfield 21, 3) := by decide +kernel
theorem dX0_insertByMark_10 : decode cX0_insertByMark 10 = .ok (.iload_n 3, 1) := by decide +kernel
theorem dX0_insertByMark_11 : decode cX0_insertByMark 11 = .ok (.iconst 1, 1) := by decide +kernel
theorem dX0_insertByMark_12 : decode cX0_insertByMark 12 = .ok (.isub, 1) := by decide +kernel
theorem dX0_insertByMark_13 : decode cX0_insertByMark 13 = .ok (.aaload, 1) := by decide +kernel
theorem dX0_insertByMark_14 : decode cX0_insertByMark 14 = .ok (.getfield 84, 3) := by decide +kernel
theorem dX0_insertByMark_17 : decode cX0_insertByMark 17 = .ok (.aload_n 1, 1) := by decide +kernel
theorem dX0_insertByMark_18 : decode cX0_insertByMark 18 = .ok (.getfield 84, 3) := by decide +kernel
theorem dX0_insertByMark_21 : decode cX0_insertByMark 21 = .ok (.if_icmp .le 23, 3) := by decide +kernel
theorem dX0_insertByMark_24 : decode cX0_insertByMark 24 = .ok (.aload_n 0, 1) := by decide +kernel
theorem dX0_insertByMark_25 : decode cX0_insertByMark 25 = .ok (.getfield 21, 3) := by decide +kernel
theorem dX0_insertByMark_28 : decode cX0_insertByMark 28 = .ok (.iload_n 3, 1) := by decide +kernel
theorem dX0_insertByMark_29 : decode cX0_insertByMark 29 = .ok (.aload_n 0, 1) := by decide +kernel
theorem dX0_insertByMark_30 : decode cX0_insertByMark 30 = .ok (.getfield 21, 3) := by decide +kernel
theorem dX0_insertByMark_33 : decode cX0_insertByMark 33 = .ok (.iload_n 3, 1) := by decide +kernel
theorem dX0_insertByMark_34 : decode cX0_insertByMark 34 = .ok (.iconst 1, 1) := by decide +kernel
theorem dX0_insertByMark_35 : decode cX0_insertByMark 35 = .ok (.isub, 1) := by decide +kernel
theorem dX0_insertByMark_36 : decode cX0_insertByMark 36 = .ok (.aaload, 1) := by decide +kernel
theorem dX0_insertByMark_37 : decode cX0_insertByMark 37 = .ok (.aastore, 1) := by decide +kernel
theorem dX0_insertByMark_38 : decode cX0_insertByMark 38 = .ok (.iinc 3 (-1), 3) := by decide +kernel
theorem dX0_insertByMark_41 : decode cX0_insertByMark 41 = .ok (.goto (-39), 3) := by decide +kernel
theorem dX0_insertByMark_44 : decode cX0_insertByMark 44 = .ok (.aload_n 0, 1) := by decide +kernel
theorem dX0_insertByMark_45 : decode cX0_insertByMark 45 = .ok (.getfield 21, 3) := by decide +kernel
theorem dX0_insertByMark_48 : decode cX0_insertByMark 48 = .ok (.iload_n 3, 1) := by decide +kernel
theorem dX0_insertByMark_49 : decode cX0_insertByMark 49 = .ok (.aload_n 1, 1) := by decide +kernel
theorem dX0_insertByMark_50 : decode cX0_insertByMark 50 = .ok (.aastore, 1) := by decide +kernel
theorem dX0_insertByMark_51 : decode cX0_insertByMark 51 = .ok (.return_, 1) := by decide +kernel
theorem dX1_init_0 : decode cX1_init 0 = .ok (.aload_n 0, 1) := by decide +kernel
theorem dX1_init_1 : decode cX1_init 1 = .ok (.invokespecial 3, 3) := by decide +kernel
theorem dX1_init_4 : decode cX1_init 4 = .ok (.aload_n 0, 1) := by decide +kernel
theorem dX1_init_5 : decode cX1_init 5 = .ok (.bipush 80, 2) := by decide +kernel
theorem dX1_init_7 : decode cX1_init 7 = .ok (.newarray .int, 2) := by decide +kernel
theorem dX1_init_9 : decode cX1_init 9 = .ok (.putfield 9, 3) := by decide +kernel
theorem dX1_init_12 : decode cX1_init 12 = .ok (.aload_n 0, 1) := by decide +kernel
theorem dX1_init_13 : decode cX1_init 13 = .ok (.bipush 40, 2) := by decide +kernel
theorem dX1_init_15 : decode cX1_init 15 = .ok (.newarray .int, 2) := by decide +kernel
theorem dX1_init_17 : decode cX1_init 17 = .ok (.putfield 15, 3) := by decide +kernel
theorem dX1_init_20 : decode cX1_init 20 = .ok (.aload_n 0, 1) := by decide +kernel
theorem dX1_init_21 : decode cX1_init 21 = .ok (.getfield 9, 3) := by decide +kernel
theorem dX1_init_24 : decode cX1_init 24 = .ok (.iconst (-1), 1) := by decide +kernel
theorem dX1_init_25 : decode cX1_init 25 = .ok (.invokestatic 18, 3) := by decide +kernel
theorem dX1_init_28 : decode cX1_init 28 = .ok (.aload_n 0, 1) := by decide +kernel
theorem dX1_init_29 : decode cX1_init 29 = .ok (.getfield 15, 3) := by decide +kernel
theorem dX1_init_32 : decode cX1_init 32 = .ok (.iconst (-1), 1) := by decide +kernel
theorem dX1_init_33 : decode cX1_init 33 = .ok (.invokestatic 18, 3) := by decide +kernel
theorem dX1_init_36 : decode cX1_init 36 = .ok (.return_, 1) := by decide +kernel
theorem dX1_copyFrom_0 : decode cX1_copyFrom 0 = .ok (.aload_n 1, 1) := by decide +kernel
theorem dX1_copyFrom_1 : decode cX1_copyFrom 1 = .ok (.getfield 9, 3) := by decide +kernel
theorem dX1_copyFrom_4 : decode cX1_copyFrom 4 = .ok (.iconst 0, 1) := by decide +kernel
theorem dX1_copyFrom_5 : decode cX1_copyFrom 5 = .ok (.aload_n 0, 1) := by decide +kernel
theorem dX1_copyFrom_6 : decode cX1_copyFrom 6 = .ok (.getfield 9, 3) := by decide +kernel
theorem dX1_copyFrom_9 : decode cX1_copyFrom 9 = .ok (.iconst 0, 1) := by decide +kernel
theorem dX1_copyFrom_10 : decode cX1_copyFrom 10 = .ok (.bipush 80, 2) := by decide +kernel
theorem dX1_copyFrom_12 : decode cX1_copyFrom 12 = .ok (.invokestatic 24, 3) := by decide +kernel
theorem dX1_copyFrom_15 : decode cX1_copyFrom 15 = .ok (.aload_n 1, 1) := by decide +kernel
theorem dX1_copyFrom_16 : decode cX1_copyFrom 16 = .ok (.getfield 15, 3) := by decide +kernel
theorem dX1_copyFrom_19 : decode cX1_copyFrom 19 = .ok (.iconst 0, 1) := by decide +kernel
theorem dX1_copyFrom_20 : decode cX1_copyFrom 20 = .ok (.aload_n 0, 1) := by decide +kernel
theorem dX1_copyFrom_21 : decode cX1_copyFrom 21 = .ok (.getfield 15, 3) := by decide +kernel
theorem dX1_copyFrom_24 : decode cX1_copyFrom 24 = .ok (.iconst 0, 1) := by decide +kernel
theorem dX1_copyFrom_25 : decode cX1_copyFrom 25 = .ok (.bipush 40, 2) := by decide +kernel
theorem dX1_copyFrom_27 : decode cX1_copyFrom 27 = .ok (.invokestatic 24, 3) := by decide +kernel
theorem dX1_copyFrom_30 : decode cX1_copyFrom 30 = .ok (.return_, 1) := by decide +kernel
theorem dX1_isFreeFor_0 : decode cX1_isFreeFor 0 = .ok (.aload_n 0, 1) := by decide +kernel
theorem dX1_isFreeFor_1 : decode cX1_isFreeFor 1 = .ok (.getfield 15, 3) := by decide +kernel
theorem dX1_isFreeFor_4 : decode cX1_isFreeFor 4 = .ok (.iload_n 2, 1) := by decide +kernel
theorem dX1_isFreeFor_5 : decode cX1_isFreeFor 5 = .ok (.iaload, 1) := by decide +kernel
theorem dX1_isFreeFor_6 : decode cX1_isFreeFor 6 = .ok (.iconst (-1), 1) := by decide +kernel
theorem dX1_isFreeFor_7 : decode cX1_isFreeFor 7 = .ok (.if_icmp .eq 13, 3) := by decide +kernel
theorem dX1_isFreeFor_10 : decode cX1_isFreeFor 10 = .ok (.aload_n 0, 1) := by decide +kernel
theorem dX1_isFreeFor_11 : decode cX1_isFreeFor 11 = .ok (.getfield 15, 3) := by decide +kernel
theorem dX1_isFreeFor_14 : decode cX1_isFreeFor 14 = .ok (.iload_n 2, 1) := by decide +kernel
theorem dX1_isFreeFor_15 : decode cX1_isFreeFor 15 = .ok (.iaload, 1) := by decide +kernel
theorem dX1_isFreeFor_16 : decode cX1_isFreeFor 16 = .ok (.iload_n 1, 1) := by decide +kernel
theorem dX1_isFreeFor_17 : decode cX1_isFreeFor 17 = .ok (.if_icmp .ne 7, 3) := by decide +kernel
theorem dX1_isFreeFor_20 : decode cX1_isFreeFor 20 = .ok (.iconst 1, 1) := by decide +kernel
theorem dX1_isFreeFor_21 : decode cX1_isFreeFor 21 = .ok (.goto 4, 3) := by decide +kernel
theorem dX1_isFreeFor_24 : decode cX1_isFreeFor 24 = .ok (.iconst 0, 1) := by decide +kernel
theorem dX1_isFreeFor_25 : decode cX1_isFreeFor 25 = .ok (.ireturn, 1) := by decide +kernel
theorem dX1_put_0 : decode cX1_put 0 = .ok (.aload_n 0, 1) := by decide +kernel
theorem dX1_put_1 : decode cX1_put 1 = .ok (.getfield 9, 3) := by decide +kernel
theorem dX1_put_4 : decode cX1_put 4 = .ok (.iload_n 1, 1) := by decide +kernel
theorem dX1_put_5 : decode cX1_put 5 = .ok (.iaload, 1) := by decide +kernel
theorem dX1_put_6 : decode cX1_put 6 = .ok (.iconst (-1), 1) := by decide +kernel
theorem dX1_put_7 : decode cX1_put 7 = .ok (.if_icmp .eq 15, 3) := by decide +kernel
theorem dX1_put_10 : decode cX1_put 10 = .ok (.aload_n 0, 1) := by decide +kernel
theorem dX1_put_11 : decode cX1_put 11 = .ok (.getfield 15, 3) := by decide +kernel
theorem dX1_put_14 : decode cX1_put 14 = .ok (.aload_n 0, 1) := by decide +kernel
theorem dX1_put_15 : decode cX1_put 15 = .ok (.getfield 9, 3) := by decide +kernel
theorem dX1_put_18 : decode cX1_put 18 = .ok (.iload_n 1, 1) := by decide +kernel
theorem dX1_put_19 : decode cX1_put 19 = .ok (.iaload, 1) := by decide +kernel
theorem dX1_put_20 : decode cX1_put 20 = .ok (.iconst (-1), 1) := by decide +kernel
theorem dX1_put_21 : decode cX1_put 21 = .ok (.iastore, 1) := by decide +kernel
theorem dX1_put_22 : decode cX1_put 22 = .ok (.aload_n 0, 1) := by decide +kernel
theorem dX1_put_23 : decode cX1_put 23 = .ok (.getfield 9, 3) := by decide +kernel
theorem dX1_put_26 : decode cX1_put 26 = .ok (.iload_n 1, 1) := by decide +kernel
theorem dX1_put_27 : decode cX1_put 27 = .ok (.iload_n 2, 1) := by decide +kernel
theorem dX1_put_28 : decode cX1_put 28 = .ok (.iastore, 1) := by decide +kernel
theorem dX1_put_29 : decode cX1_put 29 = .ok (.iload_n 2, 1) := by decide +kernel
theorem dX1_put_30 : decode cX1_put 30 = .ok (.iconst (-1), 1) := by decide +kernel
theorem dX1_put_31 : decode cX1_put 31 = .ok (.if_icmp .eq 10, 3) := by decide +kernel
theorem dX1_put_34 : decode cX1_put 34 = .ok (.aload_n 0, 1) := by decide +kernel
theorem dX1_put_35 : decode cX1_put 35 = .ok (.getfield 15, 3) := by decide +kernel
theorem dX1_put_38 : decode cX1_put 38 = .ok (.iload_n 2, 1) := by decide +kernel
theorem dX1_put_39 : decode cX1_put 39 = .ok (.iload_n 1, 1) := by decide +kernel
theorem dX1_put_40 : decode cX1_put 40 = .ok (.iastore, 1) := by decide +kernel
theorem dX1_put_41 : decode cX1_put 41 = .ok (.return_, 1) := by decide +kernel
theorem dX1_leastEmpty_0 : decode cX1_leastEmpty 0 = .ok (.iconst 0, 1) := by decide +kernel
theorem dX1_leastEmpty_1 : decode cX1_leastEmpty 1 = .ok (.istore_n 1, 1) := by decide +kernel
theorem dX1_leastEmpty_2 : decode cX1_leastEmpty 2 = .ok (.iload_n 1, 1) := by decide +kernel
theorem dX1_leastEmpty_3 : decode cX1_leastEmpty 3 = .ok (.bipush 40, 2) := by decide +kernel
theorem dX1_leastEmpty_5 : decode cX1_leastEmpty 5 = .ok (.if_icmp .ge 21, 3) := by decide +kernel
theorem dX1_leastEmpty_8 : decode cX1_leastEmpty 8 = .ok (.aload_n 0, 1) := by decide +kernel
theorem dX1_leastEmpty_9 : decode cX1_leastEmpty 9 = .ok (.getfield 15, 3) := by decide +kernel
theorem dX1_leastEmpty_12 : decode cX1_leastEmpty 12 = .ok (.iload_n 1, 1) := by decide +kernel
theorem dX1_leastEmpty_13 : decode cX1_leastEmpty 13 = .ok (.iaload, 1) := by decide +kernel
theorem dX1_leastEmpty_14 : decode cX1_leastEmpty 14 = .ok (.iconst (-1), 1) := by decide +kernel
theorem dX1_leastEmpty_15 : decode cX1_leastEmpty 15 = .ok (.if_icmp .ne 5, 3) := by decide +kernel
theorem dX1_leastEmpty_18 : decode cX1_leastEmpty 18 = .ok (.iload_n 1, 1) := by decide +kernel
theorem dX1_leastEmpty_19 : decode cX1_leastEmpty 19 = .ok (.ireturn, 1) := by decide +kernel
theorem dX1_leastEmpty_20 : decode cX1_leastEmpty 20 = .ok (.iinc 1 1, 3) := by decide +kernel
theorem dX1_leastEmpty_23 : decode cX1_leastEmpty 23 = .ok (.goto (-21), 3) := by decide +kernel
theorem dX1_leastEmpty_26 : decode cX1_leastEmpty 26 = .ok (.iconst (-1), 1) := by decide +kernel
theorem dX1_leastEmpty_27 : decode cX1_leastEmpty 27 = .ok (.ireturn, 1) := by decide +kernel
theorem dX2_init_0 : decode cX2_init 0 = .ok (.aload_n 0, 1) := by decide +kernel
theorem dX2_init_1 : decode cX2_init 1 = .ok (.invokespecial 3, 3) := by decide +kernel
theorem dX2_init_4 : decode cX2_init 4 = .ok (.aload_n 0, 1) := by decide +kernel
theorem dX2_init_5 : decode cX2_init 5 = .ok (.sipush 200, 3) := by decide +kernel
theorem dX2_init_8 : decode cX2_init 8 = .ok (.newarray .int, 2) := by decide +kernel
theorem dX2_init_10 : decode cX2_init 10 = .ok (.putfield 9, 3) := by decide +kernel
theorem dX2_init_13 : decode cX2_init 13 = .ok (.aload_n 0, 1) := by decide +kernel
theorem dX2_init_14 : decode cX2_init 14 = .ok (.sipush 200, 3) := by decide +kernel
theorem dX2_init_17 : decode cX2_init 17 = .ok (.newarray .int, 2) := by decide +kernel
theorem dX2_init_19 : decode cX2_init 19 = .ok (.putfield 15, 3) := by decide +kernel
theorem dX2_init_22 : decode cX2_init 22 = .ok (.aload_n 0, 1) := by decide +kernel
theorem dX2_init_23 : decode cX2_init 23 = .ok (.sipush 200, 3) := by decide +kernel
theorem dX2_init_26 : decode cX2_init 26 = .ok (.newarray .int, 2) := by decide +kernel
theorem dX2_init_28 : decode cX2_init 28 = .ok (.putfield 18, 3) := by decide +kernel
theorem dX2_init_31 : decode cX2_init 31 = .ok (.aload_n 0, 1) := by decide +kernel
theorem dX2_init_32 : decode cX2_init 32 = .ok (.iconst 0, 1) := by decide +kernel
theorem dX2_init_33 : decode cX2_init 33 = .ok (.putfield 21, 3) := by decide +kernel
theorem dX2_init_36 : decode cX2_init 36 = .ok (.return_, 1) := by decide +kernel
theorem dX2_whyNot_0 : decode cX2_whyNot 0 = .ok (.aload_n 0, 1) := by decide +kernel
theorem dX2_whyNot_1 : decode cX2_whyNot 1 = .ok (.getfield 21, 3) := by decide +kernel
theorem dX2_whyNot_4 : decode cX2_whyNot 4 = .ok (.ifCond .ne 7, 3) := by decide +kernel
theorem dX2_whyNot_7 : decode cX2_whyNot 7 = .ok (.iconst 0, 1) := by decide +kernel
theorem dX2_whyNot_8 : decode cX2_whyNot 8 = .ok (.goto 14, 3) := by decide +kernel
theorem dX2_whyNot_11 : decode cX2_whyNot 11 = .ok (.aload_n 0, 1) := by decide +kernel
theorem dX2_whyNot_12 : decode cX2_whyNot 12 = .ok (.getfield 18, 3) := by decide +kernel
theorem dX2_whyNot_15 : decode cX2_whyNot 15 = .ok (.aload_n 0, 1) := by decide +kernel
theorem dX2_whyNot_16 : decode cX2_whyNot 16 = .ok (.getfield 21, 3) := by decide +kernel
theorem dX2_whyNot_19 : decode cX2_whyNot 19 = .ok (.iconst 1, 1) := by decide +kernel
theorem dX2_whyNot_20 : decode cX2_whyNot 20 = .ok (.isub, 1) := by decide +kernel
theorem dX2_whyNot_21 : decode cX2_whyNot 21 = .ok (.iaload, 1) := by decide +kernel
theorem dX2_whyNot_22 : decode cX2_whyNot 22 = .ok (.istore_n 2, 1) := by decide +kernel
theorem dX2_whyNot_23 : decode cX2_whyNot 23 = .ok (.iload_n 1, 1) := by decide +kernel
theorem dX2_whyNot_24 : decode cX2_whyNot 24 = .ok (.iload_n 2, 1) := by decide +kernel
theorem dX2_whyNot_25 : decode cX2_whyNot 25 = .ok (.ldc 25, 2) := by decide +kernel
theorem dX2_whyNot_27 : decode cX2_whyNot 27 = .ok (.invokestatic 26, 3) := by decide +kernel
theorem dX2_whyNot_30 : decode cX2_whyNot 30 = .ok (.ifCond .ne 5, 3) := by decide +kernel
theorem dX2_whyNot_33 : decode cX2_whyNot 33 = .ok (.iconst 5, 1) := by decide +kernel
theorem dX2_whyNot_34 : decode cX2_whyNot 34 = .ok (.ireturn, 1) := by decide +kernel
theorem dX2_whyNot_35 : decode cX2_whyNot 35 = .ok (.aload_n 0, 1) := by decide +kernel
theorem dX2_whyNot_36 : decode cX2_whyNot 36 = .ok (.getfield 21, 3) := by decide +kernel
theorem dX2_whyNot_39 : decode cX2_whyNot 39 = .ok (.sipush 200, 3) := by decide +kernel
theorem dX2_whyNot_42 : decode cX2_whyNot 42 = .ok (.if_icmp .ge 7, 3) := by decide +kernel
theorem dX2_whyNot_45 : decode cX2_whyNot 45 = .ok (.iconst 0, 1) := by decide +kernel
theorem dX2_whyNot_46 : decode cX2_whyNot 46 = .ok (.goto 5, 3) := by decide +kernel
theorem dX2_whyNot_49 : decode cX2_whyNot 49 = .ok (.bipush 7, 2) := by decide +kernel
theorem dX2_whyNot_51 : decode cX2_whyNot 51 = .ok (.ireturn, 1) := by decide +kernel
theorem dX2_append_0 : decode cX2_append 0 = .ok (.aload_n 0, 1) := by decide +kernel
theorem dX2_append_1 : decode cX2_append 1 = .ok (.getfield 21, 3) := by decide +kernel
theorem dX2_append_4 : decode cX2_append 4 = .ok (.sipush 200, 3) := by decide +kernel
theorem dX2_append_7 : decode cX2_append 7 = .ok (.if_icmp .ge 43, 3) := by decide +kernel
theorem dX2_append_10 : decode cX2_append 10 = .ok (.aload_n 0, 1) := by decide +kernel
theorem dX2_append_11 : decode cX2_append 11 = .ok (.getfield 9, 3) := by decide +kernel
theorem dX2_append_14 : decode cX2_append 14 = .ok (.aload_n 0, 1) := by decide +kernel
theorem dX2_append_15 : decode cX2_append 15 = .ok (.getfield 21, 3) := by decide +kernel
theorem dX2_append_18 : decode cX2_append 18 = .ok (.iload_n 1, 1) := by decide +kernel
theorem dX2_append_19 : decode cX2_append 19 = .ok (.iastore, 1) := by decide +kernel
theorem dX2_append_20 : decode cX2_append 20 = .ok (.aload_n 0, 1) := by decide +kernel
theorem dX2_append_21 : decode cX2_append 21 = .ok (.getfield 15, 3) := by decide +kernel
theorem dX2_append_24 : decode cX2_append 24 = .ok (.aload_n 0, 1) := by decide +kernel
theorem dX2_append_25 : decode cX2_append 25 = .ok (.getfield 21, 3) := by decide +kernel
theorem dX2_append_28 : decode cX2_append 28 = .ok (.iload_n 2, 1) := by decide +kernel
theorem dX2_append_29 : decode cX2_append 29 = .ok (.iastore, 1) := by decide +kernel
theorem dX2_append_30 : decode cX2_append 30 = .ok (.aload_n 0, 1) := by decide +kernel
theorem dX2_append_31 : decode cX2_append 31 = .ok (.getfield 18, 3) := by decide +kernel
theorem dX2_append_34 : decode cX2_append 34 = .ok (.aload_n 0, 1) := by decide +kernel
theorem dX2_append_35 : decode cX2_append 35 = .ok (.getfield 21, 3) := by decide +kernel
theorem dX2_append_38 : decode cX2_append 38 = .ok (.iload_n 3, 1) := by decide +kernel
theorem dX2_append_39 : decode cX2_append 39 = .ok (.iastore, 1) := by decide +kernel
theorem dX2_append_40 : decode cX2_append 40 = .ok (.aload_n 0, 1) := by decide +kernel
theorem dX2_append_41 : decode cX2_append 41 = .ok (.dup, 1) := by decide +kernel
theorem dX2_append_42 : decode cX2_append 42 = .ok (.getfield 21, 3) := by decide +kernel
theorem dX2_append_45 : decode cX2_append 45 = .ok (.iconst 1, 1) := by decide +kernel
theorem dX2_append_46 : decode cX2_append 46 = .ok (.iadd, 1) := by decide +kernel
theorem dX2_append_47 : decode cX2_append 47 = .ok (.putfield 21, 3) := by decide +kernel
theorem dX2_append_50 : decode cX2_append 50 = .ok (.return_, 1) := by decide +kernel
theorem dX2_holder_0 : decode cX2_holder 0 = .ok (.aload_n 0, 1) := by decide +kernel
theorem dX2_holder_1 : decode cX2_holder 1 = .ok (.getfield 21, 3) := by decide +kernel
theorem dX2_holder_4 : decode cX2_holder 4 = .ok (.iconst 1, 1) := by decide +kernel
theorem dX2_holder_5 : decode cX2_holder 5 = .ok (.isub, 1) := by decide +kernel
theorem dX2_holder_6 : decode cX2_holder 6 = .ok (.istore_n 3, 1) := by decide +kernel
theorem dX2_holder_7 : decode cX2_holder 7 = .ok (.iload_n 3, 1) := by decide +kernel
theorem dX2_holder_8 : decode cX2_holder 8 = .ok (.ifCond .lt 36, 3) := by decide +kernel
theorem dX2_holder_11 : decode cX2_holder 11 = .ok (.aload_n 0, 1) := by decide +kernel
theorem dX2_holder_12 : decode cX2_holder 12 = .ok (.getfield 9, 3) := by decide +kernel
theorem dX2_holder_15 : decode cX2_holder 15 = .ok (.iload_n 3, 1) := by decide +kernel
theorem dX2_holder_16 : decode cX2_holder 16 = .ok (.iaload, 1) := by decide +kernel
theorem dX2_holder_17 : decode cX2_holder 17 = .ok (.iload_n 1, 1) := by decide +kernel
theorem dX2_holder_18 : decode cX2_holder 18 = .ok (.if_icmp .ne 20, 3) := by decide +kernel
theorem dX2_holder_21 : decode cX2_holder 21 = .ok (.aload_n 0, 1) := by decide +kernel
theorem dX2_holder_22 : decode cX2_holder 22 = .ok (.getfield 18, 3) := by decide +kernel
theorem dX2_holder_25 : decode cX2_holder 25 = .ok (.iload_n 3, 1) := by decide +kernel
theorem dX2_holder_26 : decode cX2_holder 26 = .ok (.iaload, 1) := by decide +kernel
theorem dX2_holder_27 : decode cX2_holder 27 = .ok (.iload_n 2, 1) := by decide +kernel
theorem dX2_holder_28 : decode cX2_holder 28 = .ok (.if_icmp .gt 10, 3) := by decide +kernel
theorem dX2_holder_31 : decode cX2_holder 31 = .ok (.aload_n 0, 1) := by decide +kernel
theorem dX2_holder_32 : decode cX2_holder 32 = .ok (.getfield 15, 3) := by decide +kernel
theorem dX2_holder_35 : decode cX2_holder 35 = .ok (.iload_n 3, 1) := by decide +kernel
theorem dX2_holder_36 : decode cX2_holder 36 = .ok (.iaload, 1) := by decide +kernel
theorem dX2_holder_37 : decode cX2_holder 37 = .ok (.ireturn, 1) := by decide +kernel
theorem dX2_holder_38 : decode cX2_holder 38 = .ok (.iinc 3 (-1), 3) := by decide +kernel
theorem dX2_holder_41 : decode cX2_holder 41 = .ok (.goto (-34), 3) := by decide +kernel
theorem dX2_holder_44 : decode cX2_holder 44 = .ok (.iconst (-1), 1) := by decide +kernel
theorem dX2_holder_45 : decode cX2_holder 45 = .ok (.ireturn, 1) := by decide +kernel
theorem dX3_init_0 : decode cX3_init 0 = .ok (.aload_n 0, 1) := by decide +kernel
theorem dX3_init_1 : decode cX3_init 1 = .ok (.invokespecial 3, 3) := by decide +kernel
theorem dX3_init_4 : decode cX3_init 4 = .ok (.aload_n 0, 1) := by decide +kernel
theorem dX3_init_5 : decode cX3_init 5 = .ok (.bipush 20, 2) := by decide +kernel
theorem dX3_init_7 : decode cX3_init 7 = .ok (.newarray .int, 2) := by decide +kernel
theorem dX3_init_9 : decode cX3_init 9 = .ok (.putfield 9, 3) := by decide +kernel
theorem dX3_init_12 : decode cX3_init 12 = .ok (.aload_n 0, 1) := by decide +kernel
theorem dX3_init_13 : decode cX3_init 13 = .ok (.bipush 20, 2) := by decide +kernel
theorem dX3_init_15 : decode cX3_init 15 = .ok (.newarray .long, 2) := by decide +kernel
theorem dX3_init_17 : decode cX3_init 17 = .ok (.putfield 15, 3) := by decide +kernel
theorem dX3_init_20 : decode cX3_init 20 = .ok (.aload_n 0, 1) := by decide +kernel
theorem dX3_init_21 : decode cX3_init 21 = .ok (.bipush 20, 2) := by decide +kernel
theorem dX3_init_23 : decode cX3_init 23 = .ok (.newarray .long, 2) := by decide +kernel
theorem dX3_init_25 : decode cX3_init 25 = .ok (.putfield 19, 3) := by decide +kernel
theorem dX3_init_28 : decode cX3_init 28 = .ok (.aload_n 0, 1) := by decide +kernel
theorem dX3_init_29 : decode cX3_init 29 = .ok (.iconst 0, 1) := by decide +kernel
theorem dX3_init_30 : decode cX3_init 30 = .ok (.putfield 22, 3) := by decide +kernel
theorem dX3_init_33 : decode cX3_init 33 = .ok (.return_, 1) := by decide +kernel
theorem dX3_takes_0 : decode cX3_takes 0 = .ok (.aload_n 0, 1) := by decide +kernel
theorem dX3_takes_1 : decode cX3_takes 1 = .ok (.iconst 0, 1) := by decide +kernel
theorem dX3_takes_2 : decode cX3_takes 2 = .ok (.putfield 22, 3) := by decide +kernel
theorem dX3_takes_5 : decode cX3_takes 5 = .ok (.iconst 0, 1) := by decide +kernel
theorem dX3_takes_6 : decode cX3_takes 6 = .ok (.istore_n 3, 1) := by decide +kernel
theorem dX3_takes_7 : decode cX3_takes 7 = .ok (.iload_n 3, 1) := by decide +kernel
theorem dX3_takes_8 : decode cX3_takes 8 = .ok (.iload_n 2, 1) := by decide +kernel
theorem dX3_takes_9 : decode cX3_takes 9 = .ok (.if_icmp .ge 59, 3) := by decide +kernel
theorem dX3_takes_12 : decode cX3_takes 12 = .ok (.aload_n 0, 1) := by decide +kernel
theorem dX3_takes_13 : decode cX3_takes 13 = .ok (.getfield 15, 3) := by decide +kernel
theorem dX3_takes_16 : decode cX3_takes 16 = .ok (.iload_n 3, 1) := by decide +kernel
theorem dX3_takes_17 : decode cX3_takes 17 = .ok (.aload_n 1, 1) := by decide +kernel
theorem dX3_takes_18 : decode cX3_takes 18 = .ok (.iconst 2, 1) := by decide +kernel
theorem dX3_takes_19 : decode cX3_takes 19 = .ok (.iload_n 3, 1) := by decide +kernel
theorem dX3_takes_20 : decode cX3_takes 20 = .ok (.imul, 1) := by decide +kernel
theorem dX3_takes_21 : decode cX3_takes 21 = .ok (.laload, 1) := by decide +kernel
theorem dX3_takes_22 : decode cX3_takes 22 = .ok (.lastore, 1) := by decide +kernel
theorem dX3_takes_23 : decode cX3_takes 23 = .ok (.aload_n 0, 1) := by decide +kernel
theorem dX3_takes_24 : decode cX3_takes 24 = .ok (.getfield 19, 3) := by decide +kernel
theorem dX3_takes_27 : decode cX3_takes 27 = .ok (.iload_n 3, 1) := by decide +kernel
theorem dX3_takes_28 : decode cX3_takes 28 = .ok (.aload_n 1, 1) := by decide +kernel
theorem dX3_takes_29 : decode cX3_takes 29 = .ok (.iconst 2, 1) := by decide +kernel
theorem dX3_takes_30 : decode cX3_takes 30 = .ok (.iload_n 3, 1) := by decide +kernel
theorem dX3_takes_31 : decode cX3_takes 31 = .ok (.imul, 1) := by decide +kernel
theorem dX3_takes_32 : decode cX3_takes 32 = .ok (.iconst 1, 1) := by decide +kernel
theorem dX3_takes_33 : decode cX3_takes 33 = .ok (.iadd, 1) := by decide +kernel
theorem dX3_takes_34 : decode cX3_takes 34 = .ok (.laload, 1) := by decide +kernel
theorem dX3_takes_35 : decode cX3_takes 35 = .ok (.lastore, 1) := by decide +kernel
theorem dX3_takes_36 : decode cX3_takes 36 = .ok (.aload_n 0, 1) := by decide +kernel
theorem dX3_takes_37 : decode cX3_takes 37 = .ok (.getfield 15, 3) := by decide +kernel
theorem dX3_takes_40 : decode cX3_takes 40 = .ok (.iload_n 3, 1) := by decide +kernel
theorem dX3_takes_41 : decode cX3_takes 41 = .ok (.laload, 1) := by decide +kernel
theorem dX3_takes_42 : decode cX3_takes 42 = .ok (.invokestatic 26, 3) := by decide +kernel
theorem dX3_takes_45 : decode cX3_takes 45 = .ok (.ifCond .eq 15, 3) := by decide +kernel
theorem dX3_takes_48 : decode cX3_takes 48 = .ok (.aload_n 0, 1) := by decide +kernel
theorem dX3_takes_49 : decode cX3_takes 49 = .ok (.getfield 19, 3) := by decide +kernel
theorem dX3_takes_52 : decode cX3_takes 52 = .ok (.iload_n 3, 1) := by decide +kernel
theorem dX3_takes_53 : decode cX3_takes 53 = .ok (.laload, 1) := by decide +kernel
theorem dX3_takes_54 : decode cX3_takes 54 = .ok (.invokestatic 26, 3) := by decide +kernel
theorem dX3_takes_57 : decode cX3_takes 57 = .ok (.ifCond .ne 5, 3) := by decide +kernel
theorem dX3_takes_60 : decode cX3_takes 60 = .ok (.iconst 0, 1) := by decide +kernel
theorem dX3_takes_61 : decode cX3_takes 61 = .ok (.ireturn, 1) := by decide +kernel
theorem dX3_takes_62 : decode cX3_takes 62 = .ok (.iinc 3 1, 3) := by decide +kernel
theorem dX3_takes_65 : decode cX3_takes 65 = .ok (.goto (-58), 3) := by decide +kernel
theorem dX3_takes_68 : decode cX3_takes 68 = .ok (.aload_n 0, 1) := by decide +kernel
theorem dX3_takes_69 : decode cX3_takes 69 = .ok (.iload_n 2, 1) := by decide +kernel
theorem dX3_takes_70 : decode cX3_takes 70 = .ok (.putfield 22, 3) := by decide +kernel
theorem dX3_takes_73 : decode cX3_takes 73 = .ok (.iconst 1, 1) := by decide +kernel
theorem dX3_takes_74 : decode cX3_takes 74 = .ok (.ireturn, 1) := by decide +kernel
theorem dX3_isFit_0 : decode cX3_isFit 0 = .ok (.lload_n 0, 1) := by decide +kernel
theorem dX3_isFit_1 : decode cX3_isFit 1 = .ok (.lconst 1, 1) := by decide +kernel
theorem dX3_isFit_2 : decode cX3_isFit 2 = .ok (.lcmp, 1) := by decide +kernel
theorem dX3_isFit_3 : decode cX3_isFit 3 = .ok (.ifCond .lt 15, 3) := by decide +kernel
theorem dX3_isFit_6 : decode cX3_isFit 6 = .ok (.lload_n 0, 1) := by decide +kernel
theorem dX3_isFit_7 : decode cX3_isFit 7 = .ok (.ldc2_w 30, 3) := by decide +kernel
theorem dX3_isFit_10 : decode cX3_isFit 10 = .ok (.lcmp, 1) := by decide +kernel
theorem dX3_isFit_11 : decode cX3_isFit 11 = .ok (.ifCond .gt 7, 3) := by decide +kernel
theorem dX3_isFit_14 : decode cX3_isFit 14 = .ok (.iconst 1, 1) := by decide +kernel
theorem dX3_isFit_15 : decode cX3_isFit 15 = .ok (.goto 4, 3) := by decide +kernel
theorem dX3_isFit_18 : decode cX3_isFit 18 = .ok (.iconst 0, 1) := by decide +kernel
theorem dX3_isFit_19 : decode cX3_isFit 19 = .ok (.ireturn, 1) := by decide +kernel
theorem dX3_arrange_0 : decode cX3_arrange 0 = .ok (.iconst 0, 1) := by decide +kernel
theorem dX3_arrange_1 : decode cX3_arrange 1 = .ok (.istore_n 1, 1) := by decide +kernel
theorem dX3_arrange_2 : decode cX3_arrange 2 = .ok (.iload_n 1, 1) := by decide +kernel
theorem dX3_arrange_3 : decode cX3_arrange 3 = .ok (.aload_n 0, 1) := by decide +kernel
theorem dX3_arrange_4 : decode cX3_arrange 4 = .ok (.getfield 22, 3) := by decide +kernel
theorem dX3_arrange_7 : decode cX3_arrange 7 = .ok (.if_icmp .ge 58, 3) := by decide +kernel
theorem dX3_arrange_10 : decode cX3_arrange 10 = .ok (.iload_n 1, 1) := by decide +kernel
theorem dX3_arrange_11 : decode cX3_arrange 11 = .ok (.istore_n 2, 1) := by decide +kernel
theorem dX3_arrange_12 : decode cX3_arrange 12 = .ok (.iload_n 2, 1) := by decide +kernel
theorem dX3_arrange_13 : decode cX3_arrange 13 = .ok (.ifCond .le 39, 3) := by decide +kernel
theorem dX3_arrange_16 : decode cX3_arrange 16 = .ok (.aload_n 0, 1) := by decide +kernel
theorem dX3_arrange_17 : decode cX3_arrange 17 = .ok (.iload_n 1, 1) := by decide +kernel
theorem dX3_arrange_18 : decode cX3_arrange 18 = .ok (.aload_n 0, 1) := by decide +kernel
theorem dX3_arrange_19 : decode cX3_arrange 19 = .ok (.getfield 9, 3) := by decide +kernel
theorem dX3_arrange_22 : decode cX3_arrange 22 = .ok (.iload_n 2, 1) := by decide +kernel
theorem dX3_arrange_23 : decode cX3_arrange 23 = .ok (.iconst 1, 1) := by decide +kernel
theorem dX3_arrange_24 : decode cX3_arrange 24 = .ok (.isub, 1) := by decide +kernel
theorem dX3_arrange_25 : decode cX3_arrange 25 = .ok (.iaload, 1) := by decide +kernel
theorem dX3_arrange_26 : decode cX3_arrange 26 = .ok (.invokevirtual 32, 3) := by decide +kernel
theorem dX3_arrange_29 : decode cX3_arrange 29 = .ok (.ifCond .eq 23, 3) := by decide +kernel
theorem dX3_arrange_32 : decode cX3_arrange 32 = .ok (.aload_n 0, 1) := by decide +kernel
theorem dX3_arrange_33 : decode cX3_arrange 33 = .ok (.getfield 9, 3) := by decide +kernel
theorem dX3_arrange_36 : decode cX3_arrange 36 = .ok (.iload_n 2, 1) := by decide +kernel
theorem dX3_arrange_37 : decode cX3_arrange 37 = .ok (.aload_n 0, 1) := by decide +kernel
theorem dX3_arrange_38 : decode cX3_arrange 38 = .ok (.getfield 9, 3) := by decide +kernel
theorem dX3_arrange_41 : decode cX3_arrange 41 = .ok (.iload_n 2, 1) := by decide +kernel
theorem dX3_arrange_42 : decode cX3_arrange 42 = .ok (.iconst 1, 1) := by decide +kernel
theorem dX3_arrange_43 : decode cX3_arrange 43 = .ok (.isub, 1) := by decide +kernel
theorem dX3_arrange_44 : decode cX3_arrange 44 = .ok (.iaload, 1) := by decide +kernel
theorem dX3_arrange_45 : decode cX3_arrange 45 = .ok (.iastore, 1) := by decide +kernel
theorem dX3_arrange_46 : decode cX3_arrange 46 = .ok (.iinc 2 (-1), 3) := by decide +kernel
theorem dX3_arrange_49 : decode cX3_arrange 49 = .ok (.goto (-37), 3) := by decide +kernel
theorem dX3_arrange_52 : decode cX3_arrange 52 = .ok (.aload_n 0, 1) := by decide +kernel
theorem dX3_arrange_53 : decode cX3_arrange 53 = .ok (.getfield 9, 3) := by decide +kernel
theorem dX3_arrange_56 : decode cX3_arrange 56 = .ok (.iload_n 2, 1) := by decide +kernel
theorem dX3_arrange_57 : decode cX3_arrange 57 = .ok (.iload_n 1, 1) := by decide +kernel
theorem dX3_arrange_58 : decode cX3_arrange 58 = .ok (.iastore, 1) := by decide +kernel
theorem dX3_arrange_59 : decode cX3_arrange 59 = .ok (.iinc 1 1, 3) := by decide +kernel
theorem dX3_arrange_62 : decode cX3_arrange 62 = .ok (.goto (-60), 3) := by decide +kernel
theorem dX3_arrange_65 : decode cX3_arrange 65 = .ok (.return_, 1) := by decide +kernel
theorem dX3_isCheaper_0 : decode cX3_isCheaper 0 = .ok (.aload_n 0, 1) := by decide +kernel
theorem dX3_isCheaper_1 : decode cX3_isCheaper 1 = .ok (.getfield 19, 3) := by decide +kernel
theorem dX3_isCheaper_4 : decode cX3_isCheaper 4 = .ok (.iload_n 1, 1) := by decide +kernel
theorem dX3_isCheaper_5 : decode cX3_isCheaper 5 = .ok (.laload, 1) := by decide +kernel
theorem dX3_isCheaper_6 : decode cX3_isCheaper 6 = .ok (.aload_n 0, 1) := by decide +kernel
theorem dX3_isCheaper_7 : decode cX3_isCheaper 7 = .ok (.getfield 15, 3) := by decide +kernel
theorem dX3_isCheaper_10 : decode cX3_isCheaper 10 = .ok (.iload_n 2, 1) := by decide +kernel
theorem dX3_isCheaper_11 : decode cX3_isCheaper 11 = .ok (.laload, 1) := by decide +kernel
theorem dX3_isCheaper_12 : decode cX3_isCheaper 12 = .ok (.lmul, 1) := by decide +kernel
theorem dX3_isCheaper_13 : decode cX3_isCheaper 13 = .ok (.aload_n 0, 1) := by decide +kernel
theorem dX3_isCheaper_14 : decode cX3_isCheaper 14 = .ok (.getfield 19, 3) := by decide +kernel
theorem dX3_isCheaper_17 : decode cX3_isCheaper 17 = .ok (.iload_n 2, 1) := by decide +kernel
theorem dX3_isCheaper_18 : decode cX3_isCheaper 18 = .ok (.laload, 1) := by decide +kernel
theorem dX3_isCheaper_19 : decode cX3_isCheaper 19 = .ok (.aload_n 0, 1) := by decide +kernel
theorem dX3_isCheaper_20 : decode cX3_isCheaper 20 = .ok (.getfield 15, 3) := by decide +kernel
theorem dX3_isCheaper_23 : decode cX3_isCheaper 23 = .ok (.iload_n 1, 1) := by decide +kernel
theorem dX3_isCheaper_24 : decode cX3_isCheaper 24 = .ok (.laload, 1) := by decide +kernel
theorem dX3_isCheaper_25 : decode cX3_isCheaper 25 = .ok (.lmul, 1) := by decide +kernel
theorem dX3_isCheaper_26 : decode cX3_isCheaper 26 = .ok (.lcmp, 1) := by decide +kernel
theorem dX3_isCheaper_27 : decode cX3_isCheaper 27 = .ok (.ifCond .ge 7, 3) := by decide +kernel
theorem dX3_isCheaper_30 : decode cX3_isCheaper 30 = .ok (.iconst 1, 1) := by decide +kernel
theorem dX3_isCheaper_31 : decode cX3_isCheaper 31 = .ok (.goto 4, 3) := by decide +kernel
theorem dX3_isCheaper_34 : decode cX3_isCheaper 34 = .ok (.iconst 0, 1) := by decide +kernel
theorem dX3_isCheaper_35 : decode cX3_isCheaper 35 = .ok (.ireturn, 1) := by decide +kernel
theorem dX3_weightedCosts_0 : decode cX3_weightedCosts 0 = .ok (.lconst 0, 1) := by decide +kernel
theorem dX3_weightedCosts_1 : decode cX3_weightedCosts 1 = .ok (.lstore_n 1, 1) := by decide +kernel
theorem dX3_weightedCosts_2 : decode cX3_weightedCosts 2 = .ok (.lconst 0, 1) := by decide +kernel
theorem dX3_weightedCosts_3 : decode cX3_weightedCosts 3 = .ok (.lstore_n 3, 1) := by decide +kernel
theorem dX3_weightedCosts_4 : decode cX3_weightedCosts 4 = .ok (.iconst 0, 1) := by decide +kernel
theorem dX3_weightedCosts_5 : decode cX3_weightedCosts 5 = .ok (.istore 5, 2) := by decide +kernel
theorem dX3_weightedCosts_7 : decode cX3_weightedCosts 7 = .ok (.iload 5, 2) := by decide +kernel
theorem dX3_weightedCosts_9 : decode cX3_weightedCosts 9 = .ok (.aload_n 0, 1) := by decide +kernel
theorem dX3_weightedCosts_10 : decode cX3_weightedCosts 10 = .ok (.getfield 22, 3) := by decide +kernel
theorem dX3_weightedCosts_13 : decode cX3_weightedCosts 13 = .ok (.if_icmp .ge 41, 3) := by decide +kernel
theorem dX3_weightedCosts_16 : decode cX3_weightedCosts 16 = .ok (.lload_n 1, 1) := by decide +kernel
theorem dX3_weightedCosts_17 : decode cX3_weightedCosts 17 = .ok (.aload_n 0, 1) := by decide +kernel
theorem dX3_weightedCosts_18 : decode cX3_weightedCosts 18 = .ok (.getfield 19, 3) := by decide +kernel
theorem dX3_weightedCosts_21 : decode cX3_weightedCosts 21 = .ok (.aload_n 0, 1) := by decide +kernel
theorem dX3_weightedCosts_22 : decode cX3_weightedCosts 22 = .ok (.getfield 9, 3) := by decide +kernel
theorem dX3_weightedCosts_25 : decode cX3_weightedCosts 25 = .ok (.iload 5, 2) := by decide +kernel
theorem dX3_weightedCosts_27 : decode cX3_weightedCosts 27 = .ok (.iaload, 1) := by decide +kernel
theorem dX3_weightedCosts_28 : decode cX3_weightedCosts 28 = .ok (.laload, 1) := by decide +kernel
theorem dX3_weightedCosts_29 : decode cX3_weightedCosts 29 = .ok (.ladd, 1) := by decide +kernel
theorem dX3_weightedCosts_30 : decode cX3_weightedCosts 30 = .ok (.lstore_n 1, 1) := by decide +kernel
theorem dX3_weightedCosts_31 : decode cX3_weightedCosts 31 = .ok (.lload_n 3, 1) := by decide +kernel
theorem dX3_weightedCosts_32 : decode cX3_weightedCosts 32 = .ok (.aload_n 0, 1) := by decide +kernel
theorem dX3_weightedCosts_33 : decode cX3_weightedCosts 33 = .ok (.getfield 15, 3) := by decide +kernel
theorem dX3_weightedCosts_36 : decode cX3_weightedCosts 36 = .ok (.aload_n 0, 1) := by decide +kernel
theorem dX3_weightedCosts_37 : decode cX3_weightedCosts 37 = .ok (.getfield 9, 3) := by decide +kernel
theorem dX3_weightedCosts_40 : decode cX3_weightedCosts 40 = .ok (.iload 5, 2) := by decide +kernel
theorem dX3_weightedCosts_42 : decode cX3_weightedCosts 42 = .ok (.iaload, 1) := by decide +kernel
theorem dX3_weightedCosts_43 : decode cX3_weightedCosts 43 = .ok (.laload, 1) := by decide +kernel
theorem dX3_weightedCosts_44 : decode cX3_weightedCosts 44 = .ok (.lload_n 1, 1) := by decide +kernel
theorem dX3_weightedCosts_45 : decode cX3_weightedCosts 45 = .ok (.lmul, 1) := by decide +kernel
theorem dX3_weightedCosts_46 : decode cX3_weightedCosts 46 = .ok (.ladd, 1) := by decide +kernel
theorem dX3_weightedCosts_47 : decode cX3_weightedCosts 47 = .ok (.lstore_n 3, 1) := by decide +kernel
theorem dX3_weightedCosts_48 : decode cX3_weightedCosts 48 = .ok (.iinc 5 1, 3) := by decide +kernel
theorem dX3_weightedCosts_51 : decode cX3_weightedCosts 51 = .ok (.goto (-44), 3) := by decide +kernel
theorem dX3_weightedCosts_54 : decode cX3_weightedCosts 54 = .ok (.lload_n 3, 1) := by decide +kernel
theorem dX3_weightedCosts_55 : decode cX3_weightedCosts 55 = .ok (.lreturn, 1) := by decide +kernel
theorem dX3_weights_0 : decode cX3_weights 0 = .ok (.lconst 0, 1) := by decide +kernel
theorem dX3_weights_1 : decode cX3_weights 1 = .ok (.lstore_n 1, 1) := by decide +kernel
theorem dX3_weights_2 : decode cX3_weights 2 = .ok (.iconst 0, 1) := by decide +kernel
theorem dX3_weights_3 : decode cX3_weights 3 = .ok (.istore_n 3, 1) := by decide +kernel
theorem dX3_weights_4 : decode cX3_weights 4 = .ok (.iload_n 3, 1) := by decide +kernel
theorem dX3_weights_5 : decode cX3_weights 5 = .ok (.aload_n 0, 1) := by decide +kernel
theorem dX3_weights_6 : decode cX3_weights 6 = .ok (.getfield 22, 3) := by decide +kernel
theorem dX3_weights_9 : decode cX3_weights 9 = .ok (.if_icmp .ge 18, 3) := by decide +kernel
theorem dX3_weights_12 : decode cX3_weights 12 = .ok (.lload_n 1, 1) := by decide +kernel
theorem dX3_weights_13 : decode cX3_weights 13 = .ok (.aload_n 0, 1) := by decide +kernel
theorem dX3_weights_14 : decode cX3_weights 14 = .ok (.getfield 15, 3) := by decide +kernel
theorem dX3_weights_17 : decode cX3_weights 17 = .ok (.iload_n 3, 1) := by decide +kernel
theorem dX3_weights_18 : decode cX3_weights 18 = .ok (.laload, 1) := by decide +kernel
theorem dX3_weights_19 : decode cX3_weights 19 = .ok (.ladd, 1) := by decide +kernel
theorem dX3_weights_20 : decode cX3_weights 20 = .ok (.lstore_n 1, 1) := by decide +kernel
theorem dX3_weights_21 : decode cX3_weights 21 = .ok (.iinc 3 1, 3) := by decide +kernel
theorem dX3_weights_24 : decode cX3_weights 24 = .ok (.goto (-20), 3) := by decide +kernel
theorem dX3_weights_27 : decode cX3_weights 27 = .ok (.lload_n 1, 1) := by decide +kernel
theorem dX3_weights_28 : decode cX3_weights 28 = .ok (.lreturn, 1) := by decide +kernel
theorem dX4_init_0 : decode cX4_init 0 = .ok (.aload_n 0, 1) := by decide +kernel
theorem dX4_init_1 : decode cX4_init 1 = .ok (.invokespecial 3, 3) := by decide +kernel
theorem dX4_init_4 : decode cX4_init 4 = .ok (.aload_n 0, 1) := by decide +kernel
theorem dX4_init_5 : decode cX4_init 5 = .ok (.new 9, 3) := by decide +kernel
theorem dX4_init_8 : decode cX4_init 8 = .ok (.dup, 1) := by decide +kernel
theorem dX4_init_9 : decode cX4_init 9 = .ok (.invokespecial 11, 3) := by decide +kernel
theorem dX4_init_12 : decode cX4_init 12 = .ok (.putfield 12, 3) := by decide +kernel
theorem dX4_init_15 : decode cX4_init 15 = .ok (.aload_n 0, 1) := by decide +kernel
theorem dX4_init_16 : decode cX4_init 16 = .ok (.new 9, 3) := by decide +kernel
theorem dX4_init_19 : decode cX4_init 19 = .ok (.dup, 1) := by decide +kernel
theorem dX4_init_20 : decode cX4_init 20 = .ok (.invokespecial 11, 3) := by decide +kernel
theorem dX4_init_23 : decode cX4_init 23 = .ok (.putfield 18, 3) := by decide +kernel
theorem dX4_init_26 : decode cX4_init 26 = .ok (.aload_n 0, 1) := by decide +kernel
theorem dX4_init_27 : decode cX4_init 27 = .ok (.bipush 80, 2) := by decide +kernel
theorem dX4_init_29 : decode cX4_init 29 = .ok (.newarray .int, 2) := by decide +kernel
theorem dX4_init_31 : decode cX4_init 31 = .ok (.putfield 21, 3) := by decide +kernel
theorem dX4_init_34 : decode cX4_init 34 = .ok (.aload_n 0, 1) := by decide +kernel
theorem dX4_init_35 : decode cX4_init 35 = .ok (.bipush 80, 2) := by decide +kernel
theorem dX4_init_37 : decode cX4_init 37 = .ok (.newarray .int, 2) := by decide +kernel
theorem dX4_init_39 : decode cX4_init 39 = .ok (.putfield 25, 3) := by decide +kernel
theorem dX4_init_42 : decode cX4_init 42 = .ok (.aload_n 0, 1) := by decide +kernel
theorem dX4_init_43 : decode cX4_init 43 = .ok (.bipush 80, 2) := by decide +kernel
theorem dX4_init_45 : decode cX4_init 45 = .ok (.newarray .int, 2) := by decide +kernel
theorem dX4_init_47 : decode cX4_init 47 = .ok (.putfield 28, 3) := by decide +kernel
theorem dX4_init_50 : decode cX4_init 50 = .ok (.aload_n 0, 1) := by decide +kernel
theorem dX4_init_51 : decode cX4_init 51 = .ok (.bipush 80, 2) := by decide +kernel
theorem dX4_init_53 : decode cX4_init 53 = .ok (.newarray .int, 2) := by decide +kernel
theorem dX4_init_55 : decode cX4_init 55 = .ok (.putfield 31, 3) := by decide +kernel
theorem dX4_init_58 : decode cX4_init 58 = .ok (.aload_n 0, 1) := by decide +kernel
theorem dX4_init_59 : decode cX4_init 59 = .ok (.iconst 0, 1) := by decide +kernel
theorem dX4_init_60 : decode cX4_init 60 = .ok (.putfield 34, 3) := by decide +kernel
theorem dX4_init_63 : decode cX4_init 63 = .ok (.aload_n 0, 1) := by decide +kernel
theorem dX4_init_64 : decode cX4_init 64 = .ok (.getfield 21, 3) := by decide +kernel
theorem dX4_init_67 : decode cX4_init 67 = .ok (.iconst (-1), 1) := by decide +kernel
theorem dX4_init_68 : decode cX4_init 68 = .ok (.invokestatic 38, 3) := by decide +kernel
theorem dX4_init_71 : decode cX4_init 71 = .ok (.return_, 1) := by decide +kernel
theorem dX4_isGoalOfAnother_0 : decode cX4_isGoalOfAnother 0 = .ok (.iconst 0, 1) := by decide +kernel
theorem dX4_isGoalOfAnother_1 : decode cX4_isGoalOfAnother 1 = .ok (.istore_n 3, 1) := by decide +kernel
theorem dX4_isGoalOfAnother_2 : decode cX4_isGoalOfAnother 2 = .ok (.iload_n 3, 1) := by decide +kernel
theorem dX4_isGoalOfAnother_3 : decode cX4_isGoalOfAnother 3 = .ok (.bipush 80, 2) := by decide +kernel
theorem dX4_isGoalOfAnother_5 : decode cX4_isGoalOfAnother 5 = .ok (.if_icmp .ge 26, 3) := by decide +kernel
theorem dX4_isGoalOfAnother_8 : decode cX4_isGoalOfAnother 8 = .ok (.aload_n 0, 1) := by decide +kernel
theorem dX4_isGoalOfAnother_9 : decode cX4_isGoalOfAnother 9 = .ok (.getfield 21, 3) := by decide +kernel
theorem dX4_isGoalOfAnother_12 : decode cX4_isGoalOfAnother 12 = .ok (.iload_n 3, 1) := by decide +kernel
theorem dX4_isGoalOfAnother_13 : decode cX4_isGoalOfAnother 13 = .ok (.iaload, 1) := by decide +kernel
theorem dX4_isGoalOfAnother_14 : decode cX4_isGoalOfAnother 14 = .ok (.iload_n 1, 1) := by decide +kernel
theorem dX4_isGoalOfAnother_15 : decode cX4_isGoalOfAnother 15 = .ok (.if_icmp .ne 10, 3) := by decide +kernel
theorem dX4_isGoalOfAnother_18 : decode cX4_isGoalOfAnother 18 = .ok (.iload_n 3, 1) := by decide +kernel
theorem dX4_isGoalOfAnother_19 : decode cX4_isGoalOfAnother 19 = .ok (.iload_n 2, 1) := by decide +kernel
theorem dX4_isGoalOfAnother_20 : decode cX4_isGoalOfAnother 20 = .ok (.if_icmp .eq 5, 3) := by decide +kernel
theorem dX4_isGoalOfAnother_23 : decode cX4_isGoalOfAnother 23 = .ok (.iconst 1, 1) := by decide +kernel
theorem dX4_isGoalOfAnother_24 : decode cX4_isGoalOfAnother 24 = .ok (.ireturn, 1) := by decide +kernel
theorem dX4_isGoalOfAnother_25 : decode cX4_isGoalOfAnother 25 = .ok (.iinc 3 1, 3) := by decide +kernel
theorem dX4_isGoalOfAnother_28 : decode cX4_isGoalOfAnother 28 = .ok (.goto (-26), 3) := by decide +kernel
theorem dX4_isGoalOfAnother_31 : decode cX4_isGoalOfAnother 31 = .ok (.iconst 0, 1) := by decide +kernel
theorem dX4_isGoalOfAnother_32 : decode cX4_isGoalOfAnother 32 = .ok (.ireturn, 1) := by decide +kernel
theorem dX4_makePlan_0 : decode cX4_makePlan 0 = .ok (.aload_n 0, 1) := by decide +kernel
theorem dX4_makePlan_1 : decode cX4_makePlan 1 = .ok (.iconst 0, 1) := by decide +kernel
theorem dX4_makePlan_2 : decode cX4_makePlan 2 = .ok (.putfield 34, 3) := by decide +kernel
theorem dX4_makePlan_5 : decode cX4_makePlan 5 = .ok (.aload_n 0, 1) := by decide +kernel
theorem dX4_makePlan_6 : decode cX4_makePlan 6 = .ok (.getfield 18, 3) := by decide +kernel
theorem dX4_makePlan_9 : decode cX4_makePlan 9 = .ok (.aload_n 0, 1) := by decide +kernel
theorem dX4_makePlan_10 : decode cX4_makePlan 10 = .ok (.getfield 12, 3) := by decide +kernel
theorem dX4_makePlan_13 : decode cX4_makePlan 13 = .ok (.invokevirtual 44, 3) := by decide +kernel
theorem dX4_makePlan_16 : decode cX4_makePlan 16 = .ok (.aload_n 0, 1) := by decide +kernel
theorem dX4_makePlan_17 : decode cX4_makePlan 17 = .ok (.invokevirtual 48, 3) := by decide +kernel
theorem dX4_makePlan_20 : decode cX4_makePlan 20 = .ok (.ifCond .eq 5, 3) := by decide +kernel
theorem dX4_makePlan_23 : decode cX4_makePlan 23 = .ok (.iconst 0, 1) := by decide +kernel
theorem dX4_makePlan_24 : decode cX4_makePlan 24 = .ok (.ireturn, 1) := by decide +kernel
theorem dX4_makePlan_25 : decode cX4_makePlan 25 = .ok (.iconst 0, 1) := by decide +kernel
theorem dX4_makePlan_26 : decode cX4_makePlan 26 = .ok (.istore_n 1, 1) := by decide +kernel
theorem dX4_makePlan_27 : decode cX4_makePlan 27 = .ok (.iload_n 1, 1) := by decide +kernel
theorem dX4_makePlan_28 : decode cX4_makePlan 28 = .ok (.bipush 80, 2) := by decide +kernel
theorem dX4_makePlan_30 : decode cX4_makePlan 30 = .ok (.if_icmp .ge 59, 3) := by decide +kernel
theorem dX4_makePlan_33 : decode cX4_makePlan 33 = .ok (.aload_n 0, 1) := by decide +kernel
theorem dX4_makePlan_34 : decode cX4_makePlan 34 = .ok (.invokevirtual 52, 3) := by decide +kernel
theorem dX4_makePlan_37 : decode cX4_makePlan 37 = .ok (.istore_n 2, 1) := by decide +kernel
theorem dX4_makePlan_38 : decode cX4_makePlan 38 = .ok (.iload_n 2, 1) := by decide +kernel
theorem dX4_makePlan_39 : decode cX4_makePlan 39 = .ok (.iconst (-1), 1) := by decide +kernel
theorem dX4_makePlan_40 : decode cX4_makePlan 40 = .ok (.if_icmp .ne 5, 3) := by decide +kernel
theorem dX4_makePlan_43 : decode cX4_makePlan 43 = .ok (.iconst 1, 1) := by decide +kernel
theorem dX4_makePlan_44 : decode cX4_makePlan 44 = .ok (.ireturn, 1) := by decide +kernel
theorem dX4_makePlan_45 : decode cX4_makePlan 45 = .ok (.aload_n 0, 1) := by decide +kernel
theorem dX4_makePlan_46 : decode cX4_makePlan 46 = .ok (.iload_n 2, 1) := by decide +kernel
theorem dX4_makePlan_47 : decode cX4_makePlan 47 = .ok (.invokevirtual 56, 3) := by decide +kernel
theorem dX4_makePlan_50 : decode cX4_makePlan 50 = .ok (.ifCond .eq 12, 3) := by decide +kernel
theorem dX4_makePlan_53 : decode cX4_makePlan 53 = .ok (.aload_n 0, 1) := by decide +kernel
theorem dX4_makePlan_54 : decode cX4_makePlan 54 = .ok (.getfield 21, 3) := by decide +kernel
theorem dX4_makePlan_57 : decode cX4_makePlan 57 = .ok (.iload_n 2, 1) := by decide +kernel
theorem dX4_makePlan_58 : decode cX4_makePlan 58 = .ok (.iaload, 1) := by decide +kernel
theorem dX4_makePlan_59 : decode cX4_makePlan 59 = .ok (.goto 10, 3) := by decide +kernel
theorem dX4_makePlan_62 : decode cX4_makePlan 62 = .ok (.aload_n 0, 1) := by decide +kernel
theorem dX4_makePlan_63 : decode cX4_makePlan 63 = .ok (.getfield 18, 3) := by decide +kernel
theorem dX4_makePlan_66 : decode cX4_makePlan 66 = .ok (.invokevirtual 60, 3) := by decide +kernel
theorem dX4_makePlan_69 : decode cX4_makePlan 69 = .ok (.istore_n 3, 1) := by decide +kernel
theorem dX4_makePlan_70 : decode cX4_makePlan 70 = .ok (.iload_n 3, 1) := by decide +kernel
theorem dX4_makePlan_71 : decode cX4_makePlan 71 = .ok (.iconst (-1), 1) := by decide +kernel
theorem dX4_makePlan_72 : decode cX4_makePlan 72 = .ok (.if_icmp .ne 5, 3) := by decide +kernel
theorem dX4_makePlan_75 : decode cX4_makePlan 75 = .ok (.iconst 0, 1) := by decide +kernel
theorem dX4_makePlan_76 : decode cX4_makePlan 76 = .ok (.ireturn, 1) := by decide +kernel
theorem dX4_makePlan_77 : decode cX4_makePlan 77 = .ok (.aload_n 0, 1) := by decide +kernel
theorem dX4_makePlan_78 : decode cX4_makePlan 78 = .ok (.iload_n 2, 1) := by decide +kernel
theorem dX4_makePlan_79 : decode cX4_makePlan 79 = .ok (.iload_n 3, 1) := by decide +kernel
theorem dX4_makePlan_80 : decode cX4_makePlan 80 = .ok (.invokevirtual 63, 3) := by decide +kernel
theorem dX4_makePlan_83 : decode cX4_makePlan 83 = .ok (.iinc 1 1, 3) := by decide +kernel
theorem dX4_makePlan_86 : decode cX4_makePlan 86 = .ok (.goto (-59), 3) := by decide +kernel
theorem dX4_makePlan_89 : decode cX4_makePlan 89 = .ok (.aload_n 0, 1) := by decide +kernel
theorem dX4_makePlan_90 : decode cX4_makePlan 90 = .ok (.invokevirtual 52, 3) := by decide +kernel
theorem dX4_makePlan_93 : decode cX4_makePlan 93 = .ok (.iconst (-1), 1) := by decide +kernel
theorem dX4_makePlan_94 : decode cX4_makePlan 94 = .ok (.if_icmp .ne 7, 3) := by decide +kernel
theorem dX4_makePlan_97 : decode cX4_makePlan 97 = .ok (.iconst 1, 1) := by decide +kernel
theorem dX4_makePlan_98 : decode cX4_makePlan 98 = .ok (.goto 4, 3) := by decide +kernel
theorem dX4_makePlan_101 : decode cX4_makePlan 101 = .ok (.iconst 0, 1) := by decide +kernel
theorem dX4_makePlan_102 : decode cX4_makePlan 102 = .ok (.ireturn, 1) := by decide +kernel
theorem dX4_isGoalBlocked_0 : decode cX4_isGoalBlocked 0 = .ok (.iconst 0, 1) := by decide +kernel
theorem dX4_isGoalBlocked_1 : decode cX4_isGoalBlocked 1 = .ok (.istore_n 1, 1) := by decide +kernel
theorem dX4_isGoalBlocked_2 : decode cX4_isGoalBlocked 2 = .ok (.iload_n 1, 1) := by decide +kernel
theorem dX4_isGoalBlocked_3 : decode cX4_isGoalBlocked 3 = .ok (.bipush 80, 2) := by decide +kernel
theorem dX4_isGoalBlocked_5 : decode cX4_isGoalBlocked 5 = .ok (.if_icmp .ge 49, 3) := by decide +kernel
theorem dX4_isGoalBlocked_8 : decode cX4_isGoalBlocked 8 = .ok (.aload_n 0, 1) := by decide +kernel
theorem dX4_isGoalBlocked_9 : decode cX4_isGoalBlocked 9 = .ok (.iload_n 1, 1) := by decide +kernel
theorem dX4_isGoalBlocked_10 : decode cX4_isGoalBlocked 10 = .ok (.invokevirtual 67, 3) := by decide +kernel
theorem dX4_isGoalBlocked_13 : decode cX4_isGoalBlocked 13 = .ok (.ifCond .eq 35, 3) := by decide +kernel
theorem dX4_isGoalBlocked_16 : decode cX4_isGoalBlocked 16 = .ok (.aload_n 0, 1) := by decide +kernel
theorem dX4_isGoalBlocked_17 : decode cX4_isGoalBlocked 17 = .ok (.getfield 12, 3) := by decide +kernel
theorem dX4_isGoalBlocked_20 : decode cX4_isGoalBlocked 20 = .ok (.getfield 70, 3) := by decide +kernel
theorem dX4_isGoalBlocked_23 : decode cX4_isGoalBlocked 23 = .ok (.aload_n 0, 1) := by decide +kernel
theorem dX4_isGoalBlocked_24 : decode cX4_isGoalBlocked 24 = .ok (.getfield 21, 3) := by decide +kernel
theorem dX4_isGoalBlocked_27 : decode cX4_isGoalBlocked 27 = .ok (.iload_n 1, 1) := by decide +kernel
theorem dX4_isGoalBlocked_28 : decode cX4_isGoalBlocked 28 = .ok (.iaload, 1) := by decide +kernel
theorem dX4_isGoalBlocked_29 : decode cX4_isGoalBlocked 29 = .ok (.iaload, 1) := by decide +kernel
theorem dX4_isGoalBlocked_30 : decode cX4_isGoalBlocked 30 = .ok (.istore_n 2, 1) := by decide +kernel
theorem dX4_isGoalBlocked_31 : decode cX4_isGoalBlocked 31 = .ok (.iload_n 2, 1) := by decide +kernel
theorem dX4_isGoalBlocked_32 : decode cX4_isGoalBlocked 32 = .ok (.iconst (-1), 1) := by decide +kernel
theorem dX4_isGoalBlocked_33 : decode cX4_isGoalBlocked 33 = .ok (.if_icmp .eq 15, 3) := by decide +kernel
theorem dX4_isGoalBlocked_36 : decode cX4_isGoalBlocked 36 = .ok (.aload_n 0, 1) := by decide +kernel
theorem dX4_isGoalBlocked_37 : decode cX4_isGoalBlocked 37 = .ok (.getfield 21, 3) := by decide +kernel
theorem dX4_isGoalBlocked_40 : decode cX4_isGoalBlocked 40 = .ok (.iload_n 2, 1) := by decide +kernel
theorem dX4_isGoalBlocked_41 : decode cX4_isGoalBlocked 41 = .ok (.iaload, 1) := by decide +kernel
theorem dX4_isGoalBlocked_42 : decode cX4_isGoalBlocked 42 = .ok (.iconst (-1), 1) := by decide +kernel
theorem dX4_isGoalBlocked_43 : decode cX4_isGoalBlocked 43 = .ok (.if_icmp .ne 5, 3) := by decide +kernel
theorem dX4_isGoalBlocked_46 : decode cX4_isGoalBlocked 46 = .ok (.iconst 1, 1) := by decide +kernel
theorem dX4_isGoalBlocked_47 : decode cX4_isGoalBlocked 47 = .ok (.ireturn, 1) := by decide +kernel
theorem dX4_isGoalBlocked_48 : decode cX4_isGoalBlocked 48 = .ok (.iinc 1 1, 3) := by decide +kernel
theorem dX4_isGoalBlocked_51 : decode cX4_isGoalBlocked 51 = .ok (.goto (-49), 3) := by decide +kernel
theorem dX4_isGoalBlocked_54 : decode cX4_isGoalBlocked 54 = .ok (.iconst 0, 1) := by decide +kernel
theorem dX4_isGoalBlocked_55 : decode cX4_isGoalBlocked 55 = .ok (.ireturn, 1) := by decide +kernel
theorem dX4_nextBox_0 : decode cX4_nextBox 0 = .ok (.iconst (-1), 1) := by decide +kernel
theorem dX4_nextBox_1 : decode cX4_nextBox 1 = .ok (.istore_n 1, 1) := by decide +kernel
theorem dX4_nextBox_2 : decode cX4_nextBox 2 = .ok (.iconst 0, 1) := by decide +kernel
theorem dX4_nextBox_3 : decode cX4_nextBox 3 = .ok (.istore_n 2, 1) := by decide +kernel
theorem dX4_nextBox_4 : decode cX4_nextBox 4 = .ok (.iload_n 2, 1) := by decide +kernel
theorem dX4_nextBox_5 : decode cX4_nextBox 5 = .ok (.bipush 80, 2) := by decide +kernel
theorem dX4_nextBox_7 : decode cX4_nextBox 7 = .ok (.if_icmp .ge 34, 3) := by decide +kernel
theorem dX4_nextBox_10 : decode cX4_nextBox 10 = .ok (.aload_n 0, 1) := by decide +kernel
theorem dX4_nextBox_11 : decode cX4_nextBox 11 = .ok (.iload_n 2, 1) := by decide +kernel
theorem dX4_nextBox_12 : decode cX4_nextBox 12 = .ok (.invokevirtual 67, 3) := by decide +kernel
theorem dX4_nextBox_15 : decode cX4_nextBox 15 = .ok (.ifCond .eq 20, 3) := by decide +kernel
theorem dX4_nextBox_18 : decode cX4_nextBox 18 = .ok (.aload_n 0, 1) := by decide +kernel
theorem dX4_nextBox_19 : decode cX4_nextBox 19 = .ok (.iload_n 2, 1) := by decide +kernel
theorem dX4_nextBox_20 : decode cX4_nextBox 20 = .ok (.invokevirtual 56, 3) := by decide +kernel
theorem dX4_nextBox_23 : decode cX4_nextBox 23 = .ok (.ifCond .eq 5, 3) := by decide +kernel
theorem dX4_nextBox_26 : decode cX4_nextBox 26 = .ok (.iload_n 2, 1) := by decide +kernel
theorem dX4_nextBox_27 : decode cX4_nextBox 27 = .ok (.ireturn, 1) := by decide +kernel
theorem dX4_nextBox_28 : decode cX4_nextBox 28 = .ok (.iload_n 1, 1) := by decide +kernel
theorem dX4_nextBox_29 : decode cX4_nextBox 29 = .ok (.iconst (-1), 1) := by decide +kernel
theorem dX4_nextBox_30 : decode cX4_nextBox 30 = .ok (.if_icmp .ne 5, 3) := by decide +kernel
theorem dX4_nextBox_33 : decode cX4_nextBox 33 = .ok (.iload_n 2, 1) := by decide +kernel
theorem dX4_nextBox_34 : decode cX4_nextBox 34 = .ok (.istore_n 1, 1) := by decide +kernel
theorem dX4_nextBox_35 : decode cX4_nextBox 35 = .ok (.iinc 2 1, 3) := by decide +kernel
theorem dX4_nextBox_38 : decode cX4_nextBox 38 = .ok (.goto (-34), 3) := by decide +kernel
theorem dX4_nextBox_41 : decode cX4_nextBox 41 = .ok (.iload_n 1, 1) := by decide +kernel
theorem dX4_nextBox_42 : decode cX4_nextBox 42 = .ok (.ireturn, 1) := by decide +kernel
theorem dX4_isAstray_0 : decode cX4_isAstray 0 = .ok (.aload_n 0, 1) := by decide +kernel
theorem dX4_isAstray_1 : decode cX4_isAstray 1 = .ok (.getfield 21, 3) := by decide +kernel
theorem dX4_isAstray_4 : decode cX4_isAstray 4 = .ok (.iload_n 1, 1) := by decide +kernel
theorem dX4_isAstray_5 : decode cX4_isAstray 5 = .ok (.iaload, 1) := by decide +kernel
theorem dX4_isAstray_6 : decode cX4_isAstray 6 = .ok (.iconst (-1), 1) := by decide +kernel
theorem dX4_isAstray_7 : decode cX4_isAstray 7 = .ok (.if_icmp .eq 38, 3) := by decide +kernel
theorem dX4_isAstray_10 : decode cX4_isAstray 10 = .ok (.aload_n 0, 1) := by decide +kernel
theorem dX4_isAstray_11 : decode cX4_isAstray 11 = .ok (.getfield 18, 3) := by decide +kernel
theorem dX4_isAstray_14 : decode cX4_isAstray 14 = .ok (.getfield 73, 3) := by decide +kernel
theorem dX4_isAstray_17 : decode cX4_isAstray 17 = .ok (.iload_n 1, 1) := by decide +kernel
theorem dX4_isAstray_18 : decode cX4_isAstray 18 = .ok (.iaload, 1) := by decide +kernel
theorem dX4_isAstray_19 : decode cX4_isAstray 19 = .ok (.iconst (-1), 1) := by decide +kernel
theorem dX4_isAstray_20 : decode cX4_isAstray 20 = .ok (.if_icmp .eq 25, 3) := by decide +kernel
theorem dX4_isAstray_23 : decode cX4_isAstray 23 = .ok (.aload_n 0, 1) := by decide +kernel
theorem dX4_isAstray_24 : decode cX4_isAstray 24 = .ok (.getfield 18, 3) := by decide +kernel
theorem dX4_isAstray_27 : decode cX4_isAstray 27 = .ok (.getfield 73, 3) := by decide +kernel
theorem dX4_isAstray_30 : decode cX4_isAstray 30 = .ok (.iload_n 1, 1) := by decide +kernel
theorem dX4_isAstray_31 : decode cX4_isAstray 31 = .ok (.iaload, 1) := by decide +kernel
theorem dX4_isAstray_32 : decode cX4_isAstray 32 = .ok (.aload_n 0, 1) := by decide +kernel
theorem dX4_isAstray_33 : decode cX4_isAstray 33 = .ok (.getfield 21, 3) := by decide +kernel
theorem dX4_isAstray_36 : decode cX4_isAstray 36 = .ok (.iload_n 1, 1) := by decide +kernel
theorem dX4_isAstray_37 : decode cX4_isAstray 37 = .ok (.iaload, 1) := by decide +kernel
theorem dX4_isAstray_38 : decode cX4_isAstray 38 = .ok (.if_icmp .eq 7, 3) := by decide +kernel
theorem dX4_isAstray_41 : decode cX4_isAstray 41 = .ok (.iconst 1, 1) := by decide +kernel
theorem dX4_isAstray_42 : decode cX4_isAstray 42 = .ok (.goto 4, 3) := by decide +kernel
theorem dX4_isAstray_45 : decode cX4_isAstray 45 = .ok (.iconst 0, 1) := by decide +kernel
theorem dX4_isAstray_46 : decode cX4_isAstray 46 = .ok (.ireturn, 1) := by decide +kernel
theorem dX4_isGoalEmpty_0 : decode cX4_isGoalEmpty 0 = .ok (.aload_n 0, 1) := by decide +kernel
theorem dX4_isGoalEmpty_1 : decode cX4_isGoalEmpty 1 = .ok (.getfield 18, 3) := by decide +kernel
theorem dX4_isGoalEmpty_4 : decode cX4_isGoalEmpty 4 = .ok (.getfield 70, 3) := by decide +kernel
theorem dX4_isGoalEmpty_7 : decode cX4_isGoalEmpty 7 = .ok (.aload_n 0, 1) := by decide +kernel
theorem dX4_isGoalEmpty_8 : decode cX4_isGoalEmpty 8 = .ok (.getfield 21, 3) := by decide +kernel
theorem dX4_isGoalEmpty_11 : decode cX4_isGoalEmpty 11 = .ok (.iload_n 1, 1) := by decide +kernel
theorem dX4_isGoalEmpty_12 : decode cX4_isGoalEmpty 12 = .ok (.iaload, 1) := by decide +kernel
theorem dX4_isGoalEmpty_13 : decode cX4_isGoalEmpty 13 = .ok (.iaload, 1) := by decide +kernel
theorem dX4_isGoalEmpty_14 : decode cX4_isGoalEmpty 14 = .ok (.iconst (-1), 1) := by decide +kernel
theorem dX4_isGoalEmpty_15 : decode cX4_isGoalEmpty 15 = .ok (.if_icmp .ne 7, 3) := by decide +kernel
theorem dX4_isGoalEmpty_18 : decode cX4_isGoalEmpty 18 = .ok (.iconst 1, 1) := by decide +kernel
theorem dX4_isGoalEmpty_19 : decode cX4_isGoalEmpty 19 = .ok (.goto 4, 3) := by decide +kernel
theorem dX4_isGoalEmpty_22 : decode cX4_isGoalEmpty 22 = .ok (.iconst 0, 1) := by decide +kernel
theorem dX4_isGoalEmpty_23 : decode cX4_isGoalEmpty 23 = .ok (.ireturn, 1) := by decide +kernel
theorem dX4_addCarry_0 : decode cX4_addCarry 0 = .ok (.aload_n 0, 1) := by decide +kernel
theorem dX4_addCarry_1 : decode cX4_addCarry 1 = .ok (.getfield 34, 3) := by decide +kernel
theorem dX4_addCarry_4 : decode cX4_addCarry 4 = .ok (.bipush 80, 2) := by decide +kernel
theorem dX4_addCarry_6 : decode cX4_addCarry 6 = .ok (.if_icmp .ge 60, 3) := by decide +kernel
theorem dX4_addCarry_9 : decode cX4_addCarry 9 = .ok (.aload_n 0, 1) := by decide +kernel
theorem dX4_addCarry_10 : decode cX4_addCarry 10 = .ok (.getfield 25, 3) := by decide +kernel
theorem dX4_addCarry_13 : decode cX4_addCarry 13 = .ok (.aload_n 0, 1) := by decide +kernel
theorem dX4_addCarry_14 : decode cX4_addCarry 14 = .ok (.getfield 34, 3) := by decide +kernel
theorem dX4_addCarry_17 : decode cX4_addCarry 17 = .ok (.iload_n 1, 1) := by decide +kernel
theorem dX4_addCarry_18 : decode cX4_addCarry 18 = .ok (.iastore, 1) := by decide +kernel
theorem dX4_addCarry_19 : decode cX4_addCarry 19 = .ok (.aload_n 0, 1) := by decide +kernel
theorem dX4_addCarry_20 : decode cX4_addCarry 20 = .ok (.getfield 28, 3) := by decide +kernel
theorem dX4_addCarry_23 : decode cX4_addCarry 23 = .ok (.aload_n 0, 1) := by decide +kernel
theorem dX4_addCarry_24 : decode cX4_addCarry 24 = .ok (.getfield 34, 3) := by decide +kernel
theorem dX4_addCarry_27 : decode cX4_addCarry 27 = .ok (.aload_n 0, 1) := by decide +kernel
theorem dX4_addCarry_28 : decode cX4_addCarry 28 = .ok (.getfield 18, 3) := by decide +kernel
theorem dX4_addCarry_31 : decode cX4_addCarry 31 = .ok (.getfield 73, 3) := by decide +kernel
theorem dX4_addCarry_34 : decode cX4_addCarry 34 = .ok (.iload_n 1, 1) := by decide +kernel
theorem dX4_addCarry_35 : decode cX4_addCarry 35 = .ok (.iaload, 1) := by decide +kernel
theorem dX4_addCarry_36 : decode cX4_addCarry 36 = .ok (.iastore, 1) := by decide +kernel
theorem dX4_addCarry_37 : decode cX4_addCarry 37 = .ok (.aload_n 0, 1) := by decide +kernel
theorem dX4_addCarry_38 : decode cX4_addCarry 38 = .ok (.getfield 31, 3) := by decide +kernel
theorem dX4_addCarry_41 : decode cX4_addCarry 41 = .ok (.aload_n 0, 1) := by decide +kernel
theorem dX4_addCarry_42 : decode cX4_addCarry 42 = .ok (.getfield 34, 3) := by decide +kernel
theorem dX4_addCarry_45 : decode cX4_addCarry 45 = .ok (.iload_n 2, 1) := by decide +kernel
theorem dX4_addCarry_46 : decode cX4_addCarry 46 = .ok (.iastore, 1) := by decide +kernel
theorem dX4_addCarry_47 : decode cX4_addCarry 47 = .ok (.aload_n 0, 1) := by decide +kernel
theorem dX4_addCarry_48 : decode cX4_addCarry 48 = .ok (.dup, 1) := by decide +kernel
theorem dX4_addCarry_49 : decode cX4_addCarry 49 = .ok (.getfield 34, 3) := by decide +kernel
theorem dX4_addCarry_52 : decode cX4_addCarry 52 = .ok (.iconst 1, 1) := by decide +kernel
theorem dX4_addCarry_53 : decode cX4_addCarry 53 = .ok (.iadd, 1) := by decide +kernel
theorem dX4_addCarry_54 : decode cX4_addCarry 54 = .ok (.putfield 34, 3) := by decide +kernel
theorem dX4_addCarry_57 : decode cX4_addCarry 57 = .ok (.aload_n 0, 1) := by decide +kernel
theorem dX4_addCarry_58 : decode cX4_addCarry 58 = .ok (.getfield 18, 3) := by decide +kernel
theorem dX4_addCarry_61 : decode cX4_addCarry 61 = .ok (.iload_n 1, 1) := by decide +kernel
theorem dX4_addCarry_62 : decode cX4_addCarry 62 = .ok (.iload_n 2, 1) := by decide +kernel
theorem dX4_addCarry_63 : decode cX4_addCarry 63 = .ok (.invokevirtual 76, 3) := by decide +kernel
theorem dX4_addCarry_66 : decode cX4_addCarry 66 = .ok (.return_, 1) := by decide +kernel
theorem dX5_init_0 : decode cX5_init 0 = .ok (.aload_n 0, 1) := by decide +kernel
theorem dX5_init_1 : decode cX5_init 1 = .ok (.invokespecial 3, 3) := by decide +kernel
theorem dX5_init_4 : decode cX5_init 4 = .ok (.aload_n 0, 1) := by decide +kernel
theorem dX5_init_5 : decode cX5_init 5 = .ok (.bipush 6, 2) := by decide +kernel
theorem dX5_init_7 : decode cX5_init 7 = .ok (.newarray .int, 2) := by decide +kernel
theorem dX5_init_9 : decode cX5_init 9 = .ok (.putfield 9, 3) := by decide +kernel
theorem dX5_init_12 : decode cX5_init 12 = .ok (.aload_n 0, 1) := by decide +kernel
theorem dX5_init_13 : decode cX5_init 13 = .ok (.iconst (-1), 1) := by decide +kernel
theorem dX5_init_14 : decode cX5_init 14 = .ok (.putfield 15, 3) := by decide +kernel
theorem dX5_init_17 : decode cX5_init 17 = .ok (.aload_n 0, 1) := by decide +kernel
theorem dX5_init_18 : decode cX5_init 18 = .ok (.iconst (-1), 1) := by decide +kernel
theorem dX5_init_19 : decode cX5_init 19 = .ok (.putfield 19, 3) := by decide +kernel
theorem dX5_init_22 : decode cX5_init 22 = .ok (.aload_n 0, 1) := by decide +kernel
theorem dX5_init_23 : decode cX5_init 23 = .ok (.iconst (-1), 1) := by decide +kernel
theorem dX5_init_24 : decode cX5_init 24 = .ok (.putfield 22, 3) := by decide +kernel
theorem dX5_init_27 : decode cX5_init 27 = .ok (.aload_n 0, 1) := by decide +kernel
theorem dX5_init_28 : decode cX5_init 28 = .ok (.iconst (-1), 1) := by decide +kernel
theorem dX5_init_29 : decode cX5_init 29 = .ok (.putfield 25, 3) := by decide +kernel
theorem dX5_init_32 : decode cX5_init 32 = .ok (.aload_n 0, 1) := by decide +kernel
theorem dX5_init_33 : decode cX5_init 33 = .ok (.iconst 0, 1) := by decide +kernel
theorem dX5_init_34 : decode cX5_init 34 = .ok (.putfield 28, 3) := by decide +kernel
theorem dX5_init_37 : decode cX5_init 37 = .ok (.aload_n 0, 1) := by decide +kernel
theorem dX5_init_38 : decode cX5_init 38 = .ok (.iconst (-1), 1) := by decide +kernel
theorem dX5_init_39 : decode cX5_init 39 = .ok (.putfield 31, 3) := by decide +kernel
theorem dX5_init_42 : decode cX5_init 42 = .ok (.aload_n 0, 1) := by decide +kernel
theorem dX5_init_43 : decode cX5_init 43 = .ok (.iload_n 1, 1) := by decide +kernel
theorem dX5_init_44 : decode cX5_init 44 = .ok (.putfield 34, 3) := by decide +kernel
theorem dX5_init_47 : decode cX5_init 47 = .ok (.aload_n 0, 1) := by decide +kernel
theorem dX5_init_48 : decode cX5_init 48 = .ok (.iload_n 2, 1) := by decide +kernel
theorem dX5_init_49 : decode cX5_init 49 = .ok (.putfield 37, 3) := by decide +kernel
theorem dX5_init_52 : decode cX5_init 52 = .ok (.aload_n 0, 1) := by decide +kernel
theorem dX5_init_53 : decode cX5_init 53 = .ok (.aload_n 3, 1) := by decide +kernel
theorem dX5_init_54 : decode cX5_init 54 = .ok (.putfield 40, 3) := by decide +kernel
theorem dX5_init_57 : decode cX5_init 57 = .ok (.aload_n 0, 1) := by decide +kernel
theorem dX5_init_58 : decode cX5_init 58 = .ok (.iload_n 1, 1) := by decide +kernel
theorem dX5_init_59 : decode cX5_init 59 = .ok (.putfield 44, 3) := by decide +kernel
theorem dX5_init_62 : decode cX5_init 62 = .ok (.aload_n 0, 1) := by decide +kernel
theorem dX5_init_63 : decode cX5_init 63 = .ok (.getfield 9, 3) := by decide +kernel
theorem dX5_init_66 : decode cX5_init 66 = .ok (.iconst (-1), 1) := by decide +kernel
theorem dX5_init_67 : decode cX5_init 67 = .ok (.invokestatic 47, 3) := by decide +kernel
theorem dX5_init_70 : decode cX5_init 70 = .ok (.return_, 1) := by decide +kernel
theorem dX5_isPartOf_0 : decode cX5_isPartOf 0 = .ok (.aload_n 0, 1) := by decide +kernel
theorem dX5_isPartOf_1 : decode cX5_isPartOf 1 = .ok (.astore_n 2, 1) := by decide +kernel
theorem dX5_isPartOf_2 : decode cX5_isPartOf 2 = .ok (.aload_n 2, 1) := by decide +kernel
theorem dX5_isPartOf_3 : decode cX5_isPartOf 3 = .ok (.ifnull 16, 3) := by decide +kernel
theorem dX5_isPartOf_6 : decode cX5_isPartOf 6 = .ok (.aload_n 2, 1) := by decide +kernel
theorem dX5_isPartOf_7 : decode cX5_isPartOf 7 = .ok (.aload_n 1, 1) := by decide +kernel
theorem dX5_isPartOf_8 : decode cX5_isPartOf 8 = .ok (.if_acmp .eq 11, 3) := by decide +kernel
theorem dX5_isPartOf_11 : decode cX5_isPartOf 11 = .ok (.aload_n 2, 1) := by decide +kernel
theorem dX5_isPartOf_12 : decode cX5_isPartOf 12 = .ok (.getfield 40, 3) := by decide +kernel
theorem dX5_isPartOf_15 : decode cX5_isPartOf 15 = .ok (.astore_n 2, 1) := by decide +kernel
theorem dX5_isPartOf_16 : decode cX5_isPartOf 16 = .ok (.goto (-14), 3) := by decide +kernel
theorem dX5_isPartOf_19 : decode cX5_isPartOf 19 = .ok (.aload_n 2, 1) := by decide +kernel
theorem dX5_isPartOf_20 : decode cX5_isPartOf 20 = .ok (.ifnull 7, 3) := by decide +kernel
theorem dX5_isPartOf_23 : decode cX5_isPartOf 23 = .ok (.iconst 1, 1) := by decide +kernel
theorem dX5_isPartOf_24 : decode cX5_isPartOf 24 = .ok (.goto 4, 3) := by decide +kernel
theorem dX5_isPartOf_27 : decode cX5_isPartOf 27 = .ok (.iconst 0, 1) := by decide +kernel
theorem dX5_isPartOf_28 : decode cX5_isPartOf 28 = .ok (.ireturn, 1) := by decide +kernel
theorem dX5_saidInLine_0 : decode cX5_saidInLine 0 = .ok (.iconst (-1), 1) := by decide +kernel
theorem dX5_saidInLine_1 : decode cX5_saidInLine 1 = .ok (.istore_n 2, 1) := by decide +kernel
theorem dX5_saidInLine_2 : decode cX5_saidInLine 2 = .ok (.aload_n 0, 1) := by decide +kernel
theorem dX5_saidInLine_3 : decode cX5_saidInLine 3 = .ok (.astore_n 3, 1) := by decide +kernel
theorem dX5_saidInLine_4 : decode cX5_saidInLine 4 = .ok (.aload_n 3, 1) := by decide +kernel
theorem dX5_saidInLine_5 : decode cX5_saidInLine 5 = .ok (.ifnull 23, 3) := by decide +kernel
theorem dX5_saidInLine_8 : decode cX5_saidInLine 8 = .ok (.iload_n 2, 1) := by decide +kernel
theorem dX5_saidInLine_9 : decode cX5_saidInLine 9 = .ok (.iconst (-1), 1) := by decide +kernel
theorem dX5_saidInLine_10 : decode cX5_saidInLine 10 = .ok (.if_icmp .ne 18, 3) := by decide +kernel
theorem dX5_saidInLine_13 : decode cX5_saidInLine 13 = .ok (.aload_n 3, 1) := by decide +kernel
theorem dX5_saidInLine_14 : decode cX5_saidInLine 14 = .ok (.getfield 9, 3) := by decide +kernel
theorem dX5_saidInLine_17 : decode cX5_saidInLine 17 = .ok (.iload_n 1, 1) := by decide +kernel
theorem dX5_saidInLine_18 : decode cX5_saidInLine 18 = .ok (.iaload, 1) := by decide +kernel
theorem dX5_saidInLine_19 : decode cX5_saidInLine 19 = .ok (.istore_n 2, 1) := by decide +kernel
theorem dX5_saidInLine_20 : decode cX5_saidInLine 20 = .ok (.aload_n 3, 1) := by decide +kernel
theorem dX5_saidInLine_21 : decode cX5_saidInLine 21 = .ok (.getfield 40, 3) := by decide +kernel
theorem dX5_saidInLine_24 : decode cX5_saidInLine 24 = .ok (.astore_n 3, 1) := by decide +kernel
theorem dX5_saidInLine_25 : decode cX5_saidInLine 25 = .ok (.goto (-21), 3) := by decide +kernel
theorem dX5_saidInLine_28 : decode cX5_saidInLine 28 = .ok (.iload_n 2, 1) := by decide +kernel
theorem dX5_saidInLine_29 : decode cX5_saidInLine 29 = .ok (.ireturn, 1) := by decide +kernel
theorem dX5_hasSpan_0 : decode cX5_hasSpan 0 = .ok (.aload_n 0, 1) := by decide +kernel
theorem dX5_hasSpan_1 : decode cX5_hasSpan 1 = .ok (.getfield 15, 3) := by decide +kernel
theorem dX5_hasSpan_4 : decode cX5_hasSpan 4 = .ok (.iconst (-1), 1) := by decide +kernel
theorem dX5_hasSpan_5 : decode cX5_hasSpan 5 = .ok (.if_icmp .eq 7, 3) := by decide +kernel
theorem dX5_hasSpan_8 : decode cX5_hasSpan 8 = .ok (.iconst 1, 1) := by decide +kernel
theorem dX5_hasSpan_9 : decode cX5_hasSpan 9 = .ok (.goto 4, 3) := by decide +kernel
theorem dX5_hasSpan_12 : decode cX5_hasSpan 12 = .ok (.iconst 0, 1) := by decide +kernel
theorem dX5_hasSpan_13 : decode cX5_hasSpan 13 = .ok (.ireturn, 1) := by decide +kernel
theorem dX5_showsSpanTo_0 : decode cX5_showsSpanTo 0 = .ok (.aload_n 0, 1) := by decide +kernel
theorem dX5_showsSpanTo_1 : decode cX5_showsSpanTo 1 = .ok (.getfield 40, 3) := by decide +kernel
theorem dX5_showsSpanTo_4 : decode cX5_showsSpanTo 4 = .ok (.astore_n 2, 1) := by decide +kernel
theorem dX5_showsSpanTo_5 : decode cX5_showsSpanTo 5 = .ok (.aload_n 2, 1) := by decide +kernel
theorem dX5_showsSpanTo_6 : decode cX5_showsSpanTo 6 = .ok (.ifnull 23, 3) := by decide +kernel
theorem dX5_showsSpanTo_9 : decode cX5_showsSpanTo 9 = .ok (.aload_n 2, 1) := by decide +kernel
theorem dX5_showsSpanTo_10 : decode cX5_showsSpanTo 10 = .ok (.aload_n 1, 1) := by decide +kernel
theorem dX5_showsSpanTo_11 : decode cX5_showsSpanTo 11 = .ok (.if_acmp .eq 18, 3) := by decide +kernel
theorem dX5_showsSpanTo_14 : decode cX5_showsSpanTo 14 = .ok (.aload_n 2, 1) := by decide +kernel
theorem dX5_showsSpanTo_15 : decode cX5_showsSpanTo 15 = .ok (.invokevirtual 53, 3) := by decide +kernel
theorem dX5_showsSpanTo_18 : decode cX5_showsSpanTo 18 = .ok (.ifCond .ne 11, 3) := by decide +kernel
theorem dX5_showsSpanTo_21 : decode cX5_showsSpanTo 21 = .ok (.aload_n 2, 1) := by decide +kernel
theorem dX5_showsSpanTo_22 : decode cX5_showsSpanTo 22 = .ok (.getfield 40, 3) := by decide +kernel
theorem dX5_showsSpanTo_25 : decode cX5_showsSpanTo 25 = .ok (.astore_n 2, 1) := by decide +kernel
theorem dX5_showsSpanTo_26 : decode cX5_showsSpanTo 26 = .ok (.goto (-21), 3) := by decide +kernel
theorem dX5_showsSpanTo_29 : decode cX5_showsSpanTo 29 = .ok (.aload_n 0, 1) := by decide +kernel
theorem dX5_showsSpanTo_30 : decode cX5_showsSpanTo 30 = .ok (.invokevirtual 53, 3) := by decide +kernel
theorem dX5_showsSpanTo_33 : decode cX5_showsSpanTo 33 = .ok (.ifCond .eq 12, 3) := by decide +kernel
theorem dX5_showsSpanTo_36 : decode cX5_showsSpanTo 36 = .ok (.aload_n 2, 1) := by decide +kernel
theorem dX5_showsSpanTo_37 : decode cX5_showsSpanTo 37 = .ok (.aload_n 1, 1) := by decide +kernel
theorem dX5_showsSpanTo_38 : decode cX5_showsSpanTo 38 = .ok (.if_acmp .ne 7, 3) := by decide +kernel
theorem dX5_showsSpanTo_41 : decode cX5_showsSpanTo 41 = .ok (.iconst 1, 1) := by decide +kernel
theorem dX5_showsSpanTo_42 : decode cX5_showsSpanTo 42 = .ok (.goto 4, 3) := by decide +kernel
theorem dX5_showsSpanTo_45 : decode cX5_showsSpanTo 45 = .ok (.iconst 0, 1) := by decide +kernel
theorem dX5_showsSpanTo_46 : decode cX5_showsSpanTo 46 = .ok (.ireturn, 1) := by decide +kernel
theorem dX5_hasQuarrel_0 : decode cX5_hasQuarrel 0 = .ok (.aload_n 0, 1) := by decide +kernel
theorem dX5_hasQuarrel_1 : decode cX5_hasQuarrel 1 = .ok (.getfield 40, 3) := by decide +kernel
theorem dX5_hasQuarrel_4 : decode cX5_hasQuarrel 4 = .ok (.astore_n 1, 1) := by decide +kernel
theorem dX5_hasQuarrel_5 : decode cX5_hasQuarrel 5 = .ok (.aload_n 1, 1) := by decide +kernel
theorem dX5_hasQuarrel_6 : decode cX5_hasQuarrel 6 = .ok (.ifnull 18, 3) := by decide +kernel
theorem dX5_hasQuarrel_9 : decode cX5_hasQuarrel 9 = .ok (.aload_n 1, 1) := by decide +kernel
theorem dX5_hasQuarrel_10 : decode cX5_hasQuarrel 10 = .ok (.invokevirtual 53, 3) := by decide +kernel
theorem dX5_hasQuarrel_13 : decode cX5_hasQuarrel 13 = .ok (.ifCond .ne 11, 3) := by decide +kernel
theorem dX5_hasQuarrel_16 : decode cX5_hasQuarrel 16 = .ok (.aload_n 1, 1) := by decide +kernel
theorem dX5_hasQuarrel_17 : decode cX5_hasQuarrel 17 = .ok (.getfield 40, 3) := by decide +kernel
theorem dX5_hasQuarrel_20 : decode cX5_hasQuarrel 20 = .ok (.astore_n 1, 1) := by decide +kernel
theorem dX5_hasQuarrel_21 : decode cX5_hasQuarrel 21 = .ok (.goto (-16), 3) := by decide +kernel
theorem dX5_hasQuarrel_24 : decode cX5_hasQuarrel 24 = .ok (.aload_n 0, 1) := by decide +kernel
theorem dX5_hasQuarrel_25 : decode cX5_hasQuarrel 25 = .ok (.invokevirtual 53, 3) := by decide +kernel
theorem dX5_hasQuarrel_28 : decode cX5_hasQuarrel 28 = .ok (.ifCond .eq 33, 3) := by decide +kernel
theorem dX5_hasQuarrel_31 : decode cX5_hasQuarrel 31 = .ok (.aload_n 1, 1) := by decide +kernel
theorem dX5_hasQuarrel_32 : decode cX5_hasQuarrel 32 = .ok (.ifnull 29, 3) := by decide +kernel
theorem dX5_hasQuarrel_35 : decode cX5_hasQuarrel 35 = .ok (.aload_n 0, 1) := by decide +kernel
theorem dX5_hasQuarrel_36 : decode cX5_hasQuarrel 36 = .ok (.getfield 15, 3) := by decide +kernel
theorem dX5_hasQuarrel_39 : decode cX5_hasQuarrel 39 = .ok (.aload_n 1, 1) := by decide +kernel
theorem dX5_hasQuarrel_40 : decode cX5_hasQuarrel 40 = .ok (.getfield 15, 3) := by decide +kernel
theorem dX5_hasQuarrel_43 : decode cX5_hasQuarrel 43 = .ok (.if_icmp .lt 14, 3) := by decide +kernel
theorem dX5_hasQuarrel_46 : decode cX5_hasQuarrel 46 = .ok (.aload_n 0, 1) := by decide +kernel
theorem dX5_hasQuarrel_47 : decode cX5_hasQuarrel 47 = .ok (.getfield 19, 3) := by decide +kernel
theorem dX5_hasQuarrel_50 : decode cX5_hasQuarrel 50 = .ok (.aload_n 1, 1) := by decide +kernel
theorem dX5_hasQuarrel_51 : decode cX5_hasQuarrel 51 = .ok (.getfield 19, 3) := by decide +kernel
theorem dX5_hasQuarrel_54 : decode cX5_hasQuarrel 54 = .ok (.if_icmp .le 7, 3) := by decide +kernel
theorem dX5_hasQuarrel_57 : decode cX5_hasQuarrel 57 = .ok (.iconst 1, 1) := by decide +kernel
theorem dX5_hasQuarrel_58 : decode cX5_hasQuarrel 58 = .ok (.goto 4, 3) := by decide +kernel
theorem dX5_hasQuarrel_61 : decode cX5_hasQuarrel 61 = .ok (.iconst 0, 1) := by decide +kernel
theorem dX5_hasQuarrel_62 : decode cX5_hasQuarrel 62 = .ok (.ireturn, 1) := by decide +kernel
theorem dX5_isSeen_0 : decode cX5_isSeen 0 = .ok (.aload_n 0, 1) := by decide +kernel
theorem dX5_isSeen_1 : decode cX5_isSeen 1 = .ok (.astore_n 3, 1) := by decide +kernel
theorem dX5_isSeen_2 : decode cX5_isSeen 2 = .ok (.aload_n 3, 1) := by decide +kernel
theorem dX5_isSeen_3 : decode cX5_isSeen 3 = .ok (.ifnull 20, 3) := by decide +kernel
theorem dX5_isSeen_6 : decode cX5_isSeen 6 = .ok (.aload_n 3, 1) := by decide +kernel
theorem dX5_isSeen_7 : decode cX5_isSeen 7 = .ok (.iload_n 1, 1) := by decide +kernel
theorem dX5_isSeen_8 : decode cX5_isSeen 8 = .ok (.iload_n 2, 1) := by decide +kernel
theorem dX5_isSeen_9 : decode cX5_isSeen 9 = .ok (.invokevirtual 57, 3) := by decide +kernel
theorem dX5_isSeen_12 : decode cX5_isSeen 12 = .ok (.ifCond .ne 11, 3) := by decide +kernel
theorem dX5_isSeen_15 : decode cX5_isSeen 15 = .ok (.aload_n 3, 1) := by decide +kernel
theorem dX5_isSeen_16 : decode cX5_isSeen 16 = .ok (.getfield 40, 3) := by decide +kernel
theorem dX5_isSeen_19 : decode cX5_isSeen 19 = .ok (.astore_n 3, 1) := by decide +kernel
theorem dX5_isSeen_20 : decode cX5_isSeen 20 = .ok (.goto (-18), 3) := by decide +kernel
theorem dX5_isSeen_23 : decode cX5_isSeen 23 = .ok (.aload_n 3, 1) := by decide +kernel
theorem dX5_isSeen_24 : decode cX5_isSeen 24 = .ok (.ifnonnull 7, 3) := by decide +kernel
theorem dX5_isSeen_27 : decode cX5_isSeen 27 = .ok (.iconst 1, 1) := by decide +kernel
theorem dX5_isSeen_28 : decode cX5_isSeen 28 = .ok (.goto 4, 3) := by decide +kernel
theorem dX5_isSeen_31 : decode cX5_isSeen 31 = .ok (.iconst 0, 1) := by decide +kernel
theorem dX5_isSeen_32 : decode cX5_isSeen 32 = .ok (.ireturn, 1) := by decide +kernel
theorem dX5_isClosedTo_0 : decode cX5_isClosedTo 0 = .ok (.iload_n 2, 1) := by decide +kernel
theorem dX5_isClosedTo_1 : decode cX5_isClosedTo 1 = .ok (.aload_n 0, 1) := by decide +kernel
theorem dX5_isClosedTo_2 : decode cX5_isClosedTo 2 = .ok (.getfield 25, 3) := by decide +kernel
theorem dX5_isClosedTo_5 : decode cX5_isClosedTo 5 = .ok (.if_icmp .ge 18, 3) := by decide +kernel
theorem dX5_isClosedTo_8 : decode cX5_isClosedTo 8 = .ok (.aload_n 0, 1) := by decide +kernel
theorem dX5_isClosedTo_9 : decode cX5_isClosedTo 9 = .ok (.getfield 28, 3) := by decide +kernel
theorem dX5_isClosedTo_12 : decode cX5_isClosedTo 12 = .ok (.iload_n 1, 1) := by decide +kernel
theorem dX5_isClosedTo_13 : decode cX5_isClosedTo 13 = .ok (.ishr, 1) := by decide +kernel
theorem dX5_isClosedTo_14 : decode cX5_isClosedTo 14 = .ok (.iconst 1, 1) := by decide +kernel
theorem dX5_isClosedTo_15 : decode cX5_isClosedTo 15 = .ok (.iand, 1) := by decide +kernel
theorem dX5_isClosedTo_16 : decode cX5_isClosedTo 16 = .ok (.ifCond .ne 7, 3) := by decide +kernel
theorem dX5_isClosedTo_19 : decode cX5_isClosedTo 19 = .ok (.iconst 1, 1) := by decide +kernel
theorem dX5_isClosedTo_20 : decode cX5_isClosedTo 20 = .ok (.goto 4, 3) := by decide +kernel
theorem dX5_isClosedTo_23 : decode cX5_isClosedTo 23 = .ok (.iconst 0, 1) := by decide +kernel
theorem dX5_isClosedTo_24 : decode cX5_isClosedTo 24 = .ok (.ireturn, 1) := by decide +kernel
theorem dX6_init_0 : decode cX6_init 0 = .ok (.aload_n 0, 1) := by decide +kernel
theorem dX6_init_1 : decode cX6_init 1 = .ok (.invokespecial 3, 3) := by decide +kernel
theorem dX6_init_4 : decode cX6_init 4 = .ok (.aload_n 0, 1) := by decide +kernel
theorem dX6_init_5 : decode cX6_init 5 = .ok (.bipush 40, 2) := by decide +kernel
theorem dX6_init_7 : decode cX6_init 7 = .ok (.newarray .long, 2) := by decide +kernel
theorem dX6_init_9 : decode cX6_init 9 = .ok (.putfield 9, 3) := by decide +kernel
theorem dX6_init_12 : decode cX6_init 12 = .ok (.aload_n 0, 1) := by decide +kernel
theorem dX6_init_13 : decode cX6_init 13 = .ok (.iconst (-1), 1) := by decide +kernel
theorem dX6_init_14 : decode cX6_init 14 = .ok (.putfield 15, 3) := by decide +kernel
theorem dX6_init_17 : decode cX6_init 17 = .ok (.aload_n 0, 1) := by decide +kernel
theorem dX6_init_18 : decode cX6_init 18 = .ok (.iconst 0, 1) := by decide +kernel
theorem dX6_init_19 : decode cX6_init 19 = .ok (.putfield 19, 3) := by decide +kernel
theorem dX6_init_22 : decode cX6_init 22 = .ok (.return_, 1) := by decide +kernel
theorem dX6_isMissing_0 : decode cX6_isMissing 0 = .ok (.aload_n 0, 1) := by decide +kernel
theorem dX6_isMissing_1 : decode cX6_isMissing 1 = .ok (.getfield 15, 3) := by decide +kernel
theorem dX6_isMissing_4 : decode cX6_isMissing 4 = .ok (.iconst (-1), 1) := by decide +kernel
theorem dX6_isMissing_5 : decode cX6_isMissing 5 = .ok (.if_icmp .ne 7, 3) := by decide +kernel
theorem dX6_isMissing_8 : decode cX6_isMissing 8 = .ok (.iconst 1, 1) := by decide +kernel
theorem dX6_isMissing_9 : decode cX6_isMissing 9 = .ok (.goto 4, 3) := by decide +kernel
theorem dX6_isMissing_12 : decode cX6_isMissing 12 = .ok (.iconst 0, 1) := by decide +kernel
theorem dX6_isMissing_13 : decode cX6_isMissing 13 = .ok (.ireturn, 1) := by decide +kernel
theorem dX6_renew_0 : decode cX6_renew 0 = .ok (.aload_n 0, 1) := by decide +kernel
theorem dX6_renew_1 : decode cX6_renew 1 = .ok (.iload_n 1, 1) := by decide +kernel
theorem dX6_renew_2 : decode cX6_renew 2 = .ok (.putfield 15, 3) := by decide +kernel
theorem dX6_renew_5 : decode cX6_renew 5 = .ok (.aload_n 0, 1) := by decide +kernel
theorem dX6_renew_6 : decode cX6_renew 6 = .ok (.iload_n 2, 1) := by decide +kernel
theorem dX6_renew_7 : decode cX6_renew 7 = .ok (.putfield 19, 3) := by decide +kernel
theorem dX6_renew_10 : decode cX6_renew 10 = .ok (.aload_n 0, 1) := by decide +kernel
theorem dX6_renew_11 : decode cX6_renew 11 = .ok (.getfield 9, 3) := by decide +kernel
theorem dX6_renew_14 : decode cX6_renew 14 = .ok (.lconst 0, 1) := by decide +kernel
theorem dX6_renew_15 : decode cX6_renew 15 = .ok (.invokestatic 22, 3) := by decide +kernel
theorem dX6_renew_18 : decode cX6_renew 18 = .ok (.return_, 1) := by decide +kernel
theorem dX6_hasPlace_0 : decode cX6_hasPlace 0 = .ok (.iload_n 1, 1) := by decide +kernel
theorem dX6_hasPlace_1 : decode cX6_hasPlace 1 = .ok (.ifCond .lt 15, 3) := by decide +kernel
theorem dX6_hasPlace_4 : decode cX6_hasPlace 4 = .ok (.iload_n 1, 1) := by decide +kernel
theorem dX6_hasPlace_5 : decode cX6_hasPlace 5 = .ok (.aload_n 0, 1) := by decide +kernel
theorem dX6_hasPlace_6 : decode cX6_hasPlace 6 = .ok (.getfield 19, 3) := by decide +kernel
theorem dX6_hasPlace_9 : decode cX6_hasPlace 9 = .ok (.if_icmp .ge 7, 3) := by decide +kernel
theorem dX6_hasPlace_12 : decode cX6_hasPlace 12 = .ok (.iconst 1, 1) := by decide +kernel
theorem dX6_hasPlace_13 : decode cX6_hasPlace 13 = .ok (.goto 4, 3) := by decide +kernel
theorem dX6_hasPlace_16 : decode cX6_hasPlace 16 = .ok (.iconst 0, 1) := by decide +kernel
theorem dX6_hasPlace_17 : decode cX6_hasPlace 17 = .ok (.ireturn, 1) := by decide +kernel
theorem dX6_hasRun_0 : decode cX6_hasRun 0 = .ok (.iload_n 1, 1) := by decide +kernel
theorem dX6_hasRun_1 : decode cX6_hasRun 1 = .ok (.ifCond .lt 17, 3) := by decide +kernel
theorem dX6_hasRun_4 : decode cX6_hasRun 4 = .ok (.iload_n 1, 1) := by decide +kernel
theorem dX6_hasRun_5 : decode cX6_hasRun 5 = .ok (.aload_n 0, 1) := by decide +kernel
theorem dX6_hasRun_6 : decode cX6_hasRun 6 = .ok (.getfield 19, 3) := by decide +kernel
theorem dX6_hasRun_9 : decode cX6_hasRun 9 = .ok (.iload_n 2, 1) := by decide +kernel
theorem dX6_hasRun_10 : decode cX6_hasRun 10 = .ok (.isub, 1) := by decide +kernel
theorem dX6_hasRun_11 : decode cX6_hasRun 11 = .ok (.if_icmp .gt 7, 3) := by decide +kernel
theorem dX6_hasRun_14 : decode cX6_hasRun 14 = .ok (.iconst 1, 1) := by decide +kernel
theorem dX6_hasRun_15 : decode cX6_hasRun 15 = .ok (.goto 4, 3) := by decide +kernel
theorem dX6_hasRun_18 : decode cX6_hasRun 18 = .ok (.iconst 0, 1) := by decide +kernel
theorem dX6_hasRun_19 : decode cX6_hasRun 19 = .ok (.ireturn, 1) := by decide +kernel
theorem dX6_put_0 : decode cX6_put 0 = .ok (.aload_n 0, 1) := by decide +kernel
theorem dX6_put_1 : decode cX6_put 1 = .ok (.getfield 9, 3) := by decide +kernel
theorem dX6_put_4 : decode cX6_put 4 = .ok (.iload_n 1, 1) := by decide +kernel
theorem dX6_put_5 : decode cX6_put 5 = .ok (.aload_n 0, 1) := by decide +kernel
theorem dX6_put_6 : decode cX6_put 6 = .ok (.lload_n 2, 1) := by decide +kernel
theorem dX6_put_7 : decode cX6_put 7 = .ok (.invokevirtual 28, 3) := by decide +kernel
theorem dX6_put_10 : decode cX6_put 10 = .ok (.lastore, 1) := by decide +kernel
theorem dX6_put_11 : decode cX6_put 11 = .ok (.return_, 1) := by decide +kernel
theorem dX6_cut_0 : decode cX6_cut 0 = .ok (.aload_n 0, 1) := by decide +kernel
theorem dX6_cut_1 : decode cX6_cut 1 = .ok (.getfield 15, 3) := by decide +kernel
theorem dX6_cut_4 : decode cX6_cut 4 = .ok (.tableswitch 42 0 2 #[28, 33, 38], 28) := by decide +kernel
theorem dX6_cut_32 : decode cX6_cut 32 = .ok (.lload_n 1, 1) := by decide +kernel
theorem dX6_cut_33 : decode cX6_cut 33 = .ok (.l2i, 1) := by decide +kernel
theorem dX6_cut_34 : decode cX6_cut 34 = .ok (.i2b, 1) := by decide +kernel
theorem dX6_cut_35 : decode cX6_cut 35 = .ok (.i2l, 1) := by decide +kernel
theorem dX6_cut_36 : decode cX6_cut 36 = .ok (.lreturn, 1) := by decide +kernel
theorem dX6_cut_37 : decode cX6_cut 37 = .ok (.lload_n 1, 1) := by decide +kernel
theorem dX6_cut_38 : decode cX6_cut 38 = .ok (.l2i, 1) := by decide +kernel
theorem dX6_cut_39 : decode cX6_cut 39 = .ok (.i2s, 1) := by decide +kernel
theorem dX6_cut_40 : decode cX6_cut 40 = .ok (.i2l, 1) := by decide +kernel
theorem dX6_cut_41 : decode cX6_cut 41 = .ok (.lreturn, 1) := by decide +kernel
theorem dX6_cut_42 : decode cX6_cut 42 = .ok (.lload_n 1, 1) := by decide +kernel
theorem dX6_cut_43 : decode cX6_cut 43 = .ok (.l2i, 1) := by decide +kernel
theorem dX6_cut_44 : decode cX6_cut 44 = .ok (.i2l, 1) := by decide +kernel
theorem dX6_cut_45 : decode cX6_cut 45 = .ok (.lreturn, 1) := by decide +kernel
theorem dX6_cut_46 : decode cX6_cut 46 = .ok (.lload_n 1, 1) := by decide +kernel
theorem dX6_cut_47 : decode cX6_cut 47 = .ok (.lreturn, 1) := by decide +kernel
theorem dJ9_max_7cf53_0 : decode cJ9_max_7cf53 0 = .ok (.iload_n 0, 1) := by decide +kernel
theorem dJ9_max_7cf53_1 : decode cJ9_max_7cf53 1 = .ok (.iload_n 1, 1) := by decide +kernel
theorem dJ9_max_7cf53_2 : decode cJ9_max_7cf53 2 = .ok (.if_icmp .lt 7, 3) := by decide +kernel
theorem dJ9_max_7cf53_5 : decode cJ9_max_7cf53 5 = .ok (.iload_n 0, 1) := by decide +kernel
theorem dJ9_max_7cf53_6 : decode cJ9_max_7cf53 6 = .ok (.goto 4, 3) := by decide +kernel
theorem dJ9_max_7cf53_9 : decode cJ9_max_7cf53 9 = .ok (.iload_n 1, 1) := by decide +kernel
theorem dJ9_max_7cf53_10 : decode cJ9_max_7cf53 10 = .ok (.ireturn, 1) := by decide +kernel
theorem dJ9_min_7cf53_0 : decode cJ9_min_7cf53 0 = .ok (.iload_n 0, 1) := by decide +kernel
theorem dJ9_min_7cf53_1 : decode cJ9_min_7cf53 1 = .ok (.iload_n 1, 1) := by decide +kernel
theorem dJ9_min_7cf53_2 : decode cJ9_min_7cf53 2 = .ok (.if_icmp .gt 7, 3) := by decide +kernel
theorem dJ9_min_7cf53_5 : decode cJ9_min_7cf53 5 = .ok (.iload_n 0, 1) := by decide +kernel
theorem dJ9_min_7cf53_6 : decode cJ9_min_7cf53 6 = .ok (.goto 4, 3) := by decide +kernel
theorem dJ9_min_7cf53_9 : decode cJ9_min_7cf53 9 = .ok (.iload_n 1, 1) := by decide +kernel
theorem dJ9_min_7cf53_10 : decode cJ9_min_7cf53 10 = .ok (.ireturn, 1) := by decide +kernel
theorem dJ7_fill_d0a16_0 : decode cJ7_fill_d0a16 0 = .ok (.iconst 0, 1) := by decide +kernel
theorem dJ7_fill_d0a16_1 : decode cJ7_fill_d0a16 1 = .ok (.istore_n 3, 1) := by decide +kernel
theorem dJ7_fill_d0a16_2 : decode cJ7_fill_d0a16 2 = .ok (.aload_n 0, 1) := by decide +kernel
theorem dJ7_fill_d0a16_3 : decode cJ7_fill_d0a16 3 = .ok (.arraylength, 1) := by decide +kernel
theorem dJ7_fill_d0a16_4 : decode cJ7_fill_d0a16 4 = .ok (.istore 4, 2) := by decide +kernel
theorem dJ7_fill_d0a16_6 : decode cJ7_fill_d0a16 6 = .ok (.iload_n 3, 1) := by decide +kernel
theorem dJ7_fill_d0a16_7 : decode cJ7_fill_d0a16 7 = .ok (.iload 4, 2) := by decide +kernel
theorem dJ7_fill_d0a16_9 : decode cJ7_fill_d0a16 9 = .ok (.if_icmp .ge 13, 3) := by decide +kernel
theorem dJ7_fill_d0a16_12 : decode cJ7_fill_d0a16 12 = .ok (.aload_n 0, 1) := by decide +kernel
theorem dJ7_fill_d0a16_13 : decode cJ7_fill_d0a16 13 = .ok (.iload_n 3, 1) := by decide +kernel
theorem dJ7_fill_d0a16_14 : decode cJ7_fill_d0a16 14 = .ok (.lload_n 1, 1) := by decide +kernel
theorem dJ7_fill_d0a16_15 : decode cJ7_fill_d0a16 15 = .ok (.lastore, 1) := by decide +kernel
theorem dJ7_fill_d0a16_16 : decode cJ7_fill_d0a16 16 = .ok (.iinc 3 1, 3) := by decide +kernel
theorem dJ7_fill_d0a16_19 : decode cJ7_fill_d0a16 19 = .ok (.goto (-13), 3) := by decide +kernel
theorem dJ7_fill_d0a16_22 : decode cJ7_fill_d0a16 22 = .ok (.return_, 1) := by decide +kernel
theorem dJ7_fill_53178_0 : decode cJ7_fill_53178 0 = .ok (.iconst 0, 1) := by decide +kernel
theorem dJ7_fill_53178_1 : decode cJ7_fill_53178 1 = .ok (.istore_n 2, 1) := by decide +kernel
theorem dJ7_fill_53178_2 : decode cJ7_fill_53178 2 = .ok (.aload_n 0, 1) := by decide +kernel
theorem dJ7_fill_53178_3 : decode cJ7_fill_53178 3 = .ok (.arraylength, 1) := by decide +kernel
theorem dJ7_fill_53178_4 : decode cJ7_fill_53178 4 = .ok (.istore_n 3, 1) := by decide +kernel
theorem dJ7_fill_53178_5 : decode cJ7_fill_53178 5 = .ok (.iload_n 2, 1) := by decide +kernel
theorem dJ7_fill_53178_6 : decode cJ7_fill_53178 6 = .ok (.iload_n 3, 1) := by decide +kernel
theorem dJ7_fill_53178_7 : decode cJ7_fill_53178 7 = .ok (.if_icmp .ge 13, 3) := by decide +kernel
theorem dJ7_fill_53178_10 : decode cJ7_fill_53178 10 = .ok (.aload_n 0, 1) := by decide +kernel
theorem dJ7_fill_53178_11 : decode cJ7_fill_53178 11 = .ok (.iload_n 2, 1) := by decide +kernel
theorem dJ7_fill_53178_12 : decode cJ7_fill_53178 12 = .ok (.iload_n 1, 1) := by decide +kernel
theorem dJ7_fill_53178_13 : decode cJ7_fill_53178 13 = .ok (.iastore, 1) := by decide +kernel
theorem dJ7_fill_53178_14 : decode cJ7_fill_53178 14 = .ok (.iinc 2 1, 3) := by decide +kernel
theorem dJ7_fill_53178_17 : decode cJ7_fill_53178 17 = .ok (.goto (-12), 3) := by decide +kernel
theorem dJ7_fill_53178_20 : decode cJ7_fill_53178 20 = .ok (.return_, 1) := by decide +kernel
