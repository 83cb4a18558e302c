theorem dX7_init_0 : decode cX7_init 0 = .ok (.aload_n 0, 1) := by decide +kernel
theorem dX7_init_1 : decode cX7_init 1 = .ok (.invokespecial 3, 3) := by decide +kernel
theorem dX7_init_4 : decode cX7_init 4 = .ok (.aload_n 0, 1) := by decide +kernel
theorem dX7_init_5 : decode cX7_init 5 = .ok (.iconst 4, 1) := by decide +kernel
theorem dX7_init_6 : decode cX7_init 6 = .ok (.anewarray 9, 3) := by decide +kernel
theorem dX7_init_9 : decode cX7_init 9 = .ok (.putfield 11, 3) := by decide +kernel
theorem dX7_init_12 : decode cX7_init 12 = .ok (.aload_n 0, 1) := by decide +kernel
theorem dX7_init_13 : decode cX7_init 13 = .ok (.new 15, 3) := by decide +kernel
theorem dX7_init_16 : decode cX7_init 16 = .ok (.dup, 1) := by decide +kernel
theorem dX7_init_17 : decode cX7_init 17 = .ok (.invokespecial 17, 3) := by decide +kernel
theorem dX7_init_20 : decode cX7_init 20 = .ok (.putfield 18, 3) := by decide +kernel
theorem dX7_init_23 : decode cX7_init 23 = .ok (.aload_n 0, 1) := by decide +kernel
theorem dX7_init_24 : decode cX7_init 24 = .ok (.new 22, 3) := by decide +kernel
theorem dX7_init_27 : decode cX7_init 27 = .ok (.dup, 1) := by decide +kernel
theorem dX7_init_28 : decode cX7_init 28 = .ok (.invokespecial 24, 3) := by decide +kernel
theorem dX7_init_31 : decode cX7_init 31 = .ok (.putfield 25, 3) := by decide +kernel
theorem dX7_init_34 : decode cX7_init 34 = .ok (.aload_n 0, 1) := by decide +kernel
theorem dX7_init_35 : decode cX7_init 35 = .ok (.new 29, 3) := by decide +kernel
theorem dX7_init_38 : decode cX7_init 38 = .ok (.dup, 1) := by decide +kernel
theorem dX7_init_39 : decode cX7_init 39 = .ok (.invokespecial 31, 3) := by decide +kernel
theorem dX7_init_42 : decode cX7_init 42 = .ok (.putfield 32, 3) := by decide +kernel
theorem dX7_init_45 : decode cX7_init 45 = .ok (.aload_n 0, 1) := by decide +kernel
theorem dX7_init_46 : decode cX7_init 46 = .ok (.new 36, 3) := by decide +kernel
theorem dX7_init_49 : decode cX7_init 49 = .ok (.dup, 1) := by decide +kernel
theorem dX7_init_50 : decode cX7_init 50 = .ok (.invokespecial 38, 3) := by decide +kernel
theorem dX7_init_53 : decode cX7_init 53 = .ok (.putfield 39, 3) := by decide +kernel
theorem dX7_init_56 : decode cX7_init 56 = .ok (.aload_n 0, 1) := by decide +kernel
theorem dX7_init_57 : decode cX7_init 57 = .ok (.iconst 0, 1) := by decide +kernel
theorem dX7_init_58 : decode cX7_init 58 = .ok (.putfield 43, 3) := by decide +kernel
theorem dX7_init_61 : decode cX7_init 61 = .ok (.aload_n 0, 1) := by decide +kernel
theorem dX7_init_62 : decode cX7_init 62 = .ok (.lconst 0, 1) := by decide +kernel
theorem dX7_init_63 : decode cX7_init 63 = .ok (.putfield 47, 3) := by decide +kernel
theorem dX7_init_66 : decode cX7_init 66 = .ok (.aload_n 0, 1) := by decide +kernel
theorem dX7_init_67 : decode cX7_init 67 = .ok (.lconst 1, 1) := by decide +kernel
theorem dX7_init_68 : decode cX7_init 68 = .ok (.putfield 51, 3) := by decide +kernel
theorem dX7_init_71 : decode cX7_init 71 = .ok (.iconst 0, 1) := by decide +kernel
theorem dX7_init_72 : decode cX7_init 72 = .ok (.istore_n 1, 1) := by decide +kernel
theorem dX7_init_73 : decode cX7_init 73 = .ok (.iload_n 1, 1) := by decide +kernel
theorem dX7_init_74 : decode cX7_init 74 = .ok (.iconst 4, 1) := by decide +kernel
theorem dX7_init_75 : decode cX7_init 75 = .ok (.if_icmp .ge 22, 3) := by decide +kernel
theorem dX7_init_78 : decode cX7_init 78 = .ok (.aload_n 0, 1) := by decide +kernel
theorem dX7_init_79 : decode cX7_init 79 = .ok (.getfield 11, 3) := by decide +kernel
theorem dX7_init_82 : decode cX7_init 82 = .ok (.iload_n 1, 1) := by decide +kernel
theorem dX7_init_83 : decode cX7_init 83 = .ok (.new 9, 3) := by decide +kernel
theorem dX7_init_86 : decode cX7_init 86 = .ok (.dup, 1) := by decide +kernel
theorem dX7_init_87 : decode cX7_init 87 = .ok (.invokespecial 54, 3) := by decide +kernel
theorem dX7_init_90 : decode cX7_init 90 = .ok (.aastore, 1) := by decide +kernel
theorem dX7_init_91 : decode cX7_init 91 = .ok (.iinc 1 1, 3) := by decide +kernel
theorem dX7_init_94 : decode cX7_init 94 = .ok (.goto (-21), 3) := by decide +kernel
theorem dX7_init_97 : decode cX7_init 97 = .ok (.return_, 1) := by decide +kernel
theorem dX7_status_0 : decode cX7_status 0 = .ok (.aload_n 0, 1) := by decide +kernel
theorem dX7_status_1 : decode cX7_status 1 = .ok (.getfield 43, 3) := by decide +kernel
theorem dX7_status_4 : decode cX7_status 4 = .ok (.ireturn, 1) := by decide +kernel
theorem dX7_tray_0 : decode cX7_tray 0 = .ok (.aload_n 0, 1) := by decide +kernel
theorem dX7_tray_1 : decode cX7_tray 1 = .ok (.iload_n 1, 1) := by decide +kernel
theorem dX7_tray_2 : decode cX7_tray 2 = .ok (.invokevirtual 55, 3) := by decide +kernel
theorem dX7_tray_5 : decode cX7_tray 5 = .ok (.astore 4, 2) := by decide +kernel
theorem dX7_tray_7 : decode cX7_tray 7 = .ok (.aload 4, 2) := by decide +kernel
theorem dX7_tray_9 : decode cX7_tray 9 = .ok (.ifnull 12, 3) := by decide +kernel
theorem dX7_tray_12 : decode cX7_tray 12 = .ok (.iload_n 2, 1) := by decide +kernel
theorem dX7_tray_13 : decode cX7_tray 13 = .ok (.iconst 0, 1) := by decide +kernel
theorem dX7_tray_14 : decode cX7_tray 14 = .ok (.iconst 3, 1) := by decide +kernel
theorem dX7_tray_15 : decode cX7_tray 15 = .ok (.invokestatic 59, 3) := by decide +kernel
theorem dX7_tray_18 : decode cX7_tray 18 = .ok (.ifCond .ne 9, 3) := by decide +kernel
theorem dX7_tray_21 : decode cX7_tray 21 = .ok (.aload_n 0, 1) := by decide +kernel
theorem dX7_tray_22 : decode cX7_tray 22 = .ok (.iconst 1, 1) := by decide +kernel
theorem dX7_tray_23 : decode cX7_tray 23 = .ok (.invokevirtual 63, 3) := by decide +kernel
theorem dX7_tray_26 : decode cX7_tray 26 = .ok (.ireturn, 1) := by decide +kernel
theorem dX7_tray_27 : decode cX7_tray 27 = .ok (.iload_n 3, 1) := by decide +kernel
theorem dX7_tray_28 : decode cX7_tray 28 = .ok (.bipush 40, 2) := by decide +kernel
theorem dX7_tray_30 : decode cX7_tray 30 = .ok (.if_icmp .le 9, 3) := by decide +kernel
theorem dX7_tray_33 : decode cX7_tray 33 = .ok (.aload_n 0, 1) := by decide +kernel
theorem dX7_tray_34 : decode cX7_tray 34 = .ok (.iconst 5, 1) := by decide +kernel
theorem dX7_tray_35 : decode cX7_tray 35 = .ok (.invokevirtual 63, 3) := by decide +kernel
theorem dX7_tray_38 : decode cX7_tray 38 = .ok (.ireturn, 1) := by decide +kernel
theorem dX7_tray_39 : decode cX7_tray 39 = .ok (.iload_n 3, 1) := by decide +kernel
theorem dX7_tray_40 : decode cX7_tray 40 = .ok (.ifCond .ge 10, 3) := by decide +kernel
theorem dX7_tray_43 : decode cX7_tray 43 = .ok (.aload_n 0, 1) := by decide +kernel
theorem dX7_tray_44 : decode cX7_tray 44 = .ok (.bipush 6, 2) := by decide +kernel
theorem dX7_tray_46 : decode cX7_tray 46 = .ok (.invokevirtual 63, 3) := by decide +kernel
theorem dX7_tray_49 : decode cX7_tray 49 = .ok (.ireturn, 1) := by decide +kernel
theorem dX7_tray_50 : decode cX7_tray 50 = .ok (.aload 4, 2) := by decide +kernel
theorem dX7_tray_52 : decode cX7_tray 52 = .ok (.iload_n 2, 1) := by decide +kernel
theorem dX7_tray_53 : decode cX7_tray 53 = .ok (.iload_n 3, 1) := by decide +kernel
theorem dX7_tray_54 : decode cX7_tray 54 = .ok (.invokevirtual 67, 3) := by decide +kernel
theorem dX7_tray_57 : decode cX7_tray 57 = .ok (.aload_n 0, 1) := by decide +kernel
theorem dX7_tray_58 : decode cX7_tray 58 = .ok (.invokevirtual 71, 3) := by decide +kernel
theorem dX7_tray_61 : decode cX7_tray 61 = .ok (.ireturn, 1) := by decide +kernel
theorem dX7_write_0 : decode cX7_write 0 = .ok (.aload_n 0, 1) := by decide +kernel
theorem dX7_write_1 : decode cX7_write 1 = .ok (.iload_n 1, 1) := by decide +kernel
theorem dX7_write_2 : decode cX7_write 2 = .ok (.invokevirtual 55, 3) := by decide +kernel
theorem dX7_write_5 : decode cX7_write 5 = .ok (.astore 5, 2) := by decide +kernel
theorem dX7_write_7 : decode cX7_write 7 = .ok (.aload 5, 2) := by decide +kernel
theorem dX7_write_9 : decode cX7_write 9 = .ok (.iload_n 2, 1) := by decide +kernel
theorem dX7_write_10 : decode cX7_write 10 = .ok (.invokestatic 75, 3) := by decide +kernel
theorem dX7_write_13 : decode cX7_write 13 = .ok (.istore 6, 2) := by decide +kernel
theorem dX7_write_15 : decode cX7_write 15 = .ok (.aload 5, 2) := by decide +kernel
theorem dX7_write_17 : decode cX7_write 17 = .ok (.ifnull 8, 3) := by decide +kernel
theorem dX7_write_20 : decode cX7_write 20 = .ok (.iload 6, 2) := by decide +kernel
theorem dX7_write_22 : decode cX7_write 22 = .ok (.ifCond .eq 10, 3) := by decide +kernel
theorem dX7_write_25 : decode cX7_write 25 = .ok (.aload_n 0, 1) := by decide +kernel
theorem dX7_write_26 : decode cX7_write 26 = .ok (.iload 6, 2) := by decide +kernel
theorem dX7_write_28 : decode cX7_write 28 = .ok (.invokevirtual 63, 3) := by decide +kernel
theorem dX7_write_31 : decode cX7_write 31 = .ok (.ireturn, 1) := by decide +kernel
theorem dX7_write_32 : decode cX7_write 32 = .ok (.aload 5, 2) := by decide +kernel
theorem dX7_write_34 : decode cX7_write 34 = .ok (.iload_n 2, 1) := by decide +kernel
theorem dX7_write_35 : decode cX7_write 35 = .ok (.lload_n 3, 1) := by decide +kernel
theorem dX7_write_36 : decode cX7_write 36 = .ok (.invokevirtual 79, 3) := by decide +kernel
theorem dX7_write_39 : decode cX7_write 39 = .ok (.aload_n 0, 1) := by decide +kernel
theorem dX7_write_40 : decode cX7_write 40 = .ok (.invokevirtual 71, 3) := by decide +kernel
theorem dX7_write_43 : decode cX7_write 43 = .ok (.ireturn, 1) := by decide +kernel
theorem dX7_read_0 : decode cX7_read 0 = .ok (.aload_n 0, 1) := by decide +kernel
theorem dX7_read_1 : decode cX7_read 1 = .ok (.iload_n 1, 1) := by decide +kernel
theorem dX7_read_2 : decode cX7_read 2 = .ok (.invokevirtual 55, 3) := by decide +kernel
theorem dX7_read_5 : decode cX7_read 5 = .ok (.astore_n 3, 1) := by decide +kernel
theorem dX7_read_6 : decode cX7_read 6 = .ok (.aload_n 3, 1) := by decide +kernel
theorem dX7_read_7 : decode cX7_read 7 = .ok (.iload_n 2, 1) := by decide +kernel
theorem dX7_read_8 : decode cX7_read 8 = .ok (.invokestatic 75, 3) := by decide +kernel
theorem dX7_read_11 : decode cX7_read 11 = .ok (.istore 4, 2) := by decide +kernel
theorem dX7_read_13 : decode cX7_read 13 = .ok (.aload_n 3, 1) := by decide +kernel
theorem dX7_read_14 : decode cX7_read 14 = .ok (.ifnull 8, 3) := by decide +kernel
theorem dX7_read_17 : decode cX7_read 17 = .ok (.iload 4, 2) := by decide +kernel
theorem dX7_read_19 : decode cX7_read 19 = .ok (.ifCond .eq 11, 3) := by decide +kernel
theorem dX7_read_22 : decode cX7_read 22 = .ok (.aload_n 0, 1) := by decide +kernel
theorem dX7_read_23 : decode cX7_read 23 = .ok (.iload 4, 2) := by decide +kernel
theorem dX7_read_25 : decode cX7_read 25 = .ok (.invokevirtual 83, 3) := by decide +kernel
theorem dX7_read_28 : decode cX7_read 28 = .ok (.i2l, 1) := by decide +kernel
theorem dX7_read_29 : decode cX7_read 29 = .ok (.lreturn, 1) := by decide +kernel
theorem dX7_read_30 : decode cX7_read 30 = .ok (.aload_n 0, 1) := by decide +kernel
theorem dX7_read_31 : decode cX7_read 31 = .ok (.iconst 0, 1) := by decide +kernel
theorem dX7_read_32 : decode cX7_read 32 = .ok (.putfield 43, 3) := by decide +kernel
theorem dX7_read_35 : decode cX7_read 35 = .ok (.aload_n 3, 1) := by decide +kernel
theorem dX7_read_36 : decode cX7_read 36 = .ok (.getfield 87, 3) := by decide +kernel
theorem dX7_read_39 : decode cX7_read 39 = .ok (.iload_n 2, 1) := by decide +kernel
theorem dX7_read_40 : decode cX7_read 40 = .ok (.laload, 1) := by decide +kernel
theorem dX7_read_41 : decode cX7_read 41 = .ok (.lreturn, 1) := by decide +kernel
theorem dX7_pour_0 : decode cX7_pour 0 = .ok (.aload_n 0, 1) := by decide +kernel
theorem dX7_pour_1 : decode cX7_pour 1 = .ok (.iload_n 1, 1) := by decide +kernel
theorem dX7_pour_2 : decode cX7_pour 2 = .ok (.invokevirtual 55, 3) := by decide +kernel
theorem dX7_pour_5 : decode cX7_pour 5 = .ok (.astore 6, 2) := by decide +kernel
theorem dX7_pour_7 : decode cX7_pour 7 = .ok (.aload_n 0, 1) := by decide +kernel
theorem dX7_pour_8 : decode cX7_pour 8 = .ok (.iload_n 3, 1) := by decide +kernel
theorem dX7_pour_9 : decode cX7_pour 9 = .ok (.invokevirtual 55, 3) := by decide +kernel
theorem dX7_pour_12 : decode cX7_pour 12 = .ok (.astore 7, 2) := by decide +kernel
theorem dX7_pour_14 : decode cX7_pour 14 = .ok (.aload 6, 2) := by decide +kernel
theorem dX7_pour_16 : decode cX7_pour 16 = .ok (.ifnull 8, 3) := by decide +kernel
theorem dX7_pour_19 : decode cX7_pour 19 = .ok (.aload 7, 2) := by decide +kernel
theorem dX7_pour_21 : decode cX7_pour 21 = .ok (.ifnonnull 9, 3) := by decide +kernel
theorem dX7_pour_24 : decode cX7_pour 24 = .ok (.aload_n 0, 1) := by decide +kernel
theorem dX7_pour_25 : decode cX7_pour 25 = .ok (.iconst 1, 1) := by decide +kernel
theorem dX7_pour_26 : decode cX7_pour 26 = .ok (.invokevirtual 63, 3) := by decide +kernel
theorem dX7_pour_29 : decode cX7_pour 29 = .ok (.ireturn, 1) := by decide +kernel
theorem dX7_pour_30 : decode cX7_pour 30 = .ok (.aload 6, 2) := by decide +kernel
theorem dX7_pour_32 : decode cX7_pour 32 = .ok (.invokevirtual 91, 3) := by decide +kernel
theorem dX7_pour_35 : decode cX7_pour 35 = .ok (.ifCond .ne 11, 3) := by decide +kernel
theorem dX7_pour_38 : decode cX7_pour 38 = .ok (.aload 7, 2) := by decide +kernel
theorem dX7_pour_40 : decode cX7_pour 40 = .ok (.invokevirtual 91, 3) := by decide +kernel
theorem dX7_pour_43 : decode cX7_pour 43 = .ok (.ifCond .eq 9, 3) := by decide +kernel
theorem dX7_pour_46 : decode cX7_pour 46 = .ok (.aload_n 0, 1) := by decide +kernel
theorem dX7_pour_47 : decode cX7_pour 47 = .ok (.iconst 3, 1) := by decide +kernel
theorem dX7_pour_48 : decode cX7_pour 48 = .ok (.invokevirtual 63, 3) := by decide +kernel
theorem dX7_pour_51 : decode cX7_pour 51 = .ok (.ireturn, 1) := by decide +kernel
theorem dX7_pour_52 : decode cX7_pour 52 = .ok (.aload 6, 2) := by decide +kernel
theorem dX7_pour_54 : decode cX7_pour 54 = .ok (.getfield 94, 3) := by decide +kernel
theorem dX7_pour_57 : decode cX7_pour 57 = .ok (.aload 7, 2) := by decide +kernel
theorem dX7_pour_59 : decode cX7_pour 59 = .ok (.getfield 94, 3) := by decide +kernel
theorem dX7_pour_62 : decode cX7_pour 62 = .ok (.if_icmp .eq 10, 3) := by decide +kernel
theorem dX7_pour_65 : decode cX7_pour 65 = .ok (.aload_n 0, 1) := by decide +kernel
theorem dX7_pour_66 : decode cX7_pour 66 = .ok (.bipush 11, 2) := by decide +kernel
theorem dX7_pour_68 : decode cX7_pour 68 = .ok (.invokevirtual 63, 3) := by decide +kernel
theorem dX7_pour_71 : decode cX7_pour 71 = .ok (.ireturn, 1) := by decide +kernel
theorem dX7_pour_72 : decode cX7_pour 72 = .ok (.iload 5, 2) := by decide +kernel
theorem dX7_pour_74 : decode cX7_pour 74 = .ok (.ifCond .ge 10, 3) := by decide +kernel
theorem dX7_pour_77 : decode cX7_pour 77 = .ok (.aload_n 0, 1) := by decide +kernel
theorem dX7_pour_78 : decode cX7_pour 78 = .ok (.bipush 6, 2) := by decide +kernel
theorem dX7_pour_80 : decode cX7_pour 80 = .ok (.invokevirtual 63, 3) := by decide +kernel
theorem dX7_pour_83 : decode cX7_pour 83 = .ok (.ireturn, 1) := by decide +kernel
theorem dX7_pour_84 : decode cX7_pour 84 = .ok (.aload 6, 2) := by decide +kernel
theorem dX7_pour_86 : decode cX7_pour 86 = .ok (.iload_n 2, 1) := by decide +kernel
theorem dX7_pour_87 : decode cX7_pour 87 = .ok (.iload 5, 2) := by decide +kernel
theorem dX7_pour_89 : decode cX7_pour 89 = .ok (.invokevirtual 97, 3) := by decide +kernel
theorem dX7_pour_92 : decode cX7_pour 92 = .ok (.ifCond .eq 15, 3) := by decide +kernel
theorem dX7_pour_95 : decode cX7_pour 95 = .ok (.aload 7, 2) := by decide +kernel
theorem dX7_pour_97 : decode cX7_pour 97 = .ok (.iload 4, 2) := by decide +kernel
theorem dX7_pour_99 : decode cX7_pour 99 = .ok (.iload 5, 2) := by decide +kernel
theorem dX7_pour_101 : decode cX7_pour 101 = .ok (.invokevirtual 97, 3) := by decide +kernel
theorem dX7_pour_104 : decode cX7_pour 104 = .ok (.ifCond .ne 9, 3) := by decide +kernel
theorem dX7_pour_107 : decode cX7_pour 107 = .ok (.aload_n 0, 1) := by decide +kernel
theorem dX7_pour_108 : decode cX7_pour 108 = .ok (.iconst 4, 1) := by decide +kernel
theorem dX7_pour_109 : decode cX7_pour 109 = .ok (.invokevirtual 63, 3) := by decide +kernel
theorem dX7_pour_112 : decode cX7_pour 112 = .ok (.ireturn, 1) := by decide +kernel
theorem dX7_pour_113 : decode cX7_pour 113 = .ok (.aload 6, 2) := by decide +kernel
theorem dX7_pour_115 : decode cX7_pour 115 = .ok (.getfield 87, 3) := by decide +kernel
theorem dX7_pour_118 : decode cX7_pour 118 = .ok (.iload_n 2, 1) := by decide +kernel
theorem dX7_pour_119 : decode cX7_pour 119 = .ok (.aload 7, 2) := by decide +kernel
theorem dX7_pour_121 : decode cX7_pour 121 = .ok (.getfield 87, 3) := by decide +kernel
theorem dX7_pour_124 : decode cX7_pour 124 = .ok (.iload 4, 2) := by decide +kernel
theorem dX7_pour_126 : decode cX7_pour 126 = .ok (.iload 5, 2) := by decide +kernel
theorem dX7_pour_128 : decode cX7_pour 128 = .ok (.invokestatic 101, 3) := by decide +kernel
theorem dX7_pour_131 : decode cX7_pour 131 = .ok (.aload_n 0, 1) := by decide +kernel
theorem dX7_pour_132 : decode cX7_pour 132 = .ok (.invokevirtual 71, 3) := by decide +kernel
theorem dX7_pour_135 : decode cX7_pour 135 = .ok (.ireturn, 1) := by decide +kernel
theorem dX7_thing_0 : decode cX7_thing 0 = .ok (.iload_n 1, 1) := by decide +kernel
theorem dX7_thing_1 : decode cX7_thing 1 = .ok (.iconst 0, 1) := by decide +kernel
theorem dX7_thing_2 : decode cX7_thing 2 = .ok (.iconst 3, 1) := by decide +kernel
theorem dX7_thing_3 : decode cX7_thing 3 = .ok (.invokestatic 59, 3) := by decide +kernel
theorem dX7_thing_6 : decode cX7_thing 6 = .ok (.ifCond .ne 9, 3) := by decide +kernel
theorem dX7_thing_9 : decode cX7_thing 9 = .ok (.aload_n 0, 1) := by decide +kernel
theorem dX7_thing_10 : decode cX7_thing 10 = .ok (.iconst 5, 1) := by decide +kernel
theorem dX7_thing_11 : decode cX7_thing 11 = .ok (.invokevirtual 83, 3) := by decide +kernel
theorem dX7_thing_14 : decode cX7_thing 14 = .ok (.ireturn, 1) := by decide +kernel
theorem dX7_thing_15 : decode cX7_thing 15 = .ok (.aload_n 0, 1) := by decide +kernel
theorem dX7_thing_16 : decode cX7_thing 16 = .ok (.getfield 18, 3) := by decide +kernel
theorem dX7_thing_19 : decode cX7_thing 19 = .ok (.iload_n 2, 1) := by decide +kernel
theorem dX7_thing_20 : decode cX7_thing 20 = .ok (.invokevirtual 107, 3) := by decide +kernel
theorem dX7_thing_23 : decode cX7_thing 23 = .ok (.astore_n 3, 1) := by decide +kernel
theorem dX7_thing_24 : decode cX7_thing 24 = .ok (.iload_n 1, 1) := by decide +kernel
theorem dX7_thing_25 : decode cX7_thing 25 = .ok (.ifCond .ne 11, 3) := by decide +kernel
theorem dX7_thing_28 : decode cX7_thing 28 = .ok (.iload_n 2, 1) := by decide +kernel
theorem dX7_thing_29 : decode cX7_thing 29 = .ok (.iconst (-1), 1) := by decide +kernel
theorem dX7_thing_30 : decode cX7_thing 30 = .ok (.if_icmp .eq 16, 3) := by decide +kernel
theorem dX7_thing_33 : decode cX7_thing 33 = .ok (.goto 7, 3) := by decide +kernel
theorem dX7_thing_36 : decode cX7_thing 36 = .ok (.aload_n 3, 1) := by decide +kernel
theorem dX7_thing_37 : decode cX7_thing 37 = .ok (.ifnonnull 9, 3) := by decide +kernel
theorem dX7_thing_40 : decode cX7_thing 40 = .ok (.aload_n 0, 1) := by decide +kernel
theorem dX7_thing_41 : decode cX7_thing 41 = .ok (.iconst 2, 1) := by decide +kernel
theorem dX7_thing_42 : decode cX7_thing 42 = .ok (.invokevirtual 83, 3) := by decide +kernel
theorem dX7_thing_45 : decode cX7_thing 45 = .ok (.ireturn, 1) := by decide +kernel
theorem dX7_thing_46 : decode cX7_thing 46 = .ok (.aload_n 3, 1) := by decide +kernel
theorem dX7_thing_47 : decode cX7_thing 47 = .ok (.ifnull 21, 3) := by decide +kernel
theorem dX7_thing_50 : decode cX7_thing 50 = .ok (.iload_n 1, 1) := by decide +kernel
theorem dX7_thing_51 : decode cX7_thing 51 = .ok (.aload_n 3, 1) := by decide +kernel
theorem dX7_thing_52 : decode cX7_thing 52 = .ok (.getfield 111, 3) := by decide +kernel
theorem dX7_thing_55 : decode cX7_thing 55 = .ok (.invokestatic 116, 3) := by decide +kernel
theorem dX7_thing_58 : decode cX7_thing 58 = .ok (.ifCond .ne 10, 3) := by decide +kernel
theorem dX7_thing_61 : decode cX7_thing 61 = .ok (.aload_n 0, 1) := by decide +kernel
theorem dX7_thing_62 : decode cX7_thing 62 = .ok (.bipush 8, 2) := by decide +kernel
theorem dX7_thing_64 : decode cX7_thing 64 = .ok (.invokevirtual 83, 3) := by decide +kernel
theorem dX7_thing_67 : decode cX7_thing 67 = .ok (.ireturn, 1) := by decide +kernel
theorem dX7_thing_68 : decode cX7_thing 68 = .ok (.aload_n 0, 1) := by decide +kernel
theorem dX7_thing_69 : decode cX7_thing 69 = .ok (.getfield 18, 3) := by decide +kernel
theorem dX7_thing_72 : decode cX7_thing 72 = .ok (.getfield 119, 3) := by decide +kernel
theorem dX7_thing_75 : decode cX7_thing 75 = .ok (.bipush 80, 2) := by decide +kernel
theorem dX7_thing_77 : decode cX7_thing 77 = .ok (.if_icmp .lt 10, 3) := by decide +kernel
theorem dX7_thing_80 : decode cX7_thing 80 = .ok (.aload_n 0, 1) := by decide +kernel
theorem dX7_thing_81 : decode cX7_thing 81 = .ok (.bipush 7, 2) := by decide +kernel
theorem dX7_thing_83 : decode cX7_thing 83 = .ok (.invokevirtual 83, 3) := by decide +kernel
theorem dX7_thing_86 : decode cX7_thing 86 = .ok (.ireturn, 1) := by decide +kernel
theorem dX7_thing_87 : decode cX7_thing 87 = .ok (.aload_n 0, 1) := by decide +kernel
theorem dX7_thing_88 : decode cX7_thing 88 = .ok (.aload_n 0, 1) := by decide +kernel
theorem dX7_thing_89 : decode cX7_thing 89 = .ok (.getfield 18, 3) := by decide +kernel
theorem dX7_thing_92 : decode cX7_thing 92 = .ok (.iload_n 1, 1) := by decide +kernel
theorem dX7_thing_93 : decode cX7_thing 93 = .ok (.aload_n 3, 1) := by decide +kernel
theorem dX7_thing_94 : decode cX7_thing 94 = .ok (.invokevirtual 122, 3) := by decide +kernel
theorem dX7_thing_97 : decode cX7_thing 97 = .ok (.invokevirtual 126, 3) := by decide +kernel
theorem dX7_thing_100 : decode cX7_thing 100 = .ok (.ireturn, 1) := by decide +kernel
theorem dX7_told_0 : decode cX7_told 0 = .ok (.aload_n 0, 1) := by decide +kernel
theorem dX7_told_1 : decode cX7_told 1 = .ok (.getfield 18, 3) := by decide +kernel
theorem dX7_told_4 : decode cX7_told 4 = .ok (.iload_n 1, 1) := by decide +kernel
theorem dX7_told_5 : decode cX7_told 5 = .ok (.invokevirtual 107, 3) := by decide +kernel
theorem dX7_told_8 : decode cX7_told 8 = .ok (.astore_n 3, 1) := by decide +kernel
theorem dX7_told_9 : decode cX7_told 9 = .ok (.aload_n 3, 1) := by decide +kernel
theorem dX7_told_10 : decode cX7_told 10 = .ok (.ifnonnull 9, 3) := by decide +kernel
theorem dX7_told_13 : decode cX7_told 13 = .ok (.aload_n 0, 1) := by decide +kernel
theorem dX7_told_14 : decode cX7_told 14 = .ok (.iconst 2, 1) := by decide +kernel
theorem dX7_told_15 : decode cX7_told 15 = .ok (.invokevirtual 83, 3) := by decide +kernel
theorem dX7_told_18 : decode cX7_told 18 = .ok (.ireturn, 1) := by decide +kernel
theorem dX7_told_19 : decode cX7_told 19 = .ok (.iload_n 2, 1) := by decide +kernel
theorem dX7_told_20 : decode cX7_told 20 = .ok (.tableswitch 138 0 6 #[44, 53, 76, 89, 98, 115, 129], 44) := by decide +kernel
theorem dX7_told_64 : decode cX7_told 64 = .ok (.aload_n 0, 1) := by decide +kernel
theorem dX7_told_65 : decode cX7_told 65 = .ok (.aload_n 3, 1) := by decide +kernel
theorem dX7_told_66 : decode cX7_told 66 = .ok (.getfield 111, 3) := by decide +kernel
theorem dX7_told_69 : decode cX7_told 69 = .ok (.invokevirtual 126, 3) := by decide +kernel
theorem dX7_told_72 : decode cX7_told 72 = .ok (.ireturn, 1) := by decide +kernel
theorem dX7_told_73 : decode cX7_told 73 = .ok (.aload_n 0, 1) := by decide +kernel
theorem dX7_told_74 : decode cX7_told 74 = .ok (.aload_n 3, 1) := by decide +kernel
theorem dX7_told_75 : decode cX7_told 75 = .ok (.getfield 129, 3) := by decide +kernel
theorem dX7_told_78 : decode cX7_told 78 = .ok (.ifnonnull 7, 3) := by decide +kernel
theorem dX7_told_81 : decode cX7_told 81 = .ok (.iconst (-1), 1) := by decide +kernel
theorem dX7_told_82 : decode cX7_told 82 = .ok (.goto 10, 3) := by decide +kernel
theorem dX7_told_85 : decode cX7_told 85 = .ok (.aload_n 3, 1) := by decide +kernel
theorem dX7_told_86 : decode cX7_told 86 = .ok (.getfield 129, 3) := by decide +kernel
theorem dX7_told_89 : decode cX7_told 89 = .ok (.getfield 133, 3) := by decide +kernel
theorem dX7_told_92 : decode cX7_told 92 = .ok (.invokevirtual 126, 3) := by decide +kernel
theorem dX7_told_95 : decode cX7_told 95 = .ok (.ireturn, 1) := by decide +kernel
theorem dX7_told_96 : decode cX7_told 96 = .ok (.aload_n 0, 1) := by decide +kernel
theorem dX7_told_97 : decode cX7_told 97 = .ok (.aload_n 0, 1) := by decide +kernel
theorem dX7_told_98 : decode cX7_told 98 = .ok (.getfield 18, 3) := by decide +kernel
theorem dX7_told_101 : decode cX7_told 101 = .ok (.aload_n 3, 1) := by decide +kernel
theorem dX7_told_102 : decode cX7_told 102 = .ok (.invokevirtual 136, 3) := by decide +kernel
theorem dX7_told_105 : decode cX7_told 105 = .ok (.invokevirtual 126, 3) := by decide +kernel
theorem dX7_told_108 : decode cX7_told 108 = .ok (.ireturn, 1) := by decide +kernel
theorem dX7_told_109 : decode cX7_told 109 = .ok (.aload_n 0, 1) := by decide +kernel
theorem dX7_told_110 : decode cX7_told 110 = .ok (.aload_n 3, 1) := by decide +kernel
theorem dX7_told_111 : decode cX7_told 111 = .ok (.getfield 140, 3) := by decide +kernel
theorem dX7_told_114 : decode cX7_told 114 = .ok (.invokevirtual 126, 3) := by decide +kernel
theorem dX7_told_117 : decode cX7_told 117 = .ok (.ireturn, 1) := by decide +kernel
theorem dX7_told_118 : decode cX7_told 118 = .ok (.aload_n 0, 1) := by decide +kernel
theorem dX7_told_119 : decode cX7_told 119 = .ok (.aload_n 0, 1) := by decide +kernel
theorem dX7_told_120 : decode cX7_told 120 = .ok (.getfield 32, 3) := by decide +kernel
theorem dX7_told_123 : decode cX7_told 123 = .ok (.getfield 143, 3) := by decide +kernel
theorem dX7_told_126 : decode cX7_told 126 = .ok (.getfield 147, 3) := by decide +kernel
theorem dX7_told_129 : decode cX7_told 129 = .ok (.iload_n 1, 1) := by decide +kernel
theorem dX7_told_130 : decode cX7_told 130 = .ok (.iaload, 1) := by decide +kernel
theorem dX7_told_131 : decode cX7_told 131 = .ok (.invokevirtual 126, 3) := by decide +kernel
theorem dX7_told_134 : decode cX7_told 134 = .ok (.ireturn, 1) := by decide +kernel
theorem dX7_told_135 : decode cX7_told 135 = .ok (.aload_n 0, 1) := by decide +kernel
theorem dX7_told_136 : decode cX7_told 136 = .ok (.aload_n 0, 1) := by decide +kernel
theorem dX7_told_137 : decode cX7_told 137 = .ok (.getfield 32, 3) := by decide +kernel
theorem dX7_told_140 : decode cX7_told 140 = .ok (.getfield 153, 3) := by decide +kernel
theorem dX7_told_143 : decode cX7_told 143 = .ok (.iload_n 1, 1) := by decide +kernel
theorem dX7_told_144 : decode cX7_told 144 = .ok (.iaload, 1) := by decide +kernel
theorem dX7_told_145 : decode cX7_told 145 = .ok (.invokevirtual 126, 3) := by decide +kernel
theorem dX7_told_148 : decode cX7_told 148 = .ok (.ireturn, 1) := by decide +kernel
theorem dX7_told_149 : decode cX7_told 149 = .ok (.aload_n 0, 1) := by decide +kernel
theorem dX7_told_150 : decode cX7_told 150 = .ok (.aload_n 3, 1) := by decide +kernel
theorem dX7_told_151 : decode cX7_told 151 = .ok (.getfield 156, 3) := by decide +kernel
theorem dX7_told_154 : decode cX7_told 154 = .ok (.invokevirtual 126, 3) := by decide +kernel
theorem dX7_told_157 : decode cX7_told 157 = .ok (.ireturn, 1) := by decide +kernel
theorem dX7_told_158 : decode cX7_told 158 = .ok (.aload_n 0, 1) := by decide +kernel
theorem dX7_told_159 : decode cX7_told 159 = .ok (.iconst 5, 1) := by decide +kernel
theorem dX7_told_160 : decode cX7_told 160 = .ok (.invokevirtual 83, 3) := by decide +kernel
theorem dX7_told_163 : decode cX7_told 163 = .ok (.ireturn, 1) := by decide +kernel
theorem dX7_say_0 : decode cX7_say 0 = .ok (.aload_n 0, 1) := by decide +kernel
theorem dX7_say_1 : decode cX7_say 1 = .ok (.getfield 18, 3) := by decide +kernel
theorem dX7_say_4 : decode cX7_say 4 = .ok (.iload_n 1, 1) := by decide +kernel
theorem dX7_say_5 : decode cX7_say 5 = .ok (.invokevirtual 107, 3) := by decide +kernel
theorem dX7_say_8 : decode cX7_say 8 = .ok (.astore 4, 2) := by decide +kernel
theorem dX7_say_10 : decode cX7_say 10 = .ok (.aload 4, 2) := by decide +kernel
theorem dX7_say_12 : decode cX7_say 12 = .ok (.ifnull 10, 3) := by decide +kernel
theorem dX7_say_15 : decode cX7_say 15 = .ok (.iload_n 2, 1) := by decide +kernel
theorem dX7_say_16 : decode cX7_say 16 = .ok (.invokestatic 159, 3) := by decide +kernel
theorem dX7_say_19 : decode cX7_say 19 = .ok (.ifCond .ne 9, 3) := by decide +kernel
theorem dX7_say_22 : decode cX7_say 22 = .ok (.aload_n 0, 1) := by decide +kernel
theorem dX7_say_23 : decode cX7_say 23 = .ok (.iconst 2, 1) := by decide +kernel
theorem dX7_say_24 : decode cX7_say 24 = .ok (.invokevirtual 63, 3) := by decide +kernel
theorem dX7_say_27 : decode cX7_say 27 = .ok (.ireturn, 1) := by decide +kernel
theorem dX7_say_28 : decode cX7_say 28 = .ok (.iload_n 3, 1) := by decide +kernel
theorem dX7_say_29 : decode cX7_say 29 = .ok (.iconst (-1), 1) := by decide +kernel
theorem dX7_say_30 : decode cX7_say 30 = .ok (.sipush 999, 3) := by decide +kernel
theorem dX7_say_33 : decode cX7_say 33 = .ok (.invokestatic 59, 3) := by decide +kernel
theorem dX7_say_36 : decode cX7_say 36 = .ok (.ifCond .ne 9, 3) := by decide +kernel
theorem dX7_say_39 : decode cX7_say 39 = .ok (.aload_n 0, 1) := by decide +kernel
theorem dX7_say_40 : decode cX7_say 40 = .ok (.iconst 5, 1) := by decide +kernel
theorem dX7_say_41 : decode cX7_say 41 = .ok (.invokevirtual 63, 3) := by decide +kernel
theorem dX7_say_44 : decode cX7_say 44 = .ok (.ireturn, 1) := by decide +kernel
theorem dX7_say_45 : decode cX7_say 45 = .ok (.aload 4, 2) := by decide +kernel
theorem dX7_say_47 : decode cX7_say 47 = .ok (.getfield 162, 3) := by decide +kernel
theorem dX7_say_50 : decode cX7_say 50 = .ok (.iload_n 2, 1) := by decide +kernel
theorem dX7_say_51 : decode cX7_say 51 = .ok (.iload_n 3, 1) := by decide +kernel
theorem dX7_say_52 : decode cX7_say 52 = .ok (.iastore, 1) := by decide +kernel
theorem dX7_say_53 : decode cX7_say 53 = .ok (.aload_n 0, 1) := by decide +kernel
theorem dX7_say_54 : decode cX7_say 54 = .ok (.invokevirtual 71, 3) := by decide +kernel
theorem dX7_say_57 : decode cX7_say 57 = .ok (.ireturn, 1) := by decide +kernel
theorem dX7_has_0 : decode cX7_has 0 = .ok (.aload_n 0, 1) := by decide +kernel
theorem dX7_has_1 : decode cX7_has 1 = .ok (.getfield 18, 3) := by decide +kernel
theorem dX7_has_4 : decode cX7_has 4 = .ok (.iload_n 1, 1) := by decide +kernel
theorem dX7_has_5 : decode cX7_has 5 = .ok (.invokevirtual 107, 3) := by decide +kernel
theorem dX7_has_8 : decode cX7_has 8 = .ok (.astore_n 3, 1) := by decide +kernel
theorem dX7_has_9 : decode cX7_has 9 = .ok (.aload_n 3, 1) := by decide +kernel
theorem dX7_has_10 : decode cX7_has 10 = .ok (.ifnull 10, 3) := by decide +kernel
theorem dX7_has_13 : decode cX7_has 13 = .ok (.iload_n 2, 1) := by decide +kernel
theorem dX7_has_14 : decode cX7_has 14 = .ok (.invokestatic 159, 3) := by decide +kernel
theorem dX7_has_17 : decode cX7_has 17 = .ok (.ifCond .ne 9, 3) := by decide +kernel
theorem dX7_has_20 : decode cX7_has 20 = .ok (.aload_n 0, 1) := by decide +kernel
theorem dX7_has_21 : decode cX7_has 21 = .ok (.iconst 2, 1) := by decide +kernel
theorem dX7_has_22 : decode cX7_has 22 = .ok (.invokevirtual 83, 3) := by decide +kernel
theorem dX7_has_25 : decode cX7_has 25 = .ok (.ireturn, 1) := by decide +kernel
theorem dX7_has_26 : decode cX7_has 26 = .ok (.aload_n 3, 1) := by decide +kernel
theorem dX7_has_27 : decode cX7_has 27 = .ok (.iload_n 2, 1) := by decide +kernel
theorem dX7_has_28 : decode cX7_has 28 = .ok (.invokevirtual 165, 3) := by decide +kernel
theorem dX7_has_31 : decode cX7_has 31 = .ok (.istore 4, 2) := by decide +kernel
theorem dX7_has_33 : decode cX7_has 33 = .ok (.iload 4, 2) := by decide +kernel
theorem dX7_has_35 : decode cX7_has 35 = .ok (.iconst (-1), 1) := by decide +kernel
theorem dX7_has_36 : decode cX7_has 36 = .ok (.if_icmp .ne 12, 3) := by decide +kernel
theorem dX7_has_39 : decode cX7_has 39 = .ok (.aload_n 0, 1) := by decide +kernel
theorem dX7_has_40 : decode cX7_has 40 = .ok (.bipush 9, 2) := by decide +kernel
theorem dX7_has_42 : decode cX7_has 42 = .ok (.invokevirtual 83, 3) := by decide +kernel
theorem dX7_has_45 : decode cX7_has 45 = .ok (.goto 9, 3) := by decide +kernel
theorem dX7_has_48 : decode cX7_has 48 = .ok (.aload_n 0, 1) := by decide +kernel
theorem dX7_has_49 : decode cX7_has 49 = .ok (.iload 4, 2) := by decide +kernel
theorem dX7_has_51 : decode cX7_has 51 = .ok (.invokevirtual 126, 3) := by decide +kernel
theorem dX7_has_54 : decode cX7_has 54 = .ok (.ireturn, 1) := by decide +kernel
theorem dX7_span_0 : decode cX7_span 0 = .ok (.aload_n 0, 1) := by decide +kernel
theorem dX7_span_1 : decode cX7_span 1 = .ok (.getfield 18, 3) := by decide +kernel
theorem dX7_span_4 : decode cX7_span 4 = .ok (.iload_n 1, 1) := by decide +kernel
theorem dX7_span_5 : decode cX7_span 5 = .ok (.invokevirtual 107, 3) := by decide +kernel
theorem dX7_span_8 : decode cX7_span 8 = .ok (.astore 4, 2) := by decide +kernel
theorem dX7_span_10 : decode cX7_span 10 = .ok (.aload 4, 2) := by decide +kernel
theorem dX7_span_12 : decode cX7_span 12 = .ok (.ifnonnull 9, 3) := by decide +kernel
theorem dX7_span_15 : decode cX7_span 15 = .ok (.aload_n 0, 1) := by decide +kernel
theorem dX7_span_16 : decode cX7_span 16 = .ok (.iconst 2, 1) := by decide +kernel
theorem dX7_span_17 : decode cX7_span 17 = .ok (.invokevirtual 63, 3) := by decide +kernel
theorem dX7_span_20 : decode cX7_span 20 = .ok (.ireturn, 1) := by decide +kernel
theorem dX7_span_21 : decode cX7_span 21 = .ok (.iload_n 2, 1) := by decide +kernel
theorem dX7_span_22 : decode cX7_span 22 = .ok (.iconst 0, 1) := by decide +kernel
theorem dX7_span_23 : decode cX7_span 23 = .ok (.iload_n 3, 1) := by decide +kernel
theorem dX7_span_24 : decode cX7_span 24 = .ok (.invokestatic 59, 3) := by decide +kernel
theorem dX7_span_27 : decode cX7_span 27 = .ok (.ifCond .eq 9, 3) := by decide +kernel
theorem dX7_span_30 : decode cX7_span 30 = .ok (.iload_n 3, 1) := by decide +kernel
theorem dX7_span_31 : decode cX7_span 31 = .ok (.ldc 168, 2) := by decide +kernel
theorem dX7_span_33 : decode cX7_span 33 = .ok (.if_icmp .le 9, 3) := by decide +kernel
theorem dX7_span_36 : decode cX7_span 36 = .ok (.aload_n 0, 1) := by decide +kernel
theorem dX7_span_37 : decode cX7_span 37 = .ok (.iconst 5, 1) := by decide +kernel
theorem dX7_span_38 : decode cX7_span 38 = .ok (.invokevirtual 63, 3) := by decide +kernel
theorem dX7_span_41 : decode cX7_span 41 = .ok (.ireturn, 1) := by decide +kernel
theorem dX7_span_42 : decode cX7_span 42 = .ok (.aload 4, 2) := by decide +kernel
theorem dX7_span_44 : decode cX7_span 44 = .ok (.iload_n 2, 1) := by decide +kernel
theorem dX7_span_45 : decode cX7_span 45 = .ok (.putfield 169, 3) := by decide +kernel
theorem dX7_span_48 : decode cX7_span 48 = .ok (.aload 4, 2) := by decide +kernel
theorem dX7_span_50 : decode cX7_span 50 = .ok (.iload_n 3, 1) := by decide +kernel
theorem dX7_span_51 : decode cX7_span 51 = .ok (.putfield 172, 3) := by decide +kernel
theorem dX7_span_54 : decode cX7_span 54 = .ok (.aload_n 0, 1) := by decide +kernel
theorem dX7_span_55 : decode cX7_span 55 = .ok (.invokevirtual 71, 3) := by decide +kernel
theorem dX7_span_58 : decode cX7_span 58 = .ok (.ireturn, 1) := by decide +kernel
theorem dX7_noSpan_0 : decode cX7_noSpan 0 = .ok (.aload_n 0, 1) := by decide +kernel
theorem dX7_noSpan_1 : decode cX7_noSpan 1 = .ok (.getfield 18, 3) := by decide +kernel
theorem dX7_noSpan_4 : decode cX7_noSpan 4 = .ok (.iload_n 1, 1) := by decide +kernel
theorem dX7_noSpan_5 : decode cX7_noSpan 5 = .ok (.invokevirtual 107, 3) := by decide +kernel
theorem dX7_noSpan_8 : decode cX7_noSpan 8 = .ok (.astore_n 2, 1) := by decide +kernel
theorem dX7_noSpan_9 : decode cX7_noSpan 9 = .ok (.aload_n 2, 1) := by decide +kernel
theorem dX7_noSpan_10 : decode cX7_noSpan 10 = .ok (.ifnonnull 9, 3) := by decide +kernel
theorem dX7_noSpan_13 : decode cX7_noSpan 13 = .ok (.aload_n 0, 1) := by decide +kernel
theorem dX7_noSpan_14 : decode cX7_noSpan 14 = .ok (.iconst 2, 1) := by decide +kernel
theorem dX7_noSpan_15 : decode cX7_noSpan 15 = .ok (.invokevirtual 63, 3) := by decide +kernel
theorem dX7_noSpan_18 : decode cX7_noSpan 18 = .ok (.ireturn, 1) := by decide +kernel
theorem dX7_noSpan_19 : decode cX7_noSpan 19 = .ok (.aload_n 2, 1) := by decide +kernel
theorem dX7_noSpan_20 : decode cX7_noSpan 20 = .ok (.invokevirtual 175, 3) := by decide +kernel
theorem dX7_noSpan_23 : decode cX7_noSpan 23 = .ok (.ifCond .ne 10, 3) := by decide +kernel
theorem dX7_noSpan_26 : decode cX7_noSpan 26 = .ok (.aload_n 0, 1) := by decide +kernel
theorem dX7_noSpan_27 : decode cX7_noSpan 27 = .ok (.bipush 9, 2) := by decide +kernel
theorem dX7_noSpan_29 : decode cX7_noSpan 29 = .ok (.invokevirtual 63, 3) := by decide +kernel
theorem dX7_noSpan_32 : decode cX7_noSpan 32 = .ok (.ireturn, 1) := by decide +kernel
theorem dX7_noSpan_33 : decode cX7_noSpan 33 = .ok (.aload_n 2, 1) := by decide +kernel
theorem dX7_noSpan_34 : decode cX7_noSpan 34 = .ok (.iconst (-1), 1) := by decide +kernel
theorem dX7_noSpan_35 : decode cX7_noSpan 35 = .ok (.putfield 169, 3) := by decide +kernel
theorem dX7_noSpan_38 : decode cX7_noSpan 38 = .ok (.aload_n 2, 1) := by decide +kernel
theorem dX7_noSpan_39 : decode cX7_noSpan 39 = .ok (.iconst (-1), 1) := by decide +kernel
theorem dX7_noSpan_40 : decode cX7_noSpan 40 = .ok (.putfield 172, 3) := by decide +kernel
theorem dX7_noSpan_43 : decode cX7_noSpan 43 = .ok (.aload_n 0, 1) := by decide +kernel
theorem dX7_noSpan_44 : decode cX7_noSpan 44 = .ok (.invokevirtual 71, 3) := by decide +kernel
theorem dX7_noSpan_47 : decode cX7_noSpan 47 = .ok (.ireturn, 1) := by decide +kernel
theorem dX7_held_0 : decode cX7_held 0 = .ok (.aload_n 0, 1) := by decide +kernel
theorem dX7_held_1 : decode cX7_held 1 = .ok (.getfield 18, 3) := by decide +kernel
theorem dX7_held_4 : decode cX7_held 4 = .ok (.iload_n 1, 1) := by decide +kernel
theorem dX7_held_5 : decode cX7_held 5 = .ok (.invokevirtual 107, 3) := by decide +kernel
theorem dX7_held_8 : decode cX7_held 8 = .ok (.astore_n 3, 1) := by decide +kernel
theorem dX7_held_9 : decode cX7_held 9 = .ok (.aload_n 3, 1) := by decide +kernel
theorem dX7_held_10 : decode cX7_held 10 = .ok (.ifnonnull 9, 3) := by decide +kernel
theorem dX7_held_13 : decode cX7_held 13 = .ok (.aload_n 0, 1) := by decide +kernel
theorem dX7_held_14 : decode cX7_held 14 = .ok (.iconst 2, 1) := by decide +kernel
theorem dX7_held_15 : decode cX7_held 15 = .ok (.invokevirtual 83, 3) := by decide +kernel
theorem dX7_held_18 : decode cX7_held 18 = .ok (.ireturn, 1) := by decide +kernel
theorem dX7_held_19 : decode cX7_held 19 = .ok (.aload_n 0, 1) := by decide +kernel
theorem dX7_held_20 : decode cX7_held 20 = .ok (.getfield 18, 3) := by decide +kernel
theorem dX7_held_23 : decode cX7_held 23 = .ok (.aload_n 3, 1) := by decide +kernel
theorem dX7_held_24 : decode cX7_held 24 = .ok (.iload_n 2, 1) := by decide +kernel
theorem dX7_held_25 : decode cX7_held 25 = .ok (.invokevirtual 178, 3) := by decide +kernel
theorem dX7_held_28 : decode cX7_held 28 = .ok (.istore 4, 2) := by decide +kernel
theorem dX7_held_30 : decode cX7_held 30 = .ok (.iload 4, 2) := by decide +kernel
theorem dX7_held_32 : decode cX7_held 32 = .ok (.iconst (-1), 1) := by decide +kernel
theorem dX7_held_33 : decode cX7_held 33 = .ok (.if_icmp .ne 12, 3) := by decide +kernel
theorem dX7_held_36 : decode cX7_held 36 = .ok (.aload_n 0, 1) := by decide +kernel
theorem dX7_held_37 : decode cX7_held 37 = .ok (.bipush 9, 2) := by decide +kernel
theorem dX7_held_39 : decode cX7_held 39 = .ok (.invokevirtual 83, 3) := by decide +kernel
theorem dX7_held_42 : decode cX7_held 42 = .ok (.goto 9, 3) := by decide +kernel
theorem dX7_held_45 : decode cX7_held 45 = .ok (.aload_n 0, 1) := by decide +kernel
theorem dX7_held_46 : decode cX7_held 46 = .ok (.iload 4, 2) := by decide +kernel
theorem dX7_held_48 : decode cX7_held 48 = .ok (.invokevirtual 126, 3) := by decide +kernel
theorem dX7_held_51 : decode cX7_held 51 = .ok (.ireturn, 1) := by decide +kernel
theorem dX7_quarrel_0 : decode cX7_quarrel 0 = .ok (.iload_n 1, 1) := by decide +kernel
theorem dX7_quarrel_1 : decode cX7_quarrel 1 = .ok (.ifCond .ge 9, 3) := by decide +kernel
theorem dX7_quarrel_4 : decode cX7_quarrel 4 = .ok (.aload_n 0, 1) := by decide +kernel
theorem dX7_quarrel_5 : decode cX7_quarrel 5 = .ok (.iconst 5, 1) := by decide +kernel
theorem dX7_quarrel_6 : decode cX7_quarrel 6 = .ok (.invokevirtual 83, 3) := by decide +kernel
theorem dX7_quarrel_9 : decode cX7_quarrel 9 = .ok (.ireturn, 1) := by decide +kernel
theorem dX7_quarrel_10 : decode cX7_quarrel 10 = .ok (.aload_n 0, 1) := by decide +kernel
theorem dX7_quarrel_11 : decode cX7_quarrel 11 = .ok (.getfield 18, 3) := by decide +kernel
theorem dX7_quarrel_14 : decode cX7_quarrel 14 = .ok (.iload_n 1, 1) := by decide +kernel
theorem dX7_quarrel_15 : decode cX7_quarrel 15 = .ok (.invokevirtual 182, 3) := by decide +kernel
theorem dX7_quarrel_18 : decode cX7_quarrel 18 = .ok (.istore_n 2, 1) := by decide +kernel
theorem dX7_quarrel_19 : decode cX7_quarrel 19 = .ok (.iload_n 2, 1) := by decide +kernel
theorem dX7_quarrel_20 : decode cX7_quarrel 20 = .ok (.iconst (-1), 1) := by decide +kernel
theorem dX7_quarrel_21 : decode cX7_quarrel 21 = .ok (.if_icmp .ne 12, 3) := by decide +kernel
theorem dX7_quarrel_24 : decode cX7_quarrel 24 = .ok (.aload_n 0, 1) := by decide +kernel
theorem dX7_quarrel_25 : decode cX7_quarrel 25 = .ok (.bipush 9, 2) := by decide +kernel
theorem dX7_quarrel_27 : decode cX7_quarrel 27 = .ok (.invokevirtual 83, 3) := by decide +kernel
theorem dX7_quarrel_30 : decode cX7_quarrel 30 = .ok (.goto 8, 3) := by decide +kernel
theorem dX7_quarrel_33 : decode cX7_quarrel 33 = .ok (.aload_n 0, 1) := by decide +kernel
theorem dX7_quarrel_34 : decode cX7_quarrel 34 = .ok (.iload_n 2, 1) := by decide +kernel
theorem dX7_quarrel_35 : decode cX7_quarrel 35 = .ok (.invokevirtual 126, 3) := by decide +kernel
theorem dX7_quarrel_38 : decode cX7_quarrel 38 = .ok (.ireturn, 1) := by decide +kernel
theorem dX7_count_0 : decode cX7_count 0 = .ok (.aload_n 0, 1) := by decide +kernel
theorem dX7_count_1 : decode cX7_count 1 = .ok (.getfield 18, 3) := by decide +kernel
theorem dX7_count_4 : decode cX7_count 4 = .ok (.iload_n 1, 1) := by decide +kernel
theorem dX7_count_5 : decode cX7_count 5 = .ok (.invokevirtual 107, 3) := by decide +kernel
theorem dX7_count_8 : decode cX7_count 8 = .ok (.astore_n 3, 1) := by decide +kernel
theorem dX7_count_9 : decode cX7_count 9 = .ok (.aload_n 3, 1) := by decide +kernel
theorem dX7_count_10 : decode cX7_count 10 = .ok (.ifnonnull 9, 3) := by decide +kernel
theorem dX7_count_13 : decode cX7_count 13 = .ok (.aload_n 0, 1) := by decide +kernel
theorem dX7_count_14 : decode cX7_count 14 = .ok (.iconst 2, 1) := by decide +kernel
theorem dX7_count_15 : decode cX7_count 15 = .ok (.invokevirtual 63, 3) := by decide +kernel
theorem dX7_count_18 : decode cX7_count 18 = .ok (.ireturn, 1) := by decide +kernel
theorem dX7_count_19 : decode cX7_count 19 = .ok (.iload_n 2, 1) := by decide +kernel
theorem dX7_count_20 : decode cX7_count 20 = .ok (.iconst (-1), 1) := by decide +kernel
theorem dX7_count_21 : decode cX7_count 21 = .ok (.sipush 999, 3) := by decide +kernel
theorem dX7_count_24 : decode cX7_count 24 = .ok (.invokestatic 59, 3) := by decide +kernel
theorem dX7_count_27 : decode cX7_count 27 = .ok (.ifCond .ne 9, 3) := by decide +kernel
theorem dX7_count_30 : decode cX7_count 30 = .ok (.aload_n 0, 1) := by decide +kernel
theorem dX7_count_31 : decode cX7_count 31 = .ok (.iconst 5, 1) := by decide +kernel
theorem dX7_count_32 : decode cX7_count 32 = .ok (.invokevirtual 63, 3) := by decide +kernel
theorem dX7_count_35 : decode cX7_count 35 = .ok (.ireturn, 1) := by decide +kernel
theorem dX7_count_36 : decode cX7_count 36 = .ok (.aload_n 3, 1) := by decide +kernel
theorem dX7_count_37 : decode cX7_count 37 = .ok (.getfield 111, 3) := by decide +kernel
theorem dX7_count_40 : decode cX7_count 40 = .ok (.iconst 2, 1) := by decide +kernel
theorem dX7_count_41 : decode cX7_count 41 = .ok (.if_icmp .eq 10, 3) := by decide +kernel
theorem dX7_count_44 : decode cX7_count 44 = .ok (.aload_n 0, 1) := by decide +kernel
theorem dX7_count_45 : decode cX7_count 45 = .ok (.bipush 8, 2) := by decide +kernel
theorem dX7_count_47 : decode cX7_count 47 = .ok (.invokevirtual 63, 3) := by decide +kernel
theorem dX7_count_50 : decode cX7_count 50 = .ok (.ireturn, 1) := by decide +kernel
theorem dX7_count_51 : decode cX7_count 51 = .ok (.aload_n 3, 1) := by decide +kernel
theorem dX7_count_52 : decode cX7_count 52 = .ok (.iload_n 2, 1) := by decide +kernel
theorem dX7_count_53 : decode cX7_count 53 = .ok (.putfield 140, 3) := by decide +kernel
theorem dX7_count_56 : decode cX7_count 56 = .ok (.aload_n 0, 1) := by decide +kernel
theorem dX7_count_57 : decode cX7_count 57 = .ok (.invokevirtual 71, 3) := by decide +kernel
theorem dX7_count_60 : decode cX7_count 60 = .ok (.ireturn, 1) := by decide +kernel
theorem dX7_join_0 : decode cX7_join 0 = .ok (.aload_n 0, 1) := by decide +kernel
theorem dX7_join_1 : decode cX7_join 1 = .ok (.getfield 18, 3) := by decide +kernel
theorem dX7_join_4 : decode cX7_join 4 = .ok (.iload_n 1, 1) := by decide +kernel
theorem dX7_join_5 : decode cX7_join 5 = .ok (.invokevirtual 107, 3) := by decide +kernel
theorem dX7_join_8 : decode cX7_join 8 = .ok (.astore_n 3, 1) := by decide +kernel
theorem dX7_join_9 : decode cX7_join 9 = .ok (.aload_n 0, 1) := by decide +kernel
theorem dX7_join_10 : decode cX7_join 10 = .ok (.getfield 18, 3) := by decide +kernel
theorem dX7_join_13 : decode cX7_join 13 = .ok (.iload_n 2, 1) := by decide +kernel
theorem dX7_join_14 : decode cX7_join 14 = .ok (.invokevirtual 107, 3) := by decide +kernel
theorem dX7_join_17 : decode cX7_join 17 = .ok (.astore 4, 2) := by decide +kernel
theorem dX7_join_19 : decode cX7_join 19 = .ok (.aload_n 3, 1) := by decide +kernel
theorem dX7_join_20 : decode cX7_join 20 = .ok (.ifnull 8, 3) := by decide +kernel
theorem dX7_join_23 : decode cX7_join 23 = .ok (.aload 4, 2) := by decide +kernel
theorem dX7_join_25 : decode cX7_join 25 = .ok (.ifnonnull 9, 3) := by decide +kernel
theorem dX7_join_28 : decode cX7_join 28 = .ok (.aload_n 0, 1) := by decide +kernel
theorem dX7_join_29 : decode cX7_join 29 = .ok (.iconst 2, 1) := by decide +kernel
theorem dX7_join_30 : decode cX7_join 30 = .ok (.invokevirtual 63, 3) := by decide +kernel
theorem dX7_join_33 : decode cX7_join 33 = .ok (.ireturn, 1) := by decide +kernel
theorem dX7_join_34 : decode cX7_join 34 = .ok (.iload_n 1, 1) := by decide +kernel
theorem dX7_join_35 : decode cX7_join 35 = .ok (.iload_n 2, 1) := by decide +kernel
theorem dX7_join_36 : decode cX7_join 36 = .ok (.if_icmp .ne 9, 3) := by decide +kernel
theorem dX7_join_39 : decode cX7_join 39 = .ok (.aload_n 0, 1) := by decide +kernel
theorem dX7_join_40 : decode cX7_join 40 = .ok (.iconst 5, 1) := by decide +kernel
theorem dX7_join_41 : decode cX7_join 41 = .ok (.invokevirtual 63, 3) := by decide +kernel
theorem dX7_join_44 : decode cX7_join 44 = .ok (.ireturn, 1) := by decide +kernel
theorem dX7_join_45 : decode cX7_join 45 = .ok (.aload_n 3, 1) := by decide +kernel
theorem dX7_join_46 : decode cX7_join 46 = .ok (.getfield 111, 3) := by decide +kernel
theorem dX7_join_49 : decode cX7_join 49 = .ok (.iconst 3, 1) := by decide +kernel
theorem dX7_join_50 : decode cX7_join 50 = .ok (.if_icmp .ne 12, 3) := by decide +kernel
theorem dX7_join_53 : decode cX7_join 53 = .ok (.aload 4, 2) := by decide +kernel
theorem dX7_join_55 : decode cX7_join 55 = .ok (.getfield 111, 3) := by decide +kernel
theorem dX7_join_58 : decode cX7_join 58 = .ok (.iconst 3, 1) := by decide +kernel
theorem dX7_join_59 : decode cX7_join 59 = .ok (.if_icmp .eq 10, 3) := by decide +kernel
theorem dX7_join_62 : decode cX7_join 62 = .ok (.aload_n 0, 1) := by decide +kernel
theorem dX7_join_63 : decode cX7_join 63 = .ok (.bipush 8, 2) := by decide +kernel
theorem dX7_join_65 : decode cX7_join 65 = .ok (.invokevirtual 63, 3) := by decide +kernel
theorem dX7_join_68 : decode cX7_join 68 = .ok (.ireturn, 1) := by decide +kernel
theorem dX7_join_69 : decode cX7_join 69 = .ok (.aload_n 3, 1) := by decide +kernel
theorem dX7_join_70 : decode cX7_join 70 = .ok (.getfield 185, 3) := by decide +kernel
theorem dX7_join_73 : decode cX7_join 73 = .ok (.aload 4, 2) := by decide +kernel
theorem dX7_join_75 : decode cX7_join 75 = .ok (.getfield 185, 3) := by decide +kernel
theorem dX7_join_78 : decode cX7_join 78 = .ok (.if_icmp .ne 10, 3) := by decide +kernel
theorem dX7_join_81 : decode cX7_join 81 = .ok (.aload_n 0, 1) := by decide +kernel
theorem dX7_join_82 : decode cX7_join 82 = .ok (.bipush 10, 2) := by decide +kernel
theorem dX7_join_84 : decode cX7_join 84 = .ok (.invokevirtual 63, 3) := by decide +kernel
theorem dX7_join_87 : decode cX7_join 87 = .ok (.ireturn, 1) := by decide +kernel
theorem dX7_join_88 : decode cX7_join 88 = .ok (.aload_n 0, 1) := by decide +kernel
theorem dX7_join_89 : decode cX7_join 89 = .ok (.getfield 18, 3) := by decide +kernel
theorem dX7_join_92 : decode cX7_join 92 = .ok (.aload_n 3, 1) := by decide +kernel
theorem dX7_join_93 : decode cX7_join 93 = .ok (.getfield 185, 3) := by decide +kernel
theorem dX7_join_96 : decode cX7_join 96 = .ok (.aload 4, 2) := by decide +kernel
theorem dX7_join_98 : decode cX7_join 98 = .ok (.getfield 185, 3) := by decide +kernel
theorem dX7_join_101 : decode cX7_join 101 = .ok (.invokevirtual 188, 3) := by decide +kernel
theorem dX7_join_104 : decode cX7_join 104 = .ok (.aload_n 0, 1) := by decide +kernel
theorem dX7_join_105 : decode cX7_join 105 = .ok (.invokevirtual 71, 3) := by decide +kernel
theorem dX7_join_108 : decode cX7_join 108 = .ok (.ireturn, 1) := by decide +kernel
theorem dX7_close_0 : decode cX7_close 0 = .ok (.aload_n 0, 1) := by decide +kernel
theorem dX7_close_1 : decode cX7_close 1 = .ok (.getfield 18, 3) := by decide +kernel
theorem dX7_close_4 : decode cX7_close 4 = .ok (.iload_n 1, 1) := by decide +kernel
theorem dX7_close_5 : decode cX7_close 5 = .ok (.invokevirtual 107, 3) := by decide +kernel
theorem dX7_close_8 : decode cX7_close 8 = .ok (.astore 4, 2) := by decide +kernel
theorem dX7_close_10 : decode cX7_close 10 = .ok (.aload 4, 2) := by decide +kernel
theorem dX7_close_12 : decode cX7_close 12 = .ok (.ifnonnull 9, 3) := by decide +kernel
theorem dX7_close_15 : decode cX7_close 15 = .ok (.aload_n 0, 1) := by decide +kernel
theorem dX7_close_16 : decode cX7_close 16 = .ok (.iconst 2, 1) := by decide +kernel
theorem dX7_close_17 : decode cX7_close 17 = .ok (.invokevirtual 63, 3) := by decide +kernel
theorem dX7_close_20 : decode cX7_close 20 = .ok (.ireturn, 1) := by decide +kernel
theorem dX7_close_21 : decode cX7_close 21 = .ok (.iload_n 2, 1) := by decide +kernel
theorem dX7_close_22 : decode cX7_close 22 = .ok (.iconst (-1), 1) := by decide +kernel
theorem dX7_close_23 : decode cX7_close 23 = .ok (.ldc 191, 2) := by decide +kernel
theorem dX7_close_25 : decode cX7_close 25 = .ok (.invokestatic 59, 3) := by decide +kernel
theorem dX7_close_28 : decode cX7_close 28 = .ok (.ifCond .eq 13, 3) := by decide +kernel
theorem dX7_close_31 : decode cX7_close 31 = .ok (.iload_n 3, 1) := by decide +kernel
theorem dX7_close_32 : decode cX7_close 32 = .ok (.iconst 0, 1) := by decide +kernel
theorem dX7_close_33 : decode cX7_close 33 = .ok (.ldc 192, 2) := by decide +kernel
theorem dX7_close_35 : decode cX7_close 35 = .ok (.invokestatic 59, 3) := by decide +kernel
theorem dX7_close_38 : decode cX7_close 38 = .ok (.ifCond .ne 9, 3) := by decide +kernel
theorem dX7_close_41 : decode cX7_close 41 = .ok (.aload_n 0, 1) := by decide +kernel
theorem dX7_close_42 : decode cX7_close 42 = .ok (.iconst 5, 1) := by decide +kernel
theorem dX7_close_43 : decode cX7_close 43 = .ok (.invokevirtual 63, 3) := by decide +kernel
theorem dX7_close_46 : decode cX7_close 46 = .ok (.ireturn, 1) := by decide +kernel
theorem dX7_close_47 : decode cX7_close 47 = .ok (.aload 4, 2) := by decide +kernel
theorem dX7_close_49 : decode cX7_close 49 = .ok (.iload_n 2, 1) := by decide +kernel
theorem dX7_close_50 : decode cX7_close 50 = .ok (.putfield 193, 3) := by decide +kernel
theorem dX7_close_53 : decode cX7_close 53 = .ok (.aload 4, 2) := by decide +kernel
theorem dX7_close_55 : decode cX7_close 55 = .ok (.iload_n 3, 1) := by decide +kernel
theorem dX7_close_56 : decode cX7_close 56 = .ok (.putfield 196, 3) := by decide +kernel
theorem dX7_close_59 : decode cX7_close 59 = .ok (.aload_n 0, 1) := by decide +kernel
theorem dX7_close_60 : decode cX7_close 60 = .ok (.invokevirtual 71, 3) := by decide +kernel
theorem dX7_close_63 : decode cX7_close 63 = .ok (.ireturn, 1) := by decide +kernel
theorem dX7_sees_0 : decode cX7_sees 0 = .ok (.aload_n 0, 1) := by decide +kernel
theorem dX7_sees_1 : decode cX7_sees 1 = .ok (.getfield 18, 3) := by decide +kernel
theorem dX7_sees_4 : decode cX7_sees 4 = .ok (.iload_n 1, 1) := by decide +kernel
theorem dX7_sees_5 : decode cX7_sees 5 = .ok (.invokevirtual 107, 3) := by decide +kernel
theorem dX7_sees_8 : decode cX7_sees 8 = .ok (.astore 4, 2) := by decide +kernel
theorem dX7_sees_10 : decode cX7_sees 10 = .ok (.aload 4, 2) := by decide +kernel
theorem dX7_sees_12 : decode cX7_sees 12 = .ok (.ifnull 10, 3) := by decide +kernel
theorem dX7_sees_15 : decode cX7_sees 15 = .ok (.iload_n 2, 1) := by decide +kernel
theorem dX7_sees_16 : decode cX7_sees 16 = .ok (.invokestatic 199, 3) := by decide +kernel
theorem dX7_sees_19 : decode cX7_sees 19 = .ok (.ifCond .ne 9, 3) := by decide +kernel
theorem dX7_sees_22 : decode cX7_sees 22 = .ok (.aload_n 0, 1) := by decide +kernel
theorem dX7_sees_23 : decode cX7_sees 23 = .ok (.iconst 2, 1) := by decide +kernel
theorem dX7_sees_24 : decode cX7_sees 24 = .ok (.invokevirtual 83, 3) := by decide +kernel
theorem dX7_sees_27 : decode cX7_sees 27 = .ok (.ireturn, 1) := by decide +kernel
theorem dX7_sees_28 : decode cX7_sees 28 = .ok (.iload_n 3, 1) := by decide +kernel
theorem dX7_sees_29 : decode cX7_sees 29 = .ok (.invokestatic 202, 3) := by decide +kernel
theorem dX7_sees_32 : decode cX7_sees 32 = .ok (.ifCond .ne 9, 3) := by decide +kernel
theorem dX7_sees_35 : decode cX7_sees 35 = .ok (.aload_n 0, 1) := by decide +kernel
theorem dX7_sees_36 : decode cX7_sees 36 = .ok (.iconst 5, 1) := by decide +kernel
theorem dX7_sees_37 : decode cX7_sees 37 = .ok (.invokevirtual 83, 3) := by decide +kernel
theorem dX7_sees_40 : decode cX7_sees 40 = .ok (.ireturn, 1) := by decide +kernel
theorem dX7_sees_41 : decode cX7_sees 41 = .ok (.aload_n 0, 1) := by decide +kernel
theorem dX7_sees_42 : decode cX7_sees 42 = .ok (.aload 4, 2) := by decide +kernel
theorem dX7_sees_44 : decode cX7_sees 44 = .ok (.iload_n 2, 1) := by decide +kernel
theorem dX7_sees_45 : decode cX7_sees 45 = .ok (.iload_n 3, 1) := by decide +kernel
theorem dX7_sees_46 : decode cX7_sees 46 = .ok (.invokevirtual 205, 3) := by decide +kernel
theorem dX7_sees_49 : decode cX7_sees 49 = .ok (.ifCond .eq 7, 3) := by decide +kernel
theorem dX7_sees_52 : decode cX7_sees 52 = .ok (.iconst 1, 1) := by decide +kernel
theorem dX7_sees_53 : decode cX7_sees 53 = .ok (.goto 4, 3) := by decide +kernel
theorem dX7_sees_56 : decode cX7_sees 56 = .ok (.iconst 0, 1) := by decide +kernel
theorem dX7_sees_57 : decode cX7_sees 57 = .ok (.invokevirtual 126, 3) := by decide +kernel
theorem dX7_sees_60 : decode cX7_sees 60 = .ok (.ireturn, 1) := by decide +kernel
theorem dX7_number_0 : decode cX7_number 0 = .ok (.aload_n 0, 1) := by decide +kernel
theorem dX7_number_1 : decode cX7_number 1 = .ok (.getfield 18, 3) := by decide +kernel
theorem dX7_number_4 : decode cX7_number 4 = .ok (.iload_n 1, 1) := by decide +kernel
theorem dX7_number_5 : decode cX7_number 5 = .ok (.invokevirtual 107, 3) := by decide +kernel
theorem dX7_number_8 : decode cX7_number 8 = .ok (.astore 5, 2) := by decide +kernel
theorem dX7_number_10 : decode cX7_number 10 = .ok (.aload 5, 2) := by decide +kernel
theorem dX7_number_12 : decode cX7_number 12 = .ok (.ifnull 10, 3) := by decide +kernel
theorem dX7_number_15 : decode cX7_number 15 = .ok (.iload_n 3, 1) := by decide +kernel
theorem dX7_number_16 : decode cX7_number 16 = .ok (.invokestatic 199, 3) := by decide +kernel
theorem dX7_number_19 : decode cX7_number 19 = .ok (.ifCond .ne 9, 3) := by decide +kernel
theorem dX7_number_22 : decode cX7_number 22 = .ok (.aload_n 0, 1) := by decide +kernel
theorem dX7_number_23 : decode cX7_number 23 = .ok (.iconst 2, 1) := by decide +kernel
theorem dX7_number_24 : decode cX7_number 24 = .ok (.invokevirtual 83, 3) := by decide +kernel
theorem dX7_number_27 : decode cX7_number 27 = .ok (.ireturn, 1) := by decide +kernel
theorem dX7_number_28 : decode cX7_number 28 = .ok (.iload_n 2, 1) := by decide +kernel
theorem dX7_number_29 : decode cX7_number 29 = .ok (.iconst 0, 1) := by decide +kernel
theorem dX7_number_30 : decode cX7_number 30 = .ok (.iconst 3, 1) := by decide +kernel
theorem dX7_number_31 : decode cX7_number 31 = .ok (.invokestatic 59, 3) := by decide +kernel
theorem dX7_number_34 : decode cX7_number 34 = .ok (.ifCond .eq 11, 3) := by decide +kernel
theorem dX7_number_37 : decode cX7_number 37 = .ok (.iload 4, 2) := by decide +kernel
theorem dX7_number_39 : decode cX7_number 39 = .ok (.invokestatic 202, 3) := by decide +kernel
theorem dX7_number_42 : decode cX7_number 42 = .ok (.ifCond .ne 9, 3) := by decide +kernel
theorem dX7_number_45 : decode cX7_number 45 = .ok (.aload_n 0, 1) := by decide +kernel
theorem dX7_number_46 : decode cX7_number 46 = .ok (.iconst 5, 1) := by decide +kernel
theorem dX7_number_47 : decode cX7_number 47 = .ok (.invokevirtual 83, 3) := by decide +kernel
theorem dX7_number_50 : decode cX7_number 50 = .ok (.ireturn, 1) := by decide +kernel
theorem dX7_number_51 : decode cX7_number 51 = .ok (.iload_n 2, 1) := by decide +kernel
theorem dX7_number_52 : decode cX7_number 52 = .ok (.iconst 3, 1) := by decide +kernel
theorem dX7_number_53 : decode cX7_number 53 = .ok (.if_icmp .ne 33, 3) := by decide +kernel
theorem dX7_number_56 : decode cX7_number 56 = .ok (.aload_n 0, 1) := by decide +kernel
theorem dX7_number_57 : decode cX7_number 57 = .ok (.aload_n 0, 1) := by decide +kernel
theorem dX7_number_58 : decode cX7_number 58 = .ok (.getfield 18, 3) := by decide +kernel
theorem dX7_number_61 : decode cX7_number 61 = .ok (.aload 5, 2) := by decide +kernel
theorem dX7_number_63 : decode cX7_number 63 = .ok (.iload_n 3, 1) := by decide +kernel
theorem dX7_number_64 : decode cX7_number 64 = .ok (.iload 4, 2) := by decide +kernel
theorem dX7_number_66 : decode cX7_number 66 = .ok (.invokevirtual 208, 3) := by decide +kernel
theorem dX7_number_69 : decode cX7_number 69 = .ok (.aload_n 0, 1) := by decide +kernel
theorem dX7_number_70 : decode cX7_number 70 = .ok (.getfield 18, 3) := by decide +kernel
theorem dX7_number_73 : decode cX7_number 73 = .ok (.aload 5, 2) := by decide +kernel
theorem dX7_number_75 : decode cX7_number 75 = .ok (.iload_n 3, 1) := by decide +kernel
theorem dX7_number_76 : decode cX7_number 76 = .ok (.iload 4, 2) := by decide +kernel
theorem dX7_number_78 : decode cX7_number 78 = .ok (.invokevirtual 212, 3) := by decide +kernel
theorem dX7_number_81 : decode cX7_number 81 = .ok (.iadd, 1) := by decide +kernel
theorem dX7_number_82 : decode cX7_number 82 = .ok (.invokevirtual 126, 3) := by decide +kernel
theorem dX7_number_85 : decode cX7_number 85 = .ok (.ireturn, 1) := by decide +kernel
theorem dX7_number_86 : decode cX7_number 86 = .ok (.aload_n 0, 1) := by decide +kernel
theorem dX7_number_87 : decode cX7_number 87 = .ok (.aload_n 0, 1) := by decide +kernel
theorem dX7_number_88 : decode cX7_number 88 = .ok (.getfield 18, 3) := by decide +kernel
theorem dX7_number_91 : decode cX7_number 91 = .ok (.aload 5, 2) := by decide +kernel
theorem dX7_number_93 : decode cX7_number 93 = .ok (.iload_n 2, 1) := by decide +kernel
theorem dX7_number_94 : decode cX7_number 94 = .ok (.iload_n 3, 1) := by decide +kernel
theorem dX7_number_95 : decode cX7_number 95 = .ok (.iload 4, 2) := by decide +kernel
theorem dX7_number_97 : decode cX7_number 97 = .ok (.invokevirtual 215, 3) := by decide +kernel
theorem dX7_number_100 : decode cX7_number 100 = .ok (.invokevirtual 126, 3) := by decide +kernel
theorem dX7_number_103 : decode cX7_number 103 = .ok (.ireturn, 1) := by decide +kernel
theorem dX7_find_0 : decode cX7_find 0 = .ok (.aload_n 0, 1) := by decide +kernel
theorem dX7_find_1 : decode cX7_find 1 = .ok (.iload 5, 2) := by decide +kernel
theorem dX7_find_3 : decode cX7_find 3 = .ok (.invokevirtual 55, 3) := by decide +kernel
theorem dX7_find_6 : decode cX7_find 6 = .ok (.astore 6, 2) := by decide +kernel
theorem dX7_find_8 : decode cX7_find 8 = .ok (.aload 6, 2) := by decide +kernel
theorem dX7_find_10 : decode cX7_find 10 = .ok (.ifnonnull 9, 3) := by decide +kernel
theorem dX7_find_13 : decode cX7_find 13 = .ok (.aload_n 0, 1) := by decide +kernel
theorem dX7_find_14 : decode cX7_find 14 = .ok (.iconst 1, 1) := by decide +kernel
theorem dX7_find_15 : decode cX7_find 15 = .ok (.invokevirtual 83, 3) := by decide +kernel
theorem dX7_find_18 : decode cX7_find 18 = .ok (.ireturn, 1) := by decide +kernel
theorem dX7_find_19 : decode cX7_find 19 = .ok (.iload_n 1, 1) := by decide +kernel
theorem dX7_find_20 : decode cX7_find 20 = .ok (.invokestatic 159, 3) := by decide +kernel
theorem dX7_find_23 : decode cX7_find 23 = .ok (.ifCond .eq 10, 3) := by decide +kernel
theorem dX7_find_26 : decode cX7_find 26 = .ok (.iload_n 3, 1) := by decide +kernel
theorem dX7_find_27 : decode cX7_find 27 = .ok (.invokestatic 199, 3) := by decide +kernel
theorem dX7_find_30 : decode cX7_find 30 = .ok (.ifCond .ne 9, 3) := by decide +kernel
theorem dX7_find_33 : decode cX7_find 33 = .ok (.aload_n 0, 1) := by decide +kernel
theorem dX7_find_34 : decode cX7_find 34 = .ok (.iconst 2, 1) := by decide +kernel
theorem dX7_find_35 : decode cX7_find 35 = .ok (.invokevirtual 83, 3) := by decide +kernel
theorem dX7_find_38 : decode cX7_find 38 = .ok (.ireturn, 1) := by decide +kernel
theorem dX7_find_39 : decode cX7_find 39 = .ok (.aload 6, 2) := by decide +kernel
theorem dX7_find_41 : decode cX7_find 41 = .ok (.invokevirtual 91, 3) := by decide +kernel
theorem dX7_find_44 : decode cX7_find 44 = .ok (.ifCond .eq 9, 3) := by decide +kernel
theorem dX7_find_47 : decode cX7_find 47 = .ok (.aload_n 0, 1) := by decide +kernel
theorem dX7_find_48 : decode cX7_find 48 = .ok (.iconst 3, 1) := by decide +kernel
theorem dX7_find_49 : decode cX7_find 49 = .ok (.invokevirtual 83, 3) := by decide +kernel
theorem dX7_find_52 : decode cX7_find 52 = .ok (.ireturn, 1) := by decide +kernel
theorem dX7_find_53 : decode cX7_find 53 = .ok (.iload_n 2, 1) := by decide +kernel
theorem dX7_find_54 : decode cX7_find 54 = .ok (.iconst 0, 1) := by decide +kernel
theorem dX7_find_55 : decode cX7_find 55 = .ok (.sipush 999, 3) := by decide +kernel
theorem dX7_find_58 : decode cX7_find 58 = .ok (.invokestatic 59, 3) := by decide +kernel
theorem dX7_find_61 : decode cX7_find 61 = .ok (.ifCond .eq 11, 3) := by decide +kernel
theorem dX7_find_64 : decode cX7_find 64 = .ok (.iload 4, 2) := by decide +kernel
theorem dX7_find_66 : decode cX7_find 66 = .ok (.invokestatic 202, 3) := by decide +kernel
theorem dX7_find_69 : decode cX7_find 69 = .ok (.ifCond .ne 9, 3) := by decide +kernel
theorem dX7_find_72 : decode cX7_find 72 = .ok (.aload_n 0, 1) := by decide +kernel
theorem dX7_find_73 : decode cX7_find 73 = .ok (.iconst 5, 1) := by decide +kernel
theorem dX7_find_74 : decode cX7_find 74 = .ok (.invokevirtual 83, 3) := by decide +kernel
theorem dX7_find_77 : decode cX7_find 77 = .ok (.ireturn, 1) := by decide +kernel
theorem dX7_find_78 : decode cX7_find 78 = .ok (.iconst 0, 1) := by decide +kernel
theorem dX7_find_79 : decode cX7_find 79 = .ok (.istore 7, 2) := by decide +kernel
theorem dX7_find_81 : decode cX7_find 81 = .ok (.iconst 0, 1) := by decide +kernel
theorem dX7_find_82 : decode cX7_find 82 = .ok (.istore 8, 2) := by decide +kernel
theorem dX7_find_84 : decode cX7_find 84 = .ok (.iload 8, 2) := by decide +kernel
theorem dX7_find_86 : decode cX7_find 86 = .ok (.aload_n 0, 1) := by decide +kernel
theorem dX7_find_87 : decode cX7_find 87 = .ok (.getfield 18, 3) := by decide +kernel
theorem dX7_find_90 : decode cX7_find 90 = .ok (.getfield 119, 3) := by decide +kernel
theorem dX7_find_93 : decode cX7_find 93 = .ok (.if_icmp .ge 74, 3) := by decide +kernel
theorem dX7_find_96 : decode cX7_find 96 = .ok (.aload_n 0, 1) := by decide +kernel
theorem dX7_find_97 : decode cX7_find 97 = .ok (.getfield 18, 3) := by decide +kernel
theorem dX7_find_100 : decode cX7_find 100 = .ok (.getfield 219, 3) := by decide +kernel
theorem dX7_find_103 : decode cX7_find 103 = .ok (.iload 8, 2) := by decide +kernel
theorem dX7_find_105 : decode cX7_find 105 = .ok (.aaload, 1) := by decide +kernel
theorem dX7_find_106 : decode cX7_find 106 = .ok (.astore 9, 2) := by decide +kernel
theorem dX7_find_108 : decode cX7_find 108 = .ok (.aload 9, 2) := by decide +kernel
theorem dX7_find_110 : decode cX7_find 110 = .ok (.getfield 111, 3) := by decide +kernel
theorem dX7_find_113 : decode cX7_find 113 = .ok (.iconst 3, 1) := by decide +kernel
theorem dX7_find_114 : decode cX7_find 114 = .ok (.if_icmp .ne 47, 3) := by decide +kernel
theorem dX7_find_117 : decode cX7_find 117 = .ok (.aload 9, 2) := by decide +kernel
theorem dX7_find_119 : decode cX7_find 119 = .ok (.iload_n 1, 1) := by decide +kernel
theorem dX7_find_120 : decode cX7_find 120 = .ok (.invokevirtual 165, 3) := by decide +kernel
theorem dX7_find_123 : decode cX7_find 123 = .ok (.iload_n 2, 1) := by decide +kernel
theorem dX7_find_124 : decode cX7_find 124 = .ok (.if_icmp .ne 37, 3) := by decide +kernel
theorem dX7_find_127 : decode cX7_find 127 = .ok (.aload 9, 2) := by decide +kernel
theorem dX7_find_129 : decode cX7_find 129 = .ok (.iload_n 3, 1) := by decide +kernel
theorem dX7_find_130 : decode cX7_find 130 = .ok (.iload 4, 2) := by decide +kernel
theorem dX7_find_132 : decode cX7_find 132 = .ok (.invokevirtual 205, 3) := by decide +kernel
theorem dX7_find_135 : decode cX7_find 135 = .ok (.ifCond .eq 26, 3) := by decide +kernel
theorem dX7_find_138 : decode cX7_find 138 = .ok (.aload 6, 2) := by decide +kernel
theorem dX7_find_140 : decode cX7_find 140 = .ok (.iload 7, 2) := by decide +kernel
theorem dX7_find_142 : decode cX7_find 142 = .ok (.invokevirtual 223, 3) := by decide +kernel
theorem dX7_find_145 : decode cX7_find 145 = .ok (.ifCond .eq 13, 3) := by decide +kernel
theorem dX7_find_148 : decode cX7_find 148 = .ok (.aload 6, 2) := by decide +kernel
theorem dX7_find_150 : decode cX7_find 150 = .ok (.iload 7, 2) := by decide +kernel
theorem dX7_find_152 : decode cX7_find 152 = .ok (.iload 8, 2) := by decide +kernel
theorem dX7_find_154 : decode cX7_find 154 = .ok (.i2l, 1) := by decide +kernel
theorem dX7_find_155 : decode cX7_find 155 = .ok (.invokevirtual 79, 3) := by decide +kernel
theorem dX7_find_158 : decode cX7_find 158 = .ok (.iinc 7 1, 3) := by decide +kernel
theorem dX7_find_161 : decode cX7_find 161 = .ok (.iinc 8 1, 3) := by decide +kernel
theorem dX7_find_164 : decode cX7_find 164 = .ok (.goto (-80), 3) := by decide +kernel
theorem dX7_find_167 : decode cX7_find 167 = .ok (.aload_n 0, 1) := by decide +kernel
theorem dX7_find_168 : decode cX7_find 168 = .ok (.iload 7, 2) := by decide +kernel
theorem dX7_find_170 : decode cX7_find 170 = .ok (.invokevirtual 126, 3) := by decide +kernel
theorem dX7_find_173 : decode cX7_find 173 = .ok (.ireturn, 1) := by decide +kernel
theorem dX7_mark_0 : decode cX7_mark 0 = .ok (.aload_n 0, 1) := by decide +kernel
theorem dX7_mark_1 : decode cX7_mark 1 = .ok (.getfield 18, 3) := by decide +kernel
theorem dX7_mark_4 : decode cX7_mark 4 = .ok (.iload_n 1, 1) := by decide +kernel
theorem dX7_mark_5 : decode cX7_mark 5 = .ok (.invokevirtual 107, 3) := by decide +kernel
theorem dX7_mark_8 : decode cX7_mark 8 = .ok (.astore_n 3, 1) := by decide +kernel
theorem dX7_mark_9 : decode cX7_mark 9 = .ok (.aload_n 3, 1) := by decide +kernel
theorem dX7_mark_10 : decode cX7_mark 10 = .ok (.ifnonnull 9, 3) := by decide +kernel
theorem dX7_mark_13 : decode cX7_mark 13 = .ok (.aload_n 0, 1) := by decide +kernel
theorem dX7_mark_14 : decode cX7_mark 14 = .ok (.iconst 2, 1) := by decide +kernel
theorem dX7_mark_15 : decode cX7_mark 15 = .ok (.invokevirtual 63, 3) := by decide +kernel
theorem dX7_mark_18 : decode cX7_mark 18 = .ok (.ireturn, 1) := by decide +kernel
theorem dX7_mark_19 : decode cX7_mark 19 = .ok (.iload_n 2, 1) := by decide +kernel
theorem dX7_mark_20 : decode cX7_mark 20 = .ok (.iconst (-1), 1) := by decide +kernel
theorem dX7_mark_21 : decode cX7_mark 21 = .ok (.sipush 9999, 3) := by decide +kernel
theorem dX7_mark_24 : decode cX7_mark 24 = .ok (.invokestatic 59, 3) := by decide +kernel
theorem dX7_mark_27 : decode cX7_mark 27 = .ok (.ifCond .ne 9, 3) := by decide +kernel
theorem dX7_mark_30 : decode cX7_mark 30 = .ok (.aload_n 0, 1) := by decide +kernel
theorem dX7_mark_31 : decode cX7_mark 31 = .ok (.iconst 5, 1) := by decide +kernel
theorem dX7_mark_32 : decode cX7_mark 32 = .ok (.invokevirtual 63, 3) := by decide +kernel
theorem dX7_mark_35 : decode cX7_mark 35 = .ok (.ireturn, 1) := by decide +kernel
theorem dX7_mark_36 : decode cX7_mark 36 = .ok (.iload_n 2, 1) := by decide +kernel
theorem dX7_mark_37 : decode cX7_mark 37 = .ok (.iconst (-1), 1) := by decide +kernel
theorem dX7_mark_38 : decode cX7_mark 38 = .ok (.if_icmp .eq 22, 3) := by decide +kernel
theorem dX7_mark_41 : decode cX7_mark 41 = .ok (.aload_n 0, 1) := by decide +kernel
theorem dX7_mark_42 : decode cX7_mark 42 = .ok (.getfield 18, 3) := by decide +kernel
theorem dX7_mark_45 : decode cX7_mark 45 = .ok (.iload_n 2, 1) := by decide +kernel
theorem dX7_mark_46 : decode cX7_mark 46 = .ok (.aload_n 3, 1) := by decide +kernel
theorem dX7_mark_47 : decode cX7_mark 47 = .ok (.invokevirtual 226, 3) := by decide +kernel
theorem dX7_mark_50 : decode cX7_mark 50 = .ok (.ifCond .eq 10, 3) := by decide +kernel
theorem dX7_mark_53 : decode cX7_mark 53 = .ok (.aload_n 0, 1) := by decide +kernel
theorem dX7_mark_54 : decode cX7_mark 54 = .ok (.bipush 10, 2) := by decide +kernel
theorem dX7_mark_56 : decode cX7_mark 56 = .ok (.invokevirtual 63, 3) := by decide +kernel
theorem dX7_mark_59 : decode cX7_mark 59 = .ok (.ireturn, 1) := by decide +kernel
theorem dX7_mark_60 : decode cX7_mark 60 = .ok (.aload_n 3, 1) := by decide +kernel
theorem dX7_mark_61 : decode cX7_mark 61 = .ok (.iload_n 2, 1) := by decide +kernel
theorem dX7_mark_62 : decode cX7_mark 62 = .ok (.putfield 156, 3) := by decide +kernel
theorem dX7_mark_65 : decode cX7_mark 65 = .ok (.aload_n 0, 1) := by decide +kernel
theorem dX7_mark_66 : decode cX7_mark 66 = .ok (.invokevirtual 71, 3) := by decide +kernel
theorem dX7_mark_69 : decode cX7_mark 69 = .ok (.ireturn, 1) := by decide +kernel
theorem dX7_walk_0 : decode cX7_walk 0 = .ok (.iload_n 2, 1) := by decide +kernel
theorem dX7_walk_1 : decode cX7_walk 1 = .ok (.invokestatic 199, 3) := by decide +kernel
theorem dX7_walk_4 : decode cX7_walk 4 = .ok (.ifCond .ne 9, 3) := by decide +kernel
theorem dX7_walk_7 : decode cX7_walk 7 = .ok (.aload_n 0, 1) := by decide +kernel
theorem dX7_walk_8 : decode cX7_walk 8 = .ok (.iconst 2, 1) := by decide +kernel
theorem dX7_walk_9 : decode cX7_walk 9 = .ok (.invokevirtual 83, 3) := by decide +kernel
theorem dX7_walk_12 : decode cX7_walk 12 = .ok (.ireturn, 1) := by decide +kernel
theorem dX7_walk_13 : decode cX7_walk 13 = .ok (.iload_n 1, 1) := by decide +kernel
theorem dX7_walk_14 : decode cX7_walk 14 = .ok (.ifCond .lt 10, 3) := by decide +kernel
theorem dX7_walk_17 : decode cX7_walk 17 = .ok (.iload_n 3, 1) := by decide +kernel
theorem dX7_walk_18 : decode cX7_walk 18 = .ok (.invokestatic 202, 3) := by decide +kernel
theorem dX7_walk_21 : decode cX7_walk 21 = .ok (.ifCond .ne 9, 3) := by decide +kernel
theorem dX7_walk_24 : decode cX7_walk 24 = .ok (.aload_n 0, 1) := by decide +kernel
theorem dX7_walk_25 : decode cX7_walk 25 = .ok (.iconst 5, 1) := by decide +kernel
theorem dX7_walk_26 : decode cX7_walk 26 = .ok (.invokevirtual 83, 3) := by decide +kernel
theorem dX7_walk_29 : decode cX7_walk 29 = .ok (.ireturn, 1) := by decide +kernel
theorem dX7_walk_30 : decode cX7_walk 30 = .ok (.aload_n 0, 1) := by decide +kernel
theorem dX7_walk_31 : decode cX7_walk 31 = .ok (.getfield 18, 3) := by decide +kernel
theorem dX7_walk_34 : decode cX7_walk 34 = .ok (.iload_n 2, 1) := by decide +kernel
theorem dX7_walk_35 : decode cX7_walk 35 = .ok (.iload_n 3, 1) := by decide +kernel
theorem dX7_walk_36 : decode cX7_walk 36 = .ok (.invokevirtual 230, 3) := by decide +kernel
theorem dX7_walk_39 : decode cX7_walk 39 = .ok (.istore 4, 2) := by decide +kernel
theorem dX7_walk_41 : decode cX7_walk 41 = .ok (.iload_n 1, 1) := by decide +kernel
theorem dX7_walk_42 : decode cX7_walk 42 = .ok (.iload 4, 2) := by decide +kernel
theorem dX7_walk_44 : decode cX7_walk 44 = .ok (.if_icmp .ge 22, 3) := by decide +kernel
theorem dX7_walk_47 : decode cX7_walk 47 = .ok (.aload_n 0, 1) := by decide +kernel
theorem dX7_walk_48 : decode cX7_walk 48 = .ok (.aload_n 0, 1) := by decide +kernel
theorem dX7_walk_49 : decode cX7_walk 49 = .ok (.getfield 18, 3) := by decide +kernel
theorem dX7_walk_52 : decode cX7_walk 52 = .ok (.getfield 234, 3) := by decide +kernel
theorem dX7_walk_55 : decode cX7_walk 55 = .ok (.iload_n 1, 1) := by decide +kernel
theorem dX7_walk_56 : decode cX7_walk 56 = .ok (.aaload, 1) := by decide +kernel
theorem dX7_walk_57 : decode cX7_walk 57 = .ok (.getfield 133, 3) := by decide +kernel
theorem dX7_walk_60 : decode cX7_walk 60 = .ok (.invokevirtual 126, 3) := by decide +kernel
theorem dX7_walk_63 : decode cX7_walk 63 = .ok (.goto 9, 3) := by decide +kernel
theorem dX7_walk_66 : decode cX7_walk 66 = .ok (.aload_n 0, 1) := by decide +kernel
theorem dX7_walk_67 : decode cX7_walk 67 = .ok (.bipush 9, 2) := by decide +kernel
theorem dX7_walk_69 : decode cX7_walk 69 = .ok (.invokevirtual 83, 3) := by decide +kernel
theorem dX7_walk_72 : decode cX7_walk 72 = .ok (.ireturn, 1) := by decide +kernel
theorem dX7_fetch_0 : decode cX7_fetch 0 = .ok (.aload_n 0, 1) := by decide +kernel
theorem dX7_fetch_1 : decode cX7_fetch 1 = .ok (.getfield 18, 3) := by decide +kernel
theorem dX7_fetch_4 : decode cX7_fetch 4 = .ok (.iload_n 1, 1) := by decide +kernel
theorem dX7_fetch_5 : decode cX7_fetch 5 = .ok (.invokevirtual 107, 3) := by decide +kernel
theorem dX7_fetch_8 : decode cX7_fetch 8 = .ok (.ifnull 10, 3) := by decide +kernel
theorem dX7_fetch_11 : decode cX7_fetch 11 = .ok (.iload_n 2, 1) := by decide +kernel
theorem dX7_fetch_12 : decode cX7_fetch 12 = .ok (.invokestatic 199, 3) := by decide +kernel
theorem dX7_fetch_15 : decode cX7_fetch 15 = .ok (.ifCond .ne 9, 3) := by decide +kernel
theorem dX7_fetch_18 : decode cX7_fetch 18 = .ok (.aload_n 0, 1) := by decide +kernel
theorem dX7_fetch_19 : decode cX7_fetch 19 = .ok (.iconst 2, 1) := by decide +kernel
theorem dX7_fetch_20 : decode cX7_fetch 20 = .ok (.invokevirtual 63, 3) := by decide +kernel
theorem dX7_fetch_23 : decode cX7_fetch 23 = .ok (.ireturn, 1) := by decide +kernel
theorem dX7_fetch_24 : decode cX7_fetch 24 = .ok (.aload_n 0, 1) := by decide +kernel
theorem dX7_fetch_25 : decode cX7_fetch 25 = .ok (.getfield 25, 3) := by decide +kernel
theorem dX7_fetch_28 : decode cX7_fetch 28 = .ok (.iload_n 3, 1) := by decide +kernel
theorem dX7_fetch_29 : decode cX7_fetch 29 = .ok (.invokevirtual 237, 3) := by decide +kernel
theorem dX7_fetch_32 : decode cX7_fetch 32 = .ok (.istore 4, 2) := by decide +kernel
theorem dX7_fetch_34 : decode cX7_fetch 34 = .ok (.iload 4, 2) := by decide +kernel
theorem dX7_fetch_36 : decode cX7_fetch 36 = .ok (.ifCond .eq 10, 3) := by decide +kernel
theorem dX7_fetch_39 : decode cX7_fetch 39 = .ok (.aload_n 0, 1) := by decide +kernel
theorem dX7_fetch_40 : decode cX7_fetch 40 = .ok (.iload 4, 2) := by decide +kernel
theorem dX7_fetch_42 : decode cX7_fetch 42 = .ok (.invokevirtual 63, 3) := by decide +kernel
theorem dX7_fetch_45 : decode cX7_fetch 45 = .ok (.ireturn, 1) := by decide +kernel
theorem dX7_fetch_46 : decode cX7_fetch 46 = .ok (.aload_n 0, 1) := by decide +kernel
theorem dX7_fetch_47 : decode cX7_fetch 47 = .ok (.getfield 25, 3) := by decide +kernel
theorem dX7_fetch_50 : decode cX7_fetch 50 = .ok (.iload_n 1, 1) := by decide +kernel
theorem dX7_fetch_51 : decode cX7_fetch 51 = .ok (.iload_n 3, 1) := by decide +kernel
theorem dX7_fetch_52 : decode cX7_fetch 52 = .ok (.invokevirtual 240, 3) := by decide +kernel
theorem dX7_fetch_55 : decode cX7_fetch 55 = .ok (.iconst (-1), 1) := by decide +kernel
theorem dX7_fetch_56 : decode cX7_fetch 56 = .ok (.if_icmp .eq 10, 3) := by decide +kernel
theorem dX7_fetch_59 : decode cX7_fetch 59 = .ok (.aload_n 0, 1) := by decide +kernel
theorem dX7_fetch_60 : decode cX7_fetch 60 = .ok (.bipush 10, 2) := by decide +kernel
theorem dX7_fetch_62 : decode cX7_fetch 62 = .ok (.invokevirtual 63, 3) := by decide +kernel
theorem dX7_fetch_65 : decode cX7_fetch 65 = .ok (.ireturn, 1) := by decide +kernel
theorem dX7_fetch_66 : decode cX7_fetch 66 = .ok (.aload_n 0, 1) := by decide +kernel
theorem dX7_fetch_67 : decode cX7_fetch 67 = .ok (.getfield 25, 3) := by decide +kernel
theorem dX7_fetch_70 : decode cX7_fetch 70 = .ok (.iload_n 1, 1) := by decide +kernel
theorem dX7_fetch_71 : decode cX7_fetch 71 = .ok (.iload_n 2, 1) := by decide +kernel
theorem dX7_fetch_72 : decode cX7_fetch 72 = .ok (.iload_n 3, 1) := by decide +kernel
theorem dX7_fetch_73 : decode cX7_fetch 73 = .ok (.invokevirtual 243, 3) := by decide +kernel
theorem dX7_fetch_76 : decode cX7_fetch 76 = .ok (.aload_n 0, 1) := by decide +kernel
theorem dX7_fetch_77 : decode cX7_fetch 77 = .ok (.invokevirtual 71, 3) := by decide +kernel
theorem dX7_fetch_80 : decode cX7_fetch 80 = .ok (.ireturn, 1) := by decide +kernel
theorem dX7_back_0 : decode cX7_back 0 = .ok (.aload_n 0, 1) := by decide +kernel
theorem dX7_back_1 : decode cX7_back 1 = .ok (.getfield 18, 3) := by decide +kernel
theorem dX7_back_4 : decode cX7_back 4 = .ok (.iload_n 1, 1) := by decide +kernel
theorem dX7_back_5 : decode cX7_back 5 = .ok (.invokevirtual 107, 3) := by decide +kernel
theorem dX7_back_8 : decode cX7_back 8 = .ok (.ifnonnull 9, 3) := by decide +kernel
theorem dX7_back_11 : decode cX7_back 11 = .ok (.aload_n 0, 1) := by decide +kernel
theorem dX7_back_12 : decode cX7_back 12 = .ok (.iconst 2, 1) := by decide +kernel
theorem dX7_back_13 : decode cX7_back 13 = .ok (.invokevirtual 63, 3) := by decide +kernel
theorem dX7_back_16 : decode cX7_back 16 = .ok (.ireturn, 1) := by decide +kernel
theorem dX7_back_17 : decode cX7_back 17 = .ok (.aload_n 0, 1) := by decide +kernel
theorem dX7_back_18 : decode cX7_back 18 = .ok (.getfield 25, 3) := by decide +kernel
theorem dX7_back_21 : decode cX7_back 21 = .ok (.iload_n 2, 1) := by decide +kernel
theorem dX7_back_22 : decode cX7_back 22 = .ok (.invokevirtual 237, 3) := by decide +kernel
theorem dX7_back_25 : decode cX7_back 25 = .ok (.istore_n 3, 1) := by decide +kernel
theorem dX7_back_26 : decode cX7_back 26 = .ok (.iload_n 3, 1) := by decide +kernel
theorem dX7_back_27 : decode cX7_back 27 = .ok (.ifCond .eq 9, 3) := by decide +kernel
theorem dX7_back_30 : decode cX7_back 30 = .ok (.aload_n 0, 1) := by decide +kernel
theorem dX7_back_31 : decode cX7_back 31 = .ok (.iload_n 3, 1) := by decide +kernel
theorem dX7_back_32 : decode cX7_back 32 = .ok (.invokevirtual 63, 3) := by decide +kernel
theorem dX7_back_35 : decode cX7_back 35 = .ok (.ireturn, 1) := by decide +kernel
theorem dX7_back_36 : decode cX7_back 36 = .ok (.aload_n 0, 1) := by decide +kernel
theorem dX7_back_37 : decode cX7_back 37 = .ok (.getfield 25, 3) := by decide +kernel
theorem dX7_back_40 : decode cX7_back 40 = .ok (.iload_n 1, 1) := by decide +kernel
theorem dX7_back_41 : decode cX7_back 41 = .ok (.iload_n 2, 1) := by decide +kernel
theorem dX7_back_42 : decode cX7_back 42 = .ok (.invokevirtual 240, 3) := by decide +kernel
theorem dX7_back_45 : decode cX7_back 45 = .ok (.iconst (-1), 1) := by decide +kernel
theorem dX7_back_46 : decode cX7_back 46 = .ok (.if_icmp .ne 10, 3) := by decide +kernel
theorem dX7_back_49 : decode cX7_back 49 = .ok (.aload_n 0, 1) := by decide +kernel
theorem dX7_back_50 : decode cX7_back 50 = .ok (.bipush 10, 2) := by decide +kernel
theorem dX7_back_52 : decode cX7_back 52 = .ok (.invokevirtual 63, 3) := by decide +kernel
theorem dX7_back_55 : decode cX7_back 55 = .ok (.ireturn, 1) := by decide +kernel
theorem dX7_back_56 : decode cX7_back 56 = .ok (.aload_n 0, 1) := by decide +kernel
theorem dX7_back_57 : decode cX7_back 57 = .ok (.getfield 25, 3) := by decide +kernel
theorem dX7_back_60 : decode cX7_back 60 = .ok (.iload_n 1, 1) := by decide +kernel
theorem dX7_back_61 : decode cX7_back 61 = .ok (.iconst (-1), 1) := by decide +kernel
theorem dX7_back_62 : decode cX7_back 62 = .ok (.iload_n 2, 1) := by decide +kernel
theorem dX7_back_63 : decode cX7_back 63 = .ok (.invokevirtual 243, 3) := by decide +kernel
theorem dX7_back_66 : decode cX7_back 66 = .ok (.aload_n 0, 1) := by decide +kernel
theorem dX7_back_67 : decode cX7_back 67 = .ok (.invokevirtual 71, 3) := by decide +kernel
theorem dX7_back_70 : decode cX7_back 70 = .ok (.ireturn, 1) := by decide +kernel
theorem dX7_where_0 : decode cX7_where 0 = .ok (.aload_n 0, 1) := by decide +kernel
theorem dX7_where_1 : decode cX7_where 1 = .ok (.getfield 18, 3) := by decide +kernel
theorem dX7_where_4 : decode cX7_where 4 = .ok (.iload_n 1, 1) := by decide +kernel
theorem dX7_where_5 : decode cX7_where 5 = .ok (.invokevirtual 107, 3) := by decide +kernel
theorem dX7_where_8 : decode cX7_where 8 = .ok (.astore_n 3, 1) := by decide +kernel
theorem dX7_where_9 : decode cX7_where 9 = .ok (.aload_n 3, 1) := by decide +kernel
theorem dX7_where_10 : decode cX7_where 10 = .ok (.ifnonnull 9, 3) := by decide +kernel
theorem dX7_where_13 : decode cX7_where 13 = .ok (.aload_n 0, 1) := by decide +kernel
theorem dX7_where_14 : decode cX7_where 14 = .ok (.iconst 2, 1) := by decide +kernel
theorem dX7_where_15 : decode cX7_where 15 = .ok (.invokevirtual 83, 3) := by decide +kernel
theorem dX7_where_18 : decode cX7_where 18 = .ok (.ireturn, 1) := by decide +kernel
theorem dX7_where_19 : decode cX7_where 19 = .ok (.iload_n 2, 1) := by decide +kernel
theorem dX7_where_20 : decode cX7_where 20 = .ok (.iconst 0, 1) := by decide +kernel
theorem dX7_where_21 : decode cX7_where 21 = .ok (.ldc 168, 2) := by decide +kernel
theorem dX7_where_23 : decode cX7_where 23 = .ok (.invokestatic 59, 3) := by decide +kernel
theorem dX7_where_26 : decode cX7_where 26 = .ok (.ifCond .ne 9, 3) := by decide +kernel
theorem dX7_where_29 : decode cX7_where 29 = .ok (.aload_n 0, 1) := by decide +kernel
theorem dX7_where_30 : decode cX7_where 30 = .ok (.iconst 5, 1) := by decide +kernel
theorem dX7_where_31 : decode cX7_where 31 = .ok (.invokevirtual 83, 3) := by decide +kernel
theorem dX7_where_34 : decode cX7_where 34 = .ok (.ireturn, 1) := by decide +kernel
theorem dX7_where_35 : decode cX7_where 35 = .ok (.iconst (-1), 1) := by decide +kernel
theorem dX7_where_36 : decode cX7_where 36 = .ok (.istore 4, 2) := by decide +kernel
theorem dX7_where_38 : decode cX7_where 38 = .ok (.aload_n 3, 1) := by decide +kernel
theorem dX7_where_39 : decode cX7_where 39 = .ok (.astore 5, 2) := by decide +kernel
theorem dX7_where_41 : decode cX7_where 41 = .ok (.aload 5, 2) := by decide +kernel
theorem dX7_where_43 : decode cX7_where 43 = .ok (.ifnull 34, 3) := by decide +kernel
theorem dX7_where_46 : decode cX7_where 46 = .ok (.iload 4, 2) := by decide +kernel
theorem dX7_where_48 : decode cX7_where 48 = .ok (.iconst (-1), 1) := by decide +kernel
theorem dX7_where_49 : decode cX7_where 49 = .ok (.if_icmp .ne 28, 3) := by decide +kernel
theorem dX7_where_52 : decode cX7_where 52 = .ok (.aload_n 0, 1) := by decide +kernel
theorem dX7_where_53 : decode cX7_where 53 = .ok (.getfield 25, 3) := by decide +kernel
theorem dX7_where_56 : decode cX7_where 56 = .ok (.aload 5, 2) := by decide +kernel
theorem dX7_where_58 : decode cX7_where 58 = .ok (.getfield 133, 3) := by decide +kernel
theorem dX7_where_61 : decode cX7_where 61 = .ok (.iload_n 2, 1) := by decide +kernel
theorem dX7_where_62 : decode cX7_where 62 = .ok (.invokevirtual 240, 3) := by decide +kernel
theorem dX7_where_65 : decode cX7_where 65 = .ok (.istore 4, 2) := by decide +kernel
theorem dX7_where_67 : decode cX7_where 67 = .ok (.aload 5, 2) := by decide +kernel
theorem dX7_where_69 : decode cX7_where 69 = .ok (.getfield 129, 3) := by decide +kernel
theorem dX7_where_72 : decode cX7_where 72 = .ok (.astore 5, 2) := by decide +kernel
theorem dX7_where_74 : decode cX7_where 74 = .ok (.goto (-33), 3) := by decide +kernel
theorem dX7_where_77 : decode cX7_where 77 = .ok (.aload_n 0, 1) := by decide +kernel
theorem dX7_where_78 : decode cX7_where 78 = .ok (.iload 4, 2) := by decide +kernel
theorem dX7_where_80 : decode cX7_where 80 = .ok (.invokevirtual 126, 3) := by decide +kernel
theorem dX7_where_83 : decode cX7_where 83 = .ok (.ireturn, 1) := by decide +kernel
theorem dX7_stand_0 : decode cX7_stand 0 = .ok (.aload_n 0, 1) := by decide +kernel
theorem dX7_stand_1 : decode cX7_stand 1 = .ok (.iload_n 1, 1) := by decide +kernel
theorem dX7_stand_2 : decode cX7_stand 2 = .ok (.iload_n 2, 1) := by decide +kernel
theorem dX7_stand_3 : decode cX7_stand 3 = .ok (.invokevirtual 247, 3) := by decide +kernel
theorem dX7_stand_6 : decode cX7_stand 6 = .ok (.istore_n 3, 1) := by decide +kernel
theorem dX7_stand_7 : decode cX7_stand 7 = .ok (.iload_n 3, 1) := by decide +kernel
theorem dX7_stand_8 : decode cX7_stand 8 = .ok (.ifCond .eq 9, 3) := by decide +kernel
theorem dX7_stand_11 : decode cX7_stand 11 = .ok (.aload_n 0, 1) := by decide +kernel
theorem dX7_stand_12 : decode cX7_stand 12 = .ok (.iload_n 3, 1) := by decide +kernel
theorem dX7_stand_13 : decode cX7_stand 13 = .ok (.invokevirtual 63, 3) := by decide +kernel
theorem dX7_stand_16 : decode cX7_stand 16 = .ok (.ireturn, 1) := by decide +kernel
theorem dX7_stand_17 : decode cX7_stand 17 = .ok (.iload_n 2, 1) := by decide +kernel
theorem dX7_stand_18 : decode cX7_stand 18 = .ok (.iconst (-1), 1) := by decide +kernel
theorem dX7_stand_19 : decode cX7_stand 19 = .ok (.if_icmp .eq 25, 3) := by decide +kernel
theorem dX7_stand_22 : decode cX7_stand 22 = .ok (.aload_n 0, 1) := by decide +kernel
theorem dX7_stand_23 : decode cX7_stand 23 = .ok (.getfield 32, 3) := by decide +kernel
theorem dX7_stand_26 : decode cX7_stand 26 = .ok (.getfield 143, 3) := by decide +kernel
theorem dX7_stand_29 : decode cX7_stand 29 = .ok (.iload_n 1, 1) := by decide +kernel
theorem dX7_stand_30 : decode cX7_stand 30 = .ok (.iload_n 2, 1) := by decide +kernel
theorem dX7_stand_31 : decode cX7_stand 31 = .ok (.invokevirtual 250, 3) := by decide +kernel
theorem dX7_stand_34 : decode cX7_stand 34 = .ok (.ifCond .ne 10, 3) := by decide +kernel
theorem dX7_stand_37 : decode cX7_stand 37 = .ok (.aload_n 0, 1) := by decide +kernel
theorem dX7_stand_38 : decode cX7_stand 38 = .ok (.bipush 10, 2) := by decide +kernel
theorem dX7_stand_40 : decode cX7_stand 40 = .ok (.invokevirtual 63, 3) := by decide +kernel
theorem dX7_stand_43 : decode cX7_stand 43 = .ok (.ireturn, 1) := by decide +kernel
theorem dX7_stand_44 : decode cX7_stand 44 = .ok (.aload_n 0, 1) := by decide +kernel
theorem dX7_stand_45 : decode cX7_stand 45 = .ok (.getfield 32, 3) := by decide +kernel
theorem dX7_stand_48 : decode cX7_stand 48 = .ok (.getfield 143, 3) := by decide +kernel
theorem dX7_stand_51 : decode cX7_stand 51 = .ok (.iload_n 1, 1) := by decide +kernel
theorem dX7_stand_52 : decode cX7_stand 52 = .ok (.iload_n 2, 1) := by decide +kernel
theorem dX7_stand_53 : decode cX7_stand 53 = .ok (.invokevirtual 253, 3) := by decide +kernel
theorem dX7_stand_56 : decode cX7_stand 56 = .ok (.aload_n 0, 1) := by decide +kernel
theorem dX7_stand_57 : decode cX7_stand 57 = .ok (.invokevirtual 71, 3) := by decide +kernel
theorem dX7_stand_60 : decode cX7_stand 60 = .ok (.ireturn, 1) := by decide +kernel
theorem dX7_goal_0 : decode cX7_goal 0 = .ok (.aload_n 0, 1) := by decide +kernel
theorem dX7_goal_1 : decode cX7_goal 1 = .ok (.iload_n 1, 1) := by decide +kernel
theorem dX7_goal_2 : decode cX7_goal 2 = .ok (.iload_n 2, 1) := by decide +kernel
theorem dX7_goal_3 : decode cX7_goal 3 = .ok (.invokevirtual 247, 3) := by decide +kernel
theorem dX7_goal_6 : decode cX7_goal 6 = .ok (.istore_n 3, 1) := by decide +kernel
theorem dX7_goal_7 : decode cX7_goal 7 = .ok (.iload_n 3, 1) := by decide +kernel
theorem dX7_goal_8 : decode cX7_goal 8 = .ok (.ifCond .eq 9, 3) := by decide +kernel
theorem dX7_goal_11 : decode cX7_goal 11 = .ok (.aload_n 0, 1) := by decide +kernel
theorem dX7_goal_12 : decode cX7_goal 12 = .ok (.iload_n 3, 1) := by decide +kernel
theorem dX7_goal_13 : decode cX7_goal 13 = .ok (.invokevirtual 63, 3) := by decide +kernel
theorem dX7_goal_16 : decode cX7_goal 16 = .ok (.ireturn, 1) := by decide +kernel
theorem dX7_goal_17 : decode cX7_goal 17 = .ok (.iload_n 2, 1) := by decide +kernel
theorem dX7_goal_18 : decode cX7_goal 18 = .ok (.iconst (-1), 1) := by decide +kernel
theorem dX7_goal_19 : decode cX7_goal 19 = .ok (.if_icmp .eq 22, 3) := by decide +kernel
theorem dX7_goal_22 : decode cX7_goal 22 = .ok (.aload_n 0, 1) := by decide +kernel
theorem dX7_goal_23 : decode cX7_goal 23 = .ok (.getfield 32, 3) := by decide +kernel
theorem dX7_goal_26 : decode cX7_goal 26 = .ok (.iload_n 2, 1) := by decide +kernel
theorem dX7_goal_27 : decode cX7_goal 27 = .ok (.iload_n 1, 1) := by decide +kernel
theorem dX7_goal_28 : decode cX7_goal 28 = .ok (.invokevirtual 255, 3) := by decide +kernel
theorem dX7_goal_31 : decode cX7_goal 31 = .ok (.ifCond .eq 10, 3) := by decide +kernel
theorem dX7_goal_34 : decode cX7_goal 34 = .ok (.aload_n 0, 1) := by decide +kernel
theorem dX7_goal_35 : decode cX7_goal 35 = .ok (.bipush 10, 2) := by decide +kernel
theorem dX7_goal_37 : decode cX7_goal 37 = .ok (.invokevirtual 63, 3) := by decide +kernel
theorem dX7_goal_40 : decode cX7_goal 40 = .ok (.ireturn, 1) := by decide +kernel
theorem dX7_goal_41 : decode cX7_goal 41 = .ok (.aload_n 0, 1) := by decide +kernel
theorem dX7_goal_42 : decode cX7_goal 42 = .ok (.getfield 32, 3) := by decide +kernel
theorem dX7_goal_45 : decode cX7_goal 45 = .ok (.getfield 153, 3) := by decide +kernel
theorem dX7_goal_48 : decode cX7_goal 48 = .ok (.iload_n 1, 1) := by decide +kernel
theorem dX7_goal_49 : decode cX7_goal 49 = .ok (.iload_n 2, 1) := by decide +kernel
theorem dX7_goal_50 : decode cX7_goal 50 = .ok (.iastore, 1) := by decide +kernel
theorem dX7_goal_51 : decode cX7_goal 51 = .ok (.aload_n 0, 1) := by decide +kernel
theorem dX7_goal_52 : decode cX7_goal 52 = .ok (.invokevirtual 71, 3) := by decide +kernel
theorem dX7_goal_55 : decode cX7_goal 55 = .ok (.ireturn, 1) := by decide +kernel
theorem dX7_plan_0 : decode cX7_plan 0 = .ok (.aload_n 0, 1) := by decide +kernel
theorem dX7_plan_1 : decode cX7_plan 1 = .ok (.getfield 32, 3) := by decide +kernel
theorem dX7_plan_4 : decode cX7_plan 4 = .ok (.invokevirtual 258, 3) := by decide +kernel
theorem dX7_plan_7 : decode cX7_plan 7 = .ok (.ifCond .eq 17, 3) := by decide +kernel
theorem dX7_plan_10 : decode cX7_plan 10 = .ok (.aload_n 0, 1) := by decide +kernel
theorem dX7_plan_11 : decode cX7_plan 11 = .ok (.aload_n 0, 1) := by decide +kernel
theorem dX7_plan_12 : decode cX7_plan 12 = .ok (.getfield 32, 3) := by decide +kernel
theorem dX7_plan_15 : decode cX7_plan 15 = .ok (.getfield 261, 3) := by decide +kernel
theorem dX7_plan_18 : decode cX7_plan 18 = .ok (.invokevirtual 126, 3) := by decide +kernel
theorem dX7_plan_21 : decode cX7_plan 21 = .ok (.goto 9, 3) := by decide +kernel
theorem dX7_plan_24 : decode cX7_plan 24 = .ok (.aload_n 0, 1) := by decide +kernel
theorem dX7_plan_25 : decode cX7_plan 25 = .ok (.bipush 12, 2) := by decide +kernel
theorem dX7_plan_27 : decode cX7_plan 27 = .ok (.invokevirtual 83, 3) := by decide +kernel
theorem dX7_plan_30 : decode cX7_plan 30 = .ok (.ireturn, 1) := by decide +kernel
theorem dX7_carry_0 : decode cX7_carry 0 = .ok (.aload_n 0, 1) := by decide +kernel
theorem dX7_carry_1 : decode cX7_carry 1 = .ok (.getfield 32, 3) := by decide +kernel
theorem dX7_carry_4 : decode cX7_carry 4 = .ok (.invokevirtual 258, 3) := by decide +kernel
theorem dX7_carry_7 : decode cX7_carry 7 = .ok (.ifCond .ne 10, 3) := by decide +kernel
theorem dX7_carry_10 : decode cX7_carry 10 = .ok (.aload_n 0, 1) := by decide +kernel
theorem dX7_carry_11 : decode cX7_carry 11 = .ok (.bipush 12, 2) := by decide +kernel
theorem dX7_carry_13 : decode cX7_carry 13 = .ok (.invokevirtual 83, 3) := by decide +kernel
theorem dX7_carry_16 : decode cX7_carry 16 = .ok (.ireturn, 1) := by decide +kernel
theorem dX7_carry_17 : decode cX7_carry 17 = .ok (.iload_n 1, 1) := by decide +kernel
theorem dX7_carry_18 : decode cX7_carry 18 = .ok (.iconst 0, 1) := by decide +kernel
theorem dX7_carry_19 : decode cX7_carry 19 = .ok (.aload_n 0, 1) := by decide +kernel
theorem dX7_carry_20 : decode cX7_carry 20 = .ok (.getfield 32, 3) := by decide +kernel
theorem dX7_carry_23 : decode cX7_carry 23 = .ok (.getfield 261, 3) := by decide +kernel
theorem dX7_carry_26 : decode cX7_carry 26 = .ok (.iconst 1, 1) := by decide +kernel
theorem dX7_carry_27 : decode cX7_carry 27 = .ok (.isub, 1) := by decide +kernel
theorem dX7_carry_28 : decode cX7_carry 28 = .ok (.invokestatic 59, 3) := by decide +kernel
theorem dX7_carry_31 : decode cX7_carry 31 = .ok (.ifCond .ne 10, 3) := by decide +kernel
theorem dX7_carry_34 : decode cX7_carry 34 = .ok (.aload_n 0, 1) := by decide +kernel
theorem dX7_carry_35 : decode cX7_carry 35 = .ok (.bipush 9, 2) := by decide +kernel
theorem dX7_carry_37 : decode cX7_carry 37 = .ok (.invokevirtual 83, 3) := by decide +kernel
theorem dX7_carry_40 : decode cX7_carry 40 = .ok (.ireturn, 1) := by decide +kernel
theorem dX7_carry_41 : decode cX7_carry 41 = .ok (.iload_n 2, 1) := by decide +kernel
theorem dX7_carry_42 : decode cX7_carry 42 = .ok (.tableswitch 68 0 2 #[26, 40, 54], 26) := by decide +kernel
theorem dX7_carry_68 : decode cX7_carry 68 = .ok (.aload_n 0, 1) := by decide +kernel
theorem dX7_carry_69 : decode cX7_carry 69 = .ok (.aload_n 0, 1) := by decide +kernel
theorem dX7_carry_70 : decode cX7_carry 70 = .ok (.getfield 32, 3) := by decide +kernel
theorem dX7_carry_73 : decode cX7_carry 73 = .ok (.getfield 264, 3) := by decide +kernel
theorem dX7_carry_76 : decode cX7_carry 76 = .ok (.iload_n 1, 1) := by decide +kernel
theorem dX7_carry_77 : decode cX7_carry 77 = .ok (.iaload, 1) := by decide +kernel
theorem dX7_carry_78 : decode cX7_carry 78 = .ok (.invokevirtual 126, 3) := by decide +kernel
theorem dX7_carry_81 : decode cX7_carry 81 = .ok (.ireturn, 1) := by decide +kernel
theorem dX7_carry_82 : decode cX7_carry 82 = .ok (.aload_n 0, 1) := by decide +kernel
theorem dX7_carry_83 : decode cX7_carry 83 = .ok (.aload_n 0, 1) := by decide +kernel
theorem dX7_carry_84 : decode cX7_carry 84 = .ok (.getfield 32, 3) := by decide +kernel
theorem dX7_carry_87 : decode cX7_carry 87 = .ok (.getfield 267, 3) := by decide +kernel
theorem dX7_carry_90 : decode cX7_carry 90 = .ok (.iload_n 1, 1) := by decide +kernel
theorem dX7_carry_91 : decode cX7_carry 91 = .ok (.iaload, 1) := by decide +kernel
theorem dX7_carry_92 : decode cX7_carry 92 = .ok (.invokevirtual 126, 3) := by decide +kernel
theorem dX7_carry_95 : decode cX7_carry 95 = .ok (.ireturn, 1) := by decide +kernel
theorem dX7_carry_96 : decode cX7_carry 96 = .ok (.aload_n 0, 1) := by decide +kernel
theorem dX7_carry_97 : decode cX7_carry 97 = .ok (.aload_n 0, 1) := by decide +kernel
theorem dX7_carry_98 : decode cX7_carry 98 = .ok (.getfield 32, 3) := by decide +kernel
theorem dX7_carry_101 : decode cX7_carry 101 = .ok (.getfield 270, 3) := by decide +kernel
theorem dX7_carry_104 : decode cX7_carry 104 = .ok (.iload_n 1, 1) := by decide +kernel
theorem dX7_carry_105 : decode cX7_carry 105 = .ok (.iaload, 1) := by decide +kernel
theorem dX7_carry_106 : decode cX7_carry 106 = .ok (.invokevirtual 126, 3) := by decide +kernel
theorem dX7_carry_109 : decode cX7_carry 109 = .ok (.ireturn, 1) := by decide +kernel
theorem dX7_carry_110 : decode cX7_carry 110 = .ok (.aload_n 0, 1) := by decide +kernel
theorem dX7_carry_111 : decode cX7_carry 111 = .ok (.iconst 5, 1) := by decide +kernel
theorem dX7_carry_112 : decode cX7_carry 112 = .ok (.invokevirtual 83, 3) := by decide +kernel
theorem dX7_carry_115 : decode cX7_carry 115 = .ok (.ireturn, 1) := by decide +kernel
theorem dX7_carried_0 : decode cX7_carried 0 = .ok (.aload_n 0, 1) := by decide +kernel
theorem dX7_carried_1 : decode cX7_carried 1 = .ok (.getfield 32, 3) := by decide +kernel
theorem dX7_carried_4 : decode cX7_carried 4 = .ok (.invokevirtual 258, 3) := by decide +kernel
theorem dX7_carried_7 : decode cX7_carried 7 = .ok (.ifCond .ne 10, 3) := by decide +kernel
theorem dX7_carried_10 : decode cX7_carried 10 = .ok (.aload_n 0, 1) := by decide +kernel
theorem dX7_carried_11 : decode cX7_carried 11 = .ok (.bipush 12, 2) := by decide +kernel
theorem dX7_carried_13 : decode cX7_carried 13 = .ok (.invokevirtual 63, 3) := by decide +kernel
theorem dX7_carried_16 : decode cX7_carried 16 = .ok (.ireturn, 1) := by decide +kernel
theorem dX7_carried_17 : decode cX7_carried 17 = .ok (.aload_n 0, 1) := by decide +kernel
theorem dX7_carried_18 : decode cX7_carried 18 = .ok (.getfield 32, 3) := by decide +kernel
theorem dX7_carried_21 : decode cX7_carried 21 = .ok (.getfield 143, 3) := by decide +kernel
theorem dX7_carried_24 : decode cX7_carried 24 = .ok (.aload_n 0, 1) := by decide +kernel
theorem dX7_carried_25 : decode cX7_carried 25 = .ok (.getfield 32, 3) := by decide +kernel
theorem dX7_carried_28 : decode cX7_carried 28 = .ok (.getfield 273, 3) := by decide +kernel
theorem dX7_carried_31 : decode cX7_carried 31 = .ok (.invokevirtual 276, 3) := by decide +kernel
theorem dX7_carried_34 : decode cX7_carried 34 = .ok (.aload_n 0, 1) := by decide +kernel
theorem dX7_carried_35 : decode cX7_carried 35 = .ok (.invokevirtual 71, 3) := by decide +kernel
theorem dX7_carried_38 : decode cX7_carried 38 = .ok (.ireturn, 1) := by decide +kernel
theorem dX7_search_0 : decode cX7_search 0 = .ok (.aload_n 0, 1) := by decide +kernel
theorem dX7_search_1 : decode cX7_search 1 = .ok (.iload_n 1, 1) := by decide +kernel
theorem dX7_search_2 : decode cX7_search 2 = .ok (.invokevirtual 55, 3) := by decide +kernel
theorem dX7_search_5 : decode cX7_search 5 = .ok (.astore 4, 2) := by decide +kernel
theorem dX7_search_7 : decode cX7_search 7 = .ok (.aload 4, 2) := by decide +kernel
theorem dX7_search_9 : decode cX7_search 9 = .ok (.ifnonnull 9, 3) := by decide +kernel
theorem dX7_search_12 : decode cX7_search 12 = .ok (.aload_n 0, 1) := by decide +kernel
theorem dX7_search_13 : decode cX7_search 13 = .ok (.iconst 1, 1) := by decide +kernel
theorem dX7_search_14 : decode cX7_search 14 = .ok (.invokevirtual 83, 3) := by decide +kernel
theorem dX7_search_17 : decode cX7_search 17 = .ok (.ireturn, 1) := by decide +kernel
theorem dX7_search_18 : decode cX7_search 18 = .ok (.aload 4, 2) := by decide +kernel
theorem dX7_search_20 : decode cX7_search 20 = .ok (.invokevirtual 91, 3) := by decide +kernel
theorem dX7_search_23 : decode cX7_search 23 = .ok (.ifCond .eq 9, 3) := by decide +kernel
theorem dX7_search_26 : decode cX7_search 26 = .ok (.aload_n 0, 1) := by decide +kernel
theorem dX7_search_27 : decode cX7_search 27 = .ok (.iconst 3, 1) := by decide +kernel
theorem dX7_search_28 : decode cX7_search 28 = .ok (.invokevirtual 83, 3) := by decide +kernel
theorem dX7_search_31 : decode cX7_search 31 = .ok (.ireturn, 1) := by decide +kernel
theorem dX7_search_32 : decode cX7_search 32 = .ok (.iload_n 2, 1) := by decide +kernel
theorem dX7_search_33 : decode cX7_search 33 = .ok (.iconst 1, 1) := by decide +kernel
theorem dX7_search_34 : decode cX7_search 34 = .ok (.bipush 20, 2) := by decide +kernel
theorem dX7_search_36 : decode cX7_search 36 = .ok (.invokestatic 59, 3) := by decide +kernel
theorem dX7_search_39 : decode cX7_search 39 = .ok (.ifCond .ne 9, 3) := by decide +kernel
theorem dX7_search_42 : decode cX7_search 42 = .ok (.aload_n 0, 1) := by decide +kernel
theorem dX7_search_43 : decode cX7_search 43 = .ok (.iconst 5, 1) := by decide +kernel
theorem dX7_search_44 : decode cX7_search 44 = .ok (.invokevirtual 83, 3) := by decide +kernel
theorem dX7_search_47 : decode cX7_search 47 = .ok (.ireturn, 1) := by decide +kernel
theorem dX7_search_48 : decode cX7_search 48 = .ok (.aload 4, 2) := by decide +kernel
theorem dX7_search_50 : decode cX7_search 50 = .ok (.iconst 0, 1) := by decide +kernel
theorem dX7_search_51 : decode cX7_search 51 = .ok (.iconst 2, 1) := by decide +kernel
theorem dX7_search_52 : decode cX7_search 52 = .ok (.iload_n 2, 1) := by decide +kernel
theorem dX7_search_53 : decode cX7_search 53 = .ok (.imul, 1) := by decide +kernel
theorem dX7_search_54 : decode cX7_search 54 = .ok (.invokevirtual 97, 3) := by decide +kernel
theorem dX7_search_57 : decode cX7_search 57 = .ok (.ifCond .ne 9, 3) := by decide +kernel
theorem dX7_search_60 : decode cX7_search 60 = .ok (.aload_n 0, 1) := by decide +kernel
theorem dX7_search_61 : decode cX7_search 61 = .ok (.iconst 4, 1) := by decide +kernel
theorem dX7_search_62 : decode cX7_search 62 = .ok (.invokevirtual 83, 3) := by decide +kernel
theorem dX7_search_65 : decode cX7_search 65 = .ok (.ireturn, 1) := by decide +kernel
theorem dX7_search_66 : decode cX7_search 66 = .ok (.aload_n 0, 1) := by decide +kernel
theorem dX7_search_67 : decode cX7_search 67 = .ok (.getfield 39, 3) := by decide +kernel
theorem dX7_search_70 : decode cX7_search 70 = .ok (.aload 4, 2) := by decide +kernel
theorem dX7_search_72 : decode cX7_search 72 = .ok (.getfield 87, 3) := by decide +kernel
theorem dX7_search_75 : decode cX7_search 75 = .ok (.iload_n 2, 1) := by decide +kernel
theorem dX7_search_76 : decode cX7_search 76 = .ok (.invokevirtual 280, 3) := by decide +kernel
theorem dX7_search_79 : decode cX7_search 79 = .ok (.ifCond .ne 9, 3) := by decide +kernel
theorem dX7_search_82 : decode cX7_search 82 = .ok (.aload_n 0, 1) := by decide +kernel
theorem dX7_search_83 : decode cX7_search 83 = .ok (.iconst 5, 1) := by decide +kernel
theorem dX7_search_84 : decode cX7_search 84 = .ok (.invokevirtual 83, 3) := by decide +kernel
theorem dX7_search_87 : decode cX7_search 87 = .ok (.ireturn, 1) := by decide +kernel
theorem dX7_search_88 : decode cX7_search 88 = .ok (.iload_n 3, 1) := by decide +kernel
theorem dX7_search_89 : decode cX7_search 89 = .ok (.iconst 0, 1) := by decide +kernel
theorem dX7_search_90 : decode cX7_search 90 = .ok (.iload_n 2, 1) := by decide +kernel
theorem dX7_search_91 : decode cX7_search 91 = .ok (.iconst 1, 1) := by decide +kernel
theorem dX7_search_92 : decode cX7_search 92 = .ok (.isub, 1) := by decide +kernel
theorem dX7_search_93 : decode cX7_search 93 = .ok (.invokestatic 59, 3) := by decide +kernel
theorem dX7_search_96 : decode cX7_search 96 = .ok (.ifCond .ne 10, 3) := by decide +kernel
theorem dX7_search_99 : decode cX7_search 99 = .ok (.aload_n 0, 1) := by decide +kernel
theorem dX7_search_100 : decode cX7_search 100 = .ok (.bipush 9, 2) := by decide +kernel
theorem dX7_search_102 : decode cX7_search 102 = .ok (.invokevirtual 83, 3) := by decide +kernel
theorem dX7_search_105 : decode cX7_search 105 = .ok (.ireturn, 1) := by decide +kernel
theorem dX7_search_106 : decode cX7_search 106 = .ok (.aload_n 0, 1) := by decide +kernel
theorem dX7_search_107 : decode cX7_search 107 = .ok (.getfield 39, 3) := by decide +kernel
theorem dX7_search_110 : decode cX7_search 110 = .ok (.invokevirtual 284, 3) := by decide +kernel
theorem dX7_search_113 : decode cX7_search 113 = .ok (.aload_n 0, 1) := by decide +kernel
theorem dX7_search_114 : decode cX7_search 114 = .ok (.aload_n 0, 1) := by decide +kernel
theorem dX7_search_115 : decode cX7_search 115 = .ok (.getfield 39, 3) := by decide +kernel
theorem dX7_search_118 : decode cX7_search 118 = .ok (.invokevirtual 287, 3) := by decide +kernel
theorem dX7_search_121 : decode cX7_search 121 = .ok (.aload_n 0, 1) := by decide +kernel
theorem dX7_search_122 : decode cX7_search 122 = .ok (.getfield 39, 3) := by decide +kernel
theorem dX7_search_125 : decode cX7_search 125 = .ok (.invokevirtual 291, 3) := by decide +kernel
theorem dX7_search_128 : decode cX7_search 128 = .ok (.invokevirtual 294, 3) := by decide +kernel
theorem dX7_search_131 : decode cX7_search 131 = .ok (.aload_n 0, 1) := by decide +kernel
theorem dX7_search_132 : decode cX7_search 132 = .ok (.aload_n 0, 1) := by decide +kernel
theorem dX7_search_133 : decode cX7_search 133 = .ok (.getfield 39, 3) := by decide +kernel
theorem dX7_search_136 : decode cX7_search 136 = .ok (.getfield 298, 3) := by decide +kernel
theorem dX7_search_139 : decode cX7_search 139 = .ok (.iload_n 3, 1) := by decide +kernel
theorem dX7_search_140 : decode cX7_search 140 = .ok (.iaload, 1) := by decide +kernel
theorem dX7_search_141 : decode cX7_search 141 = .ok (.invokevirtual 126, 3) := by decide +kernel
theorem dX7_search_144 : decode cX7_search 144 = .ok (.ireturn, 1) := by decide +kernel
theorem dX7_upper_0 : decode cX7_upper 0 = .ok (.aload_n 0, 1) := by decide +kernel
theorem dX7_upper_1 : decode cX7_upper 1 = .ok (.getfield 47, 3) := by decide +kernel
theorem dX7_upper_4 : decode cX7_upper 4 = .ok (.lreturn, 1) := by decide +kernel
theorem dX7_lower_0 : decode cX7_lower 0 = .ok (.aload_n 0, 1) := by decide +kernel
theorem dX7_lower_1 : decode cX7_lower 1 = .ok (.getfield 51, 3) := by decide +kernel
theorem dX7_lower_4 : decode cX7_lower 4 = .ok (.lreturn, 1) := by decide +kernel
theorem dX7_refuse_0 : decode cX7_refuse 0 = .ok (.aload_n 0, 1) := by decide +kernel
theorem dX7_refuse_1 : decode cX7_refuse 1 = .ok (.iload_n 1, 1) := by decide +kernel
theorem dX7_refuse_2 : decode cX7_refuse 2 = .ok (.putfield 43, 3) := by decide +kernel
theorem dX7_refuse_5 : decode cX7_refuse 5 = .ok (.iconst (-1), 1) := by decide +kernel
theorem dX7_refuse_6 : decode cX7_refuse 6 = .ok (.ireturn, 1) := by decide +kernel
theorem dX7_deny_0 : decode cX7_deny 0 = .ok (.aload_n 0, 1) := by decide +kernel
theorem dX7_deny_1 : decode cX7_deny 1 = .ok (.iload_n 1, 1) := by decide +kernel
theorem dX7_deny_2 : decode cX7_deny 2 = .ok (.putfield 43, 3) := by decide +kernel
theorem dX7_deny_5 : decode cX7_deny 5 = .ok (.iconst 0, 1) := by decide +kernel
theorem dX7_deny_6 : decode cX7_deny 6 = .ok (.ireturn, 1) := by decide +kernel
theorem dX7_answer_0 : decode cX7_answer 0 = .ok (.aload_n 0, 1) := by decide +kernel
theorem dX7_answer_1 : decode cX7_answer 1 = .ok (.iconst 0, 1) := by decide +kernel
theorem dX7_answer_2 : decode cX7_answer 2 = .ok (.putfield 43, 3) := by decide +kernel
theorem dX7_answer_5 : decode cX7_answer 5 = .ok (.iload_n 1, 1) := by decide +kernel
theorem dX7_answer_6 : decode cX7_answer 6 = .ok (.ireturn, 1) := by decide +kernel
theorem dX7_grant_0 : decode cX7_grant 0 = .ok (.aload_n 0, 1) := by decide +kernel
theorem dX7_grant_1 : decode cX7_grant 1 = .ok (.iconst 0, 1) := by decide +kernel
theorem dX7_grant_2 : decode cX7_grant 2 = .ok (.putfield 43, 3) := by decide +kernel
theorem dX7_grant_5 : decode cX7_grant 5 = .ok (.iconst 1, 1) := by decide +kernel
theorem dX7_grant_6 : decode cX7_grant 6 = .ok (.ireturn, 1) := by decide +kernel
theorem dX7_trayAt_0 : decode cX7_trayAt 0 = .ok (.iload_n 1, 1) := by decide +kernel
theorem dX7_trayAt_1 : decode cX7_trayAt 1 = .ok (.iconst 0, 1) := by decide +kernel
theorem dX7_trayAt_2 : decode cX7_trayAt 2 = .ok (.iconst 3, 1) := by decide +kernel
theorem dX7_trayAt_3 : decode cX7_trayAt 3 = .ok (.invokestatic 59, 3) := by decide +kernel
theorem dX7_trayAt_6 : decode cX7_trayAt 6 = .ok (.ifCond .eq 12, 3) := by decide +kernel
theorem dX7_trayAt_9 : decode cX7_trayAt 9 = .ok (.aload_n 0, 1) := by decide +kernel
theorem dX7_trayAt_10 : decode cX7_trayAt 10 = .ok (.getfield 11, 3) := by decide +kernel
theorem dX7_trayAt_13 : decode cX7_trayAt 13 = .ok (.iload_n 1, 1) := by decide +kernel
theorem dX7_trayAt_14 : decode cX7_trayAt 14 = .ok (.aaload, 1) := by decide +kernel
theorem dX7_trayAt_15 : decode cX7_trayAt 15 = .ok (.goto 4, 3) := by decide +kernel
theorem dX7_trayAt_18 : decode cX7_trayAt 18 = .ok (.aconst_null, 1) := by decide +kernel
theorem dX7_trayAt_19 : decode cX7_trayAt 19 = .ok (.areturn, 1) := by decide +kernel
theorem dX7_whyNotIn_0 : decode cX7_whyNotIn 0 = .ok (.aload_n 0, 1) := by decide +kernel
theorem dX7_whyNotIn_1 : decode cX7_whyNotIn 1 = .ok (.ifnonnull 5, 3) := by decide +kernel
theorem dX7_whyNotIn_4 : decode cX7_whyNotIn 4 = .ok (.iconst 1, 1) := by decide +kernel
theorem dX7_whyNotIn_5 : decode cX7_whyNotIn 5 = .ok (.ireturn, 1) := by decide +kernel
theorem dX7_whyNotIn_6 : decode cX7_whyNotIn 6 = .ok (.aload_n 0, 1) := by decide +kernel
theorem dX7_whyNotIn_7 : decode cX7_whyNotIn 7 = .ok (.invokevirtual 91, 3) := by decide +kernel
theorem dX7_whyNotIn_10 : decode cX7_whyNotIn 10 = .ok (.ifCond .eq 5, 3) := by decide +kernel
theorem dX7_whyNotIn_13 : decode cX7_whyNotIn 13 = .ok (.iconst 3, 1) := by decide +kernel
theorem dX7_whyNotIn_14 : decode cX7_whyNotIn 14 = .ok (.ireturn, 1) := by decide +kernel
theorem dX7_whyNotIn_15 : decode cX7_whyNotIn 15 = .ok (.aload_n 0, 1) := by decide +kernel
theorem dX7_whyNotIn_16 : decode cX7_whyNotIn 16 = .ok (.iload_n 1, 1) := by decide +kernel
theorem dX7_whyNotIn_17 : decode cX7_whyNotIn 17 = .ok (.invokevirtual 223, 3) := by decide +kernel
theorem dX7_whyNotIn_20 : decode cX7_whyNotIn 20 = .ok (.ifCond .eq 7, 3) := by decide +kernel
theorem dX7_whyNotIn_23 : decode cX7_whyNotIn 23 = .ok (.iconst 0, 1) := by decide +kernel
theorem dX7_whyNotIn_24 : decode cX7_whyNotIn 24 = .ok (.goto 4, 3) := by decide +kernel
theorem dX7_whyNotIn_27 : decode cX7_whyNotIn 27 = .ok (.iconst 4, 1) := by decide +kernel
theorem dX7_whyNotIn_28 : decode cX7_whyNotIn 28 = .ok (.ireturn, 1) := by decide +kernel
theorem dX7_whyNotOnShelf_0 : decode cX7_whyNotOnShelf 0 = .ok (.aload_n 0, 1) := by decide +kernel
theorem dX7_whyNotOnShelf_1 : decode cX7_whyNotOnShelf 1 = .ok (.getfield 18, 3) := by decide +kernel
theorem dX7_whyNotOnShelf_4 : decode cX7_whyNotOnShelf 4 = .ok (.iload_n 1, 1) := by decide +kernel
theorem dX7_whyNotOnShelf_5 : decode cX7_whyNotOnShelf 5 = .ok (.invokevirtual 107, 3) := by decide +kernel
theorem dX7_whyNotOnShelf_8 : decode cX7_whyNotOnShelf 8 = .ok (.astore_n 3, 1) := by decide +kernel
theorem dX7_whyNotOnShelf_9 : decode cX7_whyNotOnShelf 9 = .ok (.aload_n 3, 1) := by decide +kernel
theorem dX7_whyNotOnShelf_10 : decode cX7_whyNotOnShelf 10 = .ok (.ifnull 13, 3) := by decide +kernel
theorem dX7_whyNotOnShelf_13 : decode cX7_whyNotOnShelf 13 = .ok (.iload_n 2, 1) := by decide +kernel
theorem dX7_whyNotOnShelf_14 : decode cX7_whyNotOnShelf 14 = .ok (.iconst (-1), 1) := by decide +kernel
theorem dX7_whyNotOnShelf_15 : decode cX7_whyNotOnShelf 15 = .ok (.bipush 39, 2) := by decide +kernel
theorem dX7_whyNotOnShelf_17 : decode cX7_whyNotOnShelf 17 = .ok (.invokestatic 59, 3) := by decide +kernel
theorem dX7_whyNotOnShelf_20 : decode cX7_whyNotOnShelf 20 = .ok (.ifCond .ne 5, 3) := by decide +kernel
theorem dX7_whyNotOnShelf_23 : decode cX7_whyNotOnShelf 23 = .ok (.iconst 2, 1) := by decide +kernel
theorem dX7_whyNotOnShelf_24 : decode cX7_whyNotOnShelf 24 = .ok (.ireturn, 1) := by decide +kernel
theorem dX7_whyNotOnShelf_25 : decode cX7_whyNotOnShelf 25 = .ok (.aload_n 3, 1) := by decide +kernel
theorem dX7_whyNotOnShelf_26 : decode cX7_whyNotOnShelf 26 = .ok (.getfield 111, 3) := by decide +kernel
theorem dX7_whyNotOnShelf_29 : decode cX7_whyNotOnShelf 29 = .ok (.iconst 1, 1) := by decide +kernel
theorem dX7_whyNotOnShelf_30 : decode cX7_whyNotOnShelf 30 = .ok (.if_icmp .ne 7, 3) := by decide +kernel
theorem dX7_whyNotOnShelf_33 : decode cX7_whyNotOnShelf 33 = .ok (.iconst 0, 1) := by decide +kernel
theorem dX7_whyNotOnShelf_34 : decode cX7_whyNotOnShelf 34 = .ok (.goto 5, 3) := by decide +kernel
theorem dX7_whyNotOnShelf_37 : decode cX7_whyNotOnShelf 37 = .ok (.bipush 8, 2) := by decide +kernel
theorem dX7_whyNotOnShelf_39 : decode cX7_whyNotOnShelf 39 = .ok (.ireturn, 1) := by decide +kernel
theorem dX7_keepFraction_0 : decode cX7_keepFraction 0 = .ok (.lload_n 1, 1) := by decide +kernel
theorem dX7_keepFraction_1 : decode cX7_keepFraction 1 = .ok (.lload_n 3, 1) := by decide +kernel
theorem dX7_keepFraction_2 : decode cX7_keepFraction 2 = .ok (.invokestatic 301, 3) := by decide +kernel
theorem dX7_keepFraction_5 : decode cX7_keepFraction 5 = .ok (.lstore 5, 2) := by decide +kernel
theorem dX7_keepFraction_7 : decode cX7_keepFraction 7 = .ok (.lload 5, 2) := by decide +kernel
theorem dX7_keepFraction_9 : decode cX7_keepFraction 9 = .ok (.lconst 0, 1) := by decide +kernel
theorem dX7_keepFraction_10 : decode cX7_keepFraction 10 = .ok (.lcmp, 1) := by decide +kernel
theorem dX7_keepFraction_11 : decode cX7_keepFraction 11 = .ok (.ifCond .le 19, 3) := by decide +kernel
theorem dX7_keepFraction_14 : decode cX7_keepFraction 14 = .ok (.aload_n 0, 1) := by decide +kernel
theorem dX7_keepFraction_15 : decode cX7_keepFraction 15 = .ok (.lload_n 1, 1) := by decide +kernel
theorem dX7_keepFraction_16 : decode cX7_keepFraction 16 = .ok (.lload 5, 2) := by decide +kernel
theorem dX7_keepFraction_18 : decode cX7_keepFraction 18 = .ok (.ldiv, 1) := by decide +kernel
theorem dX7_keepFraction_19 : decode cX7_keepFraction 19 = .ok (.putfield 47, 3) := by decide +kernel
theorem dX7_keepFraction_22 : decode cX7_keepFraction 22 = .ok (.aload_n 0, 1) := by decide +kernel
theorem dX7_keepFraction_23 : decode cX7_keepFraction 23 = .ok (.lload_n 3, 1) := by decide +kernel
theorem dX7_keepFraction_24 : decode cX7_keepFraction 24 = .ok (.lload 5, 2) := by decide +kernel
theorem dX7_keepFraction_26 : decode cX7_keepFraction 26 = .ok (.ldiv, 1) := by decide +kernel
theorem dX7_keepFraction_27 : decode cX7_keepFraction 27 = .ok (.putfield 51, 3) := by decide +kernel
theorem dX7_keepFraction_30 : decode cX7_keepFraction 30 = .ok (.return_, 1) := by decide +kernel
theorem dX7_commonDivisor_0 : decode cX7_commonDivisor 0 = .ok (.lload_n 0, 1) := by decide +kernel
theorem dX7_commonDivisor_1 : decode cX7_commonDivisor 1 = .ok (.lstore 4, 2) := by decide +kernel
theorem dX7_commonDivisor_3 : decode cX7_commonDivisor 3 = .ok (.lload_n 2, 1) := by decide +kernel
theorem dX7_commonDivisor_4 : decode cX7_commonDivisor 4 = .ok (.lstore 6, 2) := by decide +kernel
theorem dX7_commonDivisor_6 : decode cX7_commonDivisor 6 = .ok (.iconst 0, 1) := by decide +kernel
theorem dX7_commonDivisor_7 : decode cX7_commonDivisor 7 = .ok (.istore 8, 2) := by decide +kernel
theorem dX7_commonDivisor_9 : decode cX7_commonDivisor 9 = .ok (.iload 8, 2) := by decide +kernel
theorem dX7_commonDivisor_11 : decode cX7_commonDivisor 11 = .ok (.sipush 200, 3) := by decide +kernel
theorem dX7_commonDivisor_14 : decode cX7_commonDivisor 14 = .ok (.if_icmp .ge 31, 3) := by decide +kernel
theorem dX7_commonDivisor_17 : decode cX7_commonDivisor 17 = .ok (.lload 6, 2) := by decide +kernel
theorem dX7_commonDivisor_19 : decode cX7_commonDivisor 19 = .ok (.lconst 0, 1) := by decide +kernel
theorem dX7_commonDivisor_20 : decode cX7_commonDivisor 20 = .ok (.lcmp, 1) := by decide +kernel
theorem dX7_commonDivisor_21 : decode cX7_commonDivisor 21 = .ok (.ifCond .eq 24, 3) := by decide +kernel
theorem dX7_commonDivisor_24 : decode cX7_commonDivisor 24 = .ok (.lload 4, 2) := by decide +kernel
theorem dX7_commonDivisor_26 : decode cX7_commonDivisor 26 = .ok (.lload 6, 2) := by decide +kernel
theorem dX7_commonDivisor_28 : decode cX7_commonDivisor 28 = .ok (.lrem, 1) := by decide +kernel
theorem dX7_commonDivisor_29 : decode cX7_commonDivisor 29 = .ok (.lstore 9, 2) := by decide +kernel
theorem dX7_commonDivisor_31 : decode cX7_commonDivisor 31 = .ok (.lload 6, 2) := by decide +kernel
theorem dX7_commonDivisor_33 : decode cX7_commonDivisor 33 = .ok (.lstore 4, 2) := by decide +kernel
theorem dX7_commonDivisor_35 : decode cX7_commonDivisor 35 = .ok (.lload 9, 2) := by decide +kernel
theorem dX7_commonDivisor_37 : decode cX7_commonDivisor 37 = .ok (.lstore 6, 2) := by decide +kernel
theorem dX7_commonDivisor_39 : decode cX7_commonDivisor 39 = .ok (.iinc 8 1, 3) := by decide +kernel
theorem dX7_commonDivisor_42 : decode cX7_commonDivisor 42 = .ok (.goto (-33), 3) := by decide +kernel
theorem dX7_commonDivisor_45 : decode cX7_commonDivisor 45 = .ok (.lload 4, 2) := by decide +kernel
theorem dX7_commonDivisor_47 : decode cX7_commonDivisor 47 = .ok (.lreturn, 1) := by decide +kernel
theorem dX7_mayBeIn_0 : decode cX7_mayBeIn 0 = .ok (.iload_n 1, 1) := by decide +kernel
theorem dX7_mayBeIn_1 : decode cX7_mayBeIn 1 = .ok (.iload_n 0, 1) := by decide +kernel
theorem dX7_mayBeIn_2 : decode cX7_mayBeIn 2 = .ok (.iconst 1, 1) := by decide +kernel
theorem dX7_mayBeIn_3 : decode cX7_mayBeIn 3 = .ok (.isub, 1) := by decide +kernel
theorem dX7_mayBeIn_4 : decode cX7_mayBeIn 4 = .ok (.if_icmp .eq 13, 3) := by decide +kernel
theorem dX7_mayBeIn_7 : decode cX7_mayBeIn 7 = .ok (.iload_n 0, 1) := by decide +kernel
theorem dX7_mayBeIn_8 : decode cX7_mayBeIn 8 = .ok (.iconst 3, 1) := by decide +kernel
theorem dX7_mayBeIn_9 : decode cX7_mayBeIn 9 = .ok (.if_icmp .ne 12, 3) := by decide +kernel
theorem dX7_mayBeIn_12 : decode cX7_mayBeIn 12 = .ok (.iload_n 1, 1) := by decide +kernel
theorem dX7_mayBeIn_13 : decode cX7_mayBeIn 13 = .ok (.iconst 1, 1) := by decide +kernel
theorem dX7_mayBeIn_14 : decode cX7_mayBeIn 14 = .ok (.if_icmp .ne 7, 3) := by decide +kernel
theorem dX7_mayBeIn_17 : decode cX7_mayBeIn 17 = .ok (.iconst 1, 1) := by decide +kernel
theorem dX7_mayBeIn_18 : decode cX7_mayBeIn 18 = .ok (.goto 4, 3) := by decide +kernel
theorem dX7_mayBeIn_21 : decode cX7_mayBeIn 21 = .ok (.iconst 0, 1) := by decide +kernel
theorem dX7_mayBeIn_22 : decode cX7_mayBeIn 22 = .ok (.ireturn, 1) := by decide +kernel
theorem dX7_isField_0 : decode cX7_isField 0 = .ok (.iload_n 0, 1) := by decide +kernel
theorem dX7_isField_1 : decode cX7_isField 1 = .ok (.iconst 0, 1) := by decide +kernel
theorem dX7_isField_2 : decode cX7_isField 2 = .ok (.iconst 5, 1) := by decide +kernel
theorem dX7_isField_3 : decode cX7_isField 3 = .ok (.invokestatic 59, 3) := by decide +kernel
theorem dX7_isField_6 : decode cX7_isField 6 = .ok (.ireturn, 1) := by decide +kernel
theorem dX7_isPerson_0 : decode cX7_isPerson 0 = .ok (.iload_n 0, 1) := by decide +kernel
theorem dX7_isPerson_1 : decode cX7_isPerson 1 = .ok (.iconst 0, 1) := by decide +kernel
theorem dX7_isPerson_2 : decode cX7_isPerson 2 = .ok (.bipush 15, 2) := by decide +kernel
theorem dX7_isPerson_4 : decode cX7_isPerson 4 = .ok (.invokestatic 59, 3) := by decide +kernel
theorem dX7_isPerson_7 : decode cX7_isPerson 7 = .ok (.ireturn, 1) := by decide +kernel
theorem dX7_isDay_0 : decode cX7_isDay 0 = .ok (.iload_n 0, 1) := by decide +kernel
theorem dX7_isDay_1 : decode cX7_isDay 1 = .ok (.iconst 0, 1) := by decide +kernel
theorem dX7_isDay_2 : decode cX7_isDay 2 = .ok (.ldc_w 305, 3) := by decide +kernel
theorem dX7_isDay_5 : decode cX7_isDay 5 = .ok (.invokestatic 59, 3) := by decide +kernel
theorem dX7_isDay_8 : decode cX7_isDay 8 = .ok (.ireturn, 1) := by decide +kernel
theorem dX7_within_0 : decode cX7_within 0 = .ok (.iload_n 0, 1) := by decide +kernel
theorem dX7_within_1 : decode cX7_within 1 = .ok (.iload_n 1, 1) := by decide +kernel
theorem dX7_within_2 : decode cX7_within 2 = .ok (.if_icmp .lt 12, 3) := by decide +kernel
theorem dX7_within_5 : decode cX7_within 5 = .ok (.iload_n 0, 1) := by decide +kernel
theorem dX7_within_6 : decode cX7_within 6 = .ok (.iload_n 2, 1) := by decide +kernel
theorem dX7_within_7 : decode cX7_within 7 = .ok (.if_icmp .gt 7, 3) := by decide +kernel
theorem dX7_within_10 : decode cX7_within 10 = .ok (.iconst 1, 1) := by decide +kernel
theorem dX7_within_11 : decode cX7_within 11 = .ok (.goto 4, 3) := by decide +kernel
theorem dX7_within_14 : decode cX7_within 14 = .ok (.iconst 0, 1) := by decide +kernel
theorem dX7_within_15 : decode cX7_within 15 = .ok (.ireturn, 1) := by decide +kernel
