theorem dX8_init_0 : decode cX8_init 0 = .ok (.aload_n 0, 1) := by decide +kernel
theorem dX8_init_1 : decode cX8_init 1 = .ok (.invokespecial 1, 3) := by decide +kernel
theorem dX8_init_4 : decode cX8_init 4 = .ok (.aload_n 0, 1) := by decide +kernel
theorem dX8_init_5 : decode cX8_init 5 = .ok (.lconst 1, 1) := by decide +kernel
theorem dX8_init_6 : decode cX8_init 6 = .ok (.putfield 7, 3) := by decide +kernel
theorem dX8_init_9 : decode cX8_init 9 = .ok (.aload_n 0, 1) := by decide +kernel
theorem dX8_init_10 : decode cX8_init 10 = .ok (.iconst 4, 1) := by decide +kernel
theorem dX8_init_11 : decode cX8_init 11 = .ok (.newarray .int, 2) := by decide +kernel
theorem dX8_init_13 : decode cX8_init 13 = .ok (.putfield 13, 3) := by decide +kernel
theorem dX8_init_16 : decode cX8_init 16 = .ok (.aload_n 0, 1) := by decide +kernel
theorem dX8_init_17 : decode cX8_init 17 = .ok (.iconst 4, 1) := by decide +kernel
theorem dX8_init_18 : decode cX8_init 18 = .ok (.newarray .int, 2) := by decide +kernel
theorem dX8_init_20 : decode cX8_init 20 = .ok (.putfield 17, 3) := by decide +kernel
theorem dX8_init_23 : decode cX8_init 23 = .ok (.aload_n 0, 1) := by decide +kernel
theorem dX8_init_24 : decode cX8_init 24 = .ok (.sipush 160, 3) := by decide +kernel
theorem dX8_init_27 : decode cX8_init 27 = .ok (.newarray .long, 2) := by decide +kernel
theorem dX8_init_29 : decode cX8_init 29 = .ok (.putfield 20, 3) := by decide +kernel
theorem dX8_init_32 : decode cX8_init 32 = .ok (.aload_n 0, 1) := by decide +kernel
theorem dX8_init_33 : decode cX8_init 33 = .ok (.bipush 80, 2) := by decide +kernel
theorem dX8_init_35 : decode cX8_init 35 = .ok (.newarray .int, 2) := by decide +kernel
theorem dX8_init_37 : decode cX8_init 37 = .ok (.putfield 24, 3) := by decide +kernel
theorem dX8_init_40 : decode cX8_init 40 = .ok (.aload_n 0, 1) := by decide +kernel
theorem dX8_init_41 : decode cX8_init 41 = .ok (.bipush 80, 2) := by decide +kernel
theorem dX8_init_43 : decode cX8_init 43 = .ok (.newarray .int, 2) := by decide +kernel
theorem dX8_init_45 : decode cX8_init 45 = .ok (.putfield 27, 3) := by decide +kernel
theorem dX8_init_48 : decode cX8_init 48 = .ok (.aload_n 0, 1) := by decide +kernel
theorem dX8_init_49 : decode cX8_init 49 = .ok (.bipush 80, 2) := by decide +kernel
theorem dX8_init_51 : decode cX8_init 51 = .ok (.newarray .int, 2) := by decide +kernel
theorem dX8_init_53 : decode cX8_init 53 = .ok (.putfield 30, 3) := by decide +kernel
theorem dX8_init_56 : decode cX8_init 56 = .ok (.aload_n 0, 1) := by decide +kernel
theorem dX8_init_57 : decode cX8_init 57 = .ok (.bipush 80, 2) := by decide +kernel
theorem dX8_init_59 : decode cX8_init 59 = .ok (.newarray .int, 2) := by decide +kernel
theorem dX8_init_61 : decode cX8_init 61 = .ok (.putfield 33, 3) := by decide +kernel
theorem dX8_init_64 : decode cX8_init 64 = .ok (.aload_n 0, 1) := by decide +kernel
theorem dX8_init_65 : decode cX8_init 65 = .ok (.sipush 480, 3) := by decide +kernel
theorem dX8_init_68 : decode cX8_init 68 = .ok (.newarray .int, 2) := by decide +kernel
theorem dX8_init_70 : decode cX8_init 70 = .ok (.putfield 36, 3) := by decide +kernel
theorem dX8_init_73 : decode cX8_init 73 = .ok (.aload_n 0, 1) := by decide +kernel
theorem dX8_init_74 : decode cX8_init 74 = .ok (.bipush 80, 2) := by decide +kernel
theorem dX8_init_76 : decode cX8_init 76 = .ok (.newarray .int, 2) := by decide +kernel
theorem dX8_init_78 : decode cX8_init 78 = .ok (.putfield 39, 3) := by decide +kernel
theorem dX8_init_81 : decode cX8_init 81 = .ok (.aload_n 0, 1) := by decide +kernel
theorem dX8_init_82 : decode cX8_init 82 = .ok (.bipush 80, 2) := by decide +kernel
theorem dX8_init_84 : decode cX8_init 84 = .ok (.newarray .int, 2) := by decide +kernel
theorem dX8_init_86 : decode cX8_init 86 = .ok (.putfield 42, 3) := by decide +kernel
theorem dX8_init_89 : decode cX8_init 89 = .ok (.aload_n 0, 1) := by decide +kernel
theorem dX8_init_90 : decode cX8_init 90 = .ok (.bipush 80, 2) := by decide +kernel
theorem dX8_init_92 : decode cX8_init 92 = .ok (.newarray .int, 2) := by decide +kernel
theorem dX8_init_94 : decode cX8_init 94 = .ok (.putfield 45, 3) := by decide +kernel
theorem dX8_init_97 : decode cX8_init 97 = .ok (.aload_n 0, 1) := by decide +kernel
theorem dX8_init_98 : decode cX8_init 98 = .ok (.bipush 80, 2) := by decide +kernel
theorem dX8_init_100 : decode cX8_init 100 = .ok (.newarray .int, 2) := by decide +kernel
theorem dX8_init_102 : decode cX8_init 102 = .ok (.putfield 48, 3) := by decide +kernel
theorem dX8_init_105 : decode cX8_init 105 = .ok (.aload_n 0, 1) := by decide +kernel
theorem dX8_init_106 : decode cX8_init 106 = .ok (.bipush 80, 2) := by decide +kernel
theorem dX8_init_108 : decode cX8_init 108 = .ok (.newarray .int, 2) := by decide +kernel
theorem dX8_init_110 : decode cX8_init 110 = .ok (.putfield 51, 3) := by decide +kernel
theorem dX8_init_113 : decode cX8_init 113 = .ok (.aload_n 0, 1) := by decide +kernel
theorem dX8_init_114 : decode cX8_init 114 = .ok (.bipush 80, 2) := by decide +kernel
theorem dX8_init_116 : decode cX8_init 116 = .ok (.newarray .int, 2) := by decide +kernel
theorem dX8_init_118 : decode cX8_init 118 = .ok (.putfield 54, 3) := by decide +kernel
theorem dX8_init_121 : decode cX8_init 121 = .ok (.aload_n 0, 1) := by decide +kernel
theorem dX8_init_122 : decode cX8_init 122 = .ok (.bipush 80, 2) := by decide +kernel
theorem dX8_init_124 : decode cX8_init 124 = .ok (.newarray .int, 2) := by decide +kernel
theorem dX8_init_126 : decode cX8_init 126 = .ok (.putfield 57, 3) := by decide +kernel
theorem dX8_init_129 : decode cX8_init 129 = .ok (.aload_n 0, 1) := by decide +kernel
theorem dX8_init_130 : decode cX8_init 130 = .ok (.bipush 80, 2) := by decide +kernel
theorem dX8_init_132 : decode cX8_init 132 = .ok (.newarray .int, 2) := by decide +kernel
theorem dX8_init_134 : decode cX8_init 134 = .ok (.putfield 60, 3) := by decide +kernel
theorem dX8_init_137 : decode cX8_init 137 = .ok (.aload_n 0, 1) := by decide +kernel
theorem dX8_init_138 : decode cX8_init 138 = .ok (.bipush 80, 2) := by decide +kernel
theorem dX8_init_140 : decode cX8_init 140 = .ok (.newarray .int, 2) := by decide +kernel
theorem dX8_init_142 : decode cX8_init 142 = .ok (.putfield 63, 3) := by decide +kernel
theorem dX8_init_145 : decode cX8_init 145 = .ok (.aload_n 0, 1) := by decide +kernel
theorem dX8_init_146 : decode cX8_init 146 = .ok (.sipush 200, 3) := by decide +kernel
theorem dX8_init_149 : decode cX8_init 149 = .ok (.newarray .int, 2) := by decide +kernel
theorem dX8_init_151 : decode cX8_init 151 = .ok (.putfield 66, 3) := by decide +kernel
theorem dX8_init_154 : decode cX8_init 154 = .ok (.aload_n 0, 1) := by decide +kernel
theorem dX8_init_155 : decode cX8_init 155 = .ok (.sipush 200, 3) := by decide +kernel
theorem dX8_init_158 : decode cX8_init 158 = .ok (.newarray .int, 2) := by decide +kernel
theorem dX8_init_160 : decode cX8_init 160 = .ok (.putfield 69, 3) := by decide +kernel
theorem dX8_init_163 : decode cX8_init 163 = .ok (.aload_n 0, 1) := by decide +kernel
theorem dX8_init_164 : decode cX8_init 164 = .ok (.sipush 200, 3) := by decide +kernel
theorem dX8_init_167 : decode cX8_init 167 = .ok (.newarray .int, 2) := by decide +kernel
theorem dX8_init_169 : decode cX8_init 169 = .ok (.putfield 72, 3) := by decide +kernel
theorem dX8_init_172 : decode cX8_init 172 = .ok (.aload_n 0, 1) := by decide +kernel
theorem dX8_init_173 : decode cX8_init 173 = .ok (.bipush 40, 2) := by decide +kernel
theorem dX8_init_175 : decode cX8_init 175 = .ok (.newarray .int, 2) := by decide +kernel
theorem dX8_init_177 : decode cX8_init 177 = .ok (.putfield 75, 3) := by decide +kernel
theorem dX8_init_180 : decode cX8_init 180 = .ok (.aload_n 0, 1) := by decide +kernel
theorem dX8_init_181 : decode cX8_init 181 = .ok (.bipush 80, 2) := by decide +kernel
theorem dX8_init_183 : decode cX8_init 183 = .ok (.newarray .int, 2) := by decide +kernel
theorem dX8_init_185 : decode cX8_init 185 = .ok (.putfield 78, 3) := by decide +kernel
theorem dX8_init_188 : decode cX8_init 188 = .ok (.aload_n 0, 1) := by decide +kernel
theorem dX8_init_189 : decode cX8_init 189 = .ok (.sipush 400, 3) := by decide +kernel
theorem dX8_init_192 : decode cX8_init 192 = .ok (.newarray .int, 2) := by decide +kernel
theorem dX8_init_194 : decode cX8_init 194 = .ok (.putfield 81, 3) := by decide +kernel
theorem dX8_init_197 : decode cX8_init 197 = .ok (.aload_n 0, 1) := by decide +kernel
theorem dX8_init_198 : decode cX8_init 198 = .ok (.sipush 400, 3) := by decide +kernel
theorem dX8_init_201 : decode cX8_init 201 = .ok (.newarray .int, 2) := by decide +kernel
theorem dX8_init_203 : decode cX8_init 203 = .ok (.putfield 84, 3) := by decide +kernel
theorem dX8_init_206 : decode cX8_init 206 = .ok (.aload_n 0, 1) := by decide +kernel
theorem dX8_init_207 : decode cX8_init 207 = .ok (.sipush 400, 3) := by decide +kernel
theorem dX8_init_210 : decode cX8_init 210 = .ok (.newarray .int, 2) := by decide +kernel
theorem dX8_init_212 : decode cX8_init 212 = .ok (.putfield 87, 3) := by decide +kernel
theorem dX8_init_215 : decode cX8_init 215 = .ok (.aload_n 0, 1) := by decide +kernel
theorem dX8_init_216 : decode cX8_init 216 = .ok (.bipush 20, 2) := by decide +kernel
theorem dX8_init_218 : decode cX8_init 218 = .ok (.newarray .int, 2) := by decide +kernel
theorem dX8_init_220 : decode cX8_init 220 = .ok (.putfield 90, 3) := by decide +kernel
theorem dX8_init_223 : decode cX8_init 223 = .ok (.iconst 0, 1) := by decide +kernel
theorem dX8_init_224 : decode cX8_init 224 = .ok (.istore_n 1, 1) := by decide +kernel
theorem dX8_init_225 : decode cX8_init 225 = .ok (.iload_n 1, 1) := by decide +kernel
theorem dX8_init_226 : decode cX8_init 226 = .ok (.iconst 4, 1) := by decide +kernel
theorem dX8_init_227 : decode cX8_init 227 = .ok (.if_icmp .ge 16, 3) := by decide +kernel
theorem dX8_init_230 : decode cX8_init 230 = .ok (.aload_n 0, 1) := by decide +kernel
theorem dX8_init_231 : decode cX8_init 231 = .ok (.getfield 17, 3) := by decide +kernel
theorem dX8_init_234 : decode cX8_init 234 = .ok (.iload_n 1, 1) := by decide +kernel
theorem dX8_init_235 : decode cX8_init 235 = .ok (.iconst (-1), 1) := by decide +kernel
theorem dX8_init_236 : decode cX8_init 236 = .ok (.iastore, 1) := by decide +kernel
theorem dX8_init_237 : decode cX8_init 237 = .ok (.iinc 1 1, 3) := by decide +kernel
theorem dX8_init_240 : decode cX8_init 240 = .ok (.goto (-15), 3) := by decide +kernel
theorem dX8_init_243 : decode cX8_init 243 = .ok (.return_, 1) := by decide +kernel
theorem dX8_status_0 : decode cX8_status 0 = .ok (.aload_n 0, 1) := by decide +kernel
theorem dX8_status_1 : decode cX8_status 1 = .ok (.iconst 0, 1) := by decide +kernel
theorem dX8_status_2 : decode cX8_status 2 = .ok (.putfield 93, 3) := by decide +kernel
theorem dX8_status_5 : decode cX8_status 5 = .ok (.aload_n 0, 1) := by decide +kernel
theorem dX8_status_6 : decode cX8_status 6 = .ok (.getfield 97, 3) := by decide +kernel
theorem dX8_status_9 : decode cX8_status 9 = .ok (.ireturn, 1) := by decide +kernel
theorem dX8_refuse_0 : decode cX8_refuse 0 = .ok (.aload_n 0, 1) := by decide +kernel
theorem dX8_refuse_1 : decode cX8_refuse 1 = .ok (.iload_n 1, 1) := by decide +kernel
theorem dX8_refuse_2 : decode cX8_refuse 2 = .ok (.putfield 97, 3) := by decide +kernel
theorem dX8_refuse_5 : decode cX8_refuse 5 = .ok (.iconst (-1), 1) := by decide +kernel
theorem dX8_refuse_6 : decode cX8_refuse 6 = .ok (.ireturn, 1) := by decide +kernel
theorem dX8_no_0 : decode cX8_no 0 = .ok (.aload_n 0, 1) := by decide +kernel
theorem dX8_no_1 : decode cX8_no 1 = .ok (.iload_n 1, 1) := by decide +kernel
theorem dX8_no_2 : decode cX8_no 2 = .ok (.putfield 97, 3) := by decide +kernel
theorem dX8_no_5 : decode cX8_no 5 = .ok (.iconst 0, 1) := by decide +kernel
theorem dX8_no_6 : decode cX8_no 6 = .ok (.ireturn, 1) := by decide +kernel
theorem dX8_cut_0 : decode cX8_cut 0 = .ok (.iload_n 0, 1) := by decide +kernel
theorem dX8_cut_1 : decode cX8_cut 1 = .ok (.ifCond .ne 10, 3) := by decide +kernel
theorem dX8_cut_4 : decode cX8_cut 4 = .ok (.lload_n 1, 1) := by decide +kernel
theorem dX8_cut_5 : decode cX8_cut 5 = .ok (.l2i, 1) := by decide +kernel
theorem dX8_cut_6 : decode cX8_cut 6 = .ok (.i2b, 1) := by decide +kernel
theorem dX8_cut_7 : decode cX8_cut 7 = .ok (.i2l, 1) := by decide +kernel
theorem dX8_cut_8 : decode cX8_cut 8 = .ok (.goto 27, 3) := by decide +kernel
theorem dX8_cut_11 : decode cX8_cut 11 = .ok (.iload_n 0, 1) := by decide +kernel
theorem dX8_cut_12 : decode cX8_cut 12 = .ok (.iconst 1, 1) := by decide +kernel
theorem dX8_cut_13 : decode cX8_cut 13 = .ok (.if_icmp .ne 10, 3) := by decide +kernel
theorem dX8_cut_16 : decode cX8_cut 16 = .ok (.lload_n 1, 1) := by decide +kernel
theorem dX8_cut_17 : decode cX8_cut 17 = .ok (.l2i, 1) := by decide +kernel
theorem dX8_cut_18 : decode cX8_cut 18 = .ok (.i2s, 1) := by decide +kernel
theorem dX8_cut_19 : decode cX8_cut 19 = .ok (.i2l, 1) := by decide +kernel
theorem dX8_cut_20 : decode cX8_cut 20 = .ok (.goto 15, 3) := by decide +kernel
theorem dX8_cut_23 : decode cX8_cut 23 = .ok (.iload_n 0, 1) := by decide +kernel
theorem dX8_cut_24 : decode cX8_cut 24 = .ok (.iconst 2, 1) := by decide +kernel
theorem dX8_cut_25 : decode cX8_cut 25 = .ok (.if_icmp .ne 9, 3) := by decide +kernel
theorem dX8_cut_28 : decode cX8_cut 28 = .ok (.lload_n 1, 1) := by decide +kernel
theorem dX8_cut_29 : decode cX8_cut 29 = .ok (.l2i, 1) := by decide +kernel
theorem dX8_cut_30 : decode cX8_cut 30 = .ok (.i2l, 1) := by decide +kernel
theorem dX8_cut_31 : decode cX8_cut 31 = .ok (.goto 4, 3) := by decide +kernel
theorem dX8_cut_34 : decode cX8_cut 34 = .ok (.lload_n 1, 1) := by decide +kernel
theorem dX8_cut_35 : decode cX8_cut 35 = .ok (.lreturn, 1) := by decide +kernel
theorem dX8_tray_0 : decode cX8_tray 0 = .ok (.aload_n 0, 1) := by decide +kernel
theorem dX8_tray_1 : decode cX8_tray 1 = .ok (.iconst 0, 1) := by decide +kernel
theorem dX8_tray_2 : decode cX8_tray 2 = .ok (.putfield 93, 3) := by decide +kernel
theorem dX8_tray_5 : decode cX8_tray 5 = .ok (.aload_n 0, 1) := by decide +kernel
theorem dX8_tray_6 : decode cX8_tray 6 = .ok (.iconst 0, 1) := by decide +kernel
theorem dX8_tray_7 : decode cX8_tray 7 = .ok (.putfield 97, 3) := by decide +kernel
theorem dX8_tray_10 : decode cX8_tray 10 = .ok (.iload_n 1, 1) := by decide +kernel
theorem dX8_tray_11 : decode cX8_tray 11 = .ok (.ifCond .lt 17, 3) := by decide +kernel
theorem dX8_tray_14 : decode cX8_tray 14 = .ok (.iload_n 1, 1) := by decide +kernel
theorem dX8_tray_15 : decode cX8_tray 15 = .ok (.iconst 4, 1) := by decide +kernel
theorem dX8_tray_16 : decode cX8_tray 16 = .ok (.if_icmp .ge 12, 3) := by decide +kernel
theorem dX8_tray_19 : decode cX8_tray 19 = .ok (.iload_n 2, 1) := by decide +kernel
theorem dX8_tray_20 : decode cX8_tray 20 = .ok (.ifCond .lt 8, 3) := by decide +kernel
theorem dX8_tray_23 : decode cX8_tray 23 = .ok (.iload_n 2, 1) := by decide +kernel
theorem dX8_tray_24 : decode cX8_tray 24 = .ok (.iconst 3, 1) := by decide +kernel
theorem dX8_tray_25 : decode cX8_tray 25 = .ok (.if_icmp .le 9, 3) := by decide +kernel
theorem dX8_tray_28 : decode cX8_tray 28 = .ok (.aload_n 0, 1) := by decide +kernel
theorem dX8_tray_29 : decode cX8_tray 29 = .ok (.iconst 1, 1) := by decide +kernel
theorem dX8_tray_30 : decode cX8_tray 30 = .ok (.invokevirtual 100, 3) := by decide +kernel
theorem dX8_tray_33 : decode cX8_tray 33 = .ok (.ireturn, 1) := by decide +kernel
theorem dX8_tray_34 : decode cX8_tray 34 = .ok (.iload_n 3, 1) := by decide +kernel
theorem dX8_tray_35 : decode cX8_tray 35 = .ok (.bipush 40, 2) := by decide +kernel
theorem dX8_tray_37 : decode cX8_tray 37 = .ok (.if_icmp .le 9, 3) := by decide +kernel
theorem dX8_tray_40 : decode cX8_tray 40 = .ok (.aload_n 0, 1) := by decide +kernel
theorem dX8_tray_41 : decode cX8_tray 41 = .ok (.iconst 5, 1) := by decide +kernel
theorem dX8_tray_42 : decode cX8_tray 42 = .ok (.invokevirtual 100, 3) := by decide +kernel
theorem dX8_tray_45 : decode cX8_tray 45 = .ok (.ireturn, 1) := by decide +kernel
theorem dX8_tray_46 : decode cX8_tray 46 = .ok (.iload_n 3, 1) := by decide +kernel
theorem dX8_tray_47 : decode cX8_tray 47 = .ok (.ifCond .ge 10, 3) := by decide +kernel
theorem dX8_tray_50 : decode cX8_tray 50 = .ok (.aload_n 0, 1) := by decide +kernel
theorem dX8_tray_51 : decode cX8_tray 51 = .ok (.bipush 6, 2) := by decide +kernel
theorem dX8_tray_53 : decode cX8_tray 53 = .ok (.invokevirtual 100, 3) := by decide +kernel
theorem dX8_tray_56 : decode cX8_tray 56 = .ok (.ireturn, 1) := by decide +kernel
theorem dX8_tray_57 : decode cX8_tray 57 = .ok (.aload_n 0, 1) := by decide +kernel
theorem dX8_tray_58 : decode cX8_tray 58 = .ok (.getfield 13, 3) := by decide +kernel
theorem dX8_tray_61 : decode cX8_tray 61 = .ok (.iload_n 1, 1) := by decide +kernel
theorem dX8_tray_62 : decode cX8_tray 62 = .ok (.iload_n 2, 1) := by decide +kernel
theorem dX8_tray_63 : decode cX8_tray 63 = .ok (.iastore, 1) := by decide +kernel
theorem dX8_tray_64 : decode cX8_tray 64 = .ok (.aload_n 0, 1) := by decide +kernel
theorem dX8_tray_65 : decode cX8_tray 65 = .ok (.getfield 17, 3) := by decide +kernel
theorem dX8_tray_68 : decode cX8_tray 68 = .ok (.iload_n 1, 1) := by decide +kernel
theorem dX8_tray_69 : decode cX8_tray 69 = .ok (.iload_n 3, 1) := by decide +kernel
theorem dX8_tray_70 : decode cX8_tray 70 = .ok (.iastore, 1) := by decide +kernel
theorem dX8_tray_71 : decode cX8_tray 71 = .ok (.iconst 0, 1) := by decide +kernel
theorem dX8_tray_72 : decode cX8_tray 72 = .ok (.istore 4, 2) := by decide +kernel
theorem dX8_tray_74 : decode cX8_tray 74 = .ok (.iload 4, 2) := by decide +kernel
theorem dX8_tray_76 : decode cX8_tray 76 = .ok (.iload_n 3, 1) := by decide +kernel
theorem dX8_tray_77 : decode cX8_tray 77 = .ok (.if_icmp .ge 22, 3) := by decide +kernel
theorem dX8_tray_80 : decode cX8_tray 80 = .ok (.aload_n 0, 1) := by decide +kernel
theorem dX8_tray_81 : decode cX8_tray 81 = .ok (.getfield 20, 3) := by decide +kernel
theorem dX8_tray_84 : decode cX8_tray 84 = .ok (.bipush 40, 2) := by decide +kernel
theorem dX8_tray_86 : decode cX8_tray 86 = .ok (.iload_n 1, 1) := by decide +kernel
theorem dX8_tray_87 : decode cX8_tray 87 = .ok (.imul, 1) := by decide +kernel
theorem dX8_tray_88 : decode cX8_tray 88 = .ok (.iload 4, 2) := by decide +kernel
theorem dX8_tray_90 : decode cX8_tray 90 = .ok (.iadd, 1) := by decide +kernel
theorem dX8_tray_91 : decode cX8_tray 91 = .ok (.lconst 0, 1) := by decide +kernel
theorem dX8_tray_92 : decode cX8_tray 92 = .ok (.lastore, 1) := by decide +kernel
theorem dX8_tray_93 : decode cX8_tray 93 = .ok (.iinc 4 1, 3) := by decide +kernel
theorem dX8_tray_96 : decode cX8_tray 96 = .ok (.goto (-22), 3) := by decide +kernel
theorem dX8_tray_99 : decode cX8_tray 99 = .ok (.iconst 1, 1) := by decide +kernel
theorem dX8_tray_100 : decode cX8_tray 100 = .ok (.ireturn, 1) := by decide +kernel
theorem dX8_trayed_0 : decode cX8_trayed 0 = .ok (.iload_n 1, 1) := by decide +kernel
theorem dX8_trayed_1 : decode cX8_trayed 1 = .ok (.ifCond .lt 8, 3) := by decide +kernel
theorem dX8_trayed_4 : decode cX8_trayed 4 = .ok (.iload_n 1, 1) := by decide +kernel
theorem dX8_trayed_5 : decode cX8_trayed 5 = .ok (.iconst 4, 1) := by decide +kernel
theorem dX8_trayed_6 : decode cX8_trayed 6 = .ok (.if_icmp .lt 7, 3) := by decide +kernel
theorem dX8_trayed_9 : decode cX8_trayed 9 = .ok (.iconst 1, 1) := by decide +kernel
theorem dX8_trayed_10 : decode cX8_trayed 10 = .ok (.goto 17, 3) := by decide +kernel
theorem dX8_trayed_13 : decode cX8_trayed 13 = .ok (.aload_n 0, 1) := by decide +kernel
theorem dX8_trayed_14 : decode cX8_trayed 14 = .ok (.getfield 17, 3) := by decide +kernel
theorem dX8_trayed_17 : decode cX8_trayed 17 = .ok (.iload_n 1, 1) := by decide +kernel
theorem dX8_trayed_18 : decode cX8_trayed 18 = .ok (.iaload, 1) := by decide +kernel
theorem dX8_trayed_19 : decode cX8_trayed 19 = .ok (.ifCond .ge 7, 3) := by decide +kernel
theorem dX8_trayed_22 : decode cX8_trayed 22 = .ok (.iconst 3, 1) := by decide +kernel
theorem dX8_trayed_23 : decode cX8_trayed 23 = .ok (.goto 4, 3) := by decide +kernel
theorem dX8_trayed_26 : decode cX8_trayed 26 = .ok (.iconst 0, 1) := by decide +kernel
theorem dX8_trayed_27 : decode cX8_trayed 27 = .ok (.ireturn, 1) := by decide +kernel
theorem dX8_placed_0 : decode cX8_placed 0 = .ok (.aload_n 0, 1) := by decide +kernel
theorem dX8_placed_1 : decode cX8_placed 1 = .ok (.iload_n 1, 1) := by decide +kernel
theorem dX8_placed_2 : decode cX8_placed 2 = .ok (.invokevirtual 104, 3) := by decide +kernel
theorem dX8_placed_5 : decode cX8_placed 5 = .ok (.istore_n 3, 1) := by decide +kernel
theorem dX8_placed_6 : decode cX8_placed 6 = .ok (.iload_n 3, 1) := by decide +kernel
theorem dX8_placed_7 : decode cX8_placed 7 = .ok (.ifCond .le 7, 3) := by decide +kernel
theorem dX8_placed_10 : decode cX8_placed 10 = .ok (.iload_n 3, 1) := by decide +kernel
theorem dX8_placed_11 : decode cX8_placed 11 = .ok (.goto 22, 3) := by decide +kernel
theorem dX8_placed_14 : decode cX8_placed 14 = .ok (.iload_n 2, 1) := by decide +kernel
theorem dX8_placed_15 : decode cX8_placed 15 = .ok (.ifCond .lt 13, 3) := by decide +kernel
theorem dX8_placed_18 : decode cX8_placed 18 = .ok (.iload_n 2, 1) := by decide +kernel
theorem dX8_placed_19 : decode cX8_placed 19 = .ok (.aload_n 0, 1) := by decide +kernel
theorem dX8_placed_20 : decode cX8_placed 20 = .ok (.getfield 17, 3) := by decide +kernel
theorem dX8_placed_23 : decode cX8_placed 23 = .ok (.iload_n 1, 1) := by decide +kernel
theorem dX8_placed_24 : decode cX8_placed 24 = .ok (.iaload, 1) := by decide +kernel
theorem dX8_placed_25 : decode cX8_placed 25 = .ok (.if_icmp .lt 7, 3) := by decide +kernel
theorem dX8_placed_28 : decode cX8_placed 28 = .ok (.iconst 4, 1) := by decide +kernel
theorem dX8_placed_29 : decode cX8_placed 29 = .ok (.goto 4, 3) := by decide +kernel
theorem dX8_placed_32 : decode cX8_placed 32 = .ok (.iconst 0, 1) := by decide +kernel
theorem dX8_placed_33 : decode cX8_placed 33 = .ok (.ireturn, 1) := by decide +kernel
theorem dX8_write_0 : decode cX8_write 0 = .ok (.aload_n 0, 1) := by decide +kernel
theorem dX8_write_1 : decode cX8_write 1 = .ok (.iconst 0, 1) := by decide +kernel
theorem dX8_write_2 : decode cX8_write 2 = .ok (.putfield 93, 3) := by decide +kernel
theorem dX8_write_5 : decode cX8_write 5 = .ok (.aload_n 0, 1) := by decide +kernel
theorem dX8_write_6 : decode cX8_write 6 = .ok (.aload_n 0, 1) := by decide +kernel
theorem dX8_write_7 : decode cX8_write 7 = .ok (.iload_n 1, 1) := by decide +kernel
theorem dX8_write_8 : decode cX8_write 8 = .ok (.iload_n 2, 1) := by decide +kernel
theorem dX8_write_9 : decode cX8_write 9 = .ok (.invokevirtual 108, 3) := by decide +kernel
theorem dX8_write_12 : decode cX8_write 12 = .ok (.putfield 97, 3) := by decide +kernel
theorem dX8_write_15 : decode cX8_write 15 = .ok (.aload_n 0, 1) := by decide +kernel
theorem dX8_write_16 : decode cX8_write 16 = .ok (.getfield 97, 3) := by decide +kernel
theorem dX8_write_19 : decode cX8_write 19 = .ok (.ifCond .le 5, 3) := by decide +kernel
theorem dX8_write_22 : decode cX8_write 22 = .ok (.iconst 0, 1) := by decide +kernel
theorem dX8_write_23 : decode cX8_write 23 = .ok (.ireturn, 1) := by decide +kernel
theorem dX8_write_24 : decode cX8_write 24 = .ok (.aload_n 0, 1) := by decide +kernel
theorem dX8_write_25 : decode cX8_write 25 = .ok (.getfield 20, 3) := by decide +kernel
theorem dX8_write_28 : decode cX8_write 28 = .ok (.bipush 40, 2) := by decide +kernel
theorem dX8_write_30 : decode cX8_write 30 = .ok (.iload_n 1, 1) := by decide +kernel
theorem dX8_write_31 : decode cX8_write 31 = .ok (.imul, 1) := by decide +kernel
theorem dX8_write_32 : decode cX8_write 32 = .ok (.iload_n 2, 1) := by decide +kernel
theorem dX8_write_33 : decode cX8_write 33 = .ok (.iadd, 1) := by decide +kernel
theorem dX8_write_34 : decode cX8_write 34 = .ok (.aload_n 0, 1) := by decide +kernel
theorem dX8_write_35 : decode cX8_write 35 = .ok (.getfield 13, 3) := by decide +kernel
theorem dX8_write_38 : decode cX8_write 38 = .ok (.iload_n 1, 1) := by decide +kernel
theorem dX8_write_39 : decode cX8_write 39 = .ok (.iaload, 1) := by decide +kernel
theorem dX8_write_40 : decode cX8_write 40 = .ok (.lload_n 3, 1) := by decide +kernel
theorem dX8_write_41 : decode cX8_write 41 = .ok (.invokestatic 112, 3) := by decide +kernel
theorem dX8_write_44 : decode cX8_write 44 = .ok (.lastore, 1) := by decide +kernel
theorem dX8_write_45 : decode cX8_write 45 = .ok (.iconst 1, 1) := by decide +kernel
theorem dX8_write_46 : decode cX8_write 46 = .ok (.ireturn, 1) := by decide +kernel
theorem dX8_read_0 : decode cX8_read 0 = .ok (.aload_n 0, 1) := by decide +kernel
theorem dX8_read_1 : decode cX8_read 1 = .ok (.iconst 0, 1) := by decide +kernel
theorem dX8_read_2 : decode cX8_read 2 = .ok (.putfield 93, 3) := by decide +kernel
theorem dX8_read_5 : decode cX8_read 5 = .ok (.aload_n 0, 1) := by decide +kernel
theorem dX8_read_6 : decode cX8_read 6 = .ok (.aload_n 0, 1) := by decide +kernel
theorem dX8_read_7 : decode cX8_read 7 = .ok (.iload_n 1, 1) := by decide +kernel
theorem dX8_read_8 : decode cX8_read 8 = .ok (.iload_n 2, 1) := by decide +kernel
theorem dX8_read_9 : decode cX8_read 9 = .ok (.invokevirtual 108, 3) := by decide +kernel
theorem dX8_read_12 : decode cX8_read 12 = .ok (.putfield 97, 3) := by decide +kernel
theorem dX8_read_15 : decode cX8_read 15 = .ok (.aload_n 0, 1) := by decide +kernel
theorem dX8_read_16 : decode cX8_read 16 = .ok (.getfield 97, 3) := by decide +kernel
theorem dX8_read_19 : decode cX8_read 19 = .ok (.ifCond .le 9, 3) := by decide +kernel
theorem dX8_read_22 : decode cX8_read 22 = .ok (.ldc2_w 116, 3) := by decide +kernel
theorem dX8_read_25 : decode cX8_read 25 = .ok (.goto 14, 3) := by decide +kernel
theorem dX8_read_28 : decode cX8_read 28 = .ok (.aload_n 0, 1) := by decide +kernel
theorem dX8_read_29 : decode cX8_read 29 = .ok (.getfield 20, 3) := by decide +kernel
theorem dX8_read_32 : decode cX8_read 32 = .ok (.bipush 40, 2) := by decide +kernel
theorem dX8_read_34 : decode cX8_read 34 = .ok (.iload_n 1, 1) := by decide +kernel
theorem dX8_read_35 : decode cX8_read 35 = .ok (.imul, 1) := by decide +kernel
theorem dX8_read_36 : decode cX8_read 36 = .ok (.iload_n 2, 1) := by decide +kernel
theorem dX8_read_37 : decode cX8_read 37 = .ok (.iadd, 1) := by decide +kernel
theorem dX8_read_38 : decode cX8_read 38 = .ok (.laload, 1) := by decide +kernel
theorem dX8_read_39 : decode cX8_read 39 = .ok (.lreturn, 1) := by decide +kernel
theorem dX8_pour_0 : decode cX8_pour 0 = .ok (.aload_n 0, 1) := by decide +kernel
theorem dX8_pour_1 : decode cX8_pour 1 = .ok (.iconst 0, 1) := by decide +kernel
theorem dX8_pour_2 : decode cX8_pour 2 = .ok (.putfield 93, 3) := by decide +kernel
theorem dX8_pour_5 : decode cX8_pour 5 = .ok (.aload_n 0, 1) := by decide +kernel
theorem dX8_pour_6 : decode cX8_pour 6 = .ok (.iconst 0, 1) := by decide +kernel
theorem dX8_pour_7 : decode cX8_pour 7 = .ok (.putfield 97, 3) := by decide +kernel
theorem dX8_pour_10 : decode cX8_pour 10 = .ok (.iload_n 1, 1) := by decide +kernel
theorem dX8_pour_11 : decode cX8_pour 11 = .ok (.ifCond .lt 17, 3) := by decide +kernel
theorem dX8_pour_14 : decode cX8_pour 14 = .ok (.iload_n 1, 1) := by decide +kernel
theorem dX8_pour_15 : decode cX8_pour 15 = .ok (.iconst 4, 1) := by decide +kernel
theorem dX8_pour_16 : decode cX8_pour 16 = .ok (.if_icmp .ge 12, 3) := by decide +kernel
theorem dX8_pour_19 : decode cX8_pour 19 = .ok (.iload_n 3, 1) := by decide +kernel
theorem dX8_pour_20 : decode cX8_pour 20 = .ok (.ifCond .lt 8, 3) := by decide +kernel
theorem dX8_pour_23 : decode cX8_pour 23 = .ok (.iload_n 3, 1) := by decide +kernel
theorem dX8_pour_24 : decode cX8_pour 24 = .ok (.iconst 4, 1) := by decide +kernel
theorem dX8_pour_25 : decode cX8_pour 25 = .ok (.if_icmp .lt 9, 3) := by decide +kernel
theorem dX8_pour_28 : decode cX8_pour 28 = .ok (.aload_n 0, 1) := by decide +kernel
theorem dX8_pour_29 : decode cX8_pour 29 = .ok (.iconst 1, 1) := by decide +kernel
theorem dX8_pour_30 : decode cX8_pour 30 = .ok (.invokevirtual 100, 3) := by decide +kernel
theorem dX8_pour_33 : decode cX8_pour 33 = .ok (.ireturn, 1) := by decide +kernel
theorem dX8_pour_34 : decode cX8_pour 34 = .ok (.aload_n 0, 1) := by decide +kernel
theorem dX8_pour_35 : decode cX8_pour 35 = .ok (.getfield 17, 3) := by decide +kernel
theorem dX8_pour_38 : decode cX8_pour 38 = .ok (.iload_n 1, 1) := by decide +kernel
theorem dX8_pour_39 : decode cX8_pour 39 = .ok (.iaload, 1) := by decide +kernel
theorem dX8_pour_40 : decode cX8_pour 40 = .ok (.ifCond .lt 12, 3) := by decide +kernel
theorem dX8_pour_43 : decode cX8_pour 43 = .ok (.aload_n 0, 1) := by decide +kernel
theorem dX8_pour_44 : decode cX8_pour 44 = .ok (.getfield 17, 3) := by decide +kernel
theorem dX8_pour_47 : decode cX8_pour 47 = .ok (.iload_n 3, 1) := by decide +kernel
theorem dX8_pour_48 : decode cX8_pour 48 = .ok (.iaload, 1) := by decide +kernel
theorem dX8_pour_49 : decode cX8_pour 49 = .ok (.ifCond .ge 9, 3) := by decide +kernel
theorem dX8_pour_52 : decode cX8_pour 52 = .ok (.aload_n 0, 1) := by decide +kernel
theorem dX8_pour_53 : decode cX8_pour 53 = .ok (.iconst 3, 1) := by decide +kernel
theorem dX8_pour_54 : decode cX8_pour 54 = .ok (.invokevirtual 100, 3) := by decide +kernel
theorem dX8_pour_57 : decode cX8_pour 57 = .ok (.ireturn, 1) := by decide +kernel
theorem dX8_pour_58 : decode cX8_pour 58 = .ok (.aload_n 0, 1) := by decide +kernel
theorem dX8_pour_59 : decode cX8_pour 59 = .ok (.getfield 13, 3) := by decide +kernel
theorem dX8_pour_62 : decode cX8_pour 62 = .ok (.iload_n 1, 1) := by decide +kernel
theorem dX8_pour_63 : decode cX8_pour 63 = .ok (.iaload, 1) := by decide +kernel
theorem dX8_pour_64 : decode cX8_pour 64 = .ok (.aload_n 0, 1) := by decide +kernel
theorem dX8_pour_65 : decode cX8_pour 65 = .ok (.getfield 13, 3) := by decide +kernel
theorem dX8_pour_68 : decode cX8_pour 68 = .ok (.iload_n 3, 1) := by decide +kernel
theorem dX8_pour_69 : decode cX8_pour 69 = .ok (.iaload, 1) := by decide +kernel
theorem dX8_pour_70 : decode cX8_pour 70 = .ok (.if_icmp .eq 10, 3) := by decide +kernel
theorem dX8_pour_73 : decode cX8_pour 73 = .ok (.aload_n 0, 1) := by decide +kernel
theorem dX8_pour_74 : decode cX8_pour 74 = .ok (.bipush 11, 2) := by decide +kernel
theorem dX8_pour_76 : decode cX8_pour 76 = .ok (.invokevirtual 100, 3) := by decide +kernel
theorem dX8_pour_79 : decode cX8_pour 79 = .ok (.ireturn, 1) := by decide +kernel
theorem dX8_pour_80 : decode cX8_pour 80 = .ok (.iload 5, 2) := by decide +kernel
theorem dX8_pour_82 : decode cX8_pour 82 = .ok (.ifCond .ge 10, 3) := by decide +kernel
theorem dX8_pour_85 : decode cX8_pour 85 = .ok (.aload_n 0, 1) := by decide +kernel
theorem dX8_pour_86 : decode cX8_pour 86 = .ok (.bipush 6, 2) := by decide +kernel
theorem dX8_pour_88 : decode cX8_pour 88 = .ok (.invokevirtual 100, 3) := by decide +kernel
theorem dX8_pour_91 : decode cX8_pour 91 = .ok (.ireturn, 1) := by decide +kernel
theorem dX8_pour_92 : decode cX8_pour 92 = .ok (.iload_n 2, 1) := by decide +kernel
theorem dX8_pour_93 : decode cX8_pour 93 = .ok (.ifCond .lt 43, 3) := by decide +kernel
theorem dX8_pour_96 : decode cX8_pour 96 = .ok (.iload 4, 2) := by decide +kernel
theorem dX8_pour_98 : decode cX8_pour 98 = .ok (.ifCond .lt 38, 3) := by decide +kernel
theorem dX8_pour_101 : decode cX8_pour 101 = .ok (.iload_n 2, 1) := by decide +kernel
theorem dX8_pour_102 : decode cX8_pour 102 = .ok (.i2l, 1) := by decide +kernel
theorem dX8_pour_103 : decode cX8_pour 103 = .ok (.iload 5, 2) := by decide +kernel
theorem dX8_pour_105 : decode cX8_pour 105 = .ok (.i2l, 1) := by decide +kernel
theorem dX8_pour_106 : decode cX8_pour 106 = .ok (.ladd, 1) := by decide +kernel
theorem dX8_pour_107 : decode cX8_pour 107 = .ok (.aload_n 0, 1) := by decide +kernel
theorem dX8_pour_108 : decode cX8_pour 108 = .ok (.getfield 17, 3) := by decide +kernel
theorem dX8_pour_111 : decode cX8_pour 111 = .ok (.iload_n 1, 1) := by decide +kernel
theorem dX8_pour_112 : decode cX8_pour 112 = .ok (.iaload, 1) := by decide +kernel
theorem dX8_pour_113 : decode cX8_pour 113 = .ok (.i2l, 1) := by decide +kernel
theorem dX8_pour_114 : decode cX8_pour 114 = .ok (.lcmp, 1) := by decide +kernel
theorem dX8_pour_115 : decode cX8_pour 115 = .ok (.ifCond .gt 21, 3) := by decide +kernel
theorem dX8_pour_118 : decode cX8_pour 118 = .ok (.iload 4, 2) := by decide +kernel
theorem dX8_pour_120 : decode cX8_pour 120 = .ok (.i2l, 1) := by decide +kernel
theorem dX8_pour_121 : decode cX8_pour 121 = .ok (.iload 5, 2) := by decide +kernel
theorem dX8_pour_123 : decode cX8_pour 123 = .ok (.i2l, 1) := by decide +kernel
theorem dX8_pour_124 : decode cX8_pour 124 = .ok (.ladd, 1) := by decide +kernel
theorem dX8_pour_125 : decode cX8_pour 125 = .ok (.aload_n 0, 1) := by decide +kernel
theorem dX8_pour_126 : decode cX8_pour 126 = .ok (.getfield 17, 3) := by decide +kernel
theorem dX8_pour_129 : decode cX8_pour 129 = .ok (.iload_n 3, 1) := by decide +kernel
theorem dX8_pour_130 : decode cX8_pour 130 = .ok (.iaload, 1) := by decide +kernel
theorem dX8_pour_131 : decode cX8_pour 131 = .ok (.i2l, 1) := by decide +kernel
theorem dX8_pour_132 : decode cX8_pour 132 = .ok (.lcmp, 1) := by decide +kernel
theorem dX8_pour_133 : decode cX8_pour 133 = .ok (.ifCond .le 9, 3) := by decide +kernel
theorem dX8_pour_136 : decode cX8_pour 136 = .ok (.aload_n 0, 1) := by decide +kernel
theorem dX8_pour_137 : decode cX8_pour 137 = .ok (.iconst 4, 1) := by decide +kernel
theorem dX8_pour_138 : decode cX8_pour 138 = .ok (.invokevirtual 100, 3) := by decide +kernel
theorem dX8_pour_141 : decode cX8_pour 141 = .ok (.ireturn, 1) := by decide +kernel
theorem dX8_pour_142 : decode cX8_pour 142 = .ok (.iload_n 2, 1) := by decide +kernel
theorem dX8_pour_143 : decode cX8_pour 143 = .ok (.iload 4, 2) := by decide +kernel
theorem dX8_pour_145 : decode cX8_pour 145 = .ok (.if_icmp .ge 7, 3) := by decide +kernel
theorem dX8_pour_148 : decode cX8_pour 148 = .ok (.iconst 1, 1) := by decide +kernel
theorem dX8_pour_149 : decode cX8_pour 149 = .ok (.goto 4, 3) := by decide +kernel
theorem dX8_pour_152 : decode cX8_pour 152 = .ok (.iconst 0, 1) := by decide +kernel
theorem dX8_pour_153 : decode cX8_pour 153 = .ok (.istore 6, 2) := by decide +kernel
theorem dX8_pour_155 : decode cX8_pour 155 = .ok (.iconst 0, 1) := by decide +kernel
theorem dX8_pour_156 : decode cX8_pour 156 = .ok (.istore 7, 2) := by decide +kernel
theorem dX8_pour_158 : decode cX8_pour 158 = .ok (.iload 7, 2) := by decide +kernel
theorem dX8_pour_160 : decode cX8_pour 160 = .ok (.iload 5, 2) := by decide +kernel
theorem dX8_pour_162 : decode cX8_pour 162 = .ok (.if_icmp .ge 57, 3) := by decide +kernel
theorem dX8_pour_165 : decode cX8_pour 165 = .ok (.iload 6, 2) := by decide +kernel
theorem dX8_pour_167 : decode cX8_pour 167 = .ok (.ifCond .eq 13, 3) := by decide +kernel
theorem dX8_pour_170 : decode cX8_pour 170 = .ok (.iload 5, 2) := by decide +kernel
theorem dX8_pour_172 : decode cX8_pour 172 = .ok (.iconst 1, 1) := by decide +kernel
theorem dX8_pour_173 : decode cX8_pour 173 = .ok (.isub, 1) := by decide +kernel
theorem dX8_pour_174 : decode cX8_pour 174 = .ok (.iload 7, 2) := by decide +kernel
theorem dX8_pour_176 : decode cX8_pour 176 = .ok (.isub, 1) := by decide +kernel
theorem dX8_pour_177 : decode cX8_pour 177 = .ok (.goto 5, 3) := by decide +kernel
theorem dX8_pour_180 : decode cX8_pour 180 = .ok (.iload 7, 2) := by decide +kernel
theorem dX8_pour_182 : decode cX8_pour 182 = .ok (.istore 8, 2) := by decide +kernel
theorem dX8_pour_184 : decode cX8_pour 184 = .ok (.aload_n 0, 1) := by decide +kernel
theorem dX8_pour_185 : decode cX8_pour 185 = .ok (.getfield 20, 3) := by decide +kernel
theorem dX8_pour_188 : decode cX8_pour 188 = .ok (.bipush 40, 2) := by decide +kernel
theorem dX8_pour_190 : decode cX8_pour 190 = .ok (.iload_n 3, 1) := by decide +kernel
theorem dX8_pour_191 : decode cX8_pour 191 = .ok (.imul, 1) := by decide +kernel
theorem dX8_pour_192 : decode cX8_pour 192 = .ok (.iload 4, 2) := by decide +kernel
theorem dX8_pour_194 : decode cX8_pour 194 = .ok (.iadd, 1) := by decide +kernel
theorem dX8_pour_195 : decode cX8_pour 195 = .ok (.iload 8, 2) := by decide +kernel
theorem dX8_pour_197 : decode cX8_pour 197 = .ok (.iadd, 1) := by decide +kernel
theorem dX8_pour_198 : decode cX8_pour 198 = .ok (.aload_n 0, 1) := by decide +kernel
theorem dX8_pour_199 : decode cX8_pour 199 = .ok (.getfield 20, 3) := by decide +kernel
theorem dX8_pour_202 : decode cX8_pour 202 = .ok (.bipush 40, 2) := by decide +kernel
theorem dX8_pour_204 : decode cX8_pour 204 = .ok (.iload_n 1, 1) := by decide +kernel
theorem dX8_pour_205 : decode cX8_pour 205 = .ok (.imul, 1) := by decide +kernel
theorem dX8_pour_206 : decode cX8_pour 206 = .ok (.iload_n 2, 1) := by decide +kernel
theorem dX8_pour_207 : decode cX8_pour 207 = .ok (.iadd, 1) := by decide +kernel
theorem dX8_pour_208 : decode cX8_pour 208 = .ok (.iload 8, 2) := by decide +kernel
theorem dX8_pour_210 : decode cX8_pour 210 = .ok (.iadd, 1) := by decide +kernel
theorem dX8_pour_211 : decode cX8_pour 211 = .ok (.laload, 1) := by decide +kernel
theorem dX8_pour_212 : decode cX8_pour 212 = .ok (.lastore, 1) := by decide +kernel
theorem dX8_pour_213 : decode cX8_pour 213 = .ok (.iinc 7 1, 3) := by decide +kernel
theorem dX8_pour_216 : decode cX8_pour 216 = .ok (.goto (-58), 3) := by decide +kernel
theorem dX8_pour_219 : decode cX8_pour 219 = .ok (.iconst 1, 1) := by decide +kernel
theorem dX8_pour_220 : decode cX8_pour 220 = .ok (.ireturn, 1) := by decide +kernel
theorem dX8_isThing_0 : decode cX8_isThing 0 = .ok (.iload_n 1, 1) := by decide +kernel
theorem dX8_isThing_1 : decode cX8_isThing 1 = .ok (.ifCond .lt 15, 3) := by decide +kernel
theorem dX8_isThing_4 : decode cX8_isThing 4 = .ok (.iload_n 1, 1) := by decide +kernel
theorem dX8_isThing_5 : decode cX8_isThing 5 = .ok (.aload_n 0, 1) := by decide +kernel
theorem dX8_isThing_6 : decode cX8_isThing 6 = .ok (.getfield 118, 3) := by decide +kernel
theorem dX8_isThing_9 : decode cX8_isThing 9 = .ok (.if_icmp .ge 7, 3) := by decide +kernel
theorem dX8_isThing_12 : decode cX8_isThing 12 = .ok (.iconst 1, 1) := by decide +kernel
theorem dX8_isThing_13 : decode cX8_isThing 13 = .ok (.goto 4, 3) := by decide +kernel
theorem dX8_isThing_16 : decode cX8_isThing 16 = .ok (.iconst 0, 1) := by decide +kernel
theorem dX8_isThing_17 : decode cX8_isThing 17 = .ok (.ireturn, 1) := by decide +kernel
theorem dX8_thing_0 : decode cX8_thing 0 = .ok (.aload_n 0, 1) := by decide +kernel
theorem dX8_thing_1 : decode cX8_thing 1 = .ok (.iconst 0, 1) := by decide +kernel
theorem dX8_thing_2 : decode cX8_thing 2 = .ok (.putfield 93, 3) := by decide +kernel
theorem dX8_thing_5 : decode cX8_thing 5 = .ok (.aload_n 0, 1) := by decide +kernel
theorem dX8_thing_6 : decode cX8_thing 6 = .ok (.iconst 0, 1) := by decide +kernel
theorem dX8_thing_7 : decode cX8_thing 7 = .ok (.putfield 97, 3) := by decide +kernel
theorem dX8_thing_10 : decode cX8_thing 10 = .ok (.iload_n 1, 1) := by decide +kernel
theorem dX8_thing_11 : decode cX8_thing 11 = .ok (.ifCond .lt 8, 3) := by decide +kernel
theorem dX8_thing_14 : decode cX8_thing 14 = .ok (.iload_n 1, 1) := by decide +kernel
theorem dX8_thing_15 : decode cX8_thing 15 = .ok (.iconst 3, 1) := by decide +kernel
theorem dX8_thing_16 : decode cX8_thing 16 = .ok (.if_icmp .le 9, 3) := by decide +kernel
theorem dX8_thing_19 : decode cX8_thing 19 = .ok (.aload_n 0, 1) := by decide +kernel
theorem dX8_thing_20 : decode cX8_thing 20 = .ok (.iconst 5, 1) := by decide +kernel
theorem dX8_thing_21 : decode cX8_thing 21 = .ok (.invokevirtual 121, 3) := by decide +kernel
theorem dX8_thing_24 : decode cX8_thing 24 = .ok (.ireturn, 1) := by decide +kernel
theorem dX8_thing_25 : decode cX8_thing 25 = .ok (.iload_n 1, 1) := by decide +kernel
theorem dX8_thing_26 : decode cX8_thing 26 = .ok (.ifCond .ne 11, 3) := by decide +kernel
theorem dX8_thing_29 : decode cX8_thing 29 = .ok (.iload_n 2, 1) := by decide +kernel
theorem dX8_thing_30 : decode cX8_thing 30 = .ok (.iconst (-1), 1) := by decide +kernel
theorem dX8_thing_31 : decode cX8_thing 31 = .ok (.if_icmp .eq 20, 3) := by decide +kernel
theorem dX8_thing_34 : decode cX8_thing 34 = .ok (.goto 11, 3) := by decide +kernel
theorem dX8_thing_37 : decode cX8_thing 37 = .ok (.aload_n 0, 1) := by decide +kernel
theorem dX8_thing_38 : decode cX8_thing 38 = .ok (.iload_n 2, 1) := by decide +kernel
theorem dX8_thing_39 : decode cX8_thing 39 = .ok (.invokevirtual 124, 3) := by decide +kernel
theorem dX8_thing_42 : decode cX8_thing 42 = .ok (.ifCond .ne 9, 3) := by decide +kernel
theorem dX8_thing_45 : decode cX8_thing 45 = .ok (.aload_n 0, 1) := by decide +kernel
theorem dX8_thing_46 : decode cX8_thing 46 = .ok (.iconst 2, 1) := by decide +kernel
theorem dX8_thing_47 : decode cX8_thing 47 = .ok (.invokevirtual 121, 3) := by decide +kernel
theorem dX8_thing_50 : decode cX8_thing 50 = .ok (.ireturn, 1) := by decide +kernel
theorem dX8_thing_51 : decode cX8_thing 51 = .ok (.iload_n 1, 1) := by decide +kernel
theorem dX8_thing_52 : decode cX8_thing 52 = .ok (.ifCond .le 37, 3) := by decide +kernel
theorem dX8_thing_55 : decode cX8_thing 55 = .ok (.aload_n 0, 1) := by decide +kernel
theorem dX8_thing_56 : decode cX8_thing 56 = .ok (.getfield 24, 3) := by decide +kernel
theorem dX8_thing_59 : decode cX8_thing 59 = .ok (.iload_n 2, 1) := by decide +kernel
theorem dX8_thing_60 : decode cX8_thing 60 = .ok (.iaload, 1) := by decide +kernel
theorem dX8_thing_61 : decode cX8_thing 61 = .ok (.iload_n 1, 1) := by decide +kernel
theorem dX8_thing_62 : decode cX8_thing 62 = .ok (.iconst 1, 1) := by decide +kernel
theorem dX8_thing_63 : decode cX8_thing 63 = .ok (.isub, 1) := by decide +kernel
theorem dX8_thing_64 : decode cX8_thing 64 = .ok (.if_icmp .eq 25, 3) := by decide +kernel
theorem dX8_thing_67 : decode cX8_thing 67 = .ok (.iload_n 1, 1) := by decide +kernel
theorem dX8_thing_68 : decode cX8_thing 68 = .ok (.iconst 3, 1) := by decide +kernel
theorem dX8_thing_69 : decode cX8_thing 69 = .ok (.if_icmp .ne 13, 3) := by decide +kernel
theorem dX8_thing_72 : decode cX8_thing 72 = .ok (.aload_n 0, 1) := by decide +kernel
theorem dX8_thing_73 : decode cX8_thing 73 = .ok (.getfield 24, 3) := by decide +kernel
theorem dX8_thing_76 : decode cX8_thing 76 = .ok (.iload_n 2, 1) := by decide +kernel
theorem dX8_thing_77 : decode cX8_thing 77 = .ok (.iaload, 1) := by decide +kernel
theorem dX8_thing_78 : decode cX8_thing 78 = .ok (.iconst 1, 1) := by decide +kernel
theorem dX8_thing_79 : decode cX8_thing 79 = .ok (.if_icmp .eq 10, 3) := by decide +kernel
theorem dX8_thing_82 : decode cX8_thing 82 = .ok (.aload_n 0, 1) := by decide +kernel
theorem dX8_thing_83 : decode cX8_thing 83 = .ok (.bipush 8, 2) := by decide +kernel
theorem dX8_thing_85 : decode cX8_thing 85 = .ok (.invokevirtual 121, 3) := by decide +kernel
theorem dX8_thing_88 : decode cX8_thing 88 = .ok (.ireturn, 1) := by decide +kernel
theorem dX8_thing_89 : decode cX8_thing 89 = .ok (.aload_n 0, 1) := by decide +kernel
theorem dX8_thing_90 : decode cX8_thing 90 = .ok (.getfield 118, 3) := by decide +kernel
theorem dX8_thing_93 : decode cX8_thing 93 = .ok (.bipush 80, 2) := by decide +kernel
theorem dX8_thing_95 : decode cX8_thing 95 = .ok (.if_icmp .ne 10, 3) := by decide +kernel
theorem dX8_thing_98 : decode cX8_thing 98 = .ok (.aload_n 0, 1) := by decide +kernel
theorem dX8_thing_99 : decode cX8_thing 99 = .ok (.bipush 7, 2) := by decide +kernel
theorem dX8_thing_101 : decode cX8_thing 101 = .ok (.invokevirtual 121, 3) := by decide +kernel
theorem dX8_thing_104 : decode cX8_thing 104 = .ok (.ireturn, 1) := by decide +kernel
theorem dX8_thing_105 : decode cX8_thing 105 = .ok (.aload_n 0, 1) := by decide +kernel
theorem dX8_thing_106 : decode cX8_thing 106 = .ok (.getfield 118, 3) := by decide +kernel
theorem dX8_thing_109 : decode cX8_thing 109 = .ok (.istore_n 3, 1) := by decide +kernel
theorem dX8_thing_110 : decode cX8_thing 110 = .ok (.aload_n 0, 1) := by decide +kernel
theorem dX8_thing_111 : decode cX8_thing 111 = .ok (.getfield 24, 3) := by decide +kernel
theorem dX8_thing_114 : decode cX8_thing 114 = .ok (.iload_n 3, 1) := by decide +kernel
theorem dX8_thing_115 : decode cX8_thing 115 = .ok (.iload_n 1, 1) := by decide +kernel
theorem dX8_thing_116 : decode cX8_thing 116 = .ok (.iastore, 1) := by decide +kernel
theorem dX8_thing_117 : decode cX8_thing 117 = .ok (.aload_n 0, 1) := by decide +kernel
theorem dX8_thing_118 : decode cX8_thing 118 = .ok (.getfield 27, 3) := by decide +kernel
theorem dX8_thing_121 : decode cX8_thing 121 = .ok (.iload_n 3, 1) := by decide +kernel
theorem dX8_thing_122 : decode cX8_thing 122 = .ok (.iload_n 2, 1) := by decide +kernel
theorem dX8_thing_123 : decode cX8_thing 123 = .ok (.iastore, 1) := by decide +kernel
theorem dX8_thing_124 : decode cX8_thing 124 = .ok (.aload_n 0, 1) := by decide +kernel
theorem dX8_thing_125 : decode cX8_thing 125 = .ok (.getfield 30, 3) := by decide +kernel
theorem dX8_thing_128 : decode cX8_thing 128 = .ok (.iload_n 3, 1) := by decide +kernel
theorem dX8_thing_129 : decode cX8_thing 129 = .ok (.iconst (-1), 1) := by decide +kernel
theorem dX8_thing_130 : decode cX8_thing 130 = .ok (.iastore, 1) := by decide +kernel
theorem dX8_thing_131 : decode cX8_thing 131 = .ok (.aload_n 0, 1) := by decide +kernel
theorem dX8_thing_132 : decode cX8_thing 132 = .ok (.getfield 33, 3) := by decide +kernel
theorem dX8_thing_135 : decode cX8_thing 135 = .ok (.iload_n 3, 1) := by decide +kernel
theorem dX8_thing_136 : decode cX8_thing 136 = .ok (.iload_n 3, 1) := by decide +kernel
theorem dX8_thing_137 : decode cX8_thing 137 = .ok (.iastore, 1) := by decide +kernel
theorem dX8_thing_138 : decode cX8_thing 138 = .ok (.iconst 0, 1) := by decide +kernel
theorem dX8_thing_139 : decode cX8_thing 139 = .ok (.istore 4, 2) := by decide +kernel
theorem dX8_thing_141 : decode cX8_thing 141 = .ok (.iload 4, 2) := by decide +kernel
theorem dX8_thing_143 : decode cX8_thing 143 = .ok (.bipush 6, 2) := by decide +kernel
theorem dX8_thing_145 : decode cX8_thing 145 = .ok (.if_icmp .ge 22, 3) := by decide +kernel
theorem dX8_thing_148 : decode cX8_thing 148 = .ok (.aload_n 0, 1) := by decide +kernel
theorem dX8_thing_149 : decode cX8_thing 149 = .ok (.getfield 36, 3) := by decide +kernel
theorem dX8_thing_152 : decode cX8_thing 152 = .ok (.bipush 6, 2) := by decide +kernel
theorem dX8_thing_154 : decode cX8_thing 154 = .ok (.iload_n 3, 1) := by decide +kernel
theorem dX8_thing_155 : decode cX8_thing 155 = .ok (.imul, 1) := by decide +kernel
theorem dX8_thing_156 : decode cX8_thing 156 = .ok (.iload 4, 2) := by decide +kernel
theorem dX8_thing_158 : decode cX8_thing 158 = .ok (.iadd, 1) := by decide +kernel
theorem dX8_thing_159 : decode cX8_thing 159 = .ok (.iconst (-1), 1) := by decide +kernel
theorem dX8_thing_160 : decode cX8_thing 160 = .ok (.iastore, 1) := by decide +kernel
theorem dX8_thing_161 : decode cX8_thing 161 = .ok (.iinc 4 1, 3) := by decide +kernel
theorem dX8_thing_164 : decode cX8_thing 164 = .ok (.goto (-23), 3) := by decide +kernel
theorem dX8_thing_167 : decode cX8_thing 167 = .ok (.aload_n 0, 1) := by decide +kernel
theorem dX8_thing_168 : decode cX8_thing 168 = .ok (.getfield 39, 3) := by decide +kernel
theorem dX8_thing_171 : decode cX8_thing 171 = .ok (.iload_n 3, 1) := by decide +kernel
theorem dX8_thing_172 : decode cX8_thing 172 = .ok (.iconst (-1), 1) := by decide +kernel
theorem dX8_thing_173 : decode cX8_thing 173 = .ok (.iastore, 1) := by decide +kernel
theorem dX8_thing_174 : decode cX8_thing 174 = .ok (.aload_n 0, 1) := by decide +kernel
theorem dX8_thing_175 : decode cX8_thing 175 = .ok (.getfield 45, 3) := by decide +kernel
theorem dX8_thing_178 : decode cX8_thing 178 = .ok (.iload_n 3, 1) := by decide +kernel
theorem dX8_thing_179 : decode cX8_thing 179 = .ok (.iconst (-1), 1) := by decide +kernel
theorem dX8_thing_180 : decode cX8_thing 180 = .ok (.iastore, 1) := by decide +kernel
theorem dX8_thing_181 : decode cX8_thing 181 = .ok (.aload_n 0, 1) := by decide +kernel
theorem dX8_thing_182 : decode cX8_thing 182 = .ok (.getfield 51, 3) := by decide +kernel
theorem dX8_thing_185 : decode cX8_thing 185 = .ok (.iload_n 3, 1) := by decide +kernel
theorem dX8_thing_186 : decode cX8_thing 186 = .ok (.iconst (-1), 1) := by decide +kernel
theorem dX8_thing_187 : decode cX8_thing 187 = .ok (.iastore, 1) := by decide +kernel
theorem dX8_thing_188 : decode cX8_thing 188 = .ok (.aload_n 0, 1) := by decide +kernel
theorem dX8_thing_189 : decode cX8_thing 189 = .ok (.getfield 54, 3) := by decide +kernel
theorem dX8_thing_192 : decode cX8_thing 192 = .ok (.iload_n 3, 1) := by decide +kernel
theorem dX8_thing_193 : decode cX8_thing 193 = .ok (.iconst (-1), 1) := by decide +kernel
theorem dX8_thing_194 : decode cX8_thing 194 = .ok (.iastore, 1) := by decide +kernel
theorem dX8_thing_195 : decode cX8_thing 195 = .ok (.aload_n 0, 1) := by decide +kernel
theorem dX8_thing_196 : decode cX8_thing 196 = .ok (.getfield 57, 3) := by decide +kernel
theorem dX8_thing_199 : decode cX8_thing 199 = .ok (.iload_n 3, 1) := by decide +kernel
theorem dX8_thing_200 : decode cX8_thing 200 = .ok (.iconst (-1), 1) := by decide +kernel
theorem dX8_thing_201 : decode cX8_thing 201 = .ok (.iastore, 1) := by decide +kernel
theorem dX8_thing_202 : decode cX8_thing 202 = .ok (.aload_n 0, 1) := by decide +kernel
theorem dX8_thing_203 : decode cX8_thing 203 = .ok (.dup, 1) := by decide +kernel
theorem dX8_thing_204 : decode cX8_thing 204 = .ok (.getfield 118, 3) := by decide +kernel
theorem dX8_thing_207 : decode cX8_thing 207 = .ok (.iconst 1, 1) := by decide +kernel
theorem dX8_thing_208 : decode cX8_thing 208 = .ok (.iadd, 1) := by decide +kernel
theorem dX8_thing_209 : decode cX8_thing 209 = .ok (.putfield 118, 3) := by decide +kernel
theorem dX8_thing_212 : decode cX8_thing 212 = .ok (.iload_n 3, 1) := by decide +kernel
theorem dX8_thing_213 : decode cX8_thing 213 = .ok (.ireturn, 1) := by decide +kernel
theorem dX8_told_0 : decode cX8_told 0 = .ok (.aload_n 0, 1) := by decide +kernel
theorem dX8_told_1 : decode cX8_told 1 = .ok (.iconst 0, 1) := by decide +kernel
theorem dX8_told_2 : decode cX8_told 2 = .ok (.putfield 93, 3) := by decide +kernel
theorem dX8_told_5 : decode cX8_told 5 = .ok (.aload_n 0, 1) := by decide +kernel
theorem dX8_told_6 : decode cX8_told 6 = .ok (.iconst 0, 1) := by decide +kernel
theorem dX8_told_7 : decode cX8_told 7 = .ok (.putfield 97, 3) := by decide +kernel
theorem dX8_told_10 : decode cX8_told 10 = .ok (.aload_n 0, 1) := by decide +kernel
theorem dX8_told_11 : decode cX8_told 11 = .ok (.iload_n 1, 1) := by decide +kernel
theorem dX8_told_12 : decode cX8_told 12 = .ok (.invokevirtual 124, 3) := by decide +kernel
theorem dX8_told_15 : decode cX8_told 15 = .ok (.ifCond .ne 9, 3) := by decide +kernel
theorem dX8_told_18 : decode cX8_told 18 = .ok (.aload_n 0, 1) := by decide +kernel
theorem dX8_told_19 : decode cX8_told 19 = .ok (.iconst 2, 1) := by decide +kernel
theorem dX8_told_20 : decode cX8_told 20 = .ok (.invokevirtual 121, 3) := by decide +kernel
theorem dX8_told_23 : decode cX8_told 23 = .ok (.ireturn, 1) := by decide +kernel
theorem dX8_told_24 : decode cX8_told 24 = .ok (.iload_n 2, 1) := by decide +kernel
theorem dX8_told_25 : decode cX8_told 25 = .ok (.tableswitch 126 0 6 #[43, 50, 57, 98, 105, 112, 119], 43) := by decide +kernel
theorem dX8_told_68 : decode cX8_told 68 = .ok (.aload_n 0, 1) := by decide +kernel
theorem dX8_told_69 : decode cX8_told 69 = .ok (.getfield 24, 3) := by decide +kernel
theorem dX8_told_72 : decode cX8_told 72 = .ok (.iload_n 1, 1) := by decide +kernel
theorem dX8_told_73 : decode cX8_told 73 = .ok (.iaload, 1) := by decide +kernel
theorem dX8_told_74 : decode cX8_told 74 = .ok (.ireturn, 1) := by decide +kernel
theorem dX8_told_75 : decode cX8_told 75 = .ok (.aload_n 0, 1) := by decide +kernel
theorem dX8_told_76 : decode cX8_told 76 = .ok (.getfield 27, 3) := by decide +kernel
theorem dX8_told_79 : decode cX8_told 79 = .ok (.iload_n 1, 1) := by decide +kernel
theorem dX8_told_80 : decode cX8_told 80 = .ok (.iaload, 1) := by decide +kernel
theorem dX8_told_81 : decode cX8_told 81 = .ok (.ireturn, 1) := by decide +kernel
theorem dX8_told_82 : decode cX8_told 82 = .ok (.iconst 0, 1) := by decide +kernel
theorem dX8_told_83 : decode cX8_told 83 = .ok (.istore_n 3, 1) := by decide +kernel
theorem dX8_told_84 : decode cX8_told 84 = .ok (.iconst 0, 1) := by decide +kernel
theorem dX8_told_85 : decode cX8_told 85 = .ok (.istore 4, 2) := by decide +kernel
theorem dX8_told_87 : decode cX8_told 87 = .ok (.iload 4, 2) := by decide +kernel
theorem dX8_told_89 : decode cX8_told 89 = .ok (.aload_n 0, 1) := by decide +kernel
theorem dX8_told_90 : decode cX8_told 90 = .ok (.getfield 118, 3) := by decide +kernel
theorem dX8_told_93 : decode cX8_told 93 = .ok (.if_icmp .ge 28, 3) := by decide +kernel
theorem dX8_told_96 : decode cX8_told 96 = .ok (.iload_n 3, 1) := by decide +kernel
theorem dX8_told_97 : decode cX8_told 97 = .ok (.aload_n 0, 1) := by decide +kernel
theorem dX8_told_98 : decode cX8_told 98 = .ok (.getfield 27, 3) := by decide +kernel
theorem dX8_told_101 : decode cX8_told 101 = .ok (.iload 4, 2) := by decide +kernel
theorem dX8_told_103 : decode cX8_told 103 = .ok (.iaload, 1) := by decide +kernel
theorem dX8_told_104 : decode cX8_told 104 = .ok (.iload_n 1, 1) := by decide +kernel
theorem dX8_told_105 : decode cX8_told 105 = .ok (.if_icmp .ne 7, 3) := by decide +kernel
theorem dX8_told_108 : decode cX8_told 108 = .ok (.iconst 1, 1) := by decide +kernel
theorem dX8_told_109 : decode cX8_told 109 = .ok (.goto 4, 3) := by decide +kernel
theorem dX8_told_112 : decode cX8_told 112 = .ok (.iconst 0, 1) := by decide +kernel
theorem dX8_told_113 : decode cX8_told 113 = .ok (.iadd, 1) := by decide +kernel
theorem dX8_told_114 : decode cX8_told 114 = .ok (.istore_n 3, 1) := by decide +kernel
theorem dX8_told_115 : decode cX8_told 115 = .ok (.iinc 4 1, 3) := by decide +kernel
theorem dX8_told_118 : decode cX8_told 118 = .ok (.goto (-31), 3) := by decide +kernel
theorem dX8_told_121 : decode cX8_told 121 = .ok (.iload_n 3, 1) := by decide +kernel
theorem dX8_told_122 : decode cX8_told 122 = .ok (.ireturn, 1) := by decide +kernel
theorem dX8_told_123 : decode cX8_told 123 = .ok (.aload_n 0, 1) := by decide +kernel
theorem dX8_told_124 : decode cX8_told 124 = .ok (.getfield 30, 3) := by decide +kernel
theorem dX8_told_127 : decode cX8_told 127 = .ok (.iload_n 1, 1) := by decide +kernel
theorem dX8_told_128 : decode cX8_told 128 = .ok (.iaload, 1) := by decide +kernel
theorem dX8_told_129 : decode cX8_told 129 = .ok (.ireturn, 1) := by decide +kernel
theorem dX8_told_130 : decode cX8_told 130 = .ok (.aload_n 0, 1) := by decide +kernel
theorem dX8_told_131 : decode cX8_told 131 = .ok (.getfield 54, 3) := by decide +kernel
theorem dX8_told_134 : decode cX8_told 134 = .ok (.iload_n 1, 1) := by decide +kernel
theorem dX8_told_135 : decode cX8_told 135 = .ok (.iaload, 1) := by decide +kernel
theorem dX8_told_136 : decode cX8_told 136 = .ok (.ireturn, 1) := by decide +kernel
theorem dX8_told_137 : decode cX8_told 137 = .ok (.aload_n 0, 1) := by decide +kernel
theorem dX8_told_138 : decode cX8_told 138 = .ok (.getfield 57, 3) := by decide +kernel
theorem dX8_told_141 : decode cX8_told 141 = .ok (.iload_n 1, 1) := by decide +kernel
theorem dX8_told_142 : decode cX8_told 142 = .ok (.iaload, 1) := by decide +kernel
theorem dX8_told_143 : decode cX8_told 143 = .ok (.ireturn, 1) := by decide +kernel
theorem dX8_told_144 : decode cX8_told 144 = .ok (.aload_n 0, 1) := by decide +kernel
theorem dX8_told_145 : decode cX8_told 145 = .ok (.getfield 51, 3) := by decide +kernel
theorem dX8_told_148 : decode cX8_told 148 = .ok (.iload_n 1, 1) := by decide +kernel
theorem dX8_told_149 : decode cX8_told 149 = .ok (.iaload, 1) := by decide +kernel
theorem dX8_told_150 : decode cX8_told 150 = .ok (.ireturn, 1) := by decide +kernel
theorem dX8_told_151 : decode cX8_told 151 = .ok (.aload_n 0, 1) := by decide +kernel
theorem dX8_told_152 : decode cX8_told 152 = .ok (.iconst 5, 1) := by decide +kernel
theorem dX8_told_153 : decode cX8_told 153 = .ok (.invokevirtual 121, 3) := by decide +kernel
theorem dX8_told_156 : decode cX8_told 156 = .ok (.ireturn, 1) := by decide +kernel
theorem dX8_isField_0 : decode cX8_isField 0 = .ok (.iload_n 0, 1) := by decide +kernel
theorem dX8_isField_1 : decode cX8_isField 1 = .ok (.ifCond .lt 13, 3) := by decide +kernel
theorem dX8_isField_4 : decode cX8_isField 4 = .ok (.iload_n 0, 1) := by decide +kernel
theorem dX8_isField_5 : decode cX8_isField 5 = .ok (.bipush 6, 2) := by decide +kernel
theorem dX8_isField_7 : decode cX8_isField 7 = .ok (.if_icmp .ge 7, 3) := by decide +kernel
theorem dX8_isField_10 : decode cX8_isField 10 = .ok (.iconst 1, 1) := by decide +kernel
theorem dX8_isField_11 : decode cX8_isField 11 = .ok (.goto 4, 3) := by decide +kernel
theorem dX8_isField_14 : decode cX8_isField 14 = .ok (.iconst 0, 1) := by decide +kernel
theorem dX8_isField_15 : decode cX8_isField 15 = .ok (.ireturn, 1) := by decide +kernel
theorem dX8_say_0 : decode cX8_say 0 = .ok (.aload_n 0, 1) := by decide +kernel
theorem dX8_say_1 : decode cX8_say 1 = .ok (.iconst 0, 1) := by decide +kernel
theorem dX8_say_2 : decode cX8_say 2 = .ok (.putfield 93, 3) := by decide +kernel
theorem dX8_say_5 : decode cX8_say 5 = .ok (.aload_n 0, 1) := by decide +kernel
theorem dX8_say_6 : decode cX8_say 6 = .ok (.iconst 0, 1) := by decide +kernel
theorem dX8_say_7 : decode cX8_say 7 = .ok (.putfield 97, 3) := by decide +kernel
theorem dX8_say_10 : decode cX8_say 10 = .ok (.aload_n 0, 1) := by decide +kernel
theorem dX8_say_11 : decode cX8_say 11 = .ok (.iload_n 1, 1) := by decide +kernel
theorem dX8_say_12 : decode cX8_say 12 = .ok (.invokevirtual 124, 3) := by decide +kernel
theorem dX8_say_15 : decode cX8_say 15 = .ok (.ifCond .eq 10, 3) := by decide +kernel
theorem dX8_say_18 : decode cX8_say 18 = .ok (.iload_n 2, 1) := by decide +kernel
theorem dX8_say_19 : decode cX8_say 19 = .ok (.invokestatic 127, 3) := by decide +kernel
theorem dX8_say_22 : decode cX8_say 22 = .ok (.ifCond .ne 9, 3) := by decide +kernel
theorem dX8_say_25 : decode cX8_say 25 = .ok (.aload_n 0, 1) := by decide +kernel
theorem dX8_say_26 : decode cX8_say 26 = .ok (.iconst 2, 1) := by decide +kernel
theorem dX8_say_27 : decode cX8_say 27 = .ok (.invokevirtual 100, 3) := by decide +kernel
theorem dX8_say_30 : decode cX8_say 30 = .ok (.ireturn, 1) := by decide +kernel
theorem dX8_say_31 : decode cX8_say 31 = .ok (.iload_n 3, 1) := by decide +kernel
theorem dX8_say_32 : decode cX8_say 32 = .ok (.iconst (-1), 1) := by decide +kernel
theorem dX8_say_33 : decode cX8_say 33 = .ok (.if_icmp .lt 10, 3) := by decide +kernel
theorem dX8_say_36 : decode cX8_say 36 = .ok (.iload_n 3, 1) := by decide +kernel
theorem dX8_say_37 : decode cX8_say 37 = .ok (.sipush 999, 3) := by decide +kernel
theorem dX8_say_40 : decode cX8_say 40 = .ok (.if_icmp .le 9, 3) := by decide +kernel
theorem dX8_say_43 : decode cX8_say 43 = .ok (.aload_n 0, 1) := by decide +kernel
theorem dX8_say_44 : decode cX8_say 44 = .ok (.iconst 5, 1) := by decide +kernel
theorem dX8_say_45 : decode cX8_say 45 = .ok (.invokevirtual 100, 3) := by decide +kernel
theorem dX8_say_48 : decode cX8_say 48 = .ok (.ireturn, 1) := by decide +kernel
theorem dX8_say_49 : decode cX8_say 49 = .ok (.aload_n 0, 1) := by decide +kernel
theorem dX8_say_50 : decode cX8_say 50 = .ok (.getfield 36, 3) := by decide +kernel
theorem dX8_say_53 : decode cX8_say 53 = .ok (.bipush 6, 2) := by decide +kernel
theorem dX8_say_55 : decode cX8_say 55 = .ok (.iload_n 1, 1) := by decide +kernel
theorem dX8_say_56 : decode cX8_say 56 = .ok (.imul, 1) := by decide +kernel
theorem dX8_say_57 : decode cX8_say 57 = .ok (.iload_n 2, 1) := by decide +kernel
theorem dX8_say_58 : decode cX8_say 58 = .ok (.iadd, 1) := by decide +kernel
theorem dX8_say_59 : decode cX8_say 59 = .ok (.iload_n 3, 1) := by decide +kernel
theorem dX8_say_60 : decode cX8_say 60 = .ok (.iastore, 1) := by decide +kernel
theorem dX8_say_61 : decode cX8_say 61 = .ok (.iconst 1, 1) := by decide +kernel
theorem dX8_say_62 : decode cX8_say 62 = .ok (.ireturn, 1) := by decide +kernel
theorem dX8_hasOf_0 : decode cX8_hasOf 0 = .ok (.iload_n 1, 1) := by decide +kernel
theorem dX8_hasOf_1 : decode cX8_hasOf 1 = .ok (.istore_n 3, 1) := by decide +kernel
theorem dX8_hasOf_2 : decode cX8_hasOf 2 = .ok (.iload_n 3, 1) := by decide +kernel
theorem dX8_hasOf_3 : decode cX8_hasOf 3 = .ok (.ifCond .lt 27, 3) := by decide +kernel
theorem dX8_hasOf_6 : decode cX8_hasOf 6 = .ok (.aload_n 0, 1) := by decide +kernel
theorem dX8_hasOf_7 : decode cX8_hasOf 7 = .ok (.getfield 36, 3) := by decide +kernel
theorem dX8_hasOf_10 : decode cX8_hasOf 10 = .ok (.bipush 6, 2) := by decide +kernel
theorem dX8_hasOf_12 : decode cX8_hasOf 12 = .ok (.iload_n 3, 1) := by decide +kernel
theorem dX8_hasOf_13 : decode cX8_hasOf 13 = .ok (.imul, 1) := by decide +kernel
theorem dX8_hasOf_14 : decode cX8_hasOf 14 = .ok (.iload_n 2, 1) := by decide +kernel
theorem dX8_hasOf_15 : decode cX8_hasOf 15 = .ok (.iadd, 1) := by decide +kernel
theorem dX8_hasOf_16 : decode cX8_hasOf 16 = .ok (.iaload, 1) := by decide +kernel
theorem dX8_hasOf_17 : decode cX8_hasOf 17 = .ok (.ifCond .ge 13, 3) := by decide +kernel
theorem dX8_hasOf_20 : decode cX8_hasOf 20 = .ok (.aload_n 0, 1) := by decide +kernel
theorem dX8_hasOf_21 : decode cX8_hasOf 21 = .ok (.getfield 27, 3) := by decide +kernel
theorem dX8_hasOf_24 : decode cX8_hasOf 24 = .ok (.iload_n 3, 1) := by decide +kernel
theorem dX8_hasOf_25 : decode cX8_hasOf 25 = .ok (.iaload, 1) := by decide +kernel
theorem dX8_hasOf_26 : decode cX8_hasOf 26 = .ok (.istore_n 3, 1) := by decide +kernel
theorem dX8_hasOf_27 : decode cX8_hasOf 27 = .ok (.goto (-25), 3) := by decide +kernel
theorem dX8_hasOf_30 : decode cX8_hasOf 30 = .ok (.iload_n 3, 1) := by decide +kernel
theorem dX8_hasOf_31 : decode cX8_hasOf 31 = .ok (.ifCond .ge 7, 3) := by decide +kernel
theorem dX8_hasOf_34 : decode cX8_hasOf 34 = .ok (.iconst (-1), 1) := by decide +kernel
theorem dX8_hasOf_35 : decode cX8_hasOf 35 = .ok (.goto 14, 3) := by decide +kernel
theorem dX8_hasOf_38 : decode cX8_hasOf 38 = .ok (.aload_n 0, 1) := by decide +kernel
theorem dX8_hasOf_39 : decode cX8_hasOf 39 = .ok (.getfield 36, 3) := by decide +kernel
theorem dX8_hasOf_42 : decode cX8_hasOf 42 = .ok (.bipush 6, 2) := by decide +kernel
theorem dX8_hasOf_44 : decode cX8_hasOf 44 = .ok (.iload_n 3, 1) := by decide +kernel
theorem dX8_hasOf_45 : decode cX8_hasOf 45 = .ok (.imul, 1) := by decide +kernel
theorem dX8_hasOf_46 : decode cX8_hasOf 46 = .ok (.iload_n 2, 1) := by decide +kernel
theorem dX8_hasOf_47 : decode cX8_hasOf 47 = .ok (.iadd, 1) := by decide +kernel
theorem dX8_hasOf_48 : decode cX8_hasOf 48 = .ok (.iaload, 1) := by decide +kernel
theorem dX8_hasOf_49 : decode cX8_hasOf 49 = .ok (.ireturn, 1) := by decide +kernel
theorem dX8_has_0 : decode cX8_has 0 = .ok (.aload_n 0, 1) := by decide +kernel
theorem dX8_has_1 : decode cX8_has 1 = .ok (.iconst 0, 1) := by decide +kernel
theorem dX8_has_2 : decode cX8_has 2 = .ok (.putfield 93, 3) := by decide +kernel
theorem dX8_has_5 : decode cX8_has 5 = .ok (.aload_n 0, 1) := by decide +kernel
theorem dX8_has_6 : decode cX8_has 6 = .ok (.iconst 0, 1) := by decide +kernel
theorem dX8_has_7 : decode cX8_has 7 = .ok (.putfield 97, 3) := by decide +kernel
theorem dX8_has_10 : decode cX8_has 10 = .ok (.aload_n 0, 1) := by decide +kernel
theorem dX8_has_11 : decode cX8_has 11 = .ok (.iload_n 1, 1) := by decide +kernel
theorem dX8_has_12 : decode cX8_has 12 = .ok (.invokevirtual 124, 3) := by decide +kernel
theorem dX8_has_15 : decode cX8_has 15 = .ok (.ifCond .eq 10, 3) := by decide +kernel
theorem dX8_has_18 : decode cX8_has 18 = .ok (.iload_n 2, 1) := by decide +kernel
theorem dX8_has_19 : decode cX8_has 19 = .ok (.invokestatic 127, 3) := by decide +kernel
theorem dX8_has_22 : decode cX8_has 22 = .ok (.ifCond .ne 9, 3) := by decide +kernel
theorem dX8_has_25 : decode cX8_has 25 = .ok (.aload_n 0, 1) := by decide +kernel
theorem dX8_has_26 : decode cX8_has 26 = .ok (.iconst 2, 1) := by decide +kernel
theorem dX8_has_27 : decode cX8_has 27 = .ok (.invokevirtual 121, 3) := by decide +kernel
theorem dX8_has_30 : decode cX8_has 30 = .ok (.ireturn, 1) := by decide +kernel
theorem dX8_has_31 : decode cX8_has 31 = .ok (.aload_n 0, 1) := by decide +kernel
theorem dX8_has_32 : decode cX8_has 32 = .ok (.iload_n 1, 1) := by decide +kernel
theorem dX8_has_33 : decode cX8_has 33 = .ok (.iload_n 2, 1) := by decide +kernel
theorem dX8_has_34 : decode cX8_has 34 = .ok (.invokevirtual 130, 3) := by decide +kernel
theorem dX8_has_37 : decode cX8_has 37 = .ok (.istore_n 3, 1) := by decide +kernel
theorem dX8_has_38 : decode cX8_has 38 = .ok (.iload_n 3, 1) := by decide +kernel
theorem dX8_has_39 : decode cX8_has 39 = .ok (.ifCond .ge 12, 3) := by decide +kernel
theorem dX8_has_42 : decode cX8_has 42 = .ok (.aload_n 0, 1) := by decide +kernel
theorem dX8_has_43 : decode cX8_has 43 = .ok (.bipush 9, 2) := by decide +kernel
theorem dX8_has_45 : decode cX8_has 45 = .ok (.invokevirtual 121, 3) := by decide +kernel
theorem dX8_has_48 : decode cX8_has 48 = .ok (.goto 4, 3) := by decide +kernel
theorem dX8_has_51 : decode cX8_has 51 = .ok (.iload_n 3, 1) := by decide +kernel
theorem dX8_has_52 : decode cX8_has 52 = .ok (.ireturn, 1) := by decide +kernel
theorem dX8_span_0 : decode cX8_span 0 = .ok (.aload_n 0, 1) := by decide +kernel
theorem dX8_span_1 : decode cX8_span 1 = .ok (.iconst 0, 1) := by decide +kernel
theorem dX8_span_2 : decode cX8_span 2 = .ok (.putfield 93, 3) := by decide +kernel
theorem dX8_span_5 : decode cX8_span 5 = .ok (.aload_n 0, 1) := by decide +kernel
theorem dX8_span_6 : decode cX8_span 6 = .ok (.iconst 0, 1) := by decide +kernel
theorem dX8_span_7 : decode cX8_span 7 = .ok (.putfield 97, 3) := by decide +kernel
theorem dX8_span_10 : decode cX8_span 10 = .ok (.aload_n 0, 1) := by decide +kernel
theorem dX8_span_11 : decode cX8_span 11 = .ok (.iload_n 1, 1) := by decide +kernel
theorem dX8_span_12 : decode cX8_span 12 = .ok (.invokevirtual 124, 3) := by decide +kernel
theorem dX8_span_15 : decode cX8_span 15 = .ok (.ifCond .ne 9, 3) := by decide +kernel
theorem dX8_span_18 : decode cX8_span 18 = .ok (.aload_n 0, 1) := by decide +kernel
theorem dX8_span_19 : decode cX8_span 19 = .ok (.iconst 2, 1) := by decide +kernel
theorem dX8_span_20 : decode cX8_span 20 = .ok (.invokevirtual 100, 3) := by decide +kernel
theorem dX8_span_23 : decode cX8_span 23 = .ok (.ireturn, 1) := by decide +kernel
theorem dX8_span_24 : decode cX8_span 24 = .ok (.iload_n 2, 1) := by decide +kernel
theorem dX8_span_25 : decode cX8_span 25 = .ok (.ifCond .lt 14, 3) := by decide +kernel
theorem dX8_span_28 : decode cX8_span 28 = .ok (.iload_n 3, 1) := by decide +kernel
theorem dX8_span_29 : decode cX8_span 29 = .ok (.ldc 133, 2) := by decide +kernel
theorem dX8_span_31 : decode cX8_span 31 = .ok (.if_icmp .gt 8, 3) := by decide +kernel
theorem dX8_span_34 : decode cX8_span 34 = .ok (.iload_n 2, 1) := by decide +kernel
theorem dX8_span_35 : decode cX8_span 35 = .ok (.iload_n 3, 1) := by decide +kernel
theorem dX8_span_36 : decode cX8_span 36 = .ok (.if_icmp .le 9, 3) := by decide +kernel
theorem dX8_span_39 : decode cX8_span 39 = .ok (.aload_n 0, 1) := by decide +kernel
theorem dX8_span_40 : decode cX8_span 40 = .ok (.iconst 5, 1) := by decide +kernel
theorem dX8_span_41 : decode cX8_span 41 = .ok (.invokevirtual 100, 3) := by decide +kernel
theorem dX8_span_44 : decode cX8_span 44 = .ok (.ireturn, 1) := by decide +kernel
theorem dX8_span_45 : decode cX8_span 45 = .ok (.aload_n 0, 1) := by decide +kernel
theorem dX8_span_46 : decode cX8_span 46 = .ok (.getfield 39, 3) := by decide +kernel
theorem dX8_span_49 : decode cX8_span 49 = .ok (.iload_n 1, 1) := by decide +kernel
theorem dX8_span_50 : decode cX8_span 50 = .ok (.iload_n 2, 1) := by decide +kernel
theorem dX8_span_51 : decode cX8_span 51 = .ok (.iastore, 1) := by decide +kernel
theorem dX8_span_52 : decode cX8_span 52 = .ok (.aload_n 0, 1) := by decide +kernel
theorem dX8_span_53 : decode cX8_span 53 = .ok (.getfield 42, 3) := by decide +kernel
theorem dX8_span_56 : decode cX8_span 56 = .ok (.iload_n 1, 1) := by decide +kernel
theorem dX8_span_57 : decode cX8_span 57 = .ok (.iload_n 3, 1) := by decide +kernel
theorem dX8_span_58 : decode cX8_span 58 = .ok (.iastore, 1) := by decide +kernel
theorem dX8_span_59 : decode cX8_span 59 = .ok (.iconst 1, 1) := by decide +kernel
theorem dX8_span_60 : decode cX8_span 60 = .ok (.ireturn, 1) := by decide +kernel
theorem dX8_noSpan_0 : decode cX8_noSpan 0 = .ok (.aload_n 0, 1) := by decide +kernel
theorem dX8_noSpan_1 : decode cX8_noSpan 1 = .ok (.iconst 0, 1) := by decide +kernel
theorem dX8_noSpan_2 : decode cX8_noSpan 2 = .ok (.putfield 93, 3) := by decide +kernel
theorem dX8_noSpan_5 : decode cX8_noSpan 5 = .ok (.aload_n 0, 1) := by decide +kernel
theorem dX8_noSpan_6 : decode cX8_noSpan 6 = .ok (.iconst 0, 1) := by decide +kernel
theorem dX8_noSpan_7 : decode cX8_noSpan 7 = .ok (.putfield 97, 3) := by decide +kernel
theorem dX8_noSpan_10 : decode cX8_noSpan 10 = .ok (.aload_n 0, 1) := by decide +kernel
theorem dX8_noSpan_11 : decode cX8_noSpan 11 = .ok (.iload_n 1, 1) := by decide +kernel
theorem dX8_noSpan_12 : decode cX8_noSpan 12 = .ok (.invokevirtual 124, 3) := by decide +kernel
theorem dX8_noSpan_15 : decode cX8_noSpan 15 = .ok (.ifCond .ne 9, 3) := by decide +kernel
theorem dX8_noSpan_18 : decode cX8_noSpan 18 = .ok (.aload_n 0, 1) := by decide +kernel
theorem dX8_noSpan_19 : decode cX8_noSpan 19 = .ok (.iconst 2, 1) := by decide +kernel
theorem dX8_noSpan_20 : decode cX8_noSpan 20 = .ok (.invokevirtual 100, 3) := by decide +kernel
theorem dX8_noSpan_23 : decode cX8_noSpan 23 = .ok (.ireturn, 1) := by decide +kernel
theorem dX8_noSpan_24 : decode cX8_noSpan 24 = .ok (.aload_n 0, 1) := by decide +kernel
theorem dX8_noSpan_25 : decode cX8_noSpan 25 = .ok (.getfield 39, 3) := by decide +kernel
theorem dX8_noSpan_28 : decode cX8_noSpan 28 = .ok (.iload_n 1, 1) := by decide +kernel
theorem dX8_noSpan_29 : decode cX8_noSpan 29 = .ok (.iaload, 1) := by decide +kernel
theorem dX8_noSpan_30 : decode cX8_noSpan 30 = .ok (.ifCond .ge 10, 3) := by decide +kernel
theorem dX8_noSpan_33 : decode cX8_noSpan 33 = .ok (.aload_n 0, 1) := by decide +kernel
theorem dX8_noSpan_34 : decode cX8_noSpan 34 = .ok (.bipush 9, 2) := by decide +kernel
theorem dX8_noSpan_36 : decode cX8_noSpan 36 = .ok (.invokevirtual 100, 3) := by decide +kernel
theorem dX8_noSpan_39 : decode cX8_noSpan 39 = .ok (.ireturn, 1) := by decide +kernel
theorem dX8_noSpan_40 : decode cX8_noSpan 40 = .ok (.aload_n 0, 1) := by decide +kernel
theorem dX8_noSpan_41 : decode cX8_noSpan 41 = .ok (.getfield 39, 3) := by decide +kernel
theorem dX8_noSpan_44 : decode cX8_noSpan 44 = .ok (.iload_n 1, 1) := by decide +kernel
theorem dX8_noSpan_45 : decode cX8_noSpan 45 = .ok (.iconst (-1), 1) := by decide +kernel
theorem dX8_noSpan_46 : decode cX8_noSpan 46 = .ok (.iastore, 1) := by decide +kernel
theorem dX8_noSpan_47 : decode cX8_noSpan 47 = .ok (.iconst 1, 1) := by decide +kernel
theorem dX8_noSpan_48 : decode cX8_noSpan 48 = .ok (.ireturn, 1) := by decide +kernel
theorem dX8_holds_0 : decode cX8_holds 0 = .ok (.iconst 0, 1) := by decide +kernel
theorem dX8_holds_1 : decode cX8_holds 1 = .ok (.istore_n 1, 1) := by decide +kernel
theorem dX8_holds_2 : decode cX8_holds 2 = .ok (.iload_n 1, 1) := by decide +kernel
theorem dX8_holds_3 : decode cX8_holds 3 = .ok (.aload_n 0, 1) := by decide +kernel
theorem dX8_holds_4 : decode cX8_holds 4 = .ok (.getfield 118, 3) := by decide +kernel
theorem dX8_holds_7 : decode cX8_holds 7 = .ok (.if_icmp .ge 46, 3) := by decide +kernel
theorem dX8_holds_10 : decode cX8_holds 10 = .ok (.aload_n 0, 1) := by decide +kernel
theorem dX8_holds_11 : decode cX8_holds 11 = .ok (.getfield 60, 3) := by decide +kernel
theorem dX8_holds_14 : decode cX8_holds 14 = .ok (.iload_n 1, 1) := by decide +kernel
theorem dX8_holds_15 : decode cX8_holds 15 = .ok (.aload_n 0, 1) := by decide +kernel
theorem dX8_holds_16 : decode cX8_holds 16 = .ok (.getfield 39, 3) := by decide +kernel
theorem dX8_holds_19 : decode cX8_holds 19 = .ok (.iload_n 1, 1) := by decide +kernel
theorem dX8_holds_20 : decode cX8_holds 20 = .ok (.iaload, 1) := by decide +kernel
theorem dX8_holds_21 : decode cX8_holds 21 = .ok (.iastore, 1) := by decide +kernel
theorem dX8_holds_22 : decode cX8_holds 22 = .ok (.aload_n 0, 1) := by decide +kernel
theorem dX8_holds_23 : decode cX8_holds 23 = .ok (.getfield 63, 3) := by decide +kernel
theorem dX8_holds_26 : decode cX8_holds 26 = .ok (.iload_n 1, 1) := by decide +kernel
theorem dX8_holds_27 : decode cX8_holds 27 = .ok (.aload_n 0, 1) := by decide +kernel
theorem dX8_holds_28 : decode cX8_holds 28 = .ok (.getfield 39, 3) := by decide +kernel
theorem dX8_holds_31 : decode cX8_holds 31 = .ok (.iload_n 1, 1) := by decide +kernel
theorem dX8_holds_32 : decode cX8_holds 32 = .ok (.iaload, 1) := by decide +kernel
theorem dX8_holds_33 : decode cX8_holds 33 = .ok (.ifCond .ge 7, 3) := by decide +kernel
theorem dX8_holds_36 : decode cX8_holds 36 = .ok (.iconst (-1), 1) := by decide +kernel
theorem dX8_holds_37 : decode cX8_holds 37 = .ok (.goto 9, 3) := by decide +kernel
theorem dX8_holds_40 : decode cX8_holds 40 = .ok (.aload_n 0, 1) := by decide +kernel
theorem dX8_holds_41 : decode cX8_holds 41 = .ok (.getfield 42, 3) := by decide +kernel
theorem dX8_holds_44 : decode cX8_holds 44 = .ok (.iload_n 1, 1) := by decide +kernel
theorem dX8_holds_45 : decode cX8_holds 45 = .ok (.iaload, 1) := by decide +kernel
theorem dX8_holds_46 : decode cX8_holds 46 = .ok (.iastore, 1) := by decide +kernel
theorem dX8_holds_47 : decode cX8_holds 47 = .ok (.iinc 1 1, 3) := by decide +kernel
theorem dX8_holds_50 : decode cX8_holds 50 = .ok (.goto (-48), 3) := by decide +kernel
theorem dX8_holds_53 : decode cX8_holds 53 = .ok (.aload_n 0, 1) := by decide +kernel
theorem dX8_holds_54 : decode cX8_holds 54 = .ok (.getfield 118, 3) := by decide +kernel
theorem dX8_holds_57 : decode cX8_holds 57 = .ok (.iconst 1, 1) := by decide +kernel
theorem dX8_holds_58 : decode cX8_holds 58 = .ok (.isub, 1) := by decide +kernel
theorem dX8_holds_59 : decode cX8_holds 59 = .ok (.istore_n 1, 1) := by decide +kernel
theorem dX8_holds_60 : decode cX8_holds 60 = .ok (.iload_n 1, 1) := by decide +kernel
theorem dX8_holds_61 : decode cX8_holds 61 = .ok (.ifCond .lt 101, 3) := by decide +kernel
theorem dX8_holds_64 : decode cX8_holds 64 = .ok (.aload_n 0, 1) := by decide +kernel
theorem dX8_holds_65 : decode cX8_holds 65 = .ok (.getfield 27, 3) := by decide +kernel
theorem dX8_holds_68 : decode cX8_holds 68 = .ok (.iload_n 1, 1) := by decide +kernel
theorem dX8_holds_69 : decode cX8_holds 69 = .ok (.iaload, 1) := by decide +kernel
theorem dX8_holds_70 : decode cX8_holds 70 = .ok (.istore_n 2, 1) := by decide +kernel
theorem dX8_holds_71 : decode cX8_holds 71 = .ok (.iload_n 2, 1) := by decide +kernel
theorem dX8_holds_72 : decode cX8_holds 72 = .ok (.ifCond .lt 84, 3) := by decide +kernel
theorem dX8_holds_75 : decode cX8_holds 75 = .ok (.aload_n 0, 1) := by decide +kernel
theorem dX8_holds_76 : decode cX8_holds 76 = .ok (.getfield 39, 3) := by decide +kernel
theorem dX8_holds_79 : decode cX8_holds 79 = .ok (.iload_n 2, 1) := by decide +kernel
theorem dX8_holds_80 : decode cX8_holds 80 = .ok (.iaload, 1) := by decide +kernel
theorem dX8_holds_81 : decode cX8_holds 81 = .ok (.ifCond .ge 75, 3) := by decide +kernel
theorem dX8_holds_84 : decode cX8_holds 84 = .ok (.aload_n 0, 1) := by decide +kernel
theorem dX8_holds_85 : decode cX8_holds 85 = .ok (.getfield 60, 3) := by decide +kernel
theorem dX8_holds_88 : decode cX8_holds 88 = .ok (.iload_n 1, 1) := by decide +kernel
theorem dX8_holds_89 : decode cX8_holds 89 = .ok (.iaload, 1) := by decide +kernel
theorem dX8_holds_90 : decode cX8_holds 90 = .ok (.ifCond .ge 6, 3) := by decide +kernel
theorem dX8_holds_93 : decode cX8_holds 93 = .ok (.goto 63, 3) := by decide +kernel
theorem dX8_holds_96 : decode cX8_holds 96 = .ok (.aload_n 0, 1) := by decide +kernel
theorem dX8_holds_97 : decode cX8_holds 97 = .ok (.getfield 60, 3) := by decide +kernel
theorem dX8_holds_100 : decode cX8_holds 100 = .ok (.iload_n 2, 1) := by decide +kernel
theorem dX8_holds_101 : decode cX8_holds 101 = .ok (.aload_n 0, 1) := by decide +kernel
theorem dX8_holds_102 : decode cX8_holds 102 = .ok (.getfield 60, 3) := by decide +kernel
theorem dX8_holds_105 : decode cX8_holds 105 = .ok (.iload_n 2, 1) := by decide +kernel
theorem dX8_holds_106 : decode cX8_holds 106 = .ok (.iaload, 1) := by decide +kernel
theorem dX8_holds_107 : decode cX8_holds 107 = .ok (.ifCond .ge 12, 3) := by decide +kernel
theorem dX8_holds_110 : decode cX8_holds 110 = .ok (.aload_n 0, 1) := by decide +kernel
theorem dX8_holds_111 : decode cX8_holds 111 = .ok (.getfield 60, 3) := by decide +kernel
theorem dX8_holds_114 : decode cX8_holds 114 = .ok (.iload_n 1, 1) := by decide +kernel
theorem dX8_holds_115 : decode cX8_holds 115 = .ok (.iaload, 1) := by decide +kernel
theorem dX8_holds_116 : decode cX8_holds 116 = .ok (.goto 18, 3) := by decide +kernel
theorem dX8_holds_119 : decode cX8_holds 119 = .ok (.aload_n 0, 1) := by decide +kernel
theorem dX8_holds_120 : decode cX8_holds 120 = .ok (.getfield 60, 3) := by decide +kernel
theorem dX8_holds_123 : decode cX8_holds 123 = .ok (.iload_n 2, 1) := by decide +kernel
theorem dX8_holds_124 : decode cX8_holds 124 = .ok (.iaload, 1) := by decide +kernel
theorem dX8_holds_125 : decode cX8_holds 125 = .ok (.aload_n 0, 1) := by decide +kernel
theorem dX8_holds_126 : decode cX8_holds 126 = .ok (.getfield 60, 3) := by decide +kernel
theorem dX8_holds_129 : decode cX8_holds 129 = .ok (.iload_n 1, 1) := by decide +kernel
theorem dX8_holds_130 : decode cX8_holds 130 = .ok (.iaload, 1) := by decide +kernel
theorem dX8_holds_131 : decode cX8_holds 131 = .ok (.invokestatic 134, 3) := by decide +kernel
theorem dX8_holds_134 : decode cX8_holds 134 = .ok (.iastore, 1) := by decide +kernel
theorem dX8_holds_135 : decode cX8_holds 135 = .ok (.aload_n 0, 1) := by decide +kernel
theorem dX8_holds_136 : decode cX8_holds 136 = .ok (.getfield 63, 3) := by decide +kernel
theorem dX8_holds_139 : decode cX8_holds 139 = .ok (.iload_n 2, 1) := by decide +kernel
theorem dX8_holds_140 : decode cX8_holds 140 = .ok (.aload_n 0, 1) := by decide +kernel
theorem dX8_holds_141 : decode cX8_holds 141 = .ok (.getfield 63, 3) := by decide +kernel
theorem dX8_holds_144 : decode cX8_holds 144 = .ok (.iload_n 2, 1) := by decide +kernel
theorem dX8_holds_145 : decode cX8_holds 145 = .ok (.iaload, 1) := by decide +kernel
theorem dX8_holds_146 : decode cX8_holds 146 = .ok (.aload_n 0, 1) := by decide +kernel
theorem dX8_holds_147 : decode cX8_holds 147 = .ok (.getfield 63, 3) := by decide +kernel
theorem dX8_holds_150 : decode cX8_holds 150 = .ok (.iload_n 1, 1) := by decide +kernel
theorem dX8_holds_151 : decode cX8_holds 151 = .ok (.iaload, 1) := by decide +kernel
theorem dX8_holds_152 : decode cX8_holds 152 = .ok (.invokestatic 139, 3) := by decide +kernel
theorem dX8_holds_155 : decode cX8_holds 155 = .ok (.iastore, 1) := by decide +kernel
theorem dX8_holds_156 : decode cX8_holds 156 = .ok (.iinc 1 (-1), 3) := by decide +kernel
theorem dX8_holds_159 : decode cX8_holds 159 = .ok (.goto (-99), 3) := by decide +kernel
theorem dX8_holds_162 : decode cX8_holds 162 = .ok (.return_, 1) := by decide +kernel
theorem dX8_held_0 : decode cX8_held 0 = .ok (.aload_n 0, 1) := by decide +kernel
theorem dX8_held_1 : decode cX8_held 1 = .ok (.iconst 0, 1) := by decide +kernel
theorem dX8_held_2 : decode cX8_held 2 = .ok (.putfield 93, 3) := by decide +kernel
theorem dX8_held_5 : decode cX8_held 5 = .ok (.aload_n 0, 1) := by decide +kernel
theorem dX8_held_6 : decode cX8_held 6 = .ok (.iconst 0, 1) := by decide +kernel
theorem dX8_held_7 : decode cX8_held 7 = .ok (.putfield 97, 3) := by decide +kernel
theorem dX8_held_10 : decode cX8_held 10 = .ok (.aload_n 0, 1) := by decide +kernel
theorem dX8_held_11 : decode cX8_held 11 = .ok (.iload_n 1, 1) := by decide +kernel
theorem dX8_held_12 : decode cX8_held 12 = .ok (.invokevirtual 124, 3) := by decide +kernel
theorem dX8_held_15 : decode cX8_held 15 = .ok (.ifCond .ne 9, 3) := by decide +kernel
theorem dX8_held_18 : decode cX8_held 18 = .ok (.aload_n 0, 1) := by decide +kernel
theorem dX8_held_19 : decode cX8_held 19 = .ok (.iconst 2, 1) := by decide +kernel
theorem dX8_held_20 : decode cX8_held 20 = .ok (.invokevirtual 121, 3) := by decide +kernel
theorem dX8_held_23 : decode cX8_held 23 = .ok (.ireturn, 1) := by decide +kernel
theorem dX8_held_24 : decode cX8_held 24 = .ok (.aload_n 0, 1) := by decide +kernel
theorem dX8_held_25 : decode cX8_held 25 = .ok (.invokevirtual 142, 3) := by decide +kernel
theorem dX8_held_28 : decode cX8_held 28 = .ok (.aload_n 0, 1) := by decide +kernel
theorem dX8_held_29 : decode cX8_held 29 = .ok (.getfield 60, 3) := by decide +kernel
theorem dX8_held_32 : decode cX8_held 32 = .ok (.iload_n 1, 1) := by decide +kernel
theorem dX8_held_33 : decode cX8_held 33 = .ok (.iaload, 1) := by decide +kernel
theorem dX8_held_34 : decode cX8_held 34 = .ok (.ifCond .ge 12, 3) := by decide +kernel
theorem dX8_held_37 : decode cX8_held 37 = .ok (.aload_n 0, 1) := by decide +kernel
theorem dX8_held_38 : decode cX8_held 38 = .ok (.bipush 9, 2) := by decide +kernel
theorem dX8_held_40 : decode cX8_held 40 = .ok (.invokevirtual 121, 3) := by decide +kernel
theorem dX8_held_43 : decode cX8_held 43 = .ok (.goto 22, 3) := by decide +kernel
theorem dX8_held_46 : decode cX8_held 46 = .ok (.iload_n 2, 1) := by decide +kernel
theorem dX8_held_47 : decode cX8_held 47 = .ok (.ifCond .eq 12, 3) := by decide +kernel
theorem dX8_held_50 : decode cX8_held 50 = .ok (.aload_n 0, 1) := by decide +kernel
theorem dX8_held_51 : decode cX8_held 51 = .ok (.getfield 63, 3) := by decide +kernel
theorem dX8_held_54 : decode cX8_held 54 = .ok (.iload_n 1, 1) := by decide +kernel
theorem dX8_held_55 : decode cX8_held 55 = .ok (.iaload, 1) := by decide +kernel
theorem dX8_held_56 : decode cX8_held 56 = .ok (.goto 9, 3) := by decide +kernel
theorem dX8_held_59 : decode cX8_held 59 = .ok (.aload_n 0, 1) := by decide +kernel
theorem dX8_held_60 : decode cX8_held 60 = .ok (.getfield 60, 3) := by decide +kernel
theorem dX8_held_63 : decode cX8_held 63 = .ok (.iload_n 1, 1) := by decide +kernel
theorem dX8_held_64 : decode cX8_held 64 = .ok (.iaload, 1) := by decide +kernel
theorem dX8_held_65 : decode cX8_held 65 = .ok (.ireturn, 1) := by decide +kernel
theorem dX8_quarrel_0 : decode cX8_quarrel 0 = .ok (.aload_n 0, 1) := by decide +kernel
theorem dX8_quarrel_1 : decode cX8_quarrel 1 = .ok (.iconst 0, 1) := by decide +kernel
theorem dX8_quarrel_2 : decode cX8_quarrel 2 = .ok (.putfield 93, 3) := by decide +kernel
theorem dX8_quarrel_5 : decode cX8_quarrel 5 = .ok (.aload_n 0, 1) := by decide +kernel
theorem dX8_quarrel_6 : decode cX8_quarrel 6 = .ok (.iconst 0, 1) := by decide +kernel
theorem dX8_quarrel_7 : decode cX8_quarrel 7 = .ok (.putfield 97, 3) := by decide +kernel
theorem dX8_quarrel_10 : decode cX8_quarrel 10 = .ok (.iload_n 1, 1) := by decide +kernel
theorem dX8_quarrel_11 : decode cX8_quarrel 11 = .ok (.ifCond .ge 9, 3) := by decide +kernel
theorem dX8_quarrel_14 : decode cX8_quarrel 14 = .ok (.aload_n 0, 1) := by decide +kernel
theorem dX8_quarrel_15 : decode cX8_quarrel 15 = .ok (.iconst 5, 1) := by decide +kernel
theorem dX8_quarrel_16 : decode cX8_quarrel 16 = .ok (.invokevirtual 121, 3) := by decide +kernel
theorem dX8_quarrel_19 : decode cX8_quarrel 19 = .ok (.ireturn, 1) := by decide +kernel
theorem dX8_quarrel_20 : decode cX8_quarrel 20 = .ok (.iconst 0, 1) := by decide +kernel
theorem dX8_quarrel_21 : decode cX8_quarrel 21 = .ok (.istore_n 2, 1) := by decide +kernel
theorem dX8_quarrel_22 : decode cX8_quarrel 22 = .ok (.iconst 0, 1) := by decide +kernel
theorem dX8_quarrel_23 : decode cX8_quarrel 23 = .ok (.istore_n 3, 1) := by decide +kernel
theorem dX8_quarrel_24 : decode cX8_quarrel 24 = .ok (.iload_n 3, 1) := by decide +kernel
theorem dX8_quarrel_25 : decode cX8_quarrel 25 = .ok (.aload_n 0, 1) := by decide +kernel
theorem dX8_quarrel_26 : decode cX8_quarrel 26 = .ok (.getfield 118, 3) := by decide +kernel
theorem dX8_quarrel_29 : decode cX8_quarrel 29 = .ok (.if_icmp .ge 106, 3) := by decide +kernel
theorem dX8_quarrel_32 : decode cX8_quarrel 32 = .ok (.aload_n 0, 1) := by decide +kernel
theorem dX8_quarrel_33 : decode cX8_quarrel 33 = .ok (.getfield 39, 3) := by decide +kernel
theorem dX8_quarrel_36 : decode cX8_quarrel 36 = .ok (.iload_n 3, 1) := by decide +kernel
theorem dX8_quarrel_37 : decode cX8_quarrel 37 = .ok (.iaload, 1) := by decide +kernel
theorem dX8_quarrel_38 : decode cX8_quarrel 38 = .ok (.ifCond .ge 6, 3) := by decide +kernel
theorem dX8_quarrel_41 : decode cX8_quarrel 41 = .ok (.goto 88, 3) := by decide +kernel
theorem dX8_quarrel_44 : decode cX8_quarrel 44 = .ok (.aload_n 0, 1) := by decide +kernel
theorem dX8_quarrel_45 : decode cX8_quarrel 45 = .ok (.getfield 27, 3) := by decide +kernel
theorem dX8_quarrel_48 : decode cX8_quarrel 48 = .ok (.iload_n 3, 1) := by decide +kernel
theorem dX8_quarrel_49 : decode cX8_quarrel 49 = .ok (.iaload, 1) := by decide +kernel
theorem dX8_quarrel_50 : decode cX8_quarrel 50 = .ok (.istore 4, 2) := by decide +kernel
theorem dX8_quarrel_52 : decode cX8_quarrel 52 = .ok (.iload 4, 2) := by decide +kernel
theorem dX8_quarrel_54 : decode cX8_quarrel 54 = .ok (.ifCond .lt 25, 3) := by decide +kernel
theorem dX8_quarrel_57 : decode cX8_quarrel 57 = .ok (.aload_n 0, 1) := by decide +kernel
theorem dX8_quarrel_58 : decode cX8_quarrel 58 = .ok (.getfield 39, 3) := by decide +kernel
theorem dX8_quarrel_61 : decode cX8_quarrel 61 = .ok (.iload 4, 2) := by decide +kernel
theorem dX8_quarrel_63 : decode cX8_quarrel 63 = .ok (.iaload, 1) := by decide +kernel
theorem dX8_quarrel_64 : decode cX8_quarrel 64 = .ok (.ifCond .ge 15, 3) := by decide +kernel
theorem dX8_quarrel_67 : decode cX8_quarrel 67 = .ok (.aload_n 0, 1) := by decide +kernel
theorem dX8_quarrel_68 : decode cX8_quarrel 68 = .ok (.getfield 27, 3) := by decide +kernel
theorem dX8_quarrel_71 : decode cX8_quarrel 71 = .ok (.iload 4, 2) := by decide +kernel
theorem dX8_quarrel_73 : decode cX8_quarrel 73 = .ok (.iaload, 1) := by decide +kernel
theorem dX8_quarrel_74 : decode cX8_quarrel 74 = .ok (.istore 4, 2) := by decide +kernel
theorem dX8_quarrel_76 : decode cX8_quarrel 76 = .ok (.goto (-24), 3) := by decide +kernel
theorem dX8_quarrel_79 : decode cX8_quarrel 79 = .ok (.iload 4, 2) := by decide +kernel
theorem dX8_quarrel_81 : decode cX8_quarrel 81 = .ok (.ifCond .lt 48, 3) := by decide +kernel
theorem dX8_quarrel_84 : decode cX8_quarrel 84 = .ok (.aload_n 0, 1) := by decide +kernel
theorem dX8_quarrel_85 : decode cX8_quarrel 85 = .ok (.getfield 39, 3) := by decide +kernel
theorem dX8_quarrel_88 : decode cX8_quarrel 88 = .ok (.iload_n 3, 1) := by decide +kernel
theorem dX8_quarrel_89 : decode cX8_quarrel 89 = .ok (.iaload, 1) := by decide +kernel
theorem dX8_quarrel_90 : decode cX8_quarrel 90 = .ok (.aload_n 0, 1) := by decide +kernel
theorem dX8_quarrel_91 : decode cX8_quarrel 91 = .ok (.getfield 39, 3) := by decide +kernel
theorem dX8_quarrel_94 : decode cX8_quarrel 94 = .ok (.iload 4, 2) := by decide +kernel
theorem dX8_quarrel_96 : decode cX8_quarrel 96 = .ok (.iaload, 1) := by decide +kernel
theorem dX8_quarrel_97 : decode cX8_quarrel 97 = .ok (.if_icmp .lt 22, 3) := by decide +kernel
theorem dX8_quarrel_100 : decode cX8_quarrel 100 = .ok (.aload_n 0, 1) := by decide +kernel
theorem dX8_quarrel_101 : decode cX8_quarrel 101 = .ok (.getfield 42, 3) := by decide +kernel
theorem dX8_quarrel_104 : decode cX8_quarrel 104 = .ok (.iload_n 3, 1) := by decide +kernel
theorem dX8_quarrel_105 : decode cX8_quarrel 105 = .ok (.iaload, 1) := by decide +kernel
theorem dX8_quarrel_106 : decode cX8_quarrel 106 = .ok (.aload_n 0, 1) := by decide +kernel
theorem dX8_quarrel_107 : decode cX8_quarrel 107 = .ok (.getfield 42, 3) := by decide +kernel
theorem dX8_quarrel_110 : decode cX8_quarrel 110 = .ok (.iload 4, 2) := by decide +kernel
theorem dX8_quarrel_112 : decode cX8_quarrel 112 = .ok (.iaload, 1) := by decide +kernel
theorem dX8_quarrel_113 : decode cX8_quarrel 113 = .ok (.if_icmp .gt 6, 3) := by decide +kernel
theorem dX8_quarrel_116 : decode cX8_quarrel 116 = .ok (.goto 13, 3) := by decide +kernel
theorem dX8_quarrel_119 : decode cX8_quarrel 119 = .ok (.iload_n 2, 1) := by decide +kernel
theorem dX8_quarrel_120 : decode cX8_quarrel 120 = .ok (.iload_n 1, 1) := by decide +kernel
theorem dX8_quarrel_121 : decode cX8_quarrel 121 = .ok (.if_icmp .ne 5, 3) := by decide +kernel
theorem dX8_quarrel_124 : decode cX8_quarrel 124 = .ok (.iload_n 3, 1) := by decide +kernel
theorem dX8_quarrel_125 : decode cX8_quarrel 125 = .ok (.ireturn, 1) := by decide +kernel
theorem dX8_quarrel_126 : decode cX8_quarrel 126 = .ok (.iinc 2 1, 3) := by decide +kernel
theorem dX8_quarrel_129 : decode cX8_quarrel 129 = .ok (.iinc 3 1, 3) := by decide +kernel
theorem dX8_quarrel_132 : decode cX8_quarrel 132 = .ok (.goto (-108), 3) := by decide +kernel
theorem dX8_quarrel_135 : decode cX8_quarrel 135 = .ok (.aload_n 0, 1) := by decide +kernel
theorem dX8_quarrel_136 : decode cX8_quarrel 136 = .ok (.bipush 9, 2) := by decide +kernel
theorem dX8_quarrel_138 : decode cX8_quarrel 138 = .ok (.invokevirtual 121, 3) := by decide +kernel
theorem dX8_quarrel_141 : decode cX8_quarrel 141 = .ok (.ireturn, 1) := by decide +kernel
theorem dX8_count_0 : decode cX8_count 0 = .ok (.aload_n 0, 1) := by decide +kernel
theorem dX8_count_1 : decode cX8_count 1 = .ok (.iconst 0, 1) := by decide +kernel
theorem dX8_count_2 : decode cX8_count 2 = .ok (.putfield 93, 3) := by decide +kernel
theorem dX8_count_5 : decode cX8_count 5 = .ok (.aload_n 0, 1) := by decide +kernel
theorem dX8_count_6 : decode cX8_count 6 = .ok (.iconst 0, 1) := by decide +kernel
theorem dX8_count_7 : decode cX8_count 7 = .ok (.putfield 97, 3) := by decide +kernel
theorem dX8_count_10 : decode cX8_count 10 = .ok (.aload_n 0, 1) := by decide +kernel
theorem dX8_count_11 : decode cX8_count 11 = .ok (.iload_n 1, 1) := by decide +kernel
theorem dX8_count_12 : decode cX8_count 12 = .ok (.invokevirtual 124, 3) := by decide +kernel
theorem dX8_count_15 : decode cX8_count 15 = .ok (.ifCond .ne 9, 3) := by decide +kernel
theorem dX8_count_18 : decode cX8_count 18 = .ok (.aload_n 0, 1) := by decide +kernel
theorem dX8_count_19 : decode cX8_count 19 = .ok (.iconst 2, 1) := by decide +kernel
theorem dX8_count_20 : decode cX8_count 20 = .ok (.invokevirtual 100, 3) := by decide +kernel
theorem dX8_count_23 : decode cX8_count 23 = .ok (.ireturn, 1) := by decide +kernel
theorem dX8_count_24 : decode cX8_count 24 = .ok (.iload_n 2, 1) := by decide +kernel
theorem dX8_count_25 : decode cX8_count 25 = .ok (.iconst (-1), 1) := by decide +kernel
theorem dX8_count_26 : decode cX8_count 26 = .ok (.if_icmp .lt 10, 3) := by decide +kernel
theorem dX8_count_29 : decode cX8_count 29 = .ok (.iload_n 2, 1) := by decide +kernel
theorem dX8_count_30 : decode cX8_count 30 = .ok (.sipush 999, 3) := by decide +kernel
theorem dX8_count_33 : decode cX8_count 33 = .ok (.if_icmp .le 9, 3) := by decide +kernel
theorem dX8_count_36 : decode cX8_count 36 = .ok (.aload_n 0, 1) := by decide +kernel
theorem dX8_count_37 : decode cX8_count 37 = .ok (.iconst 5, 1) := by decide +kernel
theorem dX8_count_38 : decode cX8_count 38 = .ok (.invokevirtual 100, 3) := by decide +kernel
theorem dX8_count_41 : decode cX8_count 41 = .ok (.ireturn, 1) := by decide +kernel
theorem dX8_count_42 : decode cX8_count 42 = .ok (.aload_n 0, 1) := by decide +kernel
theorem dX8_count_43 : decode cX8_count 43 = .ok (.getfield 24, 3) := by decide +kernel
theorem dX8_count_46 : decode cX8_count 46 = .ok (.iload_n 1, 1) := by decide +kernel
theorem dX8_count_47 : decode cX8_count 47 = .ok (.iaload, 1) := by decide +kernel
theorem dX8_count_48 : decode cX8_count 48 = .ok (.iconst 2, 1) := by decide +kernel
theorem dX8_count_49 : decode cX8_count 49 = .ok (.if_icmp .eq 10, 3) := by decide +kernel
theorem dX8_count_52 : decode cX8_count 52 = .ok (.aload_n 0, 1) := by decide +kernel
theorem dX8_count_53 : decode cX8_count 53 = .ok (.bipush 8, 2) := by decide +kernel
theorem dX8_count_55 : decode cX8_count 55 = .ok (.invokevirtual 100, 3) := by decide +kernel
theorem dX8_count_58 : decode cX8_count 58 = .ok (.ireturn, 1) := by decide +kernel
theorem dX8_count_59 : decode cX8_count 59 = .ok (.aload_n 0, 1) := by decide +kernel
theorem dX8_count_60 : decode cX8_count 60 = .ok (.getfield 30, 3) := by decide +kernel
theorem dX8_count_63 : decode cX8_count 63 = .ok (.iload_n 1, 1) := by decide +kernel
theorem dX8_count_64 : decode cX8_count 64 = .ok (.iload_n 2, 1) := by decide +kernel
theorem dX8_count_65 : decode cX8_count 65 = .ok (.iastore, 1) := by decide +kernel
theorem dX8_count_66 : decode cX8_count 66 = .ok (.iconst 1, 1) := by decide +kernel
theorem dX8_count_67 : decode cX8_count 67 = .ok (.ireturn, 1) := by decide +kernel
theorem dX8_join_0 : decode cX8_join 0 = .ok (.aload_n 0, 1) := by decide +kernel
theorem dX8_join_1 : decode cX8_join 1 = .ok (.iconst 0, 1) := by decide +kernel
theorem dX8_join_2 : decode cX8_join 2 = .ok (.putfield 93, 3) := by decide +kernel
theorem dX8_join_5 : decode cX8_join 5 = .ok (.aload_n 0, 1) := by decide +kernel
theorem dX8_join_6 : decode cX8_join 6 = .ok (.iconst 0, 1) := by decide +kernel
theorem dX8_join_7 : decode cX8_join 7 = .ok (.putfield 97, 3) := by decide +kernel
theorem dX8_join_10 : decode cX8_join 10 = .ok (.aload_n 0, 1) := by decide +kernel
theorem dX8_join_11 : decode cX8_join 11 = .ok (.iload_n 1, 1) := by decide +kernel
theorem dX8_join_12 : decode cX8_join 12 = .ok (.invokevirtual 124, 3) := by decide +kernel
theorem dX8_join_15 : decode cX8_join 15 = .ok (.ifCond .eq 11, 3) := by decide +kernel
theorem dX8_join_18 : decode cX8_join 18 = .ok (.aload_n 0, 1) := by decide +kernel
theorem dX8_join_19 : decode cX8_join 19 = .ok (.iload_n 2, 1) := by decide +kernel
theorem dX8_join_20 : decode cX8_join 20 = .ok (.invokevirtual 124, 3) := by decide +kernel
theorem dX8_join_23 : decode cX8_join 23 = .ok (.ifCond .ne 9, 3) := by decide +kernel
theorem dX8_join_26 : decode cX8_join 26 = .ok (.aload_n 0, 1) := by decide +kernel
theorem dX8_join_27 : decode cX8_join 27 = .ok (.iconst 2, 1) := by decide +kernel
theorem dX8_join_28 : decode cX8_join 28 = .ok (.invokevirtual 100, 3) := by decide +kernel
theorem dX8_join_31 : decode cX8_join 31 = .ok (.ireturn, 1) := by decide +kernel
theorem dX8_join_32 : decode cX8_join 32 = .ok (.iload_n 1, 1) := by decide +kernel
theorem dX8_join_33 : decode cX8_join 33 = .ok (.iload_n 2, 1) := by decide +kernel
theorem dX8_join_34 : decode cX8_join 34 = .ok (.if_icmp .ne 9, 3) := by decide +kernel
theorem dX8_join_37 : decode cX8_join 37 = .ok (.aload_n 0, 1) := by decide +kernel
theorem dX8_join_38 : decode cX8_join 38 = .ok (.iconst 5, 1) := by decide +kernel
theorem dX8_join_39 : decode cX8_join 39 = .ok (.invokevirtual 100, 3) := by decide +kernel
theorem dX8_join_42 : decode cX8_join 42 = .ok (.ireturn, 1) := by decide +kernel
theorem dX8_join_43 : decode cX8_join 43 = .ok (.aload_n 0, 1) := by decide +kernel
theorem dX8_join_44 : decode cX8_join 44 = .ok (.getfield 24, 3) := by decide +kernel
theorem dX8_join_47 : decode cX8_join 47 = .ok (.iload_n 1, 1) := by decide +kernel
theorem dX8_join_48 : decode cX8_join 48 = .ok (.iaload, 1) := by decide +kernel
theorem dX8_join_49 : decode cX8_join 49 = .ok (.iconst 3, 1) := by decide +kernel
theorem dX8_join_50 : decode cX8_join 50 = .ok (.if_icmp .ne 13, 3) := by decide +kernel
theorem dX8_join_53 : decode cX8_join 53 = .ok (.aload_n 0, 1) := by decide +kernel
theorem dX8_join_54 : decode cX8_join 54 = .ok (.getfield 24, 3) := by decide +kernel
theorem dX8_join_57 : decode cX8_join 57 = .ok (.iload_n 2, 1) := by decide +kernel
theorem dX8_join_58 : decode cX8_join 58 = .ok (.iaload, 1) := by decide +kernel
theorem dX8_join_59 : decode cX8_join 59 = .ok (.iconst 3, 1) := by decide +kernel
theorem dX8_join_60 : decode cX8_join 60 = .ok (.if_icmp .eq 10, 3) := by decide +kernel
theorem dX8_join_63 : decode cX8_join 63 = .ok (.aload_n 0, 1) := by decide +kernel
theorem dX8_join_64 : decode cX8_join 64 = .ok (.bipush 8, 2) := by decide +kernel
theorem dX8_join_66 : decode cX8_join 66 = .ok (.invokevirtual 100, 3) := by decide +kernel
theorem dX8_join_69 : decode cX8_join 69 = .ok (.ireturn, 1) := by decide +kernel
theorem dX8_join_70 : decode cX8_join 70 = .ok (.aload_n 0, 1) := by decide +kernel
theorem dX8_join_71 : decode cX8_join 71 = .ok (.getfield 33, 3) := by decide +kernel
theorem dX8_join_74 : decode cX8_join 74 = .ok (.iload_n 1, 1) := by decide +kernel
theorem dX8_join_75 : decode cX8_join 75 = .ok (.iaload, 1) := by decide +kernel
theorem dX8_join_76 : decode cX8_join 76 = .ok (.aload_n 0, 1) := by decide +kernel
theorem dX8_join_77 : decode cX8_join 77 = .ok (.getfield 33, 3) := by decide +kernel
theorem dX8_join_80 : decode cX8_join 80 = .ok (.iload_n 2, 1) := by decide +kernel
theorem dX8_join_81 : decode cX8_join 81 = .ok (.iaload, 1) := by decide +kernel
theorem dX8_join_82 : decode cX8_join 82 = .ok (.if_icmp .ne 10, 3) := by decide +kernel
theorem dX8_join_85 : decode cX8_join 85 = .ok (.aload_n 0, 1) := by decide +kernel
theorem dX8_join_86 : decode cX8_join 86 = .ok (.bipush 10, 2) := by decide +kernel
theorem dX8_join_88 : decode cX8_join 88 = .ok (.invokevirtual 100, 3) := by decide +kernel
theorem dX8_join_91 : decode cX8_join 91 = .ok (.ireturn, 1) := by decide +kernel
theorem dX8_join_92 : decode cX8_join 92 = .ok (.aload_n 0, 1) := by decide +kernel
theorem dX8_join_93 : decode cX8_join 93 = .ok (.getfield 33, 3) := by decide +kernel
theorem dX8_join_96 : decode cX8_join 96 = .ok (.iload_n 1, 1) := by decide +kernel
theorem dX8_join_97 : decode cX8_join 97 = .ok (.iaload, 1) := by decide +kernel
theorem dX8_join_98 : decode cX8_join 98 = .ok (.aload_n 0, 1) := by decide +kernel
theorem dX8_join_99 : decode cX8_join 99 = .ok (.getfield 33, 3) := by decide +kernel
theorem dX8_join_102 : decode cX8_join 102 = .ok (.iload_n 2, 1) := by decide +kernel
theorem dX8_join_103 : decode cX8_join 103 = .ok (.iaload, 1) := by decide +kernel
theorem dX8_join_104 : decode cX8_join 104 = .ok (.invokestatic 134, 3) := by decide +kernel
theorem dX8_join_107 : decode cX8_join 107 = .ok (.istore_n 3, 1) := by decide +kernel
theorem dX8_join_108 : decode cX8_join 108 = .ok (.aload_n 0, 1) := by decide +kernel
theorem dX8_join_109 : decode cX8_join 109 = .ok (.getfield 33, 3) := by decide +kernel
theorem dX8_join_112 : decode cX8_join 112 = .ok (.iload_n 1, 1) := by decide +kernel
theorem dX8_join_113 : decode cX8_join 113 = .ok (.iaload, 1) := by decide +kernel
theorem dX8_join_114 : decode cX8_join 114 = .ok (.aload_n 0, 1) := by decide +kernel
theorem dX8_join_115 : decode cX8_join 115 = .ok (.getfield 33, 3) := by decide +kernel
theorem dX8_join_118 : decode cX8_join 118 = .ok (.iload_n 2, 1) := by decide +kernel
theorem dX8_join_119 : decode cX8_join 119 = .ok (.iaload, 1) := by decide +kernel
theorem dX8_join_120 : decode cX8_join 120 = .ok (.invokestatic 139, 3) := by decide +kernel
theorem dX8_join_123 : decode cX8_join 123 = .ok (.istore 4, 2) := by decide +kernel
theorem dX8_join_125 : decode cX8_join 125 = .ok (.iconst 0, 1) := by decide +kernel
theorem dX8_join_126 : decode cX8_join 126 = .ok (.istore 5, 2) := by decide +kernel
theorem dX8_join_128 : decode cX8_join 128 = .ok (.iload 5, 2) := by decide +kernel
theorem dX8_join_130 : decode cX8_join 130 = .ok (.aload_n 0, 1) := by decide +kernel
theorem dX8_join_131 : decode cX8_join 131 = .ok (.getfield 118, 3) := by decide +kernel
theorem dX8_join_134 : decode cX8_join 134 = .ok (.if_icmp .ge 29, 3) := by decide +kernel
theorem dX8_join_137 : decode cX8_join 137 = .ok (.aload_n 0, 1) := by decide +kernel
theorem dX8_join_138 : decode cX8_join 138 = .ok (.getfield 33, 3) := by decide +kernel
theorem dX8_join_141 : decode cX8_join 141 = .ok (.iload 5, 2) := by decide +kernel
theorem dX8_join_143 : decode cX8_join 143 = .ok (.iaload, 1) := by decide +kernel
theorem dX8_join_144 : decode cX8_join 144 = .ok (.iload 4, 2) := by decide +kernel
theorem dX8_join_146 : decode cX8_join 146 = .ok (.if_icmp .ne 11, 3) := by decide +kernel
theorem dX8_join_149 : decode cX8_join 149 = .ok (.aload_n 0, 1) := by decide +kernel
theorem dX8_join_150 : decode cX8_join 150 = .ok (.getfield 33, 3) := by decide +kernel
theorem dX8_join_153 : decode cX8_join 153 = .ok (.iload 5, 2) := by decide +kernel
theorem dX8_join_155 : decode cX8_join 155 = .ok (.iload_n 3, 1) := by decide +kernel
theorem dX8_join_156 : decode cX8_join 156 = .ok (.iastore, 1) := by decide +kernel
theorem dX8_join_157 : decode cX8_join 157 = .ok (.iinc 5 1, 3) := by decide +kernel
theorem dX8_join_160 : decode cX8_join 160 = .ok (.goto (-32), 3) := by decide +kernel
theorem dX8_join_163 : decode cX8_join 163 = .ok (.iconst 1, 1) := by decide +kernel
theorem dX8_join_164 : decode cX8_join 164 = .ok (.ireturn, 1) := by decide +kernel
theorem dX8_isPerson_0 : decode cX8_isPerson 0 = .ok (.iload_n 0, 1) := by decide +kernel
theorem dX8_isPerson_1 : decode cX8_isPerson 1 = .ok (.ifCond .lt 13, 3) := by decide +kernel
theorem dX8_isPerson_4 : decode cX8_isPerson 4 = .ok (.iload_n 0, 1) := by decide +kernel
theorem dX8_isPerson_5 : decode cX8_isPerson 5 = .ok (.bipush 16, 2) := by decide +kernel
theorem dX8_isPerson_7 : decode cX8_isPerson 7 = .ok (.if_icmp .ge 7, 3) := by decide +kernel
theorem dX8_isPerson_10 : decode cX8_isPerson 10 = .ok (.iconst 1, 1) := by decide +kernel
theorem dX8_isPerson_11 : decode cX8_isPerson 11 = .ok (.goto 4, 3) := by decide +kernel
theorem dX8_isPerson_14 : decode cX8_isPerson 14 = .ok (.iconst 0, 1) := by decide +kernel
theorem dX8_isPerson_15 : decode cX8_isPerson 15 = .ok (.ireturn, 1) := by decide +kernel
theorem dX8_isDay_0 : decode cX8_isDay 0 = .ok (.iload_n 0, 1) := by decide +kernel
theorem dX8_isDay_1 : decode cX8_isDay 1 = .ok (.ifCond .lt 13, 3) := by decide +kernel
theorem dX8_isDay_4 : decode cX8_isDay 4 = .ok (.iload_n 0, 1) := by decide +kernel
theorem dX8_isDay_5 : decode cX8_isDay 5 = .ok (.ldc 145, 2) := by decide +kernel
theorem dX8_isDay_7 : decode cX8_isDay 7 = .ok (.if_icmp .gt 7, 3) := by decide +kernel
theorem dX8_isDay_10 : decode cX8_isDay 10 = .ok (.iconst 1, 1) := by decide +kernel
theorem dX8_isDay_11 : decode cX8_isDay 11 = .ok (.goto 4, 3) := by decide +kernel
theorem dX8_isDay_14 : decode cX8_isDay 14 = .ok (.iconst 0, 1) := by decide +kernel
theorem dX8_isDay_15 : decode cX8_isDay 15 = .ok (.ireturn, 1) := by decide +kernel
theorem dX8_close_0 : decode cX8_close 0 = .ok (.aload_n 0, 1) := by decide +kernel
theorem dX8_close_1 : decode cX8_close 1 = .ok (.iconst 0, 1) := by decide +kernel
theorem dX8_close_2 : decode cX8_close 2 = .ok (.putfield 93, 3) := by decide +kernel
theorem dX8_close_5 : decode cX8_close 5 = .ok (.aload_n 0, 1) := by decide +kernel
theorem dX8_close_6 : decode cX8_close 6 = .ok (.iconst 0, 1) := by decide +kernel
theorem dX8_close_7 : decode cX8_close 7 = .ok (.putfield 97, 3) := by decide +kernel
theorem dX8_close_10 : decode cX8_close 10 = .ok (.aload_n 0, 1) := by decide +kernel
theorem dX8_close_11 : decode cX8_close 11 = .ok (.iload_n 1, 1) := by decide +kernel
theorem dX8_close_12 : decode cX8_close 12 = .ok (.invokevirtual 124, 3) := by decide +kernel
theorem dX8_close_15 : decode cX8_close 15 = .ok (.ifCond .ne 9, 3) := by decide +kernel
theorem dX8_close_18 : decode cX8_close 18 = .ok (.aload_n 0, 1) := by decide +kernel
theorem dX8_close_19 : decode cX8_close 19 = .ok (.iconst 2, 1) := by decide +kernel
theorem dX8_close_20 : decode cX8_close 20 = .ok (.invokevirtual 100, 3) := by decide +kernel
theorem dX8_close_23 : decode cX8_close 23 = .ok (.ireturn, 1) := by decide +kernel
theorem dX8_close_24 : decode cX8_close 24 = .ok (.iload_n 2, 1) := by decide +kernel
theorem dX8_close_25 : decode cX8_close 25 = .ok (.iconst (-1), 1) := by decide +kernel
theorem dX8_close_26 : decode cX8_close 26 = .ok (.if_icmp .lt 19, 3) := by decide +kernel
theorem dX8_close_29 : decode cX8_close 29 = .ok (.iload_n 2, 1) := by decide +kernel
theorem dX8_close_30 : decode cX8_close 30 = .ok (.ldc 146, 2) := by decide +kernel
theorem dX8_close_32 : decode cX8_close 32 = .ok (.if_icmp .gt 13, 3) := by decide +kernel
theorem dX8_close_35 : decode cX8_close 35 = .ok (.iload_n 3, 1) := by decide +kernel
theorem dX8_close_36 : decode cX8_close 36 = .ok (.ifCond .lt 9, 3) := by decide +kernel
theorem dX8_close_39 : decode cX8_close 39 = .ok (.iload_n 3, 1) := by decide +kernel
theorem dX8_close_40 : decode cX8_close 40 = .ok (.ldc 147, 2) := by decide +kernel
theorem dX8_close_42 : decode cX8_close 42 = .ok (.if_icmp .le 9, 3) := by decide +kernel
theorem dX8_close_45 : decode cX8_close 45 = .ok (.aload_n 0, 1) := by decide +kernel
theorem dX8_close_46 : decode cX8_close 46 = .ok (.iconst 5, 1) := by decide +kernel
theorem dX8_close_47 : decode cX8_close 47 = .ok (.invokevirtual 100, 3) := by decide +kernel
theorem dX8_close_50 : decode cX8_close 50 = .ok (.ireturn, 1) := by decide +kernel
theorem dX8_close_51 : decode cX8_close 51 = .ok (.aload_n 0, 1) := by decide +kernel
theorem dX8_close_52 : decode cX8_close 52 = .ok (.getfield 45, 3) := by decide +kernel
theorem dX8_close_55 : decode cX8_close 55 = .ok (.iload_n 1, 1) := by decide +kernel
theorem dX8_close_56 : decode cX8_close 56 = .ok (.iload_n 2, 1) := by decide +kernel
theorem dX8_close_57 : decode cX8_close 57 = .ok (.iastore, 1) := by decide +kernel
theorem dX8_close_58 : decode cX8_close 58 = .ok (.aload_n 0, 1) := by decide +kernel
theorem dX8_close_59 : decode cX8_close 59 = .ok (.getfield 48, 3) := by decide +kernel
theorem dX8_close_62 : decode cX8_close 62 = .ok (.iload_n 1, 1) := by decide +kernel
theorem dX8_close_63 : decode cX8_close 63 = .ok (.iload_n 3, 1) := by decide +kernel
theorem dX8_close_64 : decode cX8_close 64 = .ok (.iastore, 1) := by decide +kernel
theorem dX8_close_65 : decode cX8_close 65 = .ok (.iconst 1, 1) := by decide +kernel
theorem dX8_close_66 : decode cX8_close 66 = .ok (.ireturn, 1) := by decide +kernel
theorem dX8_seesOf_0 : decode cX8_seesOf 0 = .ok (.iload_n 1, 1) := by decide +kernel
theorem dX8_seesOf_1 : decode cX8_seesOf 1 = .ok (.istore 4, 2) := by decide +kernel
theorem dX8_seesOf_3 : decode cX8_seesOf 3 = .ok (.iload 4, 2) := by decide +kernel
theorem dX8_seesOf_5 : decode cX8_seesOf 5 = .ok (.ifCond .lt 42, 3) := by decide +kernel
theorem dX8_seesOf_8 : decode cX8_seesOf 8 = .ok (.aload_n 0, 1) := by decide +kernel
theorem dX8_seesOf_9 : decode cX8_seesOf 9 = .ok (.getfield 45, 3) := by decide +kernel
theorem dX8_seesOf_12 : decode cX8_seesOf 12 = .ok (.iload 4, 2) := by decide +kernel
theorem dX8_seesOf_14 : decode cX8_seesOf 14 = .ok (.iaload, 1) := by decide +kernel
theorem dX8_seesOf_15 : decode cX8_seesOf 15 = .ok (.iload_n 3, 1) := by decide +kernel
theorem dX8_seesOf_16 : decode cX8_seesOf 16 = .ok (.if_icmp .le 19, 3) := by decide +kernel
theorem dX8_seesOf_19 : decode cX8_seesOf 19 = .ok (.aload_n 0, 1) := by decide +kernel
theorem dX8_seesOf_20 : decode cX8_seesOf 20 = .ok (.getfield 48, 3) := by decide +kernel
theorem dX8_seesOf_23 : decode cX8_seesOf 23 = .ok (.iload 4, 2) := by decide +kernel
theorem dX8_seesOf_25 : decode cX8_seesOf 25 = .ok (.iaload, 1) := by decide +kernel
theorem dX8_seesOf_26 : decode cX8_seesOf 26 = .ok (.iload_n 2, 1) := by decide +kernel
theorem dX8_seesOf_27 : decode cX8_seesOf 27 = .ok (.ishr, 1) := by decide +kernel
theorem dX8_seesOf_28 : decode cX8_seesOf 28 = .ok (.iconst 1, 1) := by decide +kernel
theorem dX8_seesOf_29 : decode cX8_seesOf 29 = .ok (.iand, 1) := by decide +kernel
theorem dX8_seesOf_30 : decode cX8_seesOf 30 = .ok (.ifCond .ne 5, 3) := by decide +kernel
theorem dX8_seesOf_33 : decode cX8_seesOf 33 = .ok (.iconst 0, 1) := by decide +kernel
theorem dX8_seesOf_34 : decode cX8_seesOf 34 = .ok (.ireturn, 1) := by decide +kernel
theorem dX8_seesOf_35 : decode cX8_seesOf 35 = .ok (.aload_n 0, 1) := by decide +kernel
theorem dX8_seesOf_36 : decode cX8_seesOf 36 = .ok (.getfield 27, 3) := by decide +kernel
theorem dX8_seesOf_39 : decode cX8_seesOf 39 = .ok (.iload 4, 2) := by decide +kernel
theorem dX8_seesOf_41 : decode cX8_seesOf 41 = .ok (.iaload, 1) := by decide +kernel
theorem dX8_seesOf_42 : decode cX8_seesOf 42 = .ok (.istore 4, 2) := by decide +kernel
theorem dX8_seesOf_44 : decode cX8_seesOf 44 = .ok (.goto (-41), 3) := by decide +kernel
theorem dX8_seesOf_47 : decode cX8_seesOf 47 = .ok (.iconst 1, 1) := by decide +kernel
theorem dX8_seesOf_48 : decode cX8_seesOf 48 = .ok (.ireturn, 1) := by decide +kernel
theorem dX8_sees_0 : decode cX8_sees 0 = .ok (.aload_n 0, 1) := by decide +kernel
theorem dX8_sees_1 : decode cX8_sees 1 = .ok (.iconst 0, 1) := by decide +kernel
theorem dX8_sees_2 : decode cX8_sees 2 = .ok (.putfield 93, 3) := by decide +kernel
theorem dX8_sees_5 : decode cX8_sees 5 = .ok (.aload_n 0, 1) := by decide +kernel
theorem dX8_sees_6 : decode cX8_sees 6 = .ok (.iconst 0, 1) := by decide +kernel
theorem dX8_sees_7 : decode cX8_sees 7 = .ok (.putfield 97, 3) := by decide +kernel
theorem dX8_sees_10 : decode cX8_sees 10 = .ok (.aload_n 0, 1) := by decide +kernel
theorem dX8_sees_11 : decode cX8_sees 11 = .ok (.iload_n 1, 1) := by decide +kernel
theorem dX8_sees_12 : decode cX8_sees 12 = .ok (.invokevirtual 124, 3) := by decide +kernel
theorem dX8_sees_15 : decode cX8_sees 15 = .ok (.ifCond .eq 10, 3) := by decide +kernel
theorem dX8_sees_18 : decode cX8_sees 18 = .ok (.iload_n 2, 1) := by decide +kernel
theorem dX8_sees_19 : decode cX8_sees 19 = .ok (.invokestatic 148, 3) := by decide +kernel
theorem dX8_sees_22 : decode cX8_sees 22 = .ok (.ifCond .ne 9, 3) := by decide +kernel
theorem dX8_sees_25 : decode cX8_sees 25 = .ok (.aload_n 0, 1) := by decide +kernel
theorem dX8_sees_26 : decode cX8_sees 26 = .ok (.iconst 2, 1) := by decide +kernel
theorem dX8_sees_27 : decode cX8_sees 27 = .ok (.invokevirtual 121, 3) := by decide +kernel
theorem dX8_sees_30 : decode cX8_sees 30 = .ok (.ireturn, 1) := by decide +kernel
theorem dX8_sees_31 : decode cX8_sees 31 = .ok (.iload_n 3, 1) := by decide +kernel
theorem dX8_sees_32 : decode cX8_sees 32 = .ok (.invokestatic 151, 3) := by decide +kernel
theorem dX8_sees_35 : decode cX8_sees 35 = .ok (.ifCond .ne 9, 3) := by decide +kernel
theorem dX8_sees_38 : decode cX8_sees 38 = .ok (.aload_n 0, 1) := by decide +kernel
theorem dX8_sees_39 : decode cX8_sees 39 = .ok (.iconst 5, 1) := by decide +kernel
theorem dX8_sees_40 : decode cX8_sees 40 = .ok (.invokevirtual 121, 3) := by decide +kernel
theorem dX8_sees_43 : decode cX8_sees 43 = .ok (.ireturn, 1) := by decide +kernel
theorem dX8_sees_44 : decode cX8_sees 44 = .ok (.aload_n 0, 1) := by decide +kernel
theorem dX8_sees_45 : decode cX8_sees 45 = .ok (.iload_n 1, 1) := by decide +kernel
theorem dX8_sees_46 : decode cX8_sees 46 = .ok (.iload_n 2, 1) := by decide +kernel
theorem dX8_sees_47 : decode cX8_sees 47 = .ok (.iload_n 3, 1) := by decide +kernel
theorem dX8_sees_48 : decode cX8_sees 48 = .ok (.invokevirtual 154, 3) := by decide +kernel
theorem dX8_sees_51 : decode cX8_sees 51 = .ok (.ifCond .eq 7, 3) := by decide +kernel
theorem dX8_sees_54 : decode cX8_sees 54 = .ok (.iconst 1, 1) := by decide +kernel
theorem dX8_sees_55 : decode cX8_sees 55 = .ok (.goto 4, 3) := by decide +kernel
theorem dX8_sees_58 : decode cX8_sees 58 = .ok (.iconst 0, 1) := by decide +kernel
theorem dX8_sees_59 : decode cX8_sees 59 = .ok (.ireturn, 1) := by decide +kernel
theorem dX8_isPart_0 : decode cX8_isPart 0 = .ok (.iload_n 1, 1) := by decide +kernel
theorem dX8_isPart_1 : decode cX8_isPart 1 = .ok (.istore_n 3, 1) := by decide +kernel
theorem dX8_isPart_2 : decode cX8_isPart 2 = .ok (.iload_n 3, 1) := by decide +kernel
theorem dX8_isPart_3 : decode cX8_isPart 3 = .ok (.ifCond .lt 18, 3) := by decide +kernel
theorem dX8_isPart_6 : decode cX8_isPart 6 = .ok (.iload_n 3, 1) := by decide +kernel
theorem dX8_isPart_7 : decode cX8_isPart 7 = .ok (.iload_n 2, 1) := by decide +kernel
theorem dX8_isPart_8 : decode cX8_isPart 8 = .ok (.if_icmp .eq 13, 3) := by decide +kernel
theorem dX8_isPart_11 : decode cX8_isPart 11 = .ok (.aload_n 0, 1) := by decide +kernel
theorem dX8_isPart_12 : decode cX8_isPart 12 = .ok (.getfield 27, 3) := by decide +kernel
theorem dX8_isPart_15 : decode cX8_isPart 15 = .ok (.iload_n 3, 1) := by decide +kernel
theorem dX8_isPart_16 : decode cX8_isPart 16 = .ok (.iaload, 1) := by decide +kernel
theorem dX8_isPart_17 : decode cX8_isPart 17 = .ok (.istore_n 3, 1) := by decide +kernel
theorem dX8_isPart_18 : decode cX8_isPart 18 = .ok (.goto (-16), 3) := by decide +kernel
theorem dX8_isPart_21 : decode cX8_isPart 21 = .ok (.iload_n 3, 1) := by decide +kernel
theorem dX8_isPart_22 : decode cX8_isPart 22 = .ok (.iload_n 2, 1) := by decide +kernel
theorem dX8_isPart_23 : decode cX8_isPart 23 = .ok (.if_icmp .ne 7, 3) := by decide +kernel
theorem dX8_isPart_26 : decode cX8_isPart 26 = .ok (.iconst 1, 1) := by decide +kernel
theorem dX8_isPart_27 : decode cX8_isPart 27 = .ok (.goto 4, 3) := by decide +kernel
theorem dX8_isPart_30 : decode cX8_isPart 30 = .ok (.iconst 0, 1) := by decide +kernel
theorem dX8_isPart_31 : decode cX8_isPart 31 = .ok (.ireturn, 1) := by decide +kernel
theorem dX8_number_0 : decode cX8_number 0 = .ok (.aload_n 0, 1) := by decide +kernel
theorem dX8_number_1 : decode cX8_number 1 = .ok (.iconst 0, 1) := by decide +kernel
theorem dX8_number_2 : decode cX8_number 2 = .ok (.putfield 93, 3) := by decide +kernel
theorem dX8_number_5 : decode cX8_number 5 = .ok (.aload_n 0, 1) := by decide +kernel
theorem dX8_number_6 : decode cX8_number 6 = .ok (.iconst 0, 1) := by decide +kernel
theorem dX8_number_7 : decode cX8_number 7 = .ok (.putfield 97, 3) := by decide +kernel
theorem dX8_number_10 : decode cX8_number 10 = .ok (.aload_n 0, 1) := by decide +kernel
theorem dX8_number_11 : decode cX8_number 11 = .ok (.iload_n 1, 1) := by decide +kernel
theorem dX8_number_12 : decode cX8_number 12 = .ok (.invokevirtual 124, 3) := by decide +kernel
theorem dX8_number_15 : decode cX8_number 15 = .ok (.ifCond .eq 10, 3) := by decide +kernel
theorem dX8_number_18 : decode cX8_number 18 = .ok (.iload_n 3, 1) := by decide +kernel
theorem dX8_number_19 : decode cX8_number 19 = .ok (.invokestatic 148, 3) := by decide +kernel
theorem dX8_number_22 : decode cX8_number 22 = .ok (.ifCond .ne 9, 3) := by decide +kernel
theorem dX8_number_25 : decode cX8_number 25 = .ok (.aload_n 0, 1) := by decide +kernel
theorem dX8_number_26 : decode cX8_number 26 = .ok (.iconst 2, 1) := by decide +kernel
theorem dX8_number_27 : decode cX8_number 27 = .ok (.invokevirtual 121, 3) := by decide +kernel
theorem dX8_number_30 : decode cX8_number 30 = .ok (.ireturn, 1) := by decide +kernel
theorem dX8_number_31 : decode cX8_number 31 = .ok (.iload_n 2, 1) := by decide +kernel
theorem dX8_number_32 : decode cX8_number 32 = .ok (.ifCond .lt 16, 3) := by decide +kernel
theorem dX8_number_35 : decode cX8_number 35 = .ok (.iload_n 2, 1) := by decide +kernel
theorem dX8_number_36 : decode cX8_number 36 = .ok (.iconst 3, 1) := by decide +kernel
theorem dX8_number_37 : decode cX8_number 37 = .ok (.if_icmp .gt 11, 3) := by decide +kernel
theorem dX8_number_40 : decode cX8_number 40 = .ok (.iload 4, 2) := by decide +kernel
theorem dX8_number_42 : decode cX8_number 42 = .ok (.invokestatic 151, 3) := by decide +kernel
theorem dX8_number_45 : decode cX8_number 45 = .ok (.ifCond .ne 9, 3) := by decide +kernel
theorem dX8_number_48 : decode cX8_number 48 = .ok (.aload_n 0, 1) := by decide +kernel
theorem dX8_number_49 : decode cX8_number 49 = .ok (.iconst 5, 1) := by decide +kernel
theorem dX8_number_50 : decode cX8_number 50 = .ok (.invokevirtual 121, 3) := by decide +kernel
theorem dX8_number_53 : decode cX8_number 53 = .ok (.ireturn, 1) := by decide +kernel
theorem dX8_number_54 : decode cX8_number 54 = .ok (.iconst 0, 1) := by decide +kernel
theorem dX8_number_55 : decode cX8_number 55 = .ok (.istore 5, 2) := by decide +kernel
theorem dX8_number_57 : decode cX8_number 57 = .ok (.iconst 0, 1) := by decide +kernel
theorem dX8_number_58 : decode cX8_number 58 = .ok (.istore 6, 2) := by decide +kernel
theorem dX8_number_60 : decode cX8_number 60 = .ok (.iload 6, 2) := by decide +kernel
theorem dX8_number_62 : decode cX8_number 62 = .ok (.aload_n 0, 1) := by decide +kernel
theorem dX8_number_63 : decode cX8_number 63 = .ok (.getfield 118, 3) := by decide +kernel
theorem dX8_number_66 : decode cX8_number 66 = .ok (.if_icmp .ge 127, 3) := by decide +kernel
theorem dX8_number_69 : decode cX8_number 69 = .ok (.aload_n 0, 1) := by decide +kernel
theorem dX8_number_70 : decode cX8_number 70 = .ok (.iload 6, 2) := by decide +kernel
theorem dX8_number_72 : decode cX8_number 72 = .ok (.iload_n 1, 1) := by decide +kernel
theorem dX8_number_73 : decode cX8_number 73 = .ok (.invokevirtual 158, 3) := by decide +kernel
theorem dX8_number_76 : decode cX8_number 76 = .ok (.ifCond .eq 111, 3) := by decide +kernel
theorem dX8_number_79 : decode cX8_number 79 = .ok (.aload_n 0, 1) := by decide +kernel
theorem dX8_number_80 : decode cX8_number 80 = .ok (.iload 6, 2) := by decide +kernel
theorem dX8_number_82 : decode cX8_number 82 = .ok (.iload_n 3, 1) := by decide +kernel
theorem dX8_number_83 : decode cX8_number 83 = .ok (.iload 4, 2) := by decide +kernel
theorem dX8_number_85 : decode cX8_number 85 = .ok (.invokevirtual 154, 3) := by decide +kernel
theorem dX8_number_88 : decode cX8_number 88 = .ok (.ifCond .ne 6, 3) := by decide +kernel
theorem dX8_number_91 : decode cX8_number 91 = .ok (.goto 96, 3) := by decide +kernel
theorem dX8_number_94 : decode cX8_number 94 = .ok (.iload_n 2, 1) := by decide +kernel
theorem dX8_number_95 : decode cX8_number 95 = .ok (.iconst 3, 1) := by decide +kernel
theorem dX8_number_96 : decode cX8_number 96 = .ok (.if_icmp .ge 27, 3) := by decide +kernel
theorem dX8_number_99 : decode cX8_number 99 = .ok (.iload 5, 2) := by decide +kernel
theorem dX8_number_101 : decode cX8_number 101 = .ok (.aload_n 0, 1) := by decide +kernel
theorem dX8_number_102 : decode cX8_number 102 = .ok (.getfield 24, 3) := by decide +kernel
theorem dX8_number_105 : decode cX8_number 105 = .ok (.iload 6, 2) := by decide +kernel
theorem dX8_number_107 : decode cX8_number 107 = .ok (.iaload, 1) := by decide +kernel
theorem dX8_number_108 : decode cX8_number 108 = .ok (.iload_n 2, 1) := by decide +kernel
theorem dX8_number_109 : decode cX8_number 109 = .ok (.if_icmp .ne 7, 3) := by decide +kernel
theorem dX8_number_112 : decode cX8_number 112 = .ok (.iconst 1, 1) := by decide +kernel
theorem dX8_number_113 : decode cX8_number 113 = .ok (.goto 4, 3) := by decide +kernel
theorem dX8_number_116 : decode cX8_number 116 = .ok (.iconst 0, 1) := by decide +kernel
theorem dX8_number_117 : decode cX8_number 117 = .ok (.iadd, 1) := by decide +kernel
theorem dX8_number_118 : decode cX8_number 118 = .ok (.istore 5, 2) := by decide +kernel
theorem dX8_number_120 : decode cX8_number 120 = .ok (.goto 67, 3) := by decide +kernel
theorem dX8_number_123 : decode cX8_number 123 = .ok (.aload_n 0, 1) := by decide +kernel
theorem dX8_number_124 : decode cX8_number 124 = .ok (.getfield 24, 3) := by decide +kernel
theorem dX8_number_127 : decode cX8_number 127 = .ok (.iload 6, 2) := by decide +kernel
theorem dX8_number_129 : decode cX8_number 129 = .ok (.iaload, 1) := by decide +kernel
theorem dX8_number_130 : decode cX8_number 130 = .ok (.iconst 2, 1) := by decide +kernel
theorem dX8_number_131 : decode cX8_number 131 = .ok (.if_icmp .ne 22, 3) := by decide +kernel
theorem dX8_number_134 : decode cX8_number 134 = .ok (.iload 5, 2) := by decide +kernel
theorem dX8_number_136 : decode cX8_number 136 = .ok (.iconst 0, 1) := by decide +kernel
theorem dX8_number_137 : decode cX8_number 137 = .ok (.aload_n 0, 1) := by decide +kernel
theorem dX8_number_138 : decode cX8_number 138 = .ok (.getfield 30, 3) := by decide +kernel
theorem dX8_number_141 : decode cX8_number 141 = .ok (.iload 6, 2) := by decide +kernel
theorem dX8_number_143 : decode cX8_number 143 = .ok (.iaload, 1) := by decide +kernel
theorem dX8_number_144 : decode cX8_number 144 = .ok (.invokestatic 139, 3) := by decide +kernel
theorem dX8_number_147 : decode cX8_number 147 = .ok (.iadd, 1) := by decide +kernel
theorem dX8_number_148 : decode cX8_number 148 = .ok (.istore 5, 2) := by decide +kernel
theorem dX8_number_150 : decode cX8_number 150 = .ok (.goto 37, 3) := by decide +kernel
theorem dX8_number_153 : decode cX8_number 153 = .ok (.aload_n 0, 1) := by decide +kernel
theorem dX8_number_154 : decode cX8_number 154 = .ok (.getfield 24, 3) := by decide +kernel
theorem dX8_number_157 : decode cX8_number 157 = .ok (.iload 6, 2) := by decide +kernel
theorem dX8_number_159 : decode cX8_number 159 = .ok (.iaload, 1) := by decide +kernel
theorem dX8_number_160 : decode cX8_number 160 = .ok (.iconst 3, 1) := by decide +kernel
theorem dX8_number_161 : decode cX8_number 161 = .ok (.if_icmp .ne 26, 3) := by decide +kernel
theorem dX8_number_164 : decode cX8_number 164 = .ok (.iload 5, 2) := by decide +kernel
theorem dX8_number_166 : decode cX8_number 166 = .ok (.aload_n 0, 1) := by decide +kernel
theorem dX8_number_167 : decode cX8_number 167 = .ok (.iload 6, 2) := by decide +kernel
theorem dX8_number_169 : decode cX8_number 169 = .ok (.iload_n 1, 1) := by decide +kernel
theorem dX8_number_170 : decode cX8_number 170 = .ok (.iload_n 3, 1) := by decide +kernel
theorem dX8_number_171 : decode cX8_number 171 = .ok (.iload 4, 2) := by decide +kernel
theorem dX8_number_173 : decode cX8_number 173 = .ok (.invokevirtual 162, 3) := by decide +kernel
theorem dX8_number_176 : decode cX8_number 176 = .ok (.ifCond .eq 7, 3) := by decide +kernel
theorem dX8_number_179 : decode cX8_number 179 = .ok (.iconst 1, 1) := by decide +kernel
theorem dX8_number_180 : decode cX8_number 180 = .ok (.goto 4, 3) := by decide +kernel
theorem dX8_number_183 : decode cX8_number 183 = .ok (.iconst 0, 1) := by decide +kernel
theorem dX8_number_184 : decode cX8_number 184 = .ok (.iadd, 1) := by decide +kernel
theorem dX8_number_185 : decode cX8_number 185 = .ok (.istore 5, 2) := by decide +kernel
theorem dX8_number_187 : decode cX8_number 187 = .ok (.iinc 6 1, 3) := by decide +kernel
theorem dX8_number_190 : decode cX8_number 190 = .ok (.goto (-130), 3) := by decide +kernel
theorem dX8_number_193 : decode cX8_number 193 = .ok (.iload 5, 2) := by decide +kernel
theorem dX8_number_195 : decode cX8_number 195 = .ok (.ireturn, 1) := by decide +kernel
theorem dX8_isFirst_0 : decode cX8_isFirst 0 = .ok (.iconst 0, 1) := by decide +kernel
theorem dX8_isFirst_1 : decode cX8_isFirst 1 = .ok (.istore 5, 2) := by decide +kernel
theorem dX8_isFirst_3 : decode cX8_isFirst 3 = .ok (.iload 5, 2) := by decide +kernel
theorem dX8_isFirst_5 : decode cX8_isFirst 5 = .ok (.iload_n 1, 1) := by decide +kernel
theorem dX8_isFirst_6 : decode cX8_isFirst 6 = .ok (.if_icmp .ge 60, 3) := by decide +kernel
theorem dX8_isFirst_9 : decode cX8_isFirst 9 = .ok (.aload_n 0, 1) := by decide +kernel
theorem dX8_isFirst_10 : decode cX8_isFirst 10 = .ok (.getfield 24, 3) := by decide +kernel
theorem dX8_isFirst_13 : decode cX8_isFirst 13 = .ok (.iload 5, 2) := by decide +kernel
theorem dX8_isFirst_15 : decode cX8_isFirst 15 = .ok (.iaload, 1) := by decide +kernel
theorem dX8_isFirst_16 : decode cX8_isFirst 16 = .ok (.iconst 3, 1) := by decide +kernel
theorem dX8_isFirst_17 : decode cX8_isFirst 17 = .ok (.if_icmp .ne 43, 3) := by decide +kernel
theorem dX8_isFirst_20 : decode cX8_isFirst 20 = .ok (.aload_n 0, 1) := by decide +kernel
theorem dX8_isFirst_21 : decode cX8_isFirst 21 = .ok (.getfield 33, 3) := by decide +kernel
theorem dX8_isFirst_24 : decode cX8_isFirst 24 = .ok (.iload 5, 2) := by decide +kernel
theorem dX8_isFirst_26 : decode cX8_isFirst 26 = .ok (.iaload, 1) := by decide +kernel
theorem dX8_isFirst_27 : decode cX8_isFirst 27 = .ok (.aload_n 0, 1) := by decide +kernel
theorem dX8_isFirst_28 : decode cX8_isFirst 28 = .ok (.getfield 33, 3) := by decide +kernel
theorem dX8_isFirst_31 : decode cX8_isFirst 31 = .ok (.iload_n 1, 1) := by decide +kernel
theorem dX8_isFirst_32 : decode cX8_isFirst 32 = .ok (.iaload, 1) := by decide +kernel
theorem dX8_isFirst_33 : decode cX8_isFirst 33 = .ok (.if_icmp .ne 27, 3) := by decide +kernel
theorem dX8_isFirst_36 : decode cX8_isFirst 36 = .ok (.aload_n 0, 1) := by decide +kernel
theorem dX8_isFirst_37 : decode cX8_isFirst 37 = .ok (.iload 5, 2) := by decide +kernel
theorem dX8_isFirst_39 : decode cX8_isFirst 39 = .ok (.iload_n 2, 1) := by decide +kernel
theorem dX8_isFirst_40 : decode cX8_isFirst 40 = .ok (.invokevirtual 158, 3) := by decide +kernel
theorem dX8_isFirst_43 : decode cX8_isFirst 43 = .ok (.ifCond .eq 17, 3) := by decide +kernel
theorem dX8_isFirst_46 : decode cX8_isFirst 46 = .ok (.aload_n 0, 1) := by decide +kernel
theorem dX8_isFirst_47 : decode cX8_isFirst 47 = .ok (.iload 5, 2) := by decide +kernel
theorem dX8_isFirst_49 : decode cX8_isFirst 49 = .ok (.iload_n 3, 1) := by decide +kernel
theorem dX8_isFirst_50 : decode cX8_isFirst 50 = .ok (.iload 4, 2) := by decide +kernel
theorem dX8_isFirst_52 : decode cX8_isFirst 52 = .ok (.invokevirtual 154, 3) := by decide +kernel
theorem dX8_isFirst_55 : decode cX8_isFirst 55 = .ok (.ifCond .eq 5, 3) := by decide +kernel
theorem dX8_isFirst_58 : decode cX8_isFirst 58 = .ok (.iconst 0, 1) := by decide +kernel
theorem dX8_isFirst_59 : decode cX8_isFirst 59 = .ok (.ireturn, 1) := by decide +kernel
theorem dX8_isFirst_60 : decode cX8_isFirst 60 = .ok (.iinc 5 1, 3) := by decide +kernel
theorem dX8_isFirst_63 : decode cX8_isFirst 63 = .ok (.goto (-60), 3) := by decide +kernel
theorem dX8_isFirst_66 : decode cX8_isFirst 66 = .ok (.iconst 1, 1) := by decide +kernel
theorem dX8_isFirst_67 : decode cX8_isFirst 67 = .ok (.ireturn, 1) := by decide +kernel
theorem dX8_find_0 : decode cX8_find 0 = .ok (.aload_n 0, 1) := by decide +kernel
theorem dX8_find_1 : decode cX8_find 1 = .ok (.iconst 0, 1) := by decide +kernel
theorem dX8_find_2 : decode cX8_find 2 = .ok (.putfield 93, 3) := by decide +kernel
theorem dX8_find_5 : decode cX8_find 5 = .ok (.aload_n 0, 1) := by decide +kernel
theorem dX8_find_6 : decode cX8_find 6 = .ok (.iconst 0, 1) := by decide +kernel
theorem dX8_find_7 : decode cX8_find 7 = .ok (.putfield 97, 3) := by decide +kernel
theorem dX8_find_10 : decode cX8_find 10 = .ok (.iload 5, 2) := by decide +kernel
theorem dX8_find_12 : decode cX8_find 12 = .ok (.ifCond .lt 9, 3) := by decide +kernel
theorem dX8_find_15 : decode cX8_find 15 = .ok (.iload 5, 2) := by decide +kernel
theorem dX8_find_17 : decode cX8_find 17 = .ok (.iconst 4, 1) := by decide +kernel
theorem dX8_find_18 : decode cX8_find 18 = .ok (.if_icmp .lt 9, 3) := by decide +kernel
theorem dX8_find_21 : decode cX8_find 21 = .ok (.aload_n 0, 1) := by decide +kernel
theorem dX8_find_22 : decode cX8_find 22 = .ok (.iconst 1, 1) := by decide +kernel
theorem dX8_find_23 : decode cX8_find 23 = .ok (.invokevirtual 121, 3) := by decide +kernel
theorem dX8_find_26 : decode cX8_find 26 = .ok (.ireturn, 1) := by decide +kernel
theorem dX8_find_27 : decode cX8_find 27 = .ok (.iload_n 1, 1) := by decide +kernel
theorem dX8_find_28 : decode cX8_find 28 = .ok (.invokestatic 127, 3) := by decide +kernel
theorem dX8_find_31 : decode cX8_find 31 = .ok (.ifCond .eq 10, 3) := by decide +kernel
theorem dX8_find_34 : decode cX8_find 34 = .ok (.iload_n 3, 1) := by decide +kernel
theorem dX8_find_35 : decode cX8_find 35 = .ok (.invokestatic 148, 3) := by decide +kernel
theorem dX8_find_38 : decode cX8_find 38 = .ok (.ifCond .ne 9, 3) := by decide +kernel
theorem dX8_find_41 : decode cX8_find 41 = .ok (.aload_n 0, 1) := by decide +kernel
theorem dX8_find_42 : decode cX8_find 42 = .ok (.iconst 2, 1) := by decide +kernel
theorem dX8_find_43 : decode cX8_find 43 = .ok (.invokevirtual 121, 3) := by decide +kernel
theorem dX8_find_46 : decode cX8_find 46 = .ok (.ireturn, 1) := by decide +kernel
theorem dX8_find_47 : decode cX8_find 47 = .ok (.aload_n 0, 1) := by decide +kernel
theorem dX8_find_48 : decode cX8_find 48 = .ok (.getfield 17, 3) := by decide +kernel
theorem dX8_find_51 : decode cX8_find 51 = .ok (.iload 5, 2) := by decide +kernel
theorem dX8_find_53 : decode cX8_find 53 = .ok (.iaload, 1) := by decide +kernel
theorem dX8_find_54 : decode cX8_find 54 = .ok (.ifCond .ge 9, 3) := by decide +kernel
theorem dX8_find_57 : decode cX8_find 57 = .ok (.aload_n 0, 1) := by decide +kernel
theorem dX8_find_58 : decode cX8_find 58 = .ok (.iconst 3, 1) := by decide +kernel
theorem dX8_find_59 : decode cX8_find 59 = .ok (.invokevirtual 121, 3) := by decide +kernel
theorem dX8_find_62 : decode cX8_find 62 = .ok (.ireturn, 1) := by decide +kernel
theorem dX8_find_63 : decode cX8_find 63 = .ok (.iload_n 2, 1) := by decide +kernel
theorem dX8_find_64 : decode cX8_find 64 = .ok (.ifCond .lt 18, 3) := by decide +kernel
theorem dX8_find_67 : decode cX8_find 67 = .ok (.iload_n 2, 1) := by decide +kernel
theorem dX8_find_68 : decode cX8_find 68 = .ok (.sipush 999, 3) := by decide +kernel
theorem dX8_find_71 : decode cX8_find 71 = .ok (.if_icmp .gt 11, 3) := by decide +kernel
theorem dX8_find_74 : decode cX8_find 74 = .ok (.iload 4, 2) := by decide +kernel
theorem dX8_find_76 : decode cX8_find 76 = .ok (.invokestatic 151, 3) := by decide +kernel
theorem dX8_find_79 : decode cX8_find 79 = .ok (.ifCond .ne 9, 3) := by decide +kernel
theorem dX8_find_82 : decode cX8_find 82 = .ok (.aload_n 0, 1) := by decide +kernel
theorem dX8_find_83 : decode cX8_find 83 = .ok (.iconst 5, 1) := by decide +kernel
theorem dX8_find_84 : decode cX8_find 84 = .ok (.invokevirtual 121, 3) := by decide +kernel
theorem dX8_find_87 : decode cX8_find 87 = .ok (.ireturn, 1) := by decide +kernel
theorem dX8_find_88 : decode cX8_find 88 = .ok (.iconst 0, 1) := by decide +kernel
theorem dX8_find_89 : decode cX8_find 89 = .ok (.istore 6, 2) := by decide +kernel
theorem dX8_find_91 : decode cX8_find 91 = .ok (.iconst 0, 1) := by decide +kernel
theorem dX8_find_92 : decode cX8_find 92 = .ok (.istore 7, 2) := by decide +kernel
theorem dX8_find_94 : decode cX8_find 94 = .ok (.iload 7, 2) := by decide +kernel
theorem dX8_find_96 : decode cX8_find 96 = .ok (.aload_n 0, 1) := by decide +kernel
theorem dX8_find_97 : decode cX8_find 97 = .ok (.getfield 118, 3) := by decide +kernel
theorem dX8_find_100 : decode cX8_find 100 = .ok (.if_icmp .ge 87, 3) := by decide +kernel
theorem dX8_find_103 : decode cX8_find 103 = .ok (.aload_n 0, 1) := by decide +kernel
theorem dX8_find_104 : decode cX8_find 104 = .ok (.getfield 24, 3) := by decide +kernel
theorem dX8_find_107 : decode cX8_find 107 = .ok (.iload 7, 2) := by decide +kernel
theorem dX8_find_109 : decode cX8_find 109 = .ok (.iaload, 1) := by decide +kernel
theorem dX8_find_110 : decode cX8_find 110 = .ok (.iconst 3, 1) := by decide +kernel
theorem dX8_find_111 : decode cX8_find 111 = .ok (.if_icmp .ne 70, 3) := by decide +kernel
theorem dX8_find_114 : decode cX8_find 114 = .ok (.aload_n 0, 1) := by decide +kernel
theorem dX8_find_115 : decode cX8_find 115 = .ok (.iload 7, 2) := by decide +kernel
theorem dX8_find_117 : decode cX8_find 117 = .ok (.iload_n 1, 1) := by decide +kernel
theorem dX8_find_118 : decode cX8_find 118 = .ok (.invokevirtual 130, 3) := by decide +kernel
theorem dX8_find_121 : decode cX8_find 121 = .ok (.iload_n 2, 1) := by decide +kernel
theorem dX8_find_122 : decode cX8_find 122 = .ok (.if_icmp .ne 59, 3) := by decide +kernel
theorem dX8_find_125 : decode cX8_find 125 = .ok (.aload_n 0, 1) := by decide +kernel
theorem dX8_find_126 : decode cX8_find 126 = .ok (.iload 7, 2) := by decide +kernel
theorem dX8_find_128 : decode cX8_find 128 = .ok (.iload_n 3, 1) := by decide +kernel
theorem dX8_find_129 : decode cX8_find 129 = .ok (.iload 4, 2) := by decide +kernel
theorem dX8_find_131 : decode cX8_find 131 = .ok (.invokevirtual 154, 3) := by decide +kernel
theorem dX8_find_134 : decode cX8_find 134 = .ok (.ifCond .ne 6, 3) := by decide +kernel
theorem dX8_find_137 : decode cX8_find 137 = .ok (.goto 44, 3) := by decide +kernel
theorem dX8_find_140 : decode cX8_find 140 = .ok (.iload 6, 2) := by decide +kernel
theorem dX8_find_142 : decode cX8_find 142 = .ok (.aload_n 0, 1) := by decide +kernel
theorem dX8_find_143 : decode cX8_find 143 = .ok (.getfield 17, 3) := by decide +kernel
theorem dX8_find_146 : decode cX8_find 146 = .ok (.iload 5, 2) := by decide +kernel
theorem dX8_find_148 : decode cX8_find 148 = .ok (.iaload, 1) := by decide +kernel
theorem dX8_find_149 : decode cX8_find 149 = .ok (.if_icmp .ge 29, 3) := by decide +kernel
theorem dX8_find_152 : decode cX8_find 152 = .ok (.aload_n 0, 1) := by decide +kernel
theorem dX8_find_153 : decode cX8_find 153 = .ok (.getfield 20, 3) := by decide +kernel
theorem dX8_find_156 : decode cX8_find 156 = .ok (.bipush 40, 2) := by decide +kernel
theorem dX8_find_158 : decode cX8_find 158 = .ok (.iload 5, 2) := by decide +kernel
theorem dX8_find_160 : decode cX8_find 160 = .ok (.imul, 1) := by decide +kernel
theorem dX8_find_161 : decode cX8_find 161 = .ok (.iload 6, 2) := by decide +kernel
theorem dX8_find_163 : decode cX8_find 163 = .ok (.iadd, 1) := by decide +kernel
theorem dX8_find_164 : decode cX8_find 164 = .ok (.aload_n 0, 1) := by decide +kernel
theorem dX8_find_165 : decode cX8_find 165 = .ok (.getfield 13, 3) := by decide +kernel
theorem dX8_find_168 : decode cX8_find 168 = .ok (.iload 5, 2) := by decide +kernel
theorem dX8_find_170 : decode cX8_find 170 = .ok (.iaload, 1) := by decide +kernel
theorem dX8_find_171 : decode cX8_find 171 = .ok (.iload 7, 2) := by decide +kernel
theorem dX8_find_173 : decode cX8_find 173 = .ok (.i2l, 1) := by decide +kernel
theorem dX8_find_174 : decode cX8_find 174 = .ok (.invokestatic 112, 3) := by decide +kernel
theorem dX8_find_177 : decode cX8_find 177 = .ok (.lastore, 1) := by decide +kernel
theorem dX8_find_178 : decode cX8_find 178 = .ok (.iinc 6 1, 3) := by decide +kernel
theorem dX8_find_181 : decode cX8_find 181 = .ok (.iinc 7 1, 3) := by decide +kernel
theorem dX8_find_184 : decode cX8_find 184 = .ok (.goto (-90), 3) := by decide +kernel
theorem dX8_find_187 : decode cX8_find 187 = .ok (.iload 6, 2) := by decide +kernel
theorem dX8_find_189 : decode cX8_find 189 = .ok (.ireturn, 1) := by decide +kernel
theorem dX8_mark_0 : decode cX8_mark 0 = .ok (.aload_n 0, 1) := by decide +kernel
theorem dX8_mark_1 : decode cX8_mark 1 = .ok (.iconst 0, 1) := by decide +kernel
theorem dX8_mark_2 : decode cX8_mark 2 = .ok (.putfield 93, 3) := by decide +kernel
theorem dX8_mark_5 : decode cX8_mark 5 = .ok (.aload_n 0, 1) := by decide +kernel
theorem dX8_mark_6 : decode cX8_mark 6 = .ok (.iconst 0, 1) := by decide +kernel
theorem dX8_mark_7 : decode cX8_mark 7 = .ok (.putfield 97, 3) := by decide +kernel
theorem dX8_mark_10 : decode cX8_mark 10 = .ok (.aload_n 0, 1) := by decide +kernel
theorem dX8_mark_11 : decode cX8_mark 11 = .ok (.iload_n 1, 1) := by decide +kernel
theorem dX8_mark_12 : decode cX8_mark 12 = .ok (.invokevirtual 124, 3) := by decide +kernel
theorem dX8_mark_15 : decode cX8_mark 15 = .ok (.ifCond .ne 9, 3) := by decide +kernel
theorem dX8_mark_18 : decode cX8_mark 18 = .ok (.aload_n 0, 1) := by decide +kernel
theorem dX8_mark_19 : decode cX8_mark 19 = .ok (.iconst 2, 1) := by decide +kernel
theorem dX8_mark_20 : decode cX8_mark 20 = .ok (.invokevirtual 100, 3) := by decide +kernel
theorem dX8_mark_23 : decode cX8_mark 23 = .ok (.ireturn, 1) := by decide +kernel
theorem dX8_mark_24 : decode cX8_mark 24 = .ok (.iload_n 2, 1) := by decide +kernel
theorem dX8_mark_25 : decode cX8_mark 25 = .ok (.iconst (-1), 1) := by decide +kernel
theorem dX8_mark_26 : decode cX8_mark 26 = .ok (.if_icmp .lt 10, 3) := by decide +kernel
theorem dX8_mark_29 : decode cX8_mark 29 = .ok (.iload_n 2, 1) := by decide +kernel
theorem dX8_mark_30 : decode cX8_mark 30 = .ok (.sipush 9999, 3) := by decide +kernel
theorem dX8_mark_33 : decode cX8_mark 33 = .ok (.if_icmp .le 9, 3) := by decide +kernel
theorem dX8_mark_36 : decode cX8_mark 36 = .ok (.aload_n 0, 1) := by decide +kernel
theorem dX8_mark_37 : decode cX8_mark 37 = .ok (.iconst 5, 1) := by decide +kernel
theorem dX8_mark_38 : decode cX8_mark 38 = .ok (.invokevirtual 100, 3) := by decide +kernel
theorem dX8_mark_41 : decode cX8_mark 41 = .ok (.ireturn, 1) := by decide +kernel
theorem dX8_mark_42 : decode cX8_mark 42 = .ok (.iconst 0, 1) := by decide +kernel
theorem dX8_mark_43 : decode cX8_mark 43 = .ok (.istore_n 3, 1) := by decide +kernel
theorem dX8_mark_44 : decode cX8_mark 44 = .ok (.iload_n 3, 1) := by decide +kernel
theorem dX8_mark_45 : decode cX8_mark 45 = .ok (.aload_n 0, 1) := by decide +kernel
theorem dX8_mark_46 : decode cX8_mark 46 = .ok (.getfield 118, 3) := by decide +kernel
theorem dX8_mark_49 : decode cX8_mark 49 = .ok (.if_icmp .ge 35, 3) := by decide +kernel
theorem dX8_mark_52 : decode cX8_mark 52 = .ok (.iload_n 2, 1) := by decide +kernel
theorem dX8_mark_53 : decode cX8_mark 53 = .ok (.ifCond .lt 25, 3) := by decide +kernel
theorem dX8_mark_56 : decode cX8_mark 56 = .ok (.iload_n 3, 1) := by decide +kernel
theorem dX8_mark_57 : decode cX8_mark 57 = .ok (.iload_n 1, 1) := by decide +kernel
theorem dX8_mark_58 : decode cX8_mark 58 = .ok (.if_icmp .eq 20, 3) := by decide +kernel
theorem dX8_mark_61 : decode cX8_mark 61 = .ok (.aload_n 0, 1) := by decide +kernel
theorem dX8_mark_62 : decode cX8_mark 62 = .ok (.getfield 51, 3) := by decide +kernel
theorem dX8_mark_65 : decode cX8_mark 65 = .ok (.iload_n 3, 1) := by decide +kernel
theorem dX8_mark_66 : decode cX8_mark 66 = .ok (.iaload, 1) := by decide +kernel
theorem dX8_mark_67 : decode cX8_mark 67 = .ok (.iload_n 2, 1) := by decide +kernel
theorem dX8_mark_68 : decode cX8_mark 68 = .ok (.if_icmp .ne 10, 3) := by decide +kernel
theorem dX8_mark_71 : decode cX8_mark 71 = .ok (.aload_n 0, 1) := by decide +kernel
theorem dX8_mark_72 : decode cX8_mark 72 = .ok (.bipush 10, 2) := by decide +kernel
theorem dX8_mark_74 : decode cX8_mark 74 = .ok (.invokevirtual 100, 3) := by decide +kernel
theorem dX8_mark_77 : decode cX8_mark 77 = .ok (.ireturn, 1) := by decide +kernel
theorem dX8_mark_78 : decode cX8_mark 78 = .ok (.iinc 3 1, 3) := by decide +kernel
theorem dX8_mark_81 : decode cX8_mark 81 = .ok (.goto (-37), 3) := by decide +kernel
theorem dX8_mark_84 : decode cX8_mark 84 = .ok (.aload_n 0, 1) := by decide +kernel
theorem dX8_mark_85 : decode cX8_mark 85 = .ok (.getfield 51, 3) := by decide +kernel
theorem dX8_mark_88 : decode cX8_mark 88 = .ok (.iload_n 1, 1) := by decide +kernel
theorem dX8_mark_89 : decode cX8_mark 89 = .ok (.iload_n 2, 1) := by decide +kernel
theorem dX8_mark_90 : decode cX8_mark 90 = .ok (.iastore, 1) := by decide +kernel
theorem dX8_mark_91 : decode cX8_mark 91 = .ok (.iconst 1, 1) := by decide +kernel
theorem dX8_mark_92 : decode cX8_mark 92 = .ok (.ireturn, 1) := by decide +kernel
theorem dX8_walk_0 : decode cX8_walk 0 = .ok (.aload_n 0, 1) := by decide +kernel
theorem dX8_walk_1 : decode cX8_walk 1 = .ok (.iconst 0, 1) := by decide +kernel
theorem dX8_walk_2 : decode cX8_walk 2 = .ok (.putfield 93, 3) := by decide +kernel
theorem dX8_walk_5 : decode cX8_walk 5 = .ok (.aload_n 0, 1) := by decide +kernel
theorem dX8_walk_6 : decode cX8_walk 6 = .ok (.iconst 0, 1) := by decide +kernel
theorem dX8_walk_7 : decode cX8_walk 7 = .ok (.putfield 97, 3) := by decide +kernel
theorem dX8_walk_10 : decode cX8_walk 10 = .ok (.iload_n 2, 1) := by decide +kernel
theorem dX8_walk_11 : decode cX8_walk 11 = .ok (.invokestatic 148, 3) := by decide +kernel
theorem dX8_walk_14 : decode cX8_walk 14 = .ok (.ifCond .ne 9, 3) := by decide +kernel
theorem dX8_walk_17 : decode cX8_walk 17 = .ok (.aload_n 0, 1) := by decide +kernel
theorem dX8_walk_18 : decode cX8_walk 18 = .ok (.iconst 2, 1) := by decide +kernel
theorem dX8_walk_19 : decode cX8_walk 19 = .ok (.invokevirtual 121, 3) := by decide +kernel
theorem dX8_walk_22 : decode cX8_walk 22 = .ok (.ireturn, 1) := by decide +kernel
theorem dX8_walk_23 : decode cX8_walk 23 = .ok (.iload_n 1, 1) := by decide +kernel
theorem dX8_walk_24 : decode cX8_walk 24 = .ok (.ifCond .lt 10, 3) := by decide +kernel
theorem dX8_walk_27 : decode cX8_walk 27 = .ok (.iload_n 3, 1) := by decide +kernel
theorem dX8_walk_28 : decode cX8_walk 28 = .ok (.invokestatic 151, 3) := by decide +kernel
theorem dX8_walk_31 : decode cX8_walk 31 = .ok (.ifCond .ne 9, 3) := by decide +kernel
theorem dX8_walk_34 : decode cX8_walk 34 = .ok (.aload_n 0, 1) := by decide +kernel
theorem dX8_walk_35 : decode cX8_walk 35 = .ok (.iconst 5, 1) := by decide +kernel
theorem dX8_walk_36 : decode cX8_walk 36 = .ok (.invokevirtual 121, 3) := by decide +kernel
theorem dX8_walk_39 : decode cX8_walk 39 = .ok (.ireturn, 1) := by decide +kernel
theorem dX8_walk_40 : decode cX8_walk 40 = .ok (.iconst (-1), 1) := by decide +kernel
theorem dX8_walk_41 : decode cX8_walk 41 = .ok (.istore 4, 2) := by decide +kernel
theorem dX8_walk_43 : decode cX8_walk 43 = .ok (.iconst 0, 1) := by decide +kernel
theorem dX8_walk_44 : decode cX8_walk 44 = .ok (.istore 5, 2) := by decide +kernel
theorem dX8_walk_46 : decode cX8_walk 46 = .ok (.iload 5, 2) := by decide +kernel
theorem dX8_walk_48 : decode cX8_walk 48 = .ok (.iload_n 1, 1) := by decide +kernel
theorem dX8_walk_49 : decode cX8_walk 49 = .ok (.if_icmp .gt 115, 3) := by decide +kernel
theorem dX8_walk_52 : decode cX8_walk 52 = .ok (.iconst (-1), 1) := by decide +kernel
theorem dX8_walk_53 : decode cX8_walk 53 = .ok (.istore 6, 2) := by decide +kernel
theorem dX8_walk_55 : decode cX8_walk 55 = .ok (.iconst 0, 1) := by decide +kernel
theorem dX8_walk_56 : decode cX8_walk 56 = .ok (.istore 7, 2) := by decide +kernel
theorem dX8_walk_58 : decode cX8_walk 58 = .ok (.iload 7, 2) := by decide +kernel
theorem dX8_walk_60 : decode cX8_walk 60 = .ok (.aload_n 0, 1) := by decide +kernel
theorem dX8_walk_61 : decode cX8_walk 61 = .ok (.getfield 118, 3) := by decide +kernel
theorem dX8_walk_64 : decode cX8_walk 64 = .ok (.if_icmp .ge 78, 3) := by decide +kernel
theorem dX8_walk_67 : decode cX8_walk 67 = .ok (.aload_n 0, 1) := by decide +kernel
theorem dX8_walk_68 : decode cX8_walk 68 = .ok (.getfield 51, 3) := by decide +kernel
theorem dX8_walk_71 : decode cX8_walk 71 = .ok (.iload 7, 2) := by decide +kernel
theorem dX8_walk_73 : decode cX8_walk 73 = .ok (.iaload, 1) := by decide +kernel
theorem dX8_walk_74 : decode cX8_walk 74 = .ok (.ifCond .lt 62, 3) := by decide +kernel
theorem dX8_walk_77 : decode cX8_walk 77 = .ok (.iload 4, 2) := by decide +kernel
theorem dX8_walk_79 : decode cX8_walk 79 = .ok (.ifCond .lt 20, 3) := by decide +kernel
theorem dX8_walk_82 : decode cX8_walk 82 = .ok (.aload_n 0, 1) := by decide +kernel
theorem dX8_walk_83 : decode cX8_walk 83 = .ok (.getfield 51, 3) := by decide +kernel
theorem dX8_walk_86 : decode cX8_walk 86 = .ok (.iload 7, 2) := by decide +kernel
theorem dX8_walk_88 : decode cX8_walk 88 = .ok (.iaload, 1) := by decide +kernel
theorem dX8_walk_89 : decode cX8_walk 89 = .ok (.aload_n 0, 1) := by decide +kernel
theorem dX8_walk_90 : decode cX8_walk 90 = .ok (.getfield 51, 3) := by decide +kernel
theorem dX8_walk_93 : decode cX8_walk 93 = .ok (.iload 4, 2) := by decide +kernel
theorem dX8_walk_95 : decode cX8_walk 95 = .ok (.iaload, 1) := by decide +kernel
theorem dX8_walk_96 : decode cX8_walk 96 = .ok (.if_icmp .le 40, 3) := by decide +kernel
theorem dX8_walk_99 : decode cX8_walk 99 = .ok (.iload 6, 2) := by decide +kernel
theorem dX8_walk_101 : decode cX8_walk 101 = .ok (.ifCond .lt 20, 3) := by decide +kernel
theorem dX8_walk_104 : decode cX8_walk 104 = .ok (.aload_n 0, 1) := by decide +kernel
theorem dX8_walk_105 : decode cX8_walk 105 = .ok (.getfield 51, 3) := by decide +kernel
theorem dX8_walk_108 : decode cX8_walk 108 = .ok (.iload 7, 2) := by decide +kernel
theorem dX8_walk_110 : decode cX8_walk 110 = .ok (.iaload, 1) := by decide +kernel
theorem dX8_walk_111 : decode cX8_walk 111 = .ok (.aload_n 0, 1) := by decide +kernel
theorem dX8_walk_112 : decode cX8_walk 112 = .ok (.getfield 51, 3) := by decide +kernel
theorem dX8_walk_115 : decode cX8_walk 115 = .ok (.iload 6, 2) := by decide +kernel
theorem dX8_walk_117 : decode cX8_walk 117 = .ok (.iaload, 1) := by decide +kernel
theorem dX8_walk_118 : decode cX8_walk 118 = .ok (.if_icmp .ge 18, 3) := by decide +kernel
theorem dX8_walk_121 : decode cX8_walk 121 = .ok (.aload_n 0, 1) := by decide +kernel
theorem dX8_walk_122 : decode cX8_walk 122 = .ok (.iload 7, 2) := by decide +kernel
theorem dX8_walk_124 : decode cX8_walk 124 = .ok (.iload_n 2, 1) := by decide +kernel
theorem dX8_walk_125 : decode cX8_walk 125 = .ok (.iload_n 3, 1) := by decide +kernel
theorem dX8_walk_126 : decode cX8_walk 126 = .ok (.invokevirtual 154, 3) := by decide +kernel
theorem dX8_walk_129 : decode cX8_walk 129 = .ok (.ifCond .eq 7, 3) := by decide +kernel
theorem dX8_walk_132 : decode cX8_walk 132 = .ok (.iload 7, 2) := by decide +kernel
theorem dX8_walk_134 : decode cX8_walk 134 = .ok (.istore 6, 2) := by decide +kernel
theorem dX8_walk_136 : decode cX8_walk 136 = .ok (.iinc 7 1, 3) := by decide +kernel
theorem dX8_walk_139 : decode cX8_walk 139 = .ok (.goto (-81), 3) := by decide +kernel
theorem dX8_walk_142 : decode cX8_walk 142 = .ok (.iload 6, 2) := by decide +kernel
theorem dX8_walk_144 : decode cX8_walk 144 = .ok (.ifCond .ge 10, 3) := by decide +kernel
theorem dX8_walk_147 : decode cX8_walk 147 = .ok (.aload_n 0, 1) := by decide +kernel
theorem dX8_walk_148 : decode cX8_walk 148 = .ok (.bipush 9, 2) := by decide +kernel
theorem dX8_walk_150 : decode cX8_walk 150 = .ok (.invokevirtual 121, 3) := by decide +kernel
theorem dX8_walk_153 : decode cX8_walk 153 = .ok (.ireturn, 1) := by decide +kernel
theorem dX8_walk_154 : decode cX8_walk 154 = .ok (.iload 6, 2) := by decide +kernel
theorem dX8_walk_156 : decode cX8_walk 156 = .ok (.istore 4, 2) := by decide +kernel
theorem dX8_walk_158 : decode cX8_walk 158 = .ok (.iinc 5 1, 3) := by decide +kernel
theorem dX8_walk_161 : decode cX8_walk 161 = .ok (.goto (-115), 3) := by decide +kernel
theorem dX8_walk_164 : decode cX8_walk 164 = .ok (.iload 4, 2) := by decide +kernel
theorem dX8_walk_166 : decode cX8_walk 166 = .ok (.ireturn, 1) := by decide +kernel
theorem dX8_lastTick_0 : decode cX8_lastTick 0 = .ok (.aload_n 0, 1) := by decide +kernel
theorem dX8_lastTick_1 : decode cX8_lastTick 1 = .ok (.getfield 166, 3) := by decide +kernel
theorem dX8_lastTick_4 : decode cX8_lastTick 4 = .ok (.ifCond .ne 7, 3) := by decide +kernel
theorem dX8_lastTick_7 : decode cX8_lastTick 7 = .ok (.iconst 0, 1) := by decide +kernel
theorem dX8_lastTick_8 : decode cX8_lastTick 8 = .ok (.goto 14, 3) := by decide +kernel
theorem dX8_lastTick_11 : decode cX8_lastTick 11 = .ok (.aload_n 0, 1) := by decide +kernel
theorem dX8_lastTick_12 : decode cX8_lastTick 12 = .ok (.getfield 72, 3) := by decide +kernel
theorem dX8_lastTick_15 : decode cX8_lastTick 15 = .ok (.aload_n 0, 1) := by decide +kernel
theorem dX8_lastTick_16 : decode cX8_lastTick 16 = .ok (.getfield 166, 3) := by decide +kernel
theorem dX8_lastTick_19 : decode cX8_lastTick 19 = .ok (.iconst 1, 1) := by decide +kernel
theorem dX8_lastTick_20 : decode cX8_lastTick 20 = .ok (.isub, 1) := by decide +kernel
theorem dX8_lastTick_21 : decode cX8_lastTick 21 = .ok (.iaload, 1) := by decide +kernel
theorem dX8_lastTick_22 : decode cX8_lastTick 22 = .ok (.ireturn, 1) := by decide +kernel
theorem dX8_latest_0 : decode cX8_latest 0 = .ok (.iconst (-1), 1) := by decide +kernel
theorem dX8_latest_1 : decode cX8_latest 1 = .ok (.istore_n 3, 1) := by decide +kernel
theorem dX8_latest_2 : decode cX8_latest 2 = .ok (.iconst 0, 1) := by decide +kernel
theorem dX8_latest_3 : decode cX8_latest 3 = .ok (.istore 4, 2) := by decide +kernel
theorem dX8_latest_5 : decode cX8_latest 5 = .ok (.iload 4, 2) := by decide +kernel
theorem dX8_latest_7 : decode cX8_latest 7 = .ok (.aload_n 0, 1) := by decide +kernel
theorem dX8_latest_8 : decode cX8_latest 8 = .ok (.getfield 166, 3) := by decide +kernel
theorem dX8_latest_11 : decode cX8_latest 11 = .ok (.if_icmp .ge 34, 3) := by decide +kernel
theorem dX8_latest_14 : decode cX8_latest 14 = .ok (.aload_n 0, 1) := by decide +kernel
theorem dX8_latest_15 : decode cX8_latest 15 = .ok (.getfield 66, 3) := by decide +kernel
theorem dX8_latest_18 : decode cX8_latest 18 = .ok (.iload 4, 2) := by decide +kernel
theorem dX8_latest_20 : decode cX8_latest 20 = .ok (.iaload, 1) := by decide +kernel
theorem dX8_latest_21 : decode cX8_latest 21 = .ok (.iload_n 1, 1) := by decide +kernel
theorem dX8_latest_22 : decode cX8_latest 22 = .ok (.if_icmp .ne 17, 3) := by decide +kernel
theorem dX8_latest_25 : decode cX8_latest 25 = .ok (.aload_n 0, 1) := by decide +kernel
theorem dX8_latest_26 : decode cX8_latest 26 = .ok (.getfield 72, 3) := by decide +kernel
theorem dX8_latest_29 : decode cX8_latest 29 = .ok (.iload 4, 2) := by decide +kernel
theorem dX8_latest_31 : decode cX8_latest 31 = .ok (.iaload, 1) := by decide +kernel
theorem dX8_latest_32 : decode cX8_latest 32 = .ok (.iload_n 2, 1) := by decide +kernel
theorem dX8_latest_33 : decode cX8_latest 33 = .ok (.if_icmp .gt 6, 3) := by decide +kernel
theorem dX8_latest_36 : decode cX8_latest 36 = .ok (.iload 4, 2) := by decide +kernel
theorem dX8_latest_38 : decode cX8_latest 38 = .ok (.istore_n 3, 1) := by decide +kernel
theorem dX8_latest_39 : decode cX8_latest 39 = .ok (.iinc 4 1, 3) := by decide +kernel
theorem dX8_latest_42 : decode cX8_latest 42 = .ok (.goto (-37), 3) := by decide +kernel
theorem dX8_latest_45 : decode cX8_latest 45 = .ok (.iload_n 3, 1) := by decide +kernel
theorem dX8_latest_46 : decode cX8_latest 46 = .ok (.ireturn, 1) := by decide +kernel
theorem dX8_isOut_0 : decode cX8_isOut 0 = .ok (.aload_n 0, 1) := by decide +kernel
theorem dX8_isOut_1 : decode cX8_isOut 1 = .ok (.iload_n 1, 1) := by decide +kernel
theorem dX8_isOut_2 : decode cX8_isOut 2 = .ok (.ldc 133, 2) := by decide +kernel
theorem dX8_isOut_4 : decode cX8_isOut 4 = .ok (.invokevirtual 169, 3) := by decide +kernel
theorem dX8_isOut_7 : decode cX8_isOut 7 = .ok (.istore_n 2, 1) := by decide +kernel
theorem dX8_isOut_8 : decode cX8_isOut 8 = .ok (.iload_n 2, 1) := by decide +kernel
theorem dX8_isOut_9 : decode cX8_isOut 9 = .ok (.ifCond .lt 16, 3) := by decide +kernel
theorem dX8_isOut_12 : decode cX8_isOut 12 = .ok (.aload_n 0, 1) := by decide +kernel
theorem dX8_isOut_13 : decode cX8_isOut 13 = .ok (.getfield 69, 3) := by decide +kernel
theorem dX8_isOut_16 : decode cX8_isOut 16 = .ok (.iload_n 2, 1) := by decide +kernel
theorem dX8_isOut_17 : decode cX8_isOut 17 = .ok (.iaload, 1) := by decide +kernel
theorem dX8_isOut_18 : decode cX8_isOut 18 = .ok (.ifCond .lt 7, 3) := by decide +kernel
theorem dX8_isOut_21 : decode cX8_isOut 21 = .ok (.iconst 1, 1) := by decide +kernel
theorem dX8_isOut_22 : decode cX8_isOut 22 = .ok (.goto 4, 3) := by decide +kernel
theorem dX8_isOut_25 : decode cX8_isOut 25 = .ok (.iconst 0, 1) := by decide +kernel
theorem dX8_isOut_26 : decode cX8_isOut 26 = .ok (.ireturn, 1) := by decide +kernel
theorem dX8_enter_0 : decode cX8_enter 0 = .ok (.aload_n 0, 1) := by decide +kernel
theorem dX8_enter_1 : decode cX8_enter 1 = .ok (.getfield 66, 3) := by decide +kernel
theorem dX8_enter_4 : decode cX8_enter 4 = .ok (.aload_n 0, 1) := by decide +kernel
theorem dX8_enter_5 : decode cX8_enter 5 = .ok (.getfield 166, 3) := by decide +kernel
theorem dX8_enter_8 : decode cX8_enter 8 = .ok (.iload_n 1, 1) := by decide +kernel
theorem dX8_enter_9 : decode cX8_enter 9 = .ok (.iastore, 1) := by decide +kernel
theorem dX8_enter_10 : decode cX8_enter 10 = .ok (.aload_n 0, 1) := by decide +kernel
theorem dX8_enter_11 : decode cX8_enter 11 = .ok (.getfield 69, 3) := by decide +kernel
theorem dX8_enter_14 : decode cX8_enter 14 = .ok (.aload_n 0, 1) := by decide +kernel
theorem dX8_enter_15 : decode cX8_enter 15 = .ok (.getfield 166, 3) := by decide +kernel
theorem dX8_enter_18 : decode cX8_enter 18 = .ok (.iload_n 2, 1) := by decide +kernel
theorem dX8_enter_19 : decode cX8_enter 19 = .ok (.iastore, 1) := by decide +kernel
theorem dX8_enter_20 : decode cX8_enter 20 = .ok (.aload_n 0, 1) := by decide +kernel
theorem dX8_enter_21 : decode cX8_enter 21 = .ok (.getfield 72, 3) := by decide +kernel
theorem dX8_enter_24 : decode cX8_enter 24 = .ok (.aload_n 0, 1) := by decide +kernel
theorem dX8_enter_25 : decode cX8_enter 25 = .ok (.getfield 166, 3) := by decide +kernel
theorem dX8_enter_28 : decode cX8_enter 28 = .ok (.iload_n 3, 1) := by decide +kernel
theorem dX8_enter_29 : decode cX8_enter 29 = .ok (.iastore, 1) := by decide +kernel
theorem dX8_enter_30 : decode cX8_enter 30 = .ok (.aload_n 0, 1) := by decide +kernel
theorem dX8_enter_31 : decode cX8_enter 31 = .ok (.dup, 1) := by decide +kernel
theorem dX8_enter_32 : decode cX8_enter 32 = .ok (.getfield 166, 3) := by decide +kernel
theorem dX8_enter_35 : decode cX8_enter 35 = .ok (.iconst 1, 1) := by decide +kernel
theorem dX8_enter_36 : decode cX8_enter 36 = .ok (.iadd, 1) := by decide +kernel
theorem dX8_enter_37 : decode cX8_enter 37 = .ok (.putfield 166, 3) := by decide +kernel
theorem dX8_enter_40 : decode cX8_enter 40 = .ok (.return_, 1) := by decide +kernel
theorem dX8_fetch_0 : decode cX8_fetch 0 = .ok (.aload_n 0, 1) := by decide +kernel
theorem dX8_fetch_1 : decode cX8_fetch 1 = .ok (.iconst 0, 1) := by decide +kernel
theorem dX8_fetch_2 : decode cX8_fetch 2 = .ok (.putfield 93, 3) := by decide +kernel
theorem dX8_fetch_5 : decode cX8_fetch 5 = .ok (.aload_n 0, 1) := by decide +kernel
theorem dX8_fetch_6 : decode cX8_fetch 6 = .ok (.iconst 0, 1) := by decide +kernel
theorem dX8_fetch_7 : decode cX8_fetch 7 = .ok (.putfield 97, 3) := by decide +kernel
theorem dX8_fetch_10 : decode cX8_fetch 10 = .ok (.aload_n 0, 1) := by decide +kernel
theorem dX8_fetch_11 : decode cX8_fetch 11 = .ok (.iload_n 1, 1) := by decide +kernel
theorem dX8_fetch_12 : decode cX8_fetch 12 = .ok (.invokevirtual 124, 3) := by decide +kernel
theorem dX8_fetch_15 : decode cX8_fetch 15 = .ok (.ifCond .eq 10, 3) := by decide +kernel
theorem dX8_fetch_18 : decode cX8_fetch 18 = .ok (.iload_n 2, 1) := by decide +kernel
theorem dX8_fetch_19 : decode cX8_fetch 19 = .ok (.invokestatic 148, 3) := by decide +kernel
theorem dX8_fetch_22 : decode cX8_fetch 22 = .ok (.ifCond .ne 9, 3) := by decide +kernel
theorem dX8_fetch_25 : decode cX8_fetch 25 = .ok (.aload_n 0, 1) := by decide +kernel
theorem dX8_fetch_26 : decode cX8_fetch 26 = .ok (.iconst 2, 1) := by decide +kernel
theorem dX8_fetch_27 : decode cX8_fetch 27 = .ok (.invokevirtual 100, 3) := by decide +kernel
theorem dX8_fetch_30 : decode cX8_fetch 30 = .ok (.ireturn, 1) := by decide +kernel
theorem dX8_fetch_31 : decode cX8_fetch 31 = .ok (.iload_n 3, 1) := by decide +kernel
theorem dX8_fetch_32 : decode cX8_fetch 32 = .ok (.aload_n 0, 1) := by decide +kernel
theorem dX8_fetch_33 : decode cX8_fetch 33 = .ok (.invokevirtual 172, 3) := by decide +kernel
theorem dX8_fetch_36 : decode cX8_fetch 36 = .ok (.if_icmp .lt 9, 3) := by decide +kernel
theorem dX8_fetch_39 : decode cX8_fetch 39 = .ok (.iload_n 3, 1) := by decide +kernel
theorem dX8_fetch_40 : decode cX8_fetch 40 = .ok (.ldc 133, 2) := by decide +kernel
theorem dX8_fetch_42 : decode cX8_fetch 42 = .ok (.if_icmp .le 9, 3) := by decide +kernel
theorem dX8_fetch_45 : decode cX8_fetch 45 = .ok (.aload_n 0, 1) := by decide +kernel
theorem dX8_fetch_46 : decode cX8_fetch 46 = .ok (.iconst 5, 1) := by decide +kernel
theorem dX8_fetch_47 : decode cX8_fetch 47 = .ok (.invokevirtual 100, 3) := by decide +kernel
theorem dX8_fetch_50 : decode cX8_fetch 50 = .ok (.ireturn, 1) := by decide +kernel
theorem dX8_fetch_51 : decode cX8_fetch 51 = .ok (.aload_n 0, 1) := by decide +kernel
theorem dX8_fetch_52 : decode cX8_fetch 52 = .ok (.getfield 166, 3) := by decide +kernel
theorem dX8_fetch_55 : decode cX8_fetch 55 = .ok (.sipush 200, 3) := by decide +kernel
theorem dX8_fetch_58 : decode cX8_fetch 58 = .ok (.if_icmp .ne 10, 3) := by decide +kernel
theorem dX8_fetch_61 : decode cX8_fetch 61 = .ok (.aload_n 0, 1) := by decide +kernel
theorem dX8_fetch_62 : decode cX8_fetch 62 = .ok (.bipush 7, 2) := by decide +kernel
theorem dX8_fetch_64 : decode cX8_fetch 64 = .ok (.invokevirtual 100, 3) := by decide +kernel
theorem dX8_fetch_67 : decode cX8_fetch 67 = .ok (.ireturn, 1) := by decide +kernel
theorem dX8_fetch_68 : decode cX8_fetch 68 = .ok (.aload_n 0, 1) := by decide +kernel
theorem dX8_fetch_69 : decode cX8_fetch 69 = .ok (.iload_n 1, 1) := by decide +kernel
theorem dX8_fetch_70 : decode cX8_fetch 70 = .ok (.invokevirtual 176, 3) := by decide +kernel
theorem dX8_fetch_73 : decode cX8_fetch 73 = .ok (.ifCond .eq 10, 3) := by decide +kernel
theorem dX8_fetch_76 : decode cX8_fetch 76 = .ok (.aload_n 0, 1) := by decide +kernel
theorem dX8_fetch_77 : decode cX8_fetch 77 = .ok (.bipush 10, 2) := by decide +kernel
theorem dX8_fetch_79 : decode cX8_fetch 79 = .ok (.invokevirtual 100, 3) := by decide +kernel
theorem dX8_fetch_82 : decode cX8_fetch 82 = .ok (.ireturn, 1) := by decide +kernel
theorem dX8_fetch_83 : decode cX8_fetch 83 = .ok (.aload_n 0, 1) := by decide +kernel
theorem dX8_fetch_84 : decode cX8_fetch 84 = .ok (.iload_n 1, 1) := by decide +kernel
theorem dX8_fetch_85 : decode cX8_fetch 85 = .ok (.iload_n 2, 1) := by decide +kernel
theorem dX8_fetch_86 : decode cX8_fetch 86 = .ok (.iload_n 3, 1) := by decide +kernel
theorem dX8_fetch_87 : decode cX8_fetch 87 = .ok (.invokevirtual 179, 3) := by decide +kernel
theorem dX8_fetch_90 : decode cX8_fetch 90 = .ok (.iconst 1, 1) := by decide +kernel
theorem dX8_fetch_91 : decode cX8_fetch 91 = .ok (.ireturn, 1) := by decide +kernel
theorem dX8_back_0 : decode cX8_back 0 = .ok (.aload_n 0, 1) := by decide +kernel
theorem dX8_back_1 : decode cX8_back 1 = .ok (.iconst 0, 1) := by decide +kernel
theorem dX8_back_2 : decode cX8_back 2 = .ok (.putfield 93, 3) := by decide +kernel
theorem dX8_back_5 : decode cX8_back 5 = .ok (.aload_n 0, 1) := by decide +kernel
theorem dX8_back_6 : decode cX8_back 6 = .ok (.iconst 0, 1) := by decide +kernel
theorem dX8_back_7 : decode cX8_back 7 = .ok (.putfield 97, 3) := by decide +kernel
theorem dX8_back_10 : decode cX8_back 10 = .ok (.aload_n 0, 1) := by decide +kernel
theorem dX8_back_11 : decode cX8_back 11 = .ok (.iload_n 1, 1) := by decide +kernel
theorem dX8_back_12 : decode cX8_back 12 = .ok (.invokevirtual 124, 3) := by decide +kernel
theorem dX8_back_15 : decode cX8_back 15 = .ok (.ifCond .ne 9, 3) := by decide +kernel
theorem dX8_back_18 : decode cX8_back 18 = .ok (.aload_n 0, 1) := by decide +kernel
theorem dX8_back_19 : decode cX8_back 19 = .ok (.iconst 2, 1) := by decide +kernel
theorem dX8_back_20 : decode cX8_back 20 = .ok (.invokevirtual 100, 3) := by decide +kernel
theorem dX8_back_23 : decode cX8_back 23 = .ok (.ireturn, 1) := by decide +kernel
theorem dX8_back_24 : decode cX8_back 24 = .ok (.iload_n 2, 1) := by decide +kernel
theorem dX8_back_25 : decode cX8_back 25 = .ok (.aload_n 0, 1) := by decide +kernel
theorem dX8_back_26 : decode cX8_back 26 = .ok (.invokevirtual 172, 3) := by decide +kernel
theorem dX8_back_29 : decode cX8_back 29 = .ok (.if_icmp .lt 9, 3) := by decide +kernel
theorem dX8_back_32 : decode cX8_back 32 = .ok (.iload_n 2, 1) := by decide +kernel
theorem dX8_back_33 : decode cX8_back 33 = .ok (.ldc 133, 2) := by decide +kernel
theorem dX8_back_35 : decode cX8_back 35 = .ok (.if_icmp .le 9, 3) := by decide +kernel
theorem dX8_back_38 : decode cX8_back 38 = .ok (.aload_n 0, 1) := by decide +kernel
theorem dX8_back_39 : decode cX8_back 39 = .ok (.iconst 5, 1) := by decide +kernel
theorem dX8_back_40 : decode cX8_back 40 = .ok (.invokevirtual 100, 3) := by decide +kernel
theorem dX8_back_43 : decode cX8_back 43 = .ok (.ireturn, 1) := by decide +kernel
theorem dX8_back_44 : decode cX8_back 44 = .ok (.aload_n 0, 1) := by decide +kernel
theorem dX8_back_45 : decode cX8_back 45 = .ok (.getfield 166, 3) := by decide +kernel
theorem dX8_back_48 : decode cX8_back 48 = .ok (.sipush 200, 3) := by decide +kernel
theorem dX8_back_51 : decode cX8_back 51 = .ok (.if_icmp .ne 10, 3) := by decide +kernel
theorem dX8_back_54 : decode cX8_back 54 = .ok (.aload_n 0, 1) := by decide +kernel
theorem dX8_back_55 : decode cX8_back 55 = .ok (.bipush 7, 2) := by decide +kernel
theorem dX8_back_57 : decode cX8_back 57 = .ok (.invokevirtual 100, 3) := by decide +kernel
theorem dX8_back_60 : decode cX8_back 60 = .ok (.ireturn, 1) := by decide +kernel
theorem dX8_back_61 : decode cX8_back 61 = .ok (.aload_n 0, 1) := by decide +kernel
theorem dX8_back_62 : decode cX8_back 62 = .ok (.iload_n 1, 1) := by decide +kernel
theorem dX8_back_63 : decode cX8_back 63 = .ok (.invokevirtual 176, 3) := by decide +kernel
theorem dX8_back_66 : decode cX8_back 66 = .ok (.ifCond .ne 10, 3) := by decide +kernel
theorem dX8_back_69 : decode cX8_back 69 = .ok (.aload_n 0, 1) := by decide +kernel
theorem dX8_back_70 : decode cX8_back 70 = .ok (.bipush 10, 2) := by decide +kernel
theorem dX8_back_72 : decode cX8_back 72 = .ok (.invokevirtual 100, 3) := by decide +kernel
theorem dX8_back_75 : decode cX8_back 75 = .ok (.ireturn, 1) := by decide +kernel
theorem dX8_back_76 : decode cX8_back 76 = .ok (.aload_n 0, 1) := by decide +kernel
theorem dX8_back_77 : decode cX8_back 77 = .ok (.iload_n 1, 1) := by decide +kernel
theorem dX8_back_78 : decode cX8_back 78 = .ok (.iconst (-1), 1) := by decide +kernel
theorem dX8_back_79 : decode cX8_back 79 = .ok (.iload_n 2, 1) := by decide +kernel
theorem dX8_back_80 : decode cX8_back 80 = .ok (.invokevirtual 179, 3) := by decide +kernel
theorem dX8_back_83 : decode cX8_back 83 = .ok (.iconst 1, 1) := by decide +kernel
theorem dX8_back_84 : decode cX8_back 84 = .ok (.ireturn, 1) := by decide +kernel
theorem dX8_where_0 : decode cX8_where 0 = .ok (.aload_n 0, 1) := by decide +kernel
theorem dX8_where_1 : decode cX8_where 1 = .ok (.iconst 0, 1) := by decide +kernel
theorem dX8_where_2 : decode cX8_where 2 = .ok (.putfield 93, 3) := by decide +kernel
theorem dX8_where_5 : decode cX8_where 5 = .ok (.aload_n 0, 1) := by decide +kernel
theorem dX8_where_6 : decode cX8_where 6 = .ok (.iconst 0, 1) := by decide +kernel
theorem dX8_where_7 : decode cX8_where 7 = .ok (.putfield 97, 3) := by decide +kernel
theorem dX8_where_10 : decode cX8_where 10 = .ok (.aload_n 0, 1) := by decide +kernel
theorem dX8_where_11 : decode cX8_where 11 = .ok (.iload_n 1, 1) := by decide +kernel
theorem dX8_where_12 : decode cX8_where 12 = .ok (.invokevirtual 124, 3) := by decide +kernel
theorem dX8_where_15 : decode cX8_where 15 = .ok (.ifCond .ne 9, 3) := by decide +kernel
theorem dX8_where_18 : decode cX8_where 18 = .ok (.aload_n 0, 1) := by decide +kernel
theorem dX8_where_19 : decode cX8_where 19 = .ok (.iconst 2, 1) := by decide +kernel
theorem dX8_where_20 : decode cX8_where 20 = .ok (.invokevirtual 121, 3) := by decide +kernel
theorem dX8_where_23 : decode cX8_where 23 = .ok (.ireturn, 1) := by decide +kernel
theorem dX8_where_24 : decode cX8_where 24 = .ok (.iload_n 2, 1) := by decide +kernel
theorem dX8_where_25 : decode cX8_where 25 = .ok (.ifCond .lt 9, 3) := by decide +kernel
theorem dX8_where_28 : decode cX8_where 28 = .ok (.iload_n 2, 1) := by decide +kernel
theorem dX8_where_29 : decode cX8_where 29 = .ok (.ldc 133, 2) := by decide +kernel
theorem dX8_where_31 : decode cX8_where 31 = .ok (.if_icmp .le 9, 3) := by decide +kernel
theorem dX8_where_34 : decode cX8_where 34 = .ok (.aload_n 0, 1) := by decide +kernel
theorem dX8_where_35 : decode cX8_where 35 = .ok (.iconst 5, 1) := by decide +kernel
theorem dX8_where_36 : decode cX8_where 36 = .ok (.invokevirtual 121, 3) := by decide +kernel
theorem dX8_where_39 : decode cX8_where 39 = .ok (.ireturn, 1) := by decide +kernel
theorem dX8_where_40 : decode cX8_where 40 = .ok (.iload_n 1, 1) := by decide +kernel
theorem dX8_where_41 : decode cX8_where 41 = .ok (.istore_n 3, 1) := by decide +kernel
theorem dX8_where_42 : decode cX8_where 42 = .ok (.iload_n 3, 1) := by decide +kernel
theorem dX8_where_43 : decode cX8_where 43 = .ok (.ifCond .lt 44, 3) := by decide +kernel
theorem dX8_where_46 : decode cX8_where 46 = .ok (.aload_n 0, 1) := by decide +kernel
theorem dX8_where_47 : decode cX8_where 47 = .ok (.iload_n 3, 1) := by decide +kernel
theorem dX8_where_48 : decode cX8_where 48 = .ok (.iload_n 2, 1) := by decide +kernel
theorem dX8_where_49 : decode cX8_where 49 = .ok (.invokevirtual 169, 3) := by decide +kernel
theorem dX8_where_52 : decode cX8_where 52 = .ok (.istore 4, 2) := by decide +kernel
theorem dX8_where_54 : decode cX8_where 54 = .ok (.iload 4, 2) := by decide +kernel
theorem dX8_where_56 : decode cX8_where 56 = .ok (.ifCond .lt 21, 3) := by decide +kernel
theorem dX8_where_59 : decode cX8_where 59 = .ok (.aload_n 0, 1) := by decide +kernel
theorem dX8_where_60 : decode cX8_where 60 = .ok (.getfield 69, 3) := by decide +kernel
theorem dX8_where_63 : decode cX8_where 63 = .ok (.iload 4, 2) := by decide +kernel
theorem dX8_where_65 : decode cX8_where 65 = .ok (.iaload, 1) := by decide +kernel
theorem dX8_where_66 : decode cX8_where 66 = .ok (.ifCond .lt 11, 3) := by decide +kernel
theorem dX8_where_69 : decode cX8_where 69 = .ok (.aload_n 0, 1) := by decide +kernel
theorem dX8_where_70 : decode cX8_where 70 = .ok (.getfield 69, 3) := by decide +kernel
theorem dX8_where_73 : decode cX8_where 73 = .ok (.iload 4, 2) := by decide +kernel
theorem dX8_where_75 : decode cX8_where 75 = .ok (.iaload, 1) := by decide +kernel
theorem dX8_where_76 : decode cX8_where 76 = .ok (.ireturn, 1) := by decide +kernel
theorem dX8_where_77 : decode cX8_where 77 = .ok (.aload_n 0, 1) := by decide +kernel
theorem dX8_where_78 : decode cX8_where 78 = .ok (.getfield 27, 3) := by decide +kernel
theorem dX8_where_81 : decode cX8_where 81 = .ok (.iload_n 3, 1) := by decide +kernel
theorem dX8_where_82 : decode cX8_where 82 = .ok (.iaload, 1) := by decide +kernel
theorem dX8_where_83 : decode cX8_where 83 = .ok (.istore_n 3, 1) := by decide +kernel
theorem dX8_where_84 : decode cX8_where 84 = .ok (.goto (-42), 3) := by decide +kernel
theorem dX8_where_87 : decode cX8_where 87 = .ok (.iconst (-1), 1) := by decide +kernel
theorem dX8_where_88 : decode cX8_where 88 = .ok (.ireturn, 1) := by decide +kernel
theorem dX8_boxed_0 : decode cX8_boxed 0 = .ok (.aload_n 0, 1) := by decide +kernel
theorem dX8_boxed_1 : decode cX8_boxed 1 = .ok (.iload_n 1, 1) := by decide +kernel
theorem dX8_boxed_2 : decode cX8_boxed 2 = .ok (.invokevirtual 124, 3) := by decide +kernel
theorem dX8_boxed_5 : decode cX8_boxed 5 = .ok (.ifCond .eq 14, 3) := by decide +kernel
theorem dX8_boxed_8 : decode cX8_boxed 8 = .ok (.iload_n 2, 1) := by decide +kernel
theorem dX8_boxed_9 : decode cX8_boxed 9 = .ok (.iconst (-1), 1) := by decide +kernel
theorem dX8_boxed_10 : decode cX8_boxed 10 = .ok (.if_icmp .lt 9, 3) := by decide +kernel
theorem dX8_boxed_13 : decode cX8_boxed 13 = .ok (.iload_n 2, 1) := by decide +kernel
theorem dX8_boxed_14 : decode cX8_boxed 14 = .ok (.bipush 40, 2) := by decide +kernel
theorem dX8_boxed_16 : decode cX8_boxed 16 = .ok (.if_icmp .lt 5, 3) := by decide +kernel
theorem dX8_boxed_19 : decode cX8_boxed 19 = .ok (.iconst 2, 1) := by decide +kernel
theorem dX8_boxed_20 : decode cX8_boxed 20 = .ok (.ireturn, 1) := by decide +kernel
theorem dX8_boxed_21 : decode cX8_boxed 21 = .ok (.aload_n 0, 1) := by decide +kernel
theorem dX8_boxed_22 : decode cX8_boxed 22 = .ok (.getfield 24, 3) := by decide +kernel
theorem dX8_boxed_25 : decode cX8_boxed 25 = .ok (.iload_n 1, 1) := by decide +kernel
theorem dX8_boxed_26 : decode cX8_boxed 26 = .ok (.iaload, 1) := by decide +kernel
theorem dX8_boxed_27 : decode cX8_boxed 27 = .ok (.iconst 1, 1) := by decide +kernel
theorem dX8_boxed_28 : decode cX8_boxed 28 = .ok (.if_icmp .ne 7, 3) := by decide +kernel
theorem dX8_boxed_31 : decode cX8_boxed 31 = .ok (.iconst 0, 1) := by decide +kernel
theorem dX8_boxed_32 : decode cX8_boxed 32 = .ok (.goto 5, 3) := by decide +kernel
theorem dX8_boxed_35 : decode cX8_boxed 35 = .ok (.bipush 8, 2) := by decide +kernel
theorem dX8_boxed_37 : decode cX8_boxed 37 = .ok (.ireturn, 1) := by decide +kernel
theorem dX8_stand_0 : decode cX8_stand 0 = .ok (.aload_n 0, 1) := by decide +kernel
theorem dX8_stand_1 : decode cX8_stand 1 = .ok (.iconst 0, 1) := by decide +kernel
theorem dX8_stand_2 : decode cX8_stand 2 = .ok (.putfield 93, 3) := by decide +kernel
theorem dX8_stand_5 : decode cX8_stand 5 = .ok (.aload_n 0, 1) := by decide +kernel
theorem dX8_stand_6 : decode cX8_stand 6 = .ok (.aload_n 0, 1) := by decide +kernel
theorem dX8_stand_7 : decode cX8_stand 7 = .ok (.iload_n 1, 1) := by decide +kernel
theorem dX8_stand_8 : decode cX8_stand 8 = .ok (.iload_n 2, 1) := by decide +kernel
theorem dX8_stand_9 : decode cX8_stand 9 = .ok (.invokevirtual 183, 3) := by decide +kernel
theorem dX8_stand_12 : decode cX8_stand 12 = .ok (.putfield 97, 3) := by decide +kernel
theorem dX8_stand_15 : decode cX8_stand 15 = .ok (.aload_n 0, 1) := by decide +kernel
theorem dX8_stand_16 : decode cX8_stand 16 = .ok (.getfield 97, 3) := by decide +kernel
theorem dX8_stand_19 : decode cX8_stand 19 = .ok (.ifCond .le 5, 3) := by decide +kernel
theorem dX8_stand_22 : decode cX8_stand 22 = .ok (.iconst 0, 1) := by decide +kernel
theorem dX8_stand_23 : decode cX8_stand 23 = .ok (.ireturn, 1) := by decide +kernel
theorem dX8_stand_24 : decode cX8_stand 24 = .ok (.iconst 0, 1) := by decide +kernel
theorem dX8_stand_25 : decode cX8_stand 25 = .ok (.istore_n 3, 1) := by decide +kernel
theorem dX8_stand_26 : decode cX8_stand 26 = .ok (.iload_n 3, 1) := by decide +kernel
theorem dX8_stand_27 : decode cX8_stand 27 = .ok (.aload_n 0, 1) := by decide +kernel
theorem dX8_stand_28 : decode cX8_stand 28 = .ok (.getfield 118, 3) := by decide +kernel
theorem dX8_stand_31 : decode cX8_stand 31 = .ok (.if_icmp .ge 35, 3) := by decide +kernel
theorem dX8_stand_34 : decode cX8_stand 34 = .ok (.iload_n 2, 1) := by decide +kernel
theorem dX8_stand_35 : decode cX8_stand 35 = .ok (.ifCond .lt 25, 3) := by decide +kernel
theorem dX8_stand_38 : decode cX8_stand 38 = .ok (.iload_n 3, 1) := by decide +kernel
theorem dX8_stand_39 : decode cX8_stand 39 = .ok (.iload_n 1, 1) := by decide +kernel
theorem dX8_stand_40 : decode cX8_stand 40 = .ok (.if_icmp .eq 20, 3) := by decide +kernel
theorem dX8_stand_43 : decode cX8_stand 43 = .ok (.aload_n 0, 1) := by decide +kernel
theorem dX8_stand_44 : decode cX8_stand 44 = .ok (.getfield 54, 3) := by decide +kernel
theorem dX8_stand_47 : decode cX8_stand 47 = .ok (.iload_n 3, 1) := by decide +kernel
theorem dX8_stand_48 : decode cX8_stand 48 = .ok (.iaload, 1) := by decide +kernel
theorem dX8_stand_49 : decode cX8_stand 49 = .ok (.iload_n 2, 1) := by decide +kernel
theorem dX8_stand_50 : decode cX8_stand 50 = .ok (.if_icmp .ne 10, 3) := by decide +kernel
theorem dX8_stand_53 : decode cX8_stand 53 = .ok (.aload_n 0, 1) := by decide +kernel
theorem dX8_stand_54 : decode cX8_stand 54 = .ok (.bipush 10, 2) := by decide +kernel
theorem dX8_stand_56 : decode cX8_stand 56 = .ok (.invokevirtual 100, 3) := by decide +kernel
theorem dX8_stand_59 : decode cX8_stand 59 = .ok (.ireturn, 1) := by decide +kernel
theorem dX8_stand_60 : decode cX8_stand 60 = .ok (.iinc 3 1, 3) := by decide +kernel
theorem dX8_stand_63 : decode cX8_stand 63 = .ok (.goto (-37), 3) := by decide +kernel
theorem dX8_stand_66 : decode cX8_stand 66 = .ok (.aload_n 0, 1) := by decide +kernel
theorem dX8_stand_67 : decode cX8_stand 67 = .ok (.getfield 54, 3) := by decide +kernel
theorem dX8_stand_70 : decode cX8_stand 70 = .ok (.iload_n 1, 1) := by decide +kernel
theorem dX8_stand_71 : decode cX8_stand 71 = .ok (.iload_n 2, 1) := by decide +kernel
theorem dX8_stand_72 : decode cX8_stand 72 = .ok (.iastore, 1) := by decide +kernel
theorem dX8_stand_73 : decode cX8_stand 73 = .ok (.iconst 1, 1) := by decide +kernel
theorem dX8_stand_74 : decode cX8_stand 74 = .ok (.ireturn, 1) := by decide +kernel
theorem dX8_goal_0 : decode cX8_goal 0 = .ok (.aload_n 0, 1) := by decide +kernel
theorem dX8_goal_1 : decode cX8_goal 1 = .ok (.iconst 0, 1) := by decide +kernel
theorem dX8_goal_2 : decode cX8_goal 2 = .ok (.putfield 93, 3) := by decide +kernel
theorem dX8_goal_5 : decode cX8_goal 5 = .ok (.aload_n 0, 1) := by decide +kernel
theorem dX8_goal_6 : decode cX8_goal 6 = .ok (.aload_n 0, 1) := by decide +kernel
theorem dX8_goal_7 : decode cX8_goal 7 = .ok (.iload_n 1, 1) := by decide +kernel
theorem dX8_goal_8 : decode cX8_goal 8 = .ok (.iload_n 2, 1) := by decide +kernel
theorem dX8_goal_9 : decode cX8_goal 9 = .ok (.invokevirtual 183, 3) := by decide +kernel
theorem dX8_goal_12 : decode cX8_goal 12 = .ok (.putfield 97, 3) := by decide +kernel
theorem dX8_goal_15 : decode cX8_goal 15 = .ok (.aload_n 0, 1) := by decide +kernel
theorem dX8_goal_16 : decode cX8_goal 16 = .ok (.getfield 97, 3) := by decide +kernel
theorem dX8_goal_19 : decode cX8_goal 19 = .ok (.ifCond .le 5, 3) := by decide +kernel
theorem dX8_goal_22 : decode cX8_goal 22 = .ok (.iconst 0, 1) := by decide +kernel
theorem dX8_goal_23 : decode cX8_goal 23 = .ok (.ireturn, 1) := by decide +kernel
theorem dX8_goal_24 : decode cX8_goal 24 = .ok (.iconst 0, 1) := by decide +kernel
theorem dX8_goal_25 : decode cX8_goal 25 = .ok (.istore_n 3, 1) := by decide +kernel
theorem dX8_goal_26 : decode cX8_goal 26 = .ok (.iload_n 3, 1) := by decide +kernel
theorem dX8_goal_27 : decode cX8_goal 27 = .ok (.aload_n 0, 1) := by decide +kernel
theorem dX8_goal_28 : decode cX8_goal 28 = .ok (.getfield 118, 3) := by decide +kernel
theorem dX8_goal_31 : decode cX8_goal 31 = .ok (.if_icmp .ge 35, 3) := by decide +kernel
theorem dX8_goal_34 : decode cX8_goal 34 = .ok (.iload_n 2, 1) := by decide +kernel
theorem dX8_goal_35 : decode cX8_goal 35 = .ok (.ifCond .lt 25, 3) := by decide +kernel
theorem dX8_goal_38 : decode cX8_goal 38 = .ok (.iload_n 3, 1) := by decide +kernel
theorem dX8_goal_39 : decode cX8_goal 39 = .ok (.iload_n 1, 1) := by decide +kernel
theorem dX8_goal_40 : decode cX8_goal 40 = .ok (.if_icmp .eq 20, 3) := by decide +kernel
theorem dX8_goal_43 : decode cX8_goal 43 = .ok (.aload_n 0, 1) := by decide +kernel
theorem dX8_goal_44 : decode cX8_goal 44 = .ok (.getfield 57, 3) := by decide +kernel
theorem dX8_goal_47 : decode cX8_goal 47 = .ok (.iload_n 3, 1) := by decide +kernel
theorem dX8_goal_48 : decode cX8_goal 48 = .ok (.iaload, 1) := by decide +kernel
theorem dX8_goal_49 : decode cX8_goal 49 = .ok (.iload_n 2, 1) := by decide +kernel
theorem dX8_goal_50 : decode cX8_goal 50 = .ok (.if_icmp .ne 10, 3) := by decide +kernel
theorem dX8_goal_53 : decode cX8_goal 53 = .ok (.aload_n 0, 1) := by decide +kernel
theorem dX8_goal_54 : decode cX8_goal 54 = .ok (.bipush 10, 2) := by decide +kernel
theorem dX8_goal_56 : decode cX8_goal 56 = .ok (.invokevirtual 100, 3) := by decide +kernel
theorem dX8_goal_59 : decode cX8_goal 59 = .ok (.ireturn, 1) := by decide +kernel
theorem dX8_goal_60 : decode cX8_goal 60 = .ok (.iinc 3 1, 3) := by decide +kernel
theorem dX8_goal_63 : decode cX8_goal 63 = .ok (.goto (-37), 3) := by decide +kernel
theorem dX8_goal_66 : decode cX8_goal 66 = .ok (.aload_n 0, 1) := by decide +kernel
theorem dX8_goal_67 : decode cX8_goal 67 = .ok (.getfield 57, 3) := by decide +kernel
theorem dX8_goal_70 : decode cX8_goal 70 = .ok (.iload_n 1, 1) := by decide +kernel
theorem dX8_goal_71 : decode cX8_goal 71 = .ok (.iload_n 2, 1) := by decide +kernel
theorem dX8_goal_72 : decode cX8_goal 72 = .ok (.iastore, 1) := by decide +kernel
theorem dX8_goal_73 : decode cX8_goal 73 = .ok (.iconst 1, 1) := by decide +kernel
theorem dX8_goal_74 : decode cX8_goal 74 = .ok (.ireturn, 1) := by decide +kernel
theorem dX8_isAway_0 : decode cX8_isAway 0 = .ok (.aload_n 0, 1) := by decide +kernel
theorem dX8_isAway_1 : decode cX8_isAway 1 = .ok (.getfield 78, 3) := by decide +kernel
theorem dX8_isAway_4 : decode cX8_isAway 4 = .ok (.iload_n 1, 1) := by decide +kernel
theorem dX8_isAway_5 : decode cX8_isAway 5 = .ok (.iaload, 1) := by decide +kernel
theorem dX8_isAway_6 : decode cX8_isAway 6 = .ok (.ifCond .lt 31, 3) := by decide +kernel
theorem dX8_isAway_9 : decode cX8_isAway 9 = .ok (.aload_n 0, 1) := by decide +kernel
theorem dX8_isAway_10 : decode cX8_isAway 10 = .ok (.getfield 57, 3) := by decide +kernel
theorem dX8_isAway_13 : decode cX8_isAway 13 = .ok (.iload_n 1, 1) := by decide +kernel
theorem dX8_isAway_14 : decode cX8_isAway 14 = .ok (.iaload, 1) := by decide +kernel
theorem dX8_isAway_15 : decode cX8_isAway 15 = .ok (.ifCond .lt 22, 3) := by decide +kernel
theorem dX8_isAway_18 : decode cX8_isAway 18 = .ok (.aload_n 0, 1) := by decide +kernel
theorem dX8_isAway_19 : decode cX8_isAway 19 = .ok (.getfield 78, 3) := by decide +kernel
theorem dX8_isAway_22 : decode cX8_isAway 22 = .ok (.iload_n 1, 1) := by decide +kernel
theorem dX8_isAway_23 : decode cX8_isAway 23 = .ok (.iaload, 1) := by decide +kernel
theorem dX8_isAway_24 : decode cX8_isAway 24 = .ok (.aload_n 0, 1) := by decide +kernel
theorem dX8_isAway_25 : decode cX8_isAway 25 = .ok (.getfield 57, 3) := by decide +kernel
theorem dX8_isAway_28 : decode cX8_isAway 28 = .ok (.iload_n 1, 1) := by decide +kernel
theorem dX8_isAway_29 : decode cX8_isAway 29 = .ok (.iaload, 1) := by decide +kernel
theorem dX8_isAway_30 : decode cX8_isAway 30 = .ok (.if_icmp .eq 7, 3) := by decide +kernel
theorem dX8_isAway_33 : decode cX8_isAway 33 = .ok (.iconst 1, 1) := by decide +kernel
theorem dX8_isAway_34 : decode cX8_isAway 34 = .ok (.goto 4, 3) := by decide +kernel
theorem dX8_isAway_37 : decode cX8_isAway 37 = .ok (.iconst 0, 1) := by decide +kernel
theorem dX8_isAway_38 : decode cX8_isAway 38 = .ok (.ireturn, 1) := by decide +kernel
theorem dX8_take_0 : decode cX8_take 0 = .ok (.aload_n 0, 1) := by decide +kernel
theorem dX8_take_1 : decode cX8_take 1 = .ok (.getfield 81, 3) := by decide +kernel
theorem dX8_take_4 : decode cX8_take 4 = .ok (.aload_n 0, 1) := by decide +kernel
theorem dX8_take_5 : decode cX8_take 5 = .ok (.getfield 186, 3) := by decide +kernel
theorem dX8_take_8 : decode cX8_take 8 = .ok (.iload_n 1, 1) := by decide +kernel
theorem dX8_take_9 : decode cX8_take 9 = .ok (.iastore, 1) := by decide +kernel
theorem dX8_take_10 : decode cX8_take 10 = .ok (.aload_n 0, 1) := by decide +kernel
theorem dX8_take_11 : decode cX8_take 11 = .ok (.getfield 84, 3) := by decide +kernel
theorem dX8_take_14 : decode cX8_take 14 = .ok (.aload_n 0, 1) := by decide +kernel
theorem dX8_take_15 : decode cX8_take 15 = .ok (.getfield 186, 3) := by decide +kernel
theorem dX8_take_18 : decode cX8_take 18 = .ok (.aload_n 0, 1) := by decide +kernel
theorem dX8_take_19 : decode cX8_take 19 = .ok (.getfield 78, 3) := by decide +kernel
theorem dX8_take_22 : decode cX8_take 22 = .ok (.iload_n 1, 1) := by decide +kernel
theorem dX8_take_23 : decode cX8_take 23 = .ok (.iaload, 1) := by decide +kernel
theorem dX8_take_24 : decode cX8_take 24 = .ok (.iastore, 1) := by decide +kernel
theorem dX8_take_25 : decode cX8_take 25 = .ok (.aload_n 0, 1) := by decide +kernel
theorem dX8_take_26 : decode cX8_take 26 = .ok (.getfield 87, 3) := by decide +kernel
theorem dX8_take_29 : decode cX8_take 29 = .ok (.aload_n 0, 1) := by decide +kernel
theorem dX8_take_30 : decode cX8_take 30 = .ok (.getfield 186, 3) := by decide +kernel
theorem dX8_take_33 : decode cX8_take 33 = .ok (.iload_n 2, 1) := by decide +kernel
theorem dX8_take_34 : decode cX8_take 34 = .ok (.iastore, 1) := by decide +kernel
theorem dX8_take_35 : decode cX8_take 35 = .ok (.aload_n 0, 1) := by decide +kernel
theorem dX8_take_36 : decode cX8_take 36 = .ok (.dup, 1) := by decide +kernel
theorem dX8_take_37 : decode cX8_take 37 = .ok (.getfield 186, 3) := by decide +kernel
theorem dX8_take_40 : decode cX8_take 40 = .ok (.iconst 1, 1) := by decide +kernel
theorem dX8_take_41 : decode cX8_take 41 = .ok (.iadd, 1) := by decide +kernel
theorem dX8_take_42 : decode cX8_take 42 = .ok (.putfield 186, 3) := by decide +kernel
theorem dX8_take_45 : decode cX8_take 45 = .ok (.aload_n 0, 1) := by decide +kernel
theorem dX8_take_46 : decode cX8_take 46 = .ok (.getfield 75, 3) := by decide +kernel
theorem dX8_take_49 : decode cX8_take 49 = .ok (.aload_n 0, 1) := by decide +kernel
theorem dX8_take_50 : decode cX8_take 50 = .ok (.getfield 78, 3) := by decide +kernel
theorem dX8_take_53 : decode cX8_take 53 = .ok (.iload_n 1, 1) := by decide +kernel
theorem dX8_take_54 : decode cX8_take 54 = .ok (.iaload, 1) := by decide +kernel
theorem dX8_take_55 : decode cX8_take 55 = .ok (.iconst (-1), 1) := by decide +kernel
theorem dX8_take_56 : decode cX8_take 56 = .ok (.iastore, 1) := by decide +kernel
theorem dX8_take_57 : decode cX8_take 57 = .ok (.aload_n 0, 1) := by decide +kernel
theorem dX8_take_58 : decode cX8_take 58 = .ok (.getfield 75, 3) := by decide +kernel
theorem dX8_take_61 : decode cX8_take 61 = .ok (.iload_n 2, 1) := by decide +kernel
theorem dX8_take_62 : decode cX8_take 62 = .ok (.iload_n 1, 1) := by decide +kernel
theorem dX8_take_63 : decode cX8_take 63 = .ok (.iastore, 1) := by decide +kernel
theorem dX8_take_64 : decode cX8_take 64 = .ok (.aload_n 0, 1) := by decide +kernel
theorem dX8_take_65 : decode cX8_take 65 = .ok (.getfield 78, 3) := by decide +kernel
theorem dX8_take_68 : decode cX8_take 68 = .ok (.iload_n 1, 1) := by decide +kernel
theorem dX8_take_69 : decode cX8_take 69 = .ok (.iload_n 2, 1) := by decide +kernel
theorem dX8_take_70 : decode cX8_take 70 = .ok (.iastore, 1) := by decide +kernel
theorem dX8_take_71 : decode cX8_take 71 = .ok (.return_, 1) := by decide +kernel
theorem dX8_plans_0 : decode cX8_plans 0 = .ok (.aload_n 0, 1) := by decide +kernel
theorem dX8_plans_1 : decode cX8_plans 1 = .ok (.iconst 0, 1) := by decide +kernel
theorem dX8_plans_2 : decode cX8_plans 2 = .ok (.putfield 186, 3) := by decide +kernel
theorem dX8_plans_5 : decode cX8_plans 5 = .ok (.iconst 0, 1) := by decide +kernel
theorem dX8_plans_6 : decode cX8_plans 6 = .ok (.istore_n 1, 1) := by decide +kernel
theorem dX8_plans_7 : decode cX8_plans 7 = .ok (.iload_n 1, 1) := by decide +kernel
theorem dX8_plans_8 : decode cX8_plans 8 = .ok (.bipush 40, 2) := by decide +kernel
theorem dX8_plans_10 : decode cX8_plans 10 = .ok (.if_icmp .ge 16, 3) := by decide +kernel
theorem dX8_plans_13 : decode cX8_plans 13 = .ok (.aload_n 0, 1) := by decide +kernel
theorem dX8_plans_14 : decode cX8_plans 14 = .ok (.getfield 75, 3) := by decide +kernel
theorem dX8_plans_17 : decode cX8_plans 17 = .ok (.iload_n 1, 1) := by decide +kernel
theorem dX8_plans_18 : decode cX8_plans 18 = .ok (.iconst (-1), 1) := by decide +kernel
theorem dX8_plans_19 : decode cX8_plans 19 = .ok (.iastore, 1) := by decide +kernel
theorem dX8_plans_20 : decode cX8_plans 20 = .ok (.iinc 1 1, 3) := by decide +kernel
theorem dX8_plans_23 : decode cX8_plans 23 = .ok (.goto (-16), 3) := by decide +kernel
theorem dX8_plans_26 : decode cX8_plans 26 = .ok (.iconst 0, 1) := by decide +kernel
theorem dX8_plans_27 : decode cX8_plans 27 = .ok (.istore_n 1, 1) := by decide +kernel
theorem dX8_plans_28 : decode cX8_plans 28 = .ok (.iload_n 1, 1) := by decide +kernel
theorem dX8_plans_29 : decode cX8_plans 29 = .ok (.aload_n 0, 1) := by decide +kernel
theorem dX8_plans_30 : decode cX8_plans 30 = .ok (.getfield 118, 3) := by decide +kernel
theorem dX8_plans_33 : decode cX8_plans 33 = .ok (.if_icmp .ge 42, 3) := by decide +kernel
theorem dX8_plans_36 : decode cX8_plans 36 = .ok (.aload_n 0, 1) := by decide +kernel
theorem dX8_plans_37 : decode cX8_plans 37 = .ok (.getfield 78, 3) := by decide +kernel
theorem dX8_plans_40 : decode cX8_plans 40 = .ok (.iload_n 1, 1) := by decide +kernel
theorem dX8_plans_41 : decode cX8_plans 41 = .ok (.aload_n 0, 1) := by decide +kernel
theorem dX8_plans_42 : decode cX8_plans 42 = .ok (.getfield 54, 3) := by decide +kernel
theorem dX8_plans_45 : decode cX8_plans 45 = .ok (.iload_n 1, 1) := by decide +kernel
theorem dX8_plans_46 : decode cX8_plans 46 = .ok (.iaload, 1) := by decide +kernel
theorem dX8_plans_47 : decode cX8_plans 47 = .ok (.iastore, 1) := by decide +kernel
theorem dX8_plans_48 : decode cX8_plans 48 = .ok (.aload_n 0, 1) := by decide +kernel
theorem dX8_plans_49 : decode cX8_plans 49 = .ok (.getfield 54, 3) := by decide +kernel
theorem dX8_plans_52 : decode cX8_plans 52 = .ok (.iload_n 1, 1) := by decide +kernel
theorem dX8_plans_53 : decode cX8_plans 53 = .ok (.iaload, 1) := by decide +kernel
theorem dX8_plans_54 : decode cX8_plans 54 = .ok (.ifCond .lt 15, 3) := by decide +kernel
theorem dX8_plans_57 : decode cX8_plans 57 = .ok (.aload_n 0, 1) := by decide +kernel
theorem dX8_plans_58 : decode cX8_plans 58 = .ok (.getfield 75, 3) := by decide +kernel
theorem dX8_plans_61 : decode cX8_plans 61 = .ok (.aload_n 0, 1) := by decide +kernel
theorem dX8_plans_62 : decode cX8_plans 62 = .ok (.getfield 54, 3) := by decide +kernel
theorem dX8_plans_65 : decode cX8_plans 65 = .ok (.iload_n 1, 1) := by decide +kernel
theorem dX8_plans_66 : decode cX8_plans 66 = .ok (.iaload, 1) := by decide +kernel
theorem dX8_plans_67 : decode cX8_plans 67 = .ok (.iload_n 1, 1) := by decide +kernel
theorem dX8_plans_68 : decode cX8_plans 68 = .ok (.iastore, 1) := by decide +kernel
theorem dX8_plans_69 : decode cX8_plans 69 = .ok (.iinc 1 1, 3) := by decide +kernel
theorem dX8_plans_72 : decode cX8_plans 72 = .ok (.goto (-44), 3) := by decide +kernel
theorem dX8_plans_75 : decode cX8_plans 75 = .ok (.iconst 0, 1) := by decide +kernel
theorem dX8_plans_76 : decode cX8_plans 76 = .ok (.istore_n 1, 1) := by decide +kernel
theorem dX8_plans_77 : decode cX8_plans 77 = .ok (.iconst 0, 1) := by decide +kernel
theorem dX8_plans_78 : decode cX8_plans 78 = .ok (.istore_n 2, 1) := by decide +kernel
theorem dX8_plans_79 : decode cX8_plans 79 = .ok (.iload_n 2, 1) := by decide +kernel
theorem dX8_plans_80 : decode cX8_plans 80 = .ok (.aload_n 0, 1) := by decide +kernel
theorem dX8_plans_81 : decode cX8_plans 81 = .ok (.getfield 118, 3) := by decide +kernel
theorem dX8_plans_84 : decode cX8_plans 84 = .ok (.if_icmp .ge 73, 3) := by decide +kernel
theorem dX8_plans_87 : decode cX8_plans 87 = .ok (.aload_n 0, 1) := by decide +kernel
theorem dX8_plans_88 : decode cX8_plans 88 = .ok (.getfield 78, 3) := by decide +kernel
theorem dX8_plans_91 : decode cX8_plans 91 = .ok (.iload_n 2, 1) := by decide +kernel
theorem dX8_plans_92 : decode cX8_plans 92 = .ok (.iaload, 1) := by decide +kernel
theorem dX8_plans_93 : decode cX8_plans 93 = .ok (.ifCond .lt 58, 3) := by decide +kernel
theorem dX8_plans_96 : decode cX8_plans 96 = .ok (.aload_n 0, 1) := by decide +kernel
theorem dX8_plans_97 : decode cX8_plans 97 = .ok (.getfield 57, 3) := by decide +kernel
theorem dX8_plans_100 : decode cX8_plans 100 = .ok (.iload_n 2, 1) := by decide +kernel
theorem dX8_plans_101 : decode cX8_plans 101 = .ok (.iaload, 1) := by decide +kernel
theorem dX8_plans_102 : decode cX8_plans 102 = .ok (.ifCond .ge 6, 3) := by decide +kernel
theorem dX8_plans_105 : decode cX8_plans 105 = .ok (.goto 46, 3) := by decide +kernel
theorem dX8_plans_108 : decode cX8_plans 108 = .ok (.aload_n 0, 1) := by decide +kernel
theorem dX8_plans_109 : decode cX8_plans 109 = .ok (.getfield 75, 3) := by decide +kernel
theorem dX8_plans_112 : decode cX8_plans 112 = .ok (.aload_n 0, 1) := by decide +kernel
theorem dX8_plans_113 : decode cX8_plans 113 = .ok (.getfield 57, 3) := by decide +kernel
theorem dX8_plans_116 : decode cX8_plans 116 = .ok (.iload_n 2, 1) := by decide +kernel
theorem dX8_plans_117 : decode cX8_plans 117 = .ok (.iaload, 1) := by decide +kernel
theorem dX8_plans_118 : decode cX8_plans 118 = .ok (.iaload, 1) := by decide +kernel
theorem dX8_plans_119 : decode cX8_plans 119 = .ok (.istore_n 3, 1) := by decide +kernel
theorem dX8_plans_120 : decode cX8_plans 120 = .ok (.iload_n 3, 1) := by decide +kernel
theorem dX8_plans_121 : decode cX8_plans 121 = .ok (.ifCond .lt 14, 3) := by decide +kernel
theorem dX8_plans_124 : decode cX8_plans 124 = .ok (.aload_n 0, 1) := by decide +kernel
theorem dX8_plans_125 : decode cX8_plans 125 = .ok (.getfield 57, 3) := by decide +kernel
theorem dX8_plans_128 : decode cX8_plans 128 = .ok (.iload_n 3, 1) := by decide +kernel
theorem dX8_plans_129 : decode cX8_plans 129 = .ok (.iaload, 1) := by decide +kernel
theorem dX8_plans_130 : decode cX8_plans 130 = .ok (.ifCond .ge 5, 3) := by decide +kernel
theorem dX8_plans_133 : decode cX8_plans 133 = .ok (.iconst 0, 1) := by decide +kernel
theorem dX8_plans_134 : decode cX8_plans 134 = .ok (.ireturn, 1) := by decide +kernel
theorem dX8_plans_135 : decode cX8_plans 135 = .ok (.iload_n 1, 1) := by decide +kernel
theorem dX8_plans_136 : decode cX8_plans 136 = .ok (.aload_n 0, 1) := by decide +kernel
theorem dX8_plans_137 : decode cX8_plans 137 = .ok (.iload_n 2, 1) := by decide +kernel
theorem dX8_plans_138 : decode cX8_plans 138 = .ok (.invokevirtual 189, 3) := by decide +kernel
theorem dX8_plans_141 : decode cX8_plans 141 = .ok (.ifCond .eq 7, 3) := by decide +kernel
theorem dX8_plans_144 : decode cX8_plans 144 = .ok (.iconst 1, 1) := by decide +kernel
theorem dX8_plans_145 : decode cX8_plans 145 = .ok (.goto 4, 3) := by decide +kernel
theorem dX8_plans_148 : decode cX8_plans 148 = .ok (.iconst 0, 1) := by decide +kernel
theorem dX8_plans_149 : decode cX8_plans 149 = .ok (.iadd, 1) := by decide +kernel
theorem dX8_plans_150 : decode cX8_plans 150 = .ok (.istore_n 1, 1) := by decide +kernel
theorem dX8_plans_151 : decode cX8_plans 151 = .ok (.iinc 2 1, 3) := by decide +kernel
theorem dX8_plans_154 : decode cX8_plans 154 = .ok (.goto (-75), 3) := by decide +kernel
theorem dX8_plans_157 : decode cX8_plans 157 = .ok (.iload_n 1, 1) := by decide +kernel
theorem dX8_plans_158 : decode cX8_plans 158 = .ok (.ifCond .le 125, 3) := by decide +kernel
theorem dX8_plans_161 : decode cX8_plans 161 = .ok (.iconst (-1), 1) := by decide +kernel
theorem dX8_plans_162 : decode cX8_plans 162 = .ok (.istore_n 2, 1) := by decide +kernel
theorem dX8_plans_163 : decode cX8_plans 163 = .ok (.iconst (-1), 1) := by decide +kernel
theorem dX8_plans_164 : decode cX8_plans 164 = .ok (.istore_n 3, 1) := by decide +kernel
theorem dX8_plans_165 : decode cX8_plans 165 = .ok (.aload_n 0, 1) := by decide +kernel
theorem dX8_plans_166 : decode cX8_plans 166 = .ok (.getfield 118, 3) := by decide +kernel
theorem dX8_plans_169 : decode cX8_plans 169 = .ok (.iconst 1, 1) := by decide +kernel
theorem dX8_plans_170 : decode cX8_plans 170 = .ok (.isub, 1) := by decide +kernel
theorem dX8_plans_171 : decode cX8_plans 171 = .ok (.istore 4, 2) := by decide +kernel
theorem dX8_plans_173 : decode cX8_plans 173 = .ok (.iload 4, 2) := by decide +kernel
theorem dX8_plans_175 : decode cX8_plans 175 = .ok (.ifCond .lt 42, 3) := by decide +kernel
theorem dX8_plans_178 : decode cX8_plans 178 = .ok (.aload_n 0, 1) := by decide +kernel
theorem dX8_plans_179 : decode cX8_plans 179 = .ok (.iload 4, 2) := by decide +kernel
theorem dX8_plans_181 : decode cX8_plans 181 = .ok (.invokevirtual 189, 3) := by decide +kernel
theorem dX8_plans_184 : decode cX8_plans 184 = .ok (.ifCond .ne 6, 3) := by decide +kernel
theorem dX8_plans_187 : decode cX8_plans 187 = .ok (.goto 24, 3) := by decide +kernel
theorem dX8_plans_190 : decode cX8_plans 190 = .ok (.iload 4, 2) := by decide +kernel
theorem dX8_plans_192 : decode cX8_plans 192 = .ok (.istore_n 3, 1) := by decide +kernel
theorem dX8_plans_193 : decode cX8_plans 193 = .ok (.aload_n 0, 1) := by decide +kernel
theorem dX8_plans_194 : decode cX8_plans 194 = .ok (.getfield 75, 3) := by decide +kernel
theorem dX8_plans_197 : decode cX8_plans 197 = .ok (.aload_n 0, 1) := by decide +kernel
theorem dX8_plans_198 : decode cX8_plans 198 = .ok (.getfield 57, 3) := by decide +kernel
theorem dX8_plans_201 : decode cX8_plans 201 = .ok (.iload 4, 2) := by decide +kernel
theorem dX8_plans_203 : decode cX8_plans 203 = .ok (.iaload, 1) := by decide +kernel
theorem dX8_plans_204 : decode cX8_plans 204 = .ok (.iaload, 1) := by decide +kernel
theorem dX8_plans_205 : decode cX8_plans 205 = .ok (.ifCond .ge 6, 3) := by decide +kernel
theorem dX8_plans_208 : decode cX8_plans 208 = .ok (.iload 4, 2) := by decide +kernel
theorem dX8_plans_210 : decode cX8_plans 210 = .ok (.istore_n 2, 1) := by decide +kernel
theorem dX8_plans_211 : decode cX8_plans 211 = .ok (.iinc 4 (-1), 3) := by decide +kernel
theorem dX8_plans_214 : decode cX8_plans 214 = .ok (.goto (-41), 3) := by decide +kernel
theorem dX8_plans_217 : decode cX8_plans 217 = .ok (.iload_n 2, 1) := by decide +kernel
theorem dX8_plans_218 : decode cX8_plans 218 = .ok (.ifCond .lt 20, 3) := by decide +kernel
theorem dX8_plans_221 : decode cX8_plans 221 = .ok (.aload_n 0, 1) := by decide +kernel
theorem dX8_plans_222 : decode cX8_plans 222 = .ok (.iload_n 2, 1) := by decide +kernel
theorem dX8_plans_223 : decode cX8_plans 223 = .ok (.aload_n 0, 1) := by decide +kernel
theorem dX8_plans_224 : decode cX8_plans 224 = .ok (.getfield 57, 3) := by decide +kernel
theorem dX8_plans_227 : decode cX8_plans 227 = .ok (.iload_n 2, 1) := by decide +kernel
theorem dX8_plans_228 : decode cX8_plans 228 = .ok (.iaload, 1) := by decide +kernel
theorem dX8_plans_229 : decode cX8_plans 229 = .ok (.invokevirtual 192, 3) := by decide +kernel
theorem dX8_plans_232 : decode cX8_plans 232 = .ok (.iinc 1 (-1), 3) := by decide +kernel
theorem dX8_plans_235 : decode cX8_plans 235 = .ok (.goto 45, 3) := by decide +kernel
theorem dX8_plans_238 : decode cX8_plans 238 = .ok (.iconst 0, 1) := by decide +kernel
theorem dX8_plans_239 : decode cX8_plans 239 = .ok (.istore 4, 2) := by decide +kernel
theorem dX8_plans_241 : decode cX8_plans 241 = .ok (.iload 4, 2) := by decide +kernel
theorem dX8_plans_243 : decode cX8_plans 243 = .ok (.bipush 40, 2) := by decide +kernel
theorem dX8_plans_245 : decode cX8_plans 245 = .ok (.if_icmp .ge 19, 3) := by decide +kernel
theorem dX8_plans_248 : decode cX8_plans 248 = .ok (.aload_n 0, 1) := by decide +kernel
theorem dX8_plans_249 : decode cX8_plans 249 = .ok (.getfield 75, 3) := by decide +kernel
theorem dX8_plans_252 : decode cX8_plans 252 = .ok (.iload 4, 2) := by decide +kernel
theorem dX8_plans_254 : decode cX8_plans 254 = .ok (.iaload, 1) := by decide +kernel
theorem dX8_plans_255 : decode cX8_plans 255 = .ok (.ifCond .lt 9, 3) := by decide +kernel
theorem dX8_plans_258 : decode cX8_plans 258 = .ok (.iinc 4 1, 3) := by decide +kernel
theorem dX8_plans_261 : decode cX8_plans 261 = .ok (.goto (-20), 3) := by decide +kernel
theorem dX8_plans_264 : decode cX8_plans 264 = .ok (.iload 4, 2) := by decide +kernel
theorem dX8_plans_266 : decode cX8_plans 266 = .ok (.bipush 40, 2) := by decide +kernel
theorem dX8_plans_268 : decode cX8_plans 268 = .ok (.if_icmp .ne 5, 3) := by decide +kernel
theorem dX8_plans_271 : decode cX8_plans 271 = .ok (.iconst 0, 1) := by decide +kernel
theorem dX8_plans_272 : decode cX8_plans 272 = .ok (.ireturn, 1) := by decide +kernel
theorem dX8_plans_273 : decode cX8_plans 273 = .ok (.aload_n 0, 1) := by decide +kernel
theorem dX8_plans_274 : decode cX8_plans 274 = .ok (.iload_n 3, 1) := by decide +kernel
theorem dX8_plans_275 : decode cX8_plans 275 = .ok (.iload 4, 2) := by decide +kernel
theorem dX8_plans_277 : decode cX8_plans 277 = .ok (.invokevirtual 192, 3) := by decide +kernel
theorem dX8_plans_280 : decode cX8_plans 280 = .ok (.goto (-123), 3) := by decide +kernel
theorem dX8_plans_283 : decode cX8_plans 283 = .ok (.iconst 1, 1) := by decide +kernel
theorem dX8_plans_284 : decode cX8_plans 284 = .ok (.ireturn, 1) := by decide +kernel
theorem dX8_plan_0 : decode cX8_plan 0 = .ok (.aload_n 0, 1) := by decide +kernel
theorem dX8_plan_1 : decode cX8_plan 1 = .ok (.iconst 0, 1) := by decide +kernel
theorem dX8_plan_2 : decode cX8_plan 2 = .ok (.putfield 93, 3) := by decide +kernel
theorem dX8_plan_5 : decode cX8_plan 5 = .ok (.aload_n 0, 1) := by decide +kernel
theorem dX8_plan_6 : decode cX8_plan 6 = .ok (.iconst 0, 1) := by decide +kernel
theorem dX8_plan_7 : decode cX8_plan 7 = .ok (.putfield 97, 3) := by decide +kernel
theorem dX8_plan_10 : decode cX8_plan 10 = .ok (.aload_n 0, 1) := by decide +kernel
theorem dX8_plan_11 : decode cX8_plan 11 = .ok (.invokevirtual 196, 3) := by decide +kernel
theorem dX8_plan_14 : decode cX8_plan 14 = .ok (.ifCond .eq 10, 3) := by decide +kernel
theorem dX8_plan_17 : decode cX8_plan 17 = .ok (.aload_n 0, 1) := by decide +kernel
theorem dX8_plan_18 : decode cX8_plan 18 = .ok (.getfield 186, 3) := by decide +kernel
theorem dX8_plan_21 : decode cX8_plan 21 = .ok (.goto 9, 3) := by decide +kernel
theorem dX8_plan_24 : decode cX8_plan 24 = .ok (.aload_n 0, 1) := by decide +kernel
theorem dX8_plan_25 : decode cX8_plan 25 = .ok (.bipush 12, 2) := by decide +kernel
theorem dX8_plan_27 : decode cX8_plan 27 = .ok (.invokevirtual 121, 3) := by decide +kernel
theorem dX8_plan_30 : decode cX8_plan 30 = .ok (.ireturn, 1) := by decide +kernel
theorem dX8_carry_0 : decode cX8_carry 0 = .ok (.aload_n 0, 1) := by decide +kernel
theorem dX8_carry_1 : decode cX8_carry 1 = .ok (.iconst 0, 1) := by decide +kernel
theorem dX8_carry_2 : decode cX8_carry 2 = .ok (.putfield 93, 3) := by decide +kernel
theorem dX8_carry_5 : decode cX8_carry 5 = .ok (.aload_n 0, 1) := by decide +kernel
theorem dX8_carry_6 : decode cX8_carry 6 = .ok (.iconst 0, 1) := by decide +kernel
theorem dX8_carry_7 : decode cX8_carry 7 = .ok (.putfield 97, 3) := by decide +kernel
theorem dX8_carry_10 : decode cX8_carry 10 = .ok (.aload_n 0, 1) := by decide +kernel
theorem dX8_carry_11 : decode cX8_carry 11 = .ok (.invokevirtual 196, 3) := by decide +kernel
theorem dX8_carry_14 : decode cX8_carry 14 = .ok (.ifCond .ne 10, 3) := by decide +kernel
theorem dX8_carry_17 : decode cX8_carry 17 = .ok (.aload_n 0, 1) := by decide +kernel
theorem dX8_carry_18 : decode cX8_carry 18 = .ok (.bipush 12, 2) := by decide +kernel
theorem dX8_carry_20 : decode cX8_carry 20 = .ok (.invokevirtual 121, 3) := by decide +kernel
theorem dX8_carry_23 : decode cX8_carry 23 = .ok (.ireturn, 1) := by decide +kernel
theorem dX8_carry_24 : decode cX8_carry 24 = .ok (.iload_n 1, 1) := by decide +kernel
theorem dX8_carry_25 : decode cX8_carry 25 = .ok (.ifCond .lt 11, 3) := by decide +kernel
theorem dX8_carry_28 : decode cX8_carry 28 = .ok (.iload_n 1, 1) := by decide +kernel
theorem dX8_carry_29 : decode cX8_carry 29 = .ok (.aload_n 0, 1) := by decide +kernel
theorem dX8_carry_30 : decode cX8_carry 30 = .ok (.getfield 186, 3) := by decide +kernel
theorem dX8_carry_33 : decode cX8_carry 33 = .ok (.if_icmp .lt 10, 3) := by decide +kernel
theorem dX8_carry_36 : decode cX8_carry 36 = .ok (.aload_n 0, 1) := by decide +kernel
theorem dX8_carry_37 : decode cX8_carry 37 = .ok (.bipush 9, 2) := by decide +kernel
theorem dX8_carry_39 : decode cX8_carry 39 = .ok (.invokevirtual 121, 3) := by decide +kernel
theorem dX8_carry_42 : decode cX8_carry 42 = .ok (.ireturn, 1) := by decide +kernel
theorem dX8_carry_43 : decode cX8_carry 43 = .ok (.iload_n 2, 1) := by decide +kernel
theorem dX8_carry_44 : decode cX8_carry 44 = .ok (.tableswitch 49 0 2 #[28, 35, 42], 28) := by decide +kernel
theorem dX8_carry_72 : decode cX8_carry 72 = .ok (.aload_n 0, 1) := by decide +kernel
theorem dX8_carry_73 : decode cX8_carry 73 = .ok (.getfield 81, 3) := by decide +kernel
theorem dX8_carry_76 : decode cX8_carry 76 = .ok (.iload_n 1, 1) := by decide +kernel
theorem dX8_carry_77 : decode cX8_carry 77 = .ok (.iaload, 1) := by decide +kernel
theorem dX8_carry_78 : decode cX8_carry 78 = .ok (.ireturn, 1) := by decide +kernel
theorem dX8_carry_79 : decode cX8_carry 79 = .ok (.aload_n 0, 1) := by decide +kernel
theorem dX8_carry_80 : decode cX8_carry 80 = .ok (.getfield 84, 3) := by decide +kernel
theorem dX8_carry_83 : decode cX8_carry 83 = .ok (.iload_n 1, 1) := by decide +kernel
theorem dX8_carry_84 : decode cX8_carry 84 = .ok (.iaload, 1) := by decide +kernel
theorem dX8_carry_85 : decode cX8_carry 85 = .ok (.ireturn, 1) := by decide +kernel
theorem dX8_carry_86 : decode cX8_carry 86 = .ok (.aload_n 0, 1) := by decide +kernel
theorem dX8_carry_87 : decode cX8_carry 87 = .ok (.getfield 87, 3) := by decide +kernel
theorem dX8_carry_90 : decode cX8_carry 90 = .ok (.iload_n 1, 1) := by decide +kernel
theorem dX8_carry_91 : decode cX8_carry 91 = .ok (.iaload, 1) := by decide +kernel
theorem dX8_carry_92 : decode cX8_carry 92 = .ok (.ireturn, 1) := by decide +kernel
theorem dX8_carry_93 : decode cX8_carry 93 = .ok (.aload_n 0, 1) := by decide +kernel
theorem dX8_carry_94 : decode cX8_carry 94 = .ok (.iconst 5, 1) := by decide +kernel
theorem dX8_carry_95 : decode cX8_carry 95 = .ok (.invokevirtual 121, 3) := by decide +kernel
theorem dX8_carry_98 : decode cX8_carry 98 = .ok (.ireturn, 1) := by decide +kernel
theorem dX8_carried_0 : decode cX8_carried 0 = .ok (.aload_n 0, 1) := by decide +kernel
theorem dX8_carried_1 : decode cX8_carried 1 = .ok (.iconst 0, 1) := by decide +kernel
theorem dX8_carried_2 : decode cX8_carried 2 = .ok (.putfield 93, 3) := by decide +kernel
theorem dX8_carried_5 : decode cX8_carried 5 = .ok (.aload_n 0, 1) := by decide +kernel
theorem dX8_carried_6 : decode cX8_carried 6 = .ok (.iconst 0, 1) := by decide +kernel
theorem dX8_carried_7 : decode cX8_carried 7 = .ok (.putfield 97, 3) := by decide +kernel
theorem dX8_carried_10 : decode cX8_carried 10 = .ok (.aload_n 0, 1) := by decide +kernel
theorem dX8_carried_11 : decode cX8_carried 11 = .ok (.invokevirtual 196, 3) := by decide +kernel
theorem dX8_carried_14 : decode cX8_carried 14 = .ok (.ifCond .ne 10, 3) := by decide +kernel
theorem dX8_carried_17 : decode cX8_carried 17 = .ok (.aload_n 0, 1) := by decide +kernel
theorem dX8_carried_18 : decode cX8_carried 18 = .ok (.bipush 12, 2) := by decide +kernel
theorem dX8_carried_20 : decode cX8_carried 20 = .ok (.invokevirtual 100, 3) := by decide +kernel
theorem dX8_carried_23 : decode cX8_carried 23 = .ok (.ireturn, 1) := by decide +kernel
theorem dX8_carried_24 : decode cX8_carried 24 = .ok (.iconst 0, 1) := by decide +kernel
theorem dX8_carried_25 : decode cX8_carried 25 = .ok (.istore_n 1, 1) := by decide +kernel
theorem dX8_carried_26 : decode cX8_carried 26 = .ok (.iload_n 1, 1) := by decide +kernel
theorem dX8_carried_27 : decode cX8_carried 27 = .ok (.aload_n 0, 1) := by decide +kernel
theorem dX8_carried_28 : decode cX8_carried 28 = .ok (.getfield 118, 3) := by decide +kernel
theorem dX8_carried_31 : decode cX8_carried 31 = .ok (.if_icmp .ge 21, 3) := by decide +kernel
theorem dX8_carried_34 : decode cX8_carried 34 = .ok (.aload_n 0, 1) := by decide +kernel
theorem dX8_carried_35 : decode cX8_carried 35 = .ok (.getfield 54, 3) := by decide +kernel
theorem dX8_carried_38 : decode cX8_carried 38 = .ok (.iload_n 1, 1) := by decide +kernel
theorem dX8_carried_39 : decode cX8_carried 39 = .ok (.aload_n 0, 1) := by decide +kernel
theorem dX8_carried_40 : decode cX8_carried 40 = .ok (.getfield 78, 3) := by decide +kernel
theorem dX8_carried_43 : decode cX8_carried 43 = .ok (.iload_n 1, 1) := by decide +kernel
theorem dX8_carried_44 : decode cX8_carried 44 = .ok (.iaload, 1) := by decide +kernel
theorem dX8_carried_45 : decode cX8_carried 45 = .ok (.iastore, 1) := by decide +kernel
theorem dX8_carried_46 : decode cX8_carried 46 = .ok (.iinc 1 1, 3) := by decide +kernel
theorem dX8_carried_49 : decode cX8_carried 49 = .ok (.goto (-23), 3) := by decide +kernel
theorem dX8_carried_52 : decode cX8_carried 52 = .ok (.iconst 1, 1) := by decide +kernel
theorem dX8_carried_53 : decode cX8_carried 53 = .ok (.ireturn, 1) := by decide +kernel
theorem dX8_weightOf_0 : decode cX8_weightOf 0 = .ok (.aload_n 0, 1) := by decide +kernel
theorem dX8_weightOf_1 : decode cX8_weightOf 1 = .ok (.getfield 20, 3) := by decide +kernel
theorem dX8_weightOf_4 : decode cX8_weightOf 4 = .ok (.bipush 40, 2) := by decide +kernel
theorem dX8_weightOf_6 : decode cX8_weightOf 6 = .ok (.iload_n 1, 1) := by decide +kernel
theorem dX8_weightOf_7 : decode cX8_weightOf 7 = .ok (.imul, 1) := by decide +kernel
theorem dX8_weightOf_8 : decode cX8_weightOf 8 = .ok (.iconst 2, 1) := by decide +kernel
theorem dX8_weightOf_9 : decode cX8_weightOf 9 = .ok (.iload_n 2, 1) := by decide +kernel
theorem dX8_weightOf_10 : decode cX8_weightOf 10 = .ok (.imul, 1) := by decide +kernel
theorem dX8_weightOf_11 : decode cX8_weightOf 11 = .ok (.iadd, 1) := by decide +kernel
theorem dX8_weightOf_12 : decode cX8_weightOf 12 = .ok (.laload, 1) := by decide +kernel
theorem dX8_weightOf_13 : decode cX8_weightOf 13 = .ok (.lreturn, 1) := by decide +kernel
theorem dX8_costOf_0 : decode cX8_costOf 0 = .ok (.aload_n 0, 1) := by decide +kernel
theorem dX8_costOf_1 : decode cX8_costOf 1 = .ok (.getfield 20, 3) := by decide +kernel
theorem dX8_costOf_4 : decode cX8_costOf 4 = .ok (.bipush 40, 2) := by decide +kernel
theorem dX8_costOf_6 : decode cX8_costOf 6 = .ok (.iload_n 1, 1) := by decide +kernel
theorem dX8_costOf_7 : decode cX8_costOf 7 = .ok (.imul, 1) := by decide +kernel
theorem dX8_costOf_8 : decode cX8_costOf 8 = .ok (.iconst 2, 1) := by decide +kernel
theorem dX8_costOf_9 : decode cX8_costOf 9 = .ok (.iload_n 2, 1) := by decide +kernel
theorem dX8_costOf_10 : decode cX8_costOf 10 = .ok (.imul, 1) := by decide +kernel
theorem dX8_costOf_11 : decode cX8_costOf 11 = .ok (.iadd, 1) := by decide +kernel
theorem dX8_costOf_12 : decode cX8_costOf 12 = .ok (.iconst 1, 1) := by decide +kernel
theorem dX8_costOf_13 : decode cX8_costOf 13 = .ok (.iadd, 1) := by decide +kernel
theorem dX8_costOf_14 : decode cX8_costOf 14 = .ok (.laload, 1) := by decide +kernel
theorem dX8_costOf_15 : decode cX8_costOf 15 = .ok (.lreturn, 1) := by decide +kernel
theorem dX8_search_0 : decode cX8_search 0 = .ok (.aload_n 0, 1) := by decide +kernel
theorem dX8_search_1 : decode cX8_search 1 = .ok (.iconst 0, 1) := by decide +kernel
theorem dX8_search_2 : decode cX8_search 2 = .ok (.putfield 93, 3) := by decide +kernel
theorem dX8_search_5 : decode cX8_search 5 = .ok (.aload_n 0, 1) := by decide +kernel
theorem dX8_search_6 : decode cX8_search 6 = .ok (.aload_n 0, 1) := by decide +kernel
theorem dX8_search_7 : decode cX8_search 7 = .ok (.iload_n 1, 1) := by decide +kernel
theorem dX8_search_8 : decode cX8_search 8 = .ok (.invokevirtual 104, 3) := by decide +kernel
theorem dX8_search_11 : decode cX8_search 11 = .ok (.putfield 97, 3) := by decide +kernel
theorem dX8_search_14 : decode cX8_search 14 = .ok (.aload_n 0, 1) := by decide +kernel
theorem dX8_search_15 : decode cX8_search 15 = .ok (.getfield 97, 3) := by decide +kernel
theorem dX8_search_18 : decode cX8_search 18 = .ok (.ifCond .le 5, 3) := by decide +kernel
theorem dX8_search_21 : decode cX8_search 21 = .ok (.iconst (-1), 1) := by decide +kernel
theorem dX8_search_22 : decode cX8_search 22 = .ok (.ireturn, 1) := by decide +kernel
theorem dX8_search_23 : decode cX8_search 23 = .ok (.iload_n 2, 1) := by decide +kernel
theorem dX8_search_24 : decode cX8_search 24 = .ok (.iconst 1, 1) := by decide +kernel
theorem dX8_search_25 : decode cX8_search 25 = .ok (.if_icmp .lt 9, 3) := by decide +kernel
theorem dX8_search_28 : decode cX8_search 28 = .ok (.iload_n 2, 1) := by decide +kernel
theorem dX8_search_29 : decode cX8_search 29 = .ok (.bipush 20, 2) := by decide +kernel
theorem dX8_search_31 : decode cX8_search 31 = .ok (.if_icmp .le 9, 3) := by decide +kernel
theorem dX8_search_34 : decode cX8_search 34 = .ok (.aload_n 0, 1) := by decide +kernel
theorem dX8_search_35 : decode cX8_search 35 = .ok (.iconst 5, 1) := by decide +kernel
theorem dX8_search_36 : decode cX8_search 36 = .ok (.invokevirtual 121, 3) := by decide +kernel
theorem dX8_search_39 : decode cX8_search 39 = .ok (.ireturn, 1) := by decide +kernel
theorem dX8_search_40 : decode cX8_search 40 = .ok (.iconst 2, 1) := by decide +kernel
theorem dX8_search_41 : decode cX8_search 41 = .ok (.iload_n 2, 1) := by decide +kernel
theorem dX8_search_42 : decode cX8_search 42 = .ok (.imul, 1) := by decide +kernel
theorem dX8_search_43 : decode cX8_search 43 = .ok (.aload_n 0, 1) := by decide +kernel
theorem dX8_search_44 : decode cX8_search 44 = .ok (.getfield 17, 3) := by decide +kernel
theorem dX8_search_47 : decode cX8_search 47 = .ok (.iload_n 1, 1) := by decide +kernel
theorem dX8_search_48 : decode cX8_search 48 = .ok (.iaload, 1) := by decide +kernel
theorem dX8_search_49 : decode cX8_search 49 = .ok (.if_icmp .le 9, 3) := by decide +kernel
theorem dX8_search_52 : decode cX8_search 52 = .ok (.aload_n 0, 1) := by decide +kernel
theorem dX8_search_53 : decode cX8_search 53 = .ok (.iconst 4, 1) := by decide +kernel
theorem dX8_search_54 : decode cX8_search 54 = .ok (.invokevirtual 121, 3) := by decide +kernel
theorem dX8_search_57 : decode cX8_search 57 = .ok (.ireturn, 1) := by decide +kernel
theorem dX8_search_58 : decode cX8_search 58 = .ok (.iconst 0, 1) := by decide +kernel
theorem dX8_search_59 : decode cX8_search 59 = .ok (.istore 4, 2) := by decide +kernel
theorem dX8_search_61 : decode cX8_search 61 = .ok (.iload 4, 2) := by decide +kernel
theorem dX8_search_63 : decode cX8_search 63 = .ok (.iconst 2, 1) := by decide +kernel
theorem dX8_search_64 : decode cX8_search 64 = .ok (.iload_n 2, 1) := by decide +kernel
theorem dX8_search_65 : decode cX8_search 65 = .ok (.imul, 1) := by decide +kernel
theorem dX8_search_66 : decode cX8_search 66 = .ok (.if_icmp .ge 51, 3) := by decide +kernel
theorem dX8_search_69 : decode cX8_search 69 = .ok (.aload_n 0, 1) := by decide +kernel
theorem dX8_search_70 : decode cX8_search 70 = .ok (.getfield 20, 3) := by decide +kernel
theorem dX8_search_73 : decode cX8_search 73 = .ok (.bipush 40, 2) := by decide +kernel
theorem dX8_search_75 : decode cX8_search 75 = .ok (.iload_n 1, 1) := by decide +kernel
theorem dX8_search_76 : decode cX8_search 76 = .ok (.imul, 1) := by decide +kernel
theorem dX8_search_77 : decode cX8_search 77 = .ok (.iload 4, 2) := by decide +kernel
theorem dX8_search_79 : decode cX8_search 79 = .ok (.iadd, 1) := by decide +kernel
theorem dX8_search_80 : decode cX8_search 80 = .ok (.laload, 1) := by decide +kernel
theorem dX8_search_81 : decode cX8_search 81 = .ok (.lconst 1, 1) := by decide +kernel
theorem dX8_search_82 : decode cX8_search 82 = .ok (.lcmp, 1) := by decide +kernel
theorem dX8_search_83 : decode cX8_search 83 = .ok (.ifCond .lt 22, 3) := by decide +kernel
theorem dX8_search_86 : decode cX8_search 86 = .ok (.aload_n 0, 1) := by decide +kernel
theorem dX8_search_87 : decode cX8_search 87 = .ok (.getfield 20, 3) := by decide +kernel
theorem dX8_search_90 : decode cX8_search 90 = .ok (.bipush 40, 2) := by decide +kernel
theorem dX8_search_92 : decode cX8_search 92 = .ok (.iload_n 1, 1) := by decide +kernel
theorem dX8_search_93 : decode cX8_search 93 = .ok (.imul, 1) := by decide +kernel
theorem dX8_search_94 : decode cX8_search 94 = .ok (.iload 4, 2) := by decide +kernel
theorem dX8_search_96 : decode cX8_search 96 = .ok (.iadd, 1) := by decide +kernel
theorem dX8_search_97 : decode cX8_search 97 = .ok (.laload, 1) := by decide +kernel
theorem dX8_search_98 : decode cX8_search 98 = .ok (.ldc2_w 200, 3) := by decide +kernel
theorem dX8_search_101 : decode cX8_search 101 = .ok (.lcmp, 1) := by decide +kernel
theorem dX8_search_102 : decode cX8_search 102 = .ok (.ifCond .le 9, 3) := by decide +kernel
theorem dX8_search_105 : decode cX8_search 105 = .ok (.aload_n 0, 1) := by decide +kernel
theorem dX8_search_106 : decode cX8_search 106 = .ok (.iconst 5, 1) := by decide +kernel
theorem dX8_search_107 : decode cX8_search 107 = .ok (.invokevirtual 121, 3) := by decide +kernel
theorem dX8_search_110 : decode cX8_search 110 = .ok (.ireturn, 1) := by decide +kernel
theorem dX8_search_111 : decode cX8_search 111 = .ok (.iinc 4 1, 3) := by decide +kernel
theorem dX8_search_114 : decode cX8_search 114 = .ok (.goto (-53), 3) := by decide +kernel
theorem dX8_search_117 : decode cX8_search 117 = .ok (.iload_n 3, 1) := by decide +kernel
theorem dX8_search_118 : decode cX8_search 118 = .ok (.ifCond .lt 8, 3) := by decide +kernel
theorem dX8_search_121 : decode cX8_search 121 = .ok (.iload_n 3, 1) := by decide +kernel
theorem dX8_search_122 : decode cX8_search 122 = .ok (.iload_n 2, 1) := by decide +kernel
theorem dX8_search_123 : decode cX8_search 123 = .ok (.if_icmp .lt 10, 3) := by decide +kernel
theorem dX8_search_126 : decode cX8_search 126 = .ok (.aload_n 0, 1) := by decide +kernel
theorem dX8_search_127 : decode cX8_search 127 = .ok (.bipush 9, 2) := by decide +kernel
theorem dX8_search_129 : decode cX8_search 129 = .ok (.invokevirtual 121, 3) := by decide +kernel
theorem dX8_search_132 : decode cX8_search 132 = .ok (.ireturn, 1) := by decide +kernel
theorem dX8_search_133 : decode cX8_search 133 = .ok (.iconst 0, 1) := by decide +kernel
theorem dX8_search_134 : decode cX8_search 134 = .ok (.istore 4, 2) := by decide +kernel
theorem dX8_search_136 : decode cX8_search 136 = .ok (.iload 4, 2) := by decide +kernel
theorem dX8_search_138 : decode cX8_search 138 = .ok (.iload_n 2, 1) := by decide +kernel
theorem dX8_search_139 : decode cX8_search 139 = .ok (.if_icmp .ge 97, 3) := by decide +kernel
theorem dX8_search_142 : decode cX8_search 142 = .ok (.iload 4, 2) := by decide +kernel
theorem dX8_search_144 : decode cX8_search 144 = .ok (.istore 5, 2) := by decide +kernel
theorem dX8_search_146 : decode cX8_search 146 = .ok (.iload 5, 2) := by decide +kernel
theorem dX8_search_148 : decode cX8_search 148 = .ok (.ifCond .le 73, 3) := by decide +kernel
theorem dX8_search_151 : decode cX8_search 151 = .ok (.aload_n 0, 1) := by decide +kernel
theorem dX8_search_152 : decode cX8_search 152 = .ok (.iload_n 1, 1) := by decide +kernel
theorem dX8_search_153 : decode cX8_search 153 = .ok (.aload_n 0, 1) := by decide +kernel
theorem dX8_search_154 : decode cX8_search 154 = .ok (.getfield 90, 3) := by decide +kernel
theorem dX8_search_157 : decode cX8_search 157 = .ok (.iload 5, 2) := by decide +kernel
theorem dX8_search_159 : decode cX8_search 159 = .ok (.iconst 1, 1) := by decide +kernel
theorem dX8_search_160 : decode cX8_search 160 = .ok (.isub, 1) := by decide +kernel
theorem dX8_search_161 : decode cX8_search 161 = .ok (.iaload, 1) := by decide +kernel
theorem dX8_search_162 : decode cX8_search 162 = .ok (.invokevirtual 202, 3) := by decide +kernel
theorem dX8_search_165 : decode cX8_search 165 = .ok (.aload_n 0, 1) := by decide +kernel
theorem dX8_search_166 : decode cX8_search 166 = .ok (.iload_n 1, 1) := by decide +kernel
theorem dX8_search_167 : decode cX8_search 167 = .ok (.iload 4, 2) := by decide +kernel
theorem dX8_search_169 : decode cX8_search 169 = .ok (.invokevirtual 206, 3) := by decide +kernel
theorem dX8_search_172 : decode cX8_search 172 = .ok (.lmul, 1) := by decide +kernel
theorem dX8_search_173 : decode cX8_search 173 = .ok (.aload_n 0, 1) := by decide +kernel
theorem dX8_search_174 : decode cX8_search 174 = .ok (.iload_n 1, 1) := by decide +kernel
theorem dX8_search_175 : decode cX8_search 175 = .ok (.iload 4, 2) := by decide +kernel
theorem dX8_search_177 : decode cX8_search 177 = .ok (.invokevirtual 202, 3) := by decide +kernel
theorem dX8_search_180 : decode cX8_search 180 = .ok (.aload_n 0, 1) := by decide +kernel
theorem dX8_search_181 : decode cX8_search 181 = .ok (.iload_n 1, 1) := by decide +kernel
theorem dX8_search_182 : decode cX8_search 182 = .ok (.aload_n 0, 1) := by decide +kernel
theorem dX8_search_183 : decode cX8_search 183 = .ok (.getfield 90, 3) := by decide +kernel
theorem dX8_search_186 : decode cX8_search 186 = .ok (.iload 5, 2) := by decide +kernel
theorem dX8_search_188 : decode cX8_search 188 = .ok (.iconst 1, 1) := by decide +kernel
theorem dX8_search_189 : decode cX8_search 189 = .ok (.isub, 1) := by decide +kernel
theorem dX8_search_190 : decode cX8_search 190 = .ok (.iaload, 1) := by decide +kernel
theorem dX8_search_191 : decode cX8_search 191 = .ok (.invokevirtual 206, 3) := by decide +kernel
theorem dX8_search_194 : decode cX8_search 194 = .ok (.lmul, 1) := by decide +kernel
theorem dX8_search_195 : decode cX8_search 195 = .ok (.lcmp, 1) := by decide +kernel
theorem dX8_search_196 : decode cX8_search 196 = .ok (.ifCond .le 25, 3) := by decide +kernel
theorem dX8_search_199 : decode cX8_search 199 = .ok (.aload_n 0, 1) := by decide +kernel
theorem dX8_search_200 : decode cX8_search 200 = .ok (.getfield 90, 3) := by decide +kernel
theorem dX8_search_203 : decode cX8_search 203 = .ok (.iload 5, 2) := by decide +kernel
theorem dX8_search_205 : decode cX8_search 205 = .ok (.aload_n 0, 1) := by decide +kernel
theorem dX8_search_206 : decode cX8_search 206 = .ok (.getfield 90, 3) := by decide +kernel
theorem dX8_search_209 : decode cX8_search 209 = .ok (.iload 5, 2) := by decide +kernel
theorem dX8_search_211 : decode cX8_search 211 = .ok (.iconst 1, 1) := by decide +kernel
theorem dX8_search_212 : decode cX8_search 212 = .ok (.isub, 1) := by decide +kernel
theorem dX8_search_213 : decode cX8_search 213 = .ok (.iaload, 1) := by decide +kernel
theorem dX8_search_214 : decode cX8_search 214 = .ok (.iastore, 1) := by decide +kernel
theorem dX8_search_215 : decode cX8_search 215 = .ok (.iinc 5 (-1), 3) := by decide +kernel
theorem dX8_search_218 : decode cX8_search 218 = .ok (.goto (-72), 3) := by decide +kernel
theorem dX8_search_221 : decode cX8_search 221 = .ok (.aload_n 0, 1) := by decide +kernel
theorem dX8_search_222 : decode cX8_search 222 = .ok (.getfield 90, 3) := by decide +kernel
theorem dX8_search_225 : decode cX8_search 225 = .ok (.iload 5, 2) := by decide +kernel
theorem dX8_search_227 : decode cX8_search 227 = .ok (.iload 4, 2) := by decide +kernel
theorem dX8_search_229 : decode cX8_search 229 = .ok (.iastore, 1) := by decide +kernel
theorem dX8_search_230 : decode cX8_search 230 = .ok (.iinc 4 1, 3) := by decide +kernel
theorem dX8_search_233 : decode cX8_search 233 = .ok (.goto (-97), 3) := by decide +kernel
theorem dX8_search_236 : decode cX8_search 236 = .ok (.lconst 0, 1) := by decide +kernel
theorem dX8_search_237 : decode cX8_search 237 = .ok (.lstore 4, 2) := by decide +kernel
theorem dX8_search_239 : decode cX8_search 239 = .ok (.lconst 0, 1) := by decide +kernel
theorem dX8_search_240 : decode cX8_search 240 = .ok (.lstore 6, 2) := by decide +kernel
theorem dX8_search_242 : decode cX8_search 242 = .ok (.lconst 0, 1) := by decide +kernel
theorem dX8_search_243 : decode cX8_search 243 = .ok (.lstore 8, 2) := by decide +kernel
theorem dX8_search_245 : decode cX8_search 245 = .ok (.iconst 0, 1) := by decide +kernel
theorem dX8_search_246 : decode cX8_search 246 = .ok (.istore 10, 2) := by decide +kernel
theorem dX8_search_248 : decode cX8_search 248 = .ok (.iload 10, 2) := by decide +kernel
theorem dX8_search_250 : decode cX8_search 250 = .ok (.iload_n 2, 1) := by decide +kernel
theorem dX8_search_251 : decode cX8_search 251 = .ok (.if_icmp .ge 63, 3) := by decide +kernel
theorem dX8_search_254 : decode cX8_search 254 = .ok (.lload 4, 2) := by decide +kernel
theorem dX8_search_256 : decode cX8_search 256 = .ok (.aload_n 0, 1) := by decide +kernel
theorem dX8_search_257 : decode cX8_search 257 = .ok (.iload_n 1, 1) := by decide +kernel
theorem dX8_search_258 : decode cX8_search 258 = .ok (.aload_n 0, 1) := by decide +kernel
theorem dX8_search_259 : decode cX8_search 259 = .ok (.getfield 90, 3) := by decide +kernel
theorem dX8_search_262 : decode cX8_search 262 = .ok (.iload 10, 2) := by decide +kernel
theorem dX8_search_264 : decode cX8_search 264 = .ok (.iaload, 1) := by decide +kernel
theorem dX8_search_265 : decode cX8_search 265 = .ok (.invokevirtual 202, 3) := by decide +kernel
theorem dX8_search_268 : decode cX8_search 268 = .ok (.ladd, 1) := by decide +kernel
theorem dX8_search_269 : decode cX8_search 269 = .ok (.lstore 4, 2) := by decide +kernel
theorem dX8_search_271 : decode cX8_search 271 = .ok (.lload 6, 2) := by decide +kernel
theorem dX8_search_273 : decode cX8_search 273 = .ok (.aload_n 0, 1) := by decide +kernel
theorem dX8_search_274 : decode cX8_search 274 = .ok (.iload_n 1, 1) := by decide +kernel
theorem dX8_search_275 : decode cX8_search 275 = .ok (.aload_n 0, 1) := by decide +kernel
theorem dX8_search_276 : decode cX8_search 276 = .ok (.getfield 90, 3) := by decide +kernel
theorem dX8_search_279 : decode cX8_search 279 = .ok (.iload 10, 2) := by decide +kernel
theorem dX8_search_281 : decode cX8_search 281 = .ok (.iaload, 1) := by decide +kernel
theorem dX8_search_282 : decode cX8_search 282 = .ok (.invokevirtual 206, 3) := by decide +kernel
theorem dX8_search_285 : decode cX8_search 285 = .ok (.lload 4, 2) := by decide +kernel
theorem dX8_search_287 : decode cX8_search 287 = .ok (.lmul, 1) := by decide +kernel
theorem dX8_search_288 : decode cX8_search 288 = .ok (.ladd, 1) := by decide +kernel
theorem dX8_search_289 : decode cX8_search 289 = .ok (.lstore 6, 2) := by decide +kernel
theorem dX8_search_291 : decode cX8_search 291 = .ok (.lload 8, 2) := by decide +kernel
theorem dX8_search_293 : decode cX8_search 293 = .ok (.aload_n 0, 1) := by decide +kernel
theorem dX8_search_294 : decode cX8_search 294 = .ok (.iload_n 1, 1) := by decide +kernel
theorem dX8_search_295 : decode cX8_search 295 = .ok (.aload_n 0, 1) := by decide +kernel
theorem dX8_search_296 : decode cX8_search 296 = .ok (.getfield 90, 3) := by decide +kernel
theorem dX8_search_299 : decode cX8_search 299 = .ok (.iload 10, 2) := by decide +kernel
theorem dX8_search_301 : decode cX8_search 301 = .ok (.iaload, 1) := by decide +kernel
theorem dX8_search_302 : decode cX8_search 302 = .ok (.invokevirtual 206, 3) := by decide +kernel
theorem dX8_search_305 : decode cX8_search 305 = .ok (.ladd, 1) := by decide +kernel
theorem dX8_search_306 : decode cX8_search 306 = .ok (.lstore 8, 2) := by decide +kernel
theorem dX8_search_308 : decode cX8_search 308 = .ok (.iinc 10 1, 3) := by decide +kernel
theorem dX8_search_311 : decode cX8_search 311 = .ok (.goto (-63), 3) := by decide +kernel
theorem dX8_search_314 : decode cX8_search 314 = .ok (.lload 6, 2) := by decide +kernel
theorem dX8_search_316 : decode cX8_search 316 = .ok (.lstore 10, 2) := by decide +kernel
theorem dX8_search_318 : decode cX8_search 318 = .ok (.lload 8, 2) := by decide +kernel
theorem dX8_search_320 : decode cX8_search 320 = .ok (.lstore 12, 2) := by decide +kernel
theorem dX8_search_322 : decode cX8_search 322 = .ok (.lload 12, 2) := by decide +kernel
theorem dX8_search_324 : decode cX8_search 324 = .ok (.lconst 0, 1) := by decide +kernel
theorem dX8_search_325 : decode cX8_search 325 = .ok (.lcmp, 1) := by decide +kernel
theorem dX8_search_326 : decode cX8_search 326 = .ok (.ifCond .eq 21, 3) := by decide +kernel
theorem dX8_search_329 : decode cX8_search 329 = .ok (.lload 10, 2) := by decide +kernel
theorem dX8_search_331 : decode cX8_search 331 = .ok (.lload 12, 2) := by decide +kernel
theorem dX8_search_333 : decode cX8_search 333 = .ok (.lrem, 1) := by decide +kernel
theorem dX8_search_334 : decode cX8_search 334 = .ok (.lstore 14, 2) := by decide +kernel
theorem dX8_search_336 : decode cX8_search 336 = .ok (.lload 12, 2) := by decide +kernel
theorem dX8_search_338 : decode cX8_search 338 = .ok (.lstore 10, 2) := by decide +kernel
theorem dX8_search_340 : decode cX8_search 340 = .ok (.lload 14, 2) := by decide +kernel
theorem dX8_search_342 : decode cX8_search 342 = .ok (.lstore 12, 2) := by decide +kernel
theorem dX8_search_344 : decode cX8_search 344 = .ok (.goto (-22), 3) := by decide +kernel
theorem dX8_search_347 : decode cX8_search 347 = .ok (.aload_n 0, 1) := by decide +kernel
theorem dX8_search_348 : decode cX8_search 348 = .ok (.lload 6, 2) := by decide +kernel
theorem dX8_search_350 : decode cX8_search 350 = .ok (.lload 10, 2) := by decide +kernel
theorem dX8_search_352 : decode cX8_search 352 = .ok (.ldiv, 1) := by decide +kernel
theorem dX8_search_353 : decode cX8_search 353 = .ok (.putfield 209, 3) := by decide +kernel
theorem dX8_search_356 : decode cX8_search 356 = .ok (.aload_n 0, 1) := by decide +kernel
theorem dX8_search_357 : decode cX8_search 357 = .ok (.lload 8, 2) := by decide +kernel
theorem dX8_search_359 : decode cX8_search 359 = .ok (.lload 10, 2) := by decide +kernel
theorem dX8_search_361 : decode cX8_search 361 = .ok (.ldiv, 1) := by decide +kernel
theorem dX8_search_362 : decode cX8_search 362 = .ok (.putfield 7, 3) := by decide +kernel
theorem dX8_search_365 : decode cX8_search 365 = .ok (.aload_n 0, 1) := by decide +kernel
theorem dX8_search_366 : decode cX8_search 366 = .ok (.getfield 90, 3) := by decide +kernel
theorem dX8_search_369 : decode cX8_search 369 = .ok (.iload_n 3, 1) := by decide +kernel
theorem dX8_search_370 : decode cX8_search 370 = .ok (.iaload, 1) := by decide +kernel
theorem dX8_search_371 : decode cX8_search 371 = .ok (.ireturn, 1) := by decide +kernel
theorem dX8_upper_0 : decode cX8_upper 0 = .ok (.aload_n 0, 1) := by decide +kernel
theorem dX8_upper_1 : decode cX8_upper 1 = .ok (.iconst 0, 1) := by decide +kernel
theorem dX8_upper_2 : decode cX8_upper 2 = .ok (.putfield 93, 3) := by decide +kernel
theorem dX8_upper_5 : decode cX8_upper 5 = .ok (.aload_n 0, 1) := by decide +kernel
theorem dX8_upper_6 : decode cX8_upper 6 = .ok (.getfield 209, 3) := by decide +kernel
theorem dX8_upper_9 : decode cX8_upper 9 = .ok (.lreturn, 1) := by decide +kernel
theorem dX8_lower_0 : decode cX8_lower 0 = .ok (.aload_n 0, 1) := by decide +kernel
theorem dX8_lower_1 : decode cX8_lower 1 = .ok (.iconst 0, 1) := by decide +kernel
theorem dX8_lower_2 : decode cX8_lower 2 = .ok (.putfield 93, 3) := by decide +kernel
theorem dX8_lower_5 : decode cX8_lower 5 = .ok (.aload_n 0, 1) := by decide +kernel
theorem dX8_lower_6 : decode cX8_lower 6 = .ok (.getfield 7, 3) := by decide +kernel
theorem dX8_lower_9 : decode cX8_lower 9 = .ok (.lreturn, 1) := by decide +kernel
