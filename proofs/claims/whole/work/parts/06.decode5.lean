theorem dX0_init_0 : decode cX0_init 0 = .ok (.aload_n 0, 1) := by decide +kernel
theorem dX0_init_1 : decode cX0_init 1 = .ok (.invokespecial 3, 3) := by decide +kernel
theorem dX0_init_4 : decode cX0_init 4 = .ok (.aload_n 0, 1) := by decide +kernel
theorem dX0_init_5 : decode cX0_init 5 = .ok (.bipush 24, 2) := by decide +kernel
theorem dX0_init_7 : decode cX0_init 7 = .ok (.sipush 325, 3) := by decide +kernel
theorem dX0_init_10 : decode cX0_init 10 = .ok (.multianewarray 11 2, 4) := by decide +kernel
theorem dX0_init_14 : decode cX0_init 14 = .ok (.putfield 13, 3) := by decide +kernel
theorem dX0_init_17 : decode cX0_init 17 = .ok (.aload_n 0, 1) := by decide +kernel
theorem dX0_init_18 : decode cX0_init 18 = .ok (.bipush 25, 2) := by decide +kernel
theorem dX0_init_20 : decode cX0_init 20 = .ok (.newarray .int, 2) := by decide +kernel
theorem dX0_init_22 : decode cX0_init 22 = .ok (.putfield 16, 3) := by decide +kernel
theorem dX0_init_25 : decode cX0_init 25 = .ok (.aload_n 0, 1) := by decide +kernel
theorem dX0_init_26 : decode cX0_init 26 = .ok (.iconst 0, 1) := by decide +kernel
theorem dX0_init_27 : decode cX0_init 27 = .ok (.putfield 20, 3) := by decide +kernel
theorem dX0_init_30 : decode cX0_init 30 = .ok (.aload_n 0, 1) := by decide +kernel
theorem dX0_init_31 : decode cX0_init 31 = .ok (.iconst 1, 1) := by decide +kernel
theorem dX0_init_32 : decode cX0_init 32 = .ok (.putfield 24, 3) := by decide +kernel
theorem dX0_init_35 : decode cX0_init 35 = .ok (.aload_n 0, 1) := by decide +kernel
theorem dX0_init_36 : decode cX0_init 36 = .ok (.iconst 1, 1) := by decide +kernel
theorem dX0_init_37 : decode cX0_init 37 = .ok (.putfield 27, 3) := by decide +kernel
theorem dX0_init_40 : decode cX0_init 40 = .ok (.aload_n 0, 1) := by decide +kernel
theorem dX0_init_41 : decode cX0_init 41 = .ok (.iconst 1, 1) := by decide +kernel
theorem dX0_init_42 : decode cX0_init 42 = .ok (.putfield 30, 3) := by decide +kernel
theorem dX0_init_45 : decode cX0_init 45 = .ok (.return_, 1) := by decide +kernel
theorem dX0_weigh_0 : decode cX0_weigh 0 = .ok (.aload_n 0, 1) := by decide +kernel
theorem dX0_weigh_1 : decode cX0_weigh 1 = .ok (.iload_n 1, 1) := by decide +kernel
theorem dX0_weigh_2 : decode cX0_weigh 2 = .ok (.putfield 24, 3) := by decide +kernel
theorem dX0_weigh_5 : decode cX0_weigh 5 = .ok (.aload_n 0, 1) := by decide +kernel
theorem dX0_weigh_6 : decode cX0_weigh 6 = .ok (.iload_n 2, 1) := by decide +kernel
theorem dX0_weigh_7 : decode cX0_weigh 7 = .ok (.putfield 27, 3) := by decide +kernel
theorem dX0_weigh_10 : decode cX0_weigh 10 = .ok (.aload_n 0, 1) := by decide +kernel
theorem dX0_weigh_11 : decode cX0_weigh 11 = .ok (.iload_n 3, 1) := by decide +kernel
theorem dX0_weigh_12 : decode cX0_weigh 12 = .ok (.putfield 30, 3) := by decide +kernel
theorem dX0_weigh_15 : decode cX0_weigh 15 = .ok (.aload_n 0, 1) := by decide +kernel
theorem dX0_weigh_16 : decode cX0_weigh 16 = .ok (.invokevirtual 33, 3) := by decide +kernel
theorem dX0_weigh_19 : decode cX0_weigh 19 = .ok (.return_, 1) := by decide +kernel
theorem dX0_forget_0 : decode cX0_forget 0 = .ok (.aload_n 0, 1) := by decide +kernel
theorem dX0_forget_1 : decode cX0_forget 1 = .ok (.iconst 0, 1) := by decide +kernel
theorem dX0_forget_2 : decode cX0_forget 2 = .ok (.putfield 20, 3) := by decide +kernel
theorem dX0_forget_5 : decode cX0_forget 5 = .ok (.return_, 1) := by decide +kernel
theorem dX0_learn_0 : decode cX0_learn 0 = .ok (.aload_n 0, 1) := by decide +kernel
theorem dX0_learn_1 : decode cX0_learn 1 = .ok (.getfield 20, 3) := by decide +kernel
theorem dX0_learn_4 : decode cX0_learn 4 = .ok (.istore_n 3, 1) := by decide +kernel
theorem dX0_learn_5 : decode cX0_learn 5 = .ok (.iload_n 3, 1) := by decide +kernel
theorem dX0_learn_6 : decode cX0_learn 6 = .ok (.aload_n 2, 1) := by decide +kernel
theorem dX0_learn_7 : decode cX0_learn 7 = .ok (.getfield 36, 3) := by decide +kernel
theorem dX0_learn_10 : decode cX0_learn 10 = .ok (.if_icmp .gt 36, 3) := by decide +kernel
theorem dX0_learn_13 : decode cX0_learn 13 = .ok (.iconst 0, 1) := by decide +kernel
theorem dX0_learn_14 : decode cX0_learn 14 = .ok (.istore 4, 2) := by decide +kernel
theorem dX0_learn_16 : decode cX0_learn 16 = .ok (.iload 4, 2) := by decide +kernel
theorem dX0_learn_18 : decode cX0_learn 18 = .ok (.aload_n 1, 1) := by decide +kernel
theorem dX0_learn_19 : decode cX0_learn 19 = .ok (.getfield 41, 3) := by decide +kernel
theorem dX0_learn_22 : decode cX0_learn 22 = .ok (.if_icmp .ge 18, 3) := by decide +kernel
theorem dX0_learn_25 : decode cX0_learn 25 = .ok (.aload_n 0, 1) := by decide +kernel
theorem dX0_learn_26 : decode cX0_learn 26 = .ok (.aload_n 1, 1) := by decide +kernel
theorem dX0_learn_27 : decode cX0_learn 27 = .ok (.iload 4, 2) := by decide +kernel
theorem dX0_learn_29 : decode cX0_learn 29 = .ok (.aload_n 2, 1) := by decide +kernel
theorem dX0_learn_30 : decode cX0_learn 30 = .ok (.iload_n 3, 1) := by decide +kernel
theorem dX0_learn_31 : decode cX0_learn 31 = .ok (.invokevirtual 44, 3) := by decide +kernel
theorem dX0_learn_34 : decode cX0_learn 34 = .ok (.iinc 4 1, 3) := by decide +kernel
theorem dX0_learn_37 : decode cX0_learn 37 = .ok (.goto (-21), 3) := by decide +kernel
theorem dX0_learn_40 : decode cX0_learn 40 = .ok (.iinc 3 1, 3) := by decide +kernel
theorem dX0_learn_43 : decode cX0_learn 43 = .ok (.goto (-38), 3) := by decide +kernel
theorem dX0_learn_46 : decode cX0_learn 46 = .ok (.aload_n 0, 1) := by decide +kernel
theorem dX0_learn_47 : decode cX0_learn 47 = .ok (.aload_n 2, 1) := by decide +kernel
theorem dX0_learn_48 : decode cX0_learn 48 = .ok (.getfield 36, 3) := by decide +kernel
theorem dX0_learn_51 : decode cX0_learn 51 = .ok (.iconst 1, 1) := by decide +kernel
theorem dX0_learn_52 : decode cX0_learn 52 = .ok (.iadd, 1) := by decide +kernel
theorem dX0_learn_53 : decode cX0_learn 53 = .ok (.putfield 20, 3) := by decide +kernel
theorem dX0_learn_56 : decode cX0_learn 56 = .ok (.return_, 1) := by decide +kernel
theorem dX0_ofWhole_0 : decode cX0_ofWhole 0 = .ok (.aload_n 1, 1) := by decide +kernel
theorem dX0_ofWhole_1 : decode cX0_ofWhole 1 = .ok (.getfield 41, 3) := by decide +kernel
theorem dX0_ofWhole_4 : decode cX0_ofWhole 4 = .ok (.iconst 1, 1) := by decide +kernel
theorem dX0_ofWhole_5 : decode cX0_ofWhole 5 = .ok (.if_icmp .lt 20, 3) := by decide +kernel
theorem dX0_ofWhole_8 : decode cX0_ofWhole 8 = .ok (.iload_n 2, 1) := by decide +kernel
theorem dX0_ofWhole_9 : decode cX0_ofWhole 9 = .ok (.ifCond .lt 16, 3) := by decide +kernel
theorem dX0_ofWhole_12 : decode cX0_ofWhole 12 = .ok (.iload_n 3, 1) := by decide +kernel
theorem dX0_ofWhole_13 : decode cX0_ofWhole 13 = .ok (.iload_n 2, 1) := by decide +kernel
theorem dX0_ofWhole_14 : decode cX0_ofWhole 14 = .ok (.if_icmp .lt 11, 3) := by decide +kernel
theorem dX0_ofWhole_17 : decode cX0_ofWhole 17 = .ok (.iload_n 3, 1) := by decide +kernel
theorem dX0_ofWhole_18 : decode cX0_ofWhole 18 = .ok (.aload_n 0, 1) := by decide +kernel
theorem dX0_ofWhole_19 : decode cX0_ofWhole 19 = .ok (.getfield 20, 3) := by decide +kernel
theorem dX0_ofWhole_22 : decode cX0_ofWhole 22 = .ok (.if_icmp .lt 6, 3) := by decide +kernel
theorem dX0_ofWhole_25 : decode cX0_ofWhole 25 = .ok (.ldc 48, 2) := by decide +kernel
theorem dX0_ofWhole_27 : decode cX0_ofWhole 27 = .ok (.ireturn, 1) := by decide +kernel
theorem dX0_ofWhole_28 : decode cX0_ofWhole 28 = .ok (.aload_n 0, 1) := by decide +kernel
theorem dX0_ofWhole_29 : decode cX0_ofWhole 29 = .ok (.getfield 13, 3) := by decide +kernel
theorem dX0_ofWhole_32 : decode cX0_ofWhole 32 = .ok (.aload_n 1, 1) := by decide +kernel
theorem dX0_ofWhole_33 : decode cX0_ofWhole 33 = .ok (.getfield 41, 3) := by decide +kernel
theorem dX0_ofWhole_36 : decode cX0_ofWhole 36 = .ok (.iconst 1, 1) := by decide +kernel
theorem dX0_ofWhole_37 : decode cX0_ofWhole 37 = .ok (.isub, 1) := by decide +kernel
theorem dX0_ofWhole_38 : decode cX0_ofWhole 38 = .ok (.aaload, 1) := by decide +kernel
theorem dX0_ofWhole_39 : decode cX0_ofWhole 39 = .ok (.iload_n 2, 1) := by decide +kernel
theorem dX0_ofWhole_40 : decode cX0_ofWhole 40 = .ok (.iload_n 3, 1) := by decide +kernel
theorem dX0_ofWhole_41 : decode cX0_ofWhole 41 = .ok (.invokestatic 49, 3) := by decide +kernel
theorem dX0_ofWhole_44 : decode cX0_ofWhole 44 = .ok (.iaload, 1) := by decide +kernel
theorem dX0_ofWhole_45 : decode cX0_ofWhole 45 = .ok (.ireturn, 1) := by decide +kernel
theorem dX0_fillColumn_0 : decode cX0_fillColumn 0 = .ok (.aload_n 0, 1) := by decide +kernel
theorem dX0_fillColumn_1 : decode cX0_fillColumn 1 = .ok (.getfield 13, 3) := by decide +kernel
theorem dX0_fillColumn_4 : decode cX0_fillColumn 4 = .ok (.iload_n 2, 1) := by decide +kernel
theorem dX0_fillColumn_5 : decode cX0_fillColumn 5 = .ok (.aaload, 1) := by decide +kernel
theorem dX0_fillColumn_6 : decode cX0_fillColumn 6 = .ok (.astore 5, 2) := by decide +kernel
theorem dX0_fillColumn_8 : decode cX0_fillColumn 8 = .ok (.aload_n 1, 1) := by decide +kernel
theorem dX0_fillColumn_9 : decode cX0_fillColumn 9 = .ok (.getfield 53, 3) := by decide +kernel
theorem dX0_fillColumn_12 : decode cX0_fillColumn 12 = .ok (.iload_n 2, 1) := by decide +kernel
theorem dX0_fillColumn_13 : decode cX0_fillColumn 13 = .ok (.iaload, 1) := by decide +kernel
theorem dX0_fillColumn_14 : decode cX0_fillColumn 14 = .ok (.istore 6, 2) := by decide +kernel
theorem dX0_fillColumn_16 : decode cX0_fillColumn 16 = .ok (.aload_n 1, 1) := by decide +kernel
theorem dX0_fillColumn_17 : decode cX0_fillColumn 17 = .ok (.getfield 56, 3) := by decide +kernel
theorem dX0_fillColumn_20 : decode cX0_fillColumn 20 = .ok (.iload_n 2, 1) := by decide +kernel
theorem dX0_fillColumn_21 : decode cX0_fillColumn 21 = .ok (.iaload, 1) := by decide +kernel
theorem dX0_fillColumn_22 : decode cX0_fillColumn 22 = .ok (.ifCond .ne 15, 3) := by decide +kernel
theorem dX0_fillColumn_25 : decode cX0_fillColumn 25 = .ok (.aload_n 0, 1) := by decide +kernel
theorem dX0_fillColumn_26 : decode cX0_fillColumn 26 = .ok (.aload 5, 2) := by decide +kernel
theorem dX0_fillColumn_28 : decode cX0_fillColumn 28 = .ok (.iload 6, 2) := by decide +kernel
theorem dX0_fillColumn_30 : decode cX0_fillColumn 30 = .ok (.aload_n 3, 1) := by decide +kernel
theorem dX0_fillColumn_31 : decode cX0_fillColumn 31 = .ok (.iload 4, 2) := by decide +kernel
theorem dX0_fillColumn_33 : decode cX0_fillColumn 33 = .ok (.invokevirtual 59, 3) := by decide +kernel
theorem dX0_fillColumn_36 : decode cX0_fillColumn 36 = .ok (.return_, 1) := by decide +kernel
theorem dX0_fillColumn_37 : decode cX0_fillColumn 37 = .ok (.aload_n 0, 1) := by decide +kernel
theorem dX0_fillColumn_38 : decode cX0_fillColumn 38 = .ok (.getfield 13, 3) := by decide +kernel
theorem dX0_fillColumn_41 : decode cX0_fillColumn 41 = .ok (.aload_n 1, 1) := by decide +kernel
theorem dX0_fillColumn_42 : decode cX0_fillColumn 42 = .ok (.getfield 63, 3) := by decide +kernel
theorem dX0_fillColumn_45 : decode cX0_fillColumn 45 = .ok (.iload_n 2, 1) := by decide +kernel
theorem dX0_fillColumn_46 : decode cX0_fillColumn 46 = .ok (.iaload, 1) := by decide +kernel
theorem dX0_fillColumn_47 : decode cX0_fillColumn 47 = .ok (.iload_n 2, 1) := by decide +kernel
theorem dX0_fillColumn_48 : decode cX0_fillColumn 48 = .ok (.invokestatic 66, 3) := by decide +kernel
theorem dX0_fillColumn_51 : decode cX0_fillColumn 51 = .ok (.aaload, 1) := by decide +kernel
theorem dX0_fillColumn_52 : decode cX0_fillColumn 52 = .ok (.astore 7, 2) := by decide +kernel
theorem dX0_fillColumn_54 : decode cX0_fillColumn 54 = .ok (.aload_n 0, 1) := by decide +kernel
theorem dX0_fillColumn_55 : decode cX0_fillColumn 55 = .ok (.getfield 13, 3) := by decide +kernel
theorem dX0_fillColumn_58 : decode cX0_fillColumn 58 = .ok (.aload_n 1, 1) := by decide +kernel
theorem dX0_fillColumn_59 : decode cX0_fillColumn 59 = .ok (.getfield 69, 3) := by decide +kernel
theorem dX0_fillColumn_62 : decode cX0_fillColumn 62 = .ok (.iload_n 2, 1) := by decide +kernel
theorem dX0_fillColumn_63 : decode cX0_fillColumn 63 = .ok (.iaload, 1) := by decide +kernel
theorem dX0_fillColumn_64 : decode cX0_fillColumn 64 = .ok (.iload_n 2, 1) := by decide +kernel
theorem dX0_fillColumn_65 : decode cX0_fillColumn 65 = .ok (.invokestatic 66, 3) := by decide +kernel
theorem dX0_fillColumn_68 : decode cX0_fillColumn 68 = .ok (.aaload, 1) := by decide +kernel
theorem dX0_fillColumn_69 : decode cX0_fillColumn 69 = .ok (.astore 8, 2) := by decide +kernel
theorem dX0_fillColumn_71 : decode cX0_fillColumn 71 = .ok (.aload_n 1, 1) := by decide +kernel
theorem dX0_fillColumn_72 : decode cX0_fillColumn 72 = .ok (.getfield 56, 3) := by decide +kernel
theorem dX0_fillColumn_75 : decode cX0_fillColumn 75 = .ok (.iload_n 2, 1) := by decide +kernel
theorem dX0_fillColumn_76 : decode cX0_fillColumn 76 = .ok (.iaload, 1) := by decide +kernel
theorem dX0_fillColumn_77 : decode cX0_fillColumn 77 = .ok (.tableswitch 97 1 6 #[39, 54, 69, 97, 97, 82], 39) := by decide +kernel
theorem dX0_fillColumn_116 : decode cX0_fillColumn 116 = .ok (.aload_n 0, 1) := by decide +kernel
theorem dX0_fillColumn_117 : decode cX0_fillColumn 117 = .ok (.aload 5, 2) := by decide +kernel
theorem dX0_fillColumn_119 : decode cX0_fillColumn 119 = .ok (.aload 7, 2) := by decide +kernel
theorem dX0_fillColumn_121 : decode cX0_fillColumn 121 = .ok (.aload 8, 2) := by decide +kernel
theorem dX0_fillColumn_123 : decode cX0_fillColumn 123 = .ok (.iload 4, 2) := by decide +kernel
theorem dX0_fillColumn_125 : decode cX0_fillColumn 125 = .ok (.invokevirtual 72, 3) := by decide +kernel
theorem dX0_fillColumn_128 : decode cX0_fillColumn 128 = .ok (.goto 77, 3) := by decide +kernel
theorem dX0_fillColumn_131 : decode cX0_fillColumn 131 = .ok (.aload_n 0, 1) := by decide +kernel
theorem dX0_fillColumn_132 : decode cX0_fillColumn 132 = .ok (.aload 5, 2) := by decide +kernel
theorem dX0_fillColumn_134 : decode cX0_fillColumn 134 = .ok (.aload 7, 2) := by decide +kernel
theorem dX0_fillColumn_136 : decode cX0_fillColumn 136 = .ok (.aload 8, 2) := by decide +kernel
theorem dX0_fillColumn_138 : decode cX0_fillColumn 138 = .ok (.iload 4, 2) := by decide +kernel
theorem dX0_fillColumn_140 : decode cX0_fillColumn 140 = .ok (.invokevirtual 76, 3) := by decide +kernel
theorem dX0_fillColumn_143 : decode cX0_fillColumn 143 = .ok (.goto 62, 3) := by decide +kernel
theorem dX0_fillColumn_146 : decode cX0_fillColumn 146 = .ok (.aload_n 0, 1) := by decide +kernel
theorem dX0_fillColumn_147 : decode cX0_fillColumn 147 = .ok (.aload 5, 2) := by decide +kernel
theorem dX0_fillColumn_149 : decode cX0_fillColumn 149 = .ok (.aload 7, 2) := by decide +kernel
theorem dX0_fillColumn_151 : decode cX0_fillColumn 151 = .ok (.iload 4, 2) := by decide +kernel
theorem dX0_fillColumn_153 : decode cX0_fillColumn 153 = .ok (.invokevirtual 79, 3) := by decide +kernel
theorem dX0_fillColumn_156 : decode cX0_fillColumn 156 = .ok (.goto 49, 3) := by decide +kernel
theorem dX0_fillColumn_159 : decode cX0_fillColumn 159 = .ok (.aload_n 0, 1) := by decide +kernel
theorem dX0_fillColumn_160 : decode cX0_fillColumn 160 = .ok (.aload 5, 2) := by decide +kernel
theorem dX0_fillColumn_162 : decode cX0_fillColumn 162 = .ok (.aload 7, 2) := by decide +kernel
theorem dX0_fillColumn_164 : decode cX0_fillColumn 164 = .ok (.iload 6, 2) := by decide +kernel
theorem dX0_fillColumn_166 : decode cX0_fillColumn 166 = .ok (.iload 4, 2) := by decide +kernel
theorem dX0_fillColumn_168 : decode cX0_fillColumn 168 = .ok (.invokevirtual 83, 3) := by decide +kernel
theorem dX0_fillColumn_171 : decode cX0_fillColumn 171 = .ok (.goto 34, 3) := by decide +kernel
theorem dX0_fillColumn_174 : decode cX0_fillColumn 174 = .ok (.aload_n 0, 1) := by decide +kernel
theorem dX0_fillColumn_175 : decode cX0_fillColumn 175 = .ok (.aload 7, 2) := by decide +kernel
theorem dX0_fillColumn_177 : decode cX0_fillColumn 177 = .ok (.iload 4, 2) := by decide +kernel
theorem dX0_fillColumn_179 : decode cX0_fillColumn 179 = .ok (.invokevirtual 87, 3) := by decide +kernel
theorem dX0_fillColumn_182 : decode cX0_fillColumn 182 = .ok (.aload_n 0, 1) := by decide +kernel
theorem dX0_fillColumn_183 : decode cX0_fillColumn 183 = .ok (.aload 5, 2) := by decide +kernel
theorem dX0_fillColumn_185 : decode cX0_fillColumn 185 = .ok (.aload_n 1, 1) := by decide +kernel
theorem dX0_fillColumn_186 : decode cX0_fillColumn 186 = .ok (.getfield 56, 3) := by decide +kernel
theorem dX0_fillColumn_189 : decode cX0_fillColumn 189 = .ok (.iload_n 2, 1) := by decide +kernel
theorem dX0_fillColumn_190 : decode cX0_fillColumn 190 = .ok (.iaload, 1) := by decide +kernel
theorem dX0_fillColumn_191 : decode cX0_fillColumn 191 = .ok (.iconst 4, 1) := by decide +kernel
theorem dX0_fillColumn_192 : decode cX0_fillColumn 192 = .ok (.if_icmp .ne 7, 3) := by decide +kernel
theorem dX0_fillColumn_195 : decode cX0_fillColumn 195 = .ok (.iconst 1, 1) := by decide +kernel
theorem dX0_fillColumn_196 : decode cX0_fillColumn 196 = .ok (.goto 4, 3) := by decide +kernel
theorem dX0_fillColumn_199 : decode cX0_fillColumn 199 = .ok (.iconst 0, 1) := by decide +kernel
theorem dX0_fillColumn_200 : decode cX0_fillColumn 200 = .ok (.iload 4, 2) := by decide +kernel
theorem dX0_fillColumn_202 : decode cX0_fillColumn 202 = .ok (.invokevirtual 91, 3) := by decide +kernel
theorem dX0_fillColumn_205 : decode cX0_fillColumn 205 = .ok (.return_, 1) := by decide +kernel
theorem dX0_operand_0 : decode cX0_operand 0 = .ok (.iload_n 0, 1) := by decide +kernel
theorem dX0_operand_1 : decode cX0_operand 1 = .ok (.ifCond .lt 12, 3) := by decide +kernel
theorem dX0_operand_4 : decode cX0_operand 4 = .ok (.iload_n 0, 1) := by decide +kernel
theorem dX0_operand_5 : decode cX0_operand 5 = .ok (.iload_n 1, 1) := by decide +kernel
theorem dX0_operand_6 : decode cX0_operand 6 = .ok (.if_icmp .ge 7, 3) := by decide +kernel
theorem dX0_operand_9 : decode cX0_operand 9 = .ok (.iload_n 0, 1) := by decide +kernel
theorem dX0_operand_10 : decode cX0_operand 10 = .ok (.goto 4, 3) := by decide +kernel
theorem dX0_operand_13 : decode cX0_operand 13 = .ok (.iconst 0, 1) := by decide +kernel
theorem dX0_operand_14 : decode cX0_operand 14 = .ok (.ireturn, 1) := by decide +kernel
theorem dX0_fillLetter_0 : decode cX0_fillLetter 0 = .ok (.iconst 0, 1) := by decide +kernel
theorem dX0_fillLetter_1 : decode cX0_fillLetter 1 = .ok (.istore 5, 2) := by decide +kernel
theorem dX0_fillLetter_3 : decode cX0_fillLetter 3 = .ok (.aload_n 1, 1) := by decide +kernel
theorem dX0_fillLetter_4 : decode cX0_fillLetter 4 = .ok (.iload 4, 2) := by decide +kernel
theorem dX0_fillLetter_6 : decode cX0_fillLetter 6 = .ok (.iload 4, 2) := by decide +kernel
theorem dX0_fillLetter_8 : decode cX0_fillLetter 8 = .ok (.invokestatic 49, 3) := by decide +kernel
theorem dX0_fillLetter_11 : decode cX0_fillLetter 11 = .ok (.aload_n 0, 1) := by decide +kernel
theorem dX0_fillLetter_12 : decode cX0_fillLetter 12 = .ok (.getfield 27, 3) := by decide +kernel
theorem dX0_fillLetter_15 : decode cX0_fillLetter 15 = .ok (.iastore, 1) := by decide +kernel
theorem dX0_fillLetter_16 : decode cX0_fillLetter 16 = .ok (.iload 4, 2) := by decide +kernel
theorem dX0_fillLetter_18 : decode cX0_fillLetter 18 = .ok (.iconst 1, 1) := by decide +kernel
theorem dX0_fillLetter_19 : decode cX0_fillLetter 19 = .ok (.isub, 1) := by decide +kernel
theorem dX0_fillLetter_20 : decode cX0_fillLetter 20 = .ok (.istore 6, 2) := by decide +kernel
theorem dX0_fillLetter_22 : decode cX0_fillLetter 22 = .ok (.iload 6, 2) := by decide +kernel
theorem dX0_fillLetter_24 : decode cX0_fillLetter 24 = .ok (.ifCond .lt 99, 3) := by decide +kernel
theorem dX0_fillLetter_27 : decode cX0_fillLetter 27 = .ok (.iload 5, 2) := by decide +kernel
theorem dX0_fillLetter_29 : decode cX0_fillLetter 29 = .ok (.ifCond .ne 20, 3) := by decide +kernel
theorem dX0_fillLetter_32 : decode cX0_fillLetter 32 = .ok (.iload_n 2, 1) := by decide +kernel
theorem dX0_fillLetter_33 : decode cX0_fillLetter 33 = .ok (.aload_n 3, 1) := by decide +kernel
theorem dX0_fillLetter_34 : decode cX0_fillLetter 34 = .ok (.iload 6, 2) := by decide +kernel
theorem dX0_fillLetter_36 : decode cX0_fillLetter 36 = .ok (.invokevirtual 95, 3) := by decide +kernel
theorem dX0_fillLetter_39 : decode cX0_fillLetter 39 = .ok (.bipush 97, 2) := by decide +kernel
theorem dX0_fillLetter_41 : decode cX0_fillLetter 41 = .ok (.isub, 1) := by decide +kernel
theorem dX0_fillLetter_42 : decode cX0_fillLetter 42 = .ok (.ishr, 1) := by decide +kernel
theorem dX0_fillLetter_43 : decode cX0_fillLetter 43 = .ok (.iconst 1, 1) := by decide +kernel
theorem dX0_fillLetter_44 : decode cX0_fillLetter 44 = .ok (.iand, 1) := by decide +kernel
theorem dX0_fillLetter_45 : decode cX0_fillLetter 45 = .ok (.iconst 1, 1) := by decide +kernel
theorem dX0_fillLetter_46 : decode cX0_fillLetter 46 = .ok (.if_icmp .ne 7, 3) := by decide +kernel
theorem dX0_fillLetter_49 : decode cX0_fillLetter 49 = .ok (.iconst 1, 1) := by decide +kernel
theorem dX0_fillLetter_50 : decode cX0_fillLetter 50 = .ok (.goto 4, 3) := by decide +kernel
theorem dX0_fillLetter_53 : decode cX0_fillLetter 53 = .ok (.iconst 0, 1) := by decide +kernel
theorem dX0_fillLetter_54 : decode cX0_fillLetter 54 = .ok (.istore 5, 2) := by decide +kernel
theorem dX0_fillLetter_56 : decode cX0_fillLetter 56 = .ok (.aload_n 0, 1) := by decide +kernel
theorem dX0_fillLetter_57 : decode cX0_fillLetter 57 = .ok (.getfield 27, 3) := by decide +kernel
theorem dX0_fillLetter_60 : decode cX0_fillLetter 60 = .ok (.iload 4, 2) := by decide +kernel
theorem dX0_fillLetter_62 : decode cX0_fillLetter 62 = .ok (.iload 6, 2) := by decide +kernel
theorem dX0_fillLetter_64 : decode cX0_fillLetter 64 = .ok (.isub, 1) := by decide +kernel
theorem dX0_fillLetter_65 : decode cX0_fillLetter 65 = .ok (.aload_n 0, 1) := by decide +kernel
theorem dX0_fillLetter_66 : decode cX0_fillLetter 66 = .ok (.getfield 24, 3) := by decide +kernel
theorem dX0_fillLetter_69 : decode cX0_fillLetter 69 = .ok (.imul, 1) := by decide +kernel
theorem dX0_fillLetter_70 : decode cX0_fillLetter 70 = .ok (.iadd, 1) := by decide +kernel
theorem dX0_fillLetter_71 : decode cX0_fillLetter 71 = .ok (.istore 7, 2) := by decide +kernel
theorem dX0_fillLetter_73 : decode cX0_fillLetter 73 = .ok (.iload 4, 2) := by decide +kernel
theorem dX0_fillLetter_75 : decode cX0_fillLetter 75 = .ok (.iload 6, 2) := by decide +kernel
theorem dX0_fillLetter_77 : decode cX0_fillLetter 77 = .ok (.isub, 1) := by decide +kernel
theorem dX0_fillLetter_78 : decode cX0_fillLetter 78 = .ok (.iconst 1, 1) := by decide +kernel
theorem dX0_fillLetter_79 : decode cX0_fillLetter 79 = .ok (.isub, 1) := by decide +kernel
theorem dX0_fillLetter_80 : decode cX0_fillLetter 80 = .ok (.aload_n 0, 1) := by decide +kernel
theorem dX0_fillLetter_81 : decode cX0_fillLetter 81 = .ok (.getfield 24, 3) := by decide +kernel
theorem dX0_fillLetter_84 : decode cX0_fillLetter 84 = .ok (.imul, 1) := by decide +kernel
theorem dX0_fillLetter_85 : decode cX0_fillLetter 85 = .ok (.iload 5, 2) := by decide +kernel
theorem dX0_fillLetter_87 : decode cX0_fillLetter 87 = .ok (.ifCond .eq 7, 3) := by decide +kernel
theorem dX0_fillLetter_90 : decode cX0_fillLetter 90 = .ok (.iconst 0, 1) := by decide +kernel
theorem dX0_fillLetter_91 : decode cX0_fillLetter 91 = .ok (.goto 7, 3) := by decide +kernel
theorem dX0_fillLetter_94 : decode cX0_fillLetter 94 = .ok (.aload_n 0, 1) := by decide +kernel
theorem dX0_fillLetter_95 : decode cX0_fillLetter 95 = .ok (.getfield 30, 3) := by decide +kernel
theorem dX0_fillLetter_98 : decode cX0_fillLetter 98 = .ok (.iadd, 1) := by decide +kernel
theorem dX0_fillLetter_99 : decode cX0_fillLetter 99 = .ok (.istore 8, 2) := by decide +kernel
theorem dX0_fillLetter_101 : decode cX0_fillLetter 101 = .ok (.aload_n 1, 1) := by decide +kernel
theorem dX0_fillLetter_102 : decode cX0_fillLetter 102 = .ok (.iload 6, 2) := by decide +kernel
theorem dX0_fillLetter_104 : decode cX0_fillLetter 104 = .ok (.iload 4, 2) := by decide +kernel
theorem dX0_fillLetter_106 : decode cX0_fillLetter 106 = .ok (.invokestatic 49, 3) := by decide +kernel
theorem dX0_fillLetter_109 : decode cX0_fillLetter 109 = .ok (.iload 7, 2) := by decide +kernel
theorem dX0_fillLetter_111 : decode cX0_fillLetter 111 = .ok (.iload 8, 2) := by decide +kernel
theorem dX0_fillLetter_113 : decode cX0_fillLetter 113 = .ok (.invokestatic 99, 3) := by decide +kernel
theorem dX0_fillLetter_116 : decode cX0_fillLetter 116 = .ok (.iastore, 1) := by decide +kernel
theorem dX0_fillLetter_117 : decode cX0_fillLetter 117 = .ok (.iinc 6 (-1), 3) := by decide +kernel
theorem dX0_fillLetter_120 : decode cX0_fillLetter 120 = .ok (.goto (-98), 3) := by decide +kernel
theorem dX0_fillLetter_123 : decode cX0_fillLetter 123 = .ok (.return_, 1) := by decide +kernel
theorem dX0_fillRow_0 : decode cX0_fillRow 0 = .ok (.iconst 0, 1) := by decide +kernel
theorem dX0_fillRow_1 : decode cX0_fillRow 1 = .ok (.istore 5, 2) := by decide +kernel
theorem dX0_fillRow_3 : decode cX0_fillRow 3 = .ok (.iload 5, 2) := by decide +kernel
theorem dX0_fillRow_5 : decode cX0_fillRow 5 = .ok (.iload 4, 2) := by decide +kernel
theorem dX0_fillRow_7 : decode cX0_fillRow 7 = .ok (.if_icmp .gt 67, 3) := by decide +kernel
theorem dX0_fillRow_10 : decode cX0_fillRow 10 = .ok (.ldc 48, 2) := by decide +kernel
theorem dX0_fillRow_12 : decode cX0_fillRow 12 = .ok (.istore 6, 2) := by decide +kernel
theorem dX0_fillRow_14 : decode cX0_fillRow 14 = .ok (.iload 5, 2) := by decide +kernel
theorem dX0_fillRow_16 : decode cX0_fillRow 16 = .ok (.istore 7, 2) := by decide +kernel
theorem dX0_fillRow_18 : decode cX0_fillRow 18 = .ok (.iload 7, 2) := by decide +kernel
theorem dX0_fillRow_20 : decode cX0_fillRow 20 = .ok (.iload 4, 2) := by decide +kernel
theorem dX0_fillRow_22 : decode cX0_fillRow 22 = .ok (.if_icmp .gt 35, 3) := by decide +kernel
theorem dX0_fillRow_25 : decode cX0_fillRow 25 = .ok (.iload 6, 2) := by decide +kernel
theorem dX0_fillRow_27 : decode cX0_fillRow 27 = .ok (.aload_n 2, 1) := by decide +kernel
theorem dX0_fillRow_28 : decode cX0_fillRow 28 = .ok (.iload 5, 2) := by decide +kernel
theorem dX0_fillRow_30 : decode cX0_fillRow 30 = .ok (.iload 7, 2) := by decide +kernel
theorem dX0_fillRow_32 : decode cX0_fillRow 32 = .ok (.invokestatic 49, 3) := by decide +kernel
theorem dX0_fillRow_35 : decode cX0_fillRow 35 = .ok (.iaload, 1) := by decide +kernel
theorem dX0_fillRow_36 : decode cX0_fillRow 36 = .ok (.aload_n 3, 1) := by decide +kernel
theorem dX0_fillRow_37 : decode cX0_fillRow 37 = .ok (.iload 7, 2) := by decide +kernel
theorem dX0_fillRow_39 : decode cX0_fillRow 39 = .ok (.iload 4, 2) := by decide +kernel
theorem dX0_fillRow_41 : decode cX0_fillRow 41 = .ok (.invokestatic 49, 3) := by decide +kernel
theorem dX0_fillRow_44 : decode cX0_fillRow 44 = .ok (.iaload, 1) := by decide +kernel
theorem dX0_fillRow_45 : decode cX0_fillRow 45 = .ok (.iadd, 1) := by decide +kernel
theorem dX0_fillRow_46 : decode cX0_fillRow 46 = .ok (.invokestatic 99, 3) := by decide +kernel
theorem dX0_fillRow_49 : decode cX0_fillRow 49 = .ok (.istore 6, 2) := by decide +kernel
theorem dX0_fillRow_51 : decode cX0_fillRow 51 = .ok (.iinc 7 1, 3) := by decide +kernel
theorem dX0_fillRow_54 : decode cX0_fillRow 54 = .ok (.goto (-36), 3) := by decide +kernel
theorem dX0_fillRow_57 : decode cX0_fillRow 57 = .ok (.aload_n 1, 1) := by decide +kernel
theorem dX0_fillRow_58 : decode cX0_fillRow 58 = .ok (.iload 5, 2) := by decide +kernel
theorem dX0_fillRow_60 : decode cX0_fillRow 60 = .ok (.iload 4, 2) := by decide +kernel
theorem dX0_fillRow_62 : decode cX0_fillRow 62 = .ok (.invokestatic 49, 3) := by decide +kernel
theorem dX0_fillRow_65 : decode cX0_fillRow 65 = .ok (.iload 6, 2) := by decide +kernel
theorem dX0_fillRow_67 : decode cX0_fillRow 67 = .ok (.iastore, 1) := by decide +kernel
theorem dX0_fillRow_68 : decode cX0_fillRow 68 = .ok (.iinc 5 1, 3) := by decide +kernel
theorem dX0_fillRow_71 : decode cX0_fillRow 71 = .ok (.goto (-68), 3) := by decide +kernel
theorem dX0_fillRow_74 : decode cX0_fillRow 74 = .ok (.return_, 1) := by decide +kernel
theorem dX0_fillEither_0 : decode cX0_fillEither 0 = .ok (.iconst 0, 1) := by decide +kernel
theorem dX0_fillEither_1 : decode cX0_fillEither 1 = .ok (.istore 5, 2) := by decide +kernel
theorem dX0_fillEither_3 : decode cX0_fillEither 3 = .ok (.iload 5, 2) := by decide +kernel
theorem dX0_fillEither_5 : decode cX0_fillEither 5 = .ok (.iload 4, 2) := by decide +kernel
theorem dX0_fillEither_7 : decode cX0_fillEither 7 = .ok (.if_icmp .gt 39, 3) := by decide +kernel
theorem dX0_fillEither_10 : decode cX0_fillEither 10 = .ok (.aload_n 1, 1) := by decide +kernel
theorem dX0_fillEither_11 : decode cX0_fillEither 11 = .ok (.iload 5, 2) := by decide +kernel
theorem dX0_fillEither_13 : decode cX0_fillEither 13 = .ok (.iload 4, 2) := by decide +kernel
theorem dX0_fillEither_15 : decode cX0_fillEither 15 = .ok (.invokestatic 49, 3) := by decide +kernel
theorem dX0_fillEither_18 : decode cX0_fillEither 18 = .ok (.aload_n 2, 1) := by decide +kernel
theorem dX0_fillEither_19 : decode cX0_fillEither 19 = .ok (.iload 5, 2) := by decide +kernel
theorem dX0_fillEither_21 : decode cX0_fillEither 21 = .ok (.iload 4, 2) := by decide +kernel
theorem dX0_fillEither_23 : decode cX0_fillEither 23 = .ok (.invokestatic 49, 3) := by decide +kernel
theorem dX0_fillEither_26 : decode cX0_fillEither 26 = .ok (.iaload, 1) := by decide +kernel
theorem dX0_fillEither_27 : decode cX0_fillEither 27 = .ok (.aload_n 3, 1) := by decide +kernel
theorem dX0_fillEither_28 : decode cX0_fillEither 28 = .ok (.iload 5, 2) := by decide +kernel
theorem dX0_fillEither_30 : decode cX0_fillEither 30 = .ok (.iload 4, 2) := by decide +kernel
theorem dX0_fillEither_32 : decode cX0_fillEither 32 = .ok (.invokestatic 49, 3) := by decide +kernel
theorem dX0_fillEither_35 : decode cX0_fillEither 35 = .ok (.iaload, 1) := by decide +kernel
theorem dX0_fillEither_36 : decode cX0_fillEither 36 = .ok (.invokestatic 99, 3) := by decide +kernel
theorem dX0_fillEither_39 : decode cX0_fillEither 39 = .ok (.iastore, 1) := by decide +kernel
theorem dX0_fillEither_40 : decode cX0_fillEither 40 = .ok (.iinc 5 1, 3) := by decide +kernel
theorem dX0_fillEither_43 : decode cX0_fillEither 43 = .ok (.goto (-40), 3) := by decide +kernel
theorem dX0_fillEither_46 : decode cX0_fillEither 46 = .ok (.return_, 1) := by decide +kernel
theorem dX0_fillMaybe_0 : decode cX0_fillMaybe 0 = .ok (.iconst 0, 1) := by decide +kernel
theorem dX0_fillMaybe_1 : decode cX0_fillMaybe 1 = .ok (.istore 4, 2) := by decide +kernel
theorem dX0_fillMaybe_3 : decode cX0_fillMaybe 3 = .ok (.iload 4, 2) := by decide +kernel
theorem dX0_fillMaybe_5 : decode cX0_fillMaybe 5 = .ok (.iload_n 3, 1) := by decide +kernel
theorem dX0_fillMaybe_6 : decode cX0_fillMaybe 6 = .ok (.if_icmp .gt 37, 3) := by decide +kernel
theorem dX0_fillMaybe_9 : decode cX0_fillMaybe 9 = .ok (.aload_n 1, 1) := by decide +kernel
theorem dX0_fillMaybe_10 : decode cX0_fillMaybe 10 = .ok (.iload 4, 2) := by decide +kernel
theorem dX0_fillMaybe_12 : decode cX0_fillMaybe 12 = .ok (.iload_n 3, 1) := by decide +kernel
theorem dX0_fillMaybe_13 : decode cX0_fillMaybe 13 = .ok (.invokestatic 49, 3) := by decide +kernel
theorem dX0_fillMaybe_16 : decode cX0_fillMaybe 16 = .ok (.iload_n 3, 1) := by decide +kernel
theorem dX0_fillMaybe_17 : decode cX0_fillMaybe 17 = .ok (.iload 4, 2) := by decide +kernel
theorem dX0_fillMaybe_19 : decode cX0_fillMaybe 19 = .ok (.isub, 1) := by decide +kernel
theorem dX0_fillMaybe_20 : decode cX0_fillMaybe 20 = .ok (.aload_n 0, 1) := by decide +kernel
theorem dX0_fillMaybe_21 : decode cX0_fillMaybe 21 = .ok (.getfield 24, 3) := by decide +kernel
theorem dX0_fillMaybe_24 : decode cX0_fillMaybe 24 = .ok (.imul, 1) := by decide +kernel
theorem dX0_fillMaybe_25 : decode cX0_fillMaybe 25 = .ok (.aload_n 2, 1) := by decide +kernel
theorem dX0_fillMaybe_26 : decode cX0_fillMaybe 26 = .ok (.iload 4, 2) := by decide +kernel
theorem dX0_fillMaybe_28 : decode cX0_fillMaybe 28 = .ok (.iload_n 3, 1) := by decide +kernel
theorem dX0_fillMaybe_29 : decode cX0_fillMaybe 29 = .ok (.invokestatic 49, 3) := by decide +kernel
theorem dX0_fillMaybe_32 : decode cX0_fillMaybe 32 = .ok (.iaload, 1) := by decide +kernel
theorem dX0_fillMaybe_33 : decode cX0_fillMaybe 33 = .ok (.invokestatic 99, 3) := by decide +kernel
theorem dX0_fillMaybe_36 : decode cX0_fillMaybe 36 = .ok (.iastore, 1) := by decide +kernel
theorem dX0_fillMaybe_37 : decode cX0_fillMaybe 37 = .ok (.iinc 4 1, 3) := by decide +kernel
theorem dX0_fillMaybe_40 : decode cX0_fillMaybe 40 = .ok (.goto (-37), 3) := by decide +kernel
theorem dX0_fillMaybe_43 : decode cX0_fillMaybe 43 = .ok (.return_, 1) := by decide +kernel
theorem dX0_fillLimit_0 : decode cX0_fillLimit 0 = .ok (.iconst 0, 1) := by decide +kernel
theorem dX0_fillLimit_1 : decode cX0_fillLimit 1 = .ok (.istore 5, 2) := by decide +kernel
theorem dX0_fillLimit_3 : decode cX0_fillLimit 3 = .ok (.iload 5, 2) := by decide +kernel
theorem dX0_fillLimit_5 : decode cX0_fillLimit 5 = .ok (.iload 4, 2) := by decide +kernel
theorem dX0_fillLimit_7 : decode cX0_fillLimit 7 = .ok (.if_icmp .gt 42, 3) := by decide +kernel
theorem dX0_fillLimit_10 : decode cX0_fillLimit 10 = .ok (.aload_n 2, 1) := by decide +kernel
theorem dX0_fillLimit_11 : decode cX0_fillLimit 11 = .ok (.iload 5, 2) := by decide +kernel
theorem dX0_fillLimit_13 : decode cX0_fillLimit 13 = .ok (.iload 4, 2) := by decide +kernel
theorem dX0_fillLimit_15 : decode cX0_fillLimit 15 = .ok (.invokestatic 49, 3) := by decide +kernel
theorem dX0_fillLimit_18 : decode cX0_fillLimit 18 = .ok (.iaload, 1) := by decide +kernel
theorem dX0_fillLimit_19 : decode cX0_fillLimit 19 = .ok (.istore 6, 2) := by decide +kernel
theorem dX0_fillLimit_21 : decode cX0_fillLimit 21 = .ok (.aload_n 1, 1) := by decide +kernel
theorem dX0_fillLimit_22 : decode cX0_fillLimit 22 = .ok (.iload 5, 2) := by decide +kernel
theorem dX0_fillLimit_24 : decode cX0_fillLimit 24 = .ok (.iload 4, 2) := by decide +kernel
theorem dX0_fillLimit_26 : decode cX0_fillLimit 26 = .ok (.invokestatic 49, 3) := by decide +kernel
theorem dX0_fillLimit_29 : decode cX0_fillLimit 29 = .ok (.iload 6, 2) := by decide +kernel
theorem dX0_fillLimit_31 : decode cX0_fillLimit 31 = .ok (.iload_n 3, 1) := by decide +kernel
theorem dX0_fillLimit_32 : decode cX0_fillLimit 32 = .ok (.if_icmp .gt 8, 3) := by decide +kernel
theorem dX0_fillLimit_35 : decode cX0_fillLimit 35 = .ok (.iload 6, 2) := by decide +kernel
theorem dX0_fillLimit_37 : decode cX0_fillLimit 37 = .ok (.goto 5, 3) := by decide +kernel
theorem dX0_fillLimit_40 : decode cX0_fillLimit 40 = .ok (.ldc 48, 2) := by decide +kernel
theorem dX0_fillLimit_42 : decode cX0_fillLimit 42 = .ok (.iastore, 1) := by decide +kernel
theorem dX0_fillLimit_43 : decode cX0_fillLimit 43 = .ok (.iinc 5 1, 3) := by decide +kernel
theorem dX0_fillLimit_46 : decode cX0_fillLimit 46 = .ok (.goto (-43), 3) := by decide +kernel
theorem dX0_fillLimit_49 : decode cX0_fillLimit 49 = .ok (.return_, 1) := by decide +kernel
theorem dX0_fillChains_0 : decode cX0_fillChains 0 = .ok (.iload_n 2, 1) := by decide +kernel
theorem dX0_fillChains_1 : decode cX0_fillChains 1 = .ok (.istore_n 3, 1) := by decide +kernel
theorem dX0_fillChains_2 : decode cX0_fillChains 2 = .ok (.iload_n 3, 1) := by decide +kernel
theorem dX0_fillChains_3 : decode cX0_fillChains 3 = .ok (.ifCond .lt 66, 3) := by decide +kernel
theorem dX0_fillChains_6 : decode cX0_fillChains 6 = .ok (.aload_n 1, 1) := by decide +kernel
theorem dX0_fillChains_7 : decode cX0_fillChains 7 = .ok (.iload_n 3, 1) := by decide +kernel
theorem dX0_fillChains_8 : decode cX0_fillChains 8 = .ok (.iload_n 2, 1) := by decide +kernel
theorem dX0_fillChains_9 : decode cX0_fillChains 9 = .ok (.invokestatic 49, 3) := by decide +kernel
theorem dX0_fillChains_12 : decode cX0_fillChains 12 = .ok (.iaload, 1) := by decide +kernel
theorem dX0_fillChains_13 : decode cX0_fillChains 13 = .ok (.istore 4, 2) := by decide +kernel
theorem dX0_fillChains_15 : decode cX0_fillChains 15 = .ok (.iload_n 3, 1) := by decide +kernel
theorem dX0_fillChains_16 : decode cX0_fillChains 16 = .ok (.iconst 1, 1) := by decide +kernel
theorem dX0_fillChains_17 : decode cX0_fillChains 17 = .ok (.iadd, 1) := by decide +kernel
theorem dX0_fillChains_18 : decode cX0_fillChains 18 = .ok (.istore 5, 2) := by decide +kernel
theorem dX0_fillChains_20 : decode cX0_fillChains 20 = .ok (.iload 5, 2) := by decide +kernel
theorem dX0_fillChains_22 : decode cX0_fillChains 22 = .ok (.iload_n 2, 1) := by decide +kernel
theorem dX0_fillChains_23 : decode cX0_fillChains 23 = .ok (.if_icmp .ge 32, 3) := by decide +kernel
theorem dX0_fillChains_26 : decode cX0_fillChains 26 = .ok (.iload 4, 2) := by decide +kernel
theorem dX0_fillChains_28 : decode cX0_fillChains 28 = .ok (.aload_n 1, 1) := by decide +kernel
theorem dX0_fillChains_29 : decode cX0_fillChains 29 = .ok (.iload_n 3, 1) := by decide +kernel
theorem dX0_fillChains_30 : decode cX0_fillChains 30 = .ok (.iload 5, 2) := by decide +kernel
theorem dX0_fillChains_32 : decode cX0_fillChains 32 = .ok (.invokestatic 49, 3) := by decide +kernel
theorem dX0_fillChains_35 : decode cX0_fillChains 35 = .ok (.iaload, 1) := by decide +kernel
theorem dX0_fillChains_36 : decode cX0_fillChains 36 = .ok (.aload_n 0, 1) := by decide +kernel
theorem dX0_fillChains_37 : decode cX0_fillChains 37 = .ok (.getfield 16, 3) := by decide +kernel
theorem dX0_fillChains_40 : decode cX0_fillChains 40 = .ok (.iload 5, 2) := by decide +kernel
theorem dX0_fillChains_42 : decode cX0_fillChains 42 = .ok (.iaload, 1) := by decide +kernel
theorem dX0_fillChains_43 : decode cX0_fillChains 43 = .ok (.iadd, 1) := by decide +kernel
theorem dX0_fillChains_44 : decode cX0_fillChains 44 = .ok (.invokestatic 99, 3) := by decide +kernel
theorem dX0_fillChains_47 : decode cX0_fillChains 47 = .ok (.istore 4, 2) := by decide +kernel
theorem dX0_fillChains_49 : decode cX0_fillChains 49 = .ok (.iinc 5 1, 3) := by decide +kernel
theorem dX0_fillChains_52 : decode cX0_fillChains 52 = .ok (.goto (-32), 3) := by decide +kernel
theorem dX0_fillChains_55 : decode cX0_fillChains 55 = .ok (.aload_n 0, 1) := by decide +kernel
theorem dX0_fillChains_56 : decode cX0_fillChains 56 = .ok (.getfield 16, 3) := by decide +kernel
theorem dX0_fillChains_59 : decode cX0_fillChains 59 = .ok (.iload_n 3, 1) := by decide +kernel
theorem dX0_fillChains_60 : decode cX0_fillChains 60 = .ok (.iload 4, 2) := by decide +kernel
theorem dX0_fillChains_62 : decode cX0_fillChains 62 = .ok (.iastore, 1) := by decide +kernel
theorem dX0_fillChains_63 : decode cX0_fillChains 63 = .ok (.iinc 3 (-1), 3) := by decide +kernel
theorem dX0_fillChains_66 : decode cX0_fillChains 66 = .ok (.goto (-64), 3) := by decide +kernel
theorem dX0_fillChains_69 : decode cX0_fillChains 69 = .ok (.return_, 1) := by decide +kernel
theorem dX0_fillRepeated_0 : decode cX0_fillRepeated 0 = .ok (.iconst 0, 1) := by decide +kernel
theorem dX0_fillRepeated_1 : decode cX0_fillRepeated 1 = .ok (.istore 4, 2) := by decide +kernel
theorem dX0_fillRepeated_3 : decode cX0_fillRepeated 3 = .ok (.iload 4, 2) := by decide +kernel
theorem dX0_fillRepeated_5 : decode cX0_fillRepeated 5 = .ok (.iload_n 3, 1) := by decide +kernel
theorem dX0_fillRepeated_6 : decode cX0_fillRepeated 6 = .ok (.if_icmp .gt 49, 3) := by decide +kernel
theorem dX0_fillRepeated_9 : decode cX0_fillRepeated 9 = .ok (.iload_n 2, 1) := by decide +kernel
theorem dX0_fillRepeated_10 : decode cX0_fillRepeated 10 = .ok (.ifCond .eq 15, 3) := by decide +kernel
theorem dX0_fillRepeated_13 : decode cX0_fillRepeated 13 = .ok (.iload_n 3, 1) := by decide +kernel
theorem dX0_fillRepeated_14 : decode cX0_fillRepeated 14 = .ok (.iload 4, 2) := by decide +kernel
theorem dX0_fillRepeated_16 : decode cX0_fillRepeated 16 = .ok (.isub, 1) := by decide +kernel
theorem dX0_fillRepeated_17 : decode cX0_fillRepeated 17 = .ok (.aload_n 0, 1) := by decide +kernel
theorem dX0_fillRepeated_18 : decode cX0_fillRepeated 18 = .ok (.getfield 24, 3) := by decide +kernel
theorem dX0_fillRepeated_21 : decode cX0_fillRepeated 21 = .ok (.imul, 1) := by decide +kernel
theorem dX0_fillRepeated_22 : decode cX0_fillRepeated 22 = .ok (.goto 5, 3) := by decide +kernel
theorem dX0_fillRepeated_25 : decode cX0_fillRepeated 25 = .ok (.ldc 48, 2) := by decide +kernel
theorem dX0_fillRepeated_27 : decode cX0_fillRepeated 27 = .ok (.istore 5, 2) := by decide +kernel
theorem dX0_fillRepeated_29 : decode cX0_fillRepeated 29 = .ok (.aload_n 1, 1) := by decide +kernel
theorem dX0_fillRepeated_30 : decode cX0_fillRepeated 30 = .ok (.iload 4, 2) := by decide +kernel
theorem dX0_fillRepeated_32 : decode cX0_fillRepeated 32 = .ok (.iload_n 3, 1) := by decide +kernel
theorem dX0_fillRepeated_33 : decode cX0_fillRepeated 33 = .ok (.invokestatic 49, 3) := by decide +kernel
theorem dX0_fillRepeated_36 : decode cX0_fillRepeated 36 = .ok (.iload 5, 2) := by decide +kernel
theorem dX0_fillRepeated_38 : decode cX0_fillRepeated 38 = .ok (.aload_n 0, 1) := by decide +kernel
theorem dX0_fillRepeated_39 : decode cX0_fillRepeated 39 = .ok (.getfield 16, 3) := by decide +kernel
theorem dX0_fillRepeated_42 : decode cX0_fillRepeated 42 = .ok (.iload 4, 2) := by decide +kernel
theorem dX0_fillRepeated_44 : decode cX0_fillRepeated 44 = .ok (.iaload, 1) := by decide +kernel
theorem dX0_fillRepeated_45 : decode cX0_fillRepeated 45 = .ok (.invokestatic 99, 3) := by decide +kernel
theorem dX0_fillRepeated_48 : decode cX0_fillRepeated 48 = .ok (.iastore, 1) := by decide +kernel
theorem dX0_fillRepeated_49 : decode cX0_fillRepeated 49 = .ok (.iinc 4 1, 3) := by decide +kernel
theorem dX0_fillRepeated_52 : decode cX0_fillRepeated 52 = .ok (.goto (-49), 3) := by decide +kernel
theorem dX0_fillRepeated_55 : decode cX0_fillRepeated 55 = .ok (.return_, 1) := by decide +kernel
theorem dX0_pieceAt_0 : decode cX0_pieceAt 0 = .ok (.iload_n 1, 1) := by decide +kernel
theorem dX0_pieceAt_1 : decode cX0_pieceAt 1 = .ok (.iload_n 1, 1) := by decide +kernel
theorem dX0_pieceAt_2 : decode cX0_pieceAt 2 = .ok (.iconst 1, 1) := by decide +kernel
theorem dX0_pieceAt_3 : decode cX0_pieceAt 3 = .ok (.iadd, 1) := by decide +kernel
theorem dX0_pieceAt_4 : decode cX0_pieceAt 4 = .ok (.imul, 1) := by decide +kernel
theorem dX0_pieceAt_5 : decode cX0_pieceAt 5 = .ok (.iconst 2, 1) := by decide +kernel
theorem dX0_pieceAt_6 : decode cX0_pieceAt 6 = .ok (.idiv, 1) := by decide +kernel
theorem dX0_pieceAt_7 : decode cX0_pieceAt 7 = .ok (.iload_n 0, 1) := by decide +kernel
theorem dX0_pieceAt_8 : decode cX0_pieceAt 8 = .ok (.iadd, 1) := by decide +kernel
theorem dX0_pieceAt_9 : decode cX0_pieceAt 9 = .ok (.ireturn, 1) := by decide +kernel
theorem dX1_init_0 : decode cX1_init 0 = .ok (.aload_n 0, 1) := by decide +kernel
theorem dX1_init_1 : decode cX1_init 1 = .ok (.invokespecial 3, 3) := by decide +kernel
theorem dX1_init_4 : decode cX1_init 4 = .ok (.aload_n 0, 1) := by decide +kernel
theorem dX1_init_5 : decode cX1_init 5 = .ok (.bipush 20, 2) := by decide +kernel
theorem dX1_init_7 : decode cX1_init 7 = .ok (.anewarray 9, 3) := by decide +kernel
theorem dX1_init_10 : decode cX1_init 10 = .ok (.putfield 11, 3) := by decide +kernel
theorem dX1_init_13 : decode cX1_init 13 = .ok (.aload_n 0, 1) := by decide +kernel
theorem dX1_init_14 : decode cX1_init 14 = .ok (.iconst 0, 1) := by decide +kernel
theorem dX1_init_15 : decode cX1_init 15 = .ok (.putfield 17, 3) := by decide +kernel
theorem dX1_init_18 : decode cX1_init 18 = .ok (.aload_n 0, 1) := by decide +kernel
theorem dX1_init_19 : decode cX1_init 19 = .ok (.bipush 20, 2) := by decide +kernel
theorem dX1_init_21 : decode cX1_init 21 = .ok (.newarray .int, 2) := by decide +kernel
theorem dX1_init_23 : decode cX1_init 23 = .ok (.putfield 21, 3) := by decide +kernel
theorem dX1_init_26 : decode cX1_init 26 = .ok (.aload_n 0, 1) := by decide +kernel
theorem dX1_init_27 : decode cX1_init 27 = .ok (.bipush 13, 2) := by decide +kernel
theorem dX1_init_29 : decode cX1_init 29 = .ok (.bipush 25, 2) := by decide +kernel
theorem dX1_init_31 : decode cX1_init 31 = .ok (.multianewarray 25 2, 4) := by decide +kernel
theorem dX1_init_35 : decode cX1_init 35 = .ok (.putfield 27, 3) := by decide +kernel
theorem dX1_init_38 : decode cX1_init 38 = .ok (.iconst 0, 1) := by decide +kernel
theorem dX1_init_39 : decode cX1_init 39 = .ok (.istore_n 1, 1) := by decide +kernel
theorem dX1_init_40 : decode cX1_init 40 = .ok (.iload_n 1, 1) := by decide +kernel
theorem dX1_init_41 : decode cX1_init 41 = .ok (.bipush 20, 2) := by decide +kernel
theorem dX1_init_43 : decode cX1_init 43 = .ok (.if_icmp .ge 22, 3) := by decide +kernel
theorem dX1_init_46 : decode cX1_init 46 = .ok (.aload_n 0, 1) := by decide +kernel
theorem dX1_init_47 : decode cX1_init 47 = .ok (.getfield 11, 3) := by decide +kernel
theorem dX1_init_50 : decode cX1_init 50 = .ok (.iload_n 1, 1) := by decide +kernel
theorem dX1_init_51 : decode cX1_init 51 = .ok (.new 9, 3) := by decide +kernel
theorem dX1_init_54 : decode cX1_init 54 = .ok (.dup, 1) := by decide +kernel
theorem dX1_init_55 : decode cX1_init 55 = .ok (.invokespecial 30, 3) := by decide +kernel
theorem dX1_init_58 : decode cX1_init 58 = .ok (.aastore, 1) := by decide +kernel
theorem dX1_init_59 : decode cX1_init 59 = .ok (.iinc 1 1, 3) := by decide +kernel
theorem dX1_init_62 : decode cX1_init 62 = .ok (.goto (-22), 3) := by decide +kernel
theorem dX1_init_65 : decode cX1_init 65 = .ok (.return_, 1) := by decide +kernel
theorem dX1_keep_0 : decode cX1_keep 0 = .ok (.aload_n 1, 1) := by decide +kernel
theorem dX1_keep_1 : decode cX1_keep 1 = .ok (.getfield 31, 3) := by decide +kernel
theorem dX1_keep_4 : decode cX1_keep 4 = .ok (.iconst 1, 1) := by decide +kernel
theorem dX1_keep_5 : decode cX1_keep 5 = .ok (.if_icmp .lt 25, 3) := by decide +kernel
theorem dX1_keep_8 : decode cX1_keep 8 = .ok (.aload_n 1, 1) := by decide +kernel
theorem dX1_keep_9 : decode cX1_keep 9 = .ok (.getfield 31, 3) := by decide +kernel
theorem dX1_keep_12 : decode cX1_keep 12 = .ok (.bipush 12, 2) := by decide +kernel
theorem dX1_keep_14 : decode cX1_keep 14 = .ok (.if_icmp .gt 16, 3) := by decide +kernel
theorem dX1_keep_17 : decode cX1_keep 17 = .ok (.aload_n 0, 1) := by decide +kernel
theorem dX1_keep_18 : decode cX1_keep 18 = .ok (.getfield 17, 3) := by decide +kernel
theorem dX1_keep_21 : decode cX1_keep 21 = .ok (.bipush 20, 2) := by decide +kernel
theorem dX1_keep_23 : decode cX1_keep 23 = .ok (.if_icmp .ge 7, 3) := by decide +kernel
theorem dX1_keep_26 : decode cX1_keep 26 = .ok (.iconst 1, 1) := by decide +kernel
theorem dX1_keep_27 : decode cX1_keep 27 = .ok (.goto 4, 3) := by decide +kernel
theorem dX1_keep_30 : decode cX1_keep 30 = .ok (.iconst 0, 1) := by decide +kernel
theorem dX1_keep_31 : decode cX1_keep 31 = .ok (.istore_n 2, 1) := by decide +kernel
theorem dX1_keep_32 : decode cX1_keep 32 = .ok (.iload_n 2, 1) := by decide +kernel
theorem dX1_keep_33 : decode cX1_keep 33 = .ok (.ifCond .eq 11, 3) := by decide +kernel
theorem dX1_keep_36 : decode cX1_keep 36 = .ok (.aload_n 0, 1) := by decide +kernel
theorem dX1_keep_37 : decode cX1_keep 37 = .ok (.aload_n 1, 1) := by decide +kernel
theorem dX1_keep_38 : decode cX1_keep 38 = .ok (.invokevirtual 32, 3) := by decide +kernel
theorem dX1_keep_41 : decode cX1_keep 41 = .ok (.ifCond .eq 5, 3) := by decide +kernel
theorem dX1_keep_44 : decode cX1_keep 44 = .ok (.iconst (-1), 1) := by decide +kernel
theorem dX1_keep_45 : decode cX1_keep 45 = .ok (.ireturn, 1) := by decide +kernel
theorem dX1_keep_46 : decode cX1_keep 46 = .ok (.aload_n 0, 1) := by decide +kernel
theorem dX1_keep_47 : decode cX1_keep 47 = .ok (.getfield 11, 3) := by decide +kernel
theorem dX1_keep_50 : decode cX1_keep 50 = .ok (.aload_n 0, 1) := by decide +kernel
theorem dX1_keep_51 : decode cX1_keep 51 = .ok (.getfield 17, 3) := by decide +kernel
theorem dX1_keep_54 : decode cX1_keep 54 = .ok (.aaload, 1) := by decide +kernel
theorem dX1_keep_55 : decode cX1_keep 55 = .ok (.aload_n 1, 1) := by decide +kernel
theorem dX1_keep_56 : decode cX1_keep 56 = .ok (.invokevirtual 36, 3) := by decide +kernel
theorem dX1_keep_59 : decode cX1_keep 59 = .ok (.aload_n 0, 1) := by decide +kernel
theorem dX1_keep_60 : decode cX1_keep 60 = .ok (.dup, 1) := by decide +kernel
theorem dX1_keep_61 : decode cX1_keep 61 = .ok (.getfield 17, 3) := by decide +kernel
theorem dX1_keep_64 : decode cX1_keep 64 = .ok (.iconst 1, 1) := by decide +kernel
theorem dX1_keep_65 : decode cX1_keep 65 = .ok (.iadd, 1) := by decide +kernel
theorem dX1_keep_66 : decode cX1_keep 66 = .ok (.putfield 17, 3) := by decide +kernel
theorem dX1_keep_69 : decode cX1_keep 69 = .ok (.aload_n 0, 1) := by decide +kernel
theorem dX1_keep_70 : decode cX1_keep 70 = .ok (.getfield 17, 3) := by decide +kernel
theorem dX1_keep_73 : decode cX1_keep 73 = .ok (.iconst 1, 1) := by decide +kernel
theorem dX1_keep_74 : decode cX1_keep 74 = .ok (.isub, 1) := by decide +kernel
theorem dX1_keep_75 : decode cX1_keep 75 = .ok (.ireturn, 1) := by decide +kernel
theorem dX1_holds_0 : decode cX1_holds 0 = .ok (.iconst 0, 1) := by decide +kernel
theorem dX1_holds_1 : decode cX1_holds 1 = .ok (.istore_n 2, 1) := by decide +kernel
theorem dX1_holds_2 : decode cX1_holds 2 = .ok (.iload_n 2, 1) := by decide +kernel
theorem dX1_holds_3 : decode cX1_holds 3 = .ok (.aload_n 0, 1) := by decide +kernel
theorem dX1_holds_4 : decode cX1_holds 4 = .ok (.getfield 17, 3) := by decide +kernel
theorem dX1_holds_7 : decode cX1_holds 7 = .ok (.if_icmp .ge 24, 3) := by decide +kernel
theorem dX1_holds_10 : decode cX1_holds 10 = .ok (.aload_n 0, 1) := by decide +kernel
theorem dX1_holds_11 : decode cX1_holds 11 = .ok (.getfield 11, 3) := by decide +kernel
theorem dX1_holds_14 : decode cX1_holds 14 = .ok (.iload_n 2, 1) := by decide +kernel
theorem dX1_holds_15 : decode cX1_holds 15 = .ok (.aaload, 1) := by decide +kernel
theorem dX1_holds_16 : decode cX1_holds 16 = .ok (.aload_n 1, 1) := by decide +kernel
theorem dX1_holds_17 : decode cX1_holds 17 = .ok (.invokevirtual 40, 3) := by decide +kernel
theorem dX1_holds_20 : decode cX1_holds 20 = .ok (.ifCond .ne 5, 3) := by decide +kernel
theorem dX1_holds_23 : decode cX1_holds 23 = .ok (.iconst 1, 1) := by decide +kernel
theorem dX1_holds_24 : decode cX1_holds 24 = .ok (.ireturn, 1) := by decide +kernel
theorem dX1_holds_25 : decode cX1_holds 25 = .ok (.iinc 2 1, 3) := by decide +kernel
theorem dX1_holds_28 : decode cX1_holds 28 = .ok (.goto (-26), 3) := by decide +kernel
theorem dX1_holds_31 : decode cX1_holds 31 = .ok (.iconst 0, 1) := by decide +kernel
theorem dX1_holds_32 : decode cX1_holds 32 = .ok (.ireturn, 1) := by decide +kernel
theorem dX1_distanceOf_0 : decode cX1_distanceOf 0 = .ok (.iload_n 1, 1) := by decide +kernel
theorem dX1_distanceOf_1 : decode cX1_distanceOf 1 = .ok (.ifCond .lt 11, 3) := by decide +kernel
theorem dX1_distanceOf_4 : decode cX1_distanceOf 4 = .ok (.iload_n 1, 1) := by decide +kernel
theorem dX1_distanceOf_5 : decode cX1_distanceOf 5 = .ok (.aload_n 0, 1) := by decide +kernel
theorem dX1_distanceOf_6 : decode cX1_distanceOf 6 = .ok (.getfield 17, 3) := by decide +kernel
theorem dX1_distanceOf_9 : decode cX1_distanceOf 9 = .ok (.if_icmp .lt 5, 3) := by decide +kernel
theorem dX1_distanceOf_12 : decode cX1_distanceOf 12 = .ok (.iconst (-1), 1) := by decide +kernel
theorem dX1_distanceOf_13 : decode cX1_distanceOf 13 = .ok (.ireturn, 1) := by decide +kernel
theorem dX1_distanceOf_14 : decode cX1_distanceOf 14 = .ok (.aload_n 0, 1) := by decide +kernel
theorem dX1_distanceOf_15 : decode cX1_distanceOf 15 = .ok (.getfield 11, 3) := by decide +kernel
theorem dX1_distanceOf_18 : decode cX1_distanceOf 18 = .ok (.iload_n 1, 1) := by decide +kernel
theorem dX1_distanceOf_19 : decode cX1_distanceOf 19 = .ok (.aaload, 1) := by decide +kernel
theorem dX1_distanceOf_20 : decode cX1_distanceOf 20 = .ok (.astore 4, 2) := by decide +kernel
theorem dX1_distanceOf_22 : decode cX1_distanceOf 22 = .ok (.iconst 0, 1) := by decide +kernel
theorem dX1_distanceOf_23 : decode cX1_distanceOf 23 = .ok (.istore 5, 2) := by decide +kernel
theorem dX1_distanceOf_25 : decode cX1_distanceOf 25 = .ok (.iload 5, 2) := by decide +kernel
theorem dX1_distanceOf_27 : decode cX1_distanceOf 27 = .ok (.aload 4, 2) := by decide +kernel
theorem dX1_distanceOf_29 : decode cX1_distanceOf 29 = .ok (.getfield 31, 3) := by decide +kernel
theorem dX1_distanceOf_32 : decode cX1_distanceOf 32 = .ok (.if_icmp .gt 49, 3) := by decide +kernel
theorem dX1_distanceOf_35 : decode cX1_distanceOf 35 = .ok (.iconst 0, 1) := by decide +kernel
theorem dX1_distanceOf_36 : decode cX1_distanceOf 36 = .ok (.istore 6, 2) := by decide +kernel
theorem dX1_distanceOf_38 : decode cX1_distanceOf 38 = .ok (.iload 6, 2) := by decide +kernel
theorem dX1_distanceOf_40 : decode cX1_distanceOf 40 = .ok (.aload_n 2, 1) := by decide +kernel
theorem dX1_distanceOf_41 : decode cX1_distanceOf 41 = .ok (.getfield 31, 3) := by decide +kernel
theorem dX1_distanceOf_44 : decode cX1_distanceOf 44 = .ok (.if_icmp .gt 31, 3) := by decide +kernel
theorem dX1_distanceOf_47 : decode cX1_distanceOf 47 = .ok (.aload_n 0, 1) := by decide +kernel
theorem dX1_distanceOf_48 : decode cX1_distanceOf 48 = .ok (.getfield 27, 3) := by decide +kernel
theorem dX1_distanceOf_51 : decode cX1_distanceOf 51 = .ok (.iload 5, 2) := by decide +kernel
theorem dX1_distanceOf_53 : decode cX1_distanceOf 53 = .ok (.aaload, 1) := by decide +kernel
theorem dX1_distanceOf_54 : decode cX1_distanceOf 54 = .ok (.iload 6, 2) := by decide +kernel
theorem dX1_distanceOf_56 : decode cX1_distanceOf 56 = .ok (.aload_n 0, 1) := by decide +kernel
theorem dX1_distanceOf_57 : decode cX1_distanceOf 57 = .ok (.aload 4, 2) := by decide +kernel
theorem dX1_distanceOf_59 : decode cX1_distanceOf 59 = .ok (.aload_n 2, 1) := by decide +kernel
theorem dX1_distanceOf_60 : decode cX1_distanceOf 60 = .ok (.iload 5, 2) := by decide +kernel
theorem dX1_distanceOf_62 : decode cX1_distanceOf 62 = .ok (.iload 6, 2) := by decide +kernel
theorem dX1_distanceOf_64 : decode cX1_distanceOf 64 = .ok (.iload_n 3, 1) := by decide +kernel
theorem dX1_distanceOf_65 : decode cX1_distanceOf 65 = .ok (.invokevirtual 44, 3) := by decide +kernel
theorem dX1_distanceOf_68 : decode cX1_distanceOf 68 = .ok (.iastore, 1) := by decide +kernel
theorem dX1_distanceOf_69 : decode cX1_distanceOf 69 = .ok (.iinc 6 1, 3) := by decide +kernel
theorem dX1_distanceOf_72 : decode cX1_distanceOf 72 = .ok (.goto (-34), 3) := by decide +kernel
theorem dX1_distanceOf_75 : decode cX1_distanceOf 75 = .ok (.iinc 5 1, 3) := by decide +kernel
theorem dX1_distanceOf_78 : decode cX1_distanceOf 78 = .ok (.goto (-53), 3) := by decide +kernel
theorem dX1_distanceOf_81 : decode cX1_distanceOf 81 = .ok (.aload_n 0, 1) := by decide +kernel
theorem dX1_distanceOf_82 : decode cX1_distanceOf 82 = .ok (.getfield 27, 3) := by decide +kernel
theorem dX1_distanceOf_85 : decode cX1_distanceOf 85 = .ok (.aload 4, 2) := by decide +kernel
theorem dX1_distanceOf_87 : decode cX1_distanceOf 87 = .ok (.getfield 31, 3) := by decide +kernel
theorem dX1_distanceOf_90 : decode cX1_distanceOf 90 = .ok (.aaload, 1) := by decide +kernel
theorem dX1_distanceOf_91 : decode cX1_distanceOf 91 = .ok (.aload_n 2, 1) := by decide +kernel
theorem dX1_distanceOf_92 : decode cX1_distanceOf 92 = .ok (.getfield 31, 3) := by decide +kernel
theorem dX1_distanceOf_95 : decode cX1_distanceOf 95 = .ok (.iaload, 1) := by decide +kernel
theorem dX1_distanceOf_96 : decode cX1_distanceOf 96 = .ok (.ireturn, 1) := by decide +kernel
theorem dX1_leastSteps_0 : decode cX1_leastSteps 0 = .ok (.iload_n 3, 1) := by decide +kernel
theorem dX1_leastSteps_1 : decode cX1_leastSteps 1 = .ok (.ifCond .le 8, 3) := by decide +kernel
theorem dX1_leastSteps_4 : decode cX1_leastSteps 4 = .ok (.iload 4, 2) := by decide +kernel
theorem dX1_leastSteps_6 : decode cX1_leastSteps 6 = .ok (.ifCond .gt 10, 3) := by decide +kernel
theorem dX1_leastSteps_9 : decode cX1_leastSteps 9 = .ok (.iload_n 3, 1) := by decide +kernel
theorem dX1_leastSteps_10 : decode cX1_leastSteps 10 = .ok (.iload 4, 2) := by decide +kernel
theorem dX1_leastSteps_12 : decode cX1_leastSteps 12 = .ok (.invokestatic 48, 3) := by decide +kernel
theorem dX1_leastSteps_15 : decode cX1_leastSteps 15 = .ok (.ireturn, 1) := by decide +kernel
theorem dX1_leastSteps_16 : decode cX1_leastSteps 16 = .ok (.aload_n 0, 1) := by decide +kernel
theorem dX1_leastSteps_17 : decode cX1_leastSteps 17 = .ok (.getfield 27, 3) := by decide +kernel
theorem dX1_leastSteps_20 : decode cX1_leastSteps 20 = .ok (.iload_n 3, 1) := by decide +kernel
theorem dX1_leastSteps_21 : decode cX1_leastSteps 21 = .ok (.iconst 1, 1) := by decide +kernel
theorem dX1_leastSteps_22 : decode cX1_leastSteps 22 = .ok (.isub, 1) := by decide +kernel
theorem dX1_leastSteps_23 : decode cX1_leastSteps 23 = .ok (.aaload, 1) := by decide +kernel
theorem dX1_leastSteps_24 : decode cX1_leastSteps 24 = .ok (.iload 4, 2) := by decide +kernel
theorem dX1_leastSteps_26 : decode cX1_leastSteps 26 = .ok (.iaload, 1) := by decide +kernel
theorem dX1_leastSteps_27 : decode cX1_leastSteps 27 = .ok (.aload_n 0, 1) := by decide +kernel
theorem dX1_leastSteps_28 : decode cX1_leastSteps 28 = .ok (.getfield 27, 3) := by decide +kernel
theorem dX1_leastSteps_31 : decode cX1_leastSteps 31 = .ok (.iload_n 3, 1) := by decide +kernel
theorem dX1_leastSteps_32 : decode cX1_leastSteps 32 = .ok (.aaload, 1) := by decide +kernel
theorem dX1_leastSteps_33 : decode cX1_leastSteps 33 = .ok (.iload 4, 2) := by decide +kernel
theorem dX1_leastSteps_35 : decode cX1_leastSteps 35 = .ok (.iconst 1, 1) := by decide +kernel
theorem dX1_leastSteps_36 : decode cX1_leastSteps 36 = .ok (.isub, 1) := by decide +kernel
theorem dX1_leastSteps_37 : decode cX1_leastSteps 37 = .ok (.iaload, 1) := by decide +kernel
theorem dX1_leastSteps_38 : decode cX1_leastSteps 38 = .ok (.invokestatic 54, 3) := by decide +kernel
theorem dX1_leastSteps_41 : decode cX1_leastSteps 41 = .ok (.iconst 1, 1) := by decide +kernel
theorem dX1_leastSteps_42 : decode cX1_leastSteps 42 = .ok (.iadd, 1) := by decide +kernel
theorem dX1_leastSteps_43 : decode cX1_leastSteps 43 = .ok (.istore 6, 2) := by decide +kernel
theorem dX1_leastSteps_45 : decode cX1_leastSteps 45 = .ok (.aload_n 1, 1) := by decide +kernel
theorem dX1_leastSteps_46 : decode cX1_leastSteps 46 = .ok (.iload_n 3, 1) := by decide +kernel
theorem dX1_leastSteps_47 : decode cX1_leastSteps 47 = .ok (.iconst 1, 1) := by decide +kernel
theorem dX1_leastSteps_48 : decode cX1_leastSteps 48 = .ok (.isub, 1) := by decide +kernel
theorem dX1_leastSteps_49 : decode cX1_leastSteps 49 = .ok (.invokevirtual 57, 3) := by decide +kernel
theorem dX1_leastSteps_52 : decode cX1_leastSteps 52 = .ok (.aload_n 2, 1) := by decide +kernel
theorem dX1_leastSteps_53 : decode cX1_leastSteps 53 = .ok (.iload 4, 2) := by decide +kernel
theorem dX1_leastSteps_55 : decode cX1_leastSteps 55 = .ok (.iconst 1, 1) := by decide +kernel
theorem dX1_leastSteps_56 : decode cX1_leastSteps 56 = .ok (.isub, 1) := by decide +kernel
theorem dX1_leastSteps_57 : decode cX1_leastSteps 57 = .ok (.invokevirtual 57, 3) := by decide +kernel
theorem dX1_leastSteps_60 : decode cX1_leastSteps 60 = .ok (.if_icmp .ne 7, 3) := by decide +kernel
theorem dX1_leastSteps_63 : decode cX1_leastSteps 63 = .ok (.iconst 1, 1) := by decide +kernel
theorem dX1_leastSteps_64 : decode cX1_leastSteps 64 = .ok (.goto 4, 3) := by decide +kernel
theorem dX1_leastSteps_67 : decode cX1_leastSteps 67 = .ok (.iconst 0, 1) := by decide +kernel
theorem dX1_leastSteps_68 : decode cX1_leastSteps 68 = .ok (.istore 7, 2) := by decide +kernel
theorem dX1_leastSteps_70 : decode cX1_leastSteps 70 = .ok (.iload 6, 2) := by decide +kernel
theorem dX1_leastSteps_72 : decode cX1_leastSteps 72 = .ok (.aload_n 0, 1) := by decide +kernel
theorem dX1_leastSteps_73 : decode cX1_leastSteps 73 = .ok (.getfield 27, 3) := by decide +kernel
theorem dX1_leastSteps_76 : decode cX1_leastSteps 76 = .ok (.iload_n 3, 1) := by decide +kernel
theorem dX1_leastSteps_77 : decode cX1_leastSteps 77 = .ok (.iconst 1, 1) := by decide +kernel
theorem dX1_leastSteps_78 : decode cX1_leastSteps 78 = .ok (.isub, 1) := by decide +kernel
theorem dX1_leastSteps_79 : decode cX1_leastSteps 79 = .ok (.aaload, 1) := by decide +kernel
theorem dX1_leastSteps_80 : decode cX1_leastSteps 80 = .ok (.iload 4, 2) := by decide +kernel
theorem dX1_leastSteps_82 : decode cX1_leastSteps 82 = .ok (.iconst 1, 1) := by decide +kernel
theorem dX1_leastSteps_83 : decode cX1_leastSteps 83 = .ok (.isub, 1) := by decide +kernel
theorem dX1_leastSteps_84 : decode cX1_leastSteps 84 = .ok (.iaload, 1) := by decide +kernel
theorem dX1_leastSteps_85 : decode cX1_leastSteps 85 = .ok (.iload 7, 2) := by decide +kernel
theorem dX1_leastSteps_87 : decode cX1_leastSteps 87 = .ok (.ifCond .eq 7, 3) := by decide +kernel
theorem dX1_leastSteps_90 : decode cX1_leastSteps 90 = .ok (.iconst 0, 1) := by decide +kernel
theorem dX1_leastSteps_91 : decode cX1_leastSteps 91 = .ok (.goto 4, 3) := by decide +kernel
theorem dX1_leastSteps_94 : decode cX1_leastSteps 94 = .ok (.iconst 1, 1) := by decide +kernel
theorem dX1_leastSteps_95 : decode cX1_leastSteps 95 = .ok (.iadd, 1) := by decide +kernel
theorem dX1_leastSteps_96 : decode cX1_leastSteps 96 = .ok (.invokestatic 54, 3) := by decide +kernel
theorem dX1_leastSteps_99 : decode cX1_leastSteps 99 = .ok (.istore 6, 2) := by decide +kernel
theorem dX1_leastSteps_101 : decode cX1_leastSteps 101 = .ok (.iload 5, 2) := by decide +kernel
theorem dX1_leastSteps_103 : decode cX1_leastSteps 103 = .ok (.ifCond .eq 47, 3) := by decide +kernel
theorem dX1_leastSteps_106 : decode cX1_leastSteps 106 = .ok (.iload_n 3, 1) := by decide +kernel
theorem dX1_leastSteps_107 : decode cX1_leastSteps 107 = .ok (.iconst 2, 1) := by decide +kernel
theorem dX1_leastSteps_108 : decode cX1_leastSteps 108 = .ok (.if_icmp .lt 42, 3) := by decide +kernel
theorem dX1_leastSteps_111 : decode cX1_leastSteps 111 = .ok (.iload 4, 2) := by decide +kernel
theorem dX1_leastSteps_113 : decode cX1_leastSteps 113 = .ok (.iconst 2, 1) := by decide +kernel
theorem dX1_leastSteps_114 : decode cX1_leastSteps 114 = .ok (.if_icmp .lt 36, 3) := by decide +kernel
theorem dX1_leastSteps_117 : decode cX1_leastSteps 117 = .ok (.aload_n 1, 1) := by decide +kernel
theorem dX1_leastSteps_118 : decode cX1_leastSteps 118 = .ok (.aload_n 2, 1) := by decide +kernel
theorem dX1_leastSteps_119 : decode cX1_leastSteps 119 = .ok (.iload_n 3, 1) := by decide +kernel
theorem dX1_leastSteps_120 : decode cX1_leastSteps 120 = .ok (.iload 4, 2) := by decide +kernel
theorem dX1_leastSteps_122 : decode cX1_leastSteps 122 = .ok (.invokestatic 61, 3) := by decide +kernel
theorem dX1_leastSteps_125 : decode cX1_leastSteps 125 = .ok (.ifCond .eq 25, 3) := by decide +kernel
theorem dX1_leastSteps_128 : decode cX1_leastSteps 128 = .ok (.iload 6, 2) := by decide +kernel
theorem dX1_leastSteps_130 : decode cX1_leastSteps 130 = .ok (.aload_n 0, 1) := by decide +kernel
theorem dX1_leastSteps_131 : decode cX1_leastSteps 131 = .ok (.getfield 27, 3) := by decide +kernel
theorem dX1_leastSteps_134 : decode cX1_leastSteps 134 = .ok (.iload_n 3, 1) := by decide +kernel
theorem dX1_leastSteps_135 : decode cX1_leastSteps 135 = .ok (.iconst 2, 1) := by decide +kernel
theorem dX1_leastSteps_136 : decode cX1_leastSteps 136 = .ok (.isub, 1) := by decide +kernel
theorem dX1_leastSteps_137 : decode cX1_leastSteps 137 = .ok (.aaload, 1) := by decide +kernel
theorem dX1_leastSteps_138 : decode cX1_leastSteps 138 = .ok (.iload 4, 2) := by decide +kernel
theorem dX1_leastSteps_140 : decode cX1_leastSteps 140 = .ok (.iconst 2, 1) := by decide +kernel
theorem dX1_leastSteps_141 : decode cX1_leastSteps 141 = .ok (.isub, 1) := by decide +kernel
theorem dX1_leastSteps_142 : decode cX1_leastSteps 142 = .ok (.iaload, 1) := by decide +kernel
theorem dX1_leastSteps_143 : decode cX1_leastSteps 143 = .ok (.iconst 1, 1) := by decide +kernel
theorem dX1_leastSteps_144 : decode cX1_leastSteps 144 = .ok (.iadd, 1) := by decide +kernel
theorem dX1_leastSteps_145 : decode cX1_leastSteps 145 = .ok (.invokestatic 54, 3) := by decide +kernel
theorem dX1_leastSteps_148 : decode cX1_leastSteps 148 = .ok (.istore 6, 2) := by decide +kernel
theorem dX1_leastSteps_150 : decode cX1_leastSteps 150 = .ok (.iload 6, 2) := by decide +kernel
theorem dX1_leastSteps_152 : decode cX1_leastSteps 152 = .ok (.ireturn, 1) := by decide +kernel
theorem dX1_areExchanged_0 : decode cX1_areExchanged 0 = .ok (.aload_n 0, 1) := by decide +kernel
theorem dX1_areExchanged_1 : decode cX1_areExchanged 1 = .ok (.iload_n 2, 1) := by decide +kernel
theorem dX1_areExchanged_2 : decode cX1_areExchanged 2 = .ok (.iconst 2, 1) := by decide +kernel
theorem dX1_areExchanged_3 : decode cX1_areExchanged 3 = .ok (.isub, 1) := by decide +kernel
theorem dX1_areExchanged_4 : decode cX1_areExchanged 4 = .ok (.invokevirtual 57, 3) := by decide +kernel
theorem dX1_areExchanged_7 : decode cX1_areExchanged 7 = .ok (.aload_n 1, 1) := by decide +kernel
theorem dX1_areExchanged_8 : decode cX1_areExchanged 8 = .ok (.iload_n 3, 1) := by decide +kernel
theorem dX1_areExchanged_9 : decode cX1_areExchanged 9 = .ok (.iconst 1, 1) := by decide +kernel
theorem dX1_areExchanged_10 : decode cX1_areExchanged 10 = .ok (.isub, 1) := by decide +kernel
theorem dX1_areExchanged_11 : decode cX1_areExchanged 11 = .ok (.invokevirtual 57, 3) := by decide +kernel
theorem dX1_areExchanged_14 : decode cX1_areExchanged 14 = .ok (.if_icmp .ne 24, 3) := by decide +kernel
theorem dX1_areExchanged_17 : decode cX1_areExchanged 17 = .ok (.aload_n 0, 1) := by decide +kernel
theorem dX1_areExchanged_18 : decode cX1_areExchanged 18 = .ok (.iload_n 2, 1) := by decide +kernel
theorem dX1_areExchanged_19 : decode cX1_areExchanged 19 = .ok (.iconst 1, 1) := by decide +kernel
theorem dX1_areExchanged_20 : decode cX1_areExchanged 20 = .ok (.isub, 1) := by decide +kernel
theorem dX1_areExchanged_21 : decode cX1_areExchanged 21 = .ok (.invokevirtual 57, 3) := by decide +kernel
theorem dX1_areExchanged_24 : decode cX1_areExchanged 24 = .ok (.aload_n 1, 1) := by decide +kernel
theorem dX1_areExchanged_25 : decode cX1_areExchanged 25 = .ok (.iload_n 3, 1) := by decide +kernel
theorem dX1_areExchanged_26 : decode cX1_areExchanged 26 = .ok (.iconst 2, 1) := by decide +kernel
theorem dX1_areExchanged_27 : decode cX1_areExchanged 27 = .ok (.isub, 1) := by decide +kernel
theorem dX1_areExchanged_28 : decode cX1_areExchanged 28 = .ok (.invokevirtual 57, 3) := by decide +kernel
theorem dX1_areExchanged_31 : decode cX1_areExchanged 31 = .ok (.if_icmp .ne 7, 3) := by decide +kernel
theorem dX1_areExchanged_34 : decode cX1_areExchanged 34 = .ok (.iconst 1, 1) := by decide +kernel
theorem dX1_areExchanged_35 : decode cX1_areExchanged 35 = .ok (.goto 4, 3) := by decide +kernel
theorem dX1_areExchanged_38 : decode cX1_areExchanged 38 = .ok (.iconst 0, 1) := by decide +kernel
theorem dX1_areExchanged_39 : decode cX1_areExchanged 39 = .ok (.ireturn, 1) := by decide +kernel
theorem dX1_countWithin_0 : decode cX1_countWithin 0 = .ok (.iconst 0, 1) := by decide +kernel
theorem dX1_countWithin_1 : decode cX1_countWithin 1 = .ok (.istore 4, 2) := by decide +kernel
theorem dX1_countWithin_3 : decode cX1_countWithin 3 = .ok (.iconst 0, 1) := by decide +kernel
theorem dX1_countWithin_4 : decode cX1_countWithin 4 = .ok (.istore 5, 2) := by decide +kernel
theorem dX1_countWithin_6 : decode cX1_countWithin 6 = .ok (.iload 5, 2) := by decide +kernel
theorem dX1_countWithin_8 : decode cX1_countWithin 8 = .ok (.aload_n 0, 1) := by decide +kernel
theorem dX1_countWithin_9 : decode cX1_countWithin 9 = .ok (.getfield 17, 3) := by decide +kernel
theorem dX1_countWithin_12 : decode cX1_countWithin 12 = .ok (.if_icmp .ge 24, 3) := by decide +kernel
theorem dX1_countWithin_15 : decode cX1_countWithin 15 = .ok (.aload_n 0, 1) := by decide +kernel
theorem dX1_countWithin_16 : decode cX1_countWithin 16 = .ok (.iload 5, 2) := by decide +kernel
theorem dX1_countWithin_18 : decode cX1_countWithin 18 = .ok (.aload_n 2, 1) := by decide +kernel
theorem dX1_countWithin_19 : decode cX1_countWithin 19 = .ok (.iload_n 3, 1) := by decide +kernel
theorem dX1_countWithin_20 : decode cX1_countWithin 20 = .ok (.invokevirtual 65, 3) := by decide +kernel
theorem dX1_countWithin_23 : decode cX1_countWithin 23 = .ok (.iload_n 1, 1) := by decide +kernel
theorem dX1_countWithin_24 : decode cX1_countWithin 24 = .ok (.if_icmp .gt 6, 3) := by decide +kernel
theorem dX1_countWithin_27 : decode cX1_countWithin 27 = .ok (.iinc 4 1, 3) := by decide +kernel
theorem dX1_countWithin_30 : decode cX1_countWithin 30 = .ok (.iinc 5 1, 3) := by decide +kernel
theorem dX1_countWithin_33 : decode cX1_countWithin 33 = .ok (.goto (-27), 3) := by decide +kernel
theorem dX1_countWithin_36 : decode cX1_countWithin 36 = .ok (.iload 4, 2) := by decide +kernel
theorem dX1_countWithin_38 : decode cX1_countWithin 38 = .ok (.ireturn, 1) := by decide +kernel
theorem dX1_wordAtRank_0 : decode cX1_wordAtRank 0 = .ok (.iconst 0, 1) := by decide +kernel
theorem dX1_wordAtRank_1 : decode cX1_wordAtRank 1 = .ok (.istore 4, 2) := by decide +kernel
theorem dX1_wordAtRank_3 : decode cX1_wordAtRank 3 = .ok (.iload 4, 2) := by decide +kernel
theorem dX1_wordAtRank_5 : decode cX1_wordAtRank 5 = .ok (.aload_n 0, 1) := by decide +kernel
theorem dX1_wordAtRank_6 : decode cX1_wordAtRank 6 = .ok (.getfield 17, 3) := by decide +kernel
theorem dX1_wordAtRank_9 : decode cX1_wordAtRank 9 = .ok (.if_icmp .ge 24, 3) := by decide +kernel
theorem dX1_wordAtRank_12 : decode cX1_wordAtRank 12 = .ok (.aload_n 0, 1) := by decide +kernel
theorem dX1_wordAtRank_13 : decode cX1_wordAtRank 13 = .ok (.getfield 21, 3) := by decide +kernel
theorem dX1_wordAtRank_16 : decode cX1_wordAtRank 16 = .ok (.iload 4, 2) := by decide +kernel
theorem dX1_wordAtRank_18 : decode cX1_wordAtRank 18 = .ok (.aload_n 0, 1) := by decide +kernel
theorem dX1_wordAtRank_19 : decode cX1_wordAtRank 19 = .ok (.iload 4, 2) := by decide +kernel
theorem dX1_wordAtRank_21 : decode cX1_wordAtRank 21 = .ok (.aload_n 2, 1) := by decide +kernel
theorem dX1_wordAtRank_22 : decode cX1_wordAtRank 22 = .ok (.iload_n 3, 1) := by decide +kernel
theorem dX1_wordAtRank_23 : decode cX1_wordAtRank 23 = .ok (.invokevirtual 65, 3) := by decide +kernel
theorem dX1_wordAtRank_26 : decode cX1_wordAtRank 26 = .ok (.iastore, 1) := by decide +kernel
theorem dX1_wordAtRank_27 : decode cX1_wordAtRank 27 = .ok (.iinc 4 1, 3) := by decide +kernel
theorem dX1_wordAtRank_30 : decode cX1_wordAtRank 30 = .ok (.goto (-27), 3) := by decide +kernel
theorem dX1_wordAtRank_33 : decode cX1_wordAtRank 33 = .ok (.iconst 0, 1) := by decide +kernel
theorem dX1_wordAtRank_34 : decode cX1_wordAtRank 34 = .ok (.istore 4, 2) := by decide +kernel
theorem dX1_wordAtRank_36 : decode cX1_wordAtRank 36 = .ok (.iload 4, 2) := by decide +kernel
theorem dX1_wordAtRank_38 : decode cX1_wordAtRank 38 = .ok (.aload_n 0, 1) := by decide +kernel
theorem dX1_wordAtRank_39 : decode cX1_wordAtRank 39 = .ok (.getfield 17, 3) := by decide +kernel
theorem dX1_wordAtRank_42 : decode cX1_wordAtRank 42 = .ok (.if_icmp .ge 22, 3) := by decide +kernel
theorem dX1_wordAtRank_45 : decode cX1_wordAtRank 45 = .ok (.aload_n 0, 1) := by decide +kernel
theorem dX1_wordAtRank_46 : decode cX1_wordAtRank 46 = .ok (.iload 4, 2) := by decide +kernel
theorem dX1_wordAtRank_48 : decode cX1_wordAtRank 48 = .ok (.invokevirtual 69, 3) := by decide +kernel
theorem dX1_wordAtRank_51 : decode cX1_wordAtRank 51 = .ok (.iload_n 1, 1) := by decide +kernel
theorem dX1_wordAtRank_52 : decode cX1_wordAtRank 52 = .ok (.if_icmp .ne 6, 3) := by decide +kernel
theorem dX1_wordAtRank_55 : decode cX1_wordAtRank 55 = .ok (.iload 4, 2) := by decide +kernel
theorem dX1_wordAtRank_57 : decode cX1_wordAtRank 57 = .ok (.ireturn, 1) := by decide +kernel
theorem dX1_wordAtRank_58 : decode cX1_wordAtRank 58 = .ok (.iinc 4 1, 3) := by decide +kernel
theorem dX1_wordAtRank_61 : decode cX1_wordAtRank 61 = .ok (.goto (-25), 3) := by decide +kernel
theorem dX1_wordAtRank_64 : decode cX1_wordAtRank 64 = .ok (.iconst (-1), 1) := by decide +kernel
theorem dX1_wordAtRank_65 : decode cX1_wordAtRank 65 = .ok (.ireturn, 1) := by decide +kernel
theorem dX1_rankOf_0 : decode cX1_rankOf 0 = .ok (.iconst 0, 1) := by decide +kernel
theorem dX1_rankOf_1 : decode cX1_rankOf 1 = .ok (.istore_n 2, 1) := by decide +kernel
theorem dX1_rankOf_2 : decode cX1_rankOf 2 = .ok (.iconst 0, 1) := by decide +kernel
theorem dX1_rankOf_3 : decode cX1_rankOf 3 = .ok (.istore_n 3, 1) := by decide +kernel
theorem dX1_rankOf_4 : decode cX1_rankOf 4 = .ok (.iload_n 3, 1) := by decide +kernel
theorem dX1_rankOf_5 : decode cX1_rankOf 5 = .ok (.aload_n 0, 1) := by decide +kernel
theorem dX1_rankOf_6 : decode cX1_rankOf 6 = .ok (.getfield 17, 3) := by decide +kernel
theorem dX1_rankOf_9 : decode cX1_rankOf 9 = .ok (.if_icmp .ge 21, 3) := by decide +kernel
theorem dX1_rankOf_12 : decode cX1_rankOf 12 = .ok (.aload_n 0, 1) := by decide +kernel
theorem dX1_rankOf_13 : decode cX1_rankOf 13 = .ok (.iload_n 3, 1) := by decide +kernel
theorem dX1_rankOf_14 : decode cX1_rankOf 14 = .ok (.iload_n 1, 1) := by decide +kernel
theorem dX1_rankOf_15 : decode cX1_rankOf 15 = .ok (.invokevirtual 73, 3) := by decide +kernel
theorem dX1_rankOf_18 : decode cX1_rankOf 18 = .ok (.ifCond .eq 6, 3) := by decide +kernel
theorem dX1_rankOf_21 : decode cX1_rankOf 21 = .ok (.iinc 2 1, 3) := by decide +kernel
theorem dX1_rankOf_24 : decode cX1_rankOf 24 = .ok (.iinc 3 1, 3) := by decide +kernel
theorem dX1_rankOf_27 : decode cX1_rankOf 27 = .ok (.goto (-23), 3) := by decide +kernel
theorem dX1_rankOf_30 : decode cX1_rankOf 30 = .ok (.iload_n 2, 1) := by decide +kernel
theorem dX1_rankOf_31 : decode cX1_rankOf 31 = .ok (.ireturn, 1) := by decide +kernel
theorem dX1_comesBefore_0 : decode cX1_comesBefore 0 = .ok (.aload_n 0, 1) := by decide +kernel
theorem dX1_comesBefore_1 : decode cX1_comesBefore 1 = .ok (.getfield 21, 3) := by decide +kernel
theorem dX1_comesBefore_4 : decode cX1_comesBefore 4 = .ok (.iload_n 1, 1) := by decide +kernel
theorem dX1_comesBefore_5 : decode cX1_comesBefore 5 = .ok (.iaload, 1) := by decide +kernel
theorem dX1_comesBefore_6 : decode cX1_comesBefore 6 = .ok (.aload_n 0, 1) := by decide +kernel
theorem dX1_comesBefore_7 : decode cX1_comesBefore 7 = .ok (.getfield 21, 3) := by decide +kernel
theorem dX1_comesBefore_10 : decode cX1_comesBefore 10 = .ok (.iload_n 2, 1) := by decide +kernel
theorem dX1_comesBefore_11 : decode cX1_comesBefore 11 = .ok (.iaload, 1) := by decide +kernel
theorem dX1_comesBefore_12 : decode cX1_comesBefore 12 = .ok (.if_icmp .eq 24, 3) := by decide +kernel
theorem dX1_comesBefore_15 : decode cX1_comesBefore 15 = .ok (.aload_n 0, 1) := by decide +kernel
theorem dX1_comesBefore_16 : decode cX1_comesBefore 16 = .ok (.getfield 21, 3) := by decide +kernel
theorem dX1_comesBefore_19 : decode cX1_comesBefore 19 = .ok (.iload_n 1, 1) := by decide +kernel
theorem dX1_comesBefore_20 : decode cX1_comesBefore 20 = .ok (.iaload, 1) := by decide +kernel
theorem dX1_comesBefore_21 : decode cX1_comesBefore 21 = .ok (.aload_n 0, 1) := by decide +kernel
theorem dX1_comesBefore_22 : decode cX1_comesBefore 22 = .ok (.getfield 21, 3) := by decide +kernel
theorem dX1_comesBefore_25 : decode cX1_comesBefore 25 = .ok (.iload_n 2, 1) := by decide +kernel
theorem dX1_comesBefore_26 : decode cX1_comesBefore 26 = .ok (.iaload, 1) := by decide +kernel
theorem dX1_comesBefore_27 : decode cX1_comesBefore 27 = .ok (.if_icmp .ge 7, 3) := by decide +kernel
theorem dX1_comesBefore_30 : decode cX1_comesBefore 30 = .ok (.iconst 1, 1) := by decide +kernel
theorem dX1_comesBefore_31 : decode cX1_comesBefore 31 = .ok (.goto 4, 3) := by decide +kernel
theorem dX1_comesBefore_34 : decode cX1_comesBefore 34 = .ok (.iconst 0, 1) := by decide +kernel
theorem dX1_comesBefore_35 : decode cX1_comesBefore 35 = .ok (.ireturn, 1) := by decide +kernel
theorem dX1_comesBefore_36 : decode cX1_comesBefore 36 = .ok (.aload_n 0, 1) := by decide +kernel
theorem dX1_comesBefore_37 : decode cX1_comesBefore 37 = .ok (.getfield 11, 3) := by decide +kernel
theorem dX1_comesBefore_40 : decode cX1_comesBefore 40 = .ok (.iload_n 1, 1) := by decide +kernel
theorem dX1_comesBefore_41 : decode cX1_comesBefore 41 = .ok (.aaload, 1) := by decide +kernel
theorem dX1_comesBefore_42 : decode cX1_comesBefore 42 = .ok (.aload_n 0, 1) := by decide +kernel
theorem dX1_comesBefore_43 : decode cX1_comesBefore 43 = .ok (.getfield 11, 3) := by decide +kernel
theorem dX1_comesBefore_46 : decode cX1_comesBefore 46 = .ok (.iload_n 2, 1) := by decide +kernel
theorem dX1_comesBefore_47 : decode cX1_comesBefore 47 = .ok (.aaload, 1) := by decide +kernel
theorem dX1_comesBefore_48 : decode cX1_comesBefore 48 = .ok (.invokevirtual 40, 3) := by decide +kernel
theorem dX1_comesBefore_51 : decode cX1_comesBefore 51 = .ok (.ifCond .ge 7, 3) := by decide +kernel
theorem dX1_comesBefore_54 : decode cX1_comesBefore 54 = .ok (.iconst 1, 1) := by decide +kernel
theorem dX1_comesBefore_55 : decode cX1_comesBefore 55 = .ok (.goto 4, 3) := by decide +kernel
theorem dX1_comesBefore_58 : decode cX1_comesBefore 58 = .ok (.iconst 0, 1) := by decide +kernel
theorem dX1_comesBefore_59 : decode cX1_comesBefore 59 = .ok (.ireturn, 1) := by decide +kernel
theorem dX2_init_0 : decode cX2_init 0 = .ok (.aload_n 0, 1) := by decide +kernel
theorem dX2_init_1 : decode cX2_init 1 = .ok (.invokespecial 3, 3) := by decide +kernel
theorem dX2_init_4 : decode cX2_init 4 = .ok (.aload_n 0, 1) := by decide +kernel
theorem dX2_init_5 : decode cX2_init 5 = .ok (.new 9, 3) := by decide +kernel
theorem dX2_init_8 : decode cX2_init 8 = .ok (.dup, 1) := by decide +kernel
theorem dX2_init_9 : decode cX2_init 9 = .ok (.invokespecial 11, 3) := by decide +kernel
theorem dX2_init_12 : decode cX2_init 12 = .ok (.putfield 12, 3) := by decide +kernel
theorem dX2_init_15 : decode cX2_init 15 = .ok (.aload_n 0, 1) := by decide +kernel
theorem dX2_init_16 : decode cX2_init 16 = .ok (.iconst 0, 1) := by decide +kernel
theorem dX2_init_17 : decode cX2_init 17 = .ok (.putfield 18, 3) := by decide +kernel
theorem dX2_init_20 : decode cX2_init 20 = .ok (.aload_n 0, 1) := by decide +kernel
theorem dX2_init_21 : decode cX2_init 21 = .ok (.iconst 0, 1) := by decide +kernel
theorem dX2_init_22 : decode cX2_init 22 = .ok (.putfield 22, 3) := by decide +kernel
theorem dX2_init_25 : decode cX2_init 25 = .ok (.aload_n 0, 1) := by decide +kernel
theorem dX2_init_26 : decode cX2_init 26 = .ok (.bipush 7, 2) := by decide +kernel
theorem dX2_init_28 : decode cX2_init 28 = .ok (.newarray .int, 2) := by decide +kernel
theorem dX2_init_30 : decode cX2_init 30 = .ok (.putfield 25, 3) := by decide +kernel
theorem dX2_init_33 : decode cX2_init 33 = .ok (.aload_n 0, 1) := by decide +kernel
theorem dX2_init_34 : decode cX2_init 34 = .ok (.bipush 7, 2) := by decide +kernel
theorem dX2_init_36 : decode cX2_init 36 = .ok (.newarray .int, 2) := by decide +kernel
theorem dX2_init_38 : decode cX2_init 38 = .ok (.putfield 29, 3) := by decide +kernel
theorem dX2_init_41 : decode cX2_init 41 = .ok (.aload_n 0, 1) := by decide +kernel
theorem dX2_init_42 : decode cX2_init 42 = .ok (.bipush 7, 2) := by decide +kernel
theorem dX2_init_44 : decode cX2_init 44 = .ok (.newarray .int, 2) := by decide +kernel
theorem dX2_init_46 : decode cX2_init 46 = .ok (.putfield 32, 3) := by decide +kernel
theorem dX2_init_49 : decode cX2_init 49 = .ok (.aload_n 0, 1) := by decide +kernel
theorem dX2_init_50 : decode cX2_init 50 = .ok (.iconst 0, 1) := by decide +kernel
theorem dX2_init_51 : decode cX2_init 51 = .ok (.putfield 35, 3) := by decide +kernel
theorem dX2_init_54 : decode cX2_init 54 = .ok (.aload_n 0, 1) := by decide +kernel
theorem dX2_init_55 : decode cX2_init 55 = .ok (.iconst 0, 1) := by decide +kernel
theorem dX2_init_56 : decode cX2_init 56 = .ok (.putfield 38, 3) := by decide +kernel
theorem dX2_init_59 : decode cX2_init 59 = .ok (.aload_n 0, 1) := by decide +kernel
theorem dX2_init_60 : decode cX2_init 60 = .ok (.iconst 0, 1) := by decide +kernel
theorem dX2_init_61 : decode cX2_init 61 = .ok (.putfield 42, 3) := by decide +kernel
theorem dX2_init_64 : decode cX2_init 64 = .ok (.return_, 1) := by decide +kernel
theorem dX2_read_0 : decode cX2_read 0 = .ok (.aload_n 0, 1) := by decide +kernel
theorem dX2_read_1 : decode cX2_read 1 = .ok (.getfield 12, 3) := by decide +kernel
theorem dX2_read_4 : decode cX2_read 4 = .ok (.invokevirtual 45, 3) := by decide +kernel
theorem dX2_read_7 : decode cX2_read 7 = .ok (.aload_n 0, 1) := by decide +kernel
theorem dX2_read_8 : decode cX2_read 8 = .ok (.iconst 0, 1) := by decide +kernel
theorem dX2_read_9 : decode cX2_read 9 = .ok (.putfield 22, 3) := by decide +kernel
theorem dX2_read_12 : decode cX2_read 12 = .ok (.aload_n 0, 1) := by decide +kernel
theorem dX2_read_13 : decode cX2_read 13 = .ok (.invokevirtual 48, 3) := by decide +kernel
theorem dX2_read_16 : decode cX2_read 16 = .ok (.iconst 0, 1) := by decide +kernel
theorem dX2_read_17 : decode cX2_read 17 = .ok (.istore_n 3, 1) := by decide +kernel
theorem dX2_read_18 : decode cX2_read 18 = .ok (.iload_n 3, 1) := by decide +kernel
theorem dX2_read_19 : decode cX2_read 19 = .ok (.iload_n 2, 1) := by decide +kernel
theorem dX2_read_20 : decode cX2_read 20 = .ok (.if_icmp .ge 27, 3) := by decide +kernel
theorem dX2_read_23 : decode cX2_read 23 = .ok (.iload_n 3, 1) := by decide +kernel
theorem dX2_read_24 : decode cX2_read 24 = .ok (.aload_n 1, 1) := by decide +kernel
theorem dX2_read_25 : decode cX2_read 25 = .ok (.arraylength, 1) := by decide +kernel
theorem dX2_read_26 : decode cX2_read 26 = .ok (.if_icmp .ge 21, 3) := by decide +kernel
theorem dX2_read_29 : decode cX2_read 29 = .ok (.aload_n 0, 1) := by decide +kernel
theorem dX2_read_30 : decode cX2_read 30 = .ok (.aload_n 1, 1) := by decide +kernel
theorem dX2_read_31 : decode cX2_read 31 = .ok (.iload_n 3, 1) := by decide +kernel
theorem dX2_read_32 : decode cX2_read 32 = .ok (.caload, 1) := by decide +kernel
theorem dX2_read_33 : decode cX2_read 33 = .ok (.invokevirtual 51, 3) := by decide +kernel
theorem dX2_read_36 : decode cX2_read 36 = .ok (.ifCond .ne 5, 3) := by decide +kernel
theorem dX2_read_39 : decode cX2_read 39 = .ok (.iload_n 3, 1) := by decide +kernel
theorem dX2_read_40 : decode cX2_read 40 = .ok (.ireturn, 1) := by decide +kernel
theorem dX2_read_41 : decode cX2_read 41 = .ok (.iinc 3 1, 3) := by decide +kernel
theorem dX2_read_44 : decode cX2_read 44 = .ok (.goto (-26), 3) := by decide +kernel
theorem dX2_read_47 : decode cX2_read 47 = .ok (.aload_n 0, 1) := by decide +kernel
theorem dX2_read_48 : decode cX2_read 48 = .ok (.getfield 22, 3) := by decide +kernel
theorem dX2_read_51 : decode cX2_read 51 = .ok (.ifCond .gt 19, 3) := by decide +kernel
theorem dX2_read_54 : decode cX2_read 54 = .ok (.aload_n 0, 1) := by decide +kernel
theorem dX2_read_55 : decode cX2_read 55 = .ok (.getfield 18, 3) := by decide +kernel
theorem dX2_read_58 : decode cX2_read 58 = .ok (.iconst 1, 1) := by decide +kernel
theorem dX2_read_59 : decode cX2_read 59 = .ok (.if_icmp .eq 13, 3) := by decide +kernel
theorem dX2_read_62 : decode cX2_read 62 = .ok (.aload_n 0, 1) := by decide +kernel
theorem dX2_read_63 : decode cX2_read 63 = .ok (.getfield 18, 3) := by decide +kernel
theorem dX2_read_66 : decode cX2_read 66 = .ok (.iconst 3, 1) := by decide +kernel
theorem dX2_read_67 : decode cX2_read 67 = .ok (.if_icmp .eq 5, 3) := by decide +kernel
theorem dX2_read_70 : decode cX2_read 70 = .ok (.iload_n 2, 1) := by decide +kernel
theorem dX2_read_71 : decode cX2_read 71 = .ok (.ireturn, 1) := by decide +kernel
theorem dX2_read_72 : decode cX2_read 72 = .ok (.aload_n 0, 1) := by decide +kernel
theorem dX2_read_73 : decode cX2_read 73 = .ok (.invokevirtual 55, 3) := by decide +kernel
theorem dX2_read_76 : decode cX2_read 76 = .ok (.aload_n 0, 1) := by decide +kernel
theorem dX2_read_77 : decode cX2_read 77 = .ok (.invokevirtual 58, 3) := by decide +kernel
theorem dX2_read_80 : decode cX2_read 80 = .ok (.iconst (-1), 1) := by decide +kernel
theorem dX2_read_81 : decode cX2_read 81 = .ok (.ireturn, 1) := by decide +kernel
theorem dX2_take_0 : decode cX2_take 0 = .ok (.aload_n 0, 1) := by decide +kernel
theorem dX2_take_1 : decode cX2_take 1 = .ok (.getfield 18, 3) := by decide +kernel
theorem dX2_take_4 : decode cX2_take 4 = .ok (.tableswitch 128 0 6 #[44, 128, 50, 56, 78, 100, 106], 44) := by decide +kernel
theorem dX2_take_48 : decode cX2_take 48 = .ok (.aload_n 0, 1) := by decide +kernel
theorem dX2_take_49 : decode cX2_take 49 = .ok (.iload_n 1, 1) := by decide +kernel
theorem dX2_take_50 : decode cX2_take 50 = .ok (.invokevirtual 61, 3) := by decide +kernel
theorem dX2_take_53 : decode cX2_take 53 = .ok (.ireturn, 1) := by decide +kernel
theorem dX2_take_54 : decode cX2_take 54 = .ok (.aload_n 0, 1) := by decide +kernel
theorem dX2_take_55 : decode cX2_take 55 = .ok (.iload_n 1, 1) := by decide +kernel
theorem dX2_take_56 : decode cX2_take 56 = .ok (.invokevirtual 64, 3) := by decide +kernel
theorem dX2_take_59 : decode cX2_take 59 = .ok (.ireturn, 1) := by decide +kernel
theorem dX2_take_60 : decode cX2_take 60 = .ok (.aload_n 0, 1) := by decide +kernel
theorem dX2_take_61 : decode cX2_take 61 = .ok (.iload_n 1, 1) := by decide +kernel
theorem dX2_take_62 : decode cX2_take 62 = .ok (.invokevirtual 67, 3) := by decide +kernel
theorem dX2_take_65 : decode cX2_take 65 = .ok (.ifCond .ne 11, 3) := by decide +kernel
theorem dX2_take_68 : decode cX2_take 68 = .ok (.aload_n 0, 1) := by decide +kernel
theorem dX2_take_69 : decode cX2_take 69 = .ok (.iload_n 1, 1) := by decide +kernel
theorem dX2_take_70 : decode cX2_take 70 = .ok (.invokevirtual 70, 3) := by decide +kernel
theorem dX2_take_73 : decode cX2_take 73 = .ok (.ifCond .eq 7, 3) := by decide +kernel
theorem dX2_take_76 : decode cX2_take 76 = .ok (.iconst 1, 1) := by decide +kernel
theorem dX2_take_77 : decode cX2_take 77 = .ok (.goto 4, 3) := by decide +kernel
theorem dX2_take_80 : decode cX2_take 80 = .ok (.iconst 0, 1) := by decide +kernel
theorem dX2_take_81 : decode cX2_take 81 = .ok (.ireturn, 1) := by decide +kernel
theorem dX2_take_82 : decode cX2_take 82 = .ok (.aload_n 0, 1) := by decide +kernel
theorem dX2_take_83 : decode cX2_take 83 = .ok (.iload_n 1, 1) := by decide +kernel
theorem dX2_take_84 : decode cX2_take 84 = .ok (.invokevirtual 73, 3) := by decide +kernel
theorem dX2_take_87 : decode cX2_take 87 = .ok (.ifCond .ne 11, 3) := by decide +kernel
theorem dX2_take_90 : decode cX2_take 90 = .ok (.aload_n 0, 1) := by decide +kernel
theorem dX2_take_91 : decode cX2_take 91 = .ok (.iload_n 1, 1) := by decide +kernel
theorem dX2_take_92 : decode cX2_take 92 = .ok (.invokevirtual 76, 3) := by decide +kernel
theorem dX2_take_95 : decode cX2_take 95 = .ok (.ifCond .eq 7, 3) := by decide +kernel
theorem dX2_take_98 : decode cX2_take 98 = .ok (.iconst 1, 1) := by decide +kernel
theorem dX2_take_99 : decode cX2_take 99 = .ok (.goto 4, 3) := by decide +kernel
theorem dX2_take_102 : decode cX2_take 102 = .ok (.iconst 0, 1) := by decide +kernel
theorem dX2_take_103 : decode cX2_take 103 = .ok (.ireturn, 1) := by decide +kernel
theorem dX2_take_104 : decode cX2_take 104 = .ok (.aload_n 0, 1) := by decide +kernel
theorem dX2_take_105 : decode cX2_take 105 = .ok (.iload_n 1, 1) := by decide +kernel
theorem dX2_take_106 : decode cX2_take 106 = .ok (.invokevirtual 76, 3) := by decide +kernel
theorem dX2_take_109 : decode cX2_take 109 = .ok (.ireturn, 1) := by decide +kernel
theorem dX2_take_110 : decode cX2_take 110 = .ok (.aload_n 0, 1) := by decide +kernel
theorem dX2_take_111 : decode cX2_take 111 = .ok (.iload_n 1, 1) := by decide +kernel
theorem dX2_take_112 : decode cX2_take 112 = .ok (.invokevirtual 76, 3) := by decide +kernel
theorem dX2_take_115 : decode cX2_take 115 = .ok (.ifCond .ne 11, 3) := by decide +kernel
theorem dX2_take_118 : decode cX2_take 118 = .ok (.aload_n 0, 1) := by decide +kernel
theorem dX2_take_119 : decode cX2_take 119 = .ok (.iload_n 1, 1) := by decide +kernel
theorem dX2_take_120 : decode cX2_take 120 = .ok (.invokevirtual 79, 3) := by decide +kernel
theorem dX2_take_123 : decode cX2_take 123 = .ok (.ifCond .eq 7, 3) := by decide +kernel
theorem dX2_take_126 : decode cX2_take 126 = .ok (.iconst 1, 1) := by decide +kernel
theorem dX2_take_127 : decode cX2_take 127 = .ok (.goto 4, 3) := by decide +kernel
theorem dX2_take_130 : decode cX2_take 130 = .ok (.iconst 0, 1) := by decide +kernel
theorem dX2_take_131 : decode cX2_take 131 = .ok (.ireturn, 1) := by decide +kernel
theorem dX2_take_132 : decode cX2_take 132 = .ok (.aload_n 0, 1) := by decide +kernel
theorem dX2_take_133 : decode cX2_take 133 = .ok (.iload_n 1, 1) := by decide +kernel
theorem dX2_take_134 : decode cX2_take 134 = .ok (.invokevirtual 70, 3) := by decide +kernel
theorem dX2_take_137 : decode cX2_take 137 = .ok (.ireturn, 1) := by decide +kernel
theorem dX2_takeAtom_0 : decode cX2_takeAtom 0 = .ok (.iload_n 1, 1) := by decide +kernel
theorem dX2_takeAtom_1 : decode cX2_takeAtom 1 = .ok (.invokestatic 82, 3) := by decide +kernel
theorem dX2_takeAtom_4 : decode cX2_takeAtom 4 = .ok (.ifCond .eq 13, 3) := by decide +kernel
theorem dX2_takeAtom_7 : decode cX2_takeAtom 7 = .ok (.aload_n 0, 1) := by decide +kernel
theorem dX2_takeAtom_8 : decode cX2_takeAtom 8 = .ok (.iload_n 1, 1) := by decide +kernel
theorem dX2_takeAtom_9 : decode cX2_takeAtom 9 = .ok (.invokestatic 85, 3) := by decide +kernel
theorem dX2_takeAtom_12 : decode cX2_takeAtom 12 = .ok (.invokevirtual 89, 3) := by decide +kernel
theorem dX2_takeAtom_15 : decode cX2_takeAtom 15 = .ok (.iconst 1, 1) := by decide +kernel
theorem dX2_takeAtom_16 : decode cX2_takeAtom 16 = .ok (.ireturn, 1) := by decide +kernel
theorem dX2_takeAtom_17 : decode cX2_takeAtom 17 = .ok (.iload_n 1, 1) := by decide +kernel
theorem dX2_takeAtom_18 : decode cX2_takeAtom 18 = .ok (.lookupswitch 64 #[(40, 59), (46, 34), (91, 42)], 34) := by decide +kernel
theorem dX2_takeAtom_52 : decode cX2_takeAtom 52 = .ok (.aload_n 0, 1) := by decide +kernel
theorem dX2_takeAtom_53 : decode cX2_takeAtom 53 = .ok (.ldc 93, 2) := by decide +kernel
theorem dX2_takeAtom_55 : decode cX2_takeAtom 55 = .ok (.invokevirtual 89, 3) := by decide +kernel
theorem dX2_takeAtom_58 : decode cX2_takeAtom 58 = .ok (.iconst 1, 1) := by decide +kernel
theorem dX2_takeAtom_59 : decode cX2_takeAtom 59 = .ok (.ireturn, 1) := by decide +kernel
theorem dX2_takeAtom_60 : decode cX2_takeAtom 60 = .ok (.aload_n 0, 1) := by decide +kernel
theorem dX2_takeAtom_61 : decode cX2_takeAtom 61 = .ok (.iconst 0, 1) := by decide +kernel
theorem dX2_takeAtom_62 : decode cX2_takeAtom 62 = .ok (.putfield 35, 3) := by decide +kernel
theorem dX2_takeAtom_65 : decode cX2_takeAtom 65 = .ok (.aload_n 0, 1) := by decide +kernel
theorem dX2_takeAtom_66 : decode cX2_takeAtom 66 = .ok (.iconst 0, 1) := by decide +kernel
theorem dX2_takeAtom_67 : decode cX2_takeAtom 67 = .ok (.putfield 38, 3) := by decide +kernel
theorem dX2_takeAtom_70 : decode cX2_takeAtom 70 = .ok (.aload_n 0, 1) := by decide +kernel
theorem dX2_takeAtom_71 : decode cX2_takeAtom 71 = .ok (.iconst 4, 1) := by decide +kernel
theorem dX2_takeAtom_72 : decode cX2_takeAtom 72 = .ok (.putfield 18, 3) := by decide +kernel
theorem dX2_takeAtom_75 : decode cX2_takeAtom 75 = .ok (.iconst 1, 1) := by decide +kernel
theorem dX2_takeAtom_76 : decode cX2_takeAtom 76 = .ok (.ireturn, 1) := by decide +kernel
theorem dX2_takeAtom_77 : decode cX2_takeAtom 77 = .ok (.aload_n 0, 1) := by decide +kernel
theorem dX2_takeAtom_78 : decode cX2_takeAtom 78 = .ok (.invokevirtual 94, 3) := by decide +kernel
theorem dX2_takeAtom_81 : decode cX2_takeAtom 81 = .ok (.ireturn, 1) := by decide +kernel
theorem dX2_takeAtom_82 : decode cX2_takeAtom 82 = .ok (.iconst 0, 1) := by decide +kernel
theorem dX2_takeAtom_83 : decode cX2_takeAtom 83 = .ok (.ireturn, 1) := by decide +kernel
theorem dX2_takeOpening_0 : decode cX2_takeOpening 0 = .ok (.aload_n 0, 1) := by decide +kernel
theorem dX2_takeOpening_1 : decode cX2_takeOpening 1 = .ok (.getfield 22, 3) := by decide +kernel
theorem dX2_takeOpening_4 : decode cX2_takeOpening 4 = .ok (.bipush 6, 2) := by decide +kernel
theorem dX2_takeOpening_6 : decode cX2_takeOpening 6 = .ok (.if_icmp .lt 5, 3) := by decide +kernel
theorem dX2_takeOpening_9 : decode cX2_takeOpening 9 = .ok (.iconst 0, 1) := by decide +kernel
theorem dX2_takeOpening_10 : decode cX2_takeOpening 10 = .ok (.ireturn, 1) := by decide +kernel
theorem dX2_takeOpening_11 : decode cX2_takeOpening 11 = .ok (.aload_n 0, 1) := by decide +kernel
theorem dX2_takeOpening_12 : decode cX2_takeOpening 12 = .ok (.dup, 1) := by decide +kernel
theorem dX2_takeOpening_13 : decode cX2_takeOpening 13 = .ok (.getfield 22, 3) := by decide +kernel
theorem dX2_takeOpening_16 : decode cX2_takeOpening 16 = .ok (.iconst 1, 1) := by decide +kernel
theorem dX2_takeOpening_17 : decode cX2_takeOpening 17 = .ok (.iadd, 1) := by decide +kernel
theorem dX2_takeOpening_18 : decode cX2_takeOpening 18 = .ok (.putfield 22, 3) := by decide +kernel
theorem dX2_takeOpening_21 : decode cX2_takeOpening 21 = .ok (.aload_n 0, 1) := by decide +kernel
theorem dX2_takeOpening_22 : decode cX2_takeOpening 22 = .ok (.invokevirtual 48, 3) := by decide +kernel
theorem dX2_takeOpening_25 : decode cX2_takeOpening 25 = .ok (.iconst 1, 1) := by decide +kernel
theorem dX2_takeOpening_26 : decode cX2_takeOpening 26 = .ok (.ireturn, 1) := by decide +kernel
theorem dX2_takeOthersSign_0 : decode cX2_takeOthersSign 0 = .ok (.iload_n 1, 1) := by decide +kernel
theorem dX2_takeOthersSign_1 : decode cX2_takeOthersSign 1 = .ok (.bipush 94, 2) := by decide +kernel
theorem dX2_takeOthersSign_3 : decode cX2_takeOthersSign 3 = .ok (.if_icmp .eq 5, 3) := by decide +kernel
theorem dX2_takeOthersSign_6 : decode cX2_takeOthersSign 6 = .ok (.iconst 0, 1) := by decide +kernel
theorem dX2_takeOthersSign_7 : decode cX2_takeOthersSign 7 = .ok (.ireturn, 1) := by decide +kernel
theorem dX2_takeOthersSign_8 : decode cX2_takeOthersSign 8 = .ok (.aload_n 0, 1) := by decide +kernel
theorem dX2_takeOthersSign_9 : decode cX2_takeOthersSign 9 = .ok (.iconst 1, 1) := by decide +kernel
theorem dX2_takeOthersSign_10 : decode cX2_takeOthersSign 10 = .ok (.putfield 38, 3) := by decide +kernel
theorem dX2_takeOthersSign_13 : decode cX2_takeOthersSign 13 = .ok (.aload_n 0, 1) := by decide +kernel
theorem dX2_takeOthersSign_14 : decode cX2_takeOthersSign 14 = .ok (.iconst 5, 1) := by decide +kernel
theorem dX2_takeOthersSign_15 : decode cX2_takeOthersSign 15 = .ok (.putfield 18, 3) := by decide +kernel
theorem dX2_takeOthersSign_18 : decode cX2_takeOthersSign 18 = .ok (.iconst 1, 1) := by decide +kernel
theorem dX2_takeOthersSign_19 : decode cX2_takeOthersSign 19 = .ok (.ireturn, 1) := by decide +kernel
theorem dX2_takeSetLetter_0 : decode cX2_takeSetLetter 0 = .ok (.iload_n 1, 1) := by decide +kernel
theorem dX2_takeSetLetter_1 : decode cX2_takeSetLetter 1 = .ok (.invokestatic 82, 3) := by decide +kernel
theorem dX2_takeSetLetter_4 : decode cX2_takeSetLetter 4 = .ok (.ifCond .ne 5, 3) := by decide +kernel
theorem dX2_takeSetLetter_7 : decode cX2_takeSetLetter 7 = .ok (.iconst 0, 1) := by decide +kernel
theorem dX2_takeSetLetter_8 : decode cX2_takeSetLetter 8 = .ok (.ireturn, 1) := by decide +kernel
theorem dX2_takeSetLetter_9 : decode cX2_takeSetLetter 9 = .ok (.aload_n 0, 1) := by decide +kernel
theorem dX2_takeSetLetter_10 : decode cX2_takeSetLetter 10 = .ok (.dup, 1) := by decide +kernel
theorem dX2_takeSetLetter_11 : decode cX2_takeSetLetter 11 = .ok (.getfield 35, 3) := by decide +kernel
theorem dX2_takeSetLetter_14 : decode cX2_takeSetLetter 14 = .ok (.iload_n 1, 1) := by decide +kernel
theorem dX2_takeSetLetter_15 : decode cX2_takeSetLetter 15 = .ok (.invokestatic 85, 3) := by decide +kernel
theorem dX2_takeSetLetter_18 : decode cX2_takeSetLetter 18 = .ok (.ior, 1) := by decide +kernel
theorem dX2_takeSetLetter_19 : decode cX2_takeSetLetter 19 = .ok (.putfield 35, 3) := by decide +kernel
theorem dX2_takeSetLetter_22 : decode cX2_takeSetLetter 22 = .ok (.aload_n 0, 1) := by decide +kernel
theorem dX2_takeSetLetter_23 : decode cX2_takeSetLetter 23 = .ok (.bipush 6, 2) := by decide +kernel
theorem dX2_takeSetLetter_25 : decode cX2_takeSetLetter 25 = .ok (.putfield 18, 3) := by decide +kernel
theorem dX2_takeSetLetter_28 : decode cX2_takeSetLetter 28 = .ok (.iconst 1, 1) := by decide +kernel
theorem dX2_takeSetLetter_29 : decode cX2_takeSetLetter 29 = .ok (.ireturn, 1) := by decide +kernel
theorem dX2_takeSetEnd_0 : decode cX2_takeSetEnd 0 = .ok (.iload_n 1, 1) := by decide +kernel
theorem dX2_takeSetEnd_1 : decode cX2_takeSetEnd 1 = .ok (.bipush 93, 2) := by decide +kernel
theorem dX2_takeSetEnd_3 : decode cX2_takeSetEnd 3 = .ok (.if_icmp .eq 5, 3) := by decide +kernel
theorem dX2_takeSetEnd_6 : decode cX2_takeSetEnd 6 = .ok (.iconst 0, 1) := by decide +kernel
theorem dX2_takeSetEnd_7 : decode cX2_takeSetEnd 7 = .ok (.ireturn, 1) := by decide +kernel
theorem dX2_takeSetEnd_8 : decode cX2_takeSetEnd 8 = .ok (.aload_n 0, 1) := by decide +kernel
theorem dX2_takeSetEnd_9 : decode cX2_takeSetEnd 9 = .ok (.aload_n 0, 1) := by decide +kernel
theorem dX2_takeSetEnd_10 : decode cX2_takeSetEnd 10 = .ok (.getfield 38, 3) := by decide +kernel
theorem dX2_takeSetEnd_13 : decode cX2_takeSetEnd 13 = .ok (.ifCond .eq 15, 3) := by decide +kernel
theorem dX2_takeSetEnd_16 : decode cX2_takeSetEnd 16 = .ok (.ldc 93, 2) := by decide +kernel
theorem dX2_takeSetEnd_18 : decode cX2_takeSetEnd 18 = .ok (.aload_n 0, 1) := by decide +kernel
theorem dX2_takeSetEnd_19 : decode cX2_takeSetEnd 19 = .ok (.getfield 35, 3) := by decide +kernel
theorem dX2_takeSetEnd_22 : decode cX2_takeSetEnd 22 = .ok (.iconst (-1), 1) := by decide +kernel
theorem dX2_takeSetEnd_23 : decode cX2_takeSetEnd 23 = .ok (.ixor, 1) := by decide +kernel
theorem dX2_takeSetEnd_24 : decode cX2_takeSetEnd 24 = .ok (.iand, 1) := by decide +kernel
theorem dX2_takeSetEnd_25 : decode cX2_takeSetEnd 25 = .ok (.goto 7, 3) := by decide +kernel
theorem dX2_takeSetEnd_28 : decode cX2_takeSetEnd 28 = .ok (.aload_n 0, 1) := by decide +kernel
theorem dX2_takeSetEnd_29 : decode cX2_takeSetEnd 29 = .ok (.getfield 35, 3) := by decide +kernel
theorem dX2_takeSetEnd_32 : decode cX2_takeSetEnd 32 = .ok (.invokevirtual 89, 3) := by decide +kernel
theorem dX2_takeSetEnd_35 : decode cX2_takeSetEnd 35 = .ok (.iconst 1, 1) := by decide +kernel
theorem dX2_takeSetEnd_36 : decode cX2_takeSetEnd 36 = .ok (.ireturn, 1) := by decide +kernel
theorem dX2_takeFirstDigit_0 : decode cX2_takeFirstDigit 0 = .ok (.iload_n 1, 1) := by decide +kernel
theorem dX2_takeFirstDigit_1 : decode cX2_takeFirstDigit 1 = .ok (.invokestatic 98, 3) := by decide +kernel
theorem dX2_takeFirstDigit_4 : decode cX2_takeFirstDigit 4 = .ok (.ifCond .ne 5, 3) := by decide +kernel
theorem dX2_takeFirstDigit_7 : decode cX2_takeFirstDigit 7 = .ok (.iconst 0, 1) := by decide +kernel
theorem dX2_takeFirstDigit_8 : decode cX2_takeFirstDigit 8 = .ok (.ireturn, 1) := by decide +kernel
theorem dX2_takeFirstDigit_9 : decode cX2_takeFirstDigit 9 = .ok (.aload_n 0, 1) := by decide +kernel
theorem dX2_takeFirstDigit_10 : decode cX2_takeFirstDigit 10 = .ok (.iload_n 1, 1) := by decide +kernel
theorem dX2_takeFirstDigit_11 : decode cX2_takeFirstDigit 11 = .ok (.bipush 48, 2) := by decide +kernel
theorem dX2_takeFirstDigit_13 : decode cX2_takeFirstDigit 13 = .ok (.isub, 1) := by decide +kernel
theorem dX2_takeFirstDigit_14 : decode cX2_takeFirstDigit 14 = .ok (.putfield 42, 3) := by decide +kernel
theorem dX2_takeFirstDigit_17 : decode cX2_takeFirstDigit 17 = .ok (.aload_n 0, 1) := by decide +kernel
theorem dX2_takeFirstDigit_18 : decode cX2_takeFirstDigit 18 = .ok (.bipush 6, 2) := by decide +kernel
theorem dX2_takeFirstDigit_20 : decode cX2_takeFirstDigit 20 = .ok (.aload_n 0, 1) := by decide +kernel
theorem dX2_takeFirstDigit_21 : decode cX2_takeFirstDigit 21 = .ok (.getfield 42, 3) := by decide +kernel
theorem dX2_takeFirstDigit_24 : decode cX2_takeFirstDigit 24 = .ok (.invokevirtual 101, 3) := by decide +kernel
theorem dX2_takeFirstDigit_27 : decode cX2_takeFirstDigit 27 = .ok (.aload_n 0, 1) := by decide +kernel
theorem dX2_takeFirstDigit_28 : decode cX2_takeFirstDigit 28 = .ok (.iconst 3, 1) := by decide +kernel
theorem dX2_takeFirstDigit_29 : decode cX2_takeFirstDigit 29 = .ok (.putfield 18, 3) := by decide +kernel
theorem dX2_takeFirstDigit_32 : decode cX2_takeFirstDigit 32 = .ok (.iconst 1, 1) := by decide +kernel
theorem dX2_takeFirstDigit_33 : decode cX2_takeFirstDigit 33 = .ok (.ireturn, 1) := by decide +kernel
theorem dX2_takeSecondDigit_0 : decode cX2_takeSecondDigit 0 = .ok (.iload_n 1, 1) := by decide +kernel
theorem dX2_takeSecondDigit_1 : decode cX2_takeSecondDigit 1 = .ok (.invokestatic 98, 3) := by decide +kernel
theorem dX2_takeSecondDigit_4 : decode cX2_takeSecondDigit 4 = .ok (.ifCond .ne 5, 3) := by decide +kernel
theorem dX2_takeSecondDigit_7 : decode cX2_takeSecondDigit 7 = .ok (.iconst 0, 1) := by decide +kernel
theorem dX2_takeSecondDigit_8 : decode cX2_takeSecondDigit 8 = .ok (.ireturn, 1) := by decide +kernel
theorem dX2_takeSecondDigit_9 : decode cX2_takeSecondDigit 9 = .ok (.aload_n 0, 1) := by decide +kernel
theorem dX2_takeSecondDigit_10 : decode cX2_takeSecondDigit 10 = .ok (.getfield 12, 3) := by decide +kernel
theorem dX2_takeSecondDigit_13 : decode cX2_takeSecondDigit 13 = .ok (.aload_n 0, 1) := by decide +kernel
theorem dX2_takeSecondDigit_14 : decode cX2_takeSecondDigit 14 = .ok (.getfield 25, 3) := by decide +kernel
theorem dX2_takeSecondDigit_17 : decode cX2_takeSecondDigit 17 = .ok (.aload_n 0, 1) := by decide +kernel
theorem dX2_takeSecondDigit_18 : decode cX2_takeSecondDigit 18 = .ok (.getfield 22, 3) := by decide +kernel
theorem dX2_takeSecondDigit_21 : decode cX2_takeSecondDigit 21 = .ok (.iaload, 1) := by decide +kernel
theorem dX2_takeSecondDigit_22 : decode cX2_takeSecondDigit 22 = .ok (.aload_n 0, 1) := by decide +kernel
theorem dX2_takeSecondDigit_23 : decode cX2_takeSecondDigit 23 = .ok (.getfield 42, 3) := by decide +kernel
theorem dX2_takeSecondDigit_26 : decode cX2_takeSecondDigit 26 = .ok (.bipush 10, 2) := by decide +kernel
theorem dX2_takeSecondDigit_28 : decode cX2_takeSecondDigit 28 = .ok (.imul, 1) := by decide +kernel
theorem dX2_takeSecondDigit_29 : decode cX2_takeSecondDigit 29 = .ok (.iload_n 1, 1) := by decide +kernel
theorem dX2_takeSecondDigit_30 : decode cX2_takeSecondDigit 30 = .ok (.bipush 48, 2) := by decide +kernel
theorem dX2_takeSecondDigit_32 : decode cX2_takeSecondDigit 32 = .ok (.isub, 1) := by decide +kernel
theorem dX2_takeSecondDigit_33 : decode cX2_takeSecondDigit 33 = .ok (.iadd, 1) := by decide +kernel
theorem dX2_takeSecondDigit_34 : decode cX2_takeSecondDigit 34 = .ok (.invokevirtual 105, 3) := by decide +kernel
theorem dX2_takeSecondDigit_37 : decode cX2_takeSecondDigit 37 = .ok (.aload_n 0, 1) := by decide +kernel
theorem dX2_takeSecondDigit_38 : decode cX2_takeSecondDigit 38 = .ok (.iconst 1, 1) := by decide +kernel
theorem dX2_takeSecondDigit_39 : decode cX2_takeSecondDigit 39 = .ok (.putfield 18, 3) := by decide +kernel
theorem dX2_takeSecondDigit_42 : decode cX2_takeSecondDigit 42 = .ok (.iconst 1, 1) := by decide +kernel
theorem dX2_takeSecondDigit_43 : decode cX2_takeSecondDigit 43 = .ok (.ireturn, 1) := by decide +kernel
theorem dX2_takeAfterItem_0 : decode cX2_takeAfterItem 0 = .ok (.aload_n 0, 1) := by decide +kernel
theorem dX2_takeAfterItem_1 : decode cX2_takeAfterItem 1 = .ok (.iload_n 1, 1) := by decide +kernel
theorem dX2_takeAfterItem_2 : decode cX2_takeAfterItem 2 = .ok (.invokevirtual 108, 3) := by decide +kernel
theorem dX2_takeAfterItem_5 : decode cX2_takeAfterItem 5 = .ok (.ifCond .eq 5, 3) := by decide +kernel
theorem dX2_takeAfterItem_8 : decode cX2_takeAfterItem 8 = .ok (.iconst 1, 1) := by decide +kernel
theorem dX2_takeAfterItem_9 : decode cX2_takeAfterItem 9 = .ok (.ireturn, 1) := by decide +kernel
theorem dX2_takeAfterItem_10 : decode cX2_takeAfterItem 10 = .ok (.aload_n 0, 1) := by decide +kernel
theorem dX2_takeAfterItem_11 : decode cX2_takeAfterItem 11 = .ok (.invokevirtual 55, 3) := by decide +kernel
theorem dX2_takeAfterItem_14 : decode cX2_takeAfterItem 14 = .ok (.iload_n 1, 1) := by decide +kernel
theorem dX2_takeAfterItem_15 : decode cX2_takeAfterItem 15 = .ok (.lookupswitch 41 #[(41, 36), (124, 25)], 25) := by decide +kernel
theorem dX2_takeAfterItem_40 : decode cX2_takeAfterItem 40 = .ok (.aload_n 0, 1) := by decide +kernel
theorem dX2_takeAfterItem_41 : decode cX2_takeAfterItem 41 = .ok (.invokevirtual 58, 3) := by decide +kernel
theorem dX2_takeAfterItem_44 : decode cX2_takeAfterItem 44 = .ok (.aload_n 0, 1) := by decide +kernel
theorem dX2_takeAfterItem_45 : decode cX2_takeAfterItem 45 = .ok (.iconst 0, 1) := by decide +kernel
theorem dX2_takeAfterItem_46 : decode cX2_takeAfterItem 46 = .ok (.putfield 18, 3) := by decide +kernel
theorem dX2_takeAfterItem_49 : decode cX2_takeAfterItem 49 = .ok (.iconst 1, 1) := by decide +kernel
theorem dX2_takeAfterItem_50 : decode cX2_takeAfterItem 50 = .ok (.ireturn, 1) := by decide +kernel
theorem dX2_takeAfterItem_51 : decode cX2_takeAfterItem 51 = .ok (.aload_n 0, 1) := by decide +kernel
theorem dX2_takeAfterItem_52 : decode cX2_takeAfterItem 52 = .ok (.invokevirtual 111, 3) := by decide +kernel
theorem dX2_takeAfterItem_55 : decode cX2_takeAfterItem 55 = .ok (.ireturn, 1) := by decide +kernel
theorem dX2_takeAfterItem_56 : decode cX2_takeAfterItem 56 = .ok (.aload_n 0, 1) := by decide +kernel
theorem dX2_takeAfterItem_57 : decode cX2_takeAfterItem 57 = .ok (.iload_n 1, 1) := by decide +kernel
theorem dX2_takeAfterItem_58 : decode cX2_takeAfterItem 58 = .ok (.invokevirtual 61, 3) := by decide +kernel
theorem dX2_takeAfterItem_61 : decode cX2_takeAfterItem 61 = .ok (.ireturn, 1) := by decide +kernel
theorem dX2_takeSuffix_0 : decode cX2_takeSuffix 0 = .ok (.iload_n 1, 1) := by decide +kernel
theorem dX2_takeSuffix_1 : decode cX2_takeSuffix 1 = .ok (.lookupswitch 74 #[(42, 43), (43, 51), (60, 67), (63, 59)], 43) := by decide +kernel
theorem dX2_takeSuffix_44 : decode cX2_takeSuffix 44 = .ok (.aload_n 0, 1) := by decide +kernel
theorem dX2_takeSuffix_45 : decode cX2_takeSuffix 45 = .ok (.iconst 4, 1) := by decide +kernel
theorem dX2_takeSuffix_46 : decode cX2_takeSuffix 46 = .ok (.iconst 0, 1) := by decide +kernel
theorem dX2_takeSuffix_47 : decode cX2_takeSuffix 47 = .ok (.invokevirtual 101, 3) := by decide +kernel
theorem dX2_takeSuffix_50 : decode cX2_takeSuffix 50 = .ok (.iconst 1, 1) := by decide +kernel
theorem dX2_takeSuffix_51 : decode cX2_takeSuffix 51 = .ok (.ireturn, 1) := by decide +kernel
theorem dX2_takeSuffix_52 : decode cX2_takeSuffix 52 = .ok (.aload_n 0, 1) := by decide +kernel
theorem dX2_takeSuffix_53 : decode cX2_takeSuffix 53 = .ok (.iconst 5, 1) := by decide +kernel
theorem dX2_takeSuffix_54 : decode cX2_takeSuffix 54 = .ok (.iconst 0, 1) := by decide +kernel
theorem dX2_takeSuffix_55 : decode cX2_takeSuffix 55 = .ok (.invokevirtual 101, 3) := by decide +kernel
theorem dX2_takeSuffix_58 : decode cX2_takeSuffix 58 = .ok (.iconst 1, 1) := by decide +kernel
theorem dX2_takeSuffix_59 : decode cX2_takeSuffix 59 = .ok (.ireturn, 1) := by decide +kernel
theorem dX2_takeSuffix_60 : decode cX2_takeSuffix 60 = .ok (.aload_n 0, 1) := by decide +kernel
theorem dX2_takeSuffix_61 : decode cX2_takeSuffix 61 = .ok (.iconst 3, 1) := by decide +kernel
theorem dX2_takeSuffix_62 : decode cX2_takeSuffix 62 = .ok (.iconst 0, 1) := by decide +kernel
theorem dX2_takeSuffix_63 : decode cX2_takeSuffix 63 = .ok (.invokevirtual 101, 3) := by decide +kernel
theorem dX2_takeSuffix_66 : decode cX2_takeSuffix 66 = .ok (.iconst 1, 1) := by decide +kernel
theorem dX2_takeSuffix_67 : decode cX2_takeSuffix 67 = .ok (.ireturn, 1) := by decide +kernel
theorem dX2_takeSuffix_68 : decode cX2_takeSuffix 68 = .ok (.aload_n 0, 1) := by decide +kernel
theorem dX2_takeSuffix_69 : decode cX2_takeSuffix 69 = .ok (.iconst 2, 1) := by decide +kernel
theorem dX2_takeSuffix_70 : decode cX2_takeSuffix 70 = .ok (.putfield 18, 3) := by decide +kernel
theorem dX2_takeSuffix_73 : decode cX2_takeSuffix 73 = .ok (.iconst 1, 1) := by decide +kernel
theorem dX2_takeSuffix_74 : decode cX2_takeSuffix 74 = .ok (.ireturn, 1) := by decide +kernel
theorem dX2_takeSuffix_75 : decode cX2_takeSuffix 75 = .ok (.iconst 0, 1) := by decide +kernel
theorem dX2_takeSuffix_76 : decode cX2_takeSuffix 76 = .ok (.ireturn, 1) := by decide +kernel
theorem dX2_takeClosing_0 : decode cX2_takeClosing 0 = .ok (.aload_n 0, 1) := by decide +kernel
theorem dX2_takeClosing_1 : decode cX2_takeClosing 1 = .ok (.getfield 22, 3) := by decide +kernel
theorem dX2_takeClosing_4 : decode cX2_takeClosing 4 = .ok (.ifCond .ne 5, 3) := by decide +kernel
theorem dX2_takeClosing_7 : decode cX2_takeClosing 7 = .ok (.iconst 0, 1) := by decide +kernel
theorem dX2_takeClosing_8 : decode cX2_takeClosing 8 = .ok (.ireturn, 1) := by decide +kernel
theorem dX2_takeClosing_9 : decode cX2_takeClosing 9 = .ok (.aload_n 0, 1) := by decide +kernel
theorem dX2_takeClosing_10 : decode cX2_takeClosing 10 = .ok (.invokevirtual 58, 3) := by decide +kernel
theorem dX2_takeClosing_13 : decode cX2_takeClosing 13 = .ok (.aload_n 0, 1) := by decide +kernel
theorem dX2_takeClosing_14 : decode cX2_takeClosing 14 = .ok (.getfield 32, 3) := by decide +kernel
theorem dX2_takeClosing_17 : decode cX2_takeClosing 17 = .ok (.aload_n 0, 1) := by decide +kernel
theorem dX2_takeClosing_18 : decode cX2_takeClosing 18 = .ok (.getfield 22, 3) := by decide +kernel
theorem dX2_takeClosing_21 : decode cX2_takeClosing 21 = .ok (.iaload, 1) := by decide +kernel
theorem dX2_takeClosing_22 : decode cX2_takeClosing 22 = .ok (.istore_n 1, 1) := by decide +kernel
theorem dX2_takeClosing_23 : decode cX2_takeClosing 23 = .ok (.aload_n 0, 1) := by decide +kernel
theorem dX2_takeClosing_24 : decode cX2_takeClosing 24 = .ok (.dup, 1) := by decide +kernel
theorem dX2_takeClosing_25 : decode cX2_takeClosing 25 = .ok (.getfield 22, 3) := by decide +kernel
theorem dX2_takeClosing_28 : decode cX2_takeClosing 28 = .ok (.iconst 1, 1) := by decide +kernel
theorem dX2_takeClosing_29 : decode cX2_takeClosing 29 = .ok (.isub, 1) := by decide +kernel
theorem dX2_takeClosing_30 : decode cX2_takeClosing 30 = .ok (.putfield 22, 3) := by decide +kernel
theorem dX2_takeClosing_33 : decode cX2_takeClosing 33 = .ok (.aload_n 0, 1) := by decide +kernel
theorem dX2_takeClosing_34 : decode cX2_takeClosing 34 = .ok (.getfield 25, 3) := by decide +kernel
theorem dX2_takeClosing_37 : decode cX2_takeClosing 37 = .ok (.aload_n 0, 1) := by decide +kernel
theorem dX2_takeClosing_38 : decode cX2_takeClosing 38 = .ok (.getfield 22, 3) := by decide +kernel
theorem dX2_takeClosing_41 : decode cX2_takeClosing 41 = .ok (.iload_n 1, 1) := by decide +kernel
theorem dX2_takeClosing_42 : decode cX2_takeClosing 42 = .ok (.iastore, 1) := by decide +kernel
theorem dX2_takeClosing_43 : decode cX2_takeClosing 43 = .ok (.aload_n 0, 1) := by decide +kernel
theorem dX2_takeClosing_44 : decode cX2_takeClosing 44 = .ok (.iconst 1, 1) := by decide +kernel
theorem dX2_takeClosing_45 : decode cX2_takeClosing 45 = .ok (.putfield 18, 3) := by decide +kernel
theorem dX2_takeClosing_48 : decode cX2_takeClosing 48 = .ok (.iconst 1, 1) := by decide +kernel
theorem dX2_takeClosing_49 : decode cX2_takeClosing 49 = .ok (.ireturn, 1) := by decide +kernel
theorem dX2_beginBracket_0 : decode cX2_beginBracket 0 = .ok (.aload_n 0, 1) := by decide +kernel
theorem dX2_beginBracket_1 : decode cX2_beginBracket 1 = .ok (.getfield 25, 3) := by decide +kernel
theorem dX2_beginBracket_4 : decode cX2_beginBracket 4 = .ok (.aload_n 0, 1) := by decide +kernel
theorem dX2_beginBracket_5 : decode cX2_beginBracket 5 = .ok (.getfield 22, 3) := by decide +kernel
theorem dX2_beginBracket_8 : decode cX2_beginBracket 8 = .ok (.iconst (-1), 1) := by decide +kernel
theorem dX2_beginBracket_9 : decode cX2_beginBracket 9 = .ok (.iastore, 1) := by decide +kernel
theorem dX2_beginBracket_10 : decode cX2_beginBracket 10 = .ok (.aload_n 0, 1) := by decide +kernel
theorem dX2_beginBracket_11 : decode cX2_beginBracket 11 = .ok (.getfield 29, 3) := by decide +kernel
theorem dX2_beginBracket_14 : decode cX2_beginBracket 14 = .ok (.aload_n 0, 1) := by decide +kernel
theorem dX2_beginBracket_15 : decode cX2_beginBracket 15 = .ok (.getfield 22, 3) := by decide +kernel
theorem dX2_beginBracket_18 : decode cX2_beginBracket 18 = .ok (.iconst (-1), 1) := by decide +kernel
theorem dX2_beginBracket_19 : decode cX2_beginBracket 19 = .ok (.iastore, 1) := by decide +kernel
theorem dX2_beginBracket_20 : decode cX2_beginBracket 20 = .ok (.aload_n 0, 1) := by decide +kernel
theorem dX2_beginBracket_21 : decode cX2_beginBracket 21 = .ok (.getfield 32, 3) := by decide +kernel
theorem dX2_beginBracket_24 : decode cX2_beginBracket 24 = .ok (.aload_n 0, 1) := by decide +kernel
theorem dX2_beginBracket_25 : decode cX2_beginBracket 25 = .ok (.getfield 22, 3) := by decide +kernel
theorem dX2_beginBracket_28 : decode cX2_beginBracket 28 = .ok (.iconst (-1), 1) := by decide +kernel
theorem dX2_beginBracket_29 : decode cX2_beginBracket 29 = .ok (.iastore, 1) := by decide +kernel
theorem dX2_beginBracket_30 : decode cX2_beginBracket 30 = .ok (.aload_n 0, 1) := by decide +kernel
theorem dX2_beginBracket_31 : decode cX2_beginBracket 31 = .ok (.iconst 0, 1) := by decide +kernel
theorem dX2_beginBracket_32 : decode cX2_beginBracket 32 = .ok (.putfield 18, 3) := by decide +kernel
theorem dX2_beginBracket_35 : decode cX2_beginBracket 35 = .ok (.return_, 1) := by decide +kernel
theorem dX2_endAtom_0 : decode cX2_endAtom 0 = .ok (.aload_n 0, 1) := by decide +kernel
theorem dX2_endAtom_1 : decode cX2_endAtom 1 = .ok (.getfield 25, 3) := by decide +kernel
theorem dX2_endAtom_4 : decode cX2_endAtom 4 = .ok (.aload_n 0, 1) := by decide +kernel
theorem dX2_endAtom_5 : decode cX2_endAtom 5 = .ok (.getfield 22, 3) := by decide +kernel
theorem dX2_endAtom_8 : decode cX2_endAtom 8 = .ok (.aload_n 0, 1) := by decide +kernel
theorem dX2_endAtom_9 : decode cX2_endAtom 9 = .ok (.getfield 12, 3) := by decide +kernel
theorem dX2_endAtom_12 : decode cX2_endAtom 12 = .ok (.iconst 0, 1) := by decide +kernel
theorem dX2_endAtom_13 : decode cX2_endAtom 13 = .ok (.iconst (-1), 1) := by decide +kernel
theorem dX2_endAtom_14 : decode cX2_endAtom 14 = .ok (.iconst (-1), 1) := by decide +kernel
theorem dX2_endAtom_15 : decode cX2_endAtom 15 = .ok (.iload_n 1, 1) := by decide +kernel
theorem dX2_endAtom_16 : decode cX2_endAtom 16 = .ok (.invokevirtual 114, 3) := by decide +kernel
theorem dX2_endAtom_19 : decode cX2_endAtom 19 = .ok (.iastore, 1) := by decide +kernel
theorem dX2_endAtom_20 : decode cX2_endAtom 20 = .ok (.aload_n 0, 1) := by decide +kernel
theorem dX2_endAtom_21 : decode cX2_endAtom 21 = .ok (.iconst 1, 1) := by decide +kernel
theorem dX2_endAtom_22 : decode cX2_endAtom 22 = .ok (.putfield 18, 3) := by decide +kernel
theorem dX2_endAtom_25 : decode cX2_endAtom 25 = .ok (.return_, 1) := by decide +kernel
theorem dX2_endSuffix_0 : decode cX2_endSuffix 0 = .ok (.aload_n 0, 1) := by decide +kernel
theorem dX2_endSuffix_1 : decode cX2_endSuffix 1 = .ok (.getfield 25, 3) := by decide +kernel
theorem dX2_endSuffix_4 : decode cX2_endSuffix 4 = .ok (.aload_n 0, 1) := by decide +kernel
theorem dX2_endSuffix_5 : decode cX2_endSuffix 5 = .ok (.getfield 22, 3) := by decide +kernel
theorem dX2_endSuffix_8 : decode cX2_endSuffix 8 = .ok (.aload_n 0, 1) := by decide +kernel
theorem dX2_endSuffix_9 : decode cX2_endSuffix 9 = .ok (.getfield 12, 3) := by decide +kernel
theorem dX2_endSuffix_12 : decode cX2_endSuffix 12 = .ok (.iload_n 1, 1) := by decide +kernel
theorem dX2_endSuffix_13 : decode cX2_endSuffix 13 = .ok (.aload_n 0, 1) := by decide +kernel
theorem dX2_endSuffix_14 : decode cX2_endSuffix 14 = .ok (.getfield 25, 3) := by decide +kernel
theorem dX2_endSuffix_17 : decode cX2_endSuffix 17 = .ok (.aload_n 0, 1) := by decide +kernel
theorem dX2_endSuffix_18 : decode cX2_endSuffix 18 = .ok (.getfield 22, 3) := by decide +kernel
theorem dX2_endSuffix_21 : decode cX2_endSuffix 21 = .ok (.iaload, 1) := by decide +kernel
theorem dX2_endSuffix_22 : decode cX2_endSuffix 22 = .ok (.iconst (-1), 1) := by decide +kernel
theorem dX2_endSuffix_23 : decode cX2_endSuffix 23 = .ok (.iload_n 2, 1) := by decide +kernel
theorem dX2_endSuffix_24 : decode cX2_endSuffix 24 = .ok (.invokevirtual 114, 3) := by decide +kernel
theorem dX2_endSuffix_27 : decode cX2_endSuffix 27 = .ok (.iastore, 1) := by decide +kernel
theorem dX2_endSuffix_28 : decode cX2_endSuffix 28 = .ok (.aload_n 0, 1) := by decide +kernel
theorem dX2_endSuffix_29 : decode cX2_endSuffix 29 = .ok (.iconst 1, 1) := by decide +kernel
theorem dX2_endSuffix_30 : decode cX2_endSuffix 30 = .ok (.putfield 18, 3) := by decide +kernel
theorem dX2_endSuffix_33 : decode cX2_endSuffix 33 = .ok (.return_, 1) := by decide +kernel
theorem dX2_endItem_0 : decode cX2_endItem 0 = .ok (.aload_n 0, 1) := by decide +kernel
theorem dX2_endItem_1 : decode cX2_endItem 1 = .ok (.getfield 29, 3) := by decide +kernel
theorem dX2_endItem_4 : decode cX2_endItem 4 = .ok (.aload_n 0, 1) := by decide +kernel
theorem dX2_endItem_5 : decode cX2_endItem 5 = .ok (.getfield 22, 3) := by decide +kernel
theorem dX2_endItem_8 : decode cX2_endItem 8 = .ok (.iaload, 1) := by decide +kernel
theorem dX2_endItem_9 : decode cX2_endItem 9 = .ok (.istore_n 1, 1) := by decide +kernel
theorem dX2_endItem_10 : decode cX2_endItem 10 = .ok (.aload_n 0, 1) := by decide +kernel
theorem dX2_endItem_11 : decode cX2_endItem 11 = .ok (.getfield 25, 3) := by decide +kernel
theorem dX2_endItem_14 : decode cX2_endItem 14 = .ok (.aload_n 0, 1) := by decide +kernel
theorem dX2_endItem_15 : decode cX2_endItem 15 = .ok (.getfield 22, 3) := by decide +kernel
theorem dX2_endItem_18 : decode cX2_endItem 18 = .ok (.iaload, 1) := by decide +kernel
theorem dX2_endItem_19 : decode cX2_endItem 19 = .ok (.istore_n 2, 1) := by decide +kernel
theorem dX2_endItem_20 : decode cX2_endItem 20 = .ok (.aload_n 0, 1) := by decide +kernel
theorem dX2_endItem_21 : decode cX2_endItem 21 = .ok (.getfield 29, 3) := by decide +kernel
theorem dX2_endItem_24 : decode cX2_endItem 24 = .ok (.aload_n 0, 1) := by decide +kernel
theorem dX2_endItem_25 : decode cX2_endItem 25 = .ok (.getfield 22, 3) := by decide +kernel
theorem dX2_endItem_28 : decode cX2_endItem 28 = .ok (.iload_n 1, 1) := by decide +kernel
theorem dX2_endItem_29 : decode cX2_endItem 29 = .ok (.iconst (-1), 1) := by decide +kernel
theorem dX2_endItem_30 : decode cX2_endItem 30 = .ok (.if_icmp .ne 7, 3) := by decide +kernel
theorem dX2_endItem_33 : decode cX2_endItem 33 = .ok (.iload_n 2, 1) := by decide +kernel
theorem dX2_endItem_34 : decode cX2_endItem 34 = .ok (.goto 14, 3) := by decide +kernel
theorem dX2_endItem_37 : decode cX2_endItem 37 = .ok (.aload_n 0, 1) := by decide +kernel
theorem dX2_endItem_38 : decode cX2_endItem 38 = .ok (.getfield 12, 3) := by decide +kernel
theorem dX2_endItem_41 : decode cX2_endItem 41 = .ok (.iconst 1, 1) := by decide +kernel
theorem dX2_endItem_42 : decode cX2_endItem 42 = .ok (.iload_n 1, 1) := by decide +kernel
theorem dX2_endItem_43 : decode cX2_endItem 43 = .ok (.iload_n 2, 1) := by decide +kernel
theorem dX2_endItem_44 : decode cX2_endItem 44 = .ok (.iconst 0, 1) := by decide +kernel
theorem dX2_endItem_45 : decode cX2_endItem 45 = .ok (.invokevirtual 114, 3) := by decide +kernel
theorem dX2_endItem_48 : decode cX2_endItem 48 = .ok (.iastore, 1) := by decide +kernel
theorem dX2_endItem_49 : decode cX2_endItem 49 = .ok (.return_, 1) := by decide +kernel
theorem dX2_endRow_0 : decode cX2_endRow 0 = .ok (.aload_n 0, 1) := by decide +kernel
theorem dX2_endRow_1 : decode cX2_endRow 1 = .ok (.getfield 32, 3) := by decide +kernel
theorem dX2_endRow_4 : decode cX2_endRow 4 = .ok (.aload_n 0, 1) := by decide +kernel
theorem dX2_endRow_5 : decode cX2_endRow 5 = .ok (.getfield 22, 3) := by decide +kernel
theorem dX2_endRow_8 : decode cX2_endRow 8 = .ok (.iaload, 1) := by decide +kernel
theorem dX2_endRow_9 : decode cX2_endRow 9 = .ok (.istore_n 1, 1) := by decide +kernel
theorem dX2_endRow_10 : decode cX2_endRow 10 = .ok (.aload_n 0, 1) := by decide +kernel
theorem dX2_endRow_11 : decode cX2_endRow 11 = .ok (.getfield 29, 3) := by decide +kernel
theorem dX2_endRow_14 : decode cX2_endRow 14 = .ok (.aload_n 0, 1) := by decide +kernel
theorem dX2_endRow_15 : decode cX2_endRow 15 = .ok (.getfield 22, 3) := by decide +kernel
theorem dX2_endRow_18 : decode cX2_endRow 18 = .ok (.iaload, 1) := by decide +kernel
theorem dX2_endRow_19 : decode cX2_endRow 19 = .ok (.istore_n 2, 1) := by decide +kernel
theorem dX2_endRow_20 : decode cX2_endRow 20 = .ok (.aload_n 0, 1) := by decide +kernel
theorem dX2_endRow_21 : decode cX2_endRow 21 = .ok (.getfield 32, 3) := by decide +kernel
theorem dX2_endRow_24 : decode cX2_endRow 24 = .ok (.aload_n 0, 1) := by decide +kernel
theorem dX2_endRow_25 : decode cX2_endRow 25 = .ok (.getfield 22, 3) := by decide +kernel
theorem dX2_endRow_28 : decode cX2_endRow 28 = .ok (.iload_n 1, 1) := by decide +kernel
theorem dX2_endRow_29 : decode cX2_endRow 29 = .ok (.iconst (-1), 1) := by decide +kernel
theorem dX2_endRow_30 : decode cX2_endRow 30 = .ok (.if_icmp .ne 7, 3) := by decide +kernel
theorem dX2_endRow_33 : decode cX2_endRow 33 = .ok (.iload_n 2, 1) := by decide +kernel
theorem dX2_endRow_34 : decode cX2_endRow 34 = .ok (.goto 14, 3) := by decide +kernel
theorem dX2_endRow_37 : decode cX2_endRow 37 = .ok (.aload_n 0, 1) := by decide +kernel
theorem dX2_endRow_38 : decode cX2_endRow 38 = .ok (.getfield 12, 3) := by decide +kernel
theorem dX2_endRow_41 : decode cX2_endRow 41 = .ok (.iconst 2, 1) := by decide +kernel
theorem dX2_endRow_42 : decode cX2_endRow 42 = .ok (.iload_n 1, 1) := by decide +kernel
theorem dX2_endRow_43 : decode cX2_endRow 43 = .ok (.iload_n 2, 1) := by decide +kernel
theorem dX2_endRow_44 : decode cX2_endRow 44 = .ok (.iconst 0, 1) := by decide +kernel
theorem dX2_endRow_45 : decode cX2_endRow 45 = .ok (.invokevirtual 114, 3) := by decide +kernel
theorem dX2_endRow_48 : decode cX2_endRow 48 = .ok (.iastore, 1) := by decide +kernel
theorem dX2_endRow_49 : decode cX2_endRow 49 = .ok (.aload_n 0, 1) := by decide +kernel
theorem dX2_endRow_50 : decode cX2_endRow 50 = .ok (.getfield 29, 3) := by decide +kernel
theorem dX2_endRow_53 : decode cX2_endRow 53 = .ok (.aload_n 0, 1) := by decide +kernel
theorem dX2_endRow_54 : decode cX2_endRow 54 = .ok (.getfield 22, 3) := by decide +kernel
theorem dX2_endRow_57 : decode cX2_endRow 57 = .ok (.iconst (-1), 1) := by decide +kernel
theorem dX2_endRow_58 : decode cX2_endRow 58 = .ok (.iastore, 1) := by decide +kernel
theorem dX2_endRow_59 : decode cX2_endRow 59 = .ok (.return_, 1) := by decide +kernel
theorem dX2_bitOf_0 : decode cX2_bitOf 0 = .ok (.iconst 1, 1) := by decide +kernel
theorem dX2_bitOf_1 : decode cX2_bitOf 1 = .ok (.iload_n 0, 1) := by decide +kernel
theorem dX2_bitOf_2 : decode cX2_bitOf 2 = .ok (.bipush 97, 2) := by decide +kernel
theorem dX2_bitOf_4 : decode cX2_bitOf 4 = .ok (.isub, 1) := by decide +kernel
theorem dX2_bitOf_5 : decode cX2_bitOf 5 = .ok (.ishl, 1) := by decide +kernel
theorem dX2_bitOf_6 : decode cX2_bitOf 6 = .ok (.ireturn, 1) := by decide +kernel
theorem dX3_init_0 : decode cX3_init 0 = .ok (.aload_n 0, 1) := by decide +kernel
theorem dX3_init_1 : decode cX3_init 1 = .ok (.invokespecial 3, 3) := by decide +kernel
theorem dX3_init_4 : decode cX3_init 4 = .ok (.aload_n 0, 1) := by decide +kernel
theorem dX3_init_5 : decode cX3_init 5 = .ok (.bipush 24, 2) := by decide +kernel
theorem dX3_init_7 : decode cX3_init 7 = .ok (.newarray .char, 2) := by decide +kernel
theorem dX3_init_9 : decode cX3_init 9 = .ok (.putfield 9, 3) := by decide +kernel
theorem dX3_init_12 : decode cX3_init 12 = .ok (.aload_n 0, 1) := by decide +kernel
theorem dX3_init_13 : decode cX3_init 13 = .ok (.iconst 0, 1) := by decide +kernel
theorem dX3_init_14 : decode cX3_init 14 = .ok (.putfield 15, 3) := by decide +kernel
theorem dX3_init_17 : decode cX3_init 17 = .ok (.return_, 1) := by decide +kernel
theorem dX3_append_0 : decode cX3_append 0 = .ok (.aload_n 0, 1) := by decide +kernel
theorem dX3_append_1 : decode cX3_append 1 = .ok (.getfield 15, 3) := by decide +kernel
theorem dX3_append_4 : decode cX3_append 4 = .ok (.aload_n 0, 1) := by decide +kernel
theorem dX3_append_5 : decode cX3_append 5 = .ok (.getfield 9, 3) := by decide +kernel
theorem dX3_append_8 : decode cX3_append 8 = .ok (.arraylength, 1) := by decide +kernel
theorem dX3_append_9 : decode cX3_append 9 = .ok (.if_icmp .ge 23, 3) := by decide +kernel
theorem dX3_append_12 : decode cX3_append 12 = .ok (.aload_n 0, 1) := by decide +kernel
theorem dX3_append_13 : decode cX3_append 13 = .ok (.getfield 9, 3) := by decide +kernel
theorem dX3_append_16 : decode cX3_append 16 = .ok (.aload_n 0, 1) := by decide +kernel
theorem dX3_append_17 : decode cX3_append 17 = .ok (.getfield 15, 3) := by decide +kernel
theorem dX3_append_20 : decode cX3_append 20 = .ok (.iload_n 1, 1) := by decide +kernel
theorem dX3_append_21 : decode cX3_append 21 = .ok (.castore, 1) := by decide +kernel
theorem dX3_append_22 : decode cX3_append 22 = .ok (.aload_n 0, 1) := by decide +kernel
theorem dX3_append_23 : decode cX3_append 23 = .ok (.dup, 1) := by decide +kernel
theorem dX3_append_24 : decode cX3_append 24 = .ok (.getfield 15, 3) := by decide +kernel
theorem dX3_append_27 : decode cX3_append 27 = .ok (.iconst 1, 1) := by decide +kernel
theorem dX3_append_28 : decode cX3_append 28 = .ok (.iadd, 1) := by decide +kernel
theorem dX3_append_29 : decode cX3_append 29 = .ok (.putfield 15, 3) := by decide +kernel
theorem dX3_append_32 : decode cX3_append 32 = .ok (.return_, 1) := by decide +kernel
theorem dX3_clear_0 : decode cX3_clear 0 = .ok (.aload_n 0, 1) := by decide +kernel
theorem dX3_clear_1 : decode cX3_clear 1 = .ok (.iconst 0, 1) := by decide +kernel
theorem dX3_clear_2 : decode cX3_clear 2 = .ok (.putfield 15, 3) := by decide +kernel
theorem dX3_clear_5 : decode cX3_clear 5 = .ok (.return_, 1) := by decide +kernel
theorem dX3_letterAt_0 : decode cX3_letterAt 0 = .ok (.iload_n 1, 1) := by decide +kernel
theorem dX3_letterAt_1 : decode cX3_letterAt 1 = .ok (.ifCond .lt 20, 3) := by decide +kernel
theorem dX3_letterAt_4 : decode cX3_letterAt 4 = .ok (.iload_n 1, 1) := by decide +kernel
theorem dX3_letterAt_5 : decode cX3_letterAt 5 = .ok (.aload_n 0, 1) := by decide +kernel
theorem dX3_letterAt_6 : decode cX3_letterAt 6 = .ok (.getfield 15, 3) := by decide +kernel
theorem dX3_letterAt_9 : decode cX3_letterAt 9 = .ok (.if_icmp .ge 12, 3) := by decide +kernel
theorem dX3_letterAt_12 : decode cX3_letterAt 12 = .ok (.aload_n 0, 1) := by decide +kernel
theorem dX3_letterAt_13 : decode cX3_letterAt 13 = .ok (.getfield 9, 3) := by decide +kernel
theorem dX3_letterAt_16 : decode cX3_letterAt 16 = .ok (.iload_n 1, 1) := by decide +kernel
theorem dX3_letterAt_17 : decode cX3_letterAt 17 = .ok (.caload, 1) := by decide +kernel
theorem dX3_letterAt_18 : decode cX3_letterAt 18 = .ok (.goto 4, 3) := by decide +kernel
theorem dX3_letterAt_21 : decode cX3_letterAt 21 = .ok (.iconst 0, 1) := by decide +kernel
theorem dX3_letterAt_22 : decode cX3_letterAt 22 = .ok (.ireturn, 1) := by decide +kernel
theorem dX3_copyFrom_0 : decode cX3_copyFrom 0 = .ok (.aload_n 0, 1) := by decide +kernel
theorem dX3_copyFrom_1 : decode cX3_copyFrom 1 = .ok (.invokevirtual 19, 3) := by decide +kernel
theorem dX3_copyFrom_4 : decode cX3_copyFrom 4 = .ok (.iconst 0, 1) := by decide +kernel
theorem dX3_copyFrom_5 : decode cX3_copyFrom 5 = .ok (.istore_n 2, 1) := by decide +kernel
theorem dX3_copyFrom_6 : decode cX3_copyFrom 6 = .ok (.iload_n 2, 1) := by decide +kernel
theorem dX3_copyFrom_7 : decode cX3_copyFrom 7 = .ok (.aload_n 1, 1) := by decide +kernel
theorem dX3_copyFrom_8 : decode cX3_copyFrom 8 = .ok (.getfield 15, 3) := by decide +kernel
theorem dX3_copyFrom_11 : decode cX3_copyFrom 11 = .ok (.if_icmp .ge 18, 3) := by decide +kernel
theorem dX3_copyFrom_14 : decode cX3_copyFrom 14 = .ok (.aload_n 0, 1) := by decide +kernel
theorem dX3_copyFrom_15 : decode cX3_copyFrom 15 = .ok (.aload_n 1, 1) := by decide +kernel
theorem dX3_copyFrom_16 : decode cX3_copyFrom 16 = .ok (.iload_n 2, 1) := by decide +kernel
theorem dX3_copyFrom_17 : decode cX3_copyFrom 17 = .ok (.invokevirtual 22, 3) := by decide +kernel
theorem dX3_copyFrom_20 : decode cX3_copyFrom 20 = .ok (.invokevirtual 26, 3) := by decide +kernel
theorem dX3_copyFrom_23 : decode cX3_copyFrom 23 = .ok (.iinc 2 1, 3) := by decide +kernel
theorem dX3_copyFrom_26 : decode cX3_copyFrom 26 = .ok (.goto (-20), 3) := by decide +kernel
theorem dX3_copyFrom_29 : decode cX3_copyFrom 29 = .ok (.return_, 1) := by decide +kernel
theorem dX3_compareWith_0 : decode cX3_compareWith 0 = .ok (.aload_n 0, 1) := by decide +kernel
theorem dX3_compareWith_1 : decode cX3_compareWith 1 = .ok (.getfield 15, 3) := by decide +kernel
theorem dX3_compareWith_4 : decode cX3_compareWith 4 = .ok (.aload_n 1, 1) := by decide +kernel
theorem dX3_compareWith_5 : decode cX3_compareWith 5 = .ok (.getfield 15, 3) := by decide +kernel
theorem dX3_compareWith_8 : decode cX3_compareWith 8 = .ok (.invokestatic 30, 3) := by decide +kernel
theorem dX3_compareWith_11 : decode cX3_compareWith 11 = .ok (.istore_n 2, 1) := by decide +kernel
theorem dX3_compareWith_12 : decode cX3_compareWith 12 = .ok (.iconst 0, 1) := by decide +kernel
theorem dX3_compareWith_13 : decode cX3_compareWith 13 = .ok (.istore_n 3, 1) := by decide +kernel
theorem dX3_compareWith_14 : decode cX3_compareWith 14 = .ok (.iload_n 3, 1) := by decide +kernel
theorem dX3_compareWith_15 : decode cX3_compareWith 15 = .ok (.iload_n 2, 1) := by decide +kernel
theorem dX3_compareWith_16 : decode cX3_compareWith 16 = .ok (.if_icmp .ge 30, 3) := by decide +kernel
theorem dX3_compareWith_19 : decode cX3_compareWith 19 = .ok (.aload_n 0, 1) := by decide +kernel
theorem dX3_compareWith_20 : decode cX3_compareWith 20 = .ok (.iload_n 3, 1) := by decide +kernel
theorem dX3_compareWith_21 : decode cX3_compareWith 21 = .ok (.invokevirtual 22, 3) := by decide +kernel
theorem dX3_compareWith_24 : decode cX3_compareWith 24 = .ok (.aload_n 1, 1) := by decide +kernel
theorem dX3_compareWith_25 : decode cX3_compareWith 25 = .ok (.iload_n 3, 1) := by decide +kernel
theorem dX3_compareWith_26 : decode cX3_compareWith 26 = .ok (.invokevirtual 22, 3) := by decide +kernel
theorem dX3_compareWith_29 : decode cX3_compareWith 29 = .ok (.isub, 1) := by decide +kernel
theorem dX3_compareWith_30 : decode cX3_compareWith 30 = .ok (.istore 4, 2) := by decide +kernel
theorem dX3_compareWith_32 : decode cX3_compareWith 32 = .ok (.iload 4, 2) := by decide +kernel
theorem dX3_compareWith_34 : decode cX3_compareWith 34 = .ok (.ifCond .eq 6, 3) := by decide +kernel
theorem dX3_compareWith_37 : decode cX3_compareWith 37 = .ok (.iload 4, 2) := by decide +kernel
theorem dX3_compareWith_39 : decode cX3_compareWith 39 = .ok (.ireturn, 1) := by decide +kernel
theorem dX3_compareWith_40 : decode cX3_compareWith 40 = .ok (.iinc 3 1, 3) := by decide +kernel
theorem dX3_compareWith_43 : decode cX3_compareWith 43 = .ok (.goto (-29), 3) := by decide +kernel
theorem dX3_compareWith_46 : decode cX3_compareWith 46 = .ok (.aload_n 0, 1) := by decide +kernel
theorem dX3_compareWith_47 : decode cX3_compareWith 47 = .ok (.getfield 15, 3) := by decide +kernel
theorem dX3_compareWith_50 : decode cX3_compareWith 50 = .ok (.aload_n 1, 1) := by decide +kernel
theorem dX3_compareWith_51 : decode cX3_compareWith 51 = .ok (.getfield 15, 3) := by decide +kernel
theorem dX3_compareWith_54 : decode cX3_compareWith 54 = .ok (.isub, 1) := by decide +kernel
theorem dX3_compareWith_55 : decode cX3_compareWith 55 = .ok (.ireturn, 1) := by decide +kernel
theorem dX4_init_0 : decode cX4_init 0 = .ok (.aload_n 0, 1) := by decide +kernel
theorem dX4_init_1 : decode cX4_init 1 = .ok (.invokespecial 3, 3) := by decide +kernel
theorem dX4_init_4 : decode cX4_init 4 = .ok (.aload_n 0, 1) := by decide +kernel
theorem dX4_init_5 : decode cX4_init 5 = .ok (.bipush 24, 2) := by decide +kernel
theorem dX4_init_7 : decode cX4_init 7 = .ok (.newarray .int, 2) := by decide +kernel
theorem dX4_init_9 : decode cX4_init 9 = .ok (.putfield 9, 3) := by decide +kernel
theorem dX4_init_12 : decode cX4_init 12 = .ok (.aload_n 0, 1) := by decide +kernel
theorem dX4_init_13 : decode cX4_init 13 = .ok (.bipush 24, 2) := by decide +kernel
theorem dX4_init_15 : decode cX4_init 15 = .ok (.newarray .int, 2) := by decide +kernel
theorem dX4_init_17 : decode cX4_init 17 = .ok (.putfield 15, 3) := by decide +kernel
theorem dX4_init_20 : decode cX4_init 20 = .ok (.aload_n 0, 1) := by decide +kernel
theorem dX4_init_21 : decode cX4_init 21 = .ok (.bipush 24, 2) := by decide +kernel
theorem dX4_init_23 : decode cX4_init 23 = .ok (.newarray .int, 2) := by decide +kernel
theorem dX4_init_25 : decode cX4_init 25 = .ok (.putfield 18, 3) := by decide +kernel
theorem dX4_init_28 : decode cX4_init 28 = .ok (.aload_n 0, 1) := by decide +kernel
theorem dX4_init_29 : decode cX4_init 29 = .ok (.bipush 24, 2) := by decide +kernel
theorem dX4_init_31 : decode cX4_init 31 = .ok (.newarray .int, 2) := by decide +kernel
theorem dX4_init_33 : decode cX4_init 33 = .ok (.putfield 21, 3) := by decide +kernel
theorem dX4_init_36 : decode cX4_init 36 = .ok (.aload_n 0, 1) := by decide +kernel
theorem dX4_init_37 : decode cX4_init 37 = .ok (.iconst 0, 1) := by decide +kernel
theorem dX4_init_38 : decode cX4_init 38 = .ok (.putfield 24, 3) := by decide +kernel
theorem dX4_init_41 : decode cX4_init 41 = .ok (.return_, 1) := by decide +kernel
theorem dX4_clear_0 : decode cX4_clear 0 = .ok (.aload_n 0, 1) := by decide +kernel
theorem dX4_clear_1 : decode cX4_clear 1 = .ok (.iconst 0, 1) := by decide +kernel
theorem dX4_clear_2 : decode cX4_clear 2 = .ok (.putfield 24, 3) := by decide +kernel
theorem dX4_clear_5 : decode cX4_clear 5 = .ok (.return_, 1) := by decide +kernel
theorem dX4_put_0 : decode cX4_put 0 = .ok (.aload_n 0, 1) := by decide +kernel
theorem dX4_put_1 : decode cX4_put 1 = .ok (.getfield 24, 3) := by decide +kernel
theorem dX4_put_4 : decode cX4_put 4 = .ok (.istore 5, 2) := by decide +kernel
theorem dX4_put_6 : decode cX4_put 6 = .ok (.iload 5, 2) := by decide +kernel
theorem dX4_put_8 : decode cX4_put 8 = .ok (.bipush 24, 2) := by decide +kernel
theorem dX4_put_10 : decode cX4_put 10 = .ok (.if_icmp .ge 36, 3) := by decide +kernel
theorem dX4_put_13 : decode cX4_put 13 = .ok (.aload_n 0, 1) := by decide +kernel
theorem dX4_put_14 : decode cX4_put 14 = .ok (.getfield 9, 3) := by decide +kernel
theorem dX4_put_17 : decode cX4_put 17 = .ok (.iload 5, 2) := by decide +kernel
theorem dX4_put_19 : decode cX4_put 19 = .ok (.iload_n 1, 1) := by decide +kernel
theorem dX4_put_20 : decode cX4_put 20 = .ok (.iastore, 1) := by decide +kernel
theorem dX4_put_21 : decode cX4_put 21 = .ok (.aload_n 0, 1) := by decide +kernel
theorem dX4_put_22 : decode cX4_put 22 = .ok (.getfield 15, 3) := by decide +kernel
theorem dX4_put_25 : decode cX4_put 25 = .ok (.iload 5, 2) := by decide +kernel
theorem dX4_put_27 : decode cX4_put 27 = .ok (.iload_n 2, 1) := by decide +kernel
theorem dX4_put_28 : decode cX4_put 28 = .ok (.iastore, 1) := by decide +kernel
theorem dX4_put_29 : decode cX4_put 29 = .ok (.aload_n 0, 1) := by decide +kernel
theorem dX4_put_30 : decode cX4_put 30 = .ok (.getfield 18, 3) := by decide +kernel
theorem dX4_put_33 : decode cX4_put 33 = .ok (.iload 5, 2) := by decide +kernel
theorem dX4_put_35 : decode cX4_put 35 = .ok (.iload_n 3, 1) := by decide +kernel
theorem dX4_put_36 : decode cX4_put 36 = .ok (.iastore, 1) := by decide +kernel
theorem dX4_put_37 : decode cX4_put 37 = .ok (.aload_n 0, 1) := by decide +kernel
theorem dX4_put_38 : decode cX4_put 38 = .ok (.getfield 21, 3) := by decide +kernel
theorem dX4_put_41 : decode cX4_put 41 = .ok (.iload 5, 2) := by decide +kernel
theorem dX4_put_43 : decode cX4_put 43 = .ok (.iload 4, 2) := by decide +kernel
theorem dX4_put_45 : decode cX4_put 45 = .ok (.iastore, 1) := by decide +kernel
theorem dX4_put_46 : decode cX4_put 46 = .ok (.aload_n 0, 1) := by decide +kernel
theorem dX4_put_47 : decode cX4_put 47 = .ok (.dup, 1) := by decide +kernel
theorem dX4_put_48 : decode cX4_put 48 = .ok (.getfield 24, 3) := by decide +kernel
theorem dX4_put_51 : decode cX4_put 51 = .ok (.iconst 1, 1) := by decide +kernel
theorem dX4_put_52 : decode cX4_put 52 = .ok (.iadd, 1) := by decide +kernel
theorem dX4_put_53 : decode cX4_put 53 = .ok (.putfield 24, 3) := by decide +kernel
theorem dX4_put_56 : decode cX4_put 56 = .ok (.iload 5, 2) := by decide +kernel
theorem dX4_put_58 : decode cX4_put 58 = .ok (.ireturn, 1) := by decide +kernel
theorem dX4_changeValue_0 : decode cX4_changeValue 0 = .ok (.iload_n 1, 1) := by decide +kernel
theorem dX4_changeValue_1 : decode cX4_changeValue 1 = .ok (.ifCond .lt 16, 3) := by decide +kernel
theorem dX4_changeValue_4 : decode cX4_changeValue 4 = .ok (.iload_n 1, 1) := by decide +kernel
theorem dX4_changeValue_5 : decode cX4_changeValue 5 = .ok (.bipush 24, 2) := by decide +kernel
theorem dX4_changeValue_7 : decode cX4_changeValue 7 = .ok (.if_icmp .ge 10, 3) := by decide +kernel
theorem dX4_changeValue_10 : decode cX4_changeValue 10 = .ok (.aload_n 0, 1) := by decide +kernel
theorem dX4_changeValue_11 : decode cX4_changeValue 11 = .ok (.getfield 21, 3) := by decide +kernel
theorem dX4_changeValue_14 : decode cX4_changeValue 14 = .ok (.iload_n 1, 1) := by decide +kernel
theorem dX4_changeValue_15 : decode cX4_changeValue 15 = .ok (.iload_n 2, 1) := by decide +kernel
theorem dX4_changeValue_16 : decode cX4_changeValue 16 = .ok (.iastore, 1) := by decide +kernel
theorem dX4_changeValue_17 : decode cX4_changeValue 17 = .ok (.return_, 1) := by decide +kernel
theorem dX4_copyFrom_0 : decode cX4_copyFrom 0 = .ok (.aload_n 0, 1) := by decide +kernel
theorem dX4_copyFrom_1 : decode cX4_copyFrom 1 = .ok (.invokevirtual 28, 3) := by decide +kernel
theorem dX4_copyFrom_4 : decode cX4_copyFrom 4 = .ok (.aload_n 1, 1) := by decide +kernel
theorem dX4_copyFrom_5 : decode cX4_copyFrom 5 = .ok (.getfield 24, 3) := by decide +kernel
theorem dX4_copyFrom_8 : decode cX4_copyFrom 8 = .ok (.bipush 24, 2) := by decide +kernel
theorem dX4_copyFrom_10 : decode cX4_copyFrom 10 = .ok (.invokestatic 31, 3) := by decide +kernel
theorem dX4_copyFrom_13 : decode cX4_copyFrom 13 = .ok (.istore_n 2, 1) := by decide +kernel
theorem dX4_copyFrom_14 : decode cX4_copyFrom 14 = .ok (.iconst 0, 1) := by decide +kernel
theorem dX4_copyFrom_15 : decode cX4_copyFrom 15 = .ok (.istore_n 3, 1) := by decide +kernel
theorem dX4_copyFrom_16 : decode cX4_copyFrom 16 = .ok (.iload_n 3, 1) := by decide +kernel
theorem dX4_copyFrom_17 : decode cX4_copyFrom 17 = .ok (.iload_n 2, 1) := by decide +kernel
theorem dX4_copyFrom_18 : decode cX4_copyFrom 18 = .ok (.if_icmp .ge 38, 3) := by decide +kernel
theorem dX4_copyFrom_21 : decode cX4_copyFrom 21 = .ok (.aload_n 0, 1) := by decide +kernel
theorem dX4_copyFrom_22 : decode cX4_copyFrom 22 = .ok (.aload_n 1, 1) := by decide +kernel
theorem dX4_copyFrom_23 : decode cX4_copyFrom 23 = .ok (.getfield 9, 3) := by decide +kernel
theorem dX4_copyFrom_26 : decode cX4_copyFrom 26 = .ok (.iload_n 3, 1) := by decide +kernel
theorem dX4_copyFrom_27 : decode cX4_copyFrom 27 = .ok (.iaload, 1) := by decide +kernel
theorem dX4_copyFrom_28 : decode cX4_copyFrom 28 = .ok (.aload_n 1, 1) := by decide +kernel
theorem dX4_copyFrom_29 : decode cX4_copyFrom 29 = .ok (.getfield 15, 3) := by decide +kernel
theorem dX4_copyFrom_32 : decode cX4_copyFrom 32 = .ok (.iload_n 3, 1) := by decide +kernel
theorem dX4_copyFrom_33 : decode cX4_copyFrom 33 = .ok (.iaload, 1) := by decide +kernel
theorem dX4_copyFrom_34 : decode cX4_copyFrom 34 = .ok (.aload_n 1, 1) := by decide +kernel
theorem dX4_copyFrom_35 : decode cX4_copyFrom 35 = .ok (.getfield 18, 3) := by decide +kernel
theorem dX4_copyFrom_38 : decode cX4_copyFrom 38 = .ok (.iload_n 3, 1) := by decide +kernel
theorem dX4_copyFrom_39 : decode cX4_copyFrom 39 = .ok (.iaload, 1) := by decide +kernel
theorem dX4_copyFrom_40 : decode cX4_copyFrom 40 = .ok (.aload_n 1, 1) := by decide +kernel
theorem dX4_copyFrom_41 : decode cX4_copyFrom 41 = .ok (.getfield 21, 3) := by decide +kernel
theorem dX4_copyFrom_44 : decode cX4_copyFrom 44 = .ok (.iload_n 3, 1) := by decide +kernel
theorem dX4_copyFrom_45 : decode cX4_copyFrom 45 = .ok (.iaload, 1) := by decide +kernel
theorem dX4_copyFrom_46 : decode cX4_copyFrom 46 = .ok (.invokevirtual 37, 3) := by decide +kernel
theorem dX4_copyFrom_49 : decode cX4_copyFrom 49 = .ok (.pop, 1) := by decide +kernel
theorem dX4_copyFrom_50 : decode cX4_copyFrom 50 = .ok (.iinc 3 1, 3) := by decide +kernel
theorem dX4_copyFrom_53 : decode cX4_copyFrom 53 = .ok (.goto (-37), 3) := by decide +kernel
theorem dX4_copyFrom_56 : decode cX4_copyFrom 56 = .ok (.return_, 1) := by decide +kernel
theorem dX5_init_0 : decode cX5_init 0 = .ok (.aload_n 0, 1) := by decide +kernel
theorem dX5_init_1 : decode cX5_init 1 = .ok (.invokespecial 1, 3) := by decide +kernel
theorem dX5_init_4 : decode cX5_init 4 = .ok (.aload_n 0, 1) := by decide +kernel
theorem dX5_init_5 : decode cX5_init 5 = .ok (.bipush 40, 2) := by decide +kernel
theorem dX5_init_7 : decode cX5_init 7 = .ok (.newarray .char, 2) := by decide +kernel
theorem dX5_init_9 : decode cX5_init 9 = .ok (.putfield 9, 3) := by decide +kernel
theorem dX5_init_12 : decode cX5_init 12 = .ok (.aload_n 0, 1) := by decide +kernel
theorem dX5_init_13 : decode cX5_init 13 = .ok (.iconst 0, 1) := by decide +kernel
theorem dX5_init_14 : decode cX5_init 14 = .ok (.putfield 13, 3) := by decide +kernel
theorem dX5_init_17 : decode cX5_init 17 = .ok (.aload_n 0, 1) := by decide +kernel
theorem dX5_init_18 : decode cX5_init 18 = .ok (.new 17, 3) := by decide +kernel
theorem dX5_init_21 : decode cX5_init 21 = .ok (.dup, 1) := by decide +kernel
theorem dX5_init_22 : decode cX5_init 22 = .ok (.invokespecial 19, 3) := by decide +kernel
theorem dX5_init_25 : decode cX5_init 25 = .ok (.putfield 20, 3) := by decide +kernel
theorem dX5_init_28 : decode cX5_init 28 = .ok (.aload_n 0, 1) := by decide +kernel
theorem dX5_init_29 : decode cX5_init 29 = .ok (.new 24, 3) := by decide +kernel
theorem dX5_init_32 : decode cX5_init 32 = .ok (.dup, 1) := by decide +kernel
theorem dX5_init_33 : decode cX5_init 33 = .ok (.invokespecial 26, 3) := by decide +kernel
theorem dX5_init_36 : decode cX5_init 36 = .ok (.putfield 27, 3) := by decide +kernel
theorem dX5_init_39 : decode cX5_init 39 = .ok (.aload_n 0, 1) := by decide +kernel
theorem dX5_init_40 : decode cX5_init 40 = .ok (.new 31, 3) := by decide +kernel
theorem dX5_init_43 : decode cX5_init 43 = .ok (.dup, 1) := by decide +kernel
theorem dX5_init_44 : decode cX5_init 44 = .ok (.invokespecial 33, 3) := by decide +kernel
theorem dX5_init_47 : decode cX5_init 47 = .ok (.putfield 34, 3) := by decide +kernel
theorem dX5_init_50 : decode cX5_init 50 = .ok (.aload_n 0, 1) := by decide +kernel
theorem dX5_init_51 : decode cX5_init 51 = .ok (.new 38, 3) := by decide +kernel
theorem dX5_init_54 : decode cX5_init 54 = .ok (.dup, 1) := by decide +kernel
theorem dX5_init_55 : decode cX5_init 55 = .ok (.invokespecial 40, 3) := by decide +kernel
theorem dX5_init_58 : decode cX5_init 58 = .ok (.putfield 41, 3) := by decide +kernel
theorem dX5_init_61 : decode cX5_init 61 = .ok (.aload_n 0, 1) := by decide +kernel
theorem dX5_init_62 : decode cX5_init 62 = .ok (.new 45, 3) := by decide +kernel
theorem dX5_init_65 : decode cX5_init 65 = .ok (.dup, 1) := by decide +kernel
theorem dX5_init_66 : decode cX5_init 66 = .ok (.invokespecial 47, 3) := by decide +kernel
theorem dX5_init_69 : decode cX5_init 69 = .ok (.putfield 48, 3) := by decide +kernel
theorem dX5_init_72 : decode cX5_init 72 = .ok (.aload_n 0, 1) := by decide +kernel
theorem dX5_init_73 : decode cX5_init 73 = .ok (.iconst 0, 1) := by decide +kernel
theorem dX5_init_74 : decode cX5_init 74 = .ok (.putfield 52, 3) := by decide +kernel
theorem dX5_init_77 : decode cX5_init 77 = .ok (.aload_n 0, 1) := by decide +kernel
theorem dX5_init_78 : decode cX5_init 78 = .ok (.iconst (-1), 1) := by decide +kernel
theorem dX5_init_79 : decode cX5_init 79 = .ok (.putfield 55, 3) := by decide +kernel
theorem dX5_init_82 : decode cX5_init 82 = .ok (.aload_n 0, 1) := by decide +kernel
theorem dX5_init_83 : decode cX5_init 83 = .ok (.iconst (-1), 1) := by decide +kernel
theorem dX5_init_84 : decode cX5_init 84 = .ok (.putfield 58, 3) := by decide +kernel
theorem dX5_init_87 : decode cX5_init 87 = .ok (.return_, 1) := by decide +kernel
theorem dX5_type_0 : decode cX5_type 0 = .ok (.iload_n 1, 1) := by decide +kernel
theorem dX5_type_1 : decode cX5_type 1 = .ok (.bipush 33, 2) := by decide +kernel
theorem dX5_type_3 : decode cX5_type 3 = .ok (.if_icmp .lt 18, 3) := by decide +kernel
theorem dX5_type_6 : decode cX5_type 6 = .ok (.iload_n 1, 1) := by decide +kernel
theorem dX5_type_7 : decode cX5_type 7 = .ok (.bipush 126, 2) := by decide +kernel
theorem dX5_type_9 : decode cX5_type 9 = .ok (.if_icmp .gt 12, 3) := by decide +kernel
theorem dX5_type_12 : decode cX5_type 12 = .ok (.aload_n 0, 1) := by decide +kernel
theorem dX5_type_13 : decode cX5_type 13 = .ok (.getfield 13, 3) := by decide +kernel
theorem dX5_type_16 : decode cX5_type 16 = .ok (.bipush 40, 2) := by decide +kernel
theorem dX5_type_18 : decode cX5_type 18 = .ok (.if_icmp .lt 5, 3) := by decide +kernel
theorem dX5_type_21 : decode cX5_type 21 = .ok (.iconst 0, 1) := by decide +kernel
theorem dX5_type_22 : decode cX5_type 22 = .ok (.ireturn, 1) := by decide +kernel
theorem dX5_type_23 : decode cX5_type 23 = .ok (.aload_n 0, 1) := by decide +kernel
theorem dX5_type_24 : decode cX5_type 24 = .ok (.getfield 9, 3) := by decide +kernel
theorem dX5_type_27 : decode cX5_type 27 = .ok (.aload_n 0, 1) := by decide +kernel
theorem dX5_type_28 : decode cX5_type 28 = .ok (.getfield 13, 3) := by decide +kernel
theorem dX5_type_31 : decode cX5_type 31 = .ok (.iload_n 1, 1) := by decide +kernel
theorem dX5_type_32 : decode cX5_type 32 = .ok (.castore, 1) := by decide +kernel
theorem dX5_type_33 : decode cX5_type 33 = .ok (.aload_n 0, 1) := by decide +kernel
theorem dX5_type_34 : decode cX5_type 34 = .ok (.dup, 1) := by decide +kernel
theorem dX5_type_35 : decode cX5_type 35 = .ok (.getfield 13, 3) := by decide +kernel
theorem dX5_type_38 : decode cX5_type 38 = .ok (.iconst 1, 1) := by decide +kernel
theorem dX5_type_39 : decode cX5_type 39 = .ok (.iadd, 1) := by decide +kernel
theorem dX5_type_40 : decode cX5_type 40 = .ok (.putfield 13, 3) := by decide +kernel
theorem dX5_type_43 : decode cX5_type 43 = .ok (.iconst 1, 1) := by decide +kernel
theorem dX5_type_44 : decode cX5_type 44 = .ok (.ireturn, 1) := by decide +kernel
theorem dX5_compile_0 : decode cX5_compile 0 = .ok (.aload_n 0, 1) := by decide +kernel
theorem dX5_compile_1 : decode cX5_compile 1 = .ok (.getfield 20, 3) := by decide +kernel
theorem dX5_compile_4 : decode cX5_compile 4 = .ok (.aload_n 0, 1) := by decide +kernel
theorem dX5_compile_5 : decode cX5_compile 5 = .ok (.getfield 9, 3) := by decide +kernel
theorem dX5_compile_8 : decode cX5_compile 8 = .ok (.aload_n 0, 1) := by decide +kernel
theorem dX5_compile_9 : decode cX5_compile 9 = .ok (.getfield 13, 3) := by decide +kernel
theorem dX5_compile_12 : decode cX5_compile 12 = .ok (.invokevirtual 61, 3) := by decide +kernel
theorem dX5_compile_15 : decode cX5_compile 15 = .ok (.istore_n 1, 1) := by decide +kernel
theorem dX5_compile_16 : decode cX5_compile 16 = .ok (.aload_n 0, 1) := by decide +kernel
theorem dX5_compile_17 : decode cX5_compile 17 = .ok (.iconst 0, 1) := by decide +kernel
theorem dX5_compile_18 : decode cX5_compile 18 = .ok (.putfield 13, 3) := by decide +kernel
theorem dX5_compile_21 : decode cX5_compile 21 = .ok (.iload_n 1, 1) := by decide +kernel
theorem dX5_compile_22 : decode cX5_compile 22 = .ok (.iconst (-1), 1) := by decide +kernel
theorem dX5_compile_23 : decode cX5_compile 23 = .ok (.if_icmp .eq 5, 3) := by decide +kernel
theorem dX5_compile_26 : decode cX5_compile 26 = .ok (.iload_n 1, 1) := by decide +kernel
theorem dX5_compile_27 : decode cX5_compile 27 = .ok (.ireturn, 1) := by decide +kernel
theorem dX5_compile_28 : decode cX5_compile 28 = .ok (.aload_n 0, 1) := by decide +kernel
theorem dX5_compile_29 : decode cX5_compile 29 = .ok (.getfield 20, 3) := by decide +kernel
theorem dX5_compile_32 : decode cX5_compile 32 = .ok (.getfield 65, 3) := by decide +kernel
theorem dX5_compile_35 : decode cX5_compile 35 = .ok (.getfield 68, 3) := by decide +kernel
theorem dX5_compile_38 : decode cX5_compile 38 = .ok (.bipush 24, 2) := by decide +kernel
theorem dX5_compile_40 : decode cX5_compile 40 = .ok (.if_icmp .le 6, 3) := by decide +kernel
theorem dX5_compile_43 : decode cX5_compile 43 = .ok (.bipush (-2), 2) := by decide +kernel
theorem dX5_compile_45 : decode cX5_compile 45 = .ok (.ireturn, 1) := by decide +kernel
theorem dX5_compile_46 : decode cX5_compile 46 = .ok (.aload_n 0, 1) := by decide +kernel
theorem dX5_compile_47 : decode cX5_compile 47 = .ok (.getfield 27, 3) := by decide +kernel
theorem dX5_compile_50 : decode cX5_compile 50 = .ok (.aload_n 0, 1) := by decide +kernel
theorem dX5_compile_51 : decode cX5_compile 51 = .ok (.getfield 20, 3) := by decide +kernel
theorem dX5_compile_54 : decode cX5_compile 54 = .ok (.getfield 65, 3) := by decide +kernel
theorem dX5_compile_57 : decode cX5_compile 57 = .ok (.invokevirtual 71, 3) := by decide +kernel
theorem dX5_compile_60 : decode cX5_compile 60 = .ok (.aload_n 0, 1) := by decide +kernel
theorem dX5_compile_61 : decode cX5_compile 61 = .ok (.getfield 41, 3) := by decide +kernel
theorem dX5_compile_64 : decode cX5_compile 64 = .ok (.invokevirtual 75, 3) := by decide +kernel
theorem dX5_compile_67 : decode cX5_compile 67 = .ok (.aload_n 0, 1) := by decide +kernel
theorem dX5_compile_68 : decode cX5_compile 68 = .ok (.invokevirtual 78, 3) := by decide +kernel
theorem dX5_compile_71 : decode cX5_compile 71 = .ok (.iconst (-1), 1) := by decide +kernel
theorem dX5_compile_72 : decode cX5_compile 72 = .ok (.ireturn, 1) := by decide +kernel
theorem dX5_nodes_0 : decode cX5_nodes 0 = .ok (.aload_n 0, 1) := by decide +kernel
theorem dX5_nodes_1 : decode cX5_nodes 1 = .ok (.getfield 27, 3) := by decide +kernel
theorem dX5_nodes_4 : decode cX5_nodes 4 = .ok (.getfield 68, 3) := by decide +kernel
theorem dX5_nodes_7 : decode cX5_nodes 7 = .ok (.ireturn, 1) := by decide +kernel
theorem dX5_weights_0 : decode cX5_weights 0 = .ok (.iload_n 1, 1) := by decide +kernel
theorem dX5_weights_1 : decode cX5_weights 1 = .ok (.invokestatic 81, 3) := by decide +kernel
theorem dX5_weights_4 : decode cX5_weights 4 = .ok (.ifCond .eq 17, 3) := by decide +kernel
theorem dX5_weights_7 : decode cX5_weights 7 = .ok (.iload_n 2, 1) := by decide +kernel
theorem dX5_weights_8 : decode cX5_weights 8 = .ok (.invokestatic 81, 3) := by decide +kernel
theorem dX5_weights_11 : decode cX5_weights 11 = .ok (.ifCond .eq 10, 3) := by decide +kernel
theorem dX5_weights_14 : decode cX5_weights 14 = .ok (.iload_n 3, 1) := by decide +kernel
theorem dX5_weights_15 : decode cX5_weights 15 = .ok (.invokestatic 81, 3) := by decide +kernel
theorem dX5_weights_18 : decode cX5_weights 18 = .ok (.ifCond .ne 5, 3) := by decide +kernel
theorem dX5_weights_21 : decode cX5_weights 21 = .ok (.iconst 0, 1) := by decide +kernel
theorem dX5_weights_22 : decode cX5_weights 22 = .ok (.ireturn, 1) := by decide +kernel
theorem dX5_weights_23 : decode cX5_weights 23 = .ok (.aload_n 0, 1) := by decide +kernel
theorem dX5_weights_24 : decode cX5_weights 24 = .ok (.getfield 41, 3) := by decide +kernel
theorem dX5_weights_27 : decode cX5_weights 27 = .ok (.iload_n 1, 1) := by decide +kernel
theorem dX5_weights_28 : decode cX5_weights 28 = .ok (.iload_n 2, 1) := by decide +kernel
theorem dX5_weights_29 : decode cX5_weights 29 = .ok (.iload_n 3, 1) := by decide +kernel
theorem dX5_weights_30 : decode cX5_weights 30 = .ok (.invokevirtual 85, 3) := by decide +kernel
theorem dX5_weights_33 : decode cX5_weights 33 = .ok (.aload_n 0, 1) := by decide +kernel
theorem dX5_weights_34 : decode cX5_weights 34 = .ok (.invokevirtual 78, 3) := by decide +kernel
theorem dX5_weights_37 : decode cX5_weights 37 = .ok (.iconst 1, 1) := by decide +kernel
theorem dX5_weights_38 : decode cX5_weights 38 = .ok (.ireturn, 1) := by decide +kernel
theorem dX5_bound_0 : decode cX5_bound 0 = .ok (.iload_n 1, 1) := by decide +kernel
theorem dX5_bound_1 : decode cX5_bound 1 = .ok (.ifCond .lt 10, 3) := by decide +kernel
theorem dX5_bound_4 : decode cX5_bound 4 = .ok (.iload_n 1, 1) := by decide +kernel
theorem dX5_bound_5 : decode cX5_bound 5 = .ok (.sipush 999, 3) := by decide +kernel
theorem dX5_bound_8 : decode cX5_bound 8 = .ok (.if_icmp .le 5, 3) := by decide +kernel
theorem dX5_bound_11 : decode cX5_bound 11 = .ok (.iconst 0, 1) := by decide +kernel
theorem dX5_bound_12 : decode cX5_bound 12 = .ok (.ireturn, 1) := by decide +kernel
theorem dX5_bound_13 : decode cX5_bound 13 = .ok (.aload_n 0, 1) := by decide +kernel
theorem dX5_bound_14 : decode cX5_bound 14 = .ok (.iload_n 1, 1) := by decide +kernel
theorem dX5_bound_15 : decode cX5_bound 15 = .ok (.putfield 52, 3) := by decide +kernel
theorem dX5_bound_18 : decode cX5_bound 18 = .ok (.aload_n 0, 1) := by decide +kernel
theorem dX5_bound_19 : decode cX5_bound 19 = .ok (.invokevirtual 78, 3) := by decide +kernel
theorem dX5_bound_22 : decode cX5_bound 22 = .ok (.iconst 1, 1) := by decide +kernel
theorem dX5_bound_23 : decode cX5_bound 23 = .ok (.ireturn, 1) := by decide +kernel
theorem dX5_write_0 : decode cX5_write 0 = .ok (.iload_n 1, 1) := by decide +kernel
theorem dX5_write_1 : decode cX5_write 1 = .ok (.invokestatic 89, 3) := by decide +kernel
theorem dX5_write_4 : decode cX5_write 4 = .ok (.ifCond .eq 15, 3) := by decide +kernel
theorem dX5_write_7 : decode cX5_write 7 = .ok (.aload_n 0, 1) := by decide +kernel
theorem dX5_write_8 : decode cX5_write 8 = .ok (.getfield 34, 3) := by decide +kernel
theorem dX5_write_11 : decode cX5_write 11 = .ok (.getfield 93, 3) := by decide +kernel
theorem dX5_write_14 : decode cX5_write 14 = .ok (.bipush 24, 2) := by decide +kernel
theorem dX5_write_16 : decode cX5_write 16 = .ok (.if_icmp .lt 5, 3) := by decide +kernel
theorem dX5_write_19 : decode cX5_write 19 = .ok (.iconst 0, 1) := by decide +kernel
theorem dX5_write_20 : decode cX5_write 20 = .ok (.ireturn, 1) := by decide +kernel
theorem dX5_write_21 : decode cX5_write 21 = .ok (.aload_n 0, 1) := by decide +kernel
theorem dX5_write_22 : decode cX5_write 22 = .ok (.getfield 34, 3) := by decide +kernel
theorem dX5_write_25 : decode cX5_write 25 = .ok (.iload_n 1, 1) := by decide +kernel
theorem dX5_write_26 : decode cX5_write 26 = .ok (.invokevirtual 94, 3) := by decide +kernel
theorem dX5_write_29 : decode cX5_write 29 = .ok (.aload_n 0, 1) := by decide +kernel
theorem dX5_write_30 : decode cX5_write 30 = .ok (.invokevirtual 78, 3) := by decide +kernel
theorem dX5_write_33 : decode cX5_write 33 = .ok (.iconst 1, 1) := by decide +kernel
theorem dX5_write_34 : decode cX5_write 34 = .ok (.ireturn, 1) := by decide +kernel
theorem dX5_erase_0 : decode cX5_erase 0 = .ok (.aload_n 0, 1) := by decide +kernel
theorem dX5_erase_1 : decode cX5_erase 1 = .ok (.getfield 34, 3) := by decide +kernel
theorem dX5_erase_4 : decode cX5_erase 4 = .ok (.invokevirtual 98, 3) := by decide +kernel
theorem dX5_erase_7 : decode cX5_erase 7 = .ok (.aload_n 0, 1) := by decide +kernel
theorem dX5_erase_8 : decode cX5_erase 8 = .ok (.getfield 41, 3) := by decide +kernel
theorem dX5_erase_11 : decode cX5_erase 11 = .ok (.invokevirtual 75, 3) := by decide +kernel
theorem dX5_erase_14 : decode cX5_erase 14 = .ok (.aload_n 0, 1) := by decide +kernel
theorem dX5_erase_15 : decode cX5_erase 15 = .ok (.invokevirtual 78, 3) := by decide +kernel
theorem dX5_erase_18 : decode cX5_erase 18 = .ok (.return_, 1) := by decide +kernel
theorem dX5_cost_0 : decode cX5_cost 0 = .ok (.aload_n 0, 1) := by decide +kernel
theorem dX5_cost_1 : decode cX5_cost 1 = .ok (.getfield 27, 3) := by decide +kernel
theorem dX5_cost_4 : decode cX5_cost 4 = .ok (.getfield 68, 3) := by decide +kernel
theorem dX5_cost_7 : decode cX5_cost 7 = .ok (.ifCond .eq 23, 3) := by decide +kernel
theorem dX5_cost_10 : decode cX5_cost 10 = .ok (.iload_n 1, 1) := by decide +kernel
theorem dX5_cost_11 : decode cX5_cost 11 = .ok (.ifCond .lt 19, 3) := by decide +kernel
theorem dX5_cost_14 : decode cX5_cost 14 = .ok (.iload_n 2, 1) := by decide +kernel
theorem dX5_cost_15 : decode cX5_cost 15 = .ok (.iload_n 1, 1) := by decide +kernel
theorem dX5_cost_16 : decode cX5_cost 16 = .ok (.if_icmp .lt 14, 3) := by decide +kernel
theorem dX5_cost_19 : decode cX5_cost 19 = .ok (.iload_n 2, 1) := by decide +kernel
theorem dX5_cost_20 : decode cX5_cost 20 = .ok (.aload_n 0, 1) := by decide +kernel
theorem dX5_cost_21 : decode cX5_cost 21 = .ok (.getfield 34, 3) := by decide +kernel
theorem dX5_cost_24 : decode cX5_cost 24 = .ok (.getfield 93, 3) := by decide +kernel
theorem dX5_cost_27 : decode cX5_cost 27 = .ok (.if_icmp .le 5, 3) := by decide +kernel
theorem dX5_cost_30 : decode cX5_cost 30 = .ok (.iconst (-1), 1) := by decide +kernel
theorem dX5_cost_31 : decode cX5_cost 31 = .ok (.ireturn, 1) := by decide +kernel
theorem dX5_cost_32 : decode cX5_cost 32 = .ok (.aload_n 0, 1) := by decide +kernel
theorem dX5_cost_33 : decode cX5_cost 33 = .ok (.getfield 41, 3) := by decide +kernel
theorem dX5_cost_36 : decode cX5_cost 36 = .ok (.aload_n 0, 1) := by decide +kernel
theorem dX5_cost_37 : decode cX5_cost 37 = .ok (.getfield 27, 3) := by decide +kernel
theorem dX5_cost_40 : decode cX5_cost 40 = .ok (.aload_n 0, 1) := by decide +kernel
theorem dX5_cost_41 : decode cX5_cost 41 = .ok (.getfield 34, 3) := by decide +kernel
theorem dX5_cost_44 : decode cX5_cost 44 = .ok (.invokevirtual 101, 3) := by decide +kernel
theorem dX5_cost_47 : decode cX5_cost 47 = .ok (.aload_n 0, 1) := by decide +kernel
theorem dX5_cost_48 : decode cX5_cost 48 = .ok (.getfield 41, 3) := by decide +kernel
theorem dX5_cost_51 : decode cX5_cost 51 = .ok (.aload_n 0, 1) := by decide +kernel
theorem dX5_cost_52 : decode cX5_cost 52 = .ok (.getfield 27, 3) := by decide +kernel
theorem dX5_cost_55 : decode cX5_cost 55 = .ok (.iload_n 1, 1) := by decide +kernel
theorem dX5_cost_56 : decode cX5_cost 56 = .ok (.iload_n 2, 1) := by decide +kernel
theorem dX5_cost_57 : decode cX5_cost 57 = .ok (.invokevirtual 105, 3) := by decide +kernel
theorem dX5_cost_60 : decode cX5_cost 60 = .ok (.istore_n 3, 1) := by decide +kernel
theorem dX5_cost_61 : decode cX5_cost 61 = .ok (.iload_n 3, 1) := by decide +kernel
theorem dX5_cost_62 : decode cX5_cost 62 = .ok (.ldc 109, 2) := by decide +kernel
theorem dX5_cost_64 : decode cX5_cost 64 = .ok (.if_icmp .lt 7, 3) := by decide +kernel
theorem dX5_cost_67 : decode cX5_cost 67 = .ok (.iconst (-1), 1) := by decide +kernel
theorem dX5_cost_68 : decode cX5_cost 68 = .ok (.goto 4, 3) := by decide +kernel
theorem dX5_cost_71 : decode cX5_cost 71 = .ok (.iload_n 3, 1) := by decide +kernel
theorem dX5_cost_72 : decode cX5_cost 72 = .ok (.ireturn, 1) := by decide +kernel
theorem dX5_find_0 : decode cX5_find 0 = .ok (.aload_n 0, 1) := by decide +kernel
theorem dX5_find_1 : decode cX5_find 1 = .ok (.invokevirtual 78, 3) := by decide +kernel
theorem dX5_find_4 : decode cX5_find 4 = .ok (.aload_n 0, 1) := by decide +kernel
theorem dX5_find_5 : decode cX5_find 5 = .ok (.getfield 27, 3) := by decide +kernel
theorem dX5_find_8 : decode cX5_find 8 = .ok (.getfield 68, 3) := by decide +kernel
theorem dX5_find_11 : decode cX5_find 11 = .ok (.ifCond .ne 5, 3) := by decide +kernel
theorem dX5_find_14 : decode cX5_find 14 = .ok (.iconst (-1), 1) := by decide +kernel
theorem dX5_find_15 : decode cX5_find 15 = .ok (.ireturn, 1) := by decide +kernel
theorem dX5_find_16 : decode cX5_find 16 = .ok (.aload_n 0, 1) := by decide +kernel
theorem dX5_find_17 : decode cX5_find 17 = .ok (.getfield 41, 3) := by decide +kernel
theorem dX5_find_20 : decode cX5_find 20 = .ok (.aload_n 0, 1) := by decide +kernel
theorem dX5_find_21 : decode cX5_find 21 = .ok (.getfield 27, 3) := by decide +kernel
theorem dX5_find_24 : decode cX5_find 24 = .ok (.aload_n 0, 1) := by decide +kernel
theorem dX5_find_25 : decode cX5_find 25 = .ok (.getfield 34, 3) := by decide +kernel
theorem dX5_find_28 : decode cX5_find 28 = .ok (.invokevirtual 101, 3) := by decide +kernel
theorem dX5_find_31 : decode cX5_find 31 = .ok (.aload_n 0, 1) := by decide +kernel
theorem dX5_find_32 : decode cX5_find 32 = .ok (.getfield 52, 3) := by decide +kernel
theorem dX5_find_35 : decode cX5_find 35 = .ok (.iconst 1, 1) := by decide +kernel
theorem dX5_find_36 : decode cX5_find 36 = .ok (.iadd, 1) := by decide +kernel
theorem dX5_find_37 : decode cX5_find 37 = .ok (.istore_n 2, 1) := by decide +kernel
theorem dX5_find_38 : decode cX5_find 38 = .ok (.iconst 0, 1) := by decide +kernel
theorem dX5_find_39 : decode cX5_find 39 = .ok (.istore_n 3, 1) := by decide +kernel
theorem dX5_find_40 : decode cX5_find 40 = .ok (.iload_n 3, 1) := by decide +kernel
theorem dX5_find_41 : decode cX5_find 41 = .ok (.aload_n 0, 1) := by decide +kernel
theorem dX5_find_42 : decode cX5_find 42 = .ok (.getfield 34, 3) := by decide +kernel
theorem dX5_find_45 : decode cX5_find 45 = .ok (.getfield 93, 3) := by decide +kernel
theorem dX5_find_48 : decode cX5_find 48 = .ok (.if_icmp .gt 81, 3) := by decide +kernel
theorem dX5_find_51 : decode cX5_find 51 = .ok (.aload_n 0, 1) := by decide +kernel
theorem dX5_find_52 : decode cX5_find 52 = .ok (.getfield 34, 3) := by decide +kernel
theorem dX5_find_55 : decode cX5_find 55 = .ok (.getfield 93, 3) := by decide +kernel
theorem dX5_find_58 : decode cX5_find 58 = .ok (.istore 4, 2) := by decide +kernel
theorem dX5_find_60 : decode cX5_find 60 = .ok (.iload 4, 2) := by decide +kernel
theorem dX5_find_62 : decode cX5_find 62 = .ok (.iload_n 3, 1) := by decide +kernel
theorem dX5_find_63 : decode cX5_find 63 = .ok (.if_icmp .lt 45, 3) := by decide +kernel
theorem dX5_find_66 : decode cX5_find 66 = .ok (.aload_n 0, 1) := by decide +kernel
theorem dX5_find_67 : decode cX5_find 67 = .ok (.getfield 41, 3) := by decide +kernel
theorem dX5_find_70 : decode cX5_find 70 = .ok (.aload_n 0, 1) := by decide +kernel
theorem dX5_find_71 : decode cX5_find 71 = .ok (.getfield 27, 3) := by decide +kernel
theorem dX5_find_74 : decode cX5_find 74 = .ok (.iload_n 3, 1) := by decide +kernel
theorem dX5_find_75 : decode cX5_find 75 = .ok (.iload 4, 2) := by decide +kernel
theorem dX5_find_77 : decode cX5_find 77 = .ok (.invokevirtual 105, 3) := by decide +kernel
theorem dX5_find_80 : decode cX5_find 80 = .ok (.istore 5, 2) := by decide +kernel
theorem dX5_find_82 : decode cX5_find 82 = .ok (.iload 5, 2) := by decide +kernel
theorem dX5_find_84 : decode cX5_find 84 = .ok (.iload_n 2, 1) := by decide +kernel
theorem dX5_find_85 : decode cX5_find 85 = .ok (.if_icmp .ge 17, 3) := by decide +kernel
theorem dX5_find_88 : decode cX5_find 88 = .ok (.iload 5, 2) := by decide +kernel
theorem dX5_find_90 : decode cX5_find 90 = .ok (.istore_n 2, 1) := by decide +kernel
theorem dX5_find_91 : decode cX5_find 91 = .ok (.aload_n 0, 1) := by decide +kernel
theorem dX5_find_92 : decode cX5_find 92 = .ok (.iload_n 3, 1) := by decide +kernel
theorem dX5_find_93 : decode cX5_find 93 = .ok (.putfield 55, 3) := by decide +kernel
theorem dX5_find_96 : decode cX5_find 96 = .ok (.aload_n 0, 1) := by decide +kernel
theorem dX5_find_97 : decode cX5_find 97 = .ok (.iload 4, 2) := by decide +kernel
theorem dX5_find_99 : decode cX5_find 99 = .ok (.putfield 58, 3) := by decide +kernel
theorem dX5_find_102 : decode cX5_find 102 = .ok (.iinc 4 (-1), 3) := by decide +kernel
theorem dX5_find_105 : decode cX5_find 105 = .ok (.goto (-45), 3) := by decide +kernel
theorem dX5_find_108 : decode cX5_find 108 = .ok (.iload_n 1, 1) := by decide +kernel
theorem dX5_find_109 : decode cX5_find 109 = .ok (.ifCond .ne 14, 3) := by decide +kernel
theorem dX5_find_112 : decode cX5_find 112 = .ok (.aload_n 0, 1) := by decide +kernel
theorem dX5_find_113 : decode cX5_find 113 = .ok (.getfield 55, 3) := by decide +kernel
theorem dX5_find_116 : decode cX5_find 116 = .ok (.iconst (-1), 1) := by decide +kernel
theorem dX5_find_117 : decode cX5_find 117 = .ok (.if_icmp .eq 6, 3) := by decide +kernel
theorem dX5_find_120 : decode cX5_find 120 = .ok (.goto 9, 3) := by decide +kernel
theorem dX5_find_123 : decode cX5_find 123 = .ok (.iinc 3 1, 3) := by decide +kernel
theorem dX5_find_126 : decode cX5_find 126 = .ok (.goto (-86), 3) := by decide +kernel
theorem dX5_find_129 : decode cX5_find 129 = .ok (.aload_n 0, 1) := by decide +kernel
theorem dX5_find_130 : decode cX5_find 130 = .ok (.getfield 55, 3) := by decide +kernel
theorem dX5_find_133 : decode cX5_find 133 = .ok (.iconst (-1), 1) := by decide +kernel
theorem dX5_find_134 : decode cX5_find 134 = .ok (.if_icmp .ne 7, 3) := by decide +kernel
theorem dX5_find_137 : decode cX5_find 137 = .ok (.iconst (-1), 1) := by decide +kernel
theorem dX5_find_138 : decode cX5_find 138 = .ok (.goto 4, 3) := by decide +kernel
theorem dX5_find_141 : decode cX5_find 141 = .ok (.iload_n 2, 1) := by decide +kernel
theorem dX5_find_142 : decode cX5_find 142 = .ok (.ireturn, 1) := by decide +kernel
theorem dX5_from_0 : decode cX5_from 0 = .ok (.aload_n 0, 1) := by decide +kernel
theorem dX5_from_1 : decode cX5_from 1 = .ok (.getfield 55, 3) := by decide +kernel
theorem dX5_from_4 : decode cX5_from 4 = .ok (.ireturn, 1) := by decide +kernel
theorem dX5_to_0 : decode cX5_to 0 = .ok (.aload_n 0, 1) := by decide +kernel
theorem dX5_to_1 : decode cX5_to 1 = .ok (.getfield 58, 3) := by decide +kernel
theorem dX5_to_4 : decode cX5_to 4 = .ok (.ireturn, 1) := by decide +kernel
theorem dX5_ends_0 : decode cX5_ends 0 = .ok (.aload_n 0, 1) := by decide +kernel
theorem dX5_ends_1 : decode cX5_ends 1 = .ok (.getfield 27, 3) := by decide +kernel
theorem dX5_ends_4 : decode cX5_ends 4 = .ok (.getfield 68, 3) := by decide +kernel
theorem dX5_ends_7 : decode cX5_ends 7 = .ok (.ifCond .ne 5, 3) := by decide +kernel
theorem dX5_ends_10 : decode cX5_ends 10 = .ok (.iconst 0, 1) := by decide +kernel
theorem dX5_ends_11 : decode cX5_ends 11 = .ok (.ireturn, 1) := by decide +kernel
theorem dX5_ends_12 : decode cX5_ends 12 = .ok (.aload_n 0, 1) := by decide +kernel
theorem dX5_ends_13 : decode cX5_ends 13 = .ok (.getfield 41, 3) := by decide +kernel
theorem dX5_ends_16 : decode cX5_ends 16 = .ok (.aload_n 0, 1) := by decide +kernel
theorem dX5_ends_17 : decode cX5_ends 17 = .ok (.getfield 27, 3) := by decide +kernel
theorem dX5_ends_20 : decode cX5_ends 20 = .ok (.aload_n 0, 1) := by decide +kernel
theorem dX5_ends_21 : decode cX5_ends 21 = .ok (.getfield 34, 3) := by decide +kernel
theorem dX5_ends_24 : decode cX5_ends 24 = .ok (.invokevirtual 101, 3) := by decide +kernel
theorem dX5_ends_27 : decode cX5_ends 27 = .ok (.iconst 0, 1) := by decide +kernel
theorem dX5_ends_28 : decode cX5_ends 28 = .ok (.istore_n 1, 1) := by decide +kernel
theorem dX5_ends_29 : decode cX5_ends 29 = .ok (.iconst 0, 1) := by decide +kernel
theorem dX5_ends_30 : decode cX5_ends 30 = .ok (.istore_n 2, 1) := by decide +kernel
theorem dX5_ends_31 : decode cX5_ends 31 = .ok (.iload_n 2, 1) := by decide +kernel
theorem dX5_ends_32 : decode cX5_ends 32 = .ok (.aload_n 0, 1) := by decide +kernel
theorem dX5_ends_33 : decode cX5_ends 33 = .ok (.getfield 34, 3) := by decide +kernel
theorem dX5_ends_36 : decode cX5_ends 36 = .ok (.getfield 93, 3) := by decide +kernel
theorem dX5_ends_39 : decode cX5_ends 39 = .ok (.if_icmp .gt 48, 3) := by decide +kernel
theorem dX5_ends_42 : decode cX5_ends 42 = .ok (.iconst 0, 1) := by decide +kernel
theorem dX5_ends_43 : decode cX5_ends 43 = .ok (.istore_n 3, 1) := by decide +kernel
theorem dX5_ends_44 : decode cX5_ends 44 = .ok (.iload_n 3, 1) := by decide +kernel
theorem dX5_ends_45 : decode cX5_ends 45 = .ok (.iload_n 2, 1) := by decide +kernel
theorem dX5_ends_46 : decode cX5_ends 46 = .ok (.if_icmp .gt 35, 3) := by decide +kernel
theorem dX5_ends_49 : decode cX5_ends 49 = .ok (.aload_n 0, 1) := by decide +kernel
theorem dX5_ends_50 : decode cX5_ends 50 = .ok (.getfield 41, 3) := by decide +kernel
theorem dX5_ends_53 : decode cX5_ends 53 = .ok (.aload_n 0, 1) := by decide +kernel
theorem dX5_ends_54 : decode cX5_ends 54 = .ok (.getfield 27, 3) := by decide +kernel
theorem dX5_ends_57 : decode cX5_ends 57 = .ok (.iload_n 3, 1) := by decide +kernel
theorem dX5_ends_58 : decode cX5_ends 58 = .ok (.iload_n 2, 1) := by decide +kernel
theorem dX5_ends_59 : decode cX5_ends 59 = .ok (.invokevirtual 105, 3) := by decide +kernel
theorem dX5_ends_62 : decode cX5_ends 62 = .ok (.aload_n 0, 1) := by decide +kernel
theorem dX5_ends_63 : decode cX5_ends 63 = .ok (.getfield 52, 3) := by decide +kernel
theorem dX5_ends_66 : decode cX5_ends 66 = .ok (.if_icmp .gt 9, 3) := by decide +kernel
theorem dX5_ends_69 : decode cX5_ends 69 = .ok (.iload_n 1, 1) := by decide +kernel
theorem dX5_ends_70 : decode cX5_ends 70 = .ok (.iconst 1, 1) := by decide +kernel
theorem dX5_ends_71 : decode cX5_ends 71 = .ok (.iload_n 2, 1) := by decide +kernel
theorem dX5_ends_72 : decode cX5_ends 72 = .ok (.ishl, 1) := by decide +kernel
theorem dX5_ends_73 : decode cX5_ends 73 = .ok (.ior, 1) := by decide +kernel
theorem dX5_ends_74 : decode cX5_ends 74 = .ok (.istore_n 1, 1) := by decide +kernel
theorem dX5_ends_75 : decode cX5_ends 75 = .ok (.iinc 3 1, 3) := by decide +kernel
theorem dX5_ends_78 : decode cX5_ends 78 = .ok (.goto (-34), 3) := by decide +kernel
theorem dX5_ends_81 : decode cX5_ends 81 = .ok (.iinc 2 1, 3) := by decide +kernel
theorem dX5_ends_84 : decode cX5_ends 84 = .ok (.goto (-53), 3) := by decide +kernel
theorem dX5_ends_87 : decode cX5_ends 87 = .ok (.iload_n 1, 1) := by decide +kernel
theorem dX5_ends_88 : decode cX5_ends 88 = .ok (.ireturn, 1) := by decide +kernel
theorem dX5_add_0 : decode cX5_add 0 = .ok (.aload_n 0, 1) := by decide +kernel
theorem dX5_add_1 : decode cX5_add 1 = .ok (.getfield 48, 3) := by decide +kernel
theorem dX5_add_4 : decode cX5_add 4 = .ok (.aload_n 0, 1) := by decide +kernel
theorem dX5_add_5 : decode cX5_add 5 = .ok (.getfield 34, 3) := by decide +kernel
theorem dX5_add_8 : decode cX5_add 8 = .ok (.invokevirtual 110, 3) := by decide +kernel
theorem dX5_add_11 : decode cX5_add 11 = .ok (.ireturn, 1) := by decide +kernel
theorem dX5_words_0 : decode cX5_words 0 = .ok (.aload_n 0, 1) := by decide +kernel
theorem dX5_words_1 : decode cX5_words 1 = .ok (.getfield 48, 3) := by decide +kernel
theorem dX5_words_4 : decode cX5_words 4 = .ok (.getfield 114, 3) := by decide +kernel
theorem dX5_words_7 : decode cX5_words 7 = .ok (.ireturn, 1) := by decide +kernel
theorem dX5_distance_0 : decode cX5_distance 0 = .ok (.aload_n 0, 1) := by decide +kernel
theorem dX5_distance_1 : decode cX5_distance 1 = .ok (.getfield 48, 3) := by decide +kernel
theorem dX5_distance_4 : decode cX5_distance 4 = .ok (.iload_n 1, 1) := by decide +kernel
theorem dX5_distance_5 : decode cX5_distance 5 = .ok (.aload_n 0, 1) := by decide +kernel
theorem dX5_distance_6 : decode cX5_distance 6 = .ok (.getfield 34, 3) := by decide +kernel
theorem dX5_distance_9 : decode cX5_distance 9 = .ok (.iload_n 2, 1) := by decide +kernel
theorem dX5_distance_10 : decode cX5_distance 10 = .ok (.invokevirtual 115, 3) := by decide +kernel
theorem dX5_distance_13 : decode cX5_distance 13 = .ok (.ireturn, 1) := by decide +kernel
theorem dX5_near_0 : decode cX5_near 0 = .ok (.aload_n 0, 1) := by decide +kernel
theorem dX5_near_1 : decode cX5_near 1 = .ok (.getfield 48, 3) := by decide +kernel
theorem dX5_near_4 : decode cX5_near 4 = .ok (.iload_n 1, 1) := by decide +kernel
theorem dX5_near_5 : decode cX5_near 5 = .ok (.aload_n 0, 1) := by decide +kernel
theorem dX5_near_6 : decode cX5_near 6 = .ok (.getfield 34, 3) := by decide +kernel
theorem dX5_near_9 : decode cX5_near 9 = .ok (.iload_n 2, 1) := by decide +kernel
theorem dX5_near_10 : decode cX5_near 10 = .ok (.invokevirtual 119, 3) := by decide +kernel
theorem dX5_near_13 : decode cX5_near 13 = .ok (.ireturn, 1) := by decide +kernel
theorem dX5_rank_0 : decode cX5_rank 0 = .ok (.aload_n 0, 1) := by decide +kernel
theorem dX5_rank_1 : decode cX5_rank 1 = .ok (.getfield 48, 3) := by decide +kernel
theorem dX5_rank_4 : decode cX5_rank 4 = .ok (.iload_n 1, 1) := by decide +kernel
theorem dX5_rank_5 : decode cX5_rank 5 = .ok (.aload_n 0, 1) := by decide +kernel
theorem dX5_rank_6 : decode cX5_rank 6 = .ok (.getfield 34, 3) := by decide +kernel
theorem dX5_rank_9 : decode cX5_rank 9 = .ok (.iload_n 2, 1) := by decide +kernel
theorem dX5_rank_10 : decode cX5_rank 10 = .ok (.invokevirtual 122, 3) := by decide +kernel
theorem dX5_rank_13 : decode cX5_rank 13 = .ok (.ireturn, 1) := by decide +kernel
theorem dX5_forgetMatch_0 : decode cX5_forgetMatch 0 = .ok (.aload_n 0, 1) := by decide +kernel
theorem dX5_forgetMatch_1 : decode cX5_forgetMatch 1 = .ok (.iconst (-1), 1) := by decide +kernel
theorem dX5_forgetMatch_2 : decode cX5_forgetMatch 2 = .ok (.putfield 55, 3) := by decide +kernel
theorem dX5_forgetMatch_5 : decode cX5_forgetMatch 5 = .ok (.aload_n 0, 1) := by decide +kernel
theorem dX5_forgetMatch_6 : decode cX5_forgetMatch 6 = .ok (.iconst (-1), 1) := by decide +kernel
theorem dX5_forgetMatch_7 : decode cX5_forgetMatch 7 = .ok (.putfield 58, 3) := by decide +kernel
theorem dX5_forgetMatch_10 : decode cX5_forgetMatch 10 = .ok (.return_, 1) := by decide +kernel
theorem dX5_isLetter_0 : decode cX5_isLetter 0 = .ok (.iload_n 0, 1) := by decide +kernel
theorem dX5_isLetter_1 : decode cX5_isLetter 1 = .ok (.bipush 97, 2) := by decide +kernel
theorem dX5_isLetter_3 : decode cX5_isLetter 3 = .ok (.if_icmp .lt 13, 3) := by decide +kernel
theorem dX5_isLetter_6 : decode cX5_isLetter 6 = .ok (.iload_n 0, 1) := by decide +kernel
theorem dX5_isLetter_7 : decode cX5_isLetter 7 = .ok (.bipush 122, 2) := by decide +kernel
theorem dX5_isLetter_9 : decode cX5_isLetter 9 = .ok (.if_icmp .gt 7, 3) := by decide +kernel
theorem dX5_isLetter_12 : decode cX5_isLetter 12 = .ok (.iconst 1, 1) := by decide +kernel
theorem dX5_isLetter_13 : decode cX5_isLetter 13 = .ok (.goto 4, 3) := by decide +kernel
theorem dX5_isLetter_16 : decode cX5_isLetter 16 = .ok (.iconst 0, 1) := by decide +kernel
theorem dX5_isLetter_17 : decode cX5_isLetter 17 = .ok (.ireturn, 1) := by decide +kernel
theorem dX5_isDigit_0 : decode cX5_isDigit 0 = .ok (.iload_n 0, 1) := by decide +kernel
theorem dX5_isDigit_1 : decode cX5_isDigit 1 = .ok (.bipush 48, 2) := by decide +kernel
theorem dX5_isDigit_3 : decode cX5_isDigit 3 = .ok (.if_icmp .lt 13, 3) := by decide +kernel
theorem dX5_isDigit_6 : decode cX5_isDigit 6 = .ok (.iload_n 0, 1) := by decide +kernel
theorem dX5_isDigit_7 : decode cX5_isDigit 7 = .ok (.bipush 57, 2) := by decide +kernel
theorem dX5_isDigit_9 : decode cX5_isDigit 9 = .ok (.if_icmp .gt 7, 3) := by decide +kernel
theorem dX5_isDigit_12 : decode cX5_isDigit 12 = .ok (.iconst 1, 1) := by decide +kernel
theorem dX5_isDigit_13 : decode cX5_isDigit 13 = .ok (.goto 4, 3) := by decide +kernel
theorem dX5_isDigit_16 : decode cX5_isDigit 16 = .ok (.iconst 0, 1) := by decide +kernel
theorem dX5_isDigit_17 : decode cX5_isDigit 17 = .ok (.ireturn, 1) := by decide +kernel
theorem dX5_isWeight_0 : decode cX5_isWeight 0 = .ok (.iload_n 0, 1) := by decide +kernel
theorem dX5_isWeight_1 : decode cX5_isWeight 1 = .ok (.ifCond .lt 13, 3) := by decide +kernel
theorem dX5_isWeight_4 : decode cX5_isWeight 4 = .ok (.iload_n 0, 1) := by decide +kernel
theorem dX5_isWeight_5 : decode cX5_isWeight 5 = .ok (.bipush 9, 2) := by decide +kernel
theorem dX5_isWeight_7 : decode cX5_isWeight 7 = .ok (.if_icmp .gt 7, 3) := by decide +kernel
theorem dX5_isWeight_10 : decode cX5_isWeight 10 = .ok (.iconst 1, 1) := by decide +kernel
theorem dX5_isWeight_11 : decode cX5_isWeight 11 = .ok (.goto 4, 3) := by decide +kernel
theorem dX5_isWeight_14 : decode cX5_isWeight 14 = .ok (.iconst 0, 1) := by decide +kernel
theorem dX5_isWeight_15 : decode cX5_isWeight 15 = .ok (.ireturn, 1) := by decide +kernel
theorem dL_law_0 : decode cL_law 0 = .ok (.new 7, 3) := by decide +kernel
theorem dL_law_3 : decode cL_law 3 = .ok (.dup, 1) := by decide +kernel
theorem dL_law_4 : decode cL_law 4 = .ok (.invokespecial 9, 3) := by decide +kernel
theorem dL_law_7 : decode cL_law 7 = .ok (.astore_n 1, 1) := by decide +kernel
theorem dL_law_8 : decode cL_law 8 = .ok (.new 10, 3) := by decide +kernel
theorem dL_law_11 : decode cL_law 11 = .ok (.dup, 1) := by decide +kernel
theorem dL_law_12 : decode cL_law 12 = .ok (.invokespecial 12, 3) := by decide +kernel
theorem dL_law_15 : decode cL_law 15 = .ok (.astore_n 2, 1) := by decide +kernel
theorem dL_law_16 : decode cL_law 16 = .ok (.iconst 0, 1) := by decide +kernel
theorem dL_law_17 : decode cL_law 17 = .ok (.istore_n 3, 1) := by decide +kernel
theorem dL_law_18 : decode cL_law 18 = .ok (.iload_n 3, 1) := by decide +kernel
theorem dL_law_19 : decode cL_law 19 = .ok (.aload_n 0, 1) := by decide +kernel
theorem dL_law_20 : decode cL_law 20 = .ok (.arraylength, 1) := by decide +kernel
theorem dL_law_21 : decode cL_law 21 = .ok (.iconst 4, 1) := by decide +kernel
theorem dL_law_22 : decode cL_law 22 = .ok (.isub, 1) := by decide +kernel
theorem dL_law_23 : decode cL_law 23 = .ok (.if_icmp .gt 536, 3) := by decide +kernel
theorem dL_law_26 : decode cL_law 26 = .ok (.aload_n 0, 1) := by decide +kernel
theorem dL_law_27 : decode cL_law 27 = .ok (.iload_n 3, 1) := by decide +kernel
theorem dL_law_28 : decode cL_law 28 = .ok (.iaload, 1) := by decide +kernel
theorem dL_law_29 : decode cL_law 29 = .ok (.bipush 31, 2) := by decide +kernel
theorem dL_law_31 : decode cL_law 31 = .ok (.iand, 1) := by decide +kernel
theorem dL_law_32 : decode cL_law 32 = .ok (.tableswitch 521 0 16 #[84, 109, 122, 135, 178, 201, 226, 237, 270, 309, 322, 335, 348, 361, 374, 423, 472], 84) := by decide +kernel
theorem dL_law_116 : decode cL_law 116 = .ok (.aload_n 1, 1) := by decide +kernel
theorem dL_law_117 : decode cL_law 117 = .ok (.aload_n 0, 1) := by decide +kernel
theorem dL_law_118 : decode cL_law 118 = .ok (.iload_n 3, 1) := by decide +kernel
theorem dL_law_119 : decode cL_law 119 = .ok (.iconst 1, 1) := by decide +kernel
theorem dL_law_120 : decode cL_law 120 = .ok (.iadd, 1) := by decide +kernel
theorem dL_law_121 : decode cL_law 121 = .ok (.iaload, 1) := by decide +kernel
theorem dL_law_122 : decode cL_law 122 = .ok (.i2c, 1) := by decide +kernel
theorem dL_law_123 : decode cL_law 123 = .ok (.invokevirtual 13, 3) := by decide +kernel
theorem dL_law_126 : decode cL_law 126 = .ok (.aload_n 2, 1) := by decide +kernel
theorem dL_law_127 : decode cL_law 127 = .ok (.aload_n 0, 1) := by decide +kernel
theorem dL_law_128 : decode cL_law 128 = .ok (.iload_n 3, 1) := by decide +kernel
theorem dL_law_129 : decode cL_law 129 = .ok (.iconst 1, 1) := by decide +kernel
theorem dL_law_130 : decode cL_law 130 = .ok (.iadd, 1) := by decide +kernel
theorem dL_law_131 : decode cL_law 131 = .ok (.iaload, 1) := by decide +kernel
theorem dL_law_132 : decode cL_law 132 = .ok (.i2c, 1) := by decide +kernel
theorem dL_law_133 : decode cL_law 133 = .ok (.invokevirtual 17, 3) := by decide +kernel
theorem dL_law_136 : decode cL_law 136 = .ok (.if_icmp .eq 417, 3) := by decide +kernel
theorem dL_law_139 : decode cL_law 139 = .ok (.iconst 0, 1) := by decide +kernel
theorem dL_law_140 : decode cL_law 140 = .ok (.ireturn, 1) := by decide +kernel
theorem dL_law_141 : decode cL_law 141 = .ok (.aload_n 1, 1) := by decide +kernel
theorem dL_law_142 : decode cL_law 142 = .ok (.invokevirtual 18, 3) := by decide +kernel
theorem dL_law_145 : decode cL_law 145 = .ok (.aload_n 2, 1) := by decide +kernel
theorem dL_law_146 : decode cL_law 146 = .ok (.invokevirtual 22, 3) := by decide +kernel
theorem dL_law_149 : decode cL_law 149 = .ok (.if_icmp .eq 404, 3) := by decide +kernel
theorem dL_law_152 : decode cL_law 152 = .ok (.iconst 0, 1) := by decide +kernel
theorem dL_law_153 : decode cL_law 153 = .ok (.ireturn, 1) := by decide +kernel
theorem dL_law_154 : decode cL_law 154 = .ok (.aload_n 1, 1) := by decide +kernel
theorem dL_law_155 : decode cL_law 155 = .ok (.invokevirtual 23, 3) := by decide +kernel
theorem dL_law_158 : decode cL_law 158 = .ok (.aload_n 2, 1) := by decide +kernel
theorem dL_law_159 : decode cL_law 159 = .ok (.invokevirtual 26, 3) := by decide +kernel
theorem dL_law_162 : decode cL_law 162 = .ok (.if_icmp .eq 391, 3) := by decide +kernel
theorem dL_law_165 : decode cL_law 165 = .ok (.iconst 0, 1) := by decide +kernel
theorem dL_law_166 : decode cL_law 166 = .ok (.ireturn, 1) := by decide +kernel
theorem dL_law_167 : decode cL_law 167 = .ok (.aload_n 1, 1) := by decide +kernel
theorem dL_law_168 : decode cL_law 168 = .ok (.aload_n 0, 1) := by decide +kernel
theorem dL_law_169 : decode cL_law 169 = .ok (.iload_n 3, 1) := by decide +kernel
theorem dL_law_170 : decode cL_law 170 = .ok (.iconst 1, 1) := by decide +kernel
theorem dL_law_171 : decode cL_law 171 = .ok (.iadd, 1) := by decide +kernel
theorem dL_law_172 : decode cL_law 172 = .ok (.iaload, 1) := by decide +kernel
theorem dL_law_173 : decode cL_law 173 = .ok (.aload_n 0, 1) := by decide +kernel
theorem dL_law_174 : decode cL_law 174 = .ok (.iload_n 3, 1) := by decide +kernel
theorem dL_law_175 : decode cL_law 175 = .ok (.iconst 2, 1) := by decide +kernel
theorem dL_law_176 : decode cL_law 176 = .ok (.iadd, 1) := by decide +kernel
theorem dL_law_177 : decode cL_law 177 = .ok (.iaload, 1) := by decide +kernel
theorem dL_law_178 : decode cL_law 178 = .ok (.aload_n 0, 1) := by decide +kernel
theorem dL_law_179 : decode cL_law 179 = .ok (.iload_n 3, 1) := by decide +kernel
theorem dL_law_180 : decode cL_law 180 = .ok (.iconst 3, 1) := by decide +kernel
theorem dL_law_181 : decode cL_law 181 = .ok (.iadd, 1) := by decide +kernel
theorem dL_law_182 : decode cL_law 182 = .ok (.iaload, 1) := by decide +kernel
theorem dL_law_183 : decode cL_law 183 = .ok (.invokevirtual 27, 3) := by decide +kernel
theorem dL_law_186 : decode cL_law 186 = .ok (.aload_n 2, 1) := by decide +kernel
theorem dL_law_187 : decode cL_law 187 = .ok (.aload_n 0, 1) := by decide +kernel
theorem dL_law_188 : decode cL_law 188 = .ok (.iload_n 3, 1) := by decide +kernel
theorem dL_law_189 : decode cL_law 189 = .ok (.iconst 1, 1) := by decide +kernel
theorem dL_law_190 : decode cL_law 190 = .ok (.iadd, 1) := by decide +kernel
theorem dL_law_191 : decode cL_law 191 = .ok (.iaload, 1) := by decide +kernel
theorem dL_law_192 : decode cL_law 192 = .ok (.aload_n 0, 1) := by decide +kernel
theorem dL_law_193 : decode cL_law 193 = .ok (.iload_n 3, 1) := by decide +kernel
theorem dL_law_194 : decode cL_law 194 = .ok (.iconst 2, 1) := by decide +kernel
theorem dL_law_195 : decode cL_law 195 = .ok (.iadd, 1) := by decide +kernel
theorem dL_law_196 : decode cL_law 196 = .ok (.iaload, 1) := by decide +kernel
theorem dL_law_197 : decode cL_law 197 = .ok (.aload_n 0, 1) := by decide +kernel
theorem dL_law_198 : decode cL_law 198 = .ok (.iload_n 3, 1) := by decide +kernel
theorem dL_law_199 : decode cL_law 199 = .ok (.iconst 3, 1) := by decide +kernel
theorem dL_law_200 : decode cL_law 200 = .ok (.iadd, 1) := by decide +kernel
theorem dL_law_201 : decode cL_law 201 = .ok (.iaload, 1) := by decide +kernel
theorem dL_law_202 : decode cL_law 202 = .ok (.invokevirtual 31, 3) := by decide +kernel
theorem dL_law_205 : decode cL_law 205 = .ok (.if_icmp .eq 348, 3) := by decide +kernel
theorem dL_law_208 : decode cL_law 208 = .ok (.iconst 0, 1) := by decide +kernel
theorem dL_law_209 : decode cL_law 209 = .ok (.ireturn, 1) := by decide +kernel
theorem dL_law_210 : decode cL_law 210 = .ok (.aload_n 1, 1) := by decide +kernel
theorem dL_law_211 : decode cL_law 211 = .ok (.aload_n 0, 1) := by decide +kernel
theorem dL_law_212 : decode cL_law 212 = .ok (.iload_n 3, 1) := by decide +kernel
theorem dL_law_213 : decode cL_law 213 = .ok (.iconst 1, 1) := by decide +kernel
theorem dL_law_214 : decode cL_law 214 = .ok (.iadd, 1) := by decide +kernel
theorem dL_law_215 : decode cL_law 215 = .ok (.iaload, 1) := by decide +kernel
theorem dL_law_216 : decode cL_law 216 = .ok (.invokevirtual 32, 3) := by decide +kernel
theorem dL_law_219 : decode cL_law 219 = .ok (.aload_n 2, 1) := by decide +kernel
theorem dL_law_220 : decode cL_law 220 = .ok (.aload_n 0, 1) := by decide +kernel
theorem dL_law_221 : decode cL_law 221 = .ok (.iload_n 3, 1) := by decide +kernel
theorem dL_law_222 : decode cL_law 222 = .ok (.iconst 1, 1) := by decide +kernel
theorem dL_law_223 : decode cL_law 223 = .ok (.iadd, 1) := by decide +kernel
theorem dL_law_224 : decode cL_law 224 = .ok (.iaload, 1) := by decide +kernel
theorem dL_law_225 : decode cL_law 225 = .ok (.invokevirtual 36, 3) := by decide +kernel
theorem dL_law_228 : decode cL_law 228 = .ok (.if_icmp .eq 325, 3) := by decide +kernel
theorem dL_law_231 : decode cL_law 231 = .ok (.iconst 0, 1) := by decide +kernel
theorem dL_law_232 : decode cL_law 232 = .ok (.ireturn, 1) := by decide +kernel
theorem dL_law_233 : decode cL_law 233 = .ok (.aload_n 1, 1) := by decide +kernel
theorem dL_law_234 : decode cL_law 234 = .ok (.aload_n 0, 1) := by decide +kernel
theorem dL_law_235 : decode cL_law 235 = .ok (.iload_n 3, 1) := by decide +kernel
theorem dL_law_236 : decode cL_law 236 = .ok (.iconst 1, 1) := by decide +kernel
theorem dL_law_237 : decode cL_law 237 = .ok (.iadd, 1) := by decide +kernel
theorem dL_law_238 : decode cL_law 238 = .ok (.iaload, 1) := by decide +kernel
theorem dL_law_239 : decode cL_law 239 = .ok (.i2c, 1) := by decide +kernel
theorem dL_law_240 : decode cL_law 240 = .ok (.invokevirtual 37, 3) := by decide +kernel
theorem dL_law_243 : decode cL_law 243 = .ok (.aload_n 2, 1) := by decide +kernel
theorem dL_law_244 : decode cL_law 244 = .ok (.aload_n 0, 1) := by decide +kernel
theorem dL_law_245 : decode cL_law 245 = .ok (.iload_n 3, 1) := by decide +kernel
theorem dL_law_246 : decode cL_law 246 = .ok (.iconst 1, 1) := by decide +kernel
theorem dL_law_247 : decode cL_law 247 = .ok (.iadd, 1) := by decide +kernel
theorem dL_law_248 : decode cL_law 248 = .ok (.iaload, 1) := by decide +kernel
theorem dL_law_249 : decode cL_law 249 = .ok (.i2c, 1) := by decide +kernel
theorem dL_law_250 : decode cL_law 250 = .ok (.invokevirtual 40, 3) := by decide +kernel
theorem dL_law_253 : decode cL_law 253 = .ok (.if_icmp .eq 300, 3) := by decide +kernel
theorem dL_law_256 : decode cL_law 256 = .ok (.iconst 0, 1) := by decide +kernel
theorem dL_law_257 : decode cL_law 257 = .ok (.ireturn, 1) := by decide +kernel
theorem dL_law_258 : decode cL_law 258 = .ok (.aload_n 1, 1) := by decide +kernel
theorem dL_law_259 : decode cL_law 259 = .ok (.invokevirtual 41, 3) := by decide +kernel
theorem dL_law_262 : decode cL_law 262 = .ok (.aload_n 2, 1) := by decide +kernel
theorem dL_law_263 : decode cL_law 263 = .ok (.invokevirtual 44, 3) := by decide +kernel
theorem dL_law_266 : decode cL_law 266 = .ok (.goto 287, 3) := by decide +kernel
theorem dL_law_269 : decode cL_law 269 = .ok (.aload_n 1, 1) := by decide +kernel
theorem dL_law_270 : decode cL_law 270 = .ok (.aload_n 0, 1) := by decide +kernel
theorem dL_law_271 : decode cL_law 271 = .ok (.iload_n 3, 1) := by decide +kernel
theorem dL_law_272 : decode cL_law 272 = .ok (.iconst 1, 1) := by decide +kernel
theorem dL_law_273 : decode cL_law 273 = .ok (.iadd, 1) := by decide +kernel
theorem dL_law_274 : decode cL_law 274 = .ok (.iaload, 1) := by decide +kernel
theorem dL_law_275 : decode cL_law 275 = .ok (.aload_n 0, 1) := by decide +kernel
theorem dL_law_276 : decode cL_law 276 = .ok (.iload_n 3, 1) := by decide +kernel
theorem dL_law_277 : decode cL_law 277 = .ok (.iconst 2, 1) := by decide +kernel
theorem dL_law_278 : decode cL_law 278 = .ok (.iadd, 1) := by decide +kernel
theorem dL_law_279 : decode cL_law 279 = .ok (.iaload, 1) := by decide +kernel
theorem dL_law_280 : decode cL_law 280 = .ok (.invokevirtual 45, 3) := by decide +kernel
theorem dL_law_283 : decode cL_law 283 = .ok (.aload_n 2, 1) := by decide +kernel
theorem dL_law_284 : decode cL_law 284 = .ok (.aload_n 0, 1) := by decide +kernel
theorem dL_law_285 : decode cL_law 285 = .ok (.iload_n 3, 1) := by decide +kernel
theorem dL_law_286 : decode cL_law 286 = .ok (.iconst 1, 1) := by decide +kernel
theorem dL_law_287 : decode cL_law 287 = .ok (.iadd, 1) := by decide +kernel
theorem dL_law_288 : decode cL_law 288 = .ok (.iaload, 1) := by decide +kernel
theorem dL_law_289 : decode cL_law 289 = .ok (.aload_n 0, 1) := by decide +kernel
theorem dL_law_290 : decode cL_law 290 = .ok (.iload_n 3, 1) := by decide +kernel
theorem dL_law_291 : decode cL_law 291 = .ok (.iconst 2, 1) := by decide +kernel
theorem dL_law_292 : decode cL_law 292 = .ok (.iadd, 1) := by decide +kernel
theorem dL_law_293 : decode cL_law 293 = .ok (.iaload, 1) := by decide +kernel
theorem dL_law_294 : decode cL_law 294 = .ok (.invokevirtual 49, 3) := by decide +kernel
theorem dL_law_297 : decode cL_law 297 = .ok (.if_icmp .eq 256, 3) := by decide +kernel
theorem dL_law_300 : decode cL_law 300 = .ok (.iconst 0, 1) := by decide +kernel
theorem dL_law_301 : decode cL_law 301 = .ok (.ireturn, 1) := by decide +kernel
theorem dL_law_302 : decode cL_law 302 = .ok (.aload_n 1, 1) := by decide +kernel
theorem dL_law_303 : decode cL_law 303 = .ok (.aload_n 0, 1) := by decide +kernel
theorem dL_law_304 : decode cL_law 304 = .ok (.iload_n 3, 1) := by decide +kernel
theorem dL_law_305 : decode cL_law 305 = .ok (.iconst 1, 1) := by decide +kernel
theorem dL_law_306 : decode cL_law 306 = .ok (.iadd, 1) := by decide +kernel
theorem dL_law_307 : decode cL_law 307 = .ok (.iaload, 1) := by decide +kernel
theorem dL_law_308 : decode cL_law 308 = .ok (.ifCond .eq 7, 3) := by decide +kernel
theorem dL_law_311 : decode cL_law 311 = .ok (.iconst 1, 1) := by decide +kernel
theorem dL_law_312 : decode cL_law 312 = .ok (.goto 4, 3) := by decide +kernel
theorem dL_law_315 : decode cL_law 315 = .ok (.iconst 0, 1) := by decide +kernel
theorem dL_law_316 : decode cL_law 316 = .ok (.invokevirtual 50, 3) := by decide +kernel
theorem dL_law_319 : decode cL_law 319 = .ok (.aload_n 2, 1) := by decide +kernel
theorem dL_law_320 : decode cL_law 320 = .ok (.aload_n 0, 1) := by decide +kernel
theorem dL_law_321 : decode cL_law 321 = .ok (.iload_n 3, 1) := by decide +kernel
theorem dL_law_322 : decode cL_law 322 = .ok (.iconst 1, 1) := by decide +kernel
theorem dL_law_323 : decode cL_law 323 = .ok (.iadd, 1) := by decide +kernel
theorem dL_law_324 : decode cL_law 324 = .ok (.iaload, 1) := by decide +kernel
theorem dL_law_325 : decode cL_law 325 = .ok (.ifCond .eq 7, 3) := by decide +kernel
theorem dL_law_328 : decode cL_law 328 = .ok (.iconst 1, 1) := by decide +kernel
theorem dL_law_329 : decode cL_law 329 = .ok (.goto 4, 3) := by decide +kernel
theorem dL_law_332 : decode cL_law 332 = .ok (.iconst 0, 1) := by decide +kernel
theorem dL_law_333 : decode cL_law 333 = .ok (.invokevirtual 54, 3) := by decide +kernel
theorem dL_law_336 : decode cL_law 336 = .ok (.if_icmp .eq 217, 3) := by decide +kernel
theorem dL_law_339 : decode cL_law 339 = .ok (.iconst 0, 1) := by decide +kernel
theorem dL_law_340 : decode cL_law 340 = .ok (.ireturn, 1) := by decide +kernel
theorem dL_law_341 : decode cL_law 341 = .ok (.aload_n 1, 1) := by decide +kernel
theorem dL_law_342 : decode cL_law 342 = .ok (.invokevirtual 55, 3) := by decide +kernel
theorem dL_law_345 : decode cL_law 345 = .ok (.aload_n 2, 1) := by decide +kernel
theorem dL_law_346 : decode cL_law 346 = .ok (.invokevirtual 58, 3) := by decide +kernel
theorem dL_law_349 : decode cL_law 349 = .ok (.if_icmp .eq 204, 3) := by decide +kernel
theorem dL_law_352 : decode cL_law 352 = .ok (.iconst 0, 1) := by decide +kernel
theorem dL_law_353 : decode cL_law 353 = .ok (.ireturn, 1) := by decide +kernel
theorem dL_law_354 : decode cL_law 354 = .ok (.aload_n 1, 1) := by decide +kernel
theorem dL_law_355 : decode cL_law 355 = .ok (.invokevirtual 59, 3) := by decide +kernel
theorem dL_law_358 : decode cL_law 358 = .ok (.aload_n 2, 1) := by decide +kernel
theorem dL_law_359 : decode cL_law 359 = .ok (.invokevirtual 62, 3) := by decide +kernel
theorem dL_law_362 : decode cL_law 362 = .ok (.if_icmp .eq 191, 3) := by decide +kernel
theorem dL_law_365 : decode cL_law 365 = .ok (.iconst 0, 1) := by decide +kernel
theorem dL_law_366 : decode cL_law 366 = .ok (.ireturn, 1) := by decide +kernel
theorem dL_law_367 : decode cL_law 367 = .ok (.aload_n 1, 1) := by decide +kernel
theorem dL_law_368 : decode cL_law 368 = .ok (.invokevirtual 63, 3) := by decide +kernel
theorem dL_law_371 : decode cL_law 371 = .ok (.aload_n 2, 1) := by decide +kernel
theorem dL_law_372 : decode cL_law 372 = .ok (.invokevirtual 66, 3) := by decide +kernel
theorem dL_law_375 : decode cL_law 375 = .ok (.if_icmp .eq 178, 3) := by decide +kernel
theorem dL_law_378 : decode cL_law 378 = .ok (.iconst 0, 1) := by decide +kernel
theorem dL_law_379 : decode cL_law 379 = .ok (.ireturn, 1) := by decide +kernel
theorem dL_law_380 : decode cL_law 380 = .ok (.aload_n 1, 1) := by decide +kernel
theorem dL_law_381 : decode cL_law 381 = .ok (.invokevirtual 67, 3) := by decide +kernel
theorem dL_law_384 : decode cL_law 384 = .ok (.aload_n 2, 1) := by decide +kernel
theorem dL_law_385 : decode cL_law 385 = .ok (.invokevirtual 70, 3) := by decide +kernel
theorem dL_law_388 : decode cL_law 388 = .ok (.if_icmp .eq 165, 3) := by decide +kernel
theorem dL_law_391 : decode cL_law 391 = .ok (.iconst 0, 1) := by decide +kernel
theorem dL_law_392 : decode cL_law 392 = .ok (.ireturn, 1) := by decide +kernel
theorem dL_law_393 : decode cL_law 393 = .ok (.aload_n 1, 1) := by decide +kernel
theorem dL_law_394 : decode cL_law 394 = .ok (.invokevirtual 71, 3) := by decide +kernel
theorem dL_law_397 : decode cL_law 397 = .ok (.aload_n 2, 1) := by decide +kernel
theorem dL_law_398 : decode cL_law 398 = .ok (.invokevirtual 74, 3) := by decide +kernel
theorem dL_law_401 : decode cL_law 401 = .ok (.if_icmp .eq 152, 3) := by decide +kernel
theorem dL_law_404 : decode cL_law 404 = .ok (.iconst 0, 1) := by decide +kernel
theorem dL_law_405 : decode cL_law 405 = .ok (.ireturn, 1) := by decide +kernel
theorem dL_law_406 : decode cL_law 406 = .ok (.aload_n 1, 1) := by decide +kernel
theorem dL_law_407 : decode cL_law 407 = .ok (.aload_n 0, 1) := by decide +kernel
theorem dL_law_408 : decode cL_law 408 = .ok (.iload_n 3, 1) := by decide +kernel
theorem dL_law_409 : decode cL_law 409 = .ok (.iconst 1, 1) := by decide +kernel
theorem dL_law_410 : decode cL_law 410 = .ok (.iadd, 1) := by decide +kernel
theorem dL_law_411 : decode cL_law 411 = .ok (.iaload, 1) := by decide +kernel
theorem dL_law_412 : decode cL_law 412 = .ok (.aload_n 0, 1) := by decide +kernel
theorem dL_law_413 : decode cL_law 413 = .ok (.iload_n 3, 1) := by decide +kernel
theorem dL_law_414 : decode cL_law 414 = .ok (.iconst 2, 1) := by decide +kernel
theorem dL_law_415 : decode cL_law 415 = .ok (.iadd, 1) := by decide +kernel
theorem dL_law_416 : decode cL_law 416 = .ok (.iaload, 1) := by decide +kernel
theorem dL_law_417 : decode cL_law 417 = .ok (.ifCond .eq 7, 3) := by decide +kernel
theorem dL_law_420 : decode cL_law 420 = .ok (.iconst 1, 1) := by decide +kernel
theorem dL_law_421 : decode cL_law 421 = .ok (.goto 4, 3) := by decide +kernel
theorem dL_law_424 : decode cL_law 424 = .ok (.iconst 0, 1) := by decide +kernel
theorem dL_law_425 : decode cL_law 425 = .ok (.invokevirtual 75, 3) := by decide +kernel
theorem dL_law_428 : decode cL_law 428 = .ok (.aload_n 2, 1) := by decide +kernel
theorem dL_law_429 : decode cL_law 429 = .ok (.aload_n 0, 1) := by decide +kernel
theorem dL_law_430 : decode cL_law 430 = .ok (.iload_n 3, 1) := by decide +kernel
theorem dL_law_431 : decode cL_law 431 = .ok (.iconst 1, 1) := by decide +kernel
theorem dL_law_432 : decode cL_law 432 = .ok (.iadd, 1) := by decide +kernel
theorem dL_law_433 : decode cL_law 433 = .ok (.iaload, 1) := by decide +kernel
theorem dL_law_434 : decode cL_law 434 = .ok (.aload_n 0, 1) := by decide +kernel
theorem dL_law_435 : decode cL_law 435 = .ok (.iload_n 3, 1) := by decide +kernel
theorem dL_law_436 : decode cL_law 436 = .ok (.iconst 2, 1) := by decide +kernel
theorem dL_law_437 : decode cL_law 437 = .ok (.iadd, 1) := by decide +kernel
theorem dL_law_438 : decode cL_law 438 = .ok (.iaload, 1) := by decide +kernel
theorem dL_law_439 : decode cL_law 439 = .ok (.ifCond .eq 7, 3) := by decide +kernel
theorem dL_law_442 : decode cL_law 442 = .ok (.iconst 1, 1) := by decide +kernel
theorem dL_law_443 : decode cL_law 443 = .ok (.goto 4, 3) := by decide +kernel
theorem dL_law_446 : decode cL_law 446 = .ok (.iconst 0, 1) := by decide +kernel
theorem dL_law_447 : decode cL_law 447 = .ok (.invokevirtual 79, 3) := by decide +kernel
theorem dL_law_450 : decode cL_law 450 = .ok (.if_icmp .eq 103, 3) := by decide +kernel
theorem dL_law_453 : decode cL_law 453 = .ok (.iconst 0, 1) := by decide +kernel
theorem dL_law_454 : decode cL_law 454 = .ok (.ireturn, 1) := by decide +kernel
theorem dL_law_455 : decode cL_law 455 = .ok (.aload_n 1, 1) := by decide +kernel
theorem dL_law_456 : decode cL_law 456 = .ok (.aload_n 0, 1) := by decide +kernel
theorem dL_law_457 : decode cL_law 457 = .ok (.iload_n 3, 1) := by decide +kernel
theorem dL_law_458 : decode cL_law 458 = .ok (.iconst 1, 1) := by decide +kernel
theorem dL_law_459 : decode cL_law 459 = .ok (.iadd, 1) := by decide +kernel
theorem dL_law_460 : decode cL_law 460 = .ok (.iaload, 1) := by decide +kernel
theorem dL_law_461 : decode cL_law 461 = .ok (.aload_n 0, 1) := by decide +kernel
theorem dL_law_462 : decode cL_law 462 = .ok (.iload_n 3, 1) := by decide +kernel
theorem dL_law_463 : decode cL_law 463 = .ok (.iconst 2, 1) := by decide +kernel
theorem dL_law_464 : decode cL_law 464 = .ok (.iadd, 1) := by decide +kernel
theorem dL_law_465 : decode cL_law 465 = .ok (.iaload, 1) := by decide +kernel
theorem dL_law_466 : decode cL_law 466 = .ok (.ifCond .eq 7, 3) := by decide +kernel
theorem dL_law_469 : decode cL_law 469 = .ok (.iconst 1, 1) := by decide +kernel
theorem dL_law_470 : decode cL_law 470 = .ok (.goto 4, 3) := by decide +kernel
theorem dL_law_473 : decode cL_law 473 = .ok (.iconst 0, 1) := by decide +kernel
theorem dL_law_474 : decode cL_law 474 = .ok (.invokevirtual 80, 3) := by decide +kernel
theorem dL_law_477 : decode cL_law 477 = .ok (.aload_n 2, 1) := by decide +kernel
theorem dL_law_478 : decode cL_law 478 = .ok (.aload_n 0, 1) := by decide +kernel
theorem dL_law_479 : decode cL_law 479 = .ok (.iload_n 3, 1) := by decide +kernel
theorem dL_law_480 : decode cL_law 480 = .ok (.iconst 1, 1) := by decide +kernel
theorem dL_law_481 : decode cL_law 481 = .ok (.iadd, 1) := by decide +kernel
theorem dL_law_482 : decode cL_law 482 = .ok (.iaload, 1) := by decide +kernel
theorem dL_law_483 : decode cL_law 483 = .ok (.aload_n 0, 1) := by decide +kernel
theorem dL_law_484 : decode cL_law 484 = .ok (.iload_n 3, 1) := by decide +kernel
theorem dL_law_485 : decode cL_law 485 = .ok (.iconst 2, 1) := by decide +kernel
theorem dL_law_486 : decode cL_law 486 = .ok (.iadd, 1) := by decide +kernel
theorem dL_law_487 : decode cL_law 487 = .ok (.iaload, 1) := by decide +kernel
theorem dL_law_488 : decode cL_law 488 = .ok (.ifCond .eq 7, 3) := by decide +kernel
theorem dL_law_491 : decode cL_law 491 = .ok (.iconst 1, 1) := by decide +kernel
theorem dL_law_492 : decode cL_law 492 = .ok (.goto 4, 3) := by decide +kernel
theorem dL_law_495 : decode cL_law 495 = .ok (.iconst 0, 1) := by decide +kernel
theorem dL_law_496 : decode cL_law 496 = .ok (.invokevirtual 83, 3) := by decide +kernel
theorem dL_law_499 : decode cL_law 499 = .ok (.if_icmp .eq 54, 3) := by decide +kernel
theorem dL_law_502 : decode cL_law 502 = .ok (.iconst 0, 1) := by decide +kernel
theorem dL_law_503 : decode cL_law 503 = .ok (.ireturn, 1) := by decide +kernel
theorem dL_law_504 : decode cL_law 504 = .ok (.aload_n 1, 1) := by decide +kernel
theorem dL_law_505 : decode cL_law 505 = .ok (.aload_n 0, 1) := by decide +kernel
theorem dL_law_506 : decode cL_law 506 = .ok (.iload_n 3, 1) := by decide +kernel
theorem dL_law_507 : decode cL_law 507 = .ok (.iconst 1, 1) := by decide +kernel
theorem dL_law_508 : decode cL_law 508 = .ok (.iadd, 1) := by decide +kernel
theorem dL_law_509 : decode cL_law 509 = .ok (.iaload, 1) := by decide +kernel
theorem dL_law_510 : decode cL_law 510 = .ok (.aload_n 0, 1) := by decide +kernel
theorem dL_law_511 : decode cL_law 511 = .ok (.iload_n 3, 1) := by decide +kernel
theorem dL_law_512 : decode cL_law 512 = .ok (.iconst 2, 1) := by decide +kernel
theorem dL_law_513 : decode cL_law 513 = .ok (.iadd, 1) := by decide +kernel
theorem dL_law_514 : decode cL_law 514 = .ok (.iaload, 1) := by decide +kernel
theorem dL_law_515 : decode cL_law 515 = .ok (.ifCond .eq 7, 3) := by decide +kernel
theorem dL_law_518 : decode cL_law 518 = .ok (.iconst 1, 1) := by decide +kernel
theorem dL_law_519 : decode cL_law 519 = .ok (.goto 4, 3) := by decide +kernel
theorem dL_law_522 : decode cL_law 522 = .ok (.iconst 0, 1) := by decide +kernel
theorem dL_law_523 : decode cL_law 523 = .ok (.invokevirtual 84, 3) := by decide +kernel
theorem dL_law_526 : decode cL_law 526 = .ok (.aload_n 2, 1) := by decide +kernel
theorem dL_law_527 : decode cL_law 527 = .ok (.aload_n 0, 1) := by decide +kernel
theorem dL_law_528 : decode cL_law 528 = .ok (.iload_n 3, 1) := by decide +kernel
theorem dL_law_529 : decode cL_law 529 = .ok (.iconst 1, 1) := by decide +kernel
theorem dL_law_530 : decode cL_law 530 = .ok (.iadd, 1) := by decide +kernel
theorem dL_law_531 : decode cL_law 531 = .ok (.iaload, 1) := by decide +kernel
theorem dL_law_532 : decode cL_law 532 = .ok (.aload_n 0, 1) := by decide +kernel
theorem dL_law_533 : decode cL_law 533 = .ok (.iload_n 3, 1) := by decide +kernel
theorem dL_law_534 : decode cL_law 534 = .ok (.iconst 2, 1) := by decide +kernel
theorem dL_law_535 : decode cL_law 535 = .ok (.iadd, 1) := by decide +kernel
theorem dL_law_536 : decode cL_law 536 = .ok (.iaload, 1) := by decide +kernel
theorem dL_law_537 : decode cL_law 537 = .ok (.ifCond .eq 7, 3) := by decide +kernel
theorem dL_law_540 : decode cL_law 540 = .ok (.iconst 1, 1) := by decide +kernel
theorem dL_law_541 : decode cL_law 541 = .ok (.goto 4, 3) := by decide +kernel
theorem dL_law_544 : decode cL_law 544 = .ok (.iconst 0, 1) := by decide +kernel
theorem dL_law_545 : decode cL_law 545 = .ok (.invokevirtual 87, 3) := by decide +kernel
theorem dL_law_548 : decode cL_law 548 = .ok (.if_icmp .eq 5, 3) := by decide +kernel
theorem dL_law_551 : decode cL_law 551 = .ok (.iconst 0, 1) := by decide +kernel
theorem dL_law_552 : decode cL_law 552 = .ok (.ireturn, 1) := by decide +kernel
theorem dL_law_553 : decode cL_law 553 = .ok (.iinc 3 4, 3) := by decide +kernel
theorem dL_law_556 : decode cL_law 556 = .ok (.goto (-538), 3) := by decide +kernel
theorem dL_law_559 : decode cL_law 559 = .ok (.iconst 1, 1) := by decide +kernel
theorem dL_law_560 : decode cL_law 560 = .ok (.ireturn, 1) := by decide +kernel
