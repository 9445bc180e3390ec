theorem dX6_init_0 : decode cX6_init 0 = .ok (.aload_n 0, 1) := by decide +kernel
theorem dX6_init_1 : decode cX6_init 1 = .ok (.invokespecial 1, 3) := by decide +kernel
theorem dX6_init_4 : decode cX6_init 4 = .ok (.aload_n 0, 1) := by decide +kernel
theorem dX6_init_5 : decode cX6_init 5 = .ok (.bipush 40, 2) := by decide +kernel
theorem dX6_init_7 : decode cX6_init 7 = .ok (.newarray .int, 2) := by decide +kernel
theorem dX6_init_9 : decode cX6_init 9 = .ok (.putfield 7, 3) := by decide +kernel
theorem dX6_init_12 : decode cX6_init 12 = .ok (.aload_n 0, 1) := by decide +kernel
theorem dX6_init_13 : decode cX6_init 13 = .ok (.bipush 24, 2) := by decide +kernel
theorem dX6_init_15 : decode cX6_init 15 = .ok (.newarray .int, 2) := by decide +kernel
theorem dX6_init_17 : decode cX6_init 17 = .ok (.putfield 13, 3) := by decide +kernel
theorem dX6_init_20 : decode cX6_init 20 = .ok (.aload_n 0, 1) := by decide +kernel
theorem dX6_init_21 : decode cX6_init 21 = .ok (.bipush 24, 2) := by decide +kernel
theorem dX6_init_23 : decode cX6_init 23 = .ok (.newarray .int, 2) := by decide +kernel
theorem dX6_init_25 : decode cX6_init 25 = .ok (.putfield 16, 3) := by decide +kernel
theorem dX6_init_28 : decode cX6_init 28 = .ok (.aload_n 0, 1) := by decide +kernel
theorem dX6_init_29 : decode cX6_init 29 = .ok (.bipush 24, 2) := by decide +kernel
theorem dX6_init_31 : decode cX6_init 31 = .ok (.newarray .int, 2) := by decide +kernel
theorem dX6_init_33 : decode cX6_init 33 = .ok (.putfield 19, 3) := by decide +kernel
theorem dX6_init_36 : decode cX6_init 36 = .ok (.aload_n 0, 1) := by decide +kernel
theorem dX6_init_37 : decode cX6_init 37 = .ok (.bipush 80, 2) := by decide +kernel
theorem dX6_init_39 : decode cX6_init 39 = .ok (.newarray .int, 2) := by decide +kernel
theorem dX6_init_41 : decode cX6_init 41 = .ok (.putfield 22, 3) := by decide +kernel
theorem dX6_init_44 : decode cX6_init 44 = .ok (.aload_n 0, 1) := by decide +kernel
theorem dX6_init_45 : decode cX6_init 45 = .ok (.bipush 80, 2) := by decide +kernel
theorem dX6_init_47 : decode cX6_init 47 = .ok (.newarray .int, 2) := by decide +kernel
theorem dX6_init_49 : decode cX6_init 49 = .ok (.putfield 25, 3) := by decide +kernel
theorem dX6_init_52 : decode cX6_init 52 = .ok (.aload_n 0, 1) := by decide +kernel
theorem dX6_init_53 : decode cX6_init 53 = .ok (.bipush 80, 2) := by decide +kernel
theorem dX6_init_55 : decode cX6_init 55 = .ok (.newarray .int, 2) := by decide +kernel
theorem dX6_init_57 : decode cX6_init 57 = .ok (.putfield 28, 3) := by decide +kernel
theorem dX6_init_60 : decode cX6_init 60 = .ok (.aload_n 0, 1) := by decide +kernel
theorem dX6_init_61 : decode cX6_init 61 = .ok (.bipush 80, 2) := by decide +kernel
theorem dX6_init_63 : decode cX6_init 63 = .ok (.newarray .int, 2) := by decide +kernel
theorem dX6_init_65 : decode cX6_init 65 = .ok (.putfield 31, 3) := by decide +kernel
theorem dX6_init_68 : decode cX6_init 68 = .ok (.aload_n 0, 1) := by decide +kernel
theorem dX6_init_69 : decode cX6_init 69 = .ok (.bipush 80, 2) := by decide +kernel
theorem dX6_init_71 : decode cX6_init 71 = .ok (.newarray .int, 2) := by decide +kernel
theorem dX6_init_73 : decode cX6_init 73 = .ok (.putfield 34, 3) := by decide +kernel
theorem dX6_init_76 : decode cX6_init 76 = .ok (.aload_n 0, 1) := by decide +kernel
theorem dX6_init_77 : decode cX6_init 77 = .ok (.iconst 1, 1) := by decide +kernel
theorem dX6_init_78 : decode cX6_init 78 = .ok (.putfield 37, 3) := by decide +kernel
theorem dX6_init_81 : decode cX6_init 81 = .ok (.aload_n 0, 1) := by decide +kernel
theorem dX6_init_82 : decode cX6_init 82 = .ok (.iconst 1, 1) := by decide +kernel
theorem dX6_init_83 : decode cX6_init 83 = .ok (.putfield 41, 3) := by decide +kernel
theorem dX6_init_86 : decode cX6_init 86 = .ok (.aload_n 0, 1) := by decide +kernel
theorem dX6_init_87 : decode cX6_init 87 = .ok (.iconst 1, 1) := by decide +kernel
theorem dX6_init_88 : decode cX6_init 88 = .ok (.putfield 44, 3) := by decide +kernel
theorem dX6_init_91 : decode cX6_init 91 = .ok (.aload_n 0, 1) := by decide +kernel
theorem dX6_init_92 : decode cX6_init 92 = .ok (.bipush 24, 2) := by decide +kernel
theorem dX6_init_94 : decode cX6_init 94 = .ok (.newarray .int, 2) := by decide +kernel
theorem dX6_init_96 : decode cX6_init 96 = .ok (.putfield 47, 3) := by decide +kernel
theorem dX6_init_99 : decode cX6_init 99 = .ok (.aload_n 0, 1) := by decide +kernel
theorem dX6_init_100 : decode cX6_init 100 = .ok (.sipush 15000, 3) := by decide +kernel
theorem dX6_init_103 : decode cX6_init 103 = .ok (.newarray .int, 2) := by decide +kernel
theorem dX6_init_105 : decode cX6_init 105 = .ok (.putfield 50, 3) := by decide +kernel
theorem dX6_init_108 : decode cX6_init 108 = .ok (.aload_n 0, 1) := by decide +kernel
theorem dX6_init_109 : decode cX6_init 109 = .ok (.iconst (-1), 1) := by decide +kernel
theorem dX6_init_110 : decode cX6_init 110 = .ok (.putfield 53, 3) := by decide +kernel
theorem dX6_init_113 : decode cX6_init 113 = .ok (.aload_n 0, 1) := by decide +kernel
theorem dX6_init_114 : decode cX6_init 114 = .ok (.iconst (-1), 1) := by decide +kernel
theorem dX6_init_115 : decode cX6_init 115 = .ok (.putfield 56, 3) := by decide +kernel
theorem dX6_init_118 : decode cX6_init 118 = .ok (.aload_n 0, 1) := by decide +kernel
theorem dX6_init_119 : decode cX6_init 119 = .ok (.bipush 20, 2) := by decide +kernel
theorem dX6_init_121 : decode cX6_init 121 = .ok (.newarray .int, 2) := by decide +kernel
theorem dX6_init_123 : decode cX6_init 123 = .ok (.putfield 59, 3) := by decide +kernel
theorem dX6_init_126 : decode cX6_init 126 = .ok (.aload_n 0, 1) := by decide +kernel
theorem dX6_init_127 : decode cX6_init 127 = .ok (.sipush 240, 3) := by decide +kernel
theorem dX6_init_130 : decode cX6_init 130 = .ok (.newarray .int, 2) := by decide +kernel
theorem dX6_init_132 : decode cX6_init 132 = .ok (.putfield 62, 3) := by decide +kernel
theorem dX6_init_135 : decode cX6_init 135 = .ok (.aload_n 0, 1) := by decide +kernel
theorem dX6_init_136 : decode cX6_init 136 = .ok (.sipush 325, 3) := by decide +kernel
theorem dX6_init_139 : decode cX6_init 139 = .ok (.newarray .int, 2) := by decide +kernel
theorem dX6_init_141 : decode cX6_init 141 = .ok (.putfield 65, 3) := by decide +kernel
theorem dX6_init_144 : decode cX6_init 144 = .ok (.return_, 1) := by decide +kernel
theorem dX6_type_0 : decode cX6_type 0 = .ok (.iload_n 1, 1) := by decide +kernel
theorem dX6_type_1 : decode cX6_type 1 = .ok (.bipush 33, 2) := by decide +kernel
theorem dX6_type_3 : decode cX6_type 3 = .ok (.if_icmp .lt 18, 3) := by decide +kernel
theorem dX6_type_6 : decode cX6_type 6 = .ok (.iload_n 1, 1) := by decide +kernel
theorem dX6_type_7 : decode cX6_type 7 = .ok (.bipush 126, 2) := by decide +kernel
theorem dX6_type_9 : decode cX6_type 9 = .ok (.if_icmp .gt 12, 3) := by decide +kernel
theorem dX6_type_12 : decode cX6_type 12 = .ok (.aload_n 0, 1) := by decide +kernel
theorem dX6_type_13 : decode cX6_type 13 = .ok (.getfield 68, 3) := by decide +kernel
theorem dX6_type_16 : decode cX6_type 16 = .ok (.bipush 40, 2) := by decide +kernel
theorem dX6_type_18 : decode cX6_type 18 = .ok (.if_icmp .ne 5, 3) := by decide +kernel
theorem dX6_type_21 : decode cX6_type 21 = .ok (.iconst 0, 1) := by decide +kernel
theorem dX6_type_22 : decode cX6_type 22 = .ok (.ireturn, 1) := by decide +kernel
theorem dX6_type_23 : decode cX6_type 23 = .ok (.aload_n 0, 1) := by decide +kernel
theorem dX6_type_24 : decode cX6_type 24 = .ok (.getfield 7, 3) := by decide +kernel
theorem dX6_type_27 : decode cX6_type 27 = .ok (.aload_n 0, 1) := by decide +kernel
theorem dX6_type_28 : decode cX6_type 28 = .ok (.getfield 68, 3) := by decide +kernel
theorem dX6_type_31 : decode cX6_type 31 = .ok (.iload_n 1, 1) := by decide +kernel
theorem dX6_type_32 : decode cX6_type 32 = .ok (.iastore, 1) := by decide +kernel
theorem dX6_type_33 : decode cX6_type 33 = .ok (.aload_n 0, 1) := by decide +kernel
theorem dX6_type_34 : decode cX6_type 34 = .ok (.dup, 1) := by decide +kernel
theorem dX6_type_35 : decode cX6_type 35 = .ok (.getfield 68, 3) := by decide +kernel
theorem dX6_type_38 : decode cX6_type 38 = .ok (.iconst 1, 1) := by decide +kernel
theorem dX6_type_39 : decode cX6_type 39 = .ok (.iadd, 1) := by decide +kernel
theorem dX6_type_40 : decode cX6_type 40 = .ok (.putfield 68, 3) := by decide +kernel
theorem dX6_type_43 : decode cX6_type 43 = .ok (.iconst 1, 1) := by decide +kernel
theorem dX6_type_44 : decode cX6_type 44 = .ok (.ireturn, 1) := by decide +kernel
theorem dX6_small_0 : decode cX6_small 0 = .ok (.iload_n 0, 1) := by decide +kernel
theorem dX6_small_1 : decode cX6_small 1 = .ok (.bipush 97, 2) := by decide +kernel
theorem dX6_small_3 : decode cX6_small 3 = .ok (.if_icmp .lt 13, 3) := by decide +kernel
theorem dX6_small_6 : decode cX6_small 6 = .ok (.iload_n 0, 1) := by decide +kernel
theorem dX6_small_7 : decode cX6_small 7 = .ok (.bipush 122, 2) := by decide +kernel
theorem dX6_small_9 : decode cX6_small 9 = .ok (.if_icmp .gt 7, 3) := by decide +kernel
theorem dX6_small_12 : decode cX6_small 12 = .ok (.iconst 1, 1) := by decide +kernel
theorem dX6_small_13 : decode cX6_small 13 = .ok (.goto 4, 3) := by decide +kernel
theorem dX6_small_16 : decode cX6_small 16 = .ok (.iconst 0, 1) := by decide +kernel
theorem dX6_small_17 : decode cX6_small 17 = .ok (.ireturn, 1) := by decide +kernel
theorem dX6_next_0 : decode cX6_next 0 = .ok (.iload_n 0, 1) := by decide +kernel
theorem dX6_next_1 : decode cX6_next 1 = .ok (.iconst 2, 1) := by decide +kernel
theorem dX6_next_2 : decode cX6_next 2 = .ok (.if_icmp .eq 13, 3) := by decide +kernel
theorem dX6_next_5 : decode cX6_next 5 = .ok (.iload_n 0, 1) := by decide +kernel
theorem dX6_next_6 : decode cX6_next 6 = .ok (.iconst 3, 1) := by decide +kernel
theorem dX6_next_7 : decode cX6_next 7 = .ok (.if_icmp .eq 8, 3) := by decide +kernel
theorem dX6_next_10 : decode cX6_next 10 = .ok (.iload_n 0, 1) := by decide +kernel
theorem dX6_next_11 : decode cX6_next 11 = .ok (.iconst 4, 1) := by decide +kernel
theorem dX6_next_12 : decode cX6_next 12 = .ok (.if_icmp .ne 46, 3) := by decide +kernel
theorem dX6_next_15 : decode cX6_next 15 = .ok (.iload_n 1, 1) := by decide +kernel
theorem dX6_next_16 : decode cX6_next 16 = .ok (.invokestatic 71, 3) := by decide +kernel
theorem dX6_next_19 : decode cX6_next 19 = .ok (.ifCond .eq 7, 3) := by decide +kernel
theorem dX6_next_22 : decode cX6_next 22 = .ok (.iconst 4, 1) := by decide +kernel
theorem dX6_next_23 : decode cX6_next 23 = .ok (.goto 34, 3) := by decide +kernel
theorem dX6_next_26 : decode cX6_next 26 = .ok (.iload_n 0, 1) := by decide +kernel
theorem dX6_next_27 : decode cX6_next 27 = .ok (.iconst 2, 1) := by decide +kernel
theorem dX6_next_28 : decode cX6_next 28 = .ok (.if_icmp .ne 13, 3) := by decide +kernel
theorem dX6_next_31 : decode cX6_next 31 = .ok (.iload_n 1, 1) := by decide +kernel
theorem dX6_next_32 : decode cX6_next 32 = .ok (.bipush 94, 2) := by decide +kernel
theorem dX6_next_34 : decode cX6_next 34 = .ok (.if_icmp .ne 7, 3) := by decide +kernel
theorem dX6_next_37 : decode cX6_next 37 = .ok (.iconst 3, 1) := by decide +kernel
theorem dX6_next_38 : decode cX6_next 38 = .ok (.goto 19, 3) := by decide +kernel
theorem dX6_next_41 : decode cX6_next 41 = .ok (.iload_n 0, 1) := by decide +kernel
theorem dX6_next_42 : decode cX6_next 42 = .ok (.iconst 4, 1) := by decide +kernel
theorem dX6_next_43 : decode cX6_next 43 = .ok (.if_icmp .ne 13, 3) := by decide +kernel
theorem dX6_next_46 : decode cX6_next 46 = .ok (.iload_n 1, 1) := by decide +kernel
theorem dX6_next_47 : decode cX6_next 47 = .ok (.bipush 93, 2) := by decide +kernel
theorem dX6_next_49 : decode cX6_next 49 = .ok (.if_icmp .ne 7, 3) := by decide +kernel
theorem dX6_next_52 : decode cX6_next 52 = .ok (.iconst 1, 1) := by decide +kernel
theorem dX6_next_53 : decode cX6_next 53 = .ok (.goto 4, 3) := by decide +kernel
theorem dX6_next_56 : decode cX6_next 56 = .ok (.iconst (-1), 1) := by decide +kernel
theorem dX6_next_57 : decode cX6_next 57 = .ok (.ireturn, 1) := by decide +kernel
theorem dX6_next_58 : decode cX6_next 58 = .ok (.iload_n 1, 1) := by decide +kernel
theorem dX6_next_59 : decode cX6_next 59 = .ok (.bipush 48, 2) := by decide +kernel
theorem dX6_next_61 : decode cX6_next 61 = .ok (.if_icmp .lt 13, 3) := by decide +kernel
theorem dX6_next_64 : decode cX6_next 64 = .ok (.iload_n 1, 1) := by decide +kernel
theorem dX6_next_65 : decode cX6_next 65 = .ok (.bipush 57, 2) := by decide +kernel
theorem dX6_next_67 : decode cX6_next 67 = .ok (.if_icmp .gt 7, 3) := by decide +kernel
theorem dX6_next_70 : decode cX6_next 70 = .ok (.iconst 1, 1) := by decide +kernel
theorem dX6_next_71 : decode cX6_next 71 = .ok (.goto 4, 3) := by decide +kernel
theorem dX6_next_74 : decode cX6_next 74 = .ok (.iconst 0, 1) := by decide +kernel
theorem dX6_next_75 : decode cX6_next 75 = .ok (.istore_n 3, 1) := by decide +kernel
theorem dX6_next_76 : decode cX6_next 76 = .ok (.iload_n 0, 1) := by decide +kernel
theorem dX6_next_77 : decode cX6_next 77 = .ok (.iconst 5, 1) := by decide +kernel
theorem dX6_next_78 : decode cX6_next 78 = .ok (.if_icmp .ne 14, 3) := by decide +kernel
theorem dX6_next_81 : decode cX6_next 81 = .ok (.iload_n 3, 1) := by decide +kernel
theorem dX6_next_82 : decode cX6_next 82 = .ok (.ifCond .eq 8, 3) := by decide +kernel
theorem dX6_next_85 : decode cX6_next 85 = .ok (.bipush 6, 2) := by decide +kernel
theorem dX6_next_87 : decode cX6_next 87 = .ok (.goto 4, 3) := by decide +kernel
theorem dX6_next_90 : decode cX6_next 90 = .ok (.iconst (-1), 1) := by decide +kernel
theorem dX6_next_91 : decode cX6_next 91 = .ok (.ireturn, 1) := by decide +kernel
theorem dX6_next_92 : decode cX6_next 92 = .ok (.iload_n 0, 1) := by decide +kernel
theorem dX6_next_93 : decode cX6_next 93 = .ok (.bipush 6, 2) := by decide +kernel
theorem dX6_next_95 : decode cX6_next 95 = .ok (.if_icmp .ne 9, 3) := by decide +kernel
theorem dX6_next_98 : decode cX6_next 98 = .ok (.iload_n 3, 1) := by decide +kernel
theorem dX6_next_99 : decode cX6_next 99 = .ok (.ifCond .eq 5, 3) := by decide +kernel
theorem dX6_next_102 : decode cX6_next 102 = .ok (.iconst 1, 1) := by decide +kernel
theorem dX6_next_103 : decode cX6_next 103 = .ok (.ireturn, 1) := by decide +kernel
theorem dX6_next_104 : decode cX6_next 104 = .ok (.iload_n 1, 1) := by decide +kernel
theorem dX6_next_105 : decode cX6_next 105 = .ok (.invokestatic 71, 3) := by decide +kernel
theorem dX6_next_108 : decode cX6_next 108 = .ok (.ifCond .ne 9, 3) := by decide +kernel
theorem dX6_next_111 : decode cX6_next 111 = .ok (.iload_n 1, 1) := by decide +kernel
theorem dX6_next_112 : decode cX6_next 112 = .ok (.bipush 46, 2) := by decide +kernel
theorem dX6_next_114 : decode cX6_next 114 = .ok (.if_icmp .ne 5, 3) := by decide +kernel
theorem dX6_next_117 : decode cX6_next 117 = .ok (.iconst 1, 1) := by decide +kernel
theorem dX6_next_118 : decode cX6_next 118 = .ok (.ireturn, 1) := by decide +kernel
theorem dX6_next_119 : decode cX6_next 119 = .ok (.iload_n 1, 1) := by decide +kernel
theorem dX6_next_120 : decode cX6_next 120 = .ok (.bipush 91, 2) := by decide +kernel
theorem dX6_next_122 : decode cX6_next 122 = .ok (.if_icmp .ne 5, 3) := by decide +kernel
theorem dX6_next_125 : decode cX6_next 125 = .ok (.iconst 2, 1) := by decide +kernel
theorem dX6_next_126 : decode cX6_next 126 = .ok (.ireturn, 1) := by decide +kernel
theorem dX6_next_127 : decode cX6_next 127 = .ok (.iload_n 1, 1) := by decide +kernel
theorem dX6_next_128 : decode cX6_next 128 = .ok (.bipush 40, 2) := by decide +kernel
theorem dX6_next_130 : decode cX6_next 130 = .ok (.if_icmp .ne 15, 3) := by decide +kernel
theorem dX6_next_133 : decode cX6_next 133 = .ok (.iload_n 2, 1) := by decide +kernel
theorem dX6_next_134 : decode cX6_next 134 = .ok (.bipush 6, 2) := by decide +kernel
theorem dX6_next_136 : decode cX6_next 136 = .ok (.if_icmp .ge 7, 3) := by decide +kernel
theorem dX6_next_139 : decode cX6_next 139 = .ok (.iconst 0, 1) := by decide +kernel
theorem dX6_next_140 : decode cX6_next 140 = .ok (.goto 4, 3) := by decide +kernel
theorem dX6_next_143 : decode cX6_next 143 = .ok (.iconst (-1), 1) := by decide +kernel
theorem dX6_next_144 : decode cX6_next 144 = .ok (.ireturn, 1) := by decide +kernel
theorem dX6_next_145 : decode cX6_next 145 = .ok (.iload_n 0, 1) := by decide +kernel
theorem dX6_next_146 : decode cX6_next 146 = .ok (.ifCond .ne 5, 3) := by decide +kernel
theorem dX6_next_149 : decode cX6_next 149 = .ok (.iconst (-1), 1) := by decide +kernel
theorem dX6_next_150 : decode cX6_next 150 = .ok (.ireturn, 1) := by decide +kernel
theorem dX6_next_151 : decode cX6_next 151 = .ok (.iload_n 1, 1) := by decide +kernel
theorem dX6_next_152 : decode cX6_next 152 = .ok (.bipush 42, 2) := by decide +kernel
theorem dX6_next_154 : decode cX6_next 154 = .ok (.if_icmp .eq 15, 3) := by decide +kernel
theorem dX6_next_157 : decode cX6_next 157 = .ok (.iload_n 1, 1) := by decide +kernel
theorem dX6_next_158 : decode cX6_next 158 = .ok (.bipush 43, 2) := by decide +kernel
theorem dX6_next_160 : decode cX6_next 160 = .ok (.if_icmp .eq 9, 3) := by decide +kernel
theorem dX6_next_163 : decode cX6_next 163 = .ok (.iload_n 1, 1) := by decide +kernel
theorem dX6_next_164 : decode cX6_next 164 = .ok (.bipush 63, 2) := by decide +kernel
theorem dX6_next_166 : decode cX6_next 166 = .ok (.if_icmp .ne 5, 3) := by decide +kernel
theorem dX6_next_169 : decode cX6_next 169 = .ok (.iconst 1, 1) := by decide +kernel
theorem dX6_next_170 : decode cX6_next 170 = .ok (.ireturn, 1) := by decide +kernel
theorem dX6_next_171 : decode cX6_next 171 = .ok (.iload_n 1, 1) := by decide +kernel
theorem dX6_next_172 : decode cX6_next 172 = .ok (.bipush 60, 2) := by decide +kernel
theorem dX6_next_174 : decode cX6_next 174 = .ok (.if_icmp .ne 7, 3) := by decide +kernel
theorem dX6_next_177 : decode cX6_next 177 = .ok (.iconst 5, 1) := by decide +kernel
theorem dX6_next_178 : decode cX6_next 178 = .ok (.goto 28, 3) := by decide +kernel
theorem dX6_next_181 : decode cX6_next 181 = .ok (.iload_n 1, 1) := by decide +kernel
theorem dX6_next_182 : decode cX6_next 182 = .ok (.bipush 124, 2) := by decide +kernel
theorem dX6_next_184 : decode cX6_next 184 = .ok (.if_icmp .ne 7, 3) := by decide +kernel
theorem dX6_next_187 : decode cX6_next 187 = .ok (.iconst 0, 1) := by decide +kernel
theorem dX6_next_188 : decode cX6_next 188 = .ok (.goto 18, 3) := by decide +kernel
theorem dX6_next_191 : decode cX6_next 191 = .ok (.iload_n 1, 1) := by decide +kernel
theorem dX6_next_192 : decode cX6_next 192 = .ok (.bipush 41, 2) := by decide +kernel
theorem dX6_next_194 : decode cX6_next 194 = .ok (.if_icmp .ne 11, 3) := by decide +kernel
theorem dX6_next_197 : decode cX6_next 197 = .ok (.iload_n 2, 1) := by decide +kernel
theorem dX6_next_198 : decode cX6_next 198 = .ok (.ifCond .le 7, 3) := by decide +kernel
theorem dX6_next_201 : decode cX6_next 201 = .ok (.iconst 1, 1) := by decide +kernel
theorem dX6_next_202 : decode cX6_next 202 = .ok (.goto 4, 3) := by decide +kernel
theorem dX6_next_205 : decode cX6_next 205 = .ok (.iconst (-1), 1) := by decide +kernel
theorem dX6_next_206 : decode cX6_next 206 = .ok (.ireturn, 1) := by decide +kernel
theorem dX6_fault_0 : decode cX6_fault 0 = .ok (.iconst 0, 1) := by decide +kernel
theorem dX6_fault_1 : decode cX6_fault 1 = .ok (.istore_n 1, 1) := by decide +kernel
theorem dX6_fault_2 : decode cX6_fault 2 = .ok (.iconst 0, 1) := by decide +kernel
theorem dX6_fault_3 : decode cX6_fault 3 = .ok (.istore_n 2, 1) := by decide +kernel
theorem dX6_fault_4 : decode cX6_fault 4 = .ok (.iconst 0, 1) := by decide +kernel
theorem dX6_fault_5 : decode cX6_fault 5 = .ok (.istore_n 3, 1) := by decide +kernel
theorem dX6_fault_6 : decode cX6_fault 6 = .ok (.iload_n 3, 1) := by decide +kernel
theorem dX6_fault_7 : decode cX6_fault 7 = .ok (.aload_n 0, 1) := by decide +kernel
theorem dX6_fault_8 : decode cX6_fault 8 = .ok (.getfield 68, 3) := by decide +kernel
theorem dX6_fault_11 : decode cX6_fault 11 = .ok (.if_icmp .ge 93, 3) := by decide +kernel
theorem dX6_fault_14 : decode cX6_fault 14 = .ok (.iload_n 1, 1) := by decide +kernel
theorem dX6_fault_15 : decode cX6_fault 15 = .ok (.istore 4, 2) := by decide +kernel
theorem dX6_fault_17 : decode cX6_fault 17 = .ok (.iload_n 1, 1) := by decide +kernel
theorem dX6_fault_18 : decode cX6_fault 18 = .ok (.aload_n 0, 1) := by decide +kernel
theorem dX6_fault_19 : decode cX6_fault 19 = .ok (.getfield 7, 3) := by decide +kernel
theorem dX6_fault_22 : decode cX6_fault 22 = .ok (.iload_n 3, 1) := by decide +kernel
theorem dX6_fault_23 : decode cX6_fault 23 = .ok (.iaload, 1) := by decide +kernel
theorem dX6_fault_24 : decode cX6_fault 24 = .ok (.iload_n 2, 1) := by decide +kernel
theorem dX6_fault_25 : decode cX6_fault 25 = .ok (.invokestatic 75, 3) := by decide +kernel
theorem dX6_fault_28 : decode cX6_fault 28 = .ok (.istore_n 1, 1) := by decide +kernel
theorem dX6_fault_29 : decode cX6_fault 29 = .ok (.iload_n 1, 1) := by decide +kernel
theorem dX6_fault_30 : decode cX6_fault 30 = .ok (.ifCond .ge 5, 3) := by decide +kernel
theorem dX6_fault_33 : decode cX6_fault 33 = .ok (.iload_n 3, 1) := by decide +kernel
theorem dX6_fault_34 : decode cX6_fault 34 = .ok (.ireturn, 1) := by decide +kernel
theorem dX6_fault_35 : decode cX6_fault 35 = .ok (.iload 4, 2) := by decide +kernel
theorem dX6_fault_37 : decode cX6_fault 37 = .ok (.iconst 2, 1) := by decide +kernel
theorem dX6_fault_38 : decode cX6_fault 38 = .ok (.if_icmp .lt 9, 3) := by decide +kernel
theorem dX6_fault_41 : decode cX6_fault 41 = .ok (.iload 4, 2) := by decide +kernel
theorem dX6_fault_43 : decode cX6_fault 43 = .ok (.iconst 4, 1) := by decide +kernel
theorem dX6_fault_44 : decode cX6_fault 44 = .ok (.if_icmp .le 7, 3) := by decide +kernel
theorem dX6_fault_47 : decode cX6_fault 47 = .ok (.iconst 1, 1) := by decide +kernel
theorem dX6_fault_48 : decode cX6_fault 48 = .ok (.goto 4, 3) := by decide +kernel
theorem dX6_fault_51 : decode cX6_fault 51 = .ok (.iconst 0, 1) := by decide +kernel
theorem dX6_fault_52 : decode cX6_fault 52 = .ok (.istore 5, 2) := by decide +kernel
theorem dX6_fault_54 : decode cX6_fault 54 = .ok (.iload_n 2, 1) := by decide +kernel
theorem dX6_fault_55 : decode cX6_fault 55 = .ok (.iload 5, 2) := by decide +kernel
theorem dX6_fault_57 : decode cX6_fault 57 = .ok (.ifCond .eq 18, 3) := by decide +kernel
theorem dX6_fault_60 : decode cX6_fault 60 = .ok (.aload_n 0, 1) := by decide +kernel
theorem dX6_fault_61 : decode cX6_fault 61 = .ok (.getfield 7, 3) := by decide +kernel
theorem dX6_fault_64 : decode cX6_fault 64 = .ok (.iload_n 3, 1) := by decide +kernel
theorem dX6_fault_65 : decode cX6_fault 65 = .ok (.iaload, 1) := by decide +kernel
theorem dX6_fault_66 : decode cX6_fault 66 = .ok (.bipush 40, 2) := by decide +kernel
theorem dX6_fault_68 : decode cX6_fault 68 = .ok (.if_icmp .ne 7, 3) := by decide +kernel
theorem dX6_fault_71 : decode cX6_fault 71 = .ok (.iconst 1, 1) := by decide +kernel
theorem dX6_fault_72 : decode cX6_fault 72 = .ok (.goto 24, 3) := by decide +kernel
theorem dX6_fault_75 : decode cX6_fault 75 = .ok (.iload 5, 2) := by decide +kernel
theorem dX6_fault_77 : decode cX6_fault 77 = .ok (.ifCond .eq 18, 3) := by decide +kernel
theorem dX6_fault_80 : decode cX6_fault 80 = .ok (.aload_n 0, 1) := by decide +kernel
theorem dX6_fault_81 : decode cX6_fault 81 = .ok (.getfield 7, 3) := by decide +kernel
theorem dX6_fault_84 : decode cX6_fault 84 = .ok (.iload_n 3, 1) := by decide +kernel
theorem dX6_fault_85 : decode cX6_fault 85 = .ok (.iaload, 1) := by decide +kernel
theorem dX6_fault_86 : decode cX6_fault 86 = .ok (.bipush 41, 2) := by decide +kernel
theorem dX6_fault_88 : decode cX6_fault 88 = .ok (.if_icmp .ne 7, 3) := by decide +kernel
theorem dX6_fault_91 : decode cX6_fault 91 = .ok (.iconst (-1), 1) := by decide +kernel
theorem dX6_fault_92 : decode cX6_fault 92 = .ok (.goto 4, 3) := by decide +kernel
theorem dX6_fault_95 : decode cX6_fault 95 = .ok (.iconst 0, 1) := by decide +kernel
theorem dX6_fault_96 : decode cX6_fault 96 = .ok (.iadd, 1) := by decide +kernel
theorem dX6_fault_97 : decode cX6_fault 97 = .ok (.istore_n 2, 1) := by decide +kernel
theorem dX6_fault_98 : decode cX6_fault 98 = .ok (.iinc 3 1, 3) := by decide +kernel
theorem dX6_fault_101 : decode cX6_fault 101 = .ok (.goto (-95), 3) := by decide +kernel
theorem dX6_fault_104 : decode cX6_fault 104 = .ok (.iload_n 2, 1) := by decide +kernel
theorem dX6_fault_105 : decode cX6_fault 105 = .ok (.ifCond .ne 18, 3) := by decide +kernel
theorem dX6_fault_108 : decode cX6_fault 108 = .ok (.iload_n 1, 1) := by decide +kernel
theorem dX6_fault_109 : decode cX6_fault 109 = .ok (.iconst 1, 1) := by decide +kernel
theorem dX6_fault_110 : decode cX6_fault 110 = .ok (.if_icmp .eq 9, 3) := by decide +kernel
theorem dX6_fault_113 : decode cX6_fault 113 = .ok (.iload_n 1, 1) := by decide +kernel
theorem dX6_fault_114 : decode cX6_fault 114 = .ok (.bipush 6, 2) := by decide +kernel
theorem dX6_fault_116 : decode cX6_fault 116 = .ok (.if_icmp .ne 7, 3) := by decide +kernel
theorem dX6_fault_119 : decode cX6_fault 119 = .ok (.iconst (-1), 1) := by decide +kernel
theorem dX6_fault_120 : decode cX6_fault 120 = .ok (.goto 7, 3) := by decide +kernel
theorem dX6_fault_123 : decode cX6_fault 123 = .ok (.aload_n 0, 1) := by decide +kernel
theorem dX6_fault_124 : decode cX6_fault 124 = .ok (.getfield 68, 3) := by decide +kernel
theorem dX6_fault_127 : decode cX6_fault 127 = .ok (.ireturn, 1) := by decide +kernel
theorem dX6_make_0 : decode cX6_make 0 = .ok (.aload_n 0, 1) := by decide +kernel
theorem dX6_make_1 : decode cX6_make 1 = .ok (.getfield 22, 3) := by decide +kernel
theorem dX6_make_4 : decode cX6_make 4 = .ok (.aload_n 0, 1) := by decide +kernel
theorem dX6_make_5 : decode cX6_make 5 = .ok (.getfield 79, 3) := by decide +kernel
theorem dX6_make_8 : decode cX6_make 8 = .ok (.iload_n 1, 1) := by decide +kernel
theorem dX6_make_9 : decode cX6_make 9 = .ok (.iastore, 1) := by decide +kernel
theorem dX6_make_10 : decode cX6_make 10 = .ok (.aload_n 0, 1) := by decide +kernel
theorem dX6_make_11 : decode cX6_make 11 = .ok (.getfield 25, 3) := by decide +kernel
theorem dX6_make_14 : decode cX6_make 14 = .ok (.aload_n 0, 1) := by decide +kernel
theorem dX6_make_15 : decode cX6_make 15 = .ok (.getfield 79, 3) := by decide +kernel
theorem dX6_make_18 : decode cX6_make 18 = .ok (.iload_n 2, 1) := by decide +kernel
theorem dX6_make_19 : decode cX6_make 19 = .ok (.iastore, 1) := by decide +kernel
theorem dX6_make_20 : decode cX6_make 20 = .ok (.aload_n 0, 1) := by decide +kernel
theorem dX6_make_21 : decode cX6_make 21 = .ok (.getfield 28, 3) := by decide +kernel
theorem dX6_make_24 : decode cX6_make 24 = .ok (.aload_n 0, 1) := by decide +kernel
theorem dX6_make_25 : decode cX6_make 25 = .ok (.getfield 79, 3) := by decide +kernel
theorem dX6_make_28 : decode cX6_make 28 = .ok (.iload_n 3, 1) := by decide +kernel
theorem dX6_make_29 : decode cX6_make 29 = .ok (.iastore, 1) := by decide +kernel
theorem dX6_make_30 : decode cX6_make 30 = .ok (.aload_n 0, 1) := by decide +kernel
theorem dX6_make_31 : decode cX6_make 31 = .ok (.getfield 34, 3) := by decide +kernel
theorem dX6_make_34 : decode cX6_make 34 = .ok (.aload_n 0, 1) := by decide +kernel
theorem dX6_make_35 : decode cX6_make 35 = .ok (.getfield 82, 3) := by decide +kernel
theorem dX6_make_38 : decode cX6_make 38 = .ok (.aload_n 0, 1) := by decide +kernel
theorem dX6_make_39 : decode cX6_make 39 = .ok (.getfield 79, 3) := by decide +kernel
theorem dX6_make_42 : decode cX6_make 42 = .ok (.iastore, 1) := by decide +kernel
theorem dX6_make_43 : decode cX6_make 43 = .ok (.aload_n 0, 1) := by decide +kernel
theorem dX6_make_44 : decode cX6_make 44 = .ok (.dup, 1) := by decide +kernel
theorem dX6_make_45 : decode cX6_make 45 = .ok (.getfield 82, 3) := by decide +kernel
theorem dX6_make_48 : decode cX6_make 48 = .ok (.iconst 1, 1) := by decide +kernel
theorem dX6_make_49 : decode cX6_make 49 = .ok (.iadd, 1) := by decide +kernel
theorem dX6_make_50 : decode cX6_make 50 = .ok (.putfield 82, 3) := by decide +kernel
theorem dX6_make_53 : decode cX6_make 53 = .ok (.aload_n 0, 1) := by decide +kernel
theorem dX6_make_54 : decode cX6_make 54 = .ok (.dup, 1) := by decide +kernel
theorem dX6_make_55 : decode cX6_make 55 = .ok (.getfield 79, 3) := by decide +kernel
theorem dX6_make_58 : decode cX6_make 58 = .ok (.iconst 1, 1) := by decide +kernel
theorem dX6_make_59 : decode cX6_make 59 = .ok (.iadd, 1) := by decide +kernel
theorem dX6_make_60 : decode cX6_make 60 = .ok (.putfield 79, 3) := by decide +kernel
theorem dX6_make_63 : decode cX6_make 63 = .ok (.return_, 1) := by decide +kernel
theorem dX6_join_0 : decode cX6_join 0 = .ok (.aload_n 0, 1) := by decide +kernel
theorem dX6_join_1 : decode cX6_join 1 = .ok (.getfield 85, 3) := by decide +kernel
theorem dX6_join_4 : decode cX6_join 4 = .ok (.ifCond .le 99, 3) := by decide +kernel
theorem dX6_join_7 : decode cX6_join 7 = .ok (.aload_n 0, 1) := by decide +kernel
theorem dX6_join_8 : decode cX6_join 8 = .ok (.getfield 31, 3) := by decide +kernel
theorem dX6_join_11 : decode cX6_join 11 = .ok (.aload_n 0, 1) := by decide +kernel
theorem dX6_join_12 : decode cX6_join 12 = .ok (.getfield 85, 3) := by decide +kernel
theorem dX6_join_15 : decode cX6_join 15 = .ok (.iconst 1, 1) := by decide +kernel
theorem dX6_join_16 : decode cX6_join 16 = .ok (.isub, 1) := by decide +kernel
theorem dX6_join_17 : decode cX6_join 17 = .ok (.iaload, 1) := by decide +kernel
theorem dX6_join_18 : decode cX6_join 18 = .ok (.bipush 7, 2) := by decide +kernel
theorem dX6_join_20 : decode cX6_join 20 = .ok (.if_icmp .eq 83, 3) := by decide +kernel
theorem dX6_join_23 : decode cX6_join 23 = .ok (.aload_n 0, 1) := by decide +kernel
theorem dX6_join_24 : decode cX6_join 24 = .ok (.getfield 31, 3) := by decide +kernel
theorem dX6_join_27 : decode cX6_join 27 = .ok (.aload_n 0, 1) := by decide +kernel
theorem dX6_join_28 : decode cX6_join 28 = .ok (.getfield 85, 3) := by decide +kernel
theorem dX6_join_31 : decode cX6_join 31 = .ok (.iconst 1, 1) := by decide +kernel
theorem dX6_join_32 : decode cX6_join 32 = .ok (.isub, 1) := by decide +kernel
theorem dX6_join_33 : decode cX6_join 33 = .ok (.iaload, 1) := by decide +kernel
theorem dX6_join_34 : decode cX6_join 34 = .ok (.iconst 1, 1) := by decide +kernel
theorem dX6_join_35 : decode cX6_join 35 = .ok (.if_icmp .eq 8, 3) := by decide +kernel
theorem dX6_join_38 : decode cX6_join 38 = .ok (.iload_n 1, 1) := by decide +kernel
theorem dX6_join_39 : decode cX6_join 39 = .ok (.iconst 2, 1) := by decide +kernel
theorem dX6_join_40 : decode cX6_join 40 = .ok (.if_icmp .ne 63, 3) := by decide +kernel
theorem dX6_join_43 : decode cX6_join 43 = .ok (.aload_n 0, 1) := by decide +kernel
theorem dX6_join_44 : decode cX6_join 44 = .ok (.dup, 1) := by decide +kernel
theorem dX6_join_45 : decode cX6_join 45 = .ok (.getfield 82, 3) := by decide +kernel
theorem dX6_join_48 : decode cX6_join 48 = .ok (.iconst 2, 1) := by decide +kernel
theorem dX6_join_49 : decode cX6_join 49 = .ok (.isub, 1) := by decide +kernel
theorem dX6_join_50 : decode cX6_join 50 = .ok (.putfield 82, 3) := by decide +kernel
theorem dX6_join_53 : decode cX6_join 53 = .ok (.aload_n 0, 1) := by decide +kernel
theorem dX6_join_54 : decode cX6_join 54 = .ok (.getfield 34, 3) := by decide +kernel
theorem dX6_join_57 : decode cX6_join 57 = .ok (.aload_n 0, 1) := by decide +kernel
theorem dX6_join_58 : decode cX6_join 58 = .ok (.getfield 82, 3) := by decide +kernel
theorem dX6_join_61 : decode cX6_join 61 = .ok (.iaload, 1) := by decide +kernel
theorem dX6_join_62 : decode cX6_join 62 = .ok (.istore_n 2, 1) := by decide +kernel
theorem dX6_join_63 : decode cX6_join 63 = .ok (.aload_n 0, 1) := by decide +kernel
theorem dX6_join_64 : decode cX6_join 64 = .ok (.getfield 34, 3) := by decide +kernel
theorem dX6_join_67 : decode cX6_join 67 = .ok (.aload_n 0, 1) := by decide +kernel
theorem dX6_join_68 : decode cX6_join 68 = .ok (.getfield 82, 3) := by decide +kernel
theorem dX6_join_71 : decode cX6_join 71 = .ok (.iconst 1, 1) := by decide +kernel
theorem dX6_join_72 : decode cX6_join 72 = .ok (.iadd, 1) := by decide +kernel
theorem dX6_join_73 : decode cX6_join 73 = .ok (.iaload, 1) := by decide +kernel
theorem dX6_join_74 : decode cX6_join 74 = .ok (.istore_n 3, 1) := by decide +kernel
theorem dX6_join_75 : decode cX6_join 75 = .ok (.aload_n 0, 1) := by decide +kernel
theorem dX6_join_76 : decode cX6_join 76 = .ok (.dup, 1) := by decide +kernel
theorem dX6_join_77 : decode cX6_join 77 = .ok (.getfield 85, 3) := by decide +kernel
theorem dX6_join_80 : decode cX6_join 80 = .ok (.iconst 1, 1) := by decide +kernel
theorem dX6_join_81 : decode cX6_join 81 = .ok (.isub, 1) := by decide +kernel
theorem dX6_join_82 : decode cX6_join 82 = .ok (.putfield 85, 3) := by decide +kernel
theorem dX6_join_85 : decode cX6_join 85 = .ok (.aload_n 0, 1) := by decide +kernel
theorem dX6_join_86 : decode cX6_join 86 = .ok (.aload_n 0, 1) := by decide +kernel
theorem dX6_join_87 : decode cX6_join 87 = .ok (.getfield 31, 3) := by decide +kernel
theorem dX6_join_90 : decode cX6_join 90 = .ok (.aload_n 0, 1) := by decide +kernel
theorem dX6_join_91 : decode cX6_join 91 = .ok (.getfield 85, 3) := by decide +kernel
theorem dX6_join_94 : decode cX6_join 94 = .ok (.iaload, 1) := by decide +kernel
theorem dX6_join_95 : decode cX6_join 95 = .ok (.iload_n 2, 1) := by decide +kernel
theorem dX6_join_96 : decode cX6_join 96 = .ok (.iload_n 3, 1) := by decide +kernel
theorem dX6_join_97 : decode cX6_join 97 = .ok (.invokevirtual 88, 3) := by decide +kernel
theorem dX6_join_100 : decode cX6_join 100 = .ok (.goto (-100), 3) := by decide +kernel
theorem dX6_join_103 : decode cX6_join 103 = .ok (.return_, 1) := by decide +kernel
theorem dX6_hold_0 : decode cX6_hold 0 = .ok (.aload_n 0, 1) := by decide +kernel
theorem dX6_hold_1 : decode cX6_hold 1 = .ok (.getfield 31, 3) := by decide +kernel
theorem dX6_hold_4 : decode cX6_hold 4 = .ok (.aload_n 0, 1) := by decide +kernel
theorem dX6_hold_5 : decode cX6_hold 5 = .ok (.getfield 85, 3) := by decide +kernel
theorem dX6_hold_8 : decode cX6_hold 8 = .ok (.iload_n 1, 1) := by decide +kernel
theorem dX6_hold_9 : decode cX6_hold 9 = .ok (.iastore, 1) := by decide +kernel
theorem dX6_hold_10 : decode cX6_hold 10 = .ok (.aload_n 0, 1) := by decide +kernel
theorem dX6_hold_11 : decode cX6_hold 11 = .ok (.dup, 1) := by decide +kernel
theorem dX6_hold_12 : decode cX6_hold 12 = .ok (.getfield 85, 3) := by decide +kernel
theorem dX6_hold_15 : decode cX6_hold 15 = .ok (.iconst 1, 1) := by decide +kernel
theorem dX6_hold_16 : decode cX6_hold 16 = .ok (.iadd, 1) := by decide +kernel
theorem dX6_hold_17 : decode cX6_hold 17 = .ok (.putfield 85, 3) := by decide +kernel
theorem dX6_hold_20 : decode cX6_hold 20 = .ok (.return_, 1) := by decide +kernel
theorem dX6_suffix_0 : decode cX6_suffix 0 = .ok (.aload_n 0, 1) := by decide +kernel
theorem dX6_suffix_1 : decode cX6_suffix 1 = .ok (.dup, 1) := by decide +kernel
theorem dX6_suffix_2 : decode cX6_suffix 2 = .ok (.getfield 82, 3) := by decide +kernel
theorem dX6_suffix_5 : decode cX6_suffix 5 = .ok (.iconst 1, 1) := by decide +kernel
theorem dX6_suffix_6 : decode cX6_suffix 6 = .ok (.isub, 1) := by decide +kernel
theorem dX6_suffix_7 : decode cX6_suffix 7 = .ok (.putfield 82, 3) := by decide +kernel
theorem dX6_suffix_10 : decode cX6_suffix 10 = .ok (.aload_n 0, 1) := by decide +kernel
theorem dX6_suffix_11 : decode cX6_suffix 11 = .ok (.iload_n 1, 1) := by decide +kernel
theorem dX6_suffix_12 : decode cX6_suffix 12 = .ok (.aload_n 0, 1) := by decide +kernel
theorem dX6_suffix_13 : decode cX6_suffix 13 = .ok (.getfield 34, 3) := by decide +kernel
theorem dX6_suffix_16 : decode cX6_suffix 16 = .ok (.aload_n 0, 1) := by decide +kernel
theorem dX6_suffix_17 : decode cX6_suffix 17 = .ok (.getfield 82, 3) := by decide +kernel
theorem dX6_suffix_20 : decode cX6_suffix 20 = .ok (.iaload, 1) := by decide +kernel
theorem dX6_suffix_21 : decode cX6_suffix 21 = .ok (.iload_n 2, 1) := by decide +kernel
theorem dX6_suffix_22 : decode cX6_suffix 22 = .ok (.invokevirtual 88, 3) := by decide +kernel
theorem dX6_suffix_25 : decode cX6_suffix 25 = .ok (.return_, 1) := by decide +kernel
theorem dX6_item_0 : decode cX6_item 0 = .ok (.iload_n 1, 1) := by decide +kernel
theorem dX6_item_1 : decode cX6_item 1 = .ok (.ifCond .eq 13, 3) := by decide +kernel
theorem dX6_item_4 : decode cX6_item 4 = .ok (.aload_n 0, 1) := by decide +kernel
theorem dX6_item_5 : decode cX6_item 5 = .ok (.iconst 1, 1) := by decide +kernel
theorem dX6_item_6 : decode cX6_item 6 = .ok (.invokevirtual 92, 3) := by decide +kernel
theorem dX6_item_9 : decode cX6_item 9 = .ok (.aload_n 0, 1) := by decide +kernel
theorem dX6_item_10 : decode cX6_item 10 = .ok (.iconst 1, 1) := by decide +kernel
theorem dX6_item_11 : decode cX6_item 11 = .ok (.invokevirtual 96, 3) := by decide +kernel
theorem dX6_item_14 : decode cX6_item 14 = .ok (.return_, 1) := by decide +kernel
theorem dX6_set_0 : decode cX6_set 0 = .ok (.iload_n 1, 1) := by decide +kernel
theorem dX6_set_1 : decode cX6_set 1 = .ok (.iconst 1, 1) := by decide +kernel
theorem dX6_set_2 : decode cX6_set 2 = .ok (.iadd, 1) := by decide +kernel
theorem dX6_set_3 : decode cX6_set 3 = .ok (.istore_n 2, 1) := by decide +kernel
theorem dX6_set_4 : decode cX6_set 4 = .ok (.aload_n 0, 1) := by decide +kernel
theorem dX6_set_5 : decode cX6_set 5 = .ok (.getfield 7, 3) := by decide +kernel
theorem dX6_set_8 : decode cX6_set 8 = .ok (.iload_n 2, 1) := by decide +kernel
theorem dX6_set_9 : decode cX6_set 9 = .ok (.iaload, 1) := by decide +kernel
theorem dX6_set_10 : decode cX6_set 10 = .ok (.bipush 94, 2) := by decide +kernel
theorem dX6_set_12 : decode cX6_set 12 = .ok (.if_icmp .ne 7, 3) := by decide +kernel
theorem dX6_set_15 : decode cX6_set 15 = .ok (.iconst 1, 1) := by decide +kernel
theorem dX6_set_16 : decode cX6_set 16 = .ok (.goto 4, 3) := by decide +kernel
theorem dX6_set_19 : decode cX6_set 19 = .ok (.iconst 0, 1) := by decide +kernel
theorem dX6_set_20 : decode cX6_set 20 = .ok (.istore_n 3, 1) := by decide +kernel
theorem dX6_set_21 : decode cX6_set 21 = .ok (.iload_n 3, 1) := by decide +kernel
theorem dX6_set_22 : decode cX6_set 22 = .ok (.ifCond .eq 9, 3) := by decide +kernel
theorem dX6_set_25 : decode cX6_set 25 = .ok (.iload_n 2, 1) := by decide +kernel
theorem dX6_set_26 : decode cX6_set 26 = .ok (.iconst 1, 1) := by decide +kernel
theorem dX6_set_27 : decode cX6_set 27 = .ok (.iadd, 1) := by decide +kernel
theorem dX6_set_28 : decode cX6_set 28 = .ok (.goto 4, 3) := by decide +kernel
theorem dX6_set_31 : decode cX6_set 31 = .ok (.iload_n 2, 1) := by decide +kernel
theorem dX6_set_32 : decode cX6_set 32 = .ok (.istore_n 2, 1) := by decide +kernel
theorem dX6_set_33 : decode cX6_set 33 = .ok (.aload_n 0, 1) := by decide +kernel
theorem dX6_set_34 : decode cX6_set 34 = .ok (.iconst 0, 1) := by decide +kernel
theorem dX6_set_35 : decode cX6_set 35 = .ok (.putfield 99, 3) := by decide +kernel
theorem dX6_set_38 : decode cX6_set 38 = .ok (.aload_n 0, 1) := by decide +kernel
theorem dX6_set_39 : decode cX6_set 39 = .ok (.getfield 7, 3) := by decide +kernel
theorem dX6_set_42 : decode cX6_set 42 = .ok (.iload_n 2, 1) := by decide +kernel
theorem dX6_set_43 : decode cX6_set 43 = .ok (.iaload, 1) := by decide +kernel
theorem dX6_set_44 : decode cX6_set 44 = .ok (.bipush 93, 2) := by decide +kernel
theorem dX6_set_46 : decode cX6_set 46 = .ok (.if_icmp .eq 29, 3) := by decide +kernel
theorem dX6_set_49 : decode cX6_set 49 = .ok (.aload_n 0, 1) := by decide +kernel
theorem dX6_set_50 : decode cX6_set 50 = .ok (.dup, 1) := by decide +kernel
theorem dX6_set_51 : decode cX6_set 51 = .ok (.getfield 99, 3) := by decide +kernel
theorem dX6_set_54 : decode cX6_set 54 = .ok (.iconst 1, 1) := by decide +kernel
theorem dX6_set_55 : decode cX6_set 55 = .ok (.aload_n 0, 1) := by decide +kernel
theorem dX6_set_56 : decode cX6_set 56 = .ok (.getfield 7, 3) := by decide +kernel
theorem dX6_set_59 : decode cX6_set 59 = .ok (.iload_n 2, 1) := by decide +kernel
theorem dX6_set_60 : decode cX6_set 60 = .ok (.iaload, 1) := by decide +kernel
theorem dX6_set_61 : decode cX6_set 61 = .ok (.bipush 97, 2) := by decide +kernel
theorem dX6_set_63 : decode cX6_set 63 = .ok (.isub, 1) := by decide +kernel
theorem dX6_set_64 : decode cX6_set 64 = .ok (.ishl, 1) := by decide +kernel
theorem dX6_set_65 : decode cX6_set 65 = .ok (.ior, 1) := by decide +kernel
theorem dX6_set_66 : decode cX6_set 66 = .ok (.putfield 99, 3) := by decide +kernel
theorem dX6_set_69 : decode cX6_set 69 = .ok (.iinc 2 1, 3) := by decide +kernel
theorem dX6_set_72 : decode cX6_set 72 = .ok (.goto (-34), 3) := by decide +kernel
theorem dX6_set_75 : decode cX6_set 75 = .ok (.aload_n 0, 1) := by decide +kernel
theorem dX6_set_76 : decode cX6_set 76 = .ok (.iload_n 3, 1) := by decide +kernel
theorem dX6_set_77 : decode cX6_set 77 = .ok (.ifCond .eq 15, 3) := by decide +kernel
theorem dX6_set_80 : decode cX6_set 80 = .ok (.ldc 102, 2) := by decide +kernel
theorem dX6_set_82 : decode cX6_set 82 = .ok (.aload_n 0, 1) := by decide +kernel
theorem dX6_set_83 : decode cX6_set 83 = .ok (.getfield 99, 3) := by decide +kernel
theorem dX6_set_86 : decode cX6_set 86 = .ok (.iconst (-1), 1) := by decide +kernel
theorem dX6_set_87 : decode cX6_set 87 = .ok (.ixor, 1) := by decide +kernel
theorem dX6_set_88 : decode cX6_set 88 = .ok (.iand, 1) := by decide +kernel
theorem dX6_set_89 : decode cX6_set 89 = .ok (.goto 7, 3) := by decide +kernel
theorem dX6_set_92 : decode cX6_set 92 = .ok (.aload_n 0, 1) := by decide +kernel
theorem dX6_set_93 : decode cX6_set 93 = .ok (.getfield 99, 3) := by decide +kernel
theorem dX6_set_96 : decode cX6_set 96 = .ok (.putfield 99, 3) := by decide +kernel
theorem dX6_set_99 : decode cX6_set 99 = .ok (.iload_n 2, 1) := by decide +kernel
theorem dX6_set_100 : decode cX6_set 100 = .ok (.iconst 1, 1) := by decide +kernel
theorem dX6_set_101 : decode cX6_set 101 = .ok (.iadd, 1) := by decide +kernel
theorem dX6_set_102 : decode cX6_set 102 = .ok (.ireturn, 1) := by decide +kernel
theorem dX6_read_0 : decode cX6_read 0 = .ok (.aload_n 0, 1) := by decide +kernel
theorem dX6_read_1 : decode cX6_read 1 = .ok (.iconst 0, 1) := by decide +kernel
theorem dX6_read_2 : decode cX6_read 2 = .ok (.putfield 79, 3) := by decide +kernel
theorem dX6_read_5 : decode cX6_read 5 = .ok (.aload_n 0, 1) := by decide +kernel
theorem dX6_read_6 : decode cX6_read 6 = .ok (.iconst 0, 1) := by decide +kernel
theorem dX6_read_7 : decode cX6_read 7 = .ok (.putfield 85, 3) := by decide +kernel
theorem dX6_read_10 : decode cX6_read 10 = .ok (.aload_n 0, 1) := by decide +kernel
theorem dX6_read_11 : decode cX6_read 11 = .ok (.iconst 0, 1) := by decide +kernel
theorem dX6_read_12 : decode cX6_read 12 = .ok (.putfield 82, 3) := by decide +kernel
theorem dX6_read_15 : decode cX6_read 15 = .ok (.iconst 0, 1) := by decide +kernel
theorem dX6_read_16 : decode cX6_read 16 = .ok (.istore_n 1, 1) := by decide +kernel
theorem dX6_read_17 : decode cX6_read 17 = .ok (.iconst 0, 1) := by decide +kernel
theorem dX6_read_18 : decode cX6_read 18 = .ok (.istore_n 2, 1) := by decide +kernel
theorem dX6_read_19 : decode cX6_read 19 = .ok (.iload_n 2, 1) := by decide +kernel
theorem dX6_read_20 : decode cX6_read 20 = .ok (.aload_n 0, 1) := by decide +kernel
theorem dX6_read_21 : decode cX6_read 21 = .ok (.getfield 68, 3) := by decide +kernel
theorem dX6_read_24 : decode cX6_read 24 = .ok (.if_icmp .ge 293, 3) := by decide +kernel
theorem dX6_read_27 : decode cX6_read 27 = .ok (.aload_n 0, 1) := by decide +kernel
theorem dX6_read_28 : decode cX6_read 28 = .ok (.getfield 7, 3) := by decide +kernel
theorem dX6_read_31 : decode cX6_read 31 = .ok (.iload_n 2, 1) := by decide +kernel
theorem dX6_read_32 : decode cX6_read 32 = .ok (.iaload, 1) := by decide +kernel
theorem dX6_read_33 : decode cX6_read 33 = .ok (.istore_n 3, 1) := by decide +kernel
theorem dX6_read_34 : decode cX6_read 34 = .ok (.iinc 2 1, 3) := by decide +kernel
theorem dX6_read_37 : decode cX6_read 37 = .ok (.iload_n 3, 1) := by decide +kernel
theorem dX6_read_38 : decode cX6_read 38 = .ok (.bipush 124, 2) := by decide +kernel
theorem dX6_read_40 : decode cX6_read 40 = .ok (.if_icmp .ne 18, 3) := by decide +kernel
theorem dX6_read_43 : decode cX6_read 43 = .ok (.aload_n 0, 1) := by decide +kernel
theorem dX6_read_44 : decode cX6_read 44 = .ok (.iconst 2, 1) := by decide +kernel
theorem dX6_read_45 : decode cX6_read 45 = .ok (.invokevirtual 92, 3) := by decide +kernel
theorem dX6_read_48 : decode cX6_read 48 = .ok (.aload_n 0, 1) := by decide +kernel
theorem dX6_read_49 : decode cX6_read 49 = .ok (.iconst 2, 1) := by decide +kernel
theorem dX6_read_50 : decode cX6_read 50 = .ok (.invokevirtual 96, 3) := by decide +kernel
theorem dX6_read_53 : decode cX6_read 53 = .ok (.iconst 0, 1) := by decide +kernel
theorem dX6_read_54 : decode cX6_read 54 = .ok (.istore_n 1, 1) := by decide +kernel
theorem dX6_read_55 : decode cX6_read 55 = .ok (.goto 243, 3) := by decide +kernel
theorem dX6_read_58 : decode cX6_read 58 = .ok (.iload_n 3, 1) := by decide +kernel
theorem dX6_read_59 : decode cX6_read 59 = .ok (.bipush 40, 2) := by decide +kernel
theorem dX6_read_61 : decode cX6_read 61 = .ok (.if_icmp .ne 19, 3) := by decide +kernel
theorem dX6_read_64 : decode cX6_read 64 = .ok (.aload_n 0, 1) := by decide +kernel
theorem dX6_read_65 : decode cX6_read 65 = .ok (.iload_n 1, 1) := by decide +kernel
theorem dX6_read_66 : decode cX6_read 66 = .ok (.invokevirtual 103, 3) := by decide +kernel
theorem dX6_read_69 : decode cX6_read 69 = .ok (.aload_n 0, 1) := by decide +kernel
theorem dX6_read_70 : decode cX6_read 70 = .ok (.bipush 7, 2) := by decide +kernel
theorem dX6_read_72 : decode cX6_read 72 = .ok (.invokevirtual 96, 3) := by decide +kernel
theorem dX6_read_75 : decode cX6_read 75 = .ok (.iconst 0, 1) := by decide +kernel
theorem dX6_read_76 : decode cX6_read 76 = .ok (.istore_n 1, 1) := by decide +kernel
theorem dX6_read_77 : decode cX6_read 77 = .ok (.goto 221, 3) := by decide +kernel
theorem dX6_read_80 : decode cX6_read 80 = .ok (.iload_n 3, 1) := by decide +kernel
theorem dX6_read_81 : decode cX6_read 81 = .ok (.bipush 41, 2) := by decide +kernel
theorem dX6_read_83 : decode cX6_read 83 = .ok (.if_icmp .ne 21, 3) := by decide +kernel
theorem dX6_read_86 : decode cX6_read 86 = .ok (.aload_n 0, 1) := by decide +kernel
theorem dX6_read_87 : decode cX6_read 87 = .ok (.iconst 2, 1) := by decide +kernel
theorem dX6_read_88 : decode cX6_read 88 = .ok (.invokevirtual 92, 3) := by decide +kernel
theorem dX6_read_91 : decode cX6_read 91 = .ok (.aload_n 0, 1) := by decide +kernel
theorem dX6_read_92 : decode cX6_read 92 = .ok (.dup, 1) := by decide +kernel
theorem dX6_read_93 : decode cX6_read 93 = .ok (.getfield 85, 3) := by decide +kernel
theorem dX6_read_96 : decode cX6_read 96 = .ok (.iconst 1, 1) := by decide +kernel
theorem dX6_read_97 : decode cX6_read 97 = .ok (.isub, 1) := by decide +kernel
theorem dX6_read_98 : decode cX6_read 98 = .ok (.putfield 85, 3) := by decide +kernel
theorem dX6_read_101 : decode cX6_read 101 = .ok (.goto 197, 3) := by decide +kernel
theorem dX6_read_104 : decode cX6_read 104 = .ok (.iload_n 3, 1) := by decide +kernel
theorem dX6_read_105 : decode cX6_read 105 = .ok (.bipush 42, 2) := by decide +kernel
theorem dX6_read_107 : decode cX6_read 107 = .ok (.if_icmp .eq 15, 3) := by decide +kernel
theorem dX6_read_110 : decode cX6_read 110 = .ok (.iload_n 3, 1) := by decide +kernel
theorem dX6_read_111 : decode cX6_read 111 = .ok (.bipush 43, 2) := by decide +kernel
theorem dX6_read_113 : decode cX6_read 113 = .ok (.if_icmp .eq 9, 3) := by decide +kernel
theorem dX6_read_116 : decode cX6_read 116 = .ok (.iload_n 3, 1) := by decide +kernel
theorem dX6_read_117 : decode cX6_read 117 = .ok (.bipush 63, 2) := by decide +kernel
theorem dX6_read_119 : decode cX6_read 119 = .ok (.if_icmp .ne 32, 3) := by decide +kernel
theorem dX6_read_122 : decode cX6_read 122 = .ok (.aload_n 0, 1) := by decide +kernel
theorem dX6_read_123 : decode cX6_read 123 = .ok (.iload_n 3, 1) := by decide +kernel
theorem dX6_read_124 : decode cX6_read 124 = .ok (.bipush 42, 2) := by decide +kernel
theorem dX6_read_126 : decode cX6_read 126 = .ok (.if_icmp .ne 7, 3) := by decide +kernel
theorem dX6_read_129 : decode cX6_read 129 = .ok (.iconst 3, 1) := by decide +kernel
theorem dX6_read_130 : decode cX6_read 130 = .ok (.goto 14, 3) := by decide +kernel
theorem dX6_read_133 : decode cX6_read 133 = .ok (.iload_n 3, 1) := by decide +kernel
theorem dX6_read_134 : decode cX6_read 134 = .ok (.bipush 43, 2) := by decide +kernel
theorem dX6_read_136 : decode cX6_read 136 = .ok (.if_icmp .ne 7, 3) := by decide +kernel
theorem dX6_read_139 : decode cX6_read 139 = .ok (.iconst 4, 1) := by decide +kernel
theorem dX6_read_140 : decode cX6_read 140 = .ok (.goto 4, 3) := by decide +kernel
theorem dX6_read_143 : decode cX6_read 143 = .ok (.iconst 5, 1) := by decide +kernel
theorem dX6_read_144 : decode cX6_read 144 = .ok (.iconst 0, 1) := by decide +kernel
theorem dX6_read_145 : decode cX6_read 145 = .ok (.invokevirtual 107, 3) := by decide +kernel
theorem dX6_read_148 : decode cX6_read 148 = .ok (.goto 150, 3) := by decide +kernel
theorem dX6_read_151 : decode cX6_read 151 = .ok (.iload_n 3, 1) := by decide +kernel
theorem dX6_read_152 : decode cX6_read 152 = .ok (.bipush 60, 2) := by decide +kernel
theorem dX6_read_154 : decode cX6_read 154 = .ok (.if_icmp .ne 78, 3) := by decide +kernel
theorem dX6_read_157 : decode cX6_read 157 = .ok (.aload_n 0, 1) := by decide +kernel
theorem dX6_read_158 : decode cX6_read 158 = .ok (.getfield 7, 3) := by decide +kernel
theorem dX6_read_161 : decode cX6_read 161 = .ok (.iload_n 2, 1) := by decide +kernel
theorem dX6_read_162 : decode cX6_read 162 = .ok (.iaload, 1) := by decide +kernel
theorem dX6_read_163 : decode cX6_read 163 = .ok (.bipush 48, 2) := by decide +kernel
theorem dX6_read_165 : decode cX6_read 165 = .ok (.isub, 1) := by decide +kernel
theorem dX6_read_166 : decode cX6_read 166 = .ok (.istore 4, 2) := by decide +kernel
theorem dX6_read_168 : decode cX6_read 168 = .ok (.iinc 2 1, 3) := by decide +kernel
theorem dX6_read_171 : decode cX6_read 171 = .ok (.iload_n 2, 1) := by decide +kernel
theorem dX6_read_172 : decode cX6_read 172 = .ok (.aload_n 0, 1) := by decide +kernel
theorem dX6_read_173 : decode cX6_read 173 = .ok (.getfield 68, 3) := by decide +kernel
theorem dX6_read_176 : decode cX6_read 176 = .ok (.if_icmp .ge 45, 3) := by decide +kernel
theorem dX6_read_179 : decode cX6_read 179 = .ok (.aload_n 0, 1) := by decide +kernel
theorem dX6_read_180 : decode cX6_read 180 = .ok (.getfield 7, 3) := by decide +kernel
theorem dX6_read_183 : decode cX6_read 183 = .ok (.iload_n 2, 1) := by decide +kernel
theorem dX6_read_184 : decode cX6_read 184 = .ok (.iaload, 1) := by decide +kernel
theorem dX6_read_185 : decode cX6_read 185 = .ok (.bipush 48, 2) := by decide +kernel
theorem dX6_read_187 : decode cX6_read 187 = .ok (.if_icmp .lt 34, 3) := by decide +kernel
theorem dX6_read_190 : decode cX6_read 190 = .ok (.aload_n 0, 1) := by decide +kernel
theorem dX6_read_191 : decode cX6_read 191 = .ok (.getfield 7, 3) := by decide +kernel
theorem dX6_read_194 : decode cX6_read 194 = .ok (.iload_n 2, 1) := by decide +kernel
theorem dX6_read_195 : decode cX6_read 195 = .ok (.iaload, 1) := by decide +kernel
theorem dX6_read_196 : decode cX6_read 196 = .ok (.bipush 57, 2) := by decide +kernel
theorem dX6_read_198 : decode cX6_read 198 = .ok (.if_icmp .gt 23, 3) := by decide +kernel
theorem dX6_read_201 : decode cX6_read 201 = .ok (.bipush 10, 2) := by decide +kernel
theorem dX6_read_203 : decode cX6_read 203 = .ok (.iload 4, 2) := by decide +kernel
theorem dX6_read_205 : decode cX6_read 205 = .ok (.imul, 1) := by decide +kernel
theorem dX6_read_206 : decode cX6_read 206 = .ok (.aload_n 0, 1) := by decide +kernel
theorem dX6_read_207 : decode cX6_read 207 = .ok (.getfield 7, 3) := by decide +kernel
theorem dX6_read_210 : decode cX6_read 210 = .ok (.iload_n 2, 1) := by decide +kernel
theorem dX6_read_211 : decode cX6_read 211 = .ok (.iaload, 1) := by decide +kernel
theorem dX6_read_212 : decode cX6_read 212 = .ok (.iadd, 1) := by decide +kernel
theorem dX6_read_213 : decode cX6_read 213 = .ok (.bipush 48, 2) := by decide +kernel
theorem dX6_read_215 : decode cX6_read 215 = .ok (.isub, 1) := by decide +kernel
theorem dX6_read_216 : decode cX6_read 216 = .ok (.istore 4, 2) := by decide +kernel
theorem dX6_read_218 : decode cX6_read 218 = .ok (.iinc 2 1, 3) := by decide +kernel
theorem dX6_read_221 : decode cX6_read 221 = .ok (.aload_n 0, 1) := by decide +kernel
theorem dX6_read_222 : decode cX6_read 222 = .ok (.bipush 6, 2) := by decide +kernel
theorem dX6_read_224 : decode cX6_read 224 = .ok (.iload 4, 2) := by decide +kernel
theorem dX6_read_226 : decode cX6_read 226 = .ok (.invokevirtual 107, 3) := by decide +kernel
theorem dX6_read_229 : decode cX6_read 229 = .ok (.goto 69, 3) := by decide +kernel
theorem dX6_read_232 : decode cX6_read 232 = .ok (.aload_n 0, 1) := by decide +kernel
theorem dX6_read_233 : decode cX6_read 233 = .ok (.iload_n 1, 1) := by decide +kernel
theorem dX6_read_234 : decode cX6_read 234 = .ok (.invokevirtual 103, 3) := by decide +kernel
theorem dX6_read_237 : decode cX6_read 237 = .ok (.aload_n 0, 1) := by decide +kernel
theorem dX6_read_238 : decode cX6_read 238 = .ok (.iload_n 3, 1) := by decide +kernel
theorem dX6_read_239 : decode cX6_read 239 = .ok (.bipush 46, 2) := by decide +kernel
theorem dX6_read_241 : decode cX6_read 241 = .ok (.if_icmp .ne 8, 3) := by decide +kernel
theorem dX6_read_244 : decode cX6_read 244 = .ok (.ldc 102, 2) := by decide +kernel
theorem dX6_read_246 : decode cX6_read 246 = .ok (.goto 19, 3) := by decide +kernel
theorem dX6_read_249 : decode cX6_read 249 = .ok (.iconst 1, 1) := by decide +kernel
theorem dX6_read_250 : decode cX6_read 250 = .ok (.iload_n 3, 1) := by decide +kernel
theorem dX6_read_251 : decode cX6_read 251 = .ok (.bipush 91, 2) := by decide +kernel
theorem dX6_read_253 : decode cX6_read 253 = .ok (.if_icmp .ne 7, 3) := by decide +kernel
theorem dX6_read_256 : decode cX6_read 256 = .ok (.iconst 0, 1) := by decide +kernel
theorem dX6_read_257 : decode cX6_read 257 = .ok (.goto 7, 3) := by decide +kernel
theorem dX6_read_260 : decode cX6_read 260 = .ok (.iload_n 3, 1) := by decide +kernel
theorem dX6_read_261 : decode cX6_read 261 = .ok (.bipush 97, 2) := by decide +kernel
theorem dX6_read_263 : decode cX6_read 263 = .ok (.isub, 1) := by decide +kernel
theorem dX6_read_264 : decode cX6_read 264 = .ok (.ishl, 1) := by decide +kernel
theorem dX6_read_265 : decode cX6_read 265 = .ok (.putfield 99, 3) := by decide +kernel
theorem dX6_read_268 : decode cX6_read 268 = .ok (.iload_n 3, 1) := by decide +kernel
theorem dX6_read_269 : decode cX6_read 269 = .ok (.bipush 91, 2) := by decide +kernel
theorem dX6_read_271 : decode cX6_read 271 = .ok (.if_icmp .ne 13, 3) := by decide +kernel
theorem dX6_read_274 : decode cX6_read 274 = .ok (.aload_n 0, 1) := by decide +kernel
theorem dX6_read_275 : decode cX6_read 275 = .ok (.iload_n 2, 1) := by decide +kernel
theorem dX6_read_276 : decode cX6_read 276 = .ok (.iconst 1, 1) := by decide +kernel
theorem dX6_read_277 : decode cX6_read 277 = .ok (.isub, 1) := by decide +kernel
theorem dX6_read_278 : decode cX6_read 278 = .ok (.invokevirtual 111, 3) := by decide +kernel
theorem dX6_read_281 : decode cX6_read 281 = .ok (.goto 4, 3) := by decide +kernel
theorem dX6_read_284 : decode cX6_read 284 = .ok (.iload_n 2, 1) := by decide +kernel
theorem dX6_read_285 : decode cX6_read 285 = .ok (.istore_n 2, 1) := by decide +kernel
theorem dX6_read_286 : decode cX6_read 286 = .ok (.aload_n 0, 1) := by decide +kernel
theorem dX6_read_287 : decode cX6_read 287 = .ok (.iconst 0, 1) := by decide +kernel
theorem dX6_read_288 : decode cX6_read 288 = .ok (.aload_n 0, 1) := by decide +kernel
theorem dX6_read_289 : decode cX6_read 289 = .ok (.getfield 99, 3) := by decide +kernel
theorem dX6_read_292 : decode cX6_read 292 = .ok (.iconst 0, 1) := by decide +kernel
theorem dX6_read_293 : decode cX6_read 293 = .ok (.invokevirtual 88, 3) := by decide +kernel
theorem dX6_read_296 : decode cX6_read 296 = .ok (.iconst 1, 1) := by decide +kernel
theorem dX6_read_297 : decode cX6_read 297 = .ok (.istore_n 1, 1) := by decide +kernel
theorem dX6_read_298 : decode cX6_read 298 = .ok (.iload_n 1, 1) := by decide +kernel
theorem dX6_read_299 : decode cX6_read 299 = .ok (.ifCond .ne 9, 3) := by decide +kernel
theorem dX6_read_302 : decode cX6_read 302 = .ok (.iload_n 3, 1) := by decide +kernel
theorem dX6_read_303 : decode cX6_read 303 = .ok (.bipush 41, 2) := by decide +kernel
theorem dX6_read_305 : decode cX6_read 305 = .ok (.if_icmp .ne 7, 3) := by decide +kernel
theorem dX6_read_308 : decode cX6_read 308 = .ok (.iconst 1, 1) := by decide +kernel
theorem dX6_read_309 : decode cX6_read 309 = .ok (.goto 4, 3) := by decide +kernel
theorem dX6_read_312 : decode cX6_read 312 = .ok (.iconst 0, 1) := by decide +kernel
theorem dX6_read_313 : decode cX6_read 313 = .ok (.istore_n 1, 1) := by decide +kernel
theorem dX6_read_314 : decode cX6_read 314 = .ok (.goto (-295), 3) := by decide +kernel
theorem dX6_read_317 : decode cX6_read 317 = .ok (.aload_n 0, 1) := by decide +kernel
theorem dX6_read_318 : decode cX6_read 318 = .ok (.iconst 2, 1) := by decide +kernel
theorem dX6_read_319 : decode cX6_read 319 = .ok (.invokevirtual 92, 3) := by decide +kernel
theorem dX6_read_322 : decode cX6_read 322 = .ok (.return_, 1) := by decide +kernel
theorem dX6_compile_0 : decode cX6_compile 0 = .ok (.aload_n 0, 1) := by decide +kernel
theorem dX6_compile_1 : decode cX6_compile 1 = .ok (.invokevirtual 115, 3) := by decide +kernel
theorem dX6_compile_4 : decode cX6_compile 4 = .ok (.istore_n 1, 1) := by decide +kernel
theorem dX6_compile_5 : decode cX6_compile 5 = .ok (.iload_n 1, 1) := by decide +kernel
theorem dX6_compile_6 : decode cX6_compile 6 = .ok (.iconst (-1), 1) := by decide +kernel
theorem dX6_compile_7 : decode cX6_compile 7 = .ok (.if_icmp .eq 10, 3) := by decide +kernel
theorem dX6_compile_10 : decode cX6_compile 10 = .ok (.aload_n 0, 1) := by decide +kernel
theorem dX6_compile_11 : decode cX6_compile 11 = .ok (.iconst 0, 1) := by decide +kernel
theorem dX6_compile_12 : decode cX6_compile 12 = .ok (.putfield 68, 3) := by decide +kernel
theorem dX6_compile_15 : decode cX6_compile 15 = .ok (.iload_n 1, 1) := by decide +kernel
theorem dX6_compile_16 : decode cX6_compile 16 = .ok (.ireturn, 1) := by decide +kernel
theorem dX6_compile_17 : decode cX6_compile 17 = .ok (.aload_n 0, 1) := by decide +kernel
theorem dX6_compile_18 : decode cX6_compile 18 = .ok (.invokevirtual 119, 3) := by decide +kernel
theorem dX6_compile_21 : decode cX6_compile 21 = .ok (.aload_n 0, 1) := by decide +kernel
theorem dX6_compile_22 : decode cX6_compile 22 = .ok (.iconst 0, 1) := by decide +kernel
theorem dX6_compile_23 : decode cX6_compile 23 = .ok (.putfield 68, 3) := by decide +kernel
theorem dX6_compile_26 : decode cX6_compile 26 = .ok (.aload_n 0, 1) := by decide +kernel
theorem dX6_compile_27 : decode cX6_compile 27 = .ok (.getfield 79, 3) := by decide +kernel
theorem dX6_compile_30 : decode cX6_compile 30 = .ok (.bipush 24, 2) := by decide +kernel
theorem dX6_compile_32 : decode cX6_compile 32 = .ok (.if_icmp .le 6, 3) := by decide +kernel
theorem dX6_compile_35 : decode cX6_compile 35 = .ok (.bipush (-2), 2) := by decide +kernel
theorem dX6_compile_37 : decode cX6_compile 37 = .ok (.ireturn, 1) := by decide +kernel
theorem dX6_compile_38 : decode cX6_compile 38 = .ok (.aload_n 0, 1) := by decide +kernel
theorem dX6_compile_39 : decode cX6_compile 39 = .ok (.aload_n 0, 1) := by decide +kernel
theorem dX6_compile_40 : decode cX6_compile 40 = .ok (.getfield 79, 3) := by decide +kernel
theorem dX6_compile_43 : decode cX6_compile 43 = .ok (.putfield 122, 3) := by decide +kernel
theorem dX6_compile_46 : decode cX6_compile 46 = .ok (.iconst 0, 1) := by decide +kernel
theorem dX6_compile_47 : decode cX6_compile 47 = .ok (.istore_n 2, 1) := by decide +kernel
theorem dX6_compile_48 : decode cX6_compile 48 = .ok (.iload_n 2, 1) := by decide +kernel
theorem dX6_compile_49 : decode cX6_compile 49 = .ok (.aload_n 0, 1) := by decide +kernel
theorem dX6_compile_50 : decode cX6_compile 50 = .ok (.getfield 122, 3) := by decide +kernel
theorem dX6_compile_53 : decode cX6_compile 53 = .ok (.if_icmp .ge 45, 3) := by decide +kernel
theorem dX6_compile_56 : decode cX6_compile 56 = .ok (.aload_n 0, 1) := by decide +kernel
theorem dX6_compile_57 : decode cX6_compile 57 = .ok (.getfield 13, 3) := by decide +kernel
theorem dX6_compile_60 : decode cX6_compile 60 = .ok (.iload_n 2, 1) := by decide +kernel
theorem dX6_compile_61 : decode cX6_compile 61 = .ok (.aload_n 0, 1) := by decide +kernel
theorem dX6_compile_62 : decode cX6_compile 62 = .ok (.getfield 22, 3) := by decide +kernel
theorem dX6_compile_65 : decode cX6_compile 65 = .ok (.iload_n 2, 1) := by decide +kernel
theorem dX6_compile_66 : decode cX6_compile 66 = .ok (.iaload, 1) := by decide +kernel
theorem dX6_compile_67 : decode cX6_compile 67 = .ok (.iastore, 1) := by decide +kernel
theorem dX6_compile_68 : decode cX6_compile 68 = .ok (.aload_n 0, 1) := by decide +kernel
theorem dX6_compile_69 : decode cX6_compile 69 = .ok (.getfield 16, 3) := by decide +kernel
theorem dX6_compile_72 : decode cX6_compile 72 = .ok (.iload_n 2, 1) := by decide +kernel
theorem dX6_compile_73 : decode cX6_compile 73 = .ok (.aload_n 0, 1) := by decide +kernel
theorem dX6_compile_74 : decode cX6_compile 74 = .ok (.getfield 25, 3) := by decide +kernel
theorem dX6_compile_77 : decode cX6_compile 77 = .ok (.iload_n 2, 1) := by decide +kernel
theorem dX6_compile_78 : decode cX6_compile 78 = .ok (.iaload, 1) := by decide +kernel
theorem dX6_compile_79 : decode cX6_compile 79 = .ok (.iastore, 1) := by decide +kernel
theorem dX6_compile_80 : decode cX6_compile 80 = .ok (.aload_n 0, 1) := by decide +kernel
theorem dX6_compile_81 : decode cX6_compile 81 = .ok (.getfield 19, 3) := by decide +kernel
theorem dX6_compile_84 : decode cX6_compile 84 = .ok (.iload_n 2, 1) := by decide +kernel
theorem dX6_compile_85 : decode cX6_compile 85 = .ok (.aload_n 0, 1) := by decide +kernel
theorem dX6_compile_86 : decode cX6_compile 86 = .ok (.getfield 28, 3) := by decide +kernel
theorem dX6_compile_89 : decode cX6_compile 89 = .ok (.iload_n 2, 1) := by decide +kernel
theorem dX6_compile_90 : decode cX6_compile 90 = .ok (.iaload, 1) := by decide +kernel
theorem dX6_compile_91 : decode cX6_compile 91 = .ok (.iastore, 1) := by decide +kernel
theorem dX6_compile_92 : decode cX6_compile 92 = .ok (.iinc 2 1, 3) := by decide +kernel
theorem dX6_compile_95 : decode cX6_compile 95 = .ok (.goto (-47), 3) := by decide +kernel
theorem dX6_compile_98 : decode cX6_compile 98 = .ok (.aload_n 0, 1) := by decide +kernel
theorem dX6_compile_99 : decode cX6_compile 99 = .ok (.invokevirtual 125, 3) := by decide +kernel
theorem dX6_compile_102 : decode cX6_compile 102 = .ok (.iconst (-1), 1) := by decide +kernel
theorem dX6_compile_103 : decode cX6_compile 103 = .ok (.ireturn, 1) := by decide +kernel
theorem dX6_nodes_0 : decode cX6_nodes 0 = .ok (.aload_n 0, 1) := by decide +kernel
theorem dX6_nodes_1 : decode cX6_nodes 1 = .ok (.getfield 122, 3) := by decide +kernel
theorem dX6_nodes_4 : decode cX6_nodes 4 = .ok (.ireturn, 1) := by decide +kernel
theorem dX6_changed_0 : decode cX6_changed 0 = .ok (.aload_n 0, 1) := by decide +kernel
theorem dX6_changed_1 : decode cX6_changed 1 = .ok (.iconst 0, 1) := by decide +kernel
theorem dX6_changed_2 : decode cX6_changed 2 = .ok (.putfield 128, 3) := by decide +kernel
theorem dX6_changed_5 : decode cX6_changed 5 = .ok (.aload_n 0, 1) := by decide +kernel
theorem dX6_changed_6 : decode cX6_changed 6 = .ok (.iconst (-1), 1) := by decide +kernel
theorem dX6_changed_7 : decode cX6_changed 7 = .ok (.putfield 53, 3) := by decide +kernel
theorem dX6_changed_10 : decode cX6_changed 10 = .ok (.aload_n 0, 1) := by decide +kernel
theorem dX6_changed_11 : decode cX6_changed 11 = .ok (.iconst (-1), 1) := by decide +kernel
theorem dX6_changed_12 : decode cX6_changed 12 = .ok (.putfield 56, 3) := by decide +kernel
theorem dX6_changed_15 : decode cX6_changed 15 = .ok (.return_, 1) := by decide +kernel
theorem dX6_weights_0 : decode cX6_weights 0 = .ok (.iload_n 1, 1) := by decide +kernel
theorem dX6_weights_1 : decode cX6_weights 1 = .ok (.ifCond .lt 29, 3) := by decide +kernel
theorem dX6_weights_4 : decode cX6_weights 4 = .ok (.iload_n 1, 1) := by decide +kernel
theorem dX6_weights_5 : decode cX6_weights 5 = .ok (.bipush 9, 2) := by decide +kernel
theorem dX6_weights_7 : decode cX6_weights 7 = .ok (.if_icmp .gt 23, 3) := by decide +kernel
theorem dX6_weights_10 : decode cX6_weights 10 = .ok (.iload_n 2, 1) := by decide +kernel
theorem dX6_weights_11 : decode cX6_weights 11 = .ok (.ifCond .lt 19, 3) := by decide +kernel
theorem dX6_weights_14 : decode cX6_weights 14 = .ok (.iload_n 2, 1) := by decide +kernel
theorem dX6_weights_15 : decode cX6_weights 15 = .ok (.bipush 9, 2) := by decide +kernel
theorem dX6_weights_17 : decode cX6_weights 17 = .ok (.if_icmp .gt 13, 3) := by decide +kernel
theorem dX6_weights_20 : decode cX6_weights 20 = .ok (.iload_n 3, 1) := by decide +kernel
theorem dX6_weights_21 : decode cX6_weights 21 = .ok (.ifCond .lt 9, 3) := by decide +kernel
theorem dX6_weights_24 : decode cX6_weights 24 = .ok (.iload_n 3, 1) := by decide +kernel
theorem dX6_weights_25 : decode cX6_weights 25 = .ok (.bipush 9, 2) := by decide +kernel
theorem dX6_weights_27 : decode cX6_weights 27 = .ok (.if_icmp .le 5, 3) := by decide +kernel
theorem dX6_weights_30 : decode cX6_weights 30 = .ok (.iconst 0, 1) := by decide +kernel
theorem dX6_weights_31 : decode cX6_weights 31 = .ok (.ireturn, 1) := by decide +kernel
theorem dX6_weights_32 : decode cX6_weights 32 = .ok (.aload_n 0, 1) := by decide +kernel
theorem dX6_weights_33 : decode cX6_weights 33 = .ok (.iload_n 1, 1) := by decide +kernel
theorem dX6_weights_34 : decode cX6_weights 34 = .ok (.putfield 37, 3) := by decide +kernel
theorem dX6_weights_37 : decode cX6_weights 37 = .ok (.aload_n 0, 1) := by decide +kernel
theorem dX6_weights_38 : decode cX6_weights 38 = .ok (.iload_n 2, 1) := by decide +kernel
theorem dX6_weights_39 : decode cX6_weights 39 = .ok (.putfield 41, 3) := by decide +kernel
theorem dX6_weights_42 : decode cX6_weights 42 = .ok (.aload_n 0, 1) := by decide +kernel
theorem dX6_weights_43 : decode cX6_weights 43 = .ok (.iload_n 3, 1) := by decide +kernel
theorem dX6_weights_44 : decode cX6_weights 44 = .ok (.putfield 44, 3) := by decide +kernel
theorem dX6_weights_47 : decode cX6_weights 47 = .ok (.aload_n 0, 1) := by decide +kernel
theorem dX6_weights_48 : decode cX6_weights 48 = .ok (.invokevirtual 125, 3) := by decide +kernel
theorem dX6_weights_51 : decode cX6_weights 51 = .ok (.iconst 1, 1) := by decide +kernel
theorem dX6_weights_52 : decode cX6_weights 52 = .ok (.ireturn, 1) := by decide +kernel
theorem dX6_bound_0 : decode cX6_bound 0 = .ok (.iload_n 1, 1) := by decide +kernel
theorem dX6_bound_1 : decode cX6_bound 1 = .ok (.ifCond .lt 10, 3) := by decide +kernel
theorem dX6_bound_4 : decode cX6_bound 4 = .ok (.iload_n 1, 1) := by decide +kernel
theorem dX6_bound_5 : decode cX6_bound 5 = .ok (.sipush 999, 3) := by decide +kernel
theorem dX6_bound_8 : decode cX6_bound 8 = .ok (.if_icmp .le 5, 3) := by decide +kernel
theorem dX6_bound_11 : decode cX6_bound 11 = .ok (.iconst 0, 1) := by decide +kernel
theorem dX6_bound_12 : decode cX6_bound 12 = .ok (.ireturn, 1) := by decide +kernel
theorem dX6_bound_13 : decode cX6_bound 13 = .ok (.aload_n 0, 1) := by decide +kernel
theorem dX6_bound_14 : decode cX6_bound 14 = .ok (.iload_n 1, 1) := by decide +kernel
theorem dX6_bound_15 : decode cX6_bound 15 = .ok (.putfield 132, 3) := by decide +kernel
theorem dX6_bound_18 : decode cX6_bound 18 = .ok (.aload_n 0, 1) := by decide +kernel
theorem dX6_bound_19 : decode cX6_bound 19 = .ok (.invokevirtual 125, 3) := by decide +kernel
theorem dX6_bound_22 : decode cX6_bound 22 = .ok (.iconst 1, 1) := by decide +kernel
theorem dX6_bound_23 : decode cX6_bound 23 = .ok (.ireturn, 1) := by decide +kernel
theorem dX6_write_0 : decode cX6_write 0 = .ok (.iload_n 1, 1) := by decide +kernel
theorem dX6_write_1 : decode cX6_write 1 = .ok (.invokestatic 71, 3) := by decide +kernel
theorem dX6_write_4 : decode cX6_write 4 = .ok (.ifCond .eq 12, 3) := by decide +kernel
theorem dX6_write_7 : decode cX6_write 7 = .ok (.aload_n 0, 1) := by decide +kernel
theorem dX6_write_8 : decode cX6_write 8 = .ok (.getfield 135, 3) := by decide +kernel
theorem dX6_write_11 : decode cX6_write 11 = .ok (.bipush 24, 2) := by decide +kernel
theorem dX6_write_13 : decode cX6_write 13 = .ok (.if_icmp .ne 5, 3) := by decide +kernel
theorem dX6_write_16 : decode cX6_write 16 = .ok (.iconst 0, 1) := by decide +kernel
theorem dX6_write_17 : decode cX6_write 17 = .ok (.ireturn, 1) := by decide +kernel
theorem dX6_write_18 : decode cX6_write 18 = .ok (.aload_n 0, 1) := by decide +kernel
theorem dX6_write_19 : decode cX6_write 19 = .ok (.getfield 47, 3) := by decide +kernel
theorem dX6_write_22 : decode cX6_write 22 = .ok (.aload_n 0, 1) := by decide +kernel
theorem dX6_write_23 : decode cX6_write 23 = .ok (.getfield 135, 3) := by decide +kernel
theorem dX6_write_26 : decode cX6_write 26 = .ok (.iload_n 1, 1) := by decide +kernel
theorem dX6_write_27 : decode cX6_write 27 = .ok (.iastore, 1) := by decide +kernel
theorem dX6_write_28 : decode cX6_write 28 = .ok (.aload_n 0, 1) := by decide +kernel
theorem dX6_write_29 : decode cX6_write 29 = .ok (.dup, 1) := by decide +kernel
theorem dX6_write_30 : decode cX6_write 30 = .ok (.getfield 135, 3) := by decide +kernel
theorem dX6_write_33 : decode cX6_write 33 = .ok (.iconst 1, 1) := by decide +kernel
theorem dX6_write_34 : decode cX6_write 34 = .ok (.iadd, 1) := by decide +kernel
theorem dX6_write_35 : decode cX6_write 35 = .ok (.putfield 135, 3) := by decide +kernel
theorem dX6_write_38 : decode cX6_write 38 = .ok (.aload_n 0, 1) := by decide +kernel
theorem dX6_write_39 : decode cX6_write 39 = .ok (.invokevirtual 125, 3) := by decide +kernel
theorem dX6_write_42 : decode cX6_write 42 = .ok (.iconst 1, 1) := by decide +kernel
theorem dX6_write_43 : decode cX6_write 43 = .ok (.ireturn, 1) := by decide +kernel
theorem dX6_erase_0 : decode cX6_erase 0 = .ok (.aload_n 0, 1) := by decide +kernel
theorem dX6_erase_1 : decode cX6_erase 1 = .ok (.iconst 0, 1) := by decide +kernel
theorem dX6_erase_2 : decode cX6_erase 2 = .ok (.putfield 135, 3) := by decide +kernel
theorem dX6_erase_5 : decode cX6_erase 5 = .ok (.aload_n 0, 1) := by decide +kernel
theorem dX6_erase_6 : decode cX6_erase 6 = .ok (.invokevirtual 125, 3) := by decide +kernel
theorem dX6_erase_9 : decode cX6_erase 9 = .ok (.return_, 1) := by decide +kernel
theorem dX6_costOf_0 : decode cX6_costOf 0 = .ok (.aload_n 0, 1) := by decide +kernel
theorem dX6_costOf_1 : decode cX6_costOf 1 = .ok (.getfield 50, 3) := by decide +kernel
theorem dX6_costOf_4 : decode cX6_costOf 4 = .ok (.sipush 625, 3) := by decide +kernel
theorem dX6_costOf_7 : decode cX6_costOf 7 = .ok (.iload_n 1, 1) := by decide +kernel
theorem dX6_costOf_8 : decode cX6_costOf 8 = .ok (.imul, 1) := by decide +kernel
theorem dX6_costOf_9 : decode cX6_costOf 9 = .ok (.bipush 25, 2) := by decide +kernel
theorem dX6_costOf_11 : decode cX6_costOf 11 = .ok (.iload_n 2, 1) := by decide +kernel
theorem dX6_costOf_12 : decode cX6_costOf 12 = .ok (.imul, 1) := by decide +kernel
theorem dX6_costOf_13 : decode cX6_costOf 13 = .ok (.iadd, 1) := by decide +kernel
theorem dX6_costOf_14 : decode cX6_costOf 14 = .ok (.iload_n 3, 1) := by decide +kernel
theorem dX6_costOf_15 : decode cX6_costOf 15 = .ok (.iadd, 1) := by decide +kernel
theorem dX6_costOf_16 : decode cX6_costOf 16 = .ok (.iaload, 1) := by decide +kernel
theorem dX6_costOf_17 : decode cX6_costOf 17 = .ok (.ireturn, 1) := by decide +kernel
theorem dX6_sum_0 : decode cX6_sum 0 = .ok (.iload_n 0, 1) := by decide +kernel
theorem dX6_sum_1 : decode cX6_sum 1 = .ok (.ldc 138, 2) := by decide +kernel
theorem dX6_sum_3 : decode cX6_sum 3 = .ok (.if_icmp .ge 9, 3) := by decide +kernel
theorem dX6_sum_6 : decode cX6_sum 6 = .ok (.iload_n 1, 1) := by decide +kernel
theorem dX6_sum_7 : decode cX6_sum 7 = .ok (.ldc 138, 2) := by decide +kernel
theorem dX6_sum_9 : decode cX6_sum 9 = .ok (.if_icmp .lt 8, 3) := by decide +kernel
theorem dX6_sum_12 : decode cX6_sum 12 = .ok (.ldc 138, 2) := by decide +kernel
theorem dX6_sum_14 : decode cX6_sum 14 = .ok (.goto 6, 3) := by decide +kernel
theorem dX6_sum_17 : decode cX6_sum 17 = .ok (.iload_n 0, 1) := by decide +kernel
theorem dX6_sum_18 : decode cX6_sum 18 = .ok (.iload_n 1, 1) := by decide +kernel
theorem dX6_sum_19 : decode cX6_sum 19 = .ok (.iadd, 1) := by decide +kernel
theorem dX6_sum_20 : decode cX6_sum 20 = .ok (.ireturn, 1) := by decide +kernel
theorem dX6_ofSet_0 : decode cX6_ofSet 0 = .ok (.iload_n 3, 1) := by decide +kernel
theorem dX6_ofSet_1 : decode cX6_ofSet 1 = .ok (.iload_n 2, 1) := by decide +kernel
theorem dX6_ofSet_2 : decode cX6_ofSet 2 = .ok (.isub, 1) := by decide +kernel
theorem dX6_ofSet_3 : decode cX6_ofSet 3 = .ok (.istore 4, 2) := by decide +kernel
theorem dX6_ofSet_5 : decode cX6_ofSet 5 = .ok (.aload_n 0, 1) := by decide +kernel
theorem dX6_ofSet_6 : decode cX6_ofSet 6 = .ok (.getfield 41, 3) := by decide +kernel
theorem dX6_ofSet_9 : decode cX6_ofSet 9 = .ok (.iload 4, 2) := by decide +kernel
theorem dX6_ofSet_11 : decode cX6_ofSet 11 = .ok (.aload_n 0, 1) := by decide +kernel
theorem dX6_ofSet_12 : decode cX6_ofSet 12 = .ok (.getfield 37, 3) := by decide +kernel
theorem dX6_ofSet_15 : decode cX6_ofSet 15 = .ok (.imul, 1) := by decide +kernel
theorem dX6_ofSet_16 : decode cX6_ofSet 16 = .ok (.iadd, 1) := by decide +kernel
theorem dX6_ofSet_17 : decode cX6_ofSet 17 = .ok (.istore 5, 2) := by decide +kernel
theorem dX6_ofSet_19 : decode cX6_ofSet 19 = .ok (.iload 4, 2) := by decide +kernel
theorem dX6_ofSet_21 : decode cX6_ofSet 21 = .ok (.ifCond .ne 6, 3) := by decide +kernel
theorem dX6_ofSet_24 : decode cX6_ofSet 24 = .ok (.iload 5, 2) := by decide +kernel
theorem dX6_ofSet_26 : decode cX6_ofSet 26 = .ok (.ireturn, 1) := by decide +kernel
theorem dX6_ofSet_27 : decode cX6_ofSet 27 = .ok (.iconst 0, 1) := by decide +kernel
theorem dX6_ofSet_28 : decode cX6_ofSet 28 = .ok (.istore 6, 2) := by decide +kernel
theorem dX6_ofSet_30 : decode cX6_ofSet 30 = .ok (.iload_n 2, 1) := by decide +kernel
theorem dX6_ofSet_31 : decode cX6_ofSet 31 = .ok (.istore 7, 2) := by decide +kernel
theorem dX6_ofSet_33 : decode cX6_ofSet 33 = .ok (.iload 7, 2) := by decide +kernel
theorem dX6_ofSet_35 : decode cX6_ofSet 35 = .ok (.iload_n 3, 1) := by decide +kernel
theorem dX6_ofSet_36 : decode cX6_ofSet 36 = .ok (.if_icmp .ge 39, 3) := by decide +kernel
theorem dX6_ofSet_39 : decode cX6_ofSet 39 = .ok (.iload 6, 2) := by decide +kernel
theorem dX6_ofSet_41 : decode cX6_ofSet 41 = .ok (.ifCond .ne 21, 3) := by decide +kernel
theorem dX6_ofSet_44 : decode cX6_ofSet 44 = .ok (.iload_n 1, 1) := by decide +kernel
theorem dX6_ofSet_45 : decode cX6_ofSet 45 = .ok (.aload_n 0, 1) := by decide +kernel
theorem dX6_ofSet_46 : decode cX6_ofSet 46 = .ok (.getfield 47, 3) := by decide +kernel
theorem dX6_ofSet_49 : decode cX6_ofSet 49 = .ok (.iload 7, 2) := by decide +kernel
theorem dX6_ofSet_51 : decode cX6_ofSet 51 = .ok (.iaload, 1) := by decide +kernel
theorem dX6_ofSet_52 : decode cX6_ofSet 52 = .ok (.bipush 97, 2) := by decide +kernel
theorem dX6_ofSet_54 : decode cX6_ofSet 54 = .ok (.isub, 1) := by decide +kernel
theorem dX6_ofSet_55 : decode cX6_ofSet 55 = .ok (.ishr, 1) := by decide +kernel
theorem dX6_ofSet_56 : decode cX6_ofSet 56 = .ok (.iconst 1, 1) := by decide +kernel
theorem dX6_ofSet_57 : decode cX6_ofSet 57 = .ok (.iand, 1) := by decide +kernel
theorem dX6_ofSet_58 : decode cX6_ofSet 58 = .ok (.iconst 1, 1) := by decide +kernel
theorem dX6_ofSet_59 : decode cX6_ofSet 59 = .ok (.if_icmp .ne 7, 3) := by decide +kernel
theorem dX6_ofSet_62 : decode cX6_ofSet 62 = .ok (.iconst 1, 1) := by decide +kernel
theorem dX6_ofSet_63 : decode cX6_ofSet 63 = .ok (.goto 4, 3) := by decide +kernel
theorem dX6_ofSet_66 : decode cX6_ofSet 66 = .ok (.iconst 0, 1) := by decide +kernel
theorem dX6_ofSet_67 : decode cX6_ofSet 67 = .ok (.istore 6, 2) := by decide +kernel
theorem dX6_ofSet_69 : decode cX6_ofSet 69 = .ok (.iinc 7 1, 3) := by decide +kernel
theorem dX6_ofSet_72 : decode cX6_ofSet 72 = .ok (.goto (-39), 3) := by decide +kernel
theorem dX6_ofSet_75 : decode cX6_ofSet 75 = .ok (.iload 4, 2) := by decide +kernel
theorem dX6_ofSet_77 : decode cX6_ofSet 77 = .ok (.iconst 1, 1) := by decide +kernel
theorem dX6_ofSet_78 : decode cX6_ofSet 78 = .ok (.isub, 1) := by decide +kernel
theorem dX6_ofSet_79 : decode cX6_ofSet 79 = .ok (.aload_n 0, 1) := by decide +kernel
theorem dX6_ofSet_80 : decode cX6_ofSet 80 = .ok (.getfield 37, 3) := by decide +kernel
theorem dX6_ofSet_83 : decode cX6_ofSet 83 = .ok (.imul, 1) := by decide +kernel
theorem dX6_ofSet_84 : decode cX6_ofSet 84 = .ok (.iload 6, 2) := by decide +kernel
theorem dX6_ofSet_86 : decode cX6_ofSet 86 = .ok (.ifCond .eq 7, 3) := by decide +kernel
theorem dX6_ofSet_89 : decode cX6_ofSet 89 = .ok (.iconst 0, 1) := by decide +kernel
theorem dX6_ofSet_90 : decode cX6_ofSet 90 = .ok (.goto 7, 3) := by decide +kernel
theorem dX6_ofSet_93 : decode cX6_ofSet 93 = .ok (.aload_n 0, 1) := by decide +kernel
theorem dX6_ofSet_94 : decode cX6_ofSet 94 = .ok (.getfield 44, 3) := by decide +kernel
theorem dX6_ofSet_97 : decode cX6_ofSet 97 = .ok (.iadd, 1) := by decide +kernel
theorem dX6_ofSet_98 : decode cX6_ofSet 98 = .ok (.istore 7, 2) := by decide +kernel
theorem dX6_ofSet_100 : decode cX6_ofSet 100 = .ok (.iload 5, 2) := by decide +kernel
theorem dX6_ofSet_102 : decode cX6_ofSet 102 = .ok (.iload 7, 2) := by decide +kernel
theorem dX6_ofSet_104 : decode cX6_ofSet 104 = .ok (.if_icmp .ge 8, 3) := by decide +kernel
theorem dX6_ofSet_107 : decode cX6_ofSet 107 = .ok (.iload 5, 2) := by decide +kernel
theorem dX6_ofSet_109 : decode cX6_ofSet 109 = .ok (.goto 5, 3) := by decide +kernel
theorem dX6_ofSet_112 : decode cX6_ofSet 112 = .ok (.iload 7, 2) := by decide +kernel
theorem dX6_ofSet_114 : decode cX6_ofSet 114 = .ok (.ireturn, 1) := by decide +kernel
theorem dX6_ofRow_0 : decode cX6_ofRow 0 = .ok (.ldc 138, 2) := by decide +kernel
theorem dX6_ofRow_2 : decode cX6_ofRow 2 = .ok (.istore 5, 2) := by decide +kernel
theorem dX6_ofRow_4 : decode cX6_ofRow 4 = .ok (.iload_n 3, 1) := by decide +kernel
theorem dX6_ofRow_5 : decode cX6_ofRow 5 = .ok (.istore 6, 2) := by decide +kernel
theorem dX6_ofRow_7 : decode cX6_ofRow 7 = .ok (.iload 6, 2) := by decide +kernel
theorem dX6_ofRow_9 : decode cX6_ofRow 9 = .ok (.iload 4, 2) := by decide +kernel
theorem dX6_ofRow_11 : decode cX6_ofRow 11 = .ok (.if_icmp .gt 47, 3) := by decide +kernel
theorem dX6_ofRow_14 : decode cX6_ofRow 14 = .ok (.aload_n 0, 1) := by decide +kernel
theorem dX6_ofRow_15 : decode cX6_ofRow 15 = .ok (.iload_n 1, 1) := by decide +kernel
theorem dX6_ofRow_16 : decode cX6_ofRow 16 = .ok (.iload_n 3, 1) := by decide +kernel
theorem dX6_ofRow_17 : decode cX6_ofRow 17 = .ok (.iload 6, 2) := by decide +kernel
theorem dX6_ofRow_19 : decode cX6_ofRow 19 = .ok (.invokevirtual 139, 3) := by decide +kernel
theorem dX6_ofRow_22 : decode cX6_ofRow 22 = .ok (.aload_n 0, 1) := by decide +kernel
theorem dX6_ofRow_23 : decode cX6_ofRow 23 = .ok (.iload_n 2, 1) := by decide +kernel
theorem dX6_ofRow_24 : decode cX6_ofRow 24 = .ok (.iload 6, 2) := by decide +kernel
theorem dX6_ofRow_26 : decode cX6_ofRow 26 = .ok (.iload 4, 2) := by decide +kernel
theorem dX6_ofRow_28 : decode cX6_ofRow 28 = .ok (.invokevirtual 139, 3) := by decide +kernel
theorem dX6_ofRow_31 : decode cX6_ofRow 31 = .ok (.invokestatic 142, 3) := by decide +kernel
theorem dX6_ofRow_34 : decode cX6_ofRow 34 = .ok (.istore 7, 2) := by decide +kernel
theorem dX6_ofRow_36 : decode cX6_ofRow 36 = .ok (.iload 7, 2) := by decide +kernel
theorem dX6_ofRow_38 : decode cX6_ofRow 38 = .ok (.iload 5, 2) := by decide +kernel
theorem dX6_ofRow_40 : decode cX6_ofRow 40 = .ok (.if_icmp .ge 8, 3) := by decide +kernel
theorem dX6_ofRow_43 : decode cX6_ofRow 43 = .ok (.iload 7, 2) := by decide +kernel
theorem dX6_ofRow_45 : decode cX6_ofRow 45 = .ok (.goto 5, 3) := by decide +kernel
theorem dX6_ofRow_48 : decode cX6_ofRow 48 = .ok (.iload 5, 2) := by decide +kernel
theorem dX6_ofRow_50 : decode cX6_ofRow 50 = .ok (.istore 5, 2) := by decide +kernel
theorem dX6_ofRow_52 : decode cX6_ofRow 52 = .ok (.iinc 6 1, 3) := by decide +kernel
theorem dX6_ofRow_55 : decode cX6_ofRow 55 = .ok (.goto (-48), 3) := by decide +kernel
theorem dX6_ofRow_58 : decode cX6_ofRow 58 = .ok (.iload 5, 2) := by decide +kernel
theorem dX6_ofRow_60 : decode cX6_ofRow 60 = .ok (.ireturn, 1) := by decide +kernel
theorem dX6_ofPlus_0 : decode cX6_ofPlus 0 = .ok (.aload_n 0, 1) := by decide +kernel
theorem dX6_ofPlus_1 : decode cX6_ofPlus 1 = .ok (.iload_n 2, 1) := by decide +kernel
theorem dX6_ofPlus_2 : decode cX6_ofPlus 2 = .ok (.iload_n 3, 1) := by decide +kernel
theorem dX6_ofPlus_3 : decode cX6_ofPlus 3 = .ok (.iload 4, 2) := by decide +kernel
theorem dX6_ofPlus_5 : decode cX6_ofPlus 5 = .ok (.invokevirtual 139, 3) := by decide +kernel
theorem dX6_ofPlus_8 : decode cX6_ofPlus 8 = .ok (.istore 5, 2) := by decide +kernel
theorem dX6_ofPlus_10 : decode cX6_ofPlus 10 = .ok (.iload_n 3, 1) := by decide +kernel
theorem dX6_ofPlus_11 : decode cX6_ofPlus 11 = .ok (.iconst 1, 1) := by decide +kernel
theorem dX6_ofPlus_12 : decode cX6_ofPlus 12 = .ok (.iadd, 1) := by decide +kernel
theorem dX6_ofPlus_13 : decode cX6_ofPlus 13 = .ok (.istore 6, 2) := by decide +kernel
theorem dX6_ofPlus_15 : decode cX6_ofPlus 15 = .ok (.iload 6, 2) := by decide +kernel
theorem dX6_ofPlus_17 : decode cX6_ofPlus 17 = .ok (.iload 4, 2) := by decide +kernel
theorem dX6_ofPlus_19 : decode cX6_ofPlus 19 = .ok (.if_icmp .ge 47, 3) := by decide +kernel
theorem dX6_ofPlus_22 : decode cX6_ofPlus 22 = .ok (.aload_n 0, 1) := by decide +kernel
theorem dX6_ofPlus_23 : decode cX6_ofPlus 23 = .ok (.iload_n 1, 1) := by decide +kernel
theorem dX6_ofPlus_24 : decode cX6_ofPlus 24 = .ok (.iload_n 3, 1) := by decide +kernel
theorem dX6_ofPlus_25 : decode cX6_ofPlus 25 = .ok (.iload 6, 2) := by decide +kernel
theorem dX6_ofPlus_27 : decode cX6_ofPlus 27 = .ok (.invokevirtual 139, 3) := by decide +kernel
theorem dX6_ofPlus_30 : decode cX6_ofPlus 30 = .ok (.aload_n 0, 1) := by decide +kernel
theorem dX6_ofPlus_31 : decode cX6_ofPlus 31 = .ok (.iload_n 2, 1) := by decide +kernel
theorem dX6_ofPlus_32 : decode cX6_ofPlus 32 = .ok (.iload 6, 2) := by decide +kernel
theorem dX6_ofPlus_34 : decode cX6_ofPlus 34 = .ok (.iload 4, 2) := by decide +kernel
theorem dX6_ofPlus_36 : decode cX6_ofPlus 36 = .ok (.invokevirtual 139, 3) := by decide +kernel
theorem dX6_ofPlus_39 : decode cX6_ofPlus 39 = .ok (.invokestatic 142, 3) := by decide +kernel
theorem dX6_ofPlus_42 : decode cX6_ofPlus 42 = .ok (.istore 7, 2) := by decide +kernel
theorem dX6_ofPlus_44 : decode cX6_ofPlus 44 = .ok (.iload 7, 2) := by decide +kernel
theorem dX6_ofPlus_46 : decode cX6_ofPlus 46 = .ok (.iload 5, 2) := by decide +kernel
theorem dX6_ofPlus_48 : decode cX6_ofPlus 48 = .ok (.if_icmp .ge 8, 3) := by decide +kernel
theorem dX6_ofPlus_51 : decode cX6_ofPlus 51 = .ok (.iload 7, 2) := by decide +kernel
theorem dX6_ofPlus_53 : decode cX6_ofPlus 53 = .ok (.goto 5, 3) := by decide +kernel
theorem dX6_ofPlus_56 : decode cX6_ofPlus 56 = .ok (.iload 5, 2) := by decide +kernel
theorem dX6_ofPlus_58 : decode cX6_ofPlus 58 = .ok (.istore 5, 2) := by decide +kernel
theorem dX6_ofPlus_60 : decode cX6_ofPlus 60 = .ok (.iinc 6 1, 3) := by decide +kernel
theorem dX6_ofPlus_63 : decode cX6_ofPlus 63 = .ok (.goto (-48), 3) := by decide +kernel
theorem dX6_ofPlus_66 : decode cX6_ofPlus 66 = .ok (.iload 5, 2) := by decide +kernel
theorem dX6_ofPlus_68 : decode cX6_ofPlus 68 = .ok (.ireturn, 1) := by decide +kernel
theorem dX6_ofNode_0 : decode cX6_ofNode 0 = .ok (.aload_n 0, 1) := by decide +kernel
theorem dX6_ofNode_1 : decode cX6_ofNode 1 = .ok (.getfield 16, 3) := by decide +kernel
theorem dX6_ofNode_4 : decode cX6_ofNode 4 = .ok (.iload_n 1, 1) := by decide +kernel
theorem dX6_ofNode_5 : decode cX6_ofNode 5 = .ok (.iaload, 1) := by decide +kernel
theorem dX6_ofNode_6 : decode cX6_ofNode 6 = .ok (.istore 4, 2) := by decide +kernel
theorem dX6_ofNode_8 : decode cX6_ofNode 8 = .ok (.aload_n 0, 1) := by decide +kernel
theorem dX6_ofNode_9 : decode cX6_ofNode 9 = .ok (.getfield 19, 3) := by decide +kernel
theorem dX6_ofNode_12 : decode cX6_ofNode 12 = .ok (.iload_n 1, 1) := by decide +kernel
theorem dX6_ofNode_13 : decode cX6_ofNode 13 = .ok (.iaload, 1) := by decide +kernel
theorem dX6_ofNode_14 : decode cX6_ofNode 14 = .ok (.istore 5, 2) := by decide +kernel
theorem dX6_ofNode_16 : decode cX6_ofNode 16 = .ok (.aload_n 0, 1) := by decide +kernel
theorem dX6_ofNode_17 : decode cX6_ofNode 17 = .ok (.getfield 13, 3) := by decide +kernel
theorem dX6_ofNode_20 : decode cX6_ofNode 20 = .ok (.iload_n 1, 1) := by decide +kernel
theorem dX6_ofNode_21 : decode cX6_ofNode 21 = .ok (.iaload, 1) := by decide +kernel
theorem dX6_ofNode_22 : decode cX6_ofNode 22 = .ok (.tableswitch 167 0 6 #[42, 51, 62, 167, 167, 101, 140], 42) := by decide +kernel
theorem dX6_ofNode_64 : decode cX6_ofNode 64 = .ok (.aload_n 0, 1) := by decide +kernel
theorem dX6_ofNode_65 : decode cX6_ofNode 65 = .ok (.iload 4, 2) := by decide +kernel
theorem dX6_ofNode_67 : decode cX6_ofNode 67 = .ok (.iload_n 2, 1) := by decide +kernel
theorem dX6_ofNode_68 : decode cX6_ofNode 68 = .ok (.iload_n 3, 1) := by decide +kernel
theorem dX6_ofNode_69 : decode cX6_ofNode 69 = .ok (.invokevirtual 146, 3) := by decide +kernel
theorem dX6_ofNode_72 : decode cX6_ofNode 72 = .ok (.ireturn, 1) := by decide +kernel
theorem dX6_ofNode_73 : decode cX6_ofNode 73 = .ok (.aload_n 0, 1) := by decide +kernel
theorem dX6_ofNode_74 : decode cX6_ofNode 74 = .ok (.iload 4, 2) := by decide +kernel
theorem dX6_ofNode_76 : decode cX6_ofNode 76 = .ok (.iload 5, 2) := by decide +kernel
theorem dX6_ofNode_78 : decode cX6_ofNode 78 = .ok (.iload_n 2, 1) := by decide +kernel
theorem dX6_ofNode_79 : decode cX6_ofNode 79 = .ok (.iload_n 3, 1) := by decide +kernel
theorem dX6_ofNode_80 : decode cX6_ofNode 80 = .ok (.invokevirtual 149, 3) := by decide +kernel
theorem dX6_ofNode_83 : decode cX6_ofNode 83 = .ok (.ireturn, 1) := by decide +kernel
theorem dX6_ofNode_84 : decode cX6_ofNode 84 = .ok (.aload_n 0, 1) := by decide +kernel
theorem dX6_ofNode_85 : decode cX6_ofNode 85 = .ok (.iload 4, 2) := by decide +kernel
theorem dX6_ofNode_87 : decode cX6_ofNode 87 = .ok (.iload_n 2, 1) := by decide +kernel
theorem dX6_ofNode_88 : decode cX6_ofNode 88 = .ok (.iload_n 3, 1) := by decide +kernel
theorem dX6_ofNode_89 : decode cX6_ofNode 89 = .ok (.invokevirtual 139, 3) := by decide +kernel
theorem dX6_ofNode_92 : decode cX6_ofNode 92 = .ok (.aload_n 0, 1) := by decide +kernel
theorem dX6_ofNode_93 : decode cX6_ofNode 93 = .ok (.iload 5, 2) := by decide +kernel
theorem dX6_ofNode_95 : decode cX6_ofNode 95 = .ok (.iload_n 2, 1) := by decide +kernel
theorem dX6_ofNode_96 : decode cX6_ofNode 96 = .ok (.iload_n 3, 1) := by decide +kernel
theorem dX6_ofNode_97 : decode cX6_ofNode 97 = .ok (.invokevirtual 139, 3) := by decide +kernel
theorem dX6_ofNode_100 : decode cX6_ofNode 100 = .ok (.if_icmp .ge 14, 3) := by decide +kernel
theorem dX6_ofNode_103 : decode cX6_ofNode 103 = .ok (.aload_n 0, 1) := by decide +kernel
theorem dX6_ofNode_104 : decode cX6_ofNode 104 = .ok (.iload 4, 2) := by decide +kernel
theorem dX6_ofNode_106 : decode cX6_ofNode 106 = .ok (.iload_n 2, 1) := by decide +kernel
theorem dX6_ofNode_107 : decode cX6_ofNode 107 = .ok (.iload_n 3, 1) := by decide +kernel
theorem dX6_ofNode_108 : decode cX6_ofNode 108 = .ok (.invokevirtual 139, 3) := by decide +kernel
theorem dX6_ofNode_111 : decode cX6_ofNode 111 = .ok (.goto 11, 3) := by decide +kernel
theorem dX6_ofNode_114 : decode cX6_ofNode 114 = .ok (.aload_n 0, 1) := by decide +kernel
theorem dX6_ofNode_115 : decode cX6_ofNode 115 = .ok (.iload 5, 2) := by decide +kernel
theorem dX6_ofNode_117 : decode cX6_ofNode 117 = .ok (.iload_n 2, 1) := by decide +kernel
theorem dX6_ofNode_118 : decode cX6_ofNode 118 = .ok (.iload_n 3, 1) := by decide +kernel
theorem dX6_ofNode_119 : decode cX6_ofNode 119 = .ok (.invokevirtual 139, 3) := by decide +kernel
theorem dX6_ofNode_122 : decode cX6_ofNode 122 = .ok (.ireturn, 1) := by decide +kernel
theorem dX6_ofNode_123 : decode cX6_ofNode 123 = .ok (.aload_n 0, 1) := by decide +kernel
theorem dX6_ofNode_124 : decode cX6_ofNode 124 = .ok (.iload 4, 2) := by decide +kernel
theorem dX6_ofNode_126 : decode cX6_ofNode 126 = .ok (.iload_n 2, 1) := by decide +kernel
theorem dX6_ofNode_127 : decode cX6_ofNode 127 = .ok (.iload_n 3, 1) := by decide +kernel
theorem dX6_ofNode_128 : decode cX6_ofNode 128 = .ok (.invokevirtual 139, 3) := by decide +kernel
theorem dX6_ofNode_131 : decode cX6_ofNode 131 = .ok (.iload_n 3, 1) := by decide +kernel
theorem dX6_ofNode_132 : decode cX6_ofNode 132 = .ok (.iload_n 2, 1) := by decide +kernel
theorem dX6_ofNode_133 : decode cX6_ofNode 133 = .ok (.isub, 1) := by decide +kernel
theorem dX6_ofNode_134 : decode cX6_ofNode 134 = .ok (.aload_n 0, 1) := by decide +kernel
theorem dX6_ofNode_135 : decode cX6_ofNode 135 = .ok (.getfield 37, 3) := by decide +kernel
theorem dX6_ofNode_138 : decode cX6_ofNode 138 = .ok (.imul, 1) := by decide +kernel
theorem dX6_ofNode_139 : decode cX6_ofNode 139 = .ok (.if_icmp .ge 14, 3) := by decide +kernel
theorem dX6_ofNode_142 : decode cX6_ofNode 142 = .ok (.aload_n 0, 1) := by decide +kernel
theorem dX6_ofNode_143 : decode cX6_ofNode 143 = .ok (.iload 4, 2) := by decide +kernel
theorem dX6_ofNode_145 : decode cX6_ofNode 145 = .ok (.iload_n 2, 1) := by decide +kernel
theorem dX6_ofNode_146 : decode cX6_ofNode 146 = .ok (.iload_n 3, 1) := by decide +kernel
theorem dX6_ofNode_147 : decode cX6_ofNode 147 = .ok (.invokevirtual 139, 3) := by decide +kernel
theorem dX6_ofNode_150 : decode cX6_ofNode 150 = .ok (.goto 11, 3) := by decide +kernel
theorem dX6_ofNode_153 : decode cX6_ofNode 153 = .ok (.iload_n 3, 1) := by decide +kernel
theorem dX6_ofNode_154 : decode cX6_ofNode 154 = .ok (.iload_n 2, 1) := by decide +kernel
theorem dX6_ofNode_155 : decode cX6_ofNode 155 = .ok (.isub, 1) := by decide +kernel
theorem dX6_ofNode_156 : decode cX6_ofNode 156 = .ok (.aload_n 0, 1) := by decide +kernel
theorem dX6_ofNode_157 : decode cX6_ofNode 157 = .ok (.getfield 37, 3) := by decide +kernel
theorem dX6_ofNode_160 : decode cX6_ofNode 160 = .ok (.imul, 1) := by decide +kernel
theorem dX6_ofNode_161 : decode cX6_ofNode 161 = .ok (.ireturn, 1) := by decide +kernel
theorem dX6_ofNode_162 : decode cX6_ofNode 162 = .ok (.aload_n 0, 1) := by decide +kernel
theorem dX6_ofNode_163 : decode cX6_ofNode 163 = .ok (.iload 4, 2) := by decide +kernel
theorem dX6_ofNode_165 : decode cX6_ofNode 165 = .ok (.iload_n 2, 1) := by decide +kernel
theorem dX6_ofNode_166 : decode cX6_ofNode 166 = .ok (.iload_n 3, 1) := by decide +kernel
theorem dX6_ofNode_167 : decode cX6_ofNode 167 = .ok (.invokevirtual 139, 3) := by decide +kernel
theorem dX6_ofNode_170 : decode cX6_ofNode 170 = .ok (.iload 5, 2) := by decide +kernel
theorem dX6_ofNode_172 : decode cX6_ofNode 172 = .ok (.if_icmp .gt 14, 3) := by decide +kernel
theorem dX6_ofNode_175 : decode cX6_ofNode 175 = .ok (.aload_n 0, 1) := by decide +kernel
theorem dX6_ofNode_176 : decode cX6_ofNode 176 = .ok (.iload 4, 2) := by decide +kernel
theorem dX6_ofNode_178 : decode cX6_ofNode 178 = .ok (.iload_n 2, 1) := by decide +kernel
theorem dX6_ofNode_179 : decode cX6_ofNode 179 = .ok (.iload_n 3, 1) := by decide +kernel
theorem dX6_ofNode_180 : decode cX6_ofNode 180 = .ok (.invokevirtual 139, 3) := by decide +kernel
theorem dX6_ofNode_183 : decode cX6_ofNode 183 = .ok (.goto 5, 3) := by decide +kernel
theorem dX6_ofNode_186 : decode cX6_ofNode 186 = .ok (.ldc 138, 2) := by decide +kernel
theorem dX6_ofNode_188 : decode cX6_ofNode 188 = .ok (.ireturn, 1) := by decide +kernel
theorem dX6_ofNode_189 : decode cX6_ofNode 189 = .ok (.aload_n 0, 1) := by decide +kernel
theorem dX6_ofNode_190 : decode cX6_ofNode 190 = .ok (.iload_n 1, 1) := by decide +kernel
theorem dX6_ofNode_191 : decode cX6_ofNode 191 = .ok (.iload 4, 2) := by decide +kernel
theorem dX6_ofNode_193 : decode cX6_ofNode 193 = .ok (.iload_n 2, 1) := by decide +kernel
theorem dX6_ofNode_194 : decode cX6_ofNode 194 = .ok (.iload_n 3, 1) := by decide +kernel
theorem dX6_ofNode_195 : decode cX6_ofNode 195 = .ok (.invokevirtual 153, 3) := by decide +kernel
theorem dX6_ofNode_198 : decode cX6_ofNode 198 = .ok (.ireturn, 1) := by decide +kernel
theorem dX6_work_0 : decode cX6_work 0 = .ok (.aload_n 0, 1) := by decide +kernel
theorem dX6_work_1 : decode cX6_work 1 = .ok (.getfield 128, 3) := by decide +kernel
theorem dX6_work_4 : decode cX6_work 4 = .ok (.ifCond .eq 4, 3) := by decide +kernel
theorem dX6_work_7 : decode cX6_work 7 = .ok (.return_, 1) := by decide +kernel
theorem dX6_work_8 : decode cX6_work 8 = .ok (.aload_n 0, 1) := by decide +kernel
theorem dX6_work_9 : decode cX6_work 9 = .ok (.iconst 1, 1) := by decide +kernel
theorem dX6_work_10 : decode cX6_work 10 = .ok (.putfield 128, 3) := by decide +kernel
theorem dX6_work_13 : decode cX6_work 13 = .ok (.iconst 0, 1) := by decide +kernel
theorem dX6_work_14 : decode cX6_work 14 = .ok (.istore_n 1, 1) := by decide +kernel
theorem dX6_work_15 : decode cX6_work 15 = .ok (.iload_n 1, 1) := by decide +kernel
theorem dX6_work_16 : decode cX6_work 16 = .ok (.aload_n 0, 1) := by decide +kernel
theorem dX6_work_17 : decode cX6_work 17 = .ok (.getfield 122, 3) := by decide +kernel
theorem dX6_work_20 : decode cX6_work 20 = .ok (.if_icmp .ge 158, 3) := by decide +kernel
theorem dX6_work_23 : decode cX6_work 23 = .ok (.iconst 0, 1) := by decide +kernel
theorem dX6_work_24 : decode cX6_work 24 = .ok (.istore_n 2, 1) := by decide +kernel
theorem dX6_work_25 : decode cX6_work 25 = .ok (.iload_n 2, 1) := by decide +kernel
theorem dX6_work_26 : decode cX6_work 26 = .ok (.aload_n 0, 1) := by decide +kernel
theorem dX6_work_27 : decode cX6_work 27 = .ok (.getfield 135, 3) := by decide +kernel
theorem dX6_work_30 : decode cX6_work 30 = .ok (.if_icmp .gt 49, 3) := by decide +kernel
theorem dX6_work_33 : decode cX6_work 33 = .ok (.iload_n 2, 1) := by decide +kernel
theorem dX6_work_34 : decode cX6_work 34 = .ok (.istore_n 3, 1) := by decide +kernel
theorem dX6_work_35 : decode cX6_work 35 = .ok (.iload_n 3, 1) := by decide +kernel
theorem dX6_work_36 : decode cX6_work 36 = .ok (.aload_n 0, 1) := by decide +kernel
theorem dX6_work_37 : decode cX6_work 37 = .ok (.getfield 135, 3) := by decide +kernel
theorem dX6_work_40 : decode cX6_work 40 = .ok (.if_icmp .gt 33, 3) := by decide +kernel
theorem dX6_work_43 : decode cX6_work 43 = .ok (.aload_n 0, 1) := by decide +kernel
theorem dX6_work_44 : decode cX6_work 44 = .ok (.getfield 50, 3) := by decide +kernel
theorem dX6_work_47 : decode cX6_work 47 = .ok (.sipush 625, 3) := by decide +kernel
theorem dX6_work_50 : decode cX6_work 50 = .ok (.iload_n 1, 1) := by decide +kernel
theorem dX6_work_51 : decode cX6_work 51 = .ok (.imul, 1) := by decide +kernel
theorem dX6_work_52 : decode cX6_work 52 = .ok (.bipush 25, 2) := by decide +kernel
theorem dX6_work_54 : decode cX6_work 54 = .ok (.iload_n 2, 1) := by decide +kernel
theorem dX6_work_55 : decode cX6_work 55 = .ok (.imul, 1) := by decide +kernel
theorem dX6_work_56 : decode cX6_work 56 = .ok (.iadd, 1) := by decide +kernel
theorem dX6_work_57 : decode cX6_work 57 = .ok (.iload_n 3, 1) := by decide +kernel
theorem dX6_work_58 : decode cX6_work 58 = .ok (.iadd, 1) := by decide +kernel
theorem dX6_work_59 : decode cX6_work 59 = .ok (.aload_n 0, 1) := by decide +kernel
theorem dX6_work_60 : decode cX6_work 60 = .ok (.iload_n 1, 1) := by decide +kernel
theorem dX6_work_61 : decode cX6_work 61 = .ok (.iload_n 2, 1) := by decide +kernel
theorem dX6_work_62 : decode cX6_work 62 = .ok (.iload_n 3, 1) := by decide +kernel
theorem dX6_work_63 : decode cX6_work 63 = .ok (.invokevirtual 156, 3) := by decide +kernel
theorem dX6_work_66 : decode cX6_work 66 = .ok (.iastore, 1) := by decide +kernel
theorem dX6_work_67 : decode cX6_work 67 = .ok (.iinc 3 1, 3) := by decide +kernel
theorem dX6_work_70 : decode cX6_work 70 = .ok (.goto (-35), 3) := by decide +kernel
theorem dX6_work_73 : decode cX6_work 73 = .ok (.iinc 2 1, 3) := by decide +kernel
theorem dX6_work_76 : decode cX6_work 76 = .ok (.goto (-51), 3) := by decide +kernel
theorem dX6_work_79 : decode cX6_work 79 = .ok (.iconst 0, 1) := by decide +kernel
theorem dX6_work_80 : decode cX6_work 80 = .ok (.istore_n 2, 1) := by decide +kernel
theorem dX6_work_81 : decode cX6_work 81 = .ok (.iload_n 2, 1) := by decide +kernel
theorem dX6_work_82 : decode cX6_work 82 = .ok (.aload_n 0, 1) := by decide +kernel
theorem dX6_work_83 : decode cX6_work 83 = .ok (.getfield 135, 3) := by decide +kernel
theorem dX6_work_86 : decode cX6_work 86 = .ok (.if_icmp .gt 86, 3) := by decide +kernel
theorem dX6_work_89 : decode cX6_work 89 = .ok (.aload_n 0, 1) := by decide +kernel
theorem dX6_work_90 : decode cX6_work 90 = .ok (.getfield 13, 3) := by decide +kernel
theorem dX6_work_93 : decode cX6_work 93 = .ok (.iload_n 1, 1) := by decide +kernel
theorem dX6_work_94 : decode cX6_work 94 = .ok (.iaload, 1) := by decide +kernel
theorem dX6_work_95 : decode cX6_work 95 = .ok (.iconst 3, 1) := by decide +kernel
theorem dX6_work_96 : decode cX6_work 96 = .ok (.if_icmp .ne 76, 3) := by decide +kernel
theorem dX6_work_99 : decode cX6_work 99 = .ok (.iload_n 2, 1) := by decide +kernel
theorem dX6_work_100 : decode cX6_work 100 = .ok (.istore_n 3, 1) := by decide +kernel
theorem dX6_work_101 : decode cX6_work 101 = .ok (.iload_n 3, 1) := by decide +kernel
theorem dX6_work_102 : decode cX6_work 102 = .ok (.aload_n 0, 1) := by decide +kernel
theorem dX6_work_103 : decode cX6_work 103 = .ok (.getfield 135, 3) := by decide +kernel
theorem dX6_work_106 : decode cX6_work 106 = .ok (.if_icmp .gt 60, 3) := by decide +kernel
theorem dX6_work_109 : decode cX6_work 109 = .ok (.iload_n 3, 1) := by decide +kernel
theorem dX6_work_110 : decode cX6_work 110 = .ok (.iload_n 2, 1) := by decide +kernel
theorem dX6_work_111 : decode cX6_work 111 = .ok (.isub, 1) := by decide +kernel
theorem dX6_work_112 : decode cX6_work 112 = .ok (.aload_n 0, 1) := by decide +kernel
theorem dX6_work_113 : decode cX6_work 113 = .ok (.getfield 37, 3) := by decide +kernel
theorem dX6_work_116 : decode cX6_work 116 = .ok (.imul, 1) := by decide +kernel
theorem dX6_work_117 : decode cX6_work 117 = .ok (.istore 4, 2) := by decide +kernel
theorem dX6_work_119 : decode cX6_work 119 = .ok (.aload_n 0, 1) := by decide +kernel
theorem dX6_work_120 : decode cX6_work 120 = .ok (.getfield 50, 3) := by decide +kernel
theorem dX6_work_123 : decode cX6_work 123 = .ok (.sipush 625, 3) := by decide +kernel
theorem dX6_work_126 : decode cX6_work 126 = .ok (.iload_n 1, 1) := by decide +kernel
theorem dX6_work_127 : decode cX6_work 127 = .ok (.imul, 1) := by decide +kernel
theorem dX6_work_128 : decode cX6_work 128 = .ok (.bipush 25, 2) := by decide +kernel
theorem dX6_work_130 : decode cX6_work 130 = .ok (.iload_n 2, 1) := by decide +kernel
theorem dX6_work_131 : decode cX6_work 131 = .ok (.imul, 1) := by decide +kernel
theorem dX6_work_132 : decode cX6_work 132 = .ok (.iadd, 1) := by decide +kernel
theorem dX6_work_133 : decode cX6_work 133 = .ok (.iload_n 3, 1) := by decide +kernel
theorem dX6_work_134 : decode cX6_work 134 = .ok (.iadd, 1) := by decide +kernel
theorem dX6_work_135 : decode cX6_work 135 = .ok (.aload_n 0, 1) := by decide +kernel
theorem dX6_work_136 : decode cX6_work 136 = .ok (.iload_n 1, 1) := by decide +kernel
theorem dX6_work_137 : decode cX6_work 137 = .ok (.iload_n 2, 1) := by decide +kernel
theorem dX6_work_138 : decode cX6_work 138 = .ok (.iload_n 3, 1) := by decide +kernel
theorem dX6_work_139 : decode cX6_work 139 = .ok (.invokevirtual 139, 3) := by decide +kernel
theorem dX6_work_142 : decode cX6_work 142 = .ok (.iload 4, 2) := by decide +kernel
theorem dX6_work_144 : decode cX6_work 144 = .ok (.if_icmp .ge 13, 3) := by decide +kernel
theorem dX6_work_147 : decode cX6_work 147 = .ok (.aload_n 0, 1) := by decide +kernel
theorem dX6_work_148 : decode cX6_work 148 = .ok (.iload_n 1, 1) := by decide +kernel
theorem dX6_work_149 : decode cX6_work 149 = .ok (.iload_n 2, 1) := by decide +kernel
theorem dX6_work_150 : decode cX6_work 150 = .ok (.iload_n 3, 1) := by decide +kernel
theorem dX6_work_151 : decode cX6_work 151 = .ok (.invokevirtual 139, 3) := by decide +kernel
theorem dX6_work_154 : decode cX6_work 154 = .ok (.goto 5, 3) := by decide +kernel
theorem dX6_work_157 : decode cX6_work 157 = .ok (.iload 4, 2) := by decide +kernel
theorem dX6_work_159 : decode cX6_work 159 = .ok (.iastore, 1) := by decide +kernel
theorem dX6_work_160 : decode cX6_work 160 = .ok (.iinc 3 1, 3) := by decide +kernel
theorem dX6_work_163 : decode cX6_work 163 = .ok (.goto (-62), 3) := by decide +kernel
theorem dX6_work_166 : decode cX6_work 166 = .ok (.iinc 2 1, 3) := by decide +kernel
theorem dX6_work_169 : decode cX6_work 169 = .ok (.goto (-88), 3) := by decide +kernel
theorem dX6_work_172 : decode cX6_work 172 = .ok (.iinc 1 1, 3) := by decide +kernel
theorem dX6_work_175 : decode cX6_work 175 = .ok (.goto (-160), 3) := by decide +kernel
theorem dX6_work_178 : decode cX6_work 178 = .ok (.return_, 1) := by decide +kernel
theorem dX6_cost_0 : decode cX6_cost 0 = .ok (.aload_n 0, 1) := by decide +kernel
theorem dX6_cost_1 : decode cX6_cost 1 = .ok (.getfield 122, 3) := by decide +kernel
theorem dX6_cost_4 : decode cX6_cost 4 = .ok (.ifCond .eq 20, 3) := by decide +kernel
theorem dX6_cost_7 : decode cX6_cost 7 = .ok (.iload_n 1, 1) := by decide +kernel
theorem dX6_cost_8 : decode cX6_cost 8 = .ok (.ifCond .lt 16, 3) := by decide +kernel
theorem dX6_cost_11 : decode cX6_cost 11 = .ok (.iload_n 2, 1) := by decide +kernel
theorem dX6_cost_12 : decode cX6_cost 12 = .ok (.iload_n 1, 1) := by decide +kernel
theorem dX6_cost_13 : decode cX6_cost 13 = .ok (.if_icmp .lt 11, 3) := by decide +kernel
theorem dX6_cost_16 : decode cX6_cost 16 = .ok (.iload_n 2, 1) := by decide +kernel
theorem dX6_cost_17 : decode cX6_cost 17 = .ok (.aload_n 0, 1) := by decide +kernel
theorem dX6_cost_18 : decode cX6_cost 18 = .ok (.getfield 135, 3) := by decide +kernel
theorem dX6_cost_21 : decode cX6_cost 21 = .ok (.if_icmp .le 5, 3) := by decide +kernel
theorem dX6_cost_24 : decode cX6_cost 24 = .ok (.iconst (-1), 1) := by decide +kernel
theorem dX6_cost_25 : decode cX6_cost 25 = .ok (.ireturn, 1) := by decide +kernel
theorem dX6_cost_26 : decode cX6_cost 26 = .ok (.aload_n 0, 1) := by decide +kernel
theorem dX6_cost_27 : decode cX6_cost 27 = .ok (.invokevirtual 159, 3) := by decide +kernel
theorem dX6_cost_30 : decode cX6_cost 30 = .ok (.aload_n 0, 1) := by decide +kernel
theorem dX6_cost_31 : decode cX6_cost 31 = .ok (.aload_n 0, 1) := by decide +kernel
theorem dX6_cost_32 : decode cX6_cost 32 = .ok (.getfield 122, 3) := by decide +kernel
theorem dX6_cost_35 : decode cX6_cost 35 = .ok (.iconst 1, 1) := by decide +kernel
theorem dX6_cost_36 : decode cX6_cost 36 = .ok (.isub, 1) := by decide +kernel
theorem dX6_cost_37 : decode cX6_cost 37 = .ok (.iload_n 1, 1) := by decide +kernel
theorem dX6_cost_38 : decode cX6_cost 38 = .ok (.iload_n 2, 1) := by decide +kernel
theorem dX6_cost_39 : decode cX6_cost 39 = .ok (.invokevirtual 139, 3) := by decide +kernel
theorem dX6_cost_42 : decode cX6_cost 42 = .ok (.istore_n 3, 1) := by decide +kernel
theorem dX6_cost_43 : decode cX6_cost 43 = .ok (.iload_n 3, 1) := by decide +kernel
theorem dX6_cost_44 : decode cX6_cost 44 = .ok (.ldc 138, 2) := by decide +kernel
theorem dX6_cost_46 : decode cX6_cost 46 = .ok (.if_icmp .lt 7, 3) := by decide +kernel
theorem dX6_cost_49 : decode cX6_cost 49 = .ok (.iconst (-1), 1) := by decide +kernel
theorem dX6_cost_50 : decode cX6_cost 50 = .ok (.goto 4, 3) := by decide +kernel
theorem dX6_cost_53 : decode cX6_cost 53 = .ok (.iload_n 3, 1) := by decide +kernel
theorem dX6_cost_54 : decode cX6_cost 54 = .ok (.ireturn, 1) := by decide +kernel
theorem dX6_matches_0 : decode cX6_matches 0 = .ok (.aload_n 0, 1) := by decide +kernel
theorem dX6_matches_1 : decode cX6_matches 1 = .ok (.iload_n 1, 1) := by decide +kernel
theorem dX6_matches_2 : decode cX6_matches 2 = .ok (.iload_n 2, 1) := by decide +kernel
theorem dX6_matches_3 : decode cX6_matches 3 = .ok (.invokevirtual 162, 3) := by decide +kernel
theorem dX6_matches_6 : decode cX6_matches 6 = .ok (.istore_n 3, 1) := by decide +kernel
theorem dX6_matches_7 : decode cX6_matches 7 = .ok (.iload_n 3, 1) := by decide +kernel
theorem dX6_matches_8 : decode cX6_matches 8 = .ok (.ifCond .lt 15, 3) := by decide +kernel
theorem dX6_matches_11 : decode cX6_matches 11 = .ok (.iload_n 3, 1) := by decide +kernel
theorem dX6_matches_12 : decode cX6_matches 12 = .ok (.aload_n 0, 1) := by decide +kernel
theorem dX6_matches_13 : decode cX6_matches 13 = .ok (.getfield 132, 3) := by decide +kernel
theorem dX6_matches_16 : decode cX6_matches 16 = .ok (.if_icmp .gt 7, 3) := by decide +kernel
theorem dX6_matches_19 : decode cX6_matches 19 = .ok (.iconst 1, 1) := by decide +kernel
theorem dX6_matches_20 : decode cX6_matches 20 = .ok (.goto 4, 3) := by decide +kernel
theorem dX6_matches_23 : decode cX6_matches 23 = .ok (.iconst 0, 1) := by decide +kernel
theorem dX6_matches_24 : decode cX6_matches 24 = .ok (.ireturn, 1) := by decide +kernel
theorem dX6_before_0 : decode cX6_before 0 = .ok (.aload_n 0, 1) := by decide +kernel
theorem dX6_before_1 : decode cX6_before 1 = .ok (.iload_n 2, 1) := by decide +kernel
theorem dX6_before_2 : decode cX6_before 2 = .ok (.iload_n 3, 1) := by decide +kernel
theorem dX6_before_3 : decode cX6_before 3 = .ok (.invokevirtual 162, 3) := by decide +kernel
theorem dX6_before_6 : decode cX6_before 6 = .ok (.istore 6, 2) := by decide +kernel
theorem dX6_before_8 : decode cX6_before 8 = .ok (.aload_n 0, 1) := by decide +kernel
theorem dX6_before_9 : decode cX6_before 9 = .ok (.iload 4, 2) := by decide +kernel
theorem dX6_before_11 : decode cX6_before 11 = .ok (.iload 5, 2) := by decide +kernel
theorem dX6_before_13 : decode cX6_before 13 = .ok (.invokevirtual 162, 3) := by decide +kernel
theorem dX6_before_16 : decode cX6_before 16 = .ok (.istore 7, 2) := by decide +kernel
theorem dX6_before_18 : decode cX6_before 18 = .ok (.iload_n 1, 1) := by decide +kernel
theorem dX6_before_19 : decode cX6_before 19 = .ok (.ifCond .eq 41, 3) := by decide +kernel
theorem dX6_before_22 : decode cX6_before 22 = .ok (.iload 6, 2) := by decide +kernel
theorem dX6_before_24 : decode cX6_before 24 = .ok (.iload 7, 2) := by decide +kernel
theorem dX6_before_26 : decode cX6_before 26 = .ok (.if_icmp .lt 28, 3) := by decide +kernel
theorem dX6_before_29 : decode cX6_before 29 = .ok (.iload 6, 2) := by decide +kernel
theorem dX6_before_31 : decode cX6_before 31 = .ok (.iload 7, 2) := by decide +kernel
theorem dX6_before_33 : decode cX6_before 33 = .ok (.if_icmp .ne 25, 3) := by decide +kernel
theorem dX6_before_36 : decode cX6_before 36 = .ok (.iload_n 2, 1) := by decide +kernel
theorem dX6_before_37 : decode cX6_before 37 = .ok (.iload 4, 2) := by decide +kernel
theorem dX6_before_39 : decode cX6_before 39 = .ok (.if_icmp .lt 15, 3) := by decide +kernel
theorem dX6_before_42 : decode cX6_before 42 = .ok (.iload_n 2, 1) := by decide +kernel
theorem dX6_before_43 : decode cX6_before 43 = .ok (.iload 4, 2) := by decide +kernel
theorem dX6_before_45 : decode cX6_before 45 = .ok (.if_icmp .ne 13, 3) := by decide +kernel
theorem dX6_before_48 : decode cX6_before 48 = .ok (.iload_n 3, 1) := by decide +kernel
theorem dX6_before_49 : decode cX6_before 49 = .ok (.iload 5, 2) := by decide +kernel
theorem dX6_before_51 : decode cX6_before 51 = .ok (.if_icmp .le 7, 3) := by decide +kernel
theorem dX6_before_54 : decode cX6_before 54 = .ok (.iconst 1, 1) := by decide +kernel
theorem dX6_before_55 : decode cX6_before 55 = .ok (.goto 4, 3) := by decide +kernel
theorem dX6_before_58 : decode cX6_before 58 = .ok (.iconst 0, 1) := by decide +kernel
theorem dX6_before_59 : decode cX6_before 59 = .ok (.ireturn, 1) := by decide +kernel
theorem dX6_before_60 : decode cX6_before 60 = .ok (.iload_n 2, 1) := by decide +kernel
theorem dX6_before_61 : decode cX6_before 61 = .ok (.iload 4, 2) := by decide +kernel
theorem dX6_before_63 : decode cX6_before 63 = .ok (.if_icmp .lt 29, 3) := by decide +kernel
theorem dX6_before_66 : decode cX6_before 66 = .ok (.iload_n 2, 1) := by decide +kernel
theorem dX6_before_67 : decode cX6_before 67 = .ok (.iload 4, 2) := by decide +kernel
theorem dX6_before_69 : decode cX6_before 69 = .ok (.if_icmp .ne 27, 3) := by decide +kernel
theorem dX6_before_72 : decode cX6_before 72 = .ok (.iload 6, 2) := by decide +kernel
theorem dX6_before_74 : decode cX6_before 74 = .ok (.iload 7, 2) := by decide +kernel
theorem dX6_before_76 : decode cX6_before 76 = .ok (.if_icmp .lt 16, 3) := by decide +kernel
theorem dX6_before_79 : decode cX6_before 79 = .ok (.iload 6, 2) := by decide +kernel
theorem dX6_before_81 : decode cX6_before 81 = .ok (.iload 7, 2) := by decide +kernel
theorem dX6_before_83 : decode cX6_before 83 = .ok (.if_icmp .ne 13, 3) := by decide +kernel
theorem dX6_before_86 : decode cX6_before 86 = .ok (.iload_n 3, 1) := by decide +kernel
theorem dX6_before_87 : decode cX6_before 87 = .ok (.iload 5, 2) := by decide +kernel
theorem dX6_before_89 : decode cX6_before 89 = .ok (.if_icmp .le 7, 3) := by decide +kernel
theorem dX6_before_92 : decode cX6_before 92 = .ok (.iconst 1, 1) := by decide +kernel
theorem dX6_before_93 : decode cX6_before 93 = .ok (.goto 4, 3) := by decide +kernel
theorem dX6_before_96 : decode cX6_before 96 = .ok (.iconst 0, 1) := by decide +kernel
theorem dX6_before_97 : decode cX6_before 97 = .ok (.ireturn, 1) := by decide +kernel
theorem dX6_find_0 : decode cX6_find 0 = .ok (.aload_n 0, 1) := by decide +kernel
theorem dX6_find_1 : decode cX6_find 1 = .ok (.iconst (-1), 1) := by decide +kernel
theorem dX6_find_2 : decode cX6_find 2 = .ok (.putfield 53, 3) := by decide +kernel
theorem dX6_find_5 : decode cX6_find 5 = .ok (.aload_n 0, 1) := by decide +kernel
theorem dX6_find_6 : decode cX6_find 6 = .ok (.iconst (-1), 1) := by decide +kernel
theorem dX6_find_7 : decode cX6_find 7 = .ok (.putfield 56, 3) := by decide +kernel
theorem dX6_find_10 : decode cX6_find 10 = .ok (.iconst 0, 1) := by decide +kernel
theorem dX6_find_11 : decode cX6_find 11 = .ok (.istore_n 2, 1) := by decide +kernel
theorem dX6_find_12 : decode cX6_find 12 = .ok (.iload_n 2, 1) := by decide +kernel
theorem dX6_find_13 : decode cX6_find 13 = .ok (.aload_n 0, 1) := by decide +kernel
theorem dX6_find_14 : decode cX6_find 14 = .ok (.getfield 135, 3) := by decide +kernel
theorem dX6_find_17 : decode cX6_find 17 = .ok (.if_icmp .gt 69, 3) := by decide +kernel
theorem dX6_find_20 : decode cX6_find 20 = .ok (.iload_n 2, 1) := by decide +kernel
theorem dX6_find_21 : decode cX6_find 21 = .ok (.istore_n 3, 1) := by decide +kernel
theorem dX6_find_22 : decode cX6_find 22 = .ok (.iload_n 3, 1) := by decide +kernel
theorem dX6_find_23 : decode cX6_find 23 = .ok (.aload_n 0, 1) := by decide +kernel
theorem dX6_find_24 : decode cX6_find 24 = .ok (.getfield 135, 3) := by decide +kernel
theorem dX6_find_27 : decode cX6_find 27 = .ok (.if_icmp .gt 53, 3) := by decide +kernel
theorem dX6_find_30 : decode cX6_find 30 = .ok (.aload_n 0, 1) := by decide +kernel
theorem dX6_find_31 : decode cX6_find 31 = .ok (.iload_n 2, 1) := by decide +kernel
theorem dX6_find_32 : decode cX6_find 32 = .ok (.iload_n 3, 1) := by decide +kernel
theorem dX6_find_33 : decode cX6_find 33 = .ok (.invokevirtual 165, 3) := by decide +kernel
theorem dX6_find_36 : decode cX6_find 36 = .ok (.ifCond .eq 38, 3) := by decide +kernel
theorem dX6_find_39 : decode cX6_find 39 = .ok (.aload_n 0, 1) := by decide +kernel
theorem dX6_find_40 : decode cX6_find 40 = .ok (.getfield 53, 3) := by decide +kernel
theorem dX6_find_43 : decode cX6_find 43 = .ok (.ifCond .lt 21, 3) := by decide +kernel
theorem dX6_find_46 : decode cX6_find 46 = .ok (.aload_n 0, 1) := by decide +kernel
theorem dX6_find_47 : decode cX6_find 47 = .ok (.iload_n 1, 1) := by decide +kernel
theorem dX6_find_48 : decode cX6_find 48 = .ok (.iload_n 2, 1) := by decide +kernel
theorem dX6_find_49 : decode cX6_find 49 = .ok (.iload_n 3, 1) := by decide +kernel
theorem dX6_find_50 : decode cX6_find 50 = .ok (.aload_n 0, 1) := by decide +kernel
theorem dX6_find_51 : decode cX6_find 51 = .ok (.getfield 53, 3) := by decide +kernel
theorem dX6_find_54 : decode cX6_find 54 = .ok (.aload_n 0, 1) := by decide +kernel
theorem dX6_find_55 : decode cX6_find 55 = .ok (.getfield 56, 3) := by decide +kernel
theorem dX6_find_58 : decode cX6_find 58 = .ok (.invokevirtual 169, 3) := by decide +kernel
theorem dX6_find_61 : decode cX6_find 61 = .ok (.ifCond .eq 13, 3) := by decide +kernel
theorem dX6_find_64 : decode cX6_find 64 = .ok (.aload_n 0, 1) := by decide +kernel
theorem dX6_find_65 : decode cX6_find 65 = .ok (.iload_n 2, 1) := by decide +kernel
theorem dX6_find_66 : decode cX6_find 66 = .ok (.putfield 53, 3) := by decide +kernel
theorem dX6_find_69 : decode cX6_find 69 = .ok (.aload_n 0, 1) := by decide +kernel
theorem dX6_find_70 : decode cX6_find 70 = .ok (.iload_n 3, 1) := by decide +kernel
theorem dX6_find_71 : decode cX6_find 71 = .ok (.putfield 56, 3) := by decide +kernel
theorem dX6_find_74 : decode cX6_find 74 = .ok (.iinc 3 1, 3) := by decide +kernel
theorem dX6_find_77 : decode cX6_find 77 = .ok (.goto (-55), 3) := by decide +kernel
theorem dX6_find_80 : decode cX6_find 80 = .ok (.iinc 2 1, 3) := by decide +kernel
theorem dX6_find_83 : decode cX6_find 83 = .ok (.goto (-71), 3) := by decide +kernel
theorem dX6_find_86 : decode cX6_find 86 = .ok (.aload_n 0, 1) := by decide +kernel
theorem dX6_find_87 : decode cX6_find 87 = .ok (.getfield 53, 3) := by decide +kernel
theorem dX6_find_90 : decode cX6_find 90 = .ok (.ifCond .ge 7, 3) := by decide +kernel
theorem dX6_find_93 : decode cX6_find 93 = .ok (.iconst (-1), 1) := by decide +kernel
theorem dX6_find_94 : decode cX6_find 94 = .ok (.goto 15, 3) := by decide +kernel
theorem dX6_find_97 : decode cX6_find 97 = .ok (.aload_n 0, 1) := by decide +kernel
theorem dX6_find_98 : decode cX6_find 98 = .ok (.aload_n 0, 1) := by decide +kernel
theorem dX6_find_99 : decode cX6_find 99 = .ok (.getfield 53, 3) := by decide +kernel
theorem dX6_find_102 : decode cX6_find 102 = .ok (.aload_n 0, 1) := by decide +kernel
theorem dX6_find_103 : decode cX6_find 103 = .ok (.getfield 56, 3) := by decide +kernel
theorem dX6_find_106 : decode cX6_find 106 = .ok (.invokevirtual 162, 3) := by decide +kernel
theorem dX6_find_109 : decode cX6_find 109 = .ok (.ireturn, 1) := by decide +kernel
theorem dX6_from_0 : decode cX6_from 0 = .ok (.aload_n 0, 1) := by decide +kernel
theorem dX6_from_1 : decode cX6_from 1 = .ok (.getfield 53, 3) := by decide +kernel
theorem dX6_from_4 : decode cX6_from 4 = .ok (.ireturn, 1) := by decide +kernel
theorem dX6_to_0 : decode cX6_to 0 = .ok (.aload_n 0, 1) := by decide +kernel
theorem dX6_to_1 : decode cX6_to 1 = .ok (.getfield 56, 3) := by decide +kernel
theorem dX6_to_4 : decode cX6_to 4 = .ok (.ireturn, 1) := by decide +kernel
theorem dX6_ends_0 : decode cX6_ends 0 = .ok (.iconst 0, 1) := by decide +kernel
theorem dX6_ends_1 : decode cX6_ends 1 = .ok (.istore_n 1, 1) := by decide +kernel
theorem dX6_ends_2 : decode cX6_ends 2 = .ok (.iconst 0, 1) := by decide +kernel
theorem dX6_ends_3 : decode cX6_ends 3 = .ok (.istore_n 2, 1) := by decide +kernel
theorem dX6_ends_4 : decode cX6_ends 4 = .ok (.iload_n 2, 1) := by decide +kernel
theorem dX6_ends_5 : decode cX6_ends 5 = .ok (.aload_n 0, 1) := by decide +kernel
theorem dX6_ends_6 : decode cX6_ends 6 = .ok (.getfield 135, 3) := by decide +kernel
theorem dX6_ends_9 : decode cX6_ends 9 = .ok (.if_icmp .gt 41, 3) := by decide +kernel
theorem dX6_ends_12 : decode cX6_ends 12 = .ok (.iconst 0, 1) := by decide +kernel
theorem dX6_ends_13 : decode cX6_ends 13 = .ok (.istore_n 3, 1) := by decide +kernel
theorem dX6_ends_14 : decode cX6_ends 14 = .ok (.iload_n 3, 1) := by decide +kernel
theorem dX6_ends_15 : decode cX6_ends 15 = .ok (.iload_n 2, 1) := by decide +kernel
theorem dX6_ends_16 : decode cX6_ends 16 = .ok (.if_icmp .gt 28, 3) := by decide +kernel
theorem dX6_ends_19 : decode cX6_ends 19 = .ok (.aload_n 0, 1) := by decide +kernel
theorem dX6_ends_20 : decode cX6_ends 20 = .ok (.iload_n 3, 1) := by decide +kernel
theorem dX6_ends_21 : decode cX6_ends 21 = .ok (.iload_n 2, 1) := by decide +kernel
theorem dX6_ends_22 : decode cX6_ends 22 = .ok (.invokevirtual 165, 3) := by decide +kernel
theorem dX6_ends_25 : decode cX6_ends 25 = .ok (.ifCond .eq 11, 3) := by decide +kernel
theorem dX6_ends_28 : decode cX6_ends 28 = .ok (.iload_n 1, 1) := by decide +kernel
theorem dX6_ends_29 : decode cX6_ends 29 = .ok (.iconst 1, 1) := by decide +kernel
theorem dX6_ends_30 : decode cX6_ends 30 = .ok (.iload_n 2, 1) := by decide +kernel
theorem dX6_ends_31 : decode cX6_ends 31 = .ok (.ishl, 1) := by decide +kernel
theorem dX6_ends_32 : decode cX6_ends 32 = .ok (.ior, 1) := by decide +kernel
theorem dX6_ends_33 : decode cX6_ends 33 = .ok (.goto 4, 3) := by decide +kernel
theorem dX6_ends_36 : decode cX6_ends 36 = .ok (.iload_n 1, 1) := by decide +kernel
theorem dX6_ends_37 : decode cX6_ends 37 = .ok (.istore_n 1, 1) := by decide +kernel
theorem dX6_ends_38 : decode cX6_ends 38 = .ok (.iinc 3 1, 3) := by decide +kernel
theorem dX6_ends_41 : decode cX6_ends 41 = .ok (.goto (-27), 3) := by decide +kernel
theorem dX6_ends_44 : decode cX6_ends 44 = .ok (.iinc 2 1, 3) := by decide +kernel
theorem dX6_ends_47 : decode cX6_ends 47 = .ok (.goto (-43), 3) := by decide +kernel
theorem dX6_ends_50 : decode cX6_ends 50 = .ok (.iload_n 1, 1) := by decide +kernel
theorem dX6_ends_51 : decode cX6_ends 51 = .ok (.ireturn, 1) := by decide +kernel
theorem dX6_add_0 : decode cX6_add 0 = .ok (.aload_n 0, 1) := by decide +kernel
theorem dX6_add_1 : decode cX6_add 1 = .ok (.getfield 135, 3) := by decide +kernel
theorem dX6_add_4 : decode cX6_add 4 = .ok (.ifCond .eq 21, 3) := by decide +kernel
theorem dX6_add_7 : decode cX6_add 7 = .ok (.aload_n 0, 1) := by decide +kernel
theorem dX6_add_8 : decode cX6_add 8 = .ok (.getfield 135, 3) := by decide +kernel
theorem dX6_add_11 : decode cX6_add 11 = .ok (.bipush 12, 2) := by decide +kernel
theorem dX6_add_13 : decode cX6_add 13 = .ok (.if_icmp .gt 12, 3) := by decide +kernel
theorem dX6_add_16 : decode cX6_add 16 = .ok (.aload_n 0, 1) := by decide +kernel
theorem dX6_add_17 : decode cX6_add 17 = .ok (.getfield 173, 3) := by decide +kernel
theorem dX6_add_20 : decode cX6_add 20 = .ok (.bipush 20, 2) := by decide +kernel
theorem dX6_add_22 : decode cX6_add 22 = .ok (.if_icmp .ne 5, 3) := by decide +kernel
theorem dX6_add_25 : decode cX6_add 25 = .ok (.iconst (-1), 1) := by decide +kernel
theorem dX6_add_26 : decode cX6_add 26 = .ok (.ireturn, 1) := by decide +kernel
theorem dX6_add_27 : decode cX6_add 27 = .ok (.iconst 0, 1) := by decide +kernel
theorem dX6_add_28 : decode cX6_add 28 = .ok (.istore_n 1, 1) := by decide +kernel
theorem dX6_add_29 : decode cX6_add 29 = .ok (.iload_n 1, 1) := by decide +kernel
theorem dX6_add_30 : decode cX6_add 30 = .ok (.aload_n 0, 1) := by decide +kernel
theorem dX6_add_31 : decode cX6_add 31 = .ok (.getfield 173, 3) := by decide +kernel
theorem dX6_add_34 : decode cX6_add 34 = .ok (.if_icmp .ge 20, 3) := by decide +kernel
theorem dX6_add_37 : decode cX6_add 37 = .ok (.aload_n 0, 1) := by decide +kernel
theorem dX6_add_38 : decode cX6_add 38 = .ok (.iload_n 1, 1) := by decide +kernel
theorem dX6_add_39 : decode cX6_add 39 = .ok (.iconst 0, 1) := by decide +kernel
theorem dX6_add_40 : decode cX6_add 40 = .ok (.invokevirtual 176, 3) := by decide +kernel
theorem dX6_add_43 : decode cX6_add 43 = .ok (.ifCond .ne 5, 3) := by decide +kernel
theorem dX6_add_46 : decode cX6_add 46 = .ok (.iconst (-1), 1) := by decide +kernel
theorem dX6_add_47 : decode cX6_add 47 = .ok (.ireturn, 1) := by decide +kernel
theorem dX6_add_48 : decode cX6_add 48 = .ok (.iinc 1 1, 3) := by decide +kernel
theorem dX6_add_51 : decode cX6_add 51 = .ok (.goto (-22), 3) := by decide +kernel
theorem dX6_add_54 : decode cX6_add 54 = .ok (.aload_n 0, 1) := by decide +kernel
theorem dX6_add_55 : decode cX6_add 55 = .ok (.getfield 59, 3) := by decide +kernel
theorem dX6_add_58 : decode cX6_add 58 = .ok (.aload_n 0, 1) := by decide +kernel
theorem dX6_add_59 : decode cX6_add 59 = .ok (.getfield 173, 3) := by decide +kernel
theorem dX6_add_62 : decode cX6_add 62 = .ok (.aload_n 0, 1) := by decide +kernel
theorem dX6_add_63 : decode cX6_add 63 = .ok (.getfield 135, 3) := by decide +kernel
theorem dX6_add_66 : decode cX6_add 66 = .ok (.iastore, 1) := by decide +kernel
theorem dX6_add_67 : decode cX6_add 67 = .ok (.iconst 0, 1) := by decide +kernel
theorem dX6_add_68 : decode cX6_add 68 = .ok (.istore_n 1, 1) := by decide +kernel
theorem dX6_add_69 : decode cX6_add 69 = .ok (.iload_n 1, 1) := by decide +kernel
theorem dX6_add_70 : decode cX6_add 70 = .ok (.aload_n 0, 1) := by decide +kernel
theorem dX6_add_71 : decode cX6_add 71 = .ok (.getfield 135, 3) := by decide +kernel
theorem dX6_add_74 : decode cX6_add 74 = .ok (.if_icmp .ge 29, 3) := by decide +kernel
theorem dX6_add_77 : decode cX6_add 77 = .ok (.aload_n 0, 1) := by decide +kernel
theorem dX6_add_78 : decode cX6_add 78 = .ok (.getfield 62, 3) := by decide +kernel
theorem dX6_add_81 : decode cX6_add 81 = .ok (.bipush 12, 2) := by decide +kernel
theorem dX6_add_83 : decode cX6_add 83 = .ok (.aload_n 0, 1) := by decide +kernel
theorem dX6_add_84 : decode cX6_add 84 = .ok (.getfield 173, 3) := by decide +kernel
theorem dX6_add_87 : decode cX6_add 87 = .ok (.imul, 1) := by decide +kernel
theorem dX6_add_88 : decode cX6_add 88 = .ok (.iload_n 1, 1) := by decide +kernel
theorem dX6_add_89 : decode cX6_add 89 = .ok (.iadd, 1) := by decide +kernel
theorem dX6_add_90 : decode cX6_add 90 = .ok (.aload_n 0, 1) := by decide +kernel
theorem dX6_add_91 : decode cX6_add 91 = .ok (.getfield 47, 3) := by decide +kernel
theorem dX6_add_94 : decode cX6_add 94 = .ok (.iload_n 1, 1) := by decide +kernel
theorem dX6_add_95 : decode cX6_add 95 = .ok (.iaload, 1) := by decide +kernel
theorem dX6_add_96 : decode cX6_add 96 = .ok (.iastore, 1) := by decide +kernel
theorem dX6_add_97 : decode cX6_add 97 = .ok (.iinc 1 1, 3) := by decide +kernel
theorem dX6_add_100 : decode cX6_add 100 = .ok (.goto (-31), 3) := by decide +kernel
theorem dX6_add_103 : decode cX6_add 103 = .ok (.aload_n 0, 1) := by decide +kernel
theorem dX6_add_104 : decode cX6_add 104 = .ok (.dup, 1) := by decide +kernel
theorem dX6_add_105 : decode cX6_add 105 = .ok (.getfield 173, 3) := by decide +kernel
theorem dX6_add_108 : decode cX6_add 108 = .ok (.iconst 1, 1) := by decide +kernel
theorem dX6_add_109 : decode cX6_add 109 = .ok (.iadd, 1) := by decide +kernel
theorem dX6_add_110 : decode cX6_add 110 = .ok (.putfield 173, 3) := by decide +kernel
theorem dX6_add_113 : decode cX6_add 113 = .ok (.aload_n 0, 1) := by decide +kernel
theorem dX6_add_114 : decode cX6_add 114 = .ok (.getfield 173, 3) := by decide +kernel
theorem dX6_add_117 : decode cX6_add 117 = .ok (.iconst 1, 1) := by decide +kernel
theorem dX6_add_118 : decode cX6_add 118 = .ok (.isub, 1) := by decide +kernel
theorem dX6_add_119 : decode cX6_add 119 = .ok (.ireturn, 1) := by decide +kernel
theorem dX6_words_0 : decode cX6_words 0 = .ok (.aload_n 0, 1) := by decide +kernel
theorem dX6_words_1 : decode cX6_words 1 = .ok (.getfield 173, 3) := by decide +kernel
theorem dX6_words_4 : decode cX6_words 4 = .ok (.ireturn, 1) := by decide +kernel
theorem dX6_step_0 : decode cX6_step 0 = .ok (.iload_n 2, 1) := by decide +kernel
theorem dX6_step_1 : decode cX6_step 1 = .ok (.ifCond .ne 11, 3) := by decide +kernel
theorem dX6_step_4 : decode cX6_step 4 = .ok (.iload_n 3, 1) := by decide +kernel
theorem dX6_step_5 : decode cX6_step 5 = .ok (.ifCond .ne 7, 3) := by decide +kernel
theorem dX6_step_8 : decode cX6_step 8 = .ok (.iconst 0, 1) := by decide +kernel
theorem dX6_step_9 : decode cX6_step 9 = .ok (.goto 6, 3) := by decide +kernel
theorem dX6_step_12 : decode cX6_step 12 = .ok (.sipush 1000, 3) := by decide +kernel
theorem dX6_step_15 : decode cX6_step 15 = .ok (.istore 5, 2) := by decide +kernel
theorem dX6_step_17 : decode cX6_step 17 = .ok (.bipush 12, 2) := by decide +kernel
theorem dX6_step_19 : decode cX6_step 19 = .ok (.iload_n 1, 1) := by decide +kernel
theorem dX6_step_20 : decode cX6_step 20 = .ok (.imul, 1) := by decide +kernel
theorem dX6_step_21 : decode cX6_step 21 = .ok (.iload_n 2, 1) := by decide +kernel
theorem dX6_step_22 : decode cX6_step 22 = .ok (.iadd, 1) := by decide +kernel
theorem dX6_step_23 : decode cX6_step 23 = .ok (.iconst 1, 1) := by decide +kernel
theorem dX6_step_24 : decode cX6_step 24 = .ok (.isub, 1) := by decide +kernel
theorem dX6_step_25 : decode cX6_step 25 = .ok (.istore 6, 2) := by decide +kernel
theorem dX6_step_27 : decode cX6_step 27 = .ok (.iload_n 2, 1) := by decide +kernel
theorem dX6_step_28 : decode cX6_step 28 = .ok (.ifCond .le 37, 3) := by decide +kernel
theorem dX6_step_31 : decode cX6_step 31 = .ok (.aload_n 0, 1) := by decide +kernel
theorem dX6_step_32 : decode cX6_step 32 = .ok (.getfield 65, 3) := by decide +kernel
theorem dX6_step_35 : decode cX6_step 35 = .ok (.bipush 25, 2) := by decide +kernel
theorem dX6_step_37 : decode cX6_step 37 = .ok (.iload_n 2, 1) := by decide +kernel
theorem dX6_step_38 : decode cX6_step 38 = .ok (.imul, 1) := by decide +kernel
theorem dX6_step_39 : decode cX6_step 39 = .ok (.bipush 25, 2) := by decide +kernel
theorem dX6_step_41 : decode cX6_step 41 = .ok (.isub, 1) := by decide +kernel
theorem dX6_step_42 : decode cX6_step 42 = .ok (.iload_n 3, 1) := by decide +kernel
theorem dX6_step_43 : decode cX6_step 43 = .ok (.iadd, 1) := by decide +kernel
theorem dX6_step_44 : decode cX6_step 44 = .ok (.iaload, 1) := by decide +kernel
theorem dX6_step_45 : decode cX6_step 45 = .ok (.iconst 1, 1) := by decide +kernel
theorem dX6_step_46 : decode cX6_step 46 = .ok (.iadd, 1) := by decide +kernel
theorem dX6_step_47 : decode cX6_step 47 = .ok (.istore 7, 2) := by decide +kernel
theorem dX6_step_49 : decode cX6_step 49 = .ok (.iload 7, 2) := by decide +kernel
theorem dX6_step_51 : decode cX6_step 51 = .ok (.iload 5, 2) := by decide +kernel
theorem dX6_step_53 : decode cX6_step 53 = .ok (.if_icmp .ge 8, 3) := by decide +kernel
theorem dX6_step_56 : decode cX6_step 56 = .ok (.iload 7, 2) := by decide +kernel
theorem dX6_step_58 : decode cX6_step 58 = .ok (.goto 5, 3) := by decide +kernel
theorem dX6_step_61 : decode cX6_step 61 = .ok (.iload 5, 2) := by decide +kernel
theorem dX6_step_63 : decode cX6_step 63 = .ok (.istore 5, 2) := by decide +kernel
theorem dX6_step_65 : decode cX6_step 65 = .ok (.iload_n 3, 1) := by decide +kernel
theorem dX6_step_66 : decode cX6_step 66 = .ok (.ifCond .le 36, 3) := by decide +kernel
theorem dX6_step_69 : decode cX6_step 69 = .ok (.aload_n 0, 1) := by decide +kernel
theorem dX6_step_70 : decode cX6_step 70 = .ok (.getfield 65, 3) := by decide +kernel
theorem dX6_step_73 : decode cX6_step 73 = .ok (.bipush 25, 2) := by decide +kernel
theorem dX6_step_75 : decode cX6_step 75 = .ok (.iload_n 2, 1) := by decide +kernel
theorem dX6_step_76 : decode cX6_step 76 = .ok (.imul, 1) := by decide +kernel
theorem dX6_step_77 : decode cX6_step 77 = .ok (.iload_n 3, 1) := by decide +kernel
theorem dX6_step_78 : decode cX6_step 78 = .ok (.iadd, 1) := by decide +kernel
theorem dX6_step_79 : decode cX6_step 79 = .ok (.iconst 1, 1) := by decide +kernel
theorem dX6_step_80 : decode cX6_step 80 = .ok (.isub, 1) := by decide +kernel
theorem dX6_step_81 : decode cX6_step 81 = .ok (.iaload, 1) := by decide +kernel
theorem dX6_step_82 : decode cX6_step 82 = .ok (.iconst 1, 1) := by decide +kernel
theorem dX6_step_83 : decode cX6_step 83 = .ok (.iadd, 1) := by decide +kernel
theorem dX6_step_84 : decode cX6_step 84 = .ok (.istore 7, 2) := by decide +kernel
theorem dX6_step_86 : decode cX6_step 86 = .ok (.iload 7, 2) := by decide +kernel
theorem dX6_step_88 : decode cX6_step 88 = .ok (.iload 5, 2) := by decide +kernel
theorem dX6_step_90 : decode cX6_step 90 = .ok (.if_icmp .ge 8, 3) := by decide +kernel
theorem dX6_step_93 : decode cX6_step 93 = .ok (.iload 7, 2) := by decide +kernel
theorem dX6_step_95 : decode cX6_step 95 = .ok (.goto 5, 3) := by decide +kernel
theorem dX6_step_98 : decode cX6_step 98 = .ok (.iload 5, 2) := by decide +kernel
theorem dX6_step_100 : decode cX6_step 100 = .ok (.istore 5, 2) := by decide +kernel
theorem dX6_step_102 : decode cX6_step 102 = .ok (.iload_n 2, 1) := by decide +kernel
theorem dX6_step_103 : decode cX6_step 103 = .ok (.ifCond .le 65, 3) := by decide +kernel
theorem dX6_step_106 : decode cX6_step 106 = .ok (.iload_n 3, 1) := by decide +kernel
theorem dX6_step_107 : decode cX6_step 107 = .ok (.ifCond .le 61, 3) := by decide +kernel
theorem dX6_step_110 : decode cX6_step 110 = .ok (.aload_n 0, 1) := by decide +kernel
theorem dX6_step_111 : decode cX6_step 111 = .ok (.getfield 65, 3) := by decide +kernel
theorem dX6_step_114 : decode cX6_step 114 = .ok (.bipush 25, 2) := by decide +kernel
theorem dX6_step_116 : decode cX6_step 116 = .ok (.iload_n 2, 1) := by decide +kernel
theorem dX6_step_117 : decode cX6_step 117 = .ok (.imul, 1) := by decide +kernel
theorem dX6_step_118 : decode cX6_step 118 = .ok (.bipush 25, 2) := by decide +kernel
theorem dX6_step_120 : decode cX6_step 120 = .ok (.isub, 1) := by decide +kernel
theorem dX6_step_121 : decode cX6_step 121 = .ok (.iload_n 3, 1) := by decide +kernel
theorem dX6_step_122 : decode cX6_step 122 = .ok (.iadd, 1) := by decide +kernel
theorem dX6_step_123 : decode cX6_step 123 = .ok (.iconst 1, 1) := by decide +kernel
theorem dX6_step_124 : decode cX6_step 124 = .ok (.isub, 1) := by decide +kernel
theorem dX6_step_125 : decode cX6_step 125 = .ok (.iaload, 1) := by decide +kernel
theorem dX6_step_126 : decode cX6_step 126 = .ok (.aload_n 0, 1) := by decide +kernel
theorem dX6_step_127 : decode cX6_step 127 = .ok (.getfield 62, 3) := by decide +kernel
theorem dX6_step_130 : decode cX6_step 130 = .ok (.iload 6, 2) := by decide +kernel
theorem dX6_step_132 : decode cX6_step 132 = .ok (.iaload, 1) := by decide +kernel
theorem dX6_step_133 : decode cX6_step 133 = .ok (.aload_n 0, 1) := by decide +kernel
theorem dX6_step_134 : decode cX6_step 134 = .ok (.getfield 47, 3) := by decide +kernel
theorem dX6_step_137 : decode cX6_step 137 = .ok (.iload_n 3, 1) := by decide +kernel
theorem dX6_step_138 : decode cX6_step 138 = .ok (.iconst 1, 1) := by decide +kernel
theorem dX6_step_139 : decode cX6_step 139 = .ok (.isub, 1) := by decide +kernel
theorem dX6_step_140 : decode cX6_step 140 = .ok (.iaload, 1) := by decide +kernel
theorem dX6_step_141 : decode cX6_step 141 = .ok (.if_icmp .ne 7, 3) := by decide +kernel
theorem dX6_step_144 : decode cX6_step 144 = .ok (.iconst 0, 1) := by decide +kernel
theorem dX6_step_145 : decode cX6_step 145 = .ok (.goto 4, 3) := by decide +kernel
theorem dX6_step_148 : decode cX6_step 148 = .ok (.iconst 1, 1) := by decide +kernel
theorem dX6_step_149 : decode cX6_step 149 = .ok (.iadd, 1) := by decide +kernel
theorem dX6_step_150 : decode cX6_step 150 = .ok (.istore 7, 2) := by decide +kernel
theorem dX6_step_152 : decode cX6_step 152 = .ok (.iload 7, 2) := by decide +kernel
theorem dX6_step_154 : decode cX6_step 154 = .ok (.iload 5, 2) := by decide +kernel
theorem dX6_step_156 : decode cX6_step 156 = .ok (.if_icmp .ge 8, 3) := by decide +kernel
theorem dX6_step_159 : decode cX6_step 159 = .ok (.iload 7, 2) := by decide +kernel
theorem dX6_step_161 : decode cX6_step 161 = .ok (.goto 5, 3) := by decide +kernel
theorem dX6_step_164 : decode cX6_step 164 = .ok (.iload 5, 2) := by decide +kernel
theorem dX6_step_166 : decode cX6_step 166 = .ok (.istore 5, 2) := by decide +kernel
theorem dX6_step_168 : decode cX6_step 168 = .ok (.iload 4, 2) := by decide +kernel
theorem dX6_step_170 : decode cX6_step 170 = .ok (.ifCond .eq 87, 3) := by decide +kernel
theorem dX6_step_173 : decode cX6_step 173 = .ok (.iload_n 2, 1) := by decide +kernel
theorem dX6_step_174 : decode cX6_step 174 = .ok (.iconst 1, 1) := by decide +kernel
theorem dX6_step_175 : decode cX6_step 175 = .ok (.if_icmp .le 82, 3) := by decide +kernel
theorem dX6_step_178 : decode cX6_step 178 = .ok (.iload_n 3, 1) := by decide +kernel
theorem dX6_step_179 : decode cX6_step 179 = .ok (.iconst 1, 1) := by decide +kernel
theorem dX6_step_180 : decode cX6_step 180 = .ok (.if_icmp .le 77, 3) := by decide +kernel
theorem dX6_step_183 : decode cX6_step 183 = .ok (.aload_n 0, 1) := by decide +kernel
theorem dX6_step_184 : decode cX6_step 184 = .ok (.getfield 62, 3) := by decide +kernel
theorem dX6_step_187 : decode cX6_step 187 = .ok (.iload 6, 2) := by decide +kernel
theorem dX6_step_189 : decode cX6_step 189 = .ok (.iaload, 1) := by decide +kernel
theorem dX6_step_190 : decode cX6_step 190 = .ok (.aload_n 0, 1) := by decide +kernel
theorem dX6_step_191 : decode cX6_step 191 = .ok (.getfield 47, 3) := by decide +kernel
theorem dX6_step_194 : decode cX6_step 194 = .ok (.iload_n 3, 1) := by decide +kernel
theorem dX6_step_195 : decode cX6_step 195 = .ok (.iconst 2, 1) := by decide +kernel
theorem dX6_step_196 : decode cX6_step 196 = .ok (.isub, 1) := by decide +kernel
theorem dX6_step_197 : decode cX6_step 197 = .ok (.iaload, 1) := by decide +kernel
theorem dX6_step_198 : decode cX6_step 198 = .ok (.if_icmp .ne 59, 3) := by decide +kernel
theorem dX6_step_201 : decode cX6_step 201 = .ok (.aload_n 0, 1) := by decide +kernel
theorem dX6_step_202 : decode cX6_step 202 = .ok (.getfield 62, 3) := by decide +kernel
theorem dX6_step_205 : decode cX6_step 205 = .ok (.iload 6, 2) := by decide +kernel
theorem dX6_step_207 : decode cX6_step 207 = .ok (.iconst 1, 1) := by decide +kernel
theorem dX6_step_208 : decode cX6_step 208 = .ok (.isub, 1) := by decide +kernel
theorem dX6_step_209 : decode cX6_step 209 = .ok (.iaload, 1) := by decide +kernel
theorem dX6_step_210 : decode cX6_step 210 = .ok (.aload_n 0, 1) := by decide +kernel
theorem dX6_step_211 : decode cX6_step 211 = .ok (.getfield 47, 3) := by decide +kernel
theorem dX6_step_214 : decode cX6_step 214 = .ok (.iload_n 3, 1) := by decide +kernel
theorem dX6_step_215 : decode cX6_step 215 = .ok (.iconst 1, 1) := by decide +kernel
theorem dX6_step_216 : decode cX6_step 216 = .ok (.isub, 1) := by decide +kernel
theorem dX6_step_217 : decode cX6_step 217 = .ok (.iaload, 1) := by decide +kernel
theorem dX6_step_218 : decode cX6_step 218 = .ok (.if_icmp .ne 39, 3) := by decide +kernel
theorem dX6_step_221 : decode cX6_step 221 = .ok (.aload_n 0, 1) := by decide +kernel
theorem dX6_step_222 : decode cX6_step 222 = .ok (.getfield 65, 3) := by decide +kernel
theorem dX6_step_225 : decode cX6_step 225 = .ok (.bipush 25, 2) := by decide +kernel
theorem dX6_step_227 : decode cX6_step 227 = .ok (.iload_n 2, 1) := by decide +kernel
theorem dX6_step_228 : decode cX6_step 228 = .ok (.imul, 1) := by decide +kernel
theorem dX6_step_229 : decode cX6_step 229 = .ok (.bipush 50, 2) := by decide +kernel
theorem dX6_step_231 : decode cX6_step 231 = .ok (.isub, 1) := by decide +kernel
theorem dX6_step_232 : decode cX6_step 232 = .ok (.iload_n 3, 1) := by decide +kernel
theorem dX6_step_233 : decode cX6_step 233 = .ok (.iadd, 1) := by decide +kernel
theorem dX6_step_234 : decode cX6_step 234 = .ok (.iconst 2, 1) := by decide +kernel
theorem dX6_step_235 : decode cX6_step 235 = .ok (.isub, 1) := by decide +kernel
theorem dX6_step_236 : decode cX6_step 236 = .ok (.iaload, 1) := by decide +kernel
theorem dX6_step_237 : decode cX6_step 237 = .ok (.iconst 1, 1) := by decide +kernel
theorem dX6_step_238 : decode cX6_step 238 = .ok (.iadd, 1) := by decide +kernel
theorem dX6_step_239 : decode cX6_step 239 = .ok (.istore 7, 2) := by decide +kernel
theorem dX6_step_241 : decode cX6_step 241 = .ok (.iload 7, 2) := by decide +kernel
theorem dX6_step_243 : decode cX6_step 243 = .ok (.iload 5, 2) := by decide +kernel
theorem dX6_step_245 : decode cX6_step 245 = .ok (.if_icmp .ge 8, 3) := by decide +kernel
theorem dX6_step_248 : decode cX6_step 248 = .ok (.iload 7, 2) := by decide +kernel
theorem dX6_step_250 : decode cX6_step 250 = .ok (.goto 5, 3) := by decide +kernel
theorem dX6_step_253 : decode cX6_step 253 = .ok (.iload 5, 2) := by decide +kernel
theorem dX6_step_255 : decode cX6_step 255 = .ok (.istore 5, 2) := by decide +kernel
theorem dX6_step_257 : decode cX6_step 257 = .ok (.iload 5, 2) := by decide +kernel
theorem dX6_step_259 : decode cX6_step 259 = .ok (.ireturn, 1) := by decide +kernel
theorem dX6_distance_0 : decode cX6_distance 0 = .ok (.iload_n 1, 1) := by decide +kernel
theorem dX6_distance_1 : decode cX6_distance 1 = .ok (.ifCond .lt 11, 3) := by decide +kernel
theorem dX6_distance_4 : decode cX6_distance 4 = .ok (.iload_n 1, 1) := by decide +kernel
theorem dX6_distance_5 : decode cX6_distance 5 = .ok (.aload_n 0, 1) := by decide +kernel
theorem dX6_distance_6 : decode cX6_distance 6 = .ok (.getfield 173, 3) := by decide +kernel
theorem dX6_distance_9 : decode cX6_distance 9 = .ok (.if_icmp .lt 5, 3) := by decide +kernel
theorem dX6_distance_12 : decode cX6_distance 12 = .ok (.iconst (-1), 1) := by decide +kernel
theorem dX6_distance_13 : decode cX6_distance 13 = .ok (.ireturn, 1) := by decide +kernel
theorem dX6_distance_14 : decode cX6_distance 14 = .ok (.iconst 0, 1) := by decide +kernel
theorem dX6_distance_15 : decode cX6_distance 15 = .ok (.istore_n 3, 1) := by decide +kernel
theorem dX6_distance_16 : decode cX6_distance 16 = .ok (.iload_n 3, 1) := by decide +kernel
theorem dX6_distance_17 : decode cX6_distance 17 = .ok (.aload_n 0, 1) := by decide +kernel
theorem dX6_distance_18 : decode cX6_distance 18 = .ok (.getfield 59, 3) := by decide +kernel
theorem dX6_distance_21 : decode cX6_distance 21 = .ok (.iload_n 1, 1) := by decide +kernel
theorem dX6_distance_22 : decode cX6_distance 22 = .ok (.iaload, 1) := by decide +kernel
theorem dX6_distance_23 : decode cX6_distance 23 = .ok (.if_icmp .gt 48, 3) := by decide +kernel
theorem dX6_distance_26 : decode cX6_distance 26 = .ok (.iconst 0, 1) := by decide +kernel
theorem dX6_distance_27 : decode cX6_distance 27 = .ok (.istore 4, 2) := by decide +kernel
theorem dX6_distance_29 : decode cX6_distance 29 = .ok (.iload 4, 2) := by decide +kernel
theorem dX6_distance_31 : decode cX6_distance 31 = .ok (.aload_n 0, 1) := by decide +kernel
theorem dX6_distance_32 : decode cX6_distance 32 = .ok (.getfield 135, 3) := by decide +kernel
theorem dX6_distance_35 : decode cX6_distance 35 = .ok (.if_icmp .gt 30, 3) := by decide +kernel
theorem dX6_distance_38 : decode cX6_distance 38 = .ok (.aload_n 0, 1) := by decide +kernel
theorem dX6_distance_39 : decode cX6_distance 39 = .ok (.getfield 65, 3) := by decide +kernel
theorem dX6_distance_42 : decode cX6_distance 42 = .ok (.bipush 25, 2) := by decide +kernel
theorem dX6_distance_44 : decode cX6_distance 44 = .ok (.iload_n 3, 1) := by decide +kernel
theorem dX6_distance_45 : decode cX6_distance 45 = .ok (.imul, 1) := by decide +kernel
theorem dX6_distance_46 : decode cX6_distance 46 = .ok (.iload 4, 2) := by decide +kernel
theorem dX6_distance_48 : decode cX6_distance 48 = .ok (.iadd, 1) := by decide +kernel
theorem dX6_distance_49 : decode cX6_distance 49 = .ok (.aload_n 0, 1) := by decide +kernel
theorem dX6_distance_50 : decode cX6_distance 50 = .ok (.iload_n 1, 1) := by decide +kernel
theorem dX6_distance_51 : decode cX6_distance 51 = .ok (.iload_n 3, 1) := by decide +kernel
theorem dX6_distance_52 : decode cX6_distance 52 = .ok (.iload 4, 2) := by decide +kernel
theorem dX6_distance_54 : decode cX6_distance 54 = .ok (.iload_n 2, 1) := by decide +kernel
theorem dX6_distance_55 : decode cX6_distance 55 = .ok (.invokevirtual 180, 3) := by decide +kernel
theorem dX6_distance_58 : decode cX6_distance 58 = .ok (.iastore, 1) := by decide +kernel
theorem dX6_distance_59 : decode cX6_distance 59 = .ok (.iinc 4 1, 3) := by decide +kernel
theorem dX6_distance_62 : decode cX6_distance 62 = .ok (.goto (-33), 3) := by decide +kernel
theorem dX6_distance_65 : decode cX6_distance 65 = .ok (.iinc 3 1, 3) := by decide +kernel
theorem dX6_distance_68 : decode cX6_distance 68 = .ok (.goto (-52), 3) := by decide +kernel
theorem dX6_distance_71 : decode cX6_distance 71 = .ok (.aload_n 0, 1) := by decide +kernel
theorem dX6_distance_72 : decode cX6_distance 72 = .ok (.getfield 65, 3) := by decide +kernel
theorem dX6_distance_75 : decode cX6_distance 75 = .ok (.bipush 25, 2) := by decide +kernel
theorem dX6_distance_77 : decode cX6_distance 77 = .ok (.aload_n 0, 1) := by decide +kernel
theorem dX6_distance_78 : decode cX6_distance 78 = .ok (.getfield 59, 3) := by decide +kernel
theorem dX6_distance_81 : decode cX6_distance 81 = .ok (.iload_n 1, 1) := by decide +kernel
theorem dX6_distance_82 : decode cX6_distance 82 = .ok (.iaload, 1) := by decide +kernel
theorem dX6_distance_83 : decode cX6_distance 83 = .ok (.imul, 1) := by decide +kernel
theorem dX6_distance_84 : decode cX6_distance 84 = .ok (.aload_n 0, 1) := by decide +kernel
theorem dX6_distance_85 : decode cX6_distance 85 = .ok (.getfield 135, 3) := by decide +kernel
theorem dX6_distance_88 : decode cX6_distance 88 = .ok (.iadd, 1) := by decide +kernel
theorem dX6_distance_89 : decode cX6_distance 89 = .ok (.iaload, 1) := by decide +kernel
theorem dX6_distance_90 : decode cX6_distance 90 = .ok (.ireturn, 1) := by decide +kernel
theorem dX6_near_0 : decode cX6_near 0 = .ok (.iconst 0, 1) := by decide +kernel
theorem dX6_near_1 : decode cX6_near 1 = .ok (.istore_n 3, 1) := by decide +kernel
theorem dX6_near_2 : decode cX6_near 2 = .ok (.iconst 0, 1) := by decide +kernel
theorem dX6_near_3 : decode cX6_near 3 = .ok (.istore 4, 2) := by decide +kernel
theorem dX6_near_5 : decode cX6_near 5 = .ok (.iload 4, 2) := by decide +kernel
theorem dX6_near_7 : decode cX6_near 7 = .ok (.aload_n 0, 1) := by decide +kernel
theorem dX6_near_8 : decode cX6_near 8 = .ok (.getfield 173, 3) := by decide +kernel
theorem dX6_near_11 : decode cX6_near 11 = .ok (.if_icmp .ge 28, 3) := by decide +kernel
theorem dX6_near_14 : decode cX6_near 14 = .ok (.iload_n 3, 1) := by decide +kernel
theorem dX6_near_15 : decode cX6_near 15 = .ok (.aload_n 0, 1) := by decide +kernel
theorem dX6_near_16 : decode cX6_near 16 = .ok (.iload 4, 2) := by decide +kernel
theorem dX6_near_18 : decode cX6_near 18 = .ok (.iload_n 2, 1) := by decide +kernel
theorem dX6_near_19 : decode cX6_near 19 = .ok (.invokevirtual 176, 3) := by decide +kernel
theorem dX6_near_22 : decode cX6_near 22 = .ok (.iload_n 1, 1) := by decide +kernel
theorem dX6_near_23 : decode cX6_near 23 = .ok (.if_icmp .gt 7, 3) := by decide +kernel
theorem dX6_near_26 : decode cX6_near 26 = .ok (.iconst 1, 1) := by decide +kernel
theorem dX6_near_27 : decode cX6_near 27 = .ok (.goto 4, 3) := by decide +kernel
theorem dX6_near_30 : decode cX6_near 30 = .ok (.iconst 0, 1) := by decide +kernel
theorem dX6_near_31 : decode cX6_near 31 = .ok (.iadd, 1) := by decide +kernel
theorem dX6_near_32 : decode cX6_near 32 = .ok (.istore_n 3, 1) := by decide +kernel
theorem dX6_near_33 : decode cX6_near 33 = .ok (.iinc 4 1, 3) := by decide +kernel
theorem dX6_near_36 : decode cX6_near 36 = .ok (.goto (-31), 3) := by decide +kernel
theorem dX6_near_39 : decode cX6_near 39 = .ok (.iload_n 3, 1) := by decide +kernel
theorem dX6_near_40 : decode cX6_near 40 = .ok (.ireturn, 1) := by decide +kernel
theorem dX6_earlier_0 : decode cX6_earlier 0 = .ok (.iconst 0, 1) := by decide +kernel
theorem dX6_earlier_1 : decode cX6_earlier 1 = .ok (.istore_n 3, 1) := by decide +kernel
theorem dX6_earlier_2 : decode cX6_earlier 2 = .ok (.iload_n 3, 1) := by decide +kernel
theorem dX6_earlier_3 : decode cX6_earlier 3 = .ok (.aload_n 0, 1) := by decide +kernel
theorem dX6_earlier_4 : decode cX6_earlier 4 = .ok (.getfield 59, 3) := by decide +kernel
theorem dX6_earlier_7 : decode cX6_earlier 7 = .ok (.iload_n 1, 1) := by decide +kernel
theorem dX6_earlier_8 : decode cX6_earlier 8 = .ok (.iaload, 1) := by decide +kernel
theorem dX6_earlier_9 : decode cX6_earlier 9 = .ok (.if_icmp .ge 44, 3) := by decide +kernel
theorem dX6_earlier_12 : decode cX6_earlier 12 = .ok (.iload_n 3, 1) := by decide +kernel
theorem dX6_earlier_13 : decode cX6_earlier 13 = .ok (.aload_n 0, 1) := by decide +kernel
theorem dX6_earlier_14 : decode cX6_earlier 14 = .ok (.getfield 59, 3) := by decide +kernel
theorem dX6_earlier_17 : decode cX6_earlier 17 = .ok (.iload_n 2, 1) := by decide +kernel
theorem dX6_earlier_18 : decode cX6_earlier 18 = .ok (.iaload, 1) := by decide +kernel
theorem dX6_earlier_19 : decode cX6_earlier 19 = .ok (.if_icmp .ge 34, 3) := by decide +kernel
theorem dX6_earlier_22 : decode cX6_earlier 22 = .ok (.aload_n 0, 1) := by decide +kernel
theorem dX6_earlier_23 : decode cX6_earlier 23 = .ok (.getfield 62, 3) := by decide +kernel
theorem dX6_earlier_26 : decode cX6_earlier 26 = .ok (.bipush 12, 2) := by decide +kernel
theorem dX6_earlier_28 : decode cX6_earlier 28 = .ok (.iload_n 1, 1) := by decide +kernel
theorem dX6_earlier_29 : decode cX6_earlier 29 = .ok (.imul, 1) := by decide +kernel
theorem dX6_earlier_30 : decode cX6_earlier 30 = .ok (.iload_n 3, 1) := by decide +kernel
theorem dX6_earlier_31 : decode cX6_earlier 31 = .ok (.iadd, 1) := by decide +kernel
theorem dX6_earlier_32 : decode cX6_earlier 32 = .ok (.iaload, 1) := by decide +kernel
theorem dX6_earlier_33 : decode cX6_earlier 33 = .ok (.aload_n 0, 1) := by decide +kernel
theorem dX6_earlier_34 : decode cX6_earlier 34 = .ok (.getfield 62, 3) := by decide +kernel
theorem dX6_earlier_37 : decode cX6_earlier 37 = .ok (.bipush 12, 2) := by decide +kernel
theorem dX6_earlier_39 : decode cX6_earlier 39 = .ok (.iload_n 2, 1) := by decide +kernel
theorem dX6_earlier_40 : decode cX6_earlier 40 = .ok (.imul, 1) := by decide +kernel
theorem dX6_earlier_41 : decode cX6_earlier 41 = .ok (.iload_n 3, 1) := by decide +kernel
theorem dX6_earlier_42 : decode cX6_earlier 42 = .ok (.iadd, 1) := by decide +kernel
theorem dX6_earlier_43 : decode cX6_earlier 43 = .ok (.iaload, 1) := by decide +kernel
theorem dX6_earlier_44 : decode cX6_earlier 44 = .ok (.if_icmp .ne 9, 3) := by decide +kernel
theorem dX6_earlier_47 : decode cX6_earlier 47 = .ok (.iinc 3 1, 3) := by decide +kernel
theorem dX6_earlier_50 : decode cX6_earlier 50 = .ok (.goto (-48), 3) := by decide +kernel
theorem dX6_earlier_53 : decode cX6_earlier 53 = .ok (.iload_n 3, 1) := by decide +kernel
theorem dX6_earlier_54 : decode cX6_earlier 54 = .ok (.aload_n 0, 1) := by decide +kernel
theorem dX6_earlier_55 : decode cX6_earlier 55 = .ok (.getfield 59, 3) := by decide +kernel
theorem dX6_earlier_58 : decode cX6_earlier 58 = .ok (.iload_n 1, 1) := by decide +kernel
theorem dX6_earlier_59 : decode cX6_earlier 59 = .ok (.iaload, 1) := by decide +kernel
theorem dX6_earlier_60 : decode cX6_earlier 60 = .ok (.if_icmp .eq 13, 3) := by decide +kernel
theorem dX6_earlier_63 : decode cX6_earlier 63 = .ok (.iload_n 3, 1) := by decide +kernel
theorem dX6_earlier_64 : decode cX6_earlier 64 = .ok (.aload_n 0, 1) := by decide +kernel
theorem dX6_earlier_65 : decode cX6_earlier 65 = .ok (.getfield 59, 3) := by decide +kernel
theorem dX6_earlier_68 : decode cX6_earlier 68 = .ok (.iload_n 2, 1) := by decide +kernel
theorem dX6_earlier_69 : decode cX6_earlier 69 = .ok (.iaload, 1) := by decide +kernel
theorem dX6_earlier_70 : decode cX6_earlier 70 = .ok (.if_icmp .ne 24, 3) := by decide +kernel
theorem dX6_earlier_73 : decode cX6_earlier 73 = .ok (.aload_n 0, 1) := by decide +kernel
theorem dX6_earlier_74 : decode cX6_earlier 74 = .ok (.getfield 59, 3) := by decide +kernel
theorem dX6_earlier_77 : decode cX6_earlier 77 = .ok (.iload_n 1, 1) := by decide +kernel
theorem dX6_earlier_78 : decode cX6_earlier 78 = .ok (.iaload, 1) := by decide +kernel
theorem dX6_earlier_79 : decode cX6_earlier 79 = .ok (.aload_n 0, 1) := by decide +kernel
theorem dX6_earlier_80 : decode cX6_earlier 80 = .ok (.getfield 59, 3) := by decide +kernel
theorem dX6_earlier_83 : decode cX6_earlier 83 = .ok (.iload_n 2, 1) := by decide +kernel
theorem dX6_earlier_84 : decode cX6_earlier 84 = .ok (.iaload, 1) := by decide +kernel
theorem dX6_earlier_85 : decode cX6_earlier 85 = .ok (.if_icmp .ge 7, 3) := by decide +kernel
theorem dX6_earlier_88 : decode cX6_earlier 88 = .ok (.iconst 1, 1) := by decide +kernel
theorem dX6_earlier_89 : decode cX6_earlier 89 = .ok (.goto 4, 3) := by decide +kernel
theorem dX6_earlier_92 : decode cX6_earlier 92 = .ok (.iconst 0, 1) := by decide +kernel
theorem dX6_earlier_93 : decode cX6_earlier 93 = .ok (.ireturn, 1) := by decide +kernel
theorem dX6_earlier_94 : decode cX6_earlier 94 = .ok (.aload_n 0, 1) := by decide +kernel
theorem dX6_earlier_95 : decode cX6_earlier 95 = .ok (.getfield 62, 3) := by decide +kernel
theorem dX6_earlier_98 : decode cX6_earlier 98 = .ok (.bipush 12, 2) := by decide +kernel
theorem dX6_earlier_100 : decode cX6_earlier 100 = .ok (.iload_n 1, 1) := by decide +kernel
theorem dX6_earlier_101 : decode cX6_earlier 101 = .ok (.imul, 1) := by decide +kernel
theorem dX6_earlier_102 : decode cX6_earlier 102 = .ok (.iload_n 3, 1) := by decide +kernel
theorem dX6_earlier_103 : decode cX6_earlier 103 = .ok (.iadd, 1) := by decide +kernel
theorem dX6_earlier_104 : decode cX6_earlier 104 = .ok (.iaload, 1) := by decide +kernel
theorem dX6_earlier_105 : decode cX6_earlier 105 = .ok (.aload_n 0, 1) := by decide +kernel
theorem dX6_earlier_106 : decode cX6_earlier 106 = .ok (.getfield 62, 3) := by decide +kernel
theorem dX6_earlier_109 : decode cX6_earlier 109 = .ok (.bipush 12, 2) := by decide +kernel
theorem dX6_earlier_111 : decode cX6_earlier 111 = .ok (.iload_n 2, 1) := by decide +kernel
theorem dX6_earlier_112 : decode cX6_earlier 112 = .ok (.imul, 1) := by decide +kernel
theorem dX6_earlier_113 : decode cX6_earlier 113 = .ok (.iload_n 3, 1) := by decide +kernel
theorem dX6_earlier_114 : decode cX6_earlier 114 = .ok (.iadd, 1) := by decide +kernel
theorem dX6_earlier_115 : decode cX6_earlier 115 = .ok (.iaload, 1) := by decide +kernel
theorem dX6_earlier_116 : decode cX6_earlier 116 = .ok (.if_icmp .ge 7, 3) := by decide +kernel
theorem dX6_earlier_119 : decode cX6_earlier 119 = .ok (.iconst 1, 1) := by decide +kernel
theorem dX6_earlier_120 : decode cX6_earlier 120 = .ok (.goto 4, 3) := by decide +kernel
theorem dX6_earlier_123 : decode cX6_earlier 123 = .ok (.iconst 0, 1) := by decide +kernel
theorem dX6_earlier_124 : decode cX6_earlier 124 = .ok (.ireturn, 1) := by decide +kernel
theorem dX6_rank_0 : decode cX6_rank 0 = .ok (.iconst 0, 1) := by decide +kernel
theorem dX6_rank_1 : decode cX6_rank 1 = .ok (.istore_n 3, 1) := by decide +kernel
theorem dX6_rank_2 : decode cX6_rank 2 = .ok (.iload_n 3, 1) := by decide +kernel
theorem dX6_rank_3 : decode cX6_rank 3 = .ok (.aload_n 0, 1) := by decide +kernel
theorem dX6_rank_4 : decode cX6_rank 4 = .ok (.getfield 173, 3) := by decide +kernel
theorem dX6_rank_7 : decode cX6_rank 7 = .ok (.if_icmp .ge 89, 3) := by decide +kernel
theorem dX6_rank_10 : decode cX6_rank 10 = .ok (.aload_n 0, 1) := by decide +kernel
theorem dX6_rank_11 : decode cX6_rank 11 = .ok (.iload_n 3, 1) := by decide +kernel
theorem dX6_rank_12 : decode cX6_rank 12 = .ok (.iload_n 2, 1) := by decide +kernel
theorem dX6_rank_13 : decode cX6_rank 13 = .ok (.invokevirtual 176, 3) := by decide +kernel
theorem dX6_rank_16 : decode cX6_rank 16 = .ok (.istore 4, 2) := by decide +kernel
theorem dX6_rank_18 : decode cX6_rank 18 = .ok (.iconst 0, 1) := by decide +kernel
theorem dX6_rank_19 : decode cX6_rank 19 = .ok (.istore 5, 2) := by decide +kernel
theorem dX6_rank_21 : decode cX6_rank 21 = .ok (.iconst 0, 1) := by decide +kernel
theorem dX6_rank_22 : decode cX6_rank 22 = .ok (.istore 6, 2) := by decide +kernel
theorem dX6_rank_24 : decode cX6_rank 24 = .ok (.iload 6, 2) := by decide +kernel
theorem dX6_rank_26 : decode cX6_rank 26 = .ok (.aload_n 0, 1) := by decide +kernel
theorem dX6_rank_27 : decode cX6_rank 27 = .ok (.getfield 173, 3) := by decide +kernel
theorem dX6_rank_30 : decode cX6_rank 30 = .ok (.if_icmp .ge 52, 3) := by decide +kernel
theorem dX6_rank_33 : decode cX6_rank 33 = .ok (.aload_n 0, 1) := by decide +kernel
theorem dX6_rank_34 : decode cX6_rank 34 = .ok (.iload 6, 2) := by decide +kernel
theorem dX6_rank_36 : decode cX6_rank 36 = .ok (.iload_n 2, 1) := by decide +kernel
theorem dX6_rank_37 : decode cX6_rank 37 = .ok (.invokevirtual 176, 3) := by decide +kernel
theorem dX6_rank_40 : decode cX6_rank 40 = .ok (.istore 7, 2) := by decide +kernel
theorem dX6_rank_42 : decode cX6_rank 42 = .ok (.iload 5, 2) := by decide +kernel
theorem dX6_rank_44 : decode cX6_rank 44 = .ok (.iload 7, 2) := by decide +kernel
theorem dX6_rank_46 : decode cX6_rank 46 = .ok (.iload 4, 2) := by decide +kernel
theorem dX6_rank_48 : decode cX6_rank 48 = .ok (.if_icmp .lt 20, 3) := by decide +kernel
theorem dX6_rank_51 : decode cX6_rank 51 = .ok (.iload 7, 2) := by decide +kernel
theorem dX6_rank_53 : decode cX6_rank 53 = .ok (.iload 4, 2) := by decide +kernel
theorem dX6_rank_55 : decode cX6_rank 55 = .ok (.if_icmp .ne 17, 3) := by decide +kernel
theorem dX6_rank_58 : decode cX6_rank 58 = .ok (.aload_n 0, 1) := by decide +kernel
theorem dX6_rank_59 : decode cX6_rank 59 = .ok (.iload 6, 2) := by decide +kernel
theorem dX6_rank_61 : decode cX6_rank 61 = .ok (.iload_n 3, 1) := by decide +kernel
theorem dX6_rank_62 : decode cX6_rank 62 = .ok (.invokevirtual 184, 3) := by decide +kernel
theorem dX6_rank_65 : decode cX6_rank 65 = .ok (.ifCond .eq 7, 3) := by decide +kernel
theorem dX6_rank_68 : decode cX6_rank 68 = .ok (.iconst 1, 1) := by decide +kernel
theorem dX6_rank_69 : decode cX6_rank 69 = .ok (.goto 4, 3) := by decide +kernel
theorem dX6_rank_72 : decode cX6_rank 72 = .ok (.iconst 0, 1) := by decide +kernel
theorem dX6_rank_73 : decode cX6_rank 73 = .ok (.iadd, 1) := by decide +kernel
theorem dX6_rank_74 : decode cX6_rank 74 = .ok (.istore 5, 2) := by decide +kernel
theorem dX6_rank_76 : decode cX6_rank 76 = .ok (.iinc 6 1, 3) := by decide +kernel
theorem dX6_rank_79 : decode cX6_rank 79 = .ok (.goto (-55), 3) := by decide +kernel
theorem dX6_rank_82 : decode cX6_rank 82 = .ok (.iload 5, 2) := by decide +kernel
theorem dX6_rank_84 : decode cX6_rank 84 = .ok (.iload_n 1, 1) := by decide +kernel
theorem dX6_rank_85 : decode cX6_rank 85 = .ok (.if_icmp .ne 5, 3) := by decide +kernel
theorem dX6_rank_88 : decode cX6_rank 88 = .ok (.iload_n 3, 1) := by decide +kernel
theorem dX6_rank_89 : decode cX6_rank 89 = .ok (.ireturn, 1) := by decide +kernel
theorem dX6_rank_90 : decode cX6_rank 90 = .ok (.iinc 3 1, 3) := by decide +kernel
theorem dX6_rank_93 : decode cX6_rank 93 = .ok (.goto (-91), 3) := by decide +kernel
theorem dX6_rank_96 : decode cX6_rank 96 = .ok (.iconst (-1), 1) := by decide +kernel
theorem dX6_rank_97 : decode cX6_rank 97 = .ok (.ireturn, 1) := by decide +kernel
