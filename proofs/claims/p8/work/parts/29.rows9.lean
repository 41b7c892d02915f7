theorem dX9_init_0 : decode cX9_init 0 = .ok (.aload_n 0, 1) := by decide +kernel
theorem dX9_init_1 : decode cX9_init 1 = .ok (.invokespecial 1, 3) := by decide +kernel
theorem dX9_init_4 : decode cX9_init 4 = .ok (.aload_n 0, 1) := by decide +kernel
theorem dX9_init_5 : decode cX9_init 5 = .ok (.sipush 600, 3) := by decide +kernel
theorem dX9_init_8 : decode cX9_init 8 = .ok (.newarray .int, 2) := by decide +kernel
theorem dX9_init_10 : decode cX9_init 10 = .ok (.putfield 7, 3) := by decide +kernel
theorem dX9_init_13 : decode cX9_init 13 = .ok (.aload_n 0, 1) := by decide +kernel
theorem dX9_init_14 : decode cX9_init 14 = .ok (.sipush 600, 3) := by decide +kernel
theorem dX9_init_17 : decode cX9_init 17 = .ok (.newarray .int, 2) := by decide +kernel
theorem dX9_init_19 : decode cX9_init 19 = .ok (.putfield 13, 3) := by decide +kernel
theorem dX9_init_22 : decode cX9_init 22 = .ok (.aload_n 0, 1) := by decide +kernel
theorem dX9_init_23 : decode cX9_init 23 = .ok (.sipush 301, 3) := by decide +kernel
theorem dX9_init_26 : decode cX9_init 26 = .ok (.newarray .int, 2) := by decide +kernel
theorem dX9_init_28 : decode cX9_init 28 = .ok (.putfield 16, 3) := by decide +kernel
theorem dX9_init_31 : decode cX9_init 31 = .ok (.aload_n 0, 1) := by decide +kernel
theorem dX9_init_32 : decode cX9_init 32 = .ok (.sipush 301, 3) := by decide +kernel
theorem dX9_init_35 : decode cX9_init 35 = .ok (.newarray .int, 2) := by decide +kernel
theorem dX9_init_37 : decode cX9_init 37 = .ok (.putfield 19, 3) := by decide +kernel
theorem dX9_init_40 : decode cX9_init 40 = .ok (.aload_n 0, 1) := by decide +kernel
theorem dX9_init_41 : decode cX9_init 41 = .ok (.sipush 301, 3) := by decide +kernel
theorem dX9_init_44 : decode cX9_init 44 = .ok (.newarray .int, 2) := by decide +kernel
theorem dX9_init_46 : decode cX9_init 46 = .ok (.putfield 22, 3) := by decide +kernel
theorem dX9_init_49 : decode cX9_init 49 = .ok (.aload_n 0, 1) := by decide +kernel
theorem dX9_init_50 : decode cX9_init 50 = .ok (.sipush 301, 3) := by decide +kernel
theorem dX9_init_53 : decode cX9_init 53 = .ok (.newarray .boolean, 2) := by decide +kernel
theorem dX9_init_55 : decode cX9_init 55 = .ok (.putfield 25, 3) := by decide +kernel
theorem dX9_init_58 : decode cX9_init 58 = .ok (.aload_n 0, 1) := by decide +kernel
theorem dX9_init_59 : decode cX9_init 59 = .ok (.bipush 8, 2) := by decide +kernel
theorem dX9_init_61 : decode cX9_init 61 = .ok (.newarray .int, 2) := by decide +kernel
theorem dX9_init_63 : decode cX9_init 63 = .ok (.putfield 29, 3) := by decide +kernel
theorem dX9_init_66 : decode cX9_init 66 = .ok (.aload_n 0, 1) := by decide +kernel
theorem dX9_init_67 : decode cX9_init 67 = .ok (.bipush 80, 2) := by decide +kernel
theorem dX9_init_69 : decode cX9_init 69 = .ok (.newarray .int, 2) := by decide +kernel
theorem dX9_init_71 : decode cX9_init 71 = .ok (.putfield 32, 3) := by decide +kernel
theorem dX9_init_74 : decode cX9_init 74 = .ok (.aload_n 0, 1) := by decide +kernel
theorem dX9_init_75 : decode cX9_init 75 = .ok (.bipush 8, 2) := by decide +kernel
theorem dX9_init_77 : decode cX9_init 77 = .ok (.newarray .int, 2) := by decide +kernel
theorem dX9_init_79 : decode cX9_init 79 = .ok (.putfield 35, 3) := by decide +kernel
theorem dX9_init_82 : decode cX9_init 82 = .ok (.aload_n 0, 1) := by decide +kernel
theorem dX9_init_83 : decode cX9_init 83 = .ok (.bipush 80, 2) := by decide +kernel
theorem dX9_init_85 : decode cX9_init 85 = .ok (.newarray .int, 2) := by decide +kernel
theorem dX9_init_87 : decode cX9_init 87 = .ok (.putfield 38, 3) := by decide +kernel
theorem dX9_init_90 : decode cX9_init 90 = .ok (.aload_n 0, 1) := by decide +kernel
theorem dX9_init_91 : decode cX9_init 91 = .ok (.bipush 80, 2) := by decide +kernel
theorem dX9_init_93 : decode cX9_init 93 = .ok (.newarray .int, 2) := by decide +kernel
theorem dX9_init_95 : decode cX9_init 95 = .ok (.putfield 41, 3) := by decide +kernel
theorem dX9_init_98 : decode cX9_init 98 = .ok (.aload_n 0, 1) := by decide +kernel
theorem dX9_init_99 : decode cX9_init 99 = .ok (.bipush 80, 2) := by decide +kernel
theorem dX9_init_101 : decode cX9_init 101 = .ok (.newarray .int, 2) := by decide +kernel
theorem dX9_init_103 : decode cX9_init 103 = .ok (.putfield 44, 3) := by decide +kernel
theorem dX9_init_106 : decode cX9_init 106 = .ok (.aload_n 0, 1) := by decide +kernel
theorem dX9_init_107 : decode cX9_init 107 = .ok (.bipush 80, 2) := by decide +kernel
theorem dX9_init_109 : decode cX9_init 109 = .ok (.newarray .int, 2) := by decide +kernel
theorem dX9_init_111 : decode cX9_init 111 = .ok (.putfield 47, 3) := by decide +kernel
theorem dX9_init_114 : decode cX9_init 114 = .ok (.aload_n 0, 1) := by decide +kernel
theorem dX9_init_115 : decode cX9_init 115 = .ok (.bipush 80, 2) := by decide +kernel
theorem dX9_init_117 : decode cX9_init 117 = .ok (.newarray .boolean, 2) := by decide +kernel
theorem dX9_init_119 : decode cX9_init 119 = .ok (.putfield 50, 3) := by decide +kernel
theorem dX9_init_122 : decode cX9_init 122 = .ok (.aload_n 0, 1) := by decide +kernel
theorem dX9_init_123 : decode cX9_init 123 = .ok (.sipush 301, 3) := by decide +kernel
theorem dX9_init_126 : decode cX9_init 126 = .ok (.newarray .int, 2) := by decide +kernel
theorem dX9_init_128 : decode cX9_init 128 = .ok (.putfield 53, 3) := by decide +kernel
theorem dX9_init_131 : decode cX9_init 131 = .ok (.aload_n 0, 1) := by decide +kernel
theorem dX9_init_132 : decode cX9_init 132 = .ok (.bipush 30, 2) := by decide +kernel
theorem dX9_init_134 : decode cX9_init 134 = .ok (.newarray .int, 2) := by decide +kernel
theorem dX9_init_136 : decode cX9_init 136 = .ok (.putfield 56, 3) := by decide +kernel
theorem dX9_init_139 : decode cX9_init 139 = .ok (.aload_n 0, 1) := by decide +kernel
theorem dX9_init_140 : decode cX9_init 140 = .ok (.bipush 30, 2) := by decide +kernel
theorem dX9_init_142 : decode cX9_init 142 = .ok (.newarray .int, 2) := by decide +kernel
theorem dX9_init_144 : decode cX9_init 144 = .ok (.putfield 59, 3) := by decide +kernel
theorem dX9_init_147 : decode cX9_init 147 = .ok (.aload_n 0, 1) := by decide +kernel
theorem dX9_init_148 : decode cX9_init 148 = .ok (.bipush 30, 2) := by decide +kernel
theorem dX9_init_150 : decode cX9_init 150 = .ok (.newarray .int, 2) := by decide +kernel
theorem dX9_init_152 : decode cX9_init 152 = .ok (.putfield 62, 3) := by decide +kernel
theorem dX9_init_155 : decode cX9_init 155 = .ok (.aload_n 0, 1) := by decide +kernel
theorem dX9_init_156 : decode cX9_init 156 = .ok (.bipush 30, 2) := by decide +kernel
theorem dX9_init_158 : decode cX9_init 158 = .ok (.newarray .int, 2) := by decide +kernel
theorem dX9_init_160 : decode cX9_init 160 = .ok (.putfield 65, 3) := by decide +kernel
theorem dX9_init_163 : decode cX9_init 163 = .ok (.aload_n 0, 1) := by decide +kernel
theorem dX9_init_164 : decode cX9_init 164 = .ok (.bipush 30, 2) := by decide +kernel
theorem dX9_init_166 : decode cX9_init 166 = .ok (.newarray .int, 2) := by decide +kernel
theorem dX9_init_168 : decode cX9_init 168 = .ok (.putfield 68, 3) := by decide +kernel
theorem dX9_init_171 : decode cX9_init 171 = .ok (.aload_n 0, 1) := by decide +kernel
theorem dX9_init_172 : decode cX9_init 172 = .ok (.bipush 30, 2) := by decide +kernel
theorem dX9_init_174 : decode cX9_init 174 = .ok (.newarray .int, 2) := by decide +kernel
theorem dX9_init_176 : decode cX9_init 176 = .ok (.putfield 71, 3) := by decide +kernel
theorem dX9_init_179 : decode cX9_init 179 = .ok (.aload_n 0, 1) := by decide +kernel
theorem dX9_init_180 : decode cX9_init 180 = .ok (.sipush 2400, 3) := by decide +kernel
theorem dX9_init_183 : decode cX9_init 183 = .ok (.newarray .int, 2) := by decide +kernel
theorem dX9_init_185 : decode cX9_init 185 = .ok (.putfield 74, 3) := by decide +kernel
theorem dX9_init_188 : decode cX9_init 188 = .ok (.aload_n 0, 1) := by decide +kernel
theorem dX9_init_189 : decode cX9_init 189 = .ok (.bipush 20, 2) := by decide +kernel
theorem dX9_init_191 : decode cX9_init 191 = .ok (.newarray .int, 2) := by decide +kernel
theorem dX9_init_193 : decode cX9_init 193 = .ok (.putfield 77, 3) := by decide +kernel
theorem dX9_init_196 : decode cX9_init 196 = .ok (.aload_n 0, 1) := by decide +kernel
theorem dX9_init_197 : decode cX9_init 197 = .ok (.bipush 20, 2) := by decide +kernel
theorem dX9_init_199 : decode cX9_init 199 = .ok (.newarray .int, 2) := by decide +kernel
theorem dX9_init_201 : decode cX9_init 201 = .ok (.putfield 80, 3) := by decide +kernel
theorem dX9_init_204 : decode cX9_init 204 = .ok (.return_, 1) := by decide +kernel
theorem dX9_isIn_0 : decode cX9_isIn 0 = .ok (.iload_n 0, 1) := by decide +kernel
theorem dX9_isIn_1 : decode cX9_isIn 1 = .ok (.iload_n 1, 1) := by decide +kernel
theorem dX9_isIn_2 : decode cX9_isIn 2 = .ok (.if_icmp .lt 12, 3) := by decide +kernel
theorem dX9_isIn_5 : decode cX9_isIn 5 = .ok (.iload_n 0, 1) := by decide +kernel
theorem dX9_isIn_6 : decode cX9_isIn 6 = .ok (.iload_n 2, 1) := by decide +kernel
theorem dX9_isIn_7 : decode cX9_isIn 7 = .ok (.if_icmp .gt 7, 3) := by decide +kernel
theorem dX9_isIn_10 : decode cX9_isIn 10 = .ok (.iconst 1, 1) := by decide +kernel
theorem dX9_isIn_11 : decode cX9_isIn 11 = .ok (.goto 4, 3) := by decide +kernel
theorem dX9_isIn_14 : decode cX9_isIn 14 = .ok (.iconst 0, 1) := by decide +kernel
theorem dX9_isIn_15 : decode cX9_isIn 15 = .ok (.ireturn, 1) := by decide +kernel
theorem dX9_feed_0 : decode cX9_feed 0 = .ok (.aload_n 0, 1) := by decide +kernel
theorem dX9_feed_1 : decode cX9_feed 1 = .ok (.getfield 83, 3) := by decide +kernel
theorem dX9_feed_4 : decode cX9_feed 4 = .ok (.bipush 20, 2) := by decide +kernel
theorem dX9_feed_6 : decode cX9_feed 6 = .ok (.iadd, 1) := by decide +kernel
theorem dX9_feed_7 : decode cX9_feed 7 = .ok (.sipush 600, 3) := by decide +kernel
theorem dX9_feed_10 : decode cX9_feed 10 = .ok (.if_icmp .le 5, 3) := by decide +kernel
theorem dX9_feed_13 : decode cX9_feed 13 = .ok (.iconst (-1), 1) := by decide +kernel
theorem dX9_feed_14 : decode cX9_feed 14 = .ok (.ireturn, 1) := by decide +kernel
theorem dX9_feed_15 : decode cX9_feed 15 = .ok (.iconst 0, 1) := by decide +kernel
theorem dX9_feed_16 : decode cX9_feed 16 = .ok (.istore 6, 2) := by decide +kernel
theorem dX9_feed_18 : decode cX9_feed 18 = .ok (.iload 6, 2) := by decide +kernel
theorem dX9_feed_20 : decode cX9_feed 20 = .ok (.bipush 20, 2) := by decide +kernel
theorem dX9_feed_22 : decode cX9_feed 22 = .ok (.if_icmp .ge 93, 3) := by decide +kernel
theorem dX9_feed_25 : decode cX9_feed 25 = .ok (.iload 6, 2) := by decide +kernel
theorem dX9_feed_27 : decode cX9_feed 27 = .ok (.iconst 4, 1) := by decide +kernel
theorem dX9_feed_28 : decode cX9_feed 28 = .ok (.if_icmp .ge 7, 3) := by decide +kernel
theorem dX9_feed_31 : decode cX9_feed 31 = .ok (.iload_n 1, 1) := by decide +kernel
theorem dX9_feed_32 : decode cX9_feed 32 = .ok (.goto 39, 3) := by decide +kernel
theorem dX9_feed_35 : decode cX9_feed 35 = .ok (.iload 6, 2) := by decide +kernel
theorem dX9_feed_37 : decode cX9_feed 37 = .ok (.bipush 8, 2) := by decide +kernel
theorem dX9_feed_39 : decode cX9_feed 39 = .ok (.if_icmp .ge 7, 3) := by decide +kernel
theorem dX9_feed_42 : decode cX9_feed 42 = .ok (.iload_n 2, 1) := by decide +kernel
theorem dX9_feed_43 : decode cX9_feed 43 = .ok (.goto 28, 3) := by decide +kernel
theorem dX9_feed_46 : decode cX9_feed 46 = .ok (.iload 6, 2) := by decide +kernel
theorem dX9_feed_48 : decode cX9_feed 48 = .ok (.bipush 12, 2) := by decide +kernel
theorem dX9_feed_50 : decode cX9_feed 50 = .ok (.if_icmp .ge 7, 3) := by decide +kernel
theorem dX9_feed_53 : decode cX9_feed 53 = .ok (.iload_n 3, 1) := by decide +kernel
theorem dX9_feed_54 : decode cX9_feed 54 = .ok (.goto 17, 3) := by decide +kernel
theorem dX9_feed_57 : decode cX9_feed 57 = .ok (.iload 6, 2) := by decide +kernel
theorem dX9_feed_59 : decode cX9_feed 59 = .ok (.bipush 16, 2) := by decide +kernel
theorem dX9_feed_61 : decode cX9_feed 61 = .ok (.if_icmp .ge 8, 3) := by decide +kernel
theorem dX9_feed_64 : decode cX9_feed 64 = .ok (.iload 4, 2) := by decide +kernel
theorem dX9_feed_66 : decode cX9_feed 66 = .ok (.goto 5, 3) := by decide +kernel
theorem dX9_feed_69 : decode cX9_feed 69 = .ok (.iload 5, 2) := by decide +kernel
theorem dX9_feed_71 : decode cX9_feed 71 = .ok (.istore 7, 2) := by decide +kernel
theorem dX9_feed_73 : decode cX9_feed 73 = .ok (.aload_n 0, 1) := by decide +kernel
theorem dX9_feed_74 : decode cX9_feed 74 = .ok (.getfield 7, 3) := by decide +kernel
theorem dX9_feed_77 : decode cX9_feed 77 = .ok (.aload_n 0, 1) := by decide +kernel
theorem dX9_feed_78 : decode cX9_feed 78 = .ok (.getfield 83, 3) := by decide +kernel
theorem dX9_feed_81 : decode cX9_feed 81 = .ok (.iload 7, 2) := by decide +kernel
theorem dX9_feed_83 : decode cX9_feed 83 = .ok (.bipush 24, 2) := by decide +kernel
theorem dX9_feed_85 : decode cX9_feed 85 = .ok (.bipush 8, 2) := by decide +kernel
theorem dX9_feed_87 : decode cX9_feed 87 = .ok (.iload 6, 2) := by decide +kernel
theorem dX9_feed_89 : decode cX9_feed 89 = .ok (.iconst 4, 1) := by decide +kernel
theorem dX9_feed_90 : decode cX9_feed 90 = .ok (.irem, 1) := by decide +kernel
theorem dX9_feed_91 : decode cX9_feed 91 = .ok (.imul, 1) := by decide +kernel
theorem dX9_feed_92 : decode cX9_feed 92 = .ok (.isub, 1) := by decide +kernel
theorem dX9_feed_93 : decode cX9_feed 93 = .ok (.ishr, 1) := by decide +kernel
theorem dX9_feed_94 : decode cX9_feed 94 = .ok (.sipush 255, 3) := by decide +kernel
theorem dX9_feed_97 : decode cX9_feed 97 = .ok (.iand, 1) := by decide +kernel
theorem dX9_feed_98 : decode cX9_feed 98 = .ok (.iastore, 1) := by decide +kernel
theorem dX9_feed_99 : decode cX9_feed 99 = .ok (.aload_n 0, 1) := by decide +kernel
theorem dX9_feed_100 : decode cX9_feed 100 = .ok (.dup, 1) := by decide +kernel
theorem dX9_feed_101 : decode cX9_feed 101 = .ok (.getfield 83, 3) := by decide +kernel
theorem dX9_feed_104 : decode cX9_feed 104 = .ok (.iconst 1, 1) := by decide +kernel
theorem dX9_feed_105 : decode cX9_feed 105 = .ok (.iadd, 1) := by decide +kernel
theorem dX9_feed_106 : decode cX9_feed 106 = .ok (.putfield 83, 3) := by decide +kernel
theorem dX9_feed_109 : decode cX9_feed 109 = .ok (.iinc 6 1, 3) := by decide +kernel
theorem dX9_feed_112 : decode cX9_feed 112 = .ok (.goto (-94), 3) := by decide +kernel
theorem dX9_feed_115 : decode cX9_feed 115 = .ok (.aload_n 0, 1) := by decide +kernel
theorem dX9_feed_116 : decode cX9_feed 116 = .ok (.getfield 83, 3) := by decide +kernel
theorem dX9_feed_119 : decode cX9_feed 119 = .ok (.ireturn, 1) := by decide +kernel
theorem dX9_end_0 : decode cX9_end 0 = .ok (.iload_n 1, 1) := by decide +kernel
theorem dX9_end_1 : decode cX9_end 1 = .ok (.iconst 0, 1) := by decide +kernel
theorem dX9_end_2 : decode cX9_end 2 = .ok (.aload_n 0, 1) := by decide +kernel
theorem dX9_end_3 : decode cX9_end 3 = .ok (.getfield 83, 3) := by decide +kernel
theorem dX9_end_6 : decode cX9_end 6 = .ok (.invokestatic 87, 3) := by decide +kernel
theorem dX9_end_9 : decode cX9_end 9 = .ok (.ifCond .ne 5, 3) := by decide +kernel
theorem dX9_end_12 : decode cX9_end 12 = .ok (.iconst 0, 1) := by decide +kernel
theorem dX9_end_13 : decode cX9_end 13 = .ok (.ireturn, 1) := by decide +kernel
theorem dX9_end_14 : decode cX9_end 14 = .ok (.aload_n 0, 1) := by decide +kernel
theorem dX9_end_15 : decode cX9_end 15 = .ok (.iload_n 1, 1) := by decide +kernel
theorem dX9_end_16 : decode cX9_end 16 = .ok (.putfield 83, 3) := by decide +kernel
theorem dX9_end_19 : decode cX9_end 19 = .ok (.iconst 1, 1) := by decide +kernel
theorem dX9_end_20 : decode cX9_end 20 = .ok (.ireturn, 1) := by decide +kernel
theorem dX9_isSmall_0 : decode cX9_isSmall 0 = .ok (.iload_n 0, 1) := by decide +kernel
theorem dX9_isSmall_1 : decode cX9_isSmall 1 = .ok (.bipush 97, 2) := by decide +kernel
theorem dX9_isSmall_3 : decode cX9_isSmall 3 = .ok (.bipush 122, 2) := by decide +kernel
theorem dX9_isSmall_5 : decode cX9_isSmall 5 = .ok (.invokestatic 87, 3) := by decide +kernel
theorem dX9_isSmall_8 : decode cX9_isSmall 8 = .ok (.ireturn, 1) := by decide +kernel
theorem dX9_isCapital_0 : decode cX9_isCapital 0 = .ok (.iload_n 0, 1) := by decide +kernel
theorem dX9_isCapital_1 : decode cX9_isCapital 1 = .ok (.bipush 65, 2) := by decide +kernel
theorem dX9_isCapital_3 : decode cX9_isCapital 3 = .ok (.bipush 90, 2) := by decide +kernel
theorem dX9_isCapital_5 : decode cX9_isCapital 5 = .ok (.invokestatic 87, 3) := by decide +kernel
theorem dX9_isCapital_8 : decode cX9_isCapital 8 = .ok (.ireturn, 1) := by decide +kernel
theorem dX9_isLetter_0 : decode cX9_isLetter 0 = .ok (.iload_n 0, 1) := by decide +kernel
theorem dX9_isLetter_1 : decode cX9_isLetter 1 = .ok (.invokestatic 91, 3) := by decide +kernel
theorem dX9_isLetter_4 : decode cX9_isLetter 4 = .ok (.ifCond .ne 10, 3) := by decide +kernel
theorem dX9_isLetter_7 : decode cX9_isLetter 7 = .ok (.iload_n 0, 1) := by decide +kernel
theorem dX9_isLetter_8 : decode cX9_isLetter 8 = .ok (.invokestatic 95, 3) := by decide +kernel
theorem dX9_isLetter_11 : decode cX9_isLetter 11 = .ok (.ifCond .eq 7, 3) := by decide +kernel
theorem dX9_isLetter_14 : decode cX9_isLetter 14 = .ok (.iconst 1, 1) := by decide +kernel
theorem dX9_isLetter_15 : decode cX9_isLetter 15 = .ok (.goto 4, 3) := by decide +kernel
theorem dX9_isLetter_18 : decode cX9_isLetter 18 = .ok (.iconst 0, 1) := by decide +kernel
theorem dX9_isLetter_19 : decode cX9_isLetter 19 = .ok (.ireturn, 1) := by decide +kernel
theorem dX9_parts_0 : decode cX9_parts 0 = .ok (.aload_n 0, 1) := by decide +kernel
theorem dX9_parts_1 : decode cX9_parts 1 = .ok (.iconst 0, 1) := by decide +kernel
theorem dX9_parts_2 : decode cX9_parts 2 = .ok (.putfield 98, 3) := by decide +kernel
theorem dX9_parts_5 : decode cX9_parts 5 = .ok (.aload_n 0, 1) := by decide +kernel
theorem dX9_parts_6 : decode cX9_parts 6 = .ok (.iconst 0, 1) := by decide +kernel
theorem dX9_parts_7 : decode cX9_parts 7 = .ok (.putfield 101, 3) := by decide +kernel
theorem dX9_parts_10 : decode cX9_parts 10 = .ok (.iconst (-1), 1) := by decide +kernel
theorem dX9_parts_11 : decode cX9_parts 11 = .ok (.istore_n 1, 1) := by decide +kernel
theorem dX9_parts_12 : decode cX9_parts 12 = .ok (.iconst 0, 1) := by decide +kernel
theorem dX9_parts_13 : decode cX9_parts 13 = .ok (.istore_n 2, 1) := by decide +kernel
theorem dX9_parts_14 : decode cX9_parts 14 = .ok (.iload_n 2, 1) := by decide +kernel
theorem dX9_parts_15 : decode cX9_parts 15 = .ok (.aload_n 0, 1) := by decide +kernel
theorem dX9_parts_16 : decode cX9_parts 16 = .ok (.getfield 104, 3) := by decide +kernel
theorem dX9_parts_19 : decode cX9_parts 19 = .ok (.if_icmp .ge 155, 3) := by decide +kernel
theorem dX9_parts_22 : decode cX9_parts 22 = .ok (.aload_n 0, 1) := by decide +kernel
theorem dX9_parts_23 : decode cX9_parts 23 = .ok (.getfield 13, 3) := by decide +kernel
theorem dX9_parts_26 : decode cX9_parts 26 = .ok (.iload_n 2, 1) := by decide +kernel
theorem dX9_parts_27 : decode cX9_parts 27 = .ok (.iaload, 1) := by decide +kernel
theorem dX9_parts_28 : decode cX9_parts 28 = .ok (.invokestatic 107, 3) := by decide +kernel
theorem dX9_parts_31 : decode cX9_parts 31 = .ok (.ifCond .ne 34, 3) := by decide +kernel
theorem dX9_parts_34 : decode cX9_parts 34 = .ok (.aload_n 0, 1) := by decide +kernel
theorem dX9_parts_35 : decode cX9_parts 35 = .ok (.dup, 1) := by decide +kernel
theorem dX9_parts_36 : decode cX9_parts 36 = .ok (.getfield 101, 3) := by decide +kernel
theorem dX9_parts_39 : decode cX9_parts 39 = .ok (.aload_n 0, 1) := by decide +kernel
theorem dX9_parts_40 : decode cX9_parts 40 = .ok (.getfield 13, 3) := by decide +kernel
theorem dX9_parts_43 : decode cX9_parts 43 = .ok (.iload_n 2, 1) := by decide +kernel
theorem dX9_parts_44 : decode cX9_parts 44 = .ok (.iaload, 1) := by decide +kernel
theorem dX9_parts_45 : decode cX9_parts 45 = .ok (.bipush 46, 2) := by decide +kernel
theorem dX9_parts_47 : decode cX9_parts 47 = .ok (.if_icmp .ne 7, 3) := by decide +kernel
theorem dX9_parts_50 : decode cX9_parts 50 = .ok (.iconst 1, 1) := by decide +kernel
theorem dX9_parts_51 : decode cX9_parts 51 = .ok (.goto 4, 3) := by decide +kernel
theorem dX9_parts_54 : decode cX9_parts 54 = .ok (.iconst 0, 1) := by decide +kernel
theorem dX9_parts_55 : decode cX9_parts 55 = .ok (.iadd, 1) := by decide +kernel
theorem dX9_parts_56 : decode cX9_parts 56 = .ok (.putfield 101, 3) := by decide +kernel
theorem dX9_parts_59 : decode cX9_parts 59 = .ok (.iinc 2 1, 3) := by decide +kernel
theorem dX9_parts_62 : decode cX9_parts 62 = .ok (.goto (-48), 3) := by decide +kernel
theorem dX9_parts_65 : decode cX9_parts 65 = .ok (.aload_n 0, 1) := by decide +kernel
theorem dX9_parts_66 : decode cX9_parts 66 = .ok (.getfield 16, 3) := by decide +kernel
theorem dX9_parts_69 : decode cX9_parts 69 = .ok (.aload_n 0, 1) := by decide +kernel
theorem dX9_parts_70 : decode cX9_parts 70 = .ok (.getfield 98, 3) := by decide +kernel
theorem dX9_parts_73 : decode cX9_parts 73 = .ok (.iload_n 2, 1) := by decide +kernel
theorem dX9_parts_74 : decode cX9_parts 74 = .ok (.iastore, 1) := by decide +kernel
theorem dX9_parts_75 : decode cX9_parts 75 = .ok (.iload_n 2, 1) := by decide +kernel
theorem dX9_parts_76 : decode cX9_parts 76 = .ok (.aload_n 0, 1) := by decide +kernel
theorem dX9_parts_77 : decode cX9_parts 77 = .ok (.getfield 104, 3) := by decide +kernel
theorem dX9_parts_80 : decode cX9_parts 80 = .ok (.if_icmp .ge 21, 3) := by decide +kernel
theorem dX9_parts_83 : decode cX9_parts 83 = .ok (.aload_n 0, 1) := by decide +kernel
theorem dX9_parts_84 : decode cX9_parts 84 = .ok (.getfield 13, 3) := by decide +kernel
theorem dX9_parts_87 : decode cX9_parts 87 = .ok (.iload_n 2, 1) := by decide +kernel
theorem dX9_parts_88 : decode cX9_parts 88 = .ok (.iaload, 1) := by decide +kernel
theorem dX9_parts_89 : decode cX9_parts 89 = .ok (.invokestatic 107, 3) := by decide +kernel
theorem dX9_parts_92 : decode cX9_parts 92 = .ok (.ifCond .eq 9, 3) := by decide +kernel
theorem dX9_parts_95 : decode cX9_parts 95 = .ok (.iinc 2 1, 3) := by decide +kernel
theorem dX9_parts_98 : decode cX9_parts 98 = .ok (.goto (-23), 3) := by decide +kernel
theorem dX9_parts_101 : decode cX9_parts 101 = .ok (.aload_n 0, 1) := by decide +kernel
theorem dX9_parts_102 : decode cX9_parts 102 = .ok (.getfield 19, 3) := by decide +kernel
theorem dX9_parts_105 : decode cX9_parts 105 = .ok (.aload_n 0, 1) := by decide +kernel
theorem dX9_parts_106 : decode cX9_parts 106 = .ok (.getfield 98, 3) := by decide +kernel
theorem dX9_parts_109 : decode cX9_parts 109 = .ok (.iload_n 2, 1) := by decide +kernel
theorem dX9_parts_110 : decode cX9_parts 110 = .ok (.aload_n 0, 1) := by decide +kernel
theorem dX9_parts_111 : decode cX9_parts 111 = .ok (.getfield 16, 3) := by decide +kernel
theorem dX9_parts_114 : decode cX9_parts 114 = .ok (.aload_n 0, 1) := by decide +kernel
theorem dX9_parts_115 : decode cX9_parts 115 = .ok (.getfield 98, 3) := by decide +kernel
theorem dX9_parts_118 : decode cX9_parts 118 = .ok (.iaload, 1) := by decide +kernel
theorem dX9_parts_119 : decode cX9_parts 119 = .ok (.isub, 1) := by decide +kernel
theorem dX9_parts_120 : decode cX9_parts 120 = .ok (.iastore, 1) := by decide +kernel
theorem dX9_parts_121 : decode cX9_parts 121 = .ok (.aload_n 0, 1) := by decide +kernel
theorem dX9_parts_122 : decode cX9_parts 122 = .ok (.getfield 22, 3) := by decide +kernel
theorem dX9_parts_125 : decode cX9_parts 125 = .ok (.aload_n 0, 1) := by decide +kernel
theorem dX9_parts_126 : decode cX9_parts 126 = .ok (.getfield 98, 3) := by decide +kernel
theorem dX9_parts_129 : decode cX9_parts 129 = .ok (.aload_n 0, 1) := by decide +kernel
theorem dX9_parts_130 : decode cX9_parts 130 = .ok (.getfield 101, 3) := by decide +kernel
theorem dX9_parts_133 : decode cX9_parts 133 = .ok (.iastore, 1) := by decide +kernel
theorem dX9_parts_134 : decode cX9_parts 134 = .ok (.aload_n 0, 1) := by decide +kernel
theorem dX9_parts_135 : decode cX9_parts 135 = .ok (.getfield 25, 3) := by decide +kernel
theorem dX9_parts_138 : decode cX9_parts 138 = .ok (.aload_n 0, 1) := by decide +kernel
theorem dX9_parts_139 : decode cX9_parts 139 = .ok (.getfield 98, 3) := by decide +kernel
theorem dX9_parts_142 : decode cX9_parts 142 = .ok (.iload_n 1, 1) := by decide +kernel
theorem dX9_parts_143 : decode cX9_parts 143 = .ok (.aload_n 0, 1) := by decide +kernel
theorem dX9_parts_144 : decode cX9_parts 144 = .ok (.getfield 101, 3) := by decide +kernel
theorem dX9_parts_147 : decode cX9_parts 147 = .ok (.if_icmp .eq 7, 3) := by decide +kernel
theorem dX9_parts_150 : decode cX9_parts 150 = .ok (.iconst 1, 1) := by decide +kernel
theorem dX9_parts_151 : decode cX9_parts 151 = .ok (.goto 4, 3) := by decide +kernel
theorem dX9_parts_154 : decode cX9_parts 154 = .ok (.iconst 0, 1) := by decide +kernel
theorem dX9_parts_155 : decode cX9_parts 155 = .ok (.bastore, 1) := by decide +kernel
theorem dX9_parts_156 : decode cX9_parts 156 = .ok (.aload_n 0, 1) := by decide +kernel
theorem dX9_parts_157 : decode cX9_parts 157 = .ok (.getfield 101, 3) := by decide +kernel
theorem dX9_parts_160 : decode cX9_parts 160 = .ok (.istore_n 1, 1) := by decide +kernel
theorem dX9_parts_161 : decode cX9_parts 161 = .ok (.aload_n 0, 1) := by decide +kernel
theorem dX9_parts_162 : decode cX9_parts 162 = .ok (.dup, 1) := by decide +kernel
theorem dX9_parts_163 : decode cX9_parts 163 = .ok (.getfield 98, 3) := by decide +kernel
theorem dX9_parts_166 : decode cX9_parts 166 = .ok (.iconst 1, 1) := by decide +kernel
theorem dX9_parts_167 : decode cX9_parts 167 = .ok (.iadd, 1) := by decide +kernel
theorem dX9_parts_168 : decode cX9_parts 168 = .ok (.putfield 98, 3) := by decide +kernel
theorem dX9_parts_171 : decode cX9_parts 171 = .ok (.goto (-157), 3) := by decide +kernel
theorem dX9_parts_174 : decode cX9_parts 174 = .ok (.return_, 1) := by decide +kernel
theorem dX9_alike_0 : decode cX9_alike 0 = .ok (.aload_n 0, 1) := by decide +kernel
theorem dX9_alike_1 : decode cX9_alike 1 = .ok (.getfield 19, 3) := by decide +kernel
theorem dX9_alike_4 : decode cX9_alike 4 = .ok (.iload_n 1, 1) := by decide +kernel
theorem dX9_alike_5 : decode cX9_alike 5 = .ok (.iaload, 1) := by decide +kernel
theorem dX9_alike_6 : decode cX9_alike 6 = .ok (.aload_n 0, 1) := by decide +kernel
theorem dX9_alike_7 : decode cX9_alike 7 = .ok (.getfield 19, 3) := by decide +kernel
theorem dX9_alike_10 : decode cX9_alike 10 = .ok (.iload_n 2, 1) := by decide +kernel
theorem dX9_alike_11 : decode cX9_alike 11 = .ok (.iaload, 1) := by decide +kernel
theorem dX9_alike_12 : decode cX9_alike 12 = .ok (.if_icmp .ne 7, 3) := by decide +kernel
theorem dX9_alike_15 : decode cX9_alike 15 = .ok (.iconst 1, 1) := by decide +kernel
theorem dX9_alike_16 : decode cX9_alike 16 = .ok (.goto 4, 3) := by decide +kernel
theorem dX9_alike_19 : decode cX9_alike 19 = .ok (.iconst 0, 1) := by decide +kernel
theorem dX9_alike_20 : decode cX9_alike 20 = .ok (.istore_n 3, 1) := by decide +kernel
theorem dX9_alike_21 : decode cX9_alike 21 = .ok (.iconst 0, 1) := by decide +kernel
theorem dX9_alike_22 : decode cX9_alike 22 = .ok (.istore 4, 2) := by decide +kernel
theorem dX9_alike_24 : decode cX9_alike 24 = .ok (.iload 4, 2) := by decide +kernel
theorem dX9_alike_26 : decode cX9_alike 26 = .ok (.aload_n 0, 1) := by decide +kernel
theorem dX9_alike_27 : decode cX9_alike 27 = .ok (.getfield 19, 3) := by decide +kernel
theorem dX9_alike_30 : decode cX9_alike 30 = .ok (.iload_n 1, 1) := by decide +kernel
theorem dX9_alike_31 : decode cX9_alike 31 = .ok (.iaload, 1) := by decide +kernel
theorem dX9_alike_32 : decode cX9_alike 32 = .ok (.if_icmp .ge 50, 3) := by decide +kernel
theorem dX9_alike_35 : decode cX9_alike 35 = .ok (.iload_n 3, 1) := by decide +kernel
theorem dX9_alike_36 : decode cX9_alike 36 = .ok (.ifCond .eq 46, 3) := by decide +kernel
theorem dX9_alike_39 : decode cX9_alike 39 = .ok (.aload_n 0, 1) := by decide +kernel
theorem dX9_alike_40 : decode cX9_alike 40 = .ok (.getfield 13, 3) := by decide +kernel
theorem dX9_alike_43 : decode cX9_alike 43 = .ok (.aload_n 0, 1) := by decide +kernel
theorem dX9_alike_44 : decode cX9_alike 44 = .ok (.getfield 16, 3) := by decide +kernel
theorem dX9_alike_47 : decode cX9_alike 47 = .ok (.iload_n 1, 1) := by decide +kernel
theorem dX9_alike_48 : decode cX9_alike 48 = .ok (.iaload, 1) := by decide +kernel
theorem dX9_alike_49 : decode cX9_alike 49 = .ok (.iload 4, 2) := by decide +kernel
theorem dX9_alike_51 : decode cX9_alike 51 = .ok (.iadd, 1) := by decide +kernel
theorem dX9_alike_52 : decode cX9_alike 52 = .ok (.iaload, 1) := by decide +kernel
theorem dX9_alike_53 : decode cX9_alike 53 = .ok (.aload_n 0, 1) := by decide +kernel
theorem dX9_alike_54 : decode cX9_alike 54 = .ok (.getfield 13, 3) := by decide +kernel
theorem dX9_alike_57 : decode cX9_alike 57 = .ok (.aload_n 0, 1) := by decide +kernel
theorem dX9_alike_58 : decode cX9_alike 58 = .ok (.getfield 16, 3) := by decide +kernel
theorem dX9_alike_61 : decode cX9_alike 61 = .ok (.iload_n 2, 1) := by decide +kernel
theorem dX9_alike_62 : decode cX9_alike 62 = .ok (.iaload, 1) := by decide +kernel
theorem dX9_alike_63 : decode cX9_alike 63 = .ok (.iload 4, 2) := by decide +kernel
theorem dX9_alike_65 : decode cX9_alike 65 = .ok (.iadd, 1) := by decide +kernel
theorem dX9_alike_66 : decode cX9_alike 66 = .ok (.iaload, 1) := by decide +kernel
theorem dX9_alike_67 : decode cX9_alike 67 = .ok (.if_icmp .ne 7, 3) := by decide +kernel
theorem dX9_alike_70 : decode cX9_alike 70 = .ok (.iconst 1, 1) := by decide +kernel
theorem dX9_alike_71 : decode cX9_alike 71 = .ok (.goto 4, 3) := by decide +kernel
theorem dX9_alike_74 : decode cX9_alike 74 = .ok (.iconst 0, 1) := by decide +kernel
theorem dX9_alike_75 : decode cX9_alike 75 = .ok (.istore_n 3, 1) := by decide +kernel
theorem dX9_alike_76 : decode cX9_alike 76 = .ok (.iinc 4 1, 3) := by decide +kernel
theorem dX9_alike_79 : decode cX9_alike 79 = .ok (.goto (-55), 3) := by decide +kernel
theorem dX9_alike_82 : decode cX9_alike 82 = .ok (.iload_n 3, 1) := by decide +kernel
theorem dX9_alike_83 : decode cX9_alike 83 = .ok (.ireturn, 1) := by decide +kernel
theorem dX9_begins_0 : decode cX9_begins 0 = .ok (.aload_n 0, 1) := by decide +kernel
theorem dX9_begins_1 : decode cX9_begins 1 = .ok (.getfield 19, 3) := by decide +kernel
theorem dX9_begins_4 : decode cX9_begins 4 = .ok (.iload_n 2, 1) := by decide +kernel
theorem dX9_begins_5 : decode cX9_begins 5 = .ok (.iaload, 1) := by decide +kernel
theorem dX9_begins_6 : decode cX9_begins 6 = .ok (.aload_n 0, 1) := by decide +kernel
theorem dX9_begins_7 : decode cX9_begins 7 = .ok (.getfield 19, 3) := by decide +kernel
theorem dX9_begins_10 : decode cX9_begins 10 = .ok (.iload_n 1, 1) := by decide +kernel
theorem dX9_begins_11 : decode cX9_begins 11 = .ok (.iaload, 1) := by decide +kernel
theorem dX9_begins_12 : decode cX9_begins 12 = .ok (.if_icmp .gt 7, 3) := by decide +kernel
theorem dX9_begins_15 : decode cX9_begins 15 = .ok (.iconst 1, 1) := by decide +kernel
theorem dX9_begins_16 : decode cX9_begins 16 = .ok (.goto 4, 3) := by decide +kernel
theorem dX9_begins_19 : decode cX9_begins 19 = .ok (.iconst 0, 1) := by decide +kernel
theorem dX9_begins_20 : decode cX9_begins 20 = .ok (.istore_n 3, 1) := by decide +kernel
theorem dX9_begins_21 : decode cX9_begins 21 = .ok (.iconst 0, 1) := by decide +kernel
theorem dX9_begins_22 : decode cX9_begins 22 = .ok (.istore 4, 2) := by decide +kernel
theorem dX9_begins_24 : decode cX9_begins 24 = .ok (.iload 4, 2) := by decide +kernel
theorem dX9_begins_26 : decode cX9_begins 26 = .ok (.aload_n 0, 1) := by decide +kernel
theorem dX9_begins_27 : decode cX9_begins 27 = .ok (.getfield 19, 3) := by decide +kernel
theorem dX9_begins_30 : decode cX9_begins 30 = .ok (.iload_n 2, 1) := by decide +kernel
theorem dX9_begins_31 : decode cX9_begins 31 = .ok (.iaload, 1) := by decide +kernel
theorem dX9_begins_32 : decode cX9_begins 32 = .ok (.if_icmp .ge 50, 3) := by decide +kernel
theorem dX9_begins_35 : decode cX9_begins 35 = .ok (.iload_n 3, 1) := by decide +kernel
theorem dX9_begins_36 : decode cX9_begins 36 = .ok (.ifCond .eq 46, 3) := by decide +kernel
theorem dX9_begins_39 : decode cX9_begins 39 = .ok (.aload_n 0, 1) := by decide +kernel
theorem dX9_begins_40 : decode cX9_begins 40 = .ok (.getfield 13, 3) := by decide +kernel
theorem dX9_begins_43 : decode cX9_begins 43 = .ok (.aload_n 0, 1) := by decide +kernel
theorem dX9_begins_44 : decode cX9_begins 44 = .ok (.getfield 16, 3) := by decide +kernel
theorem dX9_begins_47 : decode cX9_begins 47 = .ok (.iload_n 1, 1) := by decide +kernel
theorem dX9_begins_48 : decode cX9_begins 48 = .ok (.iaload, 1) := by decide +kernel
theorem dX9_begins_49 : decode cX9_begins 49 = .ok (.iload 4, 2) := by decide +kernel
theorem dX9_begins_51 : decode cX9_begins 51 = .ok (.iadd, 1) := by decide +kernel
theorem dX9_begins_52 : decode cX9_begins 52 = .ok (.iaload, 1) := by decide +kernel
theorem dX9_begins_53 : decode cX9_begins 53 = .ok (.aload_n 0, 1) := by decide +kernel
theorem dX9_begins_54 : decode cX9_begins 54 = .ok (.getfield 13, 3) := by decide +kernel
theorem dX9_begins_57 : decode cX9_begins 57 = .ok (.aload_n 0, 1) := by decide +kernel
theorem dX9_begins_58 : decode cX9_begins 58 = .ok (.getfield 16, 3) := by decide +kernel
theorem dX9_begins_61 : decode cX9_begins 61 = .ok (.iload_n 2, 1) := by decide +kernel
theorem dX9_begins_62 : decode cX9_begins 62 = .ok (.iaload, 1) := by decide +kernel
theorem dX9_begins_63 : decode cX9_begins 63 = .ok (.iload 4, 2) := by decide +kernel
theorem dX9_begins_65 : decode cX9_begins 65 = .ok (.iadd, 1) := by decide +kernel
theorem dX9_begins_66 : decode cX9_begins 66 = .ok (.iaload, 1) := by decide +kernel
theorem dX9_begins_67 : decode cX9_begins 67 = .ok (.if_icmp .ne 7, 3) := by decide +kernel
theorem dX9_begins_70 : decode cX9_begins 70 = .ok (.iconst 1, 1) := by decide +kernel
theorem dX9_begins_71 : decode cX9_begins 71 = .ok (.goto 4, 3) := by decide +kernel
theorem dX9_begins_74 : decode cX9_begins 74 = .ok (.iconst 0, 1) := by decide +kernel
theorem dX9_begins_75 : decode cX9_begins 75 = .ok (.istore_n 3, 1) := by decide +kernel
theorem dX9_begins_76 : decode cX9_begins 76 = .ok (.iinc 4 1, 3) := by decide +kernel
theorem dX9_begins_79 : decode cX9_begins 79 = .ok (.goto (-55), 3) := by decide +kernel
theorem dX9_begins_82 : decode cX9_begins 82 = .ok (.iload_n 3, 1) := by decide +kernel
theorem dX9_begins_83 : decode cX9_begins 83 = .ok (.ireturn, 1) := by decide +kernel
theorem dX9_packed_0 : decode cX9_packed 0 = .ok (.aload_n 0, 1) := by decide +kernel
theorem dX9_packed_1 : decode cX9_packed 1 = .ok (.getfield 19, 3) := by decide +kernel
theorem dX9_packed_4 : decode cX9_packed 4 = .ok (.iload_n 1, 1) := by decide +kernel
theorem dX9_packed_5 : decode cX9_packed 5 = .ok (.iaload, 1) := by decide +kernel
theorem dX9_packed_6 : decode cX9_packed 6 = .ok (.bipush 6, 2) := by decide +kernel
theorem dX9_packed_8 : decode cX9_packed 8 = .ok (.if_icmp .le 5, 3) := by decide +kernel
theorem dX9_packed_11 : decode cX9_packed 11 = .ok (.lconst 0, 1) := by decide +kernel
theorem dX9_packed_12 : decode cX9_packed 12 = .ok (.lreturn, 1) := by decide +kernel
theorem dX9_packed_13 : decode cX9_packed 13 = .ok (.lconst 0, 1) := by decide +kernel
theorem dX9_packed_14 : decode cX9_packed 14 = .ok (.lstore_n 3, 1) := by decide +kernel
theorem dX9_packed_15 : decode cX9_packed 15 = .ok (.iconst 0, 1) := by decide +kernel
theorem dX9_packed_16 : decode cX9_packed 16 = .ok (.istore 5, 2) := by decide +kernel
theorem dX9_packed_18 : decode cX9_packed 18 = .ok (.iload 5, 2) := by decide +kernel
theorem dX9_packed_20 : decode cX9_packed 20 = .ok (.aload_n 0, 1) := by decide +kernel
theorem dX9_packed_21 : decode cX9_packed 21 = .ok (.getfield 19, 3) := by decide +kernel
theorem dX9_packed_24 : decode cX9_packed 24 = .ok (.iload_n 1, 1) := by decide +kernel
theorem dX9_packed_25 : decode cX9_packed 25 = .ok (.iaload, 1) := by decide +kernel
theorem dX9_packed_26 : decode cX9_packed 26 = .ok (.if_icmp .ge 59, 3) := by decide +kernel
theorem dX9_packed_29 : decode cX9_packed 29 = .ok (.aload_n 0, 1) := by decide +kernel
theorem dX9_packed_30 : decode cX9_packed 30 = .ok (.getfield 13, 3) := by decide +kernel
theorem dX9_packed_33 : decode cX9_packed 33 = .ok (.aload_n 0, 1) := by decide +kernel
theorem dX9_packed_34 : decode cX9_packed 34 = .ok (.getfield 16, 3) := by decide +kernel
theorem dX9_packed_37 : decode cX9_packed 37 = .ok (.iload_n 1, 1) := by decide +kernel
theorem dX9_packed_38 : decode cX9_packed 38 = .ok (.iaload, 1) := by decide +kernel
theorem dX9_packed_39 : decode cX9_packed 39 = .ok (.iload 5, 2) := by decide +kernel
theorem dX9_packed_41 : decode cX9_packed 41 = .ok (.iadd, 1) := by decide +kernel
theorem dX9_packed_42 : decode cX9_packed 42 = .ok (.iaload, 1) := by decide +kernel
theorem dX9_packed_43 : decode cX9_packed 43 = .ok (.istore 6, 2) := by decide +kernel
theorem dX9_packed_45 : decode cX9_packed 45 = .ok (.lload_n 3, 1) := by decide +kernel
theorem dX9_packed_46 : decode cX9_packed 46 = .ok (.bipush 8, 2) := by decide +kernel
theorem dX9_packed_48 : decode cX9_packed 48 = .ok (.lshl, 1) := by decide +kernel
theorem dX9_packed_49 : decode cX9_packed 49 = .ok (.iload 5, 2) := by decide +kernel
theorem dX9_packed_51 : decode cX9_packed 51 = .ok (.ifCond .ne 23, 3) := by decide +kernel
theorem dX9_packed_54 : decode cX9_packed 54 = .ok (.iload_n 2, 1) := by decide +kernel
theorem dX9_packed_55 : decode cX9_packed 55 = .ok (.ifCond .eq 19, 3) := by decide +kernel
theorem dX9_packed_58 : decode cX9_packed 58 = .ok (.iload 6, 2) := by decide +kernel
theorem dX9_packed_60 : decode cX9_packed 60 = .ok (.invokestatic 95, 3) := by decide +kernel
theorem dX9_packed_63 : decode cX9_packed 63 = .ok (.ifCond .eq 11, 3) := by decide +kernel
theorem dX9_packed_66 : decode cX9_packed 66 = .ok (.iload 6, 2) := by decide +kernel
theorem dX9_packed_68 : decode cX9_packed 68 = .ok (.bipush 32, 2) := by decide +kernel
theorem dX9_packed_70 : decode cX9_packed 70 = .ok (.iadd, 1) := by decide +kernel
theorem dX9_packed_71 : decode cX9_packed 71 = .ok (.goto 5, 3) := by decide +kernel
theorem dX9_packed_74 : decode cX9_packed 74 = .ok (.iload 6, 2) := by decide +kernel
theorem dX9_packed_76 : decode cX9_packed 76 = .ok (.i2l, 1) := by decide +kernel
theorem dX9_packed_77 : decode cX9_packed 77 = .ok (.lor, 1) := by decide +kernel
theorem dX9_packed_78 : decode cX9_packed 78 = .ok (.lstore_n 3, 1) := by decide +kernel
theorem dX9_packed_79 : decode cX9_packed 79 = .ok (.iinc 5 1, 3) := by decide +kernel
theorem dX9_packed_82 : decode cX9_packed 82 = .ok (.goto (-64), 3) := by decide +kernel
theorem dX9_packed_85 : decode cX9_packed 85 = .ok (.lload_n 3, 1) := by decide +kernel
theorem dX9_packed_86 : decode cX9_packed 86 = .ok (.lreturn, 1) := by decide +kernel
theorem dX9_sexOf_0 : decode cX9_sexOf 0 = .ok (.lload_n 0, 1) := by decide +kernel
theorem dX9_sexOf_1 : decode cX9_sexOf 1 = .ok (.ldc2_w 110, 3) := by decide +kernel
theorem dX9_sexOf_4 : decode cX9_sexOf 4 = .ok (.lcmp, 1) := by decide +kernel
theorem dX9_sexOf_5 : decode cX9_sexOf 5 = .ok (.ifCond .eq 19, 3) := by decide +kernel
theorem dX9_sexOf_8 : decode cX9_sexOf 8 = .ok (.lload_n 0, 1) := by decide +kernel
theorem dX9_sexOf_9 : decode cX9_sexOf 9 = .ok (.ldc2_w 112, 3) := by decide +kernel
theorem dX9_sexOf_12 : decode cX9_sexOf 12 = .ok (.lcmp, 1) := by decide +kernel
theorem dX9_sexOf_13 : decode cX9_sexOf 13 = .ok (.ifCond .eq 11, 3) := by decide +kernel
theorem dX9_sexOf_16 : decode cX9_sexOf 16 = .ok (.lload_n 0, 1) := by decide +kernel
theorem dX9_sexOf_17 : decode cX9_sexOf 17 = .ok (.ldc2_w 114, 3) := by decide +kernel
theorem dX9_sexOf_20 : decode cX9_sexOf 20 = .ok (.lcmp, 1) := by decide +kernel
theorem dX9_sexOf_21 : decode cX9_sexOf 21 = .ok (.ifCond .ne 5, 3) := by decide +kernel
theorem dX9_sexOf_24 : decode cX9_sexOf 24 = .ok (.iconst 1, 1) := by decide +kernel
theorem dX9_sexOf_25 : decode cX9_sexOf 25 = .ok (.ireturn, 1) := by decide +kernel
theorem dX9_sexOf_26 : decode cX9_sexOf 26 = .ok (.lload_n 0, 1) := by decide +kernel
theorem dX9_sexOf_27 : decode cX9_sexOf 27 = .ok (.ldc2_w 116, 3) := by decide +kernel
theorem dX9_sexOf_30 : decode cX9_sexOf 30 = .ok (.lcmp, 1) := by decide +kernel
theorem dX9_sexOf_31 : decode cX9_sexOf 31 = .ok (.ifCond .eq 19, 3) := by decide +kernel
theorem dX9_sexOf_34 : decode cX9_sexOf 34 = .ok (.lload_n 0, 1) := by decide +kernel
theorem dX9_sexOf_35 : decode cX9_sexOf 35 = .ok (.ldc2_w 118, 3) := by decide +kernel
theorem dX9_sexOf_38 : decode cX9_sexOf 38 = .ok (.lcmp, 1) := by decide +kernel
theorem dX9_sexOf_39 : decode cX9_sexOf 39 = .ok (.ifCond .eq 11, 3) := by decide +kernel
theorem dX9_sexOf_42 : decode cX9_sexOf 42 = .ok (.lload_n 0, 1) := by decide +kernel
theorem dX9_sexOf_43 : decode cX9_sexOf 43 = .ok (.ldc2_w 120, 3) := by decide +kernel
theorem dX9_sexOf_46 : decode cX9_sexOf 46 = .ok (.lcmp, 1) := by decide +kernel
theorem dX9_sexOf_47 : decode cX9_sexOf 47 = .ok (.ifCond .ne 5, 3) := by decide +kernel
theorem dX9_sexOf_50 : decode cX9_sexOf 50 = .ok (.iconst 2, 1) := by decide +kernel
theorem dX9_sexOf_51 : decode cX9_sexOf 51 = .ok (.ireturn, 1) := by decide +kernel
theorem dX9_sexOf_52 : decode cX9_sexOf 52 = .ok (.lload_n 0, 1) := by decide +kernel
theorem dX9_sexOf_53 : decode cX9_sexOf 53 = .ok (.ldc2_w 122, 3) := by decide +kernel
theorem dX9_sexOf_56 : decode cX9_sexOf 56 = .ok (.lcmp, 1) := by decide +kernel
theorem dX9_sexOf_57 : decode cX9_sexOf 57 = .ok (.ifCond .eq 11, 3) := by decide +kernel
theorem dX9_sexOf_60 : decode cX9_sexOf 60 = .ok (.lload_n 0, 1) := by decide +kernel
theorem dX9_sexOf_61 : decode cX9_sexOf 61 = .ok (.ldc2_w 124, 3) := by decide +kernel
theorem dX9_sexOf_64 : decode cX9_sexOf 64 = .ok (.lcmp, 1) := by decide +kernel
theorem dX9_sexOf_65 : decode cX9_sexOf 65 = .ok (.ifCond .ne 5, 3) := by decide +kernel
theorem dX9_sexOf_68 : decode cX9_sexOf 68 = .ok (.iconst 3, 1) := by decide +kernel
theorem dX9_sexOf_69 : decode cX9_sexOf 69 = .ok (.ireturn, 1) := by decide +kernel
theorem dX9_sexOf_70 : decode cX9_sexOf 70 = .ok (.lload_n 0, 1) := by decide +kernel
theorem dX9_sexOf_71 : decode cX9_sexOf 71 = .ok (.ldc2_w 126, 3) := by decide +kernel
theorem dX9_sexOf_74 : decode cX9_sexOf 74 = .ok (.lcmp, 1) := by decide +kernel
theorem dX9_sexOf_75 : decode cX9_sexOf 75 = .ok (.ifCond .eq 19, 3) := by decide +kernel
theorem dX9_sexOf_78 : decode cX9_sexOf 78 = .ok (.lload_n 0, 1) := by decide +kernel
theorem dX9_sexOf_79 : decode cX9_sexOf 79 = .ok (.ldc2_w 128, 3) := by decide +kernel
theorem dX9_sexOf_82 : decode cX9_sexOf 82 = .ok (.lcmp, 1) := by decide +kernel
theorem dX9_sexOf_83 : decode cX9_sexOf 83 = .ok (.ifCond .eq 11, 3) := by decide +kernel
theorem dX9_sexOf_86 : decode cX9_sexOf 86 = .ok (.lload_n 0, 1) := by decide +kernel
theorem dX9_sexOf_87 : decode cX9_sexOf 87 = .ok (.ldc2_w 130, 3) := by decide +kernel
theorem dX9_sexOf_90 : decode cX9_sexOf 90 = .ok (.lcmp, 1) := by decide +kernel
theorem dX9_sexOf_91 : decode cX9_sexOf 91 = .ok (.ifCond .ne 7, 3) := by decide +kernel
theorem dX9_sexOf_94 : decode cX9_sexOf 94 = .ok (.iconst 4, 1) := by decide +kernel
theorem dX9_sexOf_95 : decode cX9_sexOf 95 = .ok (.goto 4, 3) := by decide +kernel
theorem dX9_sexOf_98 : decode cX9_sexOf 98 = .ok (.iconst 0, 1) := by decide +kernel
theorem dX9_sexOf_99 : decode cX9_sexOf 99 = .ok (.ireturn, 1) := by decide +kernel
theorem dX9_hasForm_0 : decode cX9_hasForm 0 = .ok (.aload_n 0, 1) := by decide +kernel
theorem dX9_hasForm_1 : decode cX9_hasForm 1 = .ok (.getfield 19, 3) := by decide +kernel
theorem dX9_hasForm_4 : decode cX9_hasForm 4 = .ok (.iload_n 1, 1) := by decide +kernel
theorem dX9_hasForm_5 : decode cX9_hasForm 5 = .ok (.iaload, 1) := by decide +kernel
theorem dX9_hasForm_6 : decode cX9_hasForm 6 = .ok (.iconst 2, 1) := by decide +kernel
theorem dX9_hasForm_7 : decode cX9_hasForm 7 = .ok (.bipush 10, 2) := by decide +kernel
theorem dX9_hasForm_9 : decode cX9_hasForm 9 = .ok (.invokestatic 87, 3) := by decide +kernel
theorem dX9_hasForm_12 : decode cX9_hasForm 12 = .ok (.ifCond .eq 24, 3) := by decide +kernel
theorem dX9_hasForm_15 : decode cX9_hasForm 15 = .ok (.aload_n 0, 1) := by decide +kernel
theorem dX9_hasForm_16 : decode cX9_hasForm 16 = .ok (.getfield 13, 3) := by decide +kernel
theorem dX9_hasForm_19 : decode cX9_hasForm 19 = .ok (.aload_n 0, 1) := by decide +kernel
theorem dX9_hasForm_20 : decode cX9_hasForm 20 = .ok (.getfield 16, 3) := by decide +kernel
theorem dX9_hasForm_23 : decode cX9_hasForm 23 = .ok (.iload_n 1, 1) := by decide +kernel
theorem dX9_hasForm_24 : decode cX9_hasForm 24 = .ok (.iaload, 1) := by decide +kernel
theorem dX9_hasForm_25 : decode cX9_hasForm 25 = .ok (.iaload, 1) := by decide +kernel
theorem dX9_hasForm_26 : decode cX9_hasForm 26 = .ok (.invokestatic 95, 3) := by decide +kernel
theorem dX9_hasForm_29 : decode cX9_hasForm 29 = .ok (.ifCond .eq 7, 3) := by decide +kernel
theorem dX9_hasForm_32 : decode cX9_hasForm 32 = .ok (.iconst 1, 1) := by decide +kernel
theorem dX9_hasForm_33 : decode cX9_hasForm 33 = .ok (.goto 4, 3) := by decide +kernel
theorem dX9_hasForm_36 : decode cX9_hasForm 36 = .ok (.iconst 0, 1) := by decide +kernel
theorem dX9_hasForm_37 : decode cX9_hasForm 37 = .ok (.istore_n 2, 1) := by decide +kernel
theorem dX9_hasForm_38 : decode cX9_hasForm 38 = .ok (.iconst 1, 1) := by decide +kernel
theorem dX9_hasForm_39 : decode cX9_hasForm 39 = .ok (.istore_n 3, 1) := by decide +kernel
theorem dX9_hasForm_40 : decode cX9_hasForm 40 = .ok (.iload_n 3, 1) := by decide +kernel
theorem dX9_hasForm_41 : decode cX9_hasForm 41 = .ok (.aload_n 0, 1) := by decide +kernel
theorem dX9_hasForm_42 : decode cX9_hasForm 42 = .ok (.getfield 19, 3) := by decide +kernel
theorem dX9_hasForm_45 : decode cX9_hasForm 45 = .ok (.iload_n 1, 1) := by decide +kernel
theorem dX9_hasForm_46 : decode cX9_hasForm 46 = .ok (.iaload, 1) := by decide +kernel
theorem dX9_hasForm_47 : decode cX9_hasForm 47 = .ok (.if_icmp .ge 30, 3) := by decide +kernel
theorem dX9_hasForm_50 : decode cX9_hasForm 50 = .ok (.iload_n 2, 1) := by decide +kernel
theorem dX9_hasForm_51 : decode cX9_hasForm 51 = .ok (.ifCond .eq 26, 3) := by decide +kernel
theorem dX9_hasForm_54 : decode cX9_hasForm 54 = .ok (.aload_n 0, 1) := by decide +kernel
theorem dX9_hasForm_55 : decode cX9_hasForm 55 = .ok (.getfield 13, 3) := by decide +kernel
theorem dX9_hasForm_58 : decode cX9_hasForm 58 = .ok (.aload_n 0, 1) := by decide +kernel
theorem dX9_hasForm_59 : decode cX9_hasForm 59 = .ok (.getfield 16, 3) := by decide +kernel
theorem dX9_hasForm_62 : decode cX9_hasForm 62 = .ok (.iload_n 1, 1) := by decide +kernel
theorem dX9_hasForm_63 : decode cX9_hasForm 63 = .ok (.iaload, 1) := by decide +kernel
theorem dX9_hasForm_64 : decode cX9_hasForm 64 = .ok (.iload_n 3, 1) := by decide +kernel
theorem dX9_hasForm_65 : decode cX9_hasForm 65 = .ok (.iadd, 1) := by decide +kernel
theorem dX9_hasForm_66 : decode cX9_hasForm 66 = .ok (.iaload, 1) := by decide +kernel
theorem dX9_hasForm_67 : decode cX9_hasForm 67 = .ok (.invokestatic 91, 3) := by decide +kernel
theorem dX9_hasForm_70 : decode cX9_hasForm 70 = .ok (.istore_n 2, 1) := by decide +kernel
theorem dX9_hasForm_71 : decode cX9_hasForm 71 = .ok (.iinc 3 1, 3) := by decide +kernel
theorem dX9_hasForm_74 : decode cX9_hasForm 74 = .ok (.goto (-34), 3) := by decide +kernel
theorem dX9_hasForm_77 : decode cX9_hasForm 77 = .ok (.iload_n 2, 1) := by decide +kernel
theorem dX9_hasForm_78 : decode cX9_hasForm 78 = .ok (.ireturn, 1) := by decide +kernel
theorem dX9_toldOf_0 : decode cX9_toldOf 0 = .ok (.iconst 0, 1) := by decide +kernel
theorem dX9_toldOf_1 : decode cX9_toldOf 1 = .ok (.istore_n 2, 1) := by decide +kernel
theorem dX9_toldOf_2 : decode cX9_toldOf 2 = .ok (.iload_n 2, 1) := by decide +kernel
theorem dX9_toldOf_3 : decode cX9_toldOf 3 = .ok (.aload_n 0, 1) := by decide +kernel
theorem dX9_toldOf_4 : decode cX9_toldOf 4 = .ok (.getfield 132, 3) := by decide +kernel
theorem dX9_toldOf_7 : decode cX9_toldOf 7 = .ok (.if_icmp .ge 95, 3) := by decide +kernel
theorem dX9_toldOf_10 : decode cX9_toldOf 10 = .ok (.aload_n 0, 1) := by decide +kernel
theorem dX9_toldOf_11 : decode cX9_toldOf 11 = .ok (.getfield 29, 3) := by decide +kernel
theorem dX9_toldOf_14 : decode cX9_toldOf 14 = .ok (.iload_n 2, 1) := by decide +kernel
theorem dX9_toldOf_15 : decode cX9_toldOf 15 = .ok (.iaload, 1) := by decide +kernel
theorem dX9_toldOf_16 : decode cX9_toldOf 16 = .ok (.aload_n 0, 1) := by decide +kernel
theorem dX9_toldOf_17 : decode cX9_toldOf 17 = .ok (.getfield 19, 3) := by decide +kernel
theorem dX9_toldOf_20 : decode cX9_toldOf 20 = .ok (.iload_n 1, 1) := by decide +kernel
theorem dX9_toldOf_21 : decode cX9_toldOf 21 = .ok (.iaload, 1) := by decide +kernel
theorem dX9_toldOf_22 : decode cX9_toldOf 22 = .ok (.if_icmp .ne 7, 3) := by decide +kernel
theorem dX9_toldOf_25 : decode cX9_toldOf 25 = .ok (.iconst 1, 1) := by decide +kernel
theorem dX9_toldOf_26 : decode cX9_toldOf 26 = .ok (.goto 4, 3) := by decide +kernel
theorem dX9_toldOf_29 : decode cX9_toldOf 29 = .ok (.iconst 0, 1) := by decide +kernel
theorem dX9_toldOf_30 : decode cX9_toldOf 30 = .ok (.istore_n 3, 1) := by decide +kernel
theorem dX9_toldOf_31 : decode cX9_toldOf 31 = .ok (.iconst 0, 1) := by decide +kernel
theorem dX9_toldOf_32 : decode cX9_toldOf 32 = .ok (.istore 4, 2) := by decide +kernel
theorem dX9_toldOf_34 : decode cX9_toldOf 34 = .ok (.iload 4, 2) := by decide +kernel
theorem dX9_toldOf_36 : decode cX9_toldOf 36 = .ok (.aload_n 0, 1) := by decide +kernel
theorem dX9_toldOf_37 : decode cX9_toldOf 37 = .ok (.getfield 19, 3) := by decide +kernel
theorem dX9_toldOf_40 : decode cX9_toldOf 40 = .ok (.iload_n 1, 1) := by decide +kernel
theorem dX9_toldOf_41 : decode cX9_toldOf 41 = .ok (.iaload, 1) := by decide +kernel
theorem dX9_toldOf_42 : decode cX9_toldOf 42 = .ok (.if_icmp .ge 48, 3) := by decide +kernel
theorem dX9_toldOf_45 : decode cX9_toldOf 45 = .ok (.iload_n 3, 1) := by decide +kernel
theorem dX9_toldOf_46 : decode cX9_toldOf 46 = .ok (.ifCond .eq 44, 3) := by decide +kernel
theorem dX9_toldOf_49 : decode cX9_toldOf 49 = .ok (.aload_n 0, 1) := by decide +kernel
theorem dX9_toldOf_50 : decode cX9_toldOf 50 = .ok (.getfield 32, 3) := by decide +kernel
theorem dX9_toldOf_53 : decode cX9_toldOf 53 = .ok (.bipush 10, 2) := by decide +kernel
theorem dX9_toldOf_55 : decode cX9_toldOf 55 = .ok (.iload_n 2, 1) := by decide +kernel
theorem dX9_toldOf_56 : decode cX9_toldOf 56 = .ok (.imul, 1) := by decide +kernel
theorem dX9_toldOf_57 : decode cX9_toldOf 57 = .ok (.iload 4, 2) := by decide +kernel
theorem dX9_toldOf_59 : decode cX9_toldOf 59 = .ok (.iadd, 1) := by decide +kernel
theorem dX9_toldOf_60 : decode cX9_toldOf 60 = .ok (.iaload, 1) := by decide +kernel
theorem dX9_toldOf_61 : decode cX9_toldOf 61 = .ok (.aload_n 0, 1) := by decide +kernel
theorem dX9_toldOf_62 : decode cX9_toldOf 62 = .ok (.getfield 13, 3) := by decide +kernel
theorem dX9_toldOf_65 : decode cX9_toldOf 65 = .ok (.aload_n 0, 1) := by decide +kernel
theorem dX9_toldOf_66 : decode cX9_toldOf 66 = .ok (.getfield 16, 3) := by decide +kernel
theorem dX9_toldOf_69 : decode cX9_toldOf 69 = .ok (.iload_n 1, 1) := by decide +kernel
theorem dX9_toldOf_70 : decode cX9_toldOf 70 = .ok (.iaload, 1) := by decide +kernel
theorem dX9_toldOf_71 : decode cX9_toldOf 71 = .ok (.iload 4, 2) := by decide +kernel
theorem dX9_toldOf_73 : decode cX9_toldOf 73 = .ok (.iadd, 1) := by decide +kernel
theorem dX9_toldOf_74 : decode cX9_toldOf 74 = .ok (.iaload, 1) := by decide +kernel
theorem dX9_toldOf_75 : decode cX9_toldOf 75 = .ok (.if_icmp .ne 7, 3) := by decide +kernel
theorem dX9_toldOf_78 : decode cX9_toldOf 78 = .ok (.iconst 1, 1) := by decide +kernel
theorem dX9_toldOf_79 : decode cX9_toldOf 79 = .ok (.goto 4, 3) := by decide +kernel
theorem dX9_toldOf_82 : decode cX9_toldOf 82 = .ok (.iconst 0, 1) := by decide +kernel
theorem dX9_toldOf_83 : decode cX9_toldOf 83 = .ok (.istore_n 3, 1) := by decide +kernel
theorem dX9_toldOf_84 : decode cX9_toldOf 84 = .ok (.iinc 4 1, 3) := by decide +kernel
theorem dX9_toldOf_87 : decode cX9_toldOf 87 = .ok (.goto (-53), 3) := by decide +kernel
theorem dX9_toldOf_90 : decode cX9_toldOf 90 = .ok (.iload_n 3, 1) := by decide +kernel
theorem dX9_toldOf_91 : decode cX9_toldOf 91 = .ok (.ifCond .eq 5, 3) := by decide +kernel
theorem dX9_toldOf_94 : decode cX9_toldOf 94 = .ok (.iload_n 2, 1) := by decide +kernel
theorem dX9_toldOf_95 : decode cX9_toldOf 95 = .ok (.ireturn, 1) := by decide +kernel
theorem dX9_toldOf_96 : decode cX9_toldOf 96 = .ok (.iinc 2 1, 3) := by decide +kernel
theorem dX9_toldOf_99 : decode cX9_toldOf 99 = .ok (.goto (-97), 3) := by decide +kernel
theorem dX9_toldOf_102 : decode cX9_toldOf 102 = .ok (.iconst (-1), 1) := by decide +kernel
theorem dX9_toldOf_103 : decode cX9_toldOf 103 = .ok (.ireturn, 1) := by decide +kernel
theorem dX9_kindOf_0 : decode cX9_kindOf 0 = .ok (.aload_n 0, 1) := by decide +kernel
theorem dX9_kindOf_1 : decode cX9_kindOf 1 = .ok (.iload_n 1, 1) := by decide +kernel
theorem dX9_kindOf_2 : decode cX9_kindOf 2 = .ok (.aload_n 0, 1) := by decide +kernel
theorem dX9_kindOf_3 : decode cX9_kindOf 3 = .ok (.getfield 25, 3) := by decide +kernel
theorem dX9_kindOf_6 : decode cX9_kindOf 6 = .ok (.iload_n 1, 1) := by decide +kernel
theorem dX9_kindOf_7 : decode cX9_kindOf 7 = .ok (.baload, 1) := by decide +kernel
theorem dX9_kindOf_8 : decode cX9_kindOf 8 = .ok (.invokevirtual 135, 3) := by decide +kernel
theorem dX9_kindOf_11 : decode cX9_kindOf 11 = .ok (.invokestatic 139, 3) := by decide +kernel
theorem dX9_kindOf_14 : decode cX9_kindOf 14 = .ok (.istore_n 2, 1) := by decide +kernel
theorem dX9_kindOf_15 : decode cX9_kindOf 15 = .ok (.iload_n 2, 1) := by decide +kernel
theorem dX9_kindOf_16 : decode cX9_kindOf 16 = .ok (.ifCond .le 5, 3) := by decide +kernel
theorem dX9_kindOf_19 : decode cX9_kindOf 19 = .ok (.iload_n 2, 1) := by decide +kernel
theorem dX9_kindOf_20 : decode cX9_kindOf 20 = .ok (.ireturn, 1) := by decide +kernel
theorem dX9_kindOf_21 : decode cX9_kindOf 21 = .ok (.aload_n 0, 1) := by decide +kernel
theorem dX9_kindOf_22 : decode cX9_kindOf 22 = .ok (.iload_n 1, 1) := by decide +kernel
theorem dX9_kindOf_23 : decode cX9_kindOf 23 = .ok (.invokevirtual 143, 3) := by decide +kernel
theorem dX9_kindOf_26 : decode cX9_kindOf 26 = .ok (.ifCond .eq 15, 3) := by decide +kernel
theorem dX9_kindOf_29 : decode cX9_kindOf 29 = .ok (.aload_n 0, 1) := by decide +kernel
theorem dX9_kindOf_30 : decode cX9_kindOf 30 = .ok (.iload_n 1, 1) := by decide +kernel
theorem dX9_kindOf_31 : decode cX9_kindOf 31 = .ok (.iconst 1, 1) := by decide +kernel
theorem dX9_kindOf_32 : decode cX9_kindOf 32 = .ok (.invokevirtual 135, 3) := by decide +kernel
theorem dX9_kindOf_35 : decode cX9_kindOf 35 = .ok (.invokestatic 139, 3) := by decide +kernel
theorem dX9_kindOf_38 : decode cX9_kindOf 38 = .ok (.ifCond .le 5, 3) := by decide +kernel
theorem dX9_kindOf_41 : decode cX9_kindOf 41 = .ok (.iconst (-1), 1) := by decide +kernel
theorem dX9_kindOf_42 : decode cX9_kindOf 42 = .ok (.ireturn, 1) := by decide +kernel
theorem dX9_kindOf_43 : decode cX9_kindOf 43 = .ok (.aload_n 0, 1) := by decide +kernel
theorem dX9_kindOf_44 : decode cX9_kindOf 44 = .ok (.getfield 25, 3) := by decide +kernel
theorem dX9_kindOf_47 : decode cX9_kindOf 47 = .ok (.iload_n 1, 1) := by decide +kernel
theorem dX9_kindOf_48 : decode cX9_kindOf 48 = .ok (.baload, 1) := by decide +kernel
theorem dX9_kindOf_49 : decode cX9_kindOf 49 = .ok (.ifCond .eq 12, 3) := by decide +kernel
theorem dX9_kindOf_52 : decode cX9_kindOf 52 = .ok (.aload_n 0, 1) := by decide +kernel
theorem dX9_kindOf_53 : decode cX9_kindOf 53 = .ok (.iload_n 1, 1) := by decide +kernel
theorem dX9_kindOf_54 : decode cX9_kindOf 54 = .ok (.invokevirtual 146, 3) := by decide +kernel
theorem dX9_kindOf_57 : decode cX9_kindOf 57 = .ok (.iconst (-1), 1) := by decide +kernel
theorem dX9_kindOf_58 : decode cX9_kindOf 58 = .ok (.if_icmp .eq 5, 3) := by decide +kernel
theorem dX9_kindOf_61 : decode cX9_kindOf 61 = .ok (.iconst 0, 1) := by decide +kernel
theorem dX9_kindOf_62 : decode cX9_kindOf 62 = .ok (.ireturn, 1) := by decide +kernel
theorem dX9_kindOf_63 : decode cX9_kindOf 63 = .ok (.iconst 0, 1) := by decide +kernel
theorem dX9_kindOf_64 : decode cX9_kindOf 64 = .ok (.istore_n 3, 1) := by decide +kernel
theorem dX9_kindOf_65 : decode cX9_kindOf 65 = .ok (.iload_n 3, 1) := by decide +kernel
theorem dX9_kindOf_66 : decode cX9_kindOf 66 = .ok (.aload_n 0, 1) := by decide +kernel
theorem dX9_kindOf_67 : decode cX9_kindOf 67 = .ok (.getfield 98, 3) := by decide +kernel
theorem dX9_kindOf_70 : decode cX9_kindOf 70 = .ok (.if_icmp .ge 29, 3) := by decide +kernel
theorem dX9_kindOf_73 : decode cX9_kindOf 73 = .ok (.aload_n 0, 1) := by decide +kernel
theorem dX9_kindOf_74 : decode cX9_kindOf 74 = .ok (.getfield 25, 3) := by decide +kernel
theorem dX9_kindOf_77 : decode cX9_kindOf 77 = .ok (.iload_n 3, 1) := by decide +kernel
theorem dX9_kindOf_78 : decode cX9_kindOf 78 = .ok (.baload, 1) := by decide +kernel
theorem dX9_kindOf_79 : decode cX9_kindOf 79 = .ok (.ifCond .ne 14, 3) := by decide +kernel
theorem dX9_kindOf_82 : decode cX9_kindOf 82 = .ok (.aload_n 0, 1) := by decide +kernel
theorem dX9_kindOf_83 : decode cX9_kindOf 83 = .ok (.iload_n 3, 1) := by decide +kernel
theorem dX9_kindOf_84 : decode cX9_kindOf 84 = .ok (.iload_n 1, 1) := by decide +kernel
theorem dX9_kindOf_85 : decode cX9_kindOf 85 = .ok (.invokevirtual 150, 3) := by decide +kernel
theorem dX9_kindOf_88 : decode cX9_kindOf 88 = .ok (.ifCond .eq 5, 3) := by decide +kernel
theorem dX9_kindOf_91 : decode cX9_kindOf 91 = .ok (.iconst 0, 1) := by decide +kernel
theorem dX9_kindOf_92 : decode cX9_kindOf 92 = .ok (.ireturn, 1) := by decide +kernel
theorem dX9_kindOf_93 : decode cX9_kindOf 93 = .ok (.iinc 3 1, 3) := by decide +kernel
theorem dX9_kindOf_96 : decode cX9_kindOf 96 = .ok (.goto (-31), 3) := by decide +kernel
theorem dX9_kindOf_99 : decode cX9_kindOf 99 = .ok (.iconst (-1), 1) := by decide +kernel
theorem dX9_kindOf_100 : decode cX9_kindOf 100 = .ok (.ireturn, 1) := by decide +kernel
theorem dX9_root_0 : decode cX9_root 0 = .ok (.iload_n 1, 1) := by decide +kernel
theorem dX9_root_1 : decode cX9_root 1 = .ok (.istore_n 2, 1) := by decide +kernel
theorem dX9_root_2 : decode cX9_root 2 = .ok (.aload_n 0, 1) := by decide +kernel
theorem dX9_root_3 : decode cX9_root 3 = .ok (.getfield 59, 3) := by decide +kernel
theorem dX9_root_6 : decode cX9_root 6 = .ok (.iload_n 2, 1) := by decide +kernel
theorem dX9_root_7 : decode cX9_root 7 = .ok (.iaload, 1) := by decide +kernel
theorem dX9_root_8 : decode cX9_root 8 = .ok (.iconst (-1), 1) := by decide +kernel
theorem dX9_root_9 : decode cX9_root 9 = .ok (.if_icmp .eq 13, 3) := by decide +kernel
theorem dX9_root_12 : decode cX9_root 12 = .ok (.aload_n 0, 1) := by decide +kernel
theorem dX9_root_13 : decode cX9_root 13 = .ok (.getfield 59, 3) := by decide +kernel
theorem dX9_root_16 : decode cX9_root 16 = .ok (.iload_n 2, 1) := by decide +kernel
theorem dX9_root_17 : decode cX9_root 17 = .ok (.iaload, 1) := by decide +kernel
theorem dX9_root_18 : decode cX9_root 18 = .ok (.istore_n 2, 1) := by decide +kernel
theorem dX9_root_19 : decode cX9_root 19 = .ok (.goto (-17), 3) := by decide +kernel
theorem dX9_root_22 : decode cX9_root 22 = .ok (.iload_n 2, 1) := by decide +kernel
theorem dX9_root_23 : decode cX9_root 23 = .ok (.ireturn, 1) := by decide +kernel
theorem dX9_personNow_0 : decode cX9_personNow 0 = .ok (.aload_n 0, 1) := by decide +kernel
theorem dX9_personNow_1 : decode cX9_personNow 1 = .ok (.getfield 44, 3) := by decide +kernel
theorem dX9_personNow_4 : decode cX9_personNow 4 = .ok (.iload_n 1, 1) := by decide +kernel
theorem dX9_personNow_5 : decode cX9_personNow 5 = .ok (.iaload, 1) := by decide +kernel
theorem dX9_personNow_6 : decode cX9_personNow 6 = .ok (.iconst (-1), 1) := by decide +kernel
theorem dX9_personNow_7 : decode cX9_personNow 7 = .ok (.if_icmp .ne 7, 3) := by decide +kernel
theorem dX9_personNow_10 : decode cX9_personNow 10 = .ok (.iconst (-1), 1) := by decide +kernel
theorem dX9_personNow_11 : decode cX9_personNow 11 = .ok (.goto 13, 3) := by decide +kernel
theorem dX9_personNow_14 : decode cX9_personNow 14 = .ok (.aload_n 0, 1) := by decide +kernel
theorem dX9_personNow_15 : decode cX9_personNow 15 = .ok (.aload_n 0, 1) := by decide +kernel
theorem dX9_personNow_16 : decode cX9_personNow 16 = .ok (.getfield 44, 3) := by decide +kernel
theorem dX9_personNow_19 : decode cX9_personNow 19 = .ok (.iload_n 1, 1) := by decide +kernel
theorem dX9_personNow_20 : decode cX9_personNow 20 = .ok (.iaload, 1) := by decide +kernel
theorem dX9_personNow_21 : decode cX9_personNow 21 = .ok (.invokevirtual 154, 3) := by decide +kernel
theorem dX9_personNow_24 : decode cX9_personNow 24 = .ok (.ireturn, 1) := by decide +kernel
theorem dX9_mentions_0 : decode cX9_mentions 0 = .ok (.aload_n 0, 1) := by decide +kernel
theorem dX9_mentions_1 : decode cX9_mentions 1 = .ok (.iconst 0, 1) := by decide +kernel
theorem dX9_mentions_2 : decode cX9_mentions 2 = .ok (.putfield 157, 3) := by decide +kernel
theorem dX9_mentions_5 : decode cX9_mentions 5 = .ok (.aload_n 0, 1) := by decide +kernel
theorem dX9_mentions_6 : decode cX9_mentions 6 = .ok (.iconst 0, 1) := by decide +kernel
theorem dX9_mentions_7 : decode cX9_mentions 7 = .ok (.putfield 160, 3) := by decide +kernel
theorem dX9_mentions_10 : decode cX9_mentions 10 = .ok (.iconst 0, 1) := by decide +kernel
theorem dX9_mentions_11 : decode cX9_mentions 11 = .ok (.istore_n 1, 1) := by decide +kernel
theorem dX9_mentions_12 : decode cX9_mentions 12 = .ok (.iload_n 1, 1) := by decide +kernel
theorem dX9_mentions_13 : decode cX9_mentions 13 = .ok (.aload_n 0, 1) := by decide +kernel
theorem dX9_mentions_14 : decode cX9_mentions 14 = .ok (.getfield 98, 3) := by decide +kernel
theorem dX9_mentions_17 : decode cX9_mentions 17 = .ok (.if_icmp .ge 87, 3) := by decide +kernel
theorem dX9_mentions_20 : decode cX9_mentions 20 = .ok (.aload_n 0, 1) := by decide +kernel
theorem dX9_mentions_21 : decode cX9_mentions 21 = .ok (.getfield 53, 3) := by decide +kernel
theorem dX9_mentions_24 : decode cX9_mentions 24 = .ok (.iload_n 1, 1) := by decide +kernel
theorem dX9_mentions_25 : decode cX9_mentions 25 = .ok (.iconst (-1), 1) := by decide +kernel
theorem dX9_mentions_26 : decode cX9_mentions 26 = .ok (.iastore, 1) := by decide +kernel
theorem dX9_mentions_27 : decode cX9_mentions 27 = .ok (.aload_n 0, 1) := by decide +kernel
theorem dX9_mentions_28 : decode cX9_mentions 28 = .ok (.iload_n 1, 1) := by decide +kernel
theorem dX9_mentions_29 : decode cX9_mentions 29 = .ok (.invokevirtual 164, 3) := by decide +kernel
theorem dX9_mentions_32 : decode cX9_mentions 32 = .ok (.istore_n 2, 1) := by decide +kernel
theorem dX9_mentions_33 : decode cX9_mentions 33 = .ok (.iload_n 2, 1) := by decide +kernel
theorem dX9_mentions_34 : decode cX9_mentions 34 = .ok (.iconst (-1), 1) := by decide +kernel
theorem dX9_mentions_35 : decode cX9_mentions 35 = .ok (.if_icmp .ne 6, 3) := by decide +kernel
theorem dX9_mentions_38 : decode cX9_mentions 38 = .ok (.goto 60, 3) := by decide +kernel
theorem dX9_mentions_41 : decode cX9_mentions 41 = .ok (.aload_n 0, 1) := by decide +kernel
theorem dX9_mentions_42 : decode cX9_mentions 42 = .ok (.getfield 157, 3) := by decide +kernel
theorem dX9_mentions_45 : decode cX9_mentions 45 = .ok (.bipush 80, 2) := by decide +kernel
theorem dX9_mentions_47 : decode cX9_mentions 47 = .ok (.if_icmp .ne 11, 3) := by decide +kernel
theorem dX9_mentions_50 : decode cX9_mentions 50 = .ok (.aload_n 0, 1) := by decide +kernel
theorem dX9_mentions_51 : decode cX9_mentions 51 = .ok (.iconst 1, 1) := by decide +kernel
theorem dX9_mentions_52 : decode cX9_mentions 52 = .ok (.putfield 160, 3) := by decide +kernel
theorem dX9_mentions_55 : decode cX9_mentions 55 = .ok (.goto 43, 3) := by decide +kernel
theorem dX9_mentions_58 : decode cX9_mentions 58 = .ok (.aload_n 0, 1) := by decide +kernel
theorem dX9_mentions_59 : decode cX9_mentions 59 = .ok (.getfield 38, 3) := by decide +kernel
theorem dX9_mentions_62 : decode cX9_mentions 62 = .ok (.aload_n 0, 1) := by decide +kernel
theorem dX9_mentions_63 : decode cX9_mentions 63 = .ok (.getfield 157, 3) := by decide +kernel
theorem dX9_mentions_66 : decode cX9_mentions 66 = .ok (.iload_n 1, 1) := by decide +kernel
theorem dX9_mentions_67 : decode cX9_mentions 67 = .ok (.iastore, 1) := by decide +kernel
theorem dX9_mentions_68 : decode cX9_mentions 68 = .ok (.aload_n 0, 1) := by decide +kernel
theorem dX9_mentions_69 : decode cX9_mentions 69 = .ok (.getfield 41, 3) := by decide +kernel
theorem dX9_mentions_72 : decode cX9_mentions 72 = .ok (.aload_n 0, 1) := by decide +kernel
theorem dX9_mentions_73 : decode cX9_mentions 73 = .ok (.getfield 157, 3) := by decide +kernel
theorem dX9_mentions_76 : decode cX9_mentions 76 = .ok (.iload_n 2, 1) := by decide +kernel
theorem dX9_mentions_77 : decode cX9_mentions 77 = .ok (.iastore, 1) := by decide +kernel
theorem dX9_mentions_78 : decode cX9_mentions 78 = .ok (.aload_n 0, 1) := by decide +kernel
theorem dX9_mentions_79 : decode cX9_mentions 79 = .ok (.getfield 53, 3) := by decide +kernel
theorem dX9_mentions_82 : decode cX9_mentions 82 = .ok (.iload_n 1, 1) := by decide +kernel
theorem dX9_mentions_83 : decode cX9_mentions 83 = .ok (.aload_n 0, 1) := by decide +kernel
theorem dX9_mentions_84 : decode cX9_mentions 84 = .ok (.getfield 157, 3) := by decide +kernel
theorem dX9_mentions_87 : decode cX9_mentions 87 = .ok (.iastore, 1) := by decide +kernel
theorem dX9_mentions_88 : decode cX9_mentions 88 = .ok (.aload_n 0, 1) := by decide +kernel
theorem dX9_mentions_89 : decode cX9_mentions 89 = .ok (.dup, 1) := by decide +kernel
theorem dX9_mentions_90 : decode cX9_mentions 90 = .ok (.getfield 157, 3) := by decide +kernel
theorem dX9_mentions_93 : decode cX9_mentions 93 = .ok (.iconst 1, 1) := by decide +kernel
theorem dX9_mentions_94 : decode cX9_mentions 94 = .ok (.iadd, 1) := by decide +kernel
theorem dX9_mentions_95 : decode cX9_mentions 95 = .ok (.putfield 157, 3) := by decide +kernel
theorem dX9_mentions_98 : decode cX9_mentions 98 = .ok (.iinc 1 1, 3) := by decide +kernel
theorem dX9_mentions_101 : decode cX9_mentions 101 = .ok (.goto (-89), 3) := by decide +kernel
theorem dX9_mentions_104 : decode cX9_mentions 104 = .ok (.return_, 1) := by decide +kernel
theorem dX9_comes_0 : decode cX9_comes 0 = .ok (.aload_n 0, 1) := by decide +kernel
theorem dX9_comes_1 : decode cX9_comes 1 = .ok (.getfield 167, 3) := by decide +kernel
theorem dX9_comes_4 : decode cX9_comes 4 = .ok (.bipush 30, 2) := by decide +kernel
theorem dX9_comes_6 : decode cX9_comes 6 = .ok (.if_icmp .ne 5, 3) := by decide +kernel
theorem dX9_comes_9 : decode cX9_comes 9 = .ok (.iconst (-1), 1) := by decide +kernel
theorem dX9_comes_10 : decode cX9_comes 10 = .ok (.ireturn, 1) := by decide +kernel
theorem dX9_comes_11 : decode cX9_comes 11 = .ok (.aload_n 0, 1) := by decide +kernel
theorem dX9_comes_12 : decode cX9_comes 12 = .ok (.getfield 56, 3) := by decide +kernel
theorem dX9_comes_15 : decode cX9_comes 15 = .ok (.aload_n 0, 1) := by decide +kernel
theorem dX9_comes_16 : decode cX9_comes 16 = .ok (.getfield 167, 3) := by decide +kernel
theorem dX9_comes_19 : decode cX9_comes 19 = .ok (.iload_n 1, 1) := by decide +kernel
theorem dX9_comes_20 : decode cX9_comes 20 = .ok (.iastore, 1) := by decide +kernel
theorem dX9_comes_21 : decode cX9_comes 21 = .ok (.aload_n 0, 1) := by decide +kernel
theorem dX9_comes_22 : decode cX9_comes 22 = .ok (.getfield 59, 3) := by decide +kernel
theorem dX9_comes_25 : decode cX9_comes 25 = .ok (.aload_n 0, 1) := by decide +kernel
theorem dX9_comes_26 : decode cX9_comes 26 = .ok (.getfield 167, 3) := by decide +kernel
theorem dX9_comes_29 : decode cX9_comes 29 = .ok (.iconst (-1), 1) := by decide +kernel
theorem dX9_comes_30 : decode cX9_comes 30 = .ok (.iastore, 1) := by decide +kernel
theorem dX9_comes_31 : decode cX9_comes 31 = .ok (.aload_n 0, 1) := by decide +kernel
theorem dX9_comes_32 : decode cX9_comes 32 = .ok (.getfield 62, 3) := by decide +kernel
theorem dX9_comes_35 : decode cX9_comes 35 = .ok (.aload_n 0, 1) := by decide +kernel
theorem dX9_comes_36 : decode cX9_comes 36 = .ok (.getfield 167, 3) := by decide +kernel
theorem dX9_comes_39 : decode cX9_comes 39 = .ok (.iconst (-1), 1) := by decide +kernel
theorem dX9_comes_40 : decode cX9_comes 40 = .ok (.iastore, 1) := by decide +kernel
theorem dX9_comes_41 : decode cX9_comes 41 = .ok (.aload_n 0, 1) := by decide +kernel
theorem dX9_comes_42 : decode cX9_comes 42 = .ok (.getfield 65, 3) := by decide +kernel
theorem dX9_comes_45 : decode cX9_comes 45 = .ok (.aload_n 0, 1) := by decide +kernel
theorem dX9_comes_46 : decode cX9_comes 46 = .ok (.getfield 167, 3) := by decide +kernel
theorem dX9_comes_49 : decode cX9_comes 49 = .ok (.iconst (-1), 1) := by decide +kernel
theorem dX9_comes_50 : decode cX9_comes 50 = .ok (.iastore, 1) := by decide +kernel
theorem dX9_comes_51 : decode cX9_comes 51 = .ok (.aload_n 0, 1) := by decide +kernel
theorem dX9_comes_52 : decode cX9_comes 52 = .ok (.getfield 68, 3) := by decide +kernel
theorem dX9_comes_55 : decode cX9_comes 55 = .ok (.aload_n 0, 1) := by decide +kernel
theorem dX9_comes_56 : decode cX9_comes 56 = .ok (.getfield 167, 3) := by decide +kernel
theorem dX9_comes_59 : decode cX9_comes 59 = .ok (.iconst 0, 1) := by decide +kernel
theorem dX9_comes_60 : decode cX9_comes 60 = .ok (.iastore, 1) := by decide +kernel
theorem dX9_comes_61 : decode cX9_comes 61 = .ok (.aload_n 0, 1) := by decide +kernel
theorem dX9_comes_62 : decode cX9_comes 62 = .ok (.getfield 71, 3) := by decide +kernel
theorem dX9_comes_65 : decode cX9_comes 65 = .ok (.aload_n 0, 1) := by decide +kernel
theorem dX9_comes_66 : decode cX9_comes 66 = .ok (.getfield 167, 3) := by decide +kernel
theorem dX9_comes_69 : decode cX9_comes 69 = .ok (.iconst 0, 1) := by decide +kernel
theorem dX9_comes_70 : decode cX9_comes 70 = .ok (.iastore, 1) := by decide +kernel
theorem dX9_comes_71 : decode cX9_comes 71 = .ok (.aload_n 0, 1) := by decide +kernel
theorem dX9_comes_72 : decode cX9_comes 72 = .ok (.dup, 1) := by decide +kernel
theorem dX9_comes_73 : decode cX9_comes 73 = .ok (.getfield 167, 3) := by decide +kernel
theorem dX9_comes_76 : decode cX9_comes 76 = .ok (.iconst 1, 1) := by decide +kernel
theorem dX9_comes_77 : decode cX9_comes 77 = .ok (.iadd, 1) := by decide +kernel
theorem dX9_comes_78 : decode cX9_comes 78 = .ok (.putfield 167, 3) := by decide +kernel
theorem dX9_comes_81 : decode cX9_comes 81 = .ok (.aload_n 0, 1) := by decide +kernel
theorem dX9_comes_82 : decode cX9_comes 82 = .ok (.getfield 167, 3) := by decide +kernel
theorem dX9_comes_85 : decode cX9_comes 85 = .ok (.iconst 1, 1) := by decide +kernel
theorem dX9_comes_86 : decode cX9_comes 86 = .ok (.isub, 1) := by decide +kernel
theorem dX9_comes_87 : decode cX9_comes 87 = .ok (.ireturn, 1) := by decide +kernel
theorem dX9_puts_0 : decode cX9_puts 0 = .ok (.aload_n 0, 1) := by decide +kernel
theorem dX9_puts_1 : decode cX9_puts 1 = .ok (.getfield 74, 3) := by decide +kernel
theorem dX9_puts_4 : decode cX9_puts 4 = .ok (.bipush 80, 2) := by decide +kernel
theorem dX9_puts_6 : decode cX9_puts 6 = .ok (.iload_n 1, 1) := by decide +kernel
theorem dX9_puts_7 : decode cX9_puts 7 = .ok (.imul, 1) := by decide +kernel
theorem dX9_puts_8 : decode cX9_puts 8 = .ok (.aload_n 0, 1) := by decide +kernel
theorem dX9_puts_9 : decode cX9_puts 9 = .ok (.getfield 71, 3) := by decide +kernel
theorem dX9_puts_12 : decode cX9_puts 12 = .ok (.iload_n 1, 1) := by decide +kernel
theorem dX9_puts_13 : decode cX9_puts 13 = .ok (.iaload, 1) := by decide +kernel
theorem dX9_puts_14 : decode cX9_puts 14 = .ok (.iadd, 1) := by decide +kernel
theorem dX9_puts_15 : decode cX9_puts 15 = .ok (.iload_n 2, 1) := by decide +kernel
theorem dX9_puts_16 : decode cX9_puts 16 = .ok (.iastore, 1) := by decide +kernel
theorem dX9_puts_17 : decode cX9_puts 17 = .ok (.aload_n 0, 1) := by decide +kernel
theorem dX9_puts_18 : decode cX9_puts 18 = .ok (.getfield 71, 3) := by decide +kernel
theorem dX9_puts_21 : decode cX9_puts 21 = .ok (.iload_n 1, 1) := by decide +kernel
theorem dX9_puts_22 : decode cX9_puts 22 = .ok (.dup2, 1) := by decide +kernel
theorem dX9_puts_23 : decode cX9_puts 23 = .ok (.iaload, 1) := by decide +kernel
theorem dX9_puts_24 : decode cX9_puts 24 = .ok (.iconst 1, 1) := by decide +kernel
theorem dX9_puts_25 : decode cX9_puts 25 = .ok (.iadd, 1) := by decide +kernel
theorem dX9_puts_26 : decode cX9_puts 26 = .ok (.iastore, 1) := by decide +kernel
theorem dX9_puts_27 : decode cX9_puts 27 = .ok (.return_, 1) := by decide +kernel
theorem dX9_ofName_0 : decode cX9_ofName 0 = .ok (.iconst 0, 1) := by decide +kernel
theorem dX9_ofName_1 : decode cX9_ofName 1 = .ok (.istore_n 2, 1) := by decide +kernel
theorem dX9_ofName_2 : decode cX9_ofName 2 = .ok (.iload_n 2, 1) := by decide +kernel
theorem dX9_ofName_3 : decode cX9_ofName 3 = .ok (.aload_n 0, 1) := by decide +kernel
theorem dX9_ofName_4 : decode cX9_ofName 4 = .ok (.getfield 167, 3) := by decide +kernel
theorem dX9_ofName_7 : decode cX9_ofName 7 = .ok (.if_icmp .ge 68, 3) := by decide +kernel
theorem dX9_ofName_10 : decode cX9_ofName 10 = .ok (.iconst 0, 1) := by decide +kernel
theorem dX9_ofName_11 : decode cX9_ofName 11 = .ok (.istore_n 3, 1) := by decide +kernel
theorem dX9_ofName_12 : decode cX9_ofName 12 = .ok (.iload_n 3, 1) := by decide +kernel
theorem dX9_ofName_13 : decode cX9_ofName 13 = .ok (.aload_n 0, 1) := by decide +kernel
theorem dX9_ofName_14 : decode cX9_ofName 14 = .ok (.getfield 71, 3) := by decide +kernel
theorem dX9_ofName_17 : decode cX9_ofName 17 = .ok (.iload_n 2, 1) := by decide +kernel
theorem dX9_ofName_18 : decode cX9_ofName 18 = .ok (.iaload, 1) := by decide +kernel
theorem dX9_ofName_19 : decode cX9_ofName 19 = .ok (.if_icmp .ge 50, 3) := by decide +kernel
theorem dX9_ofName_22 : decode cX9_ofName 22 = .ok (.aload_n 0, 1) := by decide +kernel
theorem dX9_ofName_23 : decode cX9_ofName 23 = .ok (.getfield 59, 3) := by decide +kernel
theorem dX9_ofName_26 : decode cX9_ofName 26 = .ok (.iload_n 2, 1) := by decide +kernel
theorem dX9_ofName_27 : decode cX9_ofName 27 = .ok (.iaload, 1) := by decide +kernel
theorem dX9_ofName_28 : decode cX9_ofName 28 = .ok (.iconst (-1), 1) := by decide +kernel
theorem dX9_ofName_29 : decode cX9_ofName 29 = .ok (.if_icmp .ne 40, 3) := by decide +kernel
theorem dX9_ofName_32 : decode cX9_ofName 32 = .ok (.aload_n 0, 1) := by decide +kernel
theorem dX9_ofName_33 : decode cX9_ofName 33 = .ok (.aload_n 0, 1) := by decide +kernel
theorem dX9_ofName_34 : decode cX9_ofName 34 = .ok (.getfield 38, 3) := by decide +kernel
theorem dX9_ofName_37 : decode cX9_ofName 37 = .ok (.aload_n 0, 1) := by decide +kernel
theorem dX9_ofName_38 : decode cX9_ofName 38 = .ok (.getfield 74, 3) := by decide +kernel
theorem dX9_ofName_41 : decode cX9_ofName 41 = .ok (.bipush 80, 2) := by decide +kernel
theorem dX9_ofName_43 : decode cX9_ofName 43 = .ok (.iload_n 2, 1) := by decide +kernel
theorem dX9_ofName_44 : decode cX9_ofName 44 = .ok (.imul, 1) := by decide +kernel
theorem dX9_ofName_45 : decode cX9_ofName 45 = .ok (.iload_n 3, 1) := by decide +kernel
theorem dX9_ofName_46 : decode cX9_ofName 46 = .ok (.iadd, 1) := by decide +kernel
theorem dX9_ofName_47 : decode cX9_ofName 47 = .ok (.iaload, 1) := by decide +kernel
theorem dX9_ofName_48 : decode cX9_ofName 48 = .ok (.iaload, 1) := by decide +kernel
theorem dX9_ofName_49 : decode cX9_ofName 49 = .ok (.aload_n 0, 1) := by decide +kernel
theorem dX9_ofName_50 : decode cX9_ofName 50 = .ok (.getfield 38, 3) := by decide +kernel
theorem dX9_ofName_53 : decode cX9_ofName 53 = .ok (.iload_n 1, 1) := by decide +kernel
theorem dX9_ofName_54 : decode cX9_ofName 54 = .ok (.iaload, 1) := by decide +kernel
theorem dX9_ofName_55 : decode cX9_ofName 55 = .ok (.invokevirtual 150, 3) := by decide +kernel
theorem dX9_ofName_58 : decode cX9_ofName 58 = .ok (.ifCond .eq 5, 3) := by decide +kernel
theorem dX9_ofName_61 : decode cX9_ofName 61 = .ok (.iload_n 2, 1) := by decide +kernel
theorem dX9_ofName_62 : decode cX9_ofName 62 = .ok (.ireturn, 1) := by decide +kernel
theorem dX9_ofName_63 : decode cX9_ofName 63 = .ok (.iinc 3 1, 3) := by decide +kernel
theorem dX9_ofName_66 : decode cX9_ofName 66 = .ok (.goto (-54), 3) := by decide +kernel
theorem dX9_ofName_69 : decode cX9_ofName 69 = .ok (.iinc 2 1, 3) := by decide +kernel
theorem dX9_ofName_72 : decode cX9_ofName 72 = .ok (.goto (-70), 3) := by decide +kernel
theorem dX9_ofName_75 : decode cX9_ofName 75 = .ok (.iconst (-1), 1) := by decide +kernel
theorem dX9_ofName_76 : decode cX9_ofName 76 = .ok (.ireturn, 1) := by decide +kernel
theorem dX9_byBeginning_0 : decode cX9_byBeginning 0 = .ok (.iconst (-1), 1) := by decide +kernel
theorem dX9_byBeginning_1 : decode cX9_byBeginning 1 = .ok (.istore_n 3, 1) := by decide +kernel
theorem dX9_byBeginning_2 : decode cX9_byBeginning 2 = .ok (.aload_n 0, 1) := by decide +kernel
theorem dX9_byBeginning_3 : decode cX9_byBeginning 3 = .ok (.getfield 38, 3) := by decide +kernel
theorem dX9_byBeginning_6 : decode cX9_byBeginning 6 = .ok (.iload_n 1, 1) := by decide +kernel
theorem dX9_byBeginning_7 : decode cX9_byBeginning 7 = .ok (.iaload, 1) := by decide +kernel
theorem dX9_byBeginning_8 : decode cX9_byBeginning 8 = .ok (.istore 4, 2) := by decide +kernel
theorem dX9_byBeginning_10 : decode cX9_byBeginning 10 = .ok (.iconst 0, 1) := by decide +kernel
theorem dX9_byBeginning_11 : decode cX9_byBeginning 11 = .ok (.istore 5, 2) := by decide +kernel
theorem dX9_byBeginning_13 : decode cX9_byBeginning 13 = .ok (.iload 5, 2) := by decide +kernel
theorem dX9_byBeginning_15 : decode cX9_byBeginning 15 = .ok (.aload_n 0, 1) := by decide +kernel
theorem dX9_byBeginning_16 : decode cX9_byBeginning 16 = .ok (.getfield 167, 3) := by decide +kernel
theorem dX9_byBeginning_19 : decode cX9_byBeginning 19 = .ok (.if_icmp .ge 134, 3) := by decide +kernel
theorem dX9_byBeginning_22 : decode cX9_byBeginning 22 = .ok (.iconst 0, 1) := by decide +kernel
theorem dX9_byBeginning_23 : decode cX9_byBeginning 23 = .ok (.istore 6, 2) := by decide +kernel
theorem dX9_byBeginning_25 : decode cX9_byBeginning 25 = .ok (.iconst 0, 1) := by decide +kernel
theorem dX9_byBeginning_26 : decode cX9_byBeginning 26 = .ok (.istore 7, 2) := by decide +kernel
theorem dX9_byBeginning_28 : decode cX9_byBeginning 28 = .ok (.iload 7, 2) := by decide +kernel
theorem dX9_byBeginning_30 : decode cX9_byBeginning 30 = .ok (.aload_n 0, 1) := by decide +kernel
theorem dX9_byBeginning_31 : decode cX9_byBeginning 31 = .ok (.getfield 71, 3) := by decide +kernel
theorem dX9_byBeginning_34 : decode cX9_byBeginning 34 = .ok (.iload 5, 2) := by decide +kernel
theorem dX9_byBeginning_36 : decode cX9_byBeginning 36 = .ok (.iaload, 1) := by decide +kernel
theorem dX9_byBeginning_37 : decode cX9_byBeginning 37 = .ok (.if_icmp .ge 92, 3) := by decide +kernel
theorem dX9_byBeginning_40 : decode cX9_byBeginning 40 = .ok (.aload_n 0, 1) := by decide +kernel
theorem dX9_byBeginning_41 : decode cX9_byBeginning 41 = .ok (.getfield 59, 3) := by decide +kernel
theorem dX9_byBeginning_44 : decode cX9_byBeginning 44 = .ok (.iload 5, 2) := by decide +kernel
theorem dX9_byBeginning_46 : decode cX9_byBeginning 46 = .ok (.iaload, 1) := by decide +kernel
theorem dX9_byBeginning_47 : decode cX9_byBeginning 47 = .ok (.iconst (-1), 1) := by decide +kernel
theorem dX9_byBeginning_48 : decode cX9_byBeginning 48 = .ok (.if_icmp .ne 81, 3) := by decide +kernel
theorem dX9_byBeginning_51 : decode cX9_byBeginning 51 = .ok (.aload_n 0, 1) := by decide +kernel
theorem dX9_byBeginning_52 : decode cX9_byBeginning 52 = .ok (.getfield 38, 3) := by decide +kernel
theorem dX9_byBeginning_55 : decode cX9_byBeginning 55 = .ok (.aload_n 0, 1) := by decide +kernel
theorem dX9_byBeginning_56 : decode cX9_byBeginning 56 = .ok (.getfield 74, 3) := by decide +kernel
theorem dX9_byBeginning_59 : decode cX9_byBeginning 59 = .ok (.bipush 80, 2) := by decide +kernel
theorem dX9_byBeginning_61 : decode cX9_byBeginning 61 = .ok (.iload 5, 2) := by decide +kernel
theorem dX9_byBeginning_63 : decode cX9_byBeginning 63 = .ok (.imul, 1) := by decide +kernel
theorem dX9_byBeginning_64 : decode cX9_byBeginning 64 = .ok (.iload 7, 2) := by decide +kernel
theorem dX9_byBeginning_66 : decode cX9_byBeginning 66 = .ok (.iadd, 1) := by decide +kernel
theorem dX9_byBeginning_67 : decode cX9_byBeginning 67 = .ok (.iaload, 1) := by decide +kernel
theorem dX9_byBeginning_68 : decode cX9_byBeginning 68 = .ok (.iaload, 1) := by decide +kernel
theorem dX9_byBeginning_69 : decode cX9_byBeginning 69 = .ok (.istore 8, 2) := by decide +kernel
theorem dX9_byBeginning_71 : decode cX9_byBeginning 71 = .ok (.iload 6, 2) := by decide +kernel
theorem dX9_byBeginning_73 : decode cX9_byBeginning 73 = .ok (.ifCond .ne 43, 3) := by decide +kernel
theorem dX9_byBeginning_76 : decode cX9_byBeginning 76 = .ok (.iload_n 2, 1) := by decide +kernel
theorem dX9_byBeginning_77 : decode cX9_byBeginning 77 = .ok (.ifCond .eq 28, 3) := by decide +kernel
theorem dX9_byBeginning_80 : decode cX9_byBeginning 80 = .ok (.aload_n 0, 1) := by decide +kernel
theorem dX9_byBeginning_81 : decode cX9_byBeginning 81 = .ok (.getfield 19, 3) := by decide +kernel
theorem dX9_byBeginning_84 : decode cX9_byBeginning 84 = .ok (.iload 8, 2) := by decide +kernel
theorem dX9_byBeginning_86 : decode cX9_byBeginning 86 = .ok (.iaload, 1) := by decide +kernel
theorem dX9_byBeginning_87 : decode cX9_byBeginning 87 = .ok (.iconst 2, 1) := by decide +kernel
theorem dX9_byBeginning_88 : decode cX9_byBeginning 88 = .ok (.if_icmp .le 32, 3) := by decide +kernel
theorem dX9_byBeginning_91 : decode cX9_byBeginning 91 = .ok (.aload_n 0, 1) := by decide +kernel
theorem dX9_byBeginning_92 : decode cX9_byBeginning 92 = .ok (.iload 4, 2) := by decide +kernel
theorem dX9_byBeginning_94 : decode cX9_byBeginning 94 = .ok (.iload 8, 2) := by decide +kernel
theorem dX9_byBeginning_96 : decode cX9_byBeginning 96 = .ok (.invokevirtual 170, 3) := by decide +kernel
theorem dX9_byBeginning_99 : decode cX9_byBeginning 99 = .ok (.ifCond .eq 21, 3) := by decide +kernel
theorem dX9_byBeginning_102 : decode cX9_byBeginning 102 = .ok (.goto 14, 3) := by decide +kernel
theorem dX9_byBeginning_105 : decode cX9_byBeginning 105 = .ok (.aload_n 0, 1) := by decide +kernel
theorem dX9_byBeginning_106 : decode cX9_byBeginning 106 = .ok (.iload 8, 2) := by decide +kernel
theorem dX9_byBeginning_108 : decode cX9_byBeginning 108 = .ok (.iload 4, 2) := by decide +kernel
theorem dX9_byBeginning_110 : decode cX9_byBeginning 110 = .ok (.invokevirtual 170, 3) := by decide +kernel
theorem dX9_byBeginning_113 : decode cX9_byBeginning 113 = .ok (.ifCond .eq 7, 3) := by decide +kernel
theorem dX9_byBeginning_116 : decode cX9_byBeginning 116 = .ok (.iconst 1, 1) := by decide +kernel
theorem dX9_byBeginning_117 : decode cX9_byBeginning 117 = .ok (.goto 4, 3) := by decide +kernel
theorem dX9_byBeginning_120 : decode cX9_byBeginning 120 = .ok (.iconst 0, 1) := by decide +kernel
theorem dX9_byBeginning_121 : decode cX9_byBeginning 121 = .ok (.istore 6, 2) := by decide +kernel
theorem dX9_byBeginning_123 : decode cX9_byBeginning 123 = .ok (.iinc 7 1, 3) := by decide +kernel
theorem dX9_byBeginning_126 : decode cX9_byBeginning 126 = .ok (.goto (-98), 3) := by decide +kernel
theorem dX9_byBeginning_129 : decode cX9_byBeginning 129 = .ok (.iload 6, 2) := by decide +kernel
theorem dX9_byBeginning_131 : decode cX9_byBeginning 131 = .ok (.ifCond .ne 6, 3) := by decide +kernel
theorem dX9_byBeginning_134 : decode cX9_byBeginning 134 = .ok (.goto 13, 3) := by decide +kernel
theorem dX9_byBeginning_137 : decode cX9_byBeginning 137 = .ok (.iload_n 3, 1) := by decide +kernel
theorem dX9_byBeginning_138 : decode cX9_byBeginning 138 = .ok (.iconst (-1), 1) := by decide +kernel
theorem dX9_byBeginning_139 : decode cX9_byBeginning 139 = .ok (.if_icmp .eq 5, 3) := by decide +kernel
theorem dX9_byBeginning_142 : decode cX9_byBeginning 142 = .ok (.iconst (-1), 1) := by decide +kernel
theorem dX9_byBeginning_143 : decode cX9_byBeginning 143 = .ok (.ireturn, 1) := by decide +kernel
theorem dX9_byBeginning_144 : decode cX9_byBeginning 144 = .ok (.iload 5, 2) := by decide +kernel
theorem dX9_byBeginning_146 : decode cX9_byBeginning 146 = .ok (.istore_n 3, 1) := by decide +kernel
theorem dX9_byBeginning_147 : decode cX9_byBeginning 147 = .ok (.iinc 5 1, 3) := by decide +kernel
theorem dX9_byBeginning_150 : decode cX9_byBeginning 150 = .ok (.goto (-137), 3) := by decide +kernel
theorem dX9_byBeginning_153 : decode cX9_byBeginning 153 = .ok (.iload_n 3, 1) := by decide +kernel
theorem dX9_byBeginning_154 : decode cX9_byBeginning 154 = .ok (.ireturn, 1) := by decide +kernel
theorem dX9_reads_0 : decode cX9_reads 0 = .ok (.aload_n 0, 1) := by decide +kernel
theorem dX9_reads_1 : decode cX9_reads 1 = .ok (.iload_n 1, 1) := by decide +kernel
theorem dX9_reads_2 : decode cX9_reads 2 = .ok (.invokevirtual 173, 3) := by decide +kernel
theorem dX9_reads_5 : decode cX9_reads 5 = .ok (.istore_n 2, 1) := by decide +kernel
theorem dX9_reads_6 : decode cX9_reads 6 = .ok (.iload_n 2, 1) := by decide +kernel
theorem dX9_reads_7 : decode cX9_reads 7 = .ok (.iconst (-1), 1) := by decide +kernel
theorem dX9_reads_8 : decode cX9_reads 8 = .ok (.if_icmp .eq 5, 3) := by decide +kernel
theorem dX9_reads_11 : decode cX9_reads 11 = .ok (.iload_n 2, 1) := by decide +kernel
theorem dX9_reads_12 : decode cX9_reads 12 = .ok (.ireturn, 1) := by decide +kernel
theorem dX9_reads_13 : decode cX9_reads 13 = .ok (.aload_n 0, 1) := by decide +kernel
theorem dX9_reads_14 : decode cX9_reads 14 = .ok (.aload_n 0, 1) := by decide +kernel
theorem dX9_reads_15 : decode cX9_reads 15 = .ok (.getfield 38, 3) := by decide +kernel
theorem dX9_reads_18 : decode cX9_reads 18 = .ok (.iload_n 1, 1) := by decide +kernel
theorem dX9_reads_19 : decode cX9_reads 19 = .ok (.iaload, 1) := by decide +kernel
theorem dX9_reads_20 : decode cX9_reads 20 = .ok (.invokevirtual 146, 3) := by decide +kernel
theorem dX9_reads_23 : decode cX9_reads 23 = .ok (.istore_n 3, 1) := by decide +kernel
theorem dX9_reads_24 : decode cX9_reads 24 = .ok (.iload_n 3, 1) := by decide +kernel
theorem dX9_reads_25 : decode cX9_reads 25 = .ok (.iconst (-1), 1) := by decide +kernel
theorem dX9_reads_26 : decode cX9_reads 26 = .ok (.if_icmp .ne 7, 3) := by decide +kernel
theorem dX9_reads_29 : decode cX9_reads 29 = .ok (.iconst 0, 1) := by decide +kernel
theorem dX9_reads_30 : decode cX9_reads 30 = .ok (.goto 9, 3) := by decide +kernel
theorem dX9_reads_33 : decode cX9_reads 33 = .ok (.aload_n 0, 1) := by decide +kernel
theorem dX9_reads_34 : decode cX9_reads 34 = .ok (.getfield 35, 3) := by decide +kernel
theorem dX9_reads_37 : decode cX9_reads 37 = .ok (.iload_n 3, 1) := by decide +kernel
theorem dX9_reads_38 : decode cX9_reads 38 = .ok (.iaload, 1) := by decide +kernel
theorem dX9_reads_39 : decode cX9_reads 39 = .ok (.istore 4, 2) := by decide +kernel
theorem dX9_reads_41 : decode cX9_reads 41 = .ok (.aload_n 0, 1) := by decide +kernel
theorem dX9_reads_42 : decode cX9_reads 42 = .ok (.getfield 19, 3) := by decide +kernel
theorem dX9_reads_45 : decode cX9_reads 45 = .ok (.aload_n 0, 1) := by decide +kernel
theorem dX9_reads_46 : decode cX9_reads 46 = .ok (.getfield 38, 3) := by decide +kernel
theorem dX9_reads_49 : decode cX9_reads 49 = .ok (.iload_n 1, 1) := by decide +kernel
theorem dX9_reads_50 : decode cX9_reads 50 = .ok (.iaload, 1) := by decide +kernel
theorem dX9_reads_51 : decode cX9_reads 51 = .ok (.iaload, 1) := by decide +kernel
theorem dX9_reads_52 : decode cX9_reads 52 = .ok (.iconst 2, 1) := by decide +kernel
theorem dX9_reads_53 : decode cX9_reads 53 = .ok (.if_icmp .le 12, 3) := by decide +kernel
theorem dX9_reads_56 : decode cX9_reads 56 = .ok (.aload_n 0, 1) := by decide +kernel
theorem dX9_reads_57 : decode cX9_reads 57 = .ok (.iload_n 1, 1) := by decide +kernel
theorem dX9_reads_58 : decode cX9_reads 58 = .ok (.iconst 0, 1) := by decide +kernel
theorem dX9_reads_59 : decode cX9_reads 59 = .ok (.invokevirtual 176, 3) := by decide +kernel
theorem dX9_reads_62 : decode cX9_reads 62 = .ok (.goto 4, 3) := by decide +kernel
theorem dX9_reads_65 : decode cX9_reads 65 = .ok (.iconst (-1), 1) := by decide +kernel
theorem dX9_reads_66 : decode cX9_reads 66 = .ok (.istore_n 2, 1) := by decide +kernel
theorem dX9_reads_67 : decode cX9_reads 67 = .ok (.iload_n 2, 1) := by decide +kernel
theorem dX9_reads_68 : decode cX9_reads 68 = .ok (.iconst (-1), 1) := by decide +kernel
theorem dX9_reads_69 : decode cX9_reads 69 = .ok (.if_icmp .ne 10, 3) := by decide +kernel
theorem dX9_reads_72 : decode cX9_reads 72 = .ok (.aload_n 0, 1) := by decide +kernel
theorem dX9_reads_73 : decode cX9_reads 73 = .ok (.iload_n 1, 1) := by decide +kernel
theorem dX9_reads_74 : decode cX9_reads 74 = .ok (.iconst 1, 1) := by decide +kernel
theorem dX9_reads_75 : decode cX9_reads 75 = .ok (.invokevirtual 176, 3) := by decide +kernel
theorem dX9_reads_78 : decode cX9_reads 78 = .ok (.istore_n 2, 1) := by decide +kernel
theorem dX9_reads_79 : decode cX9_reads 79 = .ok (.iload_n 2, 1) := by decide +kernel
theorem dX9_reads_80 : decode cX9_reads 80 = .ok (.iconst (-1), 1) := by decide +kernel
theorem dX9_reads_81 : decode cX9_reads 81 = .ok (.if_icmp .ne 10, 3) := by decide +kernel
theorem dX9_reads_84 : decode cX9_reads 84 = .ok (.aload_n 0, 1) := by decide +kernel
theorem dX9_reads_85 : decode cX9_reads 85 = .ok (.iload 4, 2) := by decide +kernel
theorem dX9_reads_87 : decode cX9_reads 87 = .ok (.invokevirtual 180, 3) := by decide +kernel
theorem dX9_reads_90 : decode cX9_reads 90 = .ok (.istore_n 2, 1) := by decide +kernel
theorem dX9_reads_91 : decode cX9_reads 91 = .ok (.iload_n 2, 1) := by decide +kernel
theorem dX9_reads_92 : decode cX9_reads 92 = .ok (.iconst (-1), 1) := by decide +kernel
theorem dX9_reads_93 : decode cX9_reads 93 = .ok (.if_icmp .ne 5, 3) := by decide +kernel
theorem dX9_reads_96 : decode cX9_reads 96 = .ok (.iconst (-1), 1) := by decide +kernel
theorem dX9_reads_97 : decode cX9_reads 97 = .ok (.ireturn, 1) := by decide +kernel
theorem dX9_reads_98 : decode cX9_reads 98 = .ok (.aload_n 0, 1) := by decide +kernel
theorem dX9_reads_99 : decode cX9_reads 99 = .ok (.iload_n 2, 1) := by decide +kernel
theorem dX9_reads_100 : decode cX9_reads 100 = .ok (.iload_n 1, 1) := by decide +kernel
theorem dX9_reads_101 : decode cX9_reads 101 = .ok (.invokevirtual 183, 3) := by decide +kernel
theorem dX9_reads_104 : decode cX9_reads 104 = .ok (.aload_n 0, 1) := by decide +kernel
theorem dX9_reads_105 : decode cX9_reads 105 = .ok (.getfield 56, 3) := by decide +kernel
theorem dX9_reads_108 : decode cX9_reads 108 = .ok (.iload_n 2, 1) := by decide +kernel
theorem dX9_reads_109 : decode cX9_reads 109 = .ok (.aload_n 0, 1) := by decide +kernel
theorem dX9_reads_110 : decode cX9_reads 110 = .ok (.getfield 56, 3) := by decide +kernel
theorem dX9_reads_113 : decode cX9_reads 113 = .ok (.iload_n 2, 1) := by decide +kernel
theorem dX9_reads_114 : decode cX9_reads 114 = .ok (.iaload, 1) := by decide +kernel
theorem dX9_reads_115 : decode cX9_reads 115 = .ok (.ifCond .ne 8, 3) := by decide +kernel
theorem dX9_reads_118 : decode cX9_reads 118 = .ok (.iload 4, 2) := by decide +kernel
theorem dX9_reads_120 : decode cX9_reads 120 = .ok (.goto 9, 3) := by decide +kernel
theorem dX9_reads_123 : decode cX9_reads 123 = .ok (.aload_n 0, 1) := by decide +kernel
theorem dX9_reads_124 : decode cX9_reads 124 = .ok (.getfield 56, 3) := by decide +kernel
theorem dX9_reads_127 : decode cX9_reads 127 = .ok (.iload_n 2, 1) := by decide +kernel
theorem dX9_reads_128 : decode cX9_reads 128 = .ok (.iaload, 1) := by decide +kernel
theorem dX9_reads_129 : decode cX9_reads 129 = .ok (.iastore, 1) := by decide +kernel
theorem dX9_reads_130 : decode cX9_reads 130 = .ok (.iload_n 2, 1) := by decide +kernel
theorem dX9_reads_131 : decode cX9_reads 131 = .ok (.ireturn, 1) := by decide +kernel
theorem dX9_fits_0 : decode cX9_fits 0 = .ok (.aload_n 0, 1) := by decide +kernel
theorem dX9_fits_1 : decode cX9_fits 1 = .ok (.getfield 59, 3) := by decide +kernel
theorem dX9_fits_4 : decode cX9_fits 4 = .ok (.iload_n 1, 1) := by decide +kernel
theorem dX9_fits_5 : decode cX9_fits 5 = .ok (.iaload, 1) := by decide +kernel
theorem dX9_fits_6 : decode cX9_fits 6 = .ok (.iconst (-1), 1) := by decide +kernel
theorem dX9_fits_7 : decode cX9_fits 7 = .ok (.if_icmp .ne 25, 3) := by decide +kernel
theorem dX9_fits_10 : decode cX9_fits 10 = .ok (.aload_n 0, 1) := by decide +kernel
theorem dX9_fits_11 : decode cX9_fits 11 = .ok (.getfield 65, 3) := by decide +kernel
theorem dX9_fits_14 : decode cX9_fits 14 = .ok (.iload_n 1, 1) := by decide +kernel
theorem dX9_fits_15 : decode cX9_fits 15 = .ok (.iaload, 1) := by decide +kernel
theorem dX9_fits_16 : decode cX9_fits 16 = .ok (.iconst (-1), 1) := by decide +kernel
theorem dX9_fits_17 : decode cX9_fits 17 = .ok (.if_icmp .eq 15, 3) := by decide +kernel
theorem dX9_fits_20 : decode cX9_fits 20 = .ok (.aload_n 0, 1) := by decide +kernel
theorem dX9_fits_21 : decode cX9_fits 21 = .ok (.getfield 65, 3) := by decide +kernel
theorem dX9_fits_24 : decode cX9_fits 24 = .ok (.iload_n 1, 1) := by decide +kernel
theorem dX9_fits_25 : decode cX9_fits 25 = .ok (.iaload, 1) := by decide +kernel
theorem dX9_fits_26 : decode cX9_fits 26 = .ok (.iload_n 3, 1) := by decide +kernel
theorem dX9_fits_27 : decode cX9_fits 27 = .ok (.iconst 2, 1) := by decide +kernel
theorem dX9_fits_28 : decode cX9_fits 28 = .ok (.isub, 1) := by decide +kernel
theorem dX9_fits_29 : decode cX9_fits 29 = .ok (.if_icmp .ge 5, 3) := by decide +kernel
theorem dX9_fits_32 : decode cX9_fits 32 = .ok (.iconst 0, 1) := by decide +kernel
theorem dX9_fits_33 : decode cX9_fits 33 = .ok (.ireturn, 1) := by decide +kernel
theorem dX9_fits_34 : decode cX9_fits 34 = .ok (.iload_n 2, 1) := by decide +kernel
theorem dX9_fits_35 : decode cX9_fits 35 = .ok (.iconst 4, 1) := by decide +kernel
theorem dX9_fits_36 : decode cX9_fits 36 = .ok (.if_icmp .ne 21, 3) := by decide +kernel
theorem dX9_fits_39 : decode cX9_fits 39 = .ok (.aload_n 0, 1) := by decide +kernel
theorem dX9_fits_40 : decode cX9_fits 40 = .ok (.getfield 56, 3) := by decide +kernel
theorem dX9_fits_43 : decode cX9_fits 43 = .ok (.iload_n 1, 1) := by decide +kernel
theorem dX9_fits_44 : decode cX9_fits 44 = .ok (.iaload, 1) := by decide +kernel
theorem dX9_fits_45 : decode cX9_fits 45 = .ok (.iconst 4, 1) := by decide +kernel
theorem dX9_fits_46 : decode cX9_fits 46 = .ok (.if_icmp .ne 7, 3) := by decide +kernel
theorem dX9_fits_49 : decode cX9_fits 49 = .ok (.iconst 1, 1) := by decide +kernel
theorem dX9_fits_50 : decode cX9_fits 50 = .ok (.goto 31, 3) := by decide +kernel
theorem dX9_fits_53 : decode cX9_fits 53 = .ok (.iconst 0, 1) := by decide +kernel
theorem dX9_fits_54 : decode cX9_fits 54 = .ok (.goto 27, 3) := by decide +kernel
theorem dX9_fits_57 : decode cX9_fits 57 = .ok (.aload_n 0, 1) := by decide +kernel
theorem dX9_fits_58 : decode cX9_fits 58 = .ok (.getfield 56, 3) := by decide +kernel
theorem dX9_fits_61 : decode cX9_fits 61 = .ok (.iload_n 1, 1) := by decide +kernel
theorem dX9_fits_62 : decode cX9_fits 62 = .ok (.iaload, 1) := by decide +kernel
theorem dX9_fits_63 : decode cX9_fits 63 = .ok (.ifCond .eq 13, 3) := by decide +kernel
theorem dX9_fits_66 : decode cX9_fits 66 = .ok (.aload_n 0, 1) := by decide +kernel
theorem dX9_fits_67 : decode cX9_fits 67 = .ok (.getfield 56, 3) := by decide +kernel
theorem dX9_fits_70 : decode cX9_fits 70 = .ok (.iload_n 1, 1) := by decide +kernel
theorem dX9_fits_71 : decode cX9_fits 71 = .ok (.iaload, 1) := by decide +kernel
theorem dX9_fits_72 : decode cX9_fits 72 = .ok (.iload_n 2, 1) := by decide +kernel
theorem dX9_fits_73 : decode cX9_fits 73 = .ok (.if_icmp .ne 7, 3) := by decide +kernel
theorem dX9_fits_76 : decode cX9_fits 76 = .ok (.iconst 1, 1) := by decide +kernel
theorem dX9_fits_77 : decode cX9_fits 77 = .ok (.goto 4, 3) := by decide +kernel
theorem dX9_fits_80 : decode cX9_fits 80 = .ok (.iconst 0, 1) := by decide +kernel
theorem dX9_fits_81 : decode cX9_fits 81 = .ok (.ireturn, 1) := by decide +kernel
theorem dX9_guesses_0 : decode cX9_guesses 0 = .ok (.aload_n 0, 1) := by decide +kernel
theorem dX9_guesses_1 : decode cX9_guesses 1 = .ok (.getfield 22, 3) := by decide +kernel
theorem dX9_guesses_4 : decode cX9_guesses 4 = .ok (.aload_n 0, 1) := by decide +kernel
theorem dX9_guesses_5 : decode cX9_guesses 5 = .ok (.getfield 38, 3) := by decide +kernel
theorem dX9_guesses_8 : decode cX9_guesses 8 = .ok (.iload_n 1, 1) := by decide +kernel
theorem dX9_guesses_9 : decode cX9_guesses 9 = .ok (.iaload, 1) := by decide +kernel
theorem dX9_guesses_10 : decode cX9_guesses 10 = .ok (.iaload, 1) := by decide +kernel
theorem dX9_guesses_11 : decode cX9_guesses 11 = .ok (.istore_n 2, 1) := by decide +kernel
theorem dX9_guesses_12 : decode cX9_guesses 12 = .ok (.iconst (-1), 1) := by decide +kernel
theorem dX9_guesses_13 : decode cX9_guesses 13 = .ok (.istore_n 3, 1) := by decide +kernel
theorem dX9_guesses_14 : decode cX9_guesses 14 = .ok (.iconst (-1), 1) := by decide +kernel
theorem dX9_guesses_15 : decode cX9_guesses 15 = .ok (.istore 4, 2) := by decide +kernel
theorem dX9_guesses_17 : decode cX9_guesses 17 = .ok (.iconst 0, 1) := by decide +kernel
theorem dX9_guesses_18 : decode cX9_guesses 18 = .ok (.istore 5, 2) := by decide +kernel
theorem dX9_guesses_20 : decode cX9_guesses 20 = .ok (.iload 5, 2) := by decide +kernel
theorem dX9_guesses_22 : decode cX9_guesses 22 = .ok (.aload_n 0, 1) := by decide +kernel
theorem dX9_guesses_23 : decode cX9_guesses 23 = .ok (.getfield 167, 3) := by decide +kernel
theorem dX9_guesses_26 : decode cX9_guesses 26 = .ok (.if_icmp .ge 98, 3) := by decide +kernel
theorem dX9_guesses_29 : decode cX9_guesses 29 = .ok (.aload_n 0, 1) := by decide +kernel
theorem dX9_guesses_30 : decode cX9_guesses 30 = .ok (.iload 5, 2) := by decide +kernel
theorem dX9_guesses_32 : decode cX9_guesses 32 = .ok (.aload_n 0, 1) := by decide +kernel
theorem dX9_guesses_33 : decode cX9_guesses 33 = .ok (.getfield 41, 3) := by decide +kernel
theorem dX9_guesses_36 : decode cX9_guesses 36 = .ok (.iload_n 1, 1) := by decide +kernel
theorem dX9_guesses_37 : decode cX9_guesses 37 = .ok (.iaload, 1) := by decide +kernel
theorem dX9_guesses_38 : decode cX9_guesses 38 = .ok (.iload_n 2, 1) := by decide +kernel
theorem dX9_guesses_39 : decode cX9_guesses 39 = .ok (.invokevirtual 187, 3) := by decide +kernel
theorem dX9_guesses_42 : decode cX9_guesses 42 = .ok (.ifCond .ne 6, 3) := by decide +kernel
theorem dX9_guesses_45 : decode cX9_guesses 45 = .ok (.goto 73, 3) := by decide +kernel
theorem dX9_guesses_48 : decode cX9_guesses 48 = .ok (.aload_n 0, 1) := by decide +kernel
theorem dX9_guesses_49 : decode cX9_guesses 49 = .ok (.getfield 47, 3) := by decide +kernel
theorem dX9_guesses_52 : decode cX9_guesses 52 = .ok (.iload_n 1, 1) := by decide +kernel
theorem dX9_guesses_53 : decode cX9_guesses 53 = .ok (.dup2, 1) := by decide +kernel
theorem dX9_guesses_54 : decode cX9_guesses 54 = .ok (.iaload, 1) := by decide +kernel
theorem dX9_guesses_55 : decode cX9_guesses 55 = .ok (.iconst 1, 1) := by decide +kernel
theorem dX9_guesses_56 : decode cX9_guesses 56 = .ok (.iload 5, 2) := by decide +kernel
theorem dX9_guesses_58 : decode cX9_guesses 58 = .ok (.ishl, 1) := by decide +kernel
theorem dX9_guesses_59 : decode cX9_guesses 59 = .ok (.ior, 1) := by decide +kernel
theorem dX9_guesses_60 : decode cX9_guesses 60 = .ok (.iastore, 1) := by decide +kernel
theorem dX9_guesses_61 : decode cX9_guesses 61 = .ok (.iload_n 3, 1) := by decide +kernel
theorem dX9_guesses_62 : decode cX9_guesses 62 = .ok (.iconst (-1), 1) := by decide +kernel
theorem dX9_guesses_63 : decode cX9_guesses 63 = .ok (.if_icmp .eq 19, 3) := by decide +kernel
theorem dX9_guesses_66 : decode cX9_guesses 66 = .ok (.aload_n 0, 1) := by decide +kernel
theorem dX9_guesses_67 : decode cX9_guesses 67 = .ok (.getfield 62, 3) := by decide +kernel
theorem dX9_guesses_70 : decode cX9_guesses 70 = .ok (.iload 5, 2) := by decide +kernel
theorem dX9_guesses_72 : decode cX9_guesses 72 = .ok (.iaload, 1) := by decide +kernel
theorem dX9_guesses_73 : decode cX9_guesses 73 = .ok (.aload_n 0, 1) := by decide +kernel
theorem dX9_guesses_74 : decode cX9_guesses 74 = .ok (.getfield 62, 3) := by decide +kernel
theorem dX9_guesses_77 : decode cX9_guesses 77 = .ok (.iload_n 3, 1) := by decide +kernel
theorem dX9_guesses_78 : decode cX9_guesses 78 = .ok (.iaload, 1) := by decide +kernel
theorem dX9_guesses_79 : decode cX9_guesses 79 = .ok (.if_icmp .le 12, 3) := by decide +kernel
theorem dX9_guesses_82 : decode cX9_guesses 82 = .ok (.iload_n 3, 1) := by decide +kernel
theorem dX9_guesses_83 : decode cX9_guesses 83 = .ok (.istore 4, 2) := by decide +kernel
theorem dX9_guesses_85 : decode cX9_guesses 85 = .ok (.iload 5, 2) := by decide +kernel
theorem dX9_guesses_87 : decode cX9_guesses 87 = .ok (.istore_n 3, 1) := by decide +kernel
theorem dX9_guesses_88 : decode cX9_guesses 88 = .ok (.goto 30, 3) := by decide +kernel
theorem dX9_guesses_91 : decode cX9_guesses 91 = .ok (.iload 4, 2) := by decide +kernel
theorem dX9_guesses_93 : decode cX9_guesses 93 = .ok (.iconst (-1), 1) := by decide +kernel
theorem dX9_guesses_94 : decode cX9_guesses 94 = .ok (.if_icmp .eq 20, 3) := by decide +kernel
theorem dX9_guesses_97 : decode cX9_guesses 97 = .ok (.aload_n 0, 1) := by decide +kernel
theorem dX9_guesses_98 : decode cX9_guesses 98 = .ok (.getfield 62, 3) := by decide +kernel
theorem dX9_guesses_101 : decode cX9_guesses 101 = .ok (.iload 5, 2) := by decide +kernel
theorem dX9_guesses_103 : decode cX9_guesses 103 = .ok (.iaload, 1) := by decide +kernel
theorem dX9_guesses_104 : decode cX9_guesses 104 = .ok (.aload_n 0, 1) := by decide +kernel
theorem dX9_guesses_105 : decode cX9_guesses 105 = .ok (.getfield 62, 3) := by decide +kernel
theorem dX9_guesses_108 : decode cX9_guesses 108 = .ok (.iload 4, 2) := by decide +kernel
theorem dX9_guesses_110 : decode cX9_guesses 110 = .ok (.iaload, 1) := by decide +kernel
theorem dX9_guesses_111 : decode cX9_guesses 111 = .ok (.if_icmp .le 7, 3) := by decide +kernel
theorem dX9_guesses_114 : decode cX9_guesses 114 = .ok (.iload 5, 2) := by decide +kernel
theorem dX9_guesses_116 : decode cX9_guesses 116 = .ok (.istore 4, 2) := by decide +kernel
theorem dX9_guesses_118 : decode cX9_guesses 118 = .ok (.iinc 5 1, 3) := by decide +kernel
theorem dX9_guesses_121 : decode cX9_guesses 121 = .ok (.goto (-101), 3) := by decide +kernel
theorem dX9_guesses_124 : decode cX9_guesses 124 = .ok (.aload_n 0, 1) := by decide +kernel
theorem dX9_guesses_125 : decode cX9_guesses 125 = .ok (.getfield 50, 3) := by decide +kernel
theorem dX9_guesses_128 : decode cX9_guesses 128 = .ok (.iload_n 1, 1) := by decide +kernel
theorem dX9_guesses_129 : decode cX9_guesses 129 = .ok (.iload 4, 2) := by decide +kernel
theorem dX9_guesses_131 : decode cX9_guesses 131 = .ok (.iconst (-1), 1) := by decide +kernel
theorem dX9_guesses_132 : decode cX9_guesses 132 = .ok (.if_icmp .eq 23, 3) := by decide +kernel
theorem dX9_guesses_135 : decode cX9_guesses 135 = .ok (.aload_n 0, 1) := by decide +kernel
theorem dX9_guesses_136 : decode cX9_guesses 136 = .ok (.getfield 65, 3) := by decide +kernel
theorem dX9_guesses_139 : decode cX9_guesses 139 = .ok (.iload 4, 2) := by decide +kernel
theorem dX9_guesses_141 : decode cX9_guesses 141 = .ok (.iaload, 1) := by decide +kernel
theorem dX9_guesses_142 : decode cX9_guesses 142 = .ok (.aload_n 0, 1) := by decide +kernel
theorem dX9_guesses_143 : decode cX9_guesses 143 = .ok (.getfield 65, 3) := by decide +kernel
theorem dX9_guesses_146 : decode cX9_guesses 146 = .ok (.iload_n 3, 1) := by decide +kernel
theorem dX9_guesses_147 : decode cX9_guesses 147 = .ok (.iaload, 1) := by decide +kernel
theorem dX9_guesses_148 : decode cX9_guesses 148 = .ok (.if_icmp .ne 7, 3) := by decide +kernel
theorem dX9_guesses_151 : decode cX9_guesses 151 = .ok (.iconst 1, 1) := by decide +kernel
theorem dX9_guesses_152 : decode cX9_guesses 152 = .ok (.goto 4, 3) := by decide +kernel
theorem dX9_guesses_155 : decode cX9_guesses 155 = .ok (.iconst 0, 1) := by decide +kernel
theorem dX9_guesses_156 : decode cX9_guesses 156 = .ok (.bastore, 1) := by decide +kernel
theorem dX9_guesses_157 : decode cX9_guesses 157 = .ok (.iload_n 3, 1) := by decide +kernel
theorem dX9_guesses_158 : decode cX9_guesses 158 = .ok (.iconst (-1), 1) := by decide +kernel
theorem dX9_guesses_159 : decode cX9_guesses 159 = .ok (.if_icmp .eq 25, 3) := by decide +kernel
theorem dX9_guesses_162 : decode cX9_guesses 162 = .ok (.aload_n 0, 1) := by decide +kernel
theorem dX9_guesses_163 : decode cX9_guesses 163 = .ok (.getfield 41, 3) := by decide +kernel
theorem dX9_guesses_166 : decode cX9_guesses 166 = .ok (.iload_n 1, 1) := by decide +kernel
theorem dX9_guesses_167 : decode cX9_guesses 167 = .ok (.iaload, 1) := by decide +kernel
theorem dX9_guesses_168 : decode cX9_guesses 168 = .ok (.iconst 4, 1) := by decide +kernel
theorem dX9_guesses_169 : decode cX9_guesses 169 = .ok (.if_icmp .ge 15, 3) := by decide +kernel
theorem dX9_guesses_172 : decode cX9_guesses 172 = .ok (.aload_n 0, 1) := by decide +kernel
theorem dX9_guesses_173 : decode cX9_guesses 173 = .ok (.getfield 56, 3) := by decide +kernel
theorem dX9_guesses_176 : decode cX9_guesses 176 = .ok (.iload_n 3, 1) := by decide +kernel
theorem dX9_guesses_177 : decode cX9_guesses 177 = .ok (.aload_n 0, 1) := by decide +kernel
theorem dX9_guesses_178 : decode cX9_guesses 178 = .ok (.getfield 41, 3) := by decide +kernel
theorem dX9_guesses_181 : decode cX9_guesses 181 = .ok (.iload_n 1, 1) := by decide +kernel
theorem dX9_guesses_182 : decode cX9_guesses 182 = .ok (.iaload, 1) := by decide +kernel
theorem dX9_guesses_183 : decode cX9_guesses 183 = .ok (.iastore, 1) := by decide +kernel
theorem dX9_guesses_184 : decode cX9_guesses 184 = .ok (.iload_n 3, 1) := by decide +kernel
theorem dX9_guesses_185 : decode cX9_guesses 185 = .ok (.ireturn, 1) := by decide +kernel
theorem dX9_pinOf_0 : decode cX9_pinOf 0 = .ok (.iconst 0, 1) := by decide +kernel
theorem dX9_pinOf_1 : decode cX9_pinOf 1 = .ok (.istore_n 2, 1) := by decide +kernel
theorem dX9_pinOf_2 : decode cX9_pinOf 2 = .ok (.iload_n 2, 1) := by decide +kernel
theorem dX9_pinOf_3 : decode cX9_pinOf 3 = .ok (.aload_n 0, 1) := by decide +kernel
theorem dX9_pinOf_4 : decode cX9_pinOf 4 = .ok (.getfield 190, 3) := by decide +kernel
theorem dX9_pinOf_7 : decode cX9_pinOf 7 = .ok (.if_icmp .ge 21, 3) := by decide +kernel
theorem dX9_pinOf_10 : decode cX9_pinOf 10 = .ok (.aload_n 0, 1) := by decide +kernel
theorem dX9_pinOf_11 : decode cX9_pinOf 11 = .ok (.getfield 77, 3) := by decide +kernel
theorem dX9_pinOf_14 : decode cX9_pinOf 14 = .ok (.iload_n 2, 1) := by decide +kernel
theorem dX9_pinOf_15 : decode cX9_pinOf 15 = .ok (.iaload, 1) := by decide +kernel
theorem dX9_pinOf_16 : decode cX9_pinOf 16 = .ok (.iload_n 1, 1) := by decide +kernel
theorem dX9_pinOf_17 : decode cX9_pinOf 17 = .ok (.if_icmp .ne 5, 3) := by decide +kernel
theorem dX9_pinOf_20 : decode cX9_pinOf 20 = .ok (.iload_n 2, 1) := by decide +kernel
theorem dX9_pinOf_21 : decode cX9_pinOf 21 = .ok (.ireturn, 1) := by decide +kernel
theorem dX9_pinOf_22 : decode cX9_pinOf 22 = .ok (.iinc 2 1, 3) := by decide +kernel
theorem dX9_pinOf_25 : decode cX9_pinOf 25 = .ok (.goto (-23), 3) := by decide +kernel
theorem dX9_pinOf_28 : decode cX9_pinOf 28 = .ok (.iconst (-1), 1) := by decide +kernel
theorem dX9_pinOf_29 : decode cX9_pinOf 29 = .ok (.ireturn, 1) := by decide +kernel
theorem dX9_pinReads_0 : decode cX9_pinReads 0 = .ok (.aload_n 0, 1) := by decide +kernel
theorem dX9_pinReads_1 : decode cX9_pinReads 1 = .ok (.iload_n 2, 1) := by decide +kernel
theorem dX9_pinReads_2 : decode cX9_pinReads 2 = .ok (.invokevirtual 193, 3) := by decide +kernel
theorem dX9_pinReads_5 : decode cX9_pinReads 5 = .ok (.istore_n 3, 1) := by decide +kernel
theorem dX9_pinReads_6 : decode cX9_pinReads 6 = .ok (.iload_n 3, 1) := by decide +kernel
theorem dX9_pinReads_7 : decode cX9_pinReads 7 = .ok (.iconst (-1), 1) := by decide +kernel
theorem dX9_pinReads_8 : decode cX9_pinReads 8 = .ok (.if_icmp .eq 37, 3) := by decide +kernel
theorem dX9_pinReads_11 : decode cX9_pinReads 11 = .ok (.aload_n 0, 1) := by decide +kernel
theorem dX9_pinReads_12 : decode cX9_pinReads 12 = .ok (.getfield 41, 3) := by decide +kernel
theorem dX9_pinReads_15 : decode cX9_pinReads 15 = .ok (.iload_n 1, 1) := by decide +kernel
theorem dX9_pinReads_16 : decode cX9_pinReads 16 = .ok (.iaload, 1) := by decide +kernel
theorem dX9_pinReads_17 : decode cX9_pinReads 17 = .ok (.ifCond .ne 28, 3) := by decide +kernel
theorem dX9_pinReads_20 : decode cX9_pinReads 20 = .ok (.aload_n 0, 1) := by decide +kernel
theorem dX9_pinReads_21 : decode cX9_pinReads 21 = .ok (.getfield 56, 3) := by decide +kernel
theorem dX9_pinReads_24 : decode cX9_pinReads 24 = .ok (.iload_n 3, 1) := by decide +kernel
theorem dX9_pinReads_25 : decode cX9_pinReads 25 = .ok (.iaload, 1) := by decide +kernel
theorem dX9_pinReads_26 : decode cX9_pinReads 26 = .ok (.iconst 4, 1) := by decide +kernel
theorem dX9_pinReads_27 : decode cX9_pinReads 27 = .ok (.if_icmp .eq 18, 3) := by decide +kernel
theorem dX9_pinReads_30 : decode cX9_pinReads 30 = .ok (.aload_n 0, 1) := by decide +kernel
theorem dX9_pinReads_31 : decode cX9_pinReads 31 = .ok (.iload_n 1, 1) := by decide +kernel
theorem dX9_pinReads_32 : decode cX9_pinReads 32 = .ok (.invokevirtual 173, 3) := by decide +kernel
theorem dX9_pinReads_35 : decode cX9_pinReads 35 = .ok (.iconst (-1), 1) := by decide +kernel
theorem dX9_pinReads_36 : decode cX9_pinReads 36 = .ok (.if_icmp .ne 9, 3) := by decide +kernel
theorem dX9_pinReads_39 : decode cX9_pinReads 39 = .ok (.aload_n 0, 1) := by decide +kernel
theorem dX9_pinReads_40 : decode cX9_pinReads 40 = .ok (.iload_n 3, 1) := by decide +kernel
theorem dX9_pinReads_41 : decode cX9_pinReads 41 = .ok (.iload_n 1, 1) := by decide +kernel
theorem dX9_pinReads_42 : decode cX9_pinReads 42 = .ok (.invokevirtual 183, 3) := by decide +kernel
theorem dX9_pinReads_45 : decode cX9_pinReads 45 = .ok (.iload_n 3, 1) := by decide +kernel
theorem dX9_pinReads_46 : decode cX9_pinReads 46 = .ok (.ireturn, 1) := by decide +kernel
theorem dX9_marks_0 : decode cX9_marks 0 = .ok (.iload_n 1, 1) := by decide +kernel
theorem dX9_marks_1 : decode cX9_marks 1 = .ok (.iconst (-1), 1) := by decide +kernel
theorem dX9_marks_2 : decode cX9_marks 2 = .ok (.if_icmp .ne 4, 3) := by decide +kernel
theorem dX9_marks_5 : decode cX9_marks 5 = .ok (.return_, 1) := by decide +kernel
theorem dX9_marks_6 : decode cX9_marks 6 = .ok (.aload_n 0, 1) := by decide +kernel
theorem dX9_marks_7 : decode cX9_marks 7 = .ok (.getfield 62, 3) := by decide +kernel
theorem dX9_marks_10 : decode cX9_marks 10 = .ok (.iload_n 1, 1) := by decide +kernel
theorem dX9_marks_11 : decode cX9_marks 11 = .ok (.iload_n 2, 1) := by decide +kernel
theorem dX9_marks_12 : decode cX9_marks 12 = .ok (.iastore, 1) := by decide +kernel
theorem dX9_marks_13 : decode cX9_marks 13 = .ok (.aload_n 0, 1) := by decide +kernel
theorem dX9_marks_14 : decode cX9_marks 14 = .ok (.getfield 65, 3) := by decide +kernel
theorem dX9_marks_17 : decode cX9_marks 17 = .ok (.iload_n 1, 1) := by decide +kernel
theorem dX9_marks_18 : decode cX9_marks 18 = .ok (.iload_n 3, 1) := by decide +kernel
theorem dX9_marks_19 : decode cX9_marks 19 = .ok (.iastore, 1) := by decide +kernel
theorem dX9_marks_20 : decode cX9_marks 20 = .ok (.return_, 1) := by decide +kernel
theorem dX9_isWord_0 : decode cX9_isWord 0 = .ok (.aload_n 0, 1) := by decide +kernel
theorem dX9_isWord_1 : decode cX9_isWord 1 = .ok (.iload_n 1, 1) := by decide +kernel
theorem dX9_isWord_2 : decode cX9_isWord 2 = .ok (.iconst 0, 1) := by decide +kernel
theorem dX9_isWord_3 : decode cX9_isWord 3 = .ok (.invokevirtual 135, 3) := by decide +kernel
theorem dX9_isWord_6 : decode cX9_isWord 6 = .ok (.lstore 6, 2) := by decide +kernel
theorem dX9_isWord_8 : decode cX9_isWord 8 = .ok (.lload 6, 2) := by decide +kernel
theorem dX9_isWord_10 : decode cX9_isWord 10 = .ok (.lload_n 2, 1) := by decide +kernel
theorem dX9_isWord_11 : decode cX9_isWord 11 = .ok (.lcmp, 1) := by decide +kernel
theorem dX9_isWord_12 : decode cX9_isWord 12 = .ok (.ifCond .eq 11, 3) := by decide +kernel
theorem dX9_isWord_15 : decode cX9_isWord 15 = .ok (.lload 6, 2) := by decide +kernel
theorem dX9_isWord_17 : decode cX9_isWord 17 = .ok (.lload 4, 2) := by decide +kernel
theorem dX9_isWord_19 : decode cX9_isWord 19 = .ok (.lcmp, 1) := by decide +kernel
theorem dX9_isWord_20 : decode cX9_isWord 20 = .ok (.ifCond .ne 7, 3) := by decide +kernel
theorem dX9_isWord_23 : decode cX9_isWord 23 = .ok (.iconst 1, 1) := by decide +kernel
theorem dX9_isWord_24 : decode cX9_isWord 24 = .ok (.goto 4, 3) := by decide +kernel
theorem dX9_isWord_27 : decode cX9_isWord 27 = .ok (.iconst 0, 1) := by decide +kernel
theorem dX9_isWord_28 : decode cX9_isWord 28 = .ok (.ireturn, 1) := by decide +kernel
theorem dX9_isName_0 : decode cX9_isName 0 = .ok (.iload_n 1, 1) := by decide +kernel
theorem dX9_isName_1 : decode cX9_isName 1 = .ok (.iconst 0, 1) := by decide +kernel
theorem dX9_isName_2 : decode cX9_isName 2 = .ok (.aload_n 0, 1) := by decide +kernel
theorem dX9_isName_3 : decode cX9_isName 3 = .ok (.getfield 98, 3) := by decide +kernel
theorem dX9_isName_6 : decode cX9_isName 6 = .ok (.iconst 1, 1) := by decide +kernel
theorem dX9_isName_7 : decode cX9_isName 7 = .ok (.isub, 1) := by decide +kernel
theorem dX9_isName_8 : decode cX9_isName 8 = .ok (.invokestatic 87, 3) := by decide +kernel
theorem dX9_isName_11 : decode cX9_isName 11 = .ok (.ifCond .eq 31, 3) := by decide +kernel
theorem dX9_isName_14 : decode cX9_isName 14 = .ok (.aload_n 0, 1) := by decide +kernel
theorem dX9_isName_15 : decode cX9_isName 15 = .ok (.getfield 53, 3) := by decide +kernel
theorem dX9_isName_18 : decode cX9_isName 18 = .ok (.iload_n 1, 1) := by decide +kernel
theorem dX9_isName_19 : decode cX9_isName 19 = .ok (.iaload, 1) := by decide +kernel
theorem dX9_isName_20 : decode cX9_isName 20 = .ok (.iconst (-1), 1) := by decide +kernel
theorem dX9_isName_21 : decode cX9_isName 21 = .ok (.if_icmp .eq 21, 3) := by decide +kernel
theorem dX9_isName_24 : decode cX9_isName 24 = .ok (.aload_n 0, 1) := by decide +kernel
theorem dX9_isName_25 : decode cX9_isName 25 = .ok (.getfield 41, 3) := by decide +kernel
theorem dX9_isName_28 : decode cX9_isName 28 = .ok (.aload_n 0, 1) := by decide +kernel
theorem dX9_isName_29 : decode cX9_isName 29 = .ok (.getfield 53, 3) := by decide +kernel
theorem dX9_isName_32 : decode cX9_isName 32 = .ok (.iload_n 1, 1) := by decide +kernel
theorem dX9_isName_33 : decode cX9_isName 33 = .ok (.iaload, 1) := by decide +kernel
theorem dX9_isName_34 : decode cX9_isName 34 = .ok (.iaload, 1) := by decide +kernel
theorem dX9_isName_35 : decode cX9_isName 35 = .ok (.ifCond .ne 7, 3) := by decide +kernel
theorem dX9_isName_38 : decode cX9_isName 38 = .ok (.iconst 1, 1) := by decide +kernel
theorem dX9_isName_39 : decode cX9_isName 39 = .ok (.goto 4, 3) := by decide +kernel
theorem dX9_isName_42 : decode cX9_isName 42 = .ok (.iconst 0, 1) := by decide +kernel
theorem dX9_isName_43 : decode cX9_isName 43 = .ok (.ireturn, 1) := by decide +kernel
theorem dX9_joins_0 : decode cX9_joins 0 = .ok (.aload_n 0, 1) := by decide +kernel
theorem dX9_joins_1 : decode cX9_joins 1 = .ok (.getfield 38, 3) := by decide +kernel
theorem dX9_joins_4 : decode cX9_joins 4 = .ok (.iload_n 1, 1) := by decide +kernel
theorem dX9_joins_5 : decode cX9_joins 5 = .ok (.iaload, 1) := by decide +kernel
theorem dX9_joins_6 : decode cX9_joins 6 = .ok (.istore_n 2, 1) := by decide +kernel
theorem dX9_joins_7 : decode cX9_joins 7 = .ok (.iload_n 2, 1) := by decide +kernel
theorem dX9_joins_8 : decode cX9_joins 8 = .ok (.iconst 2, 1) := by decide +kernel
theorem dX9_joins_9 : decode cX9_joins 9 = .ok (.if_icmp .lt 46, 3) := by decide +kernel
theorem dX9_joins_12 : decode cX9_joins 12 = .ok (.aload_n 0, 1) := by decide +kernel
theorem dX9_joins_13 : decode cX9_joins 13 = .ok (.iload_n 2, 1) := by decide +kernel
theorem dX9_joins_14 : decode cX9_joins 14 = .ok (.iconst 2, 1) := by decide +kernel
theorem dX9_joins_15 : decode cX9_joins 15 = .ok (.isub, 1) := by decide +kernel
theorem dX9_joins_16 : decode cX9_joins 16 = .ok (.invokevirtual 196, 3) := by decide +kernel
theorem dX9_joins_19 : decode cX9_joins 19 = .ok (.ifCond .eq 36, 3) := by decide +kernel
theorem dX9_joins_22 : decode cX9_joins 22 = .ok (.aload_n 0, 1) := by decide +kernel
theorem dX9_joins_23 : decode cX9_joins 23 = .ok (.iload_n 2, 1) := by decide +kernel
theorem dX9_joins_24 : decode cX9_joins 24 = .ok (.iconst 1, 1) := by decide +kernel
theorem dX9_joins_25 : decode cX9_joins 25 = .ok (.isub, 1) := by decide +kernel
theorem dX9_joins_26 : decode cX9_joins 26 = .ok (.ldc2_w 199, 3) := by decide +kernel
theorem dX9_joins_29 : decode cX9_joins 29 = .ok (.ldc2_w 201, 3) := by decide +kernel
theorem dX9_joins_32 : decode cX9_joins 32 = .ok (.invokevirtual 203, 3) := by decide +kernel
theorem dX9_joins_35 : decode cX9_joins 35 = .ok (.ifCond .eq 20, 3) := by decide +kernel
theorem dX9_joins_38 : decode cX9_joins 38 = .ok (.aload_n 0, 1) := by decide +kernel
theorem dX9_joins_39 : decode cX9_joins 39 = .ok (.getfield 22, 3) := by decide +kernel
theorem dX9_joins_42 : decode cX9_joins 42 = .ok (.iload_n 2, 1) := by decide +kernel
theorem dX9_joins_43 : decode cX9_joins 43 = .ok (.iconst 2, 1) := by decide +kernel
theorem dX9_joins_44 : decode cX9_joins 44 = .ok (.isub, 1) := by decide +kernel
theorem dX9_joins_45 : decode cX9_joins 45 = .ok (.iaload, 1) := by decide +kernel
theorem dX9_joins_46 : decode cX9_joins 46 = .ok (.aload_n 0, 1) := by decide +kernel
theorem dX9_joins_47 : decode cX9_joins 47 = .ok (.getfield 22, 3) := by decide +kernel
theorem dX9_joins_50 : decode cX9_joins 50 = .ok (.iload_n 2, 1) := by decide +kernel
theorem dX9_joins_51 : decode cX9_joins 51 = .ok (.iaload, 1) := by decide +kernel
theorem dX9_joins_52 : decode cX9_joins 52 = .ok (.if_icmp .eq 4, 3) := by decide +kernel
theorem dX9_joins_55 : decode cX9_joins 55 = .ok (.return_, 1) := by decide +kernel
theorem dX9_joins_56 : decode cX9_joins 56 = .ok (.aload_n 0, 1) := by decide +kernel
theorem dX9_joins_57 : decode cX9_joins 57 = .ok (.aload_n 0, 1) := by decide +kernel
theorem dX9_joins_58 : decode cX9_joins 58 = .ok (.getfield 53, 3) := by decide +kernel
theorem dX9_joins_61 : decode cX9_joins 61 = .ok (.iload_n 2, 1) := by decide +kernel
theorem dX9_joins_62 : decode cX9_joins 62 = .ok (.iconst 2, 1) := by decide +kernel
theorem dX9_joins_63 : decode cX9_joins 63 = .ok (.isub, 1) := by decide +kernel
theorem dX9_joins_64 : decode cX9_joins 64 = .ok (.iaload, 1) := by decide +kernel
theorem dX9_joins_65 : decode cX9_joins 65 = .ok (.invokevirtual 193, 3) := by decide +kernel
theorem dX9_joins_68 : decode cX9_joins 68 = .ok (.istore_n 3, 1) := by decide +kernel
theorem dX9_joins_69 : decode cX9_joins 69 = .ok (.aload_n 0, 1) := by decide +kernel
theorem dX9_joins_70 : decode cX9_joins 70 = .ok (.iload_n 1, 1) := by decide +kernel
theorem dX9_joins_71 : decode cX9_joins 71 = .ok (.invokevirtual 193, 3) := by decide +kernel
theorem dX9_joins_74 : decode cX9_joins 74 = .ok (.istore 4, 2) := by decide +kernel
theorem dX9_joins_76 : decode cX9_joins 76 = .ok (.iload_n 3, 1) := by decide +kernel
theorem dX9_joins_77 : decode cX9_joins 77 = .ok (.iconst (-1), 1) := by decide +kernel
theorem dX9_joins_78 : decode cX9_joins 78 = .ok (.if_icmp .eq 71, 3) := by decide +kernel
theorem dX9_joins_81 : decode cX9_joins 81 = .ok (.iload 4, 2) := by decide +kernel
theorem dX9_joins_83 : decode cX9_joins 83 = .ok (.iconst (-1), 1) := by decide +kernel
theorem dX9_joins_84 : decode cX9_joins 84 = .ok (.if_icmp .eq 65, 3) := by decide +kernel
theorem dX9_joins_87 : decode cX9_joins 87 = .ok (.iload_n 3, 1) := by decide +kernel
theorem dX9_joins_88 : decode cX9_joins 88 = .ok (.iload 4, 2) := by decide +kernel
theorem dX9_joins_90 : decode cX9_joins 90 = .ok (.if_icmp .eq 59, 3) := by decide +kernel
theorem dX9_joins_93 : decode cX9_joins 93 = .ok (.aload_n 0, 1) := by decide +kernel
theorem dX9_joins_94 : decode cX9_joins 94 = .ok (.getfield 56, 3) := by decide +kernel
theorem dX9_joins_97 : decode cX9_joins 97 = .ok (.iload_n 3, 1) := by decide +kernel
theorem dX9_joins_98 : decode cX9_joins 98 = .ok (.iaload, 1) := by decide +kernel
theorem dX9_joins_99 : decode cX9_joins 99 = .ok (.iconst 4, 1) := by decide +kernel
theorem dX9_joins_100 : decode cX9_joins 100 = .ok (.if_icmp .eq 49, 3) := by decide +kernel
theorem dX9_joins_103 : decode cX9_joins 103 = .ok (.aload_n 0, 1) := by decide +kernel
theorem dX9_joins_104 : decode cX9_joins 104 = .ok (.getfield 56, 3) := by decide +kernel
theorem dX9_joins_107 : decode cX9_joins 107 = .ok (.iload 4, 2) := by decide +kernel
theorem dX9_joins_109 : decode cX9_joins 109 = .ok (.iaload, 1) := by decide +kernel
theorem dX9_joins_110 : decode cX9_joins 110 = .ok (.iconst 4, 1) := by decide +kernel
theorem dX9_joins_111 : decode cX9_joins 111 = .ok (.if_icmp .eq 38, 3) := by decide +kernel
theorem dX9_joins_114 : decode cX9_joins 114 = .ok (.aload_n 0, 1) := by decide +kernel
theorem dX9_joins_115 : decode cX9_joins 115 = .ok (.getfield 56, 3) := by decide +kernel
theorem dX9_joins_118 : decode cX9_joins 118 = .ok (.iload_n 3, 1) := by decide +kernel
theorem dX9_joins_119 : decode cX9_joins 119 = .ok (.iaload, 1) := by decide +kernel
theorem dX9_joins_120 : decode cX9_joins 120 = .ok (.ifCond .eq 30, 3) := by decide +kernel
theorem dX9_joins_123 : decode cX9_joins 123 = .ok (.aload_n 0, 1) := by decide +kernel
theorem dX9_joins_124 : decode cX9_joins 124 = .ok (.getfield 56, 3) := by decide +kernel
theorem dX9_joins_127 : decode cX9_joins 127 = .ok (.iload 4, 2) := by decide +kernel
theorem dX9_joins_129 : decode cX9_joins 129 = .ok (.iaload, 1) := by decide +kernel
theorem dX9_joins_130 : decode cX9_joins 130 = .ok (.ifCond .eq 20, 3) := by decide +kernel
theorem dX9_joins_133 : decode cX9_joins 133 = .ok (.aload_n 0, 1) := by decide +kernel
theorem dX9_joins_134 : decode cX9_joins 134 = .ok (.getfield 56, 3) := by decide +kernel
theorem dX9_joins_137 : decode cX9_joins 137 = .ok (.iload_n 3, 1) := by decide +kernel
theorem dX9_joins_138 : decode cX9_joins 138 = .ok (.iaload, 1) := by decide +kernel
theorem dX9_joins_139 : decode cX9_joins 139 = .ok (.aload_n 0, 1) := by decide +kernel
theorem dX9_joins_140 : decode cX9_joins 140 = .ok (.getfield 56, 3) := by decide +kernel
theorem dX9_joins_143 : decode cX9_joins 143 = .ok (.iload 4, 2) := by decide +kernel
theorem dX9_joins_145 : decode cX9_joins 145 = .ok (.iaload, 1) := by decide +kernel
theorem dX9_joins_146 : decode cX9_joins 146 = .ok (.if_icmp .eq 4, 3) := by decide +kernel
theorem dX9_joins_149 : decode cX9_joins 149 = .ok (.return_, 1) := by decide +kernel
theorem dX9_joins_150 : decode cX9_joins 150 = .ok (.iload_n 3, 1) := by decide +kernel
theorem dX9_joins_151 : decode cX9_joins 151 = .ok (.iload 4, 2) := by decide +kernel
theorem dX9_joins_153 : decode cX9_joins 153 = .ok (.if_icmp .ge 7, 3) := by decide +kernel
theorem dX9_joins_156 : decode cX9_joins 156 = .ok (.iload_n 3, 1) := by decide +kernel
theorem dX9_joins_157 : decode cX9_joins 157 = .ok (.goto 5, 3) := by decide +kernel
theorem dX9_joins_160 : decode cX9_joins 160 = .ok (.iload 4, 2) := by decide +kernel
theorem dX9_joins_162 : decode cX9_joins 162 = .ok (.istore 5, 2) := by decide +kernel
theorem dX9_joins_164 : decode cX9_joins 164 = .ok (.iload_n 3, 1) := by decide +kernel
theorem dX9_joins_165 : decode cX9_joins 165 = .ok (.iload 4, 2) := by decide +kernel
theorem dX9_joins_167 : decode cX9_joins 167 = .ok (.if_icmp .ge 8, 3) := by decide +kernel
theorem dX9_joins_170 : decode cX9_joins 170 = .ok (.iload 4, 2) := by decide +kernel
theorem dX9_joins_172 : decode cX9_joins 172 = .ok (.goto 4, 3) := by decide +kernel
theorem dX9_joins_175 : decode cX9_joins 175 = .ok (.iload_n 3, 1) := by decide +kernel
theorem dX9_joins_176 : decode cX9_joins 176 = .ok (.istore 6, 2) := by decide +kernel
theorem dX9_joins_178 : decode cX9_joins 178 = .ok (.aload_n 0, 1) := by decide +kernel
theorem dX9_joins_179 : decode cX9_joins 179 = .ok (.getfield 59, 3) := by decide +kernel
theorem dX9_joins_182 : decode cX9_joins 182 = .ok (.iload 6, 2) := by decide +kernel
theorem dX9_joins_184 : decode cX9_joins 184 = .ok (.iload 5, 2) := by decide +kernel
theorem dX9_joins_186 : decode cX9_joins 186 = .ok (.iastore, 1) := by decide +kernel
theorem dX9_joins_187 : decode cX9_joins 187 = .ok (.iconst 0, 1) := by decide +kernel
theorem dX9_joins_188 : decode cX9_joins 188 = .ok (.istore 7, 2) := by decide +kernel
theorem dX9_joins_190 : decode cX9_joins 190 = .ok (.iload 7, 2) := by decide +kernel
theorem dX9_joins_192 : decode cX9_joins 192 = .ok (.aload_n 0, 1) := by decide +kernel
theorem dX9_joins_193 : decode cX9_joins 193 = .ok (.getfield 71, 3) := by decide +kernel
theorem dX9_joins_196 : decode cX9_joins 196 = .ok (.iload 6, 2) := by decide +kernel
theorem dX9_joins_198 : decode cX9_joins 198 = .ok (.iaload, 1) := by decide +kernel
theorem dX9_joins_199 : decode cX9_joins 199 = .ok (.if_icmp .ge 28, 3) := by decide +kernel
theorem dX9_joins_202 : decode cX9_joins 202 = .ok (.aload_n 0, 1) := by decide +kernel
theorem dX9_joins_203 : decode cX9_joins 203 = .ok (.iload 5, 2) := by decide +kernel
theorem dX9_joins_205 : decode cX9_joins 205 = .ok (.aload_n 0, 1) := by decide +kernel
theorem dX9_joins_206 : decode cX9_joins 206 = .ok (.getfield 74, 3) := by decide +kernel
theorem dX9_joins_209 : decode cX9_joins 209 = .ok (.bipush 80, 2) := by decide +kernel
theorem dX9_joins_211 : decode cX9_joins 211 = .ok (.iload 6, 2) := by decide +kernel
theorem dX9_joins_213 : decode cX9_joins 213 = .ok (.imul, 1) := by decide +kernel
theorem dX9_joins_214 : decode cX9_joins 214 = .ok (.iload 7, 2) := by decide +kernel
theorem dX9_joins_216 : decode cX9_joins 216 = .ok (.iadd, 1) := by decide +kernel
theorem dX9_joins_217 : decode cX9_joins 217 = .ok (.iaload, 1) := by decide +kernel
theorem dX9_joins_218 : decode cX9_joins 218 = .ok (.invokevirtual 183, 3) := by decide +kernel
theorem dX9_joins_221 : decode cX9_joins 221 = .ok (.iinc 7 1, 3) := by decide +kernel
theorem dX9_joins_224 : decode cX9_joins 224 = .ok (.goto (-34), 3) := by decide +kernel
theorem dX9_joins_227 : decode cX9_joins 227 = .ok (.aload_n 0, 1) := by decide +kernel
theorem dX9_joins_228 : decode cX9_joins 228 = .ok (.getfield 56, 3) := by decide +kernel
theorem dX9_joins_231 : decode cX9_joins 231 = .ok (.iload 5, 2) := by decide +kernel
theorem dX9_joins_233 : decode cX9_joins 233 = .ok (.aload_n 0, 1) := by decide +kernel
theorem dX9_joins_234 : decode cX9_joins 234 = .ok (.getfield 56, 3) := by decide +kernel
theorem dX9_joins_237 : decode cX9_joins 237 = .ok (.iload 5, 2) := by decide +kernel
theorem dX9_joins_239 : decode cX9_joins 239 = .ok (.iaload, 1) := by decide +kernel
theorem dX9_joins_240 : decode cX9_joins 240 = .ok (.ifCond .ne 13, 3) := by decide +kernel
theorem dX9_joins_243 : decode cX9_joins 243 = .ok (.aload_n 0, 1) := by decide +kernel
theorem dX9_joins_244 : decode cX9_joins 244 = .ok (.getfield 56, 3) := by decide +kernel
theorem dX9_joins_247 : decode cX9_joins 247 = .ok (.iload 6, 2) := by decide +kernel
theorem dX9_joins_249 : decode cX9_joins 249 = .ok (.iaload, 1) := by decide +kernel
theorem dX9_joins_250 : decode cX9_joins 250 = .ok (.goto 10, 3) := by decide +kernel
theorem dX9_joins_253 : decode cX9_joins 253 = .ok (.aload_n 0, 1) := by decide +kernel
theorem dX9_joins_254 : decode cX9_joins 254 = .ok (.getfield 56, 3) := by decide +kernel
theorem dX9_joins_257 : decode cX9_joins 257 = .ok (.iload 5, 2) := by decide +kernel
theorem dX9_joins_259 : decode cX9_joins 259 = .ok (.iaload, 1) := by decide +kernel
theorem dX9_joins_260 : decode cX9_joins 260 = .ok (.iastore, 1) := by decide +kernel
theorem dX9_joins_261 : decode cX9_joins 261 = .ok (.aload_n 0, 1) := by decide +kernel
theorem dX9_joins_262 : decode cX9_joins 262 = .ok (.getfield 62, 3) := by decide +kernel
theorem dX9_joins_265 : decode cX9_joins 265 = .ok (.iload 6, 2) := by decide +kernel
theorem dX9_joins_267 : decode cX9_joins 267 = .ok (.iaload, 1) := by decide +kernel
theorem dX9_joins_268 : decode cX9_joins 268 = .ok (.aload_n 0, 1) := by decide +kernel
theorem dX9_joins_269 : decode cX9_joins 269 = .ok (.getfield 62, 3) := by decide +kernel
theorem dX9_joins_272 : decode cX9_joins 272 = .ok (.iload 5, 2) := by decide +kernel
theorem dX9_joins_274 : decode cX9_joins 274 = .ok (.iaload, 1) := by decide +kernel
theorem dX9_joins_275 : decode cX9_joins 275 = .ok (.if_icmp .le 23, 3) := by decide +kernel
theorem dX9_joins_278 : decode cX9_joins 278 = .ok (.aload_n 0, 1) := by decide +kernel
theorem dX9_joins_279 : decode cX9_joins 279 = .ok (.iload 5, 2) := by decide +kernel
theorem dX9_joins_281 : decode cX9_joins 281 = .ok (.aload_n 0, 1) := by decide +kernel
theorem dX9_joins_282 : decode cX9_joins 282 = .ok (.getfield 62, 3) := by decide +kernel
theorem dX9_joins_285 : decode cX9_joins 285 = .ok (.iload 6, 2) := by decide +kernel
theorem dX9_joins_287 : decode cX9_joins 287 = .ok (.iaload, 1) := by decide +kernel
theorem dX9_joins_288 : decode cX9_joins 288 = .ok (.aload_n 0, 1) := by decide +kernel
theorem dX9_joins_289 : decode cX9_joins 289 = .ok (.getfield 65, 3) := by decide +kernel
theorem dX9_joins_292 : decode cX9_joins 292 = .ok (.iload 6, 2) := by decide +kernel
theorem dX9_joins_294 : decode cX9_joins 294 = .ok (.iaload, 1) := by decide +kernel
theorem dX9_joins_295 : decode cX9_joins 295 = .ok (.invokevirtual 207, 3) := by decide +kernel
theorem dX9_joins_298 : decode cX9_joins 298 = .ok (.return_, 1) := by decide +kernel
theorem dX9_goesOn_0 : decode cX9_goesOn 0 = .ok (.iload_n 1, 1) := by decide +kernel
theorem dX9_goesOn_1 : decode cX9_goesOn 1 = .ok (.iconst 2, 1) := by decide +kernel
theorem dX9_goesOn_2 : decode cX9_goesOn 2 = .ok (.iadd, 1) := by decide +kernel
theorem dX9_goesOn_3 : decode cX9_goesOn 3 = .ok (.aload_n 0, 1) := by decide +kernel
theorem dX9_goesOn_4 : decode cX9_goesOn 4 = .ok (.getfield 98, 3) := by decide +kernel
theorem dX9_goesOn_7 : decode cX9_goesOn 7 = .ok (.if_icmp .ge 50, 3) := by decide +kernel
theorem dX9_goesOn_10 : decode cX9_goesOn 10 = .ok (.aload_n 0, 1) := by decide +kernel
theorem dX9_goesOn_11 : decode cX9_goesOn 11 = .ok (.iload_n 1, 1) := by decide +kernel
theorem dX9_goesOn_12 : decode cX9_goesOn 12 = .ok (.iconst 1, 1) := by decide +kernel
theorem dX9_goesOn_13 : decode cX9_goesOn 13 = .ok (.iadd, 1) := by decide +kernel
theorem dX9_goesOn_14 : decode cX9_goesOn 14 = .ok (.ldc2_w 211, 3) := by decide +kernel
theorem dX9_goesOn_17 : decode cX9_goesOn 17 = .ok (.ldc2_w 211, 3) := by decide +kernel
theorem dX9_goesOn_20 : decode cX9_goesOn 20 = .ok (.invokevirtual 203, 3) := by decide +kernel
theorem dX9_goesOn_23 : decode cX9_goesOn 23 = .ok (.ifCond .eq 34, 3) := by decide +kernel
theorem dX9_goesOn_26 : decode cX9_goesOn 26 = .ok (.aload_n 0, 1) := by decide +kernel
theorem dX9_goesOn_27 : decode cX9_goesOn 27 = .ok (.iload_n 1, 1) := by decide +kernel
theorem dX9_goesOn_28 : decode cX9_goesOn 28 = .ok (.iconst 2, 1) := by decide +kernel
theorem dX9_goesOn_29 : decode cX9_goesOn 29 = .ok (.iadd, 1) := by decide +kernel
theorem dX9_goesOn_30 : decode cX9_goesOn 30 = .ok (.invokevirtual 196, 3) := by decide +kernel
theorem dX9_goesOn_33 : decode cX9_goesOn 33 = .ok (.ifCond .eq 24, 3) := by decide +kernel
theorem dX9_goesOn_36 : decode cX9_goesOn 36 = .ok (.aload_n 0, 1) := by decide +kernel
theorem dX9_goesOn_37 : decode cX9_goesOn 37 = .ok (.getfield 22, 3) := by decide +kernel
theorem dX9_goesOn_40 : decode cX9_goesOn 40 = .ok (.iload_n 1, 1) := by decide +kernel
theorem dX9_goesOn_41 : decode cX9_goesOn 41 = .ok (.iconst 2, 1) := by decide +kernel
theorem dX9_goesOn_42 : decode cX9_goesOn 42 = .ok (.iadd, 1) := by decide +kernel
theorem dX9_goesOn_43 : decode cX9_goesOn 43 = .ok (.iaload, 1) := by decide +kernel
theorem dX9_goesOn_44 : decode cX9_goesOn 44 = .ok (.aload_n 0, 1) := by decide +kernel
theorem dX9_goesOn_45 : decode cX9_goesOn 45 = .ok (.getfield 22, 3) := by decide +kernel
theorem dX9_goesOn_48 : decode cX9_goesOn 48 = .ok (.iload_n 1, 1) := by decide +kernel
theorem dX9_goesOn_49 : decode cX9_goesOn 49 = .ok (.iaload, 1) := by decide +kernel
theorem dX9_goesOn_50 : decode cX9_goesOn 50 = .ok (.if_icmp .ne 7, 3) := by decide +kernel
theorem dX9_goesOn_53 : decode cX9_goesOn 53 = .ok (.iconst 1, 1) := by decide +kernel
theorem dX9_goesOn_54 : decode cX9_goesOn 54 = .ok (.goto 4, 3) := by decide +kernel
theorem dX9_goesOn_57 : decode cX9_goesOn 57 = .ok (.iconst 0, 1) := by decide +kernel
theorem dX9_goesOn_58 : decode cX9_goesOn 58 = .ok (.ireturn, 1) := by decide +kernel
theorem dX9_groupNow_0 : decode cX9_groupNow 0 = .ok (.iconst 0, 1) := by decide +kernel
theorem dX9_groupNow_1 : decode cX9_groupNow 1 = .ok (.istore_n 2, 1) := by decide +kernel
theorem dX9_groupNow_2 : decode cX9_groupNow 2 = .ok (.iconst 0, 1) := by decide +kernel
theorem dX9_groupNow_3 : decode cX9_groupNow 3 = .ok (.istore_n 3, 1) := by decide +kernel
theorem dX9_groupNow_4 : decode cX9_groupNow 4 = .ok (.iload_n 3, 1) := by decide +kernel
theorem dX9_groupNow_5 : decode cX9_groupNow 5 = .ok (.aload_n 0, 1) := by decide +kernel
theorem dX9_groupNow_6 : decode cX9_groupNow 6 = .ok (.getfield 167, 3) := by decide +kernel
theorem dX9_groupNow_9 : decode cX9_groupNow 9 = .ok (.if_icmp .ge 33, 3) := by decide +kernel
theorem dX9_groupNow_12 : decode cX9_groupNow 12 = .ok (.aload_n 0, 1) := by decide +kernel
theorem dX9_groupNow_13 : decode cX9_groupNow 13 = .ok (.getfield 68, 3) := by decide +kernel
theorem dX9_groupNow_16 : decode cX9_groupNow 16 = .ok (.iload_n 1, 1) := by decide +kernel
theorem dX9_groupNow_17 : decode cX9_groupNow 17 = .ok (.iaload, 1) := by decide +kernel
theorem dX9_groupNow_18 : decode cX9_groupNow 18 = .ok (.iload_n 3, 1) := by decide +kernel
theorem dX9_groupNow_19 : decode cX9_groupNow 19 = .ok (.ishr, 1) := by decide +kernel
theorem dX9_groupNow_20 : decode cX9_groupNow 20 = .ok (.iconst 1, 1) := by decide +kernel
theorem dX9_groupNow_21 : decode cX9_groupNow 21 = .ok (.iand, 1) := by decide +kernel
theorem dX9_groupNow_22 : decode cX9_groupNow 22 = .ok (.iconst 1, 1) := by decide +kernel
theorem dX9_groupNow_23 : decode cX9_groupNow 23 = .ok (.if_icmp .ne 13, 3) := by decide +kernel
theorem dX9_groupNow_26 : decode cX9_groupNow 26 = .ok (.iload_n 2, 1) := by decide +kernel
theorem dX9_groupNow_27 : decode cX9_groupNow 27 = .ok (.iconst 1, 1) := by decide +kernel
theorem dX9_groupNow_28 : decode cX9_groupNow 28 = .ok (.aload_n 0, 1) := by decide +kernel
theorem dX9_groupNow_29 : decode cX9_groupNow 29 = .ok (.iload_n 3, 1) := by decide +kernel
theorem dX9_groupNow_30 : decode cX9_groupNow 30 = .ok (.invokevirtual 154, 3) := by decide +kernel
theorem dX9_groupNow_33 : decode cX9_groupNow 33 = .ok (.ishl, 1) := by decide +kernel
theorem dX9_groupNow_34 : decode cX9_groupNow 34 = .ok (.ior, 1) := by decide +kernel
theorem dX9_groupNow_35 : decode cX9_groupNow 35 = .ok (.istore_n 2, 1) := by decide +kernel
theorem dX9_groupNow_36 : decode cX9_groupNow 36 = .ok (.iinc 3 1, 3) := by decide +kernel
theorem dX9_groupNow_39 : decode cX9_groupNow 39 = .ok (.goto (-35), 3) := by decide +kernel
theorem dX9_groupNow_42 : decode cX9_groupNow 42 = .ok (.iload_n 2, 1) := by decide +kernel
theorem dX9_groupNow_43 : decode cX9_groupNow 43 = .ok (.ireturn, 1) := by decide +kernel
theorem dX9_gathers_0 : decode cX9_gathers 0 = .ok (.aload_n 0, 1) := by decide +kernel
theorem dX9_gathers_1 : decode cX9_gathers 1 = .ok (.getfield 38, 3) := by decide +kernel
theorem dX9_gathers_4 : decode cX9_gathers 4 = .ok (.iload_n 1, 1) := by decide +kernel
theorem dX9_gathers_5 : decode cX9_gathers 5 = .ok (.iaload, 1) := by decide +kernel
theorem dX9_gathers_6 : decode cX9_gathers 6 = .ok (.istore_n 2, 1) := by decide +kernel
theorem dX9_gathers_7 : decode cX9_gathers 7 = .ok (.aload_n 0, 1) := by decide +kernel
theorem dX9_gathers_8 : decode cX9_gathers 8 = .ok (.iload_n 2, 1) := by decide +kernel
theorem dX9_gathers_9 : decode cX9_gathers 9 = .ok (.invokevirtual 213, 3) := by decide +kernel
theorem dX9_gathers_12 : decode cX9_gathers 12 = .ok (.ifCond .eq 4, 3) := by decide +kernel
theorem dX9_gathers_15 : decode cX9_gathers 15 = .ok (.return_, 1) := by decide +kernel
theorem dX9_gathers_16 : decode cX9_gathers 16 = .ok (.iconst 0, 1) := by decide +kernel
theorem dX9_gathers_17 : decode cX9_gathers 17 = .ok (.istore_n 3, 1) := by decide +kernel
theorem dX9_gathers_18 : decode cX9_gathers 18 = .ok (.iload_n 2, 1) := by decide +kernel
theorem dX9_gathers_19 : decode cX9_gathers 19 = .ok (.istore 4, 2) := by decide +kernel
theorem dX9_gathers_21 : decode cX9_gathers 21 = .ok (.iconst 1, 1) := by decide +kernel
theorem dX9_gathers_22 : decode cX9_gathers 22 = .ok (.istore 5, 2) := by decide +kernel
theorem dX9_gathers_24 : decode cX9_gathers 24 = .ok (.iload 5, 2) := by decide +kernel
theorem dX9_gathers_26 : decode cX9_gathers 26 = .ok (.ifCond .eq 82, 3) := by decide +kernel
theorem dX9_gathers_29 : decode cX9_gathers 29 = .ok (.aload_n 0, 1) := by decide +kernel
theorem dX9_gathers_30 : decode cX9_gathers 30 = .ok (.aload_n 0, 1) := by decide +kernel
theorem dX9_gathers_31 : decode cX9_gathers 31 = .ok (.getfield 53, 3) := by decide +kernel
theorem dX9_gathers_34 : decode cX9_gathers 34 = .ok (.iload 4, 2) := by decide +kernel
theorem dX9_gathers_36 : decode cX9_gathers 36 = .ok (.iaload, 1) := by decide +kernel
theorem dX9_gathers_37 : decode cX9_gathers 37 = .ok (.invokevirtual 193, 3) := by decide +kernel
theorem dX9_gathers_40 : decode cX9_gathers 40 = .ok (.istore 6, 2) := by decide +kernel
theorem dX9_gathers_42 : decode cX9_gathers 42 = .ok (.iload 6, 2) := by decide +kernel
theorem dX9_gathers_44 : decode cX9_gathers 44 = .ok (.iconst (-1), 1) := by decide +kernel
theorem dX9_gathers_45 : decode cX9_gathers 45 = .ok (.if_icmp .eq 14, 3) := by decide +kernel
theorem dX9_gathers_48 : decode cX9_gathers 48 = .ok (.aload_n 0, 1) := by decide +kernel
theorem dX9_gathers_49 : decode cX9_gathers 49 = .ok (.getfield 56, 3) := by decide +kernel
theorem dX9_gathers_52 : decode cX9_gathers 52 = .ok (.iload 6, 2) := by decide +kernel
theorem dX9_gathers_54 : decode cX9_gathers 54 = .ok (.iaload, 1) := by decide +kernel
theorem dX9_gathers_55 : decode cX9_gathers 55 = .ok (.iconst 4, 1) := by decide +kernel
theorem dX9_gathers_56 : decode cX9_gathers 56 = .ok (.if_icmp .ne 4, 3) := by decide +kernel
theorem dX9_gathers_59 : decode cX9_gathers 59 = .ok (.return_, 1) := by decide +kernel
theorem dX9_gathers_60 : decode cX9_gathers 60 = .ok (.iload_n 3, 1) := by decide +kernel
theorem dX9_gathers_61 : decode cX9_gathers 61 = .ok (.iconst 1, 1) := by decide +kernel
theorem dX9_gathers_62 : decode cX9_gathers 62 = .ok (.iload 6, 2) := by decide +kernel
theorem dX9_gathers_64 : decode cX9_gathers 64 = .ok (.ishl, 1) := by decide +kernel
theorem dX9_gathers_65 : decode cX9_gathers 65 = .ok (.ior, 1) := by decide +kernel
theorem dX9_gathers_66 : decode cX9_gathers 66 = .ok (.istore_n 3, 1) := by decide +kernel
theorem dX9_gathers_67 : decode cX9_gathers 67 = .ok (.iload 4, 2) := by decide +kernel
theorem dX9_gathers_69 : decode cX9_gathers 69 = .ok (.iconst 1, 1) := by decide +kernel
theorem dX9_gathers_70 : decode cX9_gathers 70 = .ok (.if_icmp .le 29, 3) := by decide +kernel
theorem dX9_gathers_73 : decode cX9_gathers 73 = .ok (.aload_n 0, 1) := by decide +kernel
theorem dX9_gathers_74 : decode cX9_gathers 74 = .ok (.iload 4, 2) := by decide +kernel
theorem dX9_gathers_76 : decode cX9_gathers 76 = .ok (.iconst 2, 1) := by decide +kernel
theorem dX9_gathers_77 : decode cX9_gathers 77 = .ok (.isub, 1) := by decide +kernel
theorem dX9_gathers_78 : decode cX9_gathers 78 = .ok (.invokevirtual 196, 3) := by decide +kernel
theorem dX9_gathers_81 : decode cX9_gathers 81 = .ok (.ifCond .eq 18, 3) := by decide +kernel
theorem dX9_gathers_84 : decode cX9_gathers 84 = .ok (.aload_n 0, 1) := by decide +kernel
theorem dX9_gathers_85 : decode cX9_gathers 85 = .ok (.iload 4, 2) := by decide +kernel
theorem dX9_gathers_87 : decode cX9_gathers 87 = .ok (.iconst 2, 1) := by decide +kernel
theorem dX9_gathers_88 : decode cX9_gathers 88 = .ok (.isub, 1) := by decide +kernel
theorem dX9_gathers_89 : decode cX9_gathers 89 = .ok (.invokevirtual 213, 3) := by decide +kernel
theorem dX9_gathers_92 : decode cX9_gathers 92 = .ok (.ifCond .eq 7, 3) := by decide +kernel
theorem dX9_gathers_95 : decode cX9_gathers 95 = .ok (.iconst 1, 1) := by decide +kernel
theorem dX9_gathers_96 : decode cX9_gathers 96 = .ok (.goto 4, 3) := by decide +kernel
theorem dX9_gathers_99 : decode cX9_gathers 99 = .ok (.iconst 0, 1) := by decide +kernel
theorem dX9_gathers_100 : decode cX9_gathers 100 = .ok (.istore 5, 2) := by decide +kernel
theorem dX9_gathers_102 : decode cX9_gathers 102 = .ok (.iinc 4 (-2), 3) := by decide +kernel
theorem dX9_gathers_105 : decode cX9_gathers 105 = .ok (.goto (-81), 3) := by decide +kernel
theorem dX9_gathers_108 : decode cX9_gathers 108 = .ok (.iload_n 3, 1) := by decide +kernel
theorem dX9_gathers_109 : decode cX9_gathers 109 = .ok (.iload_n 3, 1) := by decide +kernel
theorem dX9_gathers_110 : decode cX9_gathers 110 = .ok (.iconst 1, 1) := by decide +kernel
theorem dX9_gathers_111 : decode cX9_gathers 111 = .ok (.isub, 1) := by decide +kernel
theorem dX9_gathers_112 : decode cX9_gathers 112 = .ok (.iand, 1) := by decide +kernel
theorem dX9_gathers_113 : decode cX9_gathers 113 = .ok (.ifCond .ne 4, 3) := by decide +kernel
theorem dX9_gathers_116 : decode cX9_gathers 116 = .ok (.return_, 1) := by decide +kernel
theorem dX9_gathers_117 : decode cX9_gathers 117 = .ok (.iconst 0, 1) := by decide +kernel
theorem dX9_gathers_118 : decode cX9_gathers 118 = .ok (.istore 6, 2) := by decide +kernel
theorem dX9_gathers_120 : decode cX9_gathers 120 = .ok (.iload 6, 2) := by decide +kernel
theorem dX9_gathers_122 : decode cX9_gathers 122 = .ok (.aload_n 0, 1) := by decide +kernel
theorem dX9_gathers_123 : decode cX9_gathers 123 = .ok (.getfield 167, 3) := by decide +kernel
theorem dX9_gathers_126 : decode cX9_gathers 126 = .ok (.if_icmp .ge 30, 3) := by decide +kernel
theorem dX9_gathers_129 : decode cX9_gathers 129 = .ok (.aload_n 0, 1) := by decide +kernel
theorem dX9_gathers_130 : decode cX9_gathers 130 = .ok (.getfield 56, 3) := by decide +kernel
theorem dX9_gathers_133 : decode cX9_gathers 133 = .ok (.iload 6, 2) := by decide +kernel
theorem dX9_gathers_135 : decode cX9_gathers 135 = .ok (.iaload, 1) := by decide +kernel
theorem dX9_gathers_136 : decode cX9_gathers 136 = .ok (.iconst 4, 1) := by decide +kernel
theorem dX9_gathers_137 : decode cX9_gathers 137 = .ok (.if_icmp .ne 13, 3) := by decide +kernel
theorem dX9_gathers_140 : decode cX9_gathers 140 = .ok (.aload_n 0, 1) := by decide +kernel
theorem dX9_gathers_141 : decode cX9_gathers 141 = .ok (.iload 6, 2) := by decide +kernel
theorem dX9_gathers_143 : decode cX9_gathers 143 = .ok (.invokevirtual 216, 3) := by decide +kernel
theorem dX9_gathers_146 : decode cX9_gathers 146 = .ok (.iload_n 3, 1) := by decide +kernel
theorem dX9_gathers_147 : decode cX9_gathers 147 = .ok (.if_icmp .eq 9, 3) := by decide +kernel
theorem dX9_gathers_150 : decode cX9_gathers 150 = .ok (.iinc 6 1, 3) := by decide +kernel
theorem dX9_gathers_153 : decode cX9_gathers 153 = .ok (.goto (-33), 3) := by decide +kernel
theorem dX9_gathers_156 : decode cX9_gathers 156 = .ok (.iload 6, 2) := by decide +kernel
theorem dX9_gathers_158 : decode cX9_gathers 158 = .ok (.aload_n 0, 1) := by decide +kernel
theorem dX9_gathers_159 : decode cX9_gathers 159 = .ok (.getfield 167, 3) := by decide +kernel
theorem dX9_gathers_162 : decode cX9_gathers 162 = .ok (.if_icmp .ne 25, 3) := by decide +kernel
theorem dX9_gathers_165 : decode cX9_gathers 165 = .ok (.aload_n 0, 1) := by decide +kernel
theorem dX9_gathers_166 : decode cX9_gathers 166 = .ok (.iconst 4, 1) := by decide +kernel
theorem dX9_gathers_167 : decode cX9_gathers 167 = .ok (.invokevirtual 180, 3) := by decide +kernel
theorem dX9_gathers_170 : decode cX9_gathers 170 = .ok (.istore 6, 2) := by decide +kernel
theorem dX9_gathers_172 : decode cX9_gathers 172 = .ok (.iload 6, 2) := by decide +kernel
theorem dX9_gathers_174 : decode cX9_gathers 174 = .ok (.iconst (-1), 1) := by decide +kernel
theorem dX9_gathers_175 : decode cX9_gathers 175 = .ok (.if_icmp .ne 4, 3) := by decide +kernel
theorem dX9_gathers_178 : decode cX9_gathers 178 = .ok (.return_, 1) := by decide +kernel
theorem dX9_gathers_179 : decode cX9_gathers 179 = .ok (.aload_n 0, 1) := by decide +kernel
theorem dX9_gathers_180 : decode cX9_gathers 180 = .ok (.getfield 68, 3) := by decide +kernel
theorem dX9_gathers_183 : decode cX9_gathers 183 = .ok (.iload 6, 2) := by decide +kernel
theorem dX9_gathers_185 : decode cX9_gathers 185 = .ok (.iload_n 3, 1) := by decide +kernel
theorem dX9_gathers_186 : decode cX9_gathers 186 = .ok (.iastore, 1) := by decide +kernel
theorem dX9_gathers_187 : decode cX9_gathers 187 = .ok (.aload_n 0, 1) := by decide +kernel
theorem dX9_gathers_188 : decode cX9_gathers 188 = .ok (.iload 6, 2) := by decide +kernel
theorem dX9_gathers_190 : decode cX9_gathers 190 = .ok (.iconst 2, 1) := by decide +kernel
theorem dX9_gathers_191 : decode cX9_gathers 191 = .ok (.iload_n 1, 1) := by decide +kernel
theorem dX9_gathers_192 : decode cX9_gathers 192 = .ok (.imul, 1) := by decide +kernel
theorem dX9_gathers_193 : decode cX9_gathers 193 = .ok (.iconst 1, 1) := by decide +kernel
theorem dX9_gathers_194 : decode cX9_gathers 194 = .ok (.iadd, 1) := by decide +kernel
theorem dX9_gathers_195 : decode cX9_gathers 195 = .ok (.aload_n 0, 1) := by decide +kernel
theorem dX9_gathers_196 : decode cX9_gathers 196 = .ok (.getfield 22, 3) := by decide +kernel
theorem dX9_gathers_199 : decode cX9_gathers 199 = .ok (.iload_n 2, 1) := by decide +kernel
theorem dX9_gathers_200 : decode cX9_gathers 200 = .ok (.iaload, 1) := by decide +kernel
theorem dX9_gathers_201 : decode cX9_gathers 201 = .ok (.invokevirtual 207, 3) := by decide +kernel
theorem dX9_gathers_204 : decode cX9_gathers 204 = .ok (.return_, 1) := by decide +kernel
theorem dX9_anew_0 : decode cX9_anew 0 = .ok (.aload_n 0, 1) := by decide +kernel
theorem dX9_anew_1 : decode cX9_anew 1 = .ok (.invokevirtual 219, 3) := by decide +kernel
theorem dX9_anew_4 : decode cX9_anew 4 = .ok (.aload_n 0, 1) := by decide +kernel
theorem dX9_anew_5 : decode cX9_anew 5 = .ok (.iconst 0, 1) := by decide +kernel
theorem dX9_anew_6 : decode cX9_anew 6 = .ok (.putfield 167, 3) := by decide +kernel
theorem dX9_anew_9 : decode cX9_anew 9 = .ok (.aload_n 0, 1) := by decide +kernel
theorem dX9_anew_10 : decode cX9_anew 10 = .ok (.iconst 0, 1) := by decide +kernel
theorem dX9_anew_11 : decode cX9_anew 11 = .ok (.putfield 221, 3) := by decide +kernel
theorem dX9_anew_14 : decode cX9_anew 14 = .ok (.iconst 0, 1) := by decide +kernel
theorem dX9_anew_15 : decode cX9_anew 15 = .ok (.istore_n 1, 1) := by decide +kernel
theorem dX9_anew_16 : decode cX9_anew 16 = .ok (.iload_n 1, 1) := by decide +kernel
theorem dX9_anew_17 : decode cX9_anew 17 = .ok (.aload_n 0, 1) := by decide +kernel
theorem dX9_anew_18 : decode cX9_anew 18 = .ok (.getfield 157, 3) := by decide +kernel
theorem dX9_anew_21 : decode cX9_anew 21 = .ok (.if_icmp .ge 145, 3) := by decide +kernel
theorem dX9_anew_24 : decode cX9_anew 24 = .ok (.aload_n 0, 1) := by decide +kernel
theorem dX9_anew_25 : decode cX9_anew 25 = .ok (.getfield 47, 3) := by decide +kernel
theorem dX9_anew_28 : decode cX9_anew 28 = .ok (.iload_n 1, 1) := by decide +kernel
theorem dX9_anew_29 : decode cX9_anew 29 = .ok (.iconst 0, 1) := by decide +kernel
theorem dX9_anew_30 : decode cX9_anew 30 = .ok (.iastore, 1) := by decide +kernel
theorem dX9_anew_31 : decode cX9_anew 31 = .ok (.aload_n 0, 1) := by decide +kernel
theorem dX9_anew_32 : decode cX9_anew 32 = .ok (.getfield 50, 3) := by decide +kernel
theorem dX9_anew_35 : decode cX9_anew 35 = .ok (.iload_n 1, 1) := by decide +kernel
theorem dX9_anew_36 : decode cX9_anew 36 = .ok (.iconst 0, 1) := by decide +kernel
theorem dX9_anew_37 : decode cX9_anew 37 = .ok (.bastore, 1) := by decide +kernel
theorem dX9_anew_38 : decode cX9_anew 38 = .ok (.aload_n 0, 1) := by decide +kernel
theorem dX9_anew_39 : decode cX9_anew 39 = .ok (.iload_n 1, 1) := by decide +kernel
theorem dX9_anew_40 : decode cX9_anew 40 = .ok (.invokevirtual 224, 3) := by decide +kernel
theorem dX9_anew_43 : decode cX9_anew 43 = .ok (.istore_n 2, 1) := by decide +kernel
theorem dX9_anew_44 : decode cX9_anew 44 = .ok (.aload_n 0, 1) := by decide +kernel
theorem dX9_anew_45 : decode cX9_anew 45 = .ok (.getfield 44, 3) := by decide +kernel
theorem dX9_anew_48 : decode cX9_anew 48 = .ok (.iload_n 1, 1) := by decide +kernel
theorem dX9_anew_49 : decode cX9_anew 49 = .ok (.iload_n 2, 1) := by decide +kernel
theorem dX9_anew_50 : decode cX9_anew 50 = .ok (.iconst (-1), 1) := by decide +kernel
theorem dX9_anew_51 : decode cX9_anew 51 = .ok (.if_icmp .eq 17, 3) := by decide +kernel
theorem dX9_anew_54 : decode cX9_anew 54 = .ok (.aload_n 0, 1) := by decide +kernel
theorem dX9_anew_55 : decode cX9_anew 55 = .ok (.iload_n 1, 1) := by decide +kernel
theorem dX9_anew_56 : decode cX9_anew 56 = .ok (.aload_n 0, 1) := by decide +kernel
theorem dX9_anew_57 : decode cX9_anew 57 = .ok (.getfield 80, 3) := by decide +kernel
theorem dX9_anew_60 : decode cX9_anew 60 = .ok (.iload_n 2, 1) := by decide +kernel
theorem dX9_anew_61 : decode cX9_anew 61 = .ok (.iaload, 1) := by decide +kernel
theorem dX9_anew_62 : decode cX9_anew 62 = .ok (.invokevirtual 227, 3) := by decide +kernel
theorem dX9_anew_65 : decode cX9_anew 65 = .ok (.goto 25, 3) := by decide +kernel
theorem dX9_anew_68 : decode cX9_anew 68 = .ok (.aload_n 0, 1) := by decide +kernel
theorem dX9_anew_69 : decode cX9_anew 69 = .ok (.getfield 41, 3) := by decide +kernel
theorem dX9_anew_72 : decode cX9_anew 72 = .ok (.iload_n 1, 1) := by decide +kernel
theorem dX9_anew_73 : decode cX9_anew 73 = .ok (.iaload, 1) := by decide +kernel
theorem dX9_anew_74 : decode cX9_anew 74 = .ok (.ifCond .ne 11, 3) := by decide +kernel
theorem dX9_anew_77 : decode cX9_anew 77 = .ok (.aload_n 0, 1) := by decide +kernel
theorem dX9_anew_78 : decode cX9_anew 78 = .ok (.iload_n 1, 1) := by decide +kernel
theorem dX9_anew_79 : decode cX9_anew 79 = .ok (.invokevirtual 231, 3) := by decide +kernel
theorem dX9_anew_82 : decode cX9_anew 82 = .ok (.goto 8, 3) := by decide +kernel
theorem dX9_anew_85 : decode cX9_anew 85 = .ok (.aload_n 0, 1) := by decide +kernel
theorem dX9_anew_86 : decode cX9_anew 86 = .ok (.iload_n 1, 1) := by decide +kernel
theorem dX9_anew_87 : decode cX9_anew 87 = .ok (.invokevirtual 234, 3) := by decide +kernel
theorem dX9_anew_90 : decode cX9_anew 90 = .ok (.iastore, 1) := by decide +kernel
theorem dX9_anew_91 : decode cX9_anew 91 = .ok (.aload_n 0, 1) := by decide +kernel
theorem dX9_anew_92 : decode cX9_anew 92 = .ok (.dup, 1) := by decide +kernel
theorem dX9_anew_93 : decode cX9_anew 93 = .ok (.getfield 221, 3) := by decide +kernel
theorem dX9_anew_96 : decode cX9_anew 96 = .ok (.aload_n 0, 1) := by decide +kernel
theorem dX9_anew_97 : decode cX9_anew 97 = .ok (.getfield 50, 3) := by decide +kernel
theorem dX9_anew_100 : decode cX9_anew 100 = .ok (.iload_n 1, 1) := by decide +kernel
theorem dX9_anew_101 : decode cX9_anew 101 = .ok (.baload, 1) := by decide +kernel
theorem dX9_anew_102 : decode cX9_anew 102 = .ok (.ifCond .eq 7, 3) := by decide +kernel
theorem dX9_anew_105 : decode cX9_anew 105 = .ok (.iconst 1, 1) := by decide +kernel
theorem dX9_anew_106 : decode cX9_anew 106 = .ok (.goto 4, 3) := by decide +kernel
theorem dX9_anew_109 : decode cX9_anew 109 = .ok (.iconst 0, 1) := by decide +kernel
theorem dX9_anew_110 : decode cX9_anew 110 = .ok (.iadd, 1) := by decide +kernel
theorem dX9_anew_111 : decode cX9_anew 111 = .ok (.putfield 221, 3) := by decide +kernel
theorem dX9_anew_114 : decode cX9_anew 114 = .ok (.aload_n 0, 1) := by decide +kernel
theorem dX9_anew_115 : decode cX9_anew 115 = .ok (.aload_n 0, 1) := by decide +kernel
theorem dX9_anew_116 : decode cX9_anew 116 = .ok (.getfield 44, 3) := by decide +kernel
theorem dX9_anew_119 : decode cX9_anew 119 = .ok (.iload_n 1, 1) := by decide +kernel
theorem dX9_anew_120 : decode cX9_anew 120 = .ok (.iaload, 1) := by decide +kernel
theorem dX9_anew_121 : decode cX9_anew 121 = .ok (.iconst 2, 1) := by decide +kernel
theorem dX9_anew_122 : decode cX9_anew 122 = .ok (.iload_n 1, 1) := by decide +kernel
theorem dX9_anew_123 : decode cX9_anew 123 = .ok (.imul, 1) := by decide +kernel
theorem dX9_anew_124 : decode cX9_anew 124 = .ok (.aload_n 0, 1) := by decide +kernel
theorem dX9_anew_125 : decode cX9_anew 125 = .ok (.getfield 22, 3) := by decide +kernel
theorem dX9_anew_128 : decode cX9_anew 128 = .ok (.aload_n 0, 1) := by decide +kernel
theorem dX9_anew_129 : decode cX9_anew 129 = .ok (.getfield 38, 3) := by decide +kernel
theorem dX9_anew_132 : decode cX9_anew 132 = .ok (.iload_n 1, 1) := by decide +kernel
theorem dX9_anew_133 : decode cX9_anew 133 = .ok (.iaload, 1) := by decide +kernel
theorem dX9_anew_134 : decode cX9_anew 134 = .ok (.iaload, 1) := by decide +kernel
theorem dX9_anew_135 : decode cX9_anew 135 = .ok (.invokevirtual 207, 3) := by decide +kernel
theorem dX9_anew_138 : decode cX9_anew 138 = .ok (.aload_n 0, 1) := by decide +kernel
theorem dX9_anew_139 : decode cX9_anew 139 = .ok (.getfield 41, 3) := by decide +kernel
theorem dX9_anew_142 : decode cX9_anew 142 = .ok (.iload_n 1, 1) := by decide +kernel
theorem dX9_anew_143 : decode cX9_anew 143 = .ok (.iaload, 1) := by decide +kernel
theorem dX9_anew_144 : decode cX9_anew 144 = .ok (.ifCond .eq 6, 3) := by decide +kernel
theorem dX9_anew_147 : decode cX9_anew 147 = .ok (.goto 13, 3) := by decide +kernel
theorem dX9_anew_150 : decode cX9_anew 150 = .ok (.aload_n 0, 1) := by decide +kernel
theorem dX9_anew_151 : decode cX9_anew 151 = .ok (.iload_n 1, 1) := by decide +kernel
theorem dX9_anew_152 : decode cX9_anew 152 = .ok (.invokevirtual 237, 3) := by decide +kernel
theorem dX9_anew_155 : decode cX9_anew 155 = .ok (.aload_n 0, 1) := by decide +kernel
theorem dX9_anew_156 : decode cX9_anew 156 = .ok (.iload_n 1, 1) := by decide +kernel
theorem dX9_anew_157 : decode cX9_anew 157 = .ok (.invokevirtual 241, 3) := by decide +kernel
theorem dX9_anew_160 : decode cX9_anew 160 = .ok (.iinc 1 1, 3) := by decide +kernel
theorem dX9_anew_163 : decode cX9_anew 163 = .ok (.goto (-147), 3) := by decide +kernel
theorem dX9_anew_166 : decode cX9_anew 166 = .ok (.return_, 1) := by decide +kernel
theorem dX9_read_0 : decode cX9_read 0 = .ok (.aload_n 0, 1) := by decide +kernel
theorem dX9_read_1 : decode cX9_read 1 = .ok (.aload_n 0, 1) := by decide +kernel
theorem dX9_read_2 : decode cX9_read 2 = .ok (.getfield 83, 3) := by decide +kernel
theorem dX9_read_5 : decode cX9_read 5 = .ok (.putfield 104, 3) := by decide +kernel
theorem dX9_read_8 : decode cX9_read 8 = .ok (.iconst 0, 1) := by decide +kernel
theorem dX9_read_9 : decode cX9_read 9 = .ok (.istore_n 1, 1) := by decide +kernel
theorem dX9_read_10 : decode cX9_read 10 = .ok (.iload_n 1, 1) := by decide +kernel
theorem dX9_read_11 : decode cX9_read 11 = .ok (.aload_n 0, 1) := by decide +kernel
theorem dX9_read_12 : decode cX9_read 12 = .ok (.getfield 83, 3) := by decide +kernel
theorem dX9_read_15 : decode cX9_read 15 = .ok (.if_icmp .ge 21, 3) := by decide +kernel
theorem dX9_read_18 : decode cX9_read 18 = .ok (.aload_n 0, 1) := by decide +kernel
theorem dX9_read_19 : decode cX9_read 19 = .ok (.getfield 13, 3) := by decide +kernel
theorem dX9_read_22 : decode cX9_read 22 = .ok (.iload_n 1, 1) := by decide +kernel
theorem dX9_read_23 : decode cX9_read 23 = .ok (.aload_n 0, 1) := by decide +kernel
theorem dX9_read_24 : decode cX9_read 24 = .ok (.getfield 7, 3) := by decide +kernel
theorem dX9_read_27 : decode cX9_read 27 = .ok (.iload_n 1, 1) := by decide +kernel
theorem dX9_read_28 : decode cX9_read 28 = .ok (.iaload, 1) := by decide +kernel
theorem dX9_read_29 : decode cX9_read 29 = .ok (.iastore, 1) := by decide +kernel
theorem dX9_read_30 : decode cX9_read 30 = .ok (.iinc 1 1, 3) := by decide +kernel
theorem dX9_read_33 : decode cX9_read 33 = .ok (.goto (-23), 3) := by decide +kernel
theorem dX9_read_36 : decode cX9_read 36 = .ok (.aload_n 0, 1) := by decide +kernel
theorem dX9_read_37 : decode cX9_read 37 = .ok (.iconst 0, 1) := by decide +kernel
theorem dX9_read_38 : decode cX9_read 38 = .ok (.putfield 83, 3) := by decide +kernel
theorem dX9_read_41 : decode cX9_read 41 = .ok (.aload_n 0, 1) := by decide +kernel
theorem dX9_read_42 : decode cX9_read 42 = .ok (.iconst 0, 1) := by decide +kernel
theorem dX9_read_43 : decode cX9_read 43 = .ok (.putfield 190, 3) := by decide +kernel
theorem dX9_read_46 : decode cX9_read 46 = .ok (.aload_n 0, 1) := by decide +kernel
theorem dX9_read_47 : decode cX9_read 47 = .ok (.invokevirtual 244, 3) := by decide +kernel
theorem dX9_read_50 : decode cX9_read 50 = .ok (.aload_n 0, 1) := by decide +kernel
theorem dX9_read_51 : decode cX9_read 51 = .ok (.invokevirtual 247, 3) := by decide +kernel
theorem dX9_read_54 : decode cX9_read 54 = .ok (.aload_n 0, 1) := by decide +kernel
theorem dX9_read_55 : decode cX9_read 55 = .ok (.getfield 157, 3) := by decide +kernel
theorem dX9_read_58 : decode cX9_read 58 = .ok (.ireturn, 1) := by decide +kernel
theorem dX9_tell_0 : decode cX9_tell 0 = .ok (.aload_n 0, 1) := by decide +kernel
theorem dX9_tell_1 : decode cX9_tell 1 = .ok (.getfield 83, 3) := by decide +kernel
theorem dX9_tell_4 : decode cX9_tell 4 = .ok (.istore_n 2, 1) := by decide +kernel
theorem dX9_tell_5 : decode cX9_tell 5 = .ok (.aload_n 0, 1) := by decide +kernel
theorem dX9_tell_6 : decode cX9_tell 6 = .ok (.iconst 0, 1) := by decide +kernel
theorem dX9_tell_7 : decode cX9_tell 7 = .ok (.putfield 83, 3) := by decide +kernel
theorem dX9_tell_10 : decode cX9_tell 10 = .ok (.iload_n 1, 1) := by decide +kernel
theorem dX9_tell_11 : decode cX9_tell 11 = .ok (.iconst 0, 1) := by decide +kernel
theorem dX9_tell_12 : decode cX9_tell 12 = .ok (.iconst 3, 1) := by decide +kernel
theorem dX9_tell_13 : decode cX9_tell 13 = .ok (.invokestatic 87, 3) := by decide +kernel
theorem dX9_tell_16 : decode cX9_tell 16 = .ok (.ifCond .eq 25, 3) := by decide +kernel
theorem dX9_tell_19 : decode cX9_tell 19 = .ok (.iload_n 2, 1) := by decide +kernel
theorem dX9_tell_20 : decode cX9_tell 20 = .ok (.iconst 2, 1) := by decide +kernel
theorem dX9_tell_21 : decode cX9_tell 21 = .ok (.bipush 10, 2) := by decide +kernel
theorem dX9_tell_23 : decode cX9_tell 23 = .ok (.invokestatic 87, 3) := by decide +kernel
theorem dX9_tell_26 : decode cX9_tell 26 = .ok (.ifCond .eq 15, 3) := by decide +kernel
theorem dX9_tell_29 : decode cX9_tell 29 = .ok (.aload_n 0, 1) := by decide +kernel
theorem dX9_tell_30 : decode cX9_tell 30 = .ok (.getfield 7, 3) := by decide +kernel
theorem dX9_tell_33 : decode cX9_tell 33 = .ok (.iconst 0, 1) := by decide +kernel
theorem dX9_tell_34 : decode cX9_tell 34 = .ok (.iaload, 1) := by decide +kernel
theorem dX9_tell_35 : decode cX9_tell 35 = .ok (.invokestatic 95, 3) := by decide +kernel
theorem dX9_tell_38 : decode cX9_tell 38 = .ok (.ifCond .ne 5, 3) := by decide +kernel
theorem dX9_tell_41 : decode cX9_tell 41 = .ok (.iconst 0, 1) := by decide +kernel
theorem dX9_tell_42 : decode cX9_tell 42 = .ok (.ireturn, 1) := by decide +kernel
theorem dX9_tell_43 : decode cX9_tell 43 = .ok (.lconst 0, 1) := by decide +kernel
theorem dX9_tell_44 : decode cX9_tell 44 = .ok (.lstore_n 3, 1) := by decide +kernel
theorem dX9_tell_45 : decode cX9_tell 45 = .ok (.iconst 0, 1) := by decide +kernel
theorem dX9_tell_46 : decode cX9_tell 46 = .ok (.istore 5, 2) := by decide +kernel
theorem dX9_tell_48 : decode cX9_tell 48 = .ok (.iload 5, 2) := by decide +kernel
theorem dX9_tell_50 : decode cX9_tell 50 = .ok (.iload_n 2, 1) := by decide +kernel
theorem dX9_tell_51 : decode cX9_tell 51 = .ok (.if_icmp .ge 70, 3) := by decide +kernel
theorem dX9_tell_54 : decode cX9_tell 54 = .ok (.iload 5, 2) := by decide +kernel
theorem dX9_tell_56 : decode cX9_tell 56 = .ok (.ifCond .le 18, 3) := by decide +kernel
theorem dX9_tell_59 : decode cX9_tell 59 = .ok (.aload_n 0, 1) := by decide +kernel
theorem dX9_tell_60 : decode cX9_tell 60 = .ok (.getfield 7, 3) := by decide +kernel
theorem dX9_tell_63 : decode cX9_tell 63 = .ok (.iload 5, 2) := by decide +kernel
theorem dX9_tell_65 : decode cX9_tell 65 = .ok (.iaload, 1) := by decide +kernel
theorem dX9_tell_66 : decode cX9_tell 66 = .ok (.invokestatic 91, 3) := by decide +kernel
theorem dX9_tell_69 : decode cX9_tell 69 = .ok (.ifCond .ne 5, 3) := by decide +kernel
theorem dX9_tell_72 : decode cX9_tell 72 = .ok (.iconst 0, 1) := by decide +kernel
theorem dX9_tell_73 : decode cX9_tell 73 = .ok (.ireturn, 1) := by decide +kernel
theorem dX9_tell_74 : decode cX9_tell 74 = .ok (.iload_n 2, 1) := by decide +kernel
theorem dX9_tell_75 : decode cX9_tell 75 = .ok (.bipush 7, 2) := by decide +kernel
theorem dX9_tell_77 : decode cX9_tell 77 = .ok (.if_icmp .ge 36, 3) := by decide +kernel
theorem dX9_tell_80 : decode cX9_tell 80 = .ok (.lload_n 3, 1) := by decide +kernel
theorem dX9_tell_81 : decode cX9_tell 81 = .ok (.bipush 8, 2) := by decide +kernel
theorem dX9_tell_83 : decode cX9_tell 83 = .ok (.lshl, 1) := by decide +kernel
theorem dX9_tell_84 : decode cX9_tell 84 = .ok (.iload 5, 2) := by decide +kernel
theorem dX9_tell_86 : decode cX9_tell 86 = .ok (.ifCond .ne 15, 3) := by decide +kernel
theorem dX9_tell_89 : decode cX9_tell 89 = .ok (.aload_n 0, 1) := by decide +kernel
theorem dX9_tell_90 : decode cX9_tell 90 = .ok (.getfield 7, 3) := by decide +kernel
theorem dX9_tell_93 : decode cX9_tell 93 = .ok (.iconst 0, 1) := by decide +kernel
theorem dX9_tell_94 : decode cX9_tell 94 = .ok (.iaload, 1) := by decide +kernel
theorem dX9_tell_95 : decode cX9_tell 95 = .ok (.bipush 32, 2) := by decide +kernel
theorem dX9_tell_97 : decode cX9_tell 97 = .ok (.iadd, 1) := by decide +kernel
theorem dX9_tell_98 : decode cX9_tell 98 = .ok (.goto 10, 3) := by decide +kernel
theorem dX9_tell_101 : decode cX9_tell 101 = .ok (.aload_n 0, 1) := by decide +kernel
theorem dX9_tell_102 : decode cX9_tell 102 = .ok (.getfield 7, 3) := by decide +kernel
theorem dX9_tell_105 : decode cX9_tell 105 = .ok (.iload 5, 2) := by decide +kernel
theorem dX9_tell_107 : decode cX9_tell 107 = .ok (.iaload, 1) := by decide +kernel
theorem dX9_tell_108 : decode cX9_tell 108 = .ok (.i2l, 1) := by decide +kernel
theorem dX9_tell_109 : decode cX9_tell 109 = .ok (.lor, 1) := by decide +kernel
theorem dX9_tell_110 : decode cX9_tell 110 = .ok (.goto 4, 3) := by decide +kernel
theorem dX9_tell_113 : decode cX9_tell 113 = .ok (.lconst 0, 1) := by decide +kernel
theorem dX9_tell_114 : decode cX9_tell 114 = .ok (.lstore_n 3, 1) := by decide +kernel
theorem dX9_tell_115 : decode cX9_tell 115 = .ok (.iinc 5 1, 3) := by decide +kernel
theorem dX9_tell_118 : decode cX9_tell 118 = .ok (.goto (-70), 3) := by decide +kernel
theorem dX9_tell_121 : decode cX9_tell 121 = .ok (.lload_n 3, 1) := by decide +kernel
theorem dX9_tell_122 : decode cX9_tell 122 = .ok (.invokestatic 139, 3) := by decide +kernel
theorem dX9_tell_125 : decode cX9_tell 125 = .ok (.ifCond .le 5, 3) := by decide +kernel
theorem dX9_tell_128 : decode cX9_tell 128 = .ok (.iconst 0, 1) := by decide +kernel
theorem dX9_tell_129 : decode cX9_tell 129 = .ok (.ireturn, 1) := by decide +kernel
theorem dX9_tell_130 : decode cX9_tell 130 = .ok (.iconst 0, 1) := by decide +kernel
theorem dX9_tell_131 : decode cX9_tell 131 = .ok (.istore 5, 2) := by decide +kernel
theorem dX9_tell_133 : decode cX9_tell 133 = .ok (.iload 5, 2) := by decide +kernel
theorem dX9_tell_135 : decode cX9_tell 135 = .ok (.aload_n 0, 1) := by decide +kernel
theorem dX9_tell_136 : decode cX9_tell 136 = .ok (.getfield 132, 3) := by decide +kernel
theorem dX9_tell_139 : decode cX9_tell 139 = .ok (.if_icmp .ge 19, 3) := by decide +kernel
theorem dX9_tell_142 : decode cX9_tell 142 = .ok (.aload_n 0, 1) := by decide +kernel
theorem dX9_tell_143 : decode cX9_tell 143 = .ok (.iload 5, 2) := by decide +kernel
theorem dX9_tell_145 : decode cX9_tell 145 = .ok (.iload_n 2, 1) := by decide +kernel
theorem dX9_tell_146 : decode cX9_tell 146 = .ok (.invokevirtual 250, 3) := by decide +kernel
theorem dX9_tell_149 : decode cX9_tell 149 = .ok (.ifCond .ne 9, 3) := by decide +kernel
theorem dX9_tell_152 : decode cX9_tell 152 = .ok (.iinc 5 1, 3) := by decide +kernel
theorem dX9_tell_155 : decode cX9_tell 155 = .ok (.goto (-22), 3) := by decide +kernel
theorem dX9_tell_158 : decode cX9_tell 158 = .ok (.iload 5, 2) := by decide +kernel
theorem dX9_tell_160 : decode cX9_tell 160 = .ok (.bipush 8, 2) := by decide +kernel
theorem dX9_tell_162 : decode cX9_tell 162 = .ok (.if_icmp .ne 5, 3) := by decide +kernel
theorem dX9_tell_165 : decode cX9_tell 165 = .ok (.iconst 0, 1) := by decide +kernel
theorem dX9_tell_166 : decode cX9_tell 166 = .ok (.ireturn, 1) := by decide +kernel
theorem dX9_tell_167 : decode cX9_tell 167 = .ok (.iload 5, 2) := by decide +kernel
theorem dX9_tell_169 : decode cX9_tell 169 = .ok (.aload_n 0, 1) := by decide +kernel
theorem dX9_tell_170 : decode cX9_tell 170 = .ok (.getfield 132, 3) := by decide +kernel
theorem dX9_tell_173 : decode cX9_tell 173 = .ok (.if_icmp .ne 13, 3) := by decide +kernel
theorem dX9_tell_176 : decode cX9_tell 176 = .ok (.aload_n 0, 1) := by decide +kernel
theorem dX9_tell_177 : decode cX9_tell 177 = .ok (.dup, 1) := by decide +kernel
theorem dX9_tell_178 : decode cX9_tell 178 = .ok (.getfield 132, 3) := by decide +kernel
theorem dX9_tell_181 : decode cX9_tell 181 = .ok (.iconst 1, 1) := by decide +kernel
theorem dX9_tell_182 : decode cX9_tell 182 = .ok (.iadd, 1) := by decide +kernel
theorem dX9_tell_183 : decode cX9_tell 183 = .ok (.putfield 132, 3) := by decide +kernel
theorem dX9_tell_186 : decode cX9_tell 186 = .ok (.aload_n 0, 1) := by decide +kernel
theorem dX9_tell_187 : decode cX9_tell 187 = .ok (.getfield 29, 3) := by decide +kernel
theorem dX9_tell_190 : decode cX9_tell 190 = .ok (.iload 5, 2) := by decide +kernel
theorem dX9_tell_192 : decode cX9_tell 192 = .ok (.iload_n 2, 1) := by decide +kernel
theorem dX9_tell_193 : decode cX9_tell 193 = .ok (.iastore, 1) := by decide +kernel
theorem dX9_tell_194 : decode cX9_tell 194 = .ok (.aload_n 0, 1) := by decide +kernel
theorem dX9_tell_195 : decode cX9_tell 195 = .ok (.getfield 35, 3) := by decide +kernel
theorem dX9_tell_198 : decode cX9_tell 198 = .ok (.iload 5, 2) := by decide +kernel
theorem dX9_tell_200 : decode cX9_tell 200 = .ok (.iload_n 1, 1) := by decide +kernel
theorem dX9_tell_201 : decode cX9_tell 201 = .ok (.iastore, 1) := by decide +kernel
theorem dX9_tell_202 : decode cX9_tell 202 = .ok (.iconst 0, 1) := by decide +kernel
theorem dX9_tell_203 : decode cX9_tell 203 = .ok (.istore 6, 2) := by decide +kernel
theorem dX9_tell_205 : decode cX9_tell 205 = .ok (.iload 6, 2) := by decide +kernel
theorem dX9_tell_207 : decode cX9_tell 207 = .ok (.iload_n 2, 1) := by decide +kernel
theorem dX9_tell_208 : decode cX9_tell 208 = .ok (.if_icmp .ge 29, 3) := by decide +kernel
theorem dX9_tell_211 : decode cX9_tell 211 = .ok (.aload_n 0, 1) := by decide +kernel
theorem dX9_tell_212 : decode cX9_tell 212 = .ok (.getfield 32, 3) := by decide +kernel
theorem dX9_tell_215 : decode cX9_tell 215 = .ok (.bipush 10, 2) := by decide +kernel
theorem dX9_tell_217 : decode cX9_tell 217 = .ok (.iload 5, 2) := by decide +kernel
theorem dX9_tell_219 : decode cX9_tell 219 = .ok (.imul, 1) := by decide +kernel
theorem dX9_tell_220 : decode cX9_tell 220 = .ok (.iload 6, 2) := by decide +kernel
theorem dX9_tell_222 : decode cX9_tell 222 = .ok (.iadd, 1) := by decide +kernel
theorem dX9_tell_223 : decode cX9_tell 223 = .ok (.aload_n 0, 1) := by decide +kernel
theorem dX9_tell_224 : decode cX9_tell 224 = .ok (.getfield 7, 3) := by decide +kernel
theorem dX9_tell_227 : decode cX9_tell 227 = .ok (.iload 6, 2) := by decide +kernel
theorem dX9_tell_229 : decode cX9_tell 229 = .ok (.iaload, 1) := by decide +kernel
theorem dX9_tell_230 : decode cX9_tell 230 = .ok (.iastore, 1) := by decide +kernel
theorem dX9_tell_231 : decode cX9_tell 231 = .ok (.iinc 6 1, 3) := by decide +kernel
theorem dX9_tell_234 : decode cX9_tell 234 = .ok (.goto (-29), 3) := by decide +kernel
theorem dX9_tell_237 : decode cX9_tell 237 = .ok (.aload_n 0, 1) := by decide +kernel
theorem dX9_tell_238 : decode cX9_tell 238 = .ok (.invokevirtual 247, 3) := by decide +kernel
theorem dX9_tell_241 : decode cX9_tell 241 = .ok (.iconst 1, 1) := by decide +kernel
theorem dX9_tell_242 : decode cX9_tell 242 = .ok (.ireturn, 1) := by decide +kernel
theorem dX9_isTold_0 : decode cX9_isTold 0 = .ok (.aload_n 0, 1) := by decide +kernel
theorem dX9_isTold_1 : decode cX9_isTold 1 = .ok (.getfield 29, 3) := by decide +kernel
theorem dX9_isTold_4 : decode cX9_isTold 4 = .ok (.iload_n 1, 1) := by decide +kernel
theorem dX9_isTold_5 : decode cX9_isTold 5 = .ok (.iaload, 1) := by decide +kernel
theorem dX9_isTold_6 : decode cX9_isTold 6 = .ok (.iload_n 2, 1) := by decide +kernel
theorem dX9_isTold_7 : decode cX9_isTold 7 = .ok (.if_icmp .ne 7, 3) := by decide +kernel
theorem dX9_isTold_10 : decode cX9_isTold 10 = .ok (.iconst 1, 1) := by decide +kernel
theorem dX9_isTold_11 : decode cX9_isTold 11 = .ok (.goto 4, 3) := by decide +kernel
theorem dX9_isTold_14 : decode cX9_isTold 14 = .ok (.iconst 0, 1) := by decide +kernel
theorem dX9_isTold_15 : decode cX9_isTold 15 = .ok (.istore_n 3, 1) := by decide +kernel
theorem dX9_isTold_16 : decode cX9_isTold 16 = .ok (.iconst 0, 1) := by decide +kernel
theorem dX9_isTold_17 : decode cX9_isTold 17 = .ok (.istore 4, 2) := by decide +kernel
theorem dX9_isTold_19 : decode cX9_isTold 19 = .ok (.iload 4, 2) := by decide +kernel
theorem dX9_isTold_21 : decode cX9_isTold 21 = .ok (.iload_n 2, 1) := by decide +kernel
theorem dX9_isTold_22 : decode cX9_isTold 22 = .ok (.if_icmp .ge 41, 3) := by decide +kernel
theorem dX9_isTold_25 : decode cX9_isTold 25 = .ok (.iload_n 3, 1) := by decide +kernel
theorem dX9_isTold_26 : decode cX9_isTold 26 = .ok (.ifCond .eq 37, 3) := by decide +kernel
theorem dX9_isTold_29 : decode cX9_isTold 29 = .ok (.aload_n 0, 1) := by decide +kernel
theorem dX9_isTold_30 : decode cX9_isTold 30 = .ok (.getfield 32, 3) := by decide +kernel
theorem dX9_isTold_33 : decode cX9_isTold 33 = .ok (.bipush 10, 2) := by decide +kernel
theorem dX9_isTold_35 : decode cX9_isTold 35 = .ok (.iload_n 1, 1) := by decide +kernel
theorem dX9_isTold_36 : decode cX9_isTold 36 = .ok (.imul, 1) := by decide +kernel
theorem dX9_isTold_37 : decode cX9_isTold 37 = .ok (.iload 4, 2) := by decide +kernel
theorem dX9_isTold_39 : decode cX9_isTold 39 = .ok (.iadd, 1) := by decide +kernel
theorem dX9_isTold_40 : decode cX9_isTold 40 = .ok (.iaload, 1) := by decide +kernel
theorem dX9_isTold_41 : decode cX9_isTold 41 = .ok (.aload_n 0, 1) := by decide +kernel
theorem dX9_isTold_42 : decode cX9_isTold 42 = .ok (.getfield 7, 3) := by decide +kernel
theorem dX9_isTold_45 : decode cX9_isTold 45 = .ok (.iload 4, 2) := by decide +kernel
theorem dX9_isTold_47 : decode cX9_isTold 47 = .ok (.iaload, 1) := by decide +kernel
theorem dX9_isTold_48 : decode cX9_isTold 48 = .ok (.if_icmp .ne 7, 3) := by decide +kernel
theorem dX9_isTold_51 : decode cX9_isTold 51 = .ok (.iconst 1, 1) := by decide +kernel
theorem dX9_isTold_52 : decode cX9_isTold 52 = .ok (.goto 4, 3) := by decide +kernel
theorem dX9_isTold_55 : decode cX9_isTold 55 = .ok (.iconst 0, 1) := by decide +kernel
theorem dX9_isTold_56 : decode cX9_isTold 56 = .ok (.istore_n 3, 1) := by decide +kernel
theorem dX9_isTold_57 : decode cX9_isTold 57 = .ok (.iinc 4 1, 3) := by decide +kernel
theorem dX9_isTold_60 : decode cX9_isTold 60 = .ok (.goto (-41), 3) := by decide +kernel
theorem dX9_isTold_63 : decode cX9_isTold 63 = .ok (.iload_n 3, 1) := by decide +kernel
theorem dX9_isTold_64 : decode cX9_isTold 64 = .ok (.ireturn, 1) := by decide +kernel
theorem dX9_forget_0 : decode cX9_forget 0 = .ok (.aload_n 0, 1) := by decide +kernel
theorem dX9_forget_1 : decode cX9_forget 1 = .ok (.iconst 0, 1) := by decide +kernel
theorem dX9_forget_2 : decode cX9_forget 2 = .ok (.putfield 132, 3) := by decide +kernel
theorem dX9_forget_5 : decode cX9_forget 5 = .ok (.aload_n 0, 1) := by decide +kernel
theorem dX9_forget_6 : decode cX9_forget 6 = .ok (.invokevirtual 247, 3) := by decide +kernel
theorem dX9_forget_9 : decode cX9_forget 9 = .ok (.return_, 1) := by decide +kernel
theorem dX9_pin_0 : decode cX9_pin 0 = .ok (.iload_n 1, 1) := by decide +kernel
theorem dX9_pin_1 : decode cX9_pin 1 = .ok (.iconst 0, 1) := by decide +kernel
theorem dX9_pin_2 : decode cX9_pin 2 = .ok (.aload_n 0, 1) := by decide +kernel
theorem dX9_pin_3 : decode cX9_pin 3 = .ok (.getfield 157, 3) := by decide +kernel
theorem dX9_pin_6 : decode cX9_pin 6 = .ok (.iconst 1, 1) := by decide +kernel
theorem dX9_pin_7 : decode cX9_pin 7 = .ok (.isub, 1) := by decide +kernel
theorem dX9_pin_8 : decode cX9_pin 8 = .ok (.invokestatic 87, 3) := by decide +kernel
theorem dX9_pin_11 : decode cX9_pin 11 = .ok (.ifCond .eq 14, 3) := by decide +kernel
theorem dX9_pin_14 : decode cX9_pin 14 = .ok (.iload_n 2, 1) := by decide +kernel
theorem dX9_pin_15 : decode cX9_pin 15 = .ok (.iconst 0, 1) := by decide +kernel
theorem dX9_pin_16 : decode cX9_pin 16 = .ok (.iload_n 1, 1) := by decide +kernel
theorem dX9_pin_17 : decode cX9_pin 17 = .ok (.iconst 1, 1) := by decide +kernel
theorem dX9_pin_18 : decode cX9_pin 18 = .ok (.isub, 1) := by decide +kernel
theorem dX9_pin_19 : decode cX9_pin 19 = .ok (.invokestatic 87, 3) := by decide +kernel
theorem dX9_pin_22 : decode cX9_pin 22 = .ok (.ifCond .ne 5, 3) := by decide +kernel
theorem dX9_pin_25 : decode cX9_pin 25 = .ok (.iconst 0, 1) := by decide +kernel
theorem dX9_pin_26 : decode cX9_pin 26 = .ok (.ireturn, 1) := by decide +kernel
theorem dX9_pin_27 : decode cX9_pin 27 = .ok (.aload_n 0, 1) := by decide +kernel
theorem dX9_pin_28 : decode cX9_pin 28 = .ok (.iload_n 1, 1) := by decide +kernel
theorem dX9_pin_29 : decode cX9_pin 29 = .ok (.invokevirtual 224, 3) := by decide +kernel
theorem dX9_pin_32 : decode cX9_pin 32 = .ok (.istore_n 3, 1) := by decide +kernel
theorem dX9_pin_33 : decode cX9_pin 33 = .ok (.iload_n 3, 1) := by decide +kernel
theorem dX9_pin_34 : decode cX9_pin 34 = .ok (.iconst (-1), 1) := by decide +kernel
theorem dX9_pin_35 : decode cX9_pin 35 = .ok (.if_icmp .ne 14, 3) := by decide +kernel
theorem dX9_pin_38 : decode cX9_pin 38 = .ok (.aload_n 0, 1) := by decide +kernel
theorem dX9_pin_39 : decode cX9_pin 39 = .ok (.getfield 190, 3) := by decide +kernel
theorem dX9_pin_42 : decode cX9_pin 42 = .ok (.bipush 20, 2) := by decide +kernel
theorem dX9_pin_44 : decode cX9_pin 44 = .ok (.if_icmp .ne 5, 3) := by decide +kernel
theorem dX9_pin_47 : decode cX9_pin 47 = .ok (.iconst 0, 1) := by decide +kernel
theorem dX9_pin_48 : decode cX9_pin 48 = .ok (.ireturn, 1) := by decide +kernel
theorem dX9_pin_49 : decode cX9_pin 49 = .ok (.iload_n 3, 1) := by decide +kernel
theorem dX9_pin_50 : decode cX9_pin 50 = .ok (.iconst (-1), 1) := by decide +kernel
theorem dX9_pin_51 : decode cX9_pin 51 = .ok (.if_icmp .ne 18, 3) := by decide +kernel
theorem dX9_pin_54 : decode cX9_pin 54 = .ok (.aload_n 0, 1) := by decide +kernel
theorem dX9_pin_55 : decode cX9_pin 55 = .ok (.getfield 190, 3) := by decide +kernel
theorem dX9_pin_58 : decode cX9_pin 58 = .ok (.istore_n 3, 1) := by decide +kernel
theorem dX9_pin_59 : decode cX9_pin 59 = .ok (.aload_n 0, 1) := by decide +kernel
theorem dX9_pin_60 : decode cX9_pin 60 = .ok (.dup, 1) := by decide +kernel
theorem dX9_pin_61 : decode cX9_pin 61 = .ok (.getfield 190, 3) := by decide +kernel
theorem dX9_pin_64 : decode cX9_pin 64 = .ok (.iconst 1, 1) := by decide +kernel
theorem dX9_pin_65 : decode cX9_pin 65 = .ok (.iadd, 1) := by decide +kernel
theorem dX9_pin_66 : decode cX9_pin 66 = .ok (.putfield 190, 3) := by decide +kernel
theorem dX9_pin_69 : decode cX9_pin 69 = .ok (.aload_n 0, 1) := by decide +kernel
theorem dX9_pin_70 : decode cX9_pin 70 = .ok (.getfield 77, 3) := by decide +kernel
theorem dX9_pin_73 : decode cX9_pin 73 = .ok (.iload_n 3, 1) := by decide +kernel
theorem dX9_pin_74 : decode cX9_pin 74 = .ok (.iload_n 1, 1) := by decide +kernel
theorem dX9_pin_75 : decode cX9_pin 75 = .ok (.iastore, 1) := by decide +kernel
theorem dX9_pin_76 : decode cX9_pin 76 = .ok (.aload_n 0, 1) := by decide +kernel
theorem dX9_pin_77 : decode cX9_pin 77 = .ok (.getfield 80, 3) := by decide +kernel
theorem dX9_pin_80 : decode cX9_pin 80 = .ok (.iload_n 3, 1) := by decide +kernel
theorem dX9_pin_81 : decode cX9_pin 81 = .ok (.iload_n 2, 1) := by decide +kernel
theorem dX9_pin_82 : decode cX9_pin 82 = .ok (.iastore, 1) := by decide +kernel
theorem dX9_pin_83 : decode cX9_pin 83 = .ok (.aload_n 0, 1) := by decide +kernel
theorem dX9_pin_84 : decode cX9_pin 84 = .ok (.invokevirtual 247, 3) := by decide +kernel
theorem dX9_pin_87 : decode cX9_pin 87 = .ok (.iconst 1, 1) := by decide +kernel
theorem dX9_pin_88 : decode cX9_pin 88 = .ok (.ireturn, 1) := by decide +kernel
theorem dX9_loose_0 : decode cX9_loose 0 = .ok (.aload_n 0, 1) := by decide +kernel
theorem dX9_loose_1 : decode cX9_loose 1 = .ok (.iload_n 1, 1) := by decide +kernel
theorem dX9_loose_2 : decode cX9_loose 2 = .ok (.invokevirtual 224, 3) := by decide +kernel
theorem dX9_loose_5 : decode cX9_loose 5 = .ok (.istore_n 2, 1) := by decide +kernel
theorem dX9_loose_6 : decode cX9_loose 6 = .ok (.iload_n 2, 1) := by decide +kernel
theorem dX9_loose_7 : decode cX9_loose 7 = .ok (.iconst (-1), 1) := by decide +kernel
theorem dX9_loose_8 : decode cX9_loose 8 = .ok (.if_icmp .ne 5, 3) := by decide +kernel
theorem dX9_loose_11 : decode cX9_loose 11 = .ok (.iconst 0, 1) := by decide +kernel
theorem dX9_loose_12 : decode cX9_loose 12 = .ok (.ireturn, 1) := by decide +kernel
theorem dX9_loose_13 : decode cX9_loose 13 = .ok (.aload_n 0, 1) := by decide +kernel
theorem dX9_loose_14 : decode cX9_loose 14 = .ok (.dup, 1) := by decide +kernel
theorem dX9_loose_15 : decode cX9_loose 15 = .ok (.getfield 190, 3) := by decide +kernel
theorem dX9_loose_18 : decode cX9_loose 18 = .ok (.iconst 1, 1) := by decide +kernel
theorem dX9_loose_19 : decode cX9_loose 19 = .ok (.isub, 1) := by decide +kernel
theorem dX9_loose_20 : decode cX9_loose 20 = .ok (.putfield 190, 3) := by decide +kernel
theorem dX9_loose_23 : decode cX9_loose 23 = .ok (.iload_n 2, 1) := by decide +kernel
theorem dX9_loose_24 : decode cX9_loose 24 = .ok (.istore_n 3, 1) := by decide +kernel
theorem dX9_loose_25 : decode cX9_loose 25 = .ok (.iload_n 3, 1) := by decide +kernel
theorem dX9_loose_26 : decode cX9_loose 26 = .ok (.aload_n 0, 1) := by decide +kernel
theorem dX9_loose_27 : decode cX9_loose 27 = .ok (.getfield 190, 3) := by decide +kernel
theorem dX9_loose_30 : decode cX9_loose 30 = .ok (.if_icmp .ge 37, 3) := by decide +kernel
theorem dX9_loose_33 : decode cX9_loose 33 = .ok (.aload_n 0, 1) := by decide +kernel
theorem dX9_loose_34 : decode cX9_loose 34 = .ok (.getfield 77, 3) := by decide +kernel
theorem dX9_loose_37 : decode cX9_loose 37 = .ok (.iload_n 3, 1) := by decide +kernel
theorem dX9_loose_38 : decode cX9_loose 38 = .ok (.aload_n 0, 1) := by decide +kernel
theorem dX9_loose_39 : decode cX9_loose 39 = .ok (.getfield 77, 3) := by decide +kernel
theorem dX9_loose_42 : decode cX9_loose 42 = .ok (.iload_n 3, 1) := by decide +kernel
theorem dX9_loose_43 : decode cX9_loose 43 = .ok (.iconst 1, 1) := by decide +kernel
theorem dX9_loose_44 : decode cX9_loose 44 = .ok (.iadd, 1) := by decide +kernel
theorem dX9_loose_45 : decode cX9_loose 45 = .ok (.iaload, 1) := by decide +kernel
theorem dX9_loose_46 : decode cX9_loose 46 = .ok (.iastore, 1) := by decide +kernel
theorem dX9_loose_47 : decode cX9_loose 47 = .ok (.aload_n 0, 1) := by decide +kernel
theorem dX9_loose_48 : decode cX9_loose 48 = .ok (.getfield 80, 3) := by decide +kernel
theorem dX9_loose_51 : decode cX9_loose 51 = .ok (.iload_n 3, 1) := by decide +kernel
theorem dX9_loose_52 : decode cX9_loose 52 = .ok (.aload_n 0, 1) := by decide +kernel
theorem dX9_loose_53 : decode cX9_loose 53 = .ok (.getfield 80, 3) := by decide +kernel
theorem dX9_loose_56 : decode cX9_loose 56 = .ok (.iload_n 3, 1) := by decide +kernel
theorem dX9_loose_57 : decode cX9_loose 57 = .ok (.iconst 1, 1) := by decide +kernel
theorem dX9_loose_58 : decode cX9_loose 58 = .ok (.iadd, 1) := by decide +kernel
theorem dX9_loose_59 : decode cX9_loose 59 = .ok (.iaload, 1) := by decide +kernel
theorem dX9_loose_60 : decode cX9_loose 60 = .ok (.iastore, 1) := by decide +kernel
theorem dX9_loose_61 : decode cX9_loose 61 = .ok (.iinc 3 1, 3) := by decide +kernel
theorem dX9_loose_64 : decode cX9_loose 64 = .ok (.goto (-39), 3) := by decide +kernel
theorem dX9_loose_67 : decode cX9_loose 67 = .ok (.aload_n 0, 1) := by decide +kernel
theorem dX9_loose_68 : decode cX9_loose 68 = .ok (.invokevirtual 247, 3) := by decide +kernel
theorem dX9_loose_71 : decode cX9_loose 71 = .ok (.iconst 1, 1) := by decide +kernel
theorem dX9_loose_72 : decode cX9_loose 72 = .ok (.ireturn, 1) := by decide +kernel
theorem dX9_look_0 : decode cX9_look 0 = .ok (.iconst 0, 1) := by decide +kernel
theorem dX9_look_1 : decode cX9_look 1 = .ok (.istore_n 2, 1) := by decide +kernel
theorem dX9_look_2 : decode cX9_look 2 = .ok (.iload_n 1, 1) := by decide +kernel
theorem dX9_look_3 : decode cX9_look 3 = .ok (.tableswitch 158 0 7 #[45, 50, 55, 94, 99, 135, 148, 153], 45) := by decide +kernel
theorem dX9_look_48 : decode cX9_look 48 = .ok (.aload_n 0, 1) := by decide +kernel
theorem dX9_look_49 : decode cX9_look 49 = .ok (.getfield 157, 3) := by decide +kernel
theorem dX9_look_52 : decode cX9_look 52 = .ok (.ireturn, 1) := by decide +kernel
theorem dX9_look_53 : decode cX9_look 53 = .ok (.aload_n 0, 1) := by decide +kernel
theorem dX9_look_54 : decode cX9_look 54 = .ok (.getfield 167, 3) := by decide +kernel
theorem dX9_look_57 : decode cX9_look 57 = .ok (.ireturn, 1) := by decide +kernel
theorem dX9_look_58 : decode cX9_look 58 = .ok (.aload_n 0, 1) := by decide +kernel
theorem dX9_look_59 : decode cX9_look 59 = .ok (.getfield 98, 3) := by decide +kernel
theorem dX9_look_62 : decode cX9_look 62 = .ok (.ifCond .le 30, 3) := by decide +kernel
theorem dX9_look_65 : decode cX9_look 65 = .ok (.aload_n 0, 1) := by decide +kernel
theorem dX9_look_66 : decode cX9_look 66 = .ok (.getfield 22, 3) := by decide +kernel
theorem dX9_look_69 : decode cX9_look 69 = .ok (.aload_n 0, 1) := by decide +kernel
theorem dX9_look_70 : decode cX9_look 70 = .ok (.getfield 98, 3) := by decide +kernel
theorem dX9_look_73 : decode cX9_look 73 = .ok (.iconst 1, 1) := by decide +kernel
theorem dX9_look_74 : decode cX9_look 74 = .ok (.isub, 1) := by decide +kernel
theorem dX9_look_75 : decode cX9_look 75 = .ok (.iaload, 1) := by decide +kernel
theorem dX9_look_76 : decode cX9_look 76 = .ok (.aload_n 0, 1) := by decide +kernel
theorem dX9_look_77 : decode cX9_look 77 = .ok (.getfield 101, 3) := by decide +kernel
theorem dX9_look_80 : decode cX9_look 80 = .ok (.if_icmp .ne 12, 3) := by decide +kernel
theorem dX9_look_83 : decode cX9_look 83 = .ok (.aload_n 0, 1) := by decide +kernel
theorem dX9_look_84 : decode cX9_look 84 = .ok (.getfield 101, 3) := by decide +kernel
theorem dX9_look_87 : decode cX9_look 87 = .ok (.iconst 1, 1) := by decide +kernel
theorem dX9_look_88 : decode cX9_look 88 = .ok (.iadd, 1) := by decide +kernel
theorem dX9_look_89 : decode cX9_look 89 = .ok (.goto 7, 3) := by decide +kernel
theorem dX9_look_92 : decode cX9_look 92 = .ok (.aload_n 0, 1) := by decide +kernel
theorem dX9_look_93 : decode cX9_look 93 = .ok (.getfield 101, 3) := by decide +kernel
theorem dX9_look_96 : decode cX9_look 96 = .ok (.ireturn, 1) := by decide +kernel
theorem dX9_look_97 : decode cX9_look 97 = .ok (.aload_n 0, 1) := by decide +kernel
theorem dX9_look_98 : decode cX9_look 98 = .ok (.getfield 221, 3) := by decide +kernel
theorem dX9_look_101 : decode cX9_look 101 = .ok (.ireturn, 1) := by decide +kernel
theorem dX9_look_102 : decode cX9_look 102 = .ok (.iconst 0, 1) := by decide +kernel
theorem dX9_look_103 : decode cX9_look 103 = .ok (.istore_n 3, 1) := by decide +kernel
theorem dX9_look_104 : decode cX9_look 104 = .ok (.iload_n 3, 1) := by decide +kernel
theorem dX9_look_105 : decode cX9_look 105 = .ok (.aload_n 0, 1) := by decide +kernel
theorem dX9_look_106 : decode cX9_look 106 = .ok (.getfield 157, 3) := by decide +kernel
theorem dX9_look_109 : decode cX9_look 109 = .ok (.if_icmp .ge 27, 3) := by decide +kernel
theorem dX9_look_112 : decode cX9_look 112 = .ok (.iload_n 2, 1) := by decide +kernel
theorem dX9_look_113 : decode cX9_look 113 = .ok (.aload_n 0, 1) := by decide +kernel
theorem dX9_look_114 : decode cX9_look 114 = .ok (.getfield 44, 3) := by decide +kernel
theorem dX9_look_117 : decode cX9_look 117 = .ok (.iload_n 3, 1) := by decide +kernel
theorem dX9_look_118 : decode cX9_look 118 = .ok (.iaload, 1) := by decide +kernel
theorem dX9_look_119 : decode cX9_look 119 = .ok (.iconst (-1), 1) := by decide +kernel
theorem dX9_look_120 : decode cX9_look 120 = .ok (.if_icmp .ne 7, 3) := by decide +kernel
theorem dX9_look_123 : decode cX9_look 123 = .ok (.iconst 1, 1) := by decide +kernel
theorem dX9_look_124 : decode cX9_look 124 = .ok (.goto 4, 3) := by decide +kernel
theorem dX9_look_127 : decode cX9_look 127 = .ok (.iconst 0, 1) := by decide +kernel
theorem dX9_look_128 : decode cX9_look 128 = .ok (.iadd, 1) := by decide +kernel
theorem dX9_look_129 : decode cX9_look 129 = .ok (.istore_n 2, 1) := by decide +kernel
theorem dX9_look_130 : decode cX9_look 130 = .ok (.iinc 3 1, 3) := by decide +kernel
theorem dX9_look_133 : decode cX9_look 133 = .ok (.goto (-29), 3) := by decide +kernel
theorem dX9_look_136 : decode cX9_look 136 = .ok (.iload_n 2, 1) := by decide +kernel
theorem dX9_look_137 : decode cX9_look 137 = .ok (.ireturn, 1) := by decide +kernel
theorem dX9_look_138 : decode cX9_look 138 = .ok (.aload_n 0, 1) := by decide +kernel
theorem dX9_look_139 : decode cX9_look 139 = .ok (.getfield 160, 3) := by decide +kernel
theorem dX9_look_142 : decode cX9_look 142 = .ok (.ifCond .eq 7, 3) := by decide +kernel
theorem dX9_look_145 : decode cX9_look 145 = .ok (.iconst 1, 1) := by decide +kernel
theorem dX9_look_146 : decode cX9_look 146 = .ok (.goto 4, 3) := by decide +kernel
theorem dX9_look_149 : decode cX9_look 149 = .ok (.iconst 0, 1) := by decide +kernel
theorem dX9_look_150 : decode cX9_look 150 = .ok (.ireturn, 1) := by decide +kernel
theorem dX9_look_151 : decode cX9_look 151 = .ok (.aload_n 0, 1) := by decide +kernel
theorem dX9_look_152 : decode cX9_look 152 = .ok (.getfield 190, 3) := by decide +kernel
theorem dX9_look_155 : decode cX9_look 155 = .ok (.ireturn, 1) := by decide +kernel
theorem dX9_look_156 : decode cX9_look 156 = .ok (.aload_n 0, 1) := by decide +kernel
theorem dX9_look_157 : decode cX9_look 157 = .ok (.getfield 132, 3) := by decide +kernel
theorem dX9_look_160 : decode cX9_look 160 = .ok (.ireturn, 1) := by decide +kernel
theorem dX9_look_161 : decode cX9_look 161 = .ok (.iconst (-1), 1) := by decide +kernel
theorem dX9_look_162 : decode cX9_look 162 = .ok (.ireturn, 1) := by decide +kernel
theorem dX9_isMention_0 : decode cX9_isMention 0 = .ok (.iload_n 1, 1) := by decide +kernel
theorem dX9_isMention_1 : decode cX9_isMention 1 = .ok (.iconst 0, 1) := by decide +kernel
theorem dX9_isMention_2 : decode cX9_isMention 2 = .ok (.aload_n 0, 1) := by decide +kernel
theorem dX9_isMention_3 : decode cX9_isMention 3 = .ok (.getfield 157, 3) := by decide +kernel
theorem dX9_isMention_6 : decode cX9_isMention 6 = .ok (.iconst 1, 1) := by decide +kernel
theorem dX9_isMention_7 : decode cX9_isMention 7 = .ok (.isub, 1) := by decide +kernel
theorem dX9_isMention_8 : decode cX9_isMention 8 = .ok (.invokestatic 87, 3) := by decide +kernel
theorem dX9_isMention_11 : decode cX9_isMention 11 = .ok (.ireturn, 1) := by decide +kernel
theorem dX9_mention_0 : decode cX9_mention 0 = .ok (.aload_n 0, 1) := by decide +kernel
theorem dX9_mention_1 : decode cX9_mention 1 = .ok (.iload_n 1, 1) := by decide +kernel
theorem dX9_mention_2 : decode cX9_mention 2 = .ok (.invokevirtual 253, 3) := by decide +kernel
theorem dX9_mention_5 : decode cX9_mention 5 = .ok (.ifCond .ne 5, 3) := by decide +kernel
theorem dX9_mention_8 : decode cX9_mention 8 = .ok (.iconst (-1), 1) := by decide +kernel
theorem dX9_mention_9 : decode cX9_mention 9 = .ok (.ireturn, 1) := by decide +kernel
theorem dX9_mention_10 : decode cX9_mention 10 = .ok (.iload_n 2, 1) := by decide +kernel
theorem dX9_mention_11 : decode cX9_mention 11 = .ok (.tableswitch 112 0 6 #[41, 53, 65, 77, 84, 90, 97], 41) := by decide +kernel
theorem dX9_mention_52 : decode cX9_mention 52 = .ok (.aload_n 0, 1) := by decide +kernel
theorem dX9_mention_53 : decode cX9_mention 53 = .ok (.getfield 16, 3) := by decide +kernel
theorem dX9_mention_56 : decode cX9_mention 56 = .ok (.aload_n 0, 1) := by decide +kernel
theorem dX9_mention_57 : decode cX9_mention 57 = .ok (.getfield 38, 3) := by decide +kernel
theorem dX9_mention_60 : decode cX9_mention 60 = .ok (.iload_n 1, 1) := by decide +kernel
theorem dX9_mention_61 : decode cX9_mention 61 = .ok (.iaload, 1) := by decide +kernel
theorem dX9_mention_62 : decode cX9_mention 62 = .ok (.iaload, 1) := by decide +kernel
theorem dX9_mention_63 : decode cX9_mention 63 = .ok (.ireturn, 1) := by decide +kernel
theorem dX9_mention_64 : decode cX9_mention 64 = .ok (.aload_n 0, 1) := by decide +kernel
theorem dX9_mention_65 : decode cX9_mention 65 = .ok (.getfield 19, 3) := by decide +kernel
theorem dX9_mention_68 : decode cX9_mention 68 = .ok (.aload_n 0, 1) := by decide +kernel
theorem dX9_mention_69 : decode cX9_mention 69 = .ok (.getfield 38, 3) := by decide +kernel
theorem dX9_mention_72 : decode cX9_mention 72 = .ok (.iload_n 1, 1) := by decide +kernel
theorem dX9_mention_73 : decode cX9_mention 73 = .ok (.iaload, 1) := by decide +kernel
theorem dX9_mention_74 : decode cX9_mention 74 = .ok (.iaload, 1) := by decide +kernel
theorem dX9_mention_75 : decode cX9_mention 75 = .ok (.ireturn, 1) := by decide +kernel
theorem dX9_mention_76 : decode cX9_mention 76 = .ok (.aload_n 0, 1) := by decide +kernel
theorem dX9_mention_77 : decode cX9_mention 77 = .ok (.getfield 22, 3) := by decide +kernel
theorem dX9_mention_80 : decode cX9_mention 80 = .ok (.aload_n 0, 1) := by decide +kernel
theorem dX9_mention_81 : decode cX9_mention 81 = .ok (.getfield 38, 3) := by decide +kernel
theorem dX9_mention_84 : decode cX9_mention 84 = .ok (.iload_n 1, 1) := by decide +kernel
theorem dX9_mention_85 : decode cX9_mention 85 = .ok (.iaload, 1) := by decide +kernel
theorem dX9_mention_86 : decode cX9_mention 86 = .ok (.iaload, 1) := by decide +kernel
theorem dX9_mention_87 : decode cX9_mention 87 = .ok (.ireturn, 1) := by decide +kernel
theorem dX9_mention_88 : decode cX9_mention 88 = .ok (.aload_n 0, 1) := by decide +kernel
theorem dX9_mention_89 : decode cX9_mention 89 = .ok (.getfield 41, 3) := by decide +kernel
theorem dX9_mention_92 : decode cX9_mention 92 = .ok (.iload_n 1, 1) := by decide +kernel
theorem dX9_mention_93 : decode cX9_mention 93 = .ok (.iaload, 1) := by decide +kernel
theorem dX9_mention_94 : decode cX9_mention 94 = .ok (.ireturn, 1) := by decide +kernel
theorem dX9_mention_95 : decode cX9_mention 95 = .ok (.aload_n 0, 1) := by decide +kernel
theorem dX9_mention_96 : decode cX9_mention 96 = .ok (.iload_n 1, 1) := by decide +kernel
theorem dX9_mention_97 : decode cX9_mention 97 = .ok (.invokevirtual 193, 3) := by decide +kernel
theorem dX9_mention_100 : decode cX9_mention 100 = .ok (.ireturn, 1) := by decide +kernel
theorem dX9_mention_101 : decode cX9_mention 101 = .ok (.aload_n 0, 1) := by decide +kernel
theorem dX9_mention_102 : decode cX9_mention 102 = .ok (.getfield 47, 3) := by decide +kernel
theorem dX9_mention_105 : decode cX9_mention 105 = .ok (.iload_n 1, 1) := by decide +kernel
theorem dX9_mention_106 : decode cX9_mention 106 = .ok (.iaload, 1) := by decide +kernel
theorem dX9_mention_107 : decode cX9_mention 107 = .ok (.ireturn, 1) := by decide +kernel
theorem dX9_mention_108 : decode cX9_mention 108 = .ok (.aload_n 0, 1) := by decide +kernel
theorem dX9_mention_109 : decode cX9_mention 109 = .ok (.getfield 50, 3) := by decide +kernel
theorem dX9_mention_112 : decode cX9_mention 112 = .ok (.iload_n 1, 1) := by decide +kernel
theorem dX9_mention_113 : decode cX9_mention 113 = .ok (.baload, 1) := by decide +kernel
theorem dX9_mention_114 : decode cX9_mention 114 = .ok (.ifCond .eq 7, 3) := by decide +kernel
theorem dX9_mention_117 : decode cX9_mention 117 = .ok (.iconst 1, 1) := by decide +kernel
theorem dX9_mention_118 : decode cX9_mention 118 = .ok (.goto 4, 3) := by decide +kernel
theorem dX9_mention_121 : decode cX9_mention 121 = .ok (.iconst 0, 1) := by decide +kernel
theorem dX9_mention_122 : decode cX9_mention 122 = .ok (.ireturn, 1) := by decide +kernel
theorem dX9_mention_123 : decode cX9_mention 123 = .ok (.iconst (-1), 1) := by decide +kernel
theorem dX9_mention_124 : decode cX9_mention 124 = .ok (.ireturn, 1) := by decide +kernel
theorem dX9_isPerson_0 : decode cX9_isPerson 0 = .ok (.iload_n 1, 1) := by decide +kernel
theorem dX9_isPerson_1 : decode cX9_isPerson 1 = .ok (.iconst 0, 1) := by decide +kernel
theorem dX9_isPerson_2 : decode cX9_isPerson 2 = .ok (.aload_n 0, 1) := by decide +kernel
theorem dX9_isPerson_3 : decode cX9_isPerson 3 = .ok (.getfield 167, 3) := by decide +kernel
theorem dX9_isPerson_6 : decode cX9_isPerson 6 = .ok (.iconst 1, 1) := by decide +kernel
theorem dX9_isPerson_7 : decode cX9_isPerson 7 = .ok (.isub, 1) := by decide +kernel
theorem dX9_isPerson_8 : decode cX9_isPerson 8 = .ok (.invokestatic 87, 3) := by decide +kernel
theorem dX9_isPerson_11 : decode cX9_isPerson 11 = .ok (.ireturn, 1) := by decide +kernel
theorem dX9_person_0 : decode cX9_person 0 = .ok (.aload_n 0, 1) := by decide +kernel
theorem dX9_person_1 : decode cX9_person 1 = .ok (.iload_n 1, 1) := by decide +kernel
theorem dX9_person_2 : decode cX9_person 2 = .ok (.invokevirtual 256, 3) := by decide +kernel
theorem dX9_person_5 : decode cX9_person 5 = .ok (.ifCond .ne 5, 3) := by decide +kernel
theorem dX9_person_8 : decode cX9_person 8 = .ok (.iconst (-1), 1) := by decide +kernel
theorem dX9_person_9 : decode cX9_person 9 = .ok (.ireturn, 1) := by decide +kernel
theorem dX9_person_10 : decode cX9_person 10 = .ok (.aload_n 0, 1) := by decide +kernel
theorem dX9_person_11 : decode cX9_person 11 = .ok (.iload_n 1, 1) := by decide +kernel
theorem dX9_person_12 : decode cX9_person 12 = .ok (.invokevirtual 154, 3) := by decide +kernel
theorem dX9_person_15 : decode cX9_person 15 = .ok (.istore_n 3, 1) := by decide +kernel
theorem dX9_person_16 : decode cX9_person 16 = .ok (.iconst 0, 1) := by decide +kernel
theorem dX9_person_17 : decode cX9_person 17 = .ok (.istore 4, 2) := by decide +kernel
theorem dX9_person_19 : decode cX9_person 19 = .ok (.iload_n 2, 1) := by decide +kernel
theorem dX9_person_20 : decode cX9_person 20 = .ok (.tableswitch 110 0 5 #[40, 42, 49, 90, 97, 103], 40) := by decide +kernel
theorem dX9_person_60 : decode cX9_person 60 = .ok (.iload_n 3, 1) := by decide +kernel
theorem dX9_person_61 : decode cX9_person 61 = .ok (.ireturn, 1) := by decide +kernel
theorem dX9_person_62 : decode cX9_person 62 = .ok (.aload_n 0, 1) := by decide +kernel
theorem dX9_person_63 : decode cX9_person 63 = .ok (.getfield 56, 3) := by decide +kernel
theorem dX9_person_66 : decode cX9_person 66 = .ok (.iload_n 3, 1) := by decide +kernel
theorem dX9_person_67 : decode cX9_person 67 = .ok (.iaload, 1) := by decide +kernel
theorem dX9_person_68 : decode cX9_person 68 = .ok (.ireturn, 1) := by decide +kernel
theorem dX9_person_69 : decode cX9_person 69 = .ok (.iconst 0, 1) := by decide +kernel
theorem dX9_person_70 : decode cX9_person 70 = .ok (.istore 5, 2) := by decide +kernel
theorem dX9_person_72 : decode cX9_person 72 = .ok (.iload 5, 2) := by decide +kernel
theorem dX9_person_74 : decode cX9_person 74 = .ok (.aload_n 0, 1) := by decide +kernel
theorem dX9_person_75 : decode cX9_person 75 = .ok (.getfield 157, 3) := by decide +kernel
theorem dX9_person_78 : decode cX9_person 78 = .ok (.if_icmp .ge 29, 3) := by decide +kernel
theorem dX9_person_81 : decode cX9_person 81 = .ok (.iload 4, 2) := by decide +kernel
theorem dX9_person_83 : decode cX9_person 83 = .ok (.aload_n 0, 1) := by decide +kernel
theorem dX9_person_84 : decode cX9_person 84 = .ok (.iload 5, 2) := by decide +kernel
theorem dX9_person_86 : decode cX9_person 86 = .ok (.invokevirtual 193, 3) := by decide +kernel
theorem dX9_person_89 : decode cX9_person 89 = .ok (.iload_n 3, 1) := by decide +kernel
theorem dX9_person_90 : decode cX9_person 90 = .ok (.if_icmp .ne 7, 3) := by decide +kernel
theorem dX9_person_93 : decode cX9_person 93 = .ok (.iconst 1, 1) := by decide +kernel
theorem dX9_person_94 : decode cX9_person 94 = .ok (.goto 4, 3) := by decide +kernel
theorem dX9_person_97 : decode cX9_person 97 = .ok (.iconst 0, 1) := by decide +kernel
theorem dX9_person_98 : decode cX9_person 98 = .ok (.iadd, 1) := by decide +kernel
theorem dX9_person_99 : decode cX9_person 99 = .ok (.istore 4, 2) := by decide +kernel
theorem dX9_person_101 : decode cX9_person 101 = .ok (.iinc 5 1, 3) := by decide +kernel
theorem dX9_person_104 : decode cX9_person 104 = .ok (.goto (-32), 3) := by decide +kernel
theorem dX9_person_107 : decode cX9_person 107 = .ok (.iload 4, 2) := by decide +kernel
theorem dX9_person_109 : decode cX9_person 109 = .ok (.ireturn, 1) := by decide +kernel
theorem dX9_person_110 : decode cX9_person 110 = .ok (.aload_n 0, 1) := by decide +kernel
theorem dX9_person_111 : decode cX9_person 111 = .ok (.getfield 71, 3) := by decide +kernel
theorem dX9_person_114 : decode cX9_person 114 = .ok (.iload_n 3, 1) := by decide +kernel
theorem dX9_person_115 : decode cX9_person 115 = .ok (.iaload, 1) := by decide +kernel
theorem dX9_person_116 : decode cX9_person 116 = .ok (.ireturn, 1) := by decide +kernel
theorem dX9_person_117 : decode cX9_person 117 = .ok (.aload_n 0, 1) := by decide +kernel
theorem dX9_person_118 : decode cX9_person 118 = .ok (.iload_n 3, 1) := by decide +kernel
theorem dX9_person_119 : decode cX9_person 119 = .ok (.invokevirtual 216, 3) := by decide +kernel
theorem dX9_person_122 : decode cX9_person 122 = .ok (.ireturn, 1) := by decide +kernel
theorem dX9_person_123 : decode cX9_person 123 = .ok (.aload_n 0, 1) := by decide +kernel
theorem dX9_person_124 : decode cX9_person 124 = .ok (.getfield 59, 3) := by decide +kernel
theorem dX9_person_127 : decode cX9_person 127 = .ok (.iload_n 1, 1) := by decide +kernel
theorem dX9_person_128 : decode cX9_person 128 = .ok (.iaload, 1) := by decide +kernel
theorem dX9_person_129 : decode cX9_person 129 = .ok (.ireturn, 1) := by decide +kernel
theorem dX9_person_130 : decode cX9_person 130 = .ok (.iconst (-1), 1) := by decide +kernel
theorem dX9_person_131 : decode cX9_person 131 = .ok (.ireturn, 1) := by decide +kernel
theorem dX9_chain_0 : decode cX9_chain 0 = .ok (.aload_n 0, 1) := by decide +kernel
theorem dX9_chain_1 : decode cX9_chain 1 = .ok (.iload_n 1, 1) := by decide +kernel
theorem dX9_chain_2 : decode cX9_chain 2 = .ok (.invokevirtual 256, 3) := by decide +kernel
theorem dX9_chain_5 : decode cX9_chain 5 = .ok (.ifCond .ne 5, 3) := by decide +kernel
theorem dX9_chain_8 : decode cX9_chain 8 = .ok (.iconst (-1), 1) := by decide +kernel
theorem dX9_chain_9 : decode cX9_chain 9 = .ok (.ireturn, 1) := by decide +kernel
theorem dX9_chain_10 : decode cX9_chain 10 = .ok (.iconst 0, 1) := by decide +kernel
theorem dX9_chain_11 : decode cX9_chain 11 = .ok (.istore_n 3, 1) := by decide +kernel
theorem dX9_chain_12 : decode cX9_chain 12 = .ok (.iconst 0, 1) := by decide +kernel
theorem dX9_chain_13 : decode cX9_chain 13 = .ok (.istore 4, 2) := by decide +kernel
theorem dX9_chain_15 : decode cX9_chain 15 = .ok (.iload 4, 2) := by decide +kernel
theorem dX9_chain_17 : decode cX9_chain 17 = .ok (.aload_n 0, 1) := by decide +kernel
theorem dX9_chain_18 : decode cX9_chain 18 = .ok (.getfield 157, 3) := by decide +kernel
theorem dX9_chain_21 : decode cX9_chain 21 = .ok (.if_icmp .ge 37, 3) := by decide +kernel
theorem dX9_chain_24 : decode cX9_chain 24 = .ok (.aload_n 0, 1) := by decide +kernel
theorem dX9_chain_25 : decode cX9_chain 25 = .ok (.iload 4, 2) := by decide +kernel
theorem dX9_chain_27 : decode cX9_chain 27 = .ok (.invokevirtual 193, 3) := by decide +kernel
theorem dX9_chain_30 : decode cX9_chain 30 = .ok (.aload_n 0, 1) := by decide +kernel
theorem dX9_chain_31 : decode cX9_chain 31 = .ok (.iload_n 1, 1) := by decide +kernel
theorem dX9_chain_32 : decode cX9_chain 32 = .ok (.invokevirtual 154, 3) := by decide +kernel
theorem dX9_chain_35 : decode cX9_chain 35 = .ok (.if_icmp .eq 6, 3) := by decide +kernel
theorem dX9_chain_38 : decode cX9_chain 38 = .ok (.goto 14, 3) := by decide +kernel
theorem dX9_chain_41 : decode cX9_chain 41 = .ok (.iload_n 3, 1) := by decide +kernel
theorem dX9_chain_42 : decode cX9_chain 42 = .ok (.iload_n 2, 1) := by decide +kernel
theorem dX9_chain_43 : decode cX9_chain 43 = .ok (.if_icmp .ne 6, 3) := by decide +kernel
theorem dX9_chain_46 : decode cX9_chain 46 = .ok (.iload 4, 2) := by decide +kernel
theorem dX9_chain_48 : decode cX9_chain 48 = .ok (.ireturn, 1) := by decide +kernel
theorem dX9_chain_49 : decode cX9_chain 49 = .ok (.iinc 3 1, 3) := by decide +kernel
theorem dX9_chain_52 : decode cX9_chain 52 = .ok (.iinc 4 1, 3) := by decide +kernel
theorem dX9_chain_55 : decode cX9_chain 55 = .ok (.goto (-40), 3) := by decide +kernel
theorem dX9_chain_58 : decode cX9_chain 58 = .ok (.iconst (-1), 1) := by decide +kernel
theorem dX9_chain_59 : decode cX9_chain 59 = .ok (.ireturn, 1) := by decide +kernel
theorem dX9_name_0 : decode cX9_name 0 = .ok (.aload_n 0, 1) := by decide +kernel
theorem dX9_name_1 : decode cX9_name 1 = .ok (.iload_n 1, 1) := by decide +kernel
theorem dX9_name_2 : decode cX9_name 2 = .ok (.invokevirtual 256, 3) := by decide +kernel
theorem dX9_name_5 : decode cX9_name 5 = .ok (.ifCond .eq 41, 3) := by decide +kernel
theorem dX9_name_8 : decode cX9_name 8 = .ok (.iload_n 2, 1) := by decide +kernel
theorem dX9_name_9 : decode cX9_name 9 = .ok (.iconst 0, 1) := by decide +kernel
theorem dX9_name_10 : decode cX9_name 10 = .ok (.aload_n 0, 1) := by decide +kernel
theorem dX9_name_11 : decode cX9_name 11 = .ok (.getfield 71, 3) := by decide +kernel
theorem dX9_name_14 : decode cX9_name 14 = .ok (.aload_n 0, 1) := by decide +kernel
theorem dX9_name_15 : decode cX9_name 15 = .ok (.iload_n 1, 1) := by decide +kernel
theorem dX9_name_16 : decode cX9_name 16 = .ok (.invokevirtual 154, 3) := by decide +kernel
theorem dX9_name_19 : decode cX9_name 19 = .ok (.iaload, 1) := by decide +kernel
theorem dX9_name_20 : decode cX9_name 20 = .ok (.iconst 1, 1) := by decide +kernel
theorem dX9_name_21 : decode cX9_name 21 = .ok (.isub, 1) := by decide +kernel
theorem dX9_name_22 : decode cX9_name 22 = .ok (.invokestatic 87, 3) := by decide +kernel
theorem dX9_name_25 : decode cX9_name 25 = .ok (.ifCond .eq 21, 3) := by decide +kernel
theorem dX9_name_28 : decode cX9_name 28 = .ok (.aload_n 0, 1) := by decide +kernel
theorem dX9_name_29 : decode cX9_name 29 = .ok (.getfield 74, 3) := by decide +kernel
theorem dX9_name_32 : decode cX9_name 32 = .ok (.bipush 80, 2) := by decide +kernel
theorem dX9_name_34 : decode cX9_name 34 = .ok (.aload_n 0, 1) := by decide +kernel
theorem dX9_name_35 : decode cX9_name 35 = .ok (.iload_n 1, 1) := by decide +kernel
theorem dX9_name_36 : decode cX9_name 36 = .ok (.invokevirtual 154, 3) := by decide +kernel
theorem dX9_name_39 : decode cX9_name 39 = .ok (.imul, 1) := by decide +kernel
theorem dX9_name_40 : decode cX9_name 40 = .ok (.iload_n 2, 1) := by decide +kernel
theorem dX9_name_41 : decode cX9_name 41 = .ok (.iadd, 1) := by decide +kernel
theorem dX9_name_42 : decode cX9_name 42 = .ok (.iaload, 1) := by decide +kernel
theorem dX9_name_43 : decode cX9_name 43 = .ok (.goto 4, 3) := by decide +kernel
theorem dX9_name_46 : decode cX9_name 46 = .ok (.iconst (-1), 1) := by decide +kernel
theorem dX9_name_47 : decode cX9_name 47 = .ok (.ireturn, 1) := by decide +kernel
theorem dX9_who_0 : decode cX9_who 0 = .ok (.aload_n 0, 1) := by decide +kernel
theorem dX9_who_1 : decode cX9_who 1 = .ok (.iload_n 1, 1) := by decide +kernel
theorem dX9_who_2 : decode cX9_who 2 = .ok (.invokevirtual 253, 3) := by decide +kernel
theorem dX9_who_5 : decode cX9_who 5 = .ok (.ifCond .eq 20, 3) := by decide +kernel
theorem dX9_who_8 : decode cX9_who 8 = .ok (.aload_n 0, 1) := by decide +kernel
theorem dX9_who_9 : decode cX9_who 9 = .ok (.getfield 41, 3) := by decide +kernel
theorem dX9_who_12 : decode cX9_who 12 = .ok (.iload_n 1, 1) := by decide +kernel
theorem dX9_who_13 : decode cX9_who 13 = .ok (.iaload, 1) := by decide +kernel
theorem dX9_who_14 : decode cX9_who 14 = .ok (.ifCond .ne 11, 3) := by decide +kernel
theorem dX9_who_17 : decode cX9_who 17 = .ok (.aload_n 0, 1) := by decide +kernel
theorem dX9_who_18 : decode cX9_who 18 = .ok (.iload_n 1, 1) := by decide +kernel
theorem dX9_who_19 : decode cX9_who 19 = .ok (.invokevirtual 173, 3) := by decide +kernel
theorem dX9_who_22 : decode cX9_who 22 = .ok (.goto 4, 3) := by decide +kernel
theorem dX9_who_25 : decode cX9_who 25 = .ok (.iconst (-1), 1) := by decide +kernel
theorem dX9_who_26 : decode cX9_who 26 = .ok (.ireturn, 1) := by decide +kernel
def mW (wn tl : Nat) (fa fl : Nat → Int32) : Prop := ∀ w, w < wn → ∃ X Y : Nat, fa w = nI X ∧ fl w = nI Y ∧ X + Y ≤ tl
def mD (dn : Nat) (f : Nat → Int32) : Prop := ∀ i, i < dn → ∃ Y : Nat, f i = nI Y ∧ Y ≤ 10
def mJ (pn : Nat) (f : Nat → Int32) : Prop := ∀ p, p < pn → f p = -1 ∨ ∃ q : Nat, q < p ∧ f p = nI q
def mH (jn pn : Nat) (f : Nat → Int32) : Prop := ∀ j, j < jn → f j = -1 ∨ ∃ p : Nat, p < pn ∧ f j = nI p
def mM (mn wn : Nat) (f : Nat → Int32) (o : Nat → Nat) : Prop := (∀ j, j < mn → f j = nI (o j) ∧ o j < wn) ∧ ∀ a b, a < b → b < mn → o a < o b
def mA (n mn : Nat) (f : Nat → Int32) (o : Nat → Nat) : Prop := ∀ w, w < n → f w = -1 ∨ ∃ j : Nat, j < mn ∧ f w = nI j ∧ o j = w
def mP (qn : Nat) (fp ft : Nat → Int32) : Prop := ∀ i, i < qn → ∃ j k : Nat, fp i = nI j ∧ ft i = nI k ∧ k < j
def mS (fj : Nat → Int32) (c : Nat → Nat) : Nat → Nat
  | 0 => 0
  | n + 1 => mS fj c n + (if fj n = -1 then c n else 0)
def mN (pn mn J : Nat) (fj fn nm : Nat → Int32) (c : Nat → Nat) : Prop := (∀ p, p < pn → fn p = nI (c p) ∧ c p ≤ 80) ∧ (∀ p, p < pn → ∀ i, i < c p → ∃ j : Nat, j < mn ∧ nm (80 * p + i) = nI j) ∧ mS fj c pn ≤ J
def mLet (x : Int32) : Prop := (¬ x < 97 ∧ ¬ 122 < x) ∨ (¬ x < 65 ∧ ¬ 90 < x)
theorem mLet_s {x : Int32} (h1 : ¬ x < 97) (h2 : ¬ 122 < x) : mLet x := Or.inl ⟨h1, h2⟩
theorem mLet_c {x : Int32} (h1 : ¬ x < 65) (h2 : ¬ 90 < x) : mLet x := Or.inr ⟨h1, h2⟩
theorem mLet_n {x : Int32} (h1 : x < 97 ∨ 122 < x) (h2 : x < 65 ∨ 90 < x) : ¬ mLet x := fun h => h.elim (fun q => h1.elim q.1 q.2) (fun q => h2.elim q.1 q.2)
theorem mW_0 {tl : Nat} {f g : Nat → Int32} : mW 0 tl f g := fun w h => absurd h (Nat.not_lt_zero w)
theorem mW_add {W tl X X2 : Nat} {f g : Nat → Int32} (h : mW W tl f g) (hx : X ≤ X2 ∧ X2 ≤ tl) : mW (W + 1) tl (upd f W (nI X)) (upd g W (nI (X2 - X))) := fun w hw => by
  by_cases e : w = W
  · rw [e, pk_us, pk_us]
    exact ⟨X, X2 - X, rfl, rfl, by omega⟩
  · rw [pk_un e, pk_un e]
    exact h w (by omega)
theorem mIx {x : Int32} {n : Nat} (h1 : ¬ x < 0) (h2 : ¬ nI n - 1 < x) (hn : n ≤ 300) : ∃ w : Nat, w < n ∧ x = nI w := by
  obtain ⟨X, hX, rfl⟩ := nI_of h1
  cases n with
  | zero => exact absurd (show nI 0 - 1 < nI X from by rw [Int32.lt_iff_toInt_lt, nI_toInt hX, show (nI 0 - 1 : Int32).toInt = -1 by decide]; omega) h2
  | succ n =>
    rw [nI_pred] at h2
    exact ⟨X, Nat.lt_of_not_le (fun q => h2 (nI_lt (by omega) hX)), rfl⟩
