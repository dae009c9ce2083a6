theorem dX6_init_0 : decode cX6_init 0 = .ok (.aload_n 0, 1) := by decide +kernel
theorem dX6_init_1 : decode cX6_init 1 = .ok (.invokespecial 1, 3) := by decide +kernel
theorem dX6_init_4 : decode cX6_init 4 = .ok (.aload_n 0, 1) := by decide +kernel
theorem dX6_init_5 : decode cX6_init 5 = .ok (.bipush 6, 2) := by decide +kernel
theorem dX6_init_7 : decode cX6_init 7 = .ok (.newarray .int, 2) := by decide +kernel
theorem dX6_init_9 : decode cX6_init 9 = .ok (.putfield 7, 3) := by decide +kernel
theorem dX6_init_12 : decode cX6_init 12 = .ok (.aload_n 0, 1) := by decide +kernel
theorem dX6_init_13 : decode cX6_init 13 = .ok (.bipush 6, 2) := by decide +kernel
theorem dX6_init_15 : decode cX6_init 15 = .ok (.newarray .int, 2) := by decide +kernel
theorem dX6_init_17 : decode cX6_init 17 = .ok (.putfield 13, 3) := by decide +kernel
theorem dX6_init_20 : decode cX6_init 20 = .ok (.aload_n 0, 1) := by decide +kernel
theorem dX6_init_21 : decode cX6_init 21 = .ok (.bipush 6, 2) := by decide +kernel
theorem dX6_init_23 : decode cX6_init 23 = .ok (.newarray .int, 2) := by decide +kernel
theorem dX6_init_25 : decode cX6_init 25 = .ok (.putfield 16, 3) := by decide +kernel
theorem dX6_init_28 : decode cX6_init 28 = .ok (.aload_n 0, 1) := by decide +kernel
theorem dX6_init_29 : decode cX6_init 29 = .ok (.bipush 6, 2) := by decide +kernel
theorem dX6_init_31 : decode cX6_init 31 = .ok (.newarray .int, 2) := by decide +kernel
theorem dX6_init_33 : decode cX6_init 33 = .ok (.putfield 19, 3) := by decide +kernel
theorem dX6_init_36 : decode cX6_init 36 = .ok (.aload_n 0, 1) := by decide +kernel
theorem dX6_init_37 : decode cX6_init 37 = .ok (.bipush 6, 2) := by decide +kernel
theorem dX6_init_39 : decode cX6_init 39 = .ok (.newarray .int, 2) := by decide +kernel
theorem dX6_init_41 : decode cX6_init 41 = .ok (.putfield 22, 3) := by decide +kernel
theorem dX6_init_44 : decode cX6_init 44 = .ok (.aload_n 0, 1) := by decide +kernel
theorem dX6_init_45 : decode cX6_init 45 = .ok (.bipush 6, 2) := by decide +kernel
theorem dX6_init_47 : decode cX6_init 47 = .ok (.newarray .int, 2) := by decide +kernel
theorem dX6_init_49 : decode cX6_init 49 = .ok (.putfield 25, 3) := by decide +kernel
theorem dX6_init_52 : decode cX6_init 52 = .ok (.aload_n 0, 1) := by decide +kernel
theorem dX6_init_53 : decode cX6_init 53 = .ok (.bipush 6, 2) := by decide +kernel
theorem dX6_init_55 : decode cX6_init 55 = .ok (.newarray .boolean, 2) := by decide +kernel
theorem dX6_init_57 : decode cX6_init 57 = .ok (.putfield 28, 3) := by decide +kernel
theorem dX6_init_60 : decode cX6_init 60 = .ok (.aload_n 0, 1) := by decide +kernel
theorem dX6_init_61 : decode cX6_init 61 = .ok (.bipush 6, 2) := by decide +kernel
theorem dX6_init_63 : decode cX6_init 63 = .ok (.newarray .boolean, 2) := by decide +kernel
theorem dX6_init_65 : decode cX6_init 65 = .ok (.putfield 32, 3) := by decide +kernel
theorem dX6_init_68 : decode cX6_init 68 = .ok (.aload_n 0, 1) := by decide +kernel
theorem dX6_init_69 : decode cX6_init 69 = .ok (.bipush 72, 2) := by decide +kernel
theorem dX6_init_71 : decode cX6_init 71 = .ok (.newarray .boolean, 2) := by decide +kernel
theorem dX6_init_73 : decode cX6_init 73 = .ok (.putfield 35, 3) := by decide +kernel
theorem dX6_init_76 : decode cX6_init 76 = .ok (.aload_n 0, 1) := by decide +kernel
theorem dX6_init_77 : decode cX6_init 77 = .ok (.bipush 72, 2) := by decide +kernel
theorem dX6_init_79 : decode cX6_init 79 = .ok (.newarray .boolean, 2) := by decide +kernel
theorem dX6_init_81 : decode cX6_init 81 = .ok (.putfield 38, 3) := by decide +kernel
theorem dX6_init_84 : decode cX6_init 84 = .ok (.aload_n 0, 1) := by decide +kernel
theorem dX6_init_85 : decode cX6_init 85 = .ok (.bipush 72, 2) := by decide +kernel
theorem dX6_init_87 : decode cX6_init 87 = .ok (.newarray .boolean, 2) := by decide +kernel
theorem dX6_init_89 : decode cX6_init 89 = .ok (.putfield 41, 3) := by decide +kernel
theorem dX6_init_92 : decode cX6_init 92 = .ok (.aload_n 0, 1) := by decide +kernel
theorem dX6_init_93 : decode cX6_init 93 = .ok (.bipush 72, 2) := by decide +kernel
theorem dX6_init_95 : decode cX6_init 95 = .ok (.newarray .long, 2) := by decide +kernel
theorem dX6_init_97 : decode cX6_init 97 = .ok (.putfield 44, 3) := by decide +kernel
theorem dX6_init_100 : decode cX6_init 100 = .ok (.aload_n 0, 1) := by decide +kernel
theorem dX6_init_101 : decode cX6_init 101 = .ok (.bipush 72, 2) := by decide +kernel
theorem dX6_init_103 : decode cX6_init 103 = .ok (.newarray .int, 2) := by decide +kernel
theorem dX6_init_105 : decode cX6_init 105 = .ok (.putfield 48, 3) := by decide +kernel
theorem dX6_init_108 : decode cX6_init 108 = .ok (.aload_n 0, 1) := by decide +kernel
theorem dX6_init_109 : decode cX6_init 109 = .ok (.bipush 72, 2) := by decide +kernel
theorem dX6_init_111 : decode cX6_init 111 = .ok (.newarray .int, 2) := by decide +kernel
theorem dX6_init_113 : decode cX6_init 113 = .ok (.putfield 51, 3) := by decide +kernel
theorem dX6_init_116 : decode cX6_init 116 = .ok (.aload_n 0, 1) := by decide +kernel
theorem dX6_init_117 : decode cX6_init 117 = .ok (.sipush 288, 3) := by decide +kernel
theorem dX6_init_120 : decode cX6_init 120 = .ok (.newarray .boolean, 2) := by decide +kernel
theorem dX6_init_122 : decode cX6_init 122 = .ok (.putfield 54, 3) := by decide +kernel
theorem dX6_init_125 : decode cX6_init 125 = .ok (.aload_n 0, 1) := by decide +kernel
theorem dX6_init_126 : decode cX6_init 126 = .ok (.sipush 288, 3) := by decide +kernel
theorem dX6_init_129 : decode cX6_init 129 = .ok (.newarray .long, 2) := by decide +kernel
theorem dX6_init_131 : decode cX6_init 131 = .ok (.putfield 57, 3) := by decide +kernel
theorem dX6_init_134 : decode cX6_init 134 = .ok (.aload_n 0, 1) := by decide +kernel
theorem dX6_init_135 : decode cX6_init 135 = .ok (.iconst 4, 1) := by decide +kernel
theorem dX6_init_136 : decode cX6_init 136 = .ok (.newarray .boolean, 2) := by decide +kernel
theorem dX6_init_138 : decode cX6_init 138 = .ok (.putfield 60, 3) := by decide +kernel
theorem dX6_init_141 : decode cX6_init 141 = .ok (.aload_n 0, 1) := by decide +kernel
theorem dX6_init_142 : decode cX6_init 142 = .ok (.bipush 31, 2) := by decide +kernel
theorem dX6_init_144 : decode cX6_init 144 = .ok (.newarray .long, 2) := by decide +kernel
theorem dX6_init_146 : decode cX6_init 146 = .ok (.putfield 63, 3) := by decide +kernel
theorem dX6_init_149 : decode cX6_init 149 = .ok (.aload_n 0, 1) := by decide +kernel
theorem dX6_init_150 : decode cX6_init 150 = .ok (.bipush 31, 2) := by decide +kernel
theorem dX6_init_152 : decode cX6_init 152 = .ok (.newarray .long, 2) := by decide +kernel
theorem dX6_init_154 : decode cX6_init 154 = .ok (.putfield 66, 3) := by decide +kernel
theorem dX6_init_157 : decode cX6_init 157 = .ok (.aload_n 0, 1) := by decide +kernel
theorem dX6_init_158 : decode cX6_init 158 = .ok (.bipush 31, 2) := by decide +kernel
theorem dX6_init_160 : decode cX6_init 160 = .ok (.newarray .boolean, 2) := by decide +kernel
theorem dX6_init_162 : decode cX6_init 162 = .ok (.putfield 69, 3) := by decide +kernel
theorem dX6_init_165 : decode cX6_init 165 = .ok (.aload_n 0, 1) := by decide +kernel
theorem dX6_init_166 : decode cX6_init 166 = .ok (.sipush 288, 3) := by decide +kernel
theorem dX6_init_169 : decode cX6_init 169 = .ok (.newarray .int, 2) := by decide +kernel
theorem dX6_init_171 : decode cX6_init 171 = .ok (.putfield 72, 3) := by decide +kernel
theorem dX6_init_174 : decode cX6_init 174 = .ok (.aload_n 0, 1) := by decide +kernel
theorem dX6_init_175 : decode cX6_init 175 = .ok (.sipush 1440, 3) := by decide +kernel
theorem dX6_init_178 : decode cX6_init 178 = .ok (.newarray .int, 2) := by decide +kernel
theorem dX6_init_180 : decode cX6_init 180 = .ok (.putfield 75, 3) := by decide +kernel
theorem dX6_init_183 : decode cX6_init 183 = .ok (.aload_n 0, 1) := by decide +kernel
theorem dX6_init_184 : decode cX6_init 184 = .ok (.iconst 5, 1) := by decide +kernel
theorem dX6_init_185 : decode cX6_init 185 = .ok (.newarray .int, 2) := by decide +kernel
theorem dX6_init_187 : decode cX6_init 187 = .ok (.putfield 78, 3) := by decide +kernel
theorem dX6_init_190 : decode cX6_init 190 = .ok (.aload_n 0, 1) := by decide +kernel
theorem dX6_init_191 : decode cX6_init 191 = .ok (.sipush 2000, 3) := by decide +kernel
theorem dX6_init_194 : decode cX6_init 194 = .ok (.putfield 81, 3) := by decide +kernel
theorem dX6_init_197 : decode cX6_init 197 = .ok (.aload_n 0, 1) := by decide +kernel
theorem dX6_init_198 : decode cX6_init 198 = .ok (.iconst 4, 1) := by decide +kernel
theorem dX6_init_199 : decode cX6_init 199 = .ok (.newarray .int, 2) := by decide +kernel
theorem dX6_init_201 : decode cX6_init 201 = .ok (.dup, 1) := by decide +kernel
theorem dX6_init_202 : decode cX6_init 202 = .ok (.iconst 0, 1) := by decide +kernel
theorem dX6_init_203 : decode cX6_init 203 = .ok (.bipush 70, 2) := by decide +kernel
theorem dX6_init_205 : decode cX6_init 205 = .ok (.iastore, 1) := by decide +kernel
theorem dX6_init_206 : decode cX6_init 206 = .ok (.dup, 1) := by decide +kernel
theorem dX6_init_207 : decode cX6_init 207 = .ok (.iconst 1, 1) := by decide +kernel
theorem dX6_init_208 : decode cX6_init 208 = .ok (.bipush 70, 2) := by decide +kernel
theorem dX6_init_210 : decode cX6_init 210 = .ok (.iastore, 1) := by decide +kernel
theorem dX6_init_211 : decode cX6_init 211 = .ok (.dup, 1) := by decide +kernel
theorem dX6_init_212 : decode cX6_init 212 = .ok (.iconst 2, 1) := by decide +kernel
theorem dX6_init_213 : decode cX6_init 213 = .ok (.bipush 70, 2) := by decide +kernel
theorem dX6_init_215 : decode cX6_init 215 = .ok (.iastore, 1) := by decide +kernel
theorem dX6_init_216 : decode cX6_init 216 = .ok (.dup, 1) := by decide +kernel
theorem dX6_init_217 : decode cX6_init 217 = .ok (.iconst 3, 1) := by decide +kernel
theorem dX6_init_218 : decode cX6_init 218 = .ok (.bipush 70, 2) := by decide +kernel
theorem dX6_init_220 : decode cX6_init 220 = .ok (.iastore, 1) := by decide +kernel
theorem dX6_init_221 : decode cX6_init 221 = .ok (.putfield 85, 3) := by decide +kernel
theorem dX6_init_224 : decode cX6_init 224 = .ok (.aload_n 0, 1) := by decide +kernel
theorem dX6_init_225 : decode cX6_init 225 = .ok (.bipush 12, 2) := by decide +kernel
theorem dX6_init_227 : decode cX6_init 227 = .ok (.newarray .int, 2) := by decide +kernel
theorem dX6_init_229 : decode cX6_init 229 = .ok (.putfield 88, 3) := by decide +kernel
theorem dX6_init_232 : decode cX6_init 232 = .ok (.return_, 1) := by decide +kernel
theorem dX6_thrown_0 : decode cX6_thrown 0 = .ok (.aload_n 0, 1) := by decide +kernel
theorem dX6_thrown_1 : decode cX6_thrown 1 = .ok (.getfield 91, 3) := by decide +kernel
theorem dX6_thrown_4 : decode cX6_thrown 4 = .ok (.ireturn, 1) := by decide +kernel
theorem dX6_goesWell_0 : decode cX6_goesWell 0 = .ok (.aload_n 0, 1) := by decide +kernel
theorem dX6_goesWell_1 : decode cX6_goesWell 1 = .ok (.iload_n 1, 1) := by decide +kernel
theorem dX6_goesWell_2 : decode cX6_goesWell 2 = .ok (.putfield 91, 3) := by decide +kernel
theorem dX6_goesWell_5 : decode cX6_goesWell 5 = .ok (.iload_n 1, 1) := by decide +kernel
theorem dX6_goesWell_6 : decode cX6_goesWell 6 = .ok (.ifCond .ne 7, 3) := by decide +kernel
theorem dX6_goesWell_9 : decode cX6_goesWell 9 = .ok (.iconst 1, 1) := by decide +kernel
theorem dX6_goesWell_10 : decode cX6_goesWell 10 = .ok (.goto 4, 3) := by decide +kernel
theorem dX6_goesWell_13 : decode cX6_goesWell 13 = .ok (.iconst 0, 1) := by decide +kernel
theorem dX6_goesWell_14 : decode cX6_goesWell 14 = .ok (.ireturn, 1) := by decide +kernel
theorem dX6_in_0 : decode cX6_in 0 = .ok (.iload_n 0, 1) := by decide +kernel
theorem dX6_in_1 : decode cX6_in 1 = .ok (.iload_n 1, 1) := by decide +kernel
theorem dX6_in_2 : decode cX6_in 2 = .ok (.if_icmp .lt 12, 3) := by decide +kernel
theorem dX6_in_5 : decode cX6_in 5 = .ok (.iload_n 0, 1) := by decide +kernel
theorem dX6_in_6 : decode cX6_in 6 = .ok (.iload_n 2, 1) := by decide +kernel
theorem dX6_in_7 : decode cX6_in 7 = .ok (.if_icmp .gt 7, 3) := by decide +kernel
theorem dX6_in_10 : decode cX6_in 10 = .ok (.iconst 1, 1) := by decide +kernel
theorem dX6_in_11 : decode cX6_in 11 = .ok (.goto 4, 3) := by decide +kernel
theorem dX6_in_14 : decode cX6_in 14 = .ok (.iconst 0, 1) := by decide +kernel
theorem dX6_in_15 : decode cX6_in 15 = .ok (.ireturn, 1) := by decide +kernel
theorem dX6_isBook_0 : decode cX6_isBook 0 = .ok (.iload_n 1, 1) := by decide +kernel
theorem dX6_isBook_1 : decode cX6_isBook 1 = .ok (.iconst 0, 1) := by decide +kernel
theorem dX6_isBook_2 : decode cX6_isBook 2 = .ok (.aload_n 0, 1) := by decide +kernel
theorem dX6_isBook_3 : decode cX6_isBook 3 = .ok (.getfield 94, 3) := by decide +kernel
theorem dX6_isBook_6 : decode cX6_isBook 6 = .ok (.iconst 1, 1) := by decide +kernel
theorem dX6_isBook_7 : decode cX6_isBook 7 = .ok (.isub, 1) := by decide +kernel
theorem dX6_isBook_8 : decode cX6_isBook 8 = .ok (.invokestatic 97, 3) := by decide +kernel
theorem dX6_isBook_11 : decode cX6_isBook 11 = .ok (.ireturn, 1) := by decide +kernel
theorem dX6_isPage_0 : decode cX6_isPage 0 = .ok (.aload_n 0, 1) := by decide +kernel
theorem dX6_isPage_1 : decode cX6_isPage 1 = .ok (.iload_n 1, 1) := by decide +kernel
theorem dX6_isPage_2 : decode cX6_isPage 2 = .ok (.invokevirtual 101, 3) := by decide +kernel
theorem dX6_isPage_5 : decode cX6_isPage 5 = .ok (.ifCond .eq 23, 3) := by decide +kernel
theorem dX6_isPage_8 : decode cX6_isPage 8 = .ok (.iload_n 2, 1) := by decide +kernel
theorem dX6_isPage_9 : decode cX6_isPage 9 = .ok (.iconst 0, 1) := by decide +kernel
theorem dX6_isPage_10 : decode cX6_isPage 10 = .ok (.aload_n 0, 1) := by decide +kernel
theorem dX6_isPage_11 : decode cX6_isPage 11 = .ok (.getfield 7, 3) := by decide +kernel
theorem dX6_isPage_14 : decode cX6_isPage 14 = .ok (.iload_n 1, 1) := by decide +kernel
theorem dX6_isPage_15 : decode cX6_isPage 15 = .ok (.iaload, 1) := by decide +kernel
theorem dX6_isPage_16 : decode cX6_isPage 16 = .ok (.iconst 1, 1) := by decide +kernel
theorem dX6_isPage_17 : decode cX6_isPage 17 = .ok (.isub, 1) := by decide +kernel
theorem dX6_isPage_18 : decode cX6_isPage 18 = .ok (.invokestatic 97, 3) := by decide +kernel
theorem dX6_isPage_21 : decode cX6_isPage 21 = .ok (.ifCond .eq 7, 3) := by decide +kernel
theorem dX6_isPage_24 : decode cX6_isPage 24 = .ok (.iconst 1, 1) := by decide +kernel
theorem dX6_isPage_25 : decode cX6_isPage 25 = .ok (.goto 4, 3) := by decide +kernel
theorem dX6_isPage_28 : decode cX6_isPage 28 = .ok (.iconst 0, 1) := by decide +kernel
theorem dX6_isPage_29 : decode cX6_isPage 29 = .ok (.ireturn, 1) := by decide +kernel
theorem dX6_isVault_0 : decode cX6_isVault 0 = .ok (.iload_n 0, 1) := by decide +kernel
theorem dX6_isVault_1 : decode cX6_isVault 1 = .ok (.iconst 0, 1) := by decide +kernel
theorem dX6_isVault_2 : decode cX6_isVault 2 = .ok (.iconst 3, 1) := by decide +kernel
theorem dX6_isVault_3 : decode cX6_isVault 3 = .ok (.invokestatic 97, 3) := by decide +kernel
theorem dX6_isVault_6 : decode cX6_isVault 6 = .ok (.ireturn, 1) := by decide +kernel
theorem dX6_isPlace_0 : decode cX6_isPlace 0 = .ok (.aload_n 0, 1) := by decide +kernel
theorem dX6_isPlace_1 : decode cX6_isPlace 1 = .ok (.iload_n 1, 1) := by decide +kernel
theorem dX6_isPlace_2 : decode cX6_isPlace 2 = .ok (.iload_n 2, 1) := by decide +kernel
theorem dX6_isPlace_3 : decode cX6_isPlace 3 = .ok (.invokevirtual 105, 3) := by decide +kernel
theorem dX6_isPlace_6 : decode cX6_isPlace 6 = .ok (.ifCond .eq 16, 3) := by decide +kernel
theorem dX6_isPlace_9 : decode cX6_isPlace 9 = .ok (.iload_n 3, 1) := by decide +kernel
theorem dX6_isPlace_10 : decode cX6_isPlace 10 = .ok (.iconst 0, 1) := by decide +kernel
theorem dX6_isPlace_11 : decode cX6_isPlace 11 = .ok (.iconst 3, 1) := by decide +kernel
theorem dX6_isPlace_12 : decode cX6_isPlace 12 = .ok (.invokestatic 97, 3) := by decide +kernel
theorem dX6_isPlace_15 : decode cX6_isPlace 15 = .ok (.ifCond .eq 7, 3) := by decide +kernel
theorem dX6_isPlace_18 : decode cX6_isPlace 18 = .ok (.iconst 1, 1) := by decide +kernel
theorem dX6_isPlace_19 : decode cX6_isPlace 19 = .ok (.goto 4, 3) := by decide +kernel
theorem dX6_isPlace_22 : decode cX6_isPlace 22 = .ok (.iconst 0, 1) := by decide +kernel
theorem dX6_isPlace_23 : decode cX6_isPlace 23 = .ok (.ireturn, 1) := by decide +kernel
theorem dX6_book_0 : decode cX6_book 0 = .ok (.iload_n 1, 1) := by decide +kernel
theorem dX6_book_1 : decode cX6_book 1 = .ok (.iconst 1, 1) := by decide +kernel
theorem dX6_book_2 : decode cX6_book 2 = .ok (.bipush 12, 2) := by decide +kernel
theorem dX6_book_4 : decode cX6_book 4 = .ok (.invokestatic 97, 3) := by decide +kernel
theorem dX6_book_7 : decode cX6_book 7 = .ok (.ifCond .eq 60, 3) := by decide +kernel
theorem dX6_book_10 : decode cX6_book 10 = .ok (.iload_n 2, 1) := by decide +kernel
theorem dX6_book_11 : decode cX6_book 11 = .ok (.bipush 60, 2) := by decide +kernel
theorem dX6_book_13 : decode cX6_book 13 = .ok (.sipush 180, 3) := by decide +kernel
theorem dX6_book_16 : decode cX6_book 16 = .ok (.invokestatic 97, 3) := by decide +kernel
theorem dX6_book_19 : decode cX6_book 19 = .ok (.ifCond .eq 48, 3) := by decide +kernel
theorem dX6_book_22 : decode cX6_book 22 = .ok (.iload_n 3, 1) := by decide +kernel
theorem dX6_book_23 : decode cX6_book 23 = .ok (.iconst 1, 1) := by decide +kernel
theorem dX6_book_24 : decode cX6_book 24 = .ok (.bipush 60, 2) := by decide +kernel
theorem dX6_book_26 : decode cX6_book 26 = .ok (.invokestatic 97, 3) := by decide +kernel
theorem dX6_book_29 : decode cX6_book 29 = .ok (.ifCond .eq 38, 3) := by decide +kernel
theorem dX6_book_32 : decode cX6_book 32 = .ok (.iload 4, 2) := by decide +kernel
theorem dX6_book_34 : decode cX6_book 34 = .ok (.iconst 0, 1) := by decide +kernel
theorem dX6_book_35 : decode cX6_book 35 = .ok (.bipush 9, 2) := by decide +kernel
theorem dX6_book_37 : decode cX6_book 37 = .ok (.invokestatic 97, 3) := by decide +kernel
theorem dX6_book_40 : decode cX6_book 40 = .ok (.ifCond .eq 27, 3) := by decide +kernel
theorem dX6_book_43 : decode cX6_book 43 = .ok (.iload 5, 2) := by decide +kernel
theorem dX6_book_45 : decode cX6_book 45 = .ok (.iconst (-1), 1) := by decide +kernel
theorem dX6_book_46 : decode cX6_book 46 = .ok (.if_icmp .eq 17, 3) := by decide +kernel
theorem dX6_book_49 : decode cX6_book 49 = .ok (.iload 5, 2) := by decide +kernel
theorem dX6_book_51 : decode cX6_book 51 = .ok (.sipush 1500, 3) := by decide +kernel
theorem dX6_book_54 : decode cX6_book 54 = .ok (.sipush 3000, 3) := by decide +kernel
theorem dX6_book_57 : decode cX6_book 57 = .ok (.invokestatic 97, 3) := by decide +kernel
theorem dX6_book_60 : decode cX6_book 60 = .ok (.ifCond .eq 7, 3) := by decide +kernel
theorem dX6_book_63 : decode cX6_book 63 = .ok (.iconst 1, 1) := by decide +kernel
theorem dX6_book_64 : decode cX6_book 64 = .ok (.goto 4, 3) := by decide +kernel
theorem dX6_book_67 : decode cX6_book 67 = .ok (.iconst 0, 1) := by decide +kernel
theorem dX6_book_68 : decode cX6_book 68 = .ok (.istore 6, 2) := by decide +kernel
theorem dX6_book_70 : decode cX6_book 70 = .ok (.aload_n 0, 1) := by decide +kernel
theorem dX6_book_71 : decode cX6_book 71 = .ok (.iload 6, 2) := by decide +kernel
theorem dX6_book_73 : decode cX6_book 73 = .ok (.ifCond .ne 7, 3) := by decide +kernel
theorem dX6_book_76 : decode cX6_book 76 = .ok (.iconst 1, 1) := by decide +kernel
theorem dX6_book_77 : decode cX6_book 77 = .ok (.goto 17, 3) := by decide +kernel
theorem dX6_book_80 : decode cX6_book 80 = .ok (.aload_n 0, 1) := by decide +kernel
theorem dX6_book_81 : decode cX6_book 81 = .ok (.getfield 94, 3) := by decide +kernel
theorem dX6_book_84 : decode cX6_book 84 = .ok (.bipush 6, 2) := by decide +kernel
theorem dX6_book_86 : decode cX6_book 86 = .ok (.if_icmp .ne 7, 3) := by decide +kernel
theorem dX6_book_89 : decode cX6_book 89 = .ok (.iconst 2, 1) := by decide +kernel
theorem dX6_book_90 : decode cX6_book 90 = .ok (.goto 4, 3) := by decide +kernel
theorem dX6_book_93 : decode cX6_book 93 = .ok (.iconst 0, 1) := by decide +kernel
theorem dX6_book_94 : decode cX6_book 94 = .ok (.invokevirtual 109, 3) := by decide +kernel
theorem dX6_book_97 : decode cX6_book 97 = .ok (.ifCond .ne 5, 3) := by decide +kernel
theorem dX6_book_100 : decode cX6_book 100 = .ok (.iconst 0, 1) := by decide +kernel
theorem dX6_book_101 : decode cX6_book 101 = .ok (.ireturn, 1) := by decide +kernel
theorem dX6_book_102 : decode cX6_book 102 = .ok (.aload_n 0, 1) := by decide +kernel
theorem dX6_book_103 : decode cX6_book 103 = .ok (.getfield 7, 3) := by decide +kernel
theorem dX6_book_106 : decode cX6_book 106 = .ok (.aload_n 0, 1) := by decide +kernel
theorem dX6_book_107 : decode cX6_book 107 = .ok (.getfield 94, 3) := by decide +kernel
theorem dX6_book_110 : decode cX6_book 110 = .ok (.iload_n 1, 1) := by decide +kernel
theorem dX6_book_111 : decode cX6_book 111 = .ok (.iastore, 1) := by decide +kernel
theorem dX6_book_112 : decode cX6_book 112 = .ok (.aload_n 0, 1) := by decide +kernel
theorem dX6_book_113 : decode cX6_book 113 = .ok (.getfield 13, 3) := by decide +kernel
theorem dX6_book_116 : decode cX6_book 116 = .ok (.aload_n 0, 1) := by decide +kernel
theorem dX6_book_117 : decode cX6_book 117 = .ok (.getfield 94, 3) := by decide +kernel
theorem dX6_book_120 : decode cX6_book 120 = .ok (.iload_n 2, 1) := by decide +kernel
theorem dX6_book_121 : decode cX6_book 121 = .ok (.iastore, 1) := by decide +kernel
theorem dX6_book_122 : decode cX6_book 122 = .ok (.aload_n 0, 1) := by decide +kernel
theorem dX6_book_123 : decode cX6_book 123 = .ok (.getfield 16, 3) := by decide +kernel
theorem dX6_book_126 : decode cX6_book 126 = .ok (.aload_n 0, 1) := by decide +kernel
theorem dX6_book_127 : decode cX6_book 127 = .ok (.getfield 94, 3) := by decide +kernel
theorem dX6_book_130 : decode cX6_book 130 = .ok (.iload_n 3, 1) := by decide +kernel
theorem dX6_book_131 : decode cX6_book 131 = .ok (.iastore, 1) := by decide +kernel
theorem dX6_book_132 : decode cX6_book 132 = .ok (.aload_n 0, 1) := by decide +kernel
theorem dX6_book_133 : decode cX6_book 133 = .ok (.getfield 19, 3) := by decide +kernel
theorem dX6_book_136 : decode cX6_book 136 = .ok (.aload_n 0, 1) := by decide +kernel
theorem dX6_book_137 : decode cX6_book 137 = .ok (.getfield 94, 3) := by decide +kernel
theorem dX6_book_140 : decode cX6_book 140 = .ok (.iload 4, 2) := by decide +kernel
theorem dX6_book_142 : decode cX6_book 142 = .ok (.iastore, 1) := by decide +kernel
theorem dX6_book_143 : decode cX6_book 143 = .ok (.aload_n 0, 1) := by decide +kernel
theorem dX6_book_144 : decode cX6_book 144 = .ok (.getfield 22, 3) := by decide +kernel
theorem dX6_book_147 : decode cX6_book 147 = .ok (.aload_n 0, 1) := by decide +kernel
theorem dX6_book_148 : decode cX6_book 148 = .ok (.getfield 94, 3) := by decide +kernel
theorem dX6_book_151 : decode cX6_book 151 = .ok (.iload 5, 2) := by decide +kernel
theorem dX6_book_153 : decode cX6_book 153 = .ok (.iastore, 1) := by decide +kernel
theorem dX6_book_154 : decode cX6_book 154 = .ok (.aload_n 0, 1) := by decide +kernel
theorem dX6_book_155 : decode cX6_book 155 = .ok (.dup, 1) := by decide +kernel
theorem dX6_book_156 : decode cX6_book 156 = .ok (.getfield 94, 3) := by decide +kernel
theorem dX6_book_159 : decode cX6_book 159 = .ok (.iconst 1, 1) := by decide +kernel
theorem dX6_book_160 : decode cX6_book 160 = .ok (.iadd, 1) := by decide +kernel
theorem dX6_book_161 : decode cX6_book 161 = .ok (.putfield 94, 3) := by decide +kernel
theorem dX6_book_164 : decode cX6_book 164 = .ok (.aload_n 0, 1) := by decide +kernel
theorem dX6_book_165 : decode cX6_book 165 = .ok (.getfield 94, 3) := by decide +kernel
theorem dX6_book_168 : decode cX6_book 168 = .ok (.iconst 1, 1) := by decide +kernel
theorem dX6_book_169 : decode cX6_book 169 = .ok (.isub, 1) := by decide +kernel
theorem dX6_book_170 : decode cX6_book 170 = .ok (.ireturn, 1) := by decide +kernel
theorem dX6_shots_0 : decode cX6_shots 0 = .ok (.iconst 0, 1) := by decide +kernel
theorem dX6_shots_1 : decode cX6_shots 1 = .ok (.istore_n 2, 1) := by decide +kernel
theorem dX6_shots_2 : decode cX6_shots 2 = .ok (.iconst 0, 1) := by decide +kernel
theorem dX6_shots_3 : decode cX6_shots 3 = .ok (.istore_n 3, 1) := by decide +kernel
theorem dX6_shots_4 : decode cX6_shots 4 = .ok (.iload_n 3, 1) := by decide +kernel
theorem dX6_shots_5 : decode cX6_shots 5 = .ok (.aload_n 0, 1) := by decide +kernel
theorem dX6_shots_6 : decode cX6_shots 6 = .ok (.getfield 7, 3) := by decide +kernel
theorem dX6_shots_9 : decode cX6_shots 9 = .ok (.iload_n 1, 1) := by decide +kernel
theorem dX6_shots_10 : decode cX6_shots 10 = .ok (.iaload, 1) := by decide +kernel
theorem dX6_shots_11 : decode cX6_shots 11 = .ok (.if_icmp .ge 31, 3) := by decide +kernel
theorem dX6_shots_14 : decode cX6_shots 14 = .ok (.iload_n 2, 1) := by decide +kernel
theorem dX6_shots_15 : decode cX6_shots 15 = .ok (.aload_n 0, 1) := by decide +kernel
theorem dX6_shots_16 : decode cX6_shots 16 = .ok (.getfield 35, 3) := by decide +kernel
theorem dX6_shots_19 : decode cX6_shots 19 = .ok (.bipush 12, 2) := by decide +kernel
theorem dX6_shots_21 : decode cX6_shots 21 = .ok (.iload_n 1, 1) := by decide +kernel
theorem dX6_shots_22 : decode cX6_shots 22 = .ok (.imul, 1) := by decide +kernel
theorem dX6_shots_23 : decode cX6_shots 23 = .ok (.iload_n 3, 1) := by decide +kernel
theorem dX6_shots_24 : decode cX6_shots 24 = .ok (.iadd, 1) := by decide +kernel
theorem dX6_shots_25 : decode cX6_shots 25 = .ok (.baload, 1) := by decide +kernel
theorem dX6_shots_26 : decode cX6_shots 26 = .ok (.ifCond .eq 7, 3) := by decide +kernel
theorem dX6_shots_29 : decode cX6_shots 29 = .ok (.iconst 1, 1) := by decide +kernel
theorem dX6_shots_30 : decode cX6_shots 30 = .ok (.goto 4, 3) := by decide +kernel
theorem dX6_shots_33 : decode cX6_shots 33 = .ok (.iconst 0, 1) := by decide +kernel
theorem dX6_shots_34 : decode cX6_shots 34 = .ok (.iadd, 1) := by decide +kernel
theorem dX6_shots_35 : decode cX6_shots 35 = .ok (.istore_n 2, 1) := by decide +kernel
theorem dX6_shots_36 : decode cX6_shots 36 = .ok (.iinc 3 1, 3) := by decide +kernel
theorem dX6_shots_39 : decode cX6_shots 39 = .ok (.goto (-35), 3) := by decide +kernel
theorem dX6_shots_42 : decode cX6_shots 42 = .ok (.iload_n 2, 1) := by decide +kernel
theorem dX6_shots_43 : decode cX6_shots 43 = .ok (.ireturn, 1) := by decide +kernel
theorem dX6_next_0 : decode cX6_next 0 = .ok (.aload_n 0, 1) := by decide +kernel
theorem dX6_next_1 : decode cX6_next 1 = .ok (.iconst 0, 1) := by decide +kernel
theorem dX6_next_2 : decode cX6_next 2 = .ok (.putfield 91, 3) := by decide +kernel
theorem dX6_next_5 : decode cX6_next 5 = .ok (.iconst (-1), 1) := by decide +kernel
theorem dX6_next_6 : decode cX6_next 6 = .ok (.istore_n 1, 1) := by decide +kernel
theorem dX6_next_7 : decode cX6_next 7 = .ok (.iconst 0, 1) := by decide +kernel
theorem dX6_next_8 : decode cX6_next 8 = .ok (.istore_n 2, 1) := by decide +kernel
theorem dX6_next_9 : decode cX6_next 9 = .ok (.iload_n 2, 1) := by decide +kernel
theorem dX6_next_10 : decode cX6_next 10 = .ok (.aload_n 0, 1) := by decide +kernel
theorem dX6_next_11 : decode cX6_next 11 = .ok (.getfield 94, 3) := by decide +kernel
theorem dX6_next_14 : decode cX6_next 14 = .ok (.if_icmp .ge 110, 3) := by decide +kernel
theorem dX6_next_17 : decode cX6_next 17 = .ok (.aload_n 0, 1) := by decide +kernel
theorem dX6_next_18 : decode cX6_next 18 = .ok (.getfield 16, 3) := by decide +kernel
theorem dX6_next_21 : decode cX6_next 21 = .ok (.iload_n 2, 1) := by decide +kernel
theorem dX6_next_22 : decode cX6_next 22 = .ok (.iaload, 1) := by decide +kernel
theorem dX6_next_23 : decode cX6_next 23 = .ok (.ifCond .le 21, 3) := by decide +kernel
theorem dX6_next_26 : decode cX6_next 26 = .ok (.aload_n 0, 1) := by decide +kernel
theorem dX6_next_27 : decode cX6_next 27 = .ok (.iload_n 2, 1) := by decide +kernel
theorem dX6_next_28 : decode cX6_next 28 = .ok (.invokevirtual 112, 3) := by decide +kernel
theorem dX6_next_31 : decode cX6_next 31 = .ok (.aload_n 0, 1) := by decide +kernel
theorem dX6_next_32 : decode cX6_next 32 = .ok (.getfield 7, 3) := by decide +kernel
theorem dX6_next_35 : decode cX6_next 35 = .ok (.iload_n 2, 1) := by decide +kernel
theorem dX6_next_36 : decode cX6_next 36 = .ok (.iaload, 1) := by decide +kernel
theorem dX6_next_37 : decode cX6_next 37 = .ok (.if_icmp .ge 7, 3) := by decide +kernel
theorem dX6_next_40 : decode cX6_next 40 = .ok (.iconst 1, 1) := by decide +kernel
theorem dX6_next_41 : decode cX6_next 41 = .ok (.goto 4, 3) := by decide +kernel
theorem dX6_next_44 : decode cX6_next 44 = .ok (.iconst 0, 1) := by decide +kernel
theorem dX6_next_45 : decode cX6_next 45 = .ok (.istore_n 3, 1) := by decide +kernel
theorem dX6_next_46 : decode cX6_next 46 = .ok (.iload_n 1, 1) := by decide +kernel
theorem dX6_next_47 : decode cX6_next 47 = .ok (.iconst (-1), 1) := by decide +kernel
theorem dX6_next_48 : decode cX6_next 48 = .ok (.if_icmp .eq 48, 3) := by decide +kernel
theorem dX6_next_51 : decode cX6_next 51 = .ok (.aload_n 0, 1) := by decide +kernel
theorem dX6_next_52 : decode cX6_next 52 = .ok (.getfield 19, 3) := by decide +kernel
theorem dX6_next_55 : decode cX6_next 55 = .ok (.iload_n 2, 1) := by decide +kernel
theorem dX6_next_56 : decode cX6_next 56 = .ok (.iaload, 1) := by decide +kernel
theorem dX6_next_57 : decode cX6_next 57 = .ok (.aload_n 0, 1) := by decide +kernel
theorem dX6_next_58 : decode cX6_next 58 = .ok (.getfield 19, 3) := by decide +kernel
theorem dX6_next_61 : decode cX6_next 61 = .ok (.iload_n 1, 1) := by decide +kernel
theorem dX6_next_62 : decode cX6_next 62 = .ok (.iaload, 1) := by decide +kernel
theorem dX6_next_63 : decode cX6_next 63 = .ok (.if_icmp .gt 33, 3) := by decide +kernel
theorem dX6_next_66 : decode cX6_next 66 = .ok (.aload_n 0, 1) := by decide +kernel
theorem dX6_next_67 : decode cX6_next 67 = .ok (.getfield 19, 3) := by decide +kernel
theorem dX6_next_70 : decode cX6_next 70 = .ok (.iload_n 2, 1) := by decide +kernel
theorem dX6_next_71 : decode cX6_next 71 = .ok (.iaload, 1) := by decide +kernel
theorem dX6_next_72 : decode cX6_next 72 = .ok (.aload_n 0, 1) := by decide +kernel
theorem dX6_next_73 : decode cX6_next 73 = .ok (.getfield 19, 3) := by decide +kernel
theorem dX6_next_76 : decode cX6_next 76 = .ok (.iload_n 1, 1) := by decide +kernel
theorem dX6_next_77 : decode cX6_next 77 = .ok (.iaload, 1) := by decide +kernel
theorem dX6_next_78 : decode cX6_next 78 = .ok (.if_icmp .ne 22, 3) := by decide +kernel
theorem dX6_next_81 : decode cX6_next 81 = .ok (.aload_n 0, 1) := by decide +kernel
theorem dX6_next_82 : decode cX6_next 82 = .ok (.getfield 16, 3) := by decide +kernel
theorem dX6_next_85 : decode cX6_next 85 = .ok (.iload_n 2, 1) := by decide +kernel
theorem dX6_next_86 : decode cX6_next 86 = .ok (.iaload, 1) := by decide +kernel
theorem dX6_next_87 : decode cX6_next 87 = .ok (.aload_n 0, 1) := by decide +kernel
theorem dX6_next_88 : decode cX6_next 88 = .ok (.getfield 16, 3) := by decide +kernel
theorem dX6_next_91 : decode cX6_next 91 = .ok (.iload_n 1, 1) := by decide +kernel
theorem dX6_next_92 : decode cX6_next 92 = .ok (.iaload, 1) := by decide +kernel
theorem dX6_next_93 : decode cX6_next 93 = .ok (.if_icmp .ge 7, 3) := by decide +kernel
theorem dX6_next_96 : decode cX6_next 96 = .ok (.iconst 1, 1) := by decide +kernel
theorem dX6_next_97 : decode cX6_next 97 = .ok (.goto 4, 3) := by decide +kernel
theorem dX6_next_100 : decode cX6_next 100 = .ok (.iconst 0, 1) := by decide +kernel
theorem dX6_next_101 : decode cX6_next 101 = .ok (.istore 4, 2) := by decide +kernel
theorem dX6_next_103 : decode cX6_next 103 = .ok (.iload_n 3, 1) := by decide +kernel
theorem dX6_next_104 : decode cX6_next 104 = .ok (.ifCond .eq 12, 3) := by decide +kernel
theorem dX6_next_107 : decode cX6_next 107 = .ok (.iload 4, 2) := by decide +kernel
theorem dX6_next_109 : decode cX6_next 109 = .ok (.ifCond .eq 7, 3) := by decide +kernel
theorem dX6_next_112 : decode cX6_next 112 = .ok (.iload_n 2, 1) := by decide +kernel
theorem dX6_next_113 : decode cX6_next 113 = .ok (.goto 4, 3) := by decide +kernel
theorem dX6_next_116 : decode cX6_next 116 = .ok (.iload_n 1, 1) := by decide +kernel
theorem dX6_next_117 : decode cX6_next 117 = .ok (.istore_n 1, 1) := by decide +kernel
theorem dX6_next_118 : decode cX6_next 118 = .ok (.iinc 2 1, 3) := by decide +kernel
theorem dX6_next_121 : decode cX6_next 121 = .ok (.goto (-112), 3) := by decide +kernel
theorem dX6_next_124 : decode cX6_next 124 = .ok (.iload_n 1, 1) := by decide +kernel
theorem dX6_next_125 : decode cX6_next 125 = .ok (.ireturn, 1) := by decide +kernel
theorem dX6_shot_0 : decode cX6_shot 0 = .ok (.aload_n 0, 1) := by decide +kernel
theorem dX6_shot_1 : decode cX6_shot 1 = .ok (.iload_n 1, 1) := by decide +kernel
theorem dX6_shot_2 : decode cX6_shot 2 = .ok (.iload_n 2, 1) := by decide +kernel
theorem dX6_shot_3 : decode cX6_shot 3 = .ok (.invokevirtual 105, 3) := by decide +kernel
theorem dX6_shot_6 : decode cX6_shot 6 = .ok (.istore 6, 2) := by decide +kernel
theorem dX6_shot_8 : decode cX6_shot 8 = .ok (.iload_n 3, 1) := by decide +kernel
theorem dX6_shot_9 : decode cX6_shot 9 = .ok (.bipush 30, 2) := by decide +kernel
theorem dX6_shot_11 : decode cX6_shot 11 = .ok (.sipush 180, 3) := by decide +kernel
theorem dX6_shot_14 : decode cX6_shot 14 = .ok (.invokestatic 97, 3) := by decide +kernel
theorem dX6_shot_17 : decode cX6_shot 17 = .ok (.istore 7, 2) := by decide +kernel
theorem dX6_shot_19 : decode cX6_shot 19 = .ok (.iload_n 3, 1) := by decide +kernel
theorem dX6_shot_20 : decode cX6_shot 20 = .ok (.bipush 90, 2) := by decide +kernel
theorem dX6_shot_22 : decode cX6_shot 22 = .ok (.if_icmp .le 7, 3) := by decide +kernel
theorem dX6_shot_25 : decode cX6_shot 25 = .ok (.iconst 2, 1) := by decide +kernel
theorem dX6_shot_26 : decode cX6_shot 26 = .ok (.goto 4, 3) := by decide +kernel
theorem dX6_shot_29 : decode cX6_shot 29 = .ok (.iconst 1, 1) := by decide +kernel
theorem dX6_shot_30 : decode cX6_shot 30 = .ok (.istore 8, 2) := by decide +kernel
theorem dX6_shot_32 : decode cX6_shot 32 = .ok (.bipush 12, 2) := by decide +kernel
theorem dX6_shot_34 : decode cX6_shot 34 = .ok (.iload_n 1, 1) := by decide +kernel
theorem dX6_shot_35 : decode cX6_shot 35 = .ok (.imul, 1) := by decide +kernel
theorem dX6_shot_36 : decode cX6_shot 36 = .ok (.iload_n 2, 1) := by decide +kernel
theorem dX6_shot_37 : decode cX6_shot 37 = .ok (.iadd, 1) := by decide +kernel
theorem dX6_shot_38 : decode cX6_shot 38 = .ok (.istore 9, 2) := by decide +kernel
theorem dX6_shot_40 : decode cX6_shot 40 = .ok (.iload 6, 2) := by decide +kernel
theorem dX6_shot_42 : decode cX6_shot 42 = .ok (.ifCond .eq 48, 3) := by decide +kernel
theorem dX6_shot_45 : decode cX6_shot 45 = .ok (.iload_n 3, 1) := by decide +kernel
theorem dX6_shot_46 : decode cX6_shot 46 = .ok (.aload_n 0, 1) := by decide +kernel
theorem dX6_shot_47 : decode cX6_shot 47 = .ok (.getfield 13, 3) := by decide +kernel
theorem dX6_shot_50 : decode cX6_shot 50 = .ok (.iload_n 1, 1) := by decide +kernel
theorem dX6_shot_51 : decode cX6_shot 51 = .ok (.iaload, 1) := by decide +kernel
theorem dX6_shot_52 : decode cX6_shot 52 = .ok (.if_icmp .gt 38, 3) := by decide +kernel
theorem dX6_shot_55 : decode cX6_shot 55 = .ok (.aload_n 0, 1) := by decide +kernel
theorem dX6_shot_56 : decode cX6_shot 56 = .ok (.getfield 16, 3) := by decide +kernel
theorem dX6_shot_59 : decode cX6_shot 59 = .ok (.iload_n 1, 1) := by decide +kernel
theorem dX6_shot_60 : decode cX6_shot 60 = .ok (.iaload, 1) := by decide +kernel
theorem dX6_shot_61 : decode cX6_shot 61 = .ok (.iload 8, 2) := by decide +kernel
theorem dX6_shot_63 : decode cX6_shot 63 = .ok (.if_icmp .lt 27, 3) := by decide +kernel
theorem dX6_shot_66 : decode cX6_shot 66 = .ok (.aload_n 0, 1) := by decide +kernel
theorem dX6_shot_67 : decode cX6_shot 67 = .ok (.getfield 35, 3) := by decide +kernel
theorem dX6_shot_70 : decode cX6_shot 70 = .ok (.iload 9, 2) := by decide +kernel
theorem dX6_shot_72 : decode cX6_shot 72 = .ok (.baload, 1) := by decide +kernel
theorem dX6_shot_73 : decode cX6_shot 73 = .ok (.ifCond .eq 13, 3) := by decide +kernel
theorem dX6_shot_76 : decode cX6_shot 76 = .ok (.aload_n 0, 1) := by decide +kernel
theorem dX6_shot_77 : decode cX6_shot 77 = .ok (.getfield 41, 3) := by decide +kernel
theorem dX6_shot_80 : decode cX6_shot 80 = .ok (.iload 9, 2) := by decide +kernel
theorem dX6_shot_82 : decode cX6_shot 82 = .ok (.baload, 1) := by decide +kernel
theorem dX6_shot_83 : decode cX6_shot 83 = .ok (.ifCond .eq 7, 3) := by decide +kernel
theorem dX6_shot_86 : decode cX6_shot 86 = .ok (.iconst 1, 1) := by decide +kernel
theorem dX6_shot_87 : decode cX6_shot 87 = .ok (.goto 4, 3) := by decide +kernel
theorem dX6_shot_90 : decode cX6_shot 90 = .ok (.iconst 0, 1) := by decide +kernel
theorem dX6_shot_91 : decode cX6_shot 91 = .ok (.istore 10, 2) := by decide +kernel
theorem dX6_shot_93 : decode cX6_shot 93 = .ok (.aload_n 0, 1) := by decide +kernel
theorem dX6_shot_94 : decode cX6_shot 94 = .ok (.iload 6, 2) := by decide +kernel
theorem dX6_shot_96 : decode cX6_shot 96 = .ok (.ifCond .ne 7, 3) := by decide +kernel
theorem dX6_shot_99 : decode cX6_shot 99 = .ok (.iconst 1, 1) := by decide +kernel
theorem dX6_shot_100 : decode cX6_shot 100 = .ok (.goto 22, 3) := by decide +kernel
theorem dX6_shot_103 : decode cX6_shot 103 = .ok (.iload 7, 2) := by decide +kernel
theorem dX6_shot_105 : decode cX6_shot 105 = .ok (.ifCond .ne 7, 3) := by decide +kernel
theorem dX6_shot_108 : decode cX6_shot 108 = .ok (.iconst 2, 1) := by decide +kernel
theorem dX6_shot_109 : decode cX6_shot 109 = .ok (.goto 13, 3) := by decide +kernel
theorem dX6_shot_112 : decode cX6_shot 112 = .ok (.iload 10, 2) := by decide +kernel
theorem dX6_shot_114 : decode cX6_shot 114 = .ok (.ifCond .eq 7, 3) := by decide +kernel
theorem dX6_shot_117 : decode cX6_shot 117 = .ok (.iconst 0, 1) := by decide +kernel
theorem dX6_shot_118 : decode cX6_shot 118 = .ok (.goto 4, 3) := by decide +kernel
theorem dX6_shot_121 : decode cX6_shot 121 = .ok (.iconst 3, 1) := by decide +kernel
theorem dX6_shot_122 : decode cX6_shot 122 = .ok (.invokevirtual 109, 3) := by decide +kernel
theorem dX6_shot_125 : decode cX6_shot 125 = .ok (.ifCond .ne 5, 3) := by decide +kernel
theorem dX6_shot_128 : decode cX6_shot 128 = .ok (.iconst 0, 1) := by decide +kernel
theorem dX6_shot_129 : decode cX6_shot 129 = .ok (.ireturn, 1) := by decide +kernel
theorem dX6_shot_130 : decode cX6_shot 130 = .ok (.aload_n 0, 1) := by decide +kernel
theorem dX6_shot_131 : decode cX6_shot 131 = .ok (.getfield 16, 3) := by decide +kernel
theorem dX6_shot_134 : decode cX6_shot 134 = .ok (.iload_n 1, 1) := by decide +kernel
theorem dX6_shot_135 : decode cX6_shot 135 = .ok (.dup2, 1) := by decide +kernel
theorem dX6_shot_136 : decode cX6_shot 136 = .ok (.iaload, 1) := by decide +kernel
theorem dX6_shot_137 : decode cX6_shot 137 = .ok (.iload 8, 2) := by decide +kernel
theorem dX6_shot_139 : decode cX6_shot 139 = .ok (.isub, 1) := by decide +kernel
theorem dX6_shot_140 : decode cX6_shot 140 = .ok (.iastore, 1) := by decide +kernel
theorem dX6_shot_141 : decode cX6_shot 141 = .ok (.aload_n 0, 1) := by decide +kernel
theorem dX6_shot_142 : decode cX6_shot 142 = .ok (.getfield 25, 3) := by decide +kernel
theorem dX6_shot_145 : decode cX6_shot 145 = .ok (.iload_n 1, 1) := by decide +kernel
theorem dX6_shot_146 : decode cX6_shot 146 = .ok (.dup2, 1) := by decide +kernel
theorem dX6_shot_147 : decode cX6_shot 147 = .ok (.iaload, 1) := by decide +kernel
theorem dX6_shot_148 : decode cX6_shot 148 = .ok (.iconst 1, 1) := by decide +kernel
theorem dX6_shot_149 : decode cX6_shot 149 = .ok (.iadd, 1) := by decide +kernel
theorem dX6_shot_150 : decode cX6_shot 150 = .ok (.iastore, 1) := by decide +kernel
theorem dX6_shot_151 : decode cX6_shot 151 = .ok (.aload_n 0, 1) := by decide +kernel
theorem dX6_shot_152 : decode cX6_shot 152 = .ok (.getfield 35, 3) := by decide +kernel
theorem dX6_shot_155 : decode cX6_shot 155 = .ok (.iload 9, 2) := by decide +kernel
theorem dX6_shot_157 : decode cX6_shot 157 = .ok (.iconst 1, 1) := by decide +kernel
theorem dX6_shot_158 : decode cX6_shot 158 = .ok (.bastore, 1) := by decide +kernel
theorem dX6_shot_159 : decode cX6_shot 159 = .ok (.aload_n 0, 1) := by decide +kernel
theorem dX6_shot_160 : decode cX6_shot 160 = .ok (.getfield 41, 3) := by decide +kernel
theorem dX6_shot_163 : decode cX6_shot 163 = .ok (.iload 9, 2) := by decide +kernel
theorem dX6_shot_165 : decode cX6_shot 165 = .ok (.iconst 0, 1) := by decide +kernel
theorem dX6_shot_166 : decode cX6_shot 166 = .ok (.bastore, 1) := by decide +kernel
theorem dX6_shot_167 : decode cX6_shot 167 = .ok (.aload_n 0, 1) := by decide +kernel
theorem dX6_shot_168 : decode cX6_shot 168 = .ok (.getfield 38, 3) := by decide +kernel
theorem dX6_shot_171 : decode cX6_shot 171 = .ok (.iload 9, 2) := by decide +kernel
theorem dX6_shot_173 : decode cX6_shot 173 = .ok (.aload_n 0, 1) := by decide +kernel
theorem dX6_shot_174 : decode cX6_shot 174 = .ok (.getfield 116, 3) := by decide +kernel
theorem dX6_shot_177 : decode cX6_shot 177 = .ok (.iconst 5, 1) := by decide +kernel
theorem dX6_shot_178 : decode cX6_shot 178 = .ok (.if_icmp .le 7, 3) := by decide +kernel
theorem dX6_shot_181 : decode cX6_shot 181 = .ok (.iconst 1, 1) := by decide +kernel
theorem dX6_shot_182 : decode cX6_shot 182 = .ok (.goto 4, 3) := by decide +kernel
theorem dX6_shot_185 : decode cX6_shot 185 = .ok (.iconst 0, 1) := by decide +kernel
theorem dX6_shot_186 : decode cX6_shot 186 = .ok (.bastore, 1) := by decide +kernel
theorem dX6_shot_187 : decode cX6_shot 187 = .ok (.aload_n 0, 1) := by decide +kernel
theorem dX6_shot_188 : decode cX6_shot 188 = .ok (.getfield 44, 3) := by decide +kernel
theorem dX6_shot_191 : decode cX6_shot 191 = .ok (.iload 9, 2) := by decide +kernel
theorem dX6_shot_193 : decode cX6_shot 193 = .ok (.lload 4, 2) := by decide +kernel
theorem dX6_shot_195 : decode cX6_shot 195 = .ok (.lastore, 1) := by decide +kernel
theorem dX6_shot_196 : decode cX6_shot 196 = .ok (.aload_n 0, 1) := by decide +kernel
theorem dX6_shot_197 : decode cX6_shot 197 = .ok (.dup, 1) := by decide +kernel
theorem dX6_shot_198 : decode cX6_shot 198 = .ok (.getfield 116, 3) := by decide +kernel
theorem dX6_shot_201 : decode cX6_shot 201 = .ok (.iconst 1, 1) := by decide +kernel
theorem dX6_shot_202 : decode cX6_shot 202 = .ok (.iadd, 1) := by decide +kernel
theorem dX6_shot_203 : decode cX6_shot 203 = .ok (.putfield 116, 3) := by decide +kernel
theorem dX6_shot_206 : decode cX6_shot 206 = .ok (.iconst 0, 1) := by decide +kernel
theorem dX6_shot_207 : decode cX6_shot 207 = .ok (.istore 11, 2) := by decide +kernel
theorem dX6_shot_209 : decode cX6_shot 209 = .ok (.iload 11, 2) := by decide +kernel
theorem dX6_shot_211 : decode cX6_shot 211 = .ok (.iconst 4, 1) := by decide +kernel
theorem dX6_shot_212 : decode cX6_shot 212 = .ok (.if_icmp .ge 48, 3) := by decide +kernel
theorem dX6_shot_215 : decode cX6_shot 215 = .ok (.aload_n 0, 1) := by decide +kernel
theorem dX6_shot_216 : decode cX6_shot 216 = .ok (.getfield 60, 3) := by decide +kernel
theorem dX6_shot_219 : decode cX6_shot 219 = .ok (.iload 11, 2) := by decide +kernel
theorem dX6_shot_221 : decode cX6_shot 221 = .ok (.baload, 1) := by decide +kernel
theorem dX6_shot_222 : decode cX6_shot 222 = .ok (.ifCond .ne 32, 3) := by decide +kernel
theorem dX6_shot_225 : decode cX6_shot 225 = .ok (.aload_n 0, 1) := by decide +kernel
theorem dX6_shot_226 : decode cX6_shot 226 = .ok (.getfield 54, 3) := by decide +kernel
theorem dX6_shot_229 : decode cX6_shot 229 = .ok (.bipush 72, 2) := by decide +kernel
theorem dX6_shot_231 : decode cX6_shot 231 = .ok (.iload 11, 2) := by decide +kernel
theorem dX6_shot_233 : decode cX6_shot 233 = .ok (.imul, 1) := by decide +kernel
theorem dX6_shot_234 : decode cX6_shot 234 = .ok (.iload 9, 2) := by decide +kernel
theorem dX6_shot_236 : decode cX6_shot 236 = .ok (.iadd, 1) := by decide +kernel
theorem dX6_shot_237 : decode cX6_shot 237 = .ok (.iconst 1, 1) := by decide +kernel
theorem dX6_shot_238 : decode cX6_shot 238 = .ok (.bastore, 1) := by decide +kernel
theorem dX6_shot_239 : decode cX6_shot 239 = .ok (.aload_n 0, 1) := by decide +kernel
theorem dX6_shot_240 : decode cX6_shot 240 = .ok (.getfield 57, 3) := by decide +kernel
theorem dX6_shot_243 : decode cX6_shot 243 = .ok (.bipush 72, 2) := by decide +kernel
theorem dX6_shot_245 : decode cX6_shot 245 = .ok (.iload 11, 2) := by decide +kernel
theorem dX6_shot_247 : decode cX6_shot 247 = .ok (.imul, 1) := by decide +kernel
theorem dX6_shot_248 : decode cX6_shot 248 = .ok (.iload 9, 2) := by decide +kernel
theorem dX6_shot_250 : decode cX6_shot 250 = .ok (.iadd, 1) := by decide +kernel
theorem dX6_shot_251 : decode cX6_shot 251 = .ok (.lload 4, 2) := by decide +kernel
theorem dX6_shot_253 : decode cX6_shot 253 = .ok (.lastore, 1) := by decide +kernel
theorem dX6_shot_254 : decode cX6_shot 254 = .ok (.iinc 11 1, 3) := by decide +kernel
theorem dX6_shot_257 : decode cX6_shot 257 = .ok (.goto (-48), 3) := by decide +kernel
theorem dX6_shot_260 : decode cX6_shot 260 = .ok (.aload_n 0, 1) := by decide +kernel
theorem dX6_shot_261 : decode cX6_shot 261 = .ok (.getfield 16, 3) := by decide +kernel
theorem dX6_shot_264 : decode cX6_shot 264 = .ok (.iload_n 1, 1) := by decide +kernel
theorem dX6_shot_265 : decode cX6_shot 265 = .ok (.iaload, 1) := by decide +kernel
theorem dX6_shot_266 : decode cX6_shot 266 = .ok (.ireturn, 1) := by decide +kernel
theorem dX6_look_0 : decode cX6_look 0 = .ok (.aload_n 0, 1) := by decide +kernel
theorem dX6_look_1 : decode cX6_look 1 = .ok (.iload_n 1, 1) := by decide +kernel
theorem dX6_look_2 : decode cX6_look 2 = .ok (.iload_n 2, 1) := by decide +kernel
theorem dX6_look_3 : decode cX6_look 3 = .ok (.invokevirtual 105, 3) := by decide +kernel
theorem dX6_look_6 : decode cX6_look 6 = .ok (.istore_n 3, 1) := by decide +kernel
theorem dX6_look_7 : decode cX6_look 7 = .ok (.bipush 12, 2) := by decide +kernel
theorem dX6_look_9 : decode cX6_look 9 = .ok (.iload_n 1, 1) := by decide +kernel
theorem dX6_look_10 : decode cX6_look 10 = .ok (.imul, 1) := by decide +kernel
theorem dX6_look_11 : decode cX6_look 11 = .ok (.iload_n 2, 1) := by decide +kernel
theorem dX6_look_12 : decode cX6_look 12 = .ok (.iadd, 1) := by decide +kernel
theorem dX6_look_13 : decode cX6_look 13 = .ok (.istore 4, 2) := by decide +kernel
theorem dX6_look_15 : decode cX6_look 15 = .ok (.aload_n 0, 1) := by decide +kernel
theorem dX6_look_16 : decode cX6_look 16 = .ok (.iload_n 3, 1) := by decide +kernel
theorem dX6_look_17 : decode cX6_look 17 = .ok (.ifCond .ne 7, 3) := by decide +kernel
theorem dX6_look_20 : decode cX6_look 20 = .ok (.iconst 1, 1) := by decide +kernel
theorem dX6_look_21 : decode cX6_look 21 = .ok (.goto 18, 3) := by decide +kernel
theorem dX6_look_24 : decode cX6_look 24 = .ok (.aload_n 0, 1) := by decide +kernel
theorem dX6_look_25 : decode cX6_look 25 = .ok (.getfield 35, 3) := by decide +kernel
theorem dX6_look_28 : decode cX6_look 28 = .ok (.iload 4, 2) := by decide +kernel
theorem dX6_look_30 : decode cX6_look 30 = .ok (.baload, 1) := by decide +kernel
theorem dX6_look_31 : decode cX6_look 31 = .ok (.ifCond .eq 7, 3) := by decide +kernel
theorem dX6_look_34 : decode cX6_look 34 = .ok (.iconst 0, 1) := by decide +kernel
theorem dX6_look_35 : decode cX6_look 35 = .ok (.goto 4, 3) := by decide +kernel
theorem dX6_look_38 : decode cX6_look 38 = .ok (.iconst 2, 1) := by decide +kernel
theorem dX6_look_39 : decode cX6_look 39 = .ok (.invokevirtual 109, 3) := by decide +kernel
theorem dX6_look_42 : decode cX6_look 42 = .ok (.ifCond .ne 5, 3) := by decide +kernel
theorem dX6_look_45 : decode cX6_look 45 = .ok (.iconst 0, 1) := by decide +kernel
theorem dX6_look_46 : decode cX6_look 46 = .ok (.ireturn, 1) := by decide +kernel
theorem dX6_look_47 : decode cX6_look 47 = .ok (.aload_n 0, 1) := by decide +kernel
theorem dX6_look_48 : decode cX6_look 48 = .ok (.getfield 41, 3) := by decide +kernel
theorem dX6_look_51 : decode cX6_look 51 = .ok (.iload 4, 2) := by decide +kernel
theorem dX6_look_53 : decode cX6_look 53 = .ok (.aload_n 0, 1) := by decide +kernel
theorem dX6_look_54 : decode cX6_look 54 = .ok (.getfield 41, 3) := by decide +kernel
theorem dX6_look_57 : decode cX6_look 57 = .ok (.iload 4, 2) := by decide +kernel
theorem dX6_look_59 : decode cX6_look 59 = .ok (.baload, 1) := by decide +kernel
theorem dX6_look_60 : decode cX6_look 60 = .ok (.ifCond .ne 13, 3) := by decide +kernel
theorem dX6_look_63 : decode cX6_look 63 = .ok (.aload_n 0, 1) := by decide +kernel
theorem dX6_look_64 : decode cX6_look 64 = .ok (.getfield 38, 3) := by decide +kernel
theorem dX6_look_67 : decode cX6_look 67 = .ok (.iload 4, 2) := by decide +kernel
theorem dX6_look_69 : decode cX6_look 69 = .ok (.baload, 1) := by decide +kernel
theorem dX6_look_70 : decode cX6_look 70 = .ok (.ifCond .eq 7, 3) := by decide +kernel
theorem dX6_look_73 : decode cX6_look 73 = .ok (.iconst 1, 1) := by decide +kernel
theorem dX6_look_74 : decode cX6_look 74 = .ok (.goto 4, 3) := by decide +kernel
theorem dX6_look_77 : decode cX6_look 77 = .ok (.iconst 0, 1) := by decide +kernel
theorem dX6_look_78 : decode cX6_look 78 = .ok (.bastore, 1) := by decide +kernel
theorem dX6_look_79 : decode cX6_look 79 = .ok (.aload_n 0, 1) := by decide +kernel
theorem dX6_look_80 : decode cX6_look 80 = .ok (.getfield 38, 3) := by decide +kernel
theorem dX6_look_83 : decode cX6_look 83 = .ok (.iload 4, 2) := by decide +kernel
theorem dX6_look_85 : decode cX6_look 85 = .ok (.baload, 1) := by decide +kernel
theorem dX6_look_86 : decode cX6_look 86 = .ok (.ireturn, 1) := by decide +kernel
theorem dX6_calibrate_0 : decode cX6_calibrate 0 = .ok (.aload_n 0, 1) := by decide +kernel
theorem dX6_calibrate_1 : decode cX6_calibrate 1 = .ok (.iconst 0, 1) := by decide +kernel
theorem dX6_calibrate_2 : decode cX6_calibrate 2 = .ok (.putfield 91, 3) := by decide +kernel
theorem dX6_calibrate_5 : decode cX6_calibrate 5 = .ok (.aload_n 0, 1) := by decide +kernel
theorem dX6_calibrate_6 : decode cX6_calibrate 6 = .ok (.getfield 116, 3) := by decide +kernel
theorem dX6_calibrate_9 : decode cX6_calibrate 9 = .ok (.istore_n 1, 1) := by decide +kernel
theorem dX6_calibrate_10 : decode cX6_calibrate 10 = .ok (.aload_n 0, 1) := by decide +kernel
theorem dX6_calibrate_11 : decode cX6_calibrate 11 = .ok (.iconst 0, 1) := by decide +kernel
theorem dX6_calibrate_12 : decode cX6_calibrate 12 = .ok (.putfield 116, 3) := by decide +kernel
theorem dX6_calibrate_15 : decode cX6_calibrate 15 = .ok (.iload_n 1, 1) := by decide +kernel
theorem dX6_calibrate_16 : decode cX6_calibrate 16 = .ok (.ireturn, 1) := by decide +kernel
theorem dX6_proof_0 : decode cX6_proof 0 = .ok (.lload_n 0, 1) := by decide +kernel
theorem dX6_proof_1 : decode cX6_proof 1 = .ok (.ldc2_w 119, 3) := by decide +kernel
theorem dX6_proof_4 : decode cX6_proof 4 = .ok (.lmul, 1) := by decide +kernel
theorem dX6_proof_5 : decode cX6_proof 5 = .ok (.ldc2_w 121, 3) := by decide +kernel
theorem dX6_proof_8 : decode cX6_proof 8 = .ok (.ladd, 1) := by decide +kernel
theorem dX6_proof_9 : decode cX6_proof 9 = .ok (.lreturn, 1) := by decide +kernel
theorem dX6_holds_0 : decode cX6_holds 0 = .ok (.aload_n 0, 1) := by decide +kernel
theorem dX6_holds_1 : decode cX6_holds 1 = .ok (.getfield 54, 3) := by decide +kernel
theorem dX6_holds_4 : decode cX6_holds 4 = .ok (.bipush 72, 2) := by decide +kernel
theorem dX6_holds_6 : decode cX6_holds 6 = .ok (.iload_n 1, 1) := by decide +kernel
theorem dX6_holds_7 : decode cX6_holds 7 = .ok (.imul, 1) := by decide +kernel
theorem dX6_holds_8 : decode cX6_holds 8 = .ok (.iload_n 2, 1) := by decide +kernel
theorem dX6_holds_9 : decode cX6_holds 9 = .ok (.iadd, 1) := by decide +kernel
theorem dX6_holds_10 : decode cX6_holds 10 = .ok (.baload, 1) := by decide +kernel
theorem dX6_holds_11 : decode cX6_holds 11 = .ok (.ifCond .eq 43, 3) := by decide +kernel
theorem dX6_holds_14 : decode cX6_holds 14 = .ok (.aload_n 0, 1) := by decide +kernel
theorem dX6_holds_15 : decode cX6_holds 15 = .ok (.getfield 35, 3) := by decide +kernel
theorem dX6_holds_18 : decode cX6_holds 18 = .ok (.iload_n 2, 1) := by decide +kernel
theorem dX6_holds_19 : decode cX6_holds 19 = .ok (.baload, 1) := by decide +kernel
theorem dX6_holds_20 : decode cX6_holds 20 = .ok (.ifCond .eq 34, 3) := by decide +kernel
theorem dX6_holds_23 : decode cX6_holds 23 = .ok (.aload_n 0, 1) := by decide +kernel
theorem dX6_holds_24 : decode cX6_holds 24 = .ok (.getfield 57, 3) := by decide +kernel
theorem dX6_holds_27 : decode cX6_holds 27 = .ok (.bipush 72, 2) := by decide +kernel
theorem dX6_holds_29 : decode cX6_holds 29 = .ok (.iload_n 1, 1) := by decide +kernel
theorem dX6_holds_30 : decode cX6_holds 30 = .ok (.imul, 1) := by decide +kernel
theorem dX6_holds_31 : decode cX6_holds 31 = .ok (.iload_n 2, 1) := by decide +kernel
theorem dX6_holds_32 : decode cX6_holds 32 = .ok (.iadd, 1) := by decide +kernel
theorem dX6_holds_33 : decode cX6_holds 33 = .ok (.laload, 1) := by decide +kernel
theorem dX6_holds_34 : decode cX6_holds 34 = .ok (.invokestatic 123, 3) := by decide +kernel
theorem dX6_holds_37 : decode cX6_holds 37 = .ok (.aload_n 0, 1) := by decide +kernel
theorem dX6_holds_38 : decode cX6_holds 38 = .ok (.getfield 44, 3) := by decide +kernel
theorem dX6_holds_41 : decode cX6_holds 41 = .ok (.iload_n 2, 1) := by decide +kernel
theorem dX6_holds_42 : decode cX6_holds 42 = .ok (.laload, 1) := by decide +kernel
theorem dX6_holds_43 : decode cX6_holds 43 = .ok (.invokestatic 123, 3) := by decide +kernel
theorem dX6_holds_46 : decode cX6_holds 46 = .ok (.lcmp, 1) := by decide +kernel
theorem dX6_holds_47 : decode cX6_holds 47 = .ok (.ifCond .ne 7, 3) := by decide +kernel
theorem dX6_holds_50 : decode cX6_holds 50 = .ok (.iconst 1, 1) := by decide +kernel
theorem dX6_holds_51 : decode cX6_holds 51 = .ok (.goto 4, 3) := by decide +kernel
theorem dX6_holds_54 : decode cX6_holds 54 = .ok (.iconst 0, 1) := by decide +kernel
theorem dX6_holds_55 : decode cX6_holds 55 = .ok (.ireturn, 1) := by decide +kernel
theorem dX6_holder_0 : decode cX6_holder 0 = .ok (.iconst (-1), 1) := by decide +kernel
theorem dX6_holder_1 : decode cX6_holder 1 = .ok (.istore_n 2, 1) := by decide +kernel
theorem dX6_holder_2 : decode cX6_holder 2 = .ok (.iconst 3, 1) := by decide +kernel
theorem dX6_holder_3 : decode cX6_holder 3 = .ok (.istore_n 3, 1) := by decide +kernel
theorem dX6_holder_4 : decode cX6_holder 4 = .ok (.iload_n 3, 1) := by decide +kernel
theorem dX6_holder_5 : decode cX6_holder 5 = .ok (.ifCond .lt 24, 3) := by decide +kernel
theorem dX6_holder_8 : decode cX6_holder 8 = .ok (.aload_n 0, 1) := by decide +kernel
theorem dX6_holder_9 : decode cX6_holder 9 = .ok (.iload_n 3, 1) := by decide +kernel
theorem dX6_holder_10 : decode cX6_holder 10 = .ok (.iload_n 1, 1) := by decide +kernel
theorem dX6_holder_11 : decode cX6_holder 11 = .ok (.invokevirtual 127, 3) := by decide +kernel
theorem dX6_holder_14 : decode cX6_holder 14 = .ok (.ifCond .eq 7, 3) := by decide +kernel
theorem dX6_holder_17 : decode cX6_holder 17 = .ok (.iload_n 3, 1) := by decide +kernel
theorem dX6_holder_18 : decode cX6_holder 18 = .ok (.goto 4, 3) := by decide +kernel
theorem dX6_holder_21 : decode cX6_holder 21 = .ok (.iload_n 2, 1) := by decide +kernel
theorem dX6_holder_22 : decode cX6_holder 22 = .ok (.istore_n 2, 1) := by decide +kernel
theorem dX6_holder_23 : decode cX6_holder 23 = .ok (.iinc 3 (-1), 3) := by decide +kernel
theorem dX6_holder_26 : decode cX6_holder 26 = .ok (.goto (-22), 3) := by decide +kernel
theorem dX6_holder_29 : decode cX6_holder 29 = .ok (.iload_n 2, 1) := by decide +kernel
theorem dX6_holder_30 : decode cX6_holder 30 = .ok (.ireturn, 1) := by decide +kernel
theorem dX6_rot_0 : decode cX6_rot 0 = .ok (.iload_n 1, 1) := by decide +kernel
theorem dX6_rot_1 : decode cX6_rot 1 = .ok (.invokestatic 130, 3) := by decide +kernel
theorem dX6_rot_4 : decode cX6_rot 4 = .ok (.ifCond .eq 16, 3) := by decide +kernel
theorem dX6_rot_7 : decode cX6_rot 7 = .ok (.aload_n 0, 1) := by decide +kernel
theorem dX6_rot_8 : decode cX6_rot 8 = .ok (.iload_n 2, 1) := by decide +kernel
theorem dX6_rot_9 : decode cX6_rot 9 = .ok (.iload_n 3, 1) := by decide +kernel
theorem dX6_rot_10 : decode cX6_rot 10 = .ok (.invokevirtual 105, 3) := by decide +kernel
theorem dX6_rot_13 : decode cX6_rot 13 = .ok (.ifCond .eq 7, 3) := by decide +kernel
theorem dX6_rot_16 : decode cX6_rot 16 = .ok (.iconst 1, 1) := by decide +kernel
theorem dX6_rot_17 : decode cX6_rot 17 = .ok (.goto 4, 3) := by decide +kernel
theorem dX6_rot_20 : decode cX6_rot 20 = .ok (.iconst 0, 1) := by decide +kernel
theorem dX6_rot_21 : decode cX6_rot 21 = .ok (.istore 5, 2) := by decide +kernel
theorem dX6_rot_23 : decode cX6_rot 23 = .ok (.iload 4, 2) := by decide +kernel
theorem dX6_rot_25 : decode cX6_rot 25 = .ok (.iconst 0, 1) := by decide +kernel
theorem dX6_rot_26 : decode cX6_rot 26 = .ok (.bipush 63, 2) := by decide +kernel
theorem dX6_rot_28 : decode cX6_rot 28 = .ok (.invokestatic 97, 3) := by decide +kernel
theorem dX6_rot_31 : decode cX6_rot 31 = .ok (.istore 6, 2) := by decide +kernel
theorem dX6_rot_33 : decode cX6_rot 33 = .ok (.bipush 12, 2) := by decide +kernel
theorem dX6_rot_35 : decode cX6_rot 35 = .ok (.iload_n 2, 1) := by decide +kernel
theorem dX6_rot_36 : decode cX6_rot 36 = .ok (.imul, 1) := by decide +kernel
theorem dX6_rot_37 : decode cX6_rot 37 = .ok (.iload_n 3, 1) := by decide +kernel
theorem dX6_rot_38 : decode cX6_rot 38 = .ok (.iadd, 1) := by decide +kernel
theorem dX6_rot_39 : decode cX6_rot 39 = .ok (.istore 7, 2) := by decide +kernel
theorem dX6_rot_41 : decode cX6_rot 41 = .ok (.aload_n 0, 1) := by decide +kernel
theorem dX6_rot_42 : decode cX6_rot 42 = .ok (.iload 5, 2) := by decide +kernel
theorem dX6_rot_44 : decode cX6_rot 44 = .ok (.ifCond .ne 7, 3) := by decide +kernel
theorem dX6_rot_47 : decode cX6_rot 47 = .ok (.iconst 1, 1) := by decide +kernel
theorem dX6_rot_48 : decode cX6_rot 48 = .ok (.goto 32, 3) := by decide +kernel
theorem dX6_rot_51 : decode cX6_rot 51 = .ok (.iload 6, 2) := by decide +kernel
theorem dX6_rot_53 : decode cX6_rot 53 = .ok (.ifCond .ne 7, 3) := by decide +kernel
theorem dX6_rot_56 : decode cX6_rot 56 = .ok (.iconst 2, 1) := by decide +kernel
theorem dX6_rot_57 : decode cX6_rot 57 = .ok (.goto 23, 3) := by decide +kernel
theorem dX6_rot_60 : decode cX6_rot 60 = .ok (.aload_n 0, 1) := by decide +kernel
theorem dX6_rot_61 : decode cX6_rot 61 = .ok (.getfield 54, 3) := by decide +kernel
theorem dX6_rot_64 : decode cX6_rot 64 = .ok (.bipush 72, 2) := by decide +kernel
theorem dX6_rot_66 : decode cX6_rot 66 = .ok (.iload_n 1, 1) := by decide +kernel
theorem dX6_rot_67 : decode cX6_rot 67 = .ok (.imul, 1) := by decide +kernel
theorem dX6_rot_68 : decode cX6_rot 68 = .ok (.iload 7, 2) := by decide +kernel
theorem dX6_rot_70 : decode cX6_rot 70 = .ok (.iadd, 1) := by decide +kernel
theorem dX6_rot_71 : decode cX6_rot 71 = .ok (.baload, 1) := by decide +kernel
theorem dX6_rot_72 : decode cX6_rot 72 = .ok (.ifCond .eq 7, 3) := by decide +kernel
theorem dX6_rot_75 : decode cX6_rot 75 = .ok (.iconst 0, 1) := by decide +kernel
theorem dX6_rot_76 : decode cX6_rot 76 = .ok (.goto 4, 3) := by decide +kernel
theorem dX6_rot_79 : decode cX6_rot 79 = .ok (.iconst 3, 1) := by decide +kernel
theorem dX6_rot_80 : decode cX6_rot 80 = .ok (.invokevirtual 109, 3) := by decide +kernel
theorem dX6_rot_83 : decode cX6_rot 83 = .ok (.ifCond .ne 5, 3) := by decide +kernel
theorem dX6_rot_86 : decode cX6_rot 86 = .ok (.iconst 0, 1) := by decide +kernel
theorem dX6_rot_87 : decode cX6_rot 87 = .ok (.ireturn, 1) := by decide +kernel
theorem dX6_rot_88 : decode cX6_rot 88 = .ok (.aload_n 0, 1) := by decide +kernel
theorem dX6_rot_89 : decode cX6_rot 89 = .ok (.getfield 57, 3) := by decide +kernel
theorem dX6_rot_92 : decode cX6_rot 92 = .ok (.bipush 72, 2) := by decide +kernel
theorem dX6_rot_94 : decode cX6_rot 94 = .ok (.iload_n 1, 1) := by decide +kernel
theorem dX6_rot_95 : decode cX6_rot 95 = .ok (.imul, 1) := by decide +kernel
theorem dX6_rot_96 : decode cX6_rot 96 = .ok (.iload 7, 2) := by decide +kernel
theorem dX6_rot_98 : decode cX6_rot 98 = .ok (.iadd, 1) := by decide +kernel
theorem dX6_rot_99 : decode cX6_rot 99 = .ok (.dup2, 1) := by decide +kernel
theorem dX6_rot_100 : decode cX6_rot 100 = .ok (.laload, 1) := by decide +kernel
theorem dX6_rot_101 : decode cX6_rot 101 = .ok (.lconst 1, 1) := by decide +kernel
theorem dX6_rot_102 : decode cX6_rot 102 = .ok (.iload 4, 2) := by decide +kernel
theorem dX6_rot_104 : decode cX6_rot 104 = .ok (.lshl, 1) := by decide +kernel
theorem dX6_rot_105 : decode cX6_rot 105 = .ok (.lxor, 1) := by decide +kernel
theorem dX6_rot_106 : decode cX6_rot 106 = .ok (.lastore, 1) := by decide +kernel
theorem dX6_rot_107 : decode cX6_rot 107 = .ok (.aload_n 0, 1) := by decide +kernel
theorem dX6_rot_108 : decode cX6_rot 108 = .ok (.iload_n 1, 1) := by decide +kernel
theorem dX6_rot_109 : decode cX6_rot 109 = .ok (.iload 7, 2) := by decide +kernel
theorem dX6_rot_111 : decode cX6_rot 111 = .ok (.invokevirtual 127, 3) := by decide +kernel
theorem dX6_rot_114 : decode cX6_rot 114 = .ok (.ireturn, 1) := by decide +kernel
theorem dX6_burn_0 : decode cX6_burn 0 = .ok (.iload_n 1, 1) := by decide +kernel
theorem dX6_burn_1 : decode cX6_burn 1 = .ok (.invokestatic 130, 3) := by decide +kernel
theorem dX6_burn_4 : decode cX6_burn 4 = .ok (.istore_n 2, 1) := by decide +kernel
theorem dX6_burn_5 : decode cX6_burn 5 = .ok (.aload_n 0, 1) := by decide +kernel
theorem dX6_burn_6 : decode cX6_burn 6 = .ok (.iload_n 2, 1) := by decide +kernel
theorem dX6_burn_7 : decode cX6_burn 7 = .ok (.ifCond .ne 7, 3) := by decide +kernel
theorem dX6_burn_10 : decode cX6_burn 10 = .ok (.iconst 1, 1) := by decide +kernel
theorem dX6_burn_11 : decode cX6_burn 11 = .ok (.goto 17, 3) := by decide +kernel
theorem dX6_burn_14 : decode cX6_burn 14 = .ok (.aload_n 0, 1) := by decide +kernel
theorem dX6_burn_15 : decode cX6_burn 15 = .ok (.getfield 60, 3) := by decide +kernel
theorem dX6_burn_18 : decode cX6_burn 18 = .ok (.iload_n 1, 1) := by decide +kernel
theorem dX6_burn_19 : decode cX6_burn 19 = .ok (.baload, 1) := by decide +kernel
theorem dX6_burn_20 : decode cX6_burn 20 = .ok (.ifCond .eq 7, 3) := by decide +kernel
theorem dX6_burn_23 : decode cX6_burn 23 = .ok (.iconst 2, 1) := by decide +kernel
theorem dX6_burn_24 : decode cX6_burn 24 = .ok (.goto 4, 3) := by decide +kernel
theorem dX6_burn_27 : decode cX6_burn 27 = .ok (.iconst 0, 1) := by decide +kernel
theorem dX6_burn_28 : decode cX6_burn 28 = .ok (.invokevirtual 109, 3) := by decide +kernel
theorem dX6_burn_31 : decode cX6_burn 31 = .ok (.ifCond .ne 5, 3) := by decide +kernel
theorem dX6_burn_34 : decode cX6_burn 34 = .ok (.iconst 0, 1) := by decide +kernel
theorem dX6_burn_35 : decode cX6_burn 35 = .ok (.ireturn, 1) := by decide +kernel
theorem dX6_burn_36 : decode cX6_burn 36 = .ok (.iconst 0, 1) := by decide +kernel
theorem dX6_burn_37 : decode cX6_burn 37 = .ok (.istore_n 3, 1) := by decide +kernel
theorem dX6_burn_38 : decode cX6_burn 38 = .ok (.iconst 0, 1) := by decide +kernel
theorem dX6_burn_39 : decode cX6_burn 39 = .ok (.istore 4, 2) := by decide +kernel
theorem dX6_burn_41 : decode cX6_burn 41 = .ok (.iload 4, 2) := by decide +kernel
theorem dX6_burn_43 : decode cX6_burn 43 = .ok (.bipush 72, 2) := by decide +kernel
theorem dX6_burn_45 : decode cX6_burn 45 = .ok (.if_icmp .ge 45, 3) := by decide +kernel
theorem dX6_burn_48 : decode cX6_burn 48 = .ok (.iload_n 3, 1) := by decide +kernel
theorem dX6_burn_49 : decode cX6_burn 49 = .ok (.aload_n 0, 1) := by decide +kernel
theorem dX6_burn_50 : decode cX6_burn 50 = .ok (.getfield 54, 3) := by decide +kernel
theorem dX6_burn_53 : decode cX6_burn 53 = .ok (.bipush 72, 2) := by decide +kernel
theorem dX6_burn_55 : decode cX6_burn 55 = .ok (.iload_n 1, 1) := by decide +kernel
theorem dX6_burn_56 : decode cX6_burn 56 = .ok (.imul, 1) := by decide +kernel
theorem dX6_burn_57 : decode cX6_burn 57 = .ok (.iload 4, 2) := by decide +kernel
theorem dX6_burn_59 : decode cX6_burn 59 = .ok (.iadd, 1) := by decide +kernel
theorem dX6_burn_60 : decode cX6_burn 60 = .ok (.baload, 1) := by decide +kernel
theorem dX6_burn_61 : decode cX6_burn 61 = .ok (.ifCond .eq 7, 3) := by decide +kernel
theorem dX6_burn_64 : decode cX6_burn 64 = .ok (.iconst 1, 1) := by decide +kernel
theorem dX6_burn_65 : decode cX6_burn 65 = .ok (.goto 4, 3) := by decide +kernel
theorem dX6_burn_68 : decode cX6_burn 68 = .ok (.iconst 0, 1) := by decide +kernel
theorem dX6_burn_69 : decode cX6_burn 69 = .ok (.iadd, 1) := by decide +kernel
theorem dX6_burn_70 : decode cX6_burn 70 = .ok (.istore_n 3, 1) := by decide +kernel
theorem dX6_burn_71 : decode cX6_burn 71 = .ok (.aload_n 0, 1) := by decide +kernel
theorem dX6_burn_72 : decode cX6_burn 72 = .ok (.getfield 54, 3) := by decide +kernel
theorem dX6_burn_75 : decode cX6_burn 75 = .ok (.bipush 72, 2) := by decide +kernel
theorem dX6_burn_77 : decode cX6_burn 77 = .ok (.iload_n 1, 1) := by decide +kernel
theorem dX6_burn_78 : decode cX6_burn 78 = .ok (.imul, 1) := by decide +kernel
theorem dX6_burn_79 : decode cX6_burn 79 = .ok (.iload 4, 2) := by decide +kernel
theorem dX6_burn_81 : decode cX6_burn 81 = .ok (.iadd, 1) := by decide +kernel
theorem dX6_burn_82 : decode cX6_burn 82 = .ok (.iconst 0, 1) := by decide +kernel
theorem dX6_burn_83 : decode cX6_burn 83 = .ok (.bastore, 1) := by decide +kernel
theorem dX6_burn_84 : decode cX6_burn 84 = .ok (.iinc 4 1, 3) := by decide +kernel
theorem dX6_burn_87 : decode cX6_burn 87 = .ok (.goto (-46), 3) := by decide +kernel
theorem dX6_burn_90 : decode cX6_burn 90 = .ok (.aload_n 0, 1) := by decide +kernel
theorem dX6_burn_91 : decode cX6_burn 91 = .ok (.getfield 60, 3) := by decide +kernel
theorem dX6_burn_94 : decode cX6_burn 94 = .ok (.iload_n 1, 1) := by decide +kernel
theorem dX6_burn_95 : decode cX6_burn 95 = .ok (.iconst 1, 1) := by decide +kernel
theorem dX6_burn_96 : decode cX6_burn 96 = .ok (.bastore, 1) := by decide +kernel
theorem dX6_burn_97 : decode cX6_burn 97 = .ok (.iload_n 3, 1) := by decide +kernel
theorem dX6_burn_98 : decode cX6_burn 98 = .ok (.ireturn, 1) := by decide +kernel
theorem dX6_build_0 : decode cX6_build 0 = .ok (.iload_n 1, 1) := by decide +kernel
theorem dX6_build_1 : decode cX6_build 1 = .ok (.invokestatic 130, 3) := by decide +kernel
theorem dX6_build_4 : decode cX6_build 4 = .ok (.istore_n 2, 1) := by decide +kernel
theorem dX6_build_5 : decode cX6_build 5 = .ok (.aload_n 0, 1) := by decide +kernel
theorem dX6_build_6 : decode cX6_build 6 = .ok (.iload_n 2, 1) := by decide +kernel
theorem dX6_build_7 : decode cX6_build 7 = .ok (.ifCond .ne 7, 3) := by decide +kernel
theorem dX6_build_10 : decode cX6_build 10 = .ok (.iconst 1, 1) := by decide +kernel
theorem dX6_build_11 : decode cX6_build 11 = .ok (.goto 17, 3) := by decide +kernel
theorem dX6_build_14 : decode cX6_build 14 = .ok (.aload_n 0, 1) := by decide +kernel
theorem dX6_build_15 : decode cX6_build 15 = .ok (.getfield 60, 3) := by decide +kernel
theorem dX6_build_18 : decode cX6_build 18 = .ok (.iload_n 1, 1) := by decide +kernel
theorem dX6_build_19 : decode cX6_build 19 = .ok (.baload, 1) := by decide +kernel
theorem dX6_build_20 : decode cX6_build 20 = .ok (.ifCond .eq 7, 3) := by decide +kernel
theorem dX6_build_23 : decode cX6_build 23 = .ok (.iconst 0, 1) := by decide +kernel
theorem dX6_build_24 : decode cX6_build 24 = .ok (.goto 4, 3) := by decide +kernel
theorem dX6_build_27 : decode cX6_build 27 = .ok (.iconst 2, 1) := by decide +kernel
theorem dX6_build_28 : decode cX6_build 28 = .ok (.invokevirtual 109, 3) := by decide +kernel
theorem dX6_build_31 : decode cX6_build 31 = .ok (.ifCond .eq 10, 3) := by decide +kernel
theorem dX6_build_34 : decode cX6_build 34 = .ok (.aload_n 0, 1) := by decide +kernel
theorem dX6_build_35 : decode cX6_build 35 = .ok (.getfield 60, 3) := by decide +kernel
theorem dX6_build_38 : decode cX6_build 38 = .ok (.iload_n 1, 1) := by decide +kernel
theorem dX6_build_39 : decode cX6_build 39 = .ok (.iconst 0, 1) := by decide +kernel
theorem dX6_build_40 : decode cX6_build 40 = .ok (.bastore, 1) := by decide +kernel
theorem dX6_build_41 : decode cX6_build 41 = .ok (.return_, 1) := by decide +kernel
theorem dX6_layTrees_0 : decode cX6_layTrees 0 = .ok (.iconst 0, 1) := by decide +kernel
theorem dX6_layTrees_1 : decode cX6_layTrees 1 = .ok (.istore_n 3, 1) := by decide +kernel
theorem dX6_layTrees_2 : decode cX6_layTrees 2 = .ok (.iload_n 3, 1) := by decide +kernel
theorem dX6_layTrees_3 : decode cX6_layTrees 3 = .ok (.bipush 16, 2) := by decide +kernel
theorem dX6_layTrees_5 : decode cX6_layTrees 5 = .ok (.if_icmp .ge 120, 3) := by decide +kernel
theorem dX6_layTrees_8 : decode cX6_layTrees 8 = .ok (.bipush 12, 2) := by decide +kernel
theorem dX6_layTrees_10 : decode cX6_layTrees 10 = .ok (.iload_n 2, 1) := by decide +kernel
theorem dX6_layTrees_11 : decode cX6_layTrees 11 = .ok (.imul, 1) := by decide +kernel
theorem dX6_layTrees_12 : decode cX6_layTrees 12 = .ok (.iload_n 3, 1) := by decide +kernel
theorem dX6_layTrees_13 : decode cX6_layTrees 13 = .ok (.iadd, 1) := by decide +kernel
theorem dX6_layTrees_14 : decode cX6_layTrees 14 = .ok (.istore 4, 2) := by decide +kernel
theorem dX6_layTrees_16 : decode cX6_layTrees 16 = .ok (.iload_n 3, 1) := by decide +kernel
theorem dX6_layTrees_17 : decode cX6_layTrees 17 = .ok (.aload_n 0, 1) := by decide +kernel
theorem dX6_layTrees_18 : decode cX6_layTrees 18 = .ok (.getfield 7, 3) := by decide +kernel
theorem dX6_layTrees_21 : decode cX6_layTrees 21 = .ok (.iload_n 2, 1) := by decide +kernel
theorem dX6_layTrees_22 : decode cX6_layTrees 22 = .ok (.iaload, 1) := by decide +kernel
theorem dX6_layTrees_23 : decode cX6_layTrees 23 = .ok (.if_icmp .ge 7, 3) := by decide +kernel
theorem dX6_layTrees_26 : decode cX6_layTrees 26 = .ok (.iconst 1, 1) := by decide +kernel
theorem dX6_layTrees_27 : decode cX6_layTrees 27 = .ok (.goto 4, 3) := by decide +kernel
theorem dX6_layTrees_30 : decode cX6_layTrees 30 = .ok (.iconst 0, 1) := by decide +kernel
theorem dX6_layTrees_31 : decode cX6_layTrees 31 = .ok (.istore 5, 2) := by decide +kernel
theorem dX6_layTrees_33 : decode cX6_layTrees 33 = .ok (.aload_n 0, 1) := by decide +kernel
theorem dX6_layTrees_34 : decode cX6_layTrees 34 = .ok (.getfield 63, 3) := by decide +kernel
theorem dX6_layTrees_37 : decode cX6_layTrees 37 = .ok (.bipush 15, 2) := by decide +kernel
theorem dX6_layTrees_39 : decode cX6_layTrees 39 = .ok (.iload_n 3, 1) := by decide +kernel
theorem dX6_layTrees_40 : decode cX6_layTrees 40 = .ok (.iadd, 1) := by decide +kernel
theorem dX6_layTrees_41 : decode cX6_layTrees 41 = .ok (.iload 5, 2) := by decide +kernel
theorem dX6_layTrees_43 : decode cX6_layTrees 43 = .ok (.ifCond .eq 26, 3) := by decide +kernel
theorem dX6_layTrees_46 : decode cX6_layTrees 46 = .ok (.aload_n 0, 1) := by decide +kernel
theorem dX6_layTrees_47 : decode cX6_layTrees 47 = .ok (.getfield 35, 3) := by decide +kernel
theorem dX6_layTrees_50 : decode cX6_layTrees 50 = .ok (.iload 4, 2) := by decide +kernel
theorem dX6_layTrees_52 : decode cX6_layTrees 52 = .ok (.baload, 1) := by decide +kernel
theorem dX6_layTrees_53 : decode cX6_layTrees 53 = .ok (.ifCond .eq 16, 3) := by decide +kernel
theorem dX6_layTrees_56 : decode cX6_layTrees 56 = .ok (.aload_n 0, 1) := by decide +kernel
theorem dX6_layTrees_57 : decode cX6_layTrees 57 = .ok (.getfield 44, 3) := by decide +kernel
theorem dX6_layTrees_60 : decode cX6_layTrees 60 = .ok (.iload 4, 2) := by decide +kernel
theorem dX6_layTrees_62 : decode cX6_layTrees 62 = .ok (.laload, 1) := by decide +kernel
theorem dX6_layTrees_63 : decode cX6_layTrees 63 = .ok (.invokestatic 123, 3) := by decide +kernel
theorem dX6_layTrees_66 : decode cX6_layTrees 66 = .ok (.goto 4, 3) := by decide +kernel
theorem dX6_layTrees_69 : decode cX6_layTrees 69 = .ok (.lconst 0, 1) := by decide +kernel
theorem dX6_layTrees_70 : decode cX6_layTrees 70 = .ok (.lastore, 1) := by decide +kernel
theorem dX6_layTrees_71 : decode cX6_layTrees 71 = .ok (.aload_n 0, 1) := by decide +kernel
theorem dX6_layTrees_72 : decode cX6_layTrees 72 = .ok (.getfield 66, 3) := by decide +kernel
theorem dX6_layTrees_75 : decode cX6_layTrees 75 = .ok (.bipush 15, 2) := by decide +kernel
theorem dX6_layTrees_77 : decode cX6_layTrees 77 = .ok (.iload_n 3, 1) := by decide +kernel
theorem dX6_layTrees_78 : decode cX6_layTrees 78 = .ok (.iadd, 1) := by decide +kernel
theorem dX6_layTrees_79 : decode cX6_layTrees 79 = .ok (.iload 5, 2) := by decide +kernel
theorem dX6_layTrees_81 : decode cX6_layTrees 81 = .ok (.ifCond .eq 36, 3) := by decide +kernel
theorem dX6_layTrees_84 : decode cX6_layTrees 84 = .ok (.aload_n 0, 1) := by decide +kernel
theorem dX6_layTrees_85 : decode cX6_layTrees 85 = .ok (.getfield 54, 3) := by decide +kernel
theorem dX6_layTrees_88 : decode cX6_layTrees 88 = .ok (.bipush 72, 2) := by decide +kernel
theorem dX6_layTrees_90 : decode cX6_layTrees 90 = .ok (.iload_n 1, 1) := by decide +kernel
theorem dX6_layTrees_91 : decode cX6_layTrees 91 = .ok (.imul, 1) := by decide +kernel
theorem dX6_layTrees_92 : decode cX6_layTrees 92 = .ok (.iload 4, 2) := by decide +kernel
theorem dX6_layTrees_94 : decode cX6_layTrees 94 = .ok (.iadd, 1) := by decide +kernel
theorem dX6_layTrees_95 : decode cX6_layTrees 95 = .ok (.baload, 1) := by decide +kernel
theorem dX6_layTrees_96 : decode cX6_layTrees 96 = .ok (.ifCond .eq 21, 3) := by decide +kernel
theorem dX6_layTrees_99 : decode cX6_layTrees 99 = .ok (.aload_n 0, 1) := by decide +kernel
theorem dX6_layTrees_100 : decode cX6_layTrees 100 = .ok (.getfield 57, 3) := by decide +kernel
theorem dX6_layTrees_103 : decode cX6_layTrees 103 = .ok (.bipush 72, 2) := by decide +kernel
theorem dX6_layTrees_105 : decode cX6_layTrees 105 = .ok (.iload_n 1, 1) := by decide +kernel
theorem dX6_layTrees_106 : decode cX6_layTrees 106 = .ok (.imul, 1) := by decide +kernel
theorem dX6_layTrees_107 : decode cX6_layTrees 107 = .ok (.iload 4, 2) := by decide +kernel
theorem dX6_layTrees_109 : decode cX6_layTrees 109 = .ok (.iadd, 1) := by decide +kernel
theorem dX6_layTrees_110 : decode cX6_layTrees 110 = .ok (.laload, 1) := by decide +kernel
theorem dX6_layTrees_111 : decode cX6_layTrees 111 = .ok (.invokestatic 123, 3) := by decide +kernel
theorem dX6_layTrees_114 : decode cX6_layTrees 114 = .ok (.goto 4, 3) := by decide +kernel
theorem dX6_layTrees_117 : decode cX6_layTrees 117 = .ok (.lconst 0, 1) := by decide +kernel
theorem dX6_layTrees_118 : decode cX6_layTrees 118 = .ok (.lastore, 1) := by decide +kernel
theorem dX6_layTrees_119 : decode cX6_layTrees 119 = .ok (.iinc 3 1, 3) := by decide +kernel
theorem dX6_layTrees_122 : decode cX6_layTrees 122 = .ok (.goto (-120), 3) := by decide +kernel
theorem dX6_layTrees_125 : decode cX6_layTrees 125 = .ok (.bipush 14, 2) := by decide +kernel
theorem dX6_layTrees_127 : decode cX6_layTrees 127 = .ok (.istore_n 3, 1) := by decide +kernel
theorem dX6_layTrees_128 : decode cX6_layTrees 128 = .ok (.iload_n 3, 1) := by decide +kernel
theorem dX6_layTrees_129 : decode cX6_layTrees 129 = .ok (.ifCond .lt 71, 3) := by decide +kernel
theorem dX6_layTrees_132 : decode cX6_layTrees 132 = .ok (.aload_n 0, 1) := by decide +kernel
theorem dX6_layTrees_133 : decode cX6_layTrees 133 = .ok (.getfield 63, 3) := by decide +kernel
theorem dX6_layTrees_136 : decode cX6_layTrees 136 = .ok (.iload_n 3, 1) := by decide +kernel
theorem dX6_layTrees_137 : decode cX6_layTrees 137 = .ok (.ldc2_w 133, 3) := by decide +kernel
theorem dX6_layTrees_140 : decode cX6_layTrees 140 = .ok (.aload_n 0, 1) := by decide +kernel
theorem dX6_layTrees_141 : decode cX6_layTrees 141 = .ok (.getfield 63, 3) := by decide +kernel
theorem dX6_layTrees_144 : decode cX6_layTrees 144 = .ok (.iconst 2, 1) := by decide +kernel
theorem dX6_layTrees_145 : decode cX6_layTrees 145 = .ok (.iload_n 3, 1) := by decide +kernel
theorem dX6_layTrees_146 : decode cX6_layTrees 146 = .ok (.imul, 1) := by decide +kernel
theorem dX6_layTrees_147 : decode cX6_layTrees 147 = .ok (.iconst 1, 1) := by decide +kernel
theorem dX6_layTrees_148 : decode cX6_layTrees 148 = .ok (.iadd, 1) := by decide +kernel
theorem dX6_layTrees_149 : decode cX6_layTrees 149 = .ok (.laload, 1) := by decide +kernel
theorem dX6_layTrees_150 : decode cX6_layTrees 150 = .ok (.lmul, 1) := by decide +kernel
theorem dX6_layTrees_151 : decode cX6_layTrees 151 = .ok (.aload_n 0, 1) := by decide +kernel
theorem dX6_layTrees_152 : decode cX6_layTrees 152 = .ok (.getfield 63, 3) := by decide +kernel
theorem dX6_layTrees_155 : decode cX6_layTrees 155 = .ok (.iconst 2, 1) := by decide +kernel
theorem dX6_layTrees_156 : decode cX6_layTrees 156 = .ok (.iload_n 3, 1) := by decide +kernel
theorem dX6_layTrees_157 : decode cX6_layTrees 157 = .ok (.imul, 1) := by decide +kernel
theorem dX6_layTrees_158 : decode cX6_layTrees 158 = .ok (.iconst 2, 1) := by decide +kernel
theorem dX6_layTrees_159 : decode cX6_layTrees 159 = .ok (.iadd, 1) := by decide +kernel
theorem dX6_layTrees_160 : decode cX6_layTrees 160 = .ok (.laload, 1) := by decide +kernel
theorem dX6_layTrees_161 : decode cX6_layTrees 161 = .ok (.ladd, 1) := by decide +kernel
theorem dX6_layTrees_162 : decode cX6_layTrees 162 = .ok (.lastore, 1) := by decide +kernel
theorem dX6_layTrees_163 : decode cX6_layTrees 163 = .ok (.aload_n 0, 1) := by decide +kernel
theorem dX6_layTrees_164 : decode cX6_layTrees 164 = .ok (.getfield 66, 3) := by decide +kernel
theorem dX6_layTrees_167 : decode cX6_layTrees 167 = .ok (.iload_n 3, 1) := by decide +kernel
theorem dX6_layTrees_168 : decode cX6_layTrees 168 = .ok (.ldc2_w 133, 3) := by decide +kernel
theorem dX6_layTrees_171 : decode cX6_layTrees 171 = .ok (.aload_n 0, 1) := by decide +kernel
theorem dX6_layTrees_172 : decode cX6_layTrees 172 = .ok (.getfield 66, 3) := by decide +kernel
theorem dX6_layTrees_175 : decode cX6_layTrees 175 = .ok (.iconst 2, 1) := by decide +kernel
theorem dX6_layTrees_176 : decode cX6_layTrees 176 = .ok (.iload_n 3, 1) := by decide +kernel
theorem dX6_layTrees_177 : decode cX6_layTrees 177 = .ok (.imul, 1) := by decide +kernel
theorem dX6_layTrees_178 : decode cX6_layTrees 178 = .ok (.iconst 1, 1) := by decide +kernel
theorem dX6_layTrees_179 : decode cX6_layTrees 179 = .ok (.iadd, 1) := by decide +kernel
theorem dX6_layTrees_180 : decode cX6_layTrees 180 = .ok (.laload, 1) := by decide +kernel
theorem dX6_layTrees_181 : decode cX6_layTrees 181 = .ok (.lmul, 1) := by decide +kernel
theorem dX6_layTrees_182 : decode cX6_layTrees 182 = .ok (.aload_n 0, 1) := by decide +kernel
theorem dX6_layTrees_183 : decode cX6_layTrees 183 = .ok (.getfield 66, 3) := by decide +kernel
theorem dX6_layTrees_186 : decode cX6_layTrees 186 = .ok (.iconst 2, 1) := by decide +kernel
theorem dX6_layTrees_187 : decode cX6_layTrees 187 = .ok (.iload_n 3, 1) := by decide +kernel
theorem dX6_layTrees_188 : decode cX6_layTrees 188 = .ok (.imul, 1) := by decide +kernel
theorem dX6_layTrees_189 : decode cX6_layTrees 189 = .ok (.iconst 2, 1) := by decide +kernel
theorem dX6_layTrees_190 : decode cX6_layTrees 190 = .ok (.iadd, 1) := by decide +kernel
theorem dX6_layTrees_191 : decode cX6_layTrees 191 = .ok (.laload, 1) := by decide +kernel
theorem dX6_layTrees_192 : decode cX6_layTrees 192 = .ok (.ladd, 1) := by decide +kernel
theorem dX6_layTrees_193 : decode cX6_layTrees 193 = .ok (.lastore, 1) := by decide +kernel
theorem dX6_layTrees_194 : decode cX6_layTrees 194 = .ok (.iinc 3 (-1), 3) := by decide +kernel
theorem dX6_layTrees_197 : decode cX6_layTrees 197 = .ok (.goto (-69), 3) := by decide +kernel
theorem dX6_layTrees_200 : decode cX6_layTrees 200 = .ok (.return_, 1) := by decide +kernel
theorem dX6_check_0 : decode cX6_check 0 = .ok (.aload_n 0, 1) := by decide +kernel
theorem dX6_check_1 : decode cX6_check 1 = .ok (.iload_n 1, 1) := by decide +kernel
theorem dX6_check_2 : decode cX6_check 2 = .ok (.invokestatic 130, 3) := by decide +kernel
theorem dX6_check_5 : decode cX6_check 5 = .ok (.ifCond .eq 15, 3) := by decide +kernel
theorem dX6_check_8 : decode cX6_check 8 = .ok (.aload_n 0, 1) := by decide +kernel
theorem dX6_check_9 : decode cX6_check 9 = .ok (.iload_n 2, 1) := by decide +kernel
theorem dX6_check_10 : decode cX6_check 10 = .ok (.invokevirtual 101, 3) := by decide +kernel
theorem dX6_check_13 : decode cX6_check 13 = .ok (.ifCond .eq 7, 3) := by decide +kernel
theorem dX6_check_16 : decode cX6_check 16 = .ok (.iconst 0, 1) := by decide +kernel
theorem dX6_check_17 : decode cX6_check 17 = .ok (.goto 4, 3) := by decide +kernel
theorem dX6_check_20 : decode cX6_check 20 = .ok (.iconst 1, 1) := by decide +kernel
theorem dX6_check_21 : decode cX6_check 21 = .ok (.invokevirtual 109, 3) := by decide +kernel
theorem dX6_check_24 : decode cX6_check 24 = .ok (.ifCond .ne 5, 3) := by decide +kernel
theorem dX6_check_27 : decode cX6_check 27 = .ok (.iconst 0, 1) := by decide +kernel
theorem dX6_check_28 : decode cX6_check 28 = .ok (.ireturn, 1) := by decide +kernel
theorem dX6_check_29 : decode cX6_check 29 = .ok (.aload_n 0, 1) := by decide +kernel
theorem dX6_check_30 : decode cX6_check 30 = .ok (.iload_n 1, 1) := by decide +kernel
theorem dX6_check_31 : decode cX6_check 31 = .ok (.iload_n 2, 1) := by decide +kernel
theorem dX6_check_32 : decode cX6_check 32 = .ok (.invokevirtual 135, 3) := by decide +kernel
theorem dX6_check_35 : decode cX6_check 35 = .ok (.iconst 0, 1) := by decide +kernel
theorem dX6_check_36 : decode cX6_check 36 = .ok (.istore_n 3, 1) := by decide +kernel
theorem dX6_check_37 : decode cX6_check 37 = .ok (.aload_n 0, 1) := by decide +kernel
theorem dX6_check_38 : decode cX6_check 38 = .ok (.iconst 0, 1) := by decide +kernel
theorem dX6_check_39 : decode cX6_check 39 = .ok (.putfield 139, 3) := by decide +kernel
theorem dX6_check_42 : decode cX6_check 42 = .ok (.iconst 0, 1) := by decide +kernel
theorem dX6_check_43 : decode cX6_check 43 = .ok (.istore 4, 2) := by decide +kernel
theorem dX6_check_45 : decode cX6_check 45 = .ok (.iload 4, 2) := by decide +kernel
theorem dX6_check_47 : decode cX6_check 47 = .ok (.bipush 31, 2) := by decide +kernel
theorem dX6_check_49 : decode cX6_check 49 = .ok (.if_icmp .ge 137, 3) := by decide +kernel
theorem dX6_check_52 : decode cX6_check 52 = .ok (.iload 4, 2) := by decide +kernel
theorem dX6_check_54 : decode cX6_check 54 = .ok (.iconst 1, 1) := by decide +kernel
theorem dX6_check_55 : decode cX6_check 55 = .ok (.isub, 1) := by decide +kernel
theorem dX6_check_56 : decode cX6_check 56 = .ok (.iconst 2, 1) := by decide +kernel
theorem dX6_check_57 : decode cX6_check 57 = .ok (.idiv, 1) := by decide +kernel
theorem dX6_check_58 : decode cX6_check 58 = .ok (.istore 5, 2) := by decide +kernel
theorem dX6_check_60 : decode cX6_check 60 = .ok (.aload_n 0, 1) := by decide +kernel
theorem dX6_check_61 : decode cX6_check 61 = .ok (.getfield 69, 3) := by decide +kernel
theorem dX6_check_64 : decode cX6_check 64 = .ok (.iload 4, 2) := by decide +kernel
theorem dX6_check_66 : decode cX6_check 66 = .ok (.iload 4, 2) := by decide +kernel
theorem dX6_check_68 : decode cX6_check 68 = .ok (.ifCond .eq 31, 3) := by decide +kernel
theorem dX6_check_71 : decode cX6_check 71 = .ok (.aload_n 0, 1) := by decide +kernel
theorem dX6_check_72 : decode cX6_check 72 = .ok (.getfield 69, 3) := by decide +kernel
theorem dX6_check_75 : decode cX6_check 75 = .ok (.iload 5, 2) := by decide +kernel
theorem dX6_check_77 : decode cX6_check 77 = .ok (.baload, 1) := by decide +kernel
theorem dX6_check_78 : decode cX6_check 78 = .ok (.ifCond .eq 25, 3) := by decide +kernel
theorem dX6_check_81 : decode cX6_check 81 = .ok (.aload_n 0, 1) := by decide +kernel
theorem dX6_check_82 : decode cX6_check 82 = .ok (.getfield 63, 3) := by decide +kernel
theorem dX6_check_85 : decode cX6_check 85 = .ok (.iload 5, 2) := by decide +kernel
theorem dX6_check_87 : decode cX6_check 87 = .ok (.laload, 1) := by decide +kernel
theorem dX6_check_88 : decode cX6_check 88 = .ok (.aload_n 0, 1) := by decide +kernel
theorem dX6_check_89 : decode cX6_check 89 = .ok (.getfield 66, 3) := by decide +kernel
theorem dX6_check_92 : decode cX6_check 92 = .ok (.iload 5, 2) := by decide +kernel
theorem dX6_check_94 : decode cX6_check 94 = .ok (.laload, 1) := by decide +kernel
theorem dX6_check_95 : decode cX6_check 95 = .ok (.lcmp, 1) := by decide +kernel
theorem dX6_check_96 : decode cX6_check 96 = .ok (.ifCond .eq 7, 3) := by decide +kernel
theorem dX6_check_99 : decode cX6_check 99 = .ok (.iconst 1, 1) := by decide +kernel
theorem dX6_check_100 : decode cX6_check 100 = .ok (.goto 4, 3) := by decide +kernel
theorem dX6_check_103 : decode cX6_check 103 = .ok (.iconst 0, 1) := by decide +kernel
theorem dX6_check_104 : decode cX6_check 104 = .ok (.bastore, 1) := by decide +kernel
theorem dX6_check_105 : decode cX6_check 105 = .ok (.aload_n 0, 1) := by decide +kernel
theorem dX6_check_106 : decode cX6_check 106 = .ok (.dup, 1) := by decide +kernel
theorem dX6_check_107 : decode cX6_check 107 = .ok (.getfield 139, 3) := by decide +kernel
theorem dX6_check_110 : decode cX6_check 110 = .ok (.aload_n 0, 1) := by decide +kernel
theorem dX6_check_111 : decode cX6_check 111 = .ok (.getfield 69, 3) := by decide +kernel
theorem dX6_check_114 : decode cX6_check 114 = .ok (.iload 4, 2) := by decide +kernel
theorem dX6_check_116 : decode cX6_check 116 = .ok (.baload, 1) := by decide +kernel
theorem dX6_check_117 : decode cX6_check 117 = .ok (.ifCond .eq 7, 3) := by decide +kernel
theorem dX6_check_120 : decode cX6_check 120 = .ok (.iconst 1, 1) := by decide +kernel
theorem dX6_check_121 : decode cX6_check 121 = .ok (.goto 4, 3) := by decide +kernel
theorem dX6_check_124 : decode cX6_check 124 = .ok (.iconst 0, 1) := by decide +kernel
theorem dX6_check_125 : decode cX6_check 125 = .ok (.iadd, 1) := by decide +kernel
theorem dX6_check_126 : decode cX6_check 126 = .ok (.putfield 139, 3) := by decide +kernel
theorem dX6_check_129 : decode cX6_check 129 = .ok (.iload_n 3, 1) := by decide +kernel
theorem dX6_check_130 : decode cX6_check 130 = .ok (.aload_n 0, 1) := by decide +kernel
theorem dX6_check_131 : decode cX6_check 131 = .ok (.getfield 69, 3) := by decide +kernel
theorem dX6_check_134 : decode cX6_check 134 = .ok (.iload 4, 2) := by decide +kernel
theorem dX6_check_136 : decode cX6_check 136 = .ok (.baload, 1) := by decide +kernel
theorem dX6_check_137 : decode cX6_check 137 = .ok (.ifCond .eq 40, 3) := by decide +kernel
theorem dX6_check_140 : decode cX6_check 140 = .ok (.iload 4, 2) := by decide +kernel
theorem dX6_check_142 : decode cX6_check 142 = .ok (.bipush 15, 2) := by decide +kernel
theorem dX6_check_144 : decode cX6_check 144 = .ok (.if_icmp .lt 33, 3) := by decide +kernel
theorem dX6_check_147 : decode cX6_check 147 = .ok (.aload_n 0, 1) := by decide +kernel
theorem dX6_check_148 : decode cX6_check 148 = .ok (.getfield 63, 3) := by decide +kernel
theorem dX6_check_151 : decode cX6_check 151 = .ok (.iload 4, 2) := by decide +kernel
theorem dX6_check_153 : decode cX6_check 153 = .ok (.laload, 1) := by decide +kernel
theorem dX6_check_154 : decode cX6_check 154 = .ok (.aload_n 0, 1) := by decide +kernel
theorem dX6_check_155 : decode cX6_check 155 = .ok (.getfield 66, 3) := by decide +kernel
theorem dX6_check_158 : decode cX6_check 158 = .ok (.iload 4, 2) := by decide +kernel
theorem dX6_check_160 : decode cX6_check 160 = .ok (.laload, 1) := by decide +kernel
theorem dX6_check_161 : decode cX6_check 161 = .ok (.lcmp, 1) := by decide +kernel
theorem dX6_check_162 : decode cX6_check 162 = .ok (.ifCond .eq 15, 3) := by decide +kernel
theorem dX6_check_165 : decode cX6_check 165 = .ok (.iconst 1, 1) := by decide +kernel
theorem dX6_check_166 : decode cX6_check 166 = .ok (.iload 4, 2) := by decide +kernel
theorem dX6_check_168 : decode cX6_check 168 = .ok (.bipush 16, 2) := by decide +kernel
theorem dX6_check_170 : decode cX6_check 170 = .ok (.isub, 1) := by decide +kernel
theorem dX6_check_171 : decode cX6_check 171 = .ok (.iconst 1, 1) := by decide +kernel
theorem dX6_check_172 : decode cX6_check 172 = .ok (.iadd, 1) := by decide +kernel
theorem dX6_check_173 : decode cX6_check 173 = .ok (.ishl, 1) := by decide +kernel
theorem dX6_check_174 : decode cX6_check 174 = .ok (.goto 4, 3) := by decide +kernel
theorem dX6_check_177 : decode cX6_check 177 = .ok (.iconst 0, 1) := by decide +kernel
theorem dX6_check_178 : decode cX6_check 178 = .ok (.ior, 1) := by decide +kernel
theorem dX6_check_179 : decode cX6_check 179 = .ok (.istore_n 3, 1) := by decide +kernel
theorem dX6_check_180 : decode cX6_check 180 = .ok (.iinc 4 1, 3) := by decide +kernel
theorem dX6_check_183 : decode cX6_check 183 = .ok (.goto (-138), 3) := by decide +kernel
theorem dX6_check_186 : decode cX6_check 186 = .ok (.iload_n 3, 1) := by decide +kernel
theorem dX6_check_187 : decode cX6_check 187 = .ok (.ireturn, 1) := by decide +kernel
theorem dX6_looked_0 : decode cX6_looked 0 = .ok (.aload_n 0, 1) := by decide +kernel
theorem dX6_looked_1 : decode cX6_looked 1 = .ok (.iconst 0, 1) := by decide +kernel
theorem dX6_looked_2 : decode cX6_looked 2 = .ok (.putfield 91, 3) := by decide +kernel
theorem dX6_looked_5 : decode cX6_looked 5 = .ok (.aload_n 0, 1) := by decide +kernel
theorem dX6_looked_6 : decode cX6_looked 6 = .ok (.getfield 139, 3) := by decide +kernel
theorem dX6_looked_9 : decode cX6_looked 9 = .ok (.ireturn, 1) := by decide +kernel
theorem dX6_mend_0 : decode cX6_mend 0 = .ok (.iload_n 1, 1) := by decide +kernel
theorem dX6_mend_1 : decode cX6_mend 1 = .ok (.invokestatic 130, 3) := by decide +kernel
theorem dX6_mend_4 : decode cX6_mend 4 = .ok (.ifCond .eq 15, 3) := by decide +kernel
theorem dX6_mend_7 : decode cX6_mend 7 = .ok (.aload_n 0, 1) := by decide +kernel
theorem dX6_mend_8 : decode cX6_mend 8 = .ok (.iload_n 2, 1) := by decide +kernel
theorem dX6_mend_9 : decode cX6_mend 9 = .ok (.invokevirtual 101, 3) := by decide +kernel
theorem dX6_mend_12 : decode cX6_mend 12 = .ok (.ifCond .eq 7, 3) := by decide +kernel
theorem dX6_mend_15 : decode cX6_mend 15 = .ok (.iconst 1, 1) := by decide +kernel
theorem dX6_mend_16 : decode cX6_mend 16 = .ok (.goto 4, 3) := by decide +kernel
theorem dX6_mend_19 : decode cX6_mend 19 = .ok (.iconst 0, 1) := by decide +kernel
theorem dX6_mend_20 : decode cX6_mend 20 = .ok (.istore_n 3, 1) := by decide +kernel
theorem dX6_mend_21 : decode cX6_mend 21 = .ok (.aload_n 0, 1) := by decide +kernel
theorem dX6_mend_22 : decode cX6_mend 22 = .ok (.iload_n 3, 1) := by decide +kernel
theorem dX6_mend_23 : decode cX6_mend 23 = .ok (.ifCond .ne 7, 3) := by decide +kernel
theorem dX6_mend_26 : decode cX6_mend 26 = .ok (.iconst 1, 1) := by decide +kernel
theorem dX6_mend_27 : decode cX6_mend 27 = .ok (.goto 17, 3) := by decide +kernel
theorem dX6_mend_30 : decode cX6_mend 30 = .ok (.aload_n 0, 1) := by decide +kernel
theorem dX6_mend_31 : decode cX6_mend 31 = .ok (.getfield 60, 3) := by decide +kernel
theorem dX6_mend_34 : decode cX6_mend 34 = .ok (.iload_n 1, 1) := by decide +kernel
theorem dX6_mend_35 : decode cX6_mend 35 = .ok (.baload, 1) := by decide +kernel
theorem dX6_mend_36 : decode cX6_mend 36 = .ok (.ifCond .eq 7, 3) := by decide +kernel
theorem dX6_mend_39 : decode cX6_mend 39 = .ok (.iconst 2, 1) := by decide +kernel
theorem dX6_mend_40 : decode cX6_mend 40 = .ok (.goto 4, 3) := by decide +kernel
theorem dX6_mend_43 : decode cX6_mend 43 = .ok (.iconst 0, 1) := by decide +kernel
theorem dX6_mend_44 : decode cX6_mend 44 = .ok (.invokevirtual 109, 3) := by decide +kernel
theorem dX6_mend_47 : decode cX6_mend 47 = .ok (.ifCond .ne 5, 3) := by decide +kernel
theorem dX6_mend_50 : decode cX6_mend 50 = .ok (.iconst 0, 1) := by decide +kernel
theorem dX6_mend_51 : decode cX6_mend 51 = .ok (.ireturn, 1) := by decide +kernel
theorem dX6_mend_52 : decode cX6_mend 52 = .ok (.iconst 0, 1) := by decide +kernel
theorem dX6_mend_53 : decode cX6_mend 53 = .ok (.istore 4, 2) := by decide +kernel
theorem dX6_mend_55 : decode cX6_mend 55 = .ok (.iconst 0, 1) := by decide +kernel
theorem dX6_mend_56 : decode cX6_mend 56 = .ok (.istore 5, 2) := by decide +kernel
theorem dX6_mend_58 : decode cX6_mend 58 = .ok (.iload 5, 2) := by decide +kernel
theorem dX6_mend_60 : decode cX6_mend 60 = .ok (.aload_n 0, 1) := by decide +kernel
theorem dX6_mend_61 : decode cX6_mend 61 = .ok (.getfield 7, 3) := by decide +kernel
theorem dX6_mend_64 : decode cX6_mend 64 = .ok (.iload_n 2, 1) := by decide +kernel
theorem dX6_mend_65 : decode cX6_mend 65 = .ok (.iaload, 1) := by decide +kernel
theorem dX6_mend_66 : decode cX6_mend 66 = .ok (.if_icmp .ge 83, 3) := by decide +kernel
theorem dX6_mend_69 : decode cX6_mend 69 = .ok (.bipush 12, 2) := by decide +kernel
theorem dX6_mend_71 : decode cX6_mend 71 = .ok (.iload_n 2, 1) := by decide +kernel
theorem dX6_mend_72 : decode cX6_mend 72 = .ok (.imul, 1) := by decide +kernel
theorem dX6_mend_73 : decode cX6_mend 73 = .ok (.iload 5, 2) := by decide +kernel
theorem dX6_mend_75 : decode cX6_mend 75 = .ok (.iadd, 1) := by decide +kernel
theorem dX6_mend_76 : decode cX6_mend 76 = .ok (.istore 6, 2) := by decide +kernel
theorem dX6_mend_78 : decode cX6_mend 78 = .ok (.aload_n 0, 1) := by decide +kernel
theorem dX6_mend_79 : decode cX6_mend 79 = .ok (.iload 6, 2) := by decide +kernel
theorem dX6_mend_81 : decode cX6_mend 81 = .ok (.invokevirtual 142, 3) := by decide +kernel
theorem dX6_mend_84 : decode cX6_mend 84 = .ok (.istore 7, 2) := by decide +kernel
theorem dX6_mend_86 : decode cX6_mend 86 = .ok (.iload 7, 2) := by decide +kernel
theorem dX6_mend_88 : decode cX6_mend 88 = .ok (.iconst (-1), 1) := by decide +kernel
theorem dX6_mend_89 : decode cX6_mend 89 = .ok (.if_icmp .eq 54, 3) := by decide +kernel
theorem dX6_mend_92 : decode cX6_mend 92 = .ok (.aload_n 0, 1) := by decide +kernel
theorem dX6_mend_93 : decode cX6_mend 93 = .ok (.iload_n 1, 1) := by decide +kernel
theorem dX6_mend_94 : decode cX6_mend 94 = .ok (.iload 6, 2) := by decide +kernel
theorem dX6_mend_96 : decode cX6_mend 96 = .ok (.invokevirtual 127, 3) := by decide +kernel
theorem dX6_mend_99 : decode cX6_mend 99 = .ok (.ifCond .ne 44, 3) := by decide +kernel
theorem dX6_mend_102 : decode cX6_mend 102 = .ok (.aload_n 0, 1) := by decide +kernel
theorem dX6_mend_103 : decode cX6_mend 103 = .ok (.getfield 54, 3) := by decide +kernel
theorem dX6_mend_106 : decode cX6_mend 106 = .ok (.bipush 72, 2) := by decide +kernel
theorem dX6_mend_108 : decode cX6_mend 108 = .ok (.iload_n 1, 1) := by decide +kernel
theorem dX6_mend_109 : decode cX6_mend 109 = .ok (.imul, 1) := by decide +kernel
theorem dX6_mend_110 : decode cX6_mend 110 = .ok (.iload 6, 2) := by decide +kernel
theorem dX6_mend_112 : decode cX6_mend 112 = .ok (.iadd, 1) := by decide +kernel
theorem dX6_mend_113 : decode cX6_mend 113 = .ok (.iconst 1, 1) := by decide +kernel
theorem dX6_mend_114 : decode cX6_mend 114 = .ok (.bastore, 1) := by decide +kernel
theorem dX6_mend_115 : decode cX6_mend 115 = .ok (.aload_n 0, 1) := by decide +kernel
theorem dX6_mend_116 : decode cX6_mend 116 = .ok (.getfield 57, 3) := by decide +kernel
theorem dX6_mend_119 : decode cX6_mend 119 = .ok (.bipush 72, 2) := by decide +kernel
theorem dX6_mend_121 : decode cX6_mend 121 = .ok (.iload_n 1, 1) := by decide +kernel
theorem dX6_mend_122 : decode cX6_mend 122 = .ok (.imul, 1) := by decide +kernel
theorem dX6_mend_123 : decode cX6_mend 123 = .ok (.iload 6, 2) := by decide +kernel
theorem dX6_mend_125 : decode cX6_mend 125 = .ok (.iadd, 1) := by decide +kernel
theorem dX6_mend_126 : decode cX6_mend 126 = .ok (.aload_n 0, 1) := by decide +kernel
theorem dX6_mend_127 : decode cX6_mend 127 = .ok (.getfield 57, 3) := by decide +kernel
theorem dX6_mend_130 : decode cX6_mend 130 = .ok (.bipush 72, 2) := by decide +kernel
theorem dX6_mend_132 : decode cX6_mend 132 = .ok (.iload 7, 2) := by decide +kernel
theorem dX6_mend_134 : decode cX6_mend 134 = .ok (.imul, 1) := by decide +kernel
theorem dX6_mend_135 : decode cX6_mend 135 = .ok (.iload 6, 2) := by decide +kernel
theorem dX6_mend_137 : decode cX6_mend 137 = .ok (.iadd, 1) := by decide +kernel
theorem dX6_mend_138 : decode cX6_mend 138 = .ok (.laload, 1) := by decide +kernel
theorem dX6_mend_139 : decode cX6_mend 139 = .ok (.lastore, 1) := by decide +kernel
theorem dX6_mend_140 : decode cX6_mend 140 = .ok (.iinc 4 1, 3) := by decide +kernel
theorem dX6_mend_143 : decode cX6_mend 143 = .ok (.iinc 5 1, 3) := by decide +kernel
theorem dX6_mend_146 : decode cX6_mend 146 = .ok (.goto (-88), 3) := by decide +kernel
theorem dX6_mend_149 : decode cX6_mend 149 = .ok (.iload 4, 2) := by decide +kernel
theorem dX6_mend_151 : decode cX6_mend 151 = .ok (.ireturn, 1) := by decide +kernel
theorem dX6_copy_0 : decode cX6_copy 0 = .ok (.iload_n 1, 1) := by decide +kernel
theorem dX6_copy_1 : decode cX6_copy 1 = .ok (.invokestatic 130, 3) := by decide +kernel
theorem dX6_copy_4 : decode cX6_copy 4 = .ok (.ifCond .eq 16, 3) := by decide +kernel
theorem dX6_copy_7 : decode cX6_copy 7 = .ok (.aload_n 0, 1) := by decide +kernel
theorem dX6_copy_8 : decode cX6_copy 8 = .ok (.iload_n 2, 1) := by decide +kernel
theorem dX6_copy_9 : decode cX6_copy 9 = .ok (.iload_n 3, 1) := by decide +kernel
theorem dX6_copy_10 : decode cX6_copy 10 = .ok (.invokevirtual 105, 3) := by decide +kernel
theorem dX6_copy_13 : decode cX6_copy 13 = .ok (.ifCond .eq 7, 3) := by decide +kernel
theorem dX6_copy_16 : decode cX6_copy 16 = .ok (.iconst 1, 1) := by decide +kernel
theorem dX6_copy_17 : decode cX6_copy 17 = .ok (.goto 4, 3) := by decide +kernel
theorem dX6_copy_20 : decode cX6_copy 20 = .ok (.iconst 0, 1) := by decide +kernel
theorem dX6_copy_21 : decode cX6_copy 21 = .ok (.istore 4, 2) := by decide +kernel
theorem dX6_copy_23 : decode cX6_copy 23 = .ok (.bipush 72, 2) := by decide +kernel
theorem dX6_copy_25 : decode cX6_copy 25 = .ok (.iload_n 1, 1) := by decide +kernel
theorem dX6_copy_26 : decode cX6_copy 26 = .ok (.imul, 1) := by decide +kernel
theorem dX6_copy_27 : decode cX6_copy 27 = .ok (.bipush 12, 2) := by decide +kernel
theorem dX6_copy_29 : decode cX6_copy 29 = .ok (.iload_n 2, 1) := by decide +kernel
theorem dX6_copy_30 : decode cX6_copy 30 = .ok (.imul, 1) := by decide +kernel
theorem dX6_copy_31 : decode cX6_copy 31 = .ok (.iadd, 1) := by decide +kernel
theorem dX6_copy_32 : decode cX6_copy 32 = .ok (.iload_n 3, 1) := by decide +kernel
theorem dX6_copy_33 : decode cX6_copy 33 = .ok (.iadd, 1) := by decide +kernel
theorem dX6_copy_34 : decode cX6_copy 34 = .ok (.istore 5, 2) := by decide +kernel
theorem dX6_copy_36 : decode cX6_copy 36 = .ok (.aload_n 0, 1) := by decide +kernel
theorem dX6_copy_37 : decode cX6_copy 37 = .ok (.iload 4, 2) := by decide +kernel
theorem dX6_copy_39 : decode cX6_copy 39 = .ok (.ifCond .ne 7, 3) := by decide +kernel
theorem dX6_copy_42 : decode cX6_copy 42 = .ok (.iconst 1, 1) := by decide +kernel
theorem dX6_copy_43 : decode cX6_copy 43 = .ok (.goto 18, 3) := by decide +kernel
theorem dX6_copy_46 : decode cX6_copy 46 = .ok (.aload_n 0, 1) := by decide +kernel
theorem dX6_copy_47 : decode cX6_copy 47 = .ok (.getfield 54, 3) := by decide +kernel
theorem dX6_copy_50 : decode cX6_copy 50 = .ok (.iload 5, 2) := by decide +kernel
theorem dX6_copy_52 : decode cX6_copy 52 = .ok (.baload, 1) := by decide +kernel
theorem dX6_copy_53 : decode cX6_copy 53 = .ok (.ifCond .eq 7, 3) := by decide +kernel
theorem dX6_copy_56 : decode cX6_copy 56 = .ok (.iconst 0, 1) := by decide +kernel
theorem dX6_copy_57 : decode cX6_copy 57 = .ok (.goto 4, 3) := by decide +kernel
theorem dX6_copy_60 : decode cX6_copy 60 = .ok (.iconst 2, 1) := by decide +kernel
theorem dX6_copy_61 : decode cX6_copy 61 = .ok (.invokevirtual 109, 3) := by decide +kernel
theorem dX6_copy_64 : decode cX6_copy 64 = .ok (.ifCond .eq 13, 3) := by decide +kernel
theorem dX6_copy_67 : decode cX6_copy 67 = .ok (.aload_n 0, 1) := by decide +kernel
theorem dX6_copy_68 : decode cX6_copy 68 = .ok (.getfield 57, 3) := by decide +kernel
theorem dX6_copy_71 : decode cX6_copy 71 = .ok (.iload 5, 2) := by decide +kernel
theorem dX6_copy_73 : decode cX6_copy 73 = .ok (.laload, 1) := by decide +kernel
theorem dX6_copy_74 : decode cX6_copy 74 = .ok (.goto 4, 3) := by decide +kernel
theorem dX6_copy_77 : decode cX6_copy 77 = .ok (.lconst 0, 1) := by decide +kernel
theorem dX6_copy_78 : decode cX6_copy 78 = .ok (.lreturn, 1) := by decide +kernel
theorem dX6_isLostAt_0 : decode cX6_isLostAt 0 = .ok (.aload_n 0, 1) := by decide +kernel
theorem dX6_isLostAt_1 : decode cX6_isLostAt 1 = .ok (.getfield 35, 3) := by decide +kernel
theorem dX6_isLostAt_4 : decode cX6_isLostAt 4 = .ok (.iload_n 1, 1) := by decide +kernel
theorem dX6_isLostAt_5 : decode cX6_isLostAt 5 = .ok (.baload, 1) := by decide +kernel
theorem dX6_isLostAt_6 : decode cX6_isLostAt 6 = .ok (.ifCond .eq 16, 3) := by decide +kernel
theorem dX6_isLostAt_9 : decode cX6_isLostAt 9 = .ok (.aload_n 0, 1) := by decide +kernel
theorem dX6_isLostAt_10 : decode cX6_isLostAt 10 = .ok (.iload_n 1, 1) := by decide +kernel
theorem dX6_isLostAt_11 : decode cX6_isLostAt 11 = .ok (.invokevirtual 142, 3) := by decide +kernel
theorem dX6_isLostAt_14 : decode cX6_isLostAt 14 = .ok (.iconst (-1), 1) := by decide +kernel
theorem dX6_isLostAt_15 : decode cX6_isLostAt 15 = .ok (.if_icmp .ne 7, 3) := by decide +kernel
theorem dX6_isLostAt_18 : decode cX6_isLostAt 18 = .ok (.iconst 1, 1) := by decide +kernel
theorem dX6_isLostAt_19 : decode cX6_isLostAt 19 = .ok (.goto 4, 3) := by decide +kernel
theorem dX6_isLostAt_22 : decode cX6_isLostAt 22 = .ok (.iconst 0, 1) := by decide +kernel
theorem dX6_isLostAt_23 : decode cX6_isLostAt 23 = .ok (.ireturn, 1) := by decide +kernel
theorem dX6_isLost_0 : decode cX6_isLost 0 = .ok (.aload_n 0, 1) := by decide +kernel
theorem dX6_isLost_1 : decode cX6_isLost 1 = .ok (.aload_n 0, 1) := by decide +kernel
theorem dX6_isLost_2 : decode cX6_isLost 2 = .ok (.iload_n 1, 1) := by decide +kernel
theorem dX6_isLost_3 : decode cX6_isLost 3 = .ok (.iload_n 2, 1) := by decide +kernel
theorem dX6_isLost_4 : decode cX6_isLost 4 = .ok (.invokevirtual 105, 3) := by decide +kernel
theorem dX6_isLost_7 : decode cX6_isLost 7 = .ok (.ifCond .eq 7, 3) := by decide +kernel
theorem dX6_isLost_10 : decode cX6_isLost 10 = .ok (.iconst 0, 1) := by decide +kernel
theorem dX6_isLost_11 : decode cX6_isLost 11 = .ok (.goto 4, 3) := by decide +kernel
theorem dX6_isLost_14 : decode cX6_isLost 14 = .ok (.iconst 1, 1) := by decide +kernel
theorem dX6_isLost_15 : decode cX6_isLost 15 = .ok (.invokevirtual 109, 3) := by decide +kernel
theorem dX6_isLost_18 : decode cX6_isLost 18 = .ok (.ifCond .eq 20, 3) := by decide +kernel
theorem dX6_isLost_21 : decode cX6_isLost 21 = .ok (.aload_n 0, 1) := by decide +kernel
theorem dX6_isLost_22 : decode cX6_isLost 22 = .ok (.bipush 12, 2) := by decide +kernel
theorem dX6_isLost_24 : decode cX6_isLost 24 = .ok (.iload_n 1, 1) := by decide +kernel
theorem dX6_isLost_25 : decode cX6_isLost 25 = .ok (.imul, 1) := by decide +kernel
theorem dX6_isLost_26 : decode cX6_isLost 26 = .ok (.iload_n 2, 1) := by decide +kernel
theorem dX6_isLost_27 : decode cX6_isLost 27 = .ok (.iadd, 1) := by decide +kernel
theorem dX6_isLost_28 : decode cX6_isLost 28 = .ok (.invokevirtual 145, 3) := by decide +kernel
theorem dX6_isLost_31 : decode cX6_isLost 31 = .ok (.ifCond .eq 7, 3) := by decide +kernel
theorem dX6_isLost_34 : decode cX6_isLost 34 = .ok (.iconst 1, 1) := by decide +kernel
theorem dX6_isLost_35 : decode cX6_isLost 35 = .ok (.goto 4, 3) := by decide +kernel
theorem dX6_isLost_38 : decode cX6_isLost 38 = .ok (.iconst 0, 1) := by decide +kernel
theorem dX6_isLost_39 : decode cX6_isLost 39 = .ok (.ireturn, 1) := by decide +kernel
theorem dX6_words_0 : decode cX6_words 0 = .ok (.aload_n 0, 1) := by decide +kernel
theorem dX6_words_1 : decode cX6_words 1 = .ok (.iload_n 1, 1) := by decide +kernel
theorem dX6_words_2 : decode cX6_words 2 = .ok (.iload_n 2, 1) := by decide +kernel
theorem dX6_words_3 : decode cX6_words 3 = .ok (.invokevirtual 105, 3) := by decide +kernel
theorem dX6_words_6 : decode cX6_words 6 = .ok (.istore 5, 2) := by decide +kernel
theorem dX6_words_8 : decode cX6_words 8 = .ok (.aload_n 0, 1) := by decide +kernel
theorem dX6_words_9 : decode cX6_words 9 = .ok (.iload 5, 2) := by decide +kernel
theorem dX6_words_11 : decode cX6_words 11 = .ok (.ifCond .ne 7, 3) := by decide +kernel
theorem dX6_words_14 : decode cX6_words 14 = .ok (.iconst 1, 1) := by decide +kernel
theorem dX6_words_15 : decode cX6_words 15 = .ok (.goto 29, 3) := by decide +kernel
theorem dX6_words_18 : decode cX6_words 18 = .ok (.iload_n 3, 1) := by decide +kernel
theorem dX6_words_19 : decode cX6_words 19 = .ok (.iconst 0, 1) := by decide +kernel
theorem dX6_words_20 : decode cX6_words 20 = .ok (.bipush 99, 2) := by decide +kernel
theorem dX6_words_22 : decode cX6_words 22 = .ok (.invokestatic 97, 3) := by decide +kernel
theorem dX6_words_25 : decode cX6_words 25 = .ok (.ifCond .eq 18, 3) := by decide +kernel
theorem dX6_words_28 : decode cX6_words 28 = .ok (.iload 4, 2) := by decide +kernel
theorem dX6_words_30 : decode cX6_words 30 = .ok (.iconst 0, 1) := by decide +kernel
theorem dX6_words_31 : decode cX6_words 31 = .ok (.bipush 99, 2) := by decide +kernel
theorem dX6_words_33 : decode cX6_words 33 = .ok (.invokestatic 97, 3) := by decide +kernel
theorem dX6_words_36 : decode cX6_words 36 = .ok (.ifCond .eq 7, 3) := by decide +kernel
theorem dX6_words_39 : decode cX6_words 39 = .ok (.iconst 0, 1) := by decide +kernel
theorem dX6_words_40 : decode cX6_words 40 = .ok (.goto 4, 3) := by decide +kernel
theorem dX6_words_43 : decode cX6_words 43 = .ok (.iconst 2, 1) := by decide +kernel
theorem dX6_words_44 : decode cX6_words 44 = .ok (.invokevirtual 109, 3) := by decide +kernel
theorem dX6_words_47 : decode cX6_words 47 = .ok (.ifCond .eq 28, 3) := by decide +kernel
theorem dX6_words_50 : decode cX6_words 50 = .ok (.aload_n 0, 1) := by decide +kernel
theorem dX6_words_51 : decode cX6_words 51 = .ok (.getfield 48, 3) := by decide +kernel
theorem dX6_words_54 : decode cX6_words 54 = .ok (.bipush 12, 2) := by decide +kernel
theorem dX6_words_56 : decode cX6_words 56 = .ok (.iload_n 1, 1) := by decide +kernel
theorem dX6_words_57 : decode cX6_words 57 = .ok (.imul, 1) := by decide +kernel
theorem dX6_words_58 : decode cX6_words 58 = .ok (.iload_n 2, 1) := by decide +kernel
theorem dX6_words_59 : decode cX6_words 59 = .ok (.iadd, 1) := by decide +kernel
theorem dX6_words_60 : decode cX6_words 60 = .ok (.iload_n 3, 1) := by decide +kernel
theorem dX6_words_61 : decode cX6_words 61 = .ok (.iastore, 1) := by decide +kernel
theorem dX6_words_62 : decode cX6_words 62 = .ok (.aload_n 0, 1) := by decide +kernel
theorem dX6_words_63 : decode cX6_words 63 = .ok (.getfield 51, 3) := by decide +kernel
theorem dX6_words_66 : decode cX6_words 66 = .ok (.bipush 12, 2) := by decide +kernel
theorem dX6_words_68 : decode cX6_words 68 = .ok (.iload_n 1, 1) := by decide +kernel
theorem dX6_words_69 : decode cX6_words 69 = .ok (.imul, 1) := by decide +kernel
theorem dX6_words_70 : decode cX6_words 70 = .ok (.iload_n 2, 1) := by decide +kernel
theorem dX6_words_71 : decode cX6_words 71 = .ok (.iadd, 1) := by decide +kernel
theorem dX6_words_72 : decode cX6_words 72 = .ok (.iload 4, 2) := by decide +kernel
theorem dX6_words_74 : decode cX6_words 74 = .ok (.iastore, 1) := by decide +kernel
theorem dX6_words_75 : decode cX6_words 75 = .ok (.return_, 1) := by decide +kernel
theorem dX6_fits_0 : decode cX6_fits 0 = .ok (.iload_n 2, 1) := by decide +kernel
theorem dX6_fits_1 : decode cX6_fits 1 = .ok (.ifCond .eq 40, 3) := by decide +kernel
theorem dX6_fits_4 : decode cX6_fits 4 = .ok (.aload_n 0, 1) := by decide +kernel
theorem dX6_fits_5 : decode cX6_fits 5 = .ok (.getfield 51, 3) := by decide +kernel
theorem dX6_fits_8 : decode cX6_fits 8 = .ok (.bipush 12, 2) := by decide +kernel
theorem dX6_fits_10 : decode cX6_fits 10 = .ok (.iload_n 1, 1) := by decide +kernel
theorem dX6_fits_11 : decode cX6_fits 11 = .ok (.imul, 1) := by decide +kernel
theorem dX6_fits_12 : decode cX6_fits 12 = .ok (.aload_n 0, 1) := by decide +kernel
theorem dX6_fits_13 : decode cX6_fits 13 = .ok (.getfield 88, 3) := by decide +kernel
theorem dX6_fits_16 : decode cX6_fits 16 = .ok (.iload_n 2, 1) := by decide +kernel
theorem dX6_fits_17 : decode cX6_fits 17 = .ok (.iconst 1, 1) := by decide +kernel
theorem dX6_fits_18 : decode cX6_fits 18 = .ok (.isub, 1) := by decide +kernel
theorem dX6_fits_19 : decode cX6_fits 19 = .ok (.iaload, 1) := by decide +kernel
theorem dX6_fits_20 : decode cX6_fits 20 = .ok (.iadd, 1) := by decide +kernel
theorem dX6_fits_21 : decode cX6_fits 21 = .ok (.iaload, 1) := by decide +kernel
theorem dX6_fits_22 : decode cX6_fits 22 = .ok (.aload_n 0, 1) := by decide +kernel
theorem dX6_fits_23 : decode cX6_fits 23 = .ok (.getfield 48, 3) := by decide +kernel
theorem dX6_fits_26 : decode cX6_fits 26 = .ok (.bipush 12, 2) := by decide +kernel
theorem dX6_fits_28 : decode cX6_fits 28 = .ok (.iload_n 1, 1) := by decide +kernel
theorem dX6_fits_29 : decode cX6_fits 29 = .ok (.imul, 1) := by decide +kernel
theorem dX6_fits_30 : decode cX6_fits 30 = .ok (.aload_n 0, 1) := by decide +kernel
theorem dX6_fits_31 : decode cX6_fits 31 = .ok (.getfield 88, 3) := by decide +kernel
theorem dX6_fits_34 : decode cX6_fits 34 = .ok (.iload_n 2, 1) := by decide +kernel
theorem dX6_fits_35 : decode cX6_fits 35 = .ok (.iaload, 1) := by decide +kernel
theorem dX6_fits_36 : decode cX6_fits 36 = .ok (.iadd, 1) := by decide +kernel
theorem dX6_fits_37 : decode cX6_fits 37 = .ok (.iaload, 1) := by decide +kernel
theorem dX6_fits_38 : decode cX6_fits 38 = .ok (.if_icmp .ne 7, 3) := by decide +kernel
theorem dX6_fits_41 : decode cX6_fits 41 = .ok (.iconst 1, 1) := by decide +kernel
theorem dX6_fits_42 : decode cX6_fits 42 = .ok (.goto 4, 3) := by decide +kernel
theorem dX6_fits_45 : decode cX6_fits 45 = .ok (.iconst 0, 1) := by decide +kernel
theorem dX6_fits_46 : decode cX6_fits 46 = .ok (.istore_n 3, 1) := by decide +kernel
theorem dX6_fits_47 : decode cX6_fits 47 = .ok (.iconst 0, 1) := by decide +kernel
theorem dX6_fits_48 : decode cX6_fits 48 = .ok (.istore 4, 2) := by decide +kernel
theorem dX6_fits_50 : decode cX6_fits 50 = .ok (.iload 4, 2) := by decide +kernel
theorem dX6_fits_52 : decode cX6_fits 52 = .ok (.iload_n 2, 1) := by decide +kernel
theorem dX6_fits_53 : decode cX6_fits 53 = .ok (.if_icmp .ge 35, 3) := by decide +kernel
theorem dX6_fits_56 : decode cX6_fits 56 = .ok (.iload_n 3, 1) := by decide +kernel
theorem dX6_fits_57 : decode cX6_fits 57 = .ok (.ifCond .eq 23, 3) := by decide +kernel
theorem dX6_fits_60 : decode cX6_fits 60 = .ok (.aload_n 0, 1) := by decide +kernel
theorem dX6_fits_61 : decode cX6_fits 61 = .ok (.getfield 88, 3) := by decide +kernel
theorem dX6_fits_64 : decode cX6_fits 64 = .ok (.iload 4, 2) := by decide +kernel
theorem dX6_fits_66 : decode cX6_fits 66 = .ok (.iaload, 1) := by decide +kernel
theorem dX6_fits_67 : decode cX6_fits 67 = .ok (.aload_n 0, 1) := by decide +kernel
theorem dX6_fits_68 : decode cX6_fits 68 = .ok (.getfield 88, 3) := by decide +kernel
theorem dX6_fits_71 : decode cX6_fits 71 = .ok (.iload_n 2, 1) := by decide +kernel
theorem dX6_fits_72 : decode cX6_fits 72 = .ok (.iaload, 1) := by decide +kernel
theorem dX6_fits_73 : decode cX6_fits 73 = .ok (.if_icmp .eq 7, 3) := by decide +kernel
theorem dX6_fits_76 : decode cX6_fits 76 = .ok (.iconst 1, 1) := by decide +kernel
theorem dX6_fits_77 : decode cX6_fits 77 = .ok (.goto 4, 3) := by decide +kernel
theorem dX6_fits_80 : decode cX6_fits 80 = .ok (.iconst 0, 1) := by decide +kernel
theorem dX6_fits_81 : decode cX6_fits 81 = .ok (.istore_n 3, 1) := by decide +kernel
theorem dX6_fits_82 : decode cX6_fits 82 = .ok (.iinc 4 1, 3) := by decide +kernel
theorem dX6_fits_85 : decode cX6_fits 85 = .ok (.goto (-35), 3) := by decide +kernel
theorem dX6_fits_88 : decode cX6_fits 88 = .ok (.iload_n 3, 1) := by decide +kernel
theorem dX6_fits_89 : decode cX6_fits 89 = .ok (.ireturn, 1) := by decide +kernel
theorem dX6_layOrder_0 : decode cX6_layOrder 0 = .ok (.iconst 0, 1) := by decide +kernel
theorem dX6_layOrder_1 : decode cX6_layOrder 1 = .ok (.istore_n 2, 1) := by decide +kernel
theorem dX6_layOrder_2 : decode cX6_layOrder 2 = .ok (.aload_n 0, 1) := by decide +kernel
theorem dX6_layOrder_3 : decode cX6_layOrder 3 = .ok (.getfield 88, 3) := by decide +kernel
theorem dX6_layOrder_6 : decode cX6_layOrder 6 = .ok (.iconst 0, 1) := by decide +kernel
theorem dX6_layOrder_7 : decode cX6_layOrder 7 = .ok (.iconst (-1), 1) := by decide +kernel
theorem dX6_layOrder_8 : decode cX6_layOrder 8 = .ok (.iastore, 1) := by decide +kernel
theorem dX6_layOrder_9 : decode cX6_layOrder 9 = .ok (.iload_n 2, 1) := by decide +kernel
theorem dX6_layOrder_10 : decode cX6_layOrder 10 = .ok (.ifCond .lt 66, 3) := by decide +kernel
theorem dX6_layOrder_13 : decode cX6_layOrder 13 = .ok (.iload_n 2, 1) := by decide +kernel
theorem dX6_layOrder_14 : decode cX6_layOrder 14 = .ok (.aload_n 0, 1) := by decide +kernel
theorem dX6_layOrder_15 : decode cX6_layOrder 15 = .ok (.getfield 7, 3) := by decide +kernel
theorem dX6_layOrder_18 : decode cX6_layOrder 18 = .ok (.iload_n 1, 1) := by decide +kernel
theorem dX6_layOrder_19 : decode cX6_layOrder 19 = .ok (.iaload, 1) := by decide +kernel
theorem dX6_layOrder_20 : decode cX6_layOrder 20 = .ok (.if_icmp .ge 56, 3) := by decide +kernel
theorem dX6_layOrder_23 : decode cX6_layOrder 23 = .ok (.aload_n 0, 1) := by decide +kernel
theorem dX6_layOrder_24 : decode cX6_layOrder 24 = .ok (.getfield 88, 3) := by decide +kernel
theorem dX6_layOrder_27 : decode cX6_layOrder 27 = .ok (.iload_n 2, 1) := by decide +kernel
theorem dX6_layOrder_28 : decode cX6_layOrder 28 = .ok (.dup2, 1) := by decide +kernel
theorem dX6_layOrder_29 : decode cX6_layOrder 29 = .ok (.iaload, 1) := by decide +kernel
theorem dX6_layOrder_30 : decode cX6_layOrder 30 = .ok (.iconst 1, 1) := by decide +kernel
theorem dX6_layOrder_31 : decode cX6_layOrder 31 = .ok (.iadd, 1) := by decide +kernel
theorem dX6_layOrder_32 : decode cX6_layOrder 32 = .ok (.iastore, 1) := by decide +kernel
theorem dX6_layOrder_33 : decode cX6_layOrder 33 = .ok (.aload_n 0, 1) := by decide +kernel
theorem dX6_layOrder_34 : decode cX6_layOrder 34 = .ok (.getfield 88, 3) := by decide +kernel
theorem dX6_layOrder_37 : decode cX6_layOrder 37 = .ok (.iload_n 2, 1) := by decide +kernel
theorem dX6_layOrder_38 : decode cX6_layOrder 38 = .ok (.iaload, 1) := by decide +kernel
theorem dX6_layOrder_39 : decode cX6_layOrder 39 = .ok (.aload_n 0, 1) := by decide +kernel
theorem dX6_layOrder_40 : decode cX6_layOrder 40 = .ok (.getfield 7, 3) := by decide +kernel
theorem dX6_layOrder_43 : decode cX6_layOrder 43 = .ok (.iload_n 1, 1) := by decide +kernel
theorem dX6_layOrder_44 : decode cX6_layOrder 44 = .ok (.iaload, 1) := by decide +kernel
theorem dX6_layOrder_45 : decode cX6_layOrder 45 = .ok (.if_icmp .ne 9, 3) := by decide +kernel
theorem dX6_layOrder_48 : decode cX6_layOrder 48 = .ok (.iinc 2 (-1), 3) := by decide +kernel
theorem dX6_layOrder_51 : decode cX6_layOrder 51 = .ok (.goto (-42), 3) := by decide +kernel
theorem dX6_layOrder_54 : decode cX6_layOrder 54 = .ok (.aload_n 0, 1) := by decide +kernel
theorem dX6_layOrder_55 : decode cX6_layOrder 55 = .ok (.iload_n 1, 1) := by decide +kernel
theorem dX6_layOrder_56 : decode cX6_layOrder 56 = .ok (.iload_n 2, 1) := by decide +kernel
theorem dX6_layOrder_57 : decode cX6_layOrder 57 = .ok (.invokevirtual 148, 3) := by decide +kernel
theorem dX6_layOrder_60 : decode cX6_layOrder 60 = .ok (.ifCond .eq (-51), 3) := by decide +kernel
theorem dX6_layOrder_63 : decode cX6_layOrder 63 = .ok (.iinc 2 1, 3) := by decide +kernel
theorem dX6_layOrder_66 : decode cX6_layOrder 66 = .ok (.aload_n 0, 1) := by decide +kernel
theorem dX6_layOrder_67 : decode cX6_layOrder 67 = .ok (.getfield 88, 3) := by decide +kernel
theorem dX6_layOrder_70 : decode cX6_layOrder 70 = .ok (.iload_n 2, 1) := by decide +kernel
theorem dX6_layOrder_71 : decode cX6_layOrder 71 = .ok (.iconst (-1), 1) := by decide +kernel
theorem dX6_layOrder_72 : decode cX6_layOrder 72 = .ok (.iastore, 1) := by decide +kernel
theorem dX6_layOrder_73 : decode cX6_layOrder 73 = .ok (.goto (-64), 3) := by decide +kernel
theorem dX6_layOrder_76 : decode cX6_layOrder 76 = .ok (.iload_n 2, 1) := by decide +kernel
theorem dX6_layOrder_77 : decode cX6_layOrder 77 = .ok (.ifCond .lt 7, 3) := by decide +kernel
theorem dX6_layOrder_80 : decode cX6_layOrder 80 = .ok (.iconst 1, 1) := by decide +kernel
theorem dX6_layOrder_81 : decode cX6_layOrder 81 = .ok (.goto 4, 3) := by decide +kernel
theorem dX6_layOrder_84 : decode cX6_layOrder 84 = .ok (.iconst 0, 1) := by decide +kernel
theorem dX6_layOrder_85 : decode cX6_layOrder 85 = .ok (.ireturn, 1) := by decide +kernel
theorem dX6_orderOf_0 : decode cX6_orderOf 0 = .ok (.aload_n 0, 1) := by decide +kernel
theorem dX6_orderOf_1 : decode cX6_orderOf 1 = .ok (.iload_n 1, 1) := by decide +kernel
theorem dX6_orderOf_2 : decode cX6_orderOf 2 = .ok (.invokevirtual 101, 3) := by decide +kernel
theorem dX6_orderOf_5 : decode cX6_orderOf 5 = .ok (.ifCond .eq 23, 3) := by decide +kernel
theorem dX6_orderOf_8 : decode cX6_orderOf 8 = .ok (.iload_n 2, 1) := by decide +kernel
theorem dX6_orderOf_9 : decode cX6_orderOf 9 = .ok (.iconst 0, 1) := by decide +kernel
theorem dX6_orderOf_10 : decode cX6_orderOf 10 = .ok (.aload_n 0, 1) := by decide +kernel
theorem dX6_orderOf_11 : decode cX6_orderOf 11 = .ok (.getfield 7, 3) := by decide +kernel
theorem dX6_orderOf_14 : decode cX6_orderOf 14 = .ok (.iload_n 1, 1) := by decide +kernel
theorem dX6_orderOf_15 : decode cX6_orderOf 15 = .ok (.iaload, 1) := by decide +kernel
theorem dX6_orderOf_16 : decode cX6_orderOf 16 = .ok (.iconst 1, 1) := by decide +kernel
theorem dX6_orderOf_17 : decode cX6_orderOf 17 = .ok (.isub, 1) := by decide +kernel
theorem dX6_orderOf_18 : decode cX6_orderOf 18 = .ok (.invokestatic 97, 3) := by decide +kernel
theorem dX6_orderOf_21 : decode cX6_orderOf 21 = .ok (.ifCond .eq 7, 3) := by decide +kernel
theorem dX6_orderOf_24 : decode cX6_orderOf 24 = .ok (.iconst 1, 1) := by decide +kernel
theorem dX6_orderOf_25 : decode cX6_orderOf 25 = .ok (.goto 4, 3) := by decide +kernel
theorem dX6_orderOf_28 : decode cX6_orderOf 28 = .ok (.iconst 0, 1) := by decide +kernel
theorem dX6_orderOf_29 : decode cX6_orderOf 29 = .ok (.istore_n 3, 1) := by decide +kernel
theorem dX6_orderOf_30 : decode cX6_orderOf 30 = .ok (.aload_n 0, 1) := by decide +kernel
theorem dX6_orderOf_31 : decode cX6_orderOf 31 = .ok (.iload_n 3, 1) := by decide +kernel
theorem dX6_orderOf_32 : decode cX6_orderOf 32 = .ok (.ifCond .ne 7, 3) := by decide +kernel
theorem dX6_orderOf_35 : decode cX6_orderOf 35 = .ok (.iconst 1, 1) := by decide +kernel
theorem dX6_orderOf_36 : decode cX6_orderOf 36 = .ok (.goto 19, 3) := by decide +kernel
theorem dX6_orderOf_39 : decode cX6_orderOf 39 = .ok (.aload_n 0, 1) := by decide +kernel
theorem dX6_orderOf_40 : decode cX6_orderOf 40 = .ok (.getfield 7, 3) := by decide +kernel
theorem dX6_orderOf_43 : decode cX6_orderOf 43 = .ok (.iload_n 1, 1) := by decide +kernel
theorem dX6_orderOf_44 : decode cX6_orderOf 44 = .ok (.iaload, 1) := by decide +kernel
theorem dX6_orderOf_45 : decode cX6_orderOf 45 = .ok (.bipush 7, 2) := by decide +kernel
theorem dX6_orderOf_47 : decode cX6_orderOf 47 = .ok (.if_icmp .le 7, 3) := by decide +kernel
theorem dX6_orderOf_50 : decode cX6_orderOf 50 = .ok (.iconst 2, 1) := by decide +kernel
theorem dX6_orderOf_51 : decode cX6_orderOf 51 = .ok (.goto 4, 3) := by decide +kernel
theorem dX6_orderOf_54 : decode cX6_orderOf 54 = .ok (.iconst 0, 1) := by decide +kernel
theorem dX6_orderOf_55 : decode cX6_orderOf 55 = .ok (.invokevirtual 109, 3) := by decide +kernel
theorem dX6_orderOf_58 : decode cX6_orderOf 58 = .ok (.ifCond .ne 5, 3) := by decide +kernel
theorem dX6_orderOf_61 : decode cX6_orderOf 61 = .ok (.iconst 0, 1) := by decide +kernel
theorem dX6_orderOf_62 : decode cX6_orderOf 62 = .ok (.ireturn, 1) := by decide +kernel
theorem dX6_orderOf_63 : decode cX6_orderOf 63 = .ok (.aload_n 0, 1) := by decide +kernel
theorem dX6_orderOf_64 : decode cX6_orderOf 64 = .ok (.iload_n 1, 1) := by decide +kernel
theorem dX6_orderOf_65 : decode cX6_orderOf 65 = .ok (.invokevirtual 151, 3) := by decide +kernel
theorem dX6_orderOf_68 : decode cX6_orderOf 68 = .ok (.ifCond .eq 12, 3) := by decide +kernel
theorem dX6_orderOf_71 : decode cX6_orderOf 71 = .ok (.aload_n 0, 1) := by decide +kernel
theorem dX6_orderOf_72 : decode cX6_orderOf 72 = .ok (.getfield 88, 3) := by decide +kernel
theorem dX6_orderOf_75 : decode cX6_orderOf 75 = .ok (.iload_n 2, 1) := by decide +kernel
theorem dX6_orderOf_76 : decode cX6_orderOf 76 = .ok (.iaload, 1) := by decide +kernel
theorem dX6_orderOf_77 : decode cX6_orderOf 77 = .ok (.goto 4, 3) := by decide +kernel
theorem dX6_orderOf_80 : decode cX6_orderOf 80 = .ok (.iconst (-1), 1) := by decide +kernel
theorem dX6_orderOf_81 : decode cX6_orderOf 81 = .ok (.ireturn, 1) := by decide +kernel
theorem dX6_order_0 : decode cX6_order 0 = .ok (.aload_n 0, 1) := by decide +kernel
theorem dX6_order_1 : decode cX6_order 1 = .ok (.iload_n 1, 1) := by decide +kernel
theorem dX6_order_2 : decode cX6_order 2 = .ok (.iload_n 2, 1) := by decide +kernel
theorem dX6_order_3 : decode cX6_order 3 = .ok (.invokevirtual 154, 3) := by decide +kernel
theorem dX6_order_6 : decode cX6_order 6 = .ok (.ireturn, 1) := by decide +kernel
theorem dX6_orderAnew_0 : decode cX6_orderAnew 0 = .ok (.aload_n 0, 1) := by decide +kernel
theorem dX6_orderAnew_1 : decode cX6_orderAnew 1 = .ok (.iload_n 1, 1) := by decide +kernel
theorem dX6_orderAnew_2 : decode cX6_orderAnew 2 = .ok (.iload_n 2, 1) := by decide +kernel
theorem dX6_orderAnew_3 : decode cX6_orderAnew 3 = .ok (.invokevirtual 154, 3) := by decide +kernel
theorem dX6_orderAnew_6 : decode cX6_orderAnew 6 = .ok (.ireturn, 1) := by decide +kernel
theorem dX6_spot_0 : decode cX6_spot 0 = .ok (.iconst 4, 1) := by decide +kernel
theorem dX6_spot_1 : decode cX6_spot 1 = .ok (.bipush 12, 2) := by decide +kernel
theorem dX6_spot_3 : decode cX6_spot 3 = .ok (.iload_n 0, 1) := by decide +kernel
theorem dX6_spot_4 : decode cX6_spot 4 = .ok (.imul, 1) := by decide +kernel
theorem dX6_spot_5 : decode cX6_spot 5 = .ok (.iload_n 1, 1) := by decide +kernel
theorem dX6_spot_6 : decode cX6_spot 6 = .ok (.iadd, 1) := by decide +kernel
theorem dX6_spot_7 : decode cX6_spot 7 = .ok (.imul, 1) := by decide +kernel
theorem dX6_spot_8 : decode cX6_spot 8 = .ok (.iload_n 2, 1) := by decide +kernel
theorem dX6_spot_9 : decode cX6_spot 9 = .ok (.iadd, 1) := by decide +kernel
theorem dX6_spot_10 : decode cX6_spot 10 = .ok (.ireturn, 1) := by decide +kernel
theorem dX6_gold_0 : decode cX6_gold 0 = .ok (.aload_n 0, 1) := by decide +kernel
theorem dX6_gold_1 : decode cX6_gold 1 = .ok (.iload_n 1, 1) := by decide +kernel
theorem dX6_gold_2 : decode cX6_gold 2 = .ok (.iload_n 2, 1) := by decide +kernel
theorem dX6_gold_3 : decode cX6_gold 3 = .ok (.iload_n 3, 1) := by decide +kernel
theorem dX6_gold_4 : decode cX6_gold 4 = .ok (.invokevirtual 158, 3) := by decide +kernel
theorem dX6_gold_7 : decode cX6_gold 7 = .ok (.istore 5, 2) := by decide +kernel
theorem dX6_gold_9 : decode cX6_gold 9 = .ok (.aload_n 0, 1) := by decide +kernel
theorem dX6_gold_10 : decode cX6_gold 10 = .ok (.iload 5, 2) := by decide +kernel
theorem dX6_gold_12 : decode cX6_gold 12 = .ok (.ifCond .ne 7, 3) := by decide +kernel
theorem dX6_gold_15 : decode cX6_gold 15 = .ok (.iconst 1, 1) := by decide +kernel
theorem dX6_gold_16 : decode cX6_gold 16 = .ok (.goto 19, 3) := by decide +kernel
theorem dX6_gold_19 : decode cX6_gold 19 = .ok (.iload 4, 2) := by decide +kernel
theorem dX6_gold_21 : decode cX6_gold 21 = .ok (.iconst 0, 1) := by decide +kernel
theorem dX6_gold_22 : decode cX6_gold 22 = .ok (.bipush 25, 2) := by decide +kernel
theorem dX6_gold_24 : decode cX6_gold 24 = .ok (.invokestatic 97, 3) := by decide +kernel
theorem dX6_gold_27 : decode cX6_gold 27 = .ok (.ifCond .eq 7, 3) := by decide +kernel
theorem dX6_gold_30 : decode cX6_gold 30 = .ok (.iconst 0, 1) := by decide +kernel
theorem dX6_gold_31 : decode cX6_gold 31 = .ok (.goto 4, 3) := by decide +kernel
theorem dX6_gold_34 : decode cX6_gold 34 = .ok (.iconst 2, 1) := by decide +kernel
theorem dX6_gold_35 : decode cX6_gold 35 = .ok (.invokevirtual 109, 3) := by decide +kernel
theorem dX6_gold_38 : decode cX6_gold 38 = .ok (.ifCond .ne 5, 3) := by decide +kernel
theorem dX6_gold_41 : decode cX6_gold 41 = .ok (.iconst 0, 1) := by decide +kernel
theorem dX6_gold_42 : decode cX6_gold 42 = .ok (.ireturn, 1) := by decide +kernel
theorem dX6_gold_43 : decode cX6_gold 43 = .ok (.aload_n 0, 1) := by decide +kernel
theorem dX6_gold_44 : decode cX6_gold 44 = .ok (.getfield 72, 3) := by decide +kernel
theorem dX6_gold_47 : decode cX6_gold 47 = .ok (.iload_n 1, 1) := by decide +kernel
theorem dX6_gold_48 : decode cX6_gold 48 = .ok (.iload_n 2, 1) := by decide +kernel
theorem dX6_gold_49 : decode cX6_gold 49 = .ok (.iload_n 3, 1) := by decide +kernel
theorem dX6_gold_50 : decode cX6_gold 50 = .ok (.invokestatic 161, 3) := by decide +kernel
theorem dX6_gold_53 : decode cX6_gold 53 = .ok (.iaload, 1) := by decide +kernel
theorem dX6_gold_54 : decode cX6_gold 54 = .ok (.istore 6, 2) := by decide +kernel
theorem dX6_gold_56 : decode cX6_gold 56 = .ok (.aload_n 0, 1) := by decide +kernel
theorem dX6_gold_57 : decode cX6_gold 57 = .ok (.getfield 72, 3) := by decide +kernel
theorem dX6_gold_60 : decode cX6_gold 60 = .ok (.iload_n 1, 1) := by decide +kernel
theorem dX6_gold_61 : decode cX6_gold 61 = .ok (.iload_n 2, 1) := by decide +kernel
theorem dX6_gold_62 : decode cX6_gold 62 = .ok (.iload_n 3, 1) := by decide +kernel
theorem dX6_gold_63 : decode cX6_gold 63 = .ok (.invokestatic 161, 3) := by decide +kernel
theorem dX6_gold_66 : decode cX6_gold 66 = .ok (.iload 4, 2) := by decide +kernel
theorem dX6_gold_68 : decode cX6_gold 68 = .ok (.iconst 1, 1) := by decide +kernel
theorem dX6_gold_69 : decode cX6_gold 69 = .ok (.iadd, 1) := by decide +kernel
theorem dX6_gold_70 : decode cX6_gold 70 = .ok (.iastore, 1) := by decide +kernel
theorem dX6_gold_71 : decode cX6_gold 71 = .ok (.iload 6, 2) := by decide +kernel
theorem dX6_gold_73 : decode cX6_gold 73 = .ok (.iconst 1, 1) := by decide +kernel
theorem dX6_gold_74 : decode cX6_gold 74 = .ok (.isub, 1) := by decide +kernel
theorem dX6_gold_75 : decode cX6_gold 75 = .ok (.ireturn, 1) := by decide +kernel
theorem dX6_key_0 : decode cX6_key 0 = .ok (.iload_n 1, 1) := by decide +kernel
theorem dX6_key_1 : decode cX6_key 1 = .ok (.iconst 0, 1) := by decide +kernel
theorem dX6_key_2 : decode cX6_key 2 = .ok (.iconst 4, 1) := by decide +kernel
theorem dX6_key_3 : decode cX6_key 3 = .ok (.invokestatic 97, 3) := by decide +kernel
theorem dX6_key_6 : decode cX6_key 6 = .ok (.ifCond .eq 18, 3) := by decide +kernel
theorem dX6_key_9 : decode cX6_key 9 = .ok (.aload_n 0, 1) := by decide +kernel
theorem dX6_key_10 : decode cX6_key 10 = .ok (.iload_n 2, 1) := by decide +kernel
theorem dX6_key_11 : decode cX6_key 11 = .ok (.iload_n 3, 1) := by decide +kernel
theorem dX6_key_12 : decode cX6_key 12 = .ok (.iload 4, 2) := by decide +kernel
theorem dX6_key_14 : decode cX6_key 14 = .ok (.invokevirtual 158, 3) := by decide +kernel
theorem dX6_key_17 : decode cX6_key 17 = .ok (.ifCond .eq 7, 3) := by decide +kernel
theorem dX6_key_20 : decode cX6_key 20 = .ok (.iconst 1, 1) := by decide +kernel
theorem dX6_key_21 : decode cX6_key 21 = .ok (.goto 4, 3) := by decide +kernel
theorem dX6_key_24 : decode cX6_key 24 = .ok (.iconst 0, 1) := by decide +kernel
theorem dX6_key_25 : decode cX6_key 25 = .ok (.istore 6, 2) := by decide +kernel
theorem dX6_key_27 : decode cX6_key 27 = .ok (.aload_n 0, 1) := by decide +kernel
theorem dX6_key_28 : decode cX6_key 28 = .ok (.iload 6, 2) := by decide +kernel
theorem dX6_key_30 : decode cX6_key 30 = .ok (.ifCond .ne 7, 3) := by decide +kernel
theorem dX6_key_33 : decode cX6_key 33 = .ok (.iconst 1, 1) := by decide +kernel
theorem dX6_key_34 : decode cX6_key 34 = .ok (.goto 19, 3) := by decide +kernel
theorem dX6_key_37 : decode cX6_key 37 = .ok (.iload 5, 2) := by decide +kernel
theorem dX6_key_39 : decode cX6_key 39 = .ok (.iconst 0, 1) := by decide +kernel
theorem dX6_key_40 : decode cX6_key 40 = .ok (.bipush 25, 2) := by decide +kernel
theorem dX6_key_42 : decode cX6_key 42 = .ok (.invokestatic 97, 3) := by decide +kernel
theorem dX6_key_45 : decode cX6_key 45 = .ok (.ifCond .eq 7, 3) := by decide +kernel
theorem dX6_key_48 : decode cX6_key 48 = .ok (.iconst 0, 1) := by decide +kernel
theorem dX6_key_49 : decode cX6_key 49 = .ok (.goto 4, 3) := by decide +kernel
theorem dX6_key_52 : decode cX6_key 52 = .ok (.iconst 2, 1) := by decide +kernel
theorem dX6_key_53 : decode cX6_key 53 = .ok (.invokevirtual 109, 3) := by decide +kernel
theorem dX6_key_56 : decode cX6_key 56 = .ok (.ifCond .ne 5, 3) := by decide +kernel
theorem dX6_key_59 : decode cX6_key 59 = .ok (.iconst 0, 1) := by decide +kernel
theorem dX6_key_60 : decode cX6_key 60 = .ok (.ireturn, 1) := by decide +kernel
theorem dX6_key_61 : decode cX6_key 61 = .ok (.iconst 5, 1) := by decide +kernel
theorem dX6_key_62 : decode cX6_key 62 = .ok (.iload_n 2, 1) := by decide +kernel
theorem dX6_key_63 : decode cX6_key 63 = .ok (.iload_n 3, 1) := by decide +kernel
theorem dX6_key_64 : decode cX6_key 64 = .ok (.iload 4, 2) := by decide +kernel
theorem dX6_key_66 : decode cX6_key 66 = .ok (.invokestatic 161, 3) := by decide +kernel
theorem dX6_key_69 : decode cX6_key 69 = .ok (.imul, 1) := by decide +kernel
theorem dX6_key_70 : decode cX6_key 70 = .ok (.iload_n 1, 1) := by decide +kernel
theorem dX6_key_71 : decode cX6_key 71 = .ok (.iadd, 1) := by decide +kernel
theorem dX6_key_72 : decode cX6_key 72 = .ok (.istore 7, 2) := by decide +kernel
theorem dX6_key_74 : decode cX6_key 74 = .ok (.aload_n 0, 1) := by decide +kernel
theorem dX6_key_75 : decode cX6_key 75 = .ok (.getfield 75, 3) := by decide +kernel
theorem dX6_key_78 : decode cX6_key 78 = .ok (.iload 7, 2) := by decide +kernel
theorem dX6_key_80 : decode cX6_key 80 = .ok (.iaload, 1) := by decide +kernel
theorem dX6_key_81 : decode cX6_key 81 = .ok (.istore 8, 2) := by decide +kernel
theorem dX6_key_83 : decode cX6_key 83 = .ok (.aload_n 0, 1) := by decide +kernel
theorem dX6_key_84 : decode cX6_key 84 = .ok (.getfield 75, 3) := by decide +kernel
theorem dX6_key_87 : decode cX6_key 87 = .ok (.iload 7, 2) := by decide +kernel
theorem dX6_key_89 : decode cX6_key 89 = .ok (.iload 5, 2) := by decide +kernel
theorem dX6_key_91 : decode cX6_key 91 = .ok (.iconst 1, 1) := by decide +kernel
theorem dX6_key_92 : decode cX6_key 92 = .ok (.iadd, 1) := by decide +kernel
theorem dX6_key_93 : decode cX6_key 93 = .ok (.iastore, 1) := by decide +kernel
theorem dX6_key_94 : decode cX6_key 94 = .ok (.iload 8, 2) := by decide +kernel
theorem dX6_key_96 : decode cX6_key 96 = .ok (.iconst 1, 1) := by decide +kernel
theorem dX6_key_97 : decode cX6_key 97 = .ok (.isub, 1) := by decide +kernel
theorem dX6_key_98 : decode cX6_key 98 = .ok (.ireturn, 1) := by decide +kernel
theorem dX6_trustOf_0 : decode cX6_trustOf 0 = .ok (.iconst 0, 1) := by decide +kernel
theorem dX6_trustOf_1 : decode cX6_trustOf 1 = .ok (.istore_n 2, 1) := by decide +kernel
theorem dX6_trustOf_2 : decode cX6_trustOf 2 = .ok (.iconst 0, 1) := by decide +kernel
theorem dX6_trustOf_3 : decode cX6_trustOf 3 = .ok (.istore_n 3, 1) := by decide +kernel
theorem dX6_trustOf_4 : decode cX6_trustOf 4 = .ok (.iconst 0, 1) := by decide +kernel
theorem dX6_trustOf_5 : decode cX6_trustOf 5 = .ok (.istore 4, 2) := by decide +kernel
theorem dX6_trustOf_7 : decode cX6_trustOf 7 = .ok (.iload 4, 2) := by decide +kernel
theorem dX6_trustOf_9 : decode cX6_trustOf 9 = .ok (.sipush 288, 3) := by decide +kernel
theorem dX6_trustOf_12 : decode cX6_trustOf 12 = .ok (.if_icmp .ge 75, 3) := by decide +kernel
theorem dX6_trustOf_15 : decode cX6_trustOf 15 = .ok (.aload_n 0, 1) := by decide +kernel
theorem dX6_trustOf_16 : decode cX6_trustOf 16 = .ok (.getfield 75, 3) := by decide +kernel
theorem dX6_trustOf_19 : decode cX6_trustOf 19 = .ok (.iconst 5, 1) := by decide +kernel
theorem dX6_trustOf_20 : decode cX6_trustOf 20 = .ok (.iload 4, 2) := by decide +kernel
theorem dX6_trustOf_22 : decode cX6_trustOf 22 = .ok (.imul, 1) := by decide +kernel
theorem dX6_trustOf_23 : decode cX6_trustOf 23 = .ok (.iload_n 1, 1) := by decide +kernel
theorem dX6_trustOf_24 : decode cX6_trustOf 24 = .ok (.iadd, 1) := by decide +kernel
theorem dX6_trustOf_25 : decode cX6_trustOf 25 = .ok (.iaload, 1) := by decide +kernel
theorem dX6_trustOf_26 : decode cX6_trustOf 26 = .ok (.istore 5, 2) := by decide +kernel
theorem dX6_trustOf_28 : decode cX6_trustOf 28 = .ok (.iload_n 2, 1) := by decide +kernel
theorem dX6_trustOf_29 : decode cX6_trustOf 29 = .ok (.aload_n 0, 1) := by decide +kernel
theorem dX6_trustOf_30 : decode cX6_trustOf 30 = .ok (.getfield 72, 3) := by decide +kernel
theorem dX6_trustOf_33 : decode cX6_trustOf 33 = .ok (.iload 4, 2) := by decide +kernel
theorem dX6_trustOf_35 : decode cX6_trustOf 35 = .ok (.iaload, 1) := by decide +kernel
theorem dX6_trustOf_36 : decode cX6_trustOf 36 = .ok (.ifCond .le 12, 3) := by decide +kernel
theorem dX6_trustOf_39 : decode cX6_trustOf 39 = .ok (.iload 5, 2) := by decide +kernel
theorem dX6_trustOf_41 : decode cX6_trustOf 41 = .ok (.ifCond .le 7, 3) := by decide +kernel
theorem dX6_trustOf_44 : decode cX6_trustOf 44 = .ok (.iconst 1, 1) := by decide +kernel
theorem dX6_trustOf_45 : decode cX6_trustOf 45 = .ok (.goto 4, 3) := by decide +kernel
theorem dX6_trustOf_48 : decode cX6_trustOf 48 = .ok (.iconst 0, 1) := by decide +kernel
theorem dX6_trustOf_49 : decode cX6_trustOf 49 = .ok (.iadd, 1) := by decide +kernel
theorem dX6_trustOf_50 : decode cX6_trustOf 50 = .ok (.istore_n 2, 1) := by decide +kernel
theorem dX6_trustOf_51 : decode cX6_trustOf 51 = .ok (.iload_n 3, 1) := by decide +kernel
theorem dX6_trustOf_52 : decode cX6_trustOf 52 = .ok (.aload_n 0, 1) := by decide +kernel
theorem dX6_trustOf_53 : decode cX6_trustOf 53 = .ok (.getfield 72, 3) := by decide +kernel
theorem dX6_trustOf_56 : decode cX6_trustOf 56 = .ok (.iload 4, 2) := by decide +kernel
theorem dX6_trustOf_58 : decode cX6_trustOf 58 = .ok (.iaload, 1) := by decide +kernel
theorem dX6_trustOf_59 : decode cX6_trustOf 59 = .ok (.ifCond .le 19, 3) := by decide +kernel
theorem dX6_trustOf_62 : decode cX6_trustOf 62 = .ok (.iload 5, 2) := by decide +kernel
theorem dX6_trustOf_64 : decode cX6_trustOf 64 = .ok (.aload_n 0, 1) := by decide +kernel
theorem dX6_trustOf_65 : decode cX6_trustOf 65 = .ok (.getfield 72, 3) := by decide +kernel
theorem dX6_trustOf_68 : decode cX6_trustOf 68 = .ok (.iload 4, 2) := by decide +kernel
theorem dX6_trustOf_70 : decode cX6_trustOf 70 = .ok (.iaload, 1) := by decide +kernel
theorem dX6_trustOf_71 : decode cX6_trustOf 71 = .ok (.if_icmp .ne 7, 3) := by decide +kernel
theorem dX6_trustOf_74 : decode cX6_trustOf 74 = .ok (.iconst 1, 1) := by decide +kernel
theorem dX6_trustOf_75 : decode cX6_trustOf 75 = .ok (.goto 4, 3) := by decide +kernel
theorem dX6_trustOf_78 : decode cX6_trustOf 78 = .ok (.iconst 0, 1) := by decide +kernel
theorem dX6_trustOf_79 : decode cX6_trustOf 79 = .ok (.iadd, 1) := by decide +kernel
theorem dX6_trustOf_80 : decode cX6_trustOf 80 = .ok (.istore_n 3, 1) := by decide +kernel
theorem dX6_trustOf_81 : decode cX6_trustOf 81 = .ok (.iinc 4 1, 3) := by decide +kernel
theorem dX6_trustOf_84 : decode cX6_trustOf 84 = .ok (.goto (-77), 3) := by decide +kernel
theorem dX6_trustOf_87 : decode cX6_trustOf 87 = .ok (.iload_n 2, 1) := by decide +kernel
theorem dX6_trustOf_88 : decode cX6_trustOf 88 = .ok (.ifCond .ne 8, 3) := by decide +kernel
theorem dX6_trustOf_91 : decode cX6_trustOf 91 = .ok (.bipush 50, 2) := by decide +kernel
theorem dX6_trustOf_93 : decode cX6_trustOf 93 = .ok (.goto 9, 3) := by decide +kernel
theorem dX6_trustOf_96 : decode cX6_trustOf 96 = .ok (.bipush 100, 2) := by decide +kernel
theorem dX6_trustOf_98 : decode cX6_trustOf 98 = .ok (.iload_n 3, 1) := by decide +kernel
theorem dX6_trustOf_99 : decode cX6_trustOf 99 = .ok (.imul, 1) := by decide +kernel
theorem dX6_trustOf_100 : decode cX6_trustOf 100 = .ok (.iload_n 2, 1) := by decide +kernel
theorem dX6_trustOf_101 : decode cX6_trustOf 101 = .ok (.idiv, 1) := by decide +kernel
theorem dX6_trustOf_102 : decode cX6_trustOf 102 = .ok (.ireturn, 1) := by decide +kernel
theorem dX6_trust_0 : decode cX6_trust 0 = .ok (.aload_n 0, 1) := by decide +kernel
theorem dX6_trust_1 : decode cX6_trust 1 = .ok (.iload_n 1, 1) := by decide +kernel
theorem dX6_trust_2 : decode cX6_trust 2 = .ok (.iconst 0, 1) := by decide +kernel
theorem dX6_trust_3 : decode cX6_trust 3 = .ok (.iconst 4, 1) := by decide +kernel
theorem dX6_trust_4 : decode cX6_trust 4 = .ok (.invokestatic 97, 3) := by decide +kernel
theorem dX6_trust_7 : decode cX6_trust 7 = .ok (.ifCond .eq 7, 3) := by decide +kernel
theorem dX6_trust_10 : decode cX6_trust 10 = .ok (.iconst 0, 1) := by decide +kernel
theorem dX6_trust_11 : decode cX6_trust 11 = .ok (.goto 4, 3) := by decide +kernel
theorem dX6_trust_14 : decode cX6_trust 14 = .ok (.iconst 1, 1) := by decide +kernel
theorem dX6_trust_15 : decode cX6_trust 15 = .ok (.invokevirtual 109, 3) := by decide +kernel
theorem dX6_trust_18 : decode cX6_trust 18 = .ok (.ifCond .eq 11, 3) := by decide +kernel
theorem dX6_trust_21 : decode cX6_trust 21 = .ok (.aload_n 0, 1) := by decide +kernel
theorem dX6_trust_22 : decode cX6_trust 22 = .ok (.iload_n 1, 1) := by decide +kernel
theorem dX6_trust_23 : decode cX6_trust 23 = .ok (.invokevirtual 165, 3) := by decide +kernel
theorem dX6_trust_26 : decode cX6_trust 26 = .ok (.goto 4, 3) := by decide +kernel
theorem dX6_trust_29 : decode cX6_trust 29 = .ok (.iconst 0, 1) := by decide +kernel
theorem dX6_trust_30 : decode cX6_trust 30 = .ok (.ireturn, 1) := by decide +kernel
theorem dX6_pay_0 : decode cX6_pay 0 = .ok (.aload_n 0, 1) := by decide +kernel
theorem dX6_pay_1 : decode cX6_pay 1 = .ok (.iload_n 1, 1) := by decide +kernel
theorem dX6_pay_2 : decode cX6_pay 2 = .ok (.iconst 0, 1) := by decide +kernel
theorem dX6_pay_3 : decode cX6_pay 3 = .ok (.iconst 4, 1) := by decide +kernel
theorem dX6_pay_4 : decode cX6_pay 4 = .ok (.invokestatic 97, 3) := by decide +kernel
theorem dX6_pay_7 : decode cX6_pay 7 = .ok (.ifCond .eq 7, 3) := by decide +kernel
theorem dX6_pay_10 : decode cX6_pay 10 = .ok (.iconst 0, 1) := by decide +kernel
theorem dX6_pay_11 : decode cX6_pay 11 = .ok (.goto 4, 3) := by decide +kernel
theorem dX6_pay_14 : decode cX6_pay 14 = .ok (.iconst 1, 1) := by decide +kernel
theorem dX6_pay_15 : decode cX6_pay 15 = .ok (.invokevirtual 109, 3) := by decide +kernel
theorem dX6_pay_18 : decode cX6_pay 18 = .ok (.ifCond .ne 5, 3) := by decide +kernel
theorem dX6_pay_21 : decode cX6_pay 21 = .ok (.iconst 0, 1) := by decide +kernel
theorem dX6_pay_22 : decode cX6_pay 22 = .ok (.ireturn, 1) := by decide +kernel
theorem dX6_pay_23 : decode cX6_pay 23 = .ok (.iconst 0, 1) := by decide +kernel
theorem dX6_pay_24 : decode cX6_pay 24 = .ok (.istore_n 2, 1) := by decide +kernel
theorem dX6_pay_25 : decode cX6_pay 25 = .ok (.iconst 0, 1) := by decide +kernel
theorem dX6_pay_26 : decode cX6_pay 26 = .ok (.istore_n 3, 1) := by decide +kernel
theorem dX6_pay_27 : decode cX6_pay 27 = .ok (.iload_n 3, 1) := by decide +kernel
theorem dX6_pay_28 : decode cX6_pay 28 = .ok (.sipush 288, 3) := by decide +kernel
theorem dX6_pay_31 : decode cX6_pay 31 = .ok (.if_icmp .ge 30, 3) := by decide +kernel
theorem dX6_pay_34 : decode cX6_pay 34 = .ok (.iload_n 2, 1) := by decide +kernel
theorem dX6_pay_35 : decode cX6_pay 35 = .ok (.aload_n 0, 1) := by decide +kernel
theorem dX6_pay_36 : decode cX6_pay 36 = .ok (.getfield 75, 3) := by decide +kernel
theorem dX6_pay_39 : decode cX6_pay 39 = .ok (.iconst 5, 1) := by decide +kernel
theorem dX6_pay_40 : decode cX6_pay 40 = .ok (.iload_n 3, 1) := by decide +kernel
theorem dX6_pay_41 : decode cX6_pay 41 = .ok (.imul, 1) := by decide +kernel
theorem dX6_pay_42 : decode cX6_pay 42 = .ok (.iload_n 1, 1) := by decide +kernel
theorem dX6_pay_43 : decode cX6_pay 43 = .ok (.iadd, 1) := by decide +kernel
theorem dX6_pay_44 : decode cX6_pay 44 = .ok (.iaload, 1) := by decide +kernel
theorem dX6_pay_45 : decode cX6_pay 45 = .ok (.ifCond .le 7, 3) := by decide +kernel
theorem dX6_pay_48 : decode cX6_pay 48 = .ok (.iconst 1, 1) := by decide +kernel
theorem dX6_pay_49 : decode cX6_pay 49 = .ok (.goto 4, 3) := by decide +kernel
theorem dX6_pay_52 : decode cX6_pay 52 = .ok (.iconst 0, 1) := by decide +kernel
theorem dX6_pay_53 : decode cX6_pay 53 = .ok (.iadd, 1) := by decide +kernel
theorem dX6_pay_54 : decode cX6_pay 54 = .ok (.istore_n 2, 1) := by decide +kernel
theorem dX6_pay_55 : decode cX6_pay 55 = .ok (.iinc 3 1, 3) := by decide +kernel
theorem dX6_pay_58 : decode cX6_pay 58 = .ok (.goto (-31), 3) := by decide +kernel
theorem dX6_pay_61 : decode cX6_pay 61 = .ok (.iload_n 2, 1) := by decide +kernel
theorem dX6_pay_62 : decode cX6_pay 62 = .ok (.aload_n 0, 1) := by decide +kernel
theorem dX6_pay_63 : decode cX6_pay 63 = .ok (.iload_n 1, 1) := by decide +kernel
theorem dX6_pay_64 : decode cX6_pay 64 = .ok (.invokevirtual 165, 3) := by decide +kernel
theorem dX6_pay_67 : decode cX6_pay 67 = .ok (.imul, 1) := by decide +kernel
theorem dX6_pay_68 : decode cX6_pay 68 = .ok (.bipush 10, 2) := by decide +kernel
theorem dX6_pay_70 : decode cX6_pay 70 = .ok (.idiv, 1) := by decide +kernel
theorem dX6_pay_71 : decode cX6_pay 71 = .ok (.ireturn, 1) := by decide +kernel
theorem dX6_weight_0 : decode cX6_weight 0 = .ok (.iconst (-1), 1) := by decide +kernel
theorem dX6_weight_1 : decode cX6_weight 1 = .ok (.istore_n 3, 1) := by decide +kernel
theorem dX6_weight_2 : decode cX6_weight 2 = .ok (.iconst 0, 1) := by decide +kernel
theorem dX6_weight_3 : decode cX6_weight 3 = .ok (.istore 4, 2) := by decide +kernel
theorem dX6_weight_5 : decode cX6_weight 5 = .ok (.iload 4, 2) := by decide +kernel
theorem dX6_weight_7 : decode cX6_weight 7 = .ok (.iconst 5, 1) := by decide +kernel
theorem dX6_weight_8 : decode cX6_weight 8 = .ok (.if_icmp .ge 49, 3) := by decide +kernel
theorem dX6_weight_11 : decode cX6_weight 11 = .ok (.iload_n 3, 1) := by decide +kernel
theorem dX6_weight_12 : decode cX6_weight 12 = .ok (.aload_n 0, 1) := by decide +kernel
theorem dX6_weight_13 : decode cX6_weight 13 = .ok (.getfield 75, 3) := by decide +kernel
theorem dX6_weight_16 : decode cX6_weight 16 = .ok (.iconst 5, 1) := by decide +kernel
theorem dX6_weight_17 : decode cX6_weight 17 = .ok (.iload_n 1, 1) := by decide +kernel
theorem dX6_weight_18 : decode cX6_weight 18 = .ok (.imul, 1) := by decide +kernel
theorem dX6_weight_19 : decode cX6_weight 19 = .ok (.iload 4, 2) := by decide +kernel
theorem dX6_weight_21 : decode cX6_weight 21 = .ok (.iadd, 1) := by decide +kernel
theorem dX6_weight_22 : decode cX6_weight 22 = .ok (.iaload, 1) := by decide +kernel
theorem dX6_weight_23 : decode cX6_weight 23 = .ok (.iload_n 2, 1) := by decide +kernel
theorem dX6_weight_24 : decode cX6_weight 24 = .ok (.if_icmp .ne 24, 3) := by decide +kernel
theorem dX6_weight_27 : decode cX6_weight 27 = .ok (.aload_n 0, 1) := by decide +kernel
theorem dX6_weight_28 : decode cX6_weight 28 = .ok (.getfield 78, 3) := by decide +kernel
theorem dX6_weight_31 : decode cX6_weight 31 = .ok (.iload 4, 2) := by decide +kernel
theorem dX6_weight_33 : decode cX6_weight 33 = .ok (.iaload, 1) := by decide +kernel
theorem dX6_weight_34 : decode cX6_weight 34 = .ok (.iload_n 3, 1) := by decide +kernel
theorem dX6_weight_35 : decode cX6_weight 35 = .ok (.iconst (-1), 1) := by decide +kernel
theorem dX6_weight_36 : decode cX6_weight 36 = .ok (.if_icmp .ne 7, 3) := by decide +kernel
theorem dX6_weight_39 : decode cX6_weight 39 = .ok (.iconst 1, 1) := by decide +kernel
theorem dX6_weight_40 : decode cX6_weight 40 = .ok (.goto 4, 3) := by decide +kernel
theorem dX6_weight_43 : decode cX6_weight 43 = .ok (.iconst 0, 1) := by decide +kernel
theorem dX6_weight_44 : decode cX6_weight 44 = .ok (.iadd, 1) := by decide +kernel
theorem dX6_weight_45 : decode cX6_weight 45 = .ok (.goto 4, 3) := by decide +kernel
theorem dX6_weight_48 : decode cX6_weight 48 = .ok (.iconst 0, 1) := by decide +kernel
theorem dX6_weight_49 : decode cX6_weight 49 = .ok (.iadd, 1) := by decide +kernel
theorem dX6_weight_50 : decode cX6_weight 50 = .ok (.istore_n 3, 1) := by decide +kernel
theorem dX6_weight_51 : decode cX6_weight 51 = .ok (.iinc 4 1, 3) := by decide +kernel
theorem dX6_weight_54 : decode cX6_weight 54 = .ok (.goto (-49), 3) := by decide +kernel
theorem dX6_weight_57 : decode cX6_weight 57 = .ok (.iload_n 3, 1) := by decide +kernel
theorem dX6_weight_58 : decode cX6_weight 58 = .ok (.ireturn, 1) := by decide +kernel
theorem dX6_weigh_0 : decode cX6_weigh 0 = .ok (.iconst 0, 1) := by decide +kernel
theorem dX6_weigh_1 : decode cX6_weigh 1 = .ok (.istore_n 1, 1) := by decide +kernel
theorem dX6_weigh_2 : decode cX6_weigh 2 = .ok (.iload_n 1, 1) := by decide +kernel
theorem dX6_weigh_3 : decode cX6_weigh 3 = .ok (.iconst 5, 1) := by decide +kernel
theorem dX6_weigh_4 : decode cX6_weigh 4 = .ok (.if_icmp .ge 20, 3) := by decide +kernel
theorem dX6_weigh_7 : decode cX6_weigh 7 = .ok (.aload_n 0, 1) := by decide +kernel
theorem dX6_weigh_8 : decode cX6_weigh 8 = .ok (.getfield 78, 3) := by decide +kernel
theorem dX6_weigh_11 : decode cX6_weigh 11 = .ok (.iload_n 1, 1) := by decide +kernel
theorem dX6_weigh_12 : decode cX6_weigh 12 = .ok (.aload_n 0, 1) := by decide +kernel
theorem dX6_weigh_13 : decode cX6_weigh 13 = .ok (.iload_n 1, 1) := by decide +kernel
theorem dX6_weigh_14 : decode cX6_weigh 14 = .ok (.invokevirtual 165, 3) := by decide +kernel
theorem dX6_weigh_17 : decode cX6_weigh 17 = .ok (.iastore, 1) := by decide +kernel
theorem dX6_weigh_18 : decode cX6_weigh 18 = .ok (.iinc 1 1, 3) := by decide +kernel
theorem dX6_weigh_21 : decode cX6_weigh 21 = .ok (.goto (-19), 3) := by decide +kernel
theorem dX6_weigh_24 : decode cX6_weigh 24 = .ok (.return_, 1) := by decide +kernel
theorem dX6_read_0 : decode cX6_read 0 = .ok (.aload_n 0, 1) := by decide +kernel
theorem dX6_read_1 : decode cX6_read 1 = .ok (.aload_n 0, 1) := by decide +kernel
theorem dX6_read_2 : decode cX6_read 2 = .ok (.iload_n 1, 1) := by decide +kernel
theorem dX6_read_3 : decode cX6_read 3 = .ok (.iload_n 2, 1) := by decide +kernel
theorem dX6_read_4 : decode cX6_read 4 = .ok (.iload_n 3, 1) := by decide +kernel
theorem dX6_read_5 : decode cX6_read 5 = .ok (.invokevirtual 158, 3) := by decide +kernel
theorem dX6_read_8 : decode cX6_read 8 = .ok (.ifCond .eq 7, 3) := by decide +kernel
theorem dX6_read_11 : decode cX6_read 11 = .ok (.iconst 0, 1) := by decide +kernel
theorem dX6_read_12 : decode cX6_read 12 = .ok (.goto 4, 3) := by decide +kernel
theorem dX6_read_15 : decode cX6_read 15 = .ok (.iconst 1, 1) := by decide +kernel
theorem dX6_read_16 : decode cX6_read 16 = .ok (.invokevirtual 109, 3) := by decide +kernel
theorem dX6_read_19 : decode cX6_read 19 = .ok (.ifCond .ne 5, 3) := by decide +kernel
theorem dX6_read_22 : decode cX6_read 22 = .ok (.iconst 0, 1) := by decide +kernel
theorem dX6_read_23 : decode cX6_read 23 = .ok (.ireturn, 1) := by decide +kernel
theorem dX6_read_24 : decode cX6_read 24 = .ok (.iload_n 1, 1) := by decide +kernel
theorem dX6_read_25 : decode cX6_read 25 = .ok (.iload_n 2, 1) := by decide +kernel
theorem dX6_read_26 : decode cX6_read 26 = .ok (.iload_n 3, 1) := by decide +kernel
theorem dX6_read_27 : decode cX6_read 27 = .ok (.invokestatic 161, 3) := by decide +kernel
theorem dX6_read_30 : decode cX6_read 30 = .ok (.istore 4, 2) := by decide +kernel
theorem dX6_read_32 : decode cX6_read 32 = .ok (.aload_n 0, 1) := by decide +kernel
theorem dX6_read_33 : decode cX6_read 33 = .ok (.getfield 72, 3) := by decide +kernel
theorem dX6_read_36 : decode cX6_read 36 = .ok (.iload 4, 2) := by decide +kernel
theorem dX6_read_38 : decode cX6_read 38 = .ok (.iaload, 1) := by decide +kernel
theorem dX6_read_39 : decode cX6_read 39 = .ok (.ifCond .le 13, 3) := by decide +kernel
theorem dX6_read_42 : decode cX6_read 42 = .ok (.aload_n 0, 1) := by decide +kernel
theorem dX6_read_43 : decode cX6_read 43 = .ok (.getfield 72, 3) := by decide +kernel
theorem dX6_read_46 : decode cX6_read 46 = .ok (.iload 4, 2) := by decide +kernel
theorem dX6_read_48 : decode cX6_read 48 = .ok (.iaload, 1) := by decide +kernel
theorem dX6_read_49 : decode cX6_read 49 = .ok (.iconst 1, 1) := by decide +kernel
theorem dX6_read_50 : decode cX6_read 50 = .ok (.isub, 1) := by decide +kernel
theorem dX6_read_51 : decode cX6_read 51 = .ok (.ireturn, 1) := by decide +kernel
theorem dX6_read_52 : decode cX6_read 52 = .ok (.aload_n 0, 1) := by decide +kernel
theorem dX6_read_53 : decode cX6_read 53 = .ok (.invokevirtual 168, 3) := by decide +kernel
theorem dX6_read_56 : decode cX6_read 56 = .ok (.iconst (-1), 1) := by decide +kernel
theorem dX6_read_57 : decode cX6_read 57 = .ok (.istore 5, 2) := by decide +kernel
theorem dX6_read_59 : decode cX6_read 59 = .ok (.iconst (-1), 1) := by decide +kernel
theorem dX6_read_60 : decode cX6_read 60 = .ok (.istore 6, 2) := by decide +kernel
theorem dX6_read_62 : decode cX6_read 62 = .ok (.iconst 1, 1) := by decide +kernel
theorem dX6_read_63 : decode cX6_read 63 = .ok (.istore 7, 2) := by decide +kernel
theorem dX6_read_65 : decode cX6_read 65 = .ok (.iload 7, 2) := by decide +kernel
theorem dX6_read_67 : decode cX6_read 67 = .ok (.bipush 26, 2) := by decide +kernel
theorem dX6_read_69 : decode cX6_read 69 = .ok (.if_icmp .gt 53, 3) := by decide +kernel
theorem dX6_read_72 : decode cX6_read 72 = .ok (.aload_n 0, 1) := by decide +kernel
theorem dX6_read_73 : decode cX6_read 73 = .ok (.iload 4, 2) := by decide +kernel
theorem dX6_read_75 : decode cX6_read 75 = .ok (.iload 7, 2) := by decide +kernel
theorem dX6_read_77 : decode cX6_read 77 = .ok (.invokevirtual 171, 3) := by decide +kernel
theorem dX6_read_80 : decode cX6_read 80 = .ok (.istore 8, 2) := by decide +kernel
theorem dX6_read_82 : decode cX6_read 82 = .ok (.iload 8, 2) := by decide +kernel
theorem dX6_read_84 : decode cX6_read 84 = .ok (.iload 6, 2) := by decide +kernel
theorem dX6_read_86 : decode cX6_read 86 = .ok (.if_icmp .le 10, 3) := by decide +kernel
theorem dX6_read_89 : decode cX6_read 89 = .ok (.iload 7, 2) := by decide +kernel
theorem dX6_read_91 : decode cX6_read 91 = .ok (.iconst 1, 1) := by decide +kernel
theorem dX6_read_92 : decode cX6_read 92 = .ok (.isub, 1) := by decide +kernel
theorem dX6_read_93 : decode cX6_read 93 = .ok (.goto 5, 3) := by decide +kernel
theorem dX6_read_96 : decode cX6_read 96 = .ok (.iload 5, 2) := by decide +kernel
theorem dX6_read_98 : decode cX6_read 98 = .ok (.istore 5, 2) := by decide +kernel
theorem dX6_read_100 : decode cX6_read 100 = .ok (.iload 8, 2) := by decide +kernel
theorem dX6_read_102 : decode cX6_read 102 = .ok (.iload 6, 2) := by decide +kernel
theorem dX6_read_104 : decode cX6_read 104 = .ok (.if_icmp .le 8, 3) := by decide +kernel
theorem dX6_read_107 : decode cX6_read 107 = .ok (.iload 8, 2) := by decide +kernel
theorem dX6_read_109 : decode cX6_read 109 = .ok (.goto 5, 3) := by decide +kernel
theorem dX6_read_112 : decode cX6_read 112 = .ok (.iload 6, 2) := by decide +kernel
theorem dX6_read_114 : decode cX6_read 114 = .ok (.istore 6, 2) := by decide +kernel
theorem dX6_read_116 : decode cX6_read 116 = .ok (.iinc 7 1, 3) := by decide +kernel
theorem dX6_read_119 : decode cX6_read 119 = .ok (.goto (-54), 3) := by decide +kernel
theorem dX6_read_122 : decode cX6_read 122 = .ok (.iload 5, 2) := by decide +kernel
theorem dX6_read_124 : decode cX6_read 124 = .ok (.ireturn, 1) := by decide +kernel
theorem dX6_doubt_0 : decode cX6_doubt 0 = .ok (.aload_n 0, 1) := by decide +kernel
theorem dX6_doubt_1 : decode cX6_doubt 1 = .ok (.aload_n 0, 1) := by decide +kernel
theorem dX6_doubt_2 : decode cX6_doubt 2 = .ok (.iload_n 1, 1) := by decide +kernel
theorem dX6_doubt_3 : decode cX6_doubt 3 = .ok (.iload_n 2, 1) := by decide +kernel
theorem dX6_doubt_4 : decode cX6_doubt 4 = .ok (.iload_n 3, 1) := by decide +kernel
theorem dX6_doubt_5 : decode cX6_doubt 5 = .ok (.invokevirtual 158, 3) := by decide +kernel
theorem dX6_doubt_8 : decode cX6_doubt 8 = .ok (.ifCond .eq 7, 3) := by decide +kernel
theorem dX6_doubt_11 : decode cX6_doubt 11 = .ok (.iconst 0, 1) := by decide +kernel
theorem dX6_doubt_12 : decode cX6_doubt 12 = .ok (.goto 4, 3) := by decide +kernel
theorem dX6_doubt_15 : decode cX6_doubt 15 = .ok (.iconst 1, 1) := by decide +kernel
theorem dX6_doubt_16 : decode cX6_doubt 16 = .ok (.invokevirtual 109, 3) := by decide +kernel
theorem dX6_doubt_19 : decode cX6_doubt 19 = .ok (.ifCond .ne 5, 3) := by decide +kernel
theorem dX6_doubt_22 : decode cX6_doubt 22 = .ok (.iconst 0, 1) := by decide +kernel
theorem dX6_doubt_23 : decode cX6_doubt 23 = .ok (.ireturn, 1) := by decide +kernel
theorem dX6_doubt_24 : decode cX6_doubt 24 = .ok (.iload_n 1, 1) := by decide +kernel
theorem dX6_doubt_25 : decode cX6_doubt 25 = .ok (.iload_n 2, 1) := by decide +kernel
theorem dX6_doubt_26 : decode cX6_doubt 26 = .ok (.iload_n 3, 1) := by decide +kernel
theorem dX6_doubt_27 : decode cX6_doubt 27 = .ok (.invokestatic 161, 3) := by decide +kernel
theorem dX6_doubt_30 : decode cX6_doubt 30 = .ok (.istore 4, 2) := by decide +kernel
theorem dX6_doubt_32 : decode cX6_doubt 32 = .ok (.aload_n 0, 1) := by decide +kernel
theorem dX6_doubt_33 : decode cX6_doubt 33 = .ok (.getfield 72, 3) := by decide +kernel
theorem dX6_doubt_36 : decode cX6_doubt 36 = .ok (.iload 4, 2) := by decide +kernel
theorem dX6_doubt_38 : decode cX6_doubt 38 = .ok (.iaload, 1) := by decide +kernel
theorem dX6_doubt_39 : decode cX6_doubt 39 = .ok (.ifCond .le 5, 3) := by decide +kernel
theorem dX6_doubt_42 : decode cX6_doubt 42 = .ok (.iconst 0, 1) := by decide +kernel
theorem dX6_doubt_43 : decode cX6_doubt 43 = .ok (.ireturn, 1) := by decide +kernel
theorem dX6_doubt_44 : decode cX6_doubt 44 = .ok (.aload_n 0, 1) := by decide +kernel
theorem dX6_doubt_45 : decode cX6_doubt 45 = .ok (.invokevirtual 168, 3) := by decide +kernel
theorem dX6_doubt_48 : decode cX6_doubt 48 = .ok (.iconst 0, 1) := by decide +kernel
theorem dX6_doubt_49 : decode cX6_doubt 49 = .ok (.istore 5, 2) := by decide +kernel
theorem dX6_doubt_51 : decode cX6_doubt 51 = .ok (.iconst 0, 1) := by decide +kernel
theorem dX6_doubt_52 : decode cX6_doubt 52 = .ok (.istore 6, 2) := by decide +kernel
theorem dX6_doubt_54 : decode cX6_doubt 54 = .ok (.iconst 1, 1) := by decide +kernel
theorem dX6_doubt_55 : decode cX6_doubt 55 = .ok (.istore 7, 2) := by decide +kernel
theorem dX6_doubt_57 : decode cX6_doubt 57 = .ok (.iload 7, 2) := by decide +kernel
theorem dX6_doubt_59 : decode cX6_doubt 59 = .ok (.bipush 26, 2) := by decide +kernel
theorem dX6_doubt_61 : decode cX6_doubt 61 = .ok (.if_icmp .gt 51, 3) := by decide +kernel
theorem dX6_doubt_64 : decode cX6_doubt 64 = .ok (.aload_n 0, 1) := by decide +kernel
theorem dX6_doubt_65 : decode cX6_doubt 65 = .ok (.iload 4, 2) := by decide +kernel
theorem dX6_doubt_67 : decode cX6_doubt 67 = .ok (.iload 7, 2) := by decide +kernel
theorem dX6_doubt_69 : decode cX6_doubt 69 = .ok (.invokevirtual 171, 3) := by decide +kernel
theorem dX6_doubt_72 : decode cX6_doubt 72 = .ok (.istore 8, 2) := by decide +kernel
theorem dX6_doubt_74 : decode cX6_doubt 74 = .ok (.iload 5, 2) := by decide +kernel
theorem dX6_doubt_76 : decode cX6_doubt 76 = .ok (.iload 8, 2) := by decide +kernel
theorem dX6_doubt_78 : decode cX6_doubt 78 = .ok (.ifCond .le 8, 3) := by decide +kernel
theorem dX6_doubt_81 : decode cX6_doubt 81 = .ok (.iload 8, 2) := by decide +kernel
theorem dX6_doubt_83 : decode cX6_doubt 83 = .ok (.goto 4, 3) := by decide +kernel
theorem dX6_doubt_86 : decode cX6_doubt 86 = .ok (.iconst 0, 1) := by decide +kernel
theorem dX6_doubt_87 : decode cX6_doubt 87 = .ok (.iadd, 1) := by decide +kernel
theorem dX6_doubt_88 : decode cX6_doubt 88 = .ok (.istore 5, 2) := by decide +kernel
theorem dX6_doubt_90 : decode cX6_doubt 90 = .ok (.iload 8, 2) := by decide +kernel
theorem dX6_doubt_92 : decode cX6_doubt 92 = .ok (.iload 6, 2) := by decide +kernel
theorem dX6_doubt_94 : decode cX6_doubt 94 = .ok (.if_icmp .le 8, 3) := by decide +kernel
theorem dX6_doubt_97 : decode cX6_doubt 97 = .ok (.iload 8, 2) := by decide +kernel
theorem dX6_doubt_99 : decode cX6_doubt 99 = .ok (.goto 5, 3) := by decide +kernel
theorem dX6_doubt_102 : decode cX6_doubt 102 = .ok (.iload 6, 2) := by decide +kernel
theorem dX6_doubt_104 : decode cX6_doubt 104 = .ok (.istore 6, 2) := by decide +kernel
theorem dX6_doubt_106 : decode cX6_doubt 106 = .ok (.iinc 7 1, 3) := by decide +kernel
theorem dX6_doubt_109 : decode cX6_doubt 109 = .ok (.goto (-52), 3) := by decide +kernel
theorem dX6_doubt_112 : decode cX6_doubt 112 = .ok (.iload 5, 2) := by decide +kernel
theorem dX6_doubt_114 : decode cX6_doubt 114 = .ok (.ifCond .ne 8, 3) := by decide +kernel
theorem dX6_doubt_117 : decode cX6_doubt 117 = .ok (.bipush 100, 2) := by decide +kernel
theorem dX6_doubt_119 : decode cX6_doubt 119 = .ok (.goto 14, 3) := by decide +kernel
theorem dX6_doubt_122 : decode cX6_doubt 122 = .ok (.bipush 100, 2) := by decide +kernel
theorem dX6_doubt_124 : decode cX6_doubt 124 = .ok (.bipush 100, 2) := by decide +kernel
theorem dX6_doubt_126 : decode cX6_doubt 126 = .ok (.iload 6, 2) := by decide +kernel
theorem dX6_doubt_128 : decode cX6_doubt 128 = .ok (.imul, 1) := by decide +kernel
theorem dX6_doubt_129 : decode cX6_doubt 129 = .ok (.iload 5, 2) := by decide +kernel
theorem dX6_doubt_131 : decode cX6_doubt 131 = .ok (.idiv, 1) := by decide +kernel
theorem dX6_doubt_132 : decode cX6_doubt 132 = .ok (.isub, 1) := by decide +kernel
theorem dX6_doubt_133 : decode cX6_doubt 133 = .ok (.ireturn, 1) := by decide +kernel
theorem dX6_pass_0 : decode cX6_pass 0 = .ok (.iload_n 1, 1) := by decide +kernel
theorem dX6_pass_1 : decode cX6_pass 1 = .ok (.iconst 1, 1) := by decide +kernel
theorem dX6_pass_2 : decode cX6_pass 2 = .ok (.bipush 100, 2) := by decide +kernel
theorem dX6_pass_4 : decode cX6_pass 4 = .ok (.invokestatic 97, 3) := by decide +kernel
theorem dX6_pass_7 : decode cX6_pass 7 = .ok (.istore_n 2, 1) := by decide +kernel
theorem dX6_pass_8 : decode cX6_pass 8 = .ok (.aload_n 0, 1) := by decide +kernel
theorem dX6_pass_9 : decode cX6_pass 9 = .ok (.iload_n 2, 1) := by decide +kernel
theorem dX6_pass_10 : decode cX6_pass 10 = .ok (.ifCond .ne 7, 3) := by decide +kernel
theorem dX6_pass_13 : decode cX6_pass 13 = .ok (.iconst 1, 1) := by decide +kernel
theorem dX6_pass_14 : decode cX6_pass 14 = .ok (.goto 20, 3) := by decide +kernel
theorem dX6_pass_17 : decode cX6_pass 17 = .ok (.aload_n 0, 1) := by decide +kernel
theorem dX6_pass_18 : decode cX6_pass 18 = .ok (.getfield 81, 3) := by decide +kernel
theorem dX6_pass_21 : decode cX6_pass 21 = .ok (.iload_n 1, 1) := by decide +kernel
theorem dX6_pass_22 : decode cX6_pass 22 = .ok (.iadd, 1) := by decide +kernel
theorem dX6_pass_23 : decode cX6_pass 23 = .ok (.sipush 4000, 3) := by decide +kernel
theorem dX6_pass_26 : decode cX6_pass 26 = .ok (.if_icmp .le 7, 3) := by decide +kernel
theorem dX6_pass_29 : decode cX6_pass 29 = .ok (.iconst 2, 1) := by decide +kernel
theorem dX6_pass_30 : decode cX6_pass 30 = .ok (.goto 4, 3) := by decide +kernel
theorem dX6_pass_33 : decode cX6_pass 33 = .ok (.iconst 0, 1) := by decide +kernel
theorem dX6_pass_34 : decode cX6_pass 34 = .ok (.invokevirtual 109, 3) := by decide +kernel
theorem dX6_pass_37 : decode cX6_pass 37 = .ok (.ifCond .ne 5, 3) := by decide +kernel
theorem dX6_pass_40 : decode cX6_pass 40 = .ok (.iconst 0, 1) := by decide +kernel
theorem dX6_pass_41 : decode cX6_pass 41 = .ok (.ireturn, 1) := by decide +kernel
theorem dX6_pass_42 : decode cX6_pass 42 = .ok (.aload_n 0, 1) := by decide +kernel
theorem dX6_pass_43 : decode cX6_pass 43 = .ok (.dup, 1) := by decide +kernel
theorem dX6_pass_44 : decode cX6_pass 44 = .ok (.getfield 81, 3) := by decide +kernel
theorem dX6_pass_47 : decode cX6_pass 47 = .ok (.iload_n 1, 1) := by decide +kernel
theorem dX6_pass_48 : decode cX6_pass 48 = .ok (.iadd, 1) := by decide +kernel
theorem dX6_pass_49 : decode cX6_pass 49 = .ok (.putfield 81, 3) := by decide +kernel
theorem dX6_pass_52 : decode cX6_pass 52 = .ok (.aload_n 0, 1) := by decide +kernel
theorem dX6_pass_53 : decode cX6_pass 53 = .ok (.getfield 81, 3) := by decide +kernel
theorem dX6_pass_56 : decode cX6_pass 56 = .ok (.ireturn, 1) := by decide +kernel
theorem dX6_term_0 : decode cX6_term 0 = .ok (.iload_n 1, 1) := by decide +kernel
theorem dX6_term_1 : decode cX6_term 1 = .ok (.iconst 0, 1) := by decide +kernel
theorem dX6_term_2 : decode cX6_term 2 = .ok (.iconst 3, 1) := by decide +kernel
theorem dX6_term_3 : decode cX6_term 3 = .ok (.invokestatic 97, 3) := by decide +kernel
theorem dX6_term_6 : decode cX6_term 6 = .ok (.istore_n 3, 1) := by decide +kernel
theorem dX6_term_7 : decode cX6_term 7 = .ok (.aload_n 0, 1) := by decide +kernel
theorem dX6_term_8 : decode cX6_term 8 = .ok (.iload_n 3, 1) := by decide +kernel
theorem dX6_term_9 : decode cX6_term 9 = .ok (.ifCond .ne 7, 3) := by decide +kernel
theorem dX6_term_12 : decode cX6_term 12 = .ok (.iconst 1, 1) := by decide +kernel
theorem dX6_term_13 : decode cX6_term 13 = .ok (.goto 18, 3) := by decide +kernel
theorem dX6_term_16 : decode cX6_term 16 = .ok (.iload_n 2, 1) := by decide +kernel
theorem dX6_term_17 : decode cX6_term 17 = .ok (.iconst 0, 1) := by decide +kernel
theorem dX6_term_18 : decode cX6_term 18 = .ok (.bipush 120, 2) := by decide +kernel
theorem dX6_term_20 : decode cX6_term 20 = .ok (.invokestatic 97, 3) := by decide +kernel
theorem dX6_term_23 : decode cX6_term 23 = .ok (.ifCond .eq 7, 3) := by decide +kernel
theorem dX6_term_26 : decode cX6_term 26 = .ok (.iconst 0, 1) := by decide +kernel
theorem dX6_term_27 : decode cX6_term 27 = .ok (.goto 4, 3) := by decide +kernel
theorem dX6_term_30 : decode cX6_term 30 = .ok (.iconst 2, 1) := by decide +kernel
theorem dX6_term_31 : decode cX6_term 31 = .ok (.invokevirtual 109, 3) := by decide +kernel
theorem dX6_term_34 : decode cX6_term 34 = .ok (.ifCond .ne 5, 3) := by decide +kernel
theorem dX6_term_37 : decode cX6_term 37 = .ok (.iconst 0, 1) := by decide +kernel
theorem dX6_term_38 : decode cX6_term 38 = .ok (.ireturn, 1) := by decide +kernel
theorem dX6_term_39 : decode cX6_term 39 = .ok (.aload_n 0, 1) := by decide +kernel
theorem dX6_term_40 : decode cX6_term 40 = .ok (.getfield 85, 3) := by decide +kernel
theorem dX6_term_43 : decode cX6_term 43 = .ok (.iload_n 1, 1) := by decide +kernel
theorem dX6_term_44 : decode cX6_term 44 = .ok (.iaload, 1) := by decide +kernel
theorem dX6_term_45 : decode cX6_term 45 = .ok (.istore 4, 2) := by decide +kernel
theorem dX6_term_47 : decode cX6_term 47 = .ok (.aload_n 0, 1) := by decide +kernel
theorem dX6_term_48 : decode cX6_term 48 = .ok (.getfield 85, 3) := by decide +kernel
theorem dX6_term_51 : decode cX6_term 51 = .ok (.iload_n 1, 1) := by decide +kernel
theorem dX6_term_52 : decode cX6_term 52 = .ok (.iload_n 2, 1) := by decide +kernel
theorem dX6_term_53 : decode cX6_term 53 = .ok (.iastore, 1) := by decide +kernel
theorem dX6_term_54 : decode cX6_term 54 = .ok (.iload 4, 2) := by decide +kernel
theorem dX6_term_56 : decode cX6_term 56 = .ok (.ireturn, 1) := by decide +kernel
theorem dX6_died_0 : decode cX6_died 0 = .ok (.aload_n 0, 1) := by decide +kernel
theorem dX6_died_1 : decode cX6_died 1 = .ok (.iload_n 1, 1) := by decide +kernel
theorem dX6_died_2 : decode cX6_died 2 = .ok (.invokevirtual 101, 3) := by decide +kernel
theorem dX6_died_5 : decode cX6_died 5 = .ok (.istore_n 3, 1) := by decide +kernel
theorem dX6_died_6 : decode cX6_died 6 = .ok (.aload_n 0, 1) := by decide +kernel
theorem dX6_died_7 : decode cX6_died 7 = .ok (.iload_n 3, 1) := by decide +kernel
theorem dX6_died_8 : decode cX6_died 8 = .ok (.ifCond .ne 7, 3) := by decide +kernel
theorem dX6_died_11 : decode cX6_died 11 = .ok (.iconst 1, 1) := by decide +kernel
theorem dX6_died_12 : decode cX6_died 12 = .ok (.goto 35, 3) := by decide +kernel
theorem dX6_died_15 : decode cX6_died 15 = .ok (.iload_n 2, 1) := by decide +kernel
theorem dX6_died_16 : decode cX6_died 16 = .ok (.sipush 1500, 3) := by decide +kernel
theorem dX6_died_19 : decode cX6_died 19 = .ok (.sipush 3000, 3) := by decide +kernel
theorem dX6_died_22 : decode cX6_died 22 = .ok (.invokestatic 97, 3) := by decide +kernel
theorem dX6_died_25 : decode cX6_died 25 = .ok (.ifCond .ne 7, 3) := by decide +kernel
theorem dX6_died_28 : decode cX6_died 28 = .ok (.iconst 2, 1) := by decide +kernel
theorem dX6_died_29 : decode cX6_died 29 = .ok (.goto 18, 3) := by decide +kernel
theorem dX6_died_32 : decode cX6_died 32 = .ok (.aload_n 0, 1) := by decide +kernel
theorem dX6_died_33 : decode cX6_died 33 = .ok (.getfield 22, 3) := by decide +kernel
theorem dX6_died_36 : decode cX6_died 36 = .ok (.iload_n 1, 1) := by decide +kernel
theorem dX6_died_37 : decode cX6_died 37 = .ok (.iaload, 1) := by decide +kernel
theorem dX6_died_38 : decode cX6_died 38 = .ok (.iconst (-1), 1) := by decide +kernel
theorem dX6_died_39 : decode cX6_died 39 = .ok (.if_icmp .eq 7, 3) := by decide +kernel
theorem dX6_died_42 : decode cX6_died 42 = .ok (.iconst 3, 1) := by decide +kernel
theorem dX6_died_43 : decode cX6_died 43 = .ok (.goto 4, 3) := by decide +kernel
theorem dX6_died_46 : decode cX6_died 46 = .ok (.iconst 0, 1) := by decide +kernel
theorem dX6_died_47 : decode cX6_died 47 = .ok (.invokevirtual 109, 3) := by decide +kernel
theorem dX6_died_50 : decode cX6_died 50 = .ok (.ifCond .eq 10, 3) := by decide +kernel
theorem dX6_died_53 : decode cX6_died 53 = .ok (.aload_n 0, 1) := by decide +kernel
theorem dX6_died_54 : decode cX6_died 54 = .ok (.getfield 22, 3) := by decide +kernel
theorem dX6_died_57 : decode cX6_died 57 = .ok (.iload_n 1, 1) := by decide +kernel
theorem dX6_died_58 : decode cX6_died 58 = .ok (.iload_n 2, 1) := by decide +kernel
theorem dX6_died_59 : decode cX6_died 59 = .ok (.iastore, 1) := by decide +kernel
theorem dX6_died_60 : decode cX6_died 60 = .ok (.return_, 1) := by decide +kernel
theorem dX6_search_0 : decode cX6_search 0 = .ok (.aload_n 0, 1) := by decide +kernel
theorem dX6_search_1 : decode cX6_search 1 = .ok (.aload_n 0, 1) := by decide +kernel
theorem dX6_search_2 : decode cX6_search 2 = .ok (.iload_n 1, 1) := by decide +kernel
theorem dX6_search_3 : decode cX6_search 3 = .ok (.invokevirtual 101, 3) := by decide +kernel
theorem dX6_search_6 : decode cX6_search 6 = .ok (.ifCond .eq 7, 3) := by decide +kernel
theorem dX6_search_9 : decode cX6_search 9 = .ok (.iconst 0, 1) := by decide +kernel
theorem dX6_search_10 : decode cX6_search 10 = .ok (.goto 4, 3) := by decide +kernel
theorem dX6_search_13 : decode cX6_search 13 = .ok (.iconst 1, 1) := by decide +kernel
theorem dX6_search_14 : decode cX6_search 14 = .ok (.invokevirtual 109, 3) := by decide +kernel
theorem dX6_search_17 : decode cX6_search 17 = .ok (.ifCond .ne 5, 3) := by decide +kernel
theorem dX6_search_20 : decode cX6_search 20 = .ok (.iconst 0, 1) := by decide +kernel
theorem dX6_search_21 : decode cX6_search 21 = .ok (.ireturn, 1) := by decide +kernel
theorem dX6_search_22 : decode cX6_search 22 = .ok (.aload_n 0, 1) := by decide +kernel
theorem dX6_search_23 : decode cX6_search 23 = .ok (.getfield 28, 3) := by decide +kernel
theorem dX6_search_26 : decode cX6_search 26 = .ok (.iload_n 1, 1) := by decide +kernel
theorem dX6_search_27 : decode cX6_search 27 = .ok (.baload, 1) := by decide +kernel
theorem dX6_search_28 : decode cX6_search 28 = .ok (.istore_n 2, 1) := by decide +kernel
theorem dX6_search_29 : decode cX6_search 29 = .ok (.aload_n 0, 1) := by decide +kernel
theorem dX6_search_30 : decode cX6_search 30 = .ok (.getfield 28, 3) := by decide +kernel
theorem dX6_search_33 : decode cX6_search 33 = .ok (.iload_n 1, 1) := by decide +kernel
theorem dX6_search_34 : decode cX6_search 34 = .ok (.iconst 1, 1) := by decide +kernel
theorem dX6_search_35 : decode cX6_search 35 = .ok (.bastore, 1) := by decide +kernel
theorem dX6_search_36 : decode cX6_search 36 = .ok (.iload_n 2, 1) := by decide +kernel
theorem dX6_search_37 : decode cX6_search 37 = .ok (.ireturn, 1) := by decide +kernel
theorem dX6_takeDown_0 : decode cX6_takeDown 0 = .ok (.aload_n 0, 1) := by decide +kernel
theorem dX6_takeDown_1 : decode cX6_takeDown 1 = .ok (.aload_n 0, 1) := by decide +kernel
theorem dX6_takeDown_2 : decode cX6_takeDown 2 = .ok (.iload_n 1, 1) := by decide +kernel
theorem dX6_takeDown_3 : decode cX6_takeDown 3 = .ok (.invokevirtual 101, 3) := by decide +kernel
theorem dX6_takeDown_6 : decode cX6_takeDown 6 = .ok (.ifCond .eq 7, 3) := by decide +kernel
theorem dX6_takeDown_9 : decode cX6_takeDown 9 = .ok (.iconst 0, 1) := by decide +kernel
theorem dX6_takeDown_10 : decode cX6_takeDown 10 = .ok (.goto 4, 3) := by decide +kernel
theorem dX6_takeDown_13 : decode cX6_takeDown 13 = .ok (.iconst 1, 1) := by decide +kernel
theorem dX6_takeDown_14 : decode cX6_takeDown 14 = .ok (.invokevirtual 109, 3) := by decide +kernel
theorem dX6_takeDown_17 : decode cX6_takeDown 17 = .ok (.ifCond .ne 5, 3) := by decide +kernel
theorem dX6_takeDown_20 : decode cX6_takeDown 20 = .ok (.iconst 0, 1) := by decide +kernel
theorem dX6_takeDown_21 : decode cX6_takeDown 21 = .ok (.ireturn, 1) := by decide +kernel
theorem dX6_takeDown_22 : decode cX6_takeDown 22 = .ok (.aload_n 0, 1) := by decide +kernel
theorem dX6_takeDown_23 : decode cX6_takeDown 23 = .ok (.getfield 32, 3) := by decide +kernel
theorem dX6_takeDown_26 : decode cX6_takeDown 26 = .ok (.iload_n 1, 1) := by decide +kernel
theorem dX6_takeDown_27 : decode cX6_takeDown 27 = .ok (.baload, 1) := by decide +kernel
theorem dX6_takeDown_28 : decode cX6_takeDown 28 = .ok (.istore_n 3, 1) := by decide +kernel
theorem dX6_takeDown_29 : decode cX6_takeDown 29 = .ok (.aload_n 0, 1) := by decide +kernel
theorem dX6_takeDown_30 : decode cX6_takeDown 30 = .ok (.getfield 32, 3) := by decide +kernel
theorem dX6_takeDown_33 : decode cX6_takeDown 33 = .ok (.iload_n 1, 1) := by decide +kernel
theorem dX6_takeDown_34 : decode cX6_takeDown 34 = .ok (.iload_n 2, 1) := by decide +kernel
theorem dX6_takeDown_35 : decode cX6_takeDown 35 = .ok (.bastore, 1) := by decide +kernel
theorem dX6_takeDown_36 : decode cX6_takeDown 36 = .ok (.iload_n 3, 1) := by decide +kernel
theorem dX6_takeDown_37 : decode cX6_takeDown 37 = .ok (.ireturn, 1) := by decide +kernel
theorem dX6_whyNot_0 : decode cX6_whyNot 0 = .ok (.aload_n 0, 1) := by decide +kernel
theorem dX6_whyNot_1 : decode cX6_whyNot 1 = .ok (.aload_n 0, 1) := by decide +kernel
theorem dX6_whyNot_2 : decode cX6_whyNot 2 = .ok (.iload_n 1, 1) := by decide +kernel
theorem dX6_whyNot_3 : decode cX6_whyNot 3 = .ok (.iload_n 2, 1) := by decide +kernel
theorem dX6_whyNot_4 : decode cX6_whyNot 4 = .ok (.invokevirtual 105, 3) := by decide +kernel
theorem dX6_whyNot_7 : decode cX6_whyNot 7 = .ok (.ifCond .eq 16, 3) := by decide +kernel
theorem dX6_whyNot_10 : decode cX6_whyNot 10 = .ok (.iload_n 3, 1) := by decide +kernel
theorem dX6_whyNot_11 : decode cX6_whyNot 11 = .ok (.iconst 0, 1) := by decide +kernel
theorem dX6_whyNot_12 : decode cX6_whyNot 12 = .ok (.iconst 3, 1) := by decide +kernel
theorem dX6_whyNot_13 : decode cX6_whyNot 13 = .ok (.invokestatic 97, 3) := by decide +kernel
theorem dX6_whyNot_16 : decode cX6_whyNot 16 = .ok (.ifCond .eq 7, 3) := by decide +kernel
theorem dX6_whyNot_19 : decode cX6_whyNot 19 = .ok (.iconst 0, 1) := by decide +kernel
theorem dX6_whyNot_20 : decode cX6_whyNot 20 = .ok (.goto 4, 3) := by decide +kernel
theorem dX6_whyNot_23 : decode cX6_whyNot 23 = .ok (.iconst 1, 1) := by decide +kernel
theorem dX6_whyNot_24 : decode cX6_whyNot 24 = .ok (.invokevirtual 109, 3) := by decide +kernel
theorem dX6_whyNot_27 : decode cX6_whyNot 27 = .ok (.ifCond .ne 5, 3) := by decide +kernel
theorem dX6_whyNot_30 : decode cX6_whyNot 30 = .ok (.iconst 0, 1) := by decide +kernel
theorem dX6_whyNot_31 : decode cX6_whyNot 31 = .ok (.ireturn, 1) := by decide +kernel
theorem dX6_whyNot_32 : decode cX6_whyNot 32 = .ok (.bipush 12, 2) := by decide +kernel
theorem dX6_whyNot_34 : decode cX6_whyNot 34 = .ok (.iload_n 1, 1) := by decide +kernel
theorem dX6_whyNot_35 : decode cX6_whyNot 35 = .ok (.imul, 1) := by decide +kernel
theorem dX6_whyNot_36 : decode cX6_whyNot 36 = .ok (.iload_n 2, 1) := by decide +kernel
theorem dX6_whyNot_37 : decode cX6_whyNot 37 = .ok (.iadd, 1) := by decide +kernel
theorem dX6_whyNot_38 : decode cX6_whyNot 38 = .ok (.istore 4, 2) := by decide +kernel
theorem dX6_whyNot_40 : decode cX6_whyNot 40 = .ok (.aload_n 0, 1) := by decide +kernel
theorem dX6_whyNot_41 : decode cX6_whyNot 41 = .ok (.getfield 22, 3) := by decide +kernel
theorem dX6_whyNot_44 : decode cX6_whyNot 44 = .ok (.iload_n 1, 1) := by decide +kernel
theorem dX6_whyNot_45 : decode cX6_whyNot 45 = .ok (.iaload, 1) := by decide +kernel
theorem dX6_whyNot_46 : decode cX6_whyNot 46 = .ok (.iconst (-1), 1) := by decide +kernel
theorem dX6_whyNot_47 : decode cX6_whyNot 47 = .ok (.if_icmp .eq 7, 3) := by decide +kernel
theorem dX6_whyNot_50 : decode cX6_whyNot 50 = .ok (.iconst 1, 1) := by decide +kernel
theorem dX6_whyNot_51 : decode cX6_whyNot 51 = .ok (.goto 4, 3) := by decide +kernel
theorem dX6_whyNot_54 : decode cX6_whyNot 54 = .ok (.iconst 0, 1) := by decide +kernel
theorem dX6_whyNot_55 : decode cX6_whyNot 55 = .ok (.istore 5, 2) := by decide +kernel
theorem dX6_whyNot_57 : decode cX6_whyNot 57 = .ok (.aload_n 0, 1) := by decide +kernel
theorem dX6_whyNot_58 : decode cX6_whyNot 58 = .ok (.getfield 35, 3) := by decide +kernel
theorem dX6_whyNot_61 : decode cX6_whyNot 61 = .ok (.iload 4, 2) := by decide +kernel
theorem dX6_whyNot_63 : decode cX6_whyNot 63 = .ok (.baload, 1) := by decide +kernel
theorem dX6_whyNot_64 : decode cX6_whyNot 64 = .ok (.ifCond .ne 7, 3) := by decide +kernel
theorem dX6_whyNot_67 : decode cX6_whyNot 67 = .ok (.iconst 1, 1) := by decide +kernel
theorem dX6_whyNot_68 : decode cX6_whyNot 68 = .ok (.goto 77, 3) := by decide +kernel
theorem dX6_whyNot_71 : decode cX6_whyNot 71 = .ok (.aload_n 0, 1) := by decide +kernel
theorem dX6_whyNot_72 : decode cX6_whyNot 72 = .ok (.getfield 32, 3) := by decide +kernel
theorem dX6_whyNot_75 : decode cX6_whyNot 75 = .ok (.iload_n 1, 1) := by decide +kernel
theorem dX6_whyNot_76 : decode cX6_whyNot 76 = .ok (.baload, 1) := by decide +kernel
theorem dX6_whyNot_77 : decode cX6_whyNot 77 = .ok (.ifCond .eq 7, 3) := by decide +kernel
theorem dX6_whyNot_80 : decode cX6_whyNot 80 = .ok (.iconst 2, 1) := by decide +kernel
theorem dX6_whyNot_81 : decode cX6_whyNot 81 = .ok (.goto 64, 3) := by decide +kernel
theorem dX6_whyNot_84 : decode cX6_whyNot 84 = .ok (.iload 5, 2) := by decide +kernel
theorem dX6_whyNot_86 : decode cX6_whyNot 86 = .ok (.ifCond .ne 16, 3) := by decide +kernel
theorem dX6_whyNot_89 : decode cX6_whyNot 89 = .ok (.aload_n 0, 1) := by decide +kernel
theorem dX6_whyNot_90 : decode cX6_whyNot 90 = .ok (.getfield 28, 3) := by decide +kernel
theorem dX6_whyNot_93 : decode cX6_whyNot 93 = .ok (.iload_n 1, 1) := by decide +kernel
theorem dX6_whyNot_94 : decode cX6_whyNot 94 = .ok (.baload, 1) := by decide +kernel
theorem dX6_whyNot_95 : decode cX6_whyNot 95 = .ok (.ifCond .ne 7, 3) := by decide +kernel
theorem dX6_whyNot_98 : decode cX6_whyNot 98 = .ok (.iconst 3, 1) := by decide +kernel
theorem dX6_whyNot_99 : decode cX6_whyNot 99 = .ok (.goto 46, 3) := by decide +kernel
theorem dX6_whyNot_102 : decode cX6_whyNot 102 = .ok (.iload 5, 2) := by decide +kernel
theorem dX6_whyNot_104 : decode cX6_whyNot 104 = .ok (.ifCond .eq 27, 3) := by decide +kernel
theorem dX6_whyNot_107 : decode cX6_whyNot 107 = .ok (.aload_n 0, 1) := by decide +kernel
theorem dX6_whyNot_108 : decode cX6_whyNot 108 = .ok (.getfield 81, 3) := by decide +kernel
theorem dX6_whyNot_111 : decode cX6_whyNot 111 = .ok (.aload_n 0, 1) := by decide +kernel
theorem dX6_whyNot_112 : decode cX6_whyNot 112 = .ok (.getfield 22, 3) := by decide +kernel
theorem dX6_whyNot_115 : decode cX6_whyNot 115 = .ok (.iload_n 1, 1) := by decide +kernel
theorem dX6_whyNot_116 : decode cX6_whyNot 116 = .ok (.iaload, 1) := by decide +kernel
theorem dX6_whyNot_117 : decode cX6_whyNot 117 = .ok (.aload_n 0, 1) := by decide +kernel
theorem dX6_whyNot_118 : decode cX6_whyNot 118 = .ok (.getfield 85, 3) := by decide +kernel
theorem dX6_whyNot_121 : decode cX6_whyNot 121 = .ok (.iload_n 3, 1) := by decide +kernel
theorem dX6_whyNot_122 : decode cX6_whyNot 122 = .ok (.iaload, 1) := by decide +kernel
theorem dX6_whyNot_123 : decode cX6_whyNot 123 = .ok (.iadd, 1) := by decide +kernel
theorem dX6_whyNot_124 : decode cX6_whyNot 124 = .ok (.if_icmp .gt 7, 3) := by decide +kernel
theorem dX6_whyNot_127 : decode cX6_whyNot 127 = .ok (.iconst 4, 1) := by decide +kernel
theorem dX6_whyNot_128 : decode cX6_whyNot 128 = .ok (.goto 17, 3) := by decide +kernel
theorem dX6_whyNot_131 : decode cX6_whyNot 131 = .ok (.aload_n 0, 1) := by decide +kernel
theorem dX6_whyNot_132 : decode cX6_whyNot 132 = .ok (.iload 4, 2) := by decide +kernel
theorem dX6_whyNot_134 : decode cX6_whyNot 134 = .ok (.invokevirtual 145, 3) := by decide +kernel
theorem dX6_whyNot_137 : decode cX6_whyNot 137 = .ok (.ifCond .eq 7, 3) := by decide +kernel
theorem dX6_whyNot_140 : decode cX6_whyNot 140 = .ok (.iconst 5, 1) := by decide +kernel
theorem dX6_whyNot_141 : decode cX6_whyNot 141 = .ok (.goto 4, 3) := by decide +kernel
theorem dX6_whyNot_144 : decode cX6_whyNot 144 = .ok (.iconst 0, 1) := by decide +kernel
theorem dX6_whyNot_145 : decode cX6_whyNot 145 = .ok (.ireturn, 1) := by decide +kernel
theorem dX6_about_0 : decode cX6_about 0 = .ok (.aload_n 0, 1) := by decide +kernel
theorem dX6_about_1 : decode cX6_about 1 = .ok (.iload_n 1, 1) := by decide +kernel
theorem dX6_about_2 : decode cX6_about 2 = .ok (.invokevirtual 101, 3) := by decide +kernel
theorem dX6_about_5 : decode cX6_about 5 = .ok (.istore_n 3, 1) := by decide +kernel
theorem dX6_about_6 : decode cX6_about 6 = .ok (.aload_n 0, 1) := by decide +kernel
theorem dX6_about_7 : decode cX6_about 7 = .ok (.iload_n 3, 1) := by decide +kernel
theorem dX6_about_8 : decode cX6_about 8 = .ok (.ifCond .ne 7, 3) := by decide +kernel
theorem dX6_about_11 : decode cX6_about 11 = .ok (.iconst 1, 1) := by decide +kernel
theorem dX6_about_12 : decode cX6_about 12 = .ok (.goto 17, 3) := by decide +kernel
theorem dX6_about_15 : decode cX6_about 15 = .ok (.iload_n 2, 1) := by decide +kernel
theorem dX6_about_16 : decode cX6_about 16 = .ok (.iconst 0, 1) := by decide +kernel
theorem dX6_about_17 : decode cX6_about 17 = .ok (.iconst 5, 1) := by decide +kernel
theorem dX6_about_18 : decode cX6_about 18 = .ok (.invokestatic 97, 3) := by decide +kernel
theorem dX6_about_21 : decode cX6_about 21 = .ok (.ifCond .eq 7, 3) := by decide +kernel
theorem dX6_about_24 : decode cX6_about 24 = .ok (.iconst 0, 1) := by decide +kernel
theorem dX6_about_25 : decode cX6_about 25 = .ok (.goto 4, 3) := by decide +kernel
theorem dX6_about_28 : decode cX6_about 28 = .ok (.iconst 2, 1) := by decide +kernel
theorem dX6_about_29 : decode cX6_about 29 = .ok (.invokevirtual 109, 3) := by decide +kernel
theorem dX6_about_32 : decode cX6_about 32 = .ok (.ifCond .ne 5, 3) := by decide +kernel
theorem dX6_about_35 : decode cX6_about 35 = .ok (.iconst 0, 1) := by decide +kernel
theorem dX6_about_36 : decode cX6_about 36 = .ok (.ireturn, 1) := by decide +kernel
theorem dX6_about_37 : decode cX6_about 37 = .ok (.iconst 0, 1) := by decide +kernel
theorem dX6_about_38 : decode cX6_about 38 = .ok (.istore 4, 2) := by decide +kernel
theorem dX6_about_40 : decode cX6_about 40 = .ok (.iconst 0, 1) := by decide +kernel
theorem dX6_about_41 : decode cX6_about 41 = .ok (.istore 5, 2) := by decide +kernel
theorem dX6_about_43 : decode cX6_about 43 = .ok (.iconst 0, 1) := by decide +kernel
theorem dX6_about_44 : decode cX6_about 44 = .ok (.istore 6, 2) := by decide +kernel
theorem dX6_about_46 : decode cX6_about 46 = .ok (.iload 6, 2) := by decide +kernel
theorem dX6_about_48 : decode cX6_about 48 = .ok (.aload_n 0, 1) := by decide +kernel
theorem dX6_about_49 : decode cX6_about 49 = .ok (.getfield 7, 3) := by decide +kernel
theorem dX6_about_52 : decode cX6_about 52 = .ok (.iload_n 1, 1) := by decide +kernel
theorem dX6_about_53 : decode cX6_about 53 = .ok (.iaload, 1) := by decide +kernel
theorem dX6_about_54 : decode cX6_about 54 = .ok (.if_icmp .ge 58, 3) := by decide +kernel
theorem dX6_about_57 : decode cX6_about 57 = .ok (.iload 4, 2) := by decide +kernel
theorem dX6_about_59 : decode cX6_about 59 = .ok (.aload_n 0, 1) := by decide +kernel
theorem dX6_about_60 : decode cX6_about 60 = .ok (.getfield 41, 3) := by decide +kernel
theorem dX6_about_63 : decode cX6_about 63 = .ok (.bipush 12, 2) := by decide +kernel
theorem dX6_about_65 : decode cX6_about 65 = .ok (.iload_n 1, 1) := by decide +kernel
theorem dX6_about_66 : decode cX6_about 66 = .ok (.imul, 1) := by decide +kernel
theorem dX6_about_67 : decode cX6_about 67 = .ok (.iload 6, 2) := by decide +kernel
theorem dX6_about_69 : decode cX6_about 69 = .ok (.iadd, 1) := by decide +kernel
theorem dX6_about_70 : decode cX6_about 70 = .ok (.baload, 1) := by decide +kernel
theorem dX6_about_71 : decode cX6_about 71 = .ok (.ifCond .eq 7, 3) := by decide +kernel
theorem dX6_about_74 : decode cX6_about 74 = .ok (.iconst 1, 1) := by decide +kernel
theorem dX6_about_75 : decode cX6_about 75 = .ok (.goto 4, 3) := by decide +kernel
theorem dX6_about_78 : decode cX6_about 78 = .ok (.iconst 0, 1) := by decide +kernel
theorem dX6_about_79 : decode cX6_about 79 = .ok (.iadd, 1) := by decide +kernel
theorem dX6_about_80 : decode cX6_about 80 = .ok (.istore 4, 2) := by decide +kernel
theorem dX6_about_82 : decode cX6_about 82 = .ok (.iload 5, 2) := by decide +kernel
theorem dX6_about_84 : decode cX6_about 84 = .ok (.aload_n 0, 1) := by decide +kernel
theorem dX6_about_85 : decode cX6_about 85 = .ok (.bipush 12, 2) := by decide +kernel
theorem dX6_about_87 : decode cX6_about 87 = .ok (.iload_n 1, 1) := by decide +kernel
theorem dX6_about_88 : decode cX6_about 88 = .ok (.imul, 1) := by decide +kernel
theorem dX6_about_89 : decode cX6_about 89 = .ok (.iload 6, 2) := by decide +kernel
theorem dX6_about_91 : decode cX6_about 91 = .ok (.iadd, 1) := by decide +kernel
theorem dX6_about_92 : decode cX6_about 92 = .ok (.invokevirtual 145, 3) := by decide +kernel
theorem dX6_about_95 : decode cX6_about 95 = .ok (.ifCond .eq 7, 3) := by decide +kernel
theorem dX6_about_98 : decode cX6_about 98 = .ok (.iconst 1, 1) := by decide +kernel
theorem dX6_about_99 : decode cX6_about 99 = .ok (.goto 4, 3) := by decide +kernel
theorem dX6_about_102 : decode cX6_about 102 = .ok (.iconst 0, 1) := by decide +kernel
theorem dX6_about_103 : decode cX6_about 103 = .ok (.iadd, 1) := by decide +kernel
theorem dX6_about_104 : decode cX6_about 104 = .ok (.istore 5, 2) := by decide +kernel
theorem dX6_about_106 : decode cX6_about 106 = .ok (.iinc 6 1, 3) := by decide +kernel
theorem dX6_about_109 : decode cX6_about 109 = .ok (.goto (-63), 3) := by decide +kernel
theorem dX6_about_112 : decode cX6_about 112 = .ok (.iload_n 2, 1) := by decide +kernel
theorem dX6_about_113 : decode cX6_about 113 = .ok (.ifCond .ne 12, 3) := by decide +kernel
theorem dX6_about_116 : decode cX6_about 116 = .ok (.aload_n 0, 1) := by decide +kernel
theorem dX6_about_117 : decode cX6_about 117 = .ok (.getfield 16, 3) := by decide +kernel
theorem dX6_about_120 : decode cX6_about 120 = .ok (.iload_n 1, 1) := by decide +kernel
theorem dX6_about_121 : decode cX6_about 121 = .ok (.iaload, 1) := by decide +kernel
theorem dX6_about_122 : decode cX6_about 122 = .ok (.goto 56, 3) := by decide +kernel
theorem dX6_about_125 : decode cX6_about 125 = .ok (.iload_n 2, 1) := by decide +kernel
theorem dX6_about_126 : decode cX6_about 126 = .ok (.iconst 1, 1) := by decide +kernel
theorem dX6_about_127 : decode cX6_about 127 = .ok (.if_icmp .ne 11, 3) := by decide +kernel
theorem dX6_about_130 : decode cX6_about 130 = .ok (.aload_n 0, 1) := by decide +kernel
theorem dX6_about_131 : decode cX6_about 131 = .ok (.iload_n 1, 1) := by decide +kernel
theorem dX6_about_132 : decode cX6_about 132 = .ok (.invokevirtual 112, 3) := by decide +kernel
theorem dX6_about_135 : decode cX6_about 135 = .ok (.goto 43, 3) := by decide +kernel
theorem dX6_about_138 : decode cX6_about 138 = .ok (.iload_n 2, 1) := by decide +kernel
theorem dX6_about_139 : decode cX6_about 139 = .ok (.iconst 2, 1) := by decide +kernel
theorem dX6_about_140 : decode cX6_about 140 = .ok (.if_icmp .ne 8, 3) := by decide +kernel
theorem dX6_about_143 : decode cX6_about 143 = .ok (.iload 4, 2) := by decide +kernel
theorem dX6_about_145 : decode cX6_about 145 = .ok (.goto 33, 3) := by decide +kernel
theorem dX6_about_148 : decode cX6_about 148 = .ok (.iload_n 2, 1) := by decide +kernel
theorem dX6_about_149 : decode cX6_about 149 = .ok (.iconst 3, 1) := by decide +kernel
theorem dX6_about_150 : decode cX6_about 150 = .ok (.if_icmp .ne 8, 3) := by decide +kernel
theorem dX6_about_153 : decode cX6_about 153 = .ok (.iload 5, 2) := by decide +kernel
theorem dX6_about_155 : decode cX6_about 155 = .ok (.goto 23, 3) := by decide +kernel
theorem dX6_about_158 : decode cX6_about 158 = .ok (.iload_n 2, 1) := by decide +kernel
theorem dX6_about_159 : decode cX6_about 159 = .ok (.iconst 4, 1) := by decide +kernel
theorem dX6_about_160 : decode cX6_about 160 = .ok (.if_icmp .ne 12, 3) := by decide +kernel
theorem dX6_about_163 : decode cX6_about 163 = .ok (.aload_n 0, 1) := by decide +kernel
theorem dX6_about_164 : decode cX6_about 164 = .ok (.getfield 22, 3) := by decide +kernel
theorem dX6_about_167 : decode cX6_about 167 = .ok (.iload_n 1, 1) := by decide +kernel
theorem dX6_about_168 : decode cX6_about 168 = .ok (.iaload, 1) := by decide +kernel
theorem dX6_about_169 : decode cX6_about 169 = .ok (.goto 9, 3) := by decide +kernel
theorem dX6_about_172 : decode cX6_about 172 = .ok (.aload_n 0, 1) := by decide +kernel
theorem dX6_about_173 : decode cX6_about 173 = .ok (.getfield 25, 3) := by decide +kernel
theorem dX6_about_176 : decode cX6_about 176 = .ok (.iload_n 1, 1) := by decide +kernel
theorem dX6_about_177 : decode cX6_about 177 = .ok (.iaload, 1) := by decide +kernel
theorem dX6_about_178 : decode cX6_about 178 = .ok (.ireturn, 1) := by decide +kernel
