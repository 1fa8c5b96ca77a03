theorem dX12_townPart_116 : decode cX12_townPart 116 = .ok (.aload_n 0, 1) := by decide +kernel
theorem dX12_townPart_117 : decode cX12_townPart 117 = .ok (.getfield 70, 3) := by decide +kernel
theorem dX12_townPart_120 : decode cX12_townPart 120 = .ok (.iload_n 2, 1) := by decide +kernel
theorem dX12_townPart_121 : decode cX12_townPart 121 = .ok (.aload_n 0, 1) := by decide +kernel
theorem dX12_townPart_122 : decode cX12_townPart 122 = .ok (.iconst 0, 1) := by decide +kernel
theorem dX12_townPart_123 : decode cX12_townPart 123 = .ok (.bipush 40, 2) := by decide +kernel
theorem dX12_townPart_125 : decode cX12_townPart 125 = .ok (.invokevirtual 327, 3) := by decide +kernel
theorem dX12_townPart_128 : decode cX12_townPart 128 = .ok (.bipush 20, 2) := by decide +kernel
theorem dX12_townPart_130 : decode cX12_townPart 130 = .ok (.isub, 1) := by decide +kernel
theorem dX12_townPart_131 : decode cX12_townPart 131 = .ok (.iastore, 1) := by decide +kernel
theorem dX12_townPart_132 : decode cX12_townPart 132 = .ok (.aload_n 0, 1) := by decide +kernel
theorem dX12_townPart_133 : decode cX12_townPart 133 = .ok (.getfield 64, 3) := by decide +kernel
theorem dX12_townPart_136 : decode cX12_townPart 136 = .ok (.iconst 3, 1) := by decide +kernel
theorem dX12_townPart_137 : decode cX12_townPart 137 = .ok (.dup2, 1) := by decide +kernel
theorem dX12_townPart_138 : decode cX12_townPart 138 = .ok (.iaload, 1) := by decide +kernel
theorem dX12_townPart_139 : decode cX12_townPart 139 = .ok (.iconst 1, 1) := by decide +kernel
theorem dX12_townPart_140 : decode cX12_townPart 140 = .ok (.iadd, 1) := by decide +kernel
theorem dX12_townPart_141 : decode cX12_townPart 141 = .ok (.iastore, 1) := by decide +kernel
theorem dX12_townPart_142 : decode cX12_townPart 142 = .ok (.goto 77, 3) := by decide +kernel
theorem dX12_townPart_145 : decode cX12_townPart 145 = .ok (.aload_n 0, 1) := by decide +kernel
theorem dX12_townPart_146 : decode cX12_townPart 146 = .ok (.invokevirtual 331, 3) := by decide +kernel
theorem dX12_townPart_149 : decode cX12_townPart 149 = .ok (.istore_n 2, 1) := by decide +kernel
theorem dX12_townPart_150 : decode cX12_townPart 150 = .ok (.aload_n 0, 1) := by decide +kernel
theorem dX12_townPart_151 : decode cX12_townPart 151 = .ok (.getfield 64, 3) := by decide +kernel
theorem dX12_townPart_154 : decode cX12_townPart 154 = .ok (.bipush 8, 2) := by decide +kernel
theorem dX12_townPart_156 : decode cX12_townPart 156 = .ok (.dup2, 1) := by decide +kernel
theorem dX12_townPart_157 : decode cX12_townPart 157 = .ok (.iaload, 1) := by decide +kernel
theorem dX12_townPart_158 : decode cX12_townPart 158 = .ok (.aload_n 0, 1) := by decide +kernel
theorem dX12_townPart_159 : decode cX12_townPart 159 = .ok (.getfield 224, 3) := by decide +kernel
theorem dX12_townPart_162 : decode cX12_townPart 162 = .ok (.ifCond .ne 9, 3) := by decide +kernel
theorem dX12_townPart_165 : decode cX12_townPart 165 = .ok (.iconst 1, 1) := by decide +kernel
theorem dX12_townPart_166 : decode cX12_townPart 166 = .ok (.iload_n 2, 1) := by decide +kernel
theorem dX12_townPart_167 : decode cX12_townPart 167 = .ok (.ishl, 1) := by decide +kernel
theorem dX12_townPart_168 : decode cX12_townPart 168 = .ok (.goto 4, 3) := by decide +kernel
theorem dX12_townPart_171 : decode cX12_townPart 171 = .ok (.iconst 0, 1) := by decide +kernel
theorem dX12_townPart_172 : decode cX12_townPart 172 = .ok (.ior, 1) := by decide +kernel
theorem dX12_townPart_173 : decode cX12_townPart 173 = .ok (.iastore, 1) := by decide +kernel
theorem dX12_townPart_174 : decode cX12_townPart 174 = .ok (.goto 45, 3) := by decide +kernel
theorem dX12_townPart_177 : decode cX12_townPart 177 = .ok (.aload_n 0, 1) := by decide +kernel
theorem dX12_townPart_178 : decode cX12_townPart 178 = .ok (.invokevirtual 334, 3) := by decide +kernel
theorem dX12_townPart_181 : decode cX12_townPart 181 = .ok (.goto 38, 3) := by decide +kernel
theorem dX12_townPart_184 : decode cX12_townPart 184 = .ok (.aload_n 0, 1) := by decide +kernel
theorem dX12_townPart_185 : decode cX12_townPart 185 = .ok (.getfield 64, 3) := by decide +kernel
theorem dX12_townPart_188 : decode cX12_townPart 188 = .ok (.iconst 5, 1) := by decide +kernel
theorem dX12_townPart_189 : decode cX12_townPart 189 = .ok (.aload_n 0, 1) := by decide +kernel
theorem dX12_townPart_190 : decode cX12_townPart 190 = .ok (.iconst 0, 1) := by decide +kernel
theorem dX12_townPart_191 : decode cX12_townPart 191 = .ok (.bipush 9, 2) := by decide +kernel
theorem dX12_townPart_193 : decode cX12_townPart 193 = .ok (.invokevirtual 327, 3) := by decide +kernel
theorem dX12_townPart_196 : decode cX12_townPart 196 = .ok (.iastore, 1) := by decide +kernel
theorem dX12_townPart_197 : decode cX12_townPart 197 = .ok (.aload_n 0, 1) := by decide +kernel
theorem dX12_townPart_198 : decode cX12_townPart 198 = .ok (.getfield 64, 3) := by decide +kernel
theorem dX12_townPart_201 : decode cX12_townPart 201 = .ok (.bipush 6, 2) := by decide +kernel
theorem dX12_townPart_203 : decode cX12_townPart 203 = .ok (.aload_n 0, 1) := by decide +kernel
theorem dX12_townPart_204 : decode cX12_townPart 204 = .ok (.iconst 0, 1) := by decide +kernel
theorem dX12_townPart_205 : decode cX12_townPart 205 = .ok (.bipush 9, 2) := by decide +kernel
theorem dX12_townPart_207 : decode cX12_townPart 207 = .ok (.invokevirtual 327, 3) := by decide +kernel
theorem dX12_townPart_210 : decode cX12_townPart 210 = .ok (.iastore, 1) := by decide +kernel
theorem dX12_townPart_211 : decode cX12_townPart 211 = .ok (.aload_n 0, 1) := by decide +kernel
theorem dX12_townPart_212 : decode cX12_townPart 212 = .ok (.getfield 64, 3) := by decide +kernel
theorem dX12_townPart_215 : decode cX12_townPart 215 = .ok (.bipush 7, 2) := by decide +kernel
theorem dX12_townPart_217 : decode cX12_townPart 217 = .ok (.iconst 1, 1) := by decide +kernel
theorem dX12_townPart_218 : decode cX12_townPart 218 = .ok (.iastore, 1) := by decide +kernel
theorem dX12_townPart_219 : decode cX12_townPart 219 = .ok (.return_, 1) := by decide +kernel
theorem dX12_isFull_0 : decode cX12_isFull 0 = .ok (.iload_n 2, 1) := by decide +kernel
theorem dX12_isFull_1 : decode cX12_isFull 1 = .ok (.bipush 40, 2) := by decide +kernel
theorem dX12_isFull_3 : decode cX12_isFull 3 = .ok (.if_icmp .eq 24, 3) := by decide +kernel
theorem dX12_isFull_6 : decode cX12_isFull 6 = .ok (.iload_n 1, 1) := by decide +kernel
theorem dX12_isFull_7 : decode cX12_isFull 7 = .ok (.ifCond .ne 7, 3) := by decide +kernel
theorem dX12_isFull_10 : decode cX12_isFull 10 = .ok (.iconst 1, 1) := by decide +kernel
theorem dX12_isFull_11 : decode cX12_isFull 11 = .ok (.goto 4, 3) := by decide +kernel
theorem dX12_isFull_14 : decode cX12_isFull 14 = .ok (.iconst 0, 1) := by decide +kernel
theorem dX12_isFull_15 : decode cX12_isFull 15 = .ok (.iload_n 2, 1) := by decide +kernel
theorem dX12_isFull_16 : decode cX12_isFull 16 = .ok (.ifCond .ne 7, 3) := by decide +kernel
theorem dX12_isFull_19 : decode cX12_isFull 19 = .ok (.iconst 1, 1) := by decide +kernel
theorem dX12_isFull_20 : decode cX12_isFull 20 = .ok (.goto 4, 3) := by decide +kernel
theorem dX12_isFull_23 : decode cX12_isFull 23 = .ok (.iconst 0, 1) := by decide +kernel
theorem dX12_isFull_24 : decode cX12_isFull 24 = .ok (.if_icmp .eq 5, 3) := by decide +kernel
theorem dX12_isFull_27 : decode cX12_isFull 27 = .ok (.iconst 1, 1) := by decide +kernel
theorem dX12_isFull_28 : decode cX12_isFull 28 = .ok (.ireturn, 1) := by decide +kernel
theorem dX12_isFull_29 : decode cX12_isFull 29 = .ok (.iload_n 1, 1) := by decide +kernel
theorem dX12_isFull_30 : decode cX12_isFull 30 = .ok (.tableswitch 80 1 4 #[30, 80, 46, 63], 30) := by decide +kernel
theorem dX12_isFull_60 : decode cX12_isFull 60 = .ok (.aload_n 0, 1) := by decide +kernel
theorem dX12_isFull_61 : decode cX12_isFull 61 = .ok (.getfield 64, 3) := by decide +kernel
theorem dX12_isFull_64 : decode cX12_isFull 64 = .ok (.iconst 3, 1) := by decide +kernel
theorem dX12_isFull_65 : decode cX12_isFull 65 = .ok (.iaload, 1) := by decide +kernel
theorem dX12_isFull_66 : decode cX12_isFull 66 = .ok (.iconst 5, 1) := by decide +kernel
theorem dX12_isFull_67 : decode cX12_isFull 67 = .ok (.if_icmp .ne 7, 3) := by decide +kernel
theorem dX12_isFull_70 : decode cX12_isFull 70 = .ok (.iconst 1, 1) := by decide +kernel
theorem dX12_isFull_71 : decode cX12_isFull 71 = .ok (.goto 4, 3) := by decide +kernel
theorem dX12_isFull_74 : decode cX12_isFull 74 = .ok (.iconst 0, 1) := by decide +kernel
theorem dX12_isFull_75 : decode cX12_isFull 75 = .ok (.ireturn, 1) := by decide +kernel
theorem dX12_isFull_76 : decode cX12_isFull 76 = .ok (.aload_n 0, 1) := by decide +kernel
theorem dX12_isFull_77 : decode cX12_isFull 77 = .ok (.getfield 64, 3) := by decide +kernel
theorem dX12_isFull_80 : decode cX12_isFull 80 = .ok (.iconst 4, 1) := by decide +kernel
theorem dX12_isFull_81 : decode cX12_isFull 81 = .ok (.iaload, 1) := by decide +kernel
theorem dX12_isFull_82 : decode cX12_isFull 82 = .ok (.bipush 8, 2) := by decide +kernel
theorem dX12_isFull_84 : decode cX12_isFull 84 = .ok (.if_icmp .ne 7, 3) := by decide +kernel
theorem dX12_isFull_87 : decode cX12_isFull 87 = .ok (.iconst 1, 1) := by decide +kernel
theorem dX12_isFull_88 : decode cX12_isFull 88 = .ok (.goto 4, 3) := by decide +kernel
theorem dX12_isFull_91 : decode cX12_isFull 91 = .ok (.iconst 0, 1) := by decide +kernel
theorem dX12_isFull_92 : decode cX12_isFull 92 = .ok (.ireturn, 1) := by decide +kernel
theorem dX12_isFull_93 : decode cX12_isFull 93 = .ok (.aload_n 0, 1) := by decide +kernel
theorem dX12_isFull_94 : decode cX12_isFull 94 = .ok (.getfield 64, 3) := by decide +kernel
theorem dX12_isFull_97 : decode cX12_isFull 97 = .ok (.bipush 7, 2) := by decide +kernel
theorem dX12_isFull_99 : decode cX12_isFull 99 = .ok (.iaload, 1) := by decide +kernel
theorem dX12_isFull_100 : decode cX12_isFull 100 = .ok (.iconst 1, 1) := by decide +kernel
theorem dX12_isFull_101 : decode cX12_isFull 101 = .ok (.if_icmp .ne 7, 3) := by decide +kernel
theorem dX12_isFull_104 : decode cX12_isFull 104 = .ok (.iconst 1, 1) := by decide +kernel
theorem dX12_isFull_105 : decode cX12_isFull 105 = .ok (.goto 4, 3) := by decide +kernel
theorem dX12_isFull_108 : decode cX12_isFull 108 = .ok (.iconst 0, 1) := by decide +kernel
theorem dX12_isFull_109 : decode cX12_isFull 109 = .ok (.ireturn, 1) := by decide +kernel
theorem dX12_isFull_110 : decode cX12_isFull 110 = .ok (.iconst 0, 1) := by decide +kernel
theorem dX12_isFull_111 : decode cX12_isFull 111 = .ok (.ireturn, 1) := by decide +kernel
theorem dX12_townClause_0 : decode cX12_townClause 0 = .ok (.aload_n 0, 1) := by decide +kernel
theorem dX12_townClause_1 : decode cX12_townClause 1 = .ok (.invokevirtual 246, 3) := by decide +kernel
theorem dX12_townClause_4 : decode cX12_townClause 4 = .ok (.aload_n 0, 1) := by decide +kernel
theorem dX12_townClause_5 : decode cX12_townClause 5 = .ok (.getfield 227, 3) := by decide +kernel
theorem dX12_townClause_8 : decode cX12_townClause 8 = .ok (.istore_n 2, 1) := by decide +kernel
theorem dX12_townClause_9 : decode cX12_townClause 9 = .ok (.iconst 0, 1) := by decide +kernel
theorem dX12_townClause_10 : decode cX12_townClause 10 = .ok (.istore_n 3, 1) := by decide +kernel
theorem dX12_townClause_11 : decode cX12_townClause 11 = .ok (.iload_n 3, 1) := by decide +kernel
theorem dX12_townClause_12 : decode cX12_townClause 12 = .ok (.iconst 5, 1) := by decide +kernel
theorem dX12_townClause_13 : decode cX12_townClause 13 = .ok (.if_icmp .ge 20, 3) := by decide +kernel
theorem dX12_townClause_16 : decode cX12_townClause 16 = .ok (.aload_n 0, 1) := by decide +kernel
theorem dX12_townClause_17 : decode cX12_townClause 17 = .ok (.iload_n 3, 1) := by decide +kernel
theorem dX12_townClause_18 : decode cX12_townClause 18 = .ok (.invokestatic 337, 3) := by decide +kernel
theorem dX12_townClause_21 : decode cX12_townClause 21 = .ok (.invokevirtual 249, 3) := by decide +kernel
theorem dX12_townClause_24 : decode cX12_townClause 24 = .ok (.ifCond .ne 9, 3) := by decide +kernel
theorem dX12_townClause_27 : decode cX12_townClause 27 = .ok (.iinc 3 1, 3) := by decide +kernel
theorem dX12_townClause_30 : decode cX12_townClause 30 = .ok (.goto (-19), 3) := by decide +kernel
theorem dX12_townClause_33 : decode cX12_townClause 33 = .ok (.iload_n 3, 1) := by decide +kernel
theorem dX12_townClause_34 : decode cX12_townClause 34 = .ok (.iconst 5, 1) := by decide +kernel
theorem dX12_townClause_35 : decode cX12_townClause 35 = .ok (.if_icmp .ne 10, 3) := by decide +kernel
theorem dX12_townClause_38 : decode cX12_townClause 38 = .ok (.aload_n 0, 1) := by decide +kernel
theorem dX12_townClause_39 : decode cX12_townClause 39 = .ok (.iconst 0, 1) := by decide +kernel
theorem dX12_townClause_40 : decode cX12_townClause 40 = .ok (.iload_n 2, 1) := by decide +kernel
theorem dX12_townClause_41 : decode cX12_townClause 41 = .ok (.invokevirtual 262, 3) := by decide +kernel
theorem dX12_townClause_44 : decode cX12_townClause 44 = .ok (.return_, 1) := by decide +kernel
theorem dX12_townClause_45 : decode cX12_townClause 45 = .ok (.aload_n 0, 1) := by decide +kernel
theorem dX12_townClause_46 : decode cX12_townClause 46 = .ok (.iload_n 3, 1) := by decide +kernel
theorem dX12_townClause_47 : decode cX12_townClause 47 = .ok (.iload_n 1, 1) := by decide +kernel
theorem dX12_townClause_48 : decode cX12_townClause 48 = .ok (.invokevirtual 340, 3) := by decide +kernel
theorem dX12_townClause_51 : decode cX12_townClause 51 = .ok (.ifCond .eq 10, 3) := by decide +kernel
theorem dX12_townClause_54 : decode cX12_townClause 54 = .ok (.aload_n 0, 1) := by decide +kernel
theorem dX12_townClause_55 : decode cX12_townClause 55 = .ok (.iconst 4, 1) := by decide +kernel
theorem dX12_townClause_56 : decode cX12_townClause 56 = .ok (.iload_n 2, 1) := by decide +kernel
theorem dX12_townClause_57 : decode cX12_townClause 57 = .ok (.invokevirtual 262, 3) := by decide +kernel
theorem dX12_townClause_60 : decode cX12_townClause 60 = .ok (.return_, 1) := by decide +kernel
theorem dX12_townClause_61 : decode cX12_townClause 61 = .ok (.aload_n 0, 1) := by decide +kernel
theorem dX12_townClause_62 : decode cX12_townClause 62 = .ok (.dup, 1) := by decide +kernel
theorem dX12_townClause_63 : decode cX12_townClause 63 = .ok (.getfield 227, 3) := by decide +kernel
theorem dX12_townClause_66 : decode cX12_townClause 66 = .ok (.iload_n 3, 1) := by decide +kernel
theorem dX12_townClause_67 : decode cX12_townClause 67 = .ok (.invokestatic 337, 3) := by decide +kernel
theorem dX12_townClause_70 : decode cX12_townClause 70 = .ok (.invokevirtual 238, 3) := by decide +kernel
theorem dX12_townClause_73 : decode cX12_townClause 73 = .ok (.iadd, 1) := by decide +kernel
theorem dX12_townClause_74 : decode cX12_townClause 74 = .ok (.putfield 227, 3) := by decide +kernel
theorem dX12_townClause_77 : decode cX12_townClause 77 = .ok (.aload_n 0, 1) := by decide +kernel
theorem dX12_townClause_78 : decode cX12_townClause 78 = .ok (.iload_n 3, 1) := by decide +kernel
theorem dX12_townClause_79 : decode cX12_townClause 79 = .ok (.invokevirtual 344, 3) := by decide +kernel
theorem dX12_townClause_82 : decode cX12_townClause 82 = .ok (.return_, 1) := by decide +kernel
theorem dX12_copies_0 : decode cX12_copies 0 = .ok (.iconst 0, 1) := by decide +kernel
theorem dX12_copies_1 : decode cX12_copies 1 = .ok (.istore_n 2, 1) := by decide +kernel
theorem dX12_copies_2 : decode cX12_copies 2 = .ok (.iload_n 2, 1) := by decide +kernel
theorem dX12_copies_3 : decode cX12_copies 3 = .ok (.aload_n 0, 1) := by decide +kernel
theorem dX12_copies_4 : decode cX12_copies 4 = .ok (.arraylength, 1) := by decide +kernel
theorem dX12_copies_5 : decode cX12_copies 5 = .ok (.if_icmp .ge 15, 3) := by decide +kernel
theorem dX12_copies_8 : decode cX12_copies 8 = .ok (.aload_n 1, 1) := by decide +kernel
theorem dX12_copies_9 : decode cX12_copies 9 = .ok (.iload_n 2, 1) := by decide +kernel
theorem dX12_copies_10 : decode cX12_copies 10 = .ok (.aload_n 0, 1) := by decide +kernel
theorem dX12_copies_11 : decode cX12_copies 11 = .ok (.iload_n 2, 1) := by decide +kernel
theorem dX12_copies_12 : decode cX12_copies 12 = .ok (.iaload, 1) := by decide +kernel
theorem dX12_copies_13 : decode cX12_copies 13 = .ok (.iastore, 1) := by decide +kernel
theorem dX12_copies_14 : decode cX12_copies 14 = .ok (.iinc 2 1, 3) := by decide +kernel
theorem dX12_copies_17 : decode cX12_copies 17 = .ok (.goto (-15), 3) := by decide +kernel
theorem dX12_copies_20 : decode cX12_copies 20 = .ok (.return_, 1) := by decide +kernel
theorem dX12_goesOn_0 : decode cX12_goesOn 0 = .ok (.aload_n 0, 1) := by decide +kernel
theorem dX12_goesOn_1 : decode cX12_goesOn 1 = .ok (.invokevirtual 246, 3) := by decide +kernel
theorem dX12_goesOn_4 : decode cX12_goesOn 4 = .ok (.aload_n 0, 1) := by decide +kernel
theorem dX12_goesOn_5 : decode cX12_goesOn 5 = .ok (.getfield 224, 3) := by decide +kernel
theorem dX12_goesOn_8 : decode cX12_goesOn 8 = .ok (.ifCond .ne 32, 3) := by decide +kernel
theorem dX12_goesOn_11 : decode cX12_goesOn 11 = .ok (.aload_n 0, 1) := by decide +kernel
theorem dX12_goesOn_12 : decode cX12_goesOn 12 = .ok (.getfield 227, 3) := by decide +kernel
theorem dX12_goesOn_15 : decode cX12_goesOn 15 = .ok (.aload_n 0, 1) := by decide +kernel
theorem dX12_goesOn_16 : decode cX12_goesOn 16 = .ok (.getfield 195, 3) := by decide +kernel
theorem dX12_goesOn_19 : decode cX12_goesOn 19 = .ok (.if_icmp .ge 21, 3) := by decide +kernel
theorem dX12_goesOn_22 : decode cX12_goesOn 22 = .ok (.aload_n 0, 1) := by decide +kernel
theorem dX12_goesOn_23 : decode cX12_goesOn 23 = .ok (.invokevirtual 230, 3) := by decide +kernel
theorem dX12_goesOn_26 : decode cX12_goesOn 26 = .ok (.bipush 59, 2) := by decide +kernel
theorem dX12_goesOn_28 : decode cX12_goesOn 28 = .ok (.if_icmp .eq 12, 3) := by decide +kernel
theorem dX12_goesOn_31 : decode cX12_goesOn 31 = .ok (.aload_n 0, 1) := by decide +kernel
theorem dX12_goesOn_32 : decode cX12_goesOn 32 = .ok (.iconst 0, 1) := by decide +kernel
theorem dX12_goesOn_33 : decode cX12_goesOn 33 = .ok (.aload_n 0, 1) := by decide +kernel
theorem dX12_goesOn_34 : decode cX12_goesOn 34 = .ok (.getfield 227, 3) := by decide +kernel
theorem dX12_goesOn_37 : decode cX12_goesOn 37 = .ok (.invokevirtual 262, 3) := by decide +kernel
theorem dX12_goesOn_40 : decode cX12_goesOn 40 = .ok (.aload_n 0, 1) := by decide +kernel
theorem dX12_goesOn_41 : decode cX12_goesOn 41 = .ok (.getfield 224, 3) := by decide +kernel
theorem dX12_goesOn_44 : decode cX12_goesOn 44 = .ok (.ifCond .ne 18, 3) := by decide +kernel
theorem dX12_goesOn_47 : decode cX12_goesOn 47 = .ok (.aload_n 0, 1) := by decide +kernel
theorem dX12_goesOn_48 : decode cX12_goesOn 48 = .ok (.getfield 227, 3) := by decide +kernel
theorem dX12_goesOn_51 : decode cX12_goesOn 51 = .ok (.aload_n 0, 1) := by decide +kernel
theorem dX12_goesOn_52 : decode cX12_goesOn 52 = .ok (.getfield 195, 3) := by decide +kernel
theorem dX12_goesOn_55 : decode cX12_goesOn 55 = .ok (.if_icmp .ge 7, 3) := by decide +kernel
theorem dX12_goesOn_58 : decode cX12_goesOn 58 = .ok (.iconst 1, 1) := by decide +kernel
theorem dX12_goesOn_59 : decode cX12_goesOn 59 = .ok (.goto 4, 3) := by decide +kernel
theorem dX12_goesOn_62 : decode cX12_goesOn 62 = .ok (.iconst 0, 1) := by decide +kernel
theorem dX12_goesOn_63 : decode cX12_goesOn 63 = .ok (.istore_n 1, 1) := by decide +kernel
theorem dX12_goesOn_64 : decode cX12_goesOn 64 = .ok (.aload_n 0, 1) := by decide +kernel
theorem dX12_goesOn_65 : decode cX12_goesOn 65 = .ok (.dup, 1) := by decide +kernel
theorem dX12_goesOn_66 : decode cX12_goesOn 66 = .ok (.getfield 227, 3) := by decide +kernel
theorem dX12_goesOn_69 : decode cX12_goesOn 69 = .ok (.iconst 1, 1) := by decide +kernel
theorem dX12_goesOn_70 : decode cX12_goesOn 70 = .ok (.iadd, 1) := by decide +kernel
theorem dX12_goesOn_71 : decode cX12_goesOn 71 = .ok (.putfield 227, 3) := by decide +kernel
theorem dX12_goesOn_74 : decode cX12_goesOn 74 = .ok (.iload_n 1, 1) := by decide +kernel
theorem dX12_goesOn_75 : decode cX12_goesOn 75 = .ok (.ireturn, 1) := by decide +kernel
theorem dX12_starts_0 : decode cX12_starts 0 = .ok (.aload_n 0, 1) := by decide +kernel
theorem dX12_starts_1 : decode cX12_starts 1 = .ok (.iconst 0, 1) := by decide +kernel
theorem dX12_starts_2 : decode cX12_starts 2 = .ok (.putfield 227, 3) := by decide +kernel
theorem dX12_starts_5 : decode cX12_starts 5 = .ok (.aload_n 0, 1) := by decide +kernel
theorem dX12_starts_6 : decode cX12_starts 6 = .ok (.iconst 0, 1) := by decide +kernel
theorem dX12_starts_7 : decode cX12_starts 7 = .ok (.putfield 224, 3) := by decide +kernel
theorem dX12_starts_10 : decode cX12_starts 10 = .ok (.aload_n 0, 1) := by decide +kernel
theorem dX12_starts_11 : decode cX12_starts 11 = .ok (.iconst 0, 1) := by decide +kernel
theorem dX12_starts_12 : decode cX12_starts 12 = .ok (.putfield 256, 3) := by decide +kernel
theorem dX12_starts_15 : decode cX12_starts 15 = .ok (.aload_n 0, 1) := by decide +kernel
theorem dX12_starts_16 : decode cX12_starts 16 = .ok (.iconst 0, 1) := by decide +kernel
theorem dX12_starts_17 : decode cX12_starts 17 = .ok (.putfield 297, 3) := by decide +kernel
theorem dX12_starts_20 : decode cX12_starts 20 = .ok (.aload_n 0, 1) := by decide +kernel
theorem dX12_starts_21 : decode cX12_starts 21 = .ok (.iconst 0, 1) := by decide +kernel
theorem dX12_starts_22 : decode cX12_starts 22 = .ok (.putfield 259, 3) := by decide +kernel
theorem dX12_starts_25 : decode cX12_starts 25 = .ok (.return_, 1) := by decide +kernel
theorem dX12_readsAll_0 : decode cX12_readsAll 0 = .ok (.aload_n 0, 1) := by decide +kernel
theorem dX12_readsAll_1 : decode cX12_readsAll 1 = .ok (.invokevirtual 347, 3) := by decide +kernel
theorem dX12_readsAll_4 : decode cX12_readsAll 4 = .ok (.iconst 0, 1) := by decide +kernel
theorem dX12_readsAll_5 : decode cX12_readsAll 5 = .ok (.istore_n 1, 1) := by decide +kernel
theorem dX12_readsAll_6 : decode cX12_readsAll 6 = .ok (.iload_n 1, 1) := by decide +kernel
theorem dX12_readsAll_7 : decode cX12_readsAll 7 = .ok (.bipush 9, 2) := by decide +kernel
theorem dX12_readsAll_9 : decode cX12_readsAll 9 = .ok (.if_icmp .ge 31, 3) := by decide +kernel
theorem dX12_readsAll_12 : decode cX12_readsAll 12 = .ok (.aload_n 0, 1) := by decide +kernel
theorem dX12_readsAll_13 : decode cX12_readsAll 13 = .ok (.getfield 64, 3) := by decide +kernel
theorem dX12_readsAll_16 : decode cX12_readsAll 16 = .ok (.iload_n 1, 1) := by decide +kernel
theorem dX12_readsAll_17 : decode cX12_readsAll 17 = .ok (.iload_n 1, 1) := by decide +kernel
theorem dX12_readsAll_18 : decode cX12_readsAll 18 = .ok (.iconst 5, 1) := by decide +kernel
theorem dX12_readsAll_19 : decode cX12_readsAll 19 = .ok (.if_icmp .eq 9, 3) := by decide +kernel
theorem dX12_readsAll_22 : decode cX12_readsAll 22 = .ok (.iload_n 1, 1) := by decide +kernel
theorem dX12_readsAll_23 : decode cX12_readsAll 23 = .ok (.bipush 6, 2) := by decide +kernel
theorem dX12_readsAll_25 : decode cX12_readsAll 25 = .ok (.if_icmp .ne 7, 3) := by decide +kernel
theorem dX12_readsAll_28 : decode cX12_readsAll 28 = .ok (.iconst 1, 1) := by decide +kernel
theorem dX12_readsAll_29 : decode cX12_readsAll 29 = .ok (.goto 4, 3) := by decide +kernel
theorem dX12_readsAll_32 : decode cX12_readsAll 32 = .ok (.iconst 0, 1) := by decide +kernel
theorem dX12_readsAll_33 : decode cX12_readsAll 33 = .ok (.iastore, 1) := by decide +kernel
theorem dX12_readsAll_34 : decode cX12_readsAll 34 = .ok (.iinc 1 1, 3) := by decide +kernel
theorem dX12_readsAll_37 : decode cX12_readsAll 37 = .ok (.goto (-31), 3) := by decide +kernel
theorem dX12_readsAll_40 : decode cX12_readsAll 40 = .ok (.iconst 0, 1) := by decide +kernel
theorem dX12_readsAll_41 : decode cX12_readsAll 41 = .ok (.istore_n 1, 1) := by decide +kernel
theorem dX12_readsAll_42 : decode cX12_readsAll 42 = .ok (.iconst 1, 1) := by decide +kernel
theorem dX12_readsAll_43 : decode cX12_readsAll 43 = .ok (.istore_n 2, 1) := by decide +kernel
theorem dX12_readsAll_44 : decode cX12_readsAll 44 = .ok (.iload_n 2, 1) := by decide +kernel
theorem dX12_readsAll_45 : decode cX12_readsAll 45 = .ok (.ifCond .eq 19, 3) := by decide +kernel
theorem dX12_readsAll_48 : decode cX12_readsAll 48 = .ok (.aload_n 0, 1) := by decide +kernel
theorem dX12_readsAll_49 : decode cX12_readsAll 49 = .ok (.iload_n 1, 1) := by decide +kernel
theorem dX12_readsAll_50 : decode cX12_readsAll 50 = .ok (.invokevirtual 350, 3) := by decide +kernel
theorem dX12_readsAll_53 : decode cX12_readsAll 53 = .ok (.iinc 1 1, 3) := by decide +kernel
theorem dX12_readsAll_56 : decode cX12_readsAll 56 = .ok (.aload_n 0, 1) := by decide +kernel
theorem dX12_readsAll_57 : decode cX12_readsAll 57 = .ok (.invokevirtual 353, 3) := by decide +kernel
theorem dX12_readsAll_60 : decode cX12_readsAll 60 = .ok (.istore_n 2, 1) := by decide +kernel
theorem dX12_readsAll_61 : decode cX12_readsAll 61 = .ok (.goto (-17), 3) := by decide +kernel
theorem dX12_readsAll_64 : decode cX12_readsAll 64 = .ok (.aload_n 0, 1) := by decide +kernel
theorem dX12_readsAll_65 : decode cX12_readsAll 65 = .ok (.iconst 0, 1) := by decide +kernel
theorem dX12_readsAll_66 : decode cX12_readsAll 66 = .ok (.putfield 195, 3) := by decide +kernel
theorem dX12_readsAll_69 : decode cX12_readsAll 69 = .ok (.return_, 1) := by decide +kernel
theorem dX12_begins_0 : decode cX12_begins 0 = .ok (.aload_n 0, 1) := by decide +kernel
theorem dX12_begins_1 : decode cX12_begins 1 = .ok (.getfield 55, 3) := by decide +kernel
theorem dX12_begins_4 : decode cX12_begins 4 = .ok (.aload_n 0, 1) := by decide +kernel
theorem dX12_begins_5 : decode cX12_begins 5 = .ok (.getfield 16, 3) := by decide +kernel
theorem dX12_begins_8 : decode cX12_begins 8 = .ok (.invokestatic 356, 3) := by decide +kernel
theorem dX12_begins_11 : decode cX12_begins 11 = .ok (.aload_n 0, 1) := by decide +kernel
theorem dX12_begins_12 : decode cX12_begins 12 = .ok (.getfield 13, 3) := by decide +kernel
theorem dX12_begins_15 : decode cX12_begins 15 = .ok (.aload_n 0, 1) := by decide +kernel
theorem dX12_begins_16 : decode cX12_begins 16 = .ok (.getfield 19, 3) := by decide +kernel
theorem dX12_begins_19 : decode cX12_begins 19 = .ok (.invokestatic 356, 3) := by decide +kernel
theorem dX12_begins_22 : decode cX12_begins 22 = .ok (.aload_n 0, 1) := by decide +kernel
theorem dX12_begins_23 : decode cX12_begins 23 = .ok (.getfield 58, 3) := by decide +kernel
theorem dX12_begins_26 : decode cX12_begins 26 = .ok (.aload_n 0, 1) := by decide +kernel
theorem dX12_begins_27 : decode cX12_begins 27 = .ok (.getfield 34, 3) := by decide +kernel
theorem dX12_begins_30 : decode cX12_begins 30 = .ok (.invokestatic 356, 3) := by decide +kernel
theorem dX12_begins_33 : decode cX12_begins 33 = .ok (.aload_n 0, 1) := by decide +kernel
theorem dX12_begins_34 : decode cX12_begins 34 = .ok (.getfield 9, 3) := by decide +kernel
theorem dX12_begins_37 : decode cX12_begins 37 = .ok (.bipush 8, 2) := by decide +kernel
theorem dX12_begins_39 : decode cX12_begins 39 = .ok (.aload_n 0, 1) := by decide +kernel
theorem dX12_begins_40 : decode cX12_begins 40 = .ok (.getfield 61, 3) := by decide +kernel
theorem dX12_begins_43 : decode cX12_begins 43 = .ok (.iconst 0, 1) := by decide +kernel
theorem dX12_begins_44 : decode cX12_begins 44 = .ok (.iaload, 1) := by decide +kernel
theorem dX12_begins_45 : decode cX12_begins 45 = .ok (.iastore, 1) := by decide +kernel
theorem dX12_begins_46 : decode cX12_begins 46 = .ok (.aload_n 0, 1) := by decide +kernel
theorem dX12_begins_47 : decode cX12_begins 47 = .ok (.getfield 9, 3) := by decide +kernel
theorem dX12_begins_50 : decode cX12_begins 50 = .ok (.bipush 9, 2) := by decide +kernel
theorem dX12_begins_52 : decode cX12_begins 52 = .ok (.iconst 0, 1) := by decide +kernel
theorem dX12_begins_53 : decode cX12_begins 53 = .ok (.iastore, 1) := by decide +kernel
theorem dX12_begins_54 : decode cX12_begins 54 = .ok (.iconst 0, 1) := by decide +kernel
theorem dX12_begins_55 : decode cX12_begins 55 = .ok (.istore_n 1, 1) := by decide +kernel
theorem dX12_begins_56 : decode cX12_begins 56 = .ok (.iload_n 1, 1) := by decide +kernel
theorem dX12_begins_57 : decode cX12_begins 57 = .ok (.iconst 5, 1) := by decide +kernel
theorem dX12_begins_58 : decode cX12_begins 58 = .ok (.if_icmp .ge 23, 3) := by decide +kernel
theorem dX12_begins_61 : decode cX12_begins 61 = .ok (.aload_n 0, 1) := by decide +kernel
theorem dX12_begins_62 : decode cX12_begins 62 = .ok (.getfield 22, 3) := by decide +kernel
theorem dX12_begins_65 : decode cX12_begins 65 = .ok (.iload_n 1, 1) := by decide +kernel
theorem dX12_begins_66 : decode cX12_begins 66 = .ok (.iconst 0, 1) := by decide +kernel
theorem dX12_begins_67 : decode cX12_begins 67 = .ok (.iastore, 1) := by decide +kernel
theorem dX12_begins_68 : decode cX12_begins 68 = .ok (.aload_n 0, 1) := by decide +kernel
theorem dX12_begins_69 : decode cX12_begins 69 = .ok (.getfield 25, 3) := by decide +kernel
theorem dX12_begins_72 : decode cX12_begins 72 = .ok (.iload_n 1, 1) := by decide +kernel
theorem dX12_begins_73 : decode cX12_begins 73 = .ok (.iconst 0, 1) := by decide +kernel
theorem dX12_begins_74 : decode cX12_begins 74 = .ok (.iastore, 1) := by decide +kernel
theorem dX12_begins_75 : decode cX12_begins 75 = .ok (.iinc 1 1, 3) := by decide +kernel
theorem dX12_begins_78 : decode cX12_begins 78 = .ok (.goto (-22), 3) := by decide +kernel
theorem dX12_begins_81 : decode cX12_begins 81 = .ok (.iconst 0, 1) := by decide +kernel
theorem dX12_begins_82 : decode cX12_begins 82 = .ok (.istore_n 1, 1) := by decide +kernel
theorem dX12_begins_83 : decode cX12_begins 83 = .ok (.iload_n 1, 1) := by decide +kernel
theorem dX12_begins_84 : decode cX12_begins 84 = .ok (.bipush 8, 2) := by decide +kernel
theorem dX12_begins_86 : decode cX12_begins 86 = .ok (.if_icmp .ge 23, 3) := by decide +kernel
theorem dX12_begins_89 : decode cX12_begins 89 = .ok (.aload_n 0, 1) := by decide +kernel
theorem dX12_begins_90 : decode cX12_begins 90 = .ok (.getfield 40, 3) := by decide +kernel
theorem dX12_begins_93 : decode cX12_begins 93 = .ok (.iload_n 1, 1) := by decide +kernel
theorem dX12_begins_94 : decode cX12_begins 94 = .ok (.iconst 0, 1) := by decide +kernel
theorem dX12_begins_95 : decode cX12_begins 95 = .ok (.iastore, 1) := by decide +kernel
theorem dX12_begins_96 : decode cX12_begins 96 = .ok (.aload_n 0, 1) := by decide +kernel
theorem dX12_begins_97 : decode cX12_begins 97 = .ok (.getfield 43, 3) := by decide +kernel
theorem dX12_begins_100 : decode cX12_begins 100 = .ok (.iload_n 1, 1) := by decide +kernel
theorem dX12_begins_101 : decode cX12_begins 101 = .ok (.iconst 0, 1) := by decide +kernel
theorem dX12_begins_102 : decode cX12_begins 102 = .ok (.iastore, 1) := by decide +kernel
theorem dX12_begins_103 : decode cX12_begins 103 = .ok (.iinc 1 1, 3) := by decide +kernel
theorem dX12_begins_106 : decode cX12_begins 106 = .ok (.goto (-23), 3) := by decide +kernel
theorem dX12_begins_109 : decode cX12_begins 109 = .ok (.return_, 1) := by decide +kernel
theorem dX12_town_0 : decode cX12_town 0 = .ok (.aload_n 0, 1) := by decide +kernel
theorem dX12_town_1 : decode cX12_town 1 = .ok (.invokevirtual 360, 3) := by decide +kernel
theorem dX12_town_4 : decode cX12_town 4 = .ok (.aload_n 0, 1) := by decide +kernel
theorem dX12_town_5 : decode cX12_town 5 = .ok (.getfield 224, 3) := by decide +kernel
theorem dX12_town_8 : decode cX12_town 8 = .ok (.ifCond .le 11, 3) := by decide +kernel
theorem dX12_town_11 : decode cX12_town 11 = .ok (.bipush (-2), 2) := by decide +kernel
theorem dX12_town_13 : decode cX12_town 13 = .ok (.aload_n 0, 1) := by decide +kernel
theorem dX12_town_14 : decode cX12_town 14 = .ok (.getfield 224, 3) := by decide +kernel
theorem dX12_town_17 : decode cX12_town 17 = .ok (.isub, 1) := by decide +kernel
theorem dX12_town_18 : decode cX12_town 18 = .ok (.ireturn, 1) := by decide +kernel
theorem dX12_town_19 : decode cX12_town 19 = .ok (.iconst 0, 1) := by decide +kernel
theorem dX12_town_20 : decode cX12_town 20 = .ok (.istore_n 1, 1) := by decide +kernel
theorem dX12_town_21 : decode cX12_town 21 = .ok (.iload_n 1, 1) := by decide +kernel
theorem dX12_town_22 : decode cX12_town 22 = .ok (.bipush 11, 2) := by decide +kernel
theorem dX12_town_24 : decode cX12_town 24 = .ok (.if_icmp .ge 31, 3) := by decide +kernel
theorem dX12_town_27 : decode cX12_town 27 = .ok (.aload_n 0, 1) := by decide +kernel
theorem dX12_town_28 : decode cX12_town 28 = .ok (.getfield 9, 3) := by decide +kernel
theorem dX12_town_31 : decode cX12_town 31 = .ok (.iload_n 1, 1) := by decide +kernel
theorem dX12_town_32 : decode cX12_town 32 = .ok (.iload_n 1, 1) := by decide +kernel
theorem dX12_town_33 : decode cX12_town 33 = .ok (.bipush 9, 2) := by decide +kernel
theorem dX12_town_35 : decode cX12_town 35 = .ok (.if_icmp .ge 12, 3) := by decide +kernel
theorem dX12_town_38 : decode cX12_town 38 = .ok (.aload_n 0, 1) := by decide +kernel
theorem dX12_town_39 : decode cX12_town 39 = .ok (.getfield 64, 3) := by decide +kernel
theorem dX12_town_42 : decode cX12_town 42 = .ok (.iload_n 1, 1) := by decide +kernel
theorem dX12_town_43 : decode cX12_town 43 = .ok (.iaload, 1) := by decide +kernel
theorem dX12_town_44 : decode cX12_town 44 = .ok (.goto 4, 3) := by decide +kernel
theorem dX12_town_47 : decode cX12_town 47 = .ok (.iconst 0, 1) := by decide +kernel
theorem dX12_town_48 : decode cX12_town 48 = .ok (.iastore, 1) := by decide +kernel
theorem dX12_town_49 : decode cX12_town 49 = .ok (.iinc 1 1, 3) := by decide +kernel
theorem dX12_town_52 : decode cX12_town 52 = .ok (.goto (-31), 3) := by decide +kernel
theorem dX12_town_55 : decode cX12_town 55 = .ok (.aload_n 0, 1) := by decide +kernel
theorem dX12_town_56 : decode cX12_town 56 = .ok (.getfield 67, 3) := by decide +kernel
theorem dX12_town_59 : decode cX12_town 59 = .ok (.aload_n 0, 1) := by decide +kernel
theorem dX12_town_60 : decode cX12_town 60 = .ok (.getfield 13, 3) := by decide +kernel
theorem dX12_town_63 : decode cX12_town 63 = .ok (.invokestatic 356, 3) := by decide +kernel
theorem dX12_town_66 : decode cX12_town 66 = .ok (.aload_n 0, 1) := by decide +kernel
theorem dX12_town_67 : decode cX12_town 67 = .ok (.getfield 70, 3) := by decide +kernel
theorem dX12_town_70 : decode cX12_town 70 = .ok (.aload_n 0, 1) := by decide +kernel
theorem dX12_town_71 : decode cX12_town 71 = .ok (.getfield 55, 3) := by decide +kernel
theorem dX12_town_74 : decode cX12_town 74 = .ok (.invokestatic 356, 3) := by decide +kernel
theorem dX12_town_77 : decode cX12_town 77 = .ok (.aload_n 0, 1) := by decide +kernel
theorem dX12_town_78 : decode cX12_town 78 = .ok (.getfield 73, 3) := by decide +kernel
theorem dX12_town_81 : decode cX12_town 81 = .ok (.aload_n 0, 1) := by decide +kernel
theorem dX12_town_82 : decode cX12_town 82 = .ok (.getfield 28, 3) := by decide +kernel
theorem dX12_town_85 : decode cX12_town 85 = .ok (.invokestatic 356, 3) := by decide +kernel
theorem dX12_town_88 : decode cX12_town 88 = .ok (.aload_n 0, 1) := by decide +kernel
theorem dX12_town_89 : decode cX12_town 89 = .ok (.getfield 76, 3) := by decide +kernel
theorem dX12_town_92 : decode cX12_town 92 = .ok (.aload_n 0, 1) := by decide +kernel
theorem dX12_town_93 : decode cX12_town 93 = .ok (.getfield 31, 3) := by decide +kernel
theorem dX12_town_96 : decode cX12_town 96 = .ok (.invokestatic 356, 3) := by decide +kernel
theorem dX12_town_99 : decode cX12_town 99 = .ok (.aload_n 0, 1) := by decide +kernel
theorem dX12_town_100 : decode cX12_town 100 = .ok (.getfield 79, 3) := by decide +kernel
theorem dX12_town_103 : decode cX12_town 103 = .ok (.aload_n 0, 1) := by decide +kernel
theorem dX12_town_104 : decode cX12_town 104 = .ok (.getfield 58, 3) := by decide +kernel
theorem dX12_town_107 : decode cX12_town 107 = .ok (.invokestatic 356, 3) := by decide +kernel
theorem dX12_town_110 : decode cX12_town 110 = .ok (.aload_n 0, 1) := by decide +kernel
theorem dX12_town_111 : decode cX12_town 111 = .ok (.getfield 82, 3) := by decide +kernel
theorem dX12_town_114 : decode cX12_town 114 = .ok (.aload_n 0, 1) := by decide +kernel
theorem dX12_town_115 : decode cX12_town 115 = .ok (.getfield 37, 3) := by decide +kernel
theorem dX12_town_118 : decode cX12_town 118 = .ok (.invokestatic 356, 3) := by decide +kernel
theorem dX12_town_121 : decode cX12_town 121 = .ok (.aload_n 0, 1) := by decide +kernel
theorem dX12_town_122 : decode cX12_town 122 = .ok (.getfield 61, 3) := by decide +kernel
theorem dX12_town_125 : decode cX12_town 125 = .ok (.iconst 0, 1) := by decide +kernel
theorem dX12_town_126 : decode cX12_town 126 = .ok (.aload_n 0, 1) := by decide +kernel
theorem dX12_town_127 : decode cX12_town 127 = .ok (.getfield 64, 3) := by decide +kernel
theorem dX12_town_130 : decode cX12_town 130 = .ok (.bipush 8, 2) := by decide +kernel
theorem dX12_town_132 : decode cX12_town 132 = .ok (.iaload, 1) := by decide +kernel
theorem dX12_town_133 : decode cX12_town 133 = .ok (.iastore, 1) := by decide +kernel
theorem dX12_town_134 : decode cX12_town 134 = .ok (.aload_n 0, 1) := by decide +kernel
theorem dX12_town_135 : decode cX12_town 135 = .ok (.invokevirtual 363, 3) := by decide +kernel
theorem dX12_town_138 : decode cX12_town 138 = .ok (.aload_n 0, 1) := by decide +kernel
theorem dX12_town_139 : decode cX12_town 139 = .ok (.iconst 0, 1) := by decide +kernel
theorem dX12_town_140 : decode cX12_town 140 = .ok (.putfield 366, 3) := by decide +kernel
theorem dX12_town_143 : decode cX12_town 143 = .ok (.aload_n 0, 1) := by decide +kernel
theorem dX12_town_144 : decode cX12_town 144 = .ok (.getfield 9, 3) := by decide +kernel
theorem dX12_town_147 : decode cX12_town 147 = .ok (.iconst 4, 1) := by decide +kernel
theorem dX12_town_148 : decode cX12_town 148 = .ok (.iaload, 1) := by decide +kernel
theorem dX12_town_149 : decode cX12_town 149 = .ok (.ireturn, 1) := by decide +kernel
theorem dX12_ruleClause_0 : decode cX12_ruleClause 0 = .ok (.aload_n 0, 1) := by decide +kernel
theorem dX12_ruleClause_1 : decode cX12_ruleClause 1 = .ok (.invokevirtual 246, 3) := by decide +kernel
theorem dX12_ruleClause_4 : decode cX12_ruleClause 4 = .ok (.aload_n 0, 1) := by decide +kernel
theorem dX12_ruleClause_5 : decode cX12_ruleClause 5 = .ok (.getfield 227, 3) := by decide +kernel
theorem dX12_ruleClause_8 : decode cX12_ruleClause 8 = .ok (.istore_n 2, 1) := by decide +kernel
theorem dX12_ruleClause_9 : decode cX12_ruleClause 9 = .ok (.aload_n 0, 1) := by decide +kernel
theorem dX12_ruleClause_10 : decode cX12_ruleClause 10 = .ok (.ldc_w 369, 3) := by decide +kernel
theorem dX12_ruleClause_13 : decode cX12_ruleClause 13 = .ok (.invokevirtual 249, 3) := by decide +kernel
theorem dX12_ruleClause_16 : decode cX12_ruleClause 16 = .ok (.ifCond .ne 10, 3) := by decide +kernel
theorem dX12_ruleClause_19 : decode cX12_ruleClause 19 = .ok (.aload_n 0, 1) := by decide +kernel
theorem dX12_ruleClause_20 : decode cX12_ruleClause 20 = .ok (.iconst 0, 1) := by decide +kernel
theorem dX12_ruleClause_21 : decode cX12_ruleClause 21 = .ok (.iload_n 2, 1) := by decide +kernel
theorem dX12_ruleClause_22 : decode cX12_ruleClause 22 = .ok (.invokevirtual 262, 3) := by decide +kernel
theorem dX12_ruleClause_25 : decode cX12_ruleClause 25 = .ok (.return_, 1) := by decide +kernel
theorem dX12_ruleClause_26 : decode cX12_ruleClause 26 = .ok (.iload_n 1, 1) := by decide +kernel
theorem dX12_ruleClause_27 : decode cX12_ruleClause 27 = .ok (.bipush 12, 2) := by decide +kernel
theorem dX12_ruleClause_29 : decode cX12_ruleClause 29 = .ok (.if_icmp .ne 10, 3) := by decide +kernel
theorem dX12_ruleClause_32 : decode cX12_ruleClause 32 = .ok (.aload_n 0, 1) := by decide +kernel
theorem dX12_ruleClause_33 : decode cX12_ruleClause 33 = .ok (.iconst 4, 1) := by decide +kernel
theorem dX12_ruleClause_34 : decode cX12_ruleClause 34 = .ok (.iload_n 2, 1) := by decide +kernel
theorem dX12_ruleClause_35 : decode cX12_ruleClause 35 = .ok (.invokevirtual 262, 3) := by decide +kernel
theorem dX12_ruleClause_38 : decode cX12_ruleClause 38 = .ok (.return_, 1) := by decide +kernel
theorem dX12_ruleClause_39 : decode cX12_ruleClause 39 = .ok (.aload_n 0, 1) := by decide +kernel
theorem dX12_ruleClause_40 : decode cX12_ruleClause 40 = .ok (.dup, 1) := by decide +kernel
theorem dX12_ruleClause_41 : decode cX12_ruleClause 41 = .ok (.getfield 227, 3) := by decide +kernel
theorem dX12_ruleClause_44 : decode cX12_ruleClause 44 = .ok (.iconst 4, 1) := by decide +kernel
theorem dX12_ruleClause_45 : decode cX12_ruleClause 45 = .ok (.iadd, 1) := by decide +kernel
theorem dX12_ruleClause_46 : decode cX12_ruleClause 46 = .ok (.putfield 227, 3) := by decide +kernel
theorem dX12_ruleClause_49 : decode cX12_ruleClause 49 = .ok (.bipush 12, 2) := by decide +kernel
theorem dX12_ruleClause_51 : decode cX12_ruleClause 51 = .ok (.aload_n 0, 1) := by decide +kernel
theorem dX12_ruleClause_52 : decode cX12_ruleClause 52 = .ok (.getfield 253, 3) := by decide +kernel
theorem dX12_ruleClause_55 : decode cX12_ruleClause 55 = .ok (.imul, 1) := by decide +kernel
theorem dX12_ruleClause_56 : decode cX12_ruleClause 56 = .ok (.iload_n 1, 1) := by decide +kernel
theorem dX12_ruleClause_57 : decode cX12_ruleClause 57 = .ok (.iadd, 1) := by decide +kernel
theorem dX12_ruleClause_58 : decode cX12_ruleClause 58 = .ok (.istore_n 3, 1) := by decide +kernel
theorem dX12_ruleClause_59 : decode cX12_ruleClause 59 = .ok (.aload_n 0, 1) := by decide +kernel
theorem dX12_ruleClause_60 : decode cX12_ruleClause 60 = .ok (.getfield 102, 3) := by decide +kernel
theorem dX12_ruleClause_63 : decode cX12_ruleClause 63 = .ok (.iload_n 3, 1) := by decide +kernel
theorem dX12_ruleClause_64 : decode cX12_ruleClause 64 = .ok (.aload_n 0, 1) := by decide +kernel
theorem dX12_ruleClause_65 : decode cX12_ruleClause 65 = .ok (.getfield 256, 3) := by decide +kernel
theorem dX12_ruleClause_68 : decode cX12_ruleClause 68 = .ok (.iastore, 1) := by decide +kernel
theorem dX12_ruleClause_69 : decode cX12_ruleClause 69 = .ok (.aload_n 0, 1) := by decide +kernel
theorem dX12_ruleClause_70 : decode cX12_ruleClause 70 = .ok (.invokevirtual 291, 3) := by decide +kernel
theorem dX12_ruleClause_73 : decode cX12_ruleClause 73 = .ok (.aload_n 0, 1) := by decide +kernel
theorem dX12_ruleClause_74 : decode cX12_ruleClause 74 = .ok (.getfield 105, 3) := by decide +kernel
theorem dX12_ruleClause_77 : decode cX12_ruleClause 77 = .ok (.iload_n 3, 1) := by decide +kernel
theorem dX12_ruleClause_78 : decode cX12_ruleClause 78 = .ok (.aload_n 0, 1) := by decide +kernel
theorem dX12_ruleClause_79 : decode cX12_ruleClause 79 = .ok (.getfield 256, 3) := by decide +kernel
theorem dX12_ruleClause_82 : decode cX12_ruleClause 82 = .ok (.iastore, 1) := by decide +kernel
theorem dX12_ruleClause_83 : decode cX12_ruleClause 83 = .ok (.aload_n 0, 1) := by decide +kernel
theorem dX12_ruleClause_84 : decode cX12_ruleClause 84 = .ok (.getfield 224, 3) := by decide +kernel
theorem dX12_ruleClause_87 : decode cX12_ruleClause 87 = .ok (.ifCond .ne 17, 3) := by decide +kernel
theorem dX12_ruleClause_90 : decode cX12_ruleClause 90 = .ok (.aload_n 0, 1) := by decide +kernel
theorem dX12_ruleClause_91 : decode cX12_ruleClause 91 = .ok (.ldc_w 371, 3) := by decide +kernel
theorem dX12_ruleClause_94 : decode cX12_ruleClause 94 = .ok (.invokevirtual 373, 3) := by decide +kernel
theorem dX12_ruleClause_97 : decode cX12_ruleClause 97 = .ok (.ifCond .eq 7, 3) := by decide +kernel
theorem dX12_ruleClause_100 : decode cX12_ruleClause 100 = .ok (.aload_n 0, 1) := by decide +kernel
theorem dX12_ruleClause_101 : decode cX12_ruleClause 101 = .ok (.invokevirtual 376, 3) := by decide +kernel
theorem dX12_ruleClause_104 : decode cX12_ruleClause 104 = .ok (.aload_n 0, 1) := by decide +kernel
theorem dX12_ruleClause_105 : decode cX12_ruleClause 105 = .ok (.getfield 108, 3) := by decide +kernel
theorem dX12_ruleClause_108 : decode cX12_ruleClause 108 = .ok (.iload_n 3, 1) := by decide +kernel
theorem dX12_ruleClause_109 : decode cX12_ruleClause 109 = .ok (.aload_n 0, 1) := by decide +kernel
theorem dX12_ruleClause_110 : decode cX12_ruleClause 110 = .ok (.getfield 256, 3) := by decide +kernel
theorem dX12_ruleClause_113 : decode cX12_ruleClause 113 = .ok (.iastore, 1) := by decide +kernel
theorem dX12_ruleClause_114 : decode cX12_ruleClause 114 = .ok (.return_, 1) := by decide +kernel
theorem dX12_rule_0 : decode cX12_rule 0 = .ok (.aload_n 0, 1) := by decide +kernel
theorem dX12_rule_1 : decode cX12_rule 1 = .ok (.getfield 379, 3) := by decide +kernel
theorem dX12_rule_4 : decode cX12_rule 4 = .ok (.bipush 6, 2) := by decide +kernel
theorem dX12_rule_6 : decode cX12_rule 6 = .ok (.if_icmp .ne 5, 3) := by decide +kernel
theorem dX12_rule_9 : decode cX12_rule 9 = .ok (.iconst (-1), 1) := by decide +kernel
theorem dX12_rule_10 : decode cX12_rule 10 = .ok (.ireturn, 1) := by decide +kernel
theorem dX12_rule_11 : decode cX12_rule 11 = .ok (.aload_n 0, 1) := by decide +kernel
theorem dX12_rule_12 : decode cX12_rule 12 = .ok (.aload_n 0, 1) := by decide +kernel
theorem dX12_rule_13 : decode cX12_rule 13 = .ok (.getfield 379, 3) := by decide +kernel
theorem dX12_rule_16 : decode cX12_rule 16 = .ok (.putfield 253, 3) := by decide +kernel
theorem dX12_rule_19 : decode cX12_rule 19 = .ok (.aload_n 0, 1) := by decide +kernel
theorem dX12_rule_20 : decode cX12_rule 20 = .ok (.invokevirtual 347, 3) := by decide +kernel
theorem dX12_rule_23 : decode cX12_rule 23 = .ok (.iconst 0, 1) := by decide +kernel
theorem dX12_rule_24 : decode cX12_rule 24 = .ok (.istore_n 1, 1) := by decide +kernel
theorem dX12_rule_25 : decode cX12_rule 25 = .ok (.iconst 1, 1) := by decide +kernel
theorem dX12_rule_26 : decode cX12_rule 26 = .ok (.istore_n 2, 1) := by decide +kernel
theorem dX12_rule_27 : decode cX12_rule 27 = .ok (.iload_n 2, 1) := by decide +kernel
theorem dX12_rule_28 : decode cX12_rule 28 = .ok (.ifCond .eq 19, 3) := by decide +kernel
theorem dX12_rule_31 : decode cX12_rule 31 = .ok (.aload_n 0, 1) := by decide +kernel
theorem dX12_rule_32 : decode cX12_rule 32 = .ok (.iload_n 1, 1) := by decide +kernel
theorem dX12_rule_33 : decode cX12_rule 33 = .ok (.invokevirtual 382, 3) := by decide +kernel
theorem dX12_rule_36 : decode cX12_rule 36 = .ok (.iinc 1 1, 3) := by decide +kernel
theorem dX12_rule_39 : decode cX12_rule 39 = .ok (.aload_n 0, 1) := by decide +kernel
theorem dX12_rule_40 : decode cX12_rule 40 = .ok (.invokevirtual 353, 3) := by decide +kernel
theorem dX12_rule_43 : decode cX12_rule 43 = .ok (.istore_n 2, 1) := by decide +kernel
theorem dX12_rule_44 : decode cX12_rule 44 = .ok (.goto (-17), 3) := by decide +kernel
theorem dX12_rule_47 : decode cX12_rule 47 = .ok (.aload_n 0, 1) := by decide +kernel
theorem dX12_rule_48 : decode cX12_rule 48 = .ok (.iconst 0, 1) := by decide +kernel
theorem dX12_rule_49 : decode cX12_rule 49 = .ok (.putfield 195, 3) := by decide +kernel
theorem dX12_rule_52 : decode cX12_rule 52 = .ok (.aload_n 0, 1) := by decide +kernel
theorem dX12_rule_53 : decode cX12_rule 53 = .ok (.getfield 99, 3) := by decide +kernel
theorem dX12_rule_56 : decode cX12_rule 56 = .ok (.aload_n 0, 1) := by decide +kernel
theorem dX12_rule_57 : decode cX12_rule 57 = .ok (.getfield 253, 3) := by decide +kernel
theorem dX12_rule_60 : decode cX12_rule 60 = .ok (.iload_n 1, 1) := by decide +kernel
theorem dX12_rule_61 : decode cX12_rule 61 = .ok (.iastore, 1) := by decide +kernel
theorem dX12_rule_62 : decode cX12_rule 62 = .ok (.aload_n 0, 1) := by decide +kernel
theorem dX12_rule_63 : decode cX12_rule 63 = .ok (.dup, 1) := by decide +kernel
theorem dX12_rule_64 : decode cX12_rule 64 = .ok (.getfield 379, 3) := by decide +kernel
theorem dX12_rule_67 : decode cX12_rule 67 = .ok (.aload_n 0, 1) := by decide +kernel
theorem dX12_rule_68 : decode cX12_rule 68 = .ok (.getfield 224, 3) := by decide +kernel
theorem dX12_rule_71 : decode cX12_rule 71 = .ok (.ifCond .ne 7, 3) := by decide +kernel
theorem dX12_rule_74 : decode cX12_rule 74 = .ok (.iconst 1, 1) := by decide +kernel
theorem dX12_rule_75 : decode cX12_rule 75 = .ok (.goto 4, 3) := by decide +kernel
theorem dX12_rule_78 : decode cX12_rule 78 = .ok (.iconst 0, 1) := by decide +kernel
theorem dX12_rule_79 : decode cX12_rule 79 = .ok (.iadd, 1) := by decide +kernel
theorem dX12_rule_80 : decode cX12_rule 80 = .ok (.putfield 379, 3) := by decide +kernel
theorem dX12_rule_83 : decode cX12_rule 83 = .ok (.aload_n 0, 1) := by decide +kernel
theorem dX12_rule_84 : decode cX12_rule 84 = .ok (.getfield 224, 3) := by decide +kernel
theorem dX12_rule_87 : decode cX12_rule 87 = .ok (.ifCond .le 13, 3) := by decide +kernel
theorem dX12_rule_90 : decode cX12_rule 90 = .ok (.bipush (-2), 2) := by decide +kernel
theorem dX12_rule_92 : decode cX12_rule 92 = .ok (.aload_n 0, 1) := by decide +kernel
theorem dX12_rule_93 : decode cX12_rule 93 = .ok (.getfield 224, 3) := by decide +kernel
theorem dX12_rule_96 : decode cX12_rule 96 = .ok (.isub, 1) := by decide +kernel
theorem dX12_rule_97 : decode cX12_rule 97 = .ok (.goto 9, 3) := by decide +kernel
theorem dX12_rule_100 : decode cX12_rule 100 = .ok (.aload_n 0, 1) := by decide +kernel
theorem dX12_rule_101 : decode cX12_rule 101 = .ok (.getfield 379, 3) := by decide +kernel
theorem dX12_rule_104 : decode cX12_rule 104 = .ok (.iconst 1, 1) := by decide +kernel
theorem dX12_rule_105 : decode cX12_rule 105 = .ok (.isub, 1) := by decide +kernel
theorem dX12_rule_106 : decode cX12_rule 106 = .ok (.ireturn, 1) := by decide +kernel
theorem dX12_force_0 : decode cX12_force 0 = .ok (.iload_n 1, 1) := by decide +kernel
theorem dX12_force_1 : decode cX12_force 1 = .ok (.i2l, 1) := by decide +kernel
theorem dX12_force_2 : decode cX12_force 2 = .ok (.ldc2_w 385, 3) := by decide +kernel
theorem dX12_force_5 : decode cX12_force 5 = .ok (.aload_n 0, 1) := by decide +kernel
theorem dX12_force_6 : decode cX12_force 6 = .ok (.getfield 379, 3) := by decide +kernel
theorem dX12_force_9 : decode cX12_force 9 = .ok (.iconst 1, 1) := by decide +kernel
theorem dX12_force_10 : decode cX12_force 10 = .ok (.isub, 1) := by decide +kernel
theorem dX12_force_11 : decode cX12_force 11 = .ok (.i2l, 1) := by decide +kernel
theorem dX12_force_12 : decode cX12_force 12 = .ok (.invokestatic 191, 3) := by decide +kernel
theorem dX12_force_15 : decode cX12_force 15 = .ok (.ifCond .ne 6, 3) := by decide +kernel
theorem dX12_force_18 : decode cX12_force 18 = .ok (.bipush (-2), 2) := by decide +kernel
theorem dX12_force_20 : decode cX12_force 20 = .ok (.ireturn, 1) := by decide +kernel
theorem dX12_force_21 : decode cX12_force 21 = .ok (.aload_n 0, 1) := by decide +kernel
theorem dX12_force_22 : decode cX12_force 22 = .ok (.getfield 9, 3) := by decide +kernel
theorem dX12_force_25 : decode cX12_force 25 = .ok (.bipush 12, 2) := by decide +kernel
theorem dX12_force_27 : decode cX12_force 27 = .ok (.iaload, 1) := by decide +kernel
theorem dX12_force_28 : decode cX12_force 28 = .ok (.istore_n 2, 1) := by decide +kernel
theorem dX12_force_29 : decode cX12_force 29 = .ok (.aload_n 0, 1) := by decide +kernel
theorem dX12_force_30 : decode cX12_force 30 = .ok (.getfield 9, 3) := by decide +kernel
theorem dX12_force_33 : decode cX12_force 33 = .ok (.bipush 12, 2) := by decide +kernel
theorem dX12_force_35 : decode cX12_force 35 = .ok (.iload_n 1, 1) := by decide +kernel
theorem dX12_force_36 : decode cX12_force 36 = .ok (.iastore, 1) := by decide +kernel
theorem dX12_force_37 : decode cX12_force 37 = .ok (.iload_n 2, 1) := by decide +kernel
theorem dX12_force_38 : decode cX12_force 38 = .ok (.ireturn, 1) := by decide +kernel
theorem dX12_meant_0 : decode cX12_meant 0 = .ok (.aload_n 0, 1) := by decide +kernel
theorem dX12_meant_1 : decode cX12_meant 1 = .ok (.getfield 9, 3) := by decide +kernel
theorem dX12_meant_4 : decode cX12_meant 4 = .ok (.bipush 12, 2) := by decide +kernel
theorem dX12_meant_6 : decode cX12_meant 6 = .ok (.iaload, 1) := by decide +kernel
theorem dX12_meant_7 : decode cX12_meant 7 = .ok (.istore_n 1, 1) := by decide +kernel
theorem dX12_meant_8 : decode cX12_meant 8 = .ok (.bipush 12, 2) := by decide +kernel
theorem dX12_meant_10 : decode cX12_meant 10 = .ok (.iload_n 1, 1) := by decide +kernel
theorem dX12_meant_11 : decode cX12_meant 11 = .ok (.imul, 1) := by decide +kernel
theorem dX12_meant_12 : decode cX12_meant 12 = .ok (.istore_n 2, 1) := by decide +kernel
theorem dX12_meant_13 : decode cX12_meant 13 = .ok (.iload_n 2, 1) := by decide +kernel
theorem dX12_meant_14 : decode cX12_meant 14 = .ok (.bipush 12, 2) := by decide +kernel
theorem dX12_meant_16 : decode cX12_meant 16 = .ok (.iload_n 1, 1) := by decide +kernel
theorem dX12_meant_17 : decode cX12_meant 17 = .ok (.imul, 1) := by decide +kernel
theorem dX12_meant_18 : decode cX12_meant 18 = .ok (.aload_n 0, 1) := by decide +kernel
theorem dX12_meant_19 : decode cX12_meant 19 = .ok (.getfield 99, 3) := by decide +kernel
theorem dX12_meant_22 : decode cX12_meant 22 = .ok (.iload_n 1, 1) := by decide +kernel
theorem dX12_meant_23 : decode cX12_meant 23 = .ok (.iaload, 1) := by decide +kernel
theorem dX12_meant_24 : decode cX12_meant 24 = .ok (.iadd, 1) := by decide +kernel
theorem dX12_meant_25 : decode cX12_meant 25 = .ok (.if_icmp .ge 64, 3) := by decide +kernel
theorem dX12_meant_28 : decode cX12_meant 28 = .ok (.aload_n 0, 1) := by decide +kernel
theorem dX12_meant_29 : decode cX12_meant 29 = .ok (.getfield 105, 3) := by decide +kernel
theorem dX12_meant_32 : decode cX12_meant 32 = .ok (.iload_n 2, 1) := by decide +kernel
theorem dX12_meant_33 : decode cX12_meant 33 = .ok (.iaload, 1) := by decide +kernel
theorem dX12_meant_34 : decode cX12_meant 34 = .ok (.aload_n 0, 1) := by decide +kernel
theorem dX12_meant_35 : decode cX12_meant 35 = .ok (.getfield 108, 3) := by decide +kernel
theorem dX12_meant_38 : decode cX12_meant 38 = .ok (.iload_n 2, 1) := by decide +kernel
theorem dX12_meant_39 : decode cX12_meant 39 = .ok (.iaload, 1) := by decide +kernel
theorem dX12_meant_40 : decode cX12_meant 40 = .ok (.if_icmp .eq 25, 3) := by decide +kernel
theorem dX12_meant_43 : decode cX12_meant 43 = .ok (.aload_n 0, 1) := by decide +kernel
theorem dX12_meant_44 : decode cX12_meant 44 = .ok (.iload_n 1, 1) := by decide +kernel
theorem dX12_meant_45 : decode cX12_meant 45 = .ok (.aload_n 0, 1) := by decide +kernel
theorem dX12_meant_46 : decode cX12_meant 46 = .ok (.getfield 105, 3) := by decide +kernel
theorem dX12_meant_49 : decode cX12_meant 49 = .ok (.iload_n 2, 1) := by decide +kernel
theorem dX12_meant_50 : decode cX12_meant 50 = .ok (.iaload, 1) := by decide +kernel
theorem dX12_meant_51 : decode cX12_meant 51 = .ok (.aload_n 0, 1) := by decide +kernel
theorem dX12_meant_52 : decode cX12_meant 52 = .ok (.getfield 108, 3) := by decide +kernel
theorem dX12_meant_55 : decode cX12_meant 55 = .ok (.iload_n 2, 1) := by decide +kernel
theorem dX12_meant_56 : decode cX12_meant 56 = .ok (.iaload, 1) := by decide +kernel
theorem dX12_meant_57 : decode cX12_meant 57 = .ok (.invokevirtual 387, 3) := by decide +kernel
theorem dX12_meant_60 : decode cX12_meant 60 = .ok (.lconst 1, 1) := by decide +kernel
theorem dX12_meant_61 : decode cX12_meant 61 = .ok (.lcmp, 1) := by decide +kernel
theorem dX12_meant_62 : decode cX12_meant 62 = .ok (.ifCond .ne 21, 3) := by decide +kernel
theorem dX12_meant_65 : decode cX12_meant 65 = .ok (.aload_n 0, 1) := by decide +kernel
theorem dX12_meant_66 : decode cX12_meant 66 = .ok (.iload_n 1, 1) := by decide +kernel
theorem dX12_meant_67 : decode cX12_meant 67 = .ok (.aload_n 0, 1) := by decide +kernel
theorem dX12_meant_68 : decode cX12_meant 68 = .ok (.getfield 102, 3) := by decide +kernel
theorem dX12_meant_71 : decode cX12_meant 71 = .ok (.iload_n 2, 1) := by decide +kernel
theorem dX12_meant_72 : decode cX12_meant 72 = .ok (.iaload, 1) := by decide +kernel
theorem dX12_meant_73 : decode cX12_meant 73 = .ok (.aload_n 0, 1) := by decide +kernel
theorem dX12_meant_74 : decode cX12_meant 74 = .ok (.getfield 105, 3) := by decide +kernel
theorem dX12_meant_77 : decode cX12_meant 77 = .ok (.iload_n 2, 1) := by decide +kernel
theorem dX12_meant_78 : decode cX12_meant 78 = .ok (.iaload, 1) := by decide +kernel
theorem dX12_meant_79 : decode cX12_meant 79 = .ok (.invokevirtual 387, 3) := by decide +kernel
theorem dX12_meant_82 : decode cX12_meant 82 = .ok (.lreturn, 1) := by decide +kernel
theorem dX12_meant_83 : decode cX12_meant 83 = .ok (.iinc 2 1, 3) := by decide +kernel
theorem dX12_meant_86 : decode cX12_meant 86 = .ok (.goto (-73), 3) := by decide +kernel
theorem dX12_meant_89 : decode cX12_meant 89 = .ok (.lconst 0, 1) := by decide +kernel
theorem dX12_meant_90 : decode cX12_meant 90 = .ok (.lreturn, 1) := by decide +kernel
theorem dX12_truth_0 : decode cX12_truth 0 = .ok (.iload_n 0, 1) := by decide +kernel
theorem dX12_truth_1 : decode cX12_truth 1 = .ok (.ifCond .eq 7, 3) := by decide +kernel
theorem dX12_truth_4 : decode cX12_truth 4 = .ok (.lconst 1, 1) := by decide +kernel
theorem dX12_truth_5 : decode cX12_truth 5 = .ok (.goto 4, 3) := by decide +kernel
theorem dX12_truth_8 : decode cX12_truth 8 = .ok (.lconst 0, 1) := by decide +kernel
theorem dX12_truth_9 : decode cX12_truth 9 = .ok (.lreturn, 1) := by decide +kernel
theorem dX12_both_0 : decode cX12_both 0 = .ok (.iload_n 0, 1) := by decide +kernel
theorem dX12_both_1 : decode cX12_both 1 = .ok (.tableswitch 190 2 15 #[71, 75, 111, 126, 141, 156, 171, 190, 186, 190, 190, 79, 83, 97], 71) := by decide +kernel
theorem dX12_both_72 : decode cX12_both 72 = .ok (.lload_n 1, 1) := by decide +kernel
theorem dX12_both_73 : decode cX12_both 73 = .ok (.lload_n 3, 1) := by decide +kernel
theorem dX12_both_74 : decode cX12_both 74 = .ok (.ladd, 1) := by decide +kernel
theorem dX12_both_75 : decode cX12_both 75 = .ok (.lreturn, 1) := by decide +kernel
theorem dX12_both_76 : decode cX12_both 76 = .ok (.lload_n 1, 1) := by decide +kernel
theorem dX12_both_77 : decode cX12_both 77 = .ok (.lload_n 3, 1) := by decide +kernel
theorem dX12_both_78 : decode cX12_both 78 = .ok (.lsub, 1) := by decide +kernel
theorem dX12_both_79 : decode cX12_both 79 = .ok (.lreturn, 1) := by decide +kernel
theorem dX12_both_80 : decode cX12_both 80 = .ok (.lload_n 1, 1) := by decide +kernel
theorem dX12_both_81 : decode cX12_both 81 = .ok (.lload_n 3, 1) := by decide +kernel
theorem dX12_both_82 : decode cX12_both 82 = .ok (.lmul, 1) := by decide +kernel
theorem dX12_both_83 : decode cX12_both 83 = .ok (.lreturn, 1) := by decide +kernel
theorem dX12_both_84 : decode cX12_both 84 = .ok (.lload_n 3, 1) := by decide +kernel
theorem dX12_both_85 : decode cX12_both 85 = .ok (.lconst 0, 1) := by decide +kernel
theorem dX12_both_86 : decode cX12_both 86 = .ok (.lcmp, 1) := by decide +kernel
theorem dX12_both_87 : decode cX12_both 87 = .ok (.ifCond .ne 7, 3) := by decide +kernel
theorem dX12_both_90 : decode cX12_both 90 = .ok (.lconst 0, 1) := by decide +kernel
theorem dX12_both_91 : decode cX12_both 91 = .ok (.goto 6, 3) := by decide +kernel
theorem dX12_both_94 : decode cX12_both 94 = .ok (.lload_n 1, 1) := by decide +kernel
theorem dX12_both_95 : decode cX12_both 95 = .ok (.lload_n 3, 1) := by decide +kernel
theorem dX12_both_96 : decode cX12_both 96 = .ok (.ldiv, 1) := by decide +kernel
theorem dX12_both_97 : decode cX12_both 97 = .ok (.lreturn, 1) := by decide +kernel
theorem dX12_both_98 : decode cX12_both 98 = .ok (.lload_n 3, 1) := by decide +kernel
theorem dX12_both_99 : decode cX12_both 99 = .ok (.lconst 0, 1) := by decide +kernel
theorem dX12_both_100 : decode cX12_both 100 = .ok (.lcmp, 1) := by decide +kernel
theorem dX12_both_101 : decode cX12_both 101 = .ok (.ifCond .ne 7, 3) := by decide +kernel
theorem dX12_both_104 : decode cX12_both 104 = .ok (.lconst 0, 1) := by decide +kernel
theorem dX12_both_105 : decode cX12_both 105 = .ok (.goto 6, 3) := by decide +kernel
theorem dX12_both_108 : decode cX12_both 108 = .ok (.lload_n 1, 1) := by decide +kernel
theorem dX12_both_109 : decode cX12_both 109 = .ok (.lload_n 3, 1) := by decide +kernel
theorem dX12_both_110 : decode cX12_both 110 = .ok (.lrem, 1) := by decide +kernel
theorem dX12_both_111 : decode cX12_both 111 = .ok (.lreturn, 1) := by decide +kernel
theorem dX12_both_112 : decode cX12_both 112 = .ok (.lload_n 1, 1) := by decide +kernel
theorem dX12_both_113 : decode cX12_both 113 = .ok (.lload_n 3, 1) := by decide +kernel
theorem dX12_both_114 : decode cX12_both 114 = .ok (.lcmp, 1) := by decide +kernel
theorem dX12_both_115 : decode cX12_both 115 = .ok (.ifCond .ge 7, 3) := by decide +kernel
theorem dX12_both_118 : decode cX12_both 118 = .ok (.iconst 1, 1) := by decide +kernel
theorem dX12_both_119 : decode cX12_both 119 = .ok (.goto 4, 3) := by decide +kernel
theorem dX12_both_122 : decode cX12_both 122 = .ok (.iconst 0, 1) := by decide +kernel
theorem dX12_both_123 : decode cX12_both 123 = .ok (.invokestatic 391, 3) := by decide +kernel
theorem dX12_both_126 : decode cX12_both 126 = .ok (.lreturn, 1) := by decide +kernel
theorem dX12_both_127 : decode cX12_both 127 = .ok (.lload_n 1, 1) := by decide +kernel
theorem dX12_both_128 : decode cX12_both 128 = .ok (.lload_n 3, 1) := by decide +kernel
theorem dX12_both_129 : decode cX12_both 129 = .ok (.lcmp, 1) := by decide +kernel
theorem dX12_both_130 : decode cX12_both 130 = .ok (.ifCond .gt 7, 3) := by decide +kernel
theorem dX12_both_133 : decode cX12_both 133 = .ok (.iconst 1, 1) := by decide +kernel
theorem dX12_both_134 : decode cX12_both 134 = .ok (.goto 4, 3) := by decide +kernel
theorem dX12_both_137 : decode cX12_both 137 = .ok (.iconst 0, 1) := by decide +kernel
theorem dX12_both_138 : decode cX12_both 138 = .ok (.invokestatic 391, 3) := by decide +kernel
theorem dX12_both_141 : decode cX12_both 141 = .ok (.lreturn, 1) := by decide +kernel
theorem dX12_both_142 : decode cX12_both 142 = .ok (.lload_n 1, 1) := by decide +kernel
theorem dX12_both_143 : decode cX12_both 143 = .ok (.lload_n 3, 1) := by decide +kernel
theorem dX12_both_144 : decode cX12_both 144 = .ok (.lcmp, 1) := by decide +kernel
theorem dX12_both_145 : decode cX12_both 145 = .ok (.ifCond .ne 7, 3) := by decide +kernel
theorem dX12_both_148 : decode cX12_both 148 = .ok (.iconst 1, 1) := by decide +kernel
theorem dX12_both_149 : decode cX12_both 149 = .ok (.goto 4, 3) := by decide +kernel
theorem dX12_both_152 : decode cX12_both 152 = .ok (.iconst 0, 1) := by decide +kernel
theorem dX12_both_153 : decode cX12_both 153 = .ok (.invokestatic 391, 3) := by decide +kernel
theorem dX12_both_156 : decode cX12_both 156 = .ok (.lreturn, 1) := by decide +kernel
theorem dX12_both_157 : decode cX12_both 157 = .ok (.lload_n 1, 1) := by decide +kernel
theorem dX12_both_158 : decode cX12_both 158 = .ok (.lload_n 3, 1) := by decide +kernel
theorem dX12_both_159 : decode cX12_both 159 = .ok (.lcmp, 1) := by decide +kernel
theorem dX12_both_160 : decode cX12_both 160 = .ok (.ifCond .lt 7, 3) := by decide +kernel
theorem dX12_both_163 : decode cX12_both 163 = .ok (.iconst 1, 1) := by decide +kernel
theorem dX12_both_164 : decode cX12_both 164 = .ok (.goto 4, 3) := by decide +kernel
theorem dX12_both_167 : decode cX12_both 167 = .ok (.iconst 0, 1) := by decide +kernel
theorem dX12_both_168 : decode cX12_both 168 = .ok (.invokestatic 391, 3) := by decide +kernel
theorem dX12_both_171 : decode cX12_both 171 = .ok (.lreturn, 1) := by decide +kernel
theorem dX12_both_172 : decode cX12_both 172 = .ok (.lload_n 1, 1) := by decide +kernel
theorem dX12_both_173 : decode cX12_both 173 = .ok (.lload_n 3, 1) := by decide +kernel
theorem dX12_both_174 : decode cX12_both 174 = .ok (.lcmp, 1) := by decide +kernel
theorem dX12_both_175 : decode cX12_both 175 = .ok (.ifCond .le 7, 3) := by decide +kernel
theorem dX12_both_178 : decode cX12_both 178 = .ok (.iconst 1, 1) := by decide +kernel
theorem dX12_both_179 : decode cX12_both 179 = .ok (.goto 4, 3) := by decide +kernel
theorem dX12_both_182 : decode cX12_both 182 = .ok (.iconst 0, 1) := by decide +kernel
theorem dX12_both_183 : decode cX12_both 183 = .ok (.invokestatic 391, 3) := by decide +kernel
theorem dX12_both_186 : decode cX12_both 186 = .ok (.lreturn, 1) := by decide +kernel
theorem dX12_both_187 : decode cX12_both 187 = .ok (.lload_n 1, 1) := by decide +kernel
theorem dX12_both_188 : decode cX12_both 188 = .ok (.lload_n 3, 1) := by decide +kernel
theorem dX12_both_189 : decode cX12_both 189 = .ok (.land, 1) := by decide +kernel
theorem dX12_both_190 : decode cX12_both 190 = .ok (.lreturn, 1) := by decide +kernel
theorem dX12_both_191 : decode cX12_both 191 = .ok (.lload_n 1, 1) := by decide +kernel
theorem dX12_both_192 : decode cX12_both 192 = .ok (.lload_n 3, 1) := by decide +kernel
theorem dX12_both_193 : decode cX12_both 193 = .ok (.lor, 1) := by decide +kernel
theorem dX12_both_194 : decode cX12_both 194 = .ok (.lreturn, 1) := by decide +kernel
theorem dX12_answer_0 : decode cX12_answer 0 = .ok (.iconst 0, 1) := by decide +kernel
theorem dX12_answer_1 : decode cX12_answer 1 = .ok (.istore 4, 2) := by decide +kernel
theorem dX12_answer_3 : decode cX12_answer 3 = .ok (.iload_n 2, 1) := by decide +kernel
theorem dX12_answer_4 : decode cX12_answer 4 = .ok (.istore 5, 2) := by decide +kernel
theorem dX12_answer_6 : decode cX12_answer 6 = .ok (.iload 5, 2) := by decide +kernel
theorem dX12_answer_8 : decode cX12_answer 8 = .ok (.iload_n 3, 1) := by decide +kernel
theorem dX12_answer_9 : decode cX12_answer 9 = .ok (.if_icmp .ge 144, 3) := by decide +kernel
theorem dX12_answer_12 : decode cX12_answer 12 = .ok (.aload_n 0, 1) := by decide +kernel
theorem dX12_answer_13 : decode cX12_answer 13 = .ok (.getfield 93, 3) := by decide +kernel
theorem dX12_answer_16 : decode cX12_answer 16 = .ok (.sipush 300, 3) := by decide +kernel
theorem dX12_answer_19 : decode cX12_answer 19 = .ok (.iload_n 1, 1) := by decide +kernel
theorem dX12_answer_20 : decode cX12_answer 20 = .ok (.imul, 1) := by decide +kernel
theorem dX12_answer_21 : decode cX12_answer 21 = .ok (.iload 5, 2) := by decide +kernel
theorem dX12_answer_23 : decode cX12_answer 23 = .ok (.iadd, 1) := by decide +kernel
theorem dX12_answer_24 : decode cX12_answer 24 = .ok (.iaload, 1) := by decide +kernel
theorem dX12_answer_25 : decode cX12_answer 25 = .ok (.istore 6, 2) := by decide +kernel
theorem dX12_answer_27 : decode cX12_answer 27 = .ok (.aload_n 0, 1) := by decide +kernel
theorem dX12_answer_28 : decode cX12_answer 28 = .ok (.getfield 96, 3) := by decide +kernel
theorem dX12_answer_31 : decode cX12_answer 31 = .ok (.sipush 300, 3) := by decide +kernel
theorem dX12_answer_34 : decode cX12_answer 34 = .ok (.iload_n 1, 1) := by decide +kernel
theorem dX12_answer_35 : decode cX12_answer 35 = .ok (.imul, 1) := by decide +kernel
theorem dX12_answer_36 : decode cX12_answer 36 = .ok (.iload 5, 2) := by decide +kernel
theorem dX12_answer_38 : decode cX12_answer 38 = .ok (.iadd, 1) := by decide +kernel
theorem dX12_answer_39 : decode cX12_answer 39 = .ok (.iaload, 1) := by decide +kernel
theorem dX12_answer_40 : decode cX12_answer 40 = .ok (.istore 7, 2) := by decide +kernel
theorem dX12_answer_42 : decode cX12_answer 42 = .ok (.iload 6, 2) := by decide +kernel
theorem dX12_answer_44 : decode cX12_answer 44 = .ok (.ifCond .eq 9, 3) := by decide +kernel
theorem dX12_answer_47 : decode cX12_answer 47 = .ok (.iload 6, 2) := by decide +kernel
theorem dX12_answer_49 : decode cX12_answer 49 = .ok (.iconst 1, 1) := by decide +kernel
theorem dX12_answer_50 : decode cX12_answer 50 = .ok (.if_icmp .ne 34, 3) := by decide +kernel
theorem dX12_answer_53 : decode cX12_answer 53 = .ok (.aload_n 0, 1) := by decide +kernel
theorem dX12_answer_54 : decode cX12_answer 54 = .ok (.getfield 118, 3) := by decide +kernel
theorem dX12_answer_57 : decode cX12_answer 57 = .ok (.iload 4, 2) := by decide +kernel
theorem dX12_answer_59 : decode cX12_answer 59 = .ok (.iload 6, 2) := by decide +kernel
theorem dX12_answer_61 : decode cX12_answer 61 = .ok (.ifCond .ne 9, 3) := by decide +kernel
theorem dX12_answer_64 : decode cX12_answer 64 = .ok (.iload 7, 2) := by decide +kernel
theorem dX12_answer_66 : decode cX12_answer 66 = .ok (.i2l, 1) := by decide +kernel
theorem dX12_answer_67 : decode cX12_answer 67 = .ok (.goto 10, 3) := by decide +kernel
theorem dX12_answer_70 : decode cX12_answer 70 = .ok (.aload_n 0, 1) := by decide +kernel
theorem dX12_answer_71 : decode cX12_answer 71 = .ok (.getfield 114, 3) := by decide +kernel
theorem dX12_answer_74 : decode cX12_answer 74 = .ok (.iload 7, 2) := by decide +kernel
theorem dX12_answer_76 : decode cX12_answer 76 = .ok (.laload, 1) := by decide +kernel
theorem dX12_answer_77 : decode cX12_answer 77 = .ok (.lastore, 1) := by decide +kernel
theorem dX12_answer_78 : decode cX12_answer 78 = .ok (.iinc 4 1, 3) := by decide +kernel
theorem dX12_answer_81 : decode cX12_answer 81 = .ok (.goto 66, 3) := by decide +kernel
theorem dX12_answer_84 : decode cX12_answer 84 = .ok (.iload 6, 2) := by decide +kernel
theorem dX12_answer_86 : decode cX12_answer 86 = .ok (.bipush 9, 2) := by decide +kernel
theorem dX12_answer_88 : decode cX12_answer 88 = .ok (.if_icmp .ne 26, 3) := by decide +kernel
theorem dX12_answer_91 : decode cX12_answer 91 = .ok (.aload_n 0, 1) := by decide +kernel
theorem dX12_answer_92 : decode cX12_answer 92 = .ok (.getfield 118, 3) := by decide +kernel
theorem dX12_answer_95 : decode cX12_answer 95 = .ok (.iload 4, 2) := by decide +kernel
theorem dX12_answer_97 : decode cX12_answer 97 = .ok (.iconst 1, 1) := by decide +kernel
theorem dX12_answer_98 : decode cX12_answer 98 = .ok (.isub, 1) := by decide +kernel
theorem dX12_answer_99 : decode cX12_answer 99 = .ok (.lconst 1, 1) := by decide +kernel
theorem dX12_answer_100 : decode cX12_answer 100 = .ok (.aload_n 0, 1) := by decide +kernel
theorem dX12_answer_101 : decode cX12_answer 101 = .ok (.getfield 118, 3) := by decide +kernel
theorem dX12_answer_104 : decode cX12_answer 104 = .ok (.iload 4, 2) := by decide +kernel
theorem dX12_answer_106 : decode cX12_answer 106 = .ok (.iconst 1, 1) := by decide +kernel
theorem dX12_answer_107 : decode cX12_answer 107 = .ok (.isub, 1) := by decide +kernel
theorem dX12_answer_108 : decode cX12_answer 108 = .ok (.laload, 1) := by decide +kernel
theorem dX12_answer_109 : decode cX12_answer 109 = .ok (.lsub, 1) := by decide +kernel
theorem dX12_answer_110 : decode cX12_answer 110 = .ok (.lastore, 1) := by decide +kernel
theorem dX12_answer_111 : decode cX12_answer 111 = .ok (.goto 36, 3) := by decide +kernel
theorem dX12_answer_114 : decode cX12_answer 114 = .ok (.iinc 4 (-1), 3) := by decide +kernel
theorem dX12_answer_117 : decode cX12_answer 117 = .ok (.aload_n 0, 1) := by decide +kernel
theorem dX12_answer_118 : decode cX12_answer 118 = .ok (.getfield 118, 3) := by decide +kernel
theorem dX12_answer_121 : decode cX12_answer 121 = .ok (.iload 4, 2) := by decide +kernel
theorem dX12_answer_123 : decode cX12_answer 123 = .ok (.iconst 1, 1) := by decide +kernel
theorem dX12_answer_124 : decode cX12_answer 124 = .ok (.isub, 1) := by decide +kernel
theorem dX12_answer_125 : decode cX12_answer 125 = .ok (.iload 6, 2) := by decide +kernel
theorem dX12_answer_127 : decode cX12_answer 127 = .ok (.aload_n 0, 1) := by decide +kernel
theorem dX12_answer_128 : decode cX12_answer 128 = .ok (.getfield 118, 3) := by decide +kernel
theorem dX12_answer_131 : decode cX12_answer 131 = .ok (.iload 4, 2) := by decide +kernel
theorem dX12_answer_133 : decode cX12_answer 133 = .ok (.iconst 1, 1) := by decide +kernel
theorem dX12_answer_134 : decode cX12_answer 134 = .ok (.isub, 1) := by decide +kernel
theorem dX12_answer_135 : decode cX12_answer 135 = .ok (.laload, 1) := by decide +kernel
theorem dX12_answer_136 : decode cX12_answer 136 = .ok (.aload_n 0, 1) := by decide +kernel
theorem dX12_answer_137 : decode cX12_answer 137 = .ok (.getfield 118, 3) := by decide +kernel
theorem dX12_answer_140 : decode cX12_answer 140 = .ok (.iload 4, 2) := by decide +kernel
theorem dX12_answer_142 : decode cX12_answer 142 = .ok (.laload, 1) := by decide +kernel
theorem dX12_answer_143 : decode cX12_answer 143 = .ok (.invokestatic 395, 3) := by decide +kernel
theorem dX12_answer_146 : decode cX12_answer 146 = .ok (.lastore, 1) := by decide +kernel
theorem dX12_answer_147 : decode cX12_answer 147 = .ok (.iinc 5 1, 3) := by decide +kernel
theorem dX12_answer_150 : decode cX12_answer 150 = .ok (.goto (-144), 3) := by decide +kernel
theorem dX12_answer_153 : decode cX12_answer 153 = .ok (.aload_n 0, 1) := by decide +kernel
theorem dX12_answer_154 : decode cX12_answer 154 = .ok (.getfield 118, 3) := by decide +kernel
theorem dX12_answer_157 : decode cX12_answer 157 = .ok (.iconst 0, 1) := by decide +kernel
theorem dX12_answer_158 : decode cX12_answer 158 = .ok (.laload, 1) := by decide +kernel
theorem dX12_answer_159 : decode cX12_answer 159 = .ok (.lreturn, 1) := by decide +kernel
theorem dX12_laysOrder_0 : decode cX12_laysOrder 0 = .ok (.iconst 0, 1) := by decide +kernel
theorem dX12_laysOrder_1 : decode cX12_laysOrder 1 = .ok (.istore_n 1, 1) := by decide +kernel
theorem dX12_laysOrder_2 : decode cX12_laysOrder 2 = .ok (.iload_n 1, 1) := by decide +kernel
theorem dX12_laysOrder_3 : decode cX12_laysOrder 3 = .ok (.aload_n 0, 1) := by decide +kernel
theorem dX12_laysOrder_4 : decode cX12_laysOrder 4 = .ok (.getfield 9, 3) := by decide +kernel
theorem dX12_laysOrder_7 : decode cX12_laysOrder 7 = .ok (.iconst 4, 1) := by decide +kernel
theorem dX12_laysOrder_8 : decode cX12_laysOrder 8 = .ok (.iaload, 1) := by decide +kernel
theorem dX12_laysOrder_9 : decode cX12_laysOrder 9 = .ok (.if_icmp .ge 64, 3) := by decide +kernel
theorem dX12_laysOrder_12 : decode cX12_laysOrder 12 = .ok (.iload_n 1, 1) := by decide +kernel
theorem dX12_laysOrder_13 : decode cX12_laysOrder 13 = .ok (.istore_n 2, 1) := by decide +kernel
theorem dX12_laysOrder_14 : decode cX12_laysOrder 14 = .ok (.iload_n 2, 1) := by decide +kernel
theorem dX12_laysOrder_15 : decode cX12_laysOrder 15 = .ok (.ifCond .le 45, 3) := by decide +kernel
theorem dX12_laysOrder_18 : decode cX12_laysOrder 18 = .ok (.aload_n 0, 1) := by decide +kernel
theorem dX12_laysOrder_19 : decode cX12_laysOrder 19 = .ok (.getfield 34, 3) := by decide +kernel
theorem dX12_laysOrder_22 : decode cX12_laysOrder 22 = .ok (.aload_n 0, 1) := by decide +kernel
theorem dX12_laysOrder_23 : decode cX12_laysOrder 23 = .ok (.getfield 121, 3) := by decide +kernel
theorem dX12_laysOrder_26 : decode cX12_laysOrder 26 = .ok (.iload_n 2, 1) := by decide +kernel
theorem dX12_laysOrder_27 : decode cX12_laysOrder 27 = .ok (.iconst 1, 1) := by decide +kernel
theorem dX12_laysOrder_28 : decode cX12_laysOrder 28 = .ok (.isub, 1) := by decide +kernel
theorem dX12_laysOrder_29 : decode cX12_laysOrder 29 = .ok (.iaload, 1) := by decide +kernel
theorem dX12_laysOrder_30 : decode cX12_laysOrder 30 = .ok (.iaload, 1) := by decide +kernel
theorem dX12_laysOrder_31 : decode cX12_laysOrder 31 = .ok (.aload_n 0, 1) := by decide +kernel
theorem dX12_laysOrder_32 : decode cX12_laysOrder 32 = .ok (.getfield 34, 3) := by decide +kernel
theorem dX12_laysOrder_35 : decode cX12_laysOrder 35 = .ok (.iload_n 1, 1) := by decide +kernel
theorem dX12_laysOrder_36 : decode cX12_laysOrder 36 = .ok (.iaload, 1) := by decide +kernel
theorem dX12_laysOrder_37 : decode cX12_laysOrder 37 = .ok (.if_icmp .le 23, 3) := by decide +kernel
theorem dX12_laysOrder_40 : decode cX12_laysOrder 40 = .ok (.aload_n 0, 1) := by decide +kernel
theorem dX12_laysOrder_41 : decode cX12_laysOrder 41 = .ok (.getfield 121, 3) := by decide +kernel
theorem dX12_laysOrder_44 : decode cX12_laysOrder 44 = .ok (.iload_n 2, 1) := by decide +kernel
theorem dX12_laysOrder_45 : decode cX12_laysOrder 45 = .ok (.aload_n 0, 1) := by decide +kernel
theorem dX12_laysOrder_46 : decode cX12_laysOrder 46 = .ok (.getfield 121, 3) := by decide +kernel
theorem dX12_laysOrder_49 : decode cX12_laysOrder 49 = .ok (.iload_n 2, 1) := by decide +kernel
theorem dX12_laysOrder_50 : decode cX12_laysOrder 50 = .ok (.iconst 1, 1) := by decide +kernel
theorem dX12_laysOrder_51 : decode cX12_laysOrder 51 = .ok (.isub, 1) := by decide +kernel
theorem dX12_laysOrder_52 : decode cX12_laysOrder 52 = .ok (.iaload, 1) := by decide +kernel
theorem dX12_laysOrder_53 : decode cX12_laysOrder 53 = .ok (.iastore, 1) := by decide +kernel
theorem dX12_laysOrder_54 : decode cX12_laysOrder 54 = .ok (.iinc 2 (-1), 3) := by decide +kernel
theorem dX12_laysOrder_57 : decode cX12_laysOrder 57 = .ok (.goto (-43), 3) := by decide +kernel
theorem dX12_laysOrder_60 : decode cX12_laysOrder 60 = .ok (.aload_n 0, 1) := by decide +kernel
theorem dX12_laysOrder_61 : decode cX12_laysOrder 61 = .ok (.getfield 121, 3) := by decide +kernel
theorem dX12_laysOrder_64 : decode cX12_laysOrder 64 = .ok (.iload_n 2, 1) := by decide +kernel
theorem dX12_laysOrder_65 : decode cX12_laysOrder 65 = .ok (.iload_n 1, 1) := by decide +kernel
theorem dX12_laysOrder_66 : decode cX12_laysOrder 66 = .ok (.iastore, 1) := by decide +kernel
theorem dX12_laysOrder_67 : decode cX12_laysOrder 67 = .ok (.iinc 1 1, 3) := by decide +kernel
theorem dX12_laysOrder_70 : decode cX12_laysOrder 70 = .ok (.goto (-68), 3) := by decide +kernel
theorem dX12_laysOrder_73 : decode cX12_laysOrder 73 = .ok (.return_, 1) := by decide +kernel
theorem dX12_meansOf_0 : decode cX12_meansOf 0 = .ok (.aload_n 0, 1) := by decide +kernel
theorem dX12_meansOf_1 : decode cX12_meansOf 1 = .ok (.getfield 9, 3) := by decide +kernel
theorem dX12_meansOf_4 : decode cX12_meansOf 4 = .ok (.bipush 12, 2) := by decide +kernel
theorem dX12_meansOf_6 : decode cX12_meansOf 6 = .ok (.iaload, 1) := by decide +kernel
theorem dX12_meansOf_7 : decode cX12_meansOf 7 = .ok (.iconst (-1), 1) := by decide +kernel
theorem dX12_meansOf_8 : decode cX12_meansOf 8 = .ok (.if_icmp .ne 18, 3) := by decide +kernel
theorem dX12_meansOf_11 : decode cX12_meansOf 11 = .ok (.aload_n 0, 1) := by decide +kernel
theorem dX12_meansOf_12 : decode cX12_meansOf 12 = .ok (.getfield 13, 3) := by decide +kernel
theorem dX12_meansOf_15 : decode cX12_meansOf 15 = .ok (.iload_n 1, 1) := by decide +kernel
theorem dX12_meansOf_16 : decode cX12_meansOf 16 = .ok (.iaload, 1) := by decide +kernel
theorem dX12_meansOf_17 : decode cX12_meansOf 17 = .ok (.i2l, 1) := by decide +kernel
theorem dX12_meansOf_18 : decode cX12_meansOf 18 = .ok (.bipush (-30), 2) := by decide +kernel
theorem dX12_meansOf_20 : decode cX12_meansOf 20 = .ok (.bipush 120, 2) := by decide +kernel
theorem dX12_meansOf_22 : decode cX12_meansOf 22 = .ok (.invokestatic 399, 3) := by decide +kernel
theorem dX12_meansOf_25 : decode cX12_meansOf 25 = .ok (.ireturn, 1) := by decide +kernel
theorem dX12_meansOf_26 : decode cX12_meansOf 26 = .ok (.aload_n 0, 1) := by decide +kernel
theorem dX12_meansOf_27 : decode cX12_meansOf 27 = .ok (.getfield 28, 3) := by decide +kernel
theorem dX12_meansOf_30 : decode cX12_meansOf 30 = .ok (.iload_n 2, 1) := by decide +kernel
theorem dX12_meansOf_31 : decode cX12_meansOf 31 = .ok (.iaload, 1) := by decide +kernel
theorem dX12_meansOf_32 : decode cX12_meansOf 32 = .ok (.iload_n 1, 1) := by decide +kernel
theorem dX12_meansOf_33 : decode cX12_meansOf 33 = .ok (.if_icmp .ne 12, 3) := by decide +kernel
theorem dX12_meansOf_36 : decode cX12_meansOf 36 = .ok (.aload_n 0, 1) := by decide +kernel
theorem dX12_meansOf_37 : decode cX12_meansOf 37 = .ok (.getfield 31, 3) := by decide +kernel
theorem dX12_meansOf_40 : decode cX12_meansOf 40 = .ok (.iload_n 2, 1) := by decide +kernel
theorem dX12_meansOf_41 : decode cX12_meansOf 41 = .ok (.iaload, 1) := by decide +kernel
theorem dX12_meansOf_42 : decode cX12_meansOf 42 = .ok (.goto 9, 3) := by decide +kernel
theorem dX12_meansOf_45 : decode cX12_meansOf 45 = .ok (.aload_n 0, 1) := by decide +kernel
theorem dX12_meansOf_46 : decode cX12_meansOf 46 = .ok (.getfield 28, 3) := by decide +kernel
theorem dX12_meansOf_49 : decode cX12_meansOf 49 = .ok (.iload_n 2, 1) := by decide +kernel
theorem dX12_meansOf_50 : decode cX12_meansOf 50 = .ok (.iaload, 1) := by decide +kernel
theorem dX12_meansOf_51 : decode cX12_meansOf 51 = .ok (.istore_n 3, 1) := by decide +kernel
theorem dX12_meansOf_52 : decode cX12_meansOf 52 = .ok (.aload_n 0, 1) := by decide +kernel
theorem dX12_meansOf_53 : decode cX12_meansOf 53 = .ok (.getfield 114, 3) := by decide +kernel
theorem dX12_meansOf_56 : decode cX12_meansOf 56 = .ok (.iconst 0, 1) := by decide +kernel
theorem dX12_meansOf_57 : decode cX12_meansOf 57 = .ok (.iload_n 1, 1) := by decide +kernel
theorem dX12_meansOf_58 : decode cX12_meansOf 58 = .ok (.i2l, 1) := by decide +kernel
theorem dX12_meansOf_59 : decode cX12_meansOf 59 = .ok (.lastore, 1) := by decide +kernel
theorem dX12_meansOf_60 : decode cX12_meansOf 60 = .ok (.aload_n 0, 1) := by decide +kernel
theorem dX12_meansOf_61 : decode cX12_meansOf 61 = .ok (.getfield 114, 3) := by decide +kernel
theorem dX12_meansOf_64 : decode cX12_meansOf 64 = .ok (.iconst 1, 1) := by decide +kernel
theorem dX12_meansOf_65 : decode cX12_meansOf 65 = .ok (.iload_n 2, 1) := by decide +kernel
theorem dX12_meansOf_66 : decode cX12_meansOf 66 = .ok (.i2l, 1) := by decide +kernel
theorem dX12_meansOf_67 : decode cX12_meansOf 67 = .ok (.lastore, 1) := by decide +kernel
theorem dX12_meansOf_68 : decode cX12_meansOf 68 = .ok (.aload_n 0, 1) := by decide +kernel
theorem dX12_meansOf_69 : decode cX12_meansOf 69 = .ok (.getfield 114, 3) := by decide +kernel
theorem dX12_meansOf_72 : decode cX12_meansOf 72 = .ok (.iconst 2, 1) := by decide +kernel
theorem dX12_meansOf_73 : decode cX12_meansOf 73 = .ok (.aload_n 0, 1) := by decide +kernel
theorem dX12_meansOf_74 : decode cX12_meansOf 74 = .ok (.getfield 34, 3) := by decide +kernel
theorem dX12_meansOf_77 : decode cX12_meansOf 77 = .ok (.iload_n 2, 1) := by decide +kernel
theorem dX12_meansOf_78 : decode cX12_meansOf 78 = .ok (.iaload, 1) := by decide +kernel
theorem dX12_meansOf_79 : decode cX12_meansOf 79 = .ok (.i2l, 1) := by decide +kernel
theorem dX12_meansOf_80 : decode cX12_meansOf 80 = .ok (.lastore, 1) := by decide +kernel
theorem dX12_meansOf_81 : decode cX12_meansOf 81 = .ok (.aload_n 0, 1) := by decide +kernel
theorem dX12_meansOf_82 : decode cX12_meansOf 82 = .ok (.getfield 114, 3) := by decide +kernel
theorem dX12_meansOf_85 : decode cX12_meansOf 85 = .ok (.iconst 3, 1) := by decide +kernel
theorem dX12_meansOf_86 : decode cX12_meansOf 86 = .ok (.aload_n 0, 1) := by decide +kernel
theorem dX12_meansOf_87 : decode cX12_meansOf 87 = .ok (.getfield 13, 3) := by decide +kernel
theorem dX12_meansOf_90 : decode cX12_meansOf 90 = .ok (.iload_n 1, 1) := by decide +kernel
theorem dX12_meansOf_91 : decode cX12_meansOf 91 = .ok (.iaload, 1) := by decide +kernel
theorem dX12_meansOf_92 : decode cX12_meansOf 92 = .ok (.i2l, 1) := by decide +kernel
theorem dX12_meansOf_93 : decode cX12_meansOf 93 = .ok (.lastore, 1) := by decide +kernel
theorem dX12_meansOf_94 : decode cX12_meansOf 94 = .ok (.aload_n 0, 1) := by decide +kernel
theorem dX12_meansOf_95 : decode cX12_meansOf 95 = .ok (.getfield 114, 3) := by decide +kernel
theorem dX12_meansOf_98 : decode cX12_meansOf 98 = .ok (.iconst 4, 1) := by decide +kernel
theorem dX12_meansOf_99 : decode cX12_meansOf 99 = .ok (.aload_n 0, 1) := by decide +kernel
theorem dX12_meansOf_100 : decode cX12_meansOf 100 = .ok (.getfield 9, 3) := by decide +kernel
theorem dX12_meansOf_103 : decode cX12_meansOf 103 = .ok (.iconst 0, 1) := by decide +kernel
theorem dX12_meansOf_104 : decode cX12_meansOf 104 = .ok (.iaload, 1) := by decide +kernel
theorem dX12_meansOf_105 : decode cX12_meansOf 105 = .ok (.i2l, 1) := by decide +kernel
theorem dX12_meansOf_106 : decode cX12_meansOf 106 = .ok (.lastore, 1) := by decide +kernel
theorem dX12_meansOf_107 : decode cX12_meansOf 107 = .ok (.aload_n 0, 1) := by decide +kernel
theorem dX12_meansOf_108 : decode cX12_meansOf 108 = .ok (.getfield 114, 3) := by decide +kernel
theorem dX12_meansOf_111 : decode cX12_meansOf 111 = .ok (.iconst 5, 1) := by decide +kernel
theorem dX12_meansOf_112 : decode cX12_meansOf 112 = .ok (.aload_n 0, 1) := by decide +kernel
theorem dX12_meansOf_113 : decode cX12_meansOf 113 = .ok (.getfield 9, 3) := by decide +kernel
theorem dX12_meansOf_116 : decode cX12_meansOf 116 = .ok (.iconst 1, 1) := by decide +kernel
theorem dX12_meansOf_117 : decode cX12_meansOf 117 = .ok (.iaload, 1) := by decide +kernel
theorem dX12_meansOf_118 : decode cX12_meansOf 118 = .ok (.i2l, 1) := by decide +kernel
theorem dX12_meansOf_119 : decode cX12_meansOf 119 = .ok (.lastore, 1) := by decide +kernel
theorem dX12_meansOf_120 : decode cX12_meansOf 120 = .ok (.aload_n 0, 1) := by decide +kernel
theorem dX12_meansOf_121 : decode cX12_meansOf 121 = .ok (.getfield 114, 3) := by decide +kernel
theorem dX12_meansOf_124 : decode cX12_meansOf 124 = .ok (.bipush 6, 2) := by decide +kernel
theorem dX12_meansOf_126 : decode cX12_meansOf 126 = .ok (.iload_n 3, 1) := by decide +kernel
theorem dX12_meansOf_127 : decode cX12_meansOf 127 = .ok (.i2l, 1) := by decide +kernel
theorem dX12_meansOf_128 : decode cX12_meansOf 128 = .ok (.lastore, 1) := by decide +kernel
theorem dX12_meansOf_129 : decode cX12_meansOf 129 = .ok (.aload_n 0, 1) := by decide +kernel
theorem dX12_meansOf_130 : decode cX12_meansOf 130 = .ok (.getfield 114, 3) := by decide +kernel
theorem dX12_meansOf_133 : decode cX12_meansOf 133 = .ok (.bipush 7, 2) := by decide +kernel
theorem dX12_meansOf_135 : decode cX12_meansOf 135 = .ok (.aload_n 0, 1) := by decide +kernel
theorem dX12_meansOf_136 : decode cX12_meansOf 136 = .ok (.getfield 19, 3) := by decide +kernel
theorem dX12_meansOf_139 : decode cX12_meansOf 139 = .ok (.iload_n 3, 1) := by decide +kernel
theorem dX12_meansOf_140 : decode cX12_meansOf 140 = .ok (.iaload, 1) := by decide +kernel
theorem dX12_meansOf_141 : decode cX12_meansOf 141 = .ok (.i2l, 1) := by decide +kernel
theorem dX12_meansOf_142 : decode cX12_meansOf 142 = .ok (.lastore, 1) := by decide +kernel
theorem dX12_meansOf_143 : decode cX12_meansOf 143 = .ok (.aload_n 0, 1) := by decide +kernel
theorem dX12_meansOf_144 : decode cX12_meansOf 144 = .ok (.getfield 114, 3) := by decide +kernel
theorem dX12_meansOf_147 : decode cX12_meansOf 147 = .ok (.bipush 8, 2) := by decide +kernel
theorem dX12_meansOf_149 : decode cX12_meansOf 149 = .ok (.aload_n 0, 1) := by decide +kernel
theorem dX12_meansOf_150 : decode cX12_meansOf 150 = .ok (.getfield 19, 3) := by decide +kernel
theorem dX12_meansOf_153 : decode cX12_meansOf 153 = .ok (.iload_n 1, 1) := by decide +kernel
theorem dX12_meansOf_154 : decode cX12_meansOf 154 = .ok (.iaload, 1) := by decide +kernel
theorem dX12_meansOf_155 : decode cX12_meansOf 155 = .ok (.i2l, 1) := by decide +kernel
theorem dX12_meansOf_156 : decode cX12_meansOf 156 = .ok (.lastore, 1) := by decide +kernel
theorem dX12_meansOf_157 : decode cX12_meansOf 157 = .ok (.aload_n 0, 1) := by decide +kernel
theorem dX12_meansOf_158 : decode cX12_meansOf 158 = .ok (.getfield 114, 3) := by decide +kernel
theorem dX12_meansOf_161 : decode cX12_meansOf 161 = .ok (.bipush 9, 2) := by decide +kernel
theorem dX12_meansOf_163 : decode cX12_meansOf 163 = .ok (.aload_n 0, 1) := by decide +kernel
theorem dX12_meansOf_164 : decode cX12_meansOf 164 = .ok (.getfield 22, 3) := by decide +kernel
theorem dX12_meansOf_167 : decode cX12_meansOf 167 = .ok (.iload_n 1, 1) := by decide +kernel
theorem dX12_meansOf_168 : decode cX12_meansOf 168 = .ok (.iaload, 1) := by decide +kernel
theorem dX12_meansOf_169 : decode cX12_meansOf 169 = .ok (.i2l, 1) := by decide +kernel
theorem dX12_meansOf_170 : decode cX12_meansOf 170 = .ok (.lastore, 1) := by decide +kernel
theorem dX12_meansOf_171 : decode cX12_meansOf 171 = .ok (.aload_n 0, 1) := by decide +kernel
theorem dX12_meansOf_172 : decode cX12_meansOf 172 = .ok (.getfield 114, 3) := by decide +kernel
theorem dX12_meansOf_175 : decode cX12_meansOf 175 = .ok (.bipush 10, 2) := by decide +kernel
theorem dX12_meansOf_177 : decode cX12_meansOf 177 = .ok (.aload_n 0, 1) := by decide +kernel
theorem dX12_meansOf_178 : decode cX12_meansOf 178 = .ok (.getfield 25, 3) := by decide +kernel
theorem dX12_meansOf_181 : decode cX12_meansOf 181 = .ok (.iload_n 1, 1) := by decide +kernel
theorem dX12_meansOf_182 : decode cX12_meansOf 182 = .ok (.iaload, 1) := by decide +kernel
theorem dX12_meansOf_183 : decode cX12_meansOf 183 = .ok (.i2l, 1) := by decide +kernel
theorem dX12_meansOf_184 : decode cX12_meansOf 184 = .ok (.lastore, 1) := by decide +kernel
theorem dX12_meansOf_185 : decode cX12_meansOf 185 = .ok (.aload_n 0, 1) := by decide +kernel
theorem dX12_meansOf_186 : decode cX12_meansOf 186 = .ok (.getfield 114, 3) := by decide +kernel
theorem dX12_meansOf_189 : decode cX12_meansOf 189 = .ok (.bipush 11, 2) := by decide +kernel
theorem dX12_meansOf_191 : decode cX12_meansOf 191 = .ok (.aload_n 0, 1) := by decide +kernel
theorem dX12_meansOf_192 : decode cX12_meansOf 192 = .ok (.getfield 9, 3) := by decide +kernel
theorem dX12_meansOf_195 : decode cX12_meansOf 195 = .ok (.bipush 9, 2) := by decide +kernel
theorem dX12_meansOf_197 : decode cX12_meansOf 197 = .ok (.iaload, 1) := by decide +kernel
theorem dX12_meansOf_198 : decode cX12_meansOf 198 = .ok (.i2l, 1) := by decide +kernel
theorem dX12_meansOf_199 : decode cX12_meansOf 199 = .ok (.lastore, 1) := by decide +kernel
theorem dX12_meansOf_200 : decode cX12_meansOf 200 = .ok (.aload_n 0, 1) := by decide +kernel
theorem dX12_meansOf_201 : decode cX12_meansOf 201 = .ok (.getfield 114, 3) := by decide +kernel
theorem dX12_meansOf_204 : decode cX12_meansOf 204 = .ok (.bipush 12, 2) := by decide +kernel
theorem dX12_meansOf_206 : decode cX12_meansOf 206 = .ok (.aload_n 0, 1) := by decide +kernel
theorem dX12_meansOf_207 : decode cX12_meansOf 207 = .ok (.getfield 16, 3) := by decide +kernel
theorem dX12_meansOf_210 : decode cX12_meansOf 210 = .ok (.iload_n 1, 1) := by decide +kernel
theorem dX12_meansOf_211 : decode cX12_meansOf 211 = .ok (.iaload, 1) := by decide +kernel
theorem dX12_meansOf_212 : decode cX12_meansOf 212 = .ok (.i2l, 1) := by decide +kernel
theorem dX12_meansOf_213 : decode cX12_meansOf 213 = .ok (.lastore, 1) := by decide +kernel
theorem dX12_meansOf_214 : decode cX12_meansOf 214 = .ok (.aload_n 0, 1) := by decide +kernel
theorem dX12_meansOf_215 : decode cX12_meansOf 215 = .ok (.getfield 114, 3) := by decide +kernel
theorem dX12_meansOf_218 : decode cX12_meansOf 218 = .ok (.bipush 13, 2) := by decide +kernel
theorem dX12_meansOf_220 : decode cX12_meansOf 220 = .ok (.aload_n 0, 1) := by decide +kernel
theorem dX12_meansOf_221 : decode cX12_meansOf 221 = .ok (.getfield 9, 3) := by decide +kernel
theorem dX12_meansOf_224 : decode cX12_meansOf 224 = .ok (.bipush 8, 2) := by decide +kernel
theorem dX12_meansOf_226 : decode cX12_meansOf 226 = .ok (.iaload, 1) := by decide +kernel
theorem dX12_meansOf_227 : decode cX12_meansOf 227 = .ok (.iload_n 1, 1) := by decide +kernel
theorem dX12_meansOf_228 : decode cX12_meansOf 228 = .ok (.invokestatic 403, 3) := by decide +kernel
theorem dX12_meansOf_231 : decode cX12_meansOf 231 = .ok (.ifCond .eq 7, 3) := by decide +kernel
theorem dX12_meansOf_234 : decode cX12_meansOf 234 = .ok (.lconst 1, 1) := by decide +kernel
theorem dX12_meansOf_235 : decode cX12_meansOf 235 = .ok (.goto 4, 3) := by decide +kernel
theorem dX12_meansOf_238 : decode cX12_meansOf 238 = .ok (.lconst 0, 1) := by decide +kernel
theorem dX12_meansOf_239 : decode cX12_meansOf 239 = .ok (.lastore, 1) := by decide +kernel
theorem dX12_meansOf_240 : decode cX12_meansOf 240 = .ok (.aload_n 0, 1) := by decide +kernel
theorem dX12_meansOf_241 : decode cX12_meansOf 241 = .ok (.invokevirtual 406, 3) := by decide +kernel
theorem dX12_meansOf_244 : decode cX12_meansOf 244 = .ok (.bipush (-30), 2) := by decide +kernel
theorem dX12_meansOf_246 : decode cX12_meansOf 246 = .ok (.bipush 120, 2) := by decide +kernel
theorem dX12_meansOf_248 : decode cX12_meansOf 248 = .ok (.invokestatic 399, 3) := by decide +kernel
theorem dX12_meansOf_251 : decode cX12_meansOf 251 = .ok (.ireturn, 1) := by decide +kernel
theorem dX12_drawnMore_0 : decode cX12_drawnMore 0 = .ok (.aload_n 0, 1) := by decide +kernel
theorem dX12_drawnMore_1 : decode cX12_drawnMore 1 = .ok (.getfield 410, 3) := by decide +kernel
theorem dX12_drawnMore_4 : decode cX12_drawnMore 4 = .ok (.ifCond .eq 24, 3) := by decide +kernel
theorem dX12_drawnMore_7 : decode cX12_drawnMore 7 = .ok (.iload_n 1, 1) := by decide +kernel
theorem dX12_drawnMore_8 : decode cX12_drawnMore 8 = .ok (.aload_n 0, 1) := by decide +kernel
theorem dX12_drawnMore_9 : decode cX12_drawnMore 9 = .ok (.bipush 11, 2) := by decide +kernel
theorem dX12_drawnMore_11 : decode cX12_drawnMore 11 = .ok (.invokevirtual 414, 3) := by decide +kernel
theorem dX12_drawnMore_14 : decode cX12_drawnMore 14 = .ok (.iadd, 1) := by decide +kernel
theorem dX12_drawnMore_15 : decode cX12_drawnMore 15 = .ok (.iconst 5, 1) := by decide +kernel
theorem dX12_drawnMore_16 : decode cX12_drawnMore 16 = .ok (.isub, 1) := by decide +kernel
theorem dX12_drawnMore_17 : decode cX12_drawnMore 17 = .ok (.i2l, 1) := by decide +kernel
theorem dX12_drawnMore_18 : decode cX12_drawnMore 18 = .ok (.bipush (-30), 2) := by decide +kernel
theorem dX12_drawnMore_20 : decode cX12_drawnMore 20 = .ok (.bipush 120, 2) := by decide +kernel
theorem dX12_drawnMore_22 : decode cX12_drawnMore 22 = .ok (.invokestatic 399, 3) := by decide +kernel
theorem dX12_drawnMore_25 : decode cX12_drawnMore 25 = .ok (.goto 4, 3) := by decide +kernel
theorem dX12_drawnMore_28 : decode cX12_drawnMore 28 = .ok (.iload_n 1, 1) := by decide +kernel
theorem dX12_drawnMore_29 : decode cX12_drawnMore 29 = .ok (.ireturn, 1) := by decide +kernel
theorem dX12_comes_0 : decode cX12_comes 0 = .ok (.aload_n 0, 1) := by decide +kernel
theorem dX12_comes_1 : decode cX12_comes 1 = .ok (.getfield 34, 3) := by decide +kernel
theorem dX12_comes_4 : decode cX12_comes 4 = .ok (.iload_n 2, 1) := by decide +kernel
theorem dX12_comes_5 : decode cX12_comes 5 = .ok (.iaload, 1) := by decide +kernel
theorem dX12_comes_6 : decode cX12_comes 6 = .ok (.iload_n 3, 1) := by decide +kernel
theorem dX12_comes_7 : decode cX12_comes 7 = .ok (.iadd, 1) := by decide +kernel
theorem dX12_comes_8 : decode cX12_comes 8 = .ok (.aload_n 0, 1) := by decide +kernel
theorem dX12_comes_9 : decode cX12_comes 9 = .ok (.getfield 16, 3) := by decide +kernel
theorem dX12_comes_12 : decode cX12_comes 12 = .ok (.iload_n 1, 1) := by decide +kernel
theorem dX12_comes_13 : decode cX12_comes 13 = .ok (.iaload, 1) := by decide +kernel
theorem dX12_comes_14 : decode cX12_comes 14 = .ok (.isub, 1) := by decide +kernel
theorem dX12_comes_15 : decode cX12_comes 15 = .ok (.istore 4, 2) := by decide +kernel
theorem dX12_comes_17 : decode cX12_comes 17 = .ok (.aload_n 0, 1) := by decide +kernel
theorem dX12_comes_18 : decode cX12_comes 18 = .ok (.getfield 124, 3) := by decide +kernel
theorem dX12_comes_21 : decode cX12_comes 21 = .ok (.iload_n 1, 1) := by decide +kernel
theorem dX12_comes_22 : decode cX12_comes 22 = .ok (.iaload, 1) := by decide +kernel
theorem dX12_comes_23 : decode cX12_comes 23 = .ok (.ldc_w 417, 3) := by decide +kernel
theorem dX12_comes_26 : decode cX12_comes 26 = .ok (.if_icmp .eq 23, 3) := by decide +kernel
theorem dX12_comes_29 : decode cX12_comes 29 = .ok (.aload_n 0, 1) := by decide +kernel
theorem dX12_comes_30 : decode cX12_comes 30 = .ok (.getfield 124, 3) := by decide +kernel
theorem dX12_comes_33 : decode cX12_comes 33 = .ok (.iload_n 1, 1) := by decide +kernel
theorem dX12_comes_34 : decode cX12_comes 34 = .ok (.iaload, 1) := by decide +kernel
theorem dX12_comes_35 : decode cX12_comes 35 = .ok (.iload 4, 2) := by decide +kernel
theorem dX12_comes_37 : decode cX12_comes 37 = .ok (.if_icmp .le 12, 3) := by decide +kernel
theorem dX12_comes_40 : decode cX12_comes 40 = .ok (.aload_n 0, 1) := by decide +kernel
theorem dX12_comes_41 : decode cX12_comes 41 = .ok (.getfield 124, 3) := by decide +kernel
theorem dX12_comes_44 : decode cX12_comes 44 = .ok (.iload_n 1, 1) := by decide +kernel
theorem dX12_comes_45 : decode cX12_comes 45 = .ok (.iaload, 1) := by decide +kernel
theorem dX12_comes_46 : decode cX12_comes 46 = .ok (.goto 5, 3) := by decide +kernel
theorem dX12_comes_49 : decode cX12_comes 49 = .ok (.iload 4, 2) := by decide +kernel
theorem dX12_comes_51 : decode cX12_comes 51 = .ok (.ireturn, 1) := by decide +kernel
theorem dX12_finesOf_0 : decode cX12_finesOf 0 = .ok (.aload_n 0, 1) := by decide +kernel
theorem dX12_finesOf_1 : decode cX12_finesOf 1 = .ok (.getfield 9, 3) := by decide +kernel
theorem dX12_finesOf_4 : decode cX12_finesOf 4 = .ok (.bipush 8, 2) := by decide +kernel
theorem dX12_finesOf_6 : decode cX12_finesOf 6 = .ok (.iaload, 1) := by decide +kernel
theorem dX12_finesOf_7 : decode cX12_finesOf 7 = .ok (.iload_n 1, 1) := by decide +kernel
theorem dX12_finesOf_8 : decode cX12_finesOf 8 = .ok (.invokestatic 403, 3) := by decide +kernel
theorem dX12_finesOf_11 : decode cX12_finesOf 11 = .ok (.ifCond .eq 5, 3) := by decide +kernel
theorem dX12_finesOf_14 : decode cX12_finesOf 14 = .ok (.iconst 0, 1) := by decide +kernel
theorem dX12_finesOf_15 : decode cX12_finesOf 15 = .ok (.ireturn, 1) := by decide +kernel
theorem dX12_finesOf_16 : decode cX12_finesOf 16 = .ok (.iload_n 2, 1) := by decide +kernel
theorem dX12_finesOf_17 : decode cX12_finesOf 17 = .ok (.aload_n 0, 1) := by decide +kernel
theorem dX12_finesOf_18 : decode cX12_finesOf 18 = .ok (.getfield 9, 3) := by decide +kernel
theorem dX12_finesOf_21 : decode cX12_finesOf 21 = .ok (.iconst 0, 1) := by decide +kernel
theorem dX12_finesOf_22 : decode cX12_finesOf 22 = .ok (.iaload, 1) := by decide +kernel
theorem dX12_finesOf_23 : decode cX12_finesOf 23 = .ok (.if_icmp .ge 20, 3) := by decide +kernel
theorem dX12_finesOf_26 : decode cX12_finesOf 26 = .ok (.aload_n 0, 1) := by decide +kernel
theorem dX12_finesOf_27 : decode cX12_finesOf 27 = .ok (.getfield 127, 3) := by decide +kernel
theorem dX12_finesOf_30 : decode cX12_finesOf 30 = .ok (.iload_n 1, 1) := by decide +kernel
theorem dX12_finesOf_31 : decode cX12_finesOf 31 = .ok (.dup2, 1) := by decide +kernel
theorem dX12_finesOf_32 : decode cX12_finesOf 32 = .ok (.iaload, 1) := by decide +kernel
theorem dX12_finesOf_33 : decode cX12_finesOf 33 = .ok (.iconst 1, 1) := by decide +kernel
theorem dX12_finesOf_34 : decode cX12_finesOf 34 = .ok (.iadd, 1) := by decide +kernel
theorem dX12_finesOf_35 : decode cX12_finesOf 35 = .ok (.iastore, 1) := by decide +kernel
theorem dX12_finesOf_36 : decode cX12_finesOf 36 = .ok (.aload_n 0, 1) := by decide +kernel
theorem dX12_finesOf_37 : decode cX12_finesOf 37 = .ok (.getfield 9, 3) := by decide +kernel
theorem dX12_finesOf_40 : decode cX12_finesOf 40 = .ok (.iconst 5, 1) := by decide +kernel
theorem dX12_finesOf_41 : decode cX12_finesOf 41 = .ok (.iaload, 1) := by decide +kernel
theorem dX12_finesOf_42 : decode cX12_finesOf 42 = .ok (.ireturn, 1) := by decide +kernel
theorem dX12_finesOf_43 : decode cX12_finesOf 43 = .ok (.iload_n 2, 1) := by decide +kernel
theorem dX12_finesOf_44 : decode cX12_finesOf 44 = .ok (.aload_n 0, 1) := by decide +kernel
theorem dX12_finesOf_45 : decode cX12_finesOf 45 = .ok (.getfield 9, 3) := by decide +kernel
theorem dX12_finesOf_48 : decode cX12_finesOf 48 = .ok (.iconst 1, 1) := by decide +kernel
theorem dX12_finesOf_49 : decode cX12_finesOf 49 = .ok (.iaload, 1) := by decide +kernel
theorem dX12_finesOf_50 : decode cX12_finesOf 50 = .ok (.if_icmp .le 21, 3) := by decide +kernel
theorem dX12_finesOf_53 : decode cX12_finesOf 53 = .ok (.aload_n 0, 1) := by decide +kernel
theorem dX12_finesOf_54 : decode cX12_finesOf 54 = .ok (.getfield 130, 3) := by decide +kernel
theorem dX12_finesOf_57 : decode cX12_finesOf 57 = .ok (.iload_n 1, 1) := by decide +kernel
theorem dX12_finesOf_58 : decode cX12_finesOf 58 = .ok (.dup2, 1) := by decide +kernel
theorem dX12_finesOf_59 : decode cX12_finesOf 59 = .ok (.iaload, 1) := by decide +kernel
theorem dX12_finesOf_60 : decode cX12_finesOf 60 = .ok (.iconst 1, 1) := by decide +kernel
theorem dX12_finesOf_61 : decode cX12_finesOf 61 = .ok (.iadd, 1) := by decide +kernel
theorem dX12_finesOf_62 : decode cX12_finesOf 62 = .ok (.iastore, 1) := by decide +kernel
theorem dX12_finesOf_63 : decode cX12_finesOf 63 = .ok (.aload_n 0, 1) := by decide +kernel
theorem dX12_finesOf_64 : decode cX12_finesOf 64 = .ok (.getfield 9, 3) := by decide +kernel
theorem dX12_finesOf_67 : decode cX12_finesOf 67 = .ok (.bipush 6, 2) := by decide +kernel
theorem dX12_finesOf_69 : decode cX12_finesOf 69 = .ok (.iaload, 1) := by decide +kernel
theorem dX12_finesOf_70 : decode cX12_finesOf 70 = .ok (.ireturn, 1) := by decide +kernel
theorem dX12_finesOf_71 : decode cX12_finesOf 71 = .ok (.iconst 0, 1) := by decide +kernel
theorem dX12_finesOf_72 : decode cX12_finesOf 72 = .ok (.ireturn, 1) := by decide +kernel
theorem dX12_meets_0 : decode cX12_meets 0 = .ok (.aload_n 0, 1) := by decide +kernel
theorem dX12_meets_1 : decode cX12_meets 1 = .ok (.getfield 28, 3) := by decide +kernel
theorem dX12_meets_4 : decode cX12_meets 4 = .ok (.iload_n 1, 1) := by decide +kernel
theorem dX12_meets_5 : decode cX12_meets 5 = .ok (.iaload, 1) := by decide +kernel
theorem dX12_meets_6 : decode cX12_meets 6 = .ok (.istore_n 2, 1) := by decide +kernel
theorem dX12_meets_7 : decode cX12_meets 7 = .ok (.aload_n 0, 1) := by decide +kernel
theorem dX12_meets_8 : decode cX12_meets 8 = .ok (.getfield 31, 3) := by decide +kernel
theorem dX12_meets_11 : decode cX12_meets 11 = .ok (.iload_n 1, 1) := by decide +kernel
theorem dX12_meets_12 : decode cX12_meets 12 = .ok (.iaload, 1) := by decide +kernel
theorem dX12_meets_13 : decode cX12_meets 13 = .ok (.istore_n 3, 1) := by decide +kernel
theorem dX12_meets_14 : decode cX12_meets 14 = .ok (.aload_n 0, 1) := by decide +kernel
theorem dX12_meets_15 : decode cX12_meets 15 = .ok (.getfield 154, 3) := by decide +kernel
theorem dX12_meets_18 : decode cX12_meets 18 = .ok (.iload_n 1, 1) := by decide +kernel
theorem dX12_meets_19 : decode cX12_meets 19 = .ok (.if_icmp .ne 10, 3) := by decide +kernel
theorem dX12_meets_22 : decode cX12_meets 22 = .ok (.aload_n 0, 1) := by decide +kernel
theorem dX12_meets_23 : decode cX12_meets 23 = .ok (.getfield 418, 3) := by decide +kernel
theorem dX12_meets_26 : decode cX12_meets 26 = .ok (.goto 9, 3) := by decide +kernel
theorem dX12_meets_29 : decode cX12_meets 29 = .ok (.aload_n 0, 1) := by decide +kernel
theorem dX12_meets_30 : decode cX12_meets 30 = .ok (.iload_n 2, 1) := by decide +kernel
theorem dX12_meets_31 : decode cX12_meets 31 = .ok (.iload_n 1, 1) := by decide +kernel
theorem dX12_meets_32 : decode cX12_meets 32 = .ok (.invokevirtual 421, 3) := by decide +kernel
theorem dX12_meets_35 : decode cX12_meets 35 = .ok (.istore 4, 2) := by decide +kernel
theorem dX12_meets_37 : decode cX12_meets 37 = .ok (.aload_n 0, 1) := by decide +kernel
theorem dX12_meets_38 : decode cX12_meets 38 = .ok (.getfield 154, 3) := by decide +kernel
theorem dX12_meets_41 : decode cX12_meets 41 = .ok (.iload_n 1, 1) := by decide +kernel
theorem dX12_meets_42 : decode cX12_meets 42 = .ok (.if_icmp .ne 10, 3) := by decide +kernel
theorem dX12_meets_45 : decode cX12_meets 45 = .ok (.aload_n 0, 1) := by decide +kernel
theorem dX12_meets_46 : decode cX12_meets 46 = .ok (.getfield 424, 3) := by decide +kernel
theorem dX12_meets_49 : decode cX12_meets 49 = .ok (.goto 9, 3) := by decide +kernel
theorem dX12_meets_52 : decode cX12_meets 52 = .ok (.aload_n 0, 1) := by decide +kernel
theorem dX12_meets_53 : decode cX12_meets 53 = .ok (.iload_n 3, 1) := by decide +kernel
theorem dX12_meets_54 : decode cX12_meets 54 = .ok (.iload_n 1, 1) := by decide +kernel
theorem dX12_meets_55 : decode cX12_meets 55 = .ok (.invokevirtual 421, 3) := by decide +kernel
theorem dX12_meets_58 : decode cX12_meets 58 = .ok (.istore 5, 2) := by decide +kernel
theorem dX12_meets_60 : decode cX12_meets 60 = .ok (.aload_n 0, 1) := by decide +kernel
theorem dX12_meets_61 : decode cX12_meets 61 = .ok (.iload 4, 2) := by decide +kernel
theorem dX12_meets_63 : decode cX12_meets 63 = .ok (.invokevirtual 427, 3) := by decide +kernel
theorem dX12_meets_66 : decode cX12_meets 66 = .ok (.istore 4, 2) := by decide +kernel
theorem dX12_meets_68 : decode cX12_meets 68 = .ok (.aload_n 0, 1) := by decide +kernel
theorem dX12_meets_69 : decode cX12_meets 69 = .ok (.iload 5, 2) := by decide +kernel
theorem dX12_meets_71 : decode cX12_meets 71 = .ok (.invokevirtual 427, 3) := by decide +kernel
theorem dX12_meets_74 : decode cX12_meets 74 = .ok (.istore 5, 2) := by decide +kernel
theorem dX12_meets_76 : decode cX12_meets 76 = .ok (.aload_n 0, 1) := by decide +kernel
theorem dX12_meets_77 : decode cX12_meets 77 = .ok (.iload_n 2, 1) := by decide +kernel
theorem dX12_meets_78 : decode cX12_meets 78 = .ok (.iload_n 1, 1) := by decide +kernel
theorem dX12_meets_79 : decode cX12_meets 79 = .ok (.iload 4, 2) := by decide +kernel
theorem dX12_meets_81 : decode cX12_meets 81 = .ok (.invokevirtual 430, 3) := by decide +kernel
theorem dX12_meets_84 : decode cX12_meets 84 = .ok (.istore 6, 2) := by decide +kernel
theorem dX12_meets_86 : decode cX12_meets 86 = .ok (.aload_n 0, 1) := by decide +kernel
theorem dX12_meets_87 : decode cX12_meets 87 = .ok (.iload_n 3, 1) := by decide +kernel
theorem dX12_meets_88 : decode cX12_meets 88 = .ok (.iload_n 1, 1) := by decide +kernel
theorem dX12_meets_89 : decode cX12_meets 89 = .ok (.iload 5, 2) := by decide +kernel
theorem dX12_meets_91 : decode cX12_meets 91 = .ok (.invokevirtual 430, 3) := by decide +kernel
theorem dX12_meets_94 : decode cX12_meets 94 = .ok (.istore 7, 2) := by decide +kernel
theorem dX12_meets_96 : decode cX12_meets 96 = .ok (.iload 6, 2) := by decide +kernel
theorem dX12_meets_98 : decode cX12_meets 98 = .ok (.iload 7, 2) := by decide +kernel
theorem dX12_meets_100 : decode cX12_meets 100 = .ok (.if_icmp .le 11, 3) := by decide +kernel
theorem dX12_meets_103 : decode cX12_meets 103 = .ok (.iload 6, 2) := by decide +kernel
theorem dX12_meets_105 : decode cX12_meets 105 = .ok (.iload 7, 2) := by decide +kernel
theorem dX12_meets_107 : decode cX12_meets 107 = .ok (.isub, 1) := by decide +kernel
theorem dX12_meets_108 : decode cX12_meets 108 = .ok (.goto 8, 3) := by decide +kernel
theorem dX12_meets_111 : decode cX12_meets 111 = .ok (.iload 7, 2) := by decide +kernel
theorem dX12_meets_113 : decode cX12_meets 113 = .ok (.iload 6, 2) := by decide +kernel
theorem dX12_meets_115 : decode cX12_meets 115 = .ok (.isub, 1) := by decide +kernel
theorem dX12_meets_116 : decode cX12_meets 116 = .ok (.istore 8, 2) := by decide +kernel
theorem dX12_meets_118 : decode cX12_meets 118 = .ok (.iload 8, 2) := by decide +kernel
theorem dX12_meets_120 : decode cX12_meets 120 = .ok (.aload_n 0, 1) := by decide +kernel
theorem dX12_meets_121 : decode cX12_meets 121 = .ok (.getfield 9, 3) := by decide +kernel
theorem dX12_meets_124 : decode cX12_meets 124 = .ok (.iconst 2, 1) := by decide +kernel
theorem dX12_meets_125 : decode cX12_meets 125 = .ok (.iaload, 1) := by decide +kernel
theorem dX12_meets_126 : decode cX12_meets 126 = .ok (.if_icmp .le 7, 3) := by decide +kernel
theorem dX12_meets_129 : decode cX12_meets 129 = .ok (.iconst 1, 1) := by decide +kernel
theorem dX12_meets_130 : decode cX12_meets 130 = .ok (.goto 4, 3) := by decide +kernel
theorem dX12_meets_133 : decode cX12_meets 133 = .ok (.iconst 0, 1) := by decide +kernel
theorem dX12_meets_134 : decode cX12_meets 134 = .ok (.istore 9, 2) := by decide +kernel
theorem dX12_meets_136 : decode cX12_meets 136 = .ok (.iload 9, 2) := by decide +kernel
theorem dX12_meets_138 : decode cX12_meets 138 = .ok (.ifCond .eq 12, 3) := by decide +kernel
theorem dX12_meets_141 : decode cX12_meets 141 = .ok (.aload_n 0, 1) := by decide +kernel
theorem dX12_meets_142 : decode cX12_meets 142 = .ok (.getfield 9, 3) := by decide +kernel
theorem dX12_meets_145 : decode cX12_meets 145 = .ok (.iconst 2, 1) := by decide +kernel
theorem dX12_meets_146 : decode cX12_meets 146 = .ok (.iaload, 1) := by decide +kernel
theorem dX12_meets_147 : decode cX12_meets 147 = .ok (.goto 5, 3) := by decide +kernel
theorem dX12_meets_150 : decode cX12_meets 150 = .ok (.iload 8, 2) := by decide +kernel
theorem dX12_meets_152 : decode cX12_meets 152 = .ok (.istore 10, 2) := by decide +kernel
theorem dX12_meets_154 : decode cX12_meets 154 = .ok (.iload 7, 2) := by decide +kernel
theorem dX12_meets_156 : decode cX12_meets 156 = .ok (.iload 6, 2) := by decide +kernel
theorem dX12_meets_158 : decode cX12_meets 158 = .ok (.if_icmp .ge 7, 3) := by decide +kernel
theorem dX12_meets_161 : decode cX12_meets 161 = .ok (.iload_n 3, 1) := by decide +kernel
theorem dX12_meets_162 : decode cX12_meets 162 = .ok (.goto 4, 3) := by decide +kernel
theorem dX12_meets_165 : decode cX12_meets 165 = .ok (.iload_n 2, 1) := by decide +kernel
theorem dX12_meets_166 : decode cX12_meets 166 = .ok (.istore 11, 2) := by decide +kernel
theorem dX12_meets_168 : decode cX12_meets 168 = .ok (.iload 6, 2) := by decide +kernel
theorem dX12_meets_170 : decode cX12_meets 170 = .ok (.iload 7, 2) := by decide +kernel
theorem dX12_meets_172 : decode cX12_meets 172 = .ok (.if_icmp .le 8, 3) := by decide +kernel
theorem dX12_meets_175 : decode cX12_meets 175 = .ok (.iload 6, 2) := by decide +kernel
theorem dX12_meets_177 : decode cX12_meets 177 = .ok (.goto 5, 3) := by decide +kernel
theorem dX12_meets_180 : decode cX12_meets 180 = .ok (.iload 7, 2) := by decide +kernel
theorem dX12_meets_182 : decode cX12_meets 182 = .ok (.istore 12, 2) := by decide +kernel
theorem dX12_meets_184 : decode cX12_meets 184 = .ok (.aload_n 0, 1) := by decide +kernel
theorem dX12_meets_185 : decode cX12_meets 185 = .ok (.getfield 133, 3) := by decide +kernel
theorem dX12_meets_188 : decode cX12_meets 188 = .ok (.iload_n 1, 1) := by decide +kernel
theorem dX12_meets_189 : decode cX12_meets 189 = .ok (.iload 9, 2) := by decide +kernel
theorem dX12_meets_191 : decode cX12_meets 191 = .ok (.ifCond .eq 7, 3) := by decide +kernel
theorem dX12_meets_194 : decode cX12_meets 194 = .ok (.iconst (-1), 1) := by decide +kernel
theorem dX12_meets_195 : decode cX12_meets 195 = .ok (.goto 5, 3) := by decide +kernel
theorem dX12_meets_198 : decode cX12_meets 198 = .ok (.iload 12, 2) := by decide +kernel
theorem dX12_meets_200 : decode cX12_meets 200 = .ok (.iastore, 1) := by decide +kernel
theorem dX12_meets_201 : decode cX12_meets 201 = .ok (.aload_n 0, 1) := by decide +kernel
theorem dX12_meets_202 : decode cX12_meets 202 = .ok (.getfield 136, 3) := by decide +kernel
theorem dX12_meets_205 : decode cX12_meets 205 = .ok (.iload_n 1, 1) := by decide +kernel
theorem dX12_meets_206 : decode cX12_meets 206 = .ok (.iload 6, 2) := by decide +kernel
theorem dX12_meets_208 : decode cX12_meets 208 = .ok (.aload_n 0, 1) := by decide +kernel
theorem dX12_meets_209 : decode cX12_meets 209 = .ok (.getfield 34, 3) := by decide +kernel
theorem dX12_meets_212 : decode cX12_meets 212 = .ok (.iload_n 1, 1) := by decide +kernel
theorem dX12_meets_213 : decode cX12_meets 213 = .ok (.iaload, 1) := by decide +kernel
theorem dX12_meets_214 : decode cX12_meets 214 = .ok (.isub, 1) := by decide +kernel
theorem dX12_meets_215 : decode cX12_meets 215 = .ok (.iastore, 1) := by decide +kernel
theorem dX12_meets_216 : decode cX12_meets 216 = .ok (.aload_n 0, 1) := by decide +kernel
theorem dX12_meets_217 : decode cX12_meets 217 = .ok (.getfield 139, 3) := by decide +kernel
theorem dX12_meets_220 : decode cX12_meets 220 = .ok (.iload_n 1, 1) := by decide +kernel
theorem dX12_meets_221 : decode cX12_meets 221 = .ok (.iload 7, 2) := by decide +kernel
theorem dX12_meets_223 : decode cX12_meets 223 = .ok (.aload_n 0, 1) := by decide +kernel
theorem dX12_meets_224 : decode cX12_meets 224 = .ok (.getfield 34, 3) := by decide +kernel
theorem dX12_meets_227 : decode cX12_meets 227 = .ok (.iload_n 1, 1) := by decide +kernel
theorem dX12_meets_228 : decode cX12_meets 228 = .ok (.iaload, 1) := by decide +kernel
theorem dX12_meets_229 : decode cX12_meets 229 = .ok (.isub, 1) := by decide +kernel
theorem dX12_meets_230 : decode cX12_meets 230 = .ok (.iastore, 1) := by decide +kernel
theorem dX12_meets_231 : decode cX12_meets 231 = .ok (.aload_n 0, 1) := by decide +kernel
theorem dX12_meets_232 : decode cX12_meets 232 = .ok (.getfield 142, 3) := by decide +kernel
theorem dX12_meets_235 : decode cX12_meets 235 = .ok (.iload_n 1, 1) := by decide +kernel
theorem dX12_meets_236 : decode cX12_meets 236 = .ok (.iload 10, 2) := by decide +kernel
theorem dX12_meets_238 : decode cX12_meets 238 = .ok (.iastore, 1) := by decide +kernel
theorem dX12_meets_239 : decode cX12_meets 239 = .ok (.aload_n 0, 1) := by decide +kernel
theorem dX12_meets_240 : decode cX12_meets 240 = .ok (.iload_n 2, 1) := by decide +kernel
theorem dX12_meets_241 : decode cX12_meets 241 = .ok (.aload_n 0, 1) := by decide +kernel
theorem dX12_meets_242 : decode cX12_meets 242 = .ok (.getfield 136, 3) := by decide +kernel
theorem dX12_meets_245 : decode cX12_meets 245 = .ok (.iload_n 1, 1) := by decide +kernel
theorem dX12_meets_246 : decode cX12_meets 246 = .ok (.iaload, 1) := by decide +kernel
theorem dX12_meets_247 : decode cX12_meets 247 = .ok (.invokevirtual 434, 3) := by decide +kernel
theorem dX12_meets_250 : decode cX12_meets 250 = .ok (.istore 13, 2) := by decide +kernel
theorem dX12_meets_252 : decode cX12_meets 252 = .ok (.aload_n 0, 1) := by decide +kernel
theorem dX12_meets_253 : decode cX12_meets 253 = .ok (.iload_n 3, 1) := by decide +kernel
theorem dX12_meets_254 : decode cX12_meets 254 = .ok (.aload_n 0, 1) := by decide +kernel
theorem dX12_meets_255 : decode cX12_meets 255 = .ok (.getfield 139, 3) := by decide +kernel
theorem dX12_meets_258 : decode cX12_meets 258 = .ok (.iload_n 1, 1) := by decide +kernel
theorem dX12_meets_259 : decode cX12_meets 259 = .ok (.iaload, 1) := by decide +kernel
theorem dX12_meets_260 : decode cX12_meets 260 = .ok (.invokevirtual 434, 3) := by decide +kernel
theorem dX12_meets_263 : decode cX12_meets 263 = .ok (.istore 14, 2) := by decide +kernel
theorem dX12_meets_265 : decode cX12_meets 265 = .ok (.aload_n 0, 1) := by decide +kernel
theorem dX12_meets_266 : decode cX12_meets 266 = .ok (.getfield 145, 3) := by decide +kernel
theorem dX12_meets_269 : decode cX12_meets 269 = .ok (.iload_n 1, 1) := by decide +kernel
theorem dX12_meets_270 : decode cX12_meets 270 = .ok (.iload 13, 2) := by decide +kernel
theorem dX12_meets_272 : decode cX12_meets 272 = .ok (.iload 11, 2) := by decide +kernel
theorem dX12_meets_274 : decode cX12_meets 274 = .ok (.iload_n 2, 1) := by decide +kernel
theorem dX12_meets_275 : decode cX12_meets 275 = .ok (.if_icmp .ne 8, 3) := by decide +kernel
theorem dX12_meets_278 : decode cX12_meets 278 = .ok (.iload 10, 2) := by decide +kernel
theorem dX12_meets_280 : decode cX12_meets 280 = .ok (.goto 4, 3) := by decide +kernel
theorem dX12_meets_283 : decode cX12_meets 283 = .ok (.iconst 0, 1) := by decide +kernel
theorem dX12_meets_284 : decode cX12_meets 284 = .ok (.iadd, 1) := by decide +kernel
theorem dX12_meets_285 : decode cX12_meets 285 = .ok (.iastore, 1) := by decide +kernel
theorem dX12_meets_286 : decode cX12_meets 286 = .ok (.aload_n 0, 1) := by decide +kernel
theorem dX12_meets_287 : decode cX12_meets 287 = .ok (.getfield 148, 3) := by decide +kernel
theorem dX12_meets_290 : decode cX12_meets 290 = .ok (.iload_n 1, 1) := by decide +kernel
theorem dX12_meets_291 : decode cX12_meets 291 = .ok (.iload 14, 2) := by decide +kernel
theorem dX12_meets_293 : decode cX12_meets 293 = .ok (.iload 11, 2) := by decide +kernel
theorem dX12_meets_295 : decode cX12_meets 295 = .ok (.iload_n 3, 1) := by decide +kernel
theorem dX12_meets_296 : decode cX12_meets 296 = .ok (.if_icmp .ne 8, 3) := by decide +kernel
theorem dX12_meets_299 : decode cX12_meets 299 = .ok (.iload 10, 2) := by decide +kernel
theorem dX12_meets_301 : decode cX12_meets 301 = .ok (.goto 4, 3) := by decide +kernel
theorem dX12_meets_304 : decode cX12_meets 304 = .ok (.iconst 0, 1) := by decide +kernel
theorem dX12_meets_305 : decode cX12_meets 305 = .ok (.iadd, 1) := by decide +kernel
theorem dX12_meets_306 : decode cX12_meets 306 = .ok (.iastore, 1) := by decide +kernel
theorem dX12_meets_307 : decode cX12_meets 307 = .ok (.aload_n 0, 1) := by decide +kernel
theorem dX12_meets_308 : decode cX12_meets 308 = .ok (.getfield 22, 3) := by decide +kernel
theorem dX12_meets_311 : decode cX12_meets 311 = .ok (.iload_n 2, 1) := by decide +kernel
theorem dX12_meets_312 : decode cX12_meets 312 = .ok (.dup2, 1) := by decide +kernel
theorem dX12_meets_313 : decode cX12_meets 313 = .ok (.iaload, 1) := by decide +kernel
theorem dX12_meets_314 : decode cX12_meets 314 = .ok (.iload 13, 2) := by decide +kernel
theorem dX12_meets_316 : decode cX12_meets 316 = .ok (.iadd, 1) := by decide +kernel
theorem dX12_meets_317 : decode cX12_meets 317 = .ok (.iastore, 1) := by decide +kernel
theorem dX12_meets_318 : decode cX12_meets 318 = .ok (.aload_n 0, 1) := by decide +kernel
theorem dX12_meets_319 : decode cX12_meets 319 = .ok (.getfield 22, 3) := by decide +kernel
theorem dX12_meets_322 : decode cX12_meets 322 = .ok (.iload_n 3, 1) := by decide +kernel
theorem dX12_meets_323 : decode cX12_meets 323 = .ok (.dup2, 1) := by decide +kernel
theorem dX12_meets_324 : decode cX12_meets 324 = .ok (.iaload, 1) := by decide +kernel
theorem dX12_meets_325 : decode cX12_meets 325 = .ok (.iload 14, 2) := by decide +kernel
theorem dX12_meets_327 : decode cX12_meets 327 = .ok (.iadd, 1) := by decide +kernel
theorem dX12_meets_328 : decode cX12_meets 328 = .ok (.iastore, 1) := by decide +kernel
theorem dX12_meets_329 : decode cX12_meets 329 = .ok (.aload_n 0, 1) := by decide +kernel
theorem dX12_meets_330 : decode cX12_meets 330 = .ok (.getfield 25, 3) := by decide +kernel
theorem dX12_meets_333 : decode cX12_meets 333 = .ok (.iload 11, 2) := by decide +kernel
theorem dX12_meets_335 : decode cX12_meets 335 = .ok (.dup2, 1) := by decide +kernel
theorem dX12_meets_336 : decode cX12_meets 336 = .ok (.iaload, 1) := by decide +kernel
theorem dX12_meets_337 : decode cX12_meets 337 = .ok (.iload 10, 2) := by decide +kernel
theorem dX12_meets_339 : decode cX12_meets 339 = .ok (.iadd, 1) := by decide +kernel
theorem dX12_meets_340 : decode cX12_meets 340 = .ok (.iastore, 1) := by decide +kernel
theorem dX12_meets_341 : decode cX12_meets 341 = .ok (.aload_n 0, 1) := by decide +kernel
theorem dX12_meets_342 : decode cX12_meets 342 = .ok (.getfield 124, 3) := by decide +kernel
theorem dX12_meets_345 : decode cX12_meets 345 = .ok (.iload_n 2, 1) := by decide +kernel
