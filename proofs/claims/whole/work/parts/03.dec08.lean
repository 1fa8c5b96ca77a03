theorem dX12_again_157 : decode cX12_again 157 = .ok (.aload_n 0, 1) := by decide +kernel
theorem dX12_again_158 : decode cX12_again 158 = .ok (.invokevirtual 515, 3) := by decide +kernel
theorem dX12_again_161 : decode cX12_again 161 = .ok (.iload_n 1, 1) := by decide +kernel
theorem dX12_again_162 : decode cX12_again 162 = .ok (.ifCond .ne 7, 3) := by decide +kernel
theorem dX12_again_165 : decode cX12_again 165 = .ok (.iload_n 2, 1) := by decide +kernel
theorem dX12_again_166 : decode cX12_again 166 = .ok (.goto 4, 3) := by decide +kernel
theorem dX12_again_169 : decode cX12_again 169 = .ok (.iload_n 3, 1) := by decide +kernel
theorem dX12_again_170 : decode cX12_again 170 = .ok (.ireturn, 1) := by decide +kernel
theorem dX12_law_0 : decode cX12_law 0 = .ok (.aload_n 0, 1) := by decide +kernel
theorem dX12_law_1 : decode cX12_law 1 = .ok (.invokevirtual 485, 3) := by decide +kernel
theorem dX12_law_4 : decode cX12_law 4 = .ok (.ifCond .eq 27, 3) := by decide +kernel
theorem dX12_law_7 : decode cX12_law 7 = .ok (.iload_n 1, 1) := by decide +kernel
theorem dX12_law_8 : decode cX12_law 8 = .ok (.i2l, 1) := by decide +kernel
theorem dX12_law_9 : decode cX12_law 9 = .ok (.lconst 1, 1) := by decide +kernel
theorem dX12_law_10 : decode cX12_law 10 = .ok (.ldc2_w 498, 3) := by decide +kernel
theorem dX12_law_13 : decode cX12_law 13 = .ok (.invokestatic 191, 3) := by decide +kernel
theorem dX12_law_16 : decode cX12_law 16 = .ok (.ifCond .eq 15, 3) := by decide +kernel
theorem dX12_law_19 : decode cX12_law 19 = .ok (.iload_n 2, 1) := by decide +kernel
theorem dX12_law_20 : decode cX12_law 20 = .ok (.i2l, 1) := by decide +kernel
theorem dX12_law_21 : decode cX12_law 21 = .ok (.lconst 0, 1) := by decide +kernel
theorem dX12_law_22 : decode cX12_law 22 = .ok (.ldc2_w 520, 3) := by decide +kernel
theorem dX12_law_25 : decode cX12_law 25 = .ok (.invokestatic 191, 3) := by decide +kernel
theorem dX12_law_28 : decode cX12_law 28 = .ok (.ifCond .ne 5, 3) := by decide +kernel
theorem dX12_law_31 : decode cX12_law 31 = .ok (.iconst (-1), 1) := by decide +kernel
theorem dX12_law_32 : decode cX12_law 32 = .ok (.ireturn, 1) := by decide +kernel
theorem dX12_law_33 : decode cX12_law 33 = .ok (.iconst (-1), 1) := by decide +kernel
theorem dX12_law_34 : decode cX12_law 34 = .ok (.istore_n 3, 1) := by decide +kernel
theorem dX12_law_35 : decode cX12_law 35 = .ok (.iconst (-1), 1) := by decide +kernel
theorem dX12_law_36 : decode cX12_law 36 = .ok (.istore 4, 2) := by decide +kernel
theorem dX12_law_38 : decode cX12_law 38 = .ok (.iconst (-1), 1) := by decide +kernel
theorem dX12_law_39 : decode cX12_law 39 = .ok (.istore 5, 2) := by decide +kernel
theorem dX12_law_41 : decode cX12_law 41 = .ok (.aload_n 0, 1) := by decide +kernel
theorem dX12_law_42 : decode cX12_law 42 = .ok (.invokevirtual 522, 3) := by decide +kernel
theorem dX12_law_45 : decode cX12_law 45 = .ok (.iconst 0, 1) := by decide +kernel
theorem dX12_law_46 : decode cX12_law 46 = .ok (.istore 6, 2) := by decide +kernel
theorem dX12_law_48 : decode cX12_law 48 = .ok (.iload 6, 2) := by decide +kernel
theorem dX12_law_50 : decode cX12_law 50 = .ok (.bipush 50, 2) := by decide +kernel
theorem dX12_law_52 : decode cX12_law 52 = .ok (.if_icmp .gt 80, 3) := by decide +kernel
theorem dX12_law_55 : decode cX12_law 55 = .ok (.bipush 10, 2) := by decide +kernel
theorem dX12_law_57 : decode cX12_law 57 = .ok (.istore 7, 2) := by decide +kernel
theorem dX12_law_59 : decode cX12_law 59 = .ok (.iload 7, 2) := by decide +kernel
theorem dX12_law_61 : decode cX12_law 61 = .ok (.bipush 60, 2) := by decide +kernel
theorem dX12_law_63 : decode cX12_law 63 = .ok (.if_icmp .gt 63, 3) := by decide +kernel
theorem dX12_law_66 : decode cX12_law 66 = .ok (.iload 7, 2) := by decide +kernel
theorem dX12_law_68 : decode cX12_law 68 = .ok (.iload 6, 2) := by decide +kernel
theorem dX12_law_70 : decode cX12_law 70 = .ok (.if_icmp .lt 50, 3) := by decide +kernel
theorem dX12_law_73 : decode cX12_law 73 = .ok (.aload_n 0, 1) := by decide +kernel
theorem dX12_law_74 : decode cX12_law 74 = .ok (.getfield 9, 3) := by decide +kernel
theorem dX12_law_77 : decode cX12_law 77 = .ok (.iconst 0, 1) := by decide +kernel
theorem dX12_law_78 : decode cX12_law 78 = .ok (.iload 6, 2) := by decide +kernel
theorem dX12_law_80 : decode cX12_law 80 = .ok (.iastore, 1) := by decide +kernel
theorem dX12_law_81 : decode cX12_law 81 = .ok (.aload_n 0, 1) := by decide +kernel
theorem dX12_law_82 : decode cX12_law 82 = .ok (.getfield 9, 3) := by decide +kernel
theorem dX12_law_85 : decode cX12_law 85 = .ok (.iconst 1, 1) := by decide +kernel
theorem dX12_law_86 : decode cX12_law 86 = .ok (.iload 7, 2) := by decide +kernel
theorem dX12_law_88 : decode cX12_law 88 = .ok (.iastore, 1) := by decide +kernel
theorem dX12_law_89 : decode cX12_law 89 = .ok (.aload_n 0, 1) := by decide +kernel
theorem dX12_law_90 : decode cX12_law 90 = .ok (.iload_n 1, 1) := by decide +kernel
theorem dX12_law_91 : decode cX12_law 91 = .ok (.invokevirtual 530, 3) := by decide +kernel
theorem dX12_law_94 : decode cX12_law 94 = .ok (.istore 8, 2) := by decide +kernel
theorem dX12_law_96 : decode cX12_law 96 = .ok (.iload 5, 2) := by decide +kernel
theorem dX12_law_98 : decode cX12_law 98 = .ok (.iconst (-1), 1) := by decide +kernel
theorem dX12_law_99 : decode cX12_law 99 = .ok (.if_icmp .eq 10, 3) := by decide +kernel
theorem dX12_law_102 : decode cX12_law 102 = .ok (.iload 8, 2) := by decide +kernel
theorem dX12_law_104 : decode cX12_law 104 = .ok (.iload 5, 2) := by decide +kernel
theorem dX12_law_106 : decode cX12_law 106 = .ok (.if_icmp .ge 14, 3) := by decide +kernel
theorem dX12_law_109 : decode cX12_law 109 = .ok (.iload 6, 2) := by decide +kernel
theorem dX12_law_111 : decode cX12_law 111 = .ok (.istore_n 3, 1) := by decide +kernel
theorem dX12_law_112 : decode cX12_law 112 = .ok (.iload 7, 2) := by decide +kernel
theorem dX12_law_114 : decode cX12_law 114 = .ok (.istore 4, 2) := by decide +kernel
theorem dX12_law_116 : decode cX12_law 116 = .ok (.iload 8, 2) := by decide +kernel
theorem dX12_law_118 : decode cX12_law 118 = .ok (.istore 5, 2) := by decide +kernel
theorem dX12_law_120 : decode cX12_law 120 = .ok (.iinc 7 10, 3) := by decide +kernel
theorem dX12_law_123 : decode cX12_law 123 = .ok (.goto (-64), 3) := by decide +kernel
theorem dX12_law_126 : decode cX12_law 126 = .ok (.iinc 6 10, 3) := by decide +kernel
theorem dX12_law_129 : decode cX12_law 129 = .ok (.goto (-81), 3) := by decide +kernel
theorem dX12_law_132 : decode cX12_law 132 = .ok (.iload_n 2, 1) := by decide +kernel
theorem dX12_law_133 : decode cX12_law 133 = .ok (.ifCond .ne 7, 3) := by decide +kernel
theorem dX12_law_136 : decode cX12_law 136 = .ok (.iload_n 3, 1) := by decide +kernel
theorem dX12_law_137 : decode cX12_law 137 = .ok (.goto 15, 3) := by decide +kernel
theorem dX12_law_140 : decode cX12_law 140 = .ok (.iload_n 2, 1) := by decide +kernel
theorem dX12_law_141 : decode cX12_law 141 = .ok (.iconst 1, 1) := by decide +kernel
theorem dX12_law_142 : decode cX12_law 142 = .ok (.if_icmp .ne 8, 3) := by decide +kernel
theorem dX12_law_145 : decode cX12_law 145 = .ok (.iload 4, 2) := by decide +kernel
theorem dX12_law_147 : decode cX12_law 147 = .ok (.goto 5, 3) := by decide +kernel
theorem dX12_law_150 : decode cX12_law 150 = .ok (.iload 5, 2) := by decide +kernel
theorem dX12_law_152 : decode cX12_law 152 = .ok (.ireturn, 1) := by decide +kernel
theorem dX12_clocks_0 : decode cX12_clocks 0 = .ok (.aload_n 0, 1) := by decide +kernel
theorem dX12_clocks_1 : decode cX12_clocks 1 = .ok (.invokevirtual 485, 3) := by decide +kernel
theorem dX12_clocks_4 : decode cX12_clocks 4 = .ok (.ifCond .eq 25, 3) := by decide +kernel
theorem dX12_clocks_7 : decode cX12_clocks 7 = .ok (.iload_n 1, 1) := by decide +kernel
theorem dX12_clocks_8 : decode cX12_clocks 8 = .ok (.i2l, 1) := by decide +kernel
theorem dX12_clocks_9 : decode cX12_clocks 9 = .ok (.lconst 1, 1) := by decide +kernel
theorem dX12_clocks_10 : decode cX12_clocks 10 = .ok (.ldc2_w 498, 3) := by decide +kernel
theorem dX12_clocks_13 : decode cX12_clocks 13 = .ok (.invokestatic 191, 3) := by decide +kernel
theorem dX12_clocks_16 : decode cX12_clocks 16 = .ok (.ifCond .eq 13, 3) := by decide +kernel
theorem dX12_clocks_19 : decode cX12_clocks 19 = .ok (.iload_n 2, 1) := by decide +kernel
theorem dX12_clocks_20 : decode cX12_clocks 20 = .ok (.i2l, 1) := by decide +kernel
theorem dX12_clocks_21 : decode cX12_clocks 21 = .ok (.lconst 0, 1) := by decide +kernel
theorem dX12_clocks_22 : decode cX12_clocks 22 = .ok (.lconst 1, 1) := by decide +kernel
theorem dX12_clocks_23 : decode cX12_clocks 23 = .ok (.invokestatic 191, 3) := by decide +kernel
theorem dX12_clocks_26 : decode cX12_clocks 26 = .ok (.ifCond .ne 6, 3) := by decide +kernel
theorem dX12_clocks_29 : decode cX12_clocks 29 = .ok (.bipush (-2), 2) := by decide +kernel
theorem dX12_clocks_31 : decode cX12_clocks 31 = .ok (.ireturn, 1) := by decide +kernel
theorem dX12_clocks_32 : decode cX12_clocks 32 = .ok (.aload_n 0, 1) := by decide +kernel
theorem dX12_clocks_33 : decode cX12_clocks 33 = .ok (.invokevirtual 522, 3) := by decide +kernel
theorem dX12_clocks_36 : decode cX12_clocks 36 = .ok (.iconst (-1), 1) := by decide +kernel
theorem dX12_clocks_37 : decode cX12_clocks 37 = .ok (.istore_n 3, 1) := by decide +kernel
theorem dX12_clocks_38 : decode cX12_clocks 38 = .ok (.aload_n 0, 1) := by decide +kernel
theorem dX12_clocks_39 : decode cX12_clocks 39 = .ok (.iload_n 1, 1) := by decide +kernel
theorem dX12_clocks_40 : decode cX12_clocks 40 = .ok (.invokevirtual 530, 3) := by decide +kernel
theorem dX12_clocks_43 : decode cX12_clocks 43 = .ok (.istore 4, 2) := by decide +kernel
theorem dX12_clocks_45 : decode cX12_clocks 45 = .ok (.iconst 0, 1) := by decide +kernel
theorem dX12_clocks_46 : decode cX12_clocks 46 = .ok (.istore 5, 2) := by decide +kernel
theorem dX12_clocks_48 : decode cX12_clocks 48 = .ok (.iload 5, 2) := by decide +kernel
theorem dX12_clocks_50 : decode cX12_clocks 50 = .ok (.aload_n 0, 1) := by decide +kernel
theorem dX12_clocks_51 : decode cX12_clocks 51 = .ok (.getfield 9, 3) := by decide +kernel
theorem dX12_clocks_54 : decode cX12_clocks 54 = .ok (.iconst 3, 1) := by decide +kernel
theorem dX12_clocks_55 : decode cX12_clocks 55 = .ok (.iaload, 1) := by decide +kernel
theorem dX12_clocks_56 : decode cX12_clocks 56 = .ok (.if_icmp .ge 54, 3) := by decide +kernel
theorem dX12_clocks_59 : decode cX12_clocks 59 = .ok (.aload_n 0, 1) := by decide +kernel
theorem dX12_clocks_60 : decode cX12_clocks 60 = .ok (.getfield 16, 3) := by decide +kernel
theorem dX12_clocks_63 : decode cX12_clocks 63 = .ok (.iload 5, 2) := by decide +kernel
theorem dX12_clocks_65 : decode cX12_clocks 65 = .ok (.iconst 0, 1) := by decide +kernel
theorem dX12_clocks_66 : decode cX12_clocks 66 = .ok (.iastore, 1) := by decide +kernel
theorem dX12_clocks_67 : decode cX12_clocks 67 = .ok (.aload_n 0, 1) := by decide +kernel
theorem dX12_clocks_68 : decode cX12_clocks 68 = .ok (.iload_n 1, 1) := by decide +kernel
theorem dX12_clocks_69 : decode cX12_clocks 69 = .ok (.invokevirtual 530, 3) := by decide +kernel
theorem dX12_clocks_72 : decode cX12_clocks 72 = .ok (.istore 6, 2) := by decide +kernel
theorem dX12_clocks_74 : decode cX12_clocks 74 = .ok (.iload 6, 2) := by decide +kernel
theorem dX12_clocks_76 : decode cX12_clocks 76 = .ok (.iload 4, 2) := by decide +kernel
theorem dX12_clocks_78 : decode cX12_clocks 78 = .ok (.if_icmp .ge 8, 3) := by decide +kernel
theorem dX12_clocks_81 : decode cX12_clocks 81 = .ok (.iload 5, 2) := by decide +kernel
theorem dX12_clocks_83 : decode cX12_clocks 83 = .ok (.goto 4, 3) := by decide +kernel
theorem dX12_clocks_86 : decode cX12_clocks 86 = .ok (.iload_n 3, 1) := by decide +kernel
theorem dX12_clocks_87 : decode cX12_clocks 87 = .ok (.istore_n 3, 1) := by decide +kernel
theorem dX12_clocks_88 : decode cX12_clocks 88 = .ok (.iload 6, 2) := by decide +kernel
theorem dX12_clocks_90 : decode cX12_clocks 90 = .ok (.iload 4, 2) := by decide +kernel
theorem dX12_clocks_92 : decode cX12_clocks 92 = .ok (.if_icmp .ge 8, 3) := by decide +kernel
theorem dX12_clocks_95 : decode cX12_clocks 95 = .ok (.iload 6, 2) := by decide +kernel
theorem dX12_clocks_97 : decode cX12_clocks 97 = .ok (.goto 5, 3) := by decide +kernel
theorem dX12_clocks_100 : decode cX12_clocks 100 = .ok (.iload 4, 2) := by decide +kernel
theorem dX12_clocks_102 : decode cX12_clocks 102 = .ok (.istore 4, 2) := by decide +kernel
theorem dX12_clocks_104 : decode cX12_clocks 104 = .ok (.iinc 5 1, 3) := by decide +kernel
theorem dX12_clocks_107 : decode cX12_clocks 107 = .ok (.goto (-59), 3) := by decide +kernel
theorem dX12_clocks_110 : decode cX12_clocks 110 = .ok (.iload_n 2, 1) := by decide +kernel
theorem dX12_clocks_111 : decode cX12_clocks 111 = .ok (.ifCond .ne 7, 3) := by decide +kernel
theorem dX12_clocks_114 : decode cX12_clocks 114 = .ok (.iload_n 3, 1) := by decide +kernel
theorem dX12_clocks_115 : decode cX12_clocks 115 = .ok (.goto 5, 3) := by decide +kernel
theorem dX12_clocks_118 : decode cX12_clocks 118 = .ok (.iload 4, 2) := by decide +kernel
theorem dX12_clocks_120 : decode cX12_clocks 120 = .ok (.ireturn, 1) := by decide +kernel
theorem dX12_pardon_0 : decode cX12_pardon 0 = .ok (.aload_n 0, 1) := by decide +kernel
theorem dX12_pardon_1 : decode cX12_pardon 1 = .ok (.invokevirtual 485, 3) := by decide +kernel
theorem dX12_pardon_4 : decode cX12_pardon 4 = .ok (.ifCond .eq 25, 3) := by decide +kernel
theorem dX12_pardon_7 : decode cX12_pardon 7 = .ok (.iload_n 1, 1) := by decide +kernel
theorem dX12_pardon_8 : decode cX12_pardon 8 = .ok (.i2l, 1) := by decide +kernel
theorem dX12_pardon_9 : decode cX12_pardon 9 = .ok (.lconst 1, 1) := by decide +kernel
theorem dX12_pardon_10 : decode cX12_pardon 10 = .ok (.ldc2_w 498, 3) := by decide +kernel
theorem dX12_pardon_13 : decode cX12_pardon 13 = .ok (.invokestatic 191, 3) := by decide +kernel
theorem dX12_pardon_16 : decode cX12_pardon 16 = .ok (.ifCond .eq 13, 3) := by decide +kernel
theorem dX12_pardon_19 : decode cX12_pardon 19 = .ok (.iload_n 2, 1) := by decide +kernel
theorem dX12_pardon_20 : decode cX12_pardon 20 = .ok (.i2l, 1) := by decide +kernel
theorem dX12_pardon_21 : decode cX12_pardon 21 = .ok (.lconst 0, 1) := by decide +kernel
theorem dX12_pardon_22 : decode cX12_pardon 22 = .ok (.lconst 1, 1) := by decide +kernel
theorem dX12_pardon_23 : decode cX12_pardon 23 = .ok (.invokestatic 191, 3) := by decide +kernel
theorem dX12_pardon_26 : decode cX12_pardon 26 = .ok (.ifCond .ne 6, 3) := by decide +kernel
theorem dX12_pardon_29 : decode cX12_pardon 29 = .ok (.bipush (-2), 2) := by decide +kernel
theorem dX12_pardon_31 : decode cX12_pardon 31 = .ok (.ireturn, 1) := by decide +kernel
theorem dX12_pardon_32 : decode cX12_pardon 32 = .ok (.aload_n 0, 1) := by decide +kernel
theorem dX12_pardon_33 : decode cX12_pardon 33 = .ok (.invokevirtual 522, 3) := by decide +kernel
theorem dX12_pardon_36 : decode cX12_pardon 36 = .ok (.aload_n 0, 1) := by decide +kernel
theorem dX12_pardon_37 : decode cX12_pardon 37 = .ok (.iload_n 1, 1) := by decide +kernel
theorem dX12_pardon_38 : decode cX12_pardon 38 = .ok (.invokevirtual 530, 3) := by decide +kernel
theorem dX12_pardon_41 : decode cX12_pardon 41 = .ok (.pop, 1) := by decide +kernel
theorem dX12_pardon_42 : decode cX12_pardon 42 = .ok (.iconst (-1), 1) := by decide +kernel
theorem dX12_pardon_43 : decode cX12_pardon 43 = .ok (.istore_n 3, 1) := by decide +kernel
theorem dX12_pardon_44 : decode cX12_pardon 44 = .ok (.aload_n 0, 1) := by decide +kernel
theorem dX12_pardon_45 : decode cX12_pardon 45 = .ok (.getfield 506, 3) := by decide +kernel
theorem dX12_pardon_48 : decode cX12_pardon 48 = .ok (.istore 4, 2) := by decide +kernel
theorem dX12_pardon_50 : decode cX12_pardon 50 = .ok (.iconst 0, 1) := by decide +kernel
theorem dX12_pardon_51 : decode cX12_pardon 51 = .ok (.istore 5, 2) := by decide +kernel
theorem dX12_pardon_53 : decode cX12_pardon 53 = .ok (.iload 5, 2) := by decide +kernel
theorem dX12_pardon_55 : decode cX12_pardon 55 = .ok (.aload_n 0, 1) := by decide +kernel
theorem dX12_pardon_56 : decode cX12_pardon 56 = .ok (.getfield 9, 3) := by decide +kernel
theorem dX12_pardon_59 : decode cX12_pardon 59 = .ok (.iconst 3, 1) := by decide +kernel
theorem dX12_pardon_60 : decode cX12_pardon 60 = .ok (.iaload, 1) := by decide +kernel
theorem dX12_pardon_61 : decode cX12_pardon 61 = .ok (.if_icmp .ge 80, 3) := by decide +kernel
theorem dX12_pardon_64 : decode cX12_pardon 64 = .ok (.aload_n 0, 1) := by decide +kernel
theorem dX12_pardon_65 : decode cX12_pardon 65 = .ok (.getfield 9, 3) := by decide +kernel
theorem dX12_pardon_68 : decode cX12_pardon 68 = .ok (.bipush 8, 2) := by decide +kernel
theorem dX12_pardon_70 : decode cX12_pardon 70 = .ok (.iaload, 1) := by decide +kernel
theorem dX12_pardon_71 : decode cX12_pardon 71 = .ok (.iload 5, 2) := by decide +kernel
theorem dX12_pardon_73 : decode cX12_pardon 73 = .ok (.invokestatic 403, 3) := by decide +kernel
theorem dX12_pardon_76 : decode cX12_pardon 76 = .ok (.ifCond .ne 59, 3) := by decide +kernel
theorem dX12_pardon_79 : decode cX12_pardon 79 = .ok (.aload_n 0, 1) := by decide +kernel
theorem dX12_pardon_80 : decode cX12_pardon 80 = .ok (.getfield 9, 3) := by decide +kernel
theorem dX12_pardon_83 : decode cX12_pardon 83 = .ok (.bipush 8, 2) := by decide +kernel
theorem dX12_pardon_85 : decode cX12_pardon 85 = .ok (.dup2, 1) := by decide +kernel
theorem dX12_pardon_86 : decode cX12_pardon 86 = .ok (.iaload, 1) := by decide +kernel
theorem dX12_pardon_87 : decode cX12_pardon 87 = .ok (.iconst 1, 1) := by decide +kernel
theorem dX12_pardon_88 : decode cX12_pardon 88 = .ok (.iload 5, 2) := by decide +kernel
theorem dX12_pardon_90 : decode cX12_pardon 90 = .ok (.ishl, 1) := by decide +kernel
theorem dX12_pardon_91 : decode cX12_pardon 91 = .ok (.ior, 1) := by decide +kernel
theorem dX12_pardon_92 : decode cX12_pardon 92 = .ok (.iastore, 1) := by decide +kernel
theorem dX12_pardon_93 : decode cX12_pardon 93 = .ok (.aload_n 0, 1) := by decide +kernel
theorem dX12_pardon_94 : decode cX12_pardon 94 = .ok (.iload_n 1, 1) := by decide +kernel
theorem dX12_pardon_95 : decode cX12_pardon 95 = .ok (.invokevirtual 530, 3) := by decide +kernel
theorem dX12_pardon_98 : decode cX12_pardon 98 = .ok (.pop, 1) := by decide +kernel
theorem dX12_pardon_99 : decode cX12_pardon 99 = .ok (.aload_n 0, 1) := by decide +kernel
theorem dX12_pardon_100 : decode cX12_pardon 100 = .ok (.getfield 506, 3) := by decide +kernel
theorem dX12_pardon_103 : decode cX12_pardon 103 = .ok (.iload 4, 2) := by decide +kernel
theorem dX12_pardon_105 : decode cX12_pardon 105 = .ok (.if_icmp .ge 8, 3) := by decide +kernel
theorem dX12_pardon_108 : decode cX12_pardon 108 = .ok (.iload 5, 2) := by decide +kernel
theorem dX12_pardon_110 : decode cX12_pardon 110 = .ok (.goto 4, 3) := by decide +kernel
theorem dX12_pardon_113 : decode cX12_pardon 113 = .ok (.iload_n 3, 1) := by decide +kernel
theorem dX12_pardon_114 : decode cX12_pardon 114 = .ok (.istore_n 3, 1) := by decide +kernel
theorem dX12_pardon_115 : decode cX12_pardon 115 = .ok (.aload_n 0, 1) := by decide +kernel
theorem dX12_pardon_116 : decode cX12_pardon 116 = .ok (.getfield 506, 3) := by decide +kernel
theorem dX12_pardon_119 : decode cX12_pardon 119 = .ok (.iload 4, 2) := by decide +kernel
theorem dX12_pardon_121 : decode cX12_pardon 121 = .ok (.if_icmp .ge 10, 3) := by decide +kernel
theorem dX12_pardon_124 : decode cX12_pardon 124 = .ok (.aload_n 0, 1) := by decide +kernel
theorem dX12_pardon_125 : decode cX12_pardon 125 = .ok (.getfield 506, 3) := by decide +kernel
theorem dX12_pardon_128 : decode cX12_pardon 128 = .ok (.goto 5, 3) := by decide +kernel
theorem dX12_pardon_131 : decode cX12_pardon 131 = .ok (.iload 4, 2) := by decide +kernel
theorem dX12_pardon_133 : decode cX12_pardon 133 = .ok (.istore 4, 2) := by decide +kernel
theorem dX12_pardon_135 : decode cX12_pardon 135 = .ok (.iinc 5 1, 3) := by decide +kernel
theorem dX12_pardon_138 : decode cX12_pardon 138 = .ok (.goto (-85), 3) := by decide +kernel
theorem dX12_pardon_141 : decode cX12_pardon 141 = .ok (.iload_n 2, 1) := by decide +kernel
theorem dX12_pardon_142 : decode cX12_pardon 142 = .ok (.ifCond .ne 7, 3) := by decide +kernel
theorem dX12_pardon_145 : decode cX12_pardon 145 = .ok (.iload_n 3, 1) := by decide +kernel
theorem dX12_pardon_146 : decode cX12_pardon 146 = .ok (.goto 5, 3) := by decide +kernel
theorem dX12_pardon_149 : decode cX12_pardon 149 = .ok (.iload 4, 2) := by decide +kernel
theorem dX12_pardon_151 : decode cX12_pardon 151 = .ok (.ireturn, 1) := by decide +kernel
theorem dX12_log_0 : decode cX12_log 0 = .ok (.iload_n 1, 1) := by decide +kernel
theorem dX12_log_1 : decode cX12_log 1 = .ok (.iconst (-1), 1) := by decide +kernel
theorem dX12_log_2 : decode cX12_log 2 = .ok (.if_icmp .ne 13, 3) := by decide +kernel
theorem dX12_log_5 : decode cX12_log 5 = .ok (.aload_n 0, 1) := by decide +kernel
theorem dX12_log_6 : decode cX12_log 6 = .ok (.getfield 9, 3) := by decide +kernel
theorem dX12_log_9 : decode cX12_log 9 = .ok (.bipush 10, 2) := by decide +kernel
theorem dX12_log_11 : decode cX12_log 11 = .ok (.iconst 0, 1) := by decide +kernel
theorem dX12_log_12 : decode cX12_log 12 = .ok (.iastore, 1) := by decide +kernel
theorem dX12_log_13 : decode cX12_log 13 = .ok (.iconst 0, 1) := by decide +kernel
theorem dX12_log_14 : decode cX12_log 14 = .ok (.ireturn, 1) := by decide +kernel
theorem dX12_log_15 : decode cX12_log 15 = .ok (.aload_n 0, 1) := by decide +kernel
theorem dX12_log_16 : decode cX12_log 16 = .ok (.getfield 9, 3) := by decide +kernel
theorem dX12_log_19 : decode cX12_log 19 = .ok (.bipush 10, 2) := by decide +kernel
theorem dX12_log_21 : decode cX12_log 21 = .ok (.iaload, 1) := by decide +kernel
theorem dX12_log_22 : decode cX12_log 22 = .ok (.istore 4, 2) := by decide +kernel
theorem dX12_log_24 : decode cX12_log 24 = .ok (.iload_n 1, 1) := by decide +kernel
theorem dX12_log_25 : decode cX12_log 25 = .ok (.i2l, 1) := by decide +kernel
theorem dX12_log_26 : decode cX12_log 26 = .ok (.lconst 0, 1) := by decide +kernel
theorem dX12_log_27 : decode cX12_log 27 = .ok (.ldc2_w 542, 3) := by decide +kernel
theorem dX12_log_30 : decode cX12_log 30 = .ok (.invokestatic 191, 3) := by decide +kernel
theorem dX12_log_33 : decode cX12_log 33 = .ok (.ifCond .eq 32, 3) := by decide +kernel
theorem dX12_log_36 : decode cX12_log 36 = .ok (.aload_n 0, 1) := by decide +kernel
theorem dX12_log_37 : decode cX12_log 37 = .ok (.iload_n 2, 1) := by decide +kernel
theorem dX12_log_38 : decode cX12_log 38 = .ok (.invokevirtual 458, 3) := by decide +kernel
theorem dX12_log_41 : decode cX12_log 41 = .ok (.ifCond .eq 24, 3) := by decide +kernel
theorem dX12_log_44 : decode cX12_log 44 = .ok (.iload_n 3, 1) := by decide +kernel
theorem dX12_log_45 : decode cX12_log 45 = .ok (.i2l, 1) := by decide +kernel
theorem dX12_log_46 : decode cX12_log 46 = .ok (.ldc2_w 544, 3) := by decide +kernel
theorem dX12_log_49 : decode cX12_log 49 = .ok (.ldc2_w 546, 3) := by decide +kernel
theorem dX12_log_52 : decode cX12_log 52 = .ok (.invokestatic 191, 3) := by decide +kernel
theorem dX12_log_55 : decode cX12_log 55 = .ok (.ifCond .eq 10, 3) := by decide +kernel
theorem dX12_log_58 : decode cX12_log 58 = .ok (.iload 4, 2) := by decide +kernel
theorem dX12_log_60 : decode cX12_log 60 = .ok (.bipush 10, 2) := by decide +kernel
theorem dX12_log_62 : decode cX12_log 62 = .ok (.if_icmp .ne 6, 3) := by decide +kernel
theorem dX12_log_65 : decode cX12_log 65 = .ok (.bipush (-2), 2) := by decide +kernel
theorem dX12_log_67 : decode cX12_log 67 = .ok (.ireturn, 1) := by decide +kernel
theorem dX12_log_68 : decode cX12_log 68 = .ok (.aload_n 0, 1) := by decide +kernel
theorem dX12_log_69 : decode cX12_log 69 = .ok (.getfield 46, 3) := by decide +kernel
theorem dX12_log_72 : decode cX12_log 72 = .ok (.iload 4, 2) := by decide +kernel
theorem dX12_log_74 : decode cX12_log 74 = .ok (.iload_n 1, 1) := by decide +kernel
theorem dX12_log_75 : decode cX12_log 75 = .ok (.iastore, 1) := by decide +kernel
theorem dX12_log_76 : decode cX12_log 76 = .ok (.aload_n 0, 1) := by decide +kernel
theorem dX12_log_77 : decode cX12_log 77 = .ok (.getfield 49, 3) := by decide +kernel
theorem dX12_log_80 : decode cX12_log 80 = .ok (.iload 4, 2) := by decide +kernel
theorem dX12_log_82 : decode cX12_log 82 = .ok (.iload_n 2, 1) := by decide +kernel
theorem dX12_log_83 : decode cX12_log 83 = .ok (.iastore, 1) := by decide +kernel
theorem dX12_log_84 : decode cX12_log 84 = .ok (.aload_n 0, 1) := by decide +kernel
theorem dX12_log_85 : decode cX12_log 85 = .ok (.getfield 52, 3) := by decide +kernel
theorem dX12_log_88 : decode cX12_log 88 = .ok (.iload 4, 2) := by decide +kernel
theorem dX12_log_90 : decode cX12_log 90 = .ok (.iload_n 3, 1) := by decide +kernel
theorem dX12_log_91 : decode cX12_log 91 = .ok (.iastore, 1) := by decide +kernel
theorem dX12_log_92 : decode cX12_log 92 = .ok (.aload_n 0, 1) := by decide +kernel
theorem dX12_log_93 : decode cX12_log 93 = .ok (.getfield 9, 3) := by decide +kernel
theorem dX12_log_96 : decode cX12_log 96 = .ok (.bipush 10, 2) := by decide +kernel
theorem dX12_log_98 : decode cX12_log 98 = .ok (.dup2, 1) := by decide +kernel
theorem dX12_log_99 : decode cX12_log 99 = .ok (.iaload, 1) := by decide +kernel
theorem dX12_log_100 : decode cX12_log 100 = .ok (.iconst 1, 1) := by decide +kernel
theorem dX12_log_101 : decode cX12_log 101 = .ok (.iadd, 1) := by decide +kernel
theorem dX12_log_102 : decode cX12_log 102 = .ok (.iastore, 1) := by decide +kernel
theorem dX12_log_103 : decode cX12_log 103 = .ok (.iload 4, 2) := by decide +kernel
theorem dX12_log_105 : decode cX12_log 105 = .ok (.iconst 1, 1) := by decide +kernel
theorem dX12_log_106 : decode cX12_log 106 = .ok (.iadd, 1) := by decide +kernel
theorem dX12_log_107 : decode cX12_log 107 = .ok (.ireturn, 1) := by decide +kernel
theorem dX12_doesFit_0 : decode cX12_doesFit 0 = .ok (.aload_n 0, 1) := by decide +kernel
theorem dX12_doesFit_1 : decode cX12_doesFit 1 = .ok (.getfield 13, 3) := by decide +kernel
theorem dX12_doesFit_4 : decode cX12_doesFit 4 = .ok (.iload_n 1, 1) := by decide +kernel
theorem dX12_doesFit_5 : decode cX12_doesFit 5 = .ok (.iaload, 1) := by decide +kernel
theorem dX12_doesFit_6 : decode cX12_doesFit 6 = .ok (.istore_n 3, 1) := by decide +kernel
theorem dX12_doesFit_7 : decode cX12_doesFit 7 = .ok (.aload_n 0, 1) := by decide +kernel
theorem dX12_doesFit_8 : decode cX12_doesFit 8 = .ok (.getfield 13, 3) := by decide +kernel
theorem dX12_doesFit_11 : decode cX12_doesFit 11 = .ok (.iload_n 1, 1) := by decide +kernel
theorem dX12_doesFit_12 : decode cX12_doesFit 12 = .ok (.bipush 10, 2) := by decide +kernel
theorem dX12_doesFit_14 : decode cX12_doesFit 14 = .ok (.iload_n 2, 1) := by decide +kernel
theorem dX12_doesFit_15 : decode cX12_doesFit 15 = .ok (.imul, 1) := by decide +kernel
theorem dX12_doesFit_16 : decode cX12_doesFit 16 = .ok (.bipush 20, 2) := by decide +kernel
theorem dX12_doesFit_18 : decode cX12_doesFit 18 = .ok (.isub, 1) := by decide +kernel
theorem dX12_doesFit_19 : decode cX12_doesFit 19 = .ok (.iastore, 1) := by decide +kernel
theorem dX12_doesFit_20 : decode cX12_doesFit 20 = .ok (.aload_n 0, 1) := by decide +kernel
theorem dX12_doesFit_21 : decode cX12_doesFit 21 = .ok (.invokevirtual 363, 3) := by decide +kernel
theorem dX12_doesFit_24 : decode cX12_doesFit 24 = .ok (.iconst 1, 1) := by decide +kernel
theorem dX12_doesFit_25 : decode cX12_doesFit 25 = .ok (.istore 4, 2) := by decide +kernel
theorem dX12_doesFit_27 : decode cX12_doesFit 27 = .ok (.iconst 0, 1) := by decide +kernel
theorem dX12_doesFit_28 : decode cX12_doesFit 28 = .ok (.istore 5, 2) := by decide +kernel
theorem dX12_doesFit_30 : decode cX12_doesFit 30 = .ok (.iload 5, 2) := by decide +kernel
theorem dX12_doesFit_32 : decode cX12_doesFit 32 = .ok (.bipush 30, 2) := by decide +kernel
theorem dX12_doesFit_34 : decode cX12_doesFit 34 = .ok (.if_icmp .gt 116, 3) := by decide +kernel
theorem dX12_doesFit_37 : decode cX12_doesFit 37 = .ok (.aload_n 0, 1) := by decide +kernel
theorem dX12_doesFit_38 : decode cX12_doesFit 38 = .ok (.invokevirtual 491, 3) := by decide +kernel
theorem dX12_doesFit_41 : decode cX12_doesFit 41 = .ok (.pop, 1) := by decide +kernel
theorem dX12_doesFit_42 : decode cX12_doesFit 42 = .ok (.aload_n 0, 1) := by decide +kernel
theorem dX12_doesFit_43 : decode cX12_doesFit 43 = .ok (.getfield 175, 3) := by decide +kernel
theorem dX12_doesFit_46 : decode cX12_doesFit 46 = .ok (.bipush 9, 2) := by decide +kernel
theorem dX12_doesFit_48 : decode cX12_doesFit 48 = .ok (.iload 5, 2) := by decide +kernel
theorem dX12_doesFit_50 : decode cX12_doesFit 50 = .ok (.imul, 1) := by decide +kernel
theorem dX12_doesFit_51 : decode cX12_doesFit 51 = .ok (.iload_n 2, 1) := by decide +kernel
theorem dX12_doesFit_52 : decode cX12_doesFit 52 = .ok (.iadd, 1) := by decide +kernel
theorem dX12_doesFit_53 : decode cX12_doesFit 53 = .ok (.aload_n 0, 1) := by decide +kernel
theorem dX12_doesFit_54 : decode cX12_doesFit 54 = .ok (.getfield 19, 3) := by decide +kernel
theorem dX12_doesFit_57 : decode cX12_doesFit 57 = .ok (.iload_n 1, 1) := by decide +kernel
theorem dX12_doesFit_58 : decode cX12_doesFit 58 = .ok (.iaload, 1) := by decide +kernel
theorem dX12_doesFit_59 : decode cX12_doesFit 59 = .ok (.iastore, 1) := by decide +kernel
theorem dX12_doesFit_60 : decode cX12_doesFit 60 = .ok (.iconst 0, 1) := by decide +kernel
theorem dX12_doesFit_61 : decode cX12_doesFit 61 = .ok (.istore 6, 2) := by decide +kernel
theorem dX12_doesFit_63 : decode cX12_doesFit 63 = .ok (.iload 6, 2) := by decide +kernel
theorem dX12_doesFit_65 : decode cX12_doesFit 65 = .ok (.aload_n 0, 1) := by decide +kernel
theorem dX12_doesFit_66 : decode cX12_doesFit 66 = .ok (.getfield 9, 3) := by decide +kernel
theorem dX12_doesFit_69 : decode cX12_doesFit 69 = .ok (.bipush 10, 2) := by decide +kernel
theorem dX12_doesFit_71 : decode cX12_doesFit 71 = .ok (.iaload, 1) := by decide +kernel
theorem dX12_doesFit_72 : decode cX12_doesFit 72 = .ok (.if_icmp .ge 72, 3) := by decide +kernel
theorem dX12_doesFit_75 : decode cX12_doesFit 75 = .ok (.aload_n 0, 1) := by decide +kernel
theorem dX12_doesFit_76 : decode cX12_doesFit 76 = .ok (.getfield 49, 3) := by decide +kernel
theorem dX12_doesFit_79 : decode cX12_doesFit 79 = .ok (.iload 6, 2) := by decide +kernel
theorem dX12_doesFit_81 : decode cX12_doesFit 81 = .ok (.iaload, 1) := by decide +kernel
theorem dX12_doesFit_82 : decode cX12_doesFit 82 = .ok (.iload_n 1, 1) := by decide +kernel
theorem dX12_doesFit_83 : decode cX12_doesFit 83 = .ok (.if_icmp .ne 31, 3) := by decide +kernel
theorem dX12_doesFit_86 : decode cX12_doesFit 86 = .ok (.aload_n 0, 1) := by decide +kernel
theorem dX12_doesFit_87 : decode cX12_doesFit 87 = .ok (.getfield 46, 3) := by decide +kernel
theorem dX12_doesFit_90 : decode cX12_doesFit 90 = .ok (.iload 6, 2) := by decide +kernel
theorem dX12_doesFit_92 : decode cX12_doesFit 92 = .ok (.iaload, 1) := by decide +kernel
theorem dX12_doesFit_93 : decode cX12_doesFit 93 = .ok (.iload 5, 2) := by decide +kernel
theorem dX12_doesFit_95 : decode cX12_doesFit 95 = .ok (.if_icmp .ne 19, 3) := by decide +kernel
theorem dX12_doesFit_98 : decode cX12_doesFit 98 = .ok (.aload_n 0, 1) := by decide +kernel
theorem dX12_doesFit_99 : decode cX12_doesFit 99 = .ok (.getfield 19, 3) := by decide +kernel
theorem dX12_doesFit_102 : decode cX12_doesFit 102 = .ok (.iload_n 1, 1) := by decide +kernel
theorem dX12_doesFit_103 : decode cX12_doesFit 103 = .ok (.iaload, 1) := by decide +kernel
theorem dX12_doesFit_104 : decode cX12_doesFit 104 = .ok (.aload_n 0, 1) := by decide +kernel
theorem dX12_doesFit_105 : decode cX12_doesFit 105 = .ok (.getfield 52, 3) := by decide +kernel
theorem dX12_doesFit_108 : decode cX12_doesFit 108 = .ok (.iload 6, 2) := by decide +kernel
theorem dX12_doesFit_110 : decode cX12_doesFit 110 = .ok (.iaload, 1) := by decide +kernel
theorem dX12_doesFit_111 : decode cX12_doesFit 111 = .ok (.if_icmp .ne 7, 3) := by decide +kernel
theorem dX12_doesFit_114 : decode cX12_doesFit 114 = .ok (.iconst 1, 1) := by decide +kernel
theorem dX12_doesFit_115 : decode cX12_doesFit 115 = .ok (.goto 4, 3) := by decide +kernel
theorem dX12_doesFit_118 : decode cX12_doesFit 118 = .ok (.iconst 0, 1) := by decide +kernel
theorem dX12_doesFit_119 : decode cX12_doesFit 119 = .ok (.istore 7, 2) := by decide +kernel
theorem dX12_doesFit_121 : decode cX12_doesFit 121 = .ok (.iload 4, 2) := by decide +kernel
theorem dX12_doesFit_123 : decode cX12_doesFit 123 = .ok (.ifCond .eq 12, 3) := by decide +kernel
theorem dX12_doesFit_126 : decode cX12_doesFit 126 = .ok (.iload 7, 2) := by decide +kernel
theorem dX12_doesFit_128 : decode cX12_doesFit 128 = .ok (.ifCond .eq 7, 3) := by decide +kernel
theorem dX12_doesFit_131 : decode cX12_doesFit 131 = .ok (.iconst 1, 1) := by decide +kernel
theorem dX12_doesFit_132 : decode cX12_doesFit 132 = .ok (.goto 4, 3) := by decide +kernel
theorem dX12_doesFit_135 : decode cX12_doesFit 135 = .ok (.iconst 0, 1) := by decide +kernel
theorem dX12_doesFit_136 : decode cX12_doesFit 136 = .ok (.istore 4, 2) := by decide +kernel
theorem dX12_doesFit_138 : decode cX12_doesFit 138 = .ok (.iinc 6 1, 3) := by decide +kernel
theorem dX12_doesFit_141 : decode cX12_doesFit 141 = .ok (.goto (-78), 3) := by decide +kernel
theorem dX12_doesFit_144 : decode cX12_doesFit 144 = .ok (.iinc 5 1, 3) := by decide +kernel
theorem dX12_doesFit_147 : decode cX12_doesFit 147 = .ok (.goto (-117), 3) := by decide +kernel
theorem dX12_doesFit_150 : decode cX12_doesFit 150 = .ok (.aload_n 0, 1) := by decide +kernel
theorem dX12_doesFit_151 : decode cX12_doesFit 151 = .ok (.getfield 13, 3) := by decide +kernel
theorem dX12_doesFit_154 : decode cX12_doesFit 154 = .ok (.iload_n 1, 1) := by decide +kernel
theorem dX12_doesFit_155 : decode cX12_doesFit 155 = .ok (.iload_n 3, 1) := by decide +kernel
theorem dX12_doesFit_156 : decode cX12_doesFit 156 = .ok (.iastore, 1) := by decide +kernel
theorem dX12_doesFit_157 : decode cX12_doesFit 157 = .ok (.aload_n 0, 1) := by decide +kernel
theorem dX12_doesFit_158 : decode cX12_doesFit 158 = .ok (.invokevirtual 515, 3) := by decide +kernel
theorem dX12_doesFit_161 : decode cX12_doesFit 161 = .ok (.iload 4, 2) := by decide +kernel
theorem dX12_doesFit_163 : decode cX12_doesFit 163 = .ok (.ireturn, 1) := by decide +kernel
theorem dX12_habit_0 : decode cX12_habit 0 = .ok (.aload_n 0, 1) := by decide +kernel
theorem dX12_habit_1 : decode cX12_habit 1 = .ok (.iload_n 1, 1) := by decide +kernel
theorem dX12_habit_2 : decode cX12_habit 2 = .ok (.invokevirtual 458, 3) := by decide +kernel
theorem dX12_habit_5 : decode cX12_habit 5 = .ok (.ifCond .eq 13, 3) := by decide +kernel
theorem dX12_habit_8 : decode cX12_habit 8 = .ok (.iload_n 2, 1) := by decide +kernel
theorem dX12_habit_9 : decode cX12_habit 9 = .ok (.i2l, 1) := by decide +kernel
theorem dX12_habit_10 : decode cX12_habit 10 = .ok (.lconst 0, 1) := by decide +kernel
theorem dX12_habit_11 : decode cX12_habit 11 = .ok (.lconst 1, 1) := by decide +kernel
theorem dX12_habit_12 : decode cX12_habit 12 = .ok (.invokestatic 191, 3) := by decide +kernel
theorem dX12_habit_15 : decode cX12_habit 15 = .ok (.ifCond .ne 7, 3) := by decide +kernel
theorem dX12_habit_18 : decode cX12_habit 18 = .ok (.sipush (-1000), 3) := by decide +kernel
theorem dX12_habit_21 : decode cX12_habit 21 = .ok (.ireturn, 1) := by decide +kernel
theorem dX12_habit_22 : decode cX12_habit 22 = .ok (.aload_n 0, 1) := by decide +kernel
theorem dX12_habit_23 : decode cX12_habit 23 = .ok (.invokevirtual 522, 3) := by decide +kernel
theorem dX12_habit_26 : decode cX12_habit 26 = .ok (.iconst 0, 1) := by decide +kernel
theorem dX12_habit_27 : decode cX12_habit 27 = .ok (.istore_n 3, 1) := by decide +kernel
theorem dX12_habit_28 : decode cX12_habit 28 = .ok (.bipush (-100), 2) := by decide +kernel
theorem dX12_habit_30 : decode cX12_habit 30 = .ok (.istore 4, 2) := by decide +kernel
theorem dX12_habit_32 : decode cX12_habit 32 = .ok (.iconst 0, 1) := by decide +kernel
theorem dX12_habit_33 : decode cX12_habit 33 = .ok (.istore 5, 2) := by decide +kernel
theorem dX12_habit_35 : decode cX12_habit 35 = .ok (.iload 5, 2) := by decide +kernel
theorem dX12_habit_37 : decode cX12_habit 37 = .ok (.bipush 9, 2) := by decide +kernel
theorem dX12_habit_39 : decode cX12_habit 39 = .ok (.if_icmp .ge 41, 3) := by decide +kernel
theorem dX12_habit_42 : decode cX12_habit 42 = .ok (.aload_n 0, 1) := by decide +kernel
theorem dX12_habit_43 : decode cX12_habit 43 = .ok (.iload_n 1, 1) := by decide +kernel
theorem dX12_habit_44 : decode cX12_habit 44 = .ok (.iload 5, 2) := by decide +kernel
theorem dX12_habit_46 : decode cX12_habit 46 = .ok (.invokevirtual 548, 3) := by decide +kernel
theorem dX12_habit_49 : decode cX12_habit 49 = .ok (.ifCond .eq 25, 3) := by decide +kernel
theorem dX12_habit_52 : decode cX12_habit 52 = .ok (.iload_n 3, 1) := by decide +kernel
theorem dX12_habit_53 : decode cX12_habit 53 = .ok (.ifCond .ne 14, 3) := by decide +kernel
theorem dX12_habit_56 : decode cX12_habit 56 = .ok (.bipush 10, 2) := by decide +kernel
theorem dX12_habit_58 : decode cX12_habit 58 = .ok (.iload 5, 2) := by decide +kernel
theorem dX12_habit_60 : decode cX12_habit 60 = .ok (.imul, 1) := by decide +kernel
theorem dX12_habit_61 : decode cX12_habit 61 = .ok (.bipush 20, 2) := by decide +kernel
theorem dX12_habit_63 : decode cX12_habit 63 = .ok (.isub, 1) := by decide +kernel
theorem dX12_habit_64 : decode cX12_habit 64 = .ok (.goto 5, 3) := by decide +kernel
theorem dX12_habit_67 : decode cX12_habit 67 = .ok (.iload 4, 2) := by decide +kernel
theorem dX12_habit_69 : decode cX12_habit 69 = .ok (.istore 4, 2) := by decide +kernel
theorem dX12_habit_71 : decode cX12_habit 71 = .ok (.iinc 3 1, 3) := by decide +kernel
theorem dX12_habit_74 : decode cX12_habit 74 = .ok (.iinc 5 1, 3) := by decide +kernel
theorem dX12_habit_77 : decode cX12_habit 77 = .ok (.goto (-42), 3) := by decide +kernel
theorem dX12_habit_80 : decode cX12_habit 80 = .ok (.iload_n 2, 1) := by decide +kernel
theorem dX12_habit_81 : decode cX12_habit 81 = .ok (.ifCond .ne 7, 3) := by decide +kernel
theorem dX12_habit_84 : decode cX12_habit 84 = .ok (.iload_n 3, 1) := by decide +kernel
theorem dX12_habit_85 : decode cX12_habit 85 = .ok (.goto 5, 3) := by decide +kernel
theorem dX12_habit_88 : decode cX12_habit 88 = .ok (.iload 4, 2) := by decide +kernel
theorem dX12_habit_90 : decode cX12_habit 90 = .ok (.ireturn, 1) := by decide +kernel
theorem dX12_mostAlike_0 : decode cX12_mostAlike 0 = .ok (.iconst 0, 1) := by decide +kernel
theorem dX12_mostAlike_1 : decode cX12_mostAlike 1 = .ok (.istore_n 2, 1) := by decide +kernel
theorem dX12_mostAlike_2 : decode cX12_mostAlike 2 = .ok (.iconst 0, 1) := by decide +kernel
theorem dX12_mostAlike_3 : decode cX12_mostAlike 3 = .ok (.istore_n 3, 1) := by decide +kernel
theorem dX12_mostAlike_4 : decode cX12_mostAlike 4 = .ok (.iload_n 3, 1) := by decide +kernel
theorem dX12_mostAlike_5 : decode cX12_mostAlike 5 = .ok (.bipush 9, 2) := by decide +kernel
theorem dX12_mostAlike_7 : decode cX12_mostAlike 7 = .ok (.if_icmp .ge 96, 3) := by decide +kernel
theorem dX12_mostAlike_10 : decode cX12_mostAlike 10 = .ok (.iconst 0, 1) := by decide +kernel
theorem dX12_mostAlike_11 : decode cX12_mostAlike 11 = .ok (.istore 4, 2) := by decide +kernel
theorem dX12_mostAlike_13 : decode cX12_mostAlike 13 = .ok (.iconst 0, 1) := by decide +kernel
theorem dX12_mostAlike_14 : decode cX12_mostAlike 14 = .ok (.istore 5, 2) := by decide +kernel
theorem dX12_mostAlike_16 : decode cX12_mostAlike 16 = .ok (.iload 5, 2) := by decide +kernel
theorem dX12_mostAlike_18 : decode cX12_mostAlike 18 = .ok (.bipush 9, 2) := by decide +kernel
theorem dX12_mostAlike_20 : decode cX12_mostAlike 20 = .ok (.if_icmp .ge 64, 3) := by decide +kernel
theorem dX12_mostAlike_23 : decode cX12_mostAlike 23 = .ok (.iload 4, 2) := by decide +kernel
theorem dX12_mostAlike_25 : decode cX12_mostAlike 25 = .ok (.aload_n 0, 1) := by decide +kernel
theorem dX12_mostAlike_26 : decode cX12_mostAlike 26 = .ok (.getfield 178, 3) := by decide +kernel
theorem dX12_mostAlike_29 : decode cX12_mostAlike 29 = .ok (.iload_n 3, 1) := by decide +kernel
theorem dX12_mostAlike_30 : decode cX12_mostAlike 30 = .ok (.baload, 1) := by decide +kernel
theorem dX12_mostAlike_31 : decode cX12_mostAlike 31 = .ok (.ifCond .eq 43, 3) := by decide +kernel
theorem dX12_mostAlike_34 : decode cX12_mostAlike 34 = .ok (.aload_n 0, 1) := by decide +kernel
theorem dX12_mostAlike_35 : decode cX12_mostAlike 35 = .ok (.getfield 178, 3) := by decide +kernel
theorem dX12_mostAlike_38 : decode cX12_mostAlike 38 = .ok (.iload 5, 2) := by decide +kernel
theorem dX12_mostAlike_40 : decode cX12_mostAlike 40 = .ok (.baload, 1) := by decide +kernel
theorem dX12_mostAlike_41 : decode cX12_mostAlike 41 = .ok (.ifCond .eq 33, 3) := by decide +kernel
theorem dX12_mostAlike_44 : decode cX12_mostAlike 44 = .ok (.aload_n 0, 1) := by decide +kernel
theorem dX12_mostAlike_45 : decode cX12_mostAlike 45 = .ok (.getfield 175, 3) := by decide +kernel
theorem dX12_mostAlike_48 : decode cX12_mostAlike 48 = .ok (.bipush 9, 2) := by decide +kernel
theorem dX12_mostAlike_50 : decode cX12_mostAlike 50 = .ok (.iload_n 1, 1) := by decide +kernel
theorem dX12_mostAlike_51 : decode cX12_mostAlike 51 = .ok (.imul, 1) := by decide +kernel
theorem dX12_mostAlike_52 : decode cX12_mostAlike 52 = .ok (.iload_n 3, 1) := by decide +kernel
theorem dX12_mostAlike_53 : decode cX12_mostAlike 53 = .ok (.iadd, 1) := by decide +kernel
theorem dX12_mostAlike_54 : decode cX12_mostAlike 54 = .ok (.iaload, 1) := by decide +kernel
theorem dX12_mostAlike_55 : decode cX12_mostAlike 55 = .ok (.aload_n 0, 1) := by decide +kernel
theorem dX12_mostAlike_56 : decode cX12_mostAlike 56 = .ok (.getfield 175, 3) := by decide +kernel
theorem dX12_mostAlike_59 : decode cX12_mostAlike 59 = .ok (.bipush 9, 2) := by decide +kernel
theorem dX12_mostAlike_61 : decode cX12_mostAlike 61 = .ok (.iload_n 1, 1) := by decide +kernel
theorem dX12_mostAlike_62 : decode cX12_mostAlike 62 = .ok (.imul, 1) := by decide +kernel
theorem dX12_mostAlike_63 : decode cX12_mostAlike 63 = .ok (.iload 5, 2) := by decide +kernel
theorem dX12_mostAlike_65 : decode cX12_mostAlike 65 = .ok (.iadd, 1) := by decide +kernel
theorem dX12_mostAlike_66 : decode cX12_mostAlike 66 = .ok (.iaload, 1) := by decide +kernel
theorem dX12_mostAlike_67 : decode cX12_mostAlike 67 = .ok (.if_icmp .ne 7, 3) := by decide +kernel
theorem dX12_mostAlike_70 : decode cX12_mostAlike 70 = .ok (.iconst 1, 1) := by decide +kernel
theorem dX12_mostAlike_71 : decode cX12_mostAlike 71 = .ok (.goto 4, 3) := by decide +kernel
theorem dX12_mostAlike_74 : decode cX12_mostAlike 74 = .ok (.iconst 0, 1) := by decide +kernel
theorem dX12_mostAlike_75 : decode cX12_mostAlike 75 = .ok (.iadd, 1) := by decide +kernel
theorem dX12_mostAlike_76 : decode cX12_mostAlike 76 = .ok (.istore 4, 2) := by decide +kernel
theorem dX12_mostAlike_78 : decode cX12_mostAlike 78 = .ok (.iinc 5 1, 3) := by decide +kernel
theorem dX12_mostAlike_81 : decode cX12_mostAlike 81 = .ok (.goto (-65), 3) := by decide +kernel
theorem dX12_mostAlike_84 : decode cX12_mostAlike 84 = .ok (.iload 4, 2) := by decide +kernel
theorem dX12_mostAlike_86 : decode cX12_mostAlike 86 = .ok (.iload_n 2, 1) := by decide +kernel
theorem dX12_mostAlike_87 : decode cX12_mostAlike 87 = .ok (.if_icmp .le 8, 3) := by decide +kernel
theorem dX12_mostAlike_90 : decode cX12_mostAlike 90 = .ok (.iload 4, 2) := by decide +kernel
theorem dX12_mostAlike_92 : decode cX12_mostAlike 92 = .ok (.goto 4, 3) := by decide +kernel
theorem dX12_mostAlike_95 : decode cX12_mostAlike 95 = .ok (.iload_n 2, 1) := by decide +kernel
theorem dX12_mostAlike_96 : decode cX12_mostAlike 96 = .ok (.istore_n 2, 1) := by decide +kernel
theorem dX12_mostAlike_97 : decode cX12_mostAlike 97 = .ok (.iinc 3 1, 3) := by decide +kernel
theorem dX12_mostAlike_100 : decode cX12_mostAlike 100 = .ok (.goto (-96), 3) := by decide +kernel
theorem dX12_mostAlike_103 : decode cX12_mostAlike 103 = .ok (.iload_n 2, 1) := by decide +kernel
theorem dX12_mostAlike_104 : decode cX12_mostAlike 104 = .ok (.ireturn, 1) := by decide +kernel
theorem dX12_door_0 : decode cX12_door 0 = .ok (.aload_n 0, 1) := by decide +kernel
theorem dX12_door_1 : decode cX12_door 1 = .ok (.iload_n 1, 1) := by decide +kernel
theorem dX12_door_2 : decode cX12_door 2 = .ok (.invokevirtual 458, 3) := by decide +kernel
theorem dX12_door_5 : decode cX12_door 5 = .ok (.ifCond .eq 13, 3) := by decide +kernel
theorem dX12_door_8 : decode cX12_door 8 = .ok (.iload_n 2, 1) := by decide +kernel
theorem dX12_door_9 : decode cX12_door 9 = .ok (.i2l, 1) := by decide +kernel
theorem dX12_door_10 : decode cX12_door 10 = .ok (.lconst 0, 1) := by decide +kernel
theorem dX12_door_11 : decode cX12_door 11 = .ok (.lconst 1, 1) := by decide +kernel
theorem dX12_door_12 : decode cX12_door 12 = .ok (.invokestatic 191, 3) := by decide +kernel
theorem dX12_door_15 : decode cX12_door 15 = .ok (.ifCond .ne 5, 3) := by decide +kernel
theorem dX12_door_18 : decode cX12_door 18 = .ok (.iconst (-1), 1) := by decide +kernel
theorem dX12_door_19 : decode cX12_door 19 = .ok (.ireturn, 1) := by decide +kernel
theorem dX12_door_20 : decode cX12_door 20 = .ok (.aload_n 0, 1) := by decide +kernel
theorem dX12_door_21 : decode cX12_door 21 = .ok (.invokevirtual 522, 3) := by decide +kernel
theorem dX12_door_24 : decode cX12_door 24 = .ok (.iconst 0, 1) := by decide +kernel
theorem dX12_door_25 : decode cX12_door 25 = .ok (.istore_n 3, 1) := by decide +kernel
theorem dX12_door_26 : decode cX12_door 26 = .ok (.iload_n 3, 1) := by decide +kernel
theorem dX12_door_27 : decode cX12_door 27 = .ok (.bipush 9, 2) := by decide +kernel
theorem dX12_door_29 : decode cX12_door 29 = .ok (.if_icmp .ge 21, 3) := by decide +kernel
theorem dX12_door_32 : decode cX12_door 32 = .ok (.aload_n 0, 1) := by decide +kernel
theorem dX12_door_33 : decode cX12_door 33 = .ok (.getfield 178, 3) := by decide +kernel
theorem dX12_door_36 : decode cX12_door 36 = .ok (.iload_n 3, 1) := by decide +kernel
theorem dX12_door_37 : decode cX12_door 37 = .ok (.aload_n 0, 1) := by decide +kernel
theorem dX12_door_38 : decode cX12_door 38 = .ok (.iload_n 1, 1) := by decide +kernel
theorem dX12_door_39 : decode cX12_door 39 = .ok (.iload_n 3, 1) := by decide +kernel
theorem dX12_door_40 : decode cX12_door 40 = .ok (.invokevirtual 548, 3) := by decide +kernel
theorem dX12_door_43 : decode cX12_door 43 = .ok (.bastore, 1) := by decide +kernel
theorem dX12_door_44 : decode cX12_door 44 = .ok (.iinc 3 1, 3) := by decide +kernel
theorem dX12_door_47 : decode cX12_door 47 = .ok (.goto (-21), 3) := by decide +kernel
theorem dX12_door_50 : decode cX12_door 50 = .ok (.iconst 0, 1) := by decide +kernel
theorem dX12_door_51 : decode cX12_door 51 = .ok (.istore_n 3, 1) := by decide +kernel
theorem dX12_door_52 : decode cX12_door 52 = .ok (.iconst 1, 1) := by decide +kernel
theorem dX12_door_53 : decode cX12_door 53 = .ok (.istore 4, 2) := by decide +kernel
theorem dX12_door_55 : decode cX12_door 55 = .ok (.iload 4, 2) := by decide +kernel
theorem dX12_door_57 : decode cX12_door 57 = .ok (.bipush 30, 2) := by decide +kernel
theorem dX12_door_59 : decode cX12_door 59 = .ok (.if_icmp .gt 30, 3) := by decide +kernel
theorem dX12_door_62 : decode cX12_door 62 = .ok (.aload_n 0, 1) := by decide +kernel
theorem dX12_door_63 : decode cX12_door 63 = .ok (.iload 4, 2) := by decide +kernel
theorem dX12_door_65 : decode cX12_door 65 = .ok (.invokevirtual 551, 3) := by decide +kernel
theorem dX12_door_68 : decode cX12_door 68 = .ok (.aload_n 0, 1) := by decide +kernel
theorem dX12_door_69 : decode cX12_door 69 = .ok (.iload_n 3, 1) := by decide +kernel
theorem dX12_door_70 : decode cX12_door 70 = .ok (.invokevirtual 551, 3) := by decide +kernel
theorem dX12_door_73 : decode cX12_door 73 = .ok (.if_icmp .ge 8, 3) := by decide +kernel
theorem dX12_door_76 : decode cX12_door 76 = .ok (.iload 4, 2) := by decide +kernel
theorem dX12_door_78 : decode cX12_door 78 = .ok (.goto 4, 3) := by decide +kernel
theorem dX12_door_81 : decode cX12_door 81 = .ok (.iload_n 3, 1) := by decide +kernel
theorem dX12_door_82 : decode cX12_door 82 = .ok (.istore_n 3, 1) := by decide +kernel
theorem dX12_door_83 : decode cX12_door 83 = .ok (.iinc 4 1, 3) := by decide +kernel
theorem dX12_door_86 : decode cX12_door 86 = .ok (.goto (-31), 3) := by decide +kernel
theorem dX12_door_89 : decode cX12_door 89 = .ok (.aload_n 0, 1) := by decide +kernel
theorem dX12_door_90 : decode cX12_door 90 = .ok (.iload_n 3, 1) := by decide +kernel
theorem dX12_door_91 : decode cX12_door 91 = .ok (.invokevirtual 551, 3) := by decide +kernel
theorem dX12_door_94 : decode cX12_door 94 = .ok (.ifCond .ne 8, 3) := by decide +kernel
theorem dX12_door_97 : decode cX12_door 97 = .ok (.bipush (-2), 2) := by decide +kernel
theorem dX12_door_99 : decode cX12_door 99 = .ok (.goto 16, 3) := by decide +kernel
theorem dX12_door_102 : decode cX12_door 102 = .ok (.iload_n 2, 1) := by decide +kernel
theorem dX12_door_103 : decode cX12_door 103 = .ok (.ifCond .ne 7, 3) := by decide +kernel
theorem dX12_door_106 : decode cX12_door 106 = .ok (.iload_n 3, 1) := by decide +kernel
theorem dX12_door_107 : decode cX12_door 107 = .ok (.goto 8, 3) := by decide +kernel
theorem dX12_door_110 : decode cX12_door 110 = .ok (.aload_n 0, 1) := by decide +kernel
theorem dX12_door_111 : decode cX12_door 111 = .ok (.iload_n 3, 1) := by decide +kernel
theorem dX12_door_112 : decode cX12_door 112 = .ok (.invokevirtual 551, 3) := by decide +kernel
theorem dX12_door_115 : decode cX12_door 115 = .ok (.ireturn, 1) := by decide +kernel
theorem dX12_seed_0 : decode cX12_seed 0 = .ok (.iload_n 1, 1) := by decide +kernel
theorem dX12_seed_1 : decode cX12_seed 1 = .ok (.ifCond .ge 5, 3) := by decide +kernel
theorem dX12_seed_4 : decode cX12_seed 4 = .ok (.iconst (-1), 1) := by decide +kernel
theorem dX12_seed_5 : decode cX12_seed 5 = .ok (.ireturn, 1) := by decide +kernel
theorem dX12_seed_6 : decode cX12_seed 6 = .ok (.aload_n 0, 1) := by decide +kernel
theorem dX12_seed_7 : decode cX12_seed 7 = .ok (.getfield 9, 3) := by decide +kernel
theorem dX12_seed_10 : decode cX12_seed 10 = .ok (.bipush 11, 2) := by decide +kernel
theorem dX12_seed_12 : decode cX12_seed 12 = .ok (.iaload, 1) := by decide +kernel
theorem dX12_seed_13 : decode cX12_seed 13 = .ok (.istore_n 2, 1) := by decide +kernel
theorem dX12_seed_14 : decode cX12_seed 14 = .ok (.aload_n 0, 1) := by decide +kernel
theorem dX12_seed_15 : decode cX12_seed 15 = .ok (.getfield 9, 3) := by decide +kernel
theorem dX12_seed_18 : decode cX12_seed 18 = .ok (.bipush 11, 2) := by decide +kernel
theorem dX12_seed_20 : decode cX12_seed 20 = .ok (.iload_n 1, 1) := by decide +kernel
theorem dX12_seed_21 : decode cX12_seed 21 = .ok (.iastore, 1) := by decide +kernel
theorem dX12_seed_22 : decode cX12_seed 22 = .ok (.iload_n 2, 1) := by decide +kernel
theorem dX12_seed_23 : decode cX12_seed 23 = .ok (.ireturn, 1) := by decide +kernel
theorem dX12_draws_0 : decode cX12_draws 0 = .ok (.aload_n 0, 1) := by decide +kernel
theorem dX12_draws_1 : decode cX12_draws 1 = .ok (.getfield 9, 3) := by decide +kernel
theorem dX12_draws_4 : decode cX12_draws 4 = .ok (.bipush 11, 2) := by decide +kernel
theorem dX12_draws_6 : decode cX12_draws 6 = .ok (.aload_n 0, 1) := by decide +kernel
theorem dX12_draws_7 : decode cX12_draws 7 = .ok (.getfield 9, 3) := by decide +kernel
theorem dX12_draws_10 : decode cX12_draws 10 = .ok (.bipush 11, 2) := by decide +kernel
theorem dX12_draws_12 : decode cX12_draws 12 = .ok (.iaload, 1) := by decide +kernel
theorem dX12_draws_13 : decode cX12_draws 13 = .ok (.i2l, 1) := by decide +kernel
theorem dX12_draws_14 : decode cX12_draws 14 = .ok (.ldc2_w 554, 3) := by decide +kernel
theorem dX12_draws_17 : decode cX12_draws 17 = .ok (.lmul, 1) := by decide +kernel
theorem dX12_draws_18 : decode cX12_draws 18 = .ok (.ldc2_w 556, 3) := by decide +kernel
theorem dX12_draws_21 : decode cX12_draws 21 = .ok (.ladd, 1) := by decide +kernel
theorem dX12_draws_22 : decode cX12_draws 22 = .ok (.ldc2_w 558, 3) := by decide +kernel
theorem dX12_draws_25 : decode cX12_draws 25 = .ok (.lrem, 1) := by decide +kernel
theorem dX12_draws_26 : decode cX12_draws 26 = .ok (.l2i, 1) := by decide +kernel
theorem dX12_draws_27 : decode cX12_draws 27 = .ok (.iastore, 1) := by decide +kernel
theorem dX12_draws_28 : decode cX12_draws 28 = .ok (.aload_n 0, 1) := by decide +kernel
theorem dX12_draws_29 : decode cX12_draws 29 = .ok (.getfield 9, 3) := by decide +kernel
theorem dX12_draws_32 : decode cX12_draws 32 = .ok (.bipush 11, 2) := by decide +kernel
theorem dX12_draws_34 : decode cX12_draws 34 = .ok (.iaload, 1) := by decide +kernel
theorem dX12_draws_35 : decode cX12_draws 35 = .ok (.ldc_w 560, 3) := by decide +kernel
theorem dX12_draws_38 : decode cX12_draws 38 = .ok (.idiv, 1) := by decide +kernel
theorem dX12_draws_39 : decode cX12_draws 39 = .ok (.iload_n 1, 1) := by decide +kernel
theorem dX12_draws_40 : decode cX12_draws 40 = .ok (.irem, 1) := by decide +kernel
theorem dX12_draws_41 : decode cX12_draws 41 = .ok (.ireturn, 1) := by decide +kernel
theorem dX12_years_0 : decode cX12_years 0 = .ok (.aload_n 0, 1) := by decide +kernel
theorem dX12_years_1 : decode cX12_years 1 = .ok (.invokevirtual 485, 3) := by decide +kernel
theorem dX12_years_4 : decode cX12_years 4 = .ok (.ifCond .eq 37, 3) := by decide +kernel
theorem dX12_years_7 : decode cX12_years 7 = .ok (.iload_n 1, 1) := by decide +kernel
theorem dX12_years_8 : decode cX12_years 8 = .ok (.i2l, 1) := by decide +kernel
theorem dX12_years_9 : decode cX12_years 9 = .ok (.lconst 1, 1) := by decide +kernel
theorem dX12_years_10 : decode cX12_years 10 = .ok (.ldc2_w 561, 3) := by decide +kernel
theorem dX12_years_13 : decode cX12_years 13 = .ok (.invokestatic 191, 3) := by decide +kernel
theorem dX12_years_16 : decode cX12_years 16 = .ok (.ifCond .eq 25, 3) := by decide +kernel
theorem dX12_years_19 : decode cX12_years 19 = .ok (.iload_n 2, 1) := by decide +kernel
theorem dX12_years_20 : decode cX12_years 20 = .ok (.i2l, 1) := by decide +kernel
theorem dX12_years_21 : decode cX12_years 21 = .ok (.lconst 1, 1) := by decide +kernel
theorem dX12_years_22 : decode cX12_years 22 = .ok (.ldc2_w 563, 3) := by decide +kernel
theorem dX12_years_25 : decode cX12_years 25 = .ok (.invokestatic 191, 3) := by decide +kernel
theorem dX12_years_28 : decode cX12_years 28 = .ok (.ifCond .eq 13, 3) := by decide +kernel
theorem dX12_years_31 : decode cX12_years 31 = .ok (.iload_n 3, 1) := by decide +kernel
theorem dX12_years_32 : decode cX12_years 32 = .ok (.i2l, 1) := by decide +kernel
theorem dX12_years_33 : decode cX12_years 33 = .ok (.lconst 0, 1) := by decide +kernel
theorem dX12_years_34 : decode cX12_years 34 = .ok (.lconst 1, 1) := by decide +kernel
theorem dX12_years_35 : decode cX12_years 35 = .ok (.invokestatic 191, 3) := by decide +kernel
theorem dX12_years_38 : decode cX12_years 38 = .ok (.ifCond .ne 5, 3) := by decide +kernel
theorem dX12_years_41 : decode cX12_years 41 = .ok (.iconst (-1), 1) := by decide +kernel
theorem dX12_years_42 : decode cX12_years 42 = .ok (.ireturn, 1) := by decide +kernel
theorem dX12_years_43 : decode cX12_years 43 = .ok (.aload_n 0, 1) := by decide +kernel
theorem dX12_years_44 : decode cX12_years 44 = .ok (.getfield 9, 3) := by decide +kernel
theorem dX12_years_47 : decode cX12_years 47 = .ok (.bipush 11, 2) := by decide +kernel
theorem dX12_years_49 : decode cX12_years 49 = .ok (.iaload, 1) := by decide +kernel
theorem dX12_years_50 : decode cX12_years 50 = .ok (.istore 4, 2) := by decide +kernel
theorem dX12_years_52 : decode cX12_years 52 = .ok (.iload 4, 2) := by decide +kernel
theorem dX12_years_54 : decode cX12_years 54 = .ok (.istore 5, 2) := by decide +kernel
theorem dX12_years_56 : decode cX12_years 56 = .ok (.iconst 0, 1) := by decide +kernel
theorem dX12_years_57 : decode cX12_years 57 = .ok (.istore 6, 2) := by decide +kernel
theorem dX12_years_59 : decode cX12_years 59 = .ok (.iconst 0, 1) := by decide +kernel
theorem dX12_years_60 : decode cX12_years 60 = .ok (.istore 7, 2) := by decide +kernel
theorem dX12_years_62 : decode cX12_years 62 = .ok (.aload_n 0, 1) := by decide +kernel
theorem dX12_years_63 : decode cX12_years 63 = .ok (.invokevirtual 522, 3) := by decide +kernel
theorem dX12_years_66 : decode cX12_years 66 = .ok (.aload_n 0, 1) := by decide +kernel
theorem dX12_years_67 : decode cX12_years 67 = .ok (.iconst 1, 1) := by decide +kernel
theorem dX12_years_68 : decode cX12_years 68 = .ok (.putfield 410, 3) := by decide +kernel
theorem dX12_years_71 : decode cX12_years 71 = .ok (.iconst 0, 1) := by decide +kernel
theorem dX12_years_72 : decode cX12_years 72 = .ok (.istore 8, 2) := by decide +kernel
theorem dX12_years_74 : decode cX12_years 74 = .ok (.iload 8, 2) := by decide +kernel
theorem dX12_years_76 : decode cX12_years 76 = .ok (.iload_n 1, 1) := by decide +kernel
theorem dX12_years_77 : decode cX12_years 77 = .ok (.if_icmp .ge 54, 3) := by decide +kernel
theorem dX12_years_80 : decode cX12_years 80 = .ok (.aload_n 0, 1) := by decide +kernel
theorem dX12_years_81 : decode cX12_years 81 = .ok (.getfield 9, 3) := by decide +kernel
theorem dX12_years_84 : decode cX12_years 84 = .ok (.bipush 11, 2) := by decide +kernel
theorem dX12_years_86 : decode cX12_years 86 = .ok (.iload 5, 2) := by decide +kernel
theorem dX12_years_88 : decode cX12_years 88 = .ok (.iastore, 1) := by decide +kernel
theorem dX12_years_89 : decode cX12_years 89 = .ok (.aload_n 0, 1) := by decide +kernel
theorem dX12_years_90 : decode cX12_years 90 = .ok (.iload_n 2, 1) := by decide +kernel
theorem dX12_years_91 : decode cX12_years 91 = .ok (.invokevirtual 512, 3) := by decide +kernel
theorem dX12_years_94 : decode cX12_years 94 = .ok (.iload 6, 2) := by decide +kernel
theorem dX12_years_96 : decode cX12_years 96 = .ok (.aload_n 0, 1) := by decide +kernel
theorem dX12_years_97 : decode cX12_years 97 = .ok (.getfield 509, 3) := by decide +kernel
theorem dX12_years_100 : decode cX12_years 100 = .ok (.iadd, 1) := by decide +kernel
theorem dX12_years_101 : decode cX12_years 101 = .ok (.istore 6, 2) := by decide +kernel
theorem dX12_years_103 : decode cX12_years 103 = .ok (.iload 7, 2) := by decide +kernel
theorem dX12_years_105 : decode cX12_years 105 = .ok (.aload_n 0, 1) := by decide +kernel
theorem dX12_years_106 : decode cX12_years 106 = .ok (.getfield 503, 3) := by decide +kernel
theorem dX12_years_109 : decode cX12_years 109 = .ok (.iadd, 1) := by decide +kernel
theorem dX12_years_110 : decode cX12_years 110 = .ok (.istore 7, 2) := by decide +kernel
theorem dX12_years_112 : decode cX12_years 112 = .ok (.aload_n 0, 1) := by decide +kernel
theorem dX12_years_113 : decode cX12_years 113 = .ok (.getfield 9, 3) := by decide +kernel
theorem dX12_years_116 : decode cX12_years 116 = .ok (.bipush 11, 2) := by decide +kernel
theorem dX12_years_118 : decode cX12_years 118 = .ok (.iaload, 1) := by decide +kernel
theorem dX12_years_119 : decode cX12_years 119 = .ok (.istore 5, 2) := by decide +kernel
theorem dX12_years_121 : decode cX12_years 121 = .ok (.aload_n 0, 1) := by decide +kernel
theorem dX12_years_122 : decode cX12_years 122 = .ok (.invokevirtual 515, 3) := by decide +kernel
theorem dX12_years_125 : decode cX12_years 125 = .ok (.iinc 8 1, 3) := by decide +kernel
theorem dX12_years_128 : decode cX12_years 128 = .ok (.goto (-54), 3) := by decide +kernel
theorem dX12_years_131 : decode cX12_years 131 = .ok (.aload_n 0, 1) := by decide +kernel
theorem dX12_years_132 : decode cX12_years 132 = .ok (.iconst 0, 1) := by decide +kernel
theorem dX12_years_133 : decode cX12_years 133 = .ok (.putfield 410, 3) := by decide +kernel
theorem dX12_years_136 : decode cX12_years 136 = .ok (.aload_n 0, 1) := by decide +kernel
theorem dX12_years_137 : decode cX12_years 137 = .ok (.getfield 9, 3) := by decide +kernel
theorem dX12_years_140 : decode cX12_years 140 = .ok (.bipush 11, 2) := by decide +kernel
theorem dX12_years_142 : decode cX12_years 142 = .ok (.iload 4, 2) := by decide +kernel
theorem dX12_years_144 : decode cX12_years 144 = .ok (.iastore, 1) := by decide +kernel
theorem dX12_years_145 : decode cX12_years 145 = .ok (.iload_n 3, 1) := by decide +kernel
theorem dX12_years_146 : decode cX12_years 146 = .ok (.ifCond .ne 8, 3) := by decide +kernel
theorem dX12_years_149 : decode cX12_years 149 = .ok (.iload 6, 2) := by decide +kernel
theorem dX12_years_151 : decode cX12_years 151 = .ok (.goto 5, 3) := by decide +kernel
theorem dX12_years_154 : decode cX12_years 154 = .ok (.iload 7, 2) := by decide +kernel
theorem dX12_years_156 : decode cX12_years 156 = .ok (.ireturn, 1) := by decide +kernel
theorem dX12_allOf_0 : decode cX12_allOf 0 = .ok (.iconst 0, 1) := by decide +kernel
theorem dX12_allOf_1 : decode cX12_allOf 1 = .ok (.istore_n 1, 1) := by decide +kernel
theorem dX12_allOf_2 : decode cX12_allOf 2 = .ok (.iconst 0, 1) := by decide +kernel
theorem dX12_allOf_3 : decode cX12_allOf 3 = .ok (.istore_n 2, 1) := by decide +kernel
theorem dX12_allOf_4 : decode cX12_allOf 4 = .ok (.iload_n 2, 1) := by decide +kernel
theorem dX12_allOf_5 : decode cX12_allOf 5 = .ok (.aload_n 0, 1) := by decide +kernel
theorem dX12_allOf_6 : decode cX12_allOf 6 = .ok (.arraylength, 1) := by decide +kernel
theorem dX12_allOf_7 : decode cX12_allOf 7 = .ok (.if_icmp .ge 15, 3) := by decide +kernel
theorem dX12_allOf_10 : decode cX12_allOf 10 = .ok (.iload_n 1, 1) := by decide +kernel
theorem dX12_allOf_11 : decode cX12_allOf 11 = .ok (.aload_n 0, 1) := by decide +kernel
theorem dX12_allOf_12 : decode cX12_allOf 12 = .ok (.iload_n 2, 1) := by decide +kernel
theorem dX12_allOf_13 : decode cX12_allOf 13 = .ok (.iaload, 1) := by decide +kernel
theorem dX12_allOf_14 : decode cX12_allOf 14 = .ok (.iadd, 1) := by decide +kernel
theorem dX12_allOf_15 : decode cX12_allOf 15 = .ok (.istore_n 1, 1) := by decide +kernel
theorem dX12_allOf_16 : decode cX12_allOf 16 = .ok (.iinc 2 1, 3) := by decide +kernel
theorem dX12_allOf_19 : decode cX12_allOf 19 = .ok (.goto (-15), 3) := by decide +kernel
theorem dX12_allOf_22 : decode cX12_allOf 22 = .ok (.iload_n 1, 1) := by decide +kernel
theorem dX12_allOf_23 : decode cX12_allOf 23 = .ok (.ireturn, 1) := by decide +kernel
theorem dX12_count_0 : decode cX12_count 0 = .ok (.iload_n 1, 1) := by decide +kernel
theorem dX12_count_1 : decode cX12_count 1 = .ok (.tableswitch 181 0 14 #[75, 82, 89, 96, 103, 110, 115, 123, 131, 139, 147, 155, 163, 168, 176], 75) := by decide +kernel
theorem dX12_count_76 : decode cX12_count 76 = .ok (.aload_n 0, 1) := by decide +kernel
theorem dX12_count_77 : decode cX12_count 77 = .ok (.getfield 9, 3) := by decide +kernel
theorem dX12_count_80 : decode cX12_count 80 = .ok (.iconst 0, 1) := by decide +kernel
theorem dX12_count_81 : decode cX12_count 81 = .ok (.iaload, 1) := by decide +kernel
theorem dX12_count_82 : decode cX12_count 82 = .ok (.ireturn, 1) := by decide +kernel
theorem dX12_count_83 : decode cX12_count 83 = .ok (.aload_n 0, 1) := by decide +kernel
theorem dX12_count_84 : decode cX12_count 84 = .ok (.getfield 9, 3) := by decide +kernel
theorem dX12_count_87 : decode cX12_count 87 = .ok (.iconst 1, 1) := by decide +kernel
theorem dX12_count_88 : decode cX12_count 88 = .ok (.iaload, 1) := by decide +kernel
theorem dX12_count_89 : decode cX12_count 89 = .ok (.ireturn, 1) := by decide +kernel
theorem dX12_count_90 : decode cX12_count 90 = .ok (.aload_n 0, 1) := by decide +kernel
theorem dX12_count_91 : decode cX12_count 91 = .ok (.getfield 9, 3) := by decide +kernel
theorem dX12_count_94 : decode cX12_count 94 = .ok (.iconst 2, 1) := by decide +kernel
theorem dX12_count_95 : decode cX12_count 95 = .ok (.iaload, 1) := by decide +kernel
theorem dX12_count_96 : decode cX12_count 96 = .ok (.ireturn, 1) := by decide +kernel
theorem dX12_count_97 : decode cX12_count 97 = .ok (.aload_n 0, 1) := by decide +kernel
theorem dX12_count_98 : decode cX12_count 98 = .ok (.getfield 9, 3) := by decide +kernel
theorem dX12_count_101 : decode cX12_count 101 = .ok (.iconst 3, 1) := by decide +kernel
theorem dX12_count_102 : decode cX12_count 102 = .ok (.iaload, 1) := by decide +kernel
theorem dX12_count_103 : decode cX12_count 103 = .ok (.ireturn, 1) := by decide +kernel
theorem dX12_count_104 : decode cX12_count 104 = .ok (.aload_n 0, 1) := by decide +kernel
theorem dX12_count_105 : decode cX12_count 105 = .ok (.getfield 9, 3) := by decide +kernel
theorem dX12_count_108 : decode cX12_count 108 = .ok (.iconst 4, 1) := by decide +kernel
theorem dX12_count_109 : decode cX12_count 109 = .ok (.iaload, 1) := by decide +kernel
theorem dX12_count_110 : decode cX12_count 110 = .ok (.ireturn, 1) := by decide +kernel
theorem dX12_count_111 : decode cX12_count 111 = .ok (.aload_n 0, 1) := by decide +kernel
theorem dX12_count_112 : decode cX12_count 112 = .ok (.getfield 379, 3) := by decide +kernel
theorem dX12_count_115 : decode cX12_count 115 = .ok (.ireturn, 1) := by decide +kernel
theorem dX12_count_116 : decode cX12_count 116 = .ok (.aload_n 0, 1) := by decide +kernel
theorem dX12_count_117 : decode cX12_count 117 = .ok (.getfield 9, 3) := by decide +kernel
theorem dX12_count_120 : decode cX12_count 120 = .ok (.bipush 12, 2) := by decide +kernel
theorem dX12_count_122 : decode cX12_count 122 = .ok (.iaload, 1) := by decide +kernel
theorem dX12_count_123 : decode cX12_count 123 = .ok (.ireturn, 1) := by decide +kernel
theorem dX12_count_124 : decode cX12_count 124 = .ok (.aload_n 0, 1) := by decide +kernel
theorem dX12_count_125 : decode cX12_count 125 = .ok (.getfield 9, 3) := by decide +kernel
theorem dX12_count_128 : decode cX12_count 128 = .ok (.bipush 9, 2) := by decide +kernel
theorem dX12_count_130 : decode cX12_count 130 = .ok (.iaload, 1) := by decide +kernel
theorem dX12_count_131 : decode cX12_count 131 = .ok (.ireturn, 1) := by decide +kernel
theorem dX12_count_132 : decode cX12_count 132 = .ok (.aload_n 0, 1) := by decide +kernel
theorem dX12_count_133 : decode cX12_count 133 = .ok (.getfield 9, 3) := by decide +kernel
theorem dX12_count_136 : decode cX12_count 136 = .ok (.bipush 8, 2) := by decide +kernel
theorem dX12_count_138 : decode cX12_count 138 = .ok (.iaload, 1) := by decide +kernel
theorem dX12_count_139 : decode cX12_count 139 = .ok (.ireturn, 1) := by decide +kernel
theorem dX12_count_140 : decode cX12_count 140 = .ok (.aload_n 0, 1) := by decide +kernel
theorem dX12_count_141 : decode cX12_count 141 = .ok (.getfield 22, 3) := by decide +kernel
theorem dX12_count_144 : decode cX12_count 144 = .ok (.invokestatic 565, 3) := by decide +kernel
theorem dX12_count_147 : decode cX12_count 147 = .ok (.ireturn, 1) := by decide +kernel
theorem dX12_count_148 : decode cX12_count 148 = .ok (.aload_n 0, 1) := by decide +kernel
theorem dX12_count_149 : decode cX12_count 149 = .ok (.getfield 25, 3) := by decide +kernel
theorem dX12_count_152 : decode cX12_count 152 = .ok (.invokestatic 565, 3) := by decide +kernel
theorem dX12_count_155 : decode cX12_count 155 = .ok (.ireturn, 1) := by decide +kernel
theorem dX12_count_156 : decode cX12_count 156 = .ok (.aload_n 0, 1) := by decide +kernel
theorem dX12_count_157 : decode cX12_count 157 = .ok (.getfield 9, 3) := by decide +kernel
theorem dX12_count_160 : decode cX12_count 160 = .ok (.bipush 10, 2) := by decide +kernel
theorem dX12_count_162 : decode cX12_count 162 = .ok (.iaload, 1) := by decide +kernel
theorem dX12_count_163 : decode cX12_count 163 = .ok (.ireturn, 1) := by decide +kernel
theorem dX12_count_164 : decode cX12_count 164 = .ok (.aload_n 0, 1) := by decide +kernel
theorem dX12_count_165 : decode cX12_count 165 = .ok (.getfield 366, 3) := by decide +kernel
theorem dX12_count_168 : decode cX12_count 168 = .ok (.ireturn, 1) := by decide +kernel
theorem dX12_count_169 : decode cX12_count 169 = .ok (.aload_n 0, 1) := by decide +kernel
theorem dX12_count_170 : decode cX12_count 170 = .ok (.getfield 9, 3) := by decide +kernel
theorem dX12_count_173 : decode cX12_count 173 = .ok (.bipush 11, 2) := by decide +kernel
theorem dX12_count_175 : decode cX12_count 175 = .ok (.iaload, 1) := by decide +kernel
theorem dX12_count_176 : decode cX12_count 176 = .ok (.ireturn, 1) := by decide +kernel
theorem dX12_count_177 : decode cX12_count 177 = .ok (.aload_n 0, 1) := by decide +kernel
theorem dX12_count_178 : decode cX12_count 178 = .ok (.getfield 195, 3) := by decide +kernel
theorem dX12_count_181 : decode cX12_count 181 = .ok (.ireturn, 1) := by decide +kernel
theorem dX12_count_182 : decode cX12_count 182 = .ok (.iconst (-1), 1) := by decide +kernel
theorem dX12_count_183 : decode cX12_count 183 = .ok (.ireturn, 1) := by decide +kernel
theorem dX12_carryRow_0 : decode cX12_carryRow 0 = .ok (.iconst 0, 1) := by decide +kernel
theorem dX12_carryRow_1 : decode cX12_carryRow 1 = .ok (.istore_n 2, 1) := by decide +kernel
theorem dX12_carryRow_2 : decode cX12_carryRow 2 = .ok (.iload_n 2, 1) := by decide +kernel
theorem dX12_carryRow_3 : decode cX12_carryRow 3 = .ok (.aload_n 1, 1) := by decide +kernel
theorem dX12_carryRow_4 : decode cX12_carryRow 4 = .ok (.arraylength, 1) := by decide +kernel
theorem dX12_carryRow_5 : decode cX12_carryRow 5 = .ok (.if_icmp .ge 53, 3) := by decide +kernel
theorem dX12_carryRow_8 : decode cX12_carryRow 8 = .ok (.aload_n 0, 1) := by decide +kernel
theorem dX12_carryRow_9 : decode cX12_carryRow 9 = .ok (.getfield 569, 3) := by decide +kernel
theorem dX12_carryRow_12 : decode cX12_carryRow 12 = .ok (.ifCond .eq 18, 3) := by decide +kernel
theorem dX12_carryRow_15 : decode cX12_carryRow 15 = .ok (.aload_n 1, 1) := by decide +kernel
theorem dX12_carryRow_16 : decode cX12_carryRow 16 = .ok (.iload_n 2, 1) := by decide +kernel
theorem dX12_carryRow_17 : decode cX12_carryRow 17 = .ok (.aload_n 0, 1) := by decide +kernel
theorem dX12_carryRow_18 : decode cX12_carryRow 18 = .ok (.getfield 182, 3) := by decide +kernel
theorem dX12_carryRow_21 : decode cX12_carryRow 21 = .ok (.aload_n 0, 1) := by decide +kernel
theorem dX12_carryRow_22 : decode cX12_carryRow 22 = .ok (.getfield 572, 3) := by decide +kernel
theorem dX12_carryRow_25 : decode cX12_carryRow 25 = .ok (.iaload, 1) := by decide +kernel
theorem dX12_carryRow_26 : decode cX12_carryRow 26 = .ok (.iastore, 1) := by decide +kernel
theorem dX12_carryRow_27 : decode cX12_carryRow 27 = .ok (.goto 15, 3) := by decide +kernel
theorem dX12_carryRow_30 : decode cX12_carryRow 30 = .ok (.aload_n 0, 1) := by decide +kernel
theorem dX12_carryRow_31 : decode cX12_carryRow 31 = .ok (.getfield 182, 3) := by decide +kernel
theorem dX12_carryRow_34 : decode cX12_carryRow 34 = .ok (.aload_n 0, 1) := by decide +kernel
theorem dX12_carryRow_35 : decode cX12_carryRow 35 = .ok (.getfield 572, 3) := by decide +kernel
theorem dX12_carryRow_38 : decode cX12_carryRow 38 = .ok (.aload_n 1, 1) := by decide +kernel
theorem dX12_carryRow_39 : decode cX12_carryRow 39 = .ok (.iload_n 2, 1) := by decide +kernel
theorem dX12_carryRow_40 : decode cX12_carryRow 40 = .ok (.iaload, 1) := by decide +kernel
theorem dX12_carryRow_41 : decode cX12_carryRow 41 = .ok (.iastore, 1) := by decide +kernel
theorem dX12_carryRow_42 : decode cX12_carryRow 42 = .ok (.aload_n 0, 1) := by decide +kernel
theorem dX12_carryRow_43 : decode cX12_carryRow 43 = .ok (.dup, 1) := by decide +kernel
theorem dX12_carryRow_44 : decode cX12_carryRow 44 = .ok (.getfield 572, 3) := by decide +kernel
theorem dX12_carryRow_47 : decode cX12_carryRow 47 = .ok (.iconst 1, 1) := by decide +kernel
theorem dX12_carryRow_48 : decode cX12_carryRow 48 = .ok (.iadd, 1) := by decide +kernel
theorem dX12_carryRow_49 : decode cX12_carryRow 49 = .ok (.putfield 572, 3) := by decide +kernel
theorem dX12_carryRow_52 : decode cX12_carryRow 52 = .ok (.iinc 2 1, 3) := by decide +kernel
theorem dX12_carryRow_55 : decode cX12_carryRow 55 = .ok (.goto (-53), 3) := by decide +kernel
theorem dX12_carryRow_58 : decode cX12_carryRow 58 = .ok (.return_, 1) := by decide +kernel
theorem dX12_carriesAll_0 : decode cX12_carriesAll 0 = .ok (.aload_n 0, 1) := by decide +kernel
theorem dX12_carriesAll_1 : decode cX12_carriesAll 1 = .ok (.sipush 1200, 3) := by decide +kernel
theorem dX12_carriesAll_4 : decode cX12_carriesAll 4 = .ok (.iload_n 1, 1) := by decide +kernel
theorem dX12_carriesAll_5 : decode cX12_carriesAll 5 = .ok (.imul, 1) := by decide +kernel
theorem dX12_carriesAll_6 : decode cX12_carriesAll 6 = .ok (.putfield 572, 3) := by decide +kernel
theorem dX12_carriesAll_9 : decode cX12_carriesAll 9 = .ok (.aload_n 0, 1) := by decide +kernel
theorem dX12_carriesAll_10 : decode cX12_carriesAll 10 = .ok (.iload_n 2, 1) := by decide +kernel
theorem dX12_carriesAll_11 : decode cX12_carriesAll 11 = .ok (.putfield 569, 3) := by decide +kernel
theorem dX12_carriesAll_14 : decode cX12_carriesAll 14 = .ok (.aload_n 0, 1) := by decide +kernel
theorem dX12_carriesAll_15 : decode cX12_carriesAll 15 = .ok (.aload_n 0, 1) := by decide +kernel
theorem dX12_carriesAll_16 : decode cX12_carriesAll 16 = .ok (.getfield 9, 3) := by decide +kernel
theorem dX12_carriesAll_19 : decode cX12_carriesAll 19 = .ok (.invokevirtual 575, 3) := by decide +kernel
theorem dX12_carriesAll_22 : decode cX12_carriesAll 22 = .ok (.aload_n 0, 1) := by decide +kernel
theorem dX12_carriesAll_23 : decode cX12_carriesAll 23 = .ok (.aload_n 0, 1) := by decide +kernel
theorem dX12_carriesAll_24 : decode cX12_carriesAll 24 = .ok (.getfield 16, 3) := by decide +kernel
theorem dX12_carriesAll_27 : decode cX12_carriesAll 27 = .ok (.invokevirtual 575, 3) := by decide +kernel
theorem dX12_carriesAll_30 : decode cX12_carriesAll 30 = .ok (.aload_n 0, 1) := by decide +kernel
theorem dX12_carriesAll_31 : decode cX12_carriesAll 31 = .ok (.aload_n 0, 1) := by decide +kernel
theorem dX12_carriesAll_32 : decode cX12_carriesAll 32 = .ok (.getfield 19, 3) := by decide +kernel
theorem dX12_carriesAll_35 : decode cX12_carriesAll 35 = .ok (.invokevirtual 575, 3) := by decide +kernel
theorem dX12_carriesAll_38 : decode cX12_carriesAll 38 = .ok (.aload_n 0, 1) := by decide +kernel
theorem dX12_carriesAll_39 : decode cX12_carriesAll 39 = .ok (.aload_n 0, 1) := by decide +kernel
theorem dX12_carriesAll_40 : decode cX12_carriesAll 40 = .ok (.getfield 22, 3) := by decide +kernel
theorem dX12_carriesAll_43 : decode cX12_carriesAll 43 = .ok (.invokevirtual 575, 3) := by decide +kernel
theorem dX12_carriesAll_46 : decode cX12_carriesAll 46 = .ok (.aload_n 0, 1) := by decide +kernel
theorem dX12_carriesAll_47 : decode cX12_carriesAll 47 = .ok (.aload_n 0, 1) := by decide +kernel
theorem dX12_carriesAll_48 : decode cX12_carriesAll 48 = .ok (.getfield 25, 3) := by decide +kernel
theorem dX12_carriesAll_51 : decode cX12_carriesAll 51 = .ok (.invokevirtual 575, 3) := by decide +kernel
theorem dX12_carriesAll_54 : decode cX12_carriesAll 54 = .ok (.aload_n 0, 1) := by decide +kernel
theorem dX12_carriesAll_55 : decode cX12_carriesAll 55 = .ok (.aload_n 0, 1) := by decide +kernel
theorem dX12_carriesAll_56 : decode cX12_carriesAll 56 = .ok (.getfield 34, 3) := by decide +kernel
theorem dX12_carriesAll_59 : decode cX12_carriesAll 59 = .ok (.invokevirtual 575, 3) := by decide +kernel
theorem dX12_carriesAll_62 : decode cX12_carriesAll 62 = .ok (.aload_n 0, 1) := by decide +kernel
theorem dX12_carriesAll_63 : decode cX12_carriesAll 63 = .ok (.aload_n 0, 1) := by decide +kernel
theorem dX12_carriesAll_64 : decode cX12_carriesAll 64 = .ok (.getfield 40, 3) := by decide +kernel
theorem dX12_carriesAll_67 : decode cX12_carriesAll 67 = .ok (.invokevirtual 575, 3) := by decide +kernel
theorem dX12_carriesAll_70 : decode cX12_carriesAll 70 = .ok (.aload_n 0, 1) := by decide +kernel
theorem dX12_carriesAll_71 : decode cX12_carriesAll 71 = .ok (.aload_n 0, 1) := by decide +kernel
theorem dX12_carriesAll_72 : decode cX12_carriesAll 72 = .ok (.getfield 43, 3) := by decide +kernel
theorem dX12_carriesAll_75 : decode cX12_carriesAll 75 = .ok (.invokevirtual 575, 3) := by decide +kernel
theorem dX12_carriesAll_78 : decode cX12_carriesAll 78 = .ok (.iload_n 1, 1) := by decide +kernel
theorem dX12_carriesAll_79 : decode cX12_carriesAll 79 = .ok (.iconst 4, 1) := by decide +kernel
theorem dX12_carriesAll_80 : decode cX12_carriesAll 80 = .ok (.if_icmp .ne 4, 3) := by decide +kernel
theorem dX12_carriesAll_83 : decode cX12_carriesAll 83 = .ok (.return_, 1) := by decide +kernel
theorem dX12_carriesAll_84 : decode cX12_carriesAll 84 = .ok (.aload_n 0, 1) := by decide +kernel
theorem dX12_carriesAll_85 : decode cX12_carriesAll 85 = .ok (.getfield 160, 3) := by decide +kernel
theorem dX12_carriesAll_88 : decode cX12_carriesAll 88 = .ok (.iconst 0, 1) := by decide +kernel
theorem dX12_carriesAll_89 : decode cX12_carriesAll 89 = .ok (.aload_n 0, 1) := by decide +kernel
theorem dX12_carriesAll_90 : decode cX12_carriesAll 90 = .ok (.getfield 366, 3) := by decide +kernel
theorem dX12_carriesAll_93 : decode cX12_carriesAll 93 = .ok (.iastore, 1) := by decide +kernel
theorem dX12_carriesAll_94 : decode cX12_carriesAll 94 = .ok (.aload_n 0, 1) := by decide +kernel
theorem dX12_carriesAll_95 : decode cX12_carriesAll 95 = .ok (.aload_n 0, 1) := by decide +kernel
theorem dX12_carriesAll_96 : decode cX12_carriesAll 96 = .ok (.getfield 160, 3) := by decide +kernel
theorem dX12_carriesAll_99 : decode cX12_carriesAll 99 = .ok (.invokevirtual 575, 3) := by decide +kernel
theorem dX12_carriesAll_102 : decode cX12_carriesAll 102 = .ok (.aload_n 0, 1) := by decide +kernel
theorem dX12_carriesAll_103 : decode cX12_carriesAll 103 = .ok (.aload_n 0, 1) := by decide +kernel
theorem dX12_carriesAll_104 : decode cX12_carriesAll 104 = .ok (.getfield 160, 3) := by decide +kernel
theorem dX12_carriesAll_107 : decode cX12_carriesAll 107 = .ok (.iconst 0, 1) := by decide +kernel
theorem dX12_carriesAll_108 : decode cX12_carriesAll 108 = .ok (.iaload, 1) := by decide +kernel
theorem dX12_carriesAll_109 : decode cX12_carriesAll 109 = .ok (.putfield 366, 3) := by decide +kernel
theorem dX12_carriesAll_112 : decode cX12_carriesAll 112 = .ok (.aload_n 0, 1) := by decide +kernel
theorem dX12_carriesAll_113 : decode cX12_carriesAll 113 = .ok (.aload_n 0, 1) := by decide +kernel
theorem dX12_carriesAll_114 : decode cX12_carriesAll 114 = .ok (.getfield 13, 3) := by decide +kernel
theorem dX12_carriesAll_117 : decode cX12_carriesAll 117 = .ok (.invokevirtual 575, 3) := by decide +kernel
theorem dX12_carriesAll_120 : decode cX12_carriesAll 120 = .ok (.aload_n 0, 1) := by decide +kernel
theorem dX12_carriesAll_121 : decode cX12_carriesAll 121 = .ok (.aload_n 0, 1) := by decide +kernel
theorem dX12_carriesAll_122 : decode cX12_carriesAll 122 = .ok (.getfield 28, 3) := by decide +kernel
theorem dX12_carriesAll_125 : decode cX12_carriesAll 125 = .ok (.invokevirtual 575, 3) := by decide +kernel
theorem dX12_carriesAll_128 : decode cX12_carriesAll 128 = .ok (.aload_n 0, 1) := by decide +kernel
theorem dX12_carriesAll_129 : decode cX12_carriesAll 129 = .ok (.aload_n 0, 1) := by decide +kernel
theorem dX12_carriesAll_130 : decode cX12_carriesAll 130 = .ok (.getfield 31, 3) := by decide +kernel
theorem dX12_carriesAll_133 : decode cX12_carriesAll 133 = .ok (.invokevirtual 575, 3) := by decide +kernel
theorem dX12_carriesAll_136 : decode cX12_carriesAll 136 = .ok (.aload_n 0, 1) := by decide +kernel
theorem dX12_carriesAll_137 : decode cX12_carriesAll 137 = .ok (.aload_n 0, 1) := by decide +kernel
theorem dX12_carriesAll_138 : decode cX12_carriesAll 138 = .ok (.getfield 37, 3) := by decide +kernel
theorem dX12_carriesAll_141 : decode cX12_carriesAll 141 = .ok (.invokevirtual 575, 3) := by decide +kernel
theorem dX12_carriesAll_144 : decode cX12_carriesAll 144 = .ok (.aload_n 0, 1) := by decide +kernel
theorem dX12_carriesAll_145 : decode cX12_carriesAll 145 = .ok (.aload_n 0, 1) := by decide +kernel
theorem dX12_carriesAll_146 : decode cX12_carriesAll 146 = .ok (.getfield 46, 3) := by decide +kernel
theorem dX12_carriesAll_149 : decode cX12_carriesAll 149 = .ok (.invokevirtual 575, 3) := by decide +kernel
theorem dX12_carriesAll_152 : decode cX12_carriesAll 152 = .ok (.aload_n 0, 1) := by decide +kernel
theorem dX12_carriesAll_153 : decode cX12_carriesAll 153 = .ok (.aload_n 0, 1) := by decide +kernel
theorem dX12_carriesAll_154 : decode cX12_carriesAll 154 = .ok (.getfield 49, 3) := by decide +kernel
theorem dX12_carriesAll_157 : decode cX12_carriesAll 157 = .ok (.invokevirtual 575, 3) := by decide +kernel
theorem dX12_carriesAll_160 : decode cX12_carriesAll 160 = .ok (.aload_n 0, 1) := by decide +kernel
theorem dX12_carriesAll_161 : decode cX12_carriesAll 161 = .ok (.aload_n 0, 1) := by decide +kernel
theorem dX12_carriesAll_162 : decode cX12_carriesAll 162 = .ok (.getfield 52, 3) := by decide +kernel
theorem dX12_carriesAll_165 : decode cX12_carriesAll 165 = .ok (.invokevirtual 575, 3) := by decide +kernel
theorem dX12_carriesAll_168 : decode cX12_carriesAll 168 = .ok (.aload_n 0, 1) := by decide +kernel
theorem dX12_carriesAll_169 : decode cX12_carriesAll 169 = .ok (.aload_n 0, 1) := by decide +kernel
theorem dX12_carriesAll_170 : decode cX12_carriesAll 170 = .ok (.getfield 55, 3) := by decide +kernel
theorem dX12_carriesAll_173 : decode cX12_carriesAll 173 = .ok (.invokevirtual 575, 3) := by decide +kernel
theorem dX12_carriesAll_176 : decode cX12_carriesAll 176 = .ok (.aload_n 0, 1) := by decide +kernel
theorem dX12_carriesAll_177 : decode cX12_carriesAll 177 = .ok (.aload_n 0, 1) := by decide +kernel
theorem dX12_carriesAll_178 : decode cX12_carriesAll 178 = .ok (.getfield 58, 3) := by decide +kernel
theorem dX12_carriesAll_181 : decode cX12_carriesAll 181 = .ok (.invokevirtual 575, 3) := by decide +kernel
theorem dX12_carriesAll_184 : decode cX12_carriesAll 184 = .ok (.aload_n 0, 1) := by decide +kernel
theorem dX12_carriesAll_185 : decode cX12_carriesAll 185 = .ok (.aload_n 0, 1) := by decide +kernel
theorem dX12_carriesAll_186 : decode cX12_carriesAll 186 = .ok (.getfield 61, 3) := by decide +kernel
theorem dX12_carriesAll_189 : decode cX12_carriesAll 189 = .ok (.invokevirtual 575, 3) := by decide +kernel
theorem dX12_carriesAll_192 : decode cX12_carriesAll 192 = .ok (.aload_n 0, 1) := by decide +kernel
theorem dX12_carriesAll_193 : decode cX12_carriesAll 193 = .ok (.aload_n 0, 1) := by decide +kernel
theorem dX12_carriesAll_194 : decode cX12_carriesAll 194 = .ok (.getfield 157, 3) := by decide +kernel
theorem dX12_carriesAll_197 : decode cX12_carriesAll 197 = .ok (.invokevirtual 575, 3) := by decide +kernel
theorem dX12_carriesAll_200 : decode cX12_carriesAll 200 = .ok (.return_, 1) := by decide +kernel
theorem dX12_image_0 : decode cX12_image 0 = .ok (.iload_n 1, 1) := by decide +kernel
theorem dX12_image_1 : decode cX12_image 1 = .ok (.i2l, 1) := by decide +kernel
theorem dX12_image_2 : decode cX12_image 2 = .ok (.lconst 0, 1) := by decide +kernel
theorem dX12_image_3 : decode cX12_image 3 = .ok (.ldc2_w 525, 3) := by decide +kernel
theorem dX12_image_6 : decode cX12_image 6 = .ok (.invokestatic 191, 3) := by decide +kernel
theorem dX12_image_9 : decode cX12_image 9 = .ok (.ifCond .ne 5, 3) := by decide +kernel
theorem dX12_image_12 : decode cX12_image 12 = .ok (.iconst (-1), 1) := by decide +kernel
theorem dX12_image_13 : decode cX12_image 13 = .ok (.ireturn, 1) := by decide +kernel
theorem dX12_image_14 : decode cX12_image 14 = .ok (.aload_n 0, 1) := by decide +kernel
theorem dX12_image_15 : decode cX12_image 15 = .ok (.getfield 185, 3) := by decide +kernel
theorem dX12_image_18 : decode cX12_image 18 = .ok (.iload_n 1, 1) := by decide +kernel
theorem dX12_image_19 : decode cX12_image 19 = .ok (.iconst 1, 1) := by decide +kernel
theorem dX12_image_20 : decode cX12_image 20 = .ok (.bastore, 1) := by decide +kernel
theorem dX12_image_21 : decode cX12_image 21 = .ok (.aload_n 0, 1) := by decide +kernel
theorem dX12_image_22 : decode cX12_image 22 = .ok (.iload_n 1, 1) := by decide +kernel
theorem dX12_image_23 : decode cX12_image 23 = .ok (.iconst 0, 1) := by decide +kernel
theorem dX12_image_24 : decode cX12_image 24 = .ok (.invokevirtual 500, 3) := by decide +kernel
theorem dX12_image_27 : decode cX12_image 27 = .ok (.aload_n 0, 1) := by decide +kernel
theorem dX12_image_28 : decode cX12_image 28 = .ok (.getfield 9, 3) := by decide +kernel
theorem dX12_image_31 : decode cX12_image 31 = .ok (.bipush 9, 2) := by decide +kernel
theorem dX12_image_33 : decode cX12_image 33 = .ok (.iaload, 1) := by decide +kernel
theorem dX12_image_34 : decode cX12_image 34 = .ok (.ireturn, 1) := by decide +kernel
theorem dX12_back_0 : decode cX12_back 0 = .ok (.iload_n 1, 1) := by decide +kernel
theorem dX12_back_1 : decode cX12_back 1 = .ok (.i2l, 1) := by decide +kernel
theorem dX12_back_2 : decode cX12_back 2 = .ok (.lconst 0, 1) := by decide +kernel
theorem dX12_back_3 : decode cX12_back 3 = .ok (.ldc2_w 525, 3) := by decide +kernel
theorem dX12_back_6 : decode cX12_back 6 = .ok (.invokestatic 191, 3) := by decide +kernel
theorem dX12_back_9 : decode cX12_back 9 = .ok (.ifCond .eq 12, 3) := by decide +kernel
theorem dX12_back_12 : decode cX12_back 12 = .ok (.aload_n 0, 1) := by decide +kernel
theorem dX12_back_13 : decode cX12_back 13 = .ok (.getfield 185, 3) := by decide +kernel
theorem dX12_back_16 : decode cX12_back 16 = .ok (.iload_n 1, 1) := by decide +kernel
theorem dX12_back_17 : decode cX12_back 17 = .ok (.baload, 1) := by decide +kernel
theorem dX12_back_18 : decode cX12_back 18 = .ok (.ifCond .ne 5, 3) := by decide +kernel
theorem dX12_back_21 : decode cX12_back 21 = .ok (.iconst (-1), 1) := by decide +kernel
theorem dX12_back_22 : decode cX12_back 22 = .ok (.ireturn, 1) := by decide +kernel
theorem dX12_back_23 : decode cX12_back 23 = .ok (.aload_n 0, 1) := by decide +kernel
theorem dX12_back_24 : decode cX12_back 24 = .ok (.iload_n 1, 1) := by decide +kernel
theorem dX12_back_25 : decode cX12_back 25 = .ok (.iconst 1, 1) := by decide +kernel
theorem dX12_back_26 : decode cX12_back 26 = .ok (.invokevirtual 500, 3) := by decide +kernel
theorem dX12_back_29 : decode cX12_back 29 = .ok (.aload_n 0, 1) := by decide +kernel
theorem dX12_back_30 : decode cX12_back 30 = .ok (.getfield 9, 3) := by decide +kernel
theorem dX12_back_33 : decode cX12_back 33 = .ok (.bipush 9, 2) := by decide +kernel
theorem dX12_back_35 : decode cX12_back 35 = .ok (.iaload, 1) := by decide +kernel
theorem dX12_back_36 : decode cX12_back 36 = .ok (.ireturn, 1) := by decide +kernel
