theorem dX11_minute_14 : decode cX11_minute 14 = .ok (.if_icmp .le 5, 3) := by decide +kernel
theorem dX11_minute_17 : decode cX11_minute 17 = .ok (.iconst (-1), 1) := by decide +kernel
theorem dX11_minute_18 : decode cX11_minute 18 = .ok (.ireturn, 1) := by decide +kernel
theorem dX11_minute_19 : decode cX11_minute 19 = .ok (.aload_n 0, 1) := by decide +kernel
theorem dX11_minute_20 : decode cX11_minute 20 = .ok (.getfield 45, 3) := by decide +kernel
theorem dX11_minute_23 : decode cX11_minute 23 = .ok (.getfield 104, 3) := by decide +kernel
theorem dX11_minute_26 : decode cX11_minute 26 = .ok (.getfield 108, 3) := by decide +kernel
theorem dX11_minute_29 : decode cX11_minute 29 = .ok (.bipush 20, 2) := by decide +kernel
theorem dX11_minute_31 : decode cX11_minute 31 = .ok (.iload_n 1, 1) := by decide +kernel
theorem dX11_minute_32 : decode cX11_minute 32 = .ok (.iadd, 1) := by decide +kernel
theorem dX11_minute_33 : decode cX11_minute 33 = .ok (.iaload, 1) := by decide +kernel
theorem dX11_minute_34 : decode cX11_minute 34 = .ok (.istore_n 3, 1) := by decide +kernel
theorem dX11_minute_35 : decode cX11_minute 35 = .ok (.sipush 600, 3) := by decide +kernel
theorem dX11_minute_38 : decode cX11_minute 38 = .ok (.iload_n 3, 1) := by decide +kernel
theorem dX11_minute_39 : decode cX11_minute 39 = .ok (.bipush 60, 2) := by decide +kernel
theorem dX11_minute_41 : decode cX11_minute 41 = .ok (.iadd, 1) := by decide +kernel
theorem dX11_minute_42 : decode cX11_minute 42 = .ok (.invokestatic 191, 3) := by decide +kernel
theorem dX11_minute_45 : decode cX11_minute 45 = .ok (.istore 4, 2) := by decide +kernel
theorem dX11_minute_47 : decode cX11_minute 47 = .ok (.iconst (-1), 1) := by decide +kernel
theorem dX11_minute_48 : decode cX11_minute 48 = .ok (.istore 5, 2) := by decide +kernel
theorem dX11_minute_50 : decode cX11_minute 50 = .ok (.iconst 0, 1) := by decide +kernel
theorem dX11_minute_51 : decode cX11_minute 51 = .ok (.istore 6, 2) := by decide +kernel
theorem dX11_minute_53 : decode cX11_minute 53 = .ok (.iconst 0, 1) := by decide +kernel
theorem dX11_minute_54 : decode cX11_minute 54 = .ok (.istore 7, 2) := by decide +kernel
theorem dX11_minute_56 : decode cX11_minute 56 = .ok (.iconst 0, 1) := by decide +kernel
theorem dX11_minute_57 : decode cX11_minute 57 = .ok (.iload_n 3, 1) := by decide +kernel
theorem dX11_minute_58 : decode cX11_minute 58 = .ok (.bipush 60, 2) := by decide +kernel
theorem dX11_minute_60 : decode cX11_minute 60 = .ok (.isub, 1) := by decide +kernel
theorem dX11_minute_61 : decode cX11_minute 61 = .ok (.invokestatic 197, 3) := by decide +kernel
theorem dX11_minute_64 : decode cX11_minute 64 = .ok (.istore 8, 2) := by decide +kernel
theorem dX11_minute_66 : decode cX11_minute 66 = .ok (.iload 8, 2) := by decide +kernel
theorem dX11_minute_68 : decode cX11_minute 68 = .ok (.iload 4, 2) := by decide +kernel
theorem dX11_minute_70 : decode cX11_minute 70 = .ok (.if_icmp .gt 101, 3) := by decide +kernel
theorem dX11_minute_73 : decode cX11_minute 73 = .ok (.aload_n 0, 1) := by decide +kernel
theorem dX11_minute_74 : decode cX11_minute 74 = .ok (.invokevirtual 143, 3) := by decide +kernel
theorem dX11_minute_77 : decode cX11_minute 77 = .ok (.aload_n 0, 1) := by decide +kernel
theorem dX11_minute_78 : decode cX11_minute 78 = .ok (.getfield 56, 3) := by decide +kernel
theorem dX11_minute_81 : decode cX11_minute 81 = .ok (.getfield 149, 3) := by decide +kernel
theorem dX11_minute_84 : decode cX11_minute 84 = .ok (.getfield 108, 3) := by decide +kernel
theorem dX11_minute_87 : decode cX11_minute 87 = .ok (.bipush 20, 2) := by decide +kernel
theorem dX11_minute_89 : decode cX11_minute 89 = .ok (.iload_n 1, 1) := by decide +kernel
theorem dX11_minute_90 : decode cX11_minute 90 = .ok (.iadd, 1) := by decide +kernel
theorem dX11_minute_91 : decode cX11_minute 91 = .ok (.iload 8, 2) := by decide +kernel
theorem dX11_minute_93 : decode cX11_minute 93 = .ok (.iastore, 1) := by decide +kernel
theorem dX11_minute_94 : decode cX11_minute 94 = .ok (.aload_n 0, 1) := by decide +kernel
theorem dX11_minute_95 : decode cX11_minute 95 = .ok (.getfield 56, 3) := by decide +kernel
theorem dX11_minute_98 : decode cX11_minute 98 = .ok (.invokevirtual 146, 3) := by decide +kernel
theorem dX11_minute_101 : decode cX11_minute 101 = .ok (.iload 5, 2) := by decide +kernel
theorem dX11_minute_103 : decode cX11_minute 103 = .ok (.iconst (-1), 1) := by decide +kernel
theorem dX11_minute_104 : decode cX11_minute 104 = .ok (.if_icmp .eq 39, 3) := by decide +kernel
theorem dX11_minute_107 : decode cX11_minute 107 = .ok (.aload_n 0, 1) := by decide +kernel
theorem dX11_minute_108 : decode cX11_minute 108 = .ok (.getfield 56, 3) := by decide +kernel
theorem dX11_minute_111 : decode cX11_minute 111 = .ok (.getfield 154, 3) := by decide +kernel
theorem dX11_minute_114 : decode cX11_minute 114 = .ok (.iload 6, 2) := by decide +kernel
theorem dX11_minute_116 : decode cX11_minute 116 = .ok (.if_icmp .lt 27, 3) := by decide +kernel
theorem dX11_minute_119 : decode cX11_minute 119 = .ok (.aload_n 0, 1) := by decide +kernel
theorem dX11_minute_120 : decode cX11_minute 120 = .ok (.getfield 56, 3) := by decide +kernel
theorem dX11_minute_123 : decode cX11_minute 123 = .ok (.getfield 154, 3) := by decide +kernel
theorem dX11_minute_126 : decode cX11_minute 126 = .ok (.iload 6, 2) := by decide +kernel
theorem dX11_minute_128 : decode cX11_minute 128 = .ok (.if_icmp .ne 37, 3) := by decide +kernel
theorem dX11_minute_131 : decode cX11_minute 131 = .ok (.aload_n 0, 1) := by decide +kernel
theorem dX11_minute_132 : decode cX11_minute 132 = .ok (.getfield 56, 3) := by decide +kernel
theorem dX11_minute_135 : decode cX11_minute 135 = .ok (.getfield 200, 3) := by decide +kernel
theorem dX11_minute_138 : decode cX11_minute 138 = .ok (.iload 7, 2) := by decide +kernel
theorem dX11_minute_140 : decode cX11_minute 140 = .ok (.if_icmp .ge 25, 3) := by decide +kernel
theorem dX11_minute_143 : decode cX11_minute 143 = .ok (.iload 8, 2) := by decide +kernel
theorem dX11_minute_145 : decode cX11_minute 145 = .ok (.istore 5, 2) := by decide +kernel
theorem dX11_minute_147 : decode cX11_minute 147 = .ok (.aload_n 0, 1) := by decide +kernel
theorem dX11_minute_148 : decode cX11_minute 148 = .ok (.getfield 56, 3) := by decide +kernel
theorem dX11_minute_151 : decode cX11_minute 151 = .ok (.getfield 154, 3) := by decide +kernel
theorem dX11_minute_154 : decode cX11_minute 154 = .ok (.istore 6, 2) := by decide +kernel
theorem dX11_minute_156 : decode cX11_minute 156 = .ok (.aload_n 0, 1) := by decide +kernel
theorem dX11_minute_157 : decode cX11_minute 157 = .ok (.getfield 56, 3) := by decide +kernel
theorem dX11_minute_160 : decode cX11_minute 160 = .ok (.getfield 200, 3) := by decide +kernel
theorem dX11_minute_163 : decode cX11_minute 163 = .ok (.istore 7, 2) := by decide +kernel
theorem dX11_minute_165 : decode cX11_minute 165 = .ok (.iinc 8 1, 3) := by decide +kernel
theorem dX11_minute_168 : decode cX11_minute 168 = .ok (.goto (-102), 3) := by decide +kernel
theorem dX11_minute_171 : decode cX11_minute 171 = .ok (.iload_n 2, 1) := by decide +kernel
theorem dX11_minute_172 : decode cX11_minute 172 = .ok (.ifCond .ne 6, 3) := by decide +kernel
theorem dX11_minute_175 : decode cX11_minute 175 = .ok (.iload 5, 2) := by decide +kernel
theorem dX11_minute_177 : decode cX11_minute 177 = .ok (.ireturn, 1) := by decide +kernel
theorem dX11_minute_178 : decode cX11_minute 178 = .ok (.iload_n 2, 1) := by decide +kernel
theorem dX11_minute_179 : decode cX11_minute 179 = .ok (.iconst 1, 1) := by decide +kernel
theorem dX11_minute_180 : decode cX11_minute 180 = .ok (.if_icmp .ne 8, 3) := by decide +kernel
theorem dX11_minute_183 : decode cX11_minute 183 = .ok (.iload 6, 2) := by decide +kernel
theorem dX11_minute_185 : decode cX11_minute 185 = .ok (.goto 5, 3) := by decide +kernel
theorem dX11_minute_188 : decode cX11_minute 188 = .ok (.iload 7, 2) := by decide +kernel
theorem dX11_minute_190 : decode cX11_minute 190 = .ok (.ireturn, 1) := by decide +kernel
theorem dX11_leave_0 : decode cX11_leave 0 = .ok (.aload_n 0, 1) := by decide +kernel
theorem dX11_leave_1 : decode cX11_leave 1 = .ok (.getfield 45, 3) := by decide +kernel
theorem dX11_leave_4 : decode cX11_leave 4 = .ok (.getfield 86, 3) := by decide +kernel
theorem dX11_leave_7 : decode cX11_leave 7 = .ok (.getfield 136, 3) := by decide +kernel
theorem dX11_leave_10 : decode cX11_leave 10 = .ok (.ifCond .eq 12, 3) := by decide +kernel
theorem dX11_leave_13 : decode cX11_leave 13 = .ok (.iload_n 1, 1) := by decide +kernel
theorem dX11_leave_14 : decode cX11_leave 14 = .ok (.ifCond .lt 8, 3) := by decide +kernel
theorem dX11_leave_17 : decode cX11_leave 17 = .ok (.iload_n 1, 1) := by decide +kernel
theorem dX11_leave_18 : decode cX11_leave 18 = .ok (.iconst 1, 1) := by decide +kernel
theorem dX11_leave_19 : decode cX11_leave 19 = .ok (.if_icmp .le 5, 3) := by decide +kernel
theorem dX11_leave_22 : decode cX11_leave 22 = .ok (.iconst (-1), 1) := by decide +kernel
theorem dX11_leave_23 : decode cX11_leave 23 = .ok (.ireturn, 1) := by decide +kernel
theorem dX11_leave_24 : decode cX11_leave 24 = .ok (.bipush (-2), 2) := by decide +kernel
theorem dX11_leave_26 : decode cX11_leave 26 = .ok (.istore_n 2, 1) := by decide +kernel
theorem dX11_leave_27 : decode cX11_leave 27 = .ok (.bipush (-2), 2) := by decide +kernel
theorem dX11_leave_29 : decode cX11_leave 29 = .ok (.istore_n 3, 1) := by decide +kernel
theorem dX11_leave_30 : decode cX11_leave 30 = .ok (.iconst 0, 1) := by decide +kernel
theorem dX11_leave_31 : decode cX11_leave 31 = .ok (.istore 4, 2) := by decide +kernel
theorem dX11_leave_33 : decode cX11_leave 33 = .ok (.iload 4, 2) := by decide +kernel
theorem dX11_leave_35 : decode cX11_leave 35 = .ok (.aload_n 0, 1) := by decide +kernel
theorem dX11_leave_36 : decode cX11_leave 36 = .ok (.getfield 45, 3) := by decide +kernel
theorem dX11_leave_39 : decode cX11_leave 39 = .ok (.getfield 86, 3) := by decide +kernel
theorem dX11_leave_42 : decode cX11_leave 42 = .ok (.getfield 87, 3) := by decide +kernel
theorem dX11_leave_45 : decode cX11_leave 45 = .ok (.if_icmp .ge 57, 3) := by decide +kernel
theorem dX11_leave_48 : decode cX11_leave 48 = .ok (.aload_n 0, 1) := by decide +kernel
theorem dX11_leave_49 : decode cX11_leave 49 = .ok (.invokevirtual 143, 3) := by decide +kernel
theorem dX11_leave_52 : decode cX11_leave 52 = .ok (.aload_n 0, 1) := by decide +kernel
theorem dX11_leave_53 : decode cX11_leave 53 = .ok (.getfield 56, 3) := by decide +kernel
theorem dX11_leave_56 : decode cX11_leave 56 = .ok (.iload 4, 2) := by decide +kernel
theorem dX11_leave_58 : decode cX11_leave 58 = .ok (.putfield 203, 3) := by decide +kernel
theorem dX11_leave_61 : decode cX11_leave 61 = .ok (.aload_n 0, 1) := by decide +kernel
theorem dX11_leave_62 : decode cX11_leave 62 = .ok (.getfield 56, 3) := by decide +kernel
theorem dX11_leave_65 : decode cX11_leave 65 = .ok (.invokevirtual 146, 3) := by decide +kernel
theorem dX11_leave_68 : decode cX11_leave 68 = .ok (.iload_n 2, 1) := by decide +kernel
theorem dX11_leave_69 : decode cX11_leave 69 = .ok (.bipush (-2), 2) := by decide +kernel
theorem dX11_leave_71 : decode cX11_leave 71 = .ok (.if_icmp .eq 14, 3) := by decide +kernel
theorem dX11_leave_74 : decode cX11_leave 74 = .ok (.aload_n 0, 1) := by decide +kernel
theorem dX11_leave_75 : decode cX11_leave 75 = .ok (.getfield 56, 3) := by decide +kernel
theorem dX11_leave_78 : decode cX11_leave 78 = .ok (.getfield 200, 3) := by decide +kernel
theorem dX11_leave_81 : decode cX11_leave 81 = .ok (.iload_n 3, 1) := by decide +kernel
theorem dX11_leave_82 : decode cX11_leave 82 = .ok (.if_icmp .ge 14, 3) := by decide +kernel
theorem dX11_leave_85 : decode cX11_leave 85 = .ok (.iload 4, 2) := by decide +kernel
theorem dX11_leave_87 : decode cX11_leave 87 = .ok (.istore_n 2, 1) := by decide +kernel
theorem dX11_leave_88 : decode cX11_leave 88 = .ok (.aload_n 0, 1) := by decide +kernel
theorem dX11_leave_89 : decode cX11_leave 89 = .ok (.getfield 56, 3) := by decide +kernel
theorem dX11_leave_92 : decode cX11_leave 92 = .ok (.getfield 200, 3) := by decide +kernel
theorem dX11_leave_95 : decode cX11_leave 95 = .ok (.istore_n 3, 1) := by decide +kernel
theorem dX11_leave_96 : decode cX11_leave 96 = .ok (.iinc 4 1, 3) := by decide +kernel
theorem dX11_leave_99 : decode cX11_leave 99 = .ok (.goto (-66), 3) := by decide +kernel
theorem dX11_leave_102 : decode cX11_leave 102 = .ok (.iload_n 1, 1) := by decide +kernel
theorem dX11_leave_103 : decode cX11_leave 103 = .ok (.ifCond .ne 7, 3) := by decide +kernel
theorem dX11_leave_106 : decode cX11_leave 106 = .ok (.iload_n 2, 1) := by decide +kernel
theorem dX11_leave_107 : decode cX11_leave 107 = .ok (.goto 4, 3) := by decide +kernel
theorem dX11_leave_110 : decode cX11_leave 110 = .ok (.iload_n 3, 1) := by decide +kernel
theorem dX11_leave_111 : decode cX11_leave 111 = .ok (.ireturn, 1) := by decide +kernel
theorem dX11_rests_0 : decode cX11_rests 0 = .ok (.aload_n 0, 1) := by decide +kernel
theorem dX11_rests_1 : decode cX11_rests 1 = .ok (.iload_n 1, 1) := by decide +kernel
theorem dX11_rests_2 : decode cX11_rests 2 = .ok (.invokevirtual 124, 3) := by decide +kernel
theorem dX11_rests_5 : decode cX11_rests 5 = .ok (.ifCond .eq 12, 3) := by decide +kernel
theorem dX11_rests_8 : decode cX11_rests 8 = .ok (.iload_n 2, 1) := by decide +kernel
theorem dX11_rests_9 : decode cX11_rests 9 = .ok (.ifCond .lt 8, 3) := by decide +kernel
theorem dX11_rests_12 : decode cX11_rests 12 = .ok (.iload_n 2, 1) := by decide +kernel
theorem dX11_rests_13 : decode cX11_rests 13 = .ok (.iconst 2, 1) := by decide +kernel
theorem dX11_rests_14 : decode cX11_rests 14 = .ok (.if_icmp .le 5, 3) := by decide +kernel
theorem dX11_rests_17 : decode cX11_rests 17 = .ok (.iconst (-1), 1) := by decide +kernel
theorem dX11_rests_18 : decode cX11_rests 18 = .ok (.ireturn, 1) := by decide +kernel
theorem dX11_rests_19 : decode cX11_rests 19 = .ok (.iconst 0, 1) := by decide +kernel
theorem dX11_rests_20 : decode cX11_rests 20 = .ok (.istore_n 3, 1) := by decide +kernel
theorem dX11_rests_21 : decode cX11_rests 21 = .ok (.iload_n 3, 1) := by decide +kernel
theorem dX11_rests_22 : decode cX11_rests 22 = .ok (.bipush 49, 2) := by decide +kernel
theorem dX11_rests_24 : decode cX11_rests 24 = .ok (.if_icmp .ge 70, 3) := by decide +kernel
theorem dX11_rests_27 : decode cX11_rests 27 = .ok (.aload_n 0, 1) := by decide +kernel
theorem dX11_rests_28 : decode cX11_rests 28 = .ok (.invokevirtual 143, 3) := by decide +kernel
theorem dX11_rests_31 : decode cX11_rests 31 = .ok (.aload_n 0, 1) := by decide +kernel
theorem dX11_rests_32 : decode cX11_rests 32 = .ok (.getfield 56, 3) := by decide +kernel
theorem dX11_rests_35 : decode cX11_rests 35 = .ok (.iload_n 1, 1) := by decide +kernel
theorem dX11_rests_36 : decode cX11_rests 36 = .ok (.iload_n 3, 1) := by decide +kernel
theorem dX11_rests_37 : decode cX11_rests 37 = .ok (.invokestatic 206, 3) := by decide +kernel
theorem dX11_rests_40 : decode cX11_rests 40 = .ok (.iload_n 3, 1) := by decide +kernel
theorem dX11_rests_41 : decode cX11_rests 41 = .ok (.invokestatic 209, 3) := by decide +kernel
theorem dX11_rests_44 : decode cX11_rests 44 = .ok (.invokevirtual 212, 3) := by decide +kernel
theorem dX11_rests_47 : decode cX11_rests 47 = .ok (.aload_n 0, 1) := by decide +kernel
theorem dX11_rests_48 : decode cX11_rests 48 = .ok (.getfield 56, 3) := by decide +kernel
theorem dX11_rests_51 : decode cX11_rests 51 = .ok (.invokevirtual 146, 3) := by decide +kernel
theorem dX11_rests_54 : decode cX11_rests 54 = .ok (.aload_n 0, 1) := by decide +kernel
theorem dX11_rests_55 : decode cX11_rests 55 = .ok (.getfield 56, 3) := by decide +kernel
theorem dX11_rests_58 : decode cX11_rests 58 = .ok (.getfield 170, 3) := by decide +kernel
theorem dX11_rests_61 : decode cX11_rests 61 = .ok (.getfield 216, 3) := by decide +kernel
theorem dX11_rests_64 : decode cX11_rests 64 = .ok (.astore 4, 2) := by decide +kernel
theorem dX11_rests_66 : decode cX11_rests 66 = .ok (.aload_n 0, 1) := by decide +kernel
theorem dX11_rests_67 : decode cX11_rests 67 = .ok (.getfield 63, 3) := by decide +kernel
theorem dX11_rests_70 : decode cX11_rests 70 = .ok (.iload_n 3, 1) := by decide +kernel
theorem dX11_rests_71 : decode cX11_rests 71 = .ok (.aload 4, 2) := by decide +kernel
theorem dX11_rests_73 : decode cX11_rests 73 = .ok (.iconst 2, 1) := by decide +kernel
theorem dX11_rests_74 : decode cX11_rests 74 = .ok (.iload_n 1, 1) := by decide +kernel
theorem dX11_rests_75 : decode cX11_rests 75 = .ok (.imul, 1) := by decide +kernel
theorem dX11_rests_76 : decode cX11_rests 76 = .ok (.iaload, 1) := by decide +kernel
theorem dX11_rests_77 : decode cX11_rests 77 = .ok (.aload 4, 2) := by decide +kernel
theorem dX11_rests_79 : decode cX11_rests 79 = .ok (.iconst 2, 1) := by decide +kernel
theorem dX11_rests_80 : decode cX11_rests 80 = .ok (.iload_n 1, 1) := by decide +kernel
theorem dX11_rests_81 : decode cX11_rests 81 = .ok (.imul, 1) := by decide +kernel
theorem dX11_rests_82 : decode cX11_rests 82 = .ok (.iconst 1, 1) := by decide +kernel
theorem dX11_rests_83 : decode cX11_rests 83 = .ok (.iadd, 1) := by decide +kernel
theorem dX11_rests_84 : decode cX11_rests 84 = .ok (.iaload, 1) := by decide +kernel
theorem dX11_rests_85 : decode cX11_rests 85 = .ok (.invokevirtual 219, 3) := by decide +kernel
theorem dX11_rests_88 : decode cX11_rests 88 = .ok (.iinc 3 1, 3) := by decide +kernel
theorem dX11_rests_91 : decode cX11_rests 91 = .ok (.goto (-70), 3) := by decide +kernel
theorem dX11_rests_94 : decode cX11_rests 94 = .ok (.iconst 0, 1) := by decide +kernel
theorem dX11_rests_95 : decode cX11_rests 95 = .ok (.istore_n 3, 1) := by decide +kernel
theorem dX11_rests_96 : decode cX11_rests 96 = .ok (.iconst (-1), 1) := by decide +kernel
theorem dX11_rests_97 : decode cX11_rests 97 = .ok (.istore 4, 2) := by decide +kernel
theorem dX11_rests_99 : decode cX11_rests 99 = .ok (.iconst 0, 1) := by decide +kernel
theorem dX11_rests_100 : decode cX11_rests 100 = .ok (.istore 5, 2) := by decide +kernel
theorem dX11_rests_102 : decode cX11_rests 102 = .ok (.iload 5, 2) := by decide +kernel
theorem dX11_rests_104 : decode cX11_rests 104 = .ok (.bipush 49, 2) := by decide +kernel
theorem dX11_rests_106 : decode cX11_rests 106 = .ok (.if_icmp .ge 39, 3) := by decide +kernel
theorem dX11_rests_109 : decode cX11_rests 109 = .ok (.aload_n 0, 1) := by decide +kernel
theorem dX11_rests_110 : decode cX11_rests 110 = .ok (.getfield 63, 3) := by decide +kernel
theorem dX11_rests_113 : decode cX11_rests 113 = .ok (.iload 5, 2) := by decide +kernel
theorem dX11_rests_115 : decode cX11_rests 115 = .ok (.invokevirtual 222, 3) := by decide +kernel
theorem dX11_rests_118 : decode cX11_rests 118 = .ok (.ifCond .eq 21, 3) := by decide +kernel
theorem dX11_rests_121 : decode cX11_rests 121 = .ok (.iinc 3 1, 3) := by decide +kernel
theorem dX11_rests_124 : decode cX11_rests 124 = .ok (.iload 4, 2) := by decide +kernel
theorem dX11_rests_126 : decode cX11_rests 126 = .ok (.iconst (-1), 1) := by decide +kernel
theorem dX11_rests_127 : decode cX11_rests 127 = .ok (.if_icmp .ne 8, 3) := by decide +kernel
theorem dX11_rests_130 : decode cX11_rests 130 = .ok (.iload 5, 2) := by decide +kernel
theorem dX11_rests_132 : decode cX11_rests 132 = .ok (.goto 5, 3) := by decide +kernel
theorem dX11_rests_135 : decode cX11_rests 135 = .ok (.iload 4, 2) := by decide +kernel
theorem dX11_rests_137 : decode cX11_rests 137 = .ok (.istore 4, 2) := by decide +kernel
theorem dX11_rests_139 : decode cX11_rests 139 = .ok (.iinc 5 1, 3) := by decide +kernel
theorem dX11_rests_142 : decode cX11_rests 142 = .ok (.goto (-40), 3) := by decide +kernel
theorem dX11_rests_145 : decode cX11_rests 145 = .ok (.iload_n 2, 1) := by decide +kernel
theorem dX11_rests_146 : decode cX11_rests 146 = .ok (.ifCond .ne 5, 3) := by decide +kernel
theorem dX11_rests_149 : decode cX11_rests 149 = .ok (.iload_n 3, 1) := by decide +kernel
theorem dX11_rests_150 : decode cX11_rests 150 = .ok (.ireturn, 1) := by decide +kernel
theorem dX11_rests_151 : decode cX11_rests 151 = .ok (.iload 4, 2) := by decide +kernel
theorem dX11_rests_153 : decode cX11_rests 153 = .ok (.iconst (-1), 1) := by decide +kernel
theorem dX11_rests_154 : decode cX11_rests 154 = .ok (.if_icmp .ne 6, 3) := by decide +kernel
theorem dX11_rests_157 : decode cX11_rests 157 = .ok (.bipush (-2), 2) := by decide +kernel
theorem dX11_rests_159 : decode cX11_rests 159 = .ok (.ireturn, 1) := by decide +kernel
theorem dX11_rests_160 : decode cX11_rests 160 = .ok (.iload_n 2, 1) := by decide +kernel
theorem dX11_rests_161 : decode cX11_rests 161 = .ok (.iconst 1, 1) := by decide +kernel
theorem dX11_rests_162 : decode cX11_rests 162 = .ok (.if_icmp .ne 11, 3) := by decide +kernel
theorem dX11_rests_165 : decode cX11_rests 165 = .ok (.iload 4, 2) := by decide +kernel
theorem dX11_rests_167 : decode cX11_rests 167 = .ok (.invokestatic 206, 3) := by decide +kernel
theorem dX11_rests_170 : decode cX11_rests 170 = .ok (.goto 8, 3) := by decide +kernel
theorem dX11_rests_173 : decode cX11_rests 173 = .ok (.iload 4, 2) := by decide +kernel
theorem dX11_rests_175 : decode cX11_rests 175 = .ok (.invokestatic 209, 3) := by decide +kernel
theorem dX11_rests_178 : decode cX11_rests 178 = .ok (.ireturn, 1) := by decide +kernel
theorem dX11_again_0 : decode cX11_again 0 = .ok (.aload_n 0, 1) := by decide +kernel
theorem dX11_again_1 : decode cX11_again 1 = .ok (.getfield 45, 3) := by decide +kernel
theorem dX11_again_4 : decode cX11_again 4 = .ok (.getfield 86, 3) := by decide +kernel
theorem dX11_again_7 : decode cX11_again 7 = .ok (.getfield 136, 3) := by decide +kernel
theorem dX11_again_10 : decode cX11_again 10 = .ok (.ifCond .eq 12, 3) := by decide +kernel
theorem dX11_again_13 : decode cX11_again 13 = .ok (.iload_n 1, 1) := by decide +kernel
theorem dX11_again_14 : decode cX11_again 14 = .ok (.ifCond .lt 8, 3) := by decide +kernel
theorem dX11_again_17 : decode cX11_again 17 = .ok (.iload_n 1, 1) := by decide +kernel
theorem dX11_again_18 : decode cX11_again 18 = .ok (.iconst 1, 1) := by decide +kernel
theorem dX11_again_19 : decode cX11_again 19 = .ok (.if_icmp .le 5, 3) := by decide +kernel
theorem dX11_again_22 : decode cX11_again 22 = .ok (.iconst (-1), 1) := by decide +kernel
theorem dX11_again_23 : decode cX11_again 23 = .ok (.ireturn, 1) := by decide +kernel
theorem dX11_again_24 : decode cX11_again 24 = .ok (.aload_n 0, 1) := by decide +kernel
theorem dX11_again_25 : decode cX11_again 25 = .ok (.invokevirtual 143, 3) := by decide +kernel
theorem dX11_again_28 : decode cX11_again 28 = .ok (.aload_n 0, 1) := by decide +kernel
theorem dX11_again_29 : decode cX11_again 29 = .ok (.getfield 63, 3) := by decide +kernel
theorem dX11_again_32 : decode cX11_again 32 = .ok (.iconst 0, 1) := by decide +kernel
theorem dX11_again_33 : decode cX11_again 33 = .ok (.aload_n 0, 1) := by decide +kernel
theorem dX11_again_34 : decode cX11_again 34 = .ok (.getfield 56, 3) := by decide +kernel
theorem dX11_again_37 : decode cX11_again 37 = .ok (.getfield 149, 3) := by decide +kernel
theorem dX11_again_40 : decode cX11_again 40 = .ok (.invokevirtual 225, 3) := by decide +kernel
theorem dX11_again_43 : decode cX11_again 43 = .ok (.iconst 1, 1) := by decide +kernel
theorem dX11_again_44 : decode cX11_again 44 = .ok (.istore_n 2, 1) := by decide +kernel
theorem dX11_again_45 : decode cX11_again 45 = .ok (.iload_n 2, 1) := by decide +kernel
theorem dX11_again_46 : decode cX11_again 46 = .ok (.bipush 100, 2) := by decide +kernel
theorem dX11_again_48 : decode cX11_again 48 = .ok (.if_icmp .ge 71, 3) := by decide +kernel
theorem dX11_again_51 : decode cX11_again 51 = .ok (.aload_n 0, 1) := by decide +kernel
theorem dX11_again_52 : decode cX11_again 52 = .ok (.getfield 56, 3) := by decide +kernel
theorem dX11_again_55 : decode cX11_again 55 = .ok (.invokevirtual 146, 3) := by decide +kernel
theorem dX11_again_58 : decode cX11_again 58 = .ok (.aload_n 0, 1) := by decide +kernel
theorem dX11_again_59 : decode cX11_again 59 = .ok (.getfield 63, 3) := by decide +kernel
theorem dX11_again_62 : decode cX11_again 62 = .ok (.iload_n 2, 1) := by decide +kernel
theorem dX11_again_63 : decode cX11_again 63 = .ok (.aload_n 0, 1) := by decide +kernel
theorem dX11_again_64 : decode cX11_again 64 = .ok (.getfield 56, 3) := by decide +kernel
theorem dX11_again_67 : decode cX11_again 67 = .ok (.getfield 149, 3) := by decide +kernel
theorem dX11_again_70 : decode cX11_again 70 = .ok (.invokevirtual 225, 3) := by decide +kernel
theorem dX11_again_73 : decode cX11_again 73 = .ok (.aload_n 0, 1) := by decide +kernel
theorem dX11_again_74 : decode cX11_again 74 = .ok (.getfield 63, 3) := by decide +kernel
theorem dX11_again_77 : decode cX11_again 77 = .ok (.iload_n 2, 1) := by decide +kernel
theorem dX11_again_78 : decode cX11_again 78 = .ok (.invokevirtual 229, 3) := by decide +kernel
theorem dX11_again_81 : decode cX11_again 81 = .ok (.istore_n 3, 1) := by decide +kernel
theorem dX11_again_82 : decode cX11_again 82 = .ok (.iload_n 3, 1) := by decide +kernel
theorem dX11_again_83 : decode cX11_again 83 = .ok (.iconst (-1), 1) := by decide +kernel
theorem dX11_again_84 : decode cX11_again 84 = .ok (.if_icmp .eq 29, 3) := by decide +kernel
theorem dX11_again_87 : decode cX11_again 87 = .ok (.iload_n 1, 1) := by decide +kernel
theorem dX11_again_88 : decode cX11_again 88 = .ok (.ifCond .ne 21, 3) := by decide +kernel
theorem dX11_again_91 : decode cX11_again 91 = .ok (.aload_n 0, 1) := by decide +kernel
theorem dX11_again_92 : decode cX11_again 92 = .ok (.getfield 45, 3) := by decide +kernel
theorem dX11_again_95 : decode cX11_again 95 = .ok (.getfield 104, 3) := by decide +kernel
theorem dX11_again_98 : decode cX11_again 98 = .ok (.getfield 108, 3) := by decide +kernel
theorem dX11_again_101 : decode cX11_again 101 = .ok (.bipush 45, 2) := by decide +kernel
theorem dX11_again_103 : decode cX11_again 103 = .ok (.iaload, 1) := by decide +kernel
theorem dX11_again_104 : decode cX11_again 104 = .ok (.iload_n 2, 1) := by decide +kernel
theorem dX11_again_105 : decode cX11_again 105 = .ok (.iadd, 1) := by decide +kernel
theorem dX11_again_106 : decode cX11_again 106 = .ok (.goto 6, 3) := by decide +kernel
theorem dX11_again_109 : decode cX11_again 109 = .ok (.iload_n 2, 1) := by decide +kernel
theorem dX11_again_110 : decode cX11_again 110 = .ok (.iload_n 3, 1) := by decide +kernel
theorem dX11_again_111 : decode cX11_again 111 = .ok (.isub, 1) := by decide +kernel
theorem dX11_again_112 : decode cX11_again 112 = .ok (.ireturn, 1) := by decide +kernel
theorem dX11_again_113 : decode cX11_again 113 = .ok (.iinc 2 1, 3) := by decide +kernel
theorem dX11_again_116 : decode cX11_again 116 = .ok (.goto (-71), 3) := by decide +kernel
theorem dX11_again_119 : decode cX11_again 119 = .ok (.bipush (-2), 2) := by decide +kernel
theorem dX11_again_121 : decode cX11_again 121 = .ok (.ireturn, 1) := by decide +kernel
theorem dX11_law_0 : decode cX11_law 0 = .ok (.aload_n 0, 1) := by decide +kernel
theorem dX11_law_1 : decode cX11_law 1 = .ok (.iload_n 1, 1) := by decide +kernel
theorem dX11_law_2 : decode cX11_law 2 = .ok (.invokevirtual 232, 3) := by decide +kernel
theorem dX11_law_5 : decode cX11_law 5 = .ok (.ifCond .eq 12, 3) := by decide +kernel
theorem dX11_law_8 : decode cX11_law 8 = .ok (.iload_n 2, 1) := by decide +kernel
theorem dX11_law_9 : decode cX11_law 9 = .ok (.ifCond .lt 8, 3) := by decide +kernel
theorem dX11_law_12 : decode cX11_law 12 = .ok (.iload_n 2, 1) := by decide +kernel
theorem dX11_law_13 : decode cX11_law 13 = .ok (.iconst 2, 1) := by decide +kernel
theorem dX11_law_14 : decode cX11_law 14 = .ok (.if_icmp .le 5, 3) := by decide +kernel
theorem dX11_law_17 : decode cX11_law 17 = .ok (.iconst (-1), 1) := by decide +kernel
theorem dX11_law_18 : decode cX11_law 18 = .ok (.ireturn, 1) := by decide +kernel
theorem dX11_law_19 : decode cX11_law 19 = .ok (.iconst (-1), 1) := by decide +kernel
theorem dX11_law_20 : decode cX11_law 20 = .ok (.istore_n 3, 1) := by decide +kernel
theorem dX11_law_21 : decode cX11_law 21 = .ok (.iconst (-1), 1) := by decide +kernel
theorem dX11_law_22 : decode cX11_law 22 = .ok (.istore 4, 2) := by decide +kernel
theorem dX11_law_24 : decode cX11_law 24 = .ok (.iconst 0, 1) := by decide +kernel
theorem dX11_law_25 : decode cX11_law 25 = .ok (.istore 5, 2) := by decide +kernel
theorem dX11_law_27 : decode cX11_law 27 = .ok (.iconst 0, 1) := by decide +kernel
theorem dX11_law_28 : decode cX11_law 28 = .ok (.istore 6, 2) := by decide +kernel
theorem dX11_law_30 : decode cX11_law 30 = .ok (.iload 6, 2) := by decide +kernel
theorem dX11_law_32 : decode cX11_law 32 = .ok (.bipush 50, 2) := by decide +kernel
theorem dX11_law_34 : decode cX11_law 34 = .ok (.if_icmp .gt 94, 3) := by decide +kernel
theorem dX11_law_37 : decode cX11_law 37 = .ok (.bipush 10, 2) := by decide +kernel
theorem dX11_law_39 : decode cX11_law 39 = .ok (.iload 6, 2) := by decide +kernel
theorem dX11_law_41 : decode cX11_law 41 = .ok (.invokestatic 197, 3) := by decide +kernel
theorem dX11_law_44 : decode cX11_law 44 = .ok (.istore 7, 2) := by decide +kernel
theorem dX11_law_46 : decode cX11_law 46 = .ok (.iload 7, 2) := by decide +kernel
theorem dX11_law_48 : decode cX11_law 48 = .ok (.bipush 60, 2) := by decide +kernel
theorem dX11_law_50 : decode cX11_law 50 = .ok (.if_icmp .gt 72, 3) := by decide +kernel
theorem dX11_law_53 : decode cX11_law 53 = .ok (.aload_n 0, 1) := by decide +kernel
theorem dX11_law_54 : decode cX11_law 54 = .ok (.invokevirtual 143, 3) := by decide +kernel
theorem dX11_law_57 : decode cX11_law 57 = .ok (.aload_n 0, 1) := by decide +kernel
theorem dX11_law_58 : decode cX11_law 58 = .ok (.getfield 56, 3) := by decide +kernel
theorem dX11_law_61 : decode cX11_law 61 = .ok (.iload 6, 2) := by decide +kernel
theorem dX11_law_63 : decode cX11_law 63 = .ok (.putfield 235, 3) := by decide +kernel
theorem dX11_law_66 : decode cX11_law 66 = .ok (.aload_n 0, 1) := by decide +kernel
theorem dX11_law_67 : decode cX11_law 67 = .ok (.getfield 56, 3) := by decide +kernel
theorem dX11_law_70 : decode cX11_law 70 = .ok (.iload 7, 2) := by decide +kernel
theorem dX11_law_72 : decode cX11_law 72 = .ok (.putfield 238, 3) := by decide +kernel
theorem dX11_law_75 : decode cX11_law 75 = .ok (.aload_n 0, 1) := by decide +kernel
theorem dX11_law_76 : decode cX11_law 76 = .ok (.getfield 56, 3) := by decide +kernel
theorem dX11_law_79 : decode cX11_law 79 = .ok (.iload_n 1, 1) := by decide +kernel
theorem dX11_law_80 : decode cX11_law 80 = .ok (.invokevirtual 167, 3) := by decide +kernel
theorem dX11_law_83 : decode cX11_law 83 = .ok (.iload_n 3, 1) := by decide +kernel
theorem dX11_law_84 : decode cX11_law 84 = .ok (.iconst (-1), 1) := by decide +kernel
theorem dX11_law_85 : decode cX11_law 85 = .ok (.if_icmp .eq 15, 3) := by decide +kernel
theorem dX11_law_88 : decode cX11_law 88 = .ok (.aload_n 0, 1) := by decide +kernel
theorem dX11_law_89 : decode cX11_law 89 = .ok (.getfield 56, 3) := by decide +kernel
theorem dX11_law_92 : decode cX11_law 92 = .ok (.getfield 200, 3) := by decide +kernel
theorem dX11_law_95 : decode cX11_law 95 = .ok (.iload 5, 2) := by decide +kernel
theorem dX11_law_97 : decode cX11_law 97 = .ok (.if_icmp .ge 19, 3) := by decide +kernel
theorem dX11_law_100 : decode cX11_law 100 = .ok (.iload 6, 2) := by decide +kernel
theorem dX11_law_102 : decode cX11_law 102 = .ok (.istore_n 3, 1) := by decide +kernel
theorem dX11_law_103 : decode cX11_law 103 = .ok (.iload 7, 2) := by decide +kernel
theorem dX11_law_105 : decode cX11_law 105 = .ok (.istore 4, 2) := by decide +kernel
theorem dX11_law_107 : decode cX11_law 107 = .ok (.aload_n 0, 1) := by decide +kernel
theorem dX11_law_108 : decode cX11_law 108 = .ok (.getfield 56, 3) := by decide +kernel
theorem dX11_law_111 : decode cX11_law 111 = .ok (.getfield 200, 3) := by decide +kernel
theorem dX11_law_114 : decode cX11_law 114 = .ok (.istore 5, 2) := by decide +kernel
theorem dX11_law_116 : decode cX11_law 116 = .ok (.iinc 7 10, 3) := by decide +kernel
theorem dX11_law_119 : decode cX11_law 119 = .ok (.goto (-73), 3) := by decide +kernel
theorem dX11_law_122 : decode cX11_law 122 = .ok (.iinc 6 10, 3) := by decide +kernel
theorem dX11_law_125 : decode cX11_law 125 = .ok (.goto (-95), 3) := by decide +kernel
theorem dX11_law_128 : decode cX11_law 128 = .ok (.iload_n 2, 1) := by decide +kernel
theorem dX11_law_129 : decode cX11_law 129 = .ok (.ifCond .ne 5, 3) := by decide +kernel
theorem dX11_law_132 : decode cX11_law 132 = .ok (.iload_n 3, 1) := by decide +kernel
theorem dX11_law_133 : decode cX11_law 133 = .ok (.ireturn, 1) := by decide +kernel
theorem dX11_law_134 : decode cX11_law 134 = .ok (.iload_n 2, 1) := by decide +kernel
theorem dX11_law_135 : decode cX11_law 135 = .ok (.iconst 1, 1) := by decide +kernel
theorem dX11_law_136 : decode cX11_law 136 = .ok (.if_icmp .ne 8, 3) := by decide +kernel
theorem dX11_law_139 : decode cX11_law 139 = .ok (.iload 4, 2) := by decide +kernel
theorem dX11_law_141 : decode cX11_law 141 = .ok (.goto 5, 3) := by decide +kernel
theorem dX11_law_144 : decode cX11_law 144 = .ok (.iload 5, 2) := by decide +kernel
theorem dX11_law_146 : decode cX11_law 146 = .ok (.ireturn, 1) := by decide +kernel
theorem dX11_log_0 : decode cX11_log 0 = .ok (.iload_n 1, 1) := by decide +kernel
theorem dX11_log_1 : decode cX11_log 1 = .ok (.iconst (-1), 1) := by decide +kernel
theorem dX11_log_2 : decode cX11_log 2 = .ok (.if_icmp .ne 13, 3) := by decide +kernel
theorem dX11_log_5 : decode cX11_log 5 = .ok (.aload_n 0, 1) := by decide +kernel
theorem dX11_log_6 : decode cX11_log 6 = .ok (.getfield 45, 3) := by decide +kernel
theorem dX11_log_9 : decode cX11_log 9 = .ok (.iconst 0, 1) := by decide +kernel
theorem dX11_log_10 : decode cX11_log 10 = .ok (.putfield 241, 3) := by decide +kernel
theorem dX11_log_13 : decode cX11_log 13 = .ok (.iconst 0, 1) := by decide +kernel
theorem dX11_log_14 : decode cX11_log 14 = .ok (.ireturn, 1) := by decide +kernel
theorem dX11_log_15 : decode cX11_log 15 = .ok (.iload_n 1, 1) := by decide +kernel
theorem dX11_log_16 : decode cX11_log 16 = .ok (.ifCond .lt 34, 3) := by decide +kernel
theorem dX11_log_19 : decode cX11_log 19 = .ok (.iload_n 1, 1) := by decide +kernel
theorem dX11_log_20 : decode cX11_log 20 = .ok (.bipush 30, 2) := by decide +kernel
theorem dX11_log_22 : decode cX11_log 22 = .ok (.if_icmp .gt 28, 3) := by decide +kernel
theorem dX11_log_25 : decode cX11_log 25 = .ok (.aload_n 0, 1) := by decide +kernel
theorem dX11_log_26 : decode cX11_log 26 = .ok (.iload_n 2, 1) := by decide +kernel
theorem dX11_log_27 : decode cX11_log 27 = .ok (.invokevirtual 100, 3) := by decide +kernel
theorem dX11_log_30 : decode cX11_log 30 = .ok (.ifCond .eq 20, 3) := by decide +kernel
theorem dX11_log_33 : decode cX11_log 33 = .ok (.iload_n 3, 1) := by decide +kernel
theorem dX11_log_34 : decode cX11_log 34 = .ok (.bipush (-100), 2) := by decide +kernel
theorem dX11_log_36 : decode cX11_log 36 = .ok (.if_icmp .lt 14, 3) := by decide +kernel
theorem dX11_log_39 : decode cX11_log 39 = .ok (.iload_n 3, 1) := by decide +kernel
theorem dX11_log_40 : decode cX11_log 40 = .ok (.sipush 1000, 3) := by decide +kernel
theorem dX11_log_43 : decode cX11_log 43 = .ok (.if_icmp .gt 7, 3) := by decide +kernel
theorem dX11_log_46 : decode cX11_log 46 = .ok (.iconst 1, 1) := by decide +kernel
theorem dX11_log_47 : decode cX11_log 47 = .ok (.goto 4, 3) := by decide +kernel
theorem dX11_log_50 : decode cX11_log 50 = .ok (.iconst 0, 1) := by decide +kernel
theorem dX11_log_51 : decode cX11_log 51 = .ok (.istore 4, 2) := by decide +kernel
theorem dX11_log_53 : decode cX11_log 53 = .ok (.iload 4, 2) := by decide +kernel
theorem dX11_log_55 : decode cX11_log 55 = .ok (.ifCond .eq 15, 3) := by decide +kernel
theorem dX11_log_58 : decode cX11_log 58 = .ok (.aload_n 0, 1) := by decide +kernel
theorem dX11_log_59 : decode cX11_log 59 = .ok (.getfield 45, 3) := by decide +kernel
theorem dX11_log_62 : decode cX11_log 62 = .ok (.getfield 241, 3) := by decide +kernel
theorem dX11_log_65 : decode cX11_log 65 = .ok (.bipush 10, 2) := by decide +kernel
theorem dX11_log_67 : decode cX11_log 67 = .ok (.if_icmp .lt 6, 3) := by decide +kernel
theorem dX11_log_70 : decode cX11_log 70 = .ok (.bipush (-2), 2) := by decide +kernel
theorem dX11_log_72 : decode cX11_log 72 = .ok (.ireturn, 1) := by decide +kernel
theorem dX11_log_73 : decode cX11_log 73 = .ok (.aload_n 0, 1) := by decide +kernel
theorem dX11_log_74 : decode cX11_log 74 = .ok (.getfield 45, 3) := by decide +kernel
theorem dX11_log_77 : decode cX11_log 77 = .ok (.iload_n 1, 1) := by decide +kernel
theorem dX11_log_78 : decode cX11_log 78 = .ok (.iload_n 2, 1) := by decide +kernel
theorem dX11_log_79 : decode cX11_log 79 = .ok (.iload_n 3, 1) := by decide +kernel
theorem dX11_log_80 : decode cX11_log 80 = .ok (.invokevirtual 244, 3) := by decide +kernel
theorem dX11_log_83 : decode cX11_log 83 = .ok (.aload_n 0, 1) := by decide +kernel
theorem dX11_log_84 : decode cX11_log 84 = .ok (.getfield 45, 3) := by decide +kernel
theorem dX11_log_87 : decode cX11_log 87 = .ok (.getfield 241, 3) := by decide +kernel
theorem dX11_log_90 : decode cX11_log 90 = .ok (.ireturn, 1) := by decide +kernel
theorem dX11_habit_0 : decode cX11_habit 0 = .ok (.aload_n 0, 1) := by decide +kernel
theorem dX11_habit_1 : decode cX11_habit 1 = .ok (.iload_n 1, 1) := by decide +kernel
theorem dX11_habit_2 : decode cX11_habit 2 = .ok (.invokevirtual 100, 3) := by decide +kernel
theorem dX11_habit_5 : decode cX11_habit 5 = .ok (.ifCond .eq 12, 3) := by decide +kernel
theorem dX11_habit_8 : decode cX11_habit 8 = .ok (.iload_n 2, 1) := by decide +kernel
theorem dX11_habit_9 : decode cX11_habit 9 = .ok (.ifCond .lt 8, 3) := by decide +kernel
theorem dX11_habit_12 : decode cX11_habit 12 = .ok (.iload_n 2, 1) := by decide +kernel
theorem dX11_habit_13 : decode cX11_habit 13 = .ok (.iconst 1, 1) := by decide +kernel
theorem dX11_habit_14 : decode cX11_habit 14 = .ok (.if_icmp .le 7, 3) := by decide +kernel
theorem dX11_habit_17 : decode cX11_habit 17 = .ok (.sipush (-1000), 3) := by decide +kernel
theorem dX11_habit_20 : decode cX11_habit 20 = .ok (.ireturn, 1) := by decide +kernel
theorem dX11_habit_21 : decode cX11_habit 21 = .ok (.aload_n 0, 1) := by decide +kernel
theorem dX11_habit_22 : decode cX11_habit 22 = .ok (.iload_n 1, 1) := by decide +kernel
theorem dX11_habit_23 : decode cX11_habit 23 = .ok (.invokevirtual 247, 3) := by decide +kernel
theorem dX11_habit_26 : decode cX11_habit 26 = .ok (.istore_n 3, 1) := by decide +kernel
theorem dX11_habit_27 : decode cX11_habit 27 = .ok (.iload_n 2, 1) := by decide +kernel
theorem dX11_habit_28 : decode cX11_habit 28 = .ok (.ifCond .ne 8, 3) := by decide +kernel
theorem dX11_habit_31 : decode cX11_habit 31 = .ok (.iload_n 3, 1) := by decide +kernel
theorem dX11_habit_32 : decode cX11_habit 32 = .ok (.invokestatic 250, 3) := by decide +kernel
theorem dX11_habit_35 : decode cX11_habit 35 = .ok (.ireturn, 1) := by decide +kernel
theorem dX11_habit_36 : decode cX11_habit 36 = .ok (.iconst 0, 1) := by decide +kernel
theorem dX11_habit_37 : decode cX11_habit 37 = .ok (.istore 4, 2) := by decide +kernel
theorem dX11_habit_39 : decode cX11_habit 39 = .ok (.iload 4, 2) := by decide +kernel
theorem dX11_habit_41 : decode cX11_habit 41 = .ok (.bipush 9, 2) := by decide +kernel
theorem dX11_habit_43 : decode cX11_habit 43 = .ok (.if_icmp .ge 25, 3) := by decide +kernel
theorem dX11_habit_46 : decode cX11_habit 46 = .ok (.iload_n 3, 1) := by decide +kernel
theorem dX11_habit_47 : decode cX11_habit 47 = .ok (.iload 4, 2) := by decide +kernel
theorem dX11_habit_49 : decode cX11_habit 49 = .ok (.ishr, 1) := by decide +kernel
theorem dX11_habit_50 : decode cX11_habit 50 = .ok (.iconst 1, 1) := by decide +kernel
theorem dX11_habit_51 : decode cX11_habit 51 = .ok (.iand, 1) := by decide +kernel
theorem dX11_habit_52 : decode cX11_habit 52 = .ok (.iconst 1, 1) := by decide +kernel
theorem dX11_habit_53 : decode cX11_habit 53 = .ok (.if_icmp .ne 9, 3) := by decide +kernel
theorem dX11_habit_56 : decode cX11_habit 56 = .ok (.iload 4, 2) := by decide +kernel
theorem dX11_habit_58 : decode cX11_habit 58 = .ok (.invokestatic 255, 3) := by decide +kernel
theorem dX11_habit_61 : decode cX11_habit 61 = .ok (.ireturn, 1) := by decide +kernel
theorem dX11_habit_62 : decode cX11_habit 62 = .ok (.iinc 4 1, 3) := by decide +kernel
theorem dX11_habit_65 : decode cX11_habit 65 = .ok (.goto (-26), 3) := by decide +kernel
theorem dX11_habit_68 : decode cX11_habit 68 = .ok (.bipush (-100), 2) := by decide +kernel
theorem dX11_habit_70 : decode cX11_habit 70 = .ok (.ireturn, 1) := by decide +kernel
theorem dX11_door_0 : decode cX11_door 0 = .ok (.aload_n 0, 1) := by decide +kernel
theorem dX11_door_1 : decode cX11_door 1 = .ok (.iload_n 1, 1) := by decide +kernel
theorem dX11_door_2 : decode cX11_door 2 = .ok (.invokevirtual 100, 3) := by decide +kernel
theorem dX11_door_5 : decode cX11_door 5 = .ok (.ifCond .eq 12, 3) := by decide +kernel
theorem dX11_door_8 : decode cX11_door 8 = .ok (.iload_n 2, 1) := by decide +kernel
theorem dX11_door_9 : decode cX11_door 9 = .ok (.ifCond .lt 8, 3) := by decide +kernel
theorem dX11_door_12 : decode cX11_door 12 = .ok (.iload_n 2, 1) := by decide +kernel
theorem dX11_door_13 : decode cX11_door 13 = .ok (.iconst 1, 1) := by decide +kernel
theorem dX11_door_14 : decode cX11_door 14 = .ok (.if_icmp .le 5, 3) := by decide +kernel
theorem dX11_door_17 : decode cX11_door 17 = .ok (.iconst (-1), 1) := by decide +kernel
theorem dX11_door_18 : decode cX11_door 18 = .ok (.ireturn, 1) := by decide +kernel
theorem dX11_door_19 : decode cX11_door 19 = .ok (.aload_n 0, 1) := by decide +kernel
theorem dX11_door_20 : decode cX11_door 20 = .ok (.iload_n 1, 1) := by decide +kernel
theorem dX11_door_21 : decode cX11_door 21 = .ok (.invokevirtual 247, 3) := by decide +kernel
theorem dX11_door_24 : decode cX11_door 24 = .ok (.istore_n 3, 1) := by decide +kernel
theorem dX11_door_25 : decode cX11_door 25 = .ok (.iload_n 3, 1) := by decide +kernel
theorem dX11_door_26 : decode cX11_door 26 = .ok (.ifCond .ne 6, 3) := by decide +kernel
theorem dX11_door_29 : decode cX11_door 29 = .ok (.bipush (-2), 2) := by decide +kernel
theorem dX11_door_31 : decode cX11_door 31 = .ok (.ireturn, 1) := by decide +kernel
theorem dX11_door_32 : decode cX11_door 32 = .ok (.iconst (-1), 1) := by decide +kernel
theorem dX11_door_33 : decode cX11_door 33 = .ok (.istore 4, 2) := by decide +kernel
theorem dX11_door_35 : decode cX11_door 35 = .ok (.iconst 0, 1) := by decide +kernel
theorem dX11_door_36 : decode cX11_door 36 = .ok (.istore 5, 2) := by decide +kernel
theorem dX11_door_38 : decode cX11_door 38 = .ok (.iconst 0, 1) := by decide +kernel
theorem dX11_door_39 : decode cX11_door 39 = .ok (.istore 6, 2) := by decide +kernel
theorem dX11_door_41 : decode cX11_door 41 = .ok (.iload 6, 2) := by decide +kernel
theorem dX11_door_43 : decode cX11_door 43 = .ok (.bipush 30, 2) := by decide +kernel
theorem dX11_door_45 : decode cX11_door 45 = .ok (.if_icmp .gt 42, 3) := by decide +kernel
theorem dX11_door_48 : decode cX11_door 48 = .ok (.aload_n 0, 1) := by decide +kernel
theorem dX11_door_49 : decode cX11_door 49 = .ok (.getfield 63, 3) := by decide +kernel
theorem dX11_door_52 : decode cX11_door 52 = .ok (.iload_n 3, 1) := by decide +kernel
theorem dX11_door_53 : decode cX11_door 53 = .ok (.iload 6, 2) := by decide +kernel
theorem dX11_door_55 : decode cX11_door 55 = .ok (.invokevirtual 258, 3) := by decide +kernel
theorem dX11_door_58 : decode cX11_door 58 = .ok (.istore 7, 2) := by decide +kernel
theorem dX11_door_60 : decode cX11_door 60 = .ok (.iload 4, 2) := by decide +kernel
theorem dX11_door_62 : decode cX11_door 62 = .ok (.iconst (-1), 1) := by decide +kernel
theorem dX11_door_63 : decode cX11_door 63 = .ok (.if_icmp .eq 10, 3) := by decide +kernel
theorem dX11_door_66 : decode cX11_door 66 = .ok (.iload 7, 2) := by decide +kernel
theorem dX11_door_68 : decode cX11_door 68 = .ok (.iload 5, 2) := by decide +kernel
theorem dX11_door_70 : decode cX11_door 70 = .ok (.if_icmp .ge 11, 3) := by decide +kernel
theorem dX11_door_73 : decode cX11_door 73 = .ok (.iload 6, 2) := by decide +kernel
theorem dX11_door_75 : decode cX11_door 75 = .ok (.istore 4, 2) := by decide +kernel
theorem dX11_door_77 : decode cX11_door 77 = .ok (.iload 7, 2) := by decide +kernel
theorem dX11_door_79 : decode cX11_door 79 = .ok (.istore 5, 2) := by decide +kernel
theorem dX11_door_81 : decode cX11_door 81 = .ok (.iinc 6 1, 3) := by decide +kernel
theorem dX11_door_84 : decode cX11_door 84 = .ok (.goto (-43), 3) := by decide +kernel
theorem dX11_door_87 : decode cX11_door 87 = .ok (.iload_n 2, 1) := by decide +kernel
theorem dX11_door_88 : decode cX11_door 88 = .ok (.ifCond .ne 8, 3) := by decide +kernel
theorem dX11_door_91 : decode cX11_door 91 = .ok (.iload 4, 2) := by decide +kernel
theorem dX11_door_93 : decode cX11_door 93 = .ok (.goto 5, 3) := by decide +kernel
theorem dX11_door_96 : decode cX11_door 96 = .ok (.iload 5, 2) := by decide +kernel
theorem dX11_door_98 : decode cX11_door 98 = .ok (.ireturn, 1) := by decide +kernel
theorem dX11_clocks_0 : decode cX11_clocks 0 = .ok (.aload_n 0, 1) := by decide +kernel
theorem dX11_clocks_1 : decode cX11_clocks 1 = .ok (.iload_n 1, 1) := by decide +kernel
theorem dX11_clocks_2 : decode cX11_clocks 2 = .ok (.invokevirtual 232, 3) := by decide +kernel
theorem dX11_clocks_5 : decode cX11_clocks 5 = .ok (.ifCond .eq 12, 3) := by decide +kernel
theorem dX11_clocks_8 : decode cX11_clocks 8 = .ok (.iload_n 2, 1) := by decide +kernel
theorem dX11_clocks_9 : decode cX11_clocks 9 = .ok (.ifCond .lt 8, 3) := by decide +kernel
theorem dX11_clocks_12 : decode cX11_clocks 12 = .ok (.iload_n 2, 1) := by decide +kernel
theorem dX11_clocks_13 : decode cX11_clocks 13 = .ok (.iconst 1, 1) := by decide +kernel
theorem dX11_clocks_14 : decode cX11_clocks 14 = .ok (.if_icmp .le 6, 3) := by decide +kernel
theorem dX11_clocks_17 : decode cX11_clocks 17 = .ok (.bipush (-2), 2) := by decide +kernel
theorem dX11_clocks_19 : decode cX11_clocks 19 = .ok (.ireturn, 1) := by decide +kernel
theorem dX11_clocks_20 : decode cX11_clocks 20 = .ok (.aload_n 0, 1) := by decide +kernel
theorem dX11_clocks_21 : decode cX11_clocks 21 = .ok (.invokevirtual 143, 3) := by decide +kernel
theorem dX11_clocks_24 : decode cX11_clocks 24 = .ok (.aload_n 0, 1) := by decide +kernel
theorem dX11_clocks_25 : decode cX11_clocks 25 = .ok (.getfield 56, 3) := by decide +kernel
theorem dX11_clocks_28 : decode cX11_clocks 28 = .ok (.iload_n 1, 1) := by decide +kernel
theorem dX11_clocks_29 : decode cX11_clocks 29 = .ok (.invokevirtual 167, 3) := by decide +kernel
theorem dX11_clocks_32 : decode cX11_clocks 32 = .ok (.iconst (-1), 1) := by decide +kernel
theorem dX11_clocks_33 : decode cX11_clocks 33 = .ok (.istore_n 3, 1) := by decide +kernel
theorem dX11_clocks_34 : decode cX11_clocks 34 = .ok (.aload_n 0, 1) := by decide +kernel
theorem dX11_clocks_35 : decode cX11_clocks 35 = .ok (.getfield 56, 3) := by decide +kernel
theorem dX11_clocks_38 : decode cX11_clocks 38 = .ok (.getfield 200, 3) := by decide +kernel
theorem dX11_clocks_41 : decode cX11_clocks 41 = .ok (.istore 4, 2) := by decide +kernel
theorem dX11_clocks_43 : decode cX11_clocks 43 = .ok (.iconst 0, 1) := by decide +kernel
theorem dX11_clocks_44 : decode cX11_clocks 44 = .ok (.istore 5, 2) := by decide +kernel
theorem dX11_clocks_46 : decode cX11_clocks 46 = .ok (.iload 5, 2) := by decide +kernel
theorem dX11_clocks_48 : decode cX11_clocks 48 = .ok (.aload_n 0, 1) := by decide +kernel
theorem dX11_clocks_49 : decode cX11_clocks 49 = .ok (.getfield 45, 3) := by decide +kernel
theorem dX11_clocks_52 : decode cX11_clocks 52 = .ok (.getfield 86, 3) := by decide +kernel
theorem dX11_clocks_55 : decode cX11_clocks 55 = .ok (.getfield 188, 3) := by decide +kernel
theorem dX11_clocks_58 : decode cX11_clocks 58 = .ok (.if_icmp .ge 61, 3) := by decide +kernel
theorem dX11_clocks_61 : decode cX11_clocks 61 = .ok (.aload_n 0, 1) := by decide +kernel
theorem dX11_clocks_62 : decode cX11_clocks 62 = .ok (.invokevirtual 143, 3) := by decide +kernel
theorem dX11_clocks_65 : decode cX11_clocks 65 = .ok (.aload_n 0, 1) := by decide +kernel
theorem dX11_clocks_66 : decode cX11_clocks 66 = .ok (.getfield 56, 3) := by decide +kernel
theorem dX11_clocks_69 : decode cX11_clocks 69 = .ok (.getfield 149, 3) := by decide +kernel
theorem dX11_clocks_72 : decode cX11_clocks 72 = .ok (.getfield 108, 3) := by decide +kernel
theorem dX11_clocks_75 : decode cX11_clocks 75 = .ok (.iconst 0, 1) := by decide +kernel
theorem dX11_clocks_76 : decode cX11_clocks 76 = .ok (.iload 5, 2) := by decide +kernel
theorem dX11_clocks_78 : decode cX11_clocks 78 = .ok (.iadd, 1) := by decide +kernel
theorem dX11_clocks_79 : decode cX11_clocks 79 = .ok (.iconst 0, 1) := by decide +kernel
theorem dX11_clocks_80 : decode cX11_clocks 80 = .ok (.iastore, 1) := by decide +kernel
theorem dX11_clocks_81 : decode cX11_clocks 81 = .ok (.aload_n 0, 1) := by decide +kernel
theorem dX11_clocks_82 : decode cX11_clocks 82 = .ok (.getfield 56, 3) := by decide +kernel
theorem dX11_clocks_85 : decode cX11_clocks 85 = .ok (.iload_n 1, 1) := by decide +kernel
theorem dX11_clocks_86 : decode cX11_clocks 86 = .ok (.invokevirtual 167, 3) := by decide +kernel
theorem dX11_clocks_89 : decode cX11_clocks 89 = .ok (.aload_n 0, 1) := by decide +kernel
theorem dX11_clocks_90 : decode cX11_clocks 90 = .ok (.getfield 56, 3) := by decide +kernel
theorem dX11_clocks_93 : decode cX11_clocks 93 = .ok (.getfield 200, 3) := by decide +kernel
theorem dX11_clocks_96 : decode cX11_clocks 96 = .ok (.iload 4, 2) := by decide +kernel
theorem dX11_clocks_98 : decode cX11_clocks 98 = .ok (.if_icmp .ge 15, 3) := by decide +kernel
theorem dX11_clocks_101 : decode cX11_clocks 101 = .ok (.iload 5, 2) := by decide +kernel
theorem dX11_clocks_103 : decode cX11_clocks 103 = .ok (.istore_n 3, 1) := by decide +kernel
theorem dX11_clocks_104 : decode cX11_clocks 104 = .ok (.aload_n 0, 1) := by decide +kernel
theorem dX11_clocks_105 : decode cX11_clocks 105 = .ok (.getfield 56, 3) := by decide +kernel
theorem dX11_clocks_108 : decode cX11_clocks 108 = .ok (.getfield 200, 3) := by decide +kernel
theorem dX11_clocks_111 : decode cX11_clocks 111 = .ok (.istore 4, 2) := by decide +kernel
theorem dX11_clocks_113 : decode cX11_clocks 113 = .ok (.iinc 5 1, 3) := by decide +kernel
theorem dX11_clocks_116 : decode cX11_clocks 116 = .ok (.goto (-70), 3) := by decide +kernel
theorem dX11_clocks_119 : decode cX11_clocks 119 = .ok (.iload_n 2, 1) := by decide +kernel
theorem dX11_clocks_120 : decode cX11_clocks 120 = .ok (.ifCond .ne 7, 3) := by decide +kernel
theorem dX11_clocks_123 : decode cX11_clocks 123 = .ok (.iload_n 3, 1) := by decide +kernel
theorem dX11_clocks_124 : decode cX11_clocks 124 = .ok (.goto 5, 3) := by decide +kernel
theorem dX11_clocks_127 : decode cX11_clocks 127 = .ok (.iload 4, 2) := by decide +kernel
theorem dX11_clocks_129 : decode cX11_clocks 129 = .ok (.ireturn, 1) := by decide +kernel
theorem dX11_pardon_0 : decode cX11_pardon 0 = .ok (.aload_n 0, 1) := by decide +kernel
theorem dX11_pardon_1 : decode cX11_pardon 1 = .ok (.iload_n 1, 1) := by decide +kernel
theorem dX11_pardon_2 : decode cX11_pardon 2 = .ok (.invokevirtual 232, 3) := by decide +kernel
theorem dX11_pardon_5 : decode cX11_pardon 5 = .ok (.ifCond .eq 12, 3) := by decide +kernel
theorem dX11_pardon_8 : decode cX11_pardon 8 = .ok (.iload_n 2, 1) := by decide +kernel
theorem dX11_pardon_9 : decode cX11_pardon 9 = .ok (.ifCond .lt 8, 3) := by decide +kernel
theorem dX11_pardon_12 : decode cX11_pardon 12 = .ok (.iload_n 2, 1) := by decide +kernel
theorem dX11_pardon_13 : decode cX11_pardon 13 = .ok (.iconst 1, 1) := by decide +kernel
theorem dX11_pardon_14 : decode cX11_pardon 14 = .ok (.if_icmp .le 6, 3) := by decide +kernel
theorem dX11_pardon_17 : decode cX11_pardon 17 = .ok (.bipush (-2), 2) := by decide +kernel
theorem dX11_pardon_19 : decode cX11_pardon 19 = .ok (.ireturn, 1) := by decide +kernel
theorem dX11_pardon_20 : decode cX11_pardon 20 = .ok (.aload_n 0, 1) := by decide +kernel
theorem dX11_pardon_21 : decode cX11_pardon 21 = .ok (.invokevirtual 143, 3) := by decide +kernel
theorem dX11_pardon_24 : decode cX11_pardon 24 = .ok (.aload_n 0, 1) := by decide +kernel
theorem dX11_pardon_25 : decode cX11_pardon 25 = .ok (.getfield 56, 3) := by decide +kernel
theorem dX11_pardon_28 : decode cX11_pardon 28 = .ok (.iload_n 1, 1) := by decide +kernel
theorem dX11_pardon_29 : decode cX11_pardon 29 = .ok (.invokevirtual 167, 3) := by decide +kernel
theorem dX11_pardon_32 : decode cX11_pardon 32 = .ok (.iconst (-1), 1) := by decide +kernel
theorem dX11_pardon_33 : decode cX11_pardon 33 = .ok (.istore_n 3, 1) := by decide +kernel
theorem dX11_pardon_34 : decode cX11_pardon 34 = .ok (.aload_n 0, 1) := by decide +kernel
theorem dX11_pardon_35 : decode cX11_pardon 35 = .ok (.getfield 56, 3) := by decide +kernel
theorem dX11_pardon_38 : decode cX11_pardon 38 = .ok (.getfield 261, 3) := by decide +kernel
theorem dX11_pardon_41 : decode cX11_pardon 41 = .ok (.istore 4, 2) := by decide +kernel
theorem dX11_pardon_43 : decode cX11_pardon 43 = .ok (.iconst 0, 1) := by decide +kernel
theorem dX11_pardon_44 : decode cX11_pardon 44 = .ok (.istore 5, 2) := by decide +kernel
theorem dX11_pardon_46 : decode cX11_pardon 46 = .ok (.iload 5, 2) := by decide +kernel
theorem dX11_pardon_48 : decode cX11_pardon 48 = .ok (.aload_n 0, 1) := by decide +kernel
theorem dX11_pardon_49 : decode cX11_pardon 49 = .ok (.getfield 45, 3) := by decide +kernel
theorem dX11_pardon_52 : decode cX11_pardon 52 = .ok (.getfield 86, 3) := by decide +kernel
theorem dX11_pardon_55 : decode cX11_pardon 55 = .ok (.getfield 188, 3) := by decide +kernel
theorem dX11_pardon_58 : decode cX11_pardon 58 = .ok (.if_icmp .ge 65, 3) := by decide +kernel
theorem dX11_pardon_61 : decode cX11_pardon 61 = .ok (.aload_n 0, 1) := by decide +kernel
theorem dX11_pardon_62 : decode cX11_pardon 62 = .ok (.invokevirtual 143, 3) := by decide +kernel
theorem dX11_pardon_65 : decode cX11_pardon 65 = .ok (.aload_n 0, 1) := by decide +kernel
theorem dX11_pardon_66 : decode cX11_pardon 66 = .ok (.getfield 56, 3) := by decide +kernel
theorem dX11_pardon_69 : decode cX11_pardon 69 = .ok (.getfield 149, 3) := by decide +kernel
theorem dX11_pardon_72 : decode cX11_pardon 72 = .ok (.getfield 108, 3) := by decide +kernel
theorem dX11_pardon_75 : decode cX11_pardon 75 = .ok (.bipush 44, 2) := by decide +kernel
theorem dX11_pardon_77 : decode cX11_pardon 77 = .ok (.dup2, 1) := by decide +kernel
theorem dX11_pardon_78 : decode cX11_pardon 78 = .ok (.iaload, 1) := by decide +kernel
theorem dX11_pardon_79 : decode cX11_pardon 79 = .ok (.iconst 1, 1) := by decide +kernel
theorem dX11_pardon_80 : decode cX11_pardon 80 = .ok (.iload 5, 2) := by decide +kernel
theorem dX11_pardon_82 : decode cX11_pardon 82 = .ok (.ishl, 1) := by decide +kernel
theorem dX11_pardon_83 : decode cX11_pardon 83 = .ok (.ior, 1) := by decide +kernel
theorem dX11_pardon_84 : decode cX11_pardon 84 = .ok (.iastore, 1) := by decide +kernel
theorem dX11_pardon_85 : decode cX11_pardon 85 = .ok (.aload_n 0, 1) := by decide +kernel
theorem dX11_pardon_86 : decode cX11_pardon 86 = .ok (.getfield 56, 3) := by decide +kernel
theorem dX11_pardon_89 : decode cX11_pardon 89 = .ok (.iload_n 1, 1) := by decide +kernel
theorem dX11_pardon_90 : decode cX11_pardon 90 = .ok (.invokevirtual 167, 3) := by decide +kernel
theorem dX11_pardon_93 : decode cX11_pardon 93 = .ok (.aload_n 0, 1) := by decide +kernel
theorem dX11_pardon_94 : decode cX11_pardon 94 = .ok (.getfield 56, 3) := by decide +kernel
theorem dX11_pardon_97 : decode cX11_pardon 97 = .ok (.getfield 261, 3) := by decide +kernel
theorem dX11_pardon_100 : decode cX11_pardon 100 = .ok (.iload 4, 2) := by decide +kernel
theorem dX11_pardon_102 : decode cX11_pardon 102 = .ok (.if_icmp .ge 15, 3) := by decide +kernel
theorem dX11_pardon_105 : decode cX11_pardon 105 = .ok (.iload 5, 2) := by decide +kernel
theorem dX11_pardon_107 : decode cX11_pardon 107 = .ok (.istore_n 3, 1) := by decide +kernel
theorem dX11_pardon_108 : decode cX11_pardon 108 = .ok (.aload_n 0, 1) := by decide +kernel
theorem dX11_pardon_109 : decode cX11_pardon 109 = .ok (.getfield 56, 3) := by decide +kernel
theorem dX11_pardon_112 : decode cX11_pardon 112 = .ok (.getfield 261, 3) := by decide +kernel
theorem dX11_pardon_115 : decode cX11_pardon 115 = .ok (.istore 4, 2) := by decide +kernel
theorem dX11_pardon_117 : decode cX11_pardon 117 = .ok (.iinc 5 1, 3) := by decide +kernel
theorem dX11_pardon_120 : decode cX11_pardon 120 = .ok (.goto (-74), 3) := by decide +kernel
theorem dX11_pardon_123 : decode cX11_pardon 123 = .ok (.iload_n 2, 1) := by decide +kernel
theorem dX11_pardon_124 : decode cX11_pardon 124 = .ok (.ifCond .ne 7, 3) := by decide +kernel
theorem dX11_pardon_127 : decode cX11_pardon 127 = .ok (.iload_n 3, 1) := by decide +kernel
theorem dX11_pardon_128 : decode cX11_pardon 128 = .ok (.goto 5, 3) := by decide +kernel
theorem dX11_pardon_131 : decode cX11_pardon 131 = .ok (.iload 4, 2) := by decide +kernel
theorem dX11_pardon_133 : decode cX11_pardon 133 = .ok (.ireturn, 1) := by decide +kernel
theorem dX11_worth_0 : decode cX11_worth 0 = .ok (.aload_n 0, 1) := by decide +kernel
theorem dX11_worth_1 : decode cX11_worth 1 = .ok (.iload_n 1, 1) := by decide +kernel
theorem dX11_worth_2 : decode cX11_worth 2 = .ok (.invokevirtual 124, 3) := by decide +kernel
theorem dX11_worth_5 : decode cX11_worth 5 = .ok (.ifCond .eq 11, 3) := by decide +kernel
theorem dX11_worth_8 : decode cX11_worth 8 = .ok (.aload_n 0, 1) := by decide +kernel
theorem dX11_worth_9 : decode cX11_worth 9 = .ok (.iload_n 2, 1) := by decide +kernel
theorem dX11_worth_10 : decode cX11_worth 10 = .ok (.invokevirtual 232, 3) := by decide +kernel
theorem dX11_worth_13 : decode cX11_worth 13 = .ok (.ifCond .ne 7, 3) := by decide +kernel
theorem dX11_worth_16 : decode cX11_worth 16 = .ok (.ldc_w 264, 3) := by decide +kernel
theorem dX11_worth_19 : decode cX11_worth 19 = .ok (.ireturn, 1) := by decide +kernel
theorem dX11_worth_20 : decode cX11_worth 20 = .ok (.aload_n 0, 1) := by decide +kernel
theorem dX11_worth_21 : decode cX11_worth 21 = .ok (.invokevirtual 143, 3) := by decide +kernel
theorem dX11_worth_24 : decode cX11_worth 24 = .ok (.aload_n 0, 1) := by decide +kernel
theorem dX11_worth_25 : decode cX11_worth 25 = .ok (.getfield 56, 3) := by decide +kernel
theorem dX11_worth_28 : decode cX11_worth 28 = .ok (.iload_n 2, 1) := by decide +kernel
theorem dX11_worth_29 : decode cX11_worth 29 = .ok (.invokevirtual 167, 3) := by decide +kernel
theorem dX11_worth_32 : decode cX11_worth 32 = .ok (.aload_n 0, 1) := by decide +kernel
theorem dX11_worth_33 : decode cX11_worth 33 = .ok (.getfield 56, 3) := by decide +kernel
theorem dX11_worth_36 : decode cX11_worth 36 = .ok (.getfield 200, 3) := by decide +kernel
theorem dX11_worth_39 : decode cX11_worth 39 = .ok (.istore_n 3, 1) := by decide +kernel
theorem dX11_worth_40 : decode cX11_worth 40 = .ok (.aload_n 0, 1) := by decide +kernel
theorem dX11_worth_41 : decode cX11_worth 41 = .ok (.invokevirtual 143, 3) := by decide +kernel
theorem dX11_worth_44 : decode cX11_worth 44 = .ok (.aload_n 0, 1) := by decide +kernel
theorem dX11_worth_45 : decode cX11_worth 45 = .ok (.getfield 56, 3) := by decide +kernel
theorem dX11_worth_48 : decode cX11_worth 48 = .ok (.iload_n 1, 1) := by decide +kernel
theorem dX11_worth_49 : decode cX11_worth 49 = .ok (.putfield 203, 3) := by decide +kernel
theorem dX11_worth_52 : decode cX11_worth 52 = .ok (.aload_n 0, 1) := by decide +kernel
theorem dX11_worth_53 : decode cX11_worth 53 = .ok (.getfield 56, 3) := by decide +kernel
theorem dX11_worth_56 : decode cX11_worth 56 = .ok (.iload_n 2, 1) := by decide +kernel
theorem dX11_worth_57 : decode cX11_worth 57 = .ok (.invokevirtual 167, 3) := by decide +kernel
theorem dX11_worth_60 : decode cX11_worth 60 = .ok (.iload_n 3, 1) := by decide +kernel
theorem dX11_worth_61 : decode cX11_worth 61 = .ok (.aload_n 0, 1) := by decide +kernel
theorem dX11_worth_62 : decode cX11_worth 62 = .ok (.getfield 56, 3) := by decide +kernel
theorem dX11_worth_65 : decode cX11_worth 65 = .ok (.getfield 200, 3) := by decide +kernel
theorem dX11_worth_68 : decode cX11_worth 68 = .ok (.isub, 1) := by decide +kernel
theorem dX11_worth_69 : decode cX11_worth 69 = .ok (.ireturn, 1) := by decide +kernel
theorem dX11_seed_0 : decode cX11_seed 0 = .ok (.iload_n 1, 1) := by decide +kernel
theorem dX11_seed_1 : decode cX11_seed 1 = .ok (.ifCond .ge 5, 3) := by decide +kernel
theorem dX11_seed_4 : decode cX11_seed 4 = .ok (.iconst (-1), 1) := by decide +kernel
theorem dX11_seed_5 : decode cX11_seed 5 = .ok (.ireturn, 1) := by decide +kernel
theorem dX11_seed_6 : decode cX11_seed 6 = .ok (.aload_n 0, 1) := by decide +kernel
theorem dX11_seed_7 : decode cX11_seed 7 = .ok (.getfield 45, 3) := by decide +kernel
theorem dX11_seed_10 : decode cX11_seed 10 = .ok (.getfield 265, 3) := by decide +kernel
theorem dX11_seed_13 : decode cX11_seed 13 = .ok (.istore_n 2, 1) := by decide +kernel
theorem dX11_seed_14 : decode cX11_seed 14 = .ok (.aload_n 0, 1) := by decide +kernel
theorem dX11_seed_15 : decode cX11_seed 15 = .ok (.getfield 45, 3) := by decide +kernel
theorem dX11_seed_18 : decode cX11_seed 18 = .ok (.iload_n 1, 1) := by decide +kernel
theorem dX11_seed_19 : decode cX11_seed 19 = .ok (.putfield 265, 3) := by decide +kernel
theorem dX11_seed_22 : decode cX11_seed 22 = .ok (.iload_n 2, 1) := by decide +kernel
theorem dX11_seed_23 : decode cX11_seed 23 = .ok (.ireturn, 1) := by decide +kernel
theorem dX11_years_0 : decode cX11_years 0 = .ok (.aload_n 0, 1) := by decide +kernel
theorem dX11_years_1 : decode cX11_years 1 = .ok (.getfield 45, 3) := by decide +kernel
theorem dX11_years_4 : decode cX11_years 4 = .ok (.getfield 86, 3) := by decide +kernel
theorem dX11_years_7 : decode cX11_years 7 = .ok (.getfield 136, 3) := by decide +kernel
theorem dX11_years_10 : decode cX11_years 10 = .ok (.ifCond .eq 34, 3) := by decide +kernel
theorem dX11_years_13 : decode cX11_years 13 = .ok (.iload_n 1, 1) := by decide +kernel
theorem dX11_years_14 : decode cX11_years 14 = .ok (.iconst 1, 1) := by decide +kernel
theorem dX11_years_15 : decode cX11_years 15 = .ok (.if_icmp .lt 29, 3) := by decide +kernel
theorem dX11_years_18 : decode cX11_years 18 = .ok (.iload_n 1, 1) := by decide +kernel
theorem dX11_years_19 : decode cX11_years 19 = .ok (.bipush 10, 2) := by decide +kernel
theorem dX11_years_21 : decode cX11_years 21 = .ok (.if_icmp .gt 23, 3) := by decide +kernel
theorem dX11_years_24 : decode cX11_years 24 = .ok (.iload_n 2, 1) := by decide +kernel
theorem dX11_years_25 : decode cX11_years 25 = .ok (.iconst 1, 1) := by decide +kernel
theorem dX11_years_26 : decode cX11_years 26 = .ok (.if_icmp .lt 18, 3) := by decide +kernel
theorem dX11_years_29 : decode cX11_years 29 = .ok (.iload_n 2, 1) := by decide +kernel
theorem dX11_years_30 : decode cX11_years 30 = .ok (.bipush 60, 2) := by decide +kernel
theorem dX11_years_32 : decode cX11_years 32 = .ok (.if_icmp .gt 12, 3) := by decide +kernel
theorem dX11_years_35 : decode cX11_years 35 = .ok (.iload_n 3, 1) := by decide +kernel
theorem dX11_years_36 : decode cX11_years 36 = .ok (.ifCond .lt 8, 3) := by decide +kernel
theorem dX11_years_39 : decode cX11_years 39 = .ok (.iload_n 3, 1) := by decide +kernel
theorem dX11_years_40 : decode cX11_years 40 = .ok (.iconst 1, 1) := by decide +kernel
theorem dX11_years_41 : decode cX11_years 41 = .ok (.if_icmp .le 5, 3) := by decide +kernel
theorem dX11_years_44 : decode cX11_years 44 = .ok (.iconst (-1), 1) := by decide +kernel
theorem dX11_years_45 : decode cX11_years 45 = .ok (.ireturn, 1) := by decide +kernel
theorem dX11_years_46 : decode cX11_years 46 = .ok (.iconst 0, 1) := by decide +kernel
theorem dX11_years_47 : decode cX11_years 47 = .ok (.istore 4, 2) := by decide +kernel
theorem dX11_years_49 : decode cX11_years 49 = .ok (.iconst 0, 1) := by decide +kernel
theorem dX11_years_50 : decode cX11_years 50 = .ok (.istore 5, 2) := by decide +kernel
theorem dX11_years_52 : decode cX11_years 52 = .ok (.aload_n 0, 1) := by decide +kernel
theorem dX11_years_53 : decode cX11_years 53 = .ok (.getfield 45, 3) := by decide +kernel
theorem dX11_years_56 : decode cX11_years 56 = .ok (.getfield 265, 3) := by decide +kernel
theorem dX11_years_59 : decode cX11_years 59 = .ok (.istore 6, 2) := by decide +kernel
theorem dX11_years_61 : decode cX11_years 61 = .ok (.iconst 0, 1) := by decide +kernel
theorem dX11_years_62 : decode cX11_years 62 = .ok (.istore 7, 2) := by decide +kernel
theorem dX11_years_64 : decode cX11_years 64 = .ok (.iload 7, 2) := by decide +kernel
theorem dX11_years_66 : decode cX11_years 66 = .ok (.iload_n 1, 1) := by decide +kernel
theorem dX11_years_67 : decode cX11_years 67 = .ok (.if_icmp .ge 63, 3) := by decide +kernel
theorem dX11_years_70 : decode cX11_years 70 = .ok (.aload_n 0, 1) := by decide +kernel
theorem dX11_years_71 : decode cX11_years 71 = .ok (.invokevirtual 143, 3) := by decide +kernel
theorem dX11_years_74 : decode cX11_years 74 = .ok (.aload_n 0, 1) := by decide +kernel
theorem dX11_years_75 : decode cX11_years 75 = .ok (.getfield 56, 3) := by decide +kernel
theorem dX11_years_78 : decode cX11_years 78 = .ok (.iload 6, 2) := by decide +kernel
theorem dX11_years_80 : decode cX11_years 80 = .ok (.invokevirtual 268, 3) := by decide +kernel
theorem dX11_years_83 : decode cX11_years 83 = .ok (.aload_n 0, 1) := by decide +kernel
theorem dX11_years_84 : decode cX11_years 84 = .ok (.getfield 56, 3) := by decide +kernel
theorem dX11_years_87 : decode cX11_years 87 = .ok (.iload_n 2, 1) := by decide +kernel
theorem dX11_years_88 : decode cX11_years 88 = .ok (.invokevirtual 167, 3) := by decide +kernel
theorem dX11_years_91 : decode cX11_years 91 = .ok (.aload_n 0, 1) := by decide +kernel
theorem dX11_years_92 : decode cX11_years 92 = .ok (.getfield 56, 3) := by decide +kernel
theorem dX11_years_95 : decode cX11_years 95 = .ok (.getfield 271, 3) := by decide +kernel
theorem dX11_years_98 : decode cX11_years 98 = .ok (.istore 6, 2) := by decide +kernel
theorem dX11_years_100 : decode cX11_years 100 = .ok (.iload 4, 2) := by decide +kernel
theorem dX11_years_102 : decode cX11_years 102 = .ok (.aload_n 0, 1) := by decide +kernel
theorem dX11_years_103 : decode cX11_years 103 = .ok (.getfield 56, 3) := by decide +kernel
theorem dX11_years_106 : decode cX11_years 106 = .ok (.getfield 154, 3) := by decide +kernel
theorem dX11_years_109 : decode cX11_years 109 = .ok (.iadd, 1) := by decide +kernel
theorem dX11_years_110 : decode cX11_years 110 = .ok (.istore 4, 2) := by decide +kernel
theorem dX11_years_112 : decode cX11_years 112 = .ok (.iload 5, 2) := by decide +kernel
theorem dX11_years_114 : decode cX11_years 114 = .ok (.aload_n 0, 1) := by decide +kernel
theorem dX11_years_115 : decode cX11_years 115 = .ok (.getfield 56, 3) := by decide +kernel
theorem dX11_years_118 : decode cX11_years 118 = .ok (.getfield 200, 3) := by decide +kernel
theorem dX11_years_121 : decode cX11_years 121 = .ok (.iadd, 1) := by decide +kernel
theorem dX11_years_122 : decode cX11_years 122 = .ok (.istore 5, 2) := by decide +kernel
theorem dX11_years_124 : decode cX11_years 124 = .ok (.iinc 7 1, 3) := by decide +kernel
theorem dX11_years_127 : decode cX11_years 127 = .ok (.goto (-63), 3) := by decide +kernel
theorem dX11_years_130 : decode cX11_years 130 = .ok (.iload_n 3, 1) := by decide +kernel
theorem dX11_years_131 : decode cX11_years 131 = .ok (.ifCond .ne 8, 3) := by decide +kernel
theorem dX11_years_134 : decode cX11_years 134 = .ok (.iload 4, 2) := by decide +kernel
theorem dX11_years_136 : decode cX11_years 136 = .ok (.goto 5, 3) := by decide +kernel
theorem dX11_years_139 : decode cX11_years 139 = .ok (.iload 5, 2) := by decide +kernel
theorem dX11_years_141 : decode cX11_years 141 = .ok (.ireturn, 1) := by decide +kernel
theorem dX11_count_0 : decode cX11_count 0 = .ok (.iload_n 1, 1) := by decide +kernel
theorem dX11_count_1 : decode cX11_count 1 = .ok (.tableswitch 229 0 14 #[75, 86, 97, 108, 119, 130, 135, 143, 157, 171, 184, 197, 205, 213, 221], 75) := by decide +kernel
theorem dX11_count_76 : decode cX11_count 76 = .ok (.aload_n 0, 1) := by decide +kernel
theorem dX11_count_77 : decode cX11_count 77 = .ok (.getfield 45, 3) := by decide +kernel
theorem dX11_count_80 : decode cX11_count 80 = .ok (.getfield 86, 3) := by decide +kernel
theorem dX11_count_83 : decode cX11_count 83 = .ok (.getfield 272, 3) := by decide +kernel
theorem dX11_count_86 : decode cX11_count 86 = .ok (.ireturn, 1) := by decide +kernel
theorem dX11_count_87 : decode cX11_count 87 = .ok (.aload_n 0, 1) := by decide +kernel
theorem dX11_count_88 : decode cX11_count 88 = .ok (.getfield 45, 3) := by decide +kernel
theorem dX11_count_91 : decode cX11_count 91 = .ok (.getfield 86, 3) := by decide +kernel
theorem dX11_count_94 : decode cX11_count 94 = .ok (.getfield 273, 3) := by decide +kernel
theorem dX11_count_97 : decode cX11_count 97 = .ok (.ireturn, 1) := by decide +kernel
theorem dX11_count_98 : decode cX11_count 98 = .ok (.aload_n 0, 1) := by decide +kernel
theorem dX11_count_99 : decode cX11_count 99 = .ok (.getfield 45, 3) := by decide +kernel
theorem dX11_count_102 : decode cX11_count 102 = .ok (.getfield 86, 3) := by decide +kernel
theorem dX11_count_105 : decode cX11_count 105 = .ok (.getfield 274, 3) := by decide +kernel
theorem dX11_count_108 : decode cX11_count 108 = .ok (.ireturn, 1) := by decide +kernel
theorem dX11_count_109 : decode cX11_count 109 = .ok (.aload_n 0, 1) := by decide +kernel
theorem dX11_count_110 : decode cX11_count 110 = .ok (.getfield 45, 3) := by decide +kernel
theorem dX11_count_113 : decode cX11_count 113 = .ok (.getfield 86, 3) := by decide +kernel
theorem dX11_count_116 : decode cX11_count 116 = .ok (.getfield 188, 3) := by decide +kernel
theorem dX11_count_119 : decode cX11_count 119 = .ok (.ireturn, 1) := by decide +kernel
theorem dX11_count_120 : decode cX11_count 120 = .ok (.aload_n 0, 1) := by decide +kernel
theorem dX11_count_121 : decode cX11_count 121 = .ok (.getfield 45, 3) := by decide +kernel
theorem dX11_count_124 : decode cX11_count 124 = .ok (.getfield 86, 3) := by decide +kernel
theorem dX11_count_127 : decode cX11_count 127 = .ok (.getfield 87, 3) := by decide +kernel
theorem dX11_count_130 : decode cX11_count 130 = .ok (.ireturn, 1) := by decide +kernel
theorem dX11_count_131 : decode cX11_count 131 = .ok (.aload_n 0, 1) := by decide +kernel
theorem dX11_count_132 : decode cX11_count 132 = .ok (.getfield 38, 3) := by decide +kernel
theorem dX11_count_135 : decode cX11_count 135 = .ok (.ireturn, 1) := by decide +kernel
theorem dX11_count_136 : decode cX11_count 136 = .ok (.aload_n 0, 1) := by decide +kernel
theorem dX11_count_137 : decode cX11_count 137 = .ok (.getfield 45, 3) := by decide +kernel
theorem dX11_count_140 : decode cX11_count 140 = .ok (.getfield 97, 3) := by decide +kernel
theorem dX11_count_143 : decode cX11_count 143 = .ok (.ireturn, 1) := by decide +kernel
theorem dX11_count_144 : decode cX11_count 144 = .ok (.aload_n 0, 1) := by decide +kernel
theorem dX11_count_145 : decode cX11_count 145 = .ok (.getfield 45, 3) := by decide +kernel
theorem dX11_count_148 : decode cX11_count 148 = .ok (.getfield 104, 3) := by decide +kernel
theorem dX11_count_151 : decode cX11_count 151 = .ok (.getfield 108, 3) := by decide +kernel
theorem dX11_count_154 : decode cX11_count 154 = .ok (.bipush 45, 2) := by decide +kernel
theorem dX11_count_156 : decode cX11_count 156 = .ok (.iaload, 1) := by decide +kernel
theorem dX11_count_157 : decode cX11_count 157 = .ok (.ireturn, 1) := by decide +kernel
theorem dX11_count_158 : decode cX11_count 158 = .ok (.aload_n 0, 1) := by decide +kernel
theorem dX11_count_159 : decode cX11_count 159 = .ok (.getfield 45, 3) := by decide +kernel
theorem dX11_count_162 : decode cX11_count 162 = .ok (.getfield 104, 3) := by decide +kernel
theorem dX11_count_165 : decode cX11_count 165 = .ok (.getfield 108, 3) := by decide +kernel
theorem dX11_count_168 : decode cX11_count 168 = .ok (.bipush 44, 2) := by decide +kernel
theorem dX11_count_170 : decode cX11_count 170 = .ok (.iaload, 1) := by decide +kernel
theorem dX11_count_171 : decode cX11_count 171 = .ok (.ireturn, 1) := by decide +kernel
theorem dX11_count_172 : decode cX11_count 172 = .ok (.aload_n 0, 1) := by decide +kernel
theorem dX11_count_173 : decode cX11_count 173 = .ok (.getfield 45, 3) := by decide +kernel
theorem dX11_count_176 : decode cX11_count 176 = .ok (.getfield 104, 3) := by decide +kernel
theorem dX11_count_179 : decode cX11_count 179 = .ok (.bipush 10, 2) := by decide +kernel
theorem dX11_count_181 : decode cX11_count 181 = .ok (.invokevirtual 277, 3) := by decide +kernel
theorem dX11_count_184 : decode cX11_count 184 = .ok (.ireturn, 1) := by decide +kernel
theorem dX11_count_185 : decode cX11_count 185 = .ok (.aload_n 0, 1) := by decide +kernel
theorem dX11_count_186 : decode cX11_count 186 = .ok (.getfield 45, 3) := by decide +kernel
theorem dX11_count_189 : decode cX11_count 189 = .ok (.getfield 104, 3) := by decide +kernel
theorem dX11_count_192 : decode cX11_count 192 = .ok (.bipush 15, 2) := by decide +kernel
theorem dX11_count_194 : decode cX11_count 194 = .ok (.invokevirtual 277, 3) := by decide +kernel
theorem dX11_count_197 : decode cX11_count 197 = .ok (.ireturn, 1) := by decide +kernel
theorem dX11_count_198 : decode cX11_count 198 = .ok (.aload_n 0, 1) := by decide +kernel
theorem dX11_count_199 : decode cX11_count 199 = .ok (.getfield 45, 3) := by decide +kernel
theorem dX11_count_202 : decode cX11_count 202 = .ok (.getfield 241, 3) := by decide +kernel
theorem dX11_count_205 : decode cX11_count 205 = .ok (.ireturn, 1) := by decide +kernel
theorem dX11_count_206 : decode cX11_count 206 = .ok (.aload_n 0, 1) := by decide +kernel
theorem dX11_count_207 : decode cX11_count 207 = .ok (.getfield 45, 3) := by decide +kernel
theorem dX11_count_210 : decode cX11_count 210 = .ok (.getfield 161, 3) := by decide +kernel
theorem dX11_count_213 : decode cX11_count 213 = .ok (.ireturn, 1) := by decide +kernel
theorem dX11_count_214 : decode cX11_count 214 = .ok (.aload_n 0, 1) := by decide +kernel
theorem dX11_count_215 : decode cX11_count 215 = .ok (.getfield 45, 3) := by decide +kernel
theorem dX11_count_218 : decode cX11_count 218 = .ok (.getfield 265, 3) := by decide +kernel
theorem dX11_count_221 : decode cX11_count 221 = .ok (.ireturn, 1) := by decide +kernel
theorem dX11_count_222 : decode cX11_count 222 = .ok (.aload_n 0, 1) := by decide +kernel
theorem dX11_count_223 : decode cX11_count 223 = .ok (.getfield 10, 3) := by decide +kernel
theorem dX11_count_226 : decode cX11_count 226 = .ok (.getfield 67, 3) := by decide +kernel
theorem dX11_count_229 : decode cX11_count 229 = .ok (.ireturn, 1) := by decide +kernel
theorem dX11_count_230 : decode cX11_count 230 = .ok (.iconst (-1), 1) := by decide +kernel
theorem dX11_count_231 : decode cX11_count 231 = .ok (.ireturn, 1) := by decide +kernel
theorem dX11_image_0 : decode cX11_image 0 = .ok (.iload_n 1, 1) := by decide +kernel
theorem dX11_image_1 : decode cX11_image 1 = .ok (.ifCond .lt 8, 3) := by decide +kernel
theorem dX11_image_4 : decode cX11_image 4 = .ok (.iload_n 1, 1) := by decide +kernel
theorem dX11_image_5 : decode cX11_image 5 = .ok (.iconst 4, 1) := by decide +kernel
theorem dX11_image_6 : decode cX11_image 6 = .ok (.if_icmp .lt 5, 3) := by decide +kernel
theorem dX11_image_9 : decode cX11_image 9 = .ok (.iconst (-1), 1) := by decide +kernel
theorem dX11_image_10 : decode cX11_image 10 = .ok (.ireturn, 1) := by decide +kernel
theorem dX11_image_11 : decode cX11_image 11 = .ok (.aload_n 0, 1) := by decide +kernel
theorem dX11_image_12 : decode cX11_image 12 = .ok (.getfield 49, 3) := by decide +kernel
theorem dX11_image_15 : decode cX11_image 15 = .ok (.iload_n 1, 1) := by decide +kernel
theorem dX11_image_16 : decode cX11_image 16 = .ok (.aaload, 1) := by decide +kernel
theorem dX11_image_17 : decode cX11_image 17 = .ok (.ifnonnull 16, 3) := by decide +kernel
theorem dX11_image_20 : decode cX11_image 20 = .ok (.aload_n 0, 1) := by decide +kernel
theorem dX11_image_21 : decode cX11_image 21 = .ok (.getfield 49, 3) := by decide +kernel
theorem dX11_image_24 : decode cX11_image 24 = .ok (.iload_n 1, 1) := by decide +kernel
theorem dX11_image_25 : decode cX11_image 25 = .ok (.new 42, 3) := by decide +kernel
theorem dX11_image_28 : decode cX11_image 28 = .ok (.dup, 1) := by decide +kernel
theorem dX11_image_29 : decode cX11_image 29 = .ok (.invokespecial 44, 3) := by decide +kernel
theorem dX11_image_32 : decode cX11_image 32 = .ok (.aastore, 1) := by decide +kernel
theorem dX11_image_33 : decode cX11_image 33 = .ok (.aload_n 0, 1) := by decide +kernel
theorem dX11_image_34 : decode cX11_image 34 = .ok (.getfield 49, 3) := by decide +kernel
theorem dX11_image_37 : decode cX11_image 37 = .ok (.iload_n 1, 1) := by decide +kernel
theorem dX11_image_38 : decode cX11_image 38 = .ok (.aaload, 1) := by decide +kernel
theorem dX11_image_39 : decode cX11_image 39 = .ok (.aload_n 0, 1) := by decide +kernel
theorem dX11_image_40 : decode cX11_image 40 = .ok (.getfield 45, 3) := by decide +kernel
theorem dX11_image_43 : decode cX11_image 43 = .ok (.invokevirtual 280, 3) := by decide +kernel
theorem dX11_image_46 : decode cX11_image 46 = .ok (.aload_n 0, 1) := by decide +kernel
theorem dX11_image_47 : decode cX11_image 47 = .ok (.getfield 45, 3) := by decide +kernel
theorem dX11_image_50 : decode cX11_image 50 = .ok (.getfield 104, 3) := by decide +kernel
theorem dX11_image_53 : decode cX11_image 53 = .ok (.getfield 108, 3) := by decide +kernel
theorem dX11_image_56 : decode cX11_image 56 = .ok (.bipush 45, 2) := by decide +kernel
theorem dX11_image_58 : decode cX11_image 58 = .ok (.iaload, 1) := by decide +kernel
theorem dX11_image_59 : decode cX11_image 59 = .ok (.ireturn, 1) := by decide +kernel
theorem dX11_back_0 : decode cX11_back 0 = .ok (.iload_n 1, 1) := by decide +kernel
theorem dX11_back_1 : decode cX11_back 1 = .ok (.ifCond .lt 17, 3) := by decide +kernel
theorem dX11_back_4 : decode cX11_back 4 = .ok (.iload_n 1, 1) := by decide +kernel
theorem dX11_back_5 : decode cX11_back 5 = .ok (.iconst 4, 1) := by decide +kernel
theorem dX11_back_6 : decode cX11_back 6 = .ok (.if_icmp .ge 12, 3) := by decide +kernel
theorem dX11_back_9 : decode cX11_back 9 = .ok (.aload_n 0, 1) := by decide +kernel
theorem dX11_back_10 : decode cX11_back 10 = .ok (.getfield 49, 3) := by decide +kernel
theorem dX11_back_13 : decode cX11_back 13 = .ok (.iload_n 1, 1) := by decide +kernel
theorem dX11_back_14 : decode cX11_back 14 = .ok (.aaload, 1) := by decide +kernel
theorem dX11_back_15 : decode cX11_back 15 = .ok (.ifnonnull 5, 3) := by decide +kernel
theorem dX11_back_18 : decode cX11_back 18 = .ok (.iconst (-1), 1) := by decide +kernel
theorem dX11_back_19 : decode cX11_back 19 = .ok (.ireturn, 1) := by decide +kernel
theorem dX11_back_20 : decode cX11_back 20 = .ok (.aload_n 0, 1) := by decide +kernel
theorem dX11_back_21 : decode cX11_back 21 = .ok (.getfield 45, 3) := by decide +kernel
theorem dX11_back_24 : decode cX11_back 24 = .ok (.aload_n 0, 1) := by decide +kernel
theorem dX11_back_25 : decode cX11_back 25 = .ok (.getfield 49, 3) := by decide +kernel
theorem dX11_back_28 : decode cX11_back 28 = .ok (.iload_n 1, 1) := by decide +kernel
theorem dX11_back_29 : decode cX11_back 29 = .ok (.aaload, 1) := by decide +kernel
theorem dX11_back_30 : decode cX11_back 30 = .ok (.invokevirtual 280, 3) := by decide +kernel
theorem dX11_back_33 : decode cX11_back 33 = .ok (.aload_n 0, 1) := by decide +kernel
theorem dX11_back_34 : decode cX11_back 34 = .ok (.getfield 45, 3) := by decide +kernel
theorem dX11_back_37 : decode cX11_back 37 = .ok (.getfield 104, 3) := by decide +kernel
theorem dX11_back_40 : decode cX11_back 40 = .ok (.getfield 108, 3) := by decide +kernel
theorem dX11_back_43 : decode cX11_back 43 = .ok (.bipush 45, 2) := by decide +kernel
theorem dX11_back_45 : decode cX11_back 45 = .ok (.iaload, 1) := by decide +kernel
theorem dX11_back_46 : decode cX11_back 46 = .ok (.ireturn, 1) := by decide +kernel
theorem dX11_isPerson_0 : decode cX11_isPerson 0 = .ok (.iload_n 1, 1) := by decide +kernel
theorem dX11_isPerson_1 : decode cX11_isPerson 1 = .ok (.ifCond .lt 21, 3) := by decide +kernel
theorem dX11_isPerson_4 : decode cX11_isPerson 4 = .ok (.iload_n 1, 1) := by decide +kernel
theorem dX11_isPerson_5 : decode cX11_isPerson 5 = .ok (.aload_n 0, 1) := by decide +kernel
theorem dX11_isPerson_6 : decode cX11_isPerson 6 = .ok (.getfield 45, 3) := by decide +kernel
theorem dX11_isPerson_9 : decode cX11_isPerson 9 = .ok (.getfield 86, 3) := by decide +kernel
theorem dX11_isPerson_12 : decode cX11_isPerson 12 = .ok (.getfield 188, 3) := by decide +kernel
theorem dX11_isPerson_15 : decode cX11_isPerson 15 = .ok (.if_icmp .ge 7, 3) := by decide +kernel
theorem dX11_isPerson_18 : decode cX11_isPerson 18 = .ok (.iconst 1, 1) := by decide +kernel
theorem dX11_isPerson_19 : decode cX11_isPerson 19 = .ok (.goto 4, 3) := by decide +kernel
theorem dX11_isPerson_22 : decode cX11_isPerson 22 = .ok (.iconst 0, 1) := by decide +kernel
theorem dX11_isPerson_23 : decode cX11_isPerson 23 = .ok (.ireturn, 1) := by decide +kernel
theorem dX11_isMeeting_0 : decode cX11_isMeeting 0 = .ok (.iload_n 1, 1) := by decide +kernel
theorem dX11_isMeeting_1 : decode cX11_isMeeting 1 = .ok (.ifCond .lt 21, 3) := by decide +kernel
theorem dX11_isMeeting_4 : decode cX11_isMeeting 4 = .ok (.iload_n 1, 1) := by decide +kernel
theorem dX11_isMeeting_5 : decode cX11_isMeeting 5 = .ok (.aload_n 0, 1) := by decide +kernel
theorem dX11_isMeeting_6 : decode cX11_isMeeting 6 = .ok (.getfield 45, 3) := by decide +kernel
theorem dX11_isMeeting_9 : decode cX11_isMeeting 9 = .ok (.getfield 86, 3) := by decide +kernel
theorem dX11_isMeeting_12 : decode cX11_isMeeting 12 = .ok (.getfield 87, 3) := by decide +kernel
theorem dX11_isMeeting_15 : decode cX11_isMeeting 15 = .ok (.if_icmp .ge 7, 3) := by decide +kernel
theorem dX11_isMeeting_18 : decode cX11_isMeeting 18 = .ok (.iconst 1, 1) := by decide +kernel
theorem dX11_isMeeting_19 : decode cX11_isMeeting 19 = .ok (.goto 4, 3) := by decide +kernel
theorem dX11_isMeeting_22 : decode cX11_isMeeting 22 = .ok (.iconst 0, 1) := by decide +kernel
theorem dX11_isMeeting_23 : decode cX11_isMeeting 23 = .ok (.ireturn, 1) := by decide +kernel
theorem dX11_isSpan_0 : decode cX11_isSpan 0 = .ok (.aload_n 0, 1) := by decide +kernel
theorem dX11_isSpan_1 : decode cX11_isSpan 1 = .ok (.getfield 45, 3) := by decide +kernel
theorem dX11_isSpan_4 : decode cX11_isSpan 4 = .ok (.getfield 86, 3) := by decide +kernel
theorem dX11_isSpan_7 : decode cX11_isSpan 7 = .ok (.getfield 136, 3) := by decide +kernel
theorem dX11_isSpan_10 : decode cX11_isSpan 10 = .ok (.ifCond .eq 18, 3) := by decide +kernel
theorem dX11_isSpan_13 : decode cX11_isSpan 13 = .ok (.iload_n 1, 1) := by decide +kernel
theorem dX11_isSpan_14 : decode cX11_isSpan 14 = .ok (.iconst 1, 1) := by decide +kernel
theorem dX11_isSpan_15 : decode cX11_isSpan 15 = .ok (.if_icmp .lt 13, 3) := by decide +kernel
theorem dX11_isSpan_18 : decode cX11_isSpan 18 = .ok (.iload_n 1, 1) := by decide +kernel
theorem dX11_isSpan_19 : decode cX11_isSpan 19 = .ok (.bipush 20, 2) := by decide +kernel
theorem dX11_isSpan_21 : decode cX11_isSpan 21 = .ok (.if_icmp .gt 7, 3) := by decide +kernel
theorem dX11_isSpan_24 : decode cX11_isSpan 24 = .ok (.iconst 1, 1) := by decide +kernel
theorem dX11_isSpan_25 : decode cX11_isSpan 25 = .ok (.goto 4, 3) := by decide +kernel
theorem dX11_isSpan_28 : decode cX11_isSpan 28 = .ok (.iconst 0, 1) := by decide +kernel
theorem dX11_isSpan_29 : decode cX11_isSpan 29 = .ok (.ireturn, 1) := by decide +kernel
theorem dX11_ruleThatIsInForce_0 : decode cX11_ruleThatIsInForce 0 = .ok (.aload_n 0, 1) := by decide +kernel
theorem dX11_ruleThatIsInForce_1 : decode cX11_ruleThatIsInForce 1 = .ok (.getfield 45, 3) := by decide +kernel
theorem dX11_ruleThatIsInForce_4 : decode cX11_ruleThatIsInForce 4 = .ok (.getfield 97, 3) := by decide +kernel
theorem dX11_ruleThatIsInForce_7 : decode cX11_ruleThatIsInForce 7 = .ok (.istore_n 1, 1) := by decide +kernel
theorem dX11_ruleThatIsInForce_8 : decode cX11_ruleThatIsInForce 8 = .ok (.iload_n 1, 1) := by decide +kernel
theorem dX11_ruleThatIsInForce_9 : decode cX11_ruleThatIsInForce 9 = .ok (.ifCond .lt 20, 3) := by decide +kernel
theorem dX11_ruleThatIsInForce_12 : decode cX11_ruleThatIsInForce 12 = .ok (.iload_n 1, 1) := by decide +kernel
theorem dX11_ruleThatIsInForce_13 : decode cX11_ruleThatIsInForce 13 = .ok (.aload_n 0, 1) := by decide +kernel
theorem dX11_ruleThatIsInForce_14 : decode cX11_ruleThatIsInForce 14 = .ok (.getfield 38, 3) := by decide +kernel
theorem dX11_ruleThatIsInForce_17 : decode cX11_ruleThatIsInForce 17 = .ok (.if_icmp .ge 12, 3) := by decide +kernel
theorem dX11_ruleThatIsInForce_20 : decode cX11_ruleThatIsInForce 20 = .ok (.aload_n 0, 1) := by decide +kernel
theorem dX11_ruleThatIsInForce_21 : decode cX11_ruleThatIsInForce 21 = .ok (.getfield 34, 3) := by decide +kernel
theorem dX11_ruleThatIsInForce_24 : decode cX11_ruleThatIsInForce 24 = .ok (.iload_n 1, 1) := by decide +kernel
theorem dX11_ruleThatIsInForce_25 : decode cX11_ruleThatIsInForce 25 = .ok (.aaload, 1) := by decide +kernel
theorem dX11_ruleThatIsInForce_26 : decode cX11_ruleThatIsInForce 26 = .ok (.goto 4, 3) := by decide +kernel
theorem dX11_ruleThatIsInForce_29 : decode cX11_ruleThatIsInForce 29 = .ok (.aconst_null, 1) := by decide +kernel
theorem dX11_ruleThatIsInForce_30 : decode cX11_ruleThatIsInForce 30 = .ok (.areturn, 1) := by decide +kernel
theorem dX11_startFromNow_0 : decode cX11_startFromNow 0 = .ok (.aload_n 0, 1) := by decide +kernel
theorem dX11_startFromNow_1 : decode cX11_startFromNow 1 = .ok (.getfield 56, 3) := by decide +kernel
theorem dX11_startFromNow_4 : decode cX11_startFromNow 4 = .ok (.aload_n 0, 1) := by decide +kernel
theorem dX11_startFromNow_5 : decode cX11_startFromNow 5 = .ok (.getfield 45, 3) := by decide +kernel
theorem dX11_startFromNow_8 : decode cX11_startFromNow 8 = .ok (.getfield 86, 3) := by decide +kernel
theorem dX11_startFromNow_11 : decode cX11_startFromNow 11 = .ok (.aload_n 0, 1) := by decide +kernel
theorem dX11_startFromNow_12 : decode cX11_startFromNow 12 = .ok (.invokevirtual 283, 3) := by decide +kernel
theorem dX11_startFromNow_15 : decode cX11_startFromNow 15 = .ok (.invokevirtual 286, 3) := by decide +kernel
theorem dX11_startFromNow_18 : decode cX11_startFromNow 18 = .ok (.aload_n 0, 1) := by decide +kernel
theorem dX11_startFromNow_19 : decode cX11_startFromNow 19 = .ok (.getfield 56, 3) := by decide +kernel
theorem dX11_startFromNow_22 : decode cX11_startFromNow 22 = .ok (.getfield 149, 3) := by decide +kernel
theorem dX11_startFromNow_25 : decode cX11_startFromNow 25 = .ok (.aload_n 0, 1) := by decide +kernel
theorem dX11_startFromNow_26 : decode cX11_startFromNow 26 = .ok (.getfield 45, 3) := by decide +kernel
theorem dX11_startFromNow_29 : decode cX11_startFromNow 29 = .ok (.getfield 104, 3) := by decide +kernel
theorem dX11_startFromNow_32 : decode cX11_startFromNow 32 = .ok (.invokevirtual 150, 3) := by decide +kernel
theorem dX11_startFromNow_35 : decode cX11_startFromNow 35 = .ok (.return_, 1) := by decide +kernel
theorem dX11_act_0 : decode cX11_act 0 = .ok (.aload_n 0, 1) := by decide +kernel
theorem dX11_act_1 : decode cX11_act 1 = .ok (.getfield 45, 3) := by decide +kernel
theorem dX11_act_4 : decode cX11_act 4 = .ok (.getfield 104, 3) := by decide +kernel
theorem dX11_act_7 : decode cX11_act 7 = .ok (.getfield 108, 3) := by decide +kernel
theorem dX11_act_10 : decode cX11_act 10 = .ok (.iload_n 1, 1) := by decide +kernel
theorem dX11_act_11 : decode cX11_act 11 = .ok (.iaload, 1) := by decide +kernel
theorem dX11_act_12 : decode cX11_act 12 = .ok (.istore 4, 2) := by decide +kernel
theorem dX11_act_14 : decode cX11_act 14 = .ok (.iload 4, 2) := by decide +kernel
theorem dX11_act_16 : decode cX11_act 16 = .ok (.iload_n 2, 1) := by decide +kernel
theorem dX11_act_17 : decode cX11_act 17 = .ok (.if_icmp .ne 5, 3) := by decide +kernel
theorem dX11_act_20 : decode cX11_act 20 = .ok (.iload_n 3, 1) := by decide +kernel
theorem dX11_act_21 : decode cX11_act 21 = .ok (.ireturn, 1) := by decide +kernel
theorem dX11_act_22 : decode cX11_act 22 = .ok (.aload_n 0, 1) := by decide +kernel
theorem dX11_act_23 : decode cX11_act 23 = .ok (.getfield 45, 3) := by decide +kernel
theorem dX11_act_26 : decode cX11_act 26 = .ok (.invokevirtual 140, 3) := by decide +kernel
theorem dX11_act_29 : decode cX11_act 29 = .ok (.aload_n 0, 1) := by decide +kernel
theorem dX11_act_30 : decode cX11_act 30 = .ok (.getfield 45, 3) := by decide +kernel
theorem dX11_act_33 : decode cX11_act 33 = .ok (.getfield 104, 3) := by decide +kernel
theorem dX11_act_36 : decode cX11_act 36 = .ok (.getfield 108, 3) := by decide +kernel
theorem dX11_act_39 : decode cX11_act 39 = .ok (.iload_n 1, 1) := by decide +kernel
theorem dX11_act_40 : decode cX11_act 40 = .ok (.iload_n 2, 1) := by decide +kernel
theorem dX11_act_41 : decode cX11_act 41 = .ok (.iastore, 1) := by decide +kernel
theorem dX11_act_42 : decode cX11_act 42 = .ok (.iload 4, 2) := by decide +kernel
theorem dX11_act_44 : decode cX11_act 44 = .ok (.ireturn, 1) := by decide +kernel
theorem dX11_habitOf_0 : decode cX11_habitOf 0 = .ok (.bipush 10, 2) := by decide +kernel
theorem dX11_habitOf_2 : decode cX11_habitOf 2 = .ok (.iload_n 0, 1) := by decide +kernel
theorem dX11_habitOf_3 : decode cX11_habitOf 3 = .ok (.imul, 1) := by decide +kernel
theorem dX11_habitOf_4 : decode cX11_habitOf 4 = .ok (.bipush 20, 2) := by decide +kernel
theorem dX11_habitOf_6 : decode cX11_habitOf 6 = .ok (.isub, 1) := by decide +kernel
theorem dX11_habitOf_7 : decode cX11_habitOf 7 = .ok (.ireturn, 1) := by decide +kernel
theorem dX11_habitsThatFit_0 : decode cX11_habitsThatFit 0 = .ok (.iconst 0, 1) := by decide +kernel
theorem dX11_habitsThatFit_1 : decode cX11_habitsThatFit 1 = .ok (.istore_n 2, 1) := by decide +kernel
theorem dX11_habitsThatFit_2 : decode cX11_habitsThatFit 2 = .ok (.iconst 0, 1) := by decide +kernel
theorem dX11_habitsThatFit_3 : decode cX11_habitsThatFit 3 = .ok (.istore_n 3, 1) := by decide +kernel
theorem dX11_habitsThatFit_4 : decode cX11_habitsThatFit 4 = .ok (.iload_n 3, 1) := by decide +kernel
theorem dX11_habitsThatFit_5 : decode cX11_habitsThatFit 5 = .ok (.bipush 9, 2) := by decide +kernel
theorem dX11_habitsThatFit_7 : decode cX11_habitsThatFit 7 = .ok (.if_icmp .ge 133, 3) := by decide +kernel
theorem dX11_habitsThatFit_10 : decode cX11_habitsThatFit 10 = .ok (.aload_n 0, 1) := by decide +kernel
theorem dX11_habitsThatFit_11 : decode cX11_habitsThatFit 11 = .ok (.getfield 56, 3) := by decide +kernel
theorem dX11_habitsThatFit_14 : decode cX11_habitsThatFit 14 = .ok (.aload_n 0, 1) := by decide +kernel
theorem dX11_habitsThatFit_15 : decode cX11_habitsThatFit 15 = .ok (.getfield 45, 3) := by decide +kernel
theorem dX11_habitsThatFit_18 : decode cX11_habitsThatFit 18 = .ok (.getfield 86, 3) := by decide +kernel
theorem dX11_habitsThatFit_21 : decode cX11_habitsThatFit 21 = .ok (.aload_n 0, 1) := by decide +kernel
theorem dX11_habitsThatFit_22 : decode cX11_habitsThatFit 22 = .ok (.invokevirtual 283, 3) := by decide +kernel
theorem dX11_habitsThatFit_25 : decode cX11_habitsThatFit 25 = .ok (.invokevirtual 286, 3) := by decide +kernel
theorem dX11_habitsThatFit_28 : decode cX11_habitsThatFit 28 = .ok (.aload_n 0, 1) := by decide +kernel
theorem dX11_habitsThatFit_29 : decode cX11_habitsThatFit 29 = .ok (.getfield 56, 3) := by decide +kernel
theorem dX11_habitsThatFit_32 : decode cX11_habitsThatFit 32 = .ok (.getfield 290, 3) := by decide +kernel
theorem dX11_habitsThatFit_35 : decode cX11_habitsThatFit 35 = .ok (.iload_n 1, 1) := by decide +kernel
theorem dX11_habitsThatFit_36 : decode cX11_habitsThatFit 36 = .ok (.iload_n 3, 1) := by decide +kernel
theorem dX11_habitsThatFit_37 : decode cX11_habitsThatFit 37 = .ok (.invokestatic 255, 3) := by decide +kernel
theorem dX11_habitsThatFit_40 : decode cX11_habitsThatFit 40 = .ok (.iastore, 1) := by decide +kernel
theorem dX11_habitsThatFit_41 : decode cX11_habitsThatFit 41 = .ok (.aload_n 0, 1) := by decide +kernel
theorem dX11_habitsThatFit_42 : decode cX11_habitsThatFit 42 = .ok (.getfield 56, 3) := by decide +kernel
theorem dX11_habitsThatFit_45 : decode cX11_habitsThatFit 45 = .ok (.getfield 149, 3) := by decide +kernel
theorem dX11_habitsThatFit_48 : decode cX11_habitsThatFit 48 = .ok (.aload_n 0, 1) := by decide +kernel
theorem dX11_habitsThatFit_49 : decode cX11_habitsThatFit 49 = .ok (.getfield 45, 3) := by decide +kernel
theorem dX11_habitsThatFit_52 : decode cX11_habitsThatFit 52 = .ok (.getfield 86, 3) := by decide +kernel
theorem dX11_habitsThatFit_55 : decode cX11_habitsThatFit 55 = .ok (.aload_n 0, 1) := by decide +kernel
theorem dX11_habitsThatFit_56 : decode cX11_habitsThatFit 56 = .ok (.getfield 56, 3) := by decide +kernel
theorem dX11_habitsThatFit_59 : decode cX11_habitsThatFit 59 = .ok (.getfield 290, 3) := by decide +kernel
theorem dX11_habitsThatFit_62 : decode cX11_habitsThatFit 62 = .ok (.invokevirtual 291, 3) := by decide +kernel
theorem dX11_habitsThatFit_65 : decode cX11_habitsThatFit 65 = .ok (.iconst 0, 1) := by decide +kernel
theorem dX11_habitsThatFit_66 : decode cX11_habitsThatFit 66 = .ok (.istore 4, 2) := by decide +kernel
theorem dX11_habitsThatFit_68 : decode cX11_habitsThatFit 68 = .ok (.iload 4, 2) := by decide +kernel
theorem dX11_habitsThatFit_70 : decode cX11_habitsThatFit 70 = .ok (.bipush 30, 2) := by decide +kernel
theorem dX11_habitsThatFit_72 : decode cX11_habitsThatFit 72 = .ok (.if_icmp .gt 40, 3) := by decide +kernel
theorem dX11_habitsThatFit_75 : decode cX11_habitsThatFit 75 = .ok (.aload_n 0, 1) := by decide +kernel
theorem dX11_habitsThatFit_76 : decode cX11_habitsThatFit 76 = .ok (.getfield 56, 3) := by decide +kernel
theorem dX11_habitsThatFit_79 : decode cX11_habitsThatFit 79 = .ok (.invokevirtual 146, 3) := by decide +kernel
theorem dX11_habitsThatFit_82 : decode cX11_habitsThatFit 82 = .ok (.aload_n 0, 1) := by decide +kernel
theorem dX11_habitsThatFit_83 : decode cX11_habitsThatFit 83 = .ok (.getfield 63, 3) := by decide +kernel
theorem dX11_habitsThatFit_86 : decode cX11_habitsThatFit 86 = .ok (.iload_n 3, 1) := by decide +kernel
theorem dX11_habitsThatFit_87 : decode cX11_habitsThatFit 87 = .ok (.iload 4, 2) := by decide +kernel
theorem dX11_habitsThatFit_89 : decode cX11_habitsThatFit 89 = .ok (.aload_n 0, 1) := by decide +kernel
theorem dX11_habitsThatFit_90 : decode cX11_habitsThatFit 90 = .ok (.getfield 56, 3) := by decide +kernel
theorem dX11_habitsThatFit_93 : decode cX11_habitsThatFit 93 = .ok (.getfield 149, 3) := by decide +kernel
theorem dX11_habitsThatFit_96 : decode cX11_habitsThatFit 96 = .ok (.getfield 108, 3) := by decide +kernel
theorem dX11_habitsThatFit_99 : decode cX11_habitsThatFit 99 = .ok (.iconst 5, 1) := by decide +kernel
theorem dX11_habitsThatFit_100 : decode cX11_habitsThatFit 100 = .ok (.iload_n 1, 1) := by decide +kernel
theorem dX11_habitsThatFit_101 : decode cX11_habitsThatFit 101 = .ok (.iadd, 1) := by decide +kernel
theorem dX11_habitsThatFit_102 : decode cX11_habitsThatFit 102 = .ok (.iaload, 1) := by decide +kernel
theorem dX11_habitsThatFit_103 : decode cX11_habitsThatFit 103 = .ok (.invokevirtual 295, 3) := by decide +kernel
theorem dX11_habitsThatFit_106 : decode cX11_habitsThatFit 106 = .ok (.iinc 4 1, 3) := by decide +kernel
theorem dX11_habitsThatFit_109 : decode cX11_habitsThatFit 109 = .ok (.goto (-41), 3) := by decide +kernel
theorem dX11_habitsThatFit_112 : decode cX11_habitsThatFit 112 = .ok (.aload_n 0, 1) := by decide +kernel
theorem dX11_habitsThatFit_113 : decode cX11_habitsThatFit 113 = .ok (.getfield 63, 3) := by decide +kernel
theorem dX11_habitsThatFit_116 : decode cX11_habitsThatFit 116 = .ok (.iload_n 3, 1) := by decide +kernel
theorem dX11_habitsThatFit_117 : decode cX11_habitsThatFit 117 = .ok (.iload_n 1, 1) := by decide +kernel
theorem dX11_habitsThatFit_118 : decode cX11_habitsThatFit 118 = .ok (.aload_n 0, 1) := by decide +kernel
theorem dX11_habitsThatFit_119 : decode cX11_habitsThatFit 119 = .ok (.getfield 45, 3) := by decide +kernel
theorem dX11_habitsThatFit_122 : decode cX11_habitsThatFit 122 = .ok (.invokevirtual 298, 3) := by decide +kernel
theorem dX11_habitsThatFit_125 : decode cX11_habitsThatFit 125 = .ok (.ifCond .eq 9, 3) := by decide +kernel
theorem dX11_habitsThatFit_128 : decode cX11_habitsThatFit 128 = .ok (.iload_n 2, 1) := by decide +kernel
theorem dX11_habitsThatFit_129 : decode cX11_habitsThatFit 129 = .ok (.iconst 1, 1) := by decide +kernel
theorem dX11_habitsThatFit_130 : decode cX11_habitsThatFit 130 = .ok (.iload_n 3, 1) := by decide +kernel
theorem dX11_habitsThatFit_131 : decode cX11_habitsThatFit 131 = .ok (.ishl, 1) := by decide +kernel
theorem dX11_habitsThatFit_132 : decode cX11_habitsThatFit 132 = .ok (.ior, 1) := by decide +kernel
theorem dX11_habitsThatFit_133 : decode cX11_habitsThatFit 133 = .ok (.istore_n 2, 1) := by decide +kernel
theorem dX11_habitsThatFit_134 : decode cX11_habitsThatFit 134 = .ok (.iinc 3 1, 3) := by decide +kernel
theorem dX11_habitsThatFit_137 : decode cX11_habitsThatFit 137 = .ok (.goto (-133), 3) := by decide +kernel
theorem dX11_habitsThatFit_140 : decode cX11_habitsThatFit 140 = .ok (.iload_n 2, 1) := by decide +kernel
theorem dX11_habitsThatFit_141 : decode cX11_habitsThatFit 141 = .ok (.ireturn, 1) := by decide +kernel
theorem dJ6_bitCount_0f7a4_0 : decode cJ6_bitCount_0f7a4 0 = .ok (.iload_n 0, 1) := by decide +kernel
theorem dJ6_bitCount_0f7a4_1 : decode cJ6_bitCount_0f7a4 1 = .ok (.iload_n 0, 1) := by decide +kernel
theorem dJ6_bitCount_0f7a4_2 : decode cJ6_bitCount_0f7a4 2 = .ok (.iconst 1, 1) := by decide +kernel
theorem dJ6_bitCount_0f7a4_3 : decode cJ6_bitCount_0f7a4 3 = .ok (.iushr, 1) := by decide +kernel
theorem dJ6_bitCount_0f7a4_4 : decode cJ6_bitCount_0f7a4 4 = .ok (.ldc_w 265, 3) := by decide +kernel
theorem dJ6_bitCount_0f7a4_7 : decode cJ6_bitCount_0f7a4 7 = .ok (.iand, 1) := by decide +kernel
theorem dJ6_bitCount_0f7a4_8 : decode cJ6_bitCount_0f7a4 8 = .ok (.isub, 1) := by decide +kernel
theorem dJ6_bitCount_0f7a4_9 : decode cJ6_bitCount_0f7a4 9 = .ok (.istore_n 0, 1) := by decide +kernel
theorem dJ6_bitCount_0f7a4_10 : decode cJ6_bitCount_0f7a4 10 = .ok (.iload_n 0, 1) := by decide +kernel
theorem dJ6_bitCount_0f7a4_11 : decode cJ6_bitCount_0f7a4 11 = .ok (.ldc_w 266, 3) := by decide +kernel
theorem dJ6_bitCount_0f7a4_14 : decode cJ6_bitCount_0f7a4 14 = .ok (.iand, 1) := by decide +kernel
theorem dJ6_bitCount_0f7a4_15 : decode cJ6_bitCount_0f7a4 15 = .ok (.iload_n 0, 1) := by decide +kernel
theorem dJ6_bitCount_0f7a4_16 : decode cJ6_bitCount_0f7a4 16 = .ok (.iconst 2, 1) := by decide +kernel
theorem dJ6_bitCount_0f7a4_17 : decode cJ6_bitCount_0f7a4 17 = .ok (.iushr, 1) := by decide +kernel
theorem dJ6_bitCount_0f7a4_18 : decode cJ6_bitCount_0f7a4 18 = .ok (.ldc_w 266, 3) := by decide +kernel
theorem dJ6_bitCount_0f7a4_21 : decode cJ6_bitCount_0f7a4 21 = .ok (.iand, 1) := by decide +kernel
theorem dJ6_bitCount_0f7a4_22 : decode cJ6_bitCount_0f7a4 22 = .ok (.iadd, 1) := by decide +kernel
theorem dJ6_bitCount_0f7a4_23 : decode cJ6_bitCount_0f7a4 23 = .ok (.istore_n 0, 1) := by decide +kernel
theorem dJ6_bitCount_0f7a4_24 : decode cJ6_bitCount_0f7a4 24 = .ok (.iload_n 0, 1) := by decide +kernel
theorem dJ6_bitCount_0f7a4_25 : decode cJ6_bitCount_0f7a4 25 = .ok (.iload_n 0, 1) := by decide +kernel
theorem dJ6_bitCount_0f7a4_26 : decode cJ6_bitCount_0f7a4 26 = .ok (.iconst 4, 1) := by decide +kernel
theorem dJ6_bitCount_0f7a4_27 : decode cJ6_bitCount_0f7a4 27 = .ok (.iushr, 1) := by decide +kernel
theorem dJ6_bitCount_0f7a4_28 : decode cJ6_bitCount_0f7a4 28 = .ok (.iadd, 1) := by decide +kernel
theorem dJ6_bitCount_0f7a4_29 : decode cJ6_bitCount_0f7a4 29 = .ok (.ldc_w 267, 3) := by decide +kernel
theorem dJ6_bitCount_0f7a4_32 : decode cJ6_bitCount_0f7a4 32 = .ok (.iand, 1) := by decide +kernel
theorem dJ6_bitCount_0f7a4_33 : decode cJ6_bitCount_0f7a4 33 = .ok (.istore_n 0, 1) := by decide +kernel
theorem dJ6_bitCount_0f7a4_34 : decode cJ6_bitCount_0f7a4 34 = .ok (.iload_n 0, 1) := by decide +kernel
theorem dJ6_bitCount_0f7a4_35 : decode cJ6_bitCount_0f7a4 35 = .ok (.iload_n 0, 1) := by decide +kernel
theorem dJ6_bitCount_0f7a4_36 : decode cJ6_bitCount_0f7a4 36 = .ok (.bipush 8, 2) := by decide +kernel
theorem dJ6_bitCount_0f7a4_38 : decode cJ6_bitCount_0f7a4 38 = .ok (.iushr, 1) := by decide +kernel
theorem dJ6_bitCount_0f7a4_39 : decode cJ6_bitCount_0f7a4 39 = .ok (.iadd, 1) := by decide +kernel
theorem dJ6_bitCount_0f7a4_40 : decode cJ6_bitCount_0f7a4 40 = .ok (.istore_n 0, 1) := by decide +kernel
theorem dJ6_bitCount_0f7a4_41 : decode cJ6_bitCount_0f7a4 41 = .ok (.iload_n 0, 1) := by decide +kernel
theorem dJ6_bitCount_0f7a4_42 : decode cJ6_bitCount_0f7a4 42 = .ok (.iload_n 0, 1) := by decide +kernel
theorem dJ6_bitCount_0f7a4_43 : decode cJ6_bitCount_0f7a4 43 = .ok (.bipush 16, 2) := by decide +kernel
theorem dJ6_bitCount_0f7a4_45 : decode cJ6_bitCount_0f7a4 45 = .ok (.iushr, 1) := by decide +kernel
theorem dJ6_bitCount_0f7a4_46 : decode cJ6_bitCount_0f7a4 46 = .ok (.iadd, 1) := by decide +kernel
theorem dJ6_bitCount_0f7a4_47 : decode cJ6_bitCount_0f7a4 47 = .ok (.istore_n 0, 1) := by decide +kernel
theorem dJ6_bitCount_0f7a4_48 : decode cJ6_bitCount_0f7a4 48 = .ok (.iload_n 0, 1) := by decide +kernel
theorem dJ6_bitCount_0f7a4_49 : decode cJ6_bitCount_0f7a4 49 = .ok (.bipush 63, 2) := by decide +kernel
theorem dJ6_bitCount_0f7a4_51 : decode cJ6_bitCount_0f7a4 51 = .ok (.iand, 1) := by decide +kernel
theorem dJ6_bitCount_0f7a4_52 : decode cJ6_bitCount_0f7a4 52 = .ok (.ireturn, 1) := by decide +kernel
theorem dJ9_abs_0f7a4_0 : decode cJ9_abs_0f7a4 0 = .ok (.iload_n 0, 1) := by decide +kernel
theorem dJ9_abs_0f7a4_1 : decode cJ9_abs_0f7a4 1 = .ok (.ifCond .ge 8, 3) := by decide +kernel
theorem dJ9_abs_0f7a4_4 : decode cJ9_abs_0f7a4 4 = .ok (.iload_n 0, 1) := by decide +kernel
theorem dJ9_abs_0f7a4_5 : decode cJ9_abs_0f7a4 5 = .ok (.ineg, 1) := by decide +kernel
theorem dJ9_abs_0f7a4_6 : decode cJ9_abs_0f7a4 6 = .ok (.goto 4, 3) := by decide +kernel
theorem dJ9_abs_0f7a4_9 : decode cJ9_abs_0f7a4 9 = .ok (.iload_n 0, 1) := by decide +kernel
theorem dJ9_abs_0f7a4_10 : decode cJ9_abs_0f7a4 10 = .ok (.ireturn, 1) := by decide +kernel
theorem dJ9_max_7cf53_0 : decode cJ9_max_7cf53 0 = .ok (.iload_n 0, 1) := by decide +kernel
theorem dJ9_max_7cf53_1 : decode cJ9_max_7cf53 1 = .ok (.iload_n 1, 1) := by decide +kernel
theorem dJ9_max_7cf53_2 : decode cJ9_max_7cf53 2 = .ok (.if_icmp .lt 7, 3) := by decide +kernel
theorem dJ9_max_7cf53_5 : decode cJ9_max_7cf53 5 = .ok (.iload_n 0, 1) := by decide +kernel
theorem dJ9_max_7cf53_6 : decode cJ9_max_7cf53 6 = .ok (.goto 4, 3) := by decide +kernel
theorem dJ9_max_7cf53_9 : decode cJ9_max_7cf53 9 = .ok (.iload_n 1, 1) := by decide +kernel
theorem dJ9_max_7cf53_10 : decode cJ9_max_7cf53 10 = .ok (.ireturn, 1) := by decide +kernel
theorem dJ9_max_f86c9_0 : decode cJ9_max_f86c9 0 = .ok (.lload_n 0, 1) := by decide +kernel
theorem dJ9_max_f86c9_1 : decode cJ9_max_f86c9 1 = .ok (.lload_n 2, 1) := by decide +kernel
theorem dJ9_max_f86c9_2 : decode cJ9_max_f86c9 2 = .ok (.lcmp, 1) := by decide +kernel
theorem dJ9_max_f86c9_3 : decode cJ9_max_f86c9 3 = .ok (.ifCond .lt 7, 3) := by decide +kernel
theorem dJ9_max_f86c9_6 : decode cJ9_max_f86c9 6 = .ok (.lload_n 0, 1) := by decide +kernel
theorem dJ9_max_f86c9_7 : decode cJ9_max_f86c9 7 = .ok (.goto 4, 3) := by decide +kernel
theorem dJ9_max_f86c9_10 : decode cJ9_max_f86c9 10 = .ok (.lload_n 2, 1) := by decide +kernel
theorem dJ9_max_f86c9_11 : decode cJ9_max_f86c9 11 = .ok (.lreturn, 1) := by decide +kernel
theorem dJ9_min_7cf53_0 : decode cJ9_min_7cf53 0 = .ok (.iload_n 0, 1) := by decide +kernel
theorem dJ9_min_7cf53_1 : decode cJ9_min_7cf53 1 = .ok (.iload_n 1, 1) := by decide +kernel
theorem dJ9_min_7cf53_2 : decode cJ9_min_7cf53 2 = .ok (.if_icmp .gt 7, 3) := by decide +kernel
theorem dJ9_min_7cf53_5 : decode cJ9_min_7cf53 5 = .ok (.iload_n 0, 1) := by decide +kernel
theorem dJ9_min_7cf53_6 : decode cJ9_min_7cf53 6 = .ok (.goto 4, 3) := by decide +kernel
theorem dJ9_min_7cf53_9 : decode cJ9_min_7cf53 9 = .ok (.iload_n 1, 1) := by decide +kernel
theorem dJ9_min_7cf53_10 : decode cJ9_min_7cf53 10 = .ok (.ireturn, 1) := by decide +kernel
theorem dJ9_min_f86c9_0 : decode cJ9_min_f86c9 0 = .ok (.lload_n 0, 1) := by decide +kernel
theorem dJ9_min_f86c9_1 : decode cJ9_min_f86c9 1 = .ok (.lload_n 2, 1) := by decide +kernel
theorem dJ9_min_f86c9_2 : decode cJ9_min_f86c9 2 = .ok (.lcmp, 1) := by decide +kernel
theorem dJ9_min_f86c9_3 : decode cJ9_min_f86c9 3 = .ok (.ifCond .gt 7, 3) := by decide +kernel
theorem dJ9_min_f86c9_6 : decode cJ9_min_f86c9 6 = .ok (.lload_n 0, 1) := by decide +kernel
theorem dJ9_min_f86c9_7 : decode cJ9_min_f86c9 7 = .ok (.goto 4, 3) := by decide +kernel
theorem dJ9_min_f86c9_10 : decode cJ9_min_f86c9 10 = .ok (.lload_n 2, 1) := by decide +kernel
theorem dJ9_min_f86c9_11 : decode cJ9_min_f86c9 11 = .ok (.lreturn, 1) := by decide +kernel
theorem dJ0_length_8abf5_0 : decode cJ0_length_8abf5 0 = .ok (.aload_n 0, 1) := by decide +kernel
theorem dJ0_length_8abf5_1 : decode cJ0_length_8abf5 1 = .ok (.getfield 9, 3) := by decide +kernel
theorem dJ0_length_8abf5_4 : decode cJ0_length_8abf5 4 = .ok (.arraylength, 1) := by decide +kernel
theorem dJ0_length_8abf5_5 : decode cJ0_length_8abf5 5 = .ok (.aload_n 0, 1) := by decide +kernel
theorem dJ0_length_8abf5_6 : decode cJ0_length_8abf5 6 = .ok (.invokevirtual 335, 3) := by decide +kernel
theorem dJ0_length_8abf5_9 : decode cJ0_length_8abf5 9 = .ok (.ishr, 1) := by decide +kernel
theorem dJ0_length_8abf5_10 : decode cJ0_length_8abf5 10 = .ok (.ireturn, 1) := by decide +kernel
theorem dJ0_charAt_5068e_0 : decode cJ0_charAt_5068e 0 = .ok (.aload_n 0, 1) := by decide +kernel
theorem dJ0_charAt_5068e_1 : decode cJ0_charAt_5068e 1 = .ok (.invokevirtual 492, 3) := by decide +kernel
theorem dJ0_charAt_5068e_4 : decode cJ0_charAt_5068e 4 = .ok (.ifCond .eq 12, 3) := by decide +kernel
theorem dJ0_charAt_5068e_7 : decode cJ0_charAt_5068e 7 = .ok (.aload_n 0, 1) := by decide +kernel
theorem dJ0_charAt_5068e_8 : decode cJ0_charAt_5068e 8 = .ok (.getfield 9, 3) := by decide +kernel
theorem dJ0_charAt_5068e_11 : decode cJ0_charAt_5068e 11 = .ok (.iload_n 1, 1) := by decide +kernel
theorem dJ0_charAt_5068e_12 : decode cJ0_charAt_5068e 12 = .ok (.invokestatic 495, 3) := by decide +kernel
theorem dJ0_charAt_5068e_15 : decode cJ0_charAt_5068e 15 = .ok (.ireturn, 1) := by decide +kernel
theorem dJ0_charAt_5068e_16 : decode cJ0_charAt_5068e 16 = .ok (.aload_n 0, 1) := by decide +kernel
theorem dJ0_charAt_5068e_17 : decode cJ0_charAt_5068e 17 = .ok (.getfield 9, 3) := by decide +kernel
theorem dJ0_charAt_5068e_20 : decode cJ0_charAt_5068e 20 = .ok (.iload_n 1, 1) := by decide +kernel
theorem dJ0_charAt_5068e_21 : decode cJ0_charAt_5068e 21 = .ok (.invokestatic 498, 3) := by decide +kernel
theorem dJ0_charAt_5068e_24 : decode cJ0_charAt_5068e 24 = .ok (.ireturn, 1) := by decide +kernel
theorem dJ0_coder_7d493_0 : decode cJ0_coder_7d493 0 = .ok (.getstatic 38, 3) := by decide +kernel
theorem dJ0_coder_7d493_3 : decode cJ0_coder_7d493 3 = .ok (.ifCond .eq 10, 3) := by decide +kernel
theorem dJ0_coder_7d493_6 : decode cJ0_coder_7d493 6 = .ok (.aload_n 0, 1) := by decide +kernel
theorem dJ0_coder_7d493_7 : decode cJ0_coder_7d493 7 = .ok (.getfield 15, 3) := by decide +kernel
theorem dJ0_coder_7d493_10 : decode cJ0_coder_7d493 10 = .ok (.goto 4, 3) := by decide +kernel
theorem dJ0_coder_7d493_13 : decode cJ0_coder_7d493 13 = .ok (.iconst 1, 1) := by decide +kernel
theorem dJ0_coder_7d493_14 : decode cJ0_coder_7d493 14 = .ok (.ireturn, 1) := by decide +kernel
theorem dJ0_isLatin1_aae02_0 : decode cJ0_isLatin1_aae02 0 = .ok (.getstatic 38, 3) := by decide +kernel
theorem dJ0_isLatin1_aae02_3 : decode cJ0_isLatin1_aae02 3 = .ok (.ifCond .eq 14, 3) := by decide +kernel
theorem dJ0_isLatin1_aae02_6 : decode cJ0_isLatin1_aae02 6 = .ok (.aload_n 0, 1) := by decide +kernel
theorem dJ0_isLatin1_aae02_7 : decode cJ0_isLatin1_aae02 7 = .ok (.getfield 15, 3) := by decide +kernel
theorem dJ0_isLatin1_aae02_10 : decode cJ0_isLatin1_aae02 10 = .ok (.ifCond .ne 7, 3) := by decide +kernel
theorem dJ0_isLatin1_aae02_13 : decode cJ0_isLatin1_aae02 13 = .ok (.iconst 1, 1) := by decide +kernel
theorem dJ0_isLatin1_aae02_14 : decode cJ0_isLatin1_aae02 14 = .ok (.goto 4, 3) := by decide +kernel
theorem dJ0_isLatin1_aae02_17 : decode cJ0_isLatin1_aae02 17 = .ok (.iconst 0, 1) := by decide +kernel
theorem dJ0_isLatin1_aae02_18 : decode cJ0_isLatin1_aae02 18 = .ok (.ireturn, 1) := by decide +kernel
theorem dJ0_checkIndex_df160_0 : decode cJ0_checkIndex_df160 0 = .ok (.iload_n 0, 1) := by decide +kernel
theorem dJ0_checkIndex_df160_1 : decode cJ0_checkIndex_df160 1 = .ok (.iload_n 1, 1) := by decide +kernel
theorem dJ0_checkIndex_df160_2 : decode cJ0_checkIndex_df160 2 = .ok (.getstatic 1053, 3) := by decide +kernel
theorem dJ0_checkIndex_df160_5 : decode cJ0_checkIndex_df160 5 = .ok (.invokestatic 1059, 3) := by decide +kernel
theorem dJ0_checkIndex_df160_8 : decode cJ0_checkIndex_df160 8 = .ok (.pop, 1) := by decide +kernel
theorem dJ0_checkIndex_df160_9 : decode cJ0_checkIndex_df160 9 = .ok (.return_, 1) := by decide +kernel
theorem dJ1_charAt_3b067_0 : decode cJ1_charAt_3b067 0 = .ok (.iload_n 1, 1) := by decide +kernel
theorem dJ1_charAt_3b067_1 : decode cJ1_charAt_3b067 1 = .ok (.aload_n 0, 1) := by decide +kernel
theorem dJ1_charAt_3b067_2 : decode cJ1_charAt_3b067 2 = .ok (.arraylength, 1) := by decide +kernel
theorem dJ1_charAt_3b067_3 : decode cJ1_charAt_3b067 3 = .ok (.invokestatic 9, 3) := by decide +kernel
theorem dJ1_charAt_3b067_6 : decode cJ1_charAt_3b067 6 = .ok (.aload_n 0, 1) := by decide +kernel
theorem dJ1_charAt_3b067_7 : decode cJ1_charAt_3b067 7 = .ok (.iload_n 1, 1) := by decide +kernel
theorem dJ1_charAt_3b067_8 : decode cJ1_charAt_3b067 8 = .ok (.baload, 1) := by decide +kernel
theorem dJ1_charAt_3b067_9 : decode cJ1_charAt_3b067 9 = .ok (.sipush 255, 3) := by decide +kernel
theorem dJ1_charAt_3b067_12 : decode cJ1_charAt_3b067 12 = .ok (.iand, 1) := by decide +kernel
theorem dJ1_charAt_3b067_13 : decode cJ1_charAt_3b067 13 = .ok (.i2c, 1) := by decide +kernel
theorem dJ1_charAt_3b067_14 : decode cJ1_charAt_3b067 14 = .ok (.ireturn, 1) := by decide +kernel
theorem dJ2_getChar_3b067_0 : decode cJ2_getChar_3b067 0 = .ok (.getstatic 44, 3) := by decide +kernel
theorem dJ2_getChar_3b067_3 : decode cJ2_getChar_3b067 3 = .ok (.ifCond .ne 25, 3) := by decide +kernel
theorem dJ2_getChar_3b067_6 : decode cJ2_getChar_3b067 6 = .ok (.iload_n 1, 1) := by decide +kernel
theorem dJ2_getChar_3b067_7 : decode cJ2_getChar_3b067 7 = .ok (.ifCond .lt 11, 3) := by decide +kernel
theorem dJ2_getChar_3b067_10 : decode cJ2_getChar_3b067 10 = .ok (.iload_n 1, 1) := by decide +kernel
theorem dJ2_getChar_3b067_11 : decode cJ2_getChar_3b067 11 = .ok (.aload_n 0, 1) := by decide +kernel
theorem dJ2_getChar_3b067_12 : decode cJ2_getChar_3b067 12 = .ok (.invokestatic 48, 3) := by decide +kernel
theorem dJ2_getChar_3b067_15 : decode cJ2_getChar_3b067 15 = .ok (.if_icmp .lt 13, 3) := by decide +kernel
theorem dJ2_getChar_3b067_18 : decode cJ2_getChar_3b067 18 = .ok (.new 52, 3) := by decide +kernel
theorem dJ2_getChar_3b067_21 : decode cJ2_getChar_3b067 21 = .ok (.dup, 1) := by decide +kernel
theorem dJ2_getChar_3b067_22 : decode cJ2_getChar_3b067 22 = .ok (.ldc 54, 2) := by decide +kernel
theorem dJ2_getChar_3b067_24 : decode cJ2_getChar_3b067 24 = .ok (.invokespecial 56, 3) := by decide +kernel
theorem dJ2_getChar_3b067_27 : decode cJ2_getChar_3b067 27 = .ok (.athrow, 1) := by decide +kernel
theorem dJ2_getChar_3b067_28 : decode cJ2_getChar_3b067 28 = .ok (.iload_n 1, 1) := by decide +kernel
theorem dJ2_getChar_3b067_29 : decode cJ2_getChar_3b067 29 = .ok (.iconst 1, 1) := by decide +kernel
theorem dJ2_getChar_3b067_30 : decode cJ2_getChar_3b067 30 = .ok (.ishl, 1) := by decide +kernel
theorem dJ2_getChar_3b067_31 : decode cJ2_getChar_3b067 31 = .ok (.istore_n 1, 1) := by decide +kernel
theorem dJ2_getChar_3b067_32 : decode cJ2_getChar_3b067 32 = .ok (.aload_n 0, 1) := by decide +kernel
theorem dJ2_getChar_3b067_33 : decode cJ2_getChar_3b067 33 = .ok (.iload_n 1, 1) := by decide +kernel
theorem dJ2_getChar_3b067_34 : decode cJ2_getChar_3b067 34 = .ok (.iinc 1 1, 3) := by decide +kernel
theorem dJ2_getChar_3b067_37 : decode cJ2_getChar_3b067 37 = .ok (.baload, 1) := by decide +kernel
theorem dJ2_getChar_3b067_38 : decode cJ2_getChar_3b067 38 = .ok (.sipush 255, 3) := by decide +kernel
theorem dJ2_getChar_3b067_41 : decode cJ2_getChar_3b067 41 = .ok (.iand, 1) := by decide +kernel
theorem dJ2_getChar_3b067_42 : decode cJ2_getChar_3b067 42 = .ok (.getstatic 59, 3) := by decide +kernel
theorem dJ2_getChar_3b067_45 : decode cJ2_getChar_3b067 45 = .ok (.ishl, 1) := by decide +kernel
theorem dJ2_getChar_3b067_46 : decode cJ2_getChar_3b067 46 = .ok (.aload_n 0, 1) := by decide +kernel
theorem dJ2_getChar_3b067_47 : decode cJ2_getChar_3b067 47 = .ok (.iload_n 1, 1) := by decide +kernel
theorem dJ2_getChar_3b067_48 : decode cJ2_getChar_3b067 48 = .ok (.baload, 1) := by decide +kernel
theorem dJ2_getChar_3b067_49 : decode cJ2_getChar_3b067 49 = .ok (.sipush 255, 3) := by decide +kernel
theorem dJ2_getChar_3b067_52 : decode cJ2_getChar_3b067 52 = .ok (.iand, 1) := by decide +kernel
theorem dJ2_getChar_3b067_53 : decode cJ2_getChar_3b067 53 = .ok (.getstatic 63, 3) := by decide +kernel
theorem dJ2_getChar_3b067_56 : decode cJ2_getChar_3b067 56 = .ok (.ishl, 1) := by decide +kernel
theorem dJ2_getChar_3b067_57 : decode cJ2_getChar_3b067 57 = .ok (.ior, 1) := by decide +kernel
theorem dJ2_getChar_3b067_58 : decode cJ2_getChar_3b067 58 = .ok (.i2c, 1) := by decide +kernel
theorem dJ2_getChar_3b067_59 : decode cJ2_getChar_3b067 59 = .ok (.ireturn, 1) := by decide +kernel
theorem dJ2_length_9d52b_0 : decode cJ2_length_9d52b 0 = .ok (.aload_n 0, 1) := by decide +kernel
theorem dJ2_length_9d52b_1 : decode cJ2_length_9d52b 1 = .ok (.arraylength, 1) := by decide +kernel
theorem dJ2_length_9d52b_2 : decode cJ2_length_9d52b 2 = .ok (.iconst 1, 1) := by decide +kernel
theorem dJ2_length_9d52b_3 : decode cJ2_length_9d52b 3 = .ok (.ishr, 1) := by decide +kernel
theorem dJ2_length_9d52b_4 : decode cJ2_length_9d52b 4 = .ok (.ireturn, 1) := by decide +kernel
theorem dJ2_charAt_3b067_0 : decode cJ2_charAt_3b067 0 = .ok (.iload_n 1, 1) := by decide +kernel
theorem dJ2_charAt_3b067_1 : decode cJ2_charAt_3b067 1 = .ok (.aload_n 0, 1) := by decide +kernel
theorem dJ2_charAt_3b067_2 : decode cJ2_charAt_3b067 2 = .ok (.invokestatic 67, 3) := by decide +kernel
theorem dJ2_charAt_3b067_5 : decode cJ2_charAt_3b067 5 = .ok (.aload_n 0, 1) := by decide +kernel
theorem dJ2_charAt_3b067_6 : decode cJ2_charAt_3b067 6 = .ok (.iload_n 1, 1) := by decide +kernel
theorem dJ2_charAt_3b067_7 : decode cJ2_charAt_3b067 7 = .ok (.invokestatic 71, 3) := by decide +kernel
theorem dJ2_charAt_3b067_10 : decode cJ2_charAt_3b067 10 = .ok (.ireturn, 1) := by decide +kernel
theorem dJ2_checkIndex_2214a_0 : decode cJ2_checkIndex_2214a 0 = .ok (.iload_n 0, 1) := by decide +kernel
theorem dJ2_checkIndex_2214a_1 : decode cJ2_checkIndex_2214a 1 = .ok (.aload_n 1, 1) := by decide +kernel
theorem dJ2_checkIndex_2214a_2 : decode cJ2_checkIndex_2214a 2 = .ok (.invokestatic 48, 3) := by decide +kernel
theorem dJ2_checkIndex_2214a_5 : decode cJ2_checkIndex_2214a 5 = .ok (.invokestatic 414, 3) := by decide +kernel
theorem dJ2_checkIndex_2214a_8 : decode cJ2_checkIndex_2214a 8 = .ok (.return_, 1) := by decide +kernel
theorem dJ7_fill_53178_0 : decode cJ7_fill_53178 0 = .ok (.iconst 0, 1) := by decide +kernel
theorem dJ7_fill_53178_1 : decode cJ7_fill_53178 1 = .ok (.istore_n 2, 1) := by decide +kernel
theorem dJ7_fill_53178_2 : decode cJ7_fill_53178 2 = .ok (.aload_n 0, 1) := by decide +kernel
theorem dJ7_fill_53178_3 : decode cJ7_fill_53178 3 = .ok (.arraylength, 1) := by decide +kernel
theorem dJ7_fill_53178_4 : decode cJ7_fill_53178 4 = .ok (.istore_n 3, 1) := by decide +kernel
theorem dJ7_fill_53178_5 : decode cJ7_fill_53178 5 = .ok (.iload_n 2, 1) := by decide +kernel
theorem dJ7_fill_53178_6 : decode cJ7_fill_53178 6 = .ok (.iload_n 3, 1) := by decide +kernel
theorem dJ7_fill_53178_7 : decode cJ7_fill_53178 7 = .ok (.if_icmp .ge 13, 3) := by decide +kernel
theorem dJ7_fill_53178_10 : decode cJ7_fill_53178 10 = .ok (.aload_n 0, 1) := by decide +kernel
theorem dJ7_fill_53178_11 : decode cJ7_fill_53178 11 = .ok (.iload_n 2, 1) := by decide +kernel
theorem dJ7_fill_53178_12 : decode cJ7_fill_53178 12 = .ok (.iload_n 1, 1) := by decide +kernel
theorem dJ7_fill_53178_13 : decode cJ7_fill_53178 13 = .ok (.iastore, 1) := by decide +kernel
theorem dJ7_fill_53178_14 : decode cJ7_fill_53178 14 = .ok (.iinc 2 1, 3) := by decide +kernel
theorem dJ7_fill_53178_17 : decode cJ7_fill_53178 17 = .ok (.goto (-12), 3) := by decide +kernel
theorem dJ7_fill_53178_20 : decode cJ7_fill_53178 20 = .ok (.return_, 1) := by decide +kernel
theorem dJ7_copyOf_59c91_0 : decode cJ7_copyOf_59c91 0 = .ok (.iload_n 1, 1) := by decide +kernel
theorem dJ7_copyOf_59c91_1 : decode cJ7_copyOf_59c91 1 = .ok (.aload_n 0, 1) := by decide +kernel
theorem dJ7_copyOf_59c91_2 : decode cJ7_copyOf_59c91 2 = .ok (.arraylength, 1) := by decide +kernel
theorem dJ7_copyOf_59c91_3 : decode cJ7_copyOf_59c91 3 = .ok (.if_icmp .ne 11, 3) := by decide +kernel
theorem dJ7_copyOf_59c91_6 : decode cJ7_copyOf_59c91 6 = .ok (.aload_n 0, 1) := by decide +kernel
theorem dJ7_copyOf_59c91_7 : decode cJ7_copyOf_59c91 7 = .ok (.invokevirtual 316, 3) := by decide +kernel
theorem dJ7_copyOf_59c91_10 : decode cJ7_copyOf_59c91 10 = .ok (.checkcast 317, 3) := by decide +kernel
theorem dJ7_copyOf_59c91_13 : decode cJ7_copyOf_59c91 13 = .ok (.areturn, 1) := by decide +kernel
theorem dJ7_copyOf_59c91_14 : decode cJ7_copyOf_59c91 14 = .ok (.iload_n 1, 1) := by decide +kernel
theorem dJ7_copyOf_59c91_15 : decode cJ7_copyOf_59c91 15 = .ok (.newarray .int, 2) := by decide +kernel
theorem dJ7_copyOf_59c91_17 : decode cJ7_copyOf_59c91 17 = .ok (.astore_n 2, 1) := by decide +kernel
theorem dJ7_copyOf_59c91_18 : decode cJ7_copyOf_59c91 18 = .ok (.aload_n 0, 1) := by decide +kernel
theorem dJ7_copyOf_59c91_19 : decode cJ7_copyOf_59c91 19 = .ok (.iconst 0, 1) := by decide +kernel
theorem dJ7_copyOf_59c91_20 : decode cJ7_copyOf_59c91 20 = .ok (.aload_n 2, 1) := by decide +kernel
theorem dJ7_copyOf_59c91_21 : decode cJ7_copyOf_59c91 21 = .ok (.iconst 0, 1) := by decide +kernel
theorem dJ7_copyOf_59c91_22 : decode cJ7_copyOf_59c91 22 = .ok (.aload_n 0, 1) := by decide +kernel
theorem dJ7_copyOf_59c91_23 : decode cJ7_copyOf_59c91 23 = .ok (.arraylength, 1) := by decide +kernel
theorem dJ7_copyOf_59c91_24 : decode cJ7_copyOf_59c91 24 = .ok (.iload_n 1, 1) := by decide +kernel
theorem dJ7_copyOf_59c91_25 : decode cJ7_copyOf_59c91 25 = .ok (.invokestatic 304, 3) := by decide +kernel
theorem dJ7_copyOf_59c91_28 : decode cJ7_copyOf_59c91 28 = .ok (.invokestatic 150, 3) := by decide +kernel
theorem dJ7_copyOf_59c91_31 : decode cJ7_copyOf_59c91 31 = .ok (.aload_n 2, 1) := by decide +kernel
theorem dJ7_copyOf_59c91_32 : decode cJ7_copyOf_59c91 32 = .ok (.areturn, 1) := by decide +kernel
theorem dJ3_checkIndex_8e157_0 : decode cJ3_checkIndex_8e157 0 = .ok (.iload_n 0, 1) := by decide +kernel
