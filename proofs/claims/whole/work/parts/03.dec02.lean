theorem dX8_readLaw_14 : decode cX8_readLaw 14 = .ok (.putfield 90, 3) := by decide +kernel
theorem dX8_readLaw_17 : decode cX8_readLaw 17 = .ok (.aload_n 0, 1) := by decide +kernel
theorem dX8_readLaw_18 : decode cX8_readLaw 18 = .ok (.getfield 12, 3) := by decide +kernel
theorem dX8_readLaw_21 : decode cX8_readLaw 21 = .ok (.aload_n 0, 1) := by decide +kernel
theorem dX8_readLaw_22 : decode cX8_readLaw 22 = .ok (.getfield 22, 3) := by decide +kernel
theorem dX8_readLaw_25 : decode cX8_readLaw 25 = .ok (.iconst 1, 1) := by decide +kernel
theorem dX8_readLaw_26 : decode cX8_readLaw 26 = .ok (.aload_n 0, 1) := by decide +kernel
theorem dX8_readLaw_27 : decode cX8_readLaw 27 = .ok (.getfield 12, 3) := by decide +kernel
theorem dX8_readLaw_30 : decode cX8_readLaw 30 = .ok (.getfield 90, 3) := by decide +kernel
theorem dX8_readLaw_33 : decode cX8_readLaw 33 = .ok (.invokestatic 93, 3) := by decide +kernel
theorem dX8_readLaw_36 : decode cX8_readLaw 36 = .ok (.bipush 60, 2) := by decide +kernel
theorem dX8_readLaw_38 : decode cX8_readLaw 38 = .ok (.invokevirtual 86, 3) := by decide +kernel
theorem dX8_readLaw_41 : decode cX8_readLaw 41 = .ok (.putfield 98, 3) := by decide +kernel
theorem dX8_readLaw_44 : decode cX8_readLaw 44 = .ok (.aload_n 0, 1) := by decide +kernel
theorem dX8_readLaw_45 : decode cX8_readLaw 45 = .ok (.getfield 12, 3) := by decide +kernel
theorem dX8_readLaw_48 : decode cX8_readLaw 48 = .ok (.aload_n 0, 1) := by decide +kernel
theorem dX8_readLaw_49 : decode cX8_readLaw 49 = .ok (.getfield 22, 3) := by decide +kernel
theorem dX8_readLaw_52 : decode cX8_readLaw 52 = .ok (.iconst 1, 1) := by decide +kernel
theorem dX8_readLaw_53 : decode cX8_readLaw 53 = .ok (.bipush 99, 2) := by decide +kernel
theorem dX8_readLaw_55 : decode cX8_readLaw 55 = .ok (.invokevirtual 86, 3) := by decide +kernel
theorem dX8_readLaw_58 : decode cX8_readLaw 58 = .ok (.putfield 101, 3) := by decide +kernel
theorem dX8_readLaw_61 : decode cX8_readLaw 61 = .ok (.aload_n 0, 1) := by decide +kernel
theorem dX8_readLaw_62 : decode cX8_readLaw 62 = .ok (.getfield 12, 3) := by decide +kernel
theorem dX8_readLaw_65 : decode cX8_readLaw 65 = .ok (.aload_n 0, 1) := by decide +kernel
theorem dX8_readLaw_66 : decode cX8_readLaw 66 = .ok (.getfield 22, 3) := by decide +kernel
theorem dX8_readLaw_69 : decode cX8_readLaw 69 = .ok (.getfield 38, 3) := by decide +kernel
theorem dX8_readLaw_72 : decode cX8_readLaw 72 = .ok (.ifCond .ne 7, 3) := by decide +kernel
theorem dX8_readLaw_75 : decode cX8_readLaw 75 = .ok (.iconst 1, 1) := by decide +kernel
theorem dX8_readLaw_76 : decode cX8_readLaw 76 = .ok (.goto 4, 3) := by decide +kernel
theorem dX8_readLaw_79 : decode cX8_readLaw 79 = .ok (.iconst 0, 1) := by decide +kernel
theorem dX8_readLaw_80 : decode cX8_readLaw 80 = .ok (.putfield 104, 3) := by decide +kernel
theorem dX8_readLaw_83 : decode cX8_readLaw 83 = .ok (.return_, 1) := by decide +kernel
theorem dX8_readPerson_0 : decode cX8_readPerson 0 = .ok (.aload_n 0, 1) := by decide +kernel
theorem dX8_readPerson_1 : decode cX8_readPerson 1 = .ok (.getfield 12, 3) := by decide +kernel
theorem dX8_readPerson_4 : decode cX8_readPerson 4 = .ok (.getfield 107, 3) := by decide +kernel
theorem dX8_readPerson_7 : decode cX8_readPerson 7 = .ok (.iconst 5, 1) := by decide +kernel
theorem dX8_readPerson_8 : decode cX8_readPerson 8 = .ok (.if_icmp .lt 12, 3) := by decide +kernel
theorem dX8_readPerson_11 : decode cX8_readPerson 11 = .ok (.aload_n 0, 1) := by decide +kernel
theorem dX8_readPerson_12 : decode cX8_readPerson 12 = .ok (.getfield 22, 3) := by decide +kernel
theorem dX8_readPerson_15 : decode cX8_readPerson 15 = .ok (.iconst 4, 1) := by decide +kernel
theorem dX8_readPerson_16 : decode cX8_readPerson 16 = .ok (.invokevirtual 52, 3) := by decide +kernel
theorem dX8_readPerson_19 : decode cX8_readPerson 19 = .ok (.return_, 1) := by decide +kernel
theorem dX8_readPerson_20 : decode cX8_readPerson 20 = .ok (.aload_n 0, 1) := by decide +kernel
theorem dX8_readPerson_21 : decode cX8_readPerson 21 = .ok (.getfield 12, 3) := by decide +kernel
theorem dX8_readPerson_24 : decode cX8_readPerson 24 = .ok (.getfield 110, 3) := by decide +kernel
theorem dX8_readPerson_27 : decode cX8_readPerson 27 = .ok (.aload_n 0, 1) := by decide +kernel
theorem dX8_readPerson_28 : decode cX8_readPerson 28 = .ok (.getfield 12, 3) := by decide +kernel
theorem dX8_readPerson_31 : decode cX8_readPerson 31 = .ok (.getfield 107, 3) := by decide +kernel
theorem dX8_readPerson_34 : decode cX8_readPerson 34 = .ok (.aload_n 0, 1) := by decide +kernel
theorem dX8_readPerson_35 : decode cX8_readPerson 35 = .ok (.getfield 22, 3) := by decide +kernel
theorem dX8_readPerson_38 : decode cX8_readPerson 38 = .ok (.iconst 0, 1) := by decide +kernel
theorem dX8_readPerson_39 : decode cX8_readPerson 39 = .ok (.bipush 80, 2) := by decide +kernel
theorem dX8_readPerson_41 : decode cX8_readPerson 41 = .ok (.invokevirtual 86, 3) := by decide +kernel
theorem dX8_readPerson_44 : decode cX8_readPerson 44 = .ok (.bipush 20, 2) := by decide +kernel
theorem dX8_readPerson_46 : decode cX8_readPerson 46 = .ok (.isub, 1) := by decide +kernel
theorem dX8_readPerson_47 : decode cX8_readPerson 47 = .ok (.iastore, 1) := by decide +kernel
theorem dX8_readPerson_48 : decode cX8_readPerson 48 = .ok (.aload_n 0, 1) := by decide +kernel
theorem dX8_readPerson_49 : decode cX8_readPerson 49 = .ok (.getfield 12, 3) := by decide +kernel
theorem dX8_readPerson_52 : decode cX8_readPerson 52 = .ok (.getfield 114, 3) := by decide +kernel
theorem dX8_readPerson_55 : decode cX8_readPerson 55 = .ok (.aload_n 0, 1) := by decide +kernel
theorem dX8_readPerson_56 : decode cX8_readPerson 56 = .ok (.getfield 12, 3) := by decide +kernel
theorem dX8_readPerson_59 : decode cX8_readPerson 59 = .ok (.getfield 107, 3) := by decide +kernel
theorem dX8_readPerson_62 : decode cX8_readPerson 62 = .ok (.aload_n 0, 1) := by decide +kernel
theorem dX8_readPerson_63 : decode cX8_readPerson 63 = .ok (.getfield 22, 3) := by decide +kernel
theorem dX8_readPerson_66 : decode cX8_readPerson 66 = .ok (.iconst 0, 1) := by decide +kernel
theorem dX8_readPerson_67 : decode cX8_readPerson 67 = .ok (.bipush 40, 2) := by decide +kernel
theorem dX8_readPerson_69 : decode cX8_readPerson 69 = .ok (.invokevirtual 86, 3) := by decide +kernel
theorem dX8_readPerson_72 : decode cX8_readPerson 72 = .ok (.bipush 20, 2) := by decide +kernel
theorem dX8_readPerson_74 : decode cX8_readPerson 74 = .ok (.isub, 1) := by decide +kernel
theorem dX8_readPerson_75 : decode cX8_readPerson 75 = .ok (.iastore, 1) := by decide +kernel
theorem dX8_readPerson_76 : decode cX8_readPerson 76 = .ok (.aload_n 0, 1) := by decide +kernel
theorem dX8_readPerson_77 : decode cX8_readPerson 77 = .ok (.getfield 12, 3) := by decide +kernel
theorem dX8_readPerson_80 : decode cX8_readPerson 80 = .ok (.dup, 1) := by decide +kernel
theorem dX8_readPerson_81 : decode cX8_readPerson 81 = .ok (.getfield 107, 3) := by decide +kernel
theorem dX8_readPerson_84 : decode cX8_readPerson 84 = .ok (.iconst 1, 1) := by decide +kernel
theorem dX8_readPerson_85 : decode cX8_readPerson 85 = .ok (.iadd, 1) := by decide +kernel
theorem dX8_readPerson_86 : decode cX8_readPerson 86 = .ok (.putfield 107, 3) := by decide +kernel
theorem dX8_readPerson_89 : decode cX8_readPerson 89 = .ok (.return_, 1) := by decide +kernel
theorem dX8_readExempt_0 : decode cX8_readExempt 0 = .ok (.aload_n 0, 1) := by decide +kernel
theorem dX8_readExempt_1 : decode cX8_readExempt 1 = .ok (.getfield 22, 3) := by decide +kernel
theorem dX8_readExempt_4 : decode cX8_readExempt 4 = .ok (.iconst 0, 1) := by decide +kernel
theorem dX8_readExempt_5 : decode cX8_readExempt 5 = .ok (.aload_n 0, 1) := by decide +kernel
theorem dX8_readExempt_6 : decode cX8_readExempt 6 = .ok (.getfield 12, 3) := by decide +kernel
theorem dX8_readExempt_9 : decode cX8_readExempt 9 = .ok (.getfield 107, 3) := by decide +kernel
theorem dX8_readExempt_12 : decode cX8_readExempt 12 = .ok (.iconst 1, 1) := by decide +kernel
theorem dX8_readExempt_13 : decode cX8_readExempt 13 = .ok (.isub, 1) := by decide +kernel
theorem dX8_readExempt_14 : decode cX8_readExempt 14 = .ok (.invokevirtual 86, 3) := by decide +kernel
theorem dX8_readExempt_17 : decode cX8_readExempt 17 = .ok (.istore_n 1, 1) := by decide +kernel
theorem dX8_readExempt_18 : decode cX8_readExempt 18 = .ok (.aload_n 0, 1) := by decide +kernel
theorem dX8_readExempt_19 : decode cX8_readExempt 19 = .ok (.getfield 22, 3) := by decide +kernel
theorem dX8_readExempt_22 : decode cX8_readExempt 22 = .ok (.getfield 38, 3) := by decide +kernel
theorem dX8_readExempt_25 : decode cX8_readExempt 25 = .ok (.ifCond .ne 18, 3) := by decide +kernel
theorem dX8_readExempt_28 : decode cX8_readExempt 28 = .ok (.aload_n 0, 1) := by decide +kernel
theorem dX8_readExempt_29 : decode cX8_readExempt 29 = .ok (.getfield 12, 3) := by decide +kernel
theorem dX8_readExempt_32 : decode cX8_readExempt 32 = .ok (.dup, 1) := by decide +kernel
theorem dX8_readExempt_33 : decode cX8_readExempt 33 = .ok (.getfield 117, 3) := by decide +kernel
theorem dX8_readExempt_36 : decode cX8_readExempt 36 = .ok (.iconst 1, 1) := by decide +kernel
theorem dX8_readExempt_37 : decode cX8_readExempt 37 = .ok (.iload_n 1, 1) := by decide +kernel
theorem dX8_readExempt_38 : decode cX8_readExempt 38 = .ok (.ishl, 1) := by decide +kernel
theorem dX8_readExempt_39 : decode cX8_readExempt 39 = .ok (.ior, 1) := by decide +kernel
theorem dX8_readExempt_40 : decode cX8_readExempt 40 = .ok (.putfield 117, 3) := by decide +kernel
theorem dX8_readExempt_43 : decode cX8_readExempt 43 = .ok (.return_, 1) := by decide +kernel
theorem dX8_readMeeting_0 : decode cX8_readMeeting 0 = .ok (.aload_n 0, 1) := by decide +kernel
theorem dX8_readMeeting_1 : decode cX8_readMeeting 1 = .ok (.getfield 12, 3) := by decide +kernel
theorem dX8_readMeeting_4 : decode cX8_readMeeting 4 = .ok (.getfield 119, 3) := by decide +kernel
theorem dX8_readMeeting_7 : decode cX8_readMeeting 7 = .ok (.bipush 8, 2) := by decide +kernel
theorem dX8_readMeeting_9 : decode cX8_readMeeting 9 = .ok (.if_icmp .lt 12, 3) := by decide +kernel
theorem dX8_readMeeting_12 : decode cX8_readMeeting 12 = .ok (.aload_n 0, 1) := by decide +kernel
theorem dX8_readMeeting_13 : decode cX8_readMeeting 13 = .ok (.getfield 22, 3) := by decide +kernel
theorem dX8_readMeeting_16 : decode cX8_readMeeting 16 = .ok (.iconst 4, 1) := by decide +kernel
theorem dX8_readMeeting_17 : decode cX8_readMeeting 17 = .ok (.invokevirtual 52, 3) := by decide +kernel
theorem dX8_readMeeting_20 : decode cX8_readMeeting 20 = .ok (.return_, 1) := by decide +kernel
theorem dX8_readMeeting_21 : decode cX8_readMeeting 21 = .ok (.aload_n 0, 1) := by decide +kernel
theorem dX8_readMeeting_22 : decode cX8_readMeeting 22 = .ok (.getfield 12, 3) := by decide +kernel
theorem dX8_readMeeting_25 : decode cX8_readMeeting 25 = .ok (.getfield 119, 3) := by decide +kernel
theorem dX8_readMeeting_28 : decode cX8_readMeeting 28 = .ok (.istore_n 1, 1) := by decide +kernel
theorem dX8_readMeeting_29 : decode cX8_readMeeting 29 = .ok (.aload_n 0, 1) := by decide +kernel
theorem dX8_readMeeting_30 : decode cX8_readMeeting 30 = .ok (.getfield 12, 3) := by decide +kernel
theorem dX8_readMeeting_33 : decode cX8_readMeeting 33 = .ok (.getfield 122, 3) := by decide +kernel
theorem dX8_readMeeting_36 : decode cX8_readMeeting 36 = .ok (.iload_n 1, 1) := by decide +kernel
theorem dX8_readMeeting_37 : decode cX8_readMeeting 37 = .ok (.aload_n 0, 1) := by decide +kernel
theorem dX8_readMeeting_38 : decode cX8_readMeeting 38 = .ok (.getfield 22, 3) := by decide +kernel
theorem dX8_readMeeting_41 : decode cX8_readMeeting 41 = .ok (.iconst 0, 1) := by decide +kernel
theorem dX8_readMeeting_42 : decode cX8_readMeeting 42 = .ok (.aload_n 0, 1) := by decide +kernel
theorem dX8_readMeeting_43 : decode cX8_readMeeting 43 = .ok (.getfield 12, 3) := by decide +kernel
theorem dX8_readMeeting_46 : decode cX8_readMeeting 46 = .ok (.getfield 107, 3) := by decide +kernel
theorem dX8_readMeeting_49 : decode cX8_readMeeting 49 = .ok (.iconst 1, 1) := by decide +kernel
theorem dX8_readMeeting_50 : decode cX8_readMeeting 50 = .ok (.isub, 1) := by decide +kernel
theorem dX8_readMeeting_51 : decode cX8_readMeeting 51 = .ok (.invokevirtual 86, 3) := by decide +kernel
theorem dX8_readMeeting_54 : decode cX8_readMeeting 54 = .ok (.iastore, 1) := by decide +kernel
theorem dX8_readMeeting_55 : decode cX8_readMeeting 55 = .ok (.aload_n 0, 1) := by decide +kernel
theorem dX8_readMeeting_56 : decode cX8_readMeeting 56 = .ok (.getfield 12, 3) := by decide +kernel
theorem dX8_readMeeting_59 : decode cX8_readMeeting 59 = .ok (.getfield 125, 3) := by decide +kernel
theorem dX8_readMeeting_62 : decode cX8_readMeeting 62 = .ok (.iload_n 1, 1) := by decide +kernel
theorem dX8_readMeeting_63 : decode cX8_readMeeting 63 = .ok (.aload_n 0, 1) := by decide +kernel
theorem dX8_readMeeting_64 : decode cX8_readMeeting 64 = .ok (.getfield 22, 3) := by decide +kernel
theorem dX8_readMeeting_67 : decode cX8_readMeeting 67 = .ok (.iconst 0, 1) := by decide +kernel
theorem dX8_readMeeting_68 : decode cX8_readMeeting 68 = .ok (.aload_n 0, 1) := by decide +kernel
theorem dX8_readMeeting_69 : decode cX8_readMeeting 69 = .ok (.getfield 12, 3) := by decide +kernel
theorem dX8_readMeeting_72 : decode cX8_readMeeting 72 = .ok (.getfield 107, 3) := by decide +kernel
theorem dX8_readMeeting_75 : decode cX8_readMeeting 75 = .ok (.iconst 1, 1) := by decide +kernel
theorem dX8_readMeeting_76 : decode cX8_readMeeting 76 = .ok (.isub, 1) := by decide +kernel
theorem dX8_readMeeting_77 : decode cX8_readMeeting 77 = .ok (.invokevirtual 86, 3) := by decide +kernel
theorem dX8_readMeeting_80 : decode cX8_readMeeting 80 = .ok (.iastore, 1) := by decide +kernel
theorem dX8_readMeeting_81 : decode cX8_readMeeting 81 = .ok (.aload_n 0, 1) := by decide +kernel
theorem dX8_readMeeting_82 : decode cX8_readMeeting 82 = .ok (.getfield 12, 3) := by decide +kernel
theorem dX8_readMeeting_85 : decode cX8_readMeeting 85 = .ok (.getfield 125, 3) := by decide +kernel
theorem dX8_readMeeting_88 : decode cX8_readMeeting 88 = .ok (.iload_n 1, 1) := by decide +kernel
theorem dX8_readMeeting_89 : decode cX8_readMeeting 89 = .ok (.iaload, 1) := by decide +kernel
theorem dX8_readMeeting_90 : decode cX8_readMeeting 90 = .ok (.aload_n 0, 1) := by decide +kernel
theorem dX8_readMeeting_91 : decode cX8_readMeeting 91 = .ok (.getfield 12, 3) := by decide +kernel
theorem dX8_readMeeting_94 : decode cX8_readMeeting 94 = .ok (.getfield 122, 3) := by decide +kernel
theorem dX8_readMeeting_97 : decode cX8_readMeeting 97 = .ok (.iload_n 1, 1) := by decide +kernel
theorem dX8_readMeeting_98 : decode cX8_readMeeting 98 = .ok (.iaload, 1) := by decide +kernel
theorem dX8_readMeeting_99 : decode cX8_readMeeting 99 = .ok (.if_icmp .ne 11, 3) := by decide +kernel
theorem dX8_readMeeting_102 : decode cX8_readMeeting 102 = .ok (.aload_n 0, 1) := by decide +kernel
theorem dX8_readMeeting_103 : decode cX8_readMeeting 103 = .ok (.getfield 22, 3) := by decide +kernel
theorem dX8_readMeeting_106 : decode cX8_readMeeting 106 = .ok (.iconst 1, 1) := by decide +kernel
theorem dX8_readMeeting_107 : decode cX8_readMeeting 107 = .ok (.invokevirtual 52, 3) := by decide +kernel
theorem dX8_readMeeting_110 : decode cX8_readMeeting 110 = .ok (.aload_n 0, 1) := by decide +kernel
theorem dX8_readMeeting_111 : decode cX8_readMeeting 111 = .ok (.getfield 12, 3) := by decide +kernel
theorem dX8_readMeeting_114 : decode cX8_readMeeting 114 = .ok (.getfield 128, 3) := by decide +kernel
theorem dX8_readMeeting_117 : decode cX8_readMeeting 117 = .ok (.iload_n 1, 1) := by decide +kernel
theorem dX8_readMeeting_118 : decode cX8_readMeeting 118 = .ok (.aload_n 0, 1) := by decide +kernel
theorem dX8_readMeeting_119 : decode cX8_readMeeting 119 = .ok (.getfield 22, 3) := by decide +kernel
theorem dX8_readMeeting_122 : decode cX8_readMeeting 122 = .ok (.iconst 0, 1) := by decide +kernel
theorem dX8_readMeeting_123 : decode cX8_readMeeting 123 = .ok (.sipush 600, 3) := by decide +kernel
theorem dX8_readMeeting_126 : decode cX8_readMeeting 126 = .ok (.invokevirtual 86, 3) := by decide +kernel
theorem dX8_readMeeting_129 : decode cX8_readMeeting 129 = .ok (.iastore, 1) := by decide +kernel
theorem dX8_readMeeting_130 : decode cX8_readMeeting 130 = .ok (.aload_n 0, 1) := by decide +kernel
theorem dX8_readMeeting_131 : decode cX8_readMeeting 131 = .ok (.getfield 12, 3) := by decide +kernel
theorem dX8_readMeeting_134 : decode cX8_readMeeting 134 = .ok (.getfield 131, 3) := by decide +kernel
theorem dX8_readMeeting_137 : decode cX8_readMeeting 137 = .ok (.iload_n 1, 1) := by decide +kernel
theorem dX8_readMeeting_138 : decode cX8_readMeeting 138 = .ok (.aload_n 0, 1) := by decide +kernel
theorem dX8_readMeeting_139 : decode cX8_readMeeting 139 = .ok (.getfield 22, 3) := by decide +kernel
theorem dX8_readMeeting_142 : decode cX8_readMeeting 142 = .ok (.iconst 1, 1) := by decide +kernel
theorem dX8_readMeeting_143 : decode cX8_readMeeting 143 = .ok (.bipush 60, 2) := by decide +kernel
theorem dX8_readMeeting_145 : decode cX8_readMeeting 145 = .ok (.invokevirtual 86, 3) := by decide +kernel
theorem dX8_readMeeting_148 : decode cX8_readMeeting 148 = .ok (.iastore, 1) := by decide +kernel
theorem dX8_readMeeting_149 : decode cX8_readMeeting 149 = .ok (.aload_n 0, 1) := by decide +kernel
theorem dX8_readMeeting_150 : decode cX8_readMeeting 150 = .ok (.getfield 12, 3) := by decide +kernel
theorem dX8_readMeeting_153 : decode cX8_readMeeting 153 = .ok (.dup, 1) := by decide +kernel
theorem dX8_readMeeting_154 : decode cX8_readMeeting 154 = .ok (.getfield 119, 3) := by decide +kernel
theorem dX8_readMeeting_157 : decode cX8_readMeeting 157 = .ok (.iconst 1, 1) := by decide +kernel
theorem dX8_readMeeting_158 : decode cX8_readMeeting 158 = .ok (.iadd, 1) := by decide +kernel
theorem dX8_readMeeting_159 : decode cX8_readMeeting 159 = .ok (.putfield 119, 3) := by decide +kernel
theorem dX8_readMeeting_162 : decode cX8_readMeeting 162 = .ok (.return_, 1) := by decide +kernel
theorem dX8_readFines_0 : decode cX8_readFines 0 = .ok (.aload_n 0, 1) := by decide +kernel
theorem dX8_readFines_1 : decode cX8_readFines 1 = .ok (.getfield 18, 3) := by decide +kernel
theorem dX8_readFines_4 : decode cX8_readFines 4 = .ok (.ifCond .eq 12, 3) := by decide +kernel
theorem dX8_readFines_7 : decode cX8_readFines 7 = .ok (.aload_n 0, 1) := by decide +kernel
theorem dX8_readFines_8 : decode cX8_readFines 8 = .ok (.getfield 22, 3) := by decide +kernel
theorem dX8_readFines_11 : decode cX8_readFines 11 = .ok (.iconst 4, 1) := by decide +kernel
theorem dX8_readFines_12 : decode cX8_readFines 12 = .ok (.invokevirtual 52, 3) := by decide +kernel
theorem dX8_readFines_15 : decode cX8_readFines 15 = .ok (.return_, 1) := by decide +kernel
theorem dX8_readFines_16 : decode cX8_readFines 16 = .ok (.aload_n 0, 1) := by decide +kernel
theorem dX8_readFines_17 : decode cX8_readFines 17 = .ok (.iconst 1, 1) := by decide +kernel
theorem dX8_readFines_18 : decode cX8_readFines 18 = .ok (.putfield 18, 3) := by decide +kernel
theorem dX8_readFines_21 : decode cX8_readFines 21 = .ok (.aload_n 0, 1) := by decide +kernel
theorem dX8_readFines_22 : decode cX8_readFines 22 = .ok (.getfield 12, 3) := by decide +kernel
theorem dX8_readFines_25 : decode cX8_readFines 25 = .ok (.aload_n 0, 1) := by decide +kernel
theorem dX8_readFines_26 : decode cX8_readFines 26 = .ok (.getfield 22, 3) := by decide +kernel
theorem dX8_readFines_29 : decode cX8_readFines 29 = .ok (.iconst 0, 1) := by decide +kernel
theorem dX8_readFines_30 : decode cX8_readFines 30 = .ok (.bipush 9, 2) := by decide +kernel
theorem dX8_readFines_32 : decode cX8_readFines 32 = .ok (.invokevirtual 86, 3) := by decide +kernel
theorem dX8_readFines_35 : decode cX8_readFines 35 = .ok (.putfield 134, 3) := by decide +kernel
theorem dX8_readFines_38 : decode cX8_readFines 38 = .ok (.aload_n 0, 1) := by decide +kernel
theorem dX8_readFines_39 : decode cX8_readFines 39 = .ok (.getfield 12, 3) := by decide +kernel
theorem dX8_readFines_42 : decode cX8_readFines 42 = .ok (.aload_n 0, 1) := by decide +kernel
theorem dX8_readFines_43 : decode cX8_readFines 43 = .ok (.getfield 22, 3) := by decide +kernel
theorem dX8_readFines_46 : decode cX8_readFines 46 = .ok (.iconst 0, 1) := by decide +kernel
theorem dX8_readFines_47 : decode cX8_readFines 47 = .ok (.bipush 9, 2) := by decide +kernel
theorem dX8_readFines_49 : decode cX8_readFines 49 = .ok (.invokevirtual 86, 3) := by decide +kernel
theorem dX8_readFines_52 : decode cX8_readFines 52 = .ok (.putfield 137, 3) := by decide +kernel
theorem dX8_readFines_55 : decode cX8_readFines 55 = .ok (.return_, 1) := by decide +kernel
theorem dX9_init_0 : decode cX9_init 0 = .ok (.aload_n 0, 1) := by decide +kernel
theorem dX9_init_1 : decode cX9_init 1 = .ok (.invokespecial 7, 3) := by decide +kernel
theorem dX9_init_4 : decode cX9_init 4 = .ok (.aload_n 0, 1) := by decide +kernel
theorem dX9_init_5 : decode cX9_init 5 = .ok (.bipush 98, 2) := by decide +kernel
theorem dX9_init_7 : decode cX9_init 7 = .ok (.newarray .int, 2) := by decide +kernel
theorem dX9_init_9 : decode cX9_init 9 = .ok (.putfield 13, 3) := by decide +kernel
theorem dX9_init_12 : decode cX9_init 12 = .ok (.aload_n 0, 1) := by decide +kernel
theorem dX9_init_13 : decode cX9_init 13 = .ok (.sipush 279, 3) := by decide +kernel
theorem dX9_init_16 : decode cX9_init 16 = .ok (.newarray .int, 2) := by decide +kernel
theorem dX9_init_18 : decode cX9_init 18 = .ok (.putfield 17, 3) := by decide +kernel
theorem dX9_init_21 : decode cX9_init 21 = .ok (.aload_n 0, 1) := by decide +kernel
theorem dX9_init_22 : decode cX9_init 22 = .ok (.sipush 1000, 3) := by decide +kernel
theorem dX9_init_25 : decode cX9_init 25 = .ok (.newarray .int, 2) := by decide +kernel
theorem dX9_init_27 : decode cX9_init 27 = .ok (.putfield 20, 3) := by decide +kernel
theorem dX9_init_30 : decode cX9_init 30 = .ok (.return_, 1) := by decide +kernel
theorem dX9_meantByFirst_0 : decode cX9_meantByFirst 0 = .ok (.iload_n 0, 1) := by decide +kernel
theorem dX9_meantByFirst_1 : decode cX9_meantByFirst 1 = .ok (.bipush 7, 2) := by decide +kernel
theorem dX9_meantByFirst_3 : decode cX9_meantByFirst 3 = .ok (.idiv, 1) := by decide +kernel
theorem dX9_meantByFirst_4 : decode cX9_meantByFirst 4 = .ok (.bipush 10, 2) := by decide +kernel
theorem dX9_meantByFirst_6 : decode cX9_meantByFirst 6 = .ok (.imul, 1) := by decide +kernel
theorem dX9_meantByFirst_7 : decode cX9_meantByFirst 7 = .ok (.ireturn, 1) := by decide +kernel
theorem dX9_meantBySecond_0 : decode cX9_meantBySecond 0 = .ok (.iload_n 0, 1) := by decide +kernel
theorem dX9_meantBySecond_1 : decode cX9_meantBySecond 1 = .ok (.bipush 7, 2) := by decide +kernel
theorem dX9_meantBySecond_3 : decode cX9_meantBySecond 3 = .ok (.irem, 1) := by decide +kernel
theorem dX9_meantBySecond_4 : decode cX9_meantBySecond 4 = .ok (.bipush 10, 2) := by decide +kernel
theorem dX9_meantBySecond_6 : decode cX9_meantBySecond 6 = .ok (.imul, 1) := by decide +kernel
theorem dX9_meantBySecond_7 : decode cX9_meantBySecond 7 = .ok (.ireturn, 1) := by decide +kernel
theorem dX9_keepTwo_0 : decode cX9_keepTwo 0 = .ok (.aload_n 0, 1) := by decide +kernel
theorem dX9_keepTwo_1 : decode cX9_keepTwo 1 = .ok (.getfield 13, 3) := by decide +kernel
theorem dX9_keepTwo_4 : decode cX9_keepTwo 4 = .ok (.iconst 2, 1) := by decide +kernel
theorem dX9_keepTwo_5 : decode cX9_keepTwo 5 = .ok (.iload_n 1, 1) := by decide +kernel
theorem dX9_keepTwo_6 : decode cX9_keepTwo 6 = .ok (.imul, 1) := by decide +kernel
theorem dX9_keepTwo_7 : decode cX9_keepTwo 7 = .ok (.iload_n 2, 1) := by decide +kernel
theorem dX9_keepTwo_8 : decode cX9_keepTwo 8 = .ok (.iastore, 1) := by decide +kernel
theorem dX9_keepTwo_9 : decode cX9_keepTwo 9 = .ok (.aload_n 0, 1) := by decide +kernel
theorem dX9_keepTwo_10 : decode cX9_keepTwo 10 = .ok (.getfield 13, 3) := by decide +kernel
theorem dX9_keepTwo_13 : decode cX9_keepTwo 13 = .ok (.iconst 2, 1) := by decide +kernel
theorem dX9_keepTwo_14 : decode cX9_keepTwo 14 = .ok (.iload_n 1, 1) := by decide +kernel
theorem dX9_keepTwo_15 : decode cX9_keepTwo 15 = .ok (.imul, 1) := by decide +kernel
theorem dX9_keepTwo_16 : decode cX9_keepTwo 16 = .ok (.iconst 1, 1) := by decide +kernel
theorem dX9_keepTwo_17 : decode cX9_keepTwo 17 = .ok (.iadd, 1) := by decide +kernel
theorem dX9_keepTwo_18 : decode cX9_keepTwo 18 = .ok (.iload_n 3, 1) := by decide +kernel
theorem dX9_keepTwo_19 : decode cX9_keepTwo 19 = .ok (.iastore, 1) := by decide +kernel
theorem dX9_keepTwo_20 : decode cX9_keepTwo 20 = .ok (.return_, 1) := by decide +kernel
theorem dX9_neitherParts_0 : decode cX9_neitherParts 0 = .ok (.iload_n 1, 1) := by decide +kernel
theorem dX9_neitherParts_1 : decode cX9_neitherParts 1 = .ok (.bipush 7, 2) := by decide +kernel
theorem dX9_neitherParts_3 : decode cX9_neitherParts 3 = .ok (.idiv, 1) := by decide +kernel
theorem dX9_neitherParts_4 : decode cX9_neitherParts 4 = .ok (.istore_n 2, 1) := by decide +kernel
theorem dX9_neitherParts_5 : decode cX9_neitherParts 5 = .ok (.iload_n 1, 1) := by decide +kernel
theorem dX9_neitherParts_6 : decode cX9_neitherParts 6 = .ok (.bipush 7, 2) := by decide +kernel
theorem dX9_neitherParts_8 : decode cX9_neitherParts 8 = .ok (.irem, 1) := by decide +kernel
theorem dX9_neitherParts_9 : decode cX9_neitherParts 9 = .ok (.istore_n 3, 1) := by decide +kernel
theorem dX9_neitherParts_10 : decode cX9_neitherParts 10 = .ok (.iconst 0, 1) := by decide +kernel
theorem dX9_neitherParts_11 : decode cX9_neitherParts 11 = .ok (.istore 4, 2) := by decide +kernel
theorem dX9_neitherParts_13 : decode cX9_neitherParts 13 = .ok (.iload 4, 2) := by decide +kernel
theorem dX9_neitherParts_15 : decode cX9_neitherParts 15 = .ok (.bipush 7, 2) := by decide +kernel
theorem dX9_neitherParts_17 : decode cX9_neitherParts 17 = .ok (.if_icmp .ge 65, 3) := by decide +kernel
theorem dX9_neitherParts_20 : decode cX9_neitherParts 20 = .ok (.aload_n 0, 1) := by decide +kernel
theorem dX9_neitherParts_21 : decode cX9_neitherParts 21 = .ok (.getfield 13, 3) := by decide +kernel
theorem dX9_neitherParts_24 : decode cX9_neitherParts 24 = .ok (.iconst 2, 1) := by decide +kernel
theorem dX9_neitherParts_25 : decode cX9_neitherParts 25 = .ok (.iload 4, 2) := by decide +kernel
theorem dX9_neitherParts_27 : decode cX9_neitherParts 27 = .ok (.bipush 7, 2) := by decide +kernel
theorem dX9_neitherParts_29 : decode cX9_neitherParts 29 = .ok (.imul, 1) := by decide +kernel
theorem dX9_neitherParts_30 : decode cX9_neitherParts 30 = .ok (.iload_n 3, 1) := by decide +kernel
theorem dX9_neitherParts_31 : decode cX9_neitherParts 31 = .ok (.iadd, 1) := by decide +kernel
theorem dX9_neitherParts_32 : decode cX9_neitherParts 32 = .ok (.imul, 1) := by decide +kernel
theorem dX9_neitherParts_33 : decode cX9_neitherParts 33 = .ok (.iaload, 1) := by decide +kernel
theorem dX9_neitherParts_34 : decode cX9_neitherParts 34 = .ok (.aload_n 0, 1) := by decide +kernel
theorem dX9_neitherParts_35 : decode cX9_neitherParts 35 = .ok (.getfield 13, 3) := by decide +kernel
theorem dX9_neitherParts_38 : decode cX9_neitherParts 38 = .ok (.iconst 2, 1) := by decide +kernel
theorem dX9_neitherParts_39 : decode cX9_neitherParts 39 = .ok (.iload_n 1, 1) := by decide +kernel
theorem dX9_neitherParts_40 : decode cX9_neitherParts 40 = .ok (.imul, 1) := by decide +kernel
theorem dX9_neitherParts_41 : decode cX9_neitherParts 41 = .ok (.iaload, 1) := by decide +kernel
theorem dX9_neitherParts_42 : decode cX9_neitherParts 42 = .ok (.if_icmp .lt 32, 3) := by decide +kernel
theorem dX9_neitherParts_45 : decode cX9_neitherParts 45 = .ok (.aload_n 0, 1) := by decide +kernel
theorem dX9_neitherParts_46 : decode cX9_neitherParts 46 = .ok (.getfield 13, 3) := by decide +kernel
theorem dX9_neitherParts_49 : decode cX9_neitherParts 49 = .ok (.iconst 2, 1) := by decide +kernel
theorem dX9_neitherParts_50 : decode cX9_neitherParts 50 = .ok (.iload_n 2, 1) := by decide +kernel
theorem dX9_neitherParts_51 : decode cX9_neitherParts 51 = .ok (.bipush 7, 2) := by decide +kernel
theorem dX9_neitherParts_53 : decode cX9_neitherParts 53 = .ok (.imul, 1) := by decide +kernel
theorem dX9_neitherParts_54 : decode cX9_neitherParts 54 = .ok (.iload 4, 2) := by decide +kernel
theorem dX9_neitherParts_56 : decode cX9_neitherParts 56 = .ok (.iadd, 1) := by decide +kernel
theorem dX9_neitherParts_57 : decode cX9_neitherParts 57 = .ok (.imul, 1) := by decide +kernel
theorem dX9_neitherParts_58 : decode cX9_neitherParts 58 = .ok (.iconst 1, 1) := by decide +kernel
theorem dX9_neitherParts_59 : decode cX9_neitherParts 59 = .ok (.iadd, 1) := by decide +kernel
theorem dX9_neitherParts_60 : decode cX9_neitherParts 60 = .ok (.iaload, 1) := by decide +kernel
theorem dX9_neitherParts_61 : decode cX9_neitherParts 61 = .ok (.aload_n 0, 1) := by decide +kernel
theorem dX9_neitherParts_62 : decode cX9_neitherParts 62 = .ok (.getfield 13, 3) := by decide +kernel
theorem dX9_neitherParts_65 : decode cX9_neitherParts 65 = .ok (.iconst 2, 1) := by decide +kernel
theorem dX9_neitherParts_66 : decode cX9_neitherParts 66 = .ok (.iload_n 1, 1) := by decide +kernel
theorem dX9_neitherParts_67 : decode cX9_neitherParts 67 = .ok (.imul, 1) := by decide +kernel
theorem dX9_neitherParts_68 : decode cX9_neitherParts 68 = .ok (.iconst 1, 1) := by decide +kernel
theorem dX9_neitherParts_69 : decode cX9_neitherParts 69 = .ok (.iadd, 1) := by decide +kernel
theorem dX9_neitherParts_70 : decode cX9_neitherParts 70 = .ok (.iaload, 1) := by decide +kernel
theorem dX9_neitherParts_71 : decode cX9_neitherParts 71 = .ok (.if_icmp .ge 5, 3) := by decide +kernel
theorem dX9_neitherParts_74 : decode cX9_neitherParts 74 = .ok (.iconst 0, 1) := by decide +kernel
theorem dX9_neitherParts_75 : decode cX9_neitherParts 75 = .ok (.ireturn, 1) := by decide +kernel
theorem dX9_neitherParts_76 : decode cX9_neitherParts 76 = .ok (.iinc 4 1, 3) := by decide +kernel
theorem dX9_neitherParts_79 : decode cX9_neitherParts 79 = .ok (.goto (-66), 3) := by decide +kernel
theorem dX9_neitherParts_82 : decode cX9_neitherParts 82 = .ok (.iconst 1, 1) := by decide +kernel
theorem dX9_neitherParts_83 : decode cX9_neitherParts 83 = .ok (.ireturn, 1) := by decide +kernel
theorem dX9_keepState_0 : decode cX9_keepState 0 = .ok (.aload_n 2, 1) := by decide +kernel
theorem dX9_keepState_1 : decode cX9_keepState 1 = .ok (.getfield 23, 3) := by decide +kernel
theorem dX9_keepState_4 : decode cX9_keepState 4 = .ok (.iconst 0, 1) := by decide +kernel
theorem dX9_keepState_5 : decode cX9_keepState 5 = .ok (.aload_n 0, 1) := by decide +kernel
theorem dX9_keepState_6 : decode cX9_keepState 6 = .ok (.getfield 20, 3) := by decide +kernel
theorem dX9_keepState_9 : decode cX9_keepState 9 = .ok (.iload_n 1, 1) := by decide +kernel
theorem dX9_keepState_10 : decode cX9_keepState 10 = .ok (.bipush 10, 2) := by decide +kernel
theorem dX9_keepState_12 : decode cX9_keepState 12 = .ok (.imul, 1) := by decide +kernel
theorem dX9_keepState_13 : decode cX9_keepState 13 = .ok (.bipush 10, 2) := by decide +kernel
theorem dX9_keepState_15 : decode cX9_keepState 15 = .ok (.invokestatic 26, 3) := by decide +kernel
theorem dX9_keepState_18 : decode cX9_keepState 18 = .ok (.return_, 1) := by decide +kernel
theorem dX9_lastAlike_0 : decode cX9_lastAlike 0 = .ok (.iload_n 1, 1) := by decide +kernel
theorem dX9_lastAlike_1 : decode cX9_lastAlike 1 = .ok (.iconst 1, 1) := by decide +kernel
theorem dX9_lastAlike_2 : decode cX9_lastAlike 2 = .ok (.isub, 1) := by decide +kernel
theorem dX9_lastAlike_3 : decode cX9_lastAlike 3 = .ok (.istore_n 2, 1) := by decide +kernel
theorem dX9_lastAlike_4 : decode cX9_lastAlike 4 = .ok (.iload_n 2, 1) := by decide +kernel
theorem dX9_lastAlike_5 : decode cX9_lastAlike 5 = .ok (.ifCond .lt 56, 3) := by decide +kernel
theorem dX9_lastAlike_8 : decode cX9_lastAlike 8 = .ok (.iconst 0, 1) := by decide +kernel
theorem dX9_lastAlike_9 : decode cX9_lastAlike 9 = .ok (.istore_n 3, 1) := by decide +kernel
theorem dX9_lastAlike_10 : decode cX9_lastAlike 10 = .ok (.iload_n 3, 1) := by decide +kernel
theorem dX9_lastAlike_11 : decode cX9_lastAlike 11 = .ok (.bipush 10, 2) := by decide +kernel
theorem dX9_lastAlike_13 : decode cX9_lastAlike 13 = .ok (.if_icmp .ge 34, 3) := by decide +kernel
theorem dX9_lastAlike_16 : decode cX9_lastAlike 16 = .ok (.aload_n 0, 1) := by decide +kernel
theorem dX9_lastAlike_17 : decode cX9_lastAlike 17 = .ok (.getfield 20, 3) := by decide +kernel
theorem dX9_lastAlike_20 : decode cX9_lastAlike 20 = .ok (.iload_n 2, 1) := by decide +kernel
theorem dX9_lastAlike_21 : decode cX9_lastAlike 21 = .ok (.bipush 10, 2) := by decide +kernel
theorem dX9_lastAlike_23 : decode cX9_lastAlike 23 = .ok (.imul, 1) := by decide +kernel
theorem dX9_lastAlike_24 : decode cX9_lastAlike 24 = .ok (.iload_n 3, 1) := by decide +kernel
theorem dX9_lastAlike_25 : decode cX9_lastAlike 25 = .ok (.iadd, 1) := by decide +kernel
theorem dX9_lastAlike_26 : decode cX9_lastAlike 26 = .ok (.iaload, 1) := by decide +kernel
theorem dX9_lastAlike_27 : decode cX9_lastAlike 27 = .ok (.aload_n 0, 1) := by decide +kernel
theorem dX9_lastAlike_28 : decode cX9_lastAlike 28 = .ok (.getfield 20, 3) := by decide +kernel
theorem dX9_lastAlike_31 : decode cX9_lastAlike 31 = .ok (.iload_n 1, 1) := by decide +kernel
theorem dX9_lastAlike_32 : decode cX9_lastAlike 32 = .ok (.bipush 10, 2) := by decide +kernel
theorem dX9_lastAlike_34 : decode cX9_lastAlike 34 = .ok (.imul, 1) := by decide +kernel
theorem dX9_lastAlike_35 : decode cX9_lastAlike 35 = .ok (.iload_n 3, 1) := by decide +kernel
theorem dX9_lastAlike_36 : decode cX9_lastAlike 36 = .ok (.iadd, 1) := by decide +kernel
theorem dX9_lastAlike_37 : decode cX9_lastAlike 37 = .ok (.iaload, 1) := by decide +kernel
theorem dX9_lastAlike_38 : decode cX9_lastAlike 38 = .ok (.if_icmp .ne 9, 3) := by decide +kernel
theorem dX9_lastAlike_41 : decode cX9_lastAlike 41 = .ok (.iinc 3 1, 3) := by decide +kernel
theorem dX9_lastAlike_44 : decode cX9_lastAlike 44 = .ok (.goto (-34), 3) := by decide +kernel
theorem dX9_lastAlike_47 : decode cX9_lastAlike 47 = .ok (.iload_n 3, 1) := by decide +kernel
theorem dX9_lastAlike_48 : decode cX9_lastAlike 48 = .ok (.bipush 10, 2) := by decide +kernel
theorem dX9_lastAlike_50 : decode cX9_lastAlike 50 = .ok (.if_icmp .ne 5, 3) := by decide +kernel
theorem dX9_lastAlike_53 : decode cX9_lastAlike 53 = .ok (.iload_n 2, 1) := by decide +kernel
theorem dX9_lastAlike_54 : decode cX9_lastAlike 54 = .ok (.ireturn, 1) := by decide +kernel
theorem dX9_lastAlike_55 : decode cX9_lastAlike 55 = .ok (.iinc 2 (-1), 3) := by decide +kernel
theorem dX9_lastAlike_58 : decode cX9_lastAlike 58 = .ok (.goto (-54), 3) := by decide +kernel
theorem dX9_lastAlike_61 : decode cX9_lastAlike 61 = .ok (.iconst (-1), 1) := by decide +kernel
theorem dX9_lastAlike_62 : decode cX9_lastAlike 62 = .ok (.ireturn, 1) := by decide +kernel
theorem dX9_keepLate_0 : decode cX9_keepLate 0 = .ok (.aload_n 0, 1) := by decide +kernel
theorem dX9_keepLate_1 : decode cX9_keepLate 1 = .ok (.getfield 17, 3) := by decide +kernel
theorem dX9_keepLate_4 : decode cX9_keepLate 4 = .ok (.iload_n 1, 1) := by decide +kernel
theorem dX9_keepLate_5 : decode cX9_keepLate 5 = .ok (.bipush 31, 2) := by decide +kernel
theorem dX9_keepLate_7 : decode cX9_keepLate 7 = .ok (.imul, 1) := by decide +kernel
theorem dX9_keepLate_8 : decode cX9_keepLate 8 = .ok (.iload_n 2, 1) := by decide +kernel
theorem dX9_keepLate_9 : decode cX9_keepLate 9 = .ok (.iadd, 1) := by decide +kernel
theorem dX9_keepLate_10 : decode cX9_keepLate 10 = .ok (.iload_n 3, 1) := by decide +kernel
theorem dX9_keepLate_11 : decode cX9_keepLate 11 = .ok (.iastore, 1) := by decide +kernel
theorem dX9_keepLate_12 : decode cX9_keepLate 12 = .ok (.return_, 1) := by decide +kernel
theorem dX9_fitsLogs_0 : decode cX9_fitsLogs 0 = .ok (.iconst 0, 1) := by decide +kernel
theorem dX9_fitsLogs_1 : decode cX9_fitsLogs 1 = .ok (.istore 4, 2) := by decide +kernel
theorem dX9_fitsLogs_3 : decode cX9_fitsLogs 3 = .ok (.iload 4, 2) := by decide +kernel
theorem dX9_fitsLogs_5 : decode cX9_fitsLogs 5 = .ok (.aload_n 3, 1) := by decide +kernel
theorem dX9_fitsLogs_6 : decode cX9_fitsLogs 6 = .ok (.getfield 32, 3) := by decide +kernel
theorem dX9_fitsLogs_9 : decode cX9_fitsLogs 9 = .ok (.if_icmp .ge 50, 3) := by decide +kernel
theorem dX9_fitsLogs_12 : decode cX9_fitsLogs 12 = .ok (.aload_n 0, 1) := by decide +kernel
theorem dX9_fitsLogs_13 : decode cX9_fitsLogs 13 = .ok (.getfield 17, 3) := by decide +kernel
theorem dX9_fitsLogs_16 : decode cX9_fitsLogs 16 = .ok (.iload_n 1, 1) := by decide +kernel
theorem dX9_fitsLogs_17 : decode cX9_fitsLogs 17 = .ok (.bipush 31, 2) := by decide +kernel
theorem dX9_fitsLogs_19 : decode cX9_fitsLogs 19 = .ok (.imul, 1) := by decide +kernel
theorem dX9_fitsLogs_20 : decode cX9_fitsLogs 20 = .ok (.aload_n 3, 1) := by decide +kernel
theorem dX9_fitsLogs_21 : decode cX9_fitsLogs 21 = .ok (.iload 4, 2) := by decide +kernel
theorem dX9_fitsLogs_23 : decode cX9_fitsLogs 23 = .ok (.invokevirtual 38, 3) := by decide +kernel
theorem dX9_fitsLogs_26 : decode cX9_fitsLogs 26 = .ok (.iadd, 1) := by decide +kernel
theorem dX9_fitsLogs_27 : decode cX9_fitsLogs 27 = .ok (.iaload, 1) := by decide +kernel
theorem dX9_fitsLogs_28 : decode cX9_fitsLogs 28 = .ok (.istore 5, 2) := by decide +kernel
theorem dX9_fitsLogs_30 : decode cX9_fitsLogs 30 = .ok (.aload_n 3, 1) := by decide +kernel
theorem dX9_fitsLogs_31 : decode cX9_fitsLogs 31 = .ok (.iload 4, 2) := by decide +kernel
theorem dX9_fitsLogs_33 : decode cX9_fitsLogs 33 = .ok (.invokevirtual 42, 3) := by decide +kernel
theorem dX9_fitsLogs_36 : decode cX9_fitsLogs 36 = .ok (.iload_n 2, 1) := by decide +kernel
theorem dX9_fitsLogs_37 : decode cX9_fitsLogs 37 = .ok (.if_icmp .ne 16, 3) := by decide +kernel
theorem dX9_fitsLogs_40 : decode cX9_fitsLogs 40 = .ok (.iload 5, 2) := by decide +kernel
theorem dX9_fitsLogs_42 : decode cX9_fitsLogs 42 = .ok (.aload_n 3, 1) := by decide +kernel
theorem dX9_fitsLogs_43 : decode cX9_fitsLogs 43 = .ok (.iload 4, 2) := by decide +kernel
theorem dX9_fitsLogs_45 : decode cX9_fitsLogs 45 = .ok (.invokevirtual 45, 3) := by decide +kernel
theorem dX9_fitsLogs_48 : decode cX9_fitsLogs 48 = .ok (.if_icmp .eq 5, 3) := by decide +kernel
theorem dX9_fitsLogs_51 : decode cX9_fitsLogs 51 = .ok (.iconst 0, 1) := by decide +kernel
theorem dX9_fitsLogs_52 : decode cX9_fitsLogs 52 = .ok (.ireturn, 1) := by decide +kernel
theorem dX9_fitsLogs_53 : decode cX9_fitsLogs 53 = .ok (.iinc 4 1, 3) := by decide +kernel
theorem dX9_fitsLogs_56 : decode cX9_fitsLogs 56 = .ok (.goto (-53), 3) := by decide +kernel
theorem dX9_fitsLogs_59 : decode cX9_fitsLogs 59 = .ok (.iconst 1, 1) := by decide +kernel
theorem dX9_fitsLogs_60 : decode cX9_fitsLogs 60 = .ok (.ireturn, 1) := by decide +kernel
theorem dX9_mostAlike_0 : decode cX9_mostAlike 0 = .ok (.iconst 0, 1) := by decide +kernel
theorem dX9_mostAlike_1 : decode cX9_mostAlike 1 = .ok (.istore_n 3, 1) := by decide +kernel
theorem dX9_mostAlike_2 : decode cX9_mostAlike 2 = .ok (.iconst 0, 1) := by decide +kernel
theorem dX9_mostAlike_3 : decode cX9_mostAlike 3 = .ok (.istore 4, 2) := by decide +kernel
theorem dX9_mostAlike_5 : decode cX9_mostAlike 5 = .ok (.iload 4, 2) := by decide +kernel
theorem dX9_mostAlike_7 : decode cX9_mostAlike 7 = .ok (.bipush 9, 2) := by decide +kernel
theorem dX9_mostAlike_9 : decode cX9_mostAlike 9 = .ok (.if_icmp .ge 104, 3) := by decide +kernel
theorem dX9_mostAlike_12 : decode cX9_mostAlike 12 = .ok (.iconst 0, 1) := by decide +kernel
theorem dX9_mostAlike_13 : decode cX9_mostAlike 13 = .ok (.istore 5, 2) := by decide +kernel
theorem dX9_mostAlike_15 : decode cX9_mostAlike 15 = .ok (.iconst 0, 1) := by decide +kernel
theorem dX9_mostAlike_16 : decode cX9_mostAlike 16 = .ok (.istore 6, 2) := by decide +kernel
theorem dX9_mostAlike_18 : decode cX9_mostAlike 18 = .ok (.iload 6, 2) := by decide +kernel
theorem dX9_mostAlike_20 : decode cX9_mostAlike 20 = .ok (.bipush 9, 2) := by decide +kernel
theorem dX9_mostAlike_22 : decode cX9_mostAlike 22 = .ok (.if_icmp .ge 68, 3) := by decide +kernel
theorem dX9_mostAlike_25 : decode cX9_mostAlike 25 = .ok (.aload_n 0, 1) := by decide +kernel
theorem dX9_mostAlike_26 : decode cX9_mostAlike 26 = .ok (.getfield 17, 3) := by decide +kernel
theorem dX9_mostAlike_29 : decode cX9_mostAlike 29 = .ok (.iload 4, 2) := by decide +kernel
theorem dX9_mostAlike_31 : decode cX9_mostAlike 31 = .ok (.bipush 31, 2) := by decide +kernel
theorem dX9_mostAlike_33 : decode cX9_mostAlike 33 = .ok (.imul, 1) := by decide +kernel
theorem dX9_mostAlike_34 : decode cX9_mostAlike 34 = .ok (.iload_n 2, 1) := by decide +kernel
theorem dX9_mostAlike_35 : decode cX9_mostAlike 35 = .ok (.iadd, 1) := by decide +kernel
theorem dX9_mostAlike_36 : decode cX9_mostAlike 36 = .ok (.iaload, 1) := by decide +kernel
theorem dX9_mostAlike_37 : decode cX9_mostAlike 37 = .ok (.aload_n 0, 1) := by decide +kernel
theorem dX9_mostAlike_38 : decode cX9_mostAlike 38 = .ok (.getfield 17, 3) := by decide +kernel
theorem dX9_mostAlike_41 : decode cX9_mostAlike 41 = .ok (.iload 6, 2) := by decide +kernel
theorem dX9_mostAlike_43 : decode cX9_mostAlike 43 = .ok (.bipush 31, 2) := by decide +kernel
theorem dX9_mostAlike_45 : decode cX9_mostAlike 45 = .ok (.imul, 1) := by decide +kernel
theorem dX9_mostAlike_46 : decode cX9_mostAlike 46 = .ok (.iload_n 2, 1) := by decide +kernel
theorem dX9_mostAlike_47 : decode cX9_mostAlike 47 = .ok (.iadd, 1) := by decide +kernel
theorem dX9_mostAlike_48 : decode cX9_mostAlike 48 = .ok (.iaload, 1) := by decide +kernel
theorem dX9_mostAlike_49 : decode cX9_mostAlike 49 = .ok (.if_icmp .ne 7, 3) := by decide +kernel
theorem dX9_mostAlike_52 : decode cX9_mostAlike 52 = .ok (.iconst 1, 1) := by decide +kernel
theorem dX9_mostAlike_53 : decode cX9_mostAlike 53 = .ok (.goto 4, 3) := by decide +kernel
theorem dX9_mostAlike_56 : decode cX9_mostAlike 56 = .ok (.iconst 0, 1) := by decide +kernel
theorem dX9_mostAlike_57 : decode cX9_mostAlike 57 = .ok (.istore 7, 2) := by decide +kernel
theorem dX9_mostAlike_59 : decode cX9_mostAlike 59 = .ok (.iload 5, 2) := by decide +kernel
theorem dX9_mostAlike_61 : decode cX9_mostAlike 61 = .ok (.iload 7, 2) := by decide +kernel
theorem dX9_mostAlike_63 : decode cX9_mostAlike 63 = .ok (.ifCond .eq 17, 3) := by decide +kernel
theorem dX9_mostAlike_66 : decode cX9_mostAlike 66 = .ok (.iload_n 1, 1) := by decide +kernel
theorem dX9_mostAlike_67 : decode cX9_mostAlike 67 = .ok (.iload 6, 2) := by decide +kernel
theorem dX9_mostAlike_69 : decode cX9_mostAlike 69 = .ok (.ishr, 1) := by decide +kernel
theorem dX9_mostAlike_70 : decode cX9_mostAlike 70 = .ok (.iconst 1, 1) := by decide +kernel
theorem dX9_mostAlike_71 : decode cX9_mostAlike 71 = .ok (.iand, 1) := by decide +kernel
theorem dX9_mostAlike_72 : decode cX9_mostAlike 72 = .ok (.iconst 1, 1) := by decide +kernel
theorem dX9_mostAlike_73 : decode cX9_mostAlike 73 = .ok (.if_icmp .ne 7, 3) := by decide +kernel
theorem dX9_mostAlike_76 : decode cX9_mostAlike 76 = .ok (.iconst 1, 1) := by decide +kernel
theorem dX9_mostAlike_77 : decode cX9_mostAlike 77 = .ok (.goto 4, 3) := by decide +kernel
theorem dX9_mostAlike_80 : decode cX9_mostAlike 80 = .ok (.iconst 0, 1) := by decide +kernel
theorem dX9_mostAlike_81 : decode cX9_mostAlike 81 = .ok (.iadd, 1) := by decide +kernel
theorem dX9_mostAlike_82 : decode cX9_mostAlike 82 = .ok (.istore 5, 2) := by decide +kernel
theorem dX9_mostAlike_84 : decode cX9_mostAlike 84 = .ok (.iinc 6 1, 3) := by decide +kernel
theorem dX9_mostAlike_87 : decode cX9_mostAlike 87 = .ok (.goto (-69), 3) := by decide +kernel
theorem dX9_mostAlike_90 : decode cX9_mostAlike 90 = .ok (.iload_n 1, 1) := by decide +kernel
theorem dX9_mostAlike_91 : decode cX9_mostAlike 91 = .ok (.iload 4, 2) := by decide +kernel
theorem dX9_mostAlike_93 : decode cX9_mostAlike 93 = .ok (.ishr, 1) := by decide +kernel
theorem dX9_mostAlike_94 : decode cX9_mostAlike 94 = .ok (.iconst 1, 1) := by decide +kernel
theorem dX9_mostAlike_95 : decode cX9_mostAlike 95 = .ok (.iand, 1) := by decide +kernel
theorem dX9_mostAlike_96 : decode cX9_mostAlike 96 = .ok (.iconst 1, 1) := by decide +kernel
theorem dX9_mostAlike_97 : decode cX9_mostAlike 97 = .ok (.if_icmp .ne 10, 3) := by decide +kernel
theorem dX9_mostAlike_100 : decode cX9_mostAlike 100 = .ok (.iload_n 3, 1) := by decide +kernel
theorem dX9_mostAlike_101 : decode cX9_mostAlike 101 = .ok (.iload 5, 2) := by decide +kernel
theorem dX9_mostAlike_103 : decode cX9_mostAlike 103 = .ok (.invokestatic 48, 3) := by decide +kernel
theorem dX9_mostAlike_106 : decode cX9_mostAlike 106 = .ok (.istore_n 3, 1) := by decide +kernel
theorem dX9_mostAlike_107 : decode cX9_mostAlike 107 = .ok (.iinc 4 1, 3) := by decide +kernel
theorem dX9_mostAlike_110 : decode cX9_mostAlike 110 = .ok (.goto (-105), 3) := by decide +kernel
theorem dX9_mostAlike_113 : decode cX9_mostAlike 113 = .ok (.iload_n 3, 1) := by decide +kernel
theorem dX9_mostAlike_114 : decode cX9_mostAlike 114 = .ok (.ireturn, 1) := by decide +kernel
theorem dX10_init_0 : decode cX10_init 0 = .ok (.aload_n 0, 1) := by decide +kernel
theorem dX10_init_1 : decode cX10_init 1 = .ok (.invokespecial 3, 3) := by decide +kernel
theorem dX10_init_4 : decode cX10_init 4 = .ok (.aload_n 0, 1) := by decide +kernel
theorem dX10_init_5 : decode cX10_init 5 = .ok (.new 9, 3) := by decide +kernel
theorem dX10_init_8 : decode cX10_init 8 = .ok (.dup, 1) := by decide +kernel
theorem dX10_init_9 : decode cX10_init 9 = .ok (.invokespecial 11, 3) := by decide +kernel
theorem dX10_init_12 : decode cX10_init 12 = .ok (.putfield 12, 3) := by decide +kernel
theorem dX10_init_15 : decode cX10_init 15 = .ok (.aload_n 0, 1) := by decide +kernel
theorem dX10_init_16 : decode cX10_init 16 = .ok (.new 18, 3) := by decide +kernel
theorem dX10_init_19 : decode cX10_init 19 = .ok (.dup, 1) := by decide +kernel
theorem dX10_init_20 : decode cX10_init 20 = .ok (.invokespecial 20, 3) := by decide +kernel
theorem dX10_init_23 : decode cX10_init 23 = .ok (.putfield 21, 3) := by decide +kernel
theorem dX10_init_26 : decode cX10_init 26 = .ok (.aload_n 0, 1) := by decide +kernel
theorem dX10_init_27 : decode cX10_init 27 = .ok (.iconst (-1), 1) := by decide +kernel
theorem dX10_init_28 : decode cX10_init 28 = .ok (.putfield 25, 3) := by decide +kernel
theorem dX10_init_31 : decode cX10_init 31 = .ok (.aload_n 0, 1) := by decide +kernel
theorem dX10_init_32 : decode cX10_init 32 = .ok (.iconst 0, 1) := by decide +kernel
theorem dX10_init_33 : decode cX10_init 33 = .ok (.putfield 29, 3) := by decide +kernel
theorem dX10_init_36 : decode cX10_init 36 = .ok (.aload_n 0, 1) := by decide +kernel
theorem dX10_init_37 : decode cX10_init 37 = .ok (.iconst 0, 1) := by decide +kernel
theorem dX10_init_38 : decode cX10_init 38 = .ok (.putfield 32, 3) := by decide +kernel
theorem dX10_init_41 : decode cX10_init 41 = .ok (.aload_n 0, 1) := by decide +kernel
theorem dX10_init_42 : decode cX10_init 42 = .ok (.bipush 30, 2) := by decide +kernel
theorem dX10_init_44 : decode cX10_init 44 = .ok (.newarray .int, 2) := by decide +kernel
theorem dX10_init_46 : decode cX10_init 46 = .ok (.putfield 35, 3) := by decide +kernel
theorem dX10_init_49 : decode cX10_init 49 = .ok (.aload_n 0, 1) := by decide +kernel
theorem dX10_init_50 : decode cX10_init 50 = .ok (.sipush 920, 3) := by decide +kernel
theorem dX10_init_53 : decode cX10_init 53 = .ok (.newarray .int, 2) := by decide +kernel
theorem dX10_init_55 : decode cX10_init 55 = .ok (.putfield 39, 3) := by decide +kernel
theorem dX10_init_58 : decode cX10_init 58 = .ok (.aload_n 0, 1) := by decide +kernel
theorem dX10_init_59 : decode cX10_init 59 = .ok (.iconst 0, 1) := by decide +kernel
theorem dX10_init_60 : decode cX10_init 60 = .ok (.putfield 42, 3) := by decide +kernel
theorem dX10_init_63 : decode cX10_init 63 = .ok (.aload_n 0, 1) := by decide +kernel
theorem dX10_init_64 : decode cX10_init 64 = .ok (.iconst 0, 1) := by decide +kernel
theorem dX10_init_65 : decode cX10_init 65 = .ok (.putfield 45, 3) := by decide +kernel
theorem dX10_init_68 : decode cX10_init 68 = .ok (.return_, 1) := by decide +kernel
theorem dX10_copyFrom_0 : decode cX10_copyFrom 0 = .ok (.aload_n 0, 1) := by decide +kernel
theorem dX10_copyFrom_1 : decode cX10_copyFrom 1 = .ok (.getfield 12, 3) := by decide +kernel
theorem dX10_copyFrom_4 : decode cX10_copyFrom 4 = .ok (.aload_n 1, 1) := by decide +kernel
theorem dX10_copyFrom_5 : decode cX10_copyFrom 5 = .ok (.getfield 12, 3) := by decide +kernel
theorem dX10_copyFrom_8 : decode cX10_copyFrom 8 = .ok (.invokevirtual 48, 3) := by decide +kernel
theorem dX10_copyFrom_11 : decode cX10_copyFrom 11 = .ok (.aload_n 0, 1) := by decide +kernel
theorem dX10_copyFrom_12 : decode cX10_copyFrom 12 = .ok (.getfield 21, 3) := by decide +kernel
theorem dX10_copyFrom_15 : decode cX10_copyFrom 15 = .ok (.aload_n 1, 1) := by decide +kernel
theorem dX10_copyFrom_16 : decode cX10_copyFrom 16 = .ok (.getfield 21, 3) := by decide +kernel
theorem dX10_copyFrom_19 : decode cX10_copyFrom 19 = .ok (.invokevirtual 52, 3) := by decide +kernel
theorem dX10_copyFrom_22 : decode cX10_copyFrom 22 = .ok (.aload_n 0, 1) := by decide +kernel
theorem dX10_copyFrom_23 : decode cX10_copyFrom 23 = .ok (.aload_n 1, 1) := by decide +kernel
theorem dX10_copyFrom_24 : decode cX10_copyFrom 24 = .ok (.getfield 25, 3) := by decide +kernel
theorem dX10_copyFrom_27 : decode cX10_copyFrom 27 = .ok (.putfield 25, 3) := by decide +kernel
theorem dX10_copyFrom_30 : decode cX10_copyFrom 30 = .ok (.aload_n 0, 1) := by decide +kernel
theorem dX10_copyFrom_31 : decode cX10_copyFrom 31 = .ok (.aload_n 1, 1) := by decide +kernel
theorem dX10_copyFrom_32 : decode cX10_copyFrom 32 = .ok (.getfield 29, 3) := by decide +kernel
theorem dX10_copyFrom_35 : decode cX10_copyFrom 35 = .ok (.putfield 29, 3) := by decide +kernel
theorem dX10_copyFrom_38 : decode cX10_copyFrom 38 = .ok (.aload_n 0, 1) := by decide +kernel
theorem dX10_copyFrom_39 : decode cX10_copyFrom 39 = .ok (.aload_n 1, 1) := by decide +kernel
theorem dX10_copyFrom_40 : decode cX10_copyFrom 40 = .ok (.getfield 32, 3) := by decide +kernel
theorem dX10_copyFrom_43 : decode cX10_copyFrom 43 = .ok (.putfield 32, 3) := by decide +kernel
theorem dX10_copyFrom_46 : decode cX10_copyFrom 46 = .ok (.aload_n 1, 1) := by decide +kernel
theorem dX10_copyFrom_47 : decode cX10_copyFrom 47 = .ok (.getfield 35, 3) := by decide +kernel
theorem dX10_copyFrom_50 : decode cX10_copyFrom 50 = .ok (.iconst 0, 1) := by decide +kernel
theorem dX10_copyFrom_51 : decode cX10_copyFrom 51 = .ok (.aload_n 0, 1) := by decide +kernel
theorem dX10_copyFrom_52 : decode cX10_copyFrom 52 = .ok (.getfield 35, 3) := by decide +kernel
theorem dX10_copyFrom_55 : decode cX10_copyFrom 55 = .ok (.iconst 0, 1) := by decide +kernel
theorem dX10_copyFrom_56 : decode cX10_copyFrom 56 = .ok (.bipush 30, 2) := by decide +kernel
theorem dX10_copyFrom_58 : decode cX10_copyFrom 58 = .ok (.invokestatic 55, 3) := by decide +kernel
theorem dX10_copyFrom_61 : decode cX10_copyFrom 61 = .ok (.aload_n 1, 1) := by decide +kernel
theorem dX10_copyFrom_62 : decode cX10_copyFrom 62 = .ok (.getfield 39, 3) := by decide +kernel
theorem dX10_copyFrom_65 : decode cX10_copyFrom 65 = .ok (.iconst 0, 1) := by decide +kernel
theorem dX10_copyFrom_66 : decode cX10_copyFrom 66 = .ok (.aload_n 0, 1) := by decide +kernel
theorem dX10_copyFrom_67 : decode cX10_copyFrom 67 = .ok (.getfield 39, 3) := by decide +kernel
theorem dX10_copyFrom_70 : decode cX10_copyFrom 70 = .ok (.iconst 0, 1) := by decide +kernel
theorem dX10_copyFrom_71 : decode cX10_copyFrom 71 = .ok (.sipush 920, 3) := by decide +kernel
theorem dX10_copyFrom_74 : decode cX10_copyFrom 74 = .ok (.invokestatic 55, 3) := by decide +kernel
theorem dX10_copyFrom_77 : decode cX10_copyFrom 77 = .ok (.aload_n 0, 1) := by decide +kernel
theorem dX10_copyFrom_78 : decode cX10_copyFrom 78 = .ok (.aload_n 1, 1) := by decide +kernel
theorem dX10_copyFrom_79 : decode cX10_copyFrom 79 = .ok (.getfield 42, 3) := by decide +kernel
theorem dX10_copyFrom_82 : decode cX10_copyFrom 82 = .ok (.putfield 42, 3) := by decide +kernel
theorem dX10_copyFrom_85 : decode cX10_copyFrom 85 = .ok (.aload_n 0, 1) := by decide +kernel
theorem dX10_copyFrom_86 : decode cX10_copyFrom 86 = .ok (.aload_n 1, 1) := by decide +kernel
theorem dX10_copyFrom_87 : decode cX10_copyFrom 87 = .ok (.getfield 45, 3) := by decide +kernel
theorem dX10_copyFrom_90 : decode cX10_copyFrom 90 = .ok (.putfield 45, 3) := by decide +kernel
theorem dX10_copyFrom_93 : decode cX10_copyFrom 93 = .ok (.return_, 1) := by decide +kernel
theorem dX10_moveInto_0 : decode cX10_moveInto 0 = .ok (.aload_n 0, 1) := by decide +kernel
theorem dX10_moveInto_1 : decode cX10_moveInto 1 = .ok (.getfield 12, 3) := by decide +kernel
theorem dX10_moveInto_4 : decode cX10_moveInto 4 = .ok (.aload_n 1, 1) := by decide +kernel
theorem dX10_moveInto_5 : decode cX10_moveInto 5 = .ok (.invokevirtual 48, 3) := by decide +kernel
theorem dX10_moveInto_8 : decode cX10_moveInto 8 = .ok (.aload_n 0, 1) := by decide +kernel
theorem dX10_moveInto_9 : decode cX10_moveInto 9 = .ok (.getfield 21, 3) := by decide +kernel
theorem dX10_moveInto_12 : decode cX10_moveInto 12 = .ok (.aload_n 0, 1) := by decide +kernel
theorem dX10_moveInto_13 : decode cX10_moveInto 13 = .ok (.getfield 12, 3) := by decide +kernel
theorem dX10_moveInto_16 : decode cX10_moveInto 16 = .ok (.aload_n 0, 1) := by decide +kernel
theorem dX10_moveInto_17 : decode cX10_moveInto 17 = .ok (.getfield 12, 3) := by decide +kernel
theorem dX10_moveInto_20 : decode cX10_moveInto 20 = .ok (.getfield 61, 3) := by decide +kernel
theorem dX10_moveInto_23 : decode cX10_moveInto 23 = .ok (.invokevirtual 64, 3) := by decide +kernel
theorem dX10_moveInto_26 : decode cX10_moveInto 26 = .ok (.aload_n 0, 1) := by decide +kernel
theorem dX10_moveInto_27 : decode cX10_moveInto 27 = .ok (.iconst 0, 1) := by decide +kernel
theorem dX10_moveInto_28 : decode cX10_moveInto 28 = .ok (.putfield 32, 3) := by decide +kernel
theorem dX10_moveInto_31 : decode cX10_moveInto 31 = .ok (.aload_n 0, 1) := by decide +kernel
theorem dX10_moveInto_32 : decode cX10_moveInto 32 = .ok (.iconst 0, 1) := by decide +kernel
theorem dX10_moveInto_33 : decode cX10_moveInto 33 = .ok (.putfield 45, 3) := by decide +kernel
theorem dX10_moveInto_36 : decode cX10_moveInto 36 = .ok (.return_, 1) := by decide +kernel
theorem dX10_rememberForUndo_0 : decode cX10_rememberForUndo 0 = .ok (.aload_n 0, 1) := by decide +kernel
theorem dX10_rememberForUndo_1 : decode cX10_rememberForUndo 1 = .ok (.getfield 21, 3) := by decide +kernel
theorem dX10_rememberForUndo_4 : decode cX10_rememberForUndo 4 = .ok (.getfield 68, 3) := by decide +kernel
theorem dX10_rememberForUndo_7 : decode cX10_rememberForUndo 7 = .ok (.iconst 0, 1) := by decide +kernel
theorem dX10_rememberForUndo_8 : decode cX10_rememberForUndo 8 = .ok (.aload_n 0, 1) := by decide +kernel
theorem dX10_rememberForUndo_9 : decode cX10_rememberForUndo 9 = .ok (.getfield 39, 3) := by decide +kernel
theorem dX10_rememberForUndo_12 : decode cX10_rememberForUndo 12 = .ok (.aload_n 0, 1) := by decide +kernel
theorem dX10_rememberForUndo_13 : decode cX10_rememberForUndo 13 = .ok (.getfield 42, 3) := by decide +kernel
theorem dX10_rememberForUndo_16 : decode cX10_rememberForUndo 16 = .ok (.bipush 46, 2) := by decide +kernel
theorem dX10_rememberForUndo_18 : decode cX10_rememberForUndo 18 = .ok (.imul, 1) := by decide +kernel
theorem dX10_rememberForUndo_19 : decode cX10_rememberForUndo 19 = .ok (.bipush 46, 2) := by decide +kernel
theorem dX10_rememberForUndo_21 : decode cX10_rememberForUndo 21 = .ok (.invokestatic 55, 3) := by decide +kernel
theorem dX10_rememberForUndo_24 : decode cX10_rememberForUndo 24 = .ok (.aload_n 0, 1) := by decide +kernel
theorem dX10_rememberForUndo_25 : decode cX10_rememberForUndo 25 = .ok (.aload_n 0, 1) := by decide +kernel
theorem dX10_rememberForUndo_26 : decode cX10_rememberForUndo 26 = .ok (.getfield 42, 3) := by decide +kernel
theorem dX10_rememberForUndo_29 : decode cX10_rememberForUndo 29 = .ok (.iconst 1, 1) := by decide +kernel
theorem dX10_rememberForUndo_30 : decode cX10_rememberForUndo 30 = .ok (.iadd, 1) := by decide +kernel
theorem dX10_rememberForUndo_31 : decode cX10_rememberForUndo 31 = .ok (.bipush 20, 2) := by decide +kernel
theorem dX10_rememberForUndo_33 : decode cX10_rememberForUndo 33 = .ok (.irem, 1) := by decide +kernel
theorem dX10_rememberForUndo_34 : decode cX10_rememberForUndo 34 = .ok (.putfield 42, 3) := by decide +kernel
theorem dX10_rememberForUndo_37 : decode cX10_rememberForUndo 37 = .ok (.aload_n 0, 1) := by decide +kernel
theorem dX10_rememberForUndo_38 : decode cX10_rememberForUndo 38 = .ok (.bipush 20, 2) := by decide +kernel
theorem dX10_rememberForUndo_40 : decode cX10_rememberForUndo 40 = .ok (.aload_n 0, 1) := by decide +kernel
theorem dX10_rememberForUndo_41 : decode cX10_rememberForUndo 41 = .ok (.getfield 45, 3) := by decide +kernel
theorem dX10_rememberForUndo_44 : decode cX10_rememberForUndo 44 = .ok (.iconst 1, 1) := by decide +kernel
theorem dX10_rememberForUndo_45 : decode cX10_rememberForUndo 45 = .ok (.iadd, 1) := by decide +kernel
theorem dX10_rememberForUndo_46 : decode cX10_rememberForUndo 46 = .ok (.invokestatic 71, 3) := by decide +kernel
theorem dX10_rememberForUndo_49 : decode cX10_rememberForUndo 49 = .ok (.putfield 45, 3) := by decide +kernel
theorem dX10_rememberForUndo_52 : decode cX10_rememberForUndo 52 = .ok (.return_, 1) := by decide +kernel
theorem dX10_undoLast_0 : decode cX10_undoLast 0 = .ok (.aload_n 0, 1) := by decide +kernel
theorem dX10_undoLast_1 : decode cX10_undoLast 1 = .ok (.aload_n 0, 1) := by decide +kernel
theorem dX10_undoLast_2 : decode cX10_undoLast 2 = .ok (.getfield 42, 3) := by decide +kernel
theorem dX10_undoLast_5 : decode cX10_undoLast 5 = .ok (.bipush 20, 2) := by decide +kernel
theorem dX10_undoLast_7 : decode cX10_undoLast 7 = .ok (.iadd, 1) := by decide +kernel
theorem dX10_undoLast_8 : decode cX10_undoLast 8 = .ok (.iconst 1, 1) := by decide +kernel
theorem dX10_undoLast_9 : decode cX10_undoLast 9 = .ok (.isub, 1) := by decide +kernel
theorem dX10_undoLast_10 : decode cX10_undoLast 10 = .ok (.bipush 20, 2) := by decide +kernel
theorem dX10_undoLast_12 : decode cX10_undoLast 12 = .ok (.irem, 1) := by decide +kernel
theorem dX10_undoLast_13 : decode cX10_undoLast 13 = .ok (.putfield 42, 3) := by decide +kernel
theorem dX10_undoLast_16 : decode cX10_undoLast 16 = .ok (.aload_n 0, 1) := by decide +kernel
theorem dX10_undoLast_17 : decode cX10_undoLast 17 = .ok (.dup, 1) := by decide +kernel
theorem dX10_undoLast_18 : decode cX10_undoLast 18 = .ok (.getfield 45, 3) := by decide +kernel
theorem dX10_undoLast_21 : decode cX10_undoLast 21 = .ok (.iconst 1, 1) := by decide +kernel
theorem dX10_undoLast_22 : decode cX10_undoLast 22 = .ok (.isub, 1) := by decide +kernel
theorem dX10_undoLast_23 : decode cX10_undoLast 23 = .ok (.putfield 45, 3) := by decide +kernel
theorem dX10_undoLast_26 : decode cX10_undoLast 26 = .ok (.aload_n 0, 1) := by decide +kernel
theorem dX10_undoLast_27 : decode cX10_undoLast 27 = .ok (.getfield 39, 3) := by decide +kernel
theorem dX10_undoLast_30 : decode cX10_undoLast 30 = .ok (.aload_n 0, 1) := by decide +kernel
theorem dX10_undoLast_31 : decode cX10_undoLast 31 = .ok (.getfield 42, 3) := by decide +kernel
theorem dX10_undoLast_34 : decode cX10_undoLast 34 = .ok (.bipush 46, 2) := by decide +kernel
theorem dX10_undoLast_36 : decode cX10_undoLast 36 = .ok (.imul, 1) := by decide +kernel
theorem dX10_undoLast_37 : decode cX10_undoLast 37 = .ok (.aload_n 0, 1) := by decide +kernel
theorem dX10_undoLast_38 : decode cX10_undoLast 38 = .ok (.getfield 21, 3) := by decide +kernel
theorem dX10_undoLast_41 : decode cX10_undoLast 41 = .ok (.getfield 68, 3) := by decide +kernel
theorem dX10_undoLast_44 : decode cX10_undoLast 44 = .ok (.iconst 0, 1) := by decide +kernel
theorem dX10_undoLast_45 : decode cX10_undoLast 45 = .ok (.bipush 46, 2) := by decide +kernel
theorem dX10_undoLast_47 : decode cX10_undoLast 47 = .ok (.invokestatic 55, 3) := by decide +kernel
theorem dX10_undoLast_50 : decode cX10_undoLast 50 = .ok (.return_, 1) := by decide +kernel
theorem dX10_addLog_0 : decode cX10_addLog 0 = .ok (.aload_n 0, 1) := by decide +kernel
theorem dX10_addLog_1 : decode cX10_addLog 1 = .ok (.getfield 32, 3) := by decide +kernel
theorem dX10_addLog_4 : decode cX10_addLog 4 = .ok (.iconst 3, 1) := by decide +kernel
theorem dX10_addLog_5 : decode cX10_addLog 5 = .ok (.imul, 1) := by decide +kernel
theorem dX10_addLog_6 : decode cX10_addLog 6 = .ok (.istore 4, 2) := by decide +kernel
theorem dX10_addLog_8 : decode cX10_addLog 8 = .ok (.aload_n 0, 1) := by decide +kernel
theorem dX10_addLog_9 : decode cX10_addLog 9 = .ok (.getfield 35, 3) := by decide +kernel
theorem dX10_addLog_12 : decode cX10_addLog 12 = .ok (.iload 4, 2) := by decide +kernel
theorem dX10_addLog_14 : decode cX10_addLog 14 = .ok (.iload_n 1, 1) := by decide +kernel
theorem dX10_addLog_15 : decode cX10_addLog 15 = .ok (.iastore, 1) := by decide +kernel
theorem dX10_addLog_16 : decode cX10_addLog 16 = .ok (.aload_n 0, 1) := by decide +kernel
theorem dX10_addLog_17 : decode cX10_addLog 17 = .ok (.getfield 35, 3) := by decide +kernel
theorem dX10_addLog_20 : decode cX10_addLog 20 = .ok (.iload 4, 2) := by decide +kernel
theorem dX10_addLog_22 : decode cX10_addLog 22 = .ok (.iconst 1, 1) := by decide +kernel
theorem dX10_addLog_23 : decode cX10_addLog 23 = .ok (.iadd, 1) := by decide +kernel
theorem dX10_addLog_24 : decode cX10_addLog 24 = .ok (.iload_n 2, 1) := by decide +kernel
theorem dX10_addLog_25 : decode cX10_addLog 25 = .ok (.iastore, 1) := by decide +kernel
theorem dX10_addLog_26 : decode cX10_addLog 26 = .ok (.aload_n 0, 1) := by decide +kernel
theorem dX10_addLog_27 : decode cX10_addLog 27 = .ok (.getfield 35, 3) := by decide +kernel
theorem dX10_addLog_30 : decode cX10_addLog 30 = .ok (.iload 4, 2) := by decide +kernel
theorem dX10_addLog_32 : decode cX10_addLog 32 = .ok (.iconst 2, 1) := by decide +kernel
theorem dX10_addLog_33 : decode cX10_addLog 33 = .ok (.iadd, 1) := by decide +kernel
theorem dX10_addLog_34 : decode cX10_addLog 34 = .ok (.iload_n 3, 1) := by decide +kernel
theorem dX10_addLog_35 : decode cX10_addLog 35 = .ok (.iastore, 1) := by decide +kernel
theorem dX10_addLog_36 : decode cX10_addLog 36 = .ok (.aload_n 0, 1) := by decide +kernel
theorem dX10_addLog_37 : decode cX10_addLog 37 = .ok (.dup, 1) := by decide +kernel
theorem dX10_addLog_38 : decode cX10_addLog 38 = .ok (.getfield 32, 3) := by decide +kernel
theorem dX10_addLog_41 : decode cX10_addLog 41 = .ok (.iconst 1, 1) := by decide +kernel
theorem dX10_addLog_42 : decode cX10_addLog 42 = .ok (.iadd, 1) := by decide +kernel
theorem dX10_addLog_43 : decode cX10_addLog 43 = .ok (.putfield 32, 3) := by decide +kernel
theorem dX10_addLog_46 : decode cX10_addLog 46 = .ok (.return_, 1) := by decide +kernel
theorem dX10_logDay_0 : decode cX10_logDay 0 = .ok (.aload_n 0, 1) := by decide +kernel
theorem dX10_logDay_1 : decode cX10_logDay 1 = .ok (.getfield 35, 3) := by decide +kernel
theorem dX10_logDay_4 : decode cX10_logDay 4 = .ok (.iload_n 1, 1) := by decide +kernel
theorem dX10_logDay_5 : decode cX10_logDay 5 = .ok (.iconst 3, 1) := by decide +kernel
theorem dX10_logDay_6 : decode cX10_logDay 6 = .ok (.imul, 1) := by decide +kernel
theorem dX10_logDay_7 : decode cX10_logDay 7 = .ok (.iaload, 1) := by decide +kernel
theorem dX10_logDay_8 : decode cX10_logDay 8 = .ok (.ireturn, 1) := by decide +kernel
theorem dX10_logPerson_0 : decode cX10_logPerson 0 = .ok (.aload_n 0, 1) := by decide +kernel
theorem dX10_logPerson_1 : decode cX10_logPerson 1 = .ok (.getfield 35, 3) := by decide +kernel
theorem dX10_logPerson_4 : decode cX10_logPerson 4 = .ok (.iload_n 1, 1) := by decide +kernel
theorem dX10_logPerson_5 : decode cX10_logPerson 5 = .ok (.iconst 3, 1) := by decide +kernel
theorem dX10_logPerson_6 : decode cX10_logPerson 6 = .ok (.imul, 1) := by decide +kernel
theorem dX10_logPerson_7 : decode cX10_logPerson 7 = .ok (.iconst 1, 1) := by decide +kernel
theorem dX10_logPerson_8 : decode cX10_logPerson 8 = .ok (.iadd, 1) := by decide +kernel
theorem dX10_logPerson_9 : decode cX10_logPerson 9 = .ok (.iaload, 1) := by decide +kernel
theorem dX10_logPerson_10 : decode cX10_logPerson 10 = .ok (.ireturn, 1) := by decide +kernel
theorem dX10_logLate_0 : decode cX10_logLate 0 = .ok (.aload_n 0, 1) := by decide +kernel
theorem dX10_logLate_1 : decode cX10_logLate 1 = .ok (.getfield 35, 3) := by decide +kernel
theorem dX10_logLate_4 : decode cX10_logLate 4 = .ok (.iload_n 1, 1) := by decide +kernel
theorem dX10_logLate_5 : decode cX10_logLate 5 = .ok (.iconst 3, 1) := by decide +kernel
theorem dX10_logLate_6 : decode cX10_logLate 6 = .ok (.imul, 1) := by decide +kernel
theorem dX10_logLate_7 : decode cX10_logLate 7 = .ok (.iconst 2, 1) := by decide +kernel
theorem dX10_logLate_8 : decode cX10_logLate 8 = .ok (.iadd, 1) := by decide +kernel
theorem dX10_logLate_9 : decode cX10_logLate 9 = .ok (.iaload, 1) := by decide +kernel
theorem dX10_logLate_10 : decode cX10_logLate 10 = .ok (.ireturn, 1) := by decide +kernel
theorem dX11_init_0 : decode cX11_init 0 = .ok (.aload_n 0, 1) := by decide +kernel
theorem dX11_init_1 : decode cX11_init 1 = .ok (.invokespecial 1, 3) := by decide +kernel
theorem dX11_init_4 : decode cX11_init 4 = .ok (.aload_n 0, 1) := by decide +kernel
theorem dX11_init_5 : decode cX11_init 5 = .ok (.new 7, 3) := by decide +kernel
theorem dX11_init_8 : decode cX11_init 8 = .ok (.dup, 1) := by decide +kernel
theorem dX11_init_9 : decode cX11_init 9 = .ok (.invokespecial 9, 3) := by decide +kernel
theorem dX11_init_12 : decode cX11_init 12 = .ok (.putfield 10, 3) := by decide +kernel
theorem dX11_init_15 : decode cX11_init 15 = .ok (.aload_n 0, 1) := by decide +kernel
theorem dX11_init_16 : decode cX11_init 16 = .ok (.new 16, 3) := by decide +kernel
theorem dX11_init_19 : decode cX11_init 19 = .ok (.dup, 1) := by decide +kernel
theorem dX11_init_20 : decode cX11_init 20 = .ok (.aload_n 0, 1) := by decide +kernel
theorem dX11_init_21 : decode cX11_init 21 = .ok (.getfield 10, 3) := by decide +kernel
theorem dX11_init_24 : decode cX11_init 24 = .ok (.invokespecial 18, 3) := by decide +kernel
theorem dX11_init_27 : decode cX11_init 27 = .ok (.putfield 21, 3) := by decide +kernel
theorem dX11_init_30 : decode cX11_init 30 = .ok (.aload_n 0, 1) := by decide +kernel
theorem dX11_init_31 : decode cX11_init 31 = .ok (.new 25, 3) := by decide +kernel
theorem dX11_init_34 : decode cX11_init 34 = .ok (.dup, 1) := by decide +kernel
theorem dX11_init_35 : decode cX11_init 35 = .ok (.aload_n 0, 1) := by decide +kernel
theorem dX11_init_36 : decode cX11_init 36 = .ok (.getfield 10, 3) := by decide +kernel
theorem dX11_init_39 : decode cX11_init 39 = .ok (.invokespecial 27, 3) := by decide +kernel
theorem dX11_init_42 : decode cX11_init 42 = .ok (.putfield 28, 3) := by decide +kernel
theorem dX11_init_45 : decode cX11_init 45 = .ok (.aload_n 0, 1) := by decide +kernel
theorem dX11_init_46 : decode cX11_init 46 = .ok (.bipush 6, 2) := by decide +kernel
theorem dX11_init_48 : decode cX11_init 48 = .ok (.anewarray 32, 3) := by decide +kernel
theorem dX11_init_51 : decode cX11_init 51 = .ok (.putfield 34, 3) := by decide +kernel
theorem dX11_init_54 : decode cX11_init 54 = .ok (.aload_n 0, 1) := by decide +kernel
theorem dX11_init_55 : decode cX11_init 55 = .ok (.iconst 0, 1) := by decide +kernel
theorem dX11_init_56 : decode cX11_init 56 = .ok (.putfield 38, 3) := by decide +kernel
theorem dX11_init_59 : decode cX11_init 59 = .ok (.aload_n 0, 1) := by decide +kernel
theorem dX11_init_60 : decode cX11_init 60 = .ok (.new 42, 3) := by decide +kernel
theorem dX11_init_63 : decode cX11_init 63 = .ok (.dup, 1) := by decide +kernel
theorem dX11_init_64 : decode cX11_init 64 = .ok (.invokespecial 44, 3) := by decide +kernel
theorem dX11_init_67 : decode cX11_init 67 = .ok (.putfield 45, 3) := by decide +kernel
theorem dX11_init_70 : decode cX11_init 70 = .ok (.aload_n 0, 1) := by decide +kernel
theorem dX11_init_71 : decode cX11_init 71 = .ok (.iconst 4, 1) := by decide +kernel
theorem dX11_init_72 : decode cX11_init 72 = .ok (.anewarray 42, 3) := by decide +kernel
theorem dX11_init_75 : decode cX11_init 75 = .ok (.putfield 49, 3) := by decide +kernel
theorem dX11_init_78 : decode cX11_init 78 = .ok (.aload_n 0, 1) := by decide +kernel
theorem dX11_init_79 : decode cX11_init 79 = .ok (.new 53, 3) := by decide +kernel
theorem dX11_init_82 : decode cX11_init 82 = .ok (.dup, 1) := by decide +kernel
theorem dX11_init_83 : decode cX11_init 83 = .ok (.invokespecial 55, 3) := by decide +kernel
theorem dX11_init_86 : decode cX11_init 86 = .ok (.putfield 56, 3) := by decide +kernel
theorem dX11_init_89 : decode cX11_init 89 = .ok (.aload_n 0, 1) := by decide +kernel
theorem dX11_init_90 : decode cX11_init 90 = .ok (.new 60, 3) := by decide +kernel
theorem dX11_init_93 : decode cX11_init 93 = .ok (.dup, 1) := by decide +kernel
theorem dX11_init_94 : decode cX11_init 94 = .ok (.invokespecial 62, 3) := by decide +kernel
theorem dX11_init_97 : decode cX11_init 97 = .ok (.putfield 63, 3) := by decide +kernel
theorem dX11_init_100 : decode cX11_init 100 = .ok (.return_, 1) := by decide +kernel
theorem dX11_feed_0 : decode cX11_feed 0 = .ok (.aload_n 0, 1) := by decide +kernel
theorem dX11_feed_1 : decode cX11_feed 1 = .ok (.getfield 10, 3) := by decide +kernel
theorem dX11_feed_4 : decode cX11_feed 4 = .ok (.getfield 67, 3) := by decide +kernel
theorem dX11_feed_7 : decode cX11_feed 7 = .ok (.bipush 20, 2) := by decide +kernel
theorem dX11_feed_9 : decode cX11_feed 9 = .ok (.iadd, 1) := by decide +kernel
theorem dX11_feed_10 : decode cX11_feed 10 = .ok (.sipush 400, 3) := by decide +kernel
theorem dX11_feed_13 : decode cX11_feed 13 = .ok (.if_icmp .le 5, 3) := by decide +kernel
theorem dX11_feed_16 : decode cX11_feed 16 = .ok (.iconst (-1), 1) := by decide +kernel
theorem dX11_feed_17 : decode cX11_feed 17 = .ok (.ireturn, 1) := by decide +kernel
theorem dX11_feed_18 : decode cX11_feed 18 = .ok (.aload_n 0, 1) := by decide +kernel
theorem dX11_feed_19 : decode cX11_feed 19 = .ok (.getfield 10, 3) := by decide +kernel
theorem dX11_feed_22 : decode cX11_feed 22 = .ok (.iload_n 1, 1) := by decide +kernel
theorem dX11_feed_23 : decode cX11_feed 23 = .ok (.invokevirtual 70, 3) := by decide +kernel
theorem dX11_feed_26 : decode cX11_feed 26 = .ok (.aload_n 0, 1) := by decide +kernel
theorem dX11_feed_27 : decode cX11_feed 27 = .ok (.getfield 10, 3) := by decide +kernel
theorem dX11_feed_30 : decode cX11_feed 30 = .ok (.iload_n 2, 1) := by decide +kernel
theorem dX11_feed_31 : decode cX11_feed 31 = .ok (.invokevirtual 70, 3) := by decide +kernel
theorem dX11_feed_34 : decode cX11_feed 34 = .ok (.aload_n 0, 1) := by decide +kernel
theorem dX11_feed_35 : decode cX11_feed 35 = .ok (.getfield 10, 3) := by decide +kernel
theorem dX11_feed_38 : decode cX11_feed 38 = .ok (.iload_n 3, 1) := by decide +kernel
theorem dX11_feed_39 : decode cX11_feed 39 = .ok (.invokevirtual 70, 3) := by decide +kernel
theorem dX11_feed_42 : decode cX11_feed 42 = .ok (.aload_n 0, 1) := by decide +kernel
theorem dX11_feed_43 : decode cX11_feed 43 = .ok (.getfield 10, 3) := by decide +kernel
theorem dX11_feed_46 : decode cX11_feed 46 = .ok (.iload 4, 2) := by decide +kernel
theorem dX11_feed_48 : decode cX11_feed 48 = .ok (.invokevirtual 70, 3) := by decide +kernel
theorem dX11_feed_51 : decode cX11_feed 51 = .ok (.aload_n 0, 1) := by decide +kernel
theorem dX11_feed_52 : decode cX11_feed 52 = .ok (.getfield 10, 3) := by decide +kernel
theorem dX11_feed_55 : decode cX11_feed 55 = .ok (.iload 5, 2) := by decide +kernel
theorem dX11_feed_57 : decode cX11_feed 57 = .ok (.invokevirtual 70, 3) := by decide +kernel
theorem dX11_feed_60 : decode cX11_feed 60 = .ok (.aload_n 0, 1) := by decide +kernel
theorem dX11_feed_61 : decode cX11_feed 61 = .ok (.getfield 10, 3) := by decide +kernel
theorem dX11_feed_64 : decode cX11_feed 64 = .ok (.getfield 67, 3) := by decide +kernel
theorem dX11_feed_67 : decode cX11_feed 67 = .ok (.ireturn, 1) := by decide +kernel
theorem dX11_end_0 : decode cX11_end 0 = .ok (.iload_n 1, 1) := by decide +kernel
theorem dX11_end_1 : decode cX11_end 1 = .ok (.ifCond .lt 14, 3) := by decide +kernel
theorem dX11_end_4 : decode cX11_end 4 = .ok (.iload_n 1, 1) := by decide +kernel
theorem dX11_end_5 : decode cX11_end 5 = .ok (.aload_n 0, 1) := by decide +kernel
theorem dX11_end_6 : decode cX11_end 6 = .ok (.getfield 10, 3) := by decide +kernel
theorem dX11_end_9 : decode cX11_end 9 = .ok (.getfield 67, 3) := by decide +kernel
theorem dX11_end_12 : decode cX11_end 12 = .ok (.if_icmp .le 5, 3) := by decide +kernel
theorem dX11_end_15 : decode cX11_end 15 = .ok (.iconst (-1), 1) := by decide +kernel
theorem dX11_end_16 : decode cX11_end 16 = .ok (.ireturn, 1) := by decide +kernel
theorem dX11_end_17 : decode cX11_end 17 = .ok (.aload_n 0, 1) := by decide +kernel
theorem dX11_end_18 : decode cX11_end 18 = .ok (.getfield 10, 3) := by decide +kernel
theorem dX11_end_21 : decode cX11_end 21 = .ok (.iload_n 1, 1) := by decide +kernel
theorem dX11_end_22 : decode cX11_end 22 = .ok (.putfield 67, 3) := by decide +kernel
theorem dX11_end_25 : decode cX11_end 25 = .ok (.iload_n 1, 1) := by decide +kernel
theorem dX11_end_26 : decode cX11_end 26 = .ok (.ireturn, 1) := by decide +kernel
theorem dX11_town_0 : decode cX11_town 0 = .ok (.aload_n 0, 1) := by decide +kernel
theorem dX11_town_1 : decode cX11_town 1 = .ok (.getfield 21, 3) := by decide +kernel
theorem dX11_town_4 : decode cX11_town 4 = .ok (.invokevirtual 74, 3) := by decide +kernel
theorem dX11_town_7 : decode cX11_town 7 = .ok (.istore_n 1, 1) := by decide +kernel
theorem dX11_town_8 : decode cX11_town 8 = .ok (.aload_n 0, 1) := by decide +kernel
theorem dX11_town_9 : decode cX11_town 9 = .ok (.getfield 10, 3) := by decide +kernel
theorem dX11_town_12 : decode cX11_town 12 = .ok (.iconst 0, 1) := by decide +kernel
theorem dX11_town_13 : decode cX11_town 13 = .ok (.putfield 67, 3) := by decide +kernel
theorem dX11_town_16 : decode cX11_town 16 = .ok (.iload_n 1, 1) := by decide +kernel
theorem dX11_town_17 : decode cX11_town 17 = .ok (.ifCond .eq 8, 3) := by decide +kernel
theorem dX11_town_20 : decode cX11_town 20 = .ok (.bipush (-2), 2) := by decide +kernel
theorem dX11_town_22 : decode cX11_town 22 = .ok (.iload_n 1, 1) := by decide +kernel
theorem dX11_town_23 : decode cX11_town 23 = .ok (.isub, 1) := by decide +kernel
theorem dX11_town_24 : decode cX11_town 24 = .ok (.ireturn, 1) := by decide +kernel
theorem dX11_town_25 : decode cX11_town 25 = .ok (.aload_n 0, 1) := by decide +kernel
theorem dX11_town_26 : decode cX11_town 26 = .ok (.getfield 45, 3) := by decide +kernel
theorem dX11_town_29 : decode cX11_town 29 = .ok (.aload_n 0, 1) := by decide +kernel
theorem dX11_town_30 : decode cX11_town 30 = .ok (.getfield 21, 3) := by decide +kernel
theorem dX11_town_33 : decode cX11_town 33 = .ok (.getfield 78, 3) := by decide +kernel
theorem dX11_town_36 : decode cX11_town 36 = .ok (.invokevirtual 82, 3) := by decide +kernel
theorem dX11_town_39 : decode cX11_town 39 = .ok (.aload_n 0, 1) := by decide +kernel
theorem dX11_town_40 : decode cX11_town 40 = .ok (.getfield 45, 3) := by decide +kernel
theorem dX11_town_43 : decode cX11_town 43 = .ok (.getfield 86, 3) := by decide +kernel
theorem dX11_town_46 : decode cX11_town 46 = .ok (.getfield 87, 3) := by decide +kernel
theorem dX11_town_49 : decode cX11_town 49 = .ok (.ireturn, 1) := by decide +kernel
theorem dX11_rule_0 : decode cX11_rule 0 = .ok (.aload_n 0, 1) := by decide +kernel
theorem dX11_rule_1 : decode cX11_rule 1 = .ok (.getfield 38, 3) := by decide +kernel
theorem dX11_rule_4 : decode cX11_rule 4 = .ok (.bipush 6, 2) := by decide +kernel
theorem dX11_rule_6 : decode cX11_rule 6 = .ok (.if_icmp .lt 5, 3) := by decide +kernel
theorem dX11_rule_9 : decode cX11_rule 9 = .ok (.iconst (-1), 1) := by decide +kernel
theorem dX11_rule_10 : decode cX11_rule 10 = .ok (.ireturn, 1) := by decide +kernel
theorem dX11_rule_11 : decode cX11_rule 11 = .ok (.aload_n 0, 1) := by decide +kernel
theorem dX11_rule_12 : decode cX11_rule 12 = .ok (.getfield 28, 3) := by decide +kernel
theorem dX11_rule_15 : decode cX11_rule 15 = .ok (.invokevirtual 92, 3) := by decide +kernel
theorem dX11_rule_18 : decode cX11_rule 18 = .ok (.istore_n 1, 1) := by decide +kernel
theorem dX11_rule_19 : decode cX11_rule 19 = .ok (.aload_n 0, 1) := by decide +kernel
theorem dX11_rule_20 : decode cX11_rule 20 = .ok (.getfield 10, 3) := by decide +kernel
theorem dX11_rule_23 : decode cX11_rule 23 = .ok (.iconst 0, 1) := by decide +kernel
theorem dX11_rule_24 : decode cX11_rule 24 = .ok (.putfield 67, 3) := by decide +kernel
theorem dX11_rule_27 : decode cX11_rule 27 = .ok (.iload_n 1, 1) := by decide +kernel
theorem dX11_rule_28 : decode cX11_rule 28 = .ok (.ifCond .eq 8, 3) := by decide +kernel
theorem dX11_rule_31 : decode cX11_rule 31 = .ok (.bipush (-2), 2) := by decide +kernel
theorem dX11_rule_33 : decode cX11_rule 33 = .ok (.iload_n 1, 1) := by decide +kernel
theorem dX11_rule_34 : decode cX11_rule 34 = .ok (.isub, 1) := by decide +kernel
theorem dX11_rule_35 : decode cX11_rule 35 = .ok (.ireturn, 1) := by decide +kernel
theorem dX11_rule_36 : decode cX11_rule 36 = .ok (.aload_n 0, 1) := by decide +kernel
theorem dX11_rule_37 : decode cX11_rule 37 = .ok (.getfield 34, 3) := by decide +kernel
theorem dX11_rule_40 : decode cX11_rule 40 = .ok (.aload_n 0, 1) := by decide +kernel
theorem dX11_rule_41 : decode cX11_rule 41 = .ok (.getfield 38, 3) := by decide +kernel
theorem dX11_rule_44 : decode cX11_rule 44 = .ok (.aload_n 0, 1) := by decide +kernel
theorem dX11_rule_45 : decode cX11_rule 45 = .ok (.getfield 28, 3) := by decide +kernel
theorem dX11_rule_48 : decode cX11_rule 48 = .ok (.invokevirtual 93, 3) := by decide +kernel
theorem dX11_rule_51 : decode cX11_rule 51 = .ok (.aastore, 1) := by decide +kernel
theorem dX11_rule_52 : decode cX11_rule 52 = .ok (.aload_n 0, 1) := by decide +kernel
theorem dX11_rule_53 : decode cX11_rule 53 = .ok (.dup, 1) := by decide +kernel
theorem dX11_rule_54 : decode cX11_rule 54 = .ok (.getfield 38, 3) := by decide +kernel
theorem dX11_rule_57 : decode cX11_rule 57 = .ok (.iconst 1, 1) := by decide +kernel
theorem dX11_rule_58 : decode cX11_rule 58 = .ok (.iadd, 1) := by decide +kernel
theorem dX11_rule_59 : decode cX11_rule 59 = .ok (.putfield 38, 3) := by decide +kernel
theorem dX11_rule_62 : decode cX11_rule 62 = .ok (.aload_n 0, 1) := by decide +kernel
theorem dX11_rule_63 : decode cX11_rule 63 = .ok (.getfield 38, 3) := by decide +kernel
theorem dX11_rule_66 : decode cX11_rule 66 = .ok (.iconst 1, 1) := by decide +kernel
theorem dX11_rule_67 : decode cX11_rule 67 = .ok (.isub, 1) := by decide +kernel
theorem dX11_rule_68 : decode cX11_rule 68 = .ok (.ireturn, 1) := by decide +kernel
theorem dX11_force_0 : decode cX11_force 0 = .ok (.iload_n 1, 1) := by decide +kernel
theorem dX11_force_1 : decode cX11_force 1 = .ok (.iconst (-1), 1) := by decide +kernel
theorem dX11_force_2 : decode cX11_force 2 = .ok (.if_icmp .lt 11, 3) := by decide +kernel
theorem dX11_force_5 : decode cX11_force 5 = .ok (.iload_n 1, 1) := by decide +kernel
theorem dX11_force_6 : decode cX11_force 6 = .ok (.aload_n 0, 1) := by decide +kernel
theorem dX11_force_7 : decode cX11_force 7 = .ok (.getfield 38, 3) := by decide +kernel
theorem dX11_force_10 : decode cX11_force 10 = .ok (.if_icmp .lt 6, 3) := by decide +kernel
theorem dX11_force_13 : decode cX11_force 13 = .ok (.bipush (-2), 2) := by decide +kernel
theorem dX11_force_15 : decode cX11_force 15 = .ok (.ireturn, 1) := by decide +kernel
theorem dX11_force_16 : decode cX11_force 16 = .ok (.aload_n 0, 1) := by decide +kernel
theorem dX11_force_17 : decode cX11_force 17 = .ok (.getfield 45, 3) := by decide +kernel
theorem dX11_force_20 : decode cX11_force 20 = .ok (.getfield 97, 3) := by decide +kernel
theorem dX11_force_23 : decode cX11_force 23 = .ok (.istore_n 2, 1) := by decide +kernel
theorem dX11_force_24 : decode cX11_force 24 = .ok (.aload_n 0, 1) := by decide +kernel
theorem dX11_force_25 : decode cX11_force 25 = .ok (.getfield 45, 3) := by decide +kernel
theorem dX11_force_28 : decode cX11_force 28 = .ok (.iload_n 1, 1) := by decide +kernel
theorem dX11_force_29 : decode cX11_force 29 = .ok (.putfield 97, 3) := by decide +kernel
theorem dX11_force_32 : decode cX11_force 32 = .ok (.iload_n 2, 1) := by decide +kernel
theorem dX11_force_33 : decode cX11_force 33 = .ok (.ireturn, 1) := by decide +kernel
theorem dX11_person_0 : decode cX11_person 0 = .ok (.aload_n 0, 1) := by decide +kernel
theorem dX11_person_1 : decode cX11_person 1 = .ok (.iload_n 1, 1) := by decide +kernel
theorem dX11_person_2 : decode cX11_person 2 = .ok (.invokevirtual 100, 3) := by decide +kernel
theorem dX11_person_5 : decode cX11_person 5 = .ok (.ifCond .ne 7, 3) := by decide +kernel
theorem dX11_person_8 : decode cX11_person 8 = .ok (.sipush (-1000), 3) := by decide +kernel
theorem dX11_person_11 : decode cX11_person 11 = .ok (.ireturn, 1) := by decide +kernel
theorem dX11_person_12 : decode cX11_person 12 = .ok (.aload_n 0, 1) := by decide +kernel
theorem dX11_person_13 : decode cX11_person 13 = .ok (.getfield 45, 3) := by decide +kernel
theorem dX11_person_16 : decode cX11_person 16 = .ok (.getfield 104, 3) := by decide +kernel
theorem dX11_person_19 : decode cX11_person 19 = .ok (.getfield 108, 3) := by decide +kernel
theorem dX11_person_22 : decode cX11_person 22 = .ok (.astore_n 3, 1) := by decide +kernel
theorem dX11_person_23 : decode cX11_person 23 = .ok (.iload_n 2, 1) := by decide +kernel
theorem dX11_person_24 : decode cX11_person 24 = .ok (.tableswitch 115 0 6 #[44, 57, 63, 83, 89, 96, 103], 44) := by decide +kernel
theorem dX11_person_68 : decode cX11_person 68 = .ok (.aload_n 0, 1) := by decide +kernel
theorem dX11_person_69 : decode cX11_person 69 = .ok (.getfield 45, 3) := by decide +kernel
theorem dX11_person_72 : decode cX11_person 72 = .ok (.getfield 86, 3) := by decide +kernel
theorem dX11_person_75 : decode cX11_person 75 = .ok (.getfield 114, 3) := by decide +kernel
theorem dX11_person_78 : decode cX11_person 78 = .ok (.iload_n 1, 1) := by decide +kernel
theorem dX11_person_79 : decode cX11_person 79 = .ok (.iaload, 1) := by decide +kernel
theorem dX11_person_80 : decode cX11_person 80 = .ok (.ireturn, 1) := by decide +kernel
theorem dX11_person_81 : decode cX11_person 81 = .ok (.aload_n 3, 1) := by decide +kernel
theorem dX11_person_82 : decode cX11_person 82 = .ok (.iconst 0, 1) := by decide +kernel
theorem dX11_person_83 : decode cX11_person 83 = .ok (.iload_n 1, 1) := by decide +kernel
theorem dX11_person_84 : decode cX11_person 84 = .ok (.iadd, 1) := by decide +kernel
theorem dX11_person_85 : decode cX11_person 85 = .ok (.iaload, 1) := by decide +kernel
theorem dX11_person_86 : decode cX11_person 86 = .ok (.ireturn, 1) := by decide +kernel
theorem dX11_person_87 : decode cX11_person 87 = .ok (.aload_n 0, 1) := by decide +kernel
theorem dX11_person_88 : decode cX11_person 88 = .ok (.getfield 45, 3) := by decide +kernel
theorem dX11_person_91 : decode cX11_person 91 = .ok (.getfield 104, 3) := by decide +kernel
theorem dX11_person_94 : decode cX11_person 94 = .ok (.iload_n 1, 1) := by decide +kernel
theorem dX11_person_95 : decode cX11_person 95 = .ok (.invokevirtual 117, 3) := by decide +kernel
theorem dX11_person_98 : decode cX11_person 98 = .ok (.ifCond .eq 7, 3) := by decide +kernel
theorem dX11_person_101 : decode cX11_person 101 = .ok (.iconst 1, 1) := by decide +kernel
theorem dX11_person_102 : decode cX11_person 102 = .ok (.goto 4, 3) := by decide +kernel
theorem dX11_person_105 : decode cX11_person 105 = .ok (.iconst 0, 1) := by decide +kernel
theorem dX11_person_106 : decode cX11_person 106 = .ok (.ireturn, 1) := by decide +kernel
theorem dX11_person_107 : decode cX11_person 107 = .ok (.aload_n 3, 1) := by decide +kernel
theorem dX11_person_108 : decode cX11_person 108 = .ok (.iconst 5, 1) := by decide +kernel
theorem dX11_person_109 : decode cX11_person 109 = .ok (.iload_n 1, 1) := by decide +kernel
theorem dX11_person_110 : decode cX11_person 110 = .ok (.iadd, 1) := by decide +kernel
theorem dX11_person_111 : decode cX11_person 111 = .ok (.iaload, 1) := by decide +kernel
theorem dX11_person_112 : decode cX11_person 112 = .ok (.ireturn, 1) := by decide +kernel
theorem dX11_person_113 : decode cX11_person 113 = .ok (.aload_n 3, 1) := by decide +kernel
theorem dX11_person_114 : decode cX11_person 114 = .ok (.bipush 10, 2) := by decide +kernel
theorem dX11_person_116 : decode cX11_person 116 = .ok (.iload_n 1, 1) := by decide +kernel
theorem dX11_person_117 : decode cX11_person 117 = .ok (.iadd, 1) := by decide +kernel
theorem dX11_person_118 : decode cX11_person 118 = .ok (.iaload, 1) := by decide +kernel
theorem dX11_person_119 : decode cX11_person 119 = .ok (.ireturn, 1) := by decide +kernel
theorem dX11_person_120 : decode cX11_person 120 = .ok (.aload_n 3, 1) := by decide +kernel
theorem dX11_person_121 : decode cX11_person 121 = .ok (.bipush 15, 2) := by decide +kernel
theorem dX11_person_123 : decode cX11_person 123 = .ok (.iload_n 1, 1) := by decide +kernel
theorem dX11_person_124 : decode cX11_person 124 = .ok (.iadd, 1) := by decide +kernel
theorem dX11_person_125 : decode cX11_person 125 = .ok (.iaload, 1) := by decide +kernel
theorem dX11_person_126 : decode cX11_person 126 = .ok (.ireturn, 1) := by decide +kernel
theorem dX11_person_127 : decode cX11_person 127 = .ok (.aload_n 0, 1) := by decide +kernel
theorem dX11_person_128 : decode cX11_person 128 = .ok (.getfield 45, 3) := by decide +kernel
theorem dX11_person_131 : decode cX11_person 131 = .ok (.getfield 86, 3) := by decide +kernel
theorem dX11_person_134 : decode cX11_person 134 = .ok (.iload_n 1, 1) := by decide +kernel
theorem dX11_person_135 : decode cX11_person 135 = .ok (.invokevirtual 120, 3) := by decide +kernel
theorem dX11_person_138 : decode cX11_person 138 = .ok (.ireturn, 1) := by decide +kernel
theorem dX11_person_139 : decode cX11_person 139 = .ok (.sipush (-1000), 3) := by decide +kernel
theorem dX11_person_142 : decode cX11_person 142 = .ok (.ireturn, 1) := by decide +kernel
theorem dX11_meeting_0 : decode cX11_meeting 0 = .ok (.aload_n 0, 1) := by decide +kernel
theorem dX11_meeting_1 : decode cX11_meeting 1 = .ok (.iload_n 1, 1) := by decide +kernel
theorem dX11_meeting_2 : decode cX11_meeting 2 = .ok (.invokevirtual 124, 3) := by decide +kernel
theorem dX11_meeting_5 : decode cX11_meeting 5 = .ok (.ifCond .ne 5, 3) := by decide +kernel
theorem dX11_meeting_8 : decode cX11_meeting 8 = .ok (.iconst (-1), 1) := by decide +kernel
theorem dX11_meeting_9 : decode cX11_meeting 9 = .ok (.ireturn, 1) := by decide +kernel
theorem dX11_meeting_10 : decode cX11_meeting 10 = .ok (.aload_n 0, 1) := by decide +kernel
theorem dX11_meeting_11 : decode cX11_meeting 11 = .ok (.getfield 45, 3) := by decide +kernel
theorem dX11_meeting_14 : decode cX11_meeting 14 = .ok (.getfield 104, 3) := by decide +kernel
theorem dX11_meeting_17 : decode cX11_meeting 17 = .ok (.getfield 108, 3) := by decide +kernel
theorem dX11_meeting_20 : decode cX11_meeting 20 = .ok (.astore_n 3, 1) := by decide +kernel
theorem dX11_meeting_21 : decode cX11_meeting 21 = .ok (.iload_n 2, 1) := by decide +kernel
theorem dX11_meeting_22 : decode cX11_meeting 22 = .ok (.tableswitch 98 0 5 #[38, 51, 64, 71, 84, 91], 38) := by decide +kernel
theorem dX11_meeting_60 : decode cX11_meeting 60 = .ok (.aload_n 0, 1) := by decide +kernel
theorem dX11_meeting_61 : decode cX11_meeting 61 = .ok (.getfield 45, 3) := by decide +kernel
theorem dX11_meeting_64 : decode cX11_meeting 64 = .ok (.getfield 86, 3) := by decide +kernel
theorem dX11_meeting_67 : decode cX11_meeting 67 = .ok (.getfield 127, 3) := by decide +kernel
theorem dX11_meeting_70 : decode cX11_meeting 70 = .ok (.iload_n 1, 1) := by decide +kernel
theorem dX11_meeting_71 : decode cX11_meeting 71 = .ok (.iaload, 1) := by decide +kernel
theorem dX11_meeting_72 : decode cX11_meeting 72 = .ok (.ireturn, 1) := by decide +kernel
theorem dX11_meeting_73 : decode cX11_meeting 73 = .ok (.aload_n 0, 1) := by decide +kernel
theorem dX11_meeting_74 : decode cX11_meeting 74 = .ok (.getfield 45, 3) := by decide +kernel
theorem dX11_meeting_77 : decode cX11_meeting 77 = .ok (.getfield 86, 3) := by decide +kernel
theorem dX11_meeting_80 : decode cX11_meeting 80 = .ok (.getfield 130, 3) := by decide +kernel
theorem dX11_meeting_83 : decode cX11_meeting 83 = .ok (.iload_n 1, 1) := by decide +kernel
theorem dX11_meeting_84 : decode cX11_meeting 84 = .ok (.iaload, 1) := by decide +kernel
theorem dX11_meeting_85 : decode cX11_meeting 85 = .ok (.ireturn, 1) := by decide +kernel
theorem dX11_meeting_86 : decode cX11_meeting 86 = .ok (.aload_n 3, 1) := by decide +kernel
theorem dX11_meeting_87 : decode cX11_meeting 87 = .ok (.bipush 20, 2) := by decide +kernel
theorem dX11_meeting_89 : decode cX11_meeting 89 = .ok (.iload_n 1, 1) := by decide +kernel
theorem dX11_meeting_90 : decode cX11_meeting 90 = .ok (.iadd, 1) := by decide +kernel
theorem dX11_meeting_91 : decode cX11_meeting 91 = .ok (.iaload, 1) := by decide +kernel
theorem dX11_meeting_92 : decode cX11_meeting 92 = .ok (.ireturn, 1) := by decide +kernel
theorem dX11_meeting_93 : decode cX11_meeting 93 = .ok (.aload_n 0, 1) := by decide +kernel
theorem dX11_meeting_94 : decode cX11_meeting 94 = .ok (.getfield 45, 3) := by decide +kernel
theorem dX11_meeting_97 : decode cX11_meeting 97 = .ok (.getfield 86, 3) := by decide +kernel
theorem dX11_meeting_100 : decode cX11_meeting 100 = .ok (.getfield 133, 3) := by decide +kernel
theorem dX11_meeting_103 : decode cX11_meeting 103 = .ok (.iload_n 1, 1) := by decide +kernel
theorem dX11_meeting_104 : decode cX11_meeting 104 = .ok (.iaload, 1) := by decide +kernel
theorem dX11_meeting_105 : decode cX11_meeting 105 = .ok (.ireturn, 1) := by decide +kernel
theorem dX11_meeting_106 : decode cX11_meeting 106 = .ok (.aload_n 3, 1) := by decide +kernel
theorem dX11_meeting_107 : decode cX11_meeting 107 = .ok (.bipush 28, 2) := by decide +kernel
theorem dX11_meeting_109 : decode cX11_meeting 109 = .ok (.iload_n 1, 1) := by decide +kernel
theorem dX11_meeting_110 : decode cX11_meeting 110 = .ok (.iadd, 1) := by decide +kernel
theorem dX11_meeting_111 : decode cX11_meeting 111 = .ok (.iaload, 1) := by decide +kernel
theorem dX11_meeting_112 : decode cX11_meeting 112 = .ok (.ireturn, 1) := by decide +kernel
theorem dX11_meeting_113 : decode cX11_meeting 113 = .ok (.aload_n 3, 1) := by decide +kernel
theorem dX11_meeting_114 : decode cX11_meeting 114 = .ok (.bipush 36, 2) := by decide +kernel
theorem dX11_meeting_116 : decode cX11_meeting 116 = .ok (.iload_n 1, 1) := by decide +kernel
theorem dX11_meeting_117 : decode cX11_meeting 117 = .ok (.iadd, 1) := by decide +kernel
theorem dX11_meeting_118 : decode cX11_meeting 118 = .ok (.iaload, 1) := by decide +kernel
theorem dX11_meeting_119 : decode cX11_meeting 119 = .ok (.ireturn, 1) := by decide +kernel
theorem dX11_meeting_120 : decode cX11_meeting 120 = .ok (.iconst (-1), 1) := by decide +kernel
theorem dX11_meeting_121 : decode cX11_meeting 121 = .ok (.ireturn, 1) := by decide +kernel
theorem dX11_day_0 : decode cX11_day 0 = .ok (.aload_n 0, 1) := by decide +kernel
theorem dX11_day_1 : decode cX11_day 1 = .ok (.getfield 45, 3) := by decide +kernel
theorem dX11_day_4 : decode cX11_day 4 = .ok (.getfield 86, 3) := by decide +kernel
theorem dX11_day_7 : decode cX11_day 7 = .ok (.getfield 136, 3) := by decide +kernel
theorem dX11_day_10 : decode cX11_day 10 = .ok (.ifCond .eq 22, 3) := by decide +kernel
theorem dX11_day_13 : decode cX11_day 13 = .ok (.aload_n 0, 1) := by decide +kernel
theorem dX11_day_14 : decode cX11_day 14 = .ok (.getfield 45, 3) := by decide +kernel
theorem dX11_day_17 : decode cX11_day 17 = .ok (.getfield 104, 3) := by decide +kernel
theorem dX11_day_20 : decode cX11_day 20 = .ok (.getfield 108, 3) := by decide +kernel
theorem dX11_day_23 : decode cX11_day 23 = .ok (.bipush 45, 2) := by decide +kernel
theorem dX11_day_25 : decode cX11_day 25 = .ok (.iaload, 1) := by decide +kernel
theorem dX11_day_26 : decode cX11_day 26 = .ok (.sipush 999, 3) := by decide +kernel
theorem dX11_day_29 : decode cX11_day 29 = .ok (.if_icmp .lt 5, 3) := by decide +kernel
theorem dX11_day_32 : decode cX11_day 32 = .ok (.iconst (-1), 1) := by decide +kernel
theorem dX11_day_33 : decode cX11_day 33 = .ok (.ireturn, 1) := by decide +kernel
theorem dX11_day_34 : decode cX11_day 34 = .ok (.aload_n 0, 1) := by decide +kernel
theorem dX11_day_35 : decode cX11_day 35 = .ok (.getfield 45, 3) := by decide +kernel
theorem dX11_day_38 : decode cX11_day 38 = .ok (.invokevirtual 140, 3) := by decide +kernel
theorem dX11_day_41 : decode cX11_day 41 = .ok (.aload_n 0, 1) := by decide +kernel
theorem dX11_day_42 : decode cX11_day 42 = .ok (.invokevirtual 143, 3) := by decide +kernel
theorem dX11_day_45 : decode cX11_day 45 = .ok (.aload_n 0, 1) := by decide +kernel
theorem dX11_day_46 : decode cX11_day 46 = .ok (.getfield 56, 3) := by decide +kernel
theorem dX11_day_49 : decode cX11_day 49 = .ok (.invokevirtual 146, 3) := by decide +kernel
theorem dX11_day_52 : decode cX11_day 52 = .ok (.aload_n 0, 1) := by decide +kernel
theorem dX11_day_53 : decode cX11_day 53 = .ok (.getfield 45, 3) := by decide +kernel
theorem dX11_day_56 : decode cX11_day 56 = .ok (.getfield 104, 3) := by decide +kernel
theorem dX11_day_59 : decode cX11_day 59 = .ok (.aload_n 0, 1) := by decide +kernel
theorem dX11_day_60 : decode cX11_day 60 = .ok (.getfield 56, 3) := by decide +kernel
theorem dX11_day_63 : decode cX11_day 63 = .ok (.getfield 149, 3) := by decide +kernel
theorem dX11_day_66 : decode cX11_day 66 = .ok (.invokevirtual 150, 3) := by decide +kernel
theorem dX11_day_69 : decode cX11_day 69 = .ok (.aload_n 0, 1) := by decide +kernel
theorem dX11_day_70 : decode cX11_day 70 = .ok (.getfield 56, 3) := by decide +kernel
theorem dX11_day_73 : decode cX11_day 73 = .ok (.getfield 154, 3) := by decide +kernel
theorem dX11_day_76 : decode cX11_day 76 = .ok (.ireturn, 1) := by decide +kernel
theorem dX11_ask_0 : decode cX11_ask 0 = .ok (.aload_n 0, 1) := by decide +kernel
theorem dX11_ask_1 : decode cX11_ask 1 = .ok (.iload_n 1, 1) := by decide +kernel
theorem dX11_ask_2 : decode cX11_ask 2 = .ok (.invokevirtual 124, 3) := by decide +kernel
theorem dX11_ask_5 : decode cX11_ask 5 = .ok (.ifCond .eq 14, 3) := by decide +kernel
theorem dX11_ask_8 : decode cX11_ask 8 = .ok (.iload_n 2, 1) := by decide +kernel
theorem dX11_ask_9 : decode cX11_ask 9 = .ok (.ifCond .lt 10, 3) := by decide +kernel
theorem dX11_ask_12 : decode cX11_ask 12 = .ok (.iload_n 2, 1) := by decide +kernel
theorem dX11_ask_13 : decode cX11_ask 13 = .ok (.sipush 600, 3) := by decide +kernel
theorem dX11_ask_16 : decode cX11_ask 16 = .ok (.if_icmp .le 5, 3) := by decide +kernel
theorem dX11_ask_19 : decode cX11_ask 19 = .ok (.iconst (-1), 1) := by decide +kernel
theorem dX11_ask_20 : decode cX11_ask 20 = .ok (.ireturn, 1) := by decide +kernel
theorem dX11_ask_21 : decode cX11_ask 21 = .ok (.aload_n 0, 1) := by decide +kernel
theorem dX11_ask_22 : decode cX11_ask 22 = .ok (.bipush 20, 2) := by decide +kernel
theorem dX11_ask_24 : decode cX11_ask 24 = .ok (.iload_n 1, 1) := by decide +kernel
theorem dX11_ask_25 : decode cX11_ask 25 = .ok (.iadd, 1) := by decide +kernel
theorem dX11_ask_26 : decode cX11_ask 26 = .ok (.iload_n 2, 1) := by decide +kernel
theorem dX11_ask_27 : decode cX11_ask 27 = .ok (.iconst (-1), 1) := by decide +kernel
theorem dX11_ask_28 : decode cX11_ask 28 = .ok (.invokevirtual 157, 3) := by decide +kernel
theorem dX11_ask_31 : decode cX11_ask 31 = .ok (.ireturn, 1) := by decide +kernel
theorem dX11_set_0 : decode cX11_set 0 = .ok (.aload_n 0, 1) := by decide +kernel
theorem dX11_set_1 : decode cX11_set 1 = .ok (.iload_n 1, 1) := by decide +kernel
theorem dX11_set_2 : decode cX11_set 2 = .ok (.invokevirtual 100, 3) := by decide +kernel
theorem dX11_set_5 : decode cX11_set 5 = .ok (.ifCond .eq 15, 3) := by decide +kernel
theorem dX11_set_8 : decode cX11_set 8 = .ok (.iload_n 2, 1) := by decide +kernel
theorem dX11_set_9 : decode cX11_set 9 = .ok (.bipush (-20), 2) := by decide +kernel
theorem dX11_set_11 : decode cX11_set 11 = .ok (.if_icmp .lt 9, 3) := by decide +kernel
theorem dX11_set_14 : decode cX11_set 14 = .ok (.iload_n 2, 1) := by decide +kernel
theorem dX11_set_15 : decode cX11_set 15 = .ok (.bipush 20, 2) := by decide +kernel
theorem dX11_set_17 : decode cX11_set 17 = .ok (.if_icmp .le 7, 3) := by decide +kernel
theorem dX11_set_20 : decode cX11_set 20 = .ok (.sipush (-1000), 3) := by decide +kernel
theorem dX11_set_23 : decode cX11_set 23 = .ok (.ireturn, 1) := by decide +kernel
theorem dX11_set_24 : decode cX11_set 24 = .ok (.aload_n 0, 1) := by decide +kernel
theorem dX11_set_25 : decode cX11_set 25 = .ok (.iconst 0, 1) := by decide +kernel
theorem dX11_set_26 : decode cX11_set 26 = .ok (.iload_n 1, 1) := by decide +kernel
theorem dX11_set_27 : decode cX11_set 27 = .ok (.iadd, 1) := by decide +kernel
theorem dX11_set_28 : decode cX11_set 28 = .ok (.iload_n 2, 1) := by decide +kernel
theorem dX11_set_29 : decode cX11_set 29 = .ok (.sipush (-1000), 3) := by decide +kernel
theorem dX11_set_32 : decode cX11_set 32 = .ok (.invokevirtual 157, 3) := by decide +kernel
theorem dX11_set_35 : decode cX11_set 35 = .ok (.ireturn, 1) := by decide +kernel
theorem dX11_let_0 : decode cX11_let 0 = .ok (.aload_n 0, 1) := by decide +kernel
theorem dX11_let_1 : decode cX11_let 1 = .ok (.iload_n 1, 1) := by decide +kernel
theorem dX11_let_2 : decode cX11_let 2 = .ok (.invokevirtual 100, 3) := by decide +kernel
theorem dX11_let_5 : decode cX11_let 5 = .ok (.ifCond .ne 5, 3) := by decide +kernel
theorem dX11_let_8 : decode cX11_let 8 = .ok (.iconst (-1), 1) := by decide +kernel
theorem dX11_let_9 : decode cX11_let 9 = .ok (.ireturn, 1) := by decide +kernel
theorem dX11_let_10 : decode cX11_let 10 = .ok (.aload_n 0, 1) := by decide +kernel
theorem dX11_let_11 : decode cX11_let 11 = .ok (.getfield 45, 3) := by decide +kernel
theorem dX11_let_14 : decode cX11_let 14 = .ok (.invokevirtual 140, 3) := by decide +kernel
theorem dX11_let_17 : decode cX11_let 17 = .ok (.aload_n 0, 1) := by decide +kernel
theorem dX11_let_18 : decode cX11_let 18 = .ok (.getfield 45, 3) := by decide +kernel
theorem dX11_let_21 : decode cX11_let 21 = .ok (.getfield 104, 3) := by decide +kernel
theorem dX11_let_24 : decode cX11_let 24 = .ok (.getfield 108, 3) := by decide +kernel
theorem dX11_let_27 : decode cX11_let 27 = .ok (.bipush 44, 2) := by decide +kernel
theorem dX11_let_29 : decode cX11_let 29 = .ok (.dup2, 1) := by decide +kernel
theorem dX11_let_30 : decode cX11_let 30 = .ok (.iaload, 1) := by decide +kernel
theorem dX11_let_31 : decode cX11_let 31 = .ok (.iconst 1, 1) := by decide +kernel
theorem dX11_let_32 : decode cX11_let 32 = .ok (.iload_n 1, 1) := by decide +kernel
theorem dX11_let_33 : decode cX11_let 33 = .ok (.ishl, 1) := by decide +kernel
theorem dX11_let_34 : decode cX11_let 34 = .ok (.ixor, 1) := by decide +kernel
theorem dX11_let_35 : decode cX11_let 35 = .ok (.iastore, 1) := by decide +kernel
theorem dX11_let_36 : decode cX11_let 36 = .ok (.aload_n 0, 1) := by decide +kernel
theorem dX11_let_37 : decode cX11_let 37 = .ok (.getfield 45, 3) := by decide +kernel
theorem dX11_let_40 : decode cX11_let 40 = .ok (.getfield 104, 3) := by decide +kernel
theorem dX11_let_43 : decode cX11_let 43 = .ok (.iload_n 1, 1) := by decide +kernel
theorem dX11_let_44 : decode cX11_let 44 = .ok (.invokevirtual 117, 3) := by decide +kernel
theorem dX11_let_47 : decode cX11_let 47 = .ok (.ifCond .eq 7, 3) := by decide +kernel
theorem dX11_let_50 : decode cX11_let 50 = .ok (.iconst 1, 1) := by decide +kernel
theorem dX11_let_51 : decode cX11_let 51 = .ok (.goto 4, 3) := by decide +kernel
theorem dX11_let_54 : decode cX11_let 54 = .ok (.iconst 0, 1) := by decide +kernel
theorem dX11_let_55 : decode cX11_let 55 = .ok (.ireturn, 1) := by decide +kernel
theorem dX11_undo_0 : decode cX11_undo 0 = .ok (.aload_n 0, 1) := by decide +kernel
theorem dX11_undo_1 : decode cX11_undo 1 = .ok (.getfield 45, 3) := by decide +kernel
theorem dX11_undo_4 : decode cX11_undo 4 = .ok (.getfield 161, 3) := by decide +kernel
theorem dX11_undo_7 : decode cX11_undo 7 = .ok (.ifCond .gt 6, 3) := by decide +kernel
theorem dX11_undo_10 : decode cX11_undo 10 = .ok (.bipush (-2), 2) := by decide +kernel
theorem dX11_undo_12 : decode cX11_undo 12 = .ok (.ireturn, 1) := by decide +kernel
theorem dX11_undo_13 : decode cX11_undo 13 = .ok (.aload_n 0, 1) := by decide +kernel
theorem dX11_undo_14 : decode cX11_undo 14 = .ok (.getfield 45, 3) := by decide +kernel
theorem dX11_undo_17 : decode cX11_undo 17 = .ok (.invokevirtual 164, 3) := by decide +kernel
theorem dX11_undo_20 : decode cX11_undo 20 = .ok (.aload_n 0, 1) := by decide +kernel
theorem dX11_undo_21 : decode cX11_undo 21 = .ok (.getfield 45, 3) := by decide +kernel
theorem dX11_undo_24 : decode cX11_undo 24 = .ok (.getfield 161, 3) := by decide +kernel
theorem dX11_undo_27 : decode cX11_undo 27 = .ok (.ireturn, 1) := by decide +kernel
theorem dX11_ahead_0 : decode cX11_ahead 0 = .ok (.aload_n 0, 1) := by decide +kernel
theorem dX11_ahead_1 : decode cX11_ahead 1 = .ok (.iload_n 1, 1) := by decide +kernel
theorem dX11_ahead_2 : decode cX11_ahead 2 = .ok (.invokevirtual 100, 3) := by decide +kernel
theorem dX11_ahead_5 : decode cX11_ahead 5 = .ok (.ifCond .eq 22, 3) := by decide +kernel
theorem dX11_ahead_8 : decode cX11_ahead 8 = .ok (.iload_n 2, 1) := by decide +kernel
theorem dX11_ahead_9 : decode cX11_ahead 9 = .ok (.ifCond .lt 18, 3) := by decide +kernel
theorem dX11_ahead_12 : decode cX11_ahead 12 = .ok (.iload_n 2, 1) := by decide +kernel
theorem dX11_ahead_13 : decode cX11_ahead 13 = .ok (.bipush 100, 2) := by decide +kernel
theorem dX11_ahead_15 : decode cX11_ahead 15 = .ok (.if_icmp .gt 12, 3) := by decide +kernel
theorem dX11_ahead_18 : decode cX11_ahead 18 = .ok (.iload_n 3, 1) := by decide +kernel
theorem dX11_ahead_19 : decode cX11_ahead 19 = .ok (.ifCond .lt 8, 3) := by decide +kernel
theorem dX11_ahead_22 : decode cX11_ahead 22 = .ok (.iload_n 3, 1) := by decide +kernel
theorem dX11_ahead_23 : decode cX11_ahead 23 = .ok (.iconst 2, 1) := by decide +kernel
theorem dX11_ahead_24 : decode cX11_ahead 24 = .ok (.if_icmp .le 7, 3) := by decide +kernel
theorem dX11_ahead_27 : decode cX11_ahead 27 = .ok (.sipush (-1000), 3) := by decide +kernel
theorem dX11_ahead_30 : decode cX11_ahead 30 = .ok (.ireturn, 1) := by decide +kernel
theorem dX11_ahead_31 : decode cX11_ahead 31 = .ok (.aload_n 0, 1) := by decide +kernel
theorem dX11_ahead_32 : decode cX11_ahead 32 = .ok (.invokevirtual 143, 3) := by decide +kernel
theorem dX11_ahead_35 : decode cX11_ahead 35 = .ok (.aload_n 0, 1) := by decide +kernel
theorem dX11_ahead_36 : decode cX11_ahead 36 = .ok (.getfield 56, 3) := by decide +kernel
theorem dX11_ahead_39 : decode cX11_ahead 39 = .ok (.iload_n 2, 1) := by decide +kernel
theorem dX11_ahead_40 : decode cX11_ahead 40 = .ok (.invokevirtual 167, 3) := by decide +kernel
theorem dX11_ahead_43 : decode cX11_ahead 43 = .ok (.aload_n 0, 1) := by decide +kernel
theorem dX11_ahead_44 : decode cX11_ahead 44 = .ok (.getfield 56, 3) := by decide +kernel
theorem dX11_ahead_47 : decode cX11_ahead 47 = .ok (.getfield 149, 3) := by decide +kernel
theorem dX11_ahead_50 : decode cX11_ahead 50 = .ok (.getfield 108, 3) := by decide +kernel
theorem dX11_ahead_53 : decode cX11_ahead 53 = .ok (.astore 4, 2) := by decide +kernel
theorem dX11_ahead_55 : decode cX11_ahead 55 = .ok (.iload_n 3, 1) := by decide +kernel
theorem dX11_ahead_56 : decode cX11_ahead 56 = .ok (.lookupswitch 43 #[(0, 28), (1, 35)], 28) := by decide +kernel
theorem dX11_ahead_84 : decode cX11_ahead 84 = .ok (.aload 4, 2) := by decide +kernel
theorem dX11_ahead_86 : decode cX11_ahead 86 = .ok (.iconst 0, 1) := by decide +kernel
theorem dX11_ahead_87 : decode cX11_ahead 87 = .ok (.iload_n 1, 1) := by decide +kernel
theorem dX11_ahead_88 : decode cX11_ahead 88 = .ok (.iadd, 1) := by decide +kernel
theorem dX11_ahead_89 : decode cX11_ahead 89 = .ok (.iaload, 1) := by decide +kernel
theorem dX11_ahead_90 : decode cX11_ahead 90 = .ok (.ireturn, 1) := by decide +kernel
theorem dX11_ahead_91 : decode cX11_ahead 91 = .ok (.aload 4, 2) := by decide +kernel
theorem dX11_ahead_93 : decode cX11_ahead 93 = .ok (.bipush 10, 2) := by decide +kernel
theorem dX11_ahead_95 : decode cX11_ahead 95 = .ok (.iload_n 1, 1) := by decide +kernel
theorem dX11_ahead_96 : decode cX11_ahead 96 = .ok (.iadd, 1) := by decide +kernel
theorem dX11_ahead_97 : decode cX11_ahead 97 = .ok (.iaload, 1) := by decide +kernel
theorem dX11_ahead_98 : decode cX11_ahead 98 = .ok (.ireturn, 1) := by decide +kernel
theorem dX11_ahead_99 : decode cX11_ahead 99 = .ok (.aload 4, 2) := by decide +kernel
theorem dX11_ahead_101 : decode cX11_ahead 101 = .ok (.bipush 15, 2) := by decide +kernel
theorem dX11_ahead_103 : decode cX11_ahead 103 = .ok (.iload_n 1, 1) := by decide +kernel
theorem dX11_ahead_104 : decode cX11_ahead 104 = .ok (.iadd, 1) := by decide +kernel
theorem dX11_ahead_105 : decode cX11_ahead 105 = .ok (.iaload, 1) := by decide +kernel
theorem dX11_ahead_106 : decode cX11_ahead 106 = .ok (.ireturn, 1) := by decide +kernel
theorem dX11_today_0 : decode cX11_today 0 = .ok (.aload_n 0, 1) := by decide +kernel
theorem dX11_today_1 : decode cX11_today 1 = .ok (.iload_n 1, 1) := by decide +kernel
theorem dX11_today_2 : decode cX11_today 2 = .ok (.invokevirtual 124, 3) := by decide +kernel
theorem dX11_today_5 : decode cX11_today 5 = .ok (.ifCond .eq 12, 3) := by decide +kernel
theorem dX11_today_8 : decode cX11_today 8 = .ok (.iload_n 2, 1) := by decide +kernel
theorem dX11_today_9 : decode cX11_today 9 = .ok (.ifCond .lt 8, 3) := by decide +kernel
theorem dX11_today_12 : decode cX11_today 12 = .ok (.iload_n 2, 1) := by decide +kernel
theorem dX11_today_13 : decode cX11_today 13 = .ok (.iconst 3, 1) := by decide +kernel
theorem dX11_today_14 : decode cX11_today 14 = .ok (.if_icmp .le 7, 3) := by decide +kernel
theorem dX11_today_17 : decode cX11_today 17 = .ok (.sipush (-1000), 3) := by decide +kernel
theorem dX11_today_20 : decode cX11_today 20 = .ok (.ireturn, 1) := by decide +kernel
theorem dX11_today_21 : decode cX11_today 21 = .ok (.aload_n 0, 1) := by decide +kernel
theorem dX11_today_22 : decode cX11_today 22 = .ok (.invokevirtual 143, 3) := by decide +kernel
theorem dX11_today_25 : decode cX11_today 25 = .ok (.aload_n 0, 1) := by decide +kernel
theorem dX11_today_26 : decode cX11_today 26 = .ok (.getfield 56, 3) := by decide +kernel
theorem dX11_today_29 : decode cX11_today 29 = .ok (.invokevirtual 146, 3) := by decide +kernel
theorem dX11_today_32 : decode cX11_today 32 = .ok (.iload_n 2, 1) := by decide +kernel
theorem dX11_today_33 : decode cX11_today 33 = .ok (.tableswitch 72 0 2 #[27, 40, 55], 27) := by decide +kernel
theorem dX11_today_60 : decode cX11_today 60 = .ok (.aload_n 0, 1) := by decide +kernel
theorem dX11_today_61 : decode cX11_today 61 = .ok (.getfield 56, 3) := by decide +kernel
theorem dX11_today_64 : decode cX11_today 64 = .ok (.getfield 170, 3) := by decide +kernel
theorem dX11_today_67 : decode cX11_today 67 = .ok (.getfield 174, 3) := by decide +kernel
theorem dX11_today_70 : decode cX11_today 70 = .ok (.iload_n 1, 1) := by decide +kernel
theorem dX11_today_71 : decode cX11_today 71 = .ok (.iaload, 1) := by decide +kernel
theorem dX11_today_72 : decode cX11_today 72 = .ok (.ireturn, 1) := by decide +kernel
theorem dX11_today_73 : decode cX11_today 73 = .ok (.aload_n 0, 1) := by decide +kernel
theorem dX11_today_74 : decode cX11_today 74 = .ok (.getfield 56, 3) := by decide +kernel
theorem dX11_today_77 : decode cX11_today 77 = .ok (.getfield 170, 3) := by decide +kernel
theorem dX11_today_80 : decode cX11_today 80 = .ok (.getfield 179, 3) := by decide +kernel
theorem dX11_today_83 : decode cX11_today 83 = .ok (.iconst 2, 1) := by decide +kernel
theorem dX11_today_84 : decode cX11_today 84 = .ok (.iload_n 1, 1) := by decide +kernel
theorem dX11_today_85 : decode cX11_today 85 = .ok (.imul, 1) := by decide +kernel
theorem dX11_today_86 : decode cX11_today 86 = .ok (.iaload, 1) := by decide +kernel
theorem dX11_today_87 : decode cX11_today 87 = .ok (.ireturn, 1) := by decide +kernel
theorem dX11_today_88 : decode cX11_today 88 = .ok (.aload_n 0, 1) := by decide +kernel
theorem dX11_today_89 : decode cX11_today 89 = .ok (.getfield 56, 3) := by decide +kernel
theorem dX11_today_92 : decode cX11_today 92 = .ok (.getfield 170, 3) := by decide +kernel
theorem dX11_today_95 : decode cX11_today 95 = .ok (.getfield 179, 3) := by decide +kernel
theorem dX11_today_98 : decode cX11_today 98 = .ok (.iconst 2, 1) := by decide +kernel
theorem dX11_today_99 : decode cX11_today 99 = .ok (.iload_n 1, 1) := by decide +kernel
theorem dX11_today_100 : decode cX11_today 100 = .ok (.imul, 1) := by decide +kernel
theorem dX11_today_101 : decode cX11_today 101 = .ok (.iconst 1, 1) := by decide +kernel
theorem dX11_today_102 : decode cX11_today 102 = .ok (.iadd, 1) := by decide +kernel
theorem dX11_today_103 : decode cX11_today 103 = .ok (.iaload, 1) := by decide +kernel
theorem dX11_today_104 : decode cX11_today 104 = .ok (.ireturn, 1) := by decide +kernel
theorem dX11_today_105 : decode cX11_today 105 = .ok (.aload_n 0, 1) := by decide +kernel
theorem dX11_today_106 : decode cX11_today 106 = .ok (.getfield 56, 3) := by decide +kernel
theorem dX11_today_109 : decode cX11_today 109 = .ok (.getfield 170, 3) := by decide +kernel
theorem dX11_today_112 : decode cX11_today 112 = .ok (.getfield 182, 3) := by decide +kernel
theorem dX11_today_115 : decode cX11_today 115 = .ok (.iload_n 1, 1) := by decide +kernel
theorem dX11_today_116 : decode cX11_today 116 = .ok (.iaload, 1) := by decide +kernel
theorem dX11_today_117 : decode cX11_today 117 = .ok (.ireturn, 1) := by decide +kernel
theorem dX11_ends_0 : decode cX11_ends 0 = .ok (.aload_n 0, 1) := by decide +kernel
theorem dX11_ends_1 : decode cX11_ends 1 = .ok (.iload_n 1, 1) := by decide +kernel
theorem dX11_ends_2 : decode cX11_ends 2 = .ok (.invokevirtual 100, 3) := by decide +kernel
theorem dX11_ends_5 : decode cX11_ends 5 = .ok (.ifCond .ne 7, 3) := by decide +kernel
theorem dX11_ends_8 : decode cX11_ends 8 = .ok (.sipush (-1000), 3) := by decide +kernel
theorem dX11_ends_11 : decode cX11_ends 11 = .ok (.ireturn, 1) := by decide +kernel
theorem dX11_ends_12 : decode cX11_ends 12 = .ok (.aload_n 0, 1) := by decide +kernel
theorem dX11_ends_13 : decode cX11_ends 13 = .ok (.getfield 45, 3) := by decide +kernel
theorem dX11_ends_16 : decode cX11_ends 16 = .ok (.getfield 86, 3) := by decide +kernel
theorem dX11_ends_19 : decode cX11_ends 19 = .ok (.iload_n 1, 1) := by decide +kernel
theorem dX11_ends_20 : decode cX11_ends 20 = .ok (.invokevirtual 120, 3) := by decide +kernel
theorem dX11_ends_23 : decode cX11_ends 23 = .ok (.ifCond .ne 5, 3) := by decide +kernel
theorem dX11_ends_26 : decode cX11_ends 26 = .ok (.iconst (-1), 1) := by decide +kernel
theorem dX11_ends_27 : decode cX11_ends 27 = .ok (.ireturn, 1) := by decide +kernel
theorem dX11_ends_28 : decode cX11_ends 28 = .ok (.aload_n 0, 1) := by decide +kernel
theorem dX11_ends_29 : decode cX11_ends 29 = .ok (.invokevirtual 143, 3) := by decide +kernel
theorem dX11_ends_32 : decode cX11_ends 32 = .ok (.aload_n 0, 1) := by decide +kernel
theorem dX11_ends_33 : decode cX11_ends 33 = .ok (.getfield 56, 3) := by decide +kernel
theorem dX11_ends_36 : decode cX11_ends 36 = .ok (.invokevirtual 146, 3) := by decide +kernel
theorem dX11_ends_39 : decode cX11_ends 39 = .ok (.aload_n 0, 1) := by decide +kernel
theorem dX11_ends_40 : decode cX11_ends 40 = .ok (.getfield 56, 3) := by decide +kernel
theorem dX11_ends_43 : decode cX11_ends 43 = .ok (.getfield 170, 3) := by decide +kernel
theorem dX11_ends_46 : decode cX11_ends 46 = .ok (.getfield 185, 3) := by decide +kernel
theorem dX11_ends_49 : decode cX11_ends 49 = .ok (.iload_n 1, 1) := by decide +kernel
theorem dX11_ends_50 : decode cX11_ends 50 = .ok (.iaload, 1) := by decide +kernel
theorem dX11_ends_51 : decode cX11_ends 51 = .ok (.ireturn, 1) := by decide +kernel
theorem dX11_chain_0 : decode cX11_chain 0 = .ok (.aload_n 0, 1) := by decide +kernel
theorem dX11_chain_1 : decode cX11_chain 1 = .ok (.getfield 45, 3) := by decide +kernel
theorem dX11_chain_4 : decode cX11_chain 4 = .ok (.getfield 86, 3) := by decide +kernel
theorem dX11_chain_7 : decode cX11_chain 7 = .ok (.getfield 136, 3) := by decide +kernel
theorem dX11_chain_10 : decode cX11_chain 10 = .ok (.ifCond .eq 12, 3) := by decide +kernel
theorem dX11_chain_13 : decode cX11_chain 13 = .ok (.iload_n 1, 1) := by decide +kernel
theorem dX11_chain_14 : decode cX11_chain 14 = .ok (.ifCond .lt 8, 3) := by decide +kernel
theorem dX11_chain_17 : decode cX11_chain 17 = .ok (.iload_n 1, 1) := by decide +kernel
theorem dX11_chain_18 : decode cX11_chain 18 = .ok (.iconst 1, 1) := by decide +kernel
theorem dX11_chain_19 : decode cX11_chain 19 = .ok (.if_icmp .le 7, 3) := by decide +kernel
theorem dX11_chain_22 : decode cX11_chain 22 = .ok (.sipush (-1000), 3) := by decide +kernel
theorem dX11_chain_25 : decode cX11_chain 25 = .ok (.ireturn, 1) := by decide +kernel
theorem dX11_chain_26 : decode cX11_chain 26 = .ok (.aload_n 0, 1) := by decide +kernel
theorem dX11_chain_27 : decode cX11_chain 27 = .ok (.invokevirtual 143, 3) := by decide +kernel
theorem dX11_chain_30 : decode cX11_chain 30 = .ok (.aload_n 0, 1) := by decide +kernel
theorem dX11_chain_31 : decode cX11_chain 31 = .ok (.getfield 56, 3) := by decide +kernel
theorem dX11_chain_34 : decode cX11_chain 34 = .ok (.invokevirtual 146, 3) := by decide +kernel
theorem dX11_chain_37 : decode cX11_chain 37 = .ok (.iconst (-1), 1) := by decide +kernel
theorem dX11_chain_38 : decode cX11_chain 38 = .ok (.istore_n 2, 1) := by decide +kernel
theorem dX11_chain_39 : decode cX11_chain 39 = .ok (.iconst (-1), 1) := by decide +kernel
theorem dX11_chain_40 : decode cX11_chain 40 = .ok (.istore_n 3, 1) := by decide +kernel
theorem dX11_chain_41 : decode cX11_chain 41 = .ok (.iconst 0, 1) := by decide +kernel
theorem dX11_chain_42 : decode cX11_chain 42 = .ok (.istore 4, 2) := by decide +kernel
theorem dX11_chain_44 : decode cX11_chain 44 = .ok (.iload 4, 2) := by decide +kernel
theorem dX11_chain_46 : decode cX11_chain 46 = .ok (.aload_n 0, 1) := by decide +kernel
theorem dX11_chain_47 : decode cX11_chain 47 = .ok (.getfield 45, 3) := by decide +kernel
theorem dX11_chain_50 : decode cX11_chain 50 = .ok (.getfield 86, 3) := by decide +kernel
theorem dX11_chain_53 : decode cX11_chain 53 = .ok (.getfield 188, 3) := by decide +kernel
theorem dX11_chain_56 : decode cX11_chain 56 = .ok (.if_icmp .ge 63, 3) := by decide +kernel
theorem dX11_chain_59 : decode cX11_chain 59 = .ok (.aload_n 0, 1) := by decide +kernel
theorem dX11_chain_60 : decode cX11_chain 60 = .ok (.getfield 45, 3) := by decide +kernel
theorem dX11_chain_63 : decode cX11_chain 63 = .ok (.getfield 86, 3) := by decide +kernel
theorem dX11_chain_66 : decode cX11_chain 66 = .ok (.iload 4, 2) := by decide +kernel
theorem dX11_chain_68 : decode cX11_chain 68 = .ok (.invokevirtual 120, 3) := by decide +kernel
theorem dX11_chain_71 : decode cX11_chain 71 = .ok (.ifCond .eq 42, 3) := by decide +kernel
theorem dX11_chain_74 : decode cX11_chain 74 = .ok (.iload_n 2, 1) := by decide +kernel
theorem dX11_chain_75 : decode cX11_chain 75 = .ok (.iconst (-1), 1) := by decide +kernel
theorem dX11_chain_76 : decode cX11_chain 76 = .ok (.if_icmp .eq 20, 3) := by decide +kernel
theorem dX11_chain_79 : decode cX11_chain 79 = .ok (.aload_n 0, 1) := by decide +kernel
theorem dX11_chain_80 : decode cX11_chain 80 = .ok (.getfield 56, 3) := by decide +kernel
theorem dX11_chain_83 : decode cX11_chain 83 = .ok (.getfield 170, 3) := by decide +kernel
theorem dX11_chain_86 : decode cX11_chain 86 = .ok (.getfield 185, 3) := by decide +kernel
theorem dX11_chain_89 : decode cX11_chain 89 = .ok (.iload 4, 2) := by decide +kernel
theorem dX11_chain_91 : decode cX11_chain 91 = .ok (.iaload, 1) := by decide +kernel
theorem dX11_chain_92 : decode cX11_chain 92 = .ok (.iload_n 3, 1) := by decide +kernel
theorem dX11_chain_93 : decode cX11_chain 93 = .ok (.if_icmp .le 20, 3) := by decide +kernel
theorem dX11_chain_96 : decode cX11_chain 96 = .ok (.iload 4, 2) := by decide +kernel
theorem dX11_chain_98 : decode cX11_chain 98 = .ok (.istore_n 2, 1) := by decide +kernel
theorem dX11_chain_99 : decode cX11_chain 99 = .ok (.aload_n 0, 1) := by decide +kernel
theorem dX11_chain_100 : decode cX11_chain 100 = .ok (.getfield 56, 3) := by decide +kernel
theorem dX11_chain_103 : decode cX11_chain 103 = .ok (.getfield 170, 3) := by decide +kernel
theorem dX11_chain_106 : decode cX11_chain 106 = .ok (.getfield 185, 3) := by decide +kernel
theorem dX11_chain_109 : decode cX11_chain 109 = .ok (.iload 4, 2) := by decide +kernel
theorem dX11_chain_111 : decode cX11_chain 111 = .ok (.iaload, 1) := by decide +kernel
theorem dX11_chain_112 : decode cX11_chain 112 = .ok (.istore_n 3, 1) := by decide +kernel
theorem dX11_chain_113 : decode cX11_chain 113 = .ok (.iinc 4 1, 3) := by decide +kernel
theorem dX11_chain_116 : decode cX11_chain 116 = .ok (.goto (-72), 3) := by decide +kernel
theorem dX11_chain_119 : decode cX11_chain 119 = .ok (.iload_n 1, 1) := by decide +kernel
theorem dX11_chain_120 : decode cX11_chain 120 = .ok (.ifCond .ne 7, 3) := by decide +kernel
theorem dX11_chain_123 : decode cX11_chain 123 = .ok (.iload_n 2, 1) := by decide +kernel
theorem dX11_chain_124 : decode cX11_chain 124 = .ok (.goto 4, 3) := by decide +kernel
theorem dX11_chain_127 : decode cX11_chain 127 = .ok (.iload_n 3, 1) := by decide +kernel
theorem dX11_chain_128 : decode cX11_chain 128 = .ok (.ireturn, 1) := by decide +kernel
theorem dX11_minute_0 : decode cX11_minute 0 = .ok (.aload_n 0, 1) := by decide +kernel
theorem dX11_minute_1 : decode cX11_minute 1 = .ok (.iload_n 1, 1) := by decide +kernel
theorem dX11_minute_2 : decode cX11_minute 2 = .ok (.invokevirtual 124, 3) := by decide +kernel
theorem dX11_minute_5 : decode cX11_minute 5 = .ok (.ifCond .eq 12, 3) := by decide +kernel
theorem dX11_minute_8 : decode cX11_minute 8 = .ok (.iload_n 2, 1) := by decide +kernel
theorem dX11_minute_9 : decode cX11_minute 9 = .ok (.ifCond .lt 8, 3) := by decide +kernel
theorem dX11_minute_12 : decode cX11_minute 12 = .ok (.iload_n 2, 1) := by decide +kernel
theorem dX11_minute_13 : decode cX11_minute 13 = .ok (.iconst 2, 1) := by decide +kernel
