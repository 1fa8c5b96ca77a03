theorem dX0_init_0 : decode cX0_init 0 = .ok (.aload_n 0, 1) := by decide +kernel
theorem dX0_init_1 : decode cX0_init 1 = .ok (.invokespecial 3, 3) := by decide +kernel
theorem dX0_init_4 : decode cX0_init 4 = .ok (.aload_n 0, 1) := by decide +kernel
theorem dX0_init_5 : decode cX0_init 5 = .ok (.new 9, 3) := by decide +kernel
theorem dX0_init_8 : decode cX0_init 8 = .ok (.dup, 1) := by decide +kernel
theorem dX0_init_9 : decode cX0_init 9 = .ok (.invokespecial 11, 3) := by decide +kernel
theorem dX0_init_12 : decode cX0_init 12 = .ok (.putfield 12, 3) := by decide +kernel
theorem dX0_init_15 : decode cX0_init 15 = .ok (.aload_n 0, 1) := by decide +kernel
theorem dX0_init_16 : decode cX0_init 16 = .ok (.new 18, 3) := by decide +kernel
theorem dX0_init_19 : decode cX0_init 19 = .ok (.dup, 1) := by decide +kernel
theorem dX0_init_20 : decode cX0_init 20 = .ok (.invokespecial 20, 3) := by decide +kernel
theorem dX0_init_23 : decode cX0_init 23 = .ok (.putfield 21, 3) := by decide +kernel
theorem dX0_init_26 : decode cX0_init 26 = .ok (.aload_n 0, 1) := by decide +kernel
theorem dX0_init_27 : decode cX0_init 27 = .ok (.iconst 5, 1) := by decide +kernel
theorem dX0_init_28 : decode cX0_init 28 = .ok (.newarray .int, 2) := by decide +kernel
theorem dX0_init_30 : decode cX0_init 30 = .ok (.putfield 25, 3) := by decide +kernel
theorem dX0_init_33 : decode cX0_init 33 = .ok (.aload_n 0, 1) := by decide +kernel
theorem dX0_init_34 : decode cX0_init 34 = .ok (.bipush 14, 2) := by decide +kernel
theorem dX0_init_36 : decode cX0_init 36 = .ok (.newarray .int, 2) := by decide +kernel
theorem dX0_init_38 : decode cX0_init 38 = .ok (.putfield 31, 3) := by decide +kernel
theorem dX0_init_41 : decode cX0_init 41 = .ok (.aload_n 0, 1) := by decide +kernel
theorem dX0_init_42 : decode cX0_init 42 = .ok (.bipush 64, 2) := by decide +kernel
theorem dX0_init_44 : decode cX0_init 44 = .ok (.newarray .long, 2) := by decide +kernel
theorem dX0_init_46 : decode cX0_init 46 = .ok (.putfield 34, 3) := by decide +kernel
theorem dX0_init_49 : decode cX0_init 49 = .ok (.aload_n 0, 1) := by decide +kernel
theorem dX0_init_50 : decode cX0_init 50 = .ok (.aconst_null, 1) := by decide +kernel
theorem dX0_init_51 : decode cX0_init 51 = .ok (.putfield 38, 3) := by decide +kernel
theorem dX0_init_54 : decode cX0_init 54 = .ok (.aload_n 0, 1) := by decide +kernel
theorem dX0_init_55 : decode cX0_init 55 = .ok (.aconst_null, 1) := by decide +kernel
theorem dX0_init_56 : decode cX0_init 56 = .ok (.putfield 42, 3) := by decide +kernel
theorem dX0_init_59 : decode cX0_init 59 = .ok (.aload_n 0, 1) := by decide +kernel
theorem dX0_init_60 : decode cX0_init 60 = .ok (.iconst 0, 1) := by decide +kernel
theorem dX0_init_61 : decode cX0_init 61 = .ok (.putfield 46, 3) := by decide +kernel
theorem dX0_init_64 : decode cX0_init 64 = .ok (.aload_n 0, 1) := by decide +kernel
theorem dX0_init_65 : decode cX0_init 65 = .ok (.iconst 0, 1) := by decide +kernel
theorem dX0_init_66 : decode cX0_init 66 = .ok (.putfield 50, 3) := by decide +kernel
theorem dX0_init_69 : decode cX0_init 69 = .ok (.aload_n 0, 1) := by decide +kernel
theorem dX0_init_70 : decode cX0_init 70 = .ok (.iconst (-1), 1) := by decide +kernel
theorem dX0_init_71 : decode cX0_init 71 = .ok (.putfield 53, 3) := by decide +kernel
theorem dX0_init_74 : decode cX0_init 74 = .ok (.aload_n 0, 1) := by decide +kernel
theorem dX0_init_75 : decode cX0_init 75 = .ok (.iconst (-1), 1) := by decide +kernel
theorem dX0_init_76 : decode cX0_init 76 = .ok (.putfield 56, 3) := by decide +kernel
theorem dX0_init_79 : decode cX0_init 79 = .ok (.aload_n 0, 1) := by decide +kernel
theorem dX0_init_80 : decode cX0_init 80 = .ok (.iconst 0, 1) := by decide +kernel
theorem dX0_init_81 : decode cX0_init 81 = .ok (.putfield 59, 3) := by decide +kernel
theorem dX0_init_84 : decode cX0_init 84 = .ok (.aload_n 0, 1) := by decide +kernel
theorem dX0_init_85 : decode cX0_init 85 = .ok (.iconst 0, 1) := by decide +kernel
theorem dX0_init_86 : decode cX0_init 86 = .ok (.putfield 62, 3) := by decide +kernel
theorem dX0_init_89 : decode cX0_init 89 = .ok (.aload_n 0, 1) := by decide +kernel
theorem dX0_init_90 : decode cX0_init 90 = .ok (.iconst 0, 1) := by decide +kernel
theorem dX0_init_91 : decode cX0_init 91 = .ok (.putfield 65, 3) := by decide +kernel
theorem dX0_init_94 : decode cX0_init 94 = .ok (.aload_n 0, 1) := by decide +kernel
theorem dX0_init_95 : decode cX0_init 95 = .ok (.iconst 0, 1) := by decide +kernel
theorem dX0_init_96 : decode cX0_init 96 = .ok (.putfield 69, 3) := by decide +kernel
theorem dX0_init_99 : decode cX0_init 99 = .ok (.aload_n 0, 1) := by decide +kernel
theorem dX0_init_100 : decode cX0_init 100 = .ok (.iconst 0, 1) := by decide +kernel
theorem dX0_init_101 : decode cX0_init 101 = .ok (.putfield 72, 3) := by decide +kernel
theorem dX0_init_104 : decode cX0_init 104 = .ok (.aload_n 0, 1) := by decide +kernel
theorem dX0_init_105 : decode cX0_init 105 = .ok (.iconst 0, 1) := by decide +kernel
theorem dX0_init_106 : decode cX0_init 106 = .ok (.putfield 75, 3) := by decide +kernel
theorem dX0_init_109 : decode cX0_init 109 = .ok (.aload_n 0, 1) := by decide +kernel
theorem dX0_init_110 : decode cX0_init 110 = .ok (.iconst 0, 1) := by decide +kernel
theorem dX0_init_111 : decode cX0_init 111 = .ok (.putfield 78, 3) := by decide +kernel
theorem dX0_init_114 : decode cX0_init 114 = .ok (.return_, 1) := by decide +kernel
theorem dX0_start_0 : decode cX0_start 0 = .ok (.aload_n 0, 1) := by decide +kernel
theorem dX0_start_1 : decode cX0_start 1 = .ok (.aload_n 1, 1) := by decide +kernel
theorem dX0_start_2 : decode cX0_start 2 = .ok (.putfield 38, 3) := by decide +kernel
theorem dX0_start_5 : decode cX0_start 5 = .ok (.aload_n 0, 1) := by decide +kernel
theorem dX0_start_6 : decode cX0_start 6 = .ok (.aload_n 2, 1) := by decide +kernel
theorem dX0_start_7 : decode cX0_start 7 = .ok (.putfield 42, 3) := by decide +kernel
theorem dX0_start_10 : decode cX0_start 10 = .ok (.aload_n 0, 1) := by decide +kernel
theorem dX0_start_11 : decode cX0_start 11 = .ok (.getfield 38, 3) := by decide +kernel
theorem dX0_start_14 : decode cX0_start 14 = .ok (.getfield 81, 3) := by decide +kernel
theorem dX0_start_17 : decode cX0_start 17 = .ok (.iconst 0, 1) := by decide +kernel
theorem dX0_start_18 : decode cX0_start 18 = .ok (.aload_n 0, 1) := by decide +kernel
theorem dX0_start_19 : decode cX0_start 19 = .ok (.getfield 25, 3) := by decide +kernel
theorem dX0_start_22 : decode cX0_start 22 = .ok (.iconst 0, 1) := by decide +kernel
theorem dX0_start_23 : decode cX0_start 23 = .ok (.iconst 5, 1) := by decide +kernel
theorem dX0_start_24 : decode cX0_start 24 = .ok (.invokestatic 84, 3) := by decide +kernel
theorem dX0_start_27 : decode cX0_start 27 = .ok (.aload_n 0, 1) := by decide +kernel
theorem dX0_start_28 : decode cX0_start 28 = .ok (.aload_n 0, 1) := by decide +kernel
theorem dX0_start_29 : decode cX0_start 29 = .ok (.getfield 38, 3) := by decide +kernel
theorem dX0_start_32 : decode cX0_start 32 = .ok (.getfield 90, 3) := by decide +kernel
theorem dX0_start_35 : decode cX0_start 35 = .ok (.putfield 46, 3) := by decide +kernel
theorem dX0_start_38 : decode cX0_start 38 = .ok (.aload_n 0, 1) := by decide +kernel
theorem dX0_start_39 : decode cX0_start 39 = .ok (.aload_n 0, 1) := by decide +kernel
theorem dX0_start_40 : decode cX0_start 40 = .ok (.getfield 38, 3) := by decide +kernel
theorem dX0_start_43 : decode cX0_start 43 = .ok (.getfield 91, 3) := by decide +kernel
theorem dX0_start_46 : decode cX0_start 46 = .ok (.putfield 50, 3) := by decide +kernel
theorem dX0_start_49 : decode cX0_start 49 = .ok (.aload_n 0, 1) := by decide +kernel
theorem dX0_start_50 : decode cX0_start 50 = .ok (.iconst (-1), 1) := by decide +kernel
theorem dX0_start_51 : decode cX0_start 51 = .ok (.putfield 53, 3) := by decide +kernel
theorem dX0_start_54 : decode cX0_start 54 = .ok (.aload_n 0, 1) := by decide +kernel
theorem dX0_start_55 : decode cX0_start 55 = .ok (.iconst (-1), 1) := by decide +kernel
theorem dX0_start_56 : decode cX0_start 56 = .ok (.putfield 56, 3) := by decide +kernel
theorem dX0_start_59 : decode cX0_start 59 = .ok (.aload_n 0, 1) := by decide +kernel
theorem dX0_start_60 : decode cX0_start 60 = .ok (.iconst 0, 1) := by decide +kernel
theorem dX0_start_61 : decode cX0_start 61 = .ok (.putfield 65, 3) := by decide +kernel
theorem dX0_start_64 : decode cX0_start 64 = .ok (.aload_n 0, 1) := by decide +kernel
theorem dX0_start_65 : decode cX0_start 65 = .ok (.iconst 0, 1) := by decide +kernel
theorem dX0_start_66 : decode cX0_start 66 = .ok (.putfield 72, 3) := by decide +kernel
theorem dX0_start_69 : decode cX0_start 69 = .ok (.aload_n 0, 1) := by decide +kernel
theorem dX0_start_70 : decode cX0_start 70 = .ok (.iconst 0, 1) := by decide +kernel
theorem dX0_start_71 : decode cX0_start 71 = .ok (.putfield 75, 3) := by decide +kernel
theorem dX0_start_74 : decode cX0_start 74 = .ok (.aload_n 0, 1) := by decide +kernel
theorem dX0_start_75 : decode cX0_start 75 = .ok (.iconst 0, 1) := by decide +kernel
theorem dX0_start_76 : decode cX0_start 76 = .ok (.putfield 78, 3) := by decide +kernel
theorem dX0_start_79 : decode cX0_start 79 = .ok (.return_, 1) := by decide +kernel
theorem dX0_fixMeant_0 : decode cX0_fixMeant 0 = .ok (.aload_n 0, 1) := by decide +kernel
theorem dX0_fixMeant_1 : decode cX0_fixMeant 1 = .ok (.iload_n 1, 1) := by decide +kernel
theorem dX0_fixMeant_2 : decode cX0_fixMeant 2 = .ok (.putfield 56, 3) := by decide +kernel
theorem dX0_fixMeant_5 : decode cX0_fixMeant 5 = .ok (.aload_n 0, 1) := by decide +kernel
theorem dX0_fixMeant_6 : decode cX0_fixMeant 6 = .ok (.iload_n 2, 1) := by decide +kernel
theorem dX0_fixMeant_7 : decode cX0_fixMeant 7 = .ok (.putfield 59, 3) := by decide +kernel
theorem dX0_fixMeant_10 : decode cX0_fixMeant 10 = .ok (.aload_n 0, 1) := by decide +kernel
theorem dX0_fixMeant_11 : decode cX0_fixMeant 11 = .ok (.iload_n 3, 1) := by decide +kernel
theorem dX0_fixMeant_12 : decode cX0_fixMeant 12 = .ok (.putfield 62, 3) := by decide +kernel
theorem dX0_fixMeant_15 : decode cX0_fixMeant 15 = .ok (.return_, 1) := by decide +kernel
theorem dX0_drawFrom_0 : decode cX0_drawFrom 0 = .ok (.aload_n 0, 1) := by decide +kernel
theorem dX0_drawFrom_1 : decode cX0_drawFrom 1 = .ok (.iconst 1, 1) := by decide +kernel
theorem dX0_drawFrom_2 : decode cX0_drawFrom 2 = .ok (.putfield 65, 3) := by decide +kernel
theorem dX0_drawFrom_5 : decode cX0_drawFrom 5 = .ok (.aload_n 0, 1) := by decide +kernel
theorem dX0_drawFrom_6 : decode cX0_drawFrom 6 = .ok (.iload_n 1, 1) := by decide +kernel
theorem dX0_drawFrom_7 : decode cX0_drawFrom 7 = .ok (.putfield 69, 3) := by decide +kernel
theorem dX0_drawFrom_10 : decode cX0_drawFrom 10 = .ok (.return_, 1) := by decide +kernel
theorem dX0_goDays_0 : decode cX0_goDays 0 = .ok (.iconst 0, 1) := by decide +kernel
theorem dX0_goDays_1 : decode cX0_goDays 1 = .ok (.istore_n 2, 1) := by decide +kernel
theorem dX0_goDays_2 : decode cX0_goDays 2 = .ok (.iload_n 2, 1) := by decide +kernel
theorem dX0_goDays_3 : decode cX0_goDays 3 = .ok (.iload_n 1, 1) := by decide +kernel
theorem dX0_goDays_4 : decode cX0_goDays 4 = .ok (.if_icmp .ge 13, 3) := by decide +kernel
theorem dX0_goDays_7 : decode cX0_goDays 7 = .ok (.aload_n 0, 1) := by decide +kernel
theorem dX0_goDays_8 : decode cX0_goDays 8 = .ok (.invokevirtual 92, 3) := by decide +kernel
theorem dX0_goDays_11 : decode cX0_goDays 11 = .ok (.iinc 2 1, 3) := by decide +kernel
theorem dX0_goDays_14 : decode cX0_goDays 14 = .ok (.goto (-12), 3) := by decide +kernel
theorem dX0_goDays_17 : decode cX0_goDays 17 = .ok (.return_, 1) := by decide +kernel
theorem dX0_goDay_0 : decode cX0_goDay 0 = .ok (.aload_n 0, 1) := by decide +kernel
theorem dX0_goDay_1 : decode cX0_goDay 1 = .ok (.getfield 38, 3) := by decide +kernel
theorem dX0_goDay_4 : decode cX0_goDay 4 = .ok (.ifnonnull 4, 3) := by decide +kernel
theorem dX0_goDay_7 : decode cX0_goDay 7 = .ok (.return_, 1) := by decide +kernel
theorem dX0_goDay_8 : decode cX0_goDay 8 = .ok (.aload_n 0, 1) := by decide +kernel
theorem dX0_goDay_9 : decode cX0_goDay 9 = .ok (.getfield 21, 3) := by decide +kernel
theorem dX0_goDay_12 : decode cX0_goDay 12 = .ok (.aload_n 0, 1) := by decide +kernel
theorem dX0_goDay_13 : decode cX0_goDay 13 = .ok (.getfield 38, 3) := by decide +kernel
theorem dX0_goDay_16 : decode cX0_goDay 16 = .ok (.aload_n 0, 1) := by decide +kernel
theorem dX0_goDay_17 : decode cX0_goDay 17 = .ok (.getfield 12, 3) := by decide +kernel
theorem dX0_goDay_20 : decode cX0_goDay 20 = .ok (.invokevirtual 95, 3) := by decide +kernel
theorem dX0_goDay_23 : decode cX0_goDay 23 = .ok (.iconst 0, 1) := by decide +kernel
theorem dX0_goDay_24 : decode cX0_goDay 24 = .ok (.istore_n 1, 1) := by decide +kernel
theorem dX0_goDay_25 : decode cX0_goDay 25 = .ok (.iload_n 1, 1) := by decide +kernel
theorem dX0_goDay_26 : decode cX0_goDay 26 = .ok (.aload_n 0, 1) := by decide +kernel
theorem dX0_goDay_27 : decode cX0_goDay 27 = .ok (.getfield 38, 3) := by decide +kernel
theorem dX0_goDay_30 : decode cX0_goDay 30 = .ok (.getfield 99, 3) := by decide +kernel
theorem dX0_goDay_33 : decode cX0_goDay 33 = .ok (.if_icmp .ge 38, 3) := by decide +kernel
theorem dX0_goDay_36 : decode cX0_goDay 36 = .ok (.aload_n 0, 1) := by decide +kernel
theorem dX0_goDay_37 : decode cX0_goDay 37 = .ok (.getfield 21, 3) := by decide +kernel
theorem dX0_goDay_40 : decode cX0_goDay 40 = .ok (.getfield 102, 3) := by decide +kernel
theorem dX0_goDay_43 : decode cX0_goDay 43 = .ok (.iload_n 1, 1) := by decide +kernel
theorem dX0_goDay_44 : decode cX0_goDay 44 = .ok (.iaload, 1) := by decide +kernel
theorem dX0_goDay_45 : decode cX0_goDay 45 = .ok (.aload_n 0, 1) := by decide +kernel
theorem dX0_goDay_46 : decode cX0_goDay 46 = .ok (.getfield 53, 3) := by decide +kernel
theorem dX0_goDay_49 : decode cX0_goDay 49 = .ok (.if_icmp .eq 16, 3) := by decide +kernel
theorem dX0_goDay_52 : decode cX0_goDay 52 = .ok (.aload_n 0, 1) := by decide +kernel
theorem dX0_goDay_53 : decode cX0_goDay 53 = .ok (.aload_n 0, 1) := by decide +kernel
theorem dX0_goDay_54 : decode cX0_goDay 54 = .ok (.getfield 21, 3) := by decide +kernel
theorem dX0_goDay_57 : decode cX0_goDay 57 = .ok (.getfield 102, 3) := by decide +kernel
theorem dX0_goDay_60 : decode cX0_goDay 60 = .ok (.iload_n 1, 1) := by decide +kernel
theorem dX0_goDay_61 : decode cX0_goDay 61 = .ok (.iaload, 1) := by decide +kernel
theorem dX0_goDay_62 : decode cX0_goDay 62 = .ok (.invokevirtual 105, 3) := by decide +kernel
theorem dX0_goDay_65 : decode cX0_goDay 65 = .ok (.iinc 1 1, 3) := by decide +kernel
theorem dX0_goDay_68 : decode cX0_goDay 68 = .ok (.goto (-43), 3) := by decide +kernel
theorem dX0_goDay_71 : decode cX0_goDay 71 = .ok (.iconst 0, 1) := by decide +kernel
theorem dX0_goDay_72 : decode cX0_goDay 72 = .ok (.istore_n 1, 1) := by decide +kernel
theorem dX0_goDay_73 : decode cX0_goDay 73 = .ok (.iload_n 1, 1) := by decide +kernel
theorem dX0_goDay_74 : decode cX0_goDay 74 = .ok (.aload_n 0, 1) := by decide +kernel
theorem dX0_goDay_75 : decode cX0_goDay 75 = .ok (.getfield 38, 3) := by decide +kernel
theorem dX0_goDay_78 : decode cX0_goDay 78 = .ok (.getfield 109, 3) := by decide +kernel
theorem dX0_goDay_81 : decode cX0_goDay 81 = .ok (.if_icmp .ge 63, 3) := by decide +kernel
theorem dX0_goDay_84 : decode cX0_goDay 84 = .ok (.iconst (-1), 1) := by decide +kernel
theorem dX0_goDay_85 : decode cX0_goDay 85 = .ok (.iconst 1, 1) := by decide +kernel
theorem dX0_goDay_86 : decode cX0_goDay 86 = .ok (.aload_n 0, 1) := by decide +kernel
theorem dX0_goDay_87 : decode cX0_goDay 87 = .ok (.getfield 21, 3) := by decide +kernel
theorem dX0_goDay_90 : decode cX0_goDay 90 = .ok (.getfield 112, 3) := by decide +kernel
theorem dX0_goDay_93 : decode cX0_goDay 93 = .ok (.iload_n 1, 1) := by decide +kernel
theorem dX0_goDay_94 : decode cX0_goDay 94 = .ok (.iaload, 1) := by decide +kernel
theorem dX0_goDay_95 : decode cX0_goDay 95 = .ok (.invokestatic 115, 3) := by decide +kernel
theorem dX0_goDay_98 : decode cX0_goDay 98 = .ok (.invokestatic 121, 3) := by decide +kernel
theorem dX0_goDay_101 : decode cX0_goDay 101 = .ok (.istore_n 2, 1) := by decide +kernel
theorem dX0_goDay_102 : decode cX0_goDay 102 = .ok (.aload_n 0, 1) := by decide +kernel
theorem dX0_goDay_103 : decode cX0_goDay 103 = .ok (.getfield 12, 3) := by decide +kernel
theorem dX0_goDay_106 : decode cX0_goDay 106 = .ok (.getfield 124, 3) := by decide +kernel
theorem dX0_goDay_109 : decode cX0_goDay 109 = .ok (.iconst 0, 1) := by decide +kernel
theorem dX0_goDay_110 : decode cX0_goDay 110 = .ok (.iload_n 1, 1) := by decide +kernel
theorem dX0_goDay_111 : decode cX0_goDay 111 = .ok (.iadd, 1) := by decide +kernel
theorem dX0_goDay_112 : decode cX0_goDay 112 = .ok (.iaload, 1) := by decide +kernel
theorem dX0_goDay_113 : decode cX0_goDay 113 = .ok (.iload_n 2, 1) := by decide +kernel
theorem dX0_goDay_114 : decode cX0_goDay 114 = .ok (.iadd, 1) := by decide +kernel
theorem dX0_goDay_115 : decode cX0_goDay 115 = .ok (.istore_n 3, 1) := by decide +kernel
theorem dX0_goDay_116 : decode cX0_goDay 116 = .ok (.aload_n 0, 1) := by decide +kernel
theorem dX0_goDay_117 : decode cX0_goDay 117 = .ok (.getfield 12, 3) := by decide +kernel
theorem dX0_goDay_120 : decode cX0_goDay 120 = .ok (.getfield 124, 3) := by decide +kernel
theorem dX0_goDay_123 : decode cX0_goDay 123 = .ok (.iconst 0, 1) := by decide +kernel
theorem dX0_goDay_124 : decode cX0_goDay 124 = .ok (.iload_n 1, 1) := by decide +kernel
theorem dX0_goDay_125 : decode cX0_goDay 125 = .ok (.iadd, 1) := by decide +kernel
theorem dX0_goDay_126 : decode cX0_goDay 126 = .ok (.bipush (-20), 2) := by decide +kernel
theorem dX0_goDay_128 : decode cX0_goDay 128 = .ok (.bipush 20, 2) := by decide +kernel
theorem dX0_goDay_130 : decode cX0_goDay 130 = .ok (.iload_n 3, 1) := by decide +kernel
theorem dX0_goDay_131 : decode cX0_goDay 131 = .ok (.invokestatic 115, 3) := by decide +kernel
theorem dX0_goDay_134 : decode cX0_goDay 134 = .ok (.invokestatic 121, 3) := by decide +kernel
theorem dX0_goDay_137 : decode cX0_goDay 137 = .ok (.iastore, 1) := by decide +kernel
theorem dX0_goDay_138 : decode cX0_goDay 138 = .ok (.iinc 1 1, 3) := by decide +kernel
theorem dX0_goDay_141 : decode cX0_goDay 141 = .ok (.goto (-68), 3) := by decide +kernel
theorem dX0_goDay_144 : decode cX0_goDay 144 = .ok (.aload_n 0, 1) := by decide +kernel
theorem dX0_goDay_145 : decode cX0_goDay 145 = .ok (.getfield 12, 3) := by decide +kernel
theorem dX0_goDay_148 : decode cX0_goDay 148 = .ok (.getfield 124, 3) := by decide +kernel
theorem dX0_goDay_151 : decode cX0_goDay 151 = .ok (.bipush 45, 2) := by decide +kernel
theorem dX0_goDay_153 : decode cX0_goDay 153 = .ok (.sipush 999, 3) := by decide +kernel
theorem dX0_goDay_156 : decode cX0_goDay 156 = .ok (.aload_n 0, 1) := by decide +kernel
theorem dX0_goDay_157 : decode cX0_goDay 157 = .ok (.getfield 12, 3) := by decide +kernel
theorem dX0_goDay_160 : decode cX0_goDay 160 = .ok (.getfield 124, 3) := by decide +kernel
theorem dX0_goDay_163 : decode cX0_goDay 163 = .ok (.bipush 45, 2) := by decide +kernel
theorem dX0_goDay_165 : decode cX0_goDay 165 = .ok (.iaload, 1) := by decide +kernel
theorem dX0_goDay_166 : decode cX0_goDay 166 = .ok (.iconst 1, 1) := by decide +kernel
theorem dX0_goDay_167 : decode cX0_goDay 167 = .ok (.iadd, 1) := by decide +kernel
theorem dX0_goDay_168 : decode cX0_goDay 168 = .ok (.invokestatic 115, 3) := by decide +kernel
theorem dX0_goDay_171 : decode cX0_goDay 171 = .ok (.iastore, 1) := by decide +kernel
theorem dX0_goDay_172 : decode cX0_goDay 172 = .ok (.return_, 1) := by decide +kernel
theorem dX0_goThrough_0 : decode cX0_goThrough 0 = .ok (.aload_n 0, 1) := by decide +kernel
theorem dX0_goThrough_1 : decode cX0_goThrough 1 = .ok (.getfield 38, 3) := by decide +kernel
theorem dX0_goThrough_4 : decode cX0_goThrough 4 = .ok (.getfield 127, 3) := by decide +kernel
theorem dX0_goThrough_7 : decode cX0_goThrough 7 = .ok (.iload_n 1, 1) := by decide +kernel
theorem dX0_goThrough_8 : decode cX0_goThrough 8 = .ok (.iaload, 1) := by decide +kernel
theorem dX0_goThrough_9 : decode cX0_goThrough 9 = .ok (.istore_n 2, 1) := by decide +kernel
theorem dX0_goThrough_10 : decode cX0_goThrough 10 = .ok (.aload_n 0, 1) := by decide +kernel
theorem dX0_goThrough_11 : decode cX0_goThrough 11 = .ok (.getfield 38, 3) := by decide +kernel
theorem dX0_goThrough_14 : decode cX0_goThrough 14 = .ok (.getfield 130, 3) := by decide +kernel
theorem dX0_goThrough_17 : decode cX0_goThrough 17 = .ok (.iload_n 1, 1) := by decide +kernel
theorem dX0_goThrough_18 : decode cX0_goThrough 18 = .ok (.iaload, 1) := by decide +kernel
theorem dX0_goThrough_19 : decode cX0_goThrough 19 = .ok (.istore_n 3, 1) := by decide +kernel
theorem dX0_goThrough_20 : decode cX0_goThrough 20 = .ok (.aload_n 0, 1) := by decide +kernel
theorem dX0_goThrough_21 : decode cX0_goThrough 21 = .ok (.iload_n 2, 1) := by decide +kernel
theorem dX0_goThrough_22 : decode cX0_goThrough 22 = .ok (.iload_n 3, 1) := by decide +kernel
theorem dX0_goThrough_23 : decode cX0_goThrough 23 = .ok (.iload_n 1, 1) := by decide +kernel
theorem dX0_goThrough_24 : decode cX0_goThrough 24 = .ok (.invokevirtual 133, 3) := by decide +kernel
theorem dX0_goThrough_27 : decode cX0_goThrough 27 = .ok (.istore 4, 2) := by decide +kernel
theorem dX0_goThrough_29 : decode cX0_goThrough 29 = .ok (.aload_n 0, 1) := by decide +kernel
theorem dX0_goThrough_30 : decode cX0_goThrough 30 = .ok (.iload_n 3, 1) := by decide +kernel
theorem dX0_goThrough_31 : decode cX0_goThrough 31 = .ok (.iload_n 2, 1) := by decide +kernel
theorem dX0_goThrough_32 : decode cX0_goThrough 32 = .ok (.iload_n 1, 1) := by decide +kernel
theorem dX0_goThrough_33 : decode cX0_goThrough 33 = .ok (.invokevirtual 133, 3) := by decide +kernel
theorem dX0_goThrough_36 : decode cX0_goThrough 36 = .ok (.istore 5, 2) := by decide +kernel
theorem dX0_goThrough_38 : decode cX0_goThrough 38 = .ok (.iload_n 1, 1) := by decide +kernel
theorem dX0_goThrough_39 : decode cX0_goThrough 39 = .ok (.aload_n 0, 1) := by decide +kernel
theorem dX0_goThrough_40 : decode cX0_goThrough 40 = .ok (.getfield 56, 3) := by decide +kernel
theorem dX0_goThrough_43 : decode cX0_goThrough 43 = .ok (.if_icmp .ne 15, 3) := by decide +kernel
theorem dX0_goThrough_46 : decode cX0_goThrough 46 = .ok (.aload_n 0, 1) := by decide +kernel
theorem dX0_goThrough_47 : decode cX0_goThrough 47 = .ok (.getfield 59, 3) := by decide +kernel
theorem dX0_goThrough_50 : decode cX0_goThrough 50 = .ok (.istore 4, 2) := by decide +kernel
theorem dX0_goThrough_52 : decode cX0_goThrough 52 = .ok (.aload_n 0, 1) := by decide +kernel
theorem dX0_goThrough_53 : decode cX0_goThrough 53 = .ok (.getfield 62, 3) := by decide +kernel
theorem dX0_goThrough_56 : decode cX0_goThrough 56 = .ok (.istore 5, 2) := by decide +kernel
theorem dX0_goThrough_58 : decode cX0_goThrough 58 = .ok (.aload_n 0, 1) := by decide +kernel
theorem dX0_goThrough_59 : decode cX0_goThrough 59 = .ok (.getfield 65, 3) := by decide +kernel
theorem dX0_goThrough_62 : decode cX0_goThrough 62 = .ok (.ifCond .eq 19, 3) := by decide +kernel
theorem dX0_goThrough_65 : decode cX0_goThrough 65 = .ok (.aload_n 0, 1) := by decide +kernel
theorem dX0_goThrough_66 : decode cX0_goThrough 66 = .ok (.iload 4, 2) := by decide +kernel
theorem dX0_goThrough_68 : decode cX0_goThrough 68 = .ok (.invokevirtual 137, 3) := by decide +kernel
theorem dX0_goThrough_71 : decode cX0_goThrough 71 = .ok (.istore 4, 2) := by decide +kernel
theorem dX0_goThrough_73 : decode cX0_goThrough 73 = .ok (.aload_n 0, 1) := by decide +kernel
theorem dX0_goThrough_74 : decode cX0_goThrough 74 = .ok (.iload 5, 2) := by decide +kernel
theorem dX0_goThrough_76 : decode cX0_goThrough 76 = .ok (.invokevirtual 137, 3) := by decide +kernel
theorem dX0_goThrough_79 : decode cX0_goThrough 79 = .ok (.istore 5, 2) := by decide +kernel
theorem dX0_goThrough_81 : decode cX0_goThrough 81 = .ok (.aload_n 0, 1) := by decide +kernel
theorem dX0_goThrough_82 : decode cX0_goThrough 82 = .ok (.iload_n 2, 1) := by decide +kernel
theorem dX0_goThrough_83 : decode cX0_goThrough 83 = .ok (.iload_n 1, 1) := by decide +kernel
theorem dX0_goThrough_84 : decode cX0_goThrough 84 = .ok (.iload 4, 2) := by decide +kernel
theorem dX0_goThrough_86 : decode cX0_goThrough 86 = .ok (.invokevirtual 141, 3) := by decide +kernel
theorem dX0_goThrough_89 : decode cX0_goThrough 89 = .ok (.istore 6, 2) := by decide +kernel
theorem dX0_goThrough_91 : decode cX0_goThrough 91 = .ok (.aload_n 0, 1) := by decide +kernel
theorem dX0_goThrough_92 : decode cX0_goThrough 92 = .ok (.iload_n 3, 1) := by decide +kernel
theorem dX0_goThrough_93 : decode cX0_goThrough 93 = .ok (.iload_n 1, 1) := by decide +kernel
theorem dX0_goThrough_94 : decode cX0_goThrough 94 = .ok (.iload 5, 2) := by decide +kernel
theorem dX0_goThrough_96 : decode cX0_goThrough 96 = .ok (.invokevirtual 141, 3) := by decide +kernel
theorem dX0_goThrough_99 : decode cX0_goThrough 99 = .ok (.istore 7, 2) := by decide +kernel
theorem dX0_goThrough_101 : decode cX0_goThrough 101 = .ok (.iconst 0, 1) := by decide +kernel
theorem dX0_goThrough_102 : decode cX0_goThrough 102 = .ok (.aload_n 0, 1) := by decide +kernel
theorem dX0_goThrough_103 : decode cX0_goThrough 103 = .ok (.getfield 38, 3) := by decide +kernel
theorem dX0_goThrough_106 : decode cX0_goThrough 106 = .ok (.getfield 144, 3) := by decide +kernel
theorem dX0_goThrough_109 : decode cX0_goThrough 109 = .ok (.iload 7, 2) := by decide +kernel
theorem dX0_goThrough_111 : decode cX0_goThrough 111 = .ok (.iload 6, 2) := by decide +kernel
theorem dX0_goThrough_113 : decode cX0_goThrough 113 = .ok (.isub, 1) := by decide +kernel
theorem dX0_goThrough_114 : decode cX0_goThrough 114 = .ok (.invokestatic 115, 3) := by decide +kernel
theorem dX0_goThrough_117 : decode cX0_goThrough 117 = .ok (.invokestatic 121, 3) := by decide +kernel
theorem dX0_goThrough_120 : decode cX0_goThrough 120 = .ok (.istore 8, 2) := by decide +kernel
theorem dX0_goThrough_122 : decode cX0_goThrough 122 = .ok (.iconst 0, 1) := by decide +kernel
theorem dX0_goThrough_123 : decode cX0_goThrough 123 = .ok (.aload_n 0, 1) := by decide +kernel
theorem dX0_goThrough_124 : decode cX0_goThrough 124 = .ok (.getfield 38, 3) := by decide +kernel
theorem dX0_goThrough_127 : decode cX0_goThrough 127 = .ok (.getfield 144, 3) := by decide +kernel
theorem dX0_goThrough_130 : decode cX0_goThrough 130 = .ok (.iload 6, 2) := by decide +kernel
theorem dX0_goThrough_132 : decode cX0_goThrough 132 = .ok (.iload 7, 2) := by decide +kernel
theorem dX0_goThrough_134 : decode cX0_goThrough 134 = .ok (.isub, 1) := by decide +kernel
theorem dX0_goThrough_135 : decode cX0_goThrough 135 = .ok (.invokestatic 115, 3) := by decide +kernel
theorem dX0_goThrough_138 : decode cX0_goThrough 138 = .ok (.invokestatic 121, 3) := by decide +kernel
theorem dX0_goThrough_141 : decode cX0_goThrough 141 = .ok (.istore 9, 2) := by decide +kernel
theorem dX0_goThrough_143 : decode cX0_goThrough 143 = .ok (.iload 6, 2) := by decide +kernel
theorem dX0_goThrough_145 : decode cX0_goThrough 145 = .ok (.iload 7, 2) := by decide +kernel
theorem dX0_goThrough_147 : decode cX0_goThrough 147 = .ok (.isub, 1) := by decide +kernel
theorem dX0_goThrough_148 : decode cX0_goThrough 148 = .ok (.invokestatic 147, 3) := by decide +kernel
theorem dX0_goThrough_151 : decode cX0_goThrough 151 = .ok (.aload_n 0, 1) := by decide +kernel
theorem dX0_goThrough_152 : decode cX0_goThrough 152 = .ok (.getfield 38, 3) := by decide +kernel
theorem dX0_goThrough_155 : decode cX0_goThrough 155 = .ok (.getfield 144, 3) := by decide +kernel
theorem dX0_goThrough_158 : decode cX0_goThrough 158 = .ok (.if_icmp .le 70, 3) := by decide +kernel
theorem dX0_goThrough_161 : decode cX0_goThrough 161 = .ok (.aload_n 0, 1) := by decide +kernel
theorem dX0_goThrough_162 : decode cX0_goThrough 162 = .ok (.getfield 21, 3) := by decide +kernel
theorem dX0_goThrough_165 : decode cX0_goThrough 165 = .ok (.getfield 150, 3) := by decide +kernel
theorem dX0_goThrough_168 : decode cX0_goThrough 168 = .ok (.iload_n 1, 1) := by decide +kernel
theorem dX0_goThrough_169 : decode cX0_goThrough 169 = .ok (.iconst (-1), 1) := by decide +kernel
theorem dX0_goThrough_170 : decode cX0_goThrough 170 = .ok (.iastore, 1) := by decide +kernel
theorem dX0_goThrough_171 : decode cX0_goThrough 171 = .ok (.aload_n 0, 1) := by decide +kernel
theorem dX0_goThrough_172 : decode cX0_goThrough 172 = .ok (.getfield 21, 3) := by decide +kernel
theorem dX0_goThrough_175 : decode cX0_goThrough 175 = .ok (.getfield 153, 3) := by decide +kernel
theorem dX0_goThrough_178 : decode cX0_goThrough 178 = .ok (.iload_n 2, 1) := by decide +kernel
theorem dX0_goThrough_179 : decode cX0_goThrough 179 = .ok (.iload 6, 2) := by decide +kernel
theorem dX0_goThrough_181 : decode cX0_goThrough 181 = .ok (.iload 8, 2) := by decide +kernel
theorem dX0_goThrough_183 : decode cX0_goThrough 183 = .ok (.iadd, 1) := by decide +kernel
theorem dX0_goThrough_184 : decode cX0_goThrough 184 = .ok (.iastore, 1) := by decide +kernel
theorem dX0_goThrough_185 : decode cX0_goThrough 185 = .ok (.aload_n 0, 1) := by decide +kernel
theorem dX0_goThrough_186 : decode cX0_goThrough 186 = .ok (.getfield 21, 3) := by decide +kernel
theorem dX0_goThrough_189 : decode cX0_goThrough 189 = .ok (.getfield 153, 3) := by decide +kernel
theorem dX0_goThrough_192 : decode cX0_goThrough 192 = .ok (.iload_n 3, 1) := by decide +kernel
theorem dX0_goThrough_193 : decode cX0_goThrough 193 = .ok (.iload 7, 2) := by decide +kernel
theorem dX0_goThrough_195 : decode cX0_goThrough 195 = .ok (.iload 9, 2) := by decide +kernel
theorem dX0_goThrough_197 : decode cX0_goThrough 197 = .ok (.iadd, 1) := by decide +kernel
theorem dX0_goThrough_198 : decode cX0_goThrough 198 = .ok (.iastore, 1) := by decide +kernel
theorem dX0_goThrough_199 : decode cX0_goThrough 199 = .ok (.aload_n 0, 1) := by decide +kernel
theorem dX0_goThrough_200 : decode cX0_goThrough 200 = .ok (.getfield 12, 3) := by decide +kernel
theorem dX0_goThrough_203 : decode cX0_goThrough 203 = .ok (.getfield 124, 3) := by decide +kernel
theorem dX0_goThrough_206 : decode cX0_goThrough 206 = .ok (.bipush 36, 2) := by decide +kernel
theorem dX0_goThrough_208 : decode cX0_goThrough 208 = .ok (.iload_n 1, 1) := by decide +kernel
theorem dX0_goThrough_209 : decode cX0_goThrough 209 = .ok (.iadd, 1) := by decide +kernel
theorem dX0_goThrough_210 : decode cX0_goThrough 210 = .ok (.dup2, 1) := by decide +kernel
theorem dX0_goThrough_211 : decode cX0_goThrough 211 = .ok (.iaload, 1) := by decide +kernel
theorem dX0_goThrough_212 : decode cX0_goThrough 212 = .ok (.iconst 1, 1) := by decide +kernel
theorem dX0_goThrough_213 : decode cX0_goThrough 213 = .ok (.iadd, 1) := by decide +kernel
theorem dX0_goThrough_214 : decode cX0_goThrough 214 = .ok (.iastore, 1) := by decide +kernel
theorem dX0_goThrough_215 : decode cX0_goThrough 215 = .ok (.aload_n 0, 1) := by decide +kernel
theorem dX0_goThrough_216 : decode cX0_goThrough 216 = .ok (.dup, 1) := by decide +kernel
theorem dX0_goThrough_217 : decode cX0_goThrough 217 = .ok (.getfield 72, 3) := by decide +kernel
theorem dX0_goThrough_220 : decode cX0_goThrough 220 = .ok (.iconst 1, 1) := by decide +kernel
theorem dX0_goThrough_221 : decode cX0_goThrough 221 = .ok (.iadd, 1) := by decide +kernel
theorem dX0_goThrough_222 : decode cX0_goThrough 222 = .ok (.putfield 72, 3) := by decide +kernel
theorem dX0_goThrough_225 : decode cX0_goThrough 225 = .ok (.goto 79, 3) := by decide +kernel
theorem dX0_goThrough_228 : decode cX0_goThrough 228 = .ok (.aload_n 0, 1) := by decide +kernel
theorem dX0_goThrough_229 : decode cX0_goThrough 229 = .ok (.getfield 21, 3) := by decide +kernel
theorem dX0_goThrough_232 : decode cX0_goThrough 232 = .ok (.getfield 150, 3) := by decide +kernel
theorem dX0_goThrough_235 : decode cX0_goThrough 235 = .ok (.iload_n 1, 1) := by decide +kernel
theorem dX0_goThrough_236 : decode cX0_goThrough 236 = .ok (.iload 6, 2) := by decide +kernel
theorem dX0_goThrough_238 : decode cX0_goThrough 238 = .ok (.iload 8, 2) := by decide +kernel
theorem dX0_goThrough_240 : decode cX0_goThrough 240 = .ok (.iadd, 1) := by decide +kernel
theorem dX0_goThrough_241 : decode cX0_goThrough 241 = .ok (.iastore, 1) := by decide +kernel
theorem dX0_goThrough_242 : decode cX0_goThrough 242 = .ok (.aload_n 0, 1) := by decide +kernel
theorem dX0_goThrough_243 : decode cX0_goThrough 243 = .ok (.getfield 21, 3) := by decide +kernel
theorem dX0_goThrough_246 : decode cX0_goThrough 246 = .ok (.getfield 153, 3) := by decide +kernel
theorem dX0_goThrough_249 : decode cX0_goThrough 249 = .ok (.iload_n 2, 1) := by decide +kernel
theorem dX0_goThrough_250 : decode cX0_goThrough 250 = .ok (.aload_n 0, 1) := by decide +kernel
theorem dX0_goThrough_251 : decode cX0_goThrough 251 = .ok (.getfield 21, 3) := by decide +kernel
theorem dX0_goThrough_254 : decode cX0_goThrough 254 = .ok (.getfield 150, 3) := by decide +kernel
theorem dX0_goThrough_257 : decode cX0_goThrough 257 = .ok (.iload_n 1, 1) := by decide +kernel
theorem dX0_goThrough_258 : decode cX0_goThrough 258 = .ok (.iaload, 1) := by decide +kernel
theorem dX0_goThrough_259 : decode cX0_goThrough 259 = .ok (.aload_n 0, 1) := by decide +kernel
theorem dX0_goThrough_260 : decode cX0_goThrough 260 = .ok (.getfield 38, 3) := by decide +kernel
theorem dX0_goThrough_263 : decode cX0_goThrough 263 = .ok (.getfield 156, 3) := by decide +kernel
theorem dX0_goThrough_266 : decode cX0_goThrough 266 = .ok (.iload_n 1, 1) := by decide +kernel
theorem dX0_goThrough_267 : decode cX0_goThrough 267 = .ok (.iaload, 1) := by decide +kernel
theorem dX0_goThrough_268 : decode cX0_goThrough 268 = .ok (.iadd, 1) := by decide +kernel
theorem dX0_goThrough_269 : decode cX0_goThrough 269 = .ok (.iastore, 1) := by decide +kernel
theorem dX0_goThrough_270 : decode cX0_goThrough 270 = .ok (.aload_n 0, 1) := by decide +kernel
theorem dX0_goThrough_271 : decode cX0_goThrough 271 = .ok (.getfield 21, 3) := by decide +kernel
theorem dX0_goThrough_274 : decode cX0_goThrough 274 = .ok (.getfield 153, 3) := by decide +kernel
theorem dX0_goThrough_277 : decode cX0_goThrough 277 = .ok (.iload_n 3, 1) := by decide +kernel
theorem dX0_goThrough_278 : decode cX0_goThrough 278 = .ok (.aload_n 0, 1) := by decide +kernel
theorem dX0_goThrough_279 : decode cX0_goThrough 279 = .ok (.getfield 21, 3) := by decide +kernel
theorem dX0_goThrough_282 : decode cX0_goThrough 282 = .ok (.getfield 153, 3) := by decide +kernel
theorem dX0_goThrough_285 : decode cX0_goThrough 285 = .ok (.iload_n 2, 1) := by decide +kernel
theorem dX0_goThrough_286 : decode cX0_goThrough 286 = .ok (.iaload, 1) := by decide +kernel
theorem dX0_goThrough_287 : decode cX0_goThrough 287 = .ok (.iastore, 1) := by decide +kernel
theorem dX0_goThrough_288 : decode cX0_goThrough 288 = .ok (.aload_n 0, 1) := by decide +kernel
theorem dX0_goThrough_289 : decode cX0_goThrough 289 = .ok (.getfield 12, 3) := by decide +kernel
theorem dX0_goThrough_292 : decode cX0_goThrough 292 = .ok (.getfield 124, 3) := by decide +kernel
theorem dX0_goThrough_295 : decode cX0_goThrough 295 = .ok (.bipush 28, 2) := by decide +kernel
theorem dX0_goThrough_297 : decode cX0_goThrough 297 = .ok (.iload_n 1, 1) := by decide +kernel
theorem dX0_goThrough_298 : decode cX0_goThrough 298 = .ok (.iadd, 1) := by decide +kernel
theorem dX0_goThrough_299 : decode cX0_goThrough 299 = .ok (.dup2, 1) := by decide +kernel
theorem dX0_goThrough_300 : decode cX0_goThrough 300 = .ok (.iaload, 1) := by decide +kernel
theorem dX0_goThrough_301 : decode cX0_goThrough 301 = .ok (.iconst 1, 1) := by decide +kernel
theorem dX0_goThrough_302 : decode cX0_goThrough 302 = .ok (.iadd, 1) := by decide +kernel
theorem dX0_goThrough_303 : decode cX0_goThrough 303 = .ok (.iastore, 1) := by decide +kernel
theorem dX0_goThrough_304 : decode cX0_goThrough 304 = .ok (.aload_n 0, 1) := by decide +kernel
theorem dX0_goThrough_305 : decode cX0_goThrough 305 = .ok (.getfield 12, 3) := by decide +kernel
theorem dX0_goThrough_308 : decode cX0_goThrough 308 = .ok (.getfield 124, 3) := by decide +kernel
theorem dX0_goThrough_311 : decode cX0_goThrough 311 = .ok (.bipush 20, 2) := by decide +kernel
theorem dX0_goThrough_313 : decode cX0_goThrough 313 = .ok (.iload_n 1, 1) := by decide +kernel
theorem dX0_goThrough_314 : decode cX0_goThrough 314 = .ok (.iadd, 1) := by decide +kernel
theorem dX0_goThrough_315 : decode cX0_goThrough 315 = .ok (.iaload, 1) := by decide +kernel
theorem dX0_goThrough_316 : decode cX0_goThrough 316 = .ok (.istore 10, 2) := by decide +kernel
theorem dX0_goThrough_318 : decode cX0_goThrough 318 = .ok (.aload_n 0, 1) := by decide +kernel
theorem dX0_goThrough_319 : decode cX0_goThrough 319 = .ok (.getfield 21, 3) := by decide +kernel
theorem dX0_goThrough_322 : decode cX0_goThrough 322 = .ok (.getfield 159, 3) := by decide +kernel
theorem dX0_goThrough_325 : decode cX0_goThrough 325 = .ok (.iload_n 1, 1) := by decide +kernel
theorem dX0_goThrough_326 : decode cX0_goThrough 326 = .ok (.iload 8, 2) := by decide +kernel
theorem dX0_goThrough_328 : decode cX0_goThrough 328 = .ok (.iload 9, 2) := by decide +kernel
theorem dX0_goThrough_330 : decode cX0_goThrough 330 = .ok (.iadd, 1) := by decide +kernel
theorem dX0_goThrough_331 : decode cX0_goThrough 331 = .ok (.iastore, 1) := by decide +kernel
theorem dX0_goThrough_332 : decode cX0_goThrough 332 = .ok (.aload_n 0, 1) := by decide +kernel
theorem dX0_goThrough_333 : decode cX0_goThrough 333 = .ok (.iconst 2, 1) := by decide +kernel
theorem dX0_goThrough_334 : decode cX0_goThrough 334 = .ok (.iload_n 1, 1) := by decide +kernel
theorem dX0_goThrough_335 : decode cX0_goThrough 335 = .ok (.imul, 1) := by decide +kernel
theorem dX0_goThrough_336 : decode cX0_goThrough 336 = .ok (.iload_n 2, 1) := by decide +kernel
theorem dX0_goThrough_337 : decode cX0_goThrough 337 = .ok (.iload 6, 2) := by decide +kernel
theorem dX0_goThrough_339 : decode cX0_goThrough 339 = .ok (.iload 10, 2) := by decide +kernel
theorem dX0_goThrough_341 : decode cX0_goThrough 341 = .ok (.isub, 1) := by decide +kernel
theorem dX0_goThrough_342 : decode cX0_goThrough 342 = .ok (.iload 8, 2) := by decide +kernel
theorem dX0_goThrough_344 : decode cX0_goThrough 344 = .ok (.invokevirtual 162, 3) := by decide +kernel
theorem dX0_goThrough_347 : decode cX0_goThrough 347 = .ok (.aload_n 0, 1) := by decide +kernel
theorem dX0_goThrough_348 : decode cX0_goThrough 348 = .ok (.iconst 2, 1) := by decide +kernel
theorem dX0_goThrough_349 : decode cX0_goThrough 349 = .ok (.iload_n 1, 1) := by decide +kernel
theorem dX0_goThrough_350 : decode cX0_goThrough 350 = .ok (.imul, 1) := by decide +kernel
theorem dX0_goThrough_351 : decode cX0_goThrough 351 = .ok (.iconst 1, 1) := by decide +kernel
theorem dX0_goThrough_352 : decode cX0_goThrough 352 = .ok (.iadd, 1) := by decide +kernel
theorem dX0_goThrough_353 : decode cX0_goThrough 353 = .ok (.iload_n 3, 1) := by decide +kernel
theorem dX0_goThrough_354 : decode cX0_goThrough 354 = .ok (.iload 7, 2) := by decide +kernel
theorem dX0_goThrough_356 : decode cX0_goThrough 356 = .ok (.iload 10, 2) := by decide +kernel
theorem dX0_goThrough_358 : decode cX0_goThrough 358 = .ok (.isub, 1) := by decide +kernel
theorem dX0_goThrough_359 : decode cX0_goThrough 359 = .ok (.iload 9, 2) := by decide +kernel
theorem dX0_goThrough_361 : decode cX0_goThrough 361 = .ok (.invokevirtual 162, 3) := by decide +kernel
theorem dX0_goThrough_364 : decode cX0_goThrough 364 = .ok (.return_, 1) := by decide +kernel
theorem dX0_charge_0 : decode cX0_charge 0 = .ok (.iconst 0, 1) := by decide +kernel
theorem dX0_charge_1 : decode cX0_charge 1 = .ok (.istore 5, 2) := by decide +kernel
theorem dX0_charge_3 : decode cX0_charge 3 = .ok (.aload_n 0, 1) := by decide +kernel
theorem dX0_charge_4 : decode cX0_charge 4 = .ok (.getfield 12, 3) := by decide +kernel
theorem dX0_charge_7 : decode cX0_charge 7 = .ok (.iload_n 2, 1) := by decide +kernel
theorem dX0_charge_8 : decode cX0_charge 8 = .ok (.invokevirtual 166, 3) := by decide +kernel
theorem dX0_charge_11 : decode cX0_charge 11 = .ok (.ifCond .ne 36, 3) := by decide +kernel
theorem dX0_charge_14 : decode cX0_charge 14 = .ok (.iload_n 3, 1) := by decide +kernel
theorem dX0_charge_15 : decode cX0_charge 15 = .ok (.aload_n 0, 1) := by decide +kernel
theorem dX0_charge_16 : decode cX0_charge 16 = .ok (.getfield 46, 3) := by decide +kernel
theorem dX0_charge_19 : decode cX0_charge 19 = .ok (.if_icmp .ge 28, 3) := by decide +kernel
theorem dX0_charge_22 : decode cX0_charge 22 = .ok (.aload_n 0, 1) := by decide +kernel
theorem dX0_charge_23 : decode cX0_charge 23 = .ok (.getfield 38, 3) := by decide +kernel
theorem dX0_charge_26 : decode cX0_charge 26 = .ok (.getfield 170, 3) := by decide +kernel
theorem dX0_charge_29 : decode cX0_charge 29 = .ok (.istore 5, 2) := by decide +kernel
theorem dX0_charge_31 : decode cX0_charge 31 = .ok (.aload_n 0, 1) := by decide +kernel
theorem dX0_charge_32 : decode cX0_charge 32 = .ok (.getfield 21, 3) := by decide +kernel
theorem dX0_charge_35 : decode cX0_charge 35 = .ok (.getfield 112, 3) := by decide +kernel
theorem dX0_charge_38 : decode cX0_charge 38 = .ok (.iload_n 2, 1) := by decide +kernel
theorem dX0_charge_39 : decode cX0_charge 39 = .ok (.dup2, 1) := by decide +kernel
theorem dX0_charge_40 : decode cX0_charge 40 = .ok (.iaload, 1) := by decide +kernel
theorem dX0_charge_41 : decode cX0_charge 41 = .ok (.iconst 1, 1) := by decide +kernel
theorem dX0_charge_42 : decode cX0_charge 42 = .ok (.isub, 1) := by decide +kernel
theorem dX0_charge_43 : decode cX0_charge 43 = .ok (.iastore, 1) := by decide +kernel
theorem dX0_charge_44 : decode cX0_charge 44 = .ok (.goto 44, 3) := by decide +kernel
theorem dX0_charge_47 : decode cX0_charge 47 = .ok (.aload_n 0, 1) := by decide +kernel
theorem dX0_charge_48 : decode cX0_charge 48 = .ok (.getfield 12, 3) := by decide +kernel
theorem dX0_charge_51 : decode cX0_charge 51 = .ok (.iload_n 2, 1) := by decide +kernel
theorem dX0_charge_52 : decode cX0_charge 52 = .ok (.invokevirtual 166, 3) := by decide +kernel
theorem dX0_charge_55 : decode cX0_charge 55 = .ok (.ifCond .ne 33, 3) := by decide +kernel
theorem dX0_charge_58 : decode cX0_charge 58 = .ok (.iload_n 3, 1) := by decide +kernel
theorem dX0_charge_59 : decode cX0_charge 59 = .ok (.aload_n 0, 1) := by decide +kernel
theorem dX0_charge_60 : decode cX0_charge 60 = .ok (.getfield 50, 3) := by decide +kernel
theorem dX0_charge_63 : decode cX0_charge 63 = .ok (.if_icmp .le 25, 3) := by decide +kernel
theorem dX0_charge_66 : decode cX0_charge 66 = .ok (.aload_n 0, 1) := by decide +kernel
theorem dX0_charge_67 : decode cX0_charge 67 = .ok (.getfield 38, 3) := by decide +kernel
theorem dX0_charge_70 : decode cX0_charge 70 = .ok (.getfield 173, 3) := by decide +kernel
theorem dX0_charge_73 : decode cX0_charge 73 = .ok (.istore 5, 2) := by decide +kernel
theorem dX0_charge_75 : decode cX0_charge 75 = .ok (.aload_n 0, 1) := by decide +kernel
theorem dX0_charge_76 : decode cX0_charge 76 = .ok (.getfield 21, 3) := by decide +kernel
theorem dX0_charge_79 : decode cX0_charge 79 = .ok (.getfield 112, 3) := by decide +kernel
theorem dX0_charge_82 : decode cX0_charge 82 = .ok (.iload_n 2, 1) := by decide +kernel
theorem dX0_charge_83 : decode cX0_charge 83 = .ok (.dup2, 1) := by decide +kernel
theorem dX0_charge_84 : decode cX0_charge 84 = .ok (.iaload, 1) := by decide +kernel
theorem dX0_charge_85 : decode cX0_charge 85 = .ok (.iconst 1, 1) := by decide +kernel
theorem dX0_charge_86 : decode cX0_charge 86 = .ok (.iadd, 1) := by decide +kernel
theorem dX0_charge_87 : decode cX0_charge 87 = .ok (.iastore, 1) := by decide +kernel
theorem dX0_charge_88 : decode cX0_charge 88 = .ok (.aload_n 0, 1) := by decide +kernel
theorem dX0_charge_89 : decode cX0_charge 89 = .ok (.getfield 12, 3) := by decide +kernel
theorem dX0_charge_92 : decode cX0_charge 92 = .ok (.getfield 124, 3) := by decide +kernel
theorem dX0_charge_95 : decode cX0_charge 95 = .ok (.iconst 5, 1) := by decide +kernel
theorem dX0_charge_96 : decode cX0_charge 96 = .ok (.iload_n 2, 1) := by decide +kernel
theorem dX0_charge_97 : decode cX0_charge 97 = .ok (.iadd, 1) := by decide +kernel
theorem dX0_charge_98 : decode cX0_charge 98 = .ok (.iload_n 3, 1) := by decide +kernel
theorem dX0_charge_99 : decode cX0_charge 99 = .ok (.iastore, 1) := by decide +kernel
theorem dX0_charge_100 : decode cX0_charge 100 = .ok (.aload_n 0, 1) := by decide +kernel
theorem dX0_charge_101 : decode cX0_charge 101 = .ok (.getfield 12, 3) := by decide +kernel
theorem dX0_charge_104 : decode cX0_charge 104 = .ok (.getfield 124, 3) := by decide +kernel
theorem dX0_charge_107 : decode cX0_charge 107 = .ok (.bipush 10, 2) := by decide +kernel
theorem dX0_charge_109 : decode cX0_charge 109 = .ok (.iload_n 2, 1) := by decide +kernel
theorem dX0_charge_110 : decode cX0_charge 110 = .ok (.iadd, 1) := by decide +kernel
theorem dX0_charge_111 : decode cX0_charge 111 = .ok (.dup2, 1) := by decide +kernel
theorem dX0_charge_112 : decode cX0_charge 112 = .ok (.iaload, 1) := by decide +kernel
theorem dX0_charge_113 : decode cX0_charge 113 = .ok (.iload 5, 2) := by decide +kernel
theorem dX0_charge_115 : decode cX0_charge 115 = .ok (.iadd, 1) := by decide +kernel
theorem dX0_charge_116 : decode cX0_charge 116 = .ok (.iastore, 1) := by decide +kernel
theorem dX0_charge_117 : decode cX0_charge 117 = .ok (.aload_n 0, 1) := by decide +kernel
theorem dX0_charge_118 : decode cX0_charge 118 = .ok (.getfield 12, 3) := by decide +kernel
theorem dX0_charge_121 : decode cX0_charge 121 = .ok (.getfield 124, 3) := by decide +kernel
theorem dX0_charge_124 : decode cX0_charge 124 = .ok (.bipush 15, 2) := by decide +kernel
theorem dX0_charge_126 : decode cX0_charge 126 = .ok (.iload_n 2, 1) := by decide +kernel
theorem dX0_charge_127 : decode cX0_charge 127 = .ok (.iadd, 1) := by decide +kernel
theorem dX0_charge_128 : decode cX0_charge 128 = .ok (.dup2, 1) := by decide +kernel
theorem dX0_charge_129 : decode cX0_charge 129 = .ok (.iaload, 1) := by decide +kernel
theorem dX0_charge_130 : decode cX0_charge 130 = .ok (.iload 4, 2) := by decide +kernel
theorem dX0_charge_132 : decode cX0_charge 132 = .ok (.iadd, 1) := by decide +kernel
theorem dX0_charge_133 : decode cX0_charge 133 = .ok (.iastore, 1) := by decide +kernel
theorem dX0_charge_134 : decode cX0_charge 134 = .ok (.aload_n 0, 1) := by decide +kernel
theorem dX0_charge_135 : decode cX0_charge 135 = .ok (.getfield 21, 3) := by decide +kernel
theorem dX0_charge_138 : decode cX0_charge 138 = .ok (.getfield 176, 3) := by decide +kernel
theorem dX0_charge_141 : decode cX0_charge 141 = .ok (.iload_n 1, 1) := by decide +kernel
theorem dX0_charge_142 : decode cX0_charge 142 = .ok (.iload_n 3, 1) := by decide +kernel
theorem dX0_charge_143 : decode cX0_charge 143 = .ok (.iastore, 1) := by decide +kernel
theorem dX0_charge_144 : decode cX0_charge 144 = .ok (.aload_n 0, 1) := by decide +kernel
theorem dX0_charge_145 : decode cX0_charge 145 = .ok (.getfield 21, 3) := by decide +kernel
theorem dX0_charge_148 : decode cX0_charge 148 = .ok (.getfield 179, 3) := by decide +kernel
theorem dX0_charge_151 : decode cX0_charge 151 = .ok (.iload_n 1, 1) := by decide +kernel
theorem dX0_charge_152 : decode cX0_charge 152 = .ok (.iload 5, 2) := by decide +kernel
theorem dX0_charge_154 : decode cX0_charge 154 = .ok (.iload 4, 2) := by decide +kernel
theorem dX0_charge_156 : decode cX0_charge 156 = .ok (.iadd, 1) := by decide +kernel
theorem dX0_charge_157 : decode cX0_charge 157 = .ok (.iastore, 1) := by decide +kernel
theorem dX0_charge_158 : decode cX0_charge 158 = .ok (.aload_n 0, 1) := by decide +kernel
theorem dX0_charge_159 : decode cX0_charge 159 = .ok (.dup, 1) := by decide +kernel
theorem dX0_charge_160 : decode cX0_charge 160 = .ok (.getfield 75, 3) := by decide +kernel
theorem dX0_charge_163 : decode cX0_charge 163 = .ok (.iload 5, 2) := by decide +kernel
theorem dX0_charge_165 : decode cX0_charge 165 = .ok (.iload 4, 2) := by decide +kernel
theorem dX0_charge_167 : decode cX0_charge 167 = .ok (.iadd, 1) := by decide +kernel
theorem dX0_charge_168 : decode cX0_charge 168 = .ok (.iadd, 1) := by decide +kernel
theorem dX0_charge_169 : decode cX0_charge 169 = .ok (.putfield 75, 3) := by decide +kernel
theorem dX0_charge_172 : decode cX0_charge 172 = .ok (.aload_n 0, 1) := by decide +kernel
theorem dX0_charge_173 : decode cX0_charge 173 = .ok (.dup, 1) := by decide +kernel
theorem dX0_charge_174 : decode cX0_charge 174 = .ok (.getfield 78, 3) := by decide +kernel
theorem dX0_charge_177 : decode cX0_charge 177 = .ok (.iload 4, 2) := by decide +kernel
theorem dX0_charge_179 : decode cX0_charge 179 = .ok (.iadd, 1) := by decide +kernel
theorem dX0_charge_180 : decode cX0_charge 180 = .ok (.putfield 78, 3) := by decide +kernel
theorem dX0_charge_183 : decode cX0_charge 183 = .ok (.return_, 1) := by decide +kernel
theorem dX0_whenComes_0 : decode cX0_whenComes 0 = .ok (.aload_n 0, 1) := by decide +kernel
theorem dX0_whenComes_1 : decode cX0_whenComes 1 = .ok (.getfield 12, 3) := by decide +kernel
theorem dX0_whenComes_4 : decode cX0_whenComes 4 = .ok (.getfield 124, 3) := by decide +kernel
theorem dX0_whenComes_7 : decode cX0_whenComes 7 = .ok (.bipush 20, 2) := by decide +kernel
theorem dX0_whenComes_9 : decode cX0_whenComes 9 = .ok (.iload_n 2, 1) := by decide +kernel
theorem dX0_whenComes_10 : decode cX0_whenComes 10 = .ok (.iadd, 1) := by decide +kernel
theorem dX0_whenComes_11 : decode cX0_whenComes 11 = .ok (.iaload, 1) := by decide +kernel
theorem dX0_whenComes_12 : decode cX0_whenComes 12 = .ok (.iload_n 3, 1) := by decide +kernel
theorem dX0_whenComes_13 : decode cX0_whenComes 13 = .ok (.iadd, 1) := by decide +kernel
theorem dX0_whenComes_14 : decode cX0_whenComes 14 = .ok (.aload_n 0, 1) := by decide +kernel
theorem dX0_whenComes_15 : decode cX0_whenComes 15 = .ok (.getfield 12, 3) := by decide +kernel
theorem dX0_whenComes_18 : decode cX0_whenComes 18 = .ok (.getfield 124, 3) := by decide +kernel
theorem dX0_whenComes_21 : decode cX0_whenComes 21 = .ok (.iconst 0, 1) := by decide +kernel
theorem dX0_whenComes_22 : decode cX0_whenComes 22 = .ok (.iload_n 1, 1) := by decide +kernel
theorem dX0_whenComes_23 : decode cX0_whenComes 23 = .ok (.iadd, 1) := by decide +kernel
theorem dX0_whenComes_24 : decode cX0_whenComes 24 = .ok (.iaload, 1) := by decide +kernel
theorem dX0_whenComes_25 : decode cX0_whenComes 25 = .ok (.isub, 1) := by decide +kernel
theorem dX0_whenComes_26 : decode cX0_whenComes 26 = .ok (.istore 4, 2) := by decide +kernel
theorem dX0_whenComes_28 : decode cX0_whenComes 28 = .ok (.iload 4, 2) := by decide +kernel
theorem dX0_whenComes_30 : decode cX0_whenComes 30 = .ok (.aload_n 0, 1) := by decide +kernel
theorem dX0_whenComes_31 : decode cX0_whenComes 31 = .ok (.getfield 21, 3) := by decide +kernel
theorem dX0_whenComes_34 : decode cX0_whenComes 34 = .ok (.getfield 153, 3) := by decide +kernel
theorem dX0_whenComes_37 : decode cX0_whenComes 37 = .ok (.iload_n 1, 1) := by decide +kernel
theorem dX0_whenComes_38 : decode cX0_whenComes 38 = .ok (.iaload, 1) := by decide +kernel
theorem dX0_whenComes_39 : decode cX0_whenComes 39 = .ok (.invokestatic 121, 3) := by decide +kernel
theorem dX0_whenComes_42 : decode cX0_whenComes 42 = .ok (.ireturn, 1) := by decide +kernel
theorem dX0_withDraw_0 : decode cX0_withDraw 0 = .ok (.aload_n 0, 1) := by decide +kernel
theorem dX0_withDraw_1 : decode cX0_withDraw 1 = .ok (.aload_n 0, 1) := by decide +kernel
theorem dX0_withDraw_2 : decode cX0_withDraw 2 = .ok (.getfield 69, 3) := by decide +kernel
theorem dX0_withDraw_5 : decode cX0_withDraw 5 = .ok (.i2l, 1) := by decide +kernel
theorem dX0_withDraw_6 : decode cX0_withDraw 6 = .ok (.ldc2_w 182, 3) := by decide +kernel
theorem dX0_withDraw_9 : decode cX0_withDraw 9 = .ok (.lmul, 1) := by decide +kernel
theorem dX0_withDraw_10 : decode cX0_withDraw 10 = .ok (.ldc2_w 184, 3) := by decide +kernel
theorem dX0_withDraw_13 : decode cX0_withDraw 13 = .ok (.ladd, 1) := by decide +kernel
theorem dX0_withDraw_14 : decode cX0_withDraw 14 = .ok (.ldc2_w 186, 3) := by decide +kernel
theorem dX0_withDraw_17 : decode cX0_withDraw 17 = .ok (.lrem, 1) := by decide +kernel
theorem dX0_withDraw_18 : decode cX0_withDraw 18 = .ok (.l2i, 1) := by decide +kernel
theorem dX0_withDraw_19 : decode cX0_withDraw 19 = .ok (.putfield 69, 3) := by decide +kernel
theorem dX0_withDraw_22 : decode cX0_withDraw 22 = .ok (.iload_n 1, 1) := by decide +kernel
theorem dX0_withDraw_23 : decode cX0_withDraw 23 = .ok (.aload_n 0, 1) := by decide +kernel
theorem dX0_withDraw_24 : decode cX0_withDraw 24 = .ok (.getfield 69, 3) := by decide +kernel
theorem dX0_withDraw_27 : decode cX0_withDraw 27 = .ok (.ldc 188, 2) := by decide +kernel
theorem dX0_withDraw_29 : decode cX0_withDraw 29 = .ok (.idiv, 1) := by decide +kernel
theorem dX0_withDraw_30 : decode cX0_withDraw 30 = .ok (.bipush 11, 2) := by decide +kernel
theorem dX0_withDraw_32 : decode cX0_withDraw 32 = .ok (.irem, 1) := by decide +kernel
theorem dX0_withDraw_33 : decode cX0_withDraw 33 = .ok (.iadd, 1) := by decide +kernel
theorem dX0_withDraw_34 : decode cX0_withDraw 34 = .ok (.iconst 5, 1) := by decide +kernel
theorem dX0_withDraw_35 : decode cX0_withDraw 35 = .ok (.isub, 1) := by decide +kernel
theorem dX0_withDraw_36 : decode cX0_withDraw 36 = .ok (.istore_n 2, 1) := by decide +kernel
theorem dX0_withDraw_37 : decode cX0_withDraw 37 = .ok (.bipush (-30), 2) := by decide +kernel
theorem dX0_withDraw_39 : decode cX0_withDraw 39 = .ok (.bipush 120, 2) := by decide +kernel
theorem dX0_withDraw_41 : decode cX0_withDraw 41 = .ok (.iload_n 2, 1) := by decide +kernel
theorem dX0_withDraw_42 : decode cX0_withDraw 42 = .ok (.invokestatic 115, 3) := by decide +kernel
theorem dX0_withDraw_45 : decode cX0_withDraw 45 = .ok (.invokestatic 121, 3) := by decide +kernel
theorem dX0_withDraw_48 : decode cX0_withDraw 48 = .ok (.ireturn, 1) := by decide +kernel
theorem dX0_minutesMeant_0 : decode cX0_minutesMeant 0 = .ok (.aload_n 0, 1) := by decide +kernel
theorem dX0_minutesMeant_1 : decode cX0_minutesMeant 1 = .ok (.getfield 42, 3) := by decide +kernel
theorem dX0_minutesMeant_4 : decode cX0_minutesMeant 4 = .ok (.ifnonnull 10, 3) := by decide +kernel
theorem dX0_minutesMeant_7 : decode cX0_minutesMeant 7 = .ok (.aload_n 0, 1) := by decide +kernel
theorem dX0_minutesMeant_8 : decode cX0_minutesMeant 8 = .ok (.getfield 25, 3) := by decide +kernel
theorem dX0_minutesMeant_11 : decode cX0_minutesMeant 11 = .ok (.iload_n 1, 1) := by decide +kernel
theorem dX0_minutesMeant_12 : decode cX0_minutesMeant 12 = .ok (.iaload, 1) := by decide +kernel
theorem dX0_minutesMeant_13 : decode cX0_minutesMeant 13 = .ok (.ireturn, 1) := by decide +kernel
theorem dX0_minutesMeant_14 : decode cX0_minutesMeant 14 = .ok (.aload_n 0, 1) := by decide +kernel
theorem dX0_minutesMeant_15 : decode cX0_minutesMeant 15 = .ok (.getfield 12, 3) := by decide +kernel
theorem dX0_minutesMeant_18 : decode cX0_minutesMeant 18 = .ok (.getfield 124, 3) := by decide +kernel
theorem dX0_minutesMeant_21 : decode cX0_minutesMeant 21 = .ok (.astore 4, 2) := by decide +kernel
theorem dX0_minutesMeant_23 : decode cX0_minutesMeant 23 = .ok (.aload_n 0, 1) := by decide +kernel
theorem dX0_minutesMeant_24 : decode cX0_minutesMeant 24 = .ok (.getfield 31, 3) := by decide +kernel
theorem dX0_minutesMeant_27 : decode cX0_minutesMeant 27 = .ok (.iconst 0, 1) := by decide +kernel
theorem dX0_minutesMeant_28 : decode cX0_minutesMeant 28 = .ok (.iload_n 1, 1) := by decide +kernel
theorem dX0_minutesMeant_29 : decode cX0_minutesMeant 29 = .ok (.iastore, 1) := by decide +kernel
theorem dX0_minutesMeant_30 : decode cX0_minutesMeant 30 = .ok (.aload_n 0, 1) := by decide +kernel
theorem dX0_minutesMeant_31 : decode cX0_minutesMeant 31 = .ok (.getfield 31, 3) := by decide +kernel
theorem dX0_minutesMeant_34 : decode cX0_minutesMeant 34 = .ok (.iconst 1, 1) := by decide +kernel
theorem dX0_minutesMeant_35 : decode cX0_minutesMeant 35 = .ok (.iload_n 3, 1) := by decide +kernel
theorem dX0_minutesMeant_36 : decode cX0_minutesMeant 36 = .ok (.iastore, 1) := by decide +kernel
theorem dX0_minutesMeant_37 : decode cX0_minutesMeant 37 = .ok (.aload_n 0, 1) := by decide +kernel
theorem dX0_minutesMeant_38 : decode cX0_minutesMeant 38 = .ok (.getfield 31, 3) := by decide +kernel
theorem dX0_minutesMeant_41 : decode cX0_minutesMeant 41 = .ok (.iconst 2, 1) := by decide +kernel
theorem dX0_minutesMeant_42 : decode cX0_minutesMeant 42 = .ok (.aload 4, 2) := by decide +kernel
theorem dX0_minutesMeant_44 : decode cX0_minutesMeant 44 = .ok (.bipush 20, 2) := by decide +kernel
theorem dX0_minutesMeant_46 : decode cX0_minutesMeant 46 = .ok (.iload_n 3, 1) := by decide +kernel
theorem dX0_minutesMeant_47 : decode cX0_minutesMeant 47 = .ok (.iadd, 1) := by decide +kernel
theorem dX0_minutesMeant_48 : decode cX0_minutesMeant 48 = .ok (.iaload, 1) := by decide +kernel
theorem dX0_minutesMeant_49 : decode cX0_minutesMeant 49 = .ok (.iastore, 1) := by decide +kernel
theorem dX0_minutesMeant_50 : decode cX0_minutesMeant 50 = .ok (.aload_n 0, 1) := by decide +kernel
theorem dX0_minutesMeant_51 : decode cX0_minutesMeant 51 = .ok (.getfield 31, 3) := by decide +kernel
theorem dX0_minutesMeant_54 : decode cX0_minutesMeant 54 = .ok (.iconst 3, 1) := by decide +kernel
theorem dX0_minutesMeant_55 : decode cX0_minutesMeant 55 = .ok (.aload_n 0, 1) := by decide +kernel
theorem dX0_minutesMeant_56 : decode cX0_minutesMeant 56 = .ok (.getfield 25, 3) := by decide +kernel
theorem dX0_minutesMeant_59 : decode cX0_minutesMeant 59 = .ok (.iload_n 1, 1) := by decide +kernel
theorem dX0_minutesMeant_60 : decode cX0_minutesMeant 60 = .ok (.iaload, 1) := by decide +kernel
theorem dX0_minutesMeant_61 : decode cX0_minutesMeant 61 = .ok (.iastore, 1) := by decide +kernel
theorem dX0_minutesMeant_62 : decode cX0_minutesMeant 62 = .ok (.aload_n 0, 1) := by decide +kernel
theorem dX0_minutesMeant_63 : decode cX0_minutesMeant 63 = .ok (.getfield 31, 3) := by decide +kernel
theorem dX0_minutesMeant_66 : decode cX0_minutesMeant 66 = .ok (.iconst 4, 1) := by decide +kernel
theorem dX0_minutesMeant_67 : decode cX0_minutesMeant 67 = .ok (.aload_n 0, 1) := by decide +kernel
theorem dX0_minutesMeant_68 : decode cX0_minutesMeant 68 = .ok (.getfield 46, 3) := by decide +kernel
theorem dX0_minutesMeant_71 : decode cX0_minutesMeant 71 = .ok (.iastore, 1) := by decide +kernel
theorem dX0_minutesMeant_72 : decode cX0_minutesMeant 72 = .ok (.aload_n 0, 1) := by decide +kernel
theorem dX0_minutesMeant_73 : decode cX0_minutesMeant 73 = .ok (.getfield 31, 3) := by decide +kernel
theorem dX0_minutesMeant_76 : decode cX0_minutesMeant 76 = .ok (.iconst 5, 1) := by decide +kernel
theorem dX0_minutesMeant_77 : decode cX0_minutesMeant 77 = .ok (.aload_n 0, 1) := by decide +kernel
theorem dX0_minutesMeant_78 : decode cX0_minutesMeant 78 = .ok (.getfield 50, 3) := by decide +kernel
theorem dX0_minutesMeant_81 : decode cX0_minutesMeant 81 = .ok (.iastore, 1) := by decide +kernel
theorem dX0_minutesMeant_82 : decode cX0_minutesMeant 82 = .ok (.aload_n 0, 1) := by decide +kernel
theorem dX0_minutesMeant_83 : decode cX0_minutesMeant 83 = .ok (.getfield 31, 3) := by decide +kernel
theorem dX0_minutesMeant_86 : decode cX0_minutesMeant 86 = .ok (.bipush 6, 2) := by decide +kernel
theorem dX0_minutesMeant_88 : decode cX0_minutesMeant 88 = .ok (.iload_n 2, 1) := by decide +kernel
theorem dX0_minutesMeant_89 : decode cX0_minutesMeant 89 = .ok (.iastore, 1) := by decide +kernel
theorem dX0_minutesMeant_90 : decode cX0_minutesMeant 90 = .ok (.aload_n 0, 1) := by decide +kernel
theorem dX0_minutesMeant_91 : decode cX0_minutesMeant 91 = .ok (.getfield 31, 3) := by decide +kernel
theorem dX0_minutesMeant_94 : decode cX0_minutesMeant 94 = .ok (.bipush 7, 2) := by decide +kernel
theorem dX0_minutesMeant_96 : decode cX0_minutesMeant 96 = .ok (.aload 4, 2) := by decide +kernel
theorem dX0_minutesMeant_98 : decode cX0_minutesMeant 98 = .ok (.iconst 5, 1) := by decide +kernel
theorem dX0_minutesMeant_99 : decode cX0_minutesMeant 99 = .ok (.iload_n 2, 1) := by decide +kernel
theorem dX0_minutesMeant_100 : decode cX0_minutesMeant 100 = .ok (.iadd, 1) := by decide +kernel
theorem dX0_minutesMeant_101 : decode cX0_minutesMeant 101 = .ok (.iaload, 1) := by decide +kernel
theorem dX0_minutesMeant_102 : decode cX0_minutesMeant 102 = .ok (.iastore, 1) := by decide +kernel
theorem dX0_minutesMeant_103 : decode cX0_minutesMeant 103 = .ok (.aload_n 0, 1) := by decide +kernel
theorem dX0_minutesMeant_104 : decode cX0_minutesMeant 104 = .ok (.getfield 31, 3) := by decide +kernel
theorem dX0_minutesMeant_107 : decode cX0_minutesMeant 107 = .ok (.bipush 8, 2) := by decide +kernel
theorem dX0_minutesMeant_109 : decode cX0_minutesMeant 109 = .ok (.aload 4, 2) := by decide +kernel
theorem dX0_minutesMeant_111 : decode cX0_minutesMeant 111 = .ok (.iconst 5, 1) := by decide +kernel
theorem dX0_minutesMeant_112 : decode cX0_minutesMeant 112 = .ok (.iload_n 1, 1) := by decide +kernel
theorem dX0_minutesMeant_113 : decode cX0_minutesMeant 113 = .ok (.iadd, 1) := by decide +kernel
theorem dX0_minutesMeant_114 : decode cX0_minutesMeant 114 = .ok (.iaload, 1) := by decide +kernel
theorem dX0_minutesMeant_115 : decode cX0_minutesMeant 115 = .ok (.iastore, 1) := by decide +kernel
theorem dX0_minutesMeant_116 : decode cX0_minutesMeant 116 = .ok (.aload_n 0, 1) := by decide +kernel
theorem dX0_minutesMeant_117 : decode cX0_minutesMeant 117 = .ok (.getfield 31, 3) := by decide +kernel
theorem dX0_minutesMeant_120 : decode cX0_minutesMeant 120 = .ok (.bipush 9, 2) := by decide +kernel
theorem dX0_minutesMeant_122 : decode cX0_minutesMeant 122 = .ok (.aload 4, 2) := by decide +kernel
theorem dX0_minutesMeant_124 : decode cX0_minutesMeant 124 = .ok (.bipush 10, 2) := by decide +kernel
theorem dX0_minutesMeant_126 : decode cX0_minutesMeant 126 = .ok (.iload_n 1, 1) := by decide +kernel
theorem dX0_minutesMeant_127 : decode cX0_minutesMeant 127 = .ok (.iadd, 1) := by decide +kernel
theorem dX0_minutesMeant_128 : decode cX0_minutesMeant 128 = .ok (.iaload, 1) := by decide +kernel
theorem dX0_minutesMeant_129 : decode cX0_minutesMeant 129 = .ok (.iastore, 1) := by decide +kernel
theorem dX0_minutesMeant_130 : decode cX0_minutesMeant 130 = .ok (.aload_n 0, 1) := by decide +kernel
theorem dX0_minutesMeant_131 : decode cX0_minutesMeant 131 = .ok (.getfield 31, 3) := by decide +kernel
theorem dX0_minutesMeant_134 : decode cX0_minutesMeant 134 = .ok (.bipush 10, 2) := by decide +kernel
theorem dX0_minutesMeant_136 : decode cX0_minutesMeant 136 = .ok (.aload 4, 2) := by decide +kernel
theorem dX0_minutesMeant_138 : decode cX0_minutesMeant 138 = .ok (.bipush 15, 2) := by decide +kernel
theorem dX0_minutesMeant_140 : decode cX0_minutesMeant 140 = .ok (.iload_n 1, 1) := by decide +kernel
theorem dX0_minutesMeant_141 : decode cX0_minutesMeant 141 = .ok (.iadd, 1) := by decide +kernel
theorem dX0_minutesMeant_142 : decode cX0_minutesMeant 142 = .ok (.iaload, 1) := by decide +kernel
theorem dX0_minutesMeant_143 : decode cX0_minutesMeant 143 = .ok (.iastore, 1) := by decide +kernel
theorem dX0_minutesMeant_144 : decode cX0_minutesMeant 144 = .ok (.aload_n 0, 1) := by decide +kernel
theorem dX0_minutesMeant_145 : decode cX0_minutesMeant 145 = .ok (.getfield 31, 3) := by decide +kernel
theorem dX0_minutesMeant_148 : decode cX0_minutesMeant 148 = .ok (.bipush 11, 2) := by decide +kernel
theorem dX0_minutesMeant_150 : decode cX0_minutesMeant 150 = .ok (.aload 4, 2) := by decide +kernel
theorem dX0_minutesMeant_152 : decode cX0_minutesMeant 152 = .ok (.bipush 45, 2) := by decide +kernel
theorem dX0_minutesMeant_154 : decode cX0_minutesMeant 154 = .ok (.iaload, 1) := by decide +kernel
theorem dX0_minutesMeant_155 : decode cX0_minutesMeant 155 = .ok (.iastore, 1) := by decide +kernel
theorem dX0_minutesMeant_156 : decode cX0_minutesMeant 156 = .ok (.aload_n 0, 1) := by decide +kernel
theorem dX0_minutesMeant_157 : decode cX0_minutesMeant 157 = .ok (.getfield 31, 3) := by decide +kernel
theorem dX0_minutesMeant_160 : decode cX0_minutesMeant 160 = .ok (.bipush 12, 2) := by decide +kernel
theorem dX0_minutesMeant_162 : decode cX0_minutesMeant 162 = .ok (.aload 4, 2) := by decide +kernel
theorem dX0_minutesMeant_164 : decode cX0_minutesMeant 164 = .ok (.iconst 0, 1) := by decide +kernel
theorem dX0_minutesMeant_165 : decode cX0_minutesMeant 165 = .ok (.iload_n 1, 1) := by decide +kernel
theorem dX0_minutesMeant_166 : decode cX0_minutesMeant 166 = .ok (.iadd, 1) := by decide +kernel
theorem dX0_minutesMeant_167 : decode cX0_minutesMeant 167 = .ok (.iaload, 1) := by decide +kernel
theorem dX0_minutesMeant_168 : decode cX0_minutesMeant 168 = .ok (.iastore, 1) := by decide +kernel
theorem dX0_minutesMeant_169 : decode cX0_minutesMeant 169 = .ok (.aload_n 0, 1) := by decide +kernel
theorem dX0_minutesMeant_170 : decode cX0_minutesMeant 170 = .ok (.getfield 31, 3) := by decide +kernel
theorem dX0_minutesMeant_173 : decode cX0_minutesMeant 173 = .ok (.bipush 13, 2) := by decide +kernel
theorem dX0_minutesMeant_175 : decode cX0_minutesMeant 175 = .ok (.aload_n 0, 1) := by decide +kernel
theorem dX0_minutesMeant_176 : decode cX0_minutesMeant 176 = .ok (.getfield 12, 3) := by decide +kernel
theorem dX0_minutesMeant_179 : decode cX0_minutesMeant 179 = .ok (.iload_n 1, 1) := by decide +kernel
theorem dX0_minutesMeant_180 : decode cX0_minutesMeant 180 = .ok (.invokevirtual 166, 3) := by decide +kernel
theorem dX0_minutesMeant_183 : decode cX0_minutesMeant 183 = .ok (.ifCond .eq 7, 3) := by decide +kernel
theorem dX0_minutesMeant_186 : decode cX0_minutesMeant 186 = .ok (.iconst 1, 1) := by decide +kernel
theorem dX0_minutesMeant_187 : decode cX0_minutesMeant 187 = .ok (.goto 4, 3) := by decide +kernel
theorem dX0_minutesMeant_190 : decode cX0_minutesMeant 190 = .ok (.iconst 0, 1) := by decide +kernel
theorem dX0_minutesMeant_191 : decode cX0_minutesMeant 191 = .ok (.iastore, 1) := by decide +kernel
theorem dX0_minutesMeant_192 : decode cX0_minutesMeant 192 = .ok (.aload_n 0, 1) := by decide +kernel
theorem dX0_minutesMeant_193 : decode cX0_minutesMeant 193 = .ok (.getfield 42, 3) := by decide +kernel
theorem dX0_minutesMeant_196 : decode cX0_minutesMeant 196 = .ok (.aload_n 0, 1) := by decide +kernel
theorem dX0_minutesMeant_197 : decode cX0_minutesMeant 197 = .ok (.getfield 31, 3) := by decide +kernel
theorem dX0_minutesMeant_200 : decode cX0_minutesMeant 200 = .ok (.aload_n 0, 1) := by decide +kernel
theorem dX0_minutesMeant_201 : decode cX0_minutesMeant 201 = .ok (.getfield 34, 3) := by decide +kernel
theorem dX0_minutesMeant_204 : decode cX0_minutesMeant 204 = .ok (.invokevirtual 189, 3) := by decide +kernel
theorem dX0_minutesMeant_207 : decode cX0_minutesMeant 207 = .ok (.ireturn, 1) := by decide +kernel
theorem dX1_init_0 : decode cX1_init 0 = .ok (.aload_n 0, 1) := by decide +kernel
theorem dX1_init_1 : decode cX1_init 1 = .ok (.invokespecial 3, 3) := by decide +kernel
theorem dX1_init_4 : decode cX1_init 4 = .ok (.aload_n 0, 1) := by decide +kernel
theorem dX1_init_5 : decode cX1_init 5 = .ok (.bipush 8, 2) := by decide +kernel
theorem dX1_init_7 : decode cX1_init 7 = .ok (.newarray .int, 2) := by decide +kernel
theorem dX1_init_9 : decode cX1_init 9 = .ok (.putfield 9, 3) := by decide +kernel
theorem dX1_init_12 : decode cX1_init 12 = .ok (.aload_n 0, 1) := by decide +kernel
theorem dX1_init_13 : decode cX1_init 13 = .ok (.bipush 8, 2) := by decide +kernel
theorem dX1_init_15 : decode cX1_init 15 = .ok (.newarray .int, 2) := by decide +kernel
theorem dX1_init_17 : decode cX1_init 17 = .ok (.putfield 15, 3) := by decide +kernel
theorem dX1_init_20 : decode cX1_init 20 = .ok (.aload_n 0, 1) := by decide +kernel
theorem dX1_init_21 : decode cX1_init 21 = .ok (.bipush 8, 2) := by decide +kernel
theorem dX1_init_23 : decode cX1_init 23 = .ok (.newarray .int, 2) := by decide +kernel
theorem dX1_init_25 : decode cX1_init 25 = .ok (.putfield 18, 3) := by decide +kernel
theorem dX1_init_28 : decode cX1_init 28 = .ok (.aload_n 0, 1) := by decide +kernel
theorem dX1_init_29 : decode cX1_init 29 = .ok (.bipush 16, 2) := by decide +kernel
theorem dX1_init_31 : decode cX1_init 31 = .ok (.newarray .int, 2) := by decide +kernel
theorem dX1_init_33 : decode cX1_init 33 = .ok (.putfield 21, 3) := by decide +kernel
theorem dX1_init_36 : decode cX1_init 36 = .ok (.aload_n 0, 1) := by decide +kernel
theorem dX1_init_37 : decode cX1_init 37 = .ok (.bipush 16, 2) := by decide +kernel
theorem dX1_init_39 : decode cX1_init 39 = .ok (.newarray .int, 2) := by decide +kernel
theorem dX1_init_41 : decode cX1_init 41 = .ok (.putfield 24, 3) := by decide +kernel
theorem dX1_init_44 : decode cX1_init 44 = .ok (.aload_n 0, 1) := by decide +kernel
theorem dX1_init_45 : decode cX1_init 45 = .ok (.iconst 5, 1) := by decide +kernel
theorem dX1_init_46 : decode cX1_init 46 = .ok (.newarray .int, 2) := by decide +kernel
theorem dX1_init_48 : decode cX1_init 48 = .ok (.putfield 27, 3) := by decide +kernel
theorem dX1_init_51 : decode cX1_init 51 = .ok (.aload_n 0, 1) := by decide +kernel
theorem dX1_init_52 : decode cX1_init 52 = .ok (.iconst 5, 1) := by decide +kernel
theorem dX1_init_53 : decode cX1_init 53 = .ok (.newarray .int, 2) := by decide +kernel
theorem dX1_init_55 : decode cX1_init 55 = .ok (.putfield 30, 3) := by decide +kernel
theorem dX1_init_58 : decode cX1_init 58 = .ok (.return_, 1) := by decide +kernel
theorem dX1_open_0 : decode cX1_open 0 = .ok (.aload_n 0, 1) := by decide +kernel
theorem dX1_open_1 : decode cX1_open 1 = .ok (.getfield 27, 3) := by decide +kernel
theorem dX1_open_4 : decode cX1_open 4 = .ok (.ldc 33, 2) := by decide +kernel
theorem dX1_open_6 : decode cX1_open 6 = .ok (.invokestatic 34, 3) := by decide +kernel
theorem dX1_open_9 : decode cX1_open 9 = .ok (.aload_n 0, 1) := by decide +kernel
theorem dX1_open_10 : decode cX1_open 10 = .ok (.getfield 30, 3) := by decide +kernel
theorem dX1_open_13 : decode cX1_open 13 = .ok (.iconst 0, 1) := by decide +kernel
theorem dX1_open_14 : decode cX1_open 14 = .ok (.invokestatic 34, 3) := by decide +kernel
theorem dX1_open_17 : decode cX1_open 17 = .ok (.iconst 0, 1) := by decide +kernel
theorem dX1_open_18 : decode cX1_open 18 = .ok (.istore_n 3, 1) := by decide +kernel
theorem dX1_open_19 : decode cX1_open 19 = .ok (.iload_n 3, 1) := by decide +kernel
theorem dX1_open_20 : decode cX1_open 20 = .ok (.aload_n 1, 1) := by decide +kernel
theorem dX1_open_21 : decode cX1_open 21 = .ok (.getfield 40, 3) := by decide +kernel
theorem dX1_open_24 : decode cX1_open 24 = .ok (.if_icmp .ge 80, 3) := by decide +kernel
theorem dX1_open_27 : decode cX1_open 27 = .ok (.aload_n 2, 1) := by decide +kernel
theorem dX1_open_28 : decode cX1_open 28 = .ok (.getfield 46, 3) := by decide +kernel
theorem dX1_open_31 : decode cX1_open 31 = .ok (.bipush 20, 2) := by decide +kernel
theorem dX1_open_33 : decode cX1_open 33 = .ok (.iload_n 3, 1) := by decide +kernel
theorem dX1_open_34 : decode cX1_open 34 = .ok (.iadd, 1) := by decide +kernel
theorem dX1_open_35 : decode cX1_open 35 = .ok (.iaload, 1) := by decide +kernel
theorem dX1_open_36 : decode cX1_open 36 = .ok (.istore 4, 2) := by decide +kernel
theorem dX1_open_38 : decode cX1_open 38 = .ok (.iload_n 3, 1) := by decide +kernel
theorem dX1_open_39 : decode cX1_open 39 = .ok (.istore 5, 2) := by decide +kernel
theorem dX1_open_41 : decode cX1_open 41 = .ok (.iload 5, 2) := by decide +kernel
theorem dX1_open_43 : decode cX1_open 43 = .ok (.ifCond .le 47, 3) := by decide +kernel
theorem dX1_open_46 : decode cX1_open 46 = .ok (.aload_n 2, 1) := by decide +kernel
theorem dX1_open_47 : decode cX1_open 47 = .ok (.getfield 46, 3) := by decide +kernel
theorem dX1_open_50 : decode cX1_open 50 = .ok (.bipush 20, 2) := by decide +kernel
theorem dX1_open_52 : decode cX1_open 52 = .ok (.aload_n 0, 1) := by decide +kernel
theorem dX1_open_53 : decode cX1_open 53 = .ok (.getfield 9, 3) := by decide +kernel
theorem dX1_open_56 : decode cX1_open 56 = .ok (.iload 5, 2) := by decide +kernel
theorem dX1_open_58 : decode cX1_open 58 = .ok (.iconst 1, 1) := by decide +kernel
theorem dX1_open_59 : decode cX1_open 59 = .ok (.isub, 1) := by decide +kernel
theorem dX1_open_60 : decode cX1_open 60 = .ok (.iaload, 1) := by decide +kernel
theorem dX1_open_61 : decode cX1_open 61 = .ok (.iadd, 1) := by decide +kernel
theorem dX1_open_62 : decode cX1_open 62 = .ok (.iaload, 1) := by decide +kernel
theorem dX1_open_63 : decode cX1_open 63 = .ok (.iload 4, 2) := by decide +kernel
theorem dX1_open_65 : decode cX1_open 65 = .ok (.if_icmp .le 25, 3) := by decide +kernel
theorem dX1_open_68 : decode cX1_open 68 = .ok (.aload_n 0, 1) := by decide +kernel
theorem dX1_open_69 : decode cX1_open 69 = .ok (.getfield 9, 3) := by decide +kernel
theorem dX1_open_72 : decode cX1_open 72 = .ok (.iload 5, 2) := by decide +kernel
theorem dX1_open_74 : decode cX1_open 74 = .ok (.aload_n 0, 1) := by decide +kernel
theorem dX1_open_75 : decode cX1_open 75 = .ok (.getfield 9, 3) := by decide +kernel
theorem dX1_open_78 : decode cX1_open 78 = .ok (.iload 5, 2) := by decide +kernel
theorem dX1_open_80 : decode cX1_open 80 = .ok (.iconst 1, 1) := by decide +kernel
theorem dX1_open_81 : decode cX1_open 81 = .ok (.isub, 1) := by decide +kernel
theorem dX1_open_82 : decode cX1_open 82 = .ok (.iaload, 1) := by decide +kernel
theorem dX1_open_83 : decode cX1_open 83 = .ok (.iastore, 1) := by decide +kernel
theorem dX1_open_84 : decode cX1_open 84 = .ok (.iinc 5 (-1), 3) := by decide +kernel
theorem dX1_open_87 : decode cX1_open 87 = .ok (.goto (-46), 3) := by decide +kernel
theorem dX1_open_90 : decode cX1_open 90 = .ok (.aload_n 0, 1) := by decide +kernel
theorem dX1_open_91 : decode cX1_open 91 = .ok (.getfield 9, 3) := by decide +kernel
theorem dX1_open_94 : decode cX1_open 94 = .ok (.iload 5, 2) := by decide +kernel
theorem dX1_open_96 : decode cX1_open 96 = .ok (.iload_n 3, 1) := by decide +kernel
theorem dX1_open_97 : decode cX1_open 97 = .ok (.iastore, 1) := by decide +kernel
theorem dX1_open_98 : decode cX1_open 98 = .ok (.iinc 3 1, 3) := by decide +kernel
theorem dX1_open_101 : decode cX1_open 101 = .ok (.goto (-82), 3) := by decide +kernel
theorem dX1_open_104 : decode cX1_open 104 = .ok (.return_, 1) := by decide +kernel
theorem dX2_init_0 : decode cX2_init 0 = .ok (.aload_n 0, 1) := by decide +kernel
theorem dX2_init_1 : decode cX2_init 1 = .ok (.invokespecial 3, 3) := by decide +kernel
theorem dX2_init_4 : decode cX2_init 4 = .ok (.aload_n 0, 1) := by decide +kernel
theorem dX2_init_5 : decode cX2_init 5 = .ok (.iload_n 1, 1) := by decide +kernel
theorem dX2_init_6 : decode cX2_init 6 = .ok (.putfield 9, 3) := by decide +kernel
theorem dX2_init_9 : decode cX2_init 9 = .ok (.aload_n 0, 1) := by decide +kernel
theorem dX2_init_10 : decode cX2_init 10 = .ok (.aload_n 2, 1) := by decide +kernel
theorem dX2_init_11 : decode cX2_init 11 = .ok (.putfield 15, 3) := by decide +kernel
theorem dX2_init_14 : decode cX2_init 14 = .ok (.aload_n 0, 1) := by decide +kernel
theorem dX2_init_15 : decode cX2_init 15 = .ok (.aload_n 3, 1) := by decide +kernel
theorem dX2_init_16 : decode cX2_init 16 = .ok (.putfield 19, 3) := by decide +kernel
theorem dX2_init_19 : decode cX2_init 19 = .ok (.aload_n 0, 1) := by decide +kernel
theorem dX2_init_20 : decode cX2_init 20 = .ok (.aload 4, 2) := by decide +kernel
theorem dX2_init_22 : decode cX2_init 22 = .ok (.putfield 22, 3) := by decide +kernel
theorem dX2_init_25 : decode cX2_init 25 = .ok (.return_, 1) := by decide +kernel
theorem dX2_minutesMeant_0 : decode cX2_minutesMeant 0 = .ok (.iconst 0, 1) := by decide +kernel
theorem dX2_minutesMeant_1 : decode cX2_minutesMeant 1 = .ok (.istore_n 3, 1) := by decide +kernel
theorem dX2_minutesMeant_2 : decode cX2_minutesMeant 2 = .ok (.iload_n 3, 1) := by decide +kernel
theorem dX2_minutesMeant_3 : decode cX2_minutesMeant 3 = .ok (.aload_n 0, 1) := by decide +kernel
theorem dX2_minutesMeant_4 : decode cX2_minutesMeant 4 = .ok (.getfield 9, 3) := by decide +kernel
theorem dX2_minutesMeant_7 : decode cX2_minutesMeant 7 = .ok (.if_icmp .ge 81, 3) := by decide +kernel
theorem dX2_minutesMeant_10 : decode cX2_minutesMeant 10 = .ok (.aload_n 0, 1) := by decide +kernel
theorem dX2_minutesMeant_11 : decode cX2_minutesMeant 11 = .ok (.getfield 22, 3) := by decide +kernel
theorem dX2_minutesMeant_14 : decode cX2_minutesMeant 14 = .ok (.iload_n 3, 1) := by decide +kernel
theorem dX2_minutesMeant_15 : decode cX2_minutesMeant 15 = .ok (.iaload, 1) := by decide +kernel
theorem dX2_minutesMeant_16 : decode cX2_minutesMeant 16 = .ok (.istore 4, 2) := by decide +kernel
theorem dX2_minutesMeant_18 : decode cX2_minutesMeant 18 = .ok (.aload_n 0, 1) := by decide +kernel
theorem dX2_minutesMeant_19 : decode cX2_minutesMeant 19 = .ok (.getfield 19, 3) := by decide +kernel
theorem dX2_minutesMeant_22 : decode cX2_minutesMeant 22 = .ok (.iload_n 3, 1) := by decide +kernel
theorem dX2_minutesMeant_23 : decode cX2_minutesMeant 23 = .ok (.iconst 1, 1) := by decide +kernel
theorem dX2_minutesMeant_24 : decode cX2_minutesMeant 24 = .ok (.iadd, 1) := by decide +kernel
theorem dX2_minutesMeant_25 : decode cX2_minutesMeant 25 = .ok (.iaload, 1) := by decide +kernel
theorem dX2_minutesMeant_26 : decode cX2_minutesMeant 26 = .ok (.istore 5, 2) := by decide +kernel
theorem dX2_minutesMeant_28 : decode cX2_minutesMeant 28 = .ok (.iload 4, 2) := by decide +kernel
theorem dX2_minutesMeant_30 : decode cX2_minutesMeant 30 = .ok (.iload 5, 2) := by decide +kernel
theorem dX2_minutesMeant_32 : decode cX2_minutesMeant 32 = .ok (.if_icmp .eq 18, 3) := by decide +kernel
theorem dX2_minutesMeant_35 : decode cX2_minutesMeant 35 = .ok (.aload_n 0, 1) := by decide +kernel
theorem dX2_minutesMeant_36 : decode cX2_minutesMeant 36 = .ok (.iload 4, 2) := by decide +kernel
theorem dX2_minutesMeant_38 : decode cX2_minutesMeant 38 = .ok (.iload 5, 2) := by decide +kernel
theorem dX2_minutesMeant_40 : decode cX2_minutesMeant 40 = .ok (.aload_n 1, 1) := by decide +kernel
theorem dX2_minutesMeant_41 : decode cX2_minutesMeant 41 = .ok (.aload_n 2, 1) := by decide +kernel
theorem dX2_minutesMeant_42 : decode cX2_minutesMeant 42 = .ok (.invokevirtual 25, 3) := by decide +kernel
theorem dX2_minutesMeant_45 : decode cX2_minutesMeant 45 = .ok (.lconst 0, 1) := by decide +kernel
theorem dX2_minutesMeant_46 : decode cX2_minutesMeant 46 = .ok (.lcmp, 1) := by decide +kernel
theorem dX2_minutesMeant_47 : decode cX2_minutesMeant 47 = .ok (.ifCond .eq 35, 3) := by decide +kernel
theorem dX2_minutesMeant_50 : decode cX2_minutesMeant 50 = .ok (.aload_n 0, 1) := by decide +kernel
theorem dX2_minutesMeant_51 : decode cX2_minutesMeant 51 = .ok (.aload_n 0, 1) := by decide +kernel
theorem dX2_minutesMeant_52 : decode cX2_minutesMeant 52 = .ok (.getfield 19, 3) := by decide +kernel
theorem dX2_minutesMeant_55 : decode cX2_minutesMeant 55 = .ok (.iload_n 3, 1) := by decide +kernel
theorem dX2_minutesMeant_56 : decode cX2_minutesMeant 56 = .ok (.iaload, 1) := by decide +kernel
theorem dX2_minutesMeant_57 : decode cX2_minutesMeant 57 = .ok (.iload 4, 2) := by decide +kernel
theorem dX2_minutesMeant_59 : decode cX2_minutesMeant 59 = .ok (.aload_n 1, 1) := by decide +kernel
theorem dX2_minutesMeant_60 : decode cX2_minutesMeant 60 = .ok (.aload_n 2, 1) := by decide +kernel
theorem dX2_minutesMeant_61 : decode cX2_minutesMeant 61 = .ok (.invokevirtual 25, 3) := by decide +kernel
theorem dX2_minutesMeant_64 : decode cX2_minutesMeant 64 = .ok (.lstore 6, 2) := by decide +kernel
theorem dX2_minutesMeant_66 : decode cX2_minutesMeant 66 = .ok (.ldc2_w 29, 3) := by decide +kernel
theorem dX2_minutesMeant_69 : decode cX2_minutesMeant 69 = .ok (.ldc2_w 31, 3) := by decide +kernel
theorem dX2_minutesMeant_72 : decode cX2_minutesMeant 72 = .ok (.lload 6, 2) := by decide +kernel
theorem dX2_minutesMeant_74 : decode cX2_minutesMeant 74 = .ok (.invokestatic 33, 3) := by decide +kernel
theorem dX2_minutesMeant_77 : decode cX2_minutesMeant 77 = .ok (.invokestatic 39, 3) := by decide +kernel
theorem dX2_minutesMeant_80 : decode cX2_minutesMeant 80 = .ok (.l2i, 1) := by decide +kernel
theorem dX2_minutesMeant_81 : decode cX2_minutesMeant 81 = .ok (.ireturn, 1) := by decide +kernel
theorem dX2_minutesMeant_82 : decode cX2_minutesMeant 82 = .ok (.iinc 3 1, 3) := by decide +kernel
theorem dX2_minutesMeant_85 : decode cX2_minutesMeant 85 = .ok (.goto (-83), 3) := by decide +kernel
theorem dX2_minutesMeant_88 : decode cX2_minutesMeant 88 = .ok (.iconst 0, 1) := by decide +kernel
theorem dX2_minutesMeant_89 : decode cX2_minutesMeant 89 = .ok (.ireturn, 1) := by decide +kernel
theorem dX2_reckon_0 : decode cX2_reckon 0 = .ok (.iconst 0, 1) := by decide +kernel
theorem dX2_reckon_1 : decode cX2_reckon 1 = .ok (.istore 5, 2) := by decide +kernel
theorem dX2_reckon_3 : decode cX2_reckon 3 = .ok (.iload_n 1, 1) := by decide +kernel
theorem dX2_reckon_4 : decode cX2_reckon 4 = .ok (.istore 6, 2) := by decide +kernel
theorem dX2_reckon_6 : decode cX2_reckon 6 = .ok (.iload 6, 2) := by decide +kernel
theorem dX2_reckon_8 : decode cX2_reckon 8 = .ok (.iload_n 2, 1) := by decide +kernel
theorem dX2_reckon_9 : decode cX2_reckon 9 = .ok (.if_icmp .ge 171, 3) := by decide +kernel
theorem dX2_reckon_12 : decode cX2_reckon 12 = .ok (.iload 6, 2) := by decide +kernel
theorem dX2_reckon_14 : decode cX2_reckon 14 = .ok (.aload_n 0, 1) := by decide +kernel
theorem dX2_reckon_15 : decode cX2_reckon 15 = .ok (.getfield 15, 3) := by decide +kernel
theorem dX2_reckon_18 : decode cX2_reckon 18 = .ok (.arraylength, 1) := by decide +kernel
theorem dX2_reckon_19 : decode cX2_reckon 19 = .ok (.if_icmp .ge 161, 3) := by decide +kernel
theorem dX2_reckon_22 : decode cX2_reckon 22 = .ok (.aload_n 0, 1) := by decide +kernel
theorem dX2_reckon_23 : decode cX2_reckon 23 = .ok (.getfield 15, 3) := by decide +kernel
theorem dX2_reckon_26 : decode cX2_reckon 26 = .ok (.iload 6, 2) := by decide +kernel
theorem dX2_reckon_28 : decode cX2_reckon 28 = .ok (.iaload, 1) := by decide +kernel
theorem dX2_reckon_29 : decode cX2_reckon 29 = .ok (.bipush 31, 2) := by decide +kernel
theorem dX2_reckon_31 : decode cX2_reckon 31 = .ok (.iand, 1) := by decide +kernel
theorem dX2_reckon_32 : decode cX2_reckon 32 = .ok (.istore 7, 2) := by decide +kernel
theorem dX2_reckon_34 : decode cX2_reckon 34 = .ok (.aload_n 0, 1) := by decide +kernel
theorem dX2_reckon_35 : decode cX2_reckon 35 = .ok (.getfield 15, 3) := by decide +kernel
theorem dX2_reckon_38 : decode cX2_reckon 38 = .ok (.iload 6, 2) := by decide +kernel
theorem dX2_reckon_40 : decode cX2_reckon 40 = .ok (.iaload, 1) := by decide +kernel
theorem dX2_reckon_41 : decode cX2_reckon 41 = .ok (.iconst 5, 1) := by decide +kernel
theorem dX2_reckon_42 : decode cX2_reckon 42 = .ok (.ishr, 1) := by decide +kernel
theorem dX2_reckon_43 : decode cX2_reckon 43 = .ok (.istore 8, 2) := by decide +kernel
theorem dX2_reckon_45 : decode cX2_reckon 45 = .ok (.iload 7, 2) := by decide +kernel
theorem dX2_reckon_47 : decode cX2_reckon 47 = .ok (.ifCond .ne 25, 3) := by decide +kernel
theorem dX2_reckon_50 : decode cX2_reckon 50 = .ok (.iload 5, 2) := by decide +kernel
theorem dX2_reckon_52 : decode cX2_reckon 52 = .ok (.aload 4, 2) := by decide +kernel
theorem dX2_reckon_54 : decode cX2_reckon 54 = .ok (.arraylength, 1) := by decide +kernel
theorem dX2_reckon_55 : decode cX2_reckon 55 = .ok (.if_icmp .ge 17, 3) := by decide +kernel
theorem dX2_reckon_58 : decode cX2_reckon 58 = .ok (.aload 4, 2) := by decide +kernel
theorem dX2_reckon_60 : decode cX2_reckon 60 = .ok (.iload 5, 2) := by decide +kernel
theorem dX2_reckon_62 : decode cX2_reckon 62 = .ok (.iload 8, 2) := by decide +kernel
theorem dX2_reckon_64 : decode cX2_reckon 64 = .ok (.i2l, 1) := by decide +kernel
theorem dX2_reckon_65 : decode cX2_reckon 65 = .ok (.lastore, 1) := by decide +kernel
theorem dX2_reckon_66 : decode cX2_reckon 66 = .ok (.iinc 5 1, 3) := by decide +kernel
theorem dX2_reckon_69 : decode cX2_reckon 69 = .ok (.goto 105, 3) := by decide +kernel
theorem dX2_reckon_72 : decode cX2_reckon 72 = .ok (.iload 7, 2) := by decide +kernel
theorem dX2_reckon_74 : decode cX2_reckon 74 = .ok (.iconst 1, 1) := by decide +kernel
theorem dX2_reckon_75 : decode cX2_reckon 75 = .ok (.if_icmp .ne 34, 3) := by decide +kernel
theorem dX2_reckon_78 : decode cX2_reckon 78 = .ok (.iload 5, 2) := by decide +kernel
theorem dX2_reckon_80 : decode cX2_reckon 80 = .ok (.aload 4, 2) := by decide +kernel
theorem dX2_reckon_82 : decode cX2_reckon 82 = .ok (.arraylength, 1) := by decide +kernel
theorem dX2_reckon_83 : decode cX2_reckon 83 = .ok (.if_icmp .ge 26, 3) := by decide +kernel
theorem dX2_reckon_86 : decode cX2_reckon 86 = .ok (.iload 8, 2) := by decide +kernel
theorem dX2_reckon_88 : decode cX2_reckon 88 = .ok (.aload_n 3, 1) := by decide +kernel
theorem dX2_reckon_89 : decode cX2_reckon 89 = .ok (.arraylength, 1) := by decide +kernel
theorem dX2_reckon_90 : decode cX2_reckon 90 = .ok (.if_icmp .ge 19, 3) := by decide +kernel
theorem dX2_reckon_93 : decode cX2_reckon 93 = .ok (.aload 4, 2) := by decide +kernel
theorem dX2_reckon_95 : decode cX2_reckon 95 = .ok (.iload 5, 2) := by decide +kernel
theorem dX2_reckon_97 : decode cX2_reckon 97 = .ok (.aload_n 3, 1) := by decide +kernel
theorem dX2_reckon_98 : decode cX2_reckon 98 = .ok (.iload 8, 2) := by decide +kernel
theorem dX2_reckon_100 : decode cX2_reckon 100 = .ok (.iaload, 1) := by decide +kernel
theorem dX2_reckon_101 : decode cX2_reckon 101 = .ok (.i2l, 1) := by decide +kernel
theorem dX2_reckon_102 : decode cX2_reckon 102 = .ok (.lastore, 1) := by decide +kernel
theorem dX2_reckon_103 : decode cX2_reckon 103 = .ok (.iinc 5 1, 3) := by decide +kernel
theorem dX2_reckon_106 : decode cX2_reckon 106 = .ok (.goto 68, 3) := by decide +kernel
theorem dX2_reckon_109 : decode cX2_reckon 109 = .ok (.iload 7, 2) := by decide +kernel
theorem dX2_reckon_111 : decode cX2_reckon 111 = .ok (.bipush 14, 2) := by decide +kernel
theorem dX2_reckon_113 : decode cX2_reckon 113 = .ok (.if_icmp .ne 28, 3) := by decide +kernel
theorem dX2_reckon_116 : decode cX2_reckon 116 = .ok (.iload 5, 2) := by decide +kernel
theorem dX2_reckon_118 : decode cX2_reckon 118 = .ok (.iconst 1, 1) := by decide +kernel
theorem dX2_reckon_119 : decode cX2_reckon 119 = .ok (.if_icmp .lt 22, 3) := by decide +kernel
theorem dX2_reckon_122 : decode cX2_reckon 122 = .ok (.aload 4, 2) := by decide +kernel
theorem dX2_reckon_124 : decode cX2_reckon 124 = .ok (.iload 5, 2) := by decide +kernel
theorem dX2_reckon_126 : decode cX2_reckon 126 = .ok (.iconst 1, 1) := by decide +kernel
theorem dX2_reckon_127 : decode cX2_reckon 127 = .ok (.isub, 1) := by decide +kernel
theorem dX2_reckon_128 : decode cX2_reckon 128 = .ok (.lconst 1, 1) := by decide +kernel
theorem dX2_reckon_129 : decode cX2_reckon 129 = .ok (.aload 4, 2) := by decide +kernel
theorem dX2_reckon_131 : decode cX2_reckon 131 = .ok (.iload 5, 2) := by decide +kernel
theorem dX2_reckon_133 : decode cX2_reckon 133 = .ok (.iconst 1, 1) := by decide +kernel
theorem dX2_reckon_134 : decode cX2_reckon 134 = .ok (.isub, 1) := by decide +kernel
theorem dX2_reckon_135 : decode cX2_reckon 135 = .ok (.laload, 1) := by decide +kernel
theorem dX2_reckon_136 : decode cX2_reckon 136 = .ok (.lsub, 1) := by decide +kernel
theorem dX2_reckon_137 : decode cX2_reckon 137 = .ok (.lastore, 1) := by decide +kernel
theorem dX2_reckon_138 : decode cX2_reckon 138 = .ok (.goto 36, 3) := by decide +kernel
theorem dX2_reckon_141 : decode cX2_reckon 141 = .ok (.iload 5, 2) := by decide +kernel
theorem dX2_reckon_143 : decode cX2_reckon 143 = .ok (.iconst 2, 1) := by decide +kernel
theorem dX2_reckon_144 : decode cX2_reckon 144 = .ok (.if_icmp .lt 30, 3) := by decide +kernel
theorem dX2_reckon_147 : decode cX2_reckon 147 = .ok (.iinc 5 (-1), 3) := by decide +kernel
theorem dX2_reckon_150 : decode cX2_reckon 150 = .ok (.aload 4, 2) := by decide +kernel
theorem dX2_reckon_152 : decode cX2_reckon 152 = .ok (.iload 5, 2) := by decide +kernel
theorem dX2_reckon_154 : decode cX2_reckon 154 = .ok (.iconst 1, 1) := by decide +kernel
theorem dX2_reckon_155 : decode cX2_reckon 155 = .ok (.isub, 1) := by decide +kernel
theorem dX2_reckon_156 : decode cX2_reckon 156 = .ok (.iload 7, 2) := by decide +kernel
theorem dX2_reckon_158 : decode cX2_reckon 158 = .ok (.aload 4, 2) := by decide +kernel
theorem dX2_reckon_160 : decode cX2_reckon 160 = .ok (.iload 5, 2) := by decide +kernel
theorem dX2_reckon_162 : decode cX2_reckon 162 = .ok (.iconst 1, 1) := by decide +kernel
theorem dX2_reckon_163 : decode cX2_reckon 163 = .ok (.isub, 1) := by decide +kernel
theorem dX2_reckon_164 : decode cX2_reckon 164 = .ok (.laload, 1) := by decide +kernel
theorem dX2_reckon_165 : decode cX2_reckon 165 = .ok (.aload 4, 2) := by decide +kernel
theorem dX2_reckon_167 : decode cX2_reckon 167 = .ok (.iload 5, 2) := by decide +kernel
theorem dX2_reckon_169 : decode cX2_reckon 169 = .ok (.laload, 1) := by decide +kernel
theorem dX2_reckon_170 : decode cX2_reckon 170 = .ok (.invokestatic 44, 3) := by decide +kernel
theorem dX2_reckon_173 : decode cX2_reckon 173 = .ok (.lastore, 1) := by decide +kernel
theorem dX2_reckon_174 : decode cX2_reckon 174 = .ok (.iinc 6 1, 3) := by decide +kernel
theorem dX2_reckon_177 : decode cX2_reckon 177 = .ok (.goto (-171), 3) := by decide +kernel
theorem dX2_reckon_180 : decode cX2_reckon 180 = .ok (.iload 5, 2) := by decide +kernel
theorem dX2_reckon_182 : decode cX2_reckon 182 = .ok (.ifCond .le 10, 3) := by decide +kernel
theorem dX2_reckon_185 : decode cX2_reckon 185 = .ok (.aload 4, 2) := by decide +kernel
theorem dX2_reckon_187 : decode cX2_reckon 187 = .ok (.iconst 0, 1) := by decide +kernel
theorem dX2_reckon_188 : decode cX2_reckon 188 = .ok (.laload, 1) := by decide +kernel
theorem dX2_reckon_189 : decode cX2_reckon 189 = .ok (.goto 4, 3) := by decide +kernel
theorem dX2_reckon_192 : decode cX2_reckon 192 = .ok (.lconst 0, 1) := by decide +kernel
theorem dX2_reckon_193 : decode cX2_reckon 193 = .ok (.lreturn, 1) := by decide +kernel
theorem dX2_joined_0 : decode cX2_joined 0 = .ok (.iload_n 0, 1) := by decide +kernel
theorem dX2_joined_1 : decode cX2_joined 1 = .ok (.tableswitch 163 2 12 #[59, 63, 67, 71, 85, 99, 111, 123, 135, 147, 159], 59) := by decide +kernel
theorem dX2_joined_60 : decode cX2_joined 60 = .ok (.lload_n 1, 1) := by decide +kernel
theorem dX2_joined_61 : decode cX2_joined 61 = .ok (.lload_n 3, 1) := by decide +kernel
theorem dX2_joined_62 : decode cX2_joined 62 = .ok (.ladd, 1) := by decide +kernel
theorem dX2_joined_63 : decode cX2_joined 63 = .ok (.lreturn, 1) := by decide +kernel
theorem dX2_joined_64 : decode cX2_joined 64 = .ok (.lload_n 1, 1) := by decide +kernel
theorem dX2_joined_65 : decode cX2_joined 65 = .ok (.lload_n 3, 1) := by decide +kernel
theorem dX2_joined_66 : decode cX2_joined 66 = .ok (.lsub, 1) := by decide +kernel
theorem dX2_joined_67 : decode cX2_joined 67 = .ok (.lreturn, 1) := by decide +kernel
theorem dX2_joined_68 : decode cX2_joined 68 = .ok (.lload_n 1, 1) := by decide +kernel
theorem dX2_joined_69 : decode cX2_joined 69 = .ok (.lload_n 3, 1) := by decide +kernel
theorem dX2_joined_70 : decode cX2_joined 70 = .ok (.lmul, 1) := by decide +kernel
theorem dX2_joined_71 : decode cX2_joined 71 = .ok (.lreturn, 1) := by decide +kernel
theorem dX2_joined_72 : decode cX2_joined 72 = .ok (.lload_n 3, 1) := by decide +kernel
theorem dX2_joined_73 : decode cX2_joined 73 = .ok (.lconst 0, 1) := by decide +kernel
theorem dX2_joined_74 : decode cX2_joined 74 = .ok (.lcmp, 1) := by decide +kernel
theorem dX2_joined_75 : decode cX2_joined 75 = .ok (.ifCond .ne 7, 3) := by decide +kernel
theorem dX2_joined_78 : decode cX2_joined 78 = .ok (.lconst 0, 1) := by decide +kernel
theorem dX2_joined_79 : decode cX2_joined 79 = .ok (.goto 6, 3) := by decide +kernel
theorem dX2_joined_82 : decode cX2_joined 82 = .ok (.lload_n 1, 1) := by decide +kernel
theorem dX2_joined_83 : decode cX2_joined 83 = .ok (.lload_n 3, 1) := by decide +kernel
theorem dX2_joined_84 : decode cX2_joined 84 = .ok (.ldiv, 1) := by decide +kernel
theorem dX2_joined_85 : decode cX2_joined 85 = .ok (.lreturn, 1) := by decide +kernel
theorem dX2_joined_86 : decode cX2_joined 86 = .ok (.lload_n 3, 1) := by decide +kernel
theorem dX2_joined_87 : decode cX2_joined 87 = .ok (.lconst 0, 1) := by decide +kernel
theorem dX2_joined_88 : decode cX2_joined 88 = .ok (.lcmp, 1) := by decide +kernel
theorem dX2_joined_89 : decode cX2_joined 89 = .ok (.ifCond .ne 7, 3) := by decide +kernel
theorem dX2_joined_92 : decode cX2_joined 92 = .ok (.lconst 0, 1) := by decide +kernel
theorem dX2_joined_93 : decode cX2_joined 93 = .ok (.goto 6, 3) := by decide +kernel
theorem dX2_joined_96 : decode cX2_joined 96 = .ok (.lload_n 1, 1) := by decide +kernel
theorem dX2_joined_97 : decode cX2_joined 97 = .ok (.lload_n 3, 1) := by decide +kernel
theorem dX2_joined_98 : decode cX2_joined 98 = .ok (.lrem, 1) := by decide +kernel
theorem dX2_joined_99 : decode cX2_joined 99 = .ok (.lreturn, 1) := by decide +kernel
theorem dX2_joined_100 : decode cX2_joined 100 = .ok (.lload_n 1, 1) := by decide +kernel
theorem dX2_joined_101 : decode cX2_joined 101 = .ok (.lload_n 3, 1) := by decide +kernel
theorem dX2_joined_102 : decode cX2_joined 102 = .ok (.lcmp, 1) := by decide +kernel
theorem dX2_joined_103 : decode cX2_joined 103 = .ok (.ifCond .ge 7, 3) := by decide +kernel
theorem dX2_joined_106 : decode cX2_joined 106 = .ok (.lconst 1, 1) := by decide +kernel
theorem dX2_joined_107 : decode cX2_joined 107 = .ok (.goto 4, 3) := by decide +kernel
theorem dX2_joined_110 : decode cX2_joined 110 = .ok (.lconst 0, 1) := by decide +kernel
theorem dX2_joined_111 : decode cX2_joined 111 = .ok (.lreturn, 1) := by decide +kernel
theorem dX2_joined_112 : decode cX2_joined 112 = .ok (.lload_n 1, 1) := by decide +kernel
theorem dX2_joined_113 : decode cX2_joined 113 = .ok (.lload_n 3, 1) := by decide +kernel
theorem dX2_joined_114 : decode cX2_joined 114 = .ok (.lcmp, 1) := by decide +kernel
theorem dX2_joined_115 : decode cX2_joined 115 = .ok (.ifCond .gt 7, 3) := by decide +kernel
theorem dX2_joined_118 : decode cX2_joined 118 = .ok (.lconst 1, 1) := by decide +kernel
theorem dX2_joined_119 : decode cX2_joined 119 = .ok (.goto 4, 3) := by decide +kernel
theorem dX2_joined_122 : decode cX2_joined 122 = .ok (.lconst 0, 1) := by decide +kernel
theorem dX2_joined_123 : decode cX2_joined 123 = .ok (.lreturn, 1) := by decide +kernel
theorem dX2_joined_124 : decode cX2_joined 124 = .ok (.lload_n 1, 1) := by decide +kernel
theorem dX2_joined_125 : decode cX2_joined 125 = .ok (.lload_n 3, 1) := by decide +kernel
theorem dX2_joined_126 : decode cX2_joined 126 = .ok (.lcmp, 1) := by decide +kernel
theorem dX2_joined_127 : decode cX2_joined 127 = .ok (.ifCond .ne 7, 3) := by decide +kernel
theorem dX2_joined_130 : decode cX2_joined 130 = .ok (.lconst 1, 1) := by decide +kernel
theorem dX2_joined_131 : decode cX2_joined 131 = .ok (.goto 4, 3) := by decide +kernel
theorem dX2_joined_134 : decode cX2_joined 134 = .ok (.lconst 0, 1) := by decide +kernel
theorem dX2_joined_135 : decode cX2_joined 135 = .ok (.lreturn, 1) := by decide +kernel
theorem dX2_joined_136 : decode cX2_joined 136 = .ok (.lload_n 1, 1) := by decide +kernel
theorem dX2_joined_137 : decode cX2_joined 137 = .ok (.lload_n 3, 1) := by decide +kernel
theorem dX2_joined_138 : decode cX2_joined 138 = .ok (.lcmp, 1) := by decide +kernel
theorem dX2_joined_139 : decode cX2_joined 139 = .ok (.ifCond .lt 7, 3) := by decide +kernel
theorem dX2_joined_142 : decode cX2_joined 142 = .ok (.lconst 1, 1) := by decide +kernel
theorem dX2_joined_143 : decode cX2_joined 143 = .ok (.goto 4, 3) := by decide +kernel
theorem dX2_joined_146 : decode cX2_joined 146 = .ok (.lconst 0, 1) := by decide +kernel
theorem dX2_joined_147 : decode cX2_joined 147 = .ok (.lreturn, 1) := by decide +kernel
theorem dX2_joined_148 : decode cX2_joined 148 = .ok (.lload_n 1, 1) := by decide +kernel
theorem dX2_joined_149 : decode cX2_joined 149 = .ok (.lload_n 3, 1) := by decide +kernel
theorem dX2_joined_150 : decode cX2_joined 150 = .ok (.lcmp, 1) := by decide +kernel
theorem dX2_joined_151 : decode cX2_joined 151 = .ok (.ifCond .le 7, 3) := by decide +kernel
theorem dX2_joined_154 : decode cX2_joined 154 = .ok (.lconst 1, 1) := by decide +kernel
theorem dX2_joined_155 : decode cX2_joined 155 = .ok (.goto 4, 3) := by decide +kernel
theorem dX2_joined_158 : decode cX2_joined 158 = .ok (.lconst 0, 1) := by decide +kernel
theorem dX2_joined_159 : decode cX2_joined 159 = .ok (.lreturn, 1) := by decide +kernel
theorem dX2_joined_160 : decode cX2_joined 160 = .ok (.lload_n 1, 1) := by decide +kernel
theorem dX2_joined_161 : decode cX2_joined 161 = .ok (.lload_n 3, 1) := by decide +kernel
theorem dX2_joined_162 : decode cX2_joined 162 = .ok (.land, 1) := by decide +kernel
theorem dX2_joined_163 : decode cX2_joined 163 = .ok (.lreturn, 1) := by decide +kernel
theorem dX2_joined_164 : decode cX2_joined 164 = .ok (.lload_n 1, 1) := by decide +kernel
theorem dX2_joined_165 : decode cX2_joined 165 = .ok (.lload_n 3, 1) := by decide +kernel
theorem dX2_joined_166 : decode cX2_joined 166 = .ok (.lor, 1) := by decide +kernel
theorem dX2_joined_167 : decode cX2_joined 167 = .ok (.lreturn, 1) := by decide +kernel
theorem dX3_init_0 : decode cX3_init 0 = .ok (.aload_n 0, 1) := by decide +kernel
theorem dX3_init_1 : decode cX3_init 1 = .ok (.invokespecial 3, 3) := by decide +kernel
theorem dX3_init_4 : decode cX3_init 4 = .ok (.aload_n 0, 1) := by decide +kernel
theorem dX3_init_5 : decode cX3_init 5 = .ok (.sipush 400, 3) := by decide +kernel
theorem dX3_init_8 : decode cX3_init 8 = .ok (.newarray .int, 2) := by decide +kernel
theorem dX3_init_10 : decode cX3_init 10 = .ok (.putfield 9, 3) := by decide +kernel
theorem dX3_init_13 : decode cX3_init 13 = .ok (.aload_n 0, 1) := by decide +kernel
theorem dX3_init_14 : decode cX3_init 14 = .ok (.iconst 0, 1) := by decide +kernel
theorem dX3_init_15 : decode cX3_init 15 = .ok (.putfield 15, 3) := by decide +kernel
theorem dX3_init_18 : decode cX3_init 18 = .ok (.aload_n 0, 1) := by decide +kernel
theorem dX3_init_19 : decode cX3_init 19 = .ok (.bipush 13, 2) := by decide +kernel
theorem dX3_init_21 : decode cX3_init 21 = .ok (.newarray .int, 2) := by decide +kernel
theorem dX3_init_23 : decode cX3_init 23 = .ok (.putfield 19, 3) := by decide +kernel
theorem dX3_init_26 : decode cX3_init 26 = .ok (.aload_n 0, 1) := by decide +kernel
theorem dX3_init_27 : decode cX3_init 27 = .ok (.bipush 12, 2) := by decide +kernel
theorem dX3_init_29 : decode cX3_init 29 = .ok (.newarray .int, 2) := by decide +kernel
theorem dX3_init_31 : decode cX3_init 31 = .ok (.putfield 22, 3) := by decide +kernel
theorem dX3_init_34 : decode cX3_init 34 = .ok (.aload_n 0, 1) := by decide +kernel
theorem dX3_init_35 : decode cX3_init 35 = .ok (.iconst 0, 1) := by decide +kernel
theorem dX3_init_36 : decode cX3_init 36 = .ok (.putfield 25, 3) := by decide +kernel
theorem dX3_init_39 : decode cX3_init 39 = .ok (.aload_n 0, 1) := by decide +kernel
theorem dX3_init_40 : decode cX3_init 40 = .ok (.bipush 64, 2) := by decide +kernel
theorem dX3_init_42 : decode cX3_init 42 = .ok (.newarray .int, 2) := by decide +kernel
theorem dX3_init_44 : decode cX3_init 44 = .ok (.putfield 28, 3) := by decide +kernel
theorem dX3_init_47 : decode cX3_init 47 = .ok (.aload_n 0, 1) := by decide +kernel
theorem dX3_init_48 : decode cX3_init 48 = .ok (.iconst 0, 1) := by decide +kernel
theorem dX3_init_49 : decode cX3_init 49 = .ok (.putfield 31, 3) := by decide +kernel
theorem dX3_init_52 : decode cX3_init 52 = .ok (.aload_n 0, 1) := by decide +kernel
theorem dX3_init_53 : decode cX3_init 53 = .ok (.iconst 0, 1) := by decide +kernel
theorem dX3_init_54 : decode cX3_init 54 = .ok (.putfield 34, 3) := by decide +kernel
theorem dX3_init_57 : decode cX3_init 57 = .ok (.aload_n 0, 1) := by decide +kernel
theorem dX3_init_58 : decode cX3_init 58 = .ok (.iconst 0, 1) := by decide +kernel
theorem dX3_init_59 : decode cX3_init 59 = .ok (.putfield 37, 3) := by decide +kernel
theorem dX3_init_62 : decode cX3_init 62 = .ok (.aload_n 0, 1) := by decide +kernel
theorem dX3_init_63 : decode cX3_init 63 = .ok (.iconst 0, 1) := by decide +kernel
theorem dX3_init_64 : decode cX3_init 64 = .ok (.putfield 40, 3) := by decide +kernel
theorem dX3_init_67 : decode cX3_init 67 = .ok (.aload_n 0, 1) := by decide +kernel
theorem dX3_init_68 : decode cX3_init 68 = .ok (.iconst 0, 1) := by decide +kernel
theorem dX3_init_69 : decode cX3_init 69 = .ok (.putfield 43, 3) := by decide +kernel
theorem dX3_init_72 : decode cX3_init 72 = .ok (.aload_n 0, 1) := by decide +kernel
theorem dX3_init_73 : decode cX3_init 73 = .ok (.iconst 0, 1) := by decide +kernel
theorem dX3_init_74 : decode cX3_init 74 = .ok (.putfield 46, 3) := by decide +kernel
theorem dX3_init_77 : decode cX3_init 77 = .ok (.aload_n 0, 1) := by decide +kernel
theorem dX3_init_78 : decode cX3_init 78 = .ok (.aload_n 1, 1) := by decide +kernel
theorem dX3_init_79 : decode cX3_init 79 = .ok (.putfield 49, 3) := by decide +kernel
theorem dX3_init_82 : decode cX3_init 82 = .ok (.return_, 1) := by decide +kernel
theorem dX3_read_0 : decode cX3_read 0 = .ok (.aload_n 0, 1) := by decide +kernel
theorem dX3_read_1 : decode cX3_read 1 = .ok (.getfield 49, 3) := by decide +kernel
theorem dX3_read_4 : decode cX3_read 4 = .ok (.invokevirtual 53, 3) := by decide +kernel
theorem dX3_read_7 : decode cX3_read 7 = .ok (.aload_n 0, 1) := by decide +kernel
theorem dX3_read_8 : decode cX3_read 8 = .ok (.iconst 0, 1) := by decide +kernel
theorem dX3_read_9 : decode cX3_read 9 = .ok (.putfield 15, 3) := by decide +kernel
theorem dX3_read_12 : decode cX3_read 12 = .ok (.aload_n 0, 1) := by decide +kernel
theorem dX3_read_13 : decode cX3_read 13 = .ok (.iconst 0, 1) := by decide +kernel
theorem dX3_read_14 : decode cX3_read 14 = .ok (.putfield 25, 3) := by decide +kernel
theorem dX3_read_17 : decode cX3_read 17 = .ok (.aload_n 0, 1) := by decide +kernel
theorem dX3_read_18 : decode cX3_read 18 = .ok (.iconst 0, 1) := by decide +kernel
theorem dX3_read_19 : decode cX3_read 19 = .ok (.putfield 31, 3) := by decide +kernel
theorem dX3_read_22 : decode cX3_read 22 = .ok (.aload_n 0, 1) := by decide +kernel
theorem dX3_read_23 : decode cX3_read 23 = .ok (.iconst 0, 1) := by decide +kernel
theorem dX3_read_24 : decode cX3_read 24 = .ok (.putfield 34, 3) := by decide +kernel
theorem dX3_read_27 : decode cX3_read 27 = .ok (.aload_n 0, 1) := by decide +kernel
theorem dX3_read_28 : decode cX3_read 28 = .ok (.iconst 0, 1) := by decide +kernel
theorem dX3_read_29 : decode cX3_read 29 = .ok (.putfield 37, 3) := by decide +kernel
theorem dX3_read_32 : decode cX3_read 32 = .ok (.aload_n 0, 1) := by decide +kernel
theorem dX3_read_33 : decode cX3_read 33 = .ok (.iconst 0, 1) := by decide +kernel
theorem dX3_read_34 : decode cX3_read 34 = .ok (.putfield 40, 3) := by decide +kernel
theorem dX3_read_37 : decode cX3_read 37 = .ok (.aload_n 0, 1) := by decide +kernel
theorem dX3_read_38 : decode cX3_read 38 = .ok (.iconst 0, 1) := by decide +kernel
theorem dX3_read_39 : decode cX3_read 39 = .ok (.putfield 43, 3) := by decide +kernel
theorem dX3_read_42 : decode cX3_read 42 = .ok (.iconst 0, 1) := by decide +kernel
theorem dX3_read_43 : decode cX3_read 43 = .ok (.istore_n 1, 1) := by decide +kernel
theorem dX3_read_44 : decode cX3_read 44 = .ok (.iload_n 1, 1) := by decide +kernel
theorem dX3_read_45 : decode cX3_read 45 = .ok (.sipush 400, 3) := by decide +kernel
theorem dX3_read_48 : decode cX3_read 48 = .ok (.if_icmp .gt 91, 3) := by decide +kernel
theorem dX3_read_51 : decode cX3_read 51 = .ok (.aload_n 0, 1) := by decide +kernel
theorem dX3_read_52 : decode cX3_read 52 = .ok (.getfield 43, 3) := by decide +kernel
theorem dX3_read_55 : decode cX3_read 55 = .ok (.iconst 4, 1) := by decide +kernel
theorem dX3_read_56 : decode cX3_read 56 = .ok (.if_icmp .eq 83, 3) := by decide +kernel
theorem dX3_read_59 : decode cX3_read 59 = .ok (.aload_n 0, 1) := by decide +kernel
theorem dX3_read_60 : decode cX3_read 60 = .ok (.getfield 49, 3) := by decide +kernel
theorem dX3_read_63 : decode cX3_read 63 = .ok (.getfield 58, 3) := by decide +kernel
theorem dX3_read_66 : decode cX3_read 66 = .ok (.ifCond .ne 73, 3) := by decide +kernel
theorem dX3_read_69 : decode cX3_read 69 = .ok (.aload_n 0, 1) := by decide +kernel
theorem dX3_read_70 : decode cX3_read 70 = .ok (.getfield 49, 3) := by decide +kernel
theorem dX3_read_73 : decode cX3_read 73 = .ok (.invokevirtual 61, 3) := by decide +kernel
theorem dX3_read_76 : decode cX3_read 76 = .ok (.aload_n 0, 1) := by decide +kernel
theorem dX3_read_77 : decode cX3_read 77 = .ok (.getfield 43, 3) := by decide +kernel
theorem dX3_read_80 : decode cX3_read 80 = .ok (.tableswitch 49 0 2 #[28, 35, 42], 28) := by decide +kernel
theorem dX3_read_108 : decode cX3_read 108 = .ok (.aload_n 0, 1) := by decide +kernel
theorem dX3_read_109 : decode cX3_read 109 = .ok (.invokevirtual 64, 3) := by decide +kernel
theorem dX3_read_112 : decode cX3_read 112 = .ok (.goto 21, 3) := by decide +kernel
theorem dX3_read_115 : decode cX3_read 115 = .ok (.aload_n 0, 1) := by decide +kernel
theorem dX3_read_116 : decode cX3_read 116 = .ok (.invokevirtual 67, 3) := by decide +kernel
theorem dX3_read_119 : decode cX3_read 119 = .ok (.goto 14, 3) := by decide +kernel
theorem dX3_read_122 : decode cX3_read 122 = .ok (.aload_n 0, 1) := by decide +kernel
theorem dX3_read_123 : decode cX3_read 123 = .ok (.invokevirtual 70, 3) := by decide +kernel
theorem dX3_read_126 : decode cX3_read 126 = .ok (.goto 7, 3) := by decide +kernel
theorem dX3_read_129 : decode cX3_read 129 = .ok (.aload_n 0, 1) := by decide +kernel
theorem dX3_read_130 : decode cX3_read 130 = .ok (.invokevirtual 73, 3) := by decide +kernel
theorem dX3_read_133 : decode cX3_read 133 = .ok (.iinc 1 1, 3) := by decide +kernel
theorem dX3_read_136 : decode cX3_read 136 = .ok (.goto (-92), 3) := by decide +kernel
theorem dX3_read_139 : decode cX3_read 139 = .ok (.aload_n 0, 1) := by decide +kernel
theorem dX3_read_140 : decode cX3_read 140 = .ok (.getfield 49, 3) := by decide +kernel
theorem dX3_read_143 : decode cX3_read 143 = .ok (.getfield 58, 3) := by decide +kernel
theorem dX3_read_146 : decode cX3_read 146 = .ok (.ireturn, 1) := by decide +kernel
theorem dX3_ruleThatWasRead_0 : decode cX3_ruleThatWasRead 0 = .ok (.new 76, 3) := by decide +kernel
theorem dX3_ruleThatWasRead_3 : decode cX3_ruleThatWasRead 3 = .ok (.dup, 1) := by decide +kernel
theorem dX3_ruleThatWasRead_4 : decode cX3_ruleThatWasRead 4 = .ok (.aload_n 0, 1) := by decide +kernel
theorem dX3_ruleThatWasRead_5 : decode cX3_ruleThatWasRead 5 = .ok (.getfield 25, 3) := by decide +kernel
theorem dX3_ruleThatWasRead_8 : decode cX3_ruleThatWasRead 8 = .ok (.aload_n 0, 1) := by decide +kernel
theorem dX3_ruleThatWasRead_9 : decode cX3_ruleThatWasRead 9 = .ok (.getfield 9, 3) := by decide +kernel
theorem dX3_ruleThatWasRead_12 : decode cX3_ruleThatWasRead 12 = .ok (.aload_n 0, 1) := by decide +kernel
theorem dX3_ruleThatWasRead_13 : decode cX3_ruleThatWasRead 13 = .ok (.getfield 15, 3) := by decide +kernel
theorem dX3_ruleThatWasRead_16 : decode cX3_ruleThatWasRead 16 = .ok (.invokestatic 78, 3) := by decide +kernel
theorem dX3_ruleThatWasRead_19 : decode cX3_ruleThatWasRead 19 = .ok (.aload_n 0, 1) := by decide +kernel
theorem dX3_ruleThatWasRead_20 : decode cX3_ruleThatWasRead 20 = .ok (.getfield 19, 3) := by decide +kernel
theorem dX3_ruleThatWasRead_23 : decode cX3_ruleThatWasRead 23 = .ok (.aload_n 0, 1) := by decide +kernel
theorem dX3_ruleThatWasRead_24 : decode cX3_ruleThatWasRead 24 = .ok (.getfield 25, 3) := by decide +kernel
theorem dX3_ruleThatWasRead_27 : decode cX3_ruleThatWasRead 27 = .ok (.iconst 1, 1) := by decide +kernel
theorem dX3_ruleThatWasRead_28 : decode cX3_ruleThatWasRead 28 = .ok (.iadd, 1) := by decide +kernel
theorem dX3_ruleThatWasRead_29 : decode cX3_ruleThatWasRead 29 = .ok (.invokestatic 78, 3) := by decide +kernel
theorem dX3_ruleThatWasRead_32 : decode cX3_ruleThatWasRead 32 = .ok (.aload_n 0, 1) := by decide +kernel
theorem dX3_ruleThatWasRead_33 : decode cX3_ruleThatWasRead 33 = .ok (.getfield 22, 3) := by decide +kernel
theorem dX3_ruleThatWasRead_36 : decode cX3_ruleThatWasRead 36 = .ok (.aload_n 0, 1) := by decide +kernel
theorem dX3_ruleThatWasRead_37 : decode cX3_ruleThatWasRead 37 = .ok (.getfield 25, 3) := by decide +kernel
theorem dX3_ruleThatWasRead_40 : decode cX3_ruleThatWasRead 40 = .ok (.invokestatic 78, 3) := by decide +kernel
theorem dX3_ruleThatWasRead_43 : decode cX3_ruleThatWasRead 43 = .ok (.invokespecial 84, 3) := by decide +kernel
theorem dX3_ruleThatWasRead_46 : decode cX3_ruleThatWasRead 46 = .ok (.areturn, 1) := by decide +kernel
theorem dX3_readLate_0 : decode cX3_readLate 0 = .ok (.aload_n 0, 1) := by decide +kernel
theorem dX3_readLate_1 : decode cX3_readLate 1 = .ok (.getfield 49, 3) := by decide +kernel
theorem dX3_readLate_4 : decode cX3_readLate 4 = .ok (.ldc 87, 2) := by decide +kernel
theorem dX3_readLate_6 : decode cX3_readLate 6 = .ok (.invokevirtual 89, 3) := by decide +kernel
theorem dX3_readLate_9 : decode cX3_readLate 9 = .ok (.ifCond .ne 14, 3) := by decide +kernel
theorem dX3_readLate_12 : decode cX3_readLate 12 = .ok (.aload_n 0, 1) := by decide +kernel
theorem dX3_readLate_13 : decode cX3_readLate 13 = .ok (.getfield 49, 3) := by decide +kernel
theorem dX3_readLate_16 : decode cX3_readLate 16 = .ok (.iconst 0, 1) := by decide +kernel
theorem dX3_readLate_17 : decode cX3_readLate 17 = .ok (.invokevirtual 93, 3) := by decide +kernel
theorem dX3_readLate_20 : decode cX3_readLate 20 = .ok (.goto 46, 3) := by decide +kernel
theorem dX3_readLate_23 : decode cX3_readLate 23 = .ok (.aload_n 0, 1) := by decide +kernel
theorem dX3_readLate_24 : decode cX3_readLate 24 = .ok (.getfield 25, 3) := by decide +kernel
theorem dX3_readLate_27 : decode cX3_readLate 27 = .ok (.bipush 12, 2) := by decide +kernel
theorem dX3_readLate_29 : decode cX3_readLate 29 = .ok (.if_icmp .lt 14, 3) := by decide +kernel
theorem dX3_readLate_32 : decode cX3_readLate 32 = .ok (.aload_n 0, 1) := by decide +kernel
theorem dX3_readLate_33 : decode cX3_readLate 33 = .ok (.getfield 49, 3) := by decide +kernel
theorem dX3_readLate_36 : decode cX3_readLate 36 = .ok (.iconst 4, 1) := by decide +kernel
theorem dX3_readLate_37 : decode cX3_readLate 37 = .ok (.invokevirtual 93, 3) := by decide +kernel
theorem dX3_readLate_40 : decode cX3_readLate 40 = .ok (.goto 26, 3) := by decide +kernel
theorem dX3_readLate_43 : decode cX3_readLate 43 = .ok (.aload_n 0, 1) := by decide +kernel
theorem dX3_readLate_44 : decode cX3_readLate 44 = .ok (.getfield 19, 3) := by decide +kernel
theorem dX3_readLate_47 : decode cX3_readLate 47 = .ok (.aload_n 0, 1) := by decide +kernel
theorem dX3_readLate_48 : decode cX3_readLate 48 = .ok (.getfield 25, 3) := by decide +kernel
theorem dX3_readLate_51 : decode cX3_readLate 51 = .ok (.aload_n 0, 1) := by decide +kernel
theorem dX3_readLate_52 : decode cX3_readLate 52 = .ok (.getfield 15, 3) := by decide +kernel
theorem dX3_readLate_55 : decode cX3_readLate 55 = .ok (.iastore, 1) := by decide +kernel
theorem dX3_readLate_56 : decode cX3_readLate 56 = .ok (.aload_n 0, 1) := by decide +kernel
theorem dX3_readLate_57 : decode cX3_readLate 57 = .ok (.iconst 0, 1) := by decide +kernel
theorem dX3_readLate_58 : decode cX3_readLate 58 = .ok (.putfield 46, 3) := by decide +kernel
theorem dX3_readLate_61 : decode cX3_readLate 61 = .ok (.aload_n 0, 1) := by decide +kernel
theorem dX3_readLate_62 : decode cX3_readLate 62 = .ok (.iconst 2, 1) := by decide +kernel
theorem dX3_readLate_63 : decode cX3_readLate 63 = .ok (.putfield 43, 3) := by decide +kernel
theorem dX3_readLate_66 : decode cX3_readLate 66 = .ok (.return_, 1) := by decide +kernel
theorem dX3_readFact_0 : decode cX3_readFact 0 = .ok (.aload_n 0, 1) := by decide +kernel
theorem dX3_readFact_1 : decode cX3_readFact 1 = .ok (.getfield 49, 3) := by decide +kernel
theorem dX3_readFact_4 : decode cX3_readFact 4 = .ok (.getfield 97, 3) := by decide +kernel
theorem dX3_readFact_7 : decode cX3_readFact 7 = .ok (.bipush 91, 2) := by decide +kernel
theorem dX3_readFact_9 : decode cX3_readFact 9 = .ok (.if_icmp .ne 12, 3) := by decide +kernel
theorem dX3_readFact_12 : decode cX3_readFact 12 = .ok (.aload_n 0, 1) := by decide +kernel
theorem dX3_readFact_13 : decode cX3_readFact 13 = .ok (.bipush 15, 2) := by decide +kernel
theorem dX3_readFact_15 : decode cX3_readFact 15 = .ok (.invokevirtual 102, 3) := by decide +kernel
theorem dX3_readFact_18 : decode cX3_readFact 18 = .ok (.goto 28, 3) := by decide +kernel
theorem dX3_readFact_21 : decode cX3_readFact 21 = .ok (.aload_n 0, 1) := by decide +kernel
theorem dX3_readFact_22 : decode cX3_readFact 22 = .ok (.getfield 49, 3) := by decide +kernel
theorem dX3_readFact_25 : decode cX3_readFact 25 = .ok (.ldc 105, 2) := by decide +kernel
theorem dX3_readFact_27 : decode cX3_readFact 27 = .ok (.invokevirtual 89, 3) := by decide +kernel
theorem dX3_readFact_30 : decode cX3_readFact 30 = .ok (.ifCond .eq 12, 3) := by decide +kernel
theorem dX3_readFact_33 : decode cX3_readFact 33 = .ok (.aload_n 0, 1) := by decide +kernel
theorem dX3_readFact_34 : decode cX3_readFact 34 = .ok (.bipush 14, 2) := by decide +kernel
theorem dX3_readFact_36 : decode cX3_readFact 36 = .ok (.invokevirtual 102, 3) := by decide +kernel
theorem dX3_readFact_39 : decode cX3_readFact 39 = .ok (.goto 7, 3) := by decide +kernel
theorem dX3_readFact_42 : decode cX3_readFact 42 = .ok (.aload_n 0, 1) := by decide +kernel
theorem dX3_readFact_43 : decode cX3_readFact 43 = .ok (.invokevirtual 70, 3) := by decide +kernel
theorem dX3_readFact_46 : decode cX3_readFact 46 = .ok (.return_, 1) := by decide +kernel
theorem dX3_goDeeper_0 : decode cX3_goDeeper 0 = .ok (.aload_n 0, 1) := by decide +kernel
theorem dX3_goDeeper_1 : decode cX3_goDeeper 1 = .ok (.getfield 37, 3) := by decide +kernel
theorem dX3_goDeeper_4 : decode cX3_goDeeper 4 = .ok (.bipush 10, 2) := by decide +kernel
theorem dX3_goDeeper_6 : decode cX3_goDeeper 6 = .ok (.if_icmp .lt 12, 3) := by decide +kernel
theorem dX3_goDeeper_9 : decode cX3_goDeeper 9 = .ok (.aload_n 0, 1) := by decide +kernel
theorem dX3_goDeeper_10 : decode cX3_goDeeper 10 = .ok (.getfield 49, 3) := by decide +kernel
theorem dX3_goDeeper_13 : decode cX3_goDeeper 13 = .ok (.iconst 2, 1) := by decide +kernel
theorem dX3_goDeeper_14 : decode cX3_goDeeper 14 = .ok (.invokevirtual 93, 3) := by decide +kernel
theorem dX3_goDeeper_17 : decode cX3_goDeeper 17 = .ok (.return_, 1) := by decide +kernel
theorem dX3_goDeeper_18 : decode cX3_goDeeper 18 = .ok (.aload_n 0, 1) := by decide +kernel
theorem dX3_goDeeper_19 : decode cX3_goDeeper 19 = .ok (.dup, 1) := by decide +kernel
theorem dX3_goDeeper_20 : decode cX3_goDeeper 20 = .ok (.getfield 37, 3) := by decide +kernel
theorem dX3_goDeeper_23 : decode cX3_goDeeper 23 = .ok (.iconst 1, 1) := by decide +kernel
theorem dX3_goDeeper_24 : decode cX3_goDeeper 24 = .ok (.iadd, 1) := by decide +kernel
theorem dX3_goDeeper_25 : decode cX3_goDeeper 25 = .ok (.putfield 37, 3) := by decide +kernel
theorem dX3_goDeeper_28 : decode cX3_goDeeper 28 = .ok (.aload_n 0, 1) := by decide +kernel
theorem dX3_goDeeper_29 : decode cX3_goDeeper 29 = .ok (.dup, 1) := by decide +kernel
theorem dX3_goDeeper_30 : decode cX3_goDeeper 30 = .ok (.getfield 40, 3) := by decide +kernel
theorem dX3_goDeeper_33 : decode cX3_goDeeper 33 = .ok (.iload_n 1, 1) := by decide +kernel
theorem dX3_goDeeper_34 : decode cX3_goDeeper 34 = .ok (.bipush 15, 2) := by decide +kernel
theorem dX3_goDeeper_36 : decode cX3_goDeeper 36 = .ok (.if_icmp .ne 7, 3) := by decide +kernel
theorem dX3_goDeeper_39 : decode cX3_goDeeper 39 = .ok (.iconst 1, 1) := by decide +kernel
theorem dX3_goDeeper_40 : decode cX3_goDeeper 40 = .ok (.goto 4, 3) := by decide +kernel
theorem dX3_goDeeper_43 : decode cX3_goDeeper 43 = .ok (.iconst 0, 1) := by decide +kernel
theorem dX3_goDeeper_44 : decode cX3_goDeeper 44 = .ok (.iadd, 1) := by decide +kernel
theorem dX3_goDeeper_45 : decode cX3_goDeeper 45 = .ok (.putfield 40, 3) := by decide +kernel
theorem dX3_goDeeper_48 : decode cX3_goDeeper 48 = .ok (.aload_n 0, 1) := by decide +kernel
theorem dX3_goDeeper_49 : decode cX3_goDeeper 49 = .ok (.iload_n 1, 1) := by decide +kernel
theorem dX3_goDeeper_50 : decode cX3_goDeeper 50 = .ok (.invokevirtual 107, 3) := by decide +kernel
theorem dX3_goDeeper_53 : decode cX3_goDeeper 53 = .ok (.return_, 1) := by decide +kernel
theorem dX3_readValue_0 : decode cX3_readValue 0 = .ok (.aload_n 0, 1) := by decide +kernel
theorem dX3_readValue_1 : decode cX3_readValue 1 = .ok (.getfield 49, 3) := by decide +kernel
theorem dX3_readValue_4 : decode cX3_readValue 4 = .ok (.getfield 97, 3) := by decide +kernel
theorem dX3_readValue_7 : decode cX3_readValue 7 = .ok (.bipush (-2), 2) := by decide +kernel
theorem dX3_readValue_9 : decode cX3_readValue 9 = .ok (.if_icmp .ne 13, 3) := by decide +kernel
theorem dX3_readValue_12 : decode cX3_readValue 12 = .ok (.aload_n 0, 1) := by decide +kernel
theorem dX3_readValue_13 : decode cX3_readValue 13 = .ok (.getfield 49, 3) := by decide +kernel
theorem dX3_readValue_16 : decode cX3_readValue 16 = .ok (.getfield 110, 3) := by decide +kernel
theorem dX3_readValue_19 : decode cX3_readValue 19 = .ok (.goto 7, 3) := by decide +kernel
theorem dX3_readValue_22 : decode cX3_readValue 22 = .ok (.aload_n 0, 1) := by decide +kernel
theorem dX3_readValue_23 : decode cX3_readValue 23 = .ok (.invokevirtual 113, 3) := by decide +kernel
theorem dX3_readValue_26 : decode cX3_readValue 26 = .ok (.istore_n 1, 1) := by decide +kernel
theorem dX3_readValue_27 : decode cX3_readValue 27 = .ok (.aload_n 0, 1) := by decide +kernel
theorem dX3_readValue_28 : decode cX3_readValue 28 = .ok (.getfield 49, 3) := by decide +kernel
theorem dX3_readValue_31 : decode cX3_readValue 31 = .ok (.getfield 97, 3) := by decide +kernel
theorem dX3_readValue_34 : decode cX3_readValue 34 = .ok (.bipush (-2), 2) := by decide +kernel
theorem dX3_readValue_36 : decode cX3_readValue 36 = .ok (.if_icmp .ne 18, 3) := by decide +kernel
theorem dX3_readValue_39 : decode cX3_readValue 39 = .ok (.iload_n 1, 1) := by decide +kernel
theorem dX3_readValue_40 : decode cX3_readValue 40 = .ok (.ifCond .ge 14, 3) := by decide +kernel
