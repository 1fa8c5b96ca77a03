theorem dX3_readValue_43 : decode cX3_readValue 43 = .ok (.aload_n 0, 1) := by decide +kernel
theorem dX3_readValue_44 : decode cX3_readValue 44 = .ok (.getfield 49, 3) := by decide +kernel
theorem dX3_readValue_47 : decode cX3_readValue 47 = .ok (.iconst 1, 1) := by decide +kernel
theorem dX3_readValue_48 : decode cX3_readValue 48 = .ok (.invokevirtual 93, 3) := by decide +kernel
theorem dX3_readValue_51 : decode cX3_readValue 51 = .ok (.goto 75, 3) := by decide +kernel
theorem dX3_readValue_54 : decode cX3_readValue 54 = .ok (.iload_n 1, 1) := by decide +kernel
theorem dX3_readValue_55 : decode cX3_readValue 55 = .ok (.ifCond .ge 14, 3) := by decide +kernel
theorem dX3_readValue_58 : decode cX3_readValue 58 = .ok (.aload_n 0, 1) := by decide +kernel
theorem dX3_readValue_59 : decode cX3_readValue 59 = .ok (.getfield 49, 3) := by decide +kernel
theorem dX3_readValue_62 : decode cX3_readValue 62 = .ok (.iconst 0, 1) := by decide +kernel
theorem dX3_readValue_63 : decode cX3_readValue 63 = .ok (.invokevirtual 93, 3) := by decide +kernel
theorem dX3_readValue_66 : decode cX3_readValue 66 = .ok (.goto 60, 3) := by decide +kernel
theorem dX3_readValue_69 : decode cX3_readValue 69 = .ok (.aload_n 0, 1) := by decide +kernel
theorem dX3_readValue_70 : decode cX3_readValue 70 = .ok (.getfield 34, 3) := by decide +kernel
theorem dX3_readValue_73 : decode cX3_readValue 73 = .ok (.bipush 60, 2) := by decide +kernel
theorem dX3_readValue_75 : decode cX3_readValue 75 = .ok (.if_icmp .lt 14, 3) := by decide +kernel
theorem dX3_readValue_78 : decode cX3_readValue 78 = .ok (.aload_n 0, 1) := by decide +kernel
theorem dX3_readValue_79 : decode cX3_readValue 79 = .ok (.getfield 49, 3) := by decide +kernel
theorem dX3_readValue_82 : decode cX3_readValue 82 = .ok (.iconst 3, 1) := by decide +kernel
theorem dX3_readValue_83 : decode cX3_readValue 83 = .ok (.invokevirtual 93, 3) := by decide +kernel
theorem dX3_readValue_86 : decode cX3_readValue 86 = .ok (.goto 40, 3) := by decide +kernel
theorem dX3_readValue_89 : decode cX3_readValue 89 = .ok (.aload_n 0, 1) := by decide +kernel
theorem dX3_readValue_90 : decode cX3_readValue 90 = .ok (.dup, 1) := by decide +kernel
theorem dX3_readValue_91 : decode cX3_readValue 91 = .ok (.getfield 34, 3) := by decide +kernel
theorem dX3_readValue_94 : decode cX3_readValue 94 = .ok (.iconst 1, 1) := by decide +kernel
theorem dX3_readValue_95 : decode cX3_readValue 95 = .ok (.iadd, 1) := by decide +kernel
theorem dX3_readValue_96 : decode cX3_readValue 96 = .ok (.putfield 34, 3) := by decide +kernel
theorem dX3_readValue_99 : decode cX3_readValue 99 = .ok (.aload_n 0, 1) := by decide +kernel
theorem dX3_readValue_100 : decode cX3_readValue 100 = .ok (.aload_n 0, 1) := by decide +kernel
theorem dX3_readValue_101 : decode cX3_readValue 101 = .ok (.getfield 49, 3) := by decide +kernel
theorem dX3_readValue_104 : decode cX3_readValue 104 = .ok (.getfield 97, 3) := by decide +kernel
theorem dX3_readValue_107 : decode cX3_readValue 107 = .ok (.bipush (-2), 2) := by decide +kernel
theorem dX3_readValue_109 : decode cX3_readValue 109 = .ok (.if_icmp .ne 7, 3) := by decide +kernel
theorem dX3_readValue_112 : decode cX3_readValue 112 = .ok (.iconst 0, 1) := by decide +kernel
theorem dX3_readValue_113 : decode cX3_readValue 113 = .ok (.goto 4, 3) := by decide +kernel
theorem dX3_readValue_116 : decode cX3_readValue 116 = .ok (.iconst 1, 1) := by decide +kernel
theorem dX3_readValue_117 : decode cX3_readValue 117 = .ok (.iload_n 1, 1) := by decide +kernel
theorem dX3_readValue_118 : decode cX3_readValue 118 = .ok (.invokevirtual 117, 3) := by decide +kernel
theorem dX3_readValue_121 : decode cX3_readValue 121 = .ok (.aload_n 0, 1) := by decide +kernel
theorem dX3_readValue_122 : decode cX3_readValue 122 = .ok (.iconst 3, 1) := by decide +kernel
theorem dX3_readValue_123 : decode cX3_readValue 123 = .ok (.putfield 43, 3) := by decide +kernel
theorem dX3_readValue_126 : decode cX3_readValue 126 = .ok (.return_, 1) := by decide +kernel
theorem dX3_wordOfTape_0 : decode cX3_wordOfTape 0 = .ok (.iconst 0, 1) := by decide +kernel
theorem dX3_wordOfTape_1 : decode cX3_wordOfTape 1 = .ok (.istore_n 1, 1) := by decide +kernel
theorem dX3_wordOfTape_2 : decode cX3_wordOfTape 2 = .ok (.iload_n 1, 1) := by decide +kernel
theorem dX3_wordOfTape_3 : decode cX3_wordOfTape 3 = .ok (.bipush 14, 2) := by decide +kernel
theorem dX3_wordOfTape_5 : decode cX3_wordOfTape 5 = .ok (.if_icmp .ge 25, 3) := by decide +kernel
theorem dX3_wordOfTape_8 : decode cX3_wordOfTape 8 = .ok (.aload_n 0, 1) := by decide +kernel
theorem dX3_wordOfTape_9 : decode cX3_wordOfTape 9 = .ok (.getfield 49, 3) := by decide +kernel
theorem dX3_wordOfTape_12 : decode cX3_wordOfTape 12 = .ok (.iload_n 1, 1) := by decide +kernel
theorem dX3_wordOfTape_13 : decode cX3_wordOfTape 13 = .ok (.invokestatic 121, 3) := by decide +kernel
theorem dX3_wordOfTape_16 : decode cX3_wordOfTape 16 = .ok (.invokevirtual 89, 3) := by decide +kernel
theorem dX3_wordOfTape_19 : decode cX3_wordOfTape 19 = .ok (.ifCond .eq 5, 3) := by decide +kernel
theorem dX3_wordOfTape_22 : decode cX3_wordOfTape 22 = .ok (.iload_n 1, 1) := by decide +kernel
theorem dX3_wordOfTape_23 : decode cX3_wordOfTape 23 = .ok (.ireturn, 1) := by decide +kernel
theorem dX3_wordOfTape_24 : decode cX3_wordOfTape 24 = .ok (.iinc 1 1, 3) := by decide +kernel
theorem dX3_wordOfTape_27 : decode cX3_wordOfTape 27 = .ok (.goto (-25), 3) := by decide +kernel
theorem dX3_wordOfTape_30 : decode cX3_wordOfTape 30 = .ok (.iconst (-1), 1) := by decide +kernel
theorem dX3_wordOfTape_31 : decode cX3_wordOfTape 31 = .ok (.ireturn, 1) := by decide +kernel
theorem dX3_readSign_0 : decode cX3_readSign 0 = .ok (.aload_n 0, 1) := by decide +kernel
theorem dX3_readSign_1 : decode cX3_readSign 1 = .ok (.getfield 49, 3) := by decide +kernel
theorem dX3_readSign_4 : decode cX3_readSign 4 = .ok (.getfield 97, 3) := by decide +kernel
theorem dX3_readSign_7 : decode cX3_readSign 7 = .ok (.invokestatic 125, 3) := by decide +kernel
theorem dX3_readSign_10 : decode cX3_readSign 10 = .ok (.istore_n 1, 1) := by decide +kernel
theorem dX3_readSign_11 : decode cX3_readSign 11 = .ok (.iload_n 1, 1) := by decide +kernel
theorem dX3_readSign_12 : decode cX3_readSign 12 = .ok (.invokestatic 129, 3) := by decide +kernel
theorem dX3_readSign_15 : decode cX3_readSign 15 = .ok (.ifCond .eq 20, 3) := by decide +kernel
theorem dX3_readSign_18 : decode cX3_readSign 18 = .ok (.aload_n 0, 1) := by decide +kernel
theorem dX3_readSign_19 : decode cX3_readSign 19 = .ok (.getfield 46, 3) := by decide +kernel
theorem dX3_readSign_22 : decode cX3_readSign 22 = .ok (.iconst 3, 1) := by decide +kernel
theorem dX3_readSign_23 : decode cX3_readSign 23 = .ok (.if_icmp .eq 12, 3) := by decide +kernel
theorem dX3_readSign_26 : decode cX3_readSign 26 = .ok (.aload_n 0, 1) := by decide +kernel
theorem dX3_readSign_27 : decode cX3_readSign 27 = .ok (.iload_n 1, 1) := by decide +kernel
theorem dX3_readSign_28 : decode cX3_readSign 28 = .ok (.iconst 2, 1) := by decide +kernel
theorem dX3_readSign_29 : decode cX3_readSign 29 = .ok (.invokevirtual 133, 3) := by decide +kernel
theorem dX3_readSign_32 : decode cX3_readSign 32 = .ok (.goto 77, 3) := by decide +kernel
theorem dX3_readSign_35 : decode cX3_readSign 35 = .ok (.iload_n 1, 1) := by decide +kernel
theorem dX3_readSign_36 : decode cX3_readSign 36 = .ok (.invokestatic 136, 3) := by decide +kernel
theorem dX3_readSign_39 : decode cX3_readSign 39 = .ok (.ifCond .eq 19, 3) := by decide +kernel
theorem dX3_readSign_42 : decode cX3_readSign 42 = .ok (.aload_n 0, 1) := by decide +kernel
theorem dX3_readSign_43 : decode cX3_readSign 43 = .ok (.getfield 46, 3) := by decide +kernel
theorem dX3_readSign_46 : decode cX3_readSign 46 = .ok (.iconst 1, 1) := by decide +kernel
theorem dX3_readSign_47 : decode cX3_readSign 47 = .ok (.if_icmp .ne 11, 3) := by decide +kernel
theorem dX3_readSign_50 : decode cX3_readSign 50 = .ok (.aload_n 0, 1) := by decide +kernel
theorem dX3_readSign_51 : decode cX3_readSign 51 = .ok (.iload_n 1, 1) := by decide +kernel
theorem dX3_readSign_52 : decode cX3_readSign 52 = .ok (.invokevirtual 139, 3) := by decide +kernel
theorem dX3_readSign_55 : decode cX3_readSign 55 = .ok (.goto 54, 3) := by decide +kernel
theorem dX3_readSign_58 : decode cX3_readSign 58 = .ok (.aload_n 0, 1) := by decide +kernel
theorem dX3_readSign_59 : decode cX3_readSign 59 = .ok (.getfield 46, 3) := by decide +kernel
theorem dX3_readSign_62 : decode cX3_readSign 62 = .ok (.iconst 1, 1) := by decide +kernel
theorem dX3_readSign_63 : decode cX3_readSign 63 = .ok (.if_icmp .ne 14, 3) := by decide +kernel
theorem dX3_readSign_66 : decode cX3_readSign 66 = .ok (.aload_n 0, 1) := by decide +kernel
theorem dX3_readSign_67 : decode cX3_readSign 67 = .ok (.getfield 49, 3) := by decide +kernel
theorem dX3_readSign_70 : decode cX3_readSign 70 = .ok (.iconst 0, 1) := by decide +kernel
theorem dX3_readSign_71 : decode cX3_readSign 71 = .ok (.invokevirtual 93, 3) := by decide +kernel
theorem dX3_readSign_74 : decode cX3_readSign 74 = .ok (.goto 35, 3) := by decide +kernel
theorem dX3_readSign_77 : decode cX3_readSign 77 = .ok (.aload_n 0, 1) := by decide +kernel
theorem dX3_readSign_78 : decode cX3_readSign 78 = .ok (.invokevirtual 142, 3) := by decide +kernel
theorem dX3_readSign_81 : decode cX3_readSign 81 = .ok (.ifCond .eq 10, 3) := by decide +kernel
theorem dX3_readSign_84 : decode cX3_readSign 84 = .ok (.aload_n 0, 1) := by decide +kernel
theorem dX3_readSign_85 : decode cX3_readSign 85 = .ok (.invokevirtual 146, 3) := by decide +kernel
theorem dX3_readSign_88 : decode cX3_readSign 88 = .ok (.goto 21, 3) := by decide +kernel
theorem dX3_readSign_91 : decode cX3_readSign 91 = .ok (.aload_n 0, 1) := by decide +kernel
theorem dX3_readSign_92 : decode cX3_readSign 92 = .ok (.getfield 46, 3) := by decide +kernel
theorem dX3_readSign_95 : decode cX3_readSign 95 = .ok (.ifCond .ne 10, 3) := by decide +kernel
theorem dX3_readSign_98 : decode cX3_readSign 98 = .ok (.aload_n 0, 1) := by decide +kernel
theorem dX3_readSign_99 : decode cX3_readSign 99 = .ok (.invokevirtual 149, 3) := by decide +kernel
theorem dX3_readSign_102 : decode cX3_readSign 102 = .ok (.goto 7, 3) := by decide +kernel
theorem dX3_readSign_105 : decode cX3_readSign 105 = .ok (.aload_n 0, 1) := by decide +kernel
theorem dX3_readSign_106 : decode cX3_readSign 106 = .ok (.invokevirtual 152, 3) := by decide +kernel
theorem dX3_readSign_109 : decode cX3_readSign 109 = .ok (.return_, 1) := by decide +kernel
theorem dX3_readSignOfFact_0 : decode cX3_readSignOfFact 0 = .ok (.aload_n 0, 1) := by decide +kernel
theorem dX3_readSignOfFact_1 : decode cX3_readSignOfFact 1 = .ok (.getfield 34, 3) := by decide +kernel
theorem dX3_readSignOfFact_4 : decode cX3_readSignOfFact 4 = .ok (.bipush 60, 2) := by decide +kernel
theorem dX3_readSignOfFact_6 : decode cX3_readSignOfFact 6 = .ok (.if_icmp .lt 12, 3) := by decide +kernel
theorem dX3_readSignOfFact_9 : decode cX3_readSignOfFact 9 = .ok (.aload_n 0, 1) := by decide +kernel
theorem dX3_readSignOfFact_10 : decode cX3_readSignOfFact 10 = .ok (.getfield 49, 3) := by decide +kernel
theorem dX3_readSignOfFact_13 : decode cX3_readSignOfFact 13 = .ok (.iconst 3, 1) := by decide +kernel
theorem dX3_readSignOfFact_14 : decode cX3_readSignOfFact 14 = .ok (.invokevirtual 93, 3) := by decide +kernel
theorem dX3_readSignOfFact_17 : decode cX3_readSignOfFact 17 = .ok (.return_, 1) := by decide +kernel
theorem dX3_readSignOfFact_18 : decode cX3_readSignOfFact 18 = .ok (.aload_n 0, 1) := by decide +kernel
theorem dX3_readSignOfFact_19 : decode cX3_readSignOfFact 19 = .ok (.dup, 1) := by decide +kernel
theorem dX3_readSignOfFact_20 : decode cX3_readSignOfFact 20 = .ok (.getfield 34, 3) := by decide +kernel
theorem dX3_readSignOfFact_23 : decode cX3_readSignOfFact 23 = .ok (.iconst 1, 1) := by decide +kernel
theorem dX3_readSignOfFact_24 : decode cX3_readSignOfFact 24 = .ok (.iadd, 1) := by decide +kernel
theorem dX3_readSignOfFact_25 : decode cX3_readSignOfFact 25 = .ok (.putfield 34, 3) := by decide +kernel
theorem dX3_readSignOfFact_28 : decode cX3_readSignOfFact 28 = .ok (.aload_n 0, 1) := by decide +kernel
theorem dX3_readSignOfFact_29 : decode cX3_readSignOfFact 29 = .ok (.iload_n 1, 1) := by decide +kernel
theorem dX3_readSignOfFact_30 : decode cX3_readSignOfFact 30 = .ok (.iconst 2, 1) := by decide +kernel
theorem dX3_readSignOfFact_31 : decode cX3_readSignOfFact 31 = .ok (.invokevirtual 133, 3) := by decide +kernel
theorem dX3_readSignOfFact_34 : decode cX3_readSignOfFact 34 = .ok (.aload_n 0, 1) := by decide +kernel
theorem dX3_readSignOfFact_35 : decode cX3_readSignOfFact 35 = .ok (.iconst 2, 1) := by decide +kernel
theorem dX3_readSignOfFact_36 : decode cX3_readSignOfFact 36 = .ok (.putfield 46, 3) := by decide +kernel
theorem dX3_readSignOfFact_39 : decode cX3_readSignOfFact 39 = .ok (.return_, 1) := by decide +kernel
theorem dX3_isEndOfClause_0 : decode cX3_isEndOfClause 0 = .ok (.aload_n 0, 1) := by decide +kernel
theorem dX3_isEndOfClause_1 : decode cX3_isEndOfClause 1 = .ok (.getfield 40, 3) := by decide +kernel
theorem dX3_isEndOfClause_4 : decode cX3_isEndOfClause 4 = .ok (.ifCond .ne 30, 3) := by decide +kernel
theorem dX3_isEndOfClause_7 : decode cX3_isEndOfClause 7 = .ok (.aload_n 0, 1) := by decide +kernel
theorem dX3_isEndOfClause_8 : decode cX3_isEndOfClause 8 = .ok (.getfield 49, 3) := by decide +kernel
theorem dX3_isEndOfClause_11 : decode cX3_isEndOfClause 11 = .ok (.getfield 97, 3) := by decide +kernel
theorem dX3_isEndOfClause_14 : decode cX3_isEndOfClause 14 = .ok (.bipush 59, 2) := by decide +kernel
theorem dX3_isEndOfClause_16 : decode cX3_isEndOfClause 16 = .ok (.if_icmp .eq 14, 3) := by decide +kernel
theorem dX3_isEndOfClause_19 : decode cX3_isEndOfClause 19 = .ok (.aload_n 0, 1) := by decide +kernel
theorem dX3_isEndOfClause_20 : decode cX3_isEndOfClause 20 = .ok (.getfield 49, 3) := by decide +kernel
theorem dX3_isEndOfClause_23 : decode cX3_isEndOfClause 23 = .ok (.getfield 97, 3) := by decide +kernel
theorem dX3_isEndOfClause_26 : decode cX3_isEndOfClause 26 = .ok (.iconst (-1), 1) := by decide +kernel
theorem dX3_isEndOfClause_27 : decode cX3_isEndOfClause 27 = .ok (.if_icmp .ne 7, 3) := by decide +kernel
theorem dX3_isEndOfClause_30 : decode cX3_isEndOfClause 30 = .ok (.iconst 1, 1) := by decide +kernel
theorem dX3_isEndOfClause_31 : decode cX3_isEndOfClause 31 = .ok (.goto 4, 3) := by decide +kernel
theorem dX3_isEndOfClause_34 : decode cX3_isEndOfClause 34 = .ok (.iconst 0, 1) := by decide +kernel
theorem dX3_isEndOfClause_35 : decode cX3_isEndOfClause 35 = .ok (.ireturn, 1) := by decide +kernel
theorem dX3_endClause_0 : decode cX3_endClause 0 = .ok (.aload_n 0, 1) := by decide +kernel
theorem dX3_endClause_1 : decode cX3_endClause 1 = .ok (.getfield 46, 3) := by decide +kernel
theorem dX3_endClause_4 : decode cX3_endClause 4 = .ok (.ifCond .eq 7, 3) := by decide +kernel
theorem dX3_endClause_7 : decode cX3_endClause 7 = .ok (.iconst 1, 1) := by decide +kernel
theorem dX3_endClause_8 : decode cX3_endClause 8 = .ok (.goto 4, 3) := by decide +kernel
theorem dX3_endClause_11 : decode cX3_endClause 11 = .ok (.iconst 0, 1) := by decide +kernel
theorem dX3_endClause_12 : decode cX3_endClause 12 = .ok (.istore_n 1, 1) := by decide +kernel
theorem dX3_endClause_13 : decode cX3_endClause 13 = .ok (.aload_n 0, 1) := by decide +kernel
theorem dX3_endClause_14 : decode cX3_endClause 14 = .ok (.iconst 0, 1) := by decide +kernel
theorem dX3_endClause_15 : decode cX3_endClause 15 = .ok (.invokevirtual 155, 3) := by decide +kernel
theorem dX3_endClause_18 : decode cX3_endClause 18 = .ok (.iload_n 1, 1) := by decide +kernel
theorem dX3_endClause_19 : decode cX3_endClause 19 = .ok (.ifCond .ne 16, 3) := by decide +kernel
theorem dX3_endClause_22 : decode cX3_endClause 22 = .ok (.aload_n 0, 1) := by decide +kernel
theorem dX3_endClause_23 : decode cX3_endClause 23 = .ok (.getfield 22, 3) := by decide +kernel
theorem dX3_endClause_26 : decode cX3_endClause 26 = .ok (.aload_n 0, 1) := by decide +kernel
theorem dX3_endClause_27 : decode cX3_endClause 27 = .ok (.getfield 25, 3) := by decide +kernel
theorem dX3_endClause_30 : decode cX3_endClause 30 = .ok (.aload_n 0, 1) := by decide +kernel
theorem dX3_endClause_31 : decode cX3_endClause 31 = .ok (.getfield 15, 3) := by decide +kernel
theorem dX3_endClause_34 : decode cX3_endClause 34 = .ok (.iastore, 1) := by decide +kernel
theorem dX3_endClause_35 : decode cX3_endClause 35 = .ok (.aload_n 0, 1) := by decide +kernel
theorem dX3_endClause_36 : decode cX3_endClause 36 = .ok (.dup, 1) := by decide +kernel
theorem dX3_endClause_37 : decode cX3_endClause 37 = .ok (.getfield 25, 3) := by decide +kernel
theorem dX3_endClause_40 : decode cX3_endClause 40 = .ok (.iconst 1, 1) := by decide +kernel
theorem dX3_endClause_41 : decode cX3_endClause 41 = .ok (.iadd, 1) := by decide +kernel
theorem dX3_endClause_42 : decode cX3_endClause 42 = .ok (.putfield 25, 3) := by decide +kernel
theorem dX3_endClause_45 : decode cX3_endClause 45 = .ok (.aload_n 0, 1) := by decide +kernel
theorem dX3_endClause_46 : decode cX3_endClause 46 = .ok (.getfield 19, 3) := by decide +kernel
theorem dX3_endClause_49 : decode cX3_endClause 49 = .ok (.aload_n 0, 1) := by decide +kernel
theorem dX3_endClause_50 : decode cX3_endClause 50 = .ok (.getfield 25, 3) := by decide +kernel
theorem dX3_endClause_53 : decode cX3_endClause 53 = .ok (.aload_n 0, 1) := by decide +kernel
theorem dX3_endClause_54 : decode cX3_endClause 54 = .ok (.getfield 15, 3) := by decide +kernel
theorem dX3_endClause_57 : decode cX3_endClause 57 = .ok (.iastore, 1) := by decide +kernel
theorem dX3_endClause_58 : decode cX3_endClause 58 = .ok (.aload_n 0, 1) := by decide +kernel
theorem dX3_endClause_59 : decode cX3_endClause 59 = .ok (.aload_n 0, 1) := by decide +kernel
theorem dX3_endClause_60 : decode cX3_endClause 60 = .ok (.getfield 49, 3) := by decide +kernel
theorem dX3_endClause_63 : decode cX3_endClause 63 = .ok (.getfield 97, 3) := by decide +kernel
theorem dX3_endClause_66 : decode cX3_endClause 66 = .ok (.bipush 59, 2) := by decide +kernel
theorem dX3_endClause_68 : decode cX3_endClause 68 = .ok (.if_icmp .ne 7, 3) := by decide +kernel
theorem dX3_endClause_71 : decode cX3_endClause 71 = .ok (.iconst 0, 1) := by decide +kernel
theorem dX3_endClause_72 : decode cX3_endClause 72 = .ok (.goto 4, 3) := by decide +kernel
theorem dX3_endClause_75 : decode cX3_endClause 75 = .ok (.iconst 4, 1) := by decide +kernel
theorem dX3_endClause_76 : decode cX3_endClause 76 = .ok (.putfield 43, 3) := by decide +kernel
theorem dX3_endClause_79 : decode cX3_endClause 79 = .ok (.return_, 1) := by decide +kernel
theorem dX3_readIf_0 : decode cX3_readIf 0 = .ok (.aload_n 0, 1) := by decide +kernel
theorem dX3_readIf_1 : decode cX3_readIf 1 = .ok (.getfield 49, 3) := by decide +kernel
theorem dX3_readIf_4 : decode cX3_readIf 4 = .ok (.ldc 158, 2) := by decide +kernel
theorem dX3_readIf_6 : decode cX3_readIf 6 = .ok (.invokevirtual 89, 3) := by decide +kernel
theorem dX3_readIf_9 : decode cX3_readIf 9 = .ok (.ifCond .ne 12, 3) := by decide +kernel
theorem dX3_readIf_12 : decode cX3_readIf 12 = .ok (.aload_n 0, 1) := by decide +kernel
theorem dX3_readIf_13 : decode cX3_readIf 13 = .ok (.getfield 49, 3) := by decide +kernel
theorem dX3_readIf_16 : decode cX3_readIf 16 = .ok (.iconst 0, 1) := by decide +kernel
theorem dX3_readIf_17 : decode cX3_readIf 17 = .ok (.invokevirtual 93, 3) := by decide +kernel
theorem dX3_readIf_20 : decode cX3_readIf 20 = .ok (.return_, 1) := by decide +kernel
theorem dX3_readIf_21 : decode cX3_readIf 21 = .ok (.aload_n 0, 1) := by decide +kernel
theorem dX3_readIf_22 : decode cX3_readIf 22 = .ok (.iconst 0, 1) := by decide +kernel
theorem dX3_readIf_23 : decode cX3_readIf 23 = .ok (.invokevirtual 155, 3) := by decide +kernel
theorem dX3_readIf_26 : decode cX3_readIf 26 = .ok (.aload_n 0, 1) := by decide +kernel
theorem dX3_readIf_27 : decode cX3_readIf 27 = .ok (.getfield 22, 3) := by decide +kernel
theorem dX3_readIf_30 : decode cX3_readIf 30 = .ok (.aload_n 0, 1) := by decide +kernel
theorem dX3_readIf_31 : decode cX3_readIf 31 = .ok (.getfield 25, 3) := by decide +kernel
theorem dX3_readIf_34 : decode cX3_readIf 34 = .ok (.aload_n 0, 1) := by decide +kernel
theorem dX3_readIf_35 : decode cX3_readIf 35 = .ok (.getfield 15, 3) := by decide +kernel
theorem dX3_readIf_38 : decode cX3_readIf 38 = .ok (.iastore, 1) := by decide +kernel
theorem dX3_readIf_39 : decode cX3_readIf 39 = .ok (.aload_n 0, 1) := by decide +kernel
theorem dX3_readIf_40 : decode cX3_readIf 40 = .ok (.iconst 1, 1) := by decide +kernel
theorem dX3_readIf_41 : decode cX3_readIf 41 = .ok (.putfield 46, 3) := by decide +kernel
theorem dX3_readIf_44 : decode cX3_readIf 44 = .ok (.aload_n 0, 1) := by decide +kernel
theorem dX3_readIf_45 : decode cX3_readIf 45 = .ok (.iconst 1, 1) := by decide +kernel
theorem dX3_readIf_46 : decode cX3_readIf 46 = .ok (.putfield 43, 3) := by decide +kernel
theorem dX3_readIf_49 : decode cX3_readIf 49 = .ok (.return_, 1) := by decide +kernel
theorem dX3_readBehindFact_0 : decode cX3_readBehindFact 0 = .ok (.aload_n 0, 1) := by decide +kernel
theorem dX3_readBehindFact_1 : decode cX3_readBehindFact 1 = .ok (.getfield 49, 3) := by decide +kernel
theorem dX3_readBehindFact_4 : decode cX3_readBehindFact 4 = .ok (.ldc 160, 2) := by decide +kernel
theorem dX3_readBehindFact_6 : decode cX3_readBehindFact 6 = .ok (.invokevirtual 89, 3) := by decide +kernel
theorem dX3_readBehindFact_9 : decode cX3_readBehindFact 9 = .ok (.ifCond .eq 18, 3) := by decide +kernel
theorem dX3_readBehindFact_12 : decode cX3_readBehindFact 12 = .ok (.aload_n 0, 1) := by decide +kernel
theorem dX3_readBehindFact_13 : decode cX3_readBehindFact 13 = .ok (.bipush 12, 2) := by decide +kernel
theorem dX3_readBehindFact_15 : decode cX3_readBehindFact 15 = .ok (.iconst 1, 1) := by decide +kernel
theorem dX3_readBehindFact_16 : decode cX3_readBehindFact 16 = .ok (.invokevirtual 133, 3) := by decide +kernel
theorem dX3_readBehindFact_19 : decode cX3_readBehindFact 19 = .ok (.aload_n 0, 1) := by decide +kernel
theorem dX3_readBehindFact_20 : decode cX3_readBehindFact 20 = .ok (.iconst 1, 1) := by decide +kernel
theorem dX3_readBehindFact_21 : decode cX3_readBehindFact 21 = .ok (.putfield 46, 3) := by decide +kernel
theorem dX3_readBehindFact_24 : decode cX3_readBehindFact 24 = .ok (.goto 110, 3) := by decide +kernel
theorem dX3_readBehindFact_27 : decode cX3_readBehindFact 27 = .ok (.aload_n 0, 1) := by decide +kernel
theorem dX3_readBehindFact_28 : decode cX3_readBehindFact 28 = .ok (.getfield 49, 3) := by decide +kernel
theorem dX3_readBehindFact_31 : decode cX3_readBehindFact 31 = .ok (.ldc 162, 2) := by decide +kernel
theorem dX3_readBehindFact_33 : decode cX3_readBehindFact 33 = .ok (.invokevirtual 89, 3) := by decide +kernel
theorem dX3_readBehindFact_36 : decode cX3_readBehindFact 36 = .ok (.ifCond .eq 18, 3) := by decide +kernel
theorem dX3_readBehindFact_39 : decode cX3_readBehindFact 39 = .ok (.aload_n 0, 1) := by decide +kernel
theorem dX3_readBehindFact_40 : decode cX3_readBehindFact 40 = .ok (.bipush 13, 2) := by decide +kernel
theorem dX3_readBehindFact_42 : decode cX3_readBehindFact 42 = .ok (.iconst 1, 1) := by decide +kernel
theorem dX3_readBehindFact_43 : decode cX3_readBehindFact 43 = .ok (.invokevirtual 133, 3) := by decide +kernel
theorem dX3_readBehindFact_46 : decode cX3_readBehindFact 46 = .ok (.aload_n 0, 1) := by decide +kernel
theorem dX3_readBehindFact_47 : decode cX3_readBehindFact 47 = .ok (.iconst 1, 1) := by decide +kernel
theorem dX3_readBehindFact_48 : decode cX3_readBehindFact 48 = .ok (.putfield 46, 3) := by decide +kernel
theorem dX3_readBehindFact_51 : decode cX3_readBehindFact 51 = .ok (.goto 83, 3) := by decide +kernel
theorem dX3_readBehindFact_54 : decode cX3_readBehindFact 54 = .ok (.aload_n 0, 1) := by decide +kernel
theorem dX3_readBehindFact_55 : decode cX3_readBehindFact 55 = .ok (.getfield 49, 3) := by decide +kernel
theorem dX3_readBehindFact_58 : decode cX3_readBehindFact 58 = .ok (.getfield 97, 3) := by decide +kernel
theorem dX3_readBehindFact_61 : decode cX3_readBehindFact 61 = .ok (.bipush 93, 2) := by decide +kernel
theorem dX3_readBehindFact_63 : decode cX3_readBehindFact 63 = .ok (.if_icmp .ne 63, 3) := by decide +kernel
theorem dX3_readBehindFact_66 : decode cX3_readBehindFact 66 = .ok (.aload_n 0, 1) := by decide +kernel
theorem dX3_readBehindFact_67 : decode cX3_readBehindFact 67 = .ok (.getfield 40, 3) := by decide +kernel
theorem dX3_readBehindFact_70 : decode cX3_readBehindFact 70 = .ok (.ifCond .le 56, 3) := by decide +kernel
theorem dX3_readBehindFact_73 : decode cX3_readBehindFact 73 = .ok (.aload_n 0, 1) := by decide +kernel
theorem dX3_readBehindFact_74 : decode cX3_readBehindFact 74 = .ok (.bipush 15, 2) := by decide +kernel
theorem dX3_readBehindFact_76 : decode cX3_readBehindFact 76 = .ok (.invokestatic 164, 3) := by decide +kernel
theorem dX3_readBehindFact_79 : decode cX3_readBehindFact 79 = .ok (.iconst 1, 1) := by decide +kernel
theorem dX3_readBehindFact_80 : decode cX3_readBehindFact 80 = .ok (.iadd, 1) := by decide +kernel
theorem dX3_readBehindFact_81 : decode cX3_readBehindFact 81 = .ok (.invokevirtual 155, 3) := by decide +kernel
theorem dX3_readBehindFact_84 : decode cX3_readBehindFact 84 = .ok (.aload_n 0, 1) := by decide +kernel
theorem dX3_readBehindFact_85 : decode cX3_readBehindFact 85 = .ok (.iconst 0, 1) := by decide +kernel
theorem dX3_readBehindFact_86 : decode cX3_readBehindFact 86 = .ok (.aload_n 0, 1) := by decide +kernel
theorem dX3_readBehindFact_87 : decode cX3_readBehindFact 87 = .ok (.getfield 31, 3) := by decide +kernel
theorem dX3_readBehindFact_90 : decode cX3_readBehindFact 90 = .ok (.iconst 1, 1) := by decide +kernel
theorem dX3_readBehindFact_91 : decode cX3_readBehindFact 91 = .ok (.isub, 1) := by decide +kernel
theorem dX3_readBehindFact_92 : decode cX3_readBehindFact 92 = .ok (.invokestatic 167, 3) := by decide +kernel
theorem dX3_readBehindFact_95 : decode cX3_readBehindFact 95 = .ok (.putfield 31, 3) := by decide +kernel
theorem dX3_readBehindFact_98 : decode cX3_readBehindFact 98 = .ok (.aload_n 0, 1) := by decide +kernel
theorem dX3_readBehindFact_99 : decode cX3_readBehindFact 99 = .ok (.dup, 1) := by decide +kernel
theorem dX3_readBehindFact_100 : decode cX3_readBehindFact 100 = .ok (.getfield 37, 3) := by decide +kernel
theorem dX3_readBehindFact_103 : decode cX3_readBehindFact 103 = .ok (.iconst 1, 1) := by decide +kernel
theorem dX3_readBehindFact_104 : decode cX3_readBehindFact 104 = .ok (.isub, 1) := by decide +kernel
theorem dX3_readBehindFact_105 : decode cX3_readBehindFact 105 = .ok (.putfield 37, 3) := by decide +kernel
theorem dX3_readBehindFact_108 : decode cX3_readBehindFact 108 = .ok (.aload_n 0, 1) := by decide +kernel
theorem dX3_readBehindFact_109 : decode cX3_readBehindFact 109 = .ok (.dup, 1) := by decide +kernel
theorem dX3_readBehindFact_110 : decode cX3_readBehindFact 110 = .ok (.getfield 40, 3) := by decide +kernel
theorem dX3_readBehindFact_113 : decode cX3_readBehindFact 113 = .ok (.iconst 1, 1) := by decide +kernel
theorem dX3_readBehindFact_114 : decode cX3_readBehindFact 114 = .ok (.isub, 1) := by decide +kernel
theorem dX3_readBehindFact_115 : decode cX3_readBehindFact 115 = .ok (.putfield 40, 3) := by decide +kernel
theorem dX3_readBehindFact_118 : decode cX3_readBehindFact 118 = .ok (.aload_n 0, 1) := by decide +kernel
theorem dX3_readBehindFact_119 : decode cX3_readBehindFact 119 = .ok (.iconst 3, 1) := by decide +kernel
theorem dX3_readBehindFact_120 : decode cX3_readBehindFact 120 = .ok (.putfield 46, 3) := by decide +kernel
theorem dX3_readBehindFact_123 : decode cX3_readBehindFact 123 = .ok (.goto 11, 3) := by decide +kernel
theorem dX3_readBehindFact_126 : decode cX3_readBehindFact 126 = .ok (.aload_n 0, 1) := by decide +kernel
theorem dX3_readBehindFact_127 : decode cX3_readBehindFact 127 = .ok (.getfield 49, 3) := by decide +kernel
theorem dX3_readBehindFact_130 : decode cX3_readBehindFact 130 = .ok (.iconst 0, 1) := by decide +kernel
theorem dX3_readBehindFact_131 : decode cX3_readBehindFact 131 = .ok (.invokevirtual 93, 3) := by decide +kernel
theorem dX3_readBehindFact_134 : decode cX3_readBehindFact 134 = .ok (.return_, 1) := by decide +kernel
theorem dX3_join_0 : decode cX3_join 0 = .ok (.aload_n 0, 1) := by decide +kernel
theorem dX3_join_1 : decode cX3_join 1 = .ok (.iload_n 1, 1) := by decide +kernel
theorem dX3_join_2 : decode cX3_join 2 = .ok (.invokestatic 164, 3) := by decide +kernel
theorem dX3_join_5 : decode cX3_join 5 = .ok (.invokevirtual 155, 3) := by decide +kernel
theorem dX3_join_8 : decode cX3_join 8 = .ok (.aload_n 0, 1) := by decide +kernel
theorem dX3_join_9 : decode cX3_join 9 = .ok (.iload_n 1, 1) := by decide +kernel
theorem dX3_join_10 : decode cX3_join 10 = .ok (.invokevirtual 107, 3) := by decide +kernel
theorem dX3_join_13 : decode cX3_join 13 = .ok (.aload_n 0, 1) := by decide +kernel
theorem dX3_join_14 : decode cX3_join 14 = .ok (.iload_n 2, 1) := by decide +kernel
theorem dX3_join_15 : decode cX3_join 15 = .ok (.putfield 43, 3) := by decide +kernel
theorem dX3_join_18 : decode cX3_join 18 = .ok (.return_, 1) := by decide +kernel
theorem dX3_letWait_0 : decode cX3_letWait 0 = .ok (.aload_n 0, 1) := by decide +kernel
theorem dX3_letWait_1 : decode cX3_letWait 1 = .ok (.getfield 31, 3) := by decide +kernel
theorem dX3_letWait_4 : decode cX3_letWait 4 = .ok (.bipush 64, 2) := by decide +kernel
theorem dX3_letWait_6 : decode cX3_letWait 6 = .ok (.if_icmp .ge 23, 3) := by decide +kernel
theorem dX3_letWait_9 : decode cX3_letWait 9 = .ok (.aload_n 0, 1) := by decide +kernel
theorem dX3_letWait_10 : decode cX3_letWait 10 = .ok (.getfield 28, 3) := by decide +kernel
theorem dX3_letWait_13 : decode cX3_letWait 13 = .ok (.aload_n 0, 1) := by decide +kernel
theorem dX3_letWait_14 : decode cX3_letWait 14 = .ok (.getfield 31, 3) := by decide +kernel
theorem dX3_letWait_17 : decode cX3_letWait 17 = .ok (.iload_n 1, 1) := by decide +kernel
theorem dX3_letWait_18 : decode cX3_letWait 18 = .ok (.iastore, 1) := by decide +kernel
theorem dX3_letWait_19 : decode cX3_letWait 19 = .ok (.aload_n 0, 1) := by decide +kernel
theorem dX3_letWait_20 : decode cX3_letWait 20 = .ok (.dup, 1) := by decide +kernel
theorem dX3_letWait_21 : decode cX3_letWait 21 = .ok (.getfield 31, 3) := by decide +kernel
theorem dX3_letWait_24 : decode cX3_letWait 24 = .ok (.iconst 1, 1) := by decide +kernel
theorem dX3_letWait_25 : decode cX3_letWait 25 = .ok (.iadd, 1) := by decide +kernel
theorem dX3_letWait_26 : decode cX3_letWait 26 = .ok (.putfield 31, 3) := by decide +kernel
theorem dX3_letWait_29 : decode cX3_letWait 29 = .ok (.return_, 1) := by decide +kernel
theorem dX3_writeWaiting_0 : decode cX3_writeWaiting 0 = .ok (.aload_n 0, 1) := by decide +kernel
theorem dX3_writeWaiting_1 : decode cX3_writeWaiting 1 = .ok (.getfield 31, 3) := by decide +kernel
theorem dX3_writeWaiting_4 : decode cX3_writeWaiting 4 = .ok (.ifCond .le 70, 3) := by decide +kernel
theorem dX3_writeWaiting_7 : decode cX3_writeWaiting 7 = .ok (.aload_n 0, 1) := by decide +kernel
theorem dX3_writeWaiting_8 : decode cX3_writeWaiting 8 = .ok (.getfield 28, 3) := by decide +kernel
theorem dX3_writeWaiting_11 : decode cX3_writeWaiting 11 = .ok (.aload_n 0, 1) := by decide +kernel
theorem dX3_writeWaiting_12 : decode cX3_writeWaiting 12 = .ok (.getfield 31, 3) := by decide +kernel
theorem dX3_writeWaiting_15 : decode cX3_writeWaiting 15 = .ok (.iconst 1, 1) := by decide +kernel
theorem dX3_writeWaiting_16 : decode cX3_writeWaiting 16 = .ok (.isub, 1) := by decide +kernel
theorem dX3_writeWaiting_17 : decode cX3_writeWaiting 17 = .ok (.iaload, 1) := by decide +kernel
theorem dX3_writeWaiting_18 : decode cX3_writeWaiting 18 = .ok (.invokestatic 164, 3) := by decide +kernel
theorem dX3_writeWaiting_21 : decode cX3_writeWaiting 21 = .ok (.iload_n 1, 1) := by decide +kernel
theorem dX3_writeWaiting_22 : decode cX3_writeWaiting 22 = .ok (.if_icmp .lt 52, 3) := by decide +kernel
theorem dX3_writeWaiting_25 : decode cX3_writeWaiting 25 = .ok (.aload_n 0, 1) := by decide +kernel
theorem dX3_writeWaiting_26 : decode cX3_writeWaiting 26 = .ok (.dup, 1) := by decide +kernel
theorem dX3_writeWaiting_27 : decode cX3_writeWaiting 27 = .ok (.getfield 31, 3) := by decide +kernel
theorem dX3_writeWaiting_30 : decode cX3_writeWaiting 30 = .ok (.iconst 1, 1) := by decide +kernel
theorem dX3_writeWaiting_31 : decode cX3_writeWaiting 31 = .ok (.isub, 1) := by decide +kernel
theorem dX3_writeWaiting_32 : decode cX3_writeWaiting 32 = .ok (.putfield 31, 3) := by decide +kernel
theorem dX3_writeWaiting_35 : decode cX3_writeWaiting 35 = .ok (.aload_n 0, 1) := by decide +kernel
theorem dX3_writeWaiting_36 : decode cX3_writeWaiting 36 = .ok (.getfield 28, 3) := by decide +kernel
theorem dX3_writeWaiting_39 : decode cX3_writeWaiting 39 = .ok (.aload_n 0, 1) := by decide +kernel
theorem dX3_writeWaiting_40 : decode cX3_writeWaiting 40 = .ok (.getfield 31, 3) := by decide +kernel
theorem dX3_writeWaiting_43 : decode cX3_writeWaiting 43 = .ok (.iaload, 1) := by decide +kernel
theorem dX3_writeWaiting_44 : decode cX3_writeWaiting 44 = .ok (.istore_n 2, 1) := by decide +kernel
theorem dX3_writeWaiting_45 : decode cX3_writeWaiting 45 = .ok (.aload_n 0, 1) := by decide +kernel
theorem dX3_writeWaiting_46 : decode cX3_writeWaiting 46 = .ok (.dup, 1) := by decide +kernel
theorem dX3_writeWaiting_47 : decode cX3_writeWaiting 47 = .ok (.getfield 37, 3) := by decide +kernel
theorem dX3_writeWaiting_50 : decode cX3_writeWaiting 50 = .ok (.iload_n 2, 1) := by decide +kernel
theorem dX3_writeWaiting_51 : decode cX3_writeWaiting 51 = .ok (.bipush 14, 2) := by decide +kernel
theorem dX3_writeWaiting_53 : decode cX3_writeWaiting 53 = .ok (.if_icmp .ne 7, 3) := by decide +kernel
theorem dX3_writeWaiting_56 : decode cX3_writeWaiting 56 = .ok (.iconst 1, 1) := by decide +kernel
theorem dX3_writeWaiting_57 : decode cX3_writeWaiting 57 = .ok (.goto 4, 3) := by decide +kernel
theorem dX3_writeWaiting_60 : decode cX3_writeWaiting 60 = .ok (.iconst 0, 1) := by decide +kernel
theorem dX3_writeWaiting_61 : decode cX3_writeWaiting 61 = .ok (.isub, 1) := by decide +kernel
theorem dX3_writeWaiting_62 : decode cX3_writeWaiting 62 = .ok (.putfield 37, 3) := by decide +kernel
theorem dX3_writeWaiting_65 : decode cX3_writeWaiting 65 = .ok (.aload_n 0, 1) := by decide +kernel
theorem dX3_writeWaiting_66 : decode cX3_writeWaiting 66 = .ok (.iload_n 2, 1) := by decide +kernel
theorem dX3_writeWaiting_67 : decode cX3_writeWaiting 67 = .ok (.iconst 0, 1) := by decide +kernel
theorem dX3_writeWaiting_68 : decode cX3_writeWaiting 68 = .ok (.invokevirtual 117, 3) := by decide +kernel
theorem dX3_writeWaiting_71 : decode cX3_writeWaiting 71 = .ok (.goto (-71), 3) := by decide +kernel
theorem dX3_writeWaiting_74 : decode cX3_writeWaiting 74 = .ok (.return_, 1) := by decide +kernel
theorem dX3_write_0 : decode cX3_write 0 = .ok (.aload_n 0, 1) := by decide +kernel
theorem dX3_write_1 : decode cX3_write 1 = .ok (.getfield 15, 3) := by decide +kernel
theorem dX3_write_4 : decode cX3_write 4 = .ok (.aload_n 0, 1) := by decide +kernel
theorem dX3_write_5 : decode cX3_write 5 = .ok (.getfield 9, 3) := by decide +kernel
theorem dX3_write_8 : decode cX3_write 8 = .ok (.arraylength, 1) := by decide +kernel
theorem dX3_write_9 : decode cX3_write 9 = .ok (.if_icmp .ge 28, 3) := by decide +kernel
theorem dX3_write_12 : decode cX3_write 12 = .ok (.aload_n 0, 1) := by decide +kernel
theorem dX3_write_13 : decode cX3_write 13 = .ok (.getfield 9, 3) := by decide +kernel
theorem dX3_write_16 : decode cX3_write 16 = .ok (.aload_n 0, 1) := by decide +kernel
theorem dX3_write_17 : decode cX3_write 17 = .ok (.getfield 15, 3) := by decide +kernel
theorem dX3_write_20 : decode cX3_write 20 = .ok (.iload_n 1, 1) := by decide +kernel
theorem dX3_write_21 : decode cX3_write 21 = .ok (.bipush 32, 2) := by decide +kernel
theorem dX3_write_23 : decode cX3_write 23 = .ok (.iload_n 2, 1) := by decide +kernel
theorem dX3_write_24 : decode cX3_write 24 = .ok (.imul, 1) := by decide +kernel
theorem dX3_write_25 : decode cX3_write 25 = .ok (.iadd, 1) := by decide +kernel
theorem dX3_write_26 : decode cX3_write 26 = .ok (.iastore, 1) := by decide +kernel
theorem dX3_write_27 : decode cX3_write 27 = .ok (.aload_n 0, 1) := by decide +kernel
theorem dX3_write_28 : decode cX3_write 28 = .ok (.dup, 1) := by decide +kernel
theorem dX3_write_29 : decode cX3_write 29 = .ok (.getfield 15, 3) := by decide +kernel
theorem dX3_write_32 : decode cX3_write 32 = .ok (.iconst 1, 1) := by decide +kernel
theorem dX3_write_33 : decode cX3_write 33 = .ok (.iadd, 1) := by decide +kernel
theorem dX3_write_34 : decode cX3_write 34 = .ok (.putfield 15, 3) := by decide +kernel
theorem dX3_write_37 : decode cX3_write 37 = .ok (.return_, 1) := by decide +kernel
theorem dX4_tightnessOf_0 : decode cX4_tightnessOf 0 = .ok (.iload_n 0, 1) := by decide +kernel
theorem dX4_tightnessOf_1 : decode cX4_tightnessOf 1 = .ok (.ifCond .lt 19, 3) := by decide +kernel
theorem dX4_tightnessOf_4 : decode cX4_tightnessOf 4 = .ok (.iload_n 0, 1) := by decide +kernel
theorem dX4_tightnessOf_5 : decode cX4_tightnessOf 5 = .ok (.getstatic 9, 3) := by decide +kernel
theorem dX4_tightnessOf_8 : decode cX4_tightnessOf 8 = .ok (.arraylength, 1) := by decide +kernel
theorem dX4_tightnessOf_9 : decode cX4_tightnessOf 9 = .ok (.if_icmp .ge 11, 3) := by decide +kernel
theorem dX4_tightnessOf_12 : decode cX4_tightnessOf 12 = .ok (.getstatic 9, 3) := by decide +kernel
theorem dX4_tightnessOf_15 : decode cX4_tightnessOf 15 = .ok (.iload_n 0, 1) := by decide +kernel
theorem dX4_tightnessOf_16 : decode cX4_tightnessOf 16 = .ok (.iaload, 1) := by decide +kernel
theorem dX4_tightnessOf_17 : decode cX4_tightnessOf 17 = .ok (.goto 4, 3) := by decide +kernel
theorem dX4_tightnessOf_20 : decode cX4_tightnessOf 20 = .ok (.iconst 0, 1) := by decide +kernel
theorem dX4_tightnessOf_21 : decode cX4_tightnessOf 21 = .ok (.ireturn, 1) := by decide +kernel
theorem dX4_isOfSum_0 : decode cX4_isOfSum 0 = .ok (.iload_n 0, 1) := by decide +kernel
theorem dX4_isOfSum_1 : decode cX4_isOfSum 1 = .ok (.iconst 2, 1) := by decide +kernel
theorem dX4_isOfSum_2 : decode cX4_isOfSum 2 = .ok (.if_icmp .lt 13, 3) := by decide +kernel
theorem dX4_isOfSum_5 : decode cX4_isOfSum 5 = .ok (.iload_n 0, 1) := by decide +kernel
theorem dX4_isOfSum_6 : decode cX4_isOfSum 6 = .ok (.bipush 6, 2) := by decide +kernel
theorem dX4_isOfSum_8 : decode cX4_isOfSum 8 = .ok (.if_icmp .gt 7, 3) := by decide +kernel
theorem dX4_isOfSum_11 : decode cX4_isOfSum 11 = .ok (.iconst 1, 1) := by decide +kernel
theorem dX4_isOfSum_12 : decode cX4_isOfSum 12 = .ok (.goto 4, 3) := by decide +kernel
theorem dX4_isOfSum_15 : decode cX4_isOfSum 15 = .ok (.iconst 0, 1) := by decide +kernel
theorem dX4_isOfSum_16 : decode cX4_isOfSum 16 = .ok (.ireturn, 1) := by decide +kernel
theorem dX4_isOfFact_0 : decode cX4_isOfFact 0 = .ok (.iload_n 0, 1) := by decide +kernel
theorem dX4_isOfFact_1 : decode cX4_isOfFact 1 = .ok (.bipush 7, 2) := by decide +kernel
theorem dX4_isOfFact_3 : decode cX4_isOfFact 3 = .ok (.if_icmp .lt 13, 3) := by decide +kernel
theorem dX4_isOfFact_6 : decode cX4_isOfFact 6 = .ok (.iload_n 0, 1) := by decide +kernel
theorem dX4_isOfFact_7 : decode cX4_isOfFact 7 = .ok (.bipush 11, 2) := by decide +kernel
theorem dX4_isOfFact_9 : decode cX4_isOfFact 9 = .ok (.if_icmp .gt 7, 3) := by decide +kernel
theorem dX4_isOfFact_12 : decode cX4_isOfFact 12 = .ok (.iconst 1, 1) := by decide +kernel
theorem dX4_isOfFact_13 : decode cX4_isOfFact 13 = .ok (.goto 4, 3) := by decide +kernel
theorem dX4_isOfFact_16 : decode cX4_isOfFact 16 = .ok (.iconst 0, 1) := by decide +kernel
theorem dX4_isOfFact_17 : decode cX4_isOfFact 17 = .ok (.ireturn, 1) := by decide +kernel
theorem dX4_ofToken_0 : decode cX4_ofToken 0 = .ok (.iload_n 0, 1) := by decide +kernel
theorem dX4_ofToken_1 : decode cX4_ofToken 1 = .ok (.lookupswitch 117 #[(37, 99), (42, 95), (43, 91), (45, 93), (47, 97), (60, 102), (61, 108), (62, 114), (316, 105), (318, 111)], 91) := by decide +kernel
theorem dX4_ofToken_92 : decode cX4_ofToken 92 = .ok (.iconst 2, 1) := by decide +kernel
theorem dX4_ofToken_93 : decode cX4_ofToken 93 = .ok (.ireturn, 1) := by decide +kernel
theorem dX4_ofToken_94 : decode cX4_ofToken 94 = .ok (.iconst 3, 1) := by decide +kernel
theorem dX4_ofToken_95 : decode cX4_ofToken 95 = .ok (.ireturn, 1) := by decide +kernel
theorem dX4_ofToken_96 : decode cX4_ofToken 96 = .ok (.iconst 4, 1) := by decide +kernel
theorem dX4_ofToken_97 : decode cX4_ofToken 97 = .ok (.ireturn, 1) := by decide +kernel
theorem dX4_ofToken_98 : decode cX4_ofToken 98 = .ok (.iconst 5, 1) := by decide +kernel
theorem dX4_ofToken_99 : decode cX4_ofToken 99 = .ok (.ireturn, 1) := by decide +kernel
theorem dX4_ofToken_100 : decode cX4_ofToken 100 = .ok (.bipush 6, 2) := by decide +kernel
theorem dX4_ofToken_102 : decode cX4_ofToken 102 = .ok (.ireturn, 1) := by decide +kernel
theorem dX4_ofToken_103 : decode cX4_ofToken 103 = .ok (.bipush 7, 2) := by decide +kernel
theorem dX4_ofToken_105 : decode cX4_ofToken 105 = .ok (.ireturn, 1) := by decide +kernel
theorem dX4_ofToken_106 : decode cX4_ofToken 106 = .ok (.bipush 8, 2) := by decide +kernel
theorem dX4_ofToken_108 : decode cX4_ofToken 108 = .ok (.ireturn, 1) := by decide +kernel
theorem dX4_ofToken_109 : decode cX4_ofToken 109 = .ok (.bipush 9, 2) := by decide +kernel
theorem dX4_ofToken_111 : decode cX4_ofToken 111 = .ok (.ireturn, 1) := by decide +kernel
theorem dX4_ofToken_112 : decode cX4_ofToken 112 = .ok (.bipush 10, 2) := by decide +kernel
theorem dX4_ofToken_114 : decode cX4_ofToken 114 = .ok (.ireturn, 1) := by decide +kernel
theorem dX4_ofToken_115 : decode cX4_ofToken 115 = .ok (.bipush 11, 2) := by decide +kernel
theorem dX4_ofToken_117 : decode cX4_ofToken 117 = .ok (.ireturn, 1) := by decide +kernel
theorem dX4_ofToken_118 : decode cX4_ofToken 118 = .ok (.iconst (-1), 1) := by decide +kernel
theorem dX4_ofToken_119 : decode cX4_ofToken 119 = .ok (.ireturn, 1) := by decide +kernel
theorem dX4_nameOf_0 : decode cX4_nameOf 0 = .ok (.iload_n 0, 1) := by decide +kernel
theorem dX4_nameOf_1 : decode cX4_nameOf 1 = .ok (.tableswitch 106 0 12 #[67, 70, 73, 76, 79, 82, 85, 88, 91, 94, 97, 100, 103], 67) := by decide +kernel
theorem dX4_nameOf_68 : decode cX4_nameOf 68 = .ok (.ldc 15, 2) := by decide +kernel
theorem dX4_nameOf_70 : decode cX4_nameOf 70 = .ok (.areturn, 1) := by decide +kernel
theorem dX4_nameOf_71 : decode cX4_nameOf 71 = .ok (.ldc 17, 2) := by decide +kernel
theorem dX4_nameOf_73 : decode cX4_nameOf 73 = .ok (.areturn, 1) := by decide +kernel
theorem dX4_nameOf_74 : decode cX4_nameOf 74 = .ok (.ldc 19, 2) := by decide +kernel
theorem dX4_nameOf_76 : decode cX4_nameOf 76 = .ok (.areturn, 1) := by decide +kernel
theorem dX4_nameOf_77 : decode cX4_nameOf 77 = .ok (.ldc 21, 2) := by decide +kernel
theorem dX4_nameOf_79 : decode cX4_nameOf 79 = .ok (.areturn, 1) := by decide +kernel
theorem dX4_nameOf_80 : decode cX4_nameOf 80 = .ok (.ldc 23, 2) := by decide +kernel
theorem dX4_nameOf_82 : decode cX4_nameOf 82 = .ok (.areturn, 1) := by decide +kernel
theorem dX4_nameOf_83 : decode cX4_nameOf 83 = .ok (.ldc 25, 2) := by decide +kernel
theorem dX4_nameOf_85 : decode cX4_nameOf 85 = .ok (.areturn, 1) := by decide +kernel
theorem dX4_nameOf_86 : decode cX4_nameOf 86 = .ok (.ldc 27, 2) := by decide +kernel
theorem dX4_nameOf_88 : decode cX4_nameOf 88 = .ok (.areturn, 1) := by decide +kernel
theorem dX4_nameOf_89 : decode cX4_nameOf 89 = .ok (.ldc 29, 2) := by decide +kernel
theorem dX4_nameOf_91 : decode cX4_nameOf 91 = .ok (.areturn, 1) := by decide +kernel
theorem dX4_nameOf_92 : decode cX4_nameOf 92 = .ok (.ldc 31, 2) := by decide +kernel
theorem dX4_nameOf_94 : decode cX4_nameOf 94 = .ok (.areturn, 1) := by decide +kernel
theorem dX4_nameOf_95 : decode cX4_nameOf 95 = .ok (.ldc 33, 2) := by decide +kernel
theorem dX4_nameOf_97 : decode cX4_nameOf 97 = .ok (.areturn, 1) := by decide +kernel
theorem dX4_nameOf_98 : decode cX4_nameOf 98 = .ok (.ldc 35, 2) := by decide +kernel
theorem dX4_nameOf_100 : decode cX4_nameOf 100 = .ok (.areturn, 1) := by decide +kernel
theorem dX4_nameOf_101 : decode cX4_nameOf 101 = .ok (.ldc 37, 2) := by decide +kernel
theorem dX4_nameOf_103 : decode cX4_nameOf 103 = .ok (.areturn, 1) := by decide +kernel
theorem dX4_nameOf_104 : decode cX4_nameOf 104 = .ok (.ldc 39, 2) := by decide +kernel
theorem dX4_nameOf_106 : decode cX4_nameOf 106 = .ok (.areturn, 1) := by decide +kernel
theorem dX4_nameOf_107 : decode cX4_nameOf 107 = .ok (.ldc 41, 2) := by decide +kernel
theorem dX4_nameOf_109 : decode cX4_nameOf 109 = .ok (.areturn, 1) := by decide +kernel
theorem dX5_init_0 : decode cX5_init 0 = .ok (.aload_n 0, 1) := by decide +kernel
theorem dX5_init_1 : decode cX5_init 1 = .ok (.invokespecial 5, 3) := by decide +kernel
theorem dX5_init_4 : decode cX5_init 4 = .ok (.aload_n 0, 1) := by decide +kernel
theorem dX5_init_5 : decode cX5_init 5 = .ok (.bipush 46, 2) := by decide +kernel
theorem dX5_init_7 : decode cX5_init 7 = .ok (.newarray .int, 2) := by decide +kernel
theorem dX5_init_9 : decode cX5_init 9 = .ok (.putfield 11, 3) := by decide +kernel
theorem dX5_init_12 : decode cX5_init 12 = .ok (.return_, 1) := by decide +kernel
theorem dX5_copyFrom_0 : decode cX5_copyFrom 0 = .ok (.aload_n 1, 1) := by decide +kernel
theorem dX5_copyFrom_1 : decode cX5_copyFrom 1 = .ok (.getfield 11, 3) := by decide +kernel
theorem dX5_copyFrom_4 : decode cX5_copyFrom 4 = .ok (.iconst 0, 1) := by decide +kernel
theorem dX5_copyFrom_5 : decode cX5_copyFrom 5 = .ok (.aload_n 0, 1) := by decide +kernel
theorem dX5_copyFrom_6 : decode cX5_copyFrom 6 = .ok (.getfield 11, 3) := by decide +kernel
theorem dX5_copyFrom_9 : decode cX5_copyFrom 9 = .ok (.iconst 0, 1) := by decide +kernel
theorem dX5_copyFrom_10 : decode cX5_copyFrom 10 = .ok (.bipush 46, 2) := by decide +kernel
theorem dX5_copyFrom_12 : decode cX5_copyFrom 12 = .ok (.invokestatic 15, 3) := by decide +kernel
theorem dX5_copyFrom_15 : decode cX5_copyFrom 15 = .ok (.return_, 1) := by decide +kernel
theorem dX5_begin_0 : decode cX5_begin 0 = .ok (.aload_n 0, 1) := by decide +kernel
theorem dX5_begin_1 : decode cX5_begin 1 = .ok (.getfield 11, 3) := by decide +kernel
theorem dX5_begin_4 : decode cX5_begin 4 = .ok (.iconst 0, 1) := by decide +kernel
theorem dX5_begin_5 : decode cX5_begin 5 = .ok (.invokestatic 21, 3) := by decide +kernel
theorem dX5_begin_8 : decode cX5_begin 8 = .ok (.iconst 0, 1) := by decide +kernel
theorem dX5_begin_9 : decode cX5_begin 9 = .ok (.istore_n 3, 1) := by decide +kernel
theorem dX5_begin_10 : decode cX5_begin 10 = .ok (.iload_n 3, 1) := by decide +kernel
theorem dX5_begin_11 : decode cX5_begin 11 = .ok (.aload_n 1, 1) := by decide +kernel
theorem dX5_begin_12 : decode cX5_begin 12 = .ok (.getfield 27, 3) := by decide +kernel
theorem dX5_begin_15 : decode cX5_begin 15 = .ok (.if_icmp .ge 34, 3) := by decide +kernel
theorem dX5_begin_18 : decode cX5_begin 18 = .ok (.aload_n 0, 1) := by decide +kernel
theorem dX5_begin_19 : decode cX5_begin 19 = .ok (.getfield 11, 3) := by decide +kernel
theorem dX5_begin_22 : decode cX5_begin 22 = .ok (.iconst 0, 1) := by decide +kernel
theorem dX5_begin_23 : decode cX5_begin 23 = .ok (.iload_n 3, 1) := by decide +kernel
theorem dX5_begin_24 : decode cX5_begin 24 = .ok (.iadd, 1) := by decide +kernel
theorem dX5_begin_25 : decode cX5_begin 25 = .ok (.aload_n 1, 1) := by decide +kernel
theorem dX5_begin_26 : decode cX5_begin 26 = .ok (.getfield 33, 3) := by decide +kernel
theorem dX5_begin_29 : decode cX5_begin 29 = .ok (.iload_n 3, 1) := by decide +kernel
theorem dX5_begin_30 : decode cX5_begin 30 = .ok (.iaload, 1) := by decide +kernel
theorem dX5_begin_31 : decode cX5_begin 31 = .ok (.iastore, 1) := by decide +kernel
theorem dX5_begin_32 : decode cX5_begin 32 = .ok (.aload_n 0, 1) := by decide +kernel
theorem dX5_begin_33 : decode cX5_begin 33 = .ok (.getfield 11, 3) := by decide +kernel
theorem dX5_begin_36 : decode cX5_begin 36 = .ok (.iconst 5, 1) := by decide +kernel
theorem dX5_begin_37 : decode cX5_begin 37 = .ok (.iload_n 3, 1) := by decide +kernel
theorem dX5_begin_38 : decode cX5_begin 38 = .ok (.iadd, 1) := by decide +kernel
theorem dX5_begin_39 : decode cX5_begin 39 = .ok (.aload_n 2, 1) := by decide +kernel
theorem dX5_begin_40 : decode cX5_begin 40 = .ok (.iload_n 3, 1) := by decide +kernel
theorem dX5_begin_41 : decode cX5_begin 41 = .ok (.iaload, 1) := by decide +kernel
theorem dX5_begin_42 : decode cX5_begin 42 = .ok (.iastore, 1) := by decide +kernel
theorem dX5_begin_43 : decode cX5_begin 43 = .ok (.iinc 3 1, 3) := by decide +kernel
theorem dX5_begin_46 : decode cX5_begin 46 = .ok (.goto (-36), 3) := by decide +kernel
theorem dX5_begin_49 : decode cX5_begin 49 = .ok (.iconst 0, 1) := by decide +kernel
theorem dX5_begin_50 : decode cX5_begin 50 = .ok (.istore_n 3, 1) := by decide +kernel
theorem dX5_begin_51 : decode cX5_begin 51 = .ok (.iload_n 3, 1) := by decide +kernel
theorem dX5_begin_52 : decode cX5_begin 52 = .ok (.aload_n 1, 1) := by decide +kernel
theorem dX5_begin_53 : decode cX5_begin 53 = .ok (.getfield 36, 3) := by decide +kernel
theorem dX5_begin_56 : decode cX5_begin 56 = .ok (.if_icmp .ge 24, 3) := by decide +kernel
theorem dX5_begin_59 : decode cX5_begin 59 = .ok (.aload_n 0, 1) := by decide +kernel
theorem dX5_begin_60 : decode cX5_begin 60 = .ok (.getfield 11, 3) := by decide +kernel
theorem dX5_begin_63 : decode cX5_begin 63 = .ok (.bipush 20, 2) := by decide +kernel
theorem dX5_begin_65 : decode cX5_begin 65 = .ok (.iload_n 3, 1) := by decide +kernel
theorem dX5_begin_66 : decode cX5_begin 66 = .ok (.iadd, 1) := by decide +kernel
theorem dX5_begin_67 : decode cX5_begin 67 = .ok (.aload_n 1, 1) := by decide +kernel
theorem dX5_begin_68 : decode cX5_begin 68 = .ok (.getfield 39, 3) := by decide +kernel
theorem dX5_begin_71 : decode cX5_begin 71 = .ok (.iload_n 3, 1) := by decide +kernel
theorem dX5_begin_72 : decode cX5_begin 72 = .ok (.iaload, 1) := by decide +kernel
theorem dX5_begin_73 : decode cX5_begin 73 = .ok (.iastore, 1) := by decide +kernel
theorem dX5_begin_74 : decode cX5_begin 74 = .ok (.iinc 3 1, 3) := by decide +kernel
theorem dX5_begin_77 : decode cX5_begin 77 = .ok (.goto (-26), 3) := by decide +kernel
theorem dX5_begin_80 : decode cX5_begin 80 = .ok (.aload_n 0, 1) := by decide +kernel
theorem dX5_begin_81 : decode cX5_begin 81 = .ok (.getfield 11, 3) := by decide +kernel
theorem dX5_begin_84 : decode cX5_begin 84 = .ok (.bipush 44, 2) := by decide +kernel
theorem dX5_begin_86 : decode cX5_begin 86 = .ok (.aload_n 1, 1) := by decide +kernel
theorem dX5_begin_87 : decode cX5_begin 87 = .ok (.getfield 42, 3) := by decide +kernel
theorem dX5_begin_90 : decode cX5_begin 90 = .ok (.iastore, 1) := by decide +kernel
theorem dX5_begin_91 : decode cX5_begin 91 = .ok (.return_, 1) := by decide +kernel
theorem dX5_isExempt_0 : decode cX5_isExempt 0 = .ok (.aload_n 0, 1) := by decide +kernel
theorem dX5_isExempt_1 : decode cX5_isExempt 1 = .ok (.getfield 11, 3) := by decide +kernel
theorem dX5_isExempt_4 : decode cX5_isExempt 4 = .ok (.bipush 44, 2) := by decide +kernel
theorem dX5_isExempt_6 : decode cX5_isExempt 6 = .ok (.iaload, 1) := by decide +kernel
theorem dX5_isExempt_7 : decode cX5_isExempt 7 = .ok (.iload_n 1, 1) := by decide +kernel
theorem dX5_isExempt_8 : decode cX5_isExempt 8 = .ok (.ishr, 1) := by decide +kernel
theorem dX5_isExempt_9 : decode cX5_isExempt 9 = .ok (.iconst 1, 1) := by decide +kernel
theorem dX5_isExempt_10 : decode cX5_isExempt 10 = .ok (.iand, 1) := by decide +kernel
theorem dX5_isExempt_11 : decode cX5_isExempt 11 = .ok (.iconst 1, 1) := by decide +kernel
theorem dX5_isExempt_12 : decode cX5_isExempt 12 = .ok (.if_icmp .ne 7, 3) := by decide +kernel
theorem dX5_isExempt_15 : decode cX5_isExempt 15 = .ok (.iconst 1, 1) := by decide +kernel
theorem dX5_isExempt_16 : decode cX5_isExempt 16 = .ok (.goto 4, 3) := by decide +kernel
theorem dX5_isExempt_19 : decode cX5_isExempt 19 = .ok (.iconst 0, 1) := by decide +kernel
theorem dX5_isExempt_20 : decode cX5_isExempt 20 = .ok (.ireturn, 1) := by decide +kernel
theorem dX5_sumOfPeople_0 : decode cX5_sumOfPeople 0 = .ok (.iconst 0, 1) := by decide +kernel
theorem dX5_sumOfPeople_1 : decode cX5_sumOfPeople 1 = .ok (.istore_n 2, 1) := by decide +kernel
theorem dX5_sumOfPeople_2 : decode cX5_sumOfPeople 2 = .ok (.iconst 0, 1) := by decide +kernel
theorem dX5_sumOfPeople_3 : decode cX5_sumOfPeople 3 = .ok (.istore_n 3, 1) := by decide +kernel
theorem dX5_sumOfPeople_4 : decode cX5_sumOfPeople 4 = .ok (.iload_n 3, 1) := by decide +kernel
theorem dX5_sumOfPeople_5 : decode cX5_sumOfPeople 5 = .ok (.iconst 5, 1) := by decide +kernel
theorem dX5_sumOfPeople_6 : decode cX5_sumOfPeople 6 = .ok (.if_icmp .ge 20, 3) := by decide +kernel
theorem dX5_sumOfPeople_9 : decode cX5_sumOfPeople 9 = .ok (.iload_n 2, 1) := by decide +kernel
theorem dX5_sumOfPeople_10 : decode cX5_sumOfPeople 10 = .ok (.aload_n 0, 1) := by decide +kernel
theorem dX5_sumOfPeople_11 : decode cX5_sumOfPeople 11 = .ok (.getfield 11, 3) := by decide +kernel
theorem dX5_sumOfPeople_14 : decode cX5_sumOfPeople 14 = .ok (.iload_n 1, 1) := by decide +kernel
theorem dX5_sumOfPeople_15 : decode cX5_sumOfPeople 15 = .ok (.iload_n 3, 1) := by decide +kernel
theorem dX5_sumOfPeople_16 : decode cX5_sumOfPeople 16 = .ok (.iadd, 1) := by decide +kernel
theorem dX5_sumOfPeople_17 : decode cX5_sumOfPeople 17 = .ok (.iaload, 1) := by decide +kernel
theorem dX5_sumOfPeople_18 : decode cX5_sumOfPeople 18 = .ok (.iadd, 1) := by decide +kernel
theorem dX5_sumOfPeople_19 : decode cX5_sumOfPeople 19 = .ok (.istore_n 2, 1) := by decide +kernel
theorem dX5_sumOfPeople_20 : decode cX5_sumOfPeople 20 = .ok (.iinc 3 1, 3) := by decide +kernel
theorem dX5_sumOfPeople_23 : decode cX5_sumOfPeople 23 = .ok (.goto (-19), 3) := by decide +kernel
theorem dX5_sumOfPeople_26 : decode cX5_sumOfPeople 26 = .ok (.iload_n 2, 1) := by decide +kernel
theorem dX5_sumOfPeople_27 : decode cX5_sumOfPeople 27 = .ok (.ireturn, 1) := by decide +kernel
theorem dX6_init_0 : decode cX6_init 0 = .ok (.aload_n 0, 1) := by decide +kernel
theorem dX6_init_1 : decode cX6_init 1 = .ok (.invokespecial 3, 3) := by decide +kernel
theorem dX6_init_4 : decode cX6_init 4 = .ok (.aload_n 0, 1) := by decide +kernel
theorem dX6_init_5 : decode cX6_init 5 = .ok (.sipush 400, 3) := by decide +kernel
theorem dX6_init_8 : decode cX6_init 8 = .ok (.newarray .int, 2) := by decide +kernel
theorem dX6_init_10 : decode cX6_init 10 = .ok (.putfield 9, 3) := by decide +kernel
theorem dX6_init_13 : decode cX6_init 13 = .ok (.aload_n 0, 1) := by decide +kernel
theorem dX6_init_14 : decode cX6_init 14 = .ok (.iconst 0, 1) := by decide +kernel
theorem dX6_init_15 : decode cX6_init 15 = .ok (.putfield 15, 3) := by decide +kernel
theorem dX6_init_18 : decode cX6_init 18 = .ok (.aload_n 0, 1) := by decide +kernel
theorem dX6_init_19 : decode cX6_init 19 = .ok (.iconst 0, 1) := by decide +kernel
theorem dX6_init_20 : decode cX6_init 20 = .ok (.putfield 19, 3) := by decide +kernel
theorem dX6_init_23 : decode cX6_init 23 = .ok (.aload_n 0, 1) := by decide +kernel
theorem dX6_init_24 : decode cX6_init 24 = .ok (.iconst 0, 1) := by decide +kernel
theorem dX6_init_25 : decode cX6_init 25 = .ok (.putfield 22, 3) := by decide +kernel
theorem dX6_init_28 : decode cX6_init 28 = .ok (.aload_n 0, 1) := by decide +kernel
theorem dX6_init_29 : decode cX6_init 29 = .ok (.iconst (-1), 1) := by decide +kernel
theorem dX6_init_30 : decode cX6_init 30 = .ok (.putfield 25, 3) := by decide +kernel
theorem dX6_init_33 : decode cX6_init 33 = .ok (.aload_n 0, 1) := by decide +kernel
theorem dX6_init_34 : decode cX6_init 34 = .ok (.iconst 0, 1) := by decide +kernel
theorem dX6_init_35 : decode cX6_init 35 = .ok (.putfield 28, 3) := by decide +kernel
theorem dX6_init_38 : decode cX6_init 38 = .ok (.aload_n 0, 1) := by decide +kernel
theorem dX6_init_39 : decode cX6_init 39 = .ok (.iconst 0, 1) := by decide +kernel
theorem dX6_init_40 : decode cX6_init 40 = .ok (.putfield 31, 3) := by decide +kernel
theorem dX6_init_43 : decode cX6_init 43 = .ok (.return_, 1) := by decide +kernel
theorem dX6_append_0 : decode cX6_append 0 = .ok (.bipush 24, 2) := by decide +kernel
theorem dX6_append_2 : decode cX6_append 2 = .ok (.istore_n 2, 1) := by decide +kernel
theorem dX6_append_3 : decode cX6_append 3 = .ok (.iload_n 2, 1) := by decide +kernel
theorem dX6_append_4 : decode cX6_append 4 = .ok (.ifCond .lt 45, 3) := by decide +kernel
theorem dX6_append_7 : decode cX6_append 7 = .ok (.aload_n 0, 1) := by decide +kernel
theorem dX6_append_8 : decode cX6_append 8 = .ok (.getfield 15, 3) := by decide +kernel
theorem dX6_append_11 : decode cX6_append 11 = .ok (.sipush 400, 3) := by decide +kernel
theorem dX6_append_14 : decode cX6_append 14 = .ok (.if_icmp .ge 35, 3) := by decide +kernel
theorem dX6_append_17 : decode cX6_append 17 = .ok (.aload_n 0, 1) := by decide +kernel
theorem dX6_append_18 : decode cX6_append 18 = .ok (.getfield 9, 3) := by decide +kernel
theorem dX6_append_21 : decode cX6_append 21 = .ok (.aload_n 0, 1) := by decide +kernel
theorem dX6_append_22 : decode cX6_append 22 = .ok (.getfield 15, 3) := by decide +kernel
theorem dX6_append_25 : decode cX6_append 25 = .ok (.iload_n 1, 1) := by decide +kernel
theorem dX6_append_26 : decode cX6_append 26 = .ok (.iload_n 2, 1) := by decide +kernel
theorem dX6_append_27 : decode cX6_append 27 = .ok (.iushr, 1) := by decide +kernel
theorem dX6_append_28 : decode cX6_append 28 = .ok (.sipush 255, 3) := by decide +kernel
theorem dX6_append_31 : decode cX6_append 31 = .ok (.iand, 1) := by decide +kernel
theorem dX6_append_32 : decode cX6_append 32 = .ok (.iastore, 1) := by decide +kernel
theorem dX6_append_33 : decode cX6_append 33 = .ok (.aload_n 0, 1) := by decide +kernel
theorem dX6_append_34 : decode cX6_append 34 = .ok (.dup, 1) := by decide +kernel
theorem dX6_append_35 : decode cX6_append 35 = .ok (.getfield 15, 3) := by decide +kernel
theorem dX6_append_38 : decode cX6_append 38 = .ok (.iconst 1, 1) := by decide +kernel
theorem dX6_append_39 : decode cX6_append 39 = .ok (.iadd, 1) := by decide +kernel
theorem dX6_append_40 : decode cX6_append 40 = .ok (.putfield 15, 3) := by decide +kernel
theorem dX6_append_43 : decode cX6_append 43 = .ok (.iinc 2 (-8), 3) := by decide +kernel
theorem dX6_append_46 : decode cX6_append 46 = .ok (.goto (-43), 3) := by decide +kernel
theorem dX6_append_49 : decode cX6_append 49 = .ok (.return_, 1) := by decide +kernel
theorem dX6_rewind_0 : decode cX6_rewind 0 = .ok (.aload_n 0, 1) := by decide +kernel
theorem dX6_rewind_1 : decode cX6_rewind 1 = .ok (.iconst 0, 1) := by decide +kernel
theorem dX6_rewind_2 : decode cX6_rewind 2 = .ok (.putfield 19, 3) := by decide +kernel
theorem dX6_rewind_5 : decode cX6_rewind 5 = .ok (.aload_n 0, 1) := by decide +kernel
theorem dX6_rewind_6 : decode cX6_rewind 6 = .ok (.iconst 0, 1) := by decide +kernel
theorem dX6_rewind_7 : decode cX6_rewind 7 = .ok (.putfield 22, 3) := by decide +kernel
theorem dX6_rewind_10 : decode cX6_rewind 10 = .ok (.return_, 1) := by decide +kernel
theorem dX6_blame_0 : decode cX6_blame 0 = .ok (.aload_n 0, 1) := by decide +kernel
theorem dX6_blame_1 : decode cX6_blame 1 = .ok (.getfield 22, 3) := by decide +kernel
theorem dX6_blame_4 : decode cX6_blame 4 = .ok (.ifCond .ne 18, 3) := by decide +kernel
theorem dX6_blame_7 : decode cX6_blame 7 = .ok (.aload_n 0, 1) := by decide +kernel
theorem dX6_blame_8 : decode cX6_blame 8 = .ok (.iconst 1, 1) := by decide +kernel
theorem dX6_blame_9 : decode cX6_blame 9 = .ok (.bipush 8, 2) := by decide +kernel
theorem dX6_blame_11 : decode cX6_blame 11 = .ok (.aload_n 0, 1) := by decide +kernel
theorem dX6_blame_12 : decode cX6_blame 12 = .ok (.getfield 28, 3) := by decide +kernel
theorem dX6_blame_15 : decode cX6_blame 15 = .ok (.imul, 1) := by decide +kernel
theorem dX6_blame_16 : decode cX6_blame 16 = .ok (.iadd, 1) := by decide +kernel
theorem dX6_blame_17 : decode cX6_blame 17 = .ok (.iload_n 1, 1) := by decide +kernel
theorem dX6_blame_18 : decode cX6_blame 18 = .ok (.iadd, 1) := by decide +kernel
theorem dX6_blame_19 : decode cX6_blame 19 = .ok (.putfield 22, 3) := by decide +kernel
theorem dX6_blame_22 : decode cX6_blame 22 = .ok (.return_, 1) := by decide +kernel
theorem dX6_step_0 : decode cX6_step 0 = .ok (.aload_n 0, 1) := by decide +kernel
theorem dX6_step_1 : decode cX6_step 1 = .ok (.getfield 19, 3) := by decide +kernel
theorem dX6_step_4 : decode cX6_step 4 = .ok (.aload_n 0, 1) := by decide +kernel
theorem dX6_step_5 : decode cX6_step 5 = .ok (.getfield 15, 3) := by decide +kernel
theorem dX6_step_8 : decode cX6_step 8 = .ok (.if_icmp .ge 30, 3) := by decide +kernel
theorem dX6_step_11 : decode cX6_step 11 = .ok (.aload_n 0, 1) := by decide +kernel
theorem dX6_step_12 : decode cX6_step 12 = .ok (.getfield 9, 3) := by decide +kernel
theorem dX6_step_15 : decode cX6_step 15 = .ok (.aload_n 0, 1) := by decide +kernel
theorem dX6_step_16 : decode cX6_step 16 = .ok (.getfield 19, 3) := by decide +kernel
theorem dX6_step_19 : decode cX6_step 19 = .ok (.iaload, 1) := by decide +kernel
theorem dX6_step_20 : decode cX6_step 20 = .ok (.bipush 32, 2) := by decide +kernel
theorem dX6_step_22 : decode cX6_step 22 = .ok (.if_icmp .ne 16, 3) := by decide +kernel
theorem dX6_step_25 : decode cX6_step 25 = .ok (.aload_n 0, 1) := by decide +kernel
theorem dX6_step_26 : decode cX6_step 26 = .ok (.dup, 1) := by decide +kernel
theorem dX6_step_27 : decode cX6_step 27 = .ok (.getfield 19, 3) := by decide +kernel
theorem dX6_step_30 : decode cX6_step 30 = .ok (.iconst 1, 1) := by decide +kernel
theorem dX6_step_31 : decode cX6_step 31 = .ok (.iadd, 1) := by decide +kernel
theorem dX6_step_32 : decode cX6_step 32 = .ok (.putfield 19, 3) := by decide +kernel
theorem dX6_step_35 : decode cX6_step 35 = .ok (.goto (-35), 3) := by decide +kernel
theorem dX6_step_38 : decode cX6_step 38 = .ok (.aload_n 0, 1) := by decide +kernel
theorem dX6_step_39 : decode cX6_step 39 = .ok (.aload_n 0, 1) := by decide +kernel
theorem dX6_step_40 : decode cX6_step 40 = .ok (.getfield 19, 3) := by decide +kernel
theorem dX6_step_43 : decode cX6_step 43 = .ok (.putfield 28, 3) := by decide +kernel
theorem dX6_step_46 : decode cX6_step 46 = .ok (.aload_n 0, 1) := by decide +kernel
theorem dX6_step_47 : decode cX6_step 47 = .ok (.getfield 19, 3) := by decide +kernel
theorem dX6_step_50 : decode cX6_step 50 = .ok (.aload_n 0, 1) := by decide +kernel
theorem dX6_step_51 : decode cX6_step 51 = .ok (.getfield 15, 3) := by decide +kernel
theorem dX6_step_54 : decode cX6_step 54 = .ok (.if_icmp .lt 11, 3) := by decide +kernel
theorem dX6_step_57 : decode cX6_step 57 = .ok (.aload_n 0, 1) := by decide +kernel
theorem dX6_step_58 : decode cX6_step 58 = .ok (.iconst (-1), 1) := by decide +kernel
theorem dX6_step_59 : decode cX6_step 59 = .ok (.putfield 25, 3) := by decide +kernel
theorem dX6_step_62 : decode cX6_step 62 = .ok (.goto 51, 3) := by decide +kernel
theorem dX6_step_65 : decode cX6_step 65 = .ok (.aload_n 0, 1) := by decide +kernel
theorem dX6_step_66 : decode cX6_step 66 = .ok (.getfield 9, 3) := by decide +kernel
theorem dX6_step_69 : decode cX6_step 69 = .ok (.aload_n 0, 1) := by decide +kernel
theorem dX6_step_70 : decode cX6_step 70 = .ok (.getfield 19, 3) := by decide +kernel
theorem dX6_step_73 : decode cX6_step 73 = .ok (.iaload, 1) := by decide +kernel
theorem dX6_step_74 : decode cX6_step 74 = .ok (.invokestatic 34, 3) := by decide +kernel
theorem dX6_step_77 : decode cX6_step 77 = .ok (.ifCond .eq 10, 3) := by decide +kernel
theorem dX6_step_80 : decode cX6_step 80 = .ok (.aload_n 0, 1) := by decide +kernel
theorem dX6_step_81 : decode cX6_step 81 = .ok (.invokevirtual 38, 3) := by decide +kernel
theorem dX6_step_84 : decode cX6_step 84 = .ok (.goto 29, 3) := by decide +kernel
theorem dX6_step_87 : decode cX6_step 87 = .ok (.aload_n 0, 1) := by decide +kernel
theorem dX6_step_88 : decode cX6_step 88 = .ok (.getfield 9, 3) := by decide +kernel
theorem dX6_step_91 : decode cX6_step 91 = .ok (.aload_n 0, 1) := by decide +kernel
theorem dX6_step_92 : decode cX6_step 92 = .ok (.getfield 19, 3) := by decide +kernel
theorem dX6_step_95 : decode cX6_step 95 = .ok (.iaload, 1) := by decide +kernel
theorem dX6_step_96 : decode cX6_step 96 = .ok (.invokestatic 41, 3) := by decide +kernel
theorem dX6_step_99 : decode cX6_step 99 = .ok (.ifCond .eq 10, 3) := by decide +kernel
theorem dX6_step_102 : decode cX6_step 102 = .ok (.aload_n 0, 1) := by decide +kernel
theorem dX6_step_103 : decode cX6_step 103 = .ok (.invokevirtual 44, 3) := by decide +kernel
theorem dX6_step_106 : decode cX6_step 106 = .ok (.goto 7, 3) := by decide +kernel
theorem dX6_step_109 : decode cX6_step 109 = .ok (.aload_n 0, 1) := by decide +kernel
theorem dX6_step_110 : decode cX6_step 110 = .ok (.invokevirtual 47, 3) := by decide +kernel
theorem dX6_step_113 : decode cX6_step 113 = .ok (.return_, 1) := by decide +kernel
theorem dX6_isWord_0 : decode cX6_isWord 0 = .ok (.aload_n 0, 1) := by decide +kernel
theorem dX6_isWord_1 : decode cX6_isWord 1 = .ok (.getfield 25, 3) := by decide +kernel
theorem dX6_isWord_4 : decode cX6_isWord 4 = .ok (.bipush (-3), 2) := by decide +kernel
theorem dX6_isWord_6 : decode cX6_isWord 6 = .ok (.if_icmp .ne 19, 3) := by decide +kernel
theorem dX6_isWord_9 : decode cX6_isWord 9 = .ok (.aload_n 0, 1) := by decide +kernel
theorem dX6_isWord_10 : decode cX6_isWord 10 = .ok (.getfield 19, 3) := by decide +kernel
theorem dX6_isWord_13 : decode cX6_isWord 13 = .ok (.aload_n 0, 1) := by decide +kernel
theorem dX6_isWord_14 : decode cX6_isWord 14 = .ok (.getfield 28, 3) := by decide +kernel
theorem dX6_isWord_17 : decode cX6_isWord 17 = .ok (.isub, 1) := by decide +kernel
theorem dX6_isWord_18 : decode cX6_isWord 18 = .ok (.aload_n 1, 1) := by decide +kernel
theorem dX6_isWord_19 : decode cX6_isWord 19 = .ok (.invokevirtual 50, 3) := by decide +kernel
theorem dX6_isWord_22 : decode cX6_isWord 22 = .ok (.if_icmp .eq 5, 3) := by decide +kernel
theorem dX6_isWord_25 : decode cX6_isWord 25 = .ok (.iconst 0, 1) := by decide +kernel
theorem dX6_isWord_26 : decode cX6_isWord 26 = .ok (.ireturn, 1) := by decide +kernel
theorem dX6_isWord_27 : decode cX6_isWord 27 = .ok (.iconst 0, 1) := by decide +kernel
theorem dX6_isWord_28 : decode cX6_isWord 28 = .ok (.istore_n 2, 1) := by decide +kernel
theorem dX6_isWord_29 : decode cX6_isWord 29 = .ok (.iload_n 2, 1) := by decide +kernel
theorem dX6_isWord_30 : decode cX6_isWord 30 = .ok (.aload_n 1, 1) := by decide +kernel
theorem dX6_isWord_31 : decode cX6_isWord 31 = .ok (.invokevirtual 50, 3) := by decide +kernel
theorem dX6_isWord_34 : decode cX6_isWord 34 = .ok (.if_icmp .ge 30, 3) := by decide +kernel
theorem dX6_isWord_37 : decode cX6_isWord 37 = .ok (.aload_n 0, 1) := by decide +kernel
theorem dX6_isWord_38 : decode cX6_isWord 38 = .ok (.getfield 9, 3) := by decide +kernel
theorem dX6_isWord_41 : decode cX6_isWord 41 = .ok (.aload_n 0, 1) := by decide +kernel
theorem dX6_isWord_42 : decode cX6_isWord 42 = .ok (.getfield 28, 3) := by decide +kernel
theorem dX6_isWord_45 : decode cX6_isWord 45 = .ok (.iload_n 2, 1) := by decide +kernel
theorem dX6_isWord_46 : decode cX6_isWord 46 = .ok (.iadd, 1) := by decide +kernel
theorem dX6_isWord_47 : decode cX6_isWord 47 = .ok (.iaload, 1) := by decide +kernel
theorem dX6_isWord_48 : decode cX6_isWord 48 = .ok (.aload_n 1, 1) := by decide +kernel
theorem dX6_isWord_49 : decode cX6_isWord 49 = .ok (.iload_n 2, 1) := by decide +kernel
theorem dX6_isWord_50 : decode cX6_isWord 50 = .ok (.invokevirtual 55, 3) := by decide +kernel
theorem dX6_isWord_53 : decode cX6_isWord 53 = .ok (.if_icmp .eq 5, 3) := by decide +kernel
theorem dX6_isWord_56 : decode cX6_isWord 56 = .ok (.iconst 0, 1) := by decide +kernel
theorem dX6_isWord_57 : decode cX6_isWord 57 = .ok (.ireturn, 1) := by decide +kernel
theorem dX6_isWord_58 : decode cX6_isWord 58 = .ok (.iinc 2 1, 3) := by decide +kernel
theorem dX6_isWord_61 : decode cX6_isWord 61 = .ok (.goto (-32), 3) := by decide +kernel
theorem dX6_isWord_64 : decode cX6_isWord 64 = .ok (.iconst 1, 1) := by decide +kernel
theorem dX6_isWord_65 : decode cX6_isWord 65 = .ok (.ireturn, 1) := by decide +kernel
theorem dX6_readNumber_0 : decode cX6_readNumber 0 = .ok (.aload_n 0, 1) := by decide +kernel
theorem dX6_readNumber_1 : decode cX6_readNumber 1 = .ok (.getfield 22, 3) := by decide +kernel
theorem dX6_readNumber_4 : decode cX6_readNumber 4 = .ok (.ifCond .eq 5, 3) := by decide +kernel
theorem dX6_readNumber_7 : decode cX6_readNumber 7 = .ok (.iconst 0, 1) := by decide +kernel
theorem dX6_readNumber_8 : decode cX6_readNumber 8 = .ok (.ireturn, 1) := by decide +kernel
theorem dX6_readNumber_9 : decode cX6_readNumber 9 = .ok (.aload_n 0, 1) := by decide +kernel
theorem dX6_readNumber_10 : decode cX6_readNumber 10 = .ok (.invokevirtual 59, 3) := by decide +kernel
theorem dX6_readNumber_13 : decode cX6_readNumber 13 = .ok (.aload_n 0, 1) := by decide +kernel
theorem dX6_readNumber_14 : decode cX6_readNumber 14 = .ok (.getfield 25, 3) := by decide +kernel
theorem dX6_readNumber_17 : decode cX6_readNumber 17 = .ok (.bipush (-2), 2) := by decide +kernel
theorem dX6_readNumber_19 : decode cX6_readNumber 19 = .ok (.if_icmp .eq 10, 3) := by decide +kernel
theorem dX6_readNumber_22 : decode cX6_readNumber 22 = .ok (.aload_n 0, 1) := by decide +kernel
theorem dX6_readNumber_23 : decode cX6_readNumber 23 = .ok (.iconst 0, 1) := by decide +kernel
theorem dX6_readNumber_24 : decode cX6_readNumber 24 = .ok (.invokevirtual 62, 3) := by decide +kernel
theorem dX6_readNumber_27 : decode cX6_readNumber 27 = .ok (.iconst 0, 1) := by decide +kernel
theorem dX6_readNumber_28 : decode cX6_readNumber 28 = .ok (.ireturn, 1) := by decide +kernel
theorem dX6_readNumber_29 : decode cX6_readNumber 29 = .ok (.aload_n 0, 1) := by decide +kernel
theorem dX6_readNumber_30 : decode cX6_readNumber 30 = .ok (.getfield 31, 3) := by decide +kernel
theorem dX6_readNumber_33 : decode cX6_readNumber 33 = .ok (.ifCond .lt 19, 3) := by decide +kernel
theorem dX6_readNumber_36 : decode cX6_readNumber 36 = .ok (.aload_n 0, 1) := by decide +kernel
theorem dX6_readNumber_37 : decode cX6_readNumber 37 = .ok (.getfield 31, 3) := by decide +kernel
theorem dX6_readNumber_40 : decode cX6_readNumber 40 = .ok (.iload_n 1, 1) := by decide +kernel
theorem dX6_readNumber_41 : decode cX6_readNumber 41 = .ok (.if_icmp .lt 11, 3) := by decide +kernel
theorem dX6_readNumber_44 : decode cX6_readNumber 44 = .ok (.aload_n 0, 1) := by decide +kernel
theorem dX6_readNumber_45 : decode cX6_readNumber 45 = .ok (.getfield 31, 3) := by decide +kernel
theorem dX6_readNumber_48 : decode cX6_readNumber 48 = .ok (.iload_n 2, 1) := by decide +kernel
theorem dX6_readNumber_49 : decode cX6_readNumber 49 = .ok (.if_icmp .le 10, 3) := by decide +kernel
theorem dX6_readNumber_52 : decode cX6_readNumber 52 = .ok (.aload_n 0, 1) := by decide +kernel
theorem dX6_readNumber_53 : decode cX6_readNumber 53 = .ok (.iconst 1, 1) := by decide +kernel
theorem dX6_readNumber_54 : decode cX6_readNumber 54 = .ok (.invokevirtual 62, 3) := by decide +kernel
theorem dX6_readNumber_57 : decode cX6_readNumber 57 = .ok (.iconst 0, 1) := by decide +kernel
theorem dX6_readNumber_58 : decode cX6_readNumber 58 = .ok (.ireturn, 1) := by decide +kernel
theorem dX6_readNumber_59 : decode cX6_readNumber 59 = .ok (.aload_n 0, 1) := by decide +kernel
theorem dX6_readNumber_60 : decode cX6_readNumber 60 = .ok (.getfield 31, 3) := by decide +kernel
theorem dX6_readNumber_63 : decode cX6_readNumber 63 = .ok (.ireturn, 1) := by decide +kernel
theorem dX6_stepOverDigits_0 : decode cX6_stepOverDigits 0 = .ok (.aload_n 0, 1) := by decide +kernel
theorem dX6_stepOverDigits_1 : decode cX6_stepOverDigits 1 = .ok (.bipush (-2), 2) := by decide +kernel
theorem dX6_stepOverDigits_3 : decode cX6_stepOverDigits 3 = .ok (.putfield 25, 3) := by decide +kernel
theorem dX6_stepOverDigits_6 : decode cX6_stepOverDigits 6 = .ok (.aload_n 0, 1) := by decide +kernel
theorem dX6_stepOverDigits_7 : decode cX6_stepOverDigits 7 = .ok (.iconst 0, 1) := by decide +kernel
theorem dX6_stepOverDigits_8 : decode cX6_stepOverDigits 8 = .ok (.putfield 31, 3) := by decide +kernel
theorem dX6_stepOverDigits_11 : decode cX6_stepOverDigits 11 = .ok (.aload_n 0, 1) := by decide +kernel
theorem dX6_stepOverDigits_12 : decode cX6_stepOverDigits 12 = .ok (.getfield 19, 3) := by decide +kernel
theorem dX6_stepOverDigits_15 : decode cX6_stepOverDigits 15 = .ok (.aload_n 0, 1) := by decide +kernel
theorem dX6_stepOverDigits_16 : decode cX6_stepOverDigits 16 = .ok (.getfield 15, 3) := by decide +kernel
theorem dX6_stepOverDigits_19 : decode cX6_stepOverDigits 19 = .ok (.if_icmp .ge 82, 3) := by decide +kernel
theorem dX6_stepOverDigits_22 : decode cX6_stepOverDigits 22 = .ok (.aload_n 0, 1) := by decide +kernel
theorem dX6_stepOverDigits_23 : decode cX6_stepOverDigits 23 = .ok (.getfield 9, 3) := by decide +kernel
theorem dX6_stepOverDigits_26 : decode cX6_stepOverDigits 26 = .ok (.aload_n 0, 1) := by decide +kernel
theorem dX6_stepOverDigits_27 : decode cX6_stepOverDigits 27 = .ok (.getfield 19, 3) := by decide +kernel
theorem dX6_stepOverDigits_30 : decode cX6_stepOverDigits 30 = .ok (.iaload, 1) := by decide +kernel
theorem dX6_stepOverDigits_31 : decode cX6_stepOverDigits 31 = .ok (.invokestatic 34, 3) := by decide +kernel
theorem dX6_stepOverDigits_34 : decode cX6_stepOverDigits 34 = .ok (.ifCond .eq 67, 3) := by decide +kernel
theorem dX6_stepOverDigits_37 : decode cX6_stepOverDigits 37 = .ok (.aload_n 0, 1) := by decide +kernel
theorem dX6_stepOverDigits_38 : decode cX6_stepOverDigits 38 = .ok (.getfield 19, 3) := by decide +kernel
theorem dX6_stepOverDigits_41 : decode cX6_stepOverDigits 41 = .ok (.aload_n 0, 1) := by decide +kernel
theorem dX6_stepOverDigits_42 : decode cX6_stepOverDigits 42 = .ok (.getfield 28, 3) := by decide +kernel
theorem dX6_stepOverDigits_45 : decode cX6_stepOverDigits 45 = .ok (.isub, 1) := by decide +kernel
theorem dX6_stepOverDigits_46 : decode cX6_stepOverDigits 46 = .ok (.iconst 5, 1) := by decide +kernel
theorem dX6_stepOverDigits_47 : decode cX6_stepOverDigits 47 = .ok (.if_icmp .lt 7, 3) := by decide +kernel
theorem dX6_stepOverDigits_50 : decode cX6_stepOverDigits 50 = .ok (.iconst 1, 1) := by decide +kernel
theorem dX6_stepOverDigits_51 : decode cX6_stepOverDigits 51 = .ok (.goto 4, 3) := by decide +kernel
theorem dX6_stepOverDigits_54 : decode cX6_stepOverDigits 54 = .ok (.iconst 0, 1) := by decide +kernel
theorem dX6_stepOverDigits_55 : decode cX6_stepOverDigits 55 = .ok (.istore_n 1, 1) := by decide +kernel
theorem dX6_stepOverDigits_56 : decode cX6_stepOverDigits 56 = .ok (.aload_n 0, 1) := by decide +kernel
theorem dX6_stepOverDigits_57 : decode cX6_stepOverDigits 57 = .ok (.iload_n 1, 1) := by decide +kernel
theorem dX6_stepOverDigits_58 : decode cX6_stepOverDigits 58 = .ok (.ifCond .eq 7, 3) := by decide +kernel
theorem dX6_stepOverDigits_61 : decode cX6_stepOverDigits 61 = .ok (.iconst (-1), 1) := by decide +kernel
theorem dX6_stepOverDigits_62 : decode cX6_stepOverDigits 62 = .ok (.goto 23, 3) := by decide +kernel
theorem dX6_stepOverDigits_65 : decode cX6_stepOverDigits 65 = .ok (.aload_n 0, 1) := by decide +kernel
theorem dX6_stepOverDigits_66 : decode cX6_stepOverDigits 66 = .ok (.getfield 31, 3) := by decide +kernel
theorem dX6_stepOverDigits_69 : decode cX6_stepOverDigits 69 = .ok (.bipush 10, 2) := by decide +kernel
theorem dX6_stepOverDigits_71 : decode cX6_stepOverDigits 71 = .ok (.imul, 1) := by decide +kernel
theorem dX6_stepOverDigits_72 : decode cX6_stepOverDigits 72 = .ok (.aload_n 0, 1) := by decide +kernel
theorem dX6_stepOverDigits_73 : decode cX6_stepOverDigits 73 = .ok (.getfield 9, 3) := by decide +kernel
theorem dX6_stepOverDigits_76 : decode cX6_stepOverDigits 76 = .ok (.aload_n 0, 1) := by decide +kernel
theorem dX6_stepOverDigits_77 : decode cX6_stepOverDigits 77 = .ok (.getfield 19, 3) := by decide +kernel
theorem dX6_stepOverDigits_80 : decode cX6_stepOverDigits 80 = .ok (.iaload, 1) := by decide +kernel
theorem dX6_stepOverDigits_81 : decode cX6_stepOverDigits 81 = .ok (.iadd, 1) := by decide +kernel
theorem dX6_stepOverDigits_82 : decode cX6_stepOverDigits 82 = .ok (.bipush 48, 2) := by decide +kernel
theorem dX6_stepOverDigits_84 : decode cX6_stepOverDigits 84 = .ok (.isub, 1) := by decide +kernel
theorem dX6_stepOverDigits_85 : decode cX6_stepOverDigits 85 = .ok (.putfield 31, 3) := by decide +kernel
theorem dX6_stepOverDigits_88 : decode cX6_stepOverDigits 88 = .ok (.aload_n 0, 1) := by decide +kernel
theorem dX6_stepOverDigits_89 : decode cX6_stepOverDigits 89 = .ok (.dup, 1) := by decide +kernel
theorem dX6_stepOverDigits_90 : decode cX6_stepOverDigits 90 = .ok (.getfield 19, 3) := by decide +kernel
theorem dX6_stepOverDigits_93 : decode cX6_stepOverDigits 93 = .ok (.iconst 1, 1) := by decide +kernel
theorem dX6_stepOverDigits_94 : decode cX6_stepOverDigits 94 = .ok (.iadd, 1) := by decide +kernel
theorem dX6_stepOverDigits_95 : decode cX6_stepOverDigits 95 = .ok (.putfield 19, 3) := by decide +kernel
theorem dX6_stepOverDigits_98 : decode cX6_stepOverDigits 98 = .ok (.goto (-87), 3) := by decide +kernel
theorem dX6_stepOverDigits_101 : decode cX6_stepOverDigits 101 = .ok (.return_, 1) := by decide +kernel
theorem dX6_stepOverLetters_0 : decode cX6_stepOverLetters 0 = .ok (.aload_n 0, 1) := by decide +kernel
theorem dX6_stepOverLetters_1 : decode cX6_stepOverLetters 1 = .ok (.bipush (-3), 2) := by decide +kernel
theorem dX6_stepOverLetters_3 : decode cX6_stepOverLetters 3 = .ok (.putfield 25, 3) := by decide +kernel
theorem dX6_stepOverLetters_6 : decode cX6_stepOverLetters 6 = .ok (.aload_n 0, 1) := by decide +kernel
theorem dX6_stepOverLetters_7 : decode cX6_stepOverLetters 7 = .ok (.getfield 19, 3) := by decide +kernel
theorem dX6_stepOverLetters_10 : decode cX6_stepOverLetters 10 = .ok (.aload_n 0, 1) := by decide +kernel
theorem dX6_stepOverLetters_11 : decode cX6_stepOverLetters 11 = .ok (.getfield 15, 3) := by decide +kernel
theorem dX6_stepOverLetters_14 : decode cX6_stepOverLetters 14 = .ok (.if_icmp .ge 31, 3) := by decide +kernel
theorem dX6_stepOverLetters_17 : decode cX6_stepOverLetters 17 = .ok (.aload_n 0, 1) := by decide +kernel
theorem dX6_stepOverLetters_18 : decode cX6_stepOverLetters 18 = .ok (.getfield 9, 3) := by decide +kernel
theorem dX6_stepOverLetters_21 : decode cX6_stepOverLetters 21 = .ok (.aload_n 0, 1) := by decide +kernel
theorem dX6_stepOverLetters_22 : decode cX6_stepOverLetters 22 = .ok (.getfield 19, 3) := by decide +kernel
theorem dX6_stepOverLetters_25 : decode cX6_stepOverLetters 25 = .ok (.iaload, 1) := by decide +kernel
theorem dX6_stepOverLetters_26 : decode cX6_stepOverLetters 26 = .ok (.invokestatic 41, 3) := by decide +kernel
theorem dX6_stepOverLetters_29 : decode cX6_stepOverLetters 29 = .ok (.ifCond .eq 16, 3) := by decide +kernel
theorem dX6_stepOverLetters_32 : decode cX6_stepOverLetters 32 = .ok (.aload_n 0, 1) := by decide +kernel
theorem dX6_stepOverLetters_33 : decode cX6_stepOverLetters 33 = .ok (.dup, 1) := by decide +kernel
theorem dX6_stepOverLetters_34 : decode cX6_stepOverLetters 34 = .ok (.getfield 19, 3) := by decide +kernel
theorem dX6_stepOverLetters_37 : decode cX6_stepOverLetters 37 = .ok (.iconst 1, 1) := by decide +kernel
theorem dX6_stepOverLetters_38 : decode cX6_stepOverLetters 38 = .ok (.iadd, 1) := by decide +kernel
theorem dX6_stepOverLetters_39 : decode cX6_stepOverLetters 39 = .ok (.putfield 19, 3) := by decide +kernel
theorem dX6_stepOverLetters_42 : decode cX6_stepOverLetters 42 = .ok (.goto (-36), 3) := by decide +kernel
theorem dX6_stepOverLetters_45 : decode cX6_stepOverLetters 45 = .ok (.return_, 1) := by decide +kernel
theorem dX6_stepOverSign_0 : decode cX6_stepOverSign 0 = .ok (.aload_n 0, 1) := by decide +kernel
theorem dX6_stepOverSign_1 : decode cX6_stepOverSign 1 = .ok (.aload_n 0, 1) := by decide +kernel
theorem dX6_stepOverSign_2 : decode cX6_stepOverSign 2 = .ok (.getfield 9, 3) := by decide +kernel
theorem dX6_stepOverSign_5 : decode cX6_stepOverSign 5 = .ok (.aload_n 0, 1) := by decide +kernel
theorem dX6_stepOverSign_6 : decode cX6_stepOverSign 6 = .ok (.getfield 19, 3) := by decide +kernel
theorem dX6_stepOverSign_9 : decode cX6_stepOverSign 9 = .ok (.iaload, 1) := by decide +kernel
theorem dX6_stepOverSign_10 : decode cX6_stepOverSign 10 = .ok (.putfield 25, 3) := by decide +kernel
theorem dX6_stepOverSign_13 : decode cX6_stepOverSign 13 = .ok (.aload_n 0, 1) := by decide +kernel
theorem dX6_stepOverSign_14 : decode cX6_stepOverSign 14 = .ok (.dup, 1) := by decide +kernel
theorem dX6_stepOverSign_15 : decode cX6_stepOverSign 15 = .ok (.getfield 19, 3) := by decide +kernel
theorem dX6_stepOverSign_18 : decode cX6_stepOverSign 18 = .ok (.iconst 1, 1) := by decide +kernel
theorem dX6_stepOverSign_19 : decode cX6_stepOverSign 19 = .ok (.iadd, 1) := by decide +kernel
theorem dX6_stepOverSign_20 : decode cX6_stepOverSign 20 = .ok (.putfield 19, 3) := by decide +kernel
theorem dX6_stepOverSign_23 : decode cX6_stepOverSign 23 = .ok (.aload_n 0, 1) := by decide +kernel
theorem dX6_stepOverSign_24 : decode cX6_stepOverSign 24 = .ok (.getfield 25, 3) := by decide +kernel
theorem dX6_stepOverSign_27 : decode cX6_stepOverSign 27 = .ok (.bipush 60, 2) := by decide +kernel
theorem dX6_stepOverSign_29 : decode cX6_stepOverSign 29 = .ok (.if_icmp .eq 12, 3) := by decide +kernel
theorem dX6_stepOverSign_32 : decode cX6_stepOverSign 32 = .ok (.aload_n 0, 1) := by decide +kernel
theorem dX6_stepOverSign_33 : decode cX6_stepOverSign 33 = .ok (.getfield 25, 3) := by decide +kernel
theorem dX6_stepOverSign_36 : decode cX6_stepOverSign 36 = .ok (.bipush 62, 2) := by decide +kernel
theorem dX6_stepOverSign_38 : decode cX6_stepOverSign 38 = .ok (.if_icmp .ne 7, 3) := by decide +kernel
theorem dX6_stepOverSign_41 : decode cX6_stepOverSign 41 = .ok (.iconst 1, 1) := by decide +kernel
theorem dX6_stepOverSign_42 : decode cX6_stepOverSign 42 = .ok (.goto 4, 3) := by decide +kernel
theorem dX6_stepOverSign_45 : decode cX6_stepOverSign 45 = .ok (.iconst 0, 1) := by decide +kernel
theorem dX6_stepOverSign_46 : decode cX6_stepOverSign 46 = .ok (.istore_n 1, 1) := by decide +kernel
theorem dX6_stepOverSign_47 : decode cX6_stepOverSign 47 = .ok (.iload_n 1, 1) := by decide +kernel
theorem dX6_stepOverSign_48 : decode cX6_stepOverSign 48 = .ok (.ifCond .eq 50, 3) := by decide +kernel
theorem dX6_stepOverSign_51 : decode cX6_stepOverSign 51 = .ok (.aload_n 0, 1) := by decide +kernel
theorem dX6_stepOverSign_52 : decode cX6_stepOverSign 52 = .ok (.getfield 19, 3) := by decide +kernel
theorem dX6_stepOverSign_55 : decode cX6_stepOverSign 55 = .ok (.aload_n 0, 1) := by decide +kernel
theorem dX6_stepOverSign_56 : decode cX6_stepOverSign 56 = .ok (.getfield 15, 3) := by decide +kernel
theorem dX6_stepOverSign_59 : decode cX6_stepOverSign 59 = .ok (.if_icmp .ge 39, 3) := by decide +kernel
theorem dX6_stepOverSign_62 : decode cX6_stepOverSign 62 = .ok (.aload_n 0, 1) := by decide +kernel
theorem dX6_stepOverSign_63 : decode cX6_stepOverSign 63 = .ok (.getfield 9, 3) := by decide +kernel
theorem dX6_stepOverSign_66 : decode cX6_stepOverSign 66 = .ok (.aload_n 0, 1) := by decide +kernel
theorem dX6_stepOverSign_67 : decode cX6_stepOverSign 67 = .ok (.getfield 19, 3) := by decide +kernel
theorem dX6_stepOverSign_70 : decode cX6_stepOverSign 70 = .ok (.iaload, 1) := by decide +kernel
theorem dX6_stepOverSign_71 : decode cX6_stepOverSign 71 = .ok (.bipush 61, 2) := by decide +kernel
theorem dX6_stepOverSign_73 : decode cX6_stepOverSign 73 = .ok (.if_icmp .ne 25, 3) := by decide +kernel
theorem dX6_stepOverSign_76 : decode cX6_stepOverSign 76 = .ok (.aload_n 0, 1) := by decide +kernel
theorem dX6_stepOverSign_77 : decode cX6_stepOverSign 77 = .ok (.dup, 1) := by decide +kernel
theorem dX6_stepOverSign_78 : decode cX6_stepOverSign 78 = .ok (.getfield 25, 3) := by decide +kernel
theorem dX6_stepOverSign_81 : decode cX6_stepOverSign 81 = .ok (.sipush 256, 3) := by decide +kernel
theorem dX6_stepOverSign_84 : decode cX6_stepOverSign 84 = .ok (.iadd, 1) := by decide +kernel
theorem dX6_stepOverSign_85 : decode cX6_stepOverSign 85 = .ok (.putfield 25, 3) := by decide +kernel
theorem dX6_stepOverSign_88 : decode cX6_stepOverSign 88 = .ok (.aload_n 0, 1) := by decide +kernel
theorem dX6_stepOverSign_89 : decode cX6_stepOverSign 89 = .ok (.dup, 1) := by decide +kernel
theorem dX6_stepOverSign_90 : decode cX6_stepOverSign 90 = .ok (.getfield 19, 3) := by decide +kernel
theorem dX6_stepOverSign_93 : decode cX6_stepOverSign 93 = .ok (.iconst 1, 1) := by decide +kernel
theorem dX6_stepOverSign_94 : decode cX6_stepOverSign 94 = .ok (.iadd, 1) := by decide +kernel
theorem dX6_stepOverSign_95 : decode cX6_stepOverSign 95 = .ok (.putfield 19, 3) := by decide +kernel
theorem dX6_stepOverSign_98 : decode cX6_stepOverSign 98 = .ok (.return_, 1) := by decide +kernel
theorem dX6_isDigit_0 : decode cX6_isDigit 0 = .ok (.iload_n 0, 1) := by decide +kernel
theorem dX6_isDigit_1 : decode cX6_isDigit 1 = .ok (.bipush 48, 2) := by decide +kernel
theorem dX6_isDigit_3 : decode cX6_isDigit 3 = .ok (.if_icmp .lt 13, 3) := by decide +kernel
theorem dX6_isDigit_6 : decode cX6_isDigit 6 = .ok (.iload_n 0, 1) := by decide +kernel
theorem dX6_isDigit_7 : decode cX6_isDigit 7 = .ok (.bipush 57, 2) := by decide +kernel
theorem dX6_isDigit_9 : decode cX6_isDigit 9 = .ok (.if_icmp .gt 7, 3) := by decide +kernel
theorem dX6_isDigit_12 : decode cX6_isDigit 12 = .ok (.iconst 1, 1) := by decide +kernel
theorem dX6_isDigit_13 : decode cX6_isDigit 13 = .ok (.goto 4, 3) := by decide +kernel
theorem dX6_isDigit_16 : decode cX6_isDigit 16 = .ok (.iconst 0, 1) := by decide +kernel
theorem dX6_isDigit_17 : decode cX6_isDigit 17 = .ok (.ireturn, 1) := by decide +kernel
theorem dX6_isLetter_0 : decode cX6_isLetter 0 = .ok (.iload_n 0, 1) := by decide +kernel
theorem dX6_isLetter_1 : decode cX6_isLetter 1 = .ok (.bipush 97, 2) := by decide +kernel
theorem dX6_isLetter_3 : decode cX6_isLetter 3 = .ok (.if_icmp .lt 13, 3) := by decide +kernel
theorem dX6_isLetter_6 : decode cX6_isLetter 6 = .ok (.iload_n 0, 1) := by decide +kernel
theorem dX6_isLetter_7 : decode cX6_isLetter 7 = .ok (.bipush 122, 2) := by decide +kernel
theorem dX6_isLetter_9 : decode cX6_isLetter 9 = .ok (.if_icmp .gt 7, 3) := by decide +kernel
theorem dX6_isLetter_12 : decode cX6_isLetter 12 = .ok (.iconst 1, 1) := by decide +kernel
theorem dX6_isLetter_13 : decode cX6_isLetter 13 = .ok (.goto 4, 3) := by decide +kernel
theorem dX6_isLetter_16 : decode cX6_isLetter 16 = .ok (.iconst 0, 1) := by decide +kernel
theorem dX6_isLetter_17 : decode cX6_isLetter 17 = .ok (.ireturn, 1) := by decide +kernel
theorem dX7_init_0 : decode cX7_init 0 = .ok (.aload_n 0, 1) := by decide +kernel
theorem dX7_init_1 : decode cX7_init 1 = .ok (.invokespecial 3, 3) := by decide +kernel
theorem dX7_init_4 : decode cX7_init 4 = .ok (.aload_n 0, 1) := by decide +kernel
theorem dX7_init_5 : decode cX7_init 5 = .ok (.iconst 0, 1) := by decide +kernel
theorem dX7_init_6 : decode cX7_init 6 = .ok (.putfield 9, 3) := by decide +kernel
theorem dX7_init_9 : decode cX7_init 9 = .ok (.aload_n 0, 1) := by decide +kernel
theorem dX7_init_10 : decode cX7_init 10 = .ok (.iconst 0, 1) := by decide +kernel
theorem dX7_init_11 : decode cX7_init 11 = .ok (.putfield 15, 3) := by decide +kernel
theorem dX7_init_14 : decode cX7_init 14 = .ok (.aload_n 0, 1) := by decide +kernel
theorem dX7_init_15 : decode cX7_init 15 = .ok (.iconst 0, 1) := by decide +kernel
theorem dX7_init_16 : decode cX7_init 16 = .ok (.putfield 19, 3) := by decide +kernel
theorem dX7_init_19 : decode cX7_init 19 = .ok (.aload_n 0, 1) := by decide +kernel
theorem dX7_init_20 : decode cX7_init 20 = .ok (.iconst 0, 1) := by decide +kernel
theorem dX7_init_21 : decode cX7_init 21 = .ok (.putfield 22, 3) := by decide +kernel
theorem dX7_init_24 : decode cX7_init 24 = .ok (.aload_n 0, 1) := by decide +kernel
theorem dX7_init_25 : decode cX7_init 25 = .ok (.iconst 1, 1) := by decide +kernel
theorem dX7_init_26 : decode cX7_init 26 = .ok (.putfield 25, 3) := by decide +kernel
theorem dX7_init_29 : decode cX7_init 29 = .ok (.aload_n 0, 1) := by decide +kernel
theorem dX7_init_30 : decode cX7_init 30 = .ok (.iconst 1, 1) := by decide +kernel
theorem dX7_init_31 : decode cX7_init 31 = .ok (.putfield 28, 3) := by decide +kernel
theorem dX7_init_34 : decode cX7_init 34 = .ok (.aload_n 0, 1) := by decide +kernel
theorem dX7_init_35 : decode cX7_init 35 = .ok (.iconst 0, 1) := by decide +kernel
theorem dX7_init_36 : decode cX7_init 36 = .ok (.putfield 31, 3) := by decide +kernel
theorem dX7_init_39 : decode cX7_init 39 = .ok (.aload_n 0, 1) := by decide +kernel
theorem dX7_init_40 : decode cX7_init 40 = .ok (.iconst 0, 1) := by decide +kernel
theorem dX7_init_41 : decode cX7_init 41 = .ok (.putfield 34, 3) := by decide +kernel
theorem dX7_init_44 : decode cX7_init 44 = .ok (.aload_n 0, 1) := by decide +kernel
theorem dX7_init_45 : decode cX7_init 45 = .ok (.iconst 0, 1) := by decide +kernel
theorem dX7_init_46 : decode cX7_init 46 = .ok (.putfield 37, 3) := by decide +kernel
theorem dX7_init_49 : decode cX7_init 49 = .ok (.aload_n 0, 1) := by decide +kernel
theorem dX7_init_50 : decode cX7_init 50 = .ok (.iconst 5, 1) := by decide +kernel
theorem dX7_init_51 : decode cX7_init 51 = .ok (.newarray .int, 2) := by decide +kernel
theorem dX7_init_53 : decode cX7_init 53 = .ok (.putfield 40, 3) := by decide +kernel
theorem dX7_init_56 : decode cX7_init 56 = .ok (.aload_n 0, 1) := by decide +kernel
theorem dX7_init_57 : decode cX7_init 57 = .ok (.iconst 5, 1) := by decide +kernel
theorem dX7_init_58 : decode cX7_init 58 = .ok (.newarray .int, 2) := by decide +kernel
theorem dX7_init_60 : decode cX7_init 60 = .ok (.putfield 44, 3) := by decide +kernel
theorem dX7_init_63 : decode cX7_init 63 = .ok (.aload_n 0, 1) := by decide +kernel
theorem dX7_init_64 : decode cX7_init 64 = .ok (.bipush 8, 2) := by decide +kernel
theorem dX7_init_66 : decode cX7_init 66 = .ok (.newarray .int, 2) := by decide +kernel
theorem dX7_init_68 : decode cX7_init 68 = .ok (.putfield 47, 3) := by decide +kernel
theorem dX7_init_71 : decode cX7_init 71 = .ok (.aload_n 0, 1) := by decide +kernel
theorem dX7_init_72 : decode cX7_init 72 = .ok (.bipush 8, 2) := by decide +kernel
theorem dX7_init_74 : decode cX7_init 74 = .ok (.newarray .int, 2) := by decide +kernel
theorem dX7_init_76 : decode cX7_init 76 = .ok (.putfield 50, 3) := by decide +kernel
theorem dX7_init_79 : decode cX7_init 79 = .ok (.aload_n 0, 1) := by decide +kernel
theorem dX7_init_80 : decode cX7_init 80 = .ok (.bipush 8, 2) := by decide +kernel
theorem dX7_init_82 : decode cX7_init 82 = .ok (.newarray .int, 2) := by decide +kernel
theorem dX7_init_84 : decode cX7_init 84 = .ok (.putfield 53, 3) := by decide +kernel
theorem dX7_init_87 : decode cX7_init 87 = .ok (.aload_n 0, 1) := by decide +kernel
theorem dX7_init_88 : decode cX7_init 88 = .ok (.bipush 8, 2) := by decide +kernel
theorem dX7_init_90 : decode cX7_init 90 = .ok (.newarray .int, 2) := by decide +kernel
theorem dX7_init_92 : decode cX7_init 92 = .ok (.putfield 56, 3) := by decide +kernel
theorem dX7_init_95 : decode cX7_init 95 = .ok (.return_, 1) := by decide +kernel
theorem dX7_clear_0 : decode cX7_clear 0 = .ok (.aload_n 0, 1) := by decide +kernel
theorem dX7_clear_1 : decode cX7_clear 1 = .ok (.iconst 0, 1) := by decide +kernel
theorem dX7_clear_2 : decode cX7_clear 2 = .ok (.putfield 9, 3) := by decide +kernel
theorem dX7_clear_5 : decode cX7_clear 5 = .ok (.aload_n 0, 1) := by decide +kernel
theorem dX7_clear_6 : decode cX7_clear 6 = .ok (.iconst 0, 1) := by decide +kernel
theorem dX7_clear_7 : decode cX7_clear 7 = .ok (.putfield 15, 3) := by decide +kernel
theorem dX7_clear_10 : decode cX7_clear 10 = .ok (.aload_n 0, 1) := by decide +kernel
theorem dX7_clear_11 : decode cX7_clear 11 = .ok (.iconst 0, 1) := by decide +kernel
theorem dX7_clear_12 : decode cX7_clear 12 = .ok (.putfield 19, 3) := by decide +kernel
theorem dX7_clear_15 : decode cX7_clear 15 = .ok (.aload_n 0, 1) := by decide +kernel
theorem dX7_clear_16 : decode cX7_clear 16 = .ok (.iconst 0, 1) := by decide +kernel
theorem dX7_clear_17 : decode cX7_clear 17 = .ok (.putfield 22, 3) := by decide +kernel
theorem dX7_clear_20 : decode cX7_clear 20 = .ok (.aload_n 0, 1) := by decide +kernel
theorem dX7_clear_21 : decode cX7_clear 21 = .ok (.iconst 1, 1) := by decide +kernel
theorem dX7_clear_22 : decode cX7_clear 22 = .ok (.putfield 25, 3) := by decide +kernel
theorem dX7_clear_25 : decode cX7_clear 25 = .ok (.aload_n 0, 1) := by decide +kernel
theorem dX7_clear_26 : decode cX7_clear 26 = .ok (.iconst 1, 1) := by decide +kernel
theorem dX7_clear_27 : decode cX7_clear 27 = .ok (.putfield 28, 3) := by decide +kernel
theorem dX7_clear_30 : decode cX7_clear 30 = .ok (.aload_n 0, 1) := by decide +kernel
theorem dX7_clear_31 : decode cX7_clear 31 = .ok (.iconst 0, 1) := by decide +kernel
theorem dX7_clear_32 : decode cX7_clear 32 = .ok (.putfield 31, 3) := by decide +kernel
theorem dX7_clear_35 : decode cX7_clear 35 = .ok (.aload_n 0, 1) := by decide +kernel
theorem dX7_clear_36 : decode cX7_clear 36 = .ok (.iconst 0, 1) := by decide +kernel
theorem dX7_clear_37 : decode cX7_clear 37 = .ok (.putfield 34, 3) := by decide +kernel
theorem dX7_clear_40 : decode cX7_clear 40 = .ok (.aload_n 0, 1) := by decide +kernel
theorem dX7_clear_41 : decode cX7_clear 41 = .ok (.iconst 0, 1) := by decide +kernel
theorem dX7_clear_42 : decode cX7_clear 42 = .ok (.putfield 37, 3) := by decide +kernel
theorem dX7_clear_45 : decode cX7_clear 45 = .ok (.return_, 1) := by decide +kernel
theorem dX7_copyFrom_0 : decode cX7_copyFrom 0 = .ok (.aload_n 0, 1) := by decide +kernel
theorem dX7_copyFrom_1 : decode cX7_copyFrom 1 = .ok (.aload_n 1, 1) := by decide +kernel
theorem dX7_copyFrom_2 : decode cX7_copyFrom 2 = .ok (.getfield 9, 3) := by decide +kernel
theorem dX7_copyFrom_5 : decode cX7_copyFrom 5 = .ok (.putfield 9, 3) := by decide +kernel
theorem dX7_copyFrom_8 : decode cX7_copyFrom 8 = .ok (.aload_n 0, 1) := by decide +kernel
theorem dX7_copyFrom_9 : decode cX7_copyFrom 9 = .ok (.aload_n 1, 1) := by decide +kernel
theorem dX7_copyFrom_10 : decode cX7_copyFrom 10 = .ok (.getfield 15, 3) := by decide +kernel
theorem dX7_copyFrom_13 : decode cX7_copyFrom 13 = .ok (.putfield 15, 3) := by decide +kernel
theorem dX7_copyFrom_16 : decode cX7_copyFrom 16 = .ok (.aload_n 0, 1) := by decide +kernel
theorem dX7_copyFrom_17 : decode cX7_copyFrom 17 = .ok (.aload_n 1, 1) := by decide +kernel
theorem dX7_copyFrom_18 : decode cX7_copyFrom 18 = .ok (.getfield 19, 3) := by decide +kernel
theorem dX7_copyFrom_21 : decode cX7_copyFrom 21 = .ok (.putfield 19, 3) := by decide +kernel
theorem dX7_copyFrom_24 : decode cX7_copyFrom 24 = .ok (.aload_n 0, 1) := by decide +kernel
theorem dX7_copyFrom_25 : decode cX7_copyFrom 25 = .ok (.aload_n 1, 1) := by decide +kernel
theorem dX7_copyFrom_26 : decode cX7_copyFrom 26 = .ok (.getfield 22, 3) := by decide +kernel
theorem dX7_copyFrom_29 : decode cX7_copyFrom 29 = .ok (.putfield 22, 3) := by decide +kernel
theorem dX7_copyFrom_32 : decode cX7_copyFrom 32 = .ok (.aload_n 0, 1) := by decide +kernel
theorem dX7_copyFrom_33 : decode cX7_copyFrom 33 = .ok (.aload_n 1, 1) := by decide +kernel
theorem dX7_copyFrom_34 : decode cX7_copyFrom 34 = .ok (.getfield 25, 3) := by decide +kernel
theorem dX7_copyFrom_37 : decode cX7_copyFrom 37 = .ok (.putfield 25, 3) := by decide +kernel
theorem dX7_copyFrom_40 : decode cX7_copyFrom 40 = .ok (.aload_n 0, 1) := by decide +kernel
theorem dX7_copyFrom_41 : decode cX7_copyFrom 41 = .ok (.aload_n 1, 1) := by decide +kernel
theorem dX7_copyFrom_42 : decode cX7_copyFrom 42 = .ok (.getfield 28, 3) := by decide +kernel
theorem dX7_copyFrom_45 : decode cX7_copyFrom 45 = .ok (.putfield 28, 3) := by decide +kernel
theorem dX7_copyFrom_48 : decode cX7_copyFrom 48 = .ok (.aload_n 0, 1) := by decide +kernel
theorem dX7_copyFrom_49 : decode cX7_copyFrom 49 = .ok (.aload_n 1, 1) := by decide +kernel
theorem dX7_copyFrom_50 : decode cX7_copyFrom 50 = .ok (.getfield 31, 3) := by decide +kernel
theorem dX7_copyFrom_53 : decode cX7_copyFrom 53 = .ok (.putfield 31, 3) := by decide +kernel
theorem dX7_copyFrom_56 : decode cX7_copyFrom 56 = .ok (.aload_n 0, 1) := by decide +kernel
theorem dX7_copyFrom_57 : decode cX7_copyFrom 57 = .ok (.aload_n 1, 1) := by decide +kernel
theorem dX7_copyFrom_58 : decode cX7_copyFrom 58 = .ok (.getfield 34, 3) := by decide +kernel
theorem dX7_copyFrom_61 : decode cX7_copyFrom 61 = .ok (.putfield 34, 3) := by decide +kernel
theorem dX7_copyFrom_64 : decode cX7_copyFrom 64 = .ok (.aload_n 0, 1) := by decide +kernel
theorem dX7_copyFrom_65 : decode cX7_copyFrom 65 = .ok (.aload_n 1, 1) := by decide +kernel
theorem dX7_copyFrom_66 : decode cX7_copyFrom 66 = .ok (.getfield 37, 3) := by decide +kernel
theorem dX7_copyFrom_69 : decode cX7_copyFrom 69 = .ok (.putfield 37, 3) := by decide +kernel
theorem dX7_copyFrom_72 : decode cX7_copyFrom 72 = .ok (.aload_n 1, 1) := by decide +kernel
theorem dX7_copyFrom_73 : decode cX7_copyFrom 73 = .ok (.getfield 40, 3) := by decide +kernel
theorem dX7_copyFrom_76 : decode cX7_copyFrom 76 = .ok (.iconst 0, 1) := by decide +kernel
theorem dX7_copyFrom_77 : decode cX7_copyFrom 77 = .ok (.aload_n 0, 1) := by decide +kernel
theorem dX7_copyFrom_78 : decode cX7_copyFrom 78 = .ok (.getfield 40, 3) := by decide +kernel
theorem dX7_copyFrom_81 : decode cX7_copyFrom 81 = .ok (.iconst 0, 1) := by decide +kernel
theorem dX7_copyFrom_82 : decode cX7_copyFrom 82 = .ok (.iconst 5, 1) := by decide +kernel
theorem dX7_copyFrom_83 : decode cX7_copyFrom 83 = .ok (.invokestatic 59, 3) := by decide +kernel
theorem dX7_copyFrom_86 : decode cX7_copyFrom 86 = .ok (.aload_n 1, 1) := by decide +kernel
theorem dX7_copyFrom_87 : decode cX7_copyFrom 87 = .ok (.getfield 44, 3) := by decide +kernel
theorem dX7_copyFrom_90 : decode cX7_copyFrom 90 = .ok (.iconst 0, 1) := by decide +kernel
theorem dX7_copyFrom_91 : decode cX7_copyFrom 91 = .ok (.aload_n 0, 1) := by decide +kernel
theorem dX7_copyFrom_92 : decode cX7_copyFrom 92 = .ok (.getfield 44, 3) := by decide +kernel
theorem dX7_copyFrom_95 : decode cX7_copyFrom 95 = .ok (.iconst 0, 1) := by decide +kernel
theorem dX7_copyFrom_96 : decode cX7_copyFrom 96 = .ok (.iconst 5, 1) := by decide +kernel
theorem dX7_copyFrom_97 : decode cX7_copyFrom 97 = .ok (.invokestatic 59, 3) := by decide +kernel
theorem dX7_copyFrom_100 : decode cX7_copyFrom 100 = .ok (.aload_n 1, 1) := by decide +kernel
theorem dX7_copyFrom_101 : decode cX7_copyFrom 101 = .ok (.getfield 47, 3) := by decide +kernel
theorem dX7_copyFrom_104 : decode cX7_copyFrom 104 = .ok (.iconst 0, 1) := by decide +kernel
theorem dX7_copyFrom_105 : decode cX7_copyFrom 105 = .ok (.aload_n 0, 1) := by decide +kernel
theorem dX7_copyFrom_106 : decode cX7_copyFrom 106 = .ok (.getfield 47, 3) := by decide +kernel
theorem dX7_copyFrom_109 : decode cX7_copyFrom 109 = .ok (.iconst 0, 1) := by decide +kernel
theorem dX7_copyFrom_110 : decode cX7_copyFrom 110 = .ok (.bipush 8, 2) := by decide +kernel
theorem dX7_copyFrom_112 : decode cX7_copyFrom 112 = .ok (.invokestatic 59, 3) := by decide +kernel
theorem dX7_copyFrom_115 : decode cX7_copyFrom 115 = .ok (.aload_n 1, 1) := by decide +kernel
theorem dX7_copyFrom_116 : decode cX7_copyFrom 116 = .ok (.getfield 50, 3) := by decide +kernel
theorem dX7_copyFrom_119 : decode cX7_copyFrom 119 = .ok (.iconst 0, 1) := by decide +kernel
theorem dX7_copyFrom_120 : decode cX7_copyFrom 120 = .ok (.aload_n 0, 1) := by decide +kernel
theorem dX7_copyFrom_121 : decode cX7_copyFrom 121 = .ok (.getfield 50, 3) := by decide +kernel
theorem dX7_copyFrom_124 : decode cX7_copyFrom 124 = .ok (.iconst 0, 1) := by decide +kernel
theorem dX7_copyFrom_125 : decode cX7_copyFrom 125 = .ok (.bipush 8, 2) := by decide +kernel
theorem dX7_copyFrom_127 : decode cX7_copyFrom 127 = .ok (.invokestatic 59, 3) := by decide +kernel
theorem dX7_copyFrom_130 : decode cX7_copyFrom 130 = .ok (.aload_n 1, 1) := by decide +kernel
theorem dX7_copyFrom_131 : decode cX7_copyFrom 131 = .ok (.getfield 53, 3) := by decide +kernel
theorem dX7_copyFrom_134 : decode cX7_copyFrom 134 = .ok (.iconst 0, 1) := by decide +kernel
theorem dX7_copyFrom_135 : decode cX7_copyFrom 135 = .ok (.aload_n 0, 1) := by decide +kernel
theorem dX7_copyFrom_136 : decode cX7_copyFrom 136 = .ok (.getfield 53, 3) := by decide +kernel
theorem dX7_copyFrom_139 : decode cX7_copyFrom 139 = .ok (.iconst 0, 1) := by decide +kernel
theorem dX7_copyFrom_140 : decode cX7_copyFrom 140 = .ok (.bipush 8, 2) := by decide +kernel
theorem dX7_copyFrom_142 : decode cX7_copyFrom 142 = .ok (.invokestatic 59, 3) := by decide +kernel
theorem dX7_copyFrom_145 : decode cX7_copyFrom 145 = .ok (.aload_n 1, 1) := by decide +kernel
theorem dX7_copyFrom_146 : decode cX7_copyFrom 146 = .ok (.getfield 56, 3) := by decide +kernel
theorem dX7_copyFrom_149 : decode cX7_copyFrom 149 = .ok (.iconst 0, 1) := by decide +kernel
theorem dX7_copyFrom_150 : decode cX7_copyFrom 150 = .ok (.aload_n 0, 1) := by decide +kernel
theorem dX7_copyFrom_151 : decode cX7_copyFrom 151 = .ok (.getfield 56, 3) := by decide +kernel
theorem dX7_copyFrom_154 : decode cX7_copyFrom 154 = .ok (.iconst 0, 1) := by decide +kernel
theorem dX7_copyFrom_155 : decode cX7_copyFrom 155 = .ok (.bipush 8, 2) := by decide +kernel
theorem dX7_copyFrom_157 : decode cX7_copyFrom 157 = .ok (.invokestatic 59, 3) := by decide +kernel
theorem dX7_copyFrom_160 : decode cX7_copyFrom 160 = .ok (.return_, 1) := by decide +kernel
theorem dX7_meetingsOf_0 : decode cX7_meetingsOf 0 = .ok (.iconst 0, 1) := by decide +kernel
theorem dX7_meetingsOf_1 : decode cX7_meetingsOf 1 = .ok (.istore_n 2, 1) := by decide +kernel
theorem dX7_meetingsOf_2 : decode cX7_meetingsOf 2 = .ok (.iconst 0, 1) := by decide +kernel
theorem dX7_meetingsOf_3 : decode cX7_meetingsOf 3 = .ok (.istore_n 3, 1) := by decide +kernel
theorem dX7_meetingsOf_4 : decode cX7_meetingsOf 4 = .ok (.iload_n 3, 1) := by decide +kernel
theorem dX7_meetingsOf_5 : decode cX7_meetingsOf 5 = .ok (.aload_n 0, 1) := by decide +kernel
theorem dX7_meetingsOf_6 : decode cX7_meetingsOf 6 = .ok (.getfield 37, 3) := by decide +kernel
theorem dX7_meetingsOf_9 : decode cX7_meetingsOf 9 = .ok (.if_icmp .ge 35, 3) := by decide +kernel
theorem dX7_meetingsOf_12 : decode cX7_meetingsOf 12 = .ok (.aload_n 0, 1) := by decide +kernel
theorem dX7_meetingsOf_13 : decode cX7_meetingsOf 13 = .ok (.getfield 47, 3) := by decide +kernel
theorem dX7_meetingsOf_16 : decode cX7_meetingsOf 16 = .ok (.iload_n 3, 1) := by decide +kernel
theorem dX7_meetingsOf_17 : decode cX7_meetingsOf 17 = .ok (.iaload, 1) := by decide +kernel
theorem dX7_meetingsOf_18 : decode cX7_meetingsOf 18 = .ok (.iload_n 1, 1) := by decide +kernel
theorem dX7_meetingsOf_19 : decode cX7_meetingsOf 19 = .ok (.if_icmp .eq 13, 3) := by decide +kernel
theorem dX7_meetingsOf_22 : decode cX7_meetingsOf 22 = .ok (.aload_n 0, 1) := by decide +kernel
theorem dX7_meetingsOf_23 : decode cX7_meetingsOf 23 = .ok (.getfield 50, 3) := by decide +kernel
theorem dX7_meetingsOf_26 : decode cX7_meetingsOf 26 = .ok (.iload_n 3, 1) := by decide +kernel
theorem dX7_meetingsOf_27 : decode cX7_meetingsOf 27 = .ok (.iaload, 1) := by decide +kernel
theorem dX7_meetingsOf_28 : decode cX7_meetingsOf 28 = .ok (.iload_n 1, 1) := by decide +kernel
theorem dX7_meetingsOf_29 : decode cX7_meetingsOf 29 = .ok (.if_icmp .ne 9, 3) := by decide +kernel
theorem dX7_meetingsOf_32 : decode cX7_meetingsOf 32 = .ok (.iload_n 2, 1) := by decide +kernel
theorem dX7_meetingsOf_33 : decode cX7_meetingsOf 33 = .ok (.iconst 1, 1) := by decide +kernel
theorem dX7_meetingsOf_34 : decode cX7_meetingsOf 34 = .ok (.iload_n 3, 1) := by decide +kernel
theorem dX7_meetingsOf_35 : decode cX7_meetingsOf 35 = .ok (.ishl, 1) := by decide +kernel
theorem dX7_meetingsOf_36 : decode cX7_meetingsOf 36 = .ok (.ior, 1) := by decide +kernel
theorem dX7_meetingsOf_37 : decode cX7_meetingsOf 37 = .ok (.istore_n 2, 1) := by decide +kernel
theorem dX7_meetingsOf_38 : decode cX7_meetingsOf 38 = .ok (.iinc 3 1, 3) := by decide +kernel
theorem dX7_meetingsOf_41 : decode cX7_meetingsOf 41 = .ok (.goto (-37), 3) := by decide +kernel
theorem dX7_meetingsOf_44 : decode cX7_meetingsOf 44 = .ok (.iload_n 2, 1) := by decide +kernel
theorem dX7_meetingsOf_45 : decode cX7_meetingsOf 45 = .ok (.ireturn, 1) := by decide +kernel
theorem dX8_init_0 : decode cX8_init 0 = .ok (.aload_n 0, 1) := by decide +kernel
theorem dX8_init_1 : decode cX8_init 1 = .ok (.invokespecial 3, 3) := by decide +kernel
theorem dX8_init_4 : decode cX8_init 4 = .ok (.aload_n 0, 1) := by decide +kernel
theorem dX8_init_5 : decode cX8_init 5 = .ok (.new 9, 3) := by decide +kernel
theorem dX8_init_8 : decode cX8_init 8 = .ok (.dup, 1) := by decide +kernel
theorem dX8_init_9 : decode cX8_init 9 = .ok (.invokespecial 11, 3) := by decide +kernel
theorem dX8_init_12 : decode cX8_init 12 = .ok (.putfield 12, 3) := by decide +kernel
theorem dX8_init_15 : decode cX8_init 15 = .ok (.aload_n 0, 1) := by decide +kernel
theorem dX8_init_16 : decode cX8_init 16 = .ok (.iconst 0, 1) := by decide +kernel
theorem dX8_init_17 : decode cX8_init 17 = .ok (.putfield 18, 3) := by decide +kernel
theorem dX8_init_20 : decode cX8_init 20 = .ok (.aload_n 0, 1) := by decide +kernel
theorem dX8_init_21 : decode cX8_init 21 = .ok (.aload_n 1, 1) := by decide +kernel
theorem dX8_init_22 : decode cX8_init 22 = .ok (.putfield 22, 3) := by decide +kernel
theorem dX8_init_25 : decode cX8_init 25 = .ok (.return_, 1) := by decide +kernel
theorem dX8_read_0 : decode cX8_read 0 = .ok (.aload_n 0, 1) := by decide +kernel
theorem dX8_read_1 : decode cX8_read 1 = .ok (.getfield 12, 3) := by decide +kernel
theorem dX8_read_4 : decode cX8_read 4 = .ok (.invokevirtual 26, 3) := by decide +kernel
theorem dX8_read_7 : decode cX8_read 7 = .ok (.aload_n 0, 1) := by decide +kernel
theorem dX8_read_8 : decode cX8_read 8 = .ok (.iconst 0, 1) := by decide +kernel
theorem dX8_read_9 : decode cX8_read 9 = .ok (.putfield 18, 3) := by decide +kernel
theorem dX8_read_12 : decode cX8_read 12 = .ok (.aload_n 0, 1) := by decide +kernel
theorem dX8_read_13 : decode cX8_read 13 = .ok (.getfield 22, 3) := by decide +kernel
theorem dX8_read_16 : decode cX8_read 16 = .ok (.invokevirtual 29, 3) := by decide +kernel
theorem dX8_read_19 : decode cX8_read 19 = .ok (.iconst 1, 1) := by decide +kernel
theorem dX8_read_20 : decode cX8_read 20 = .ok (.istore_n 1, 1) := by decide +kernel
theorem dX8_read_21 : decode cX8_read 21 = .ok (.iconst 1, 1) := by decide +kernel
theorem dX8_read_22 : decode cX8_read 22 = .ok (.istore_n 2, 1) := by decide +kernel
theorem dX8_read_23 : decode cX8_read 23 = .ok (.iload_n 1, 1) := by decide +kernel
theorem dX8_read_24 : decode cX8_read 24 = .ok (.ifCond .eq 44, 3) := by decide +kernel
theorem dX8_read_27 : decode cX8_read 27 = .ok (.iload_n 2, 1) := by decide +kernel
theorem dX8_read_28 : decode cX8_read 28 = .ok (.sipush 400, 3) := by decide +kernel
theorem dX8_read_31 : decode cX8_read 31 = .ok (.if_icmp .gt 37, 3) := by decide +kernel
theorem dX8_read_34 : decode cX8_read 34 = .ok (.aload_n 0, 1) := by decide +kernel
theorem dX8_read_35 : decode cX8_read 35 = .ok (.iload_n 2, 1) := by decide +kernel
theorem dX8_read_36 : decode cX8_read 36 = .ok (.invokevirtual 34, 3) := by decide +kernel
theorem dX8_read_39 : decode cX8_read 39 = .ok (.aload_n 0, 1) := by decide +kernel
theorem dX8_read_40 : decode cX8_read 40 = .ok (.getfield 22, 3) := by decide +kernel
theorem dX8_read_43 : decode cX8_read 43 = .ok (.getfield 38, 3) := by decide +kernel
theorem dX8_read_46 : decode cX8_read 46 = .ok (.ifCond .ne 14, 3) := by decide +kernel
theorem dX8_read_49 : decode cX8_read 49 = .ok (.aload_n 0, 1) := by decide +kernel
theorem dX8_read_50 : decode cX8_read 50 = .ok (.invokevirtual 42, 3) := by decide +kernel
theorem dX8_read_53 : decode cX8_read 53 = .ok (.ifCond .eq 7, 3) := by decide +kernel
theorem dX8_read_56 : decode cX8_read 56 = .ok (.iconst 1, 1) := by decide +kernel
theorem dX8_read_57 : decode cX8_read 57 = .ok (.goto 4, 3) := by decide +kernel
theorem dX8_read_60 : decode cX8_read 60 = .ok (.iconst 0, 1) := by decide +kernel
theorem dX8_read_61 : decode cX8_read 61 = .ok (.istore_n 1, 1) := by decide +kernel
theorem dX8_read_62 : decode cX8_read 62 = .ok (.iinc 2 1, 3) := by decide +kernel
theorem dX8_read_65 : decode cX8_read 65 = .ok (.goto (-42), 3) := by decide +kernel
theorem dX8_read_68 : decode cX8_read 68 = .ok (.aload_n 0, 1) := by decide +kernel
theorem dX8_read_69 : decode cX8_read 69 = .ok (.getfield 22, 3) := by decide +kernel
theorem dX8_read_72 : decode cX8_read 72 = .ok (.getfield 38, 3) := by decide +kernel
theorem dX8_read_75 : decode cX8_read 75 = .ok (.ireturn, 1) := by decide +kernel
theorem dX8_isClauseBehind_0 : decode cX8_isClauseBehind 0 = .ok (.aload_n 0, 1) := by decide +kernel
theorem dX8_isClauseBehind_1 : decode cX8_isClauseBehind 1 = .ok (.getfield 22, 3) := by decide +kernel
theorem dX8_isClauseBehind_4 : decode cX8_isClauseBehind 4 = .ok (.invokevirtual 46, 3) := by decide +kernel
theorem dX8_isClauseBehind_7 : decode cX8_isClauseBehind 7 = .ok (.aload_n 0, 1) := by decide +kernel
theorem dX8_isClauseBehind_8 : decode cX8_isClauseBehind 8 = .ok (.getfield 22, 3) := by decide +kernel
theorem dX8_isClauseBehind_11 : decode cX8_isClauseBehind 11 = .ok (.getfield 49, 3) := by decide +kernel
theorem dX8_isClauseBehind_14 : decode cX8_isClauseBehind 14 = .ok (.bipush 59, 2) := by decide +kernel
theorem dX8_isClauseBehind_16 : decode cX8_isClauseBehind 16 = .ok (.if_icmp .eq 22, 3) := by decide +kernel
theorem dX8_isClauseBehind_19 : decode cX8_isClauseBehind 19 = .ok (.aload_n 0, 1) := by decide +kernel
theorem dX8_isClauseBehind_20 : decode cX8_isClauseBehind 20 = .ok (.getfield 22, 3) := by decide +kernel
theorem dX8_isClauseBehind_23 : decode cX8_isClauseBehind 23 = .ok (.getfield 49, 3) := by decide +kernel
theorem dX8_isClauseBehind_26 : decode cX8_isClauseBehind 26 = .ok (.iconst (-1), 1) := by decide +kernel
theorem dX8_isClauseBehind_27 : decode cX8_isClauseBehind 27 = .ok (.if_icmp .eq 11, 3) := by decide +kernel
theorem dX8_isClauseBehind_30 : decode cX8_isClauseBehind 30 = .ok (.aload_n 0, 1) := by decide +kernel
theorem dX8_isClauseBehind_31 : decode cX8_isClauseBehind 31 = .ok (.getfield 22, 3) := by decide +kernel
theorem dX8_isClauseBehind_34 : decode cX8_isClauseBehind 34 = .ok (.iconst 0, 1) := by decide +kernel
theorem dX8_isClauseBehind_35 : decode cX8_isClauseBehind 35 = .ok (.invokevirtual 52, 3) := by decide +kernel
theorem dX8_isClauseBehind_38 : decode cX8_isClauseBehind 38 = .ok (.aload_n 0, 1) := by decide +kernel
theorem dX8_isClauseBehind_39 : decode cX8_isClauseBehind 39 = .ok (.getfield 22, 3) := by decide +kernel
theorem dX8_isClauseBehind_42 : decode cX8_isClauseBehind 42 = .ok (.getfield 49, 3) := by decide +kernel
theorem dX8_isClauseBehind_45 : decode cX8_isClauseBehind 45 = .ok (.bipush 59, 2) := by decide +kernel
theorem dX8_isClauseBehind_47 : decode cX8_isClauseBehind 47 = .ok (.if_icmp .ne 7, 3) := by decide +kernel
theorem dX8_isClauseBehind_50 : decode cX8_isClauseBehind 50 = .ok (.iconst 1, 1) := by decide +kernel
theorem dX8_isClauseBehind_51 : decode cX8_isClauseBehind 51 = .ok (.goto 4, 3) := by decide +kernel
theorem dX8_isClauseBehind_54 : decode cX8_isClauseBehind 54 = .ok (.iconst 0, 1) := by decide +kernel
theorem dX8_isClauseBehind_55 : decode cX8_isClauseBehind 55 = .ok (.ireturn, 1) := by decide +kernel
theorem dX8_readClause_0 : decode cX8_readClause 0 = .ok (.aload_n 0, 1) := by decide +kernel
theorem dX8_readClause_1 : decode cX8_readClause 1 = .ok (.getfield 22, 3) := by decide +kernel
theorem dX8_readClause_4 : decode cX8_readClause 4 = .ok (.invokevirtual 46, 3) := by decide +kernel
theorem dX8_readClause_7 : decode cX8_readClause 7 = .ok (.aload_n 0, 1) := by decide +kernel
theorem dX8_readClause_8 : decode cX8_readClause 8 = .ok (.getfield 22, 3) := by decide +kernel
theorem dX8_readClause_11 : decode cX8_readClause 11 = .ok (.ldc 55, 2) := by decide +kernel
theorem dX8_readClause_13 : decode cX8_readClause 13 = .ok (.invokevirtual 56, 3) := by decide +kernel
theorem dX8_readClause_16 : decode cX8_readClause 16 = .ok (.istore_n 2, 1) := by decide +kernel
theorem dX8_readClause_17 : decode cX8_readClause 17 = .ok (.aload_n 0, 1) := by decide +kernel
theorem dX8_readClause_18 : decode cX8_readClause 18 = .ok (.invokevirtual 60, 3) := by decide +kernel
theorem dX8_readClause_21 : decode cX8_readClause 21 = .ok (.ifCond .ne 14, 3) := by decide +kernel
theorem dX8_readClause_24 : decode cX8_readClause 24 = .ok (.aload_n 0, 1) := by decide +kernel
theorem dX8_readClause_25 : decode cX8_readClause 25 = .ok (.getfield 22, 3) := by decide +kernel
theorem dX8_readClause_28 : decode cX8_readClause 28 = .ok (.iconst 0, 1) := by decide +kernel
theorem dX8_readClause_29 : decode cX8_readClause 29 = .ok (.invokevirtual 52, 3) := by decide +kernel
theorem dX8_readClause_32 : decode cX8_readClause 32 = .ok (.goto 106, 3) := by decide +kernel
theorem dX8_readClause_35 : decode cX8_readClause 35 = .ok (.iload_n 1, 1) := by decide +kernel
theorem dX8_readClause_36 : decode cX8_readClause 36 = .ok (.bipush 40, 2) := by decide +kernel
theorem dX8_readClause_38 : decode cX8_readClause 38 = .ok (.if_icmp .gt 17, 3) := by decide +kernel
theorem dX8_readClause_41 : decode cX8_readClause 41 = .ok (.iload_n 2, 1) := by decide +kernel
theorem dX8_readClause_42 : decode cX8_readClause 42 = .ok (.iload_n 1, 1) := by decide +kernel
theorem dX8_readClause_43 : decode cX8_readClause 43 = .ok (.iconst 1, 1) := by decide +kernel
theorem dX8_readClause_44 : decode cX8_readClause 44 = .ok (.if_icmp .ne 7, 3) := by decide +kernel
theorem dX8_readClause_47 : decode cX8_readClause 47 = .ok (.iconst 1, 1) := by decide +kernel
theorem dX8_readClause_48 : decode cX8_readClause 48 = .ok (.goto 4, 3) := by decide +kernel
theorem dX8_readClause_51 : decode cX8_readClause 51 = .ok (.iconst 0, 1) := by decide +kernel
theorem dX8_readClause_52 : decode cX8_readClause 52 = .ok (.if_icmp .eq 14, 3) := by decide +kernel
theorem dX8_readClause_55 : decode cX8_readClause 55 = .ok (.aload_n 0, 1) := by decide +kernel
theorem dX8_readClause_56 : decode cX8_readClause 56 = .ok (.getfield 22, 3) := by decide +kernel
theorem dX8_readClause_59 : decode cX8_readClause 59 = .ok (.iconst 4, 1) := by decide +kernel
theorem dX8_readClause_60 : decode cX8_readClause 60 = .ok (.invokevirtual 52, 3) := by decide +kernel
theorem dX8_readClause_63 : decode cX8_readClause 63 = .ok (.goto 75, 3) := by decide +kernel
theorem dX8_readClause_66 : decode cX8_readClause 66 = .ok (.iload_n 2, 1) := by decide +kernel
theorem dX8_readClause_67 : decode cX8_readClause 67 = .ok (.ifCond .eq 10, 3) := by decide +kernel
theorem dX8_readClause_70 : decode cX8_readClause 70 = .ok (.aload_n 0, 1) := by decide +kernel
theorem dX8_readClause_71 : decode cX8_readClause 71 = .ok (.invokevirtual 63, 3) := by decide +kernel
theorem dX8_readClause_74 : decode cX8_readClause 74 = .ok (.goto 64, 3) := by decide +kernel
theorem dX8_readClause_77 : decode cX8_readClause 77 = .ok (.aload_n 0, 1) := by decide +kernel
theorem dX8_readClause_78 : decode cX8_readClause 78 = .ok (.getfield 22, 3) := by decide +kernel
theorem dX8_readClause_81 : decode cX8_readClause 81 = .ok (.ldc 66, 2) := by decide +kernel
theorem dX8_readClause_83 : decode cX8_readClause 83 = .ok (.invokevirtual 56, 3) := by decide +kernel
theorem dX8_readClause_86 : decode cX8_readClause 86 = .ok (.ifCond .eq 10, 3) := by decide +kernel
theorem dX8_readClause_89 : decode cX8_readClause 89 = .ok (.aload_n 0, 1) := by decide +kernel
theorem dX8_readClause_90 : decode cX8_readClause 90 = .ok (.invokevirtual 68, 3) := by decide +kernel
theorem dX8_readClause_93 : decode cX8_readClause 93 = .ok (.goto 45, 3) := by decide +kernel
theorem dX8_readClause_96 : decode cX8_readClause 96 = .ok (.aload_n 0, 1) := by decide +kernel
theorem dX8_readClause_97 : decode cX8_readClause 97 = .ok (.getfield 22, 3) := by decide +kernel
theorem dX8_readClause_100 : decode cX8_readClause 100 = .ok (.ldc 71, 2) := by decide +kernel
theorem dX8_readClause_102 : decode cX8_readClause 102 = .ok (.invokevirtual 56, 3) := by decide +kernel
theorem dX8_readClause_105 : decode cX8_readClause 105 = .ok (.ifCond .eq 10, 3) := by decide +kernel
theorem dX8_readClause_108 : decode cX8_readClause 108 = .ok (.aload_n 0, 1) := by decide +kernel
theorem dX8_readClause_109 : decode cX8_readClause 109 = .ok (.invokevirtual 73, 3) := by decide +kernel
theorem dX8_readClause_112 : decode cX8_readClause 112 = .ok (.goto 26, 3) := by decide +kernel
theorem dX8_readClause_115 : decode cX8_readClause 115 = .ok (.aload_n 0, 1) := by decide +kernel
theorem dX8_readClause_116 : decode cX8_readClause 116 = .ok (.getfield 22, 3) := by decide +kernel
theorem dX8_readClause_119 : decode cX8_readClause 119 = .ok (.ldc 76, 2) := by decide +kernel
theorem dX8_readClause_121 : decode cX8_readClause 121 = .ok (.invokevirtual 56, 3) := by decide +kernel
theorem dX8_readClause_124 : decode cX8_readClause 124 = .ok (.ifCond .eq 10, 3) := by decide +kernel
theorem dX8_readClause_127 : decode cX8_readClause 127 = .ok (.aload_n 0, 1) := by decide +kernel
theorem dX8_readClause_128 : decode cX8_readClause 128 = .ok (.invokevirtual 78, 3) := by decide +kernel
theorem dX8_readClause_131 : decode cX8_readClause 131 = .ok (.goto 7, 3) := by decide +kernel
theorem dX8_readClause_134 : decode cX8_readClause 134 = .ok (.aload_n 0, 1) := by decide +kernel
theorem dX8_readClause_135 : decode cX8_readClause 135 = .ok (.invokevirtual 81, 3) := by decide +kernel
theorem dX8_readClause_138 : decode cX8_readClause 138 = .ok (.return_, 1) := by decide +kernel
theorem dX8_isClauseWord_0 : decode cX8_isClauseWord 0 = .ok (.aload_n 0, 1) := by decide +kernel
theorem dX8_isClauseWord_1 : decode cX8_isClauseWord 1 = .ok (.getfield 22, 3) := by decide +kernel
theorem dX8_isClauseWord_4 : decode cX8_isClauseWord 4 = .ok (.ldc 55, 2) := by decide +kernel
theorem dX8_isClauseWord_6 : decode cX8_isClauseWord 6 = .ok (.invokevirtual 56, 3) := by decide +kernel
theorem dX8_isClauseWord_9 : decode cX8_isClauseWord 9 = .ok (.ifCond .ne 51, 3) := by decide +kernel
theorem dX8_isClauseWord_12 : decode cX8_isClauseWord 12 = .ok (.aload_n 0, 1) := by decide +kernel
theorem dX8_isClauseWord_13 : decode cX8_isClauseWord 13 = .ok (.getfield 22, 3) := by decide +kernel
theorem dX8_isClauseWord_16 : decode cX8_isClauseWord 16 = .ok (.ldc 66, 2) := by decide +kernel
theorem dX8_isClauseWord_18 : decode cX8_isClauseWord 18 = .ok (.invokevirtual 56, 3) := by decide +kernel
theorem dX8_isClauseWord_21 : decode cX8_isClauseWord 21 = .ok (.ifCond .ne 39, 3) := by decide +kernel
theorem dX8_isClauseWord_24 : decode cX8_isClauseWord 24 = .ok (.aload_n 0, 1) := by decide +kernel
theorem dX8_isClauseWord_25 : decode cX8_isClauseWord 25 = .ok (.getfield 22, 3) := by decide +kernel
theorem dX8_isClauseWord_28 : decode cX8_isClauseWord 28 = .ok (.ldc 71, 2) := by decide +kernel
theorem dX8_isClauseWord_30 : decode cX8_isClauseWord 30 = .ok (.invokevirtual 56, 3) := by decide +kernel
theorem dX8_isClauseWord_33 : decode cX8_isClauseWord 33 = .ok (.ifCond .ne 27, 3) := by decide +kernel
theorem dX8_isClauseWord_36 : decode cX8_isClauseWord 36 = .ok (.aload_n 0, 1) := by decide +kernel
theorem dX8_isClauseWord_37 : decode cX8_isClauseWord 37 = .ok (.getfield 22, 3) := by decide +kernel
theorem dX8_isClauseWord_40 : decode cX8_isClauseWord 40 = .ok (.ldc 76, 2) := by decide +kernel
theorem dX8_isClauseWord_42 : decode cX8_isClauseWord 42 = .ok (.invokevirtual 56, 3) := by decide +kernel
theorem dX8_isClauseWord_45 : decode cX8_isClauseWord 45 = .ok (.ifCond .ne 15, 3) := by decide +kernel
theorem dX8_isClauseWord_48 : decode cX8_isClauseWord 48 = .ok (.aload_n 0, 1) := by decide +kernel
theorem dX8_isClauseWord_49 : decode cX8_isClauseWord 49 = .ok (.getfield 22, 3) := by decide +kernel
theorem dX8_isClauseWord_52 : decode cX8_isClauseWord 52 = .ok (.ldc 84, 2) := by decide +kernel
theorem dX8_isClauseWord_54 : decode cX8_isClauseWord 54 = .ok (.invokevirtual 56, 3) := by decide +kernel
theorem dX8_isClauseWord_57 : decode cX8_isClauseWord 57 = .ok (.ifCond .eq 7, 3) := by decide +kernel
theorem dX8_isClauseWord_60 : decode cX8_isClauseWord 60 = .ok (.iconst 1, 1) := by decide +kernel
theorem dX8_isClauseWord_61 : decode cX8_isClauseWord 61 = .ok (.goto 4, 3) := by decide +kernel
theorem dX8_isClauseWord_64 : decode cX8_isClauseWord 64 = .ok (.iconst 0, 1) := by decide +kernel
theorem dX8_isClauseWord_65 : decode cX8_isClauseWord 65 = .ok (.ireturn, 1) := by decide +kernel
theorem dX8_readLaw_0 : decode cX8_readLaw 0 = .ok (.aload_n 0, 1) := by decide +kernel
theorem dX8_readLaw_1 : decode cX8_readLaw 1 = .ok (.getfield 12, 3) := by decide +kernel
theorem dX8_readLaw_4 : decode cX8_readLaw 4 = .ok (.aload_n 0, 1) := by decide +kernel
theorem dX8_readLaw_5 : decode cX8_readLaw 5 = .ok (.getfield 22, 3) := by decide +kernel
theorem dX8_readLaw_8 : decode cX8_readLaw 8 = .ok (.iconst 0, 1) := by decide +kernel
theorem dX8_readLaw_9 : decode cX8_readLaw 9 = .ok (.bipush 59, 2) := by decide +kernel
theorem dX8_readLaw_11 : decode cX8_readLaw 11 = .ok (.invokevirtual 86, 3) := by decide +kernel
