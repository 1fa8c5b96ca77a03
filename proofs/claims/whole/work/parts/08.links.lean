/-! the links of the class -/
set_option maxRecDepth 100000 in
theorem lkX11_10 : lkF RX11 10 10 0 := Or.inl (tb_at 515 (by decide +kernel) rfl)
set_option maxRecDepth 100000 in
theorem lkX11_21 : lkF RX11 21 10 1 := Or.inl (tb_at 516 (by decide +kernel) rfl)
set_option maxRecDepth 100000 in
theorem lkX11_28 : lkF RX11 28 10 2 := Or.inl (tb_at 517 (by decide +kernel) rfl)
set_option maxRecDepth 100000 in
theorem lkX11_34 : lkF RX11 34 10 3 := Or.inl (tb_at 518 (by decide +kernel) rfl)
set_option maxRecDepth 100000 in
theorem lkX11_38 : lkF RX11 38 10 4 := Or.inl (tb_at 519 (by decide +kernel) rfl)
set_option maxRecDepth 100000 in
theorem lkX11_45 : lkF RX11 45 10 5 := Or.inl (tb_at 520 (by decide +kernel) rfl)
set_option maxRecDepth 100000 in
theorem lkX11_49 : lkF RX11 49 10 6 := Or.inl (tb_at 521 (by decide +kernel) rfl)
set_option maxRecDepth 100000 in
theorem lkX11_56 : lkF RX11 56 10 7 := Or.inl (tb_at 522 (by decide +kernel) rfl)
set_option maxRecDepth 100000 in
theorem lkX11_63 : lkF RX11 63 10 8 := Or.inl (tb_at 523 (by decide +kernel) rfl)
set_option maxRecDepth 100000 in
theorem lkX11_67 : lkF RX11 67 5 1 := Or.inr ⟨"LateAlways", (tb_at 139 (by decide +kernel) rfl)⟩
set_option maxRecDepth 100000 in
theorem stX11_70 : siteV RX11 70 RX6 mdX6_append 1 := ⟨⟨(tb_at 547 (by decide +kernel) rfl), (tb_at 550 (by decide +kernel) rfl), (tb_at 103 (by decide +kernel) rfl), by decide, by decide, by decide +kernel⟩, (tb_at 548 (by decide +kernel) rfl), (tb_at 549 (by decide +kernel) rfl)⟩
set_option maxRecDepth 100000 in
theorem stX11_74 : siteV RX11 74 RX8 mdX8_read 0 := ⟨⟨(tb_at 559 (by decide +kernel) rfl), (tb_at 562 (by decide +kernel) rfl), (tb_at 104 (by decide +kernel) rfl), by decide, by decide, by decide +kernel⟩, (tb_at 560 (by decide +kernel) rfl), (tb_at 561 (by decide +kernel) rfl)⟩
set_option maxRecDepth 100000 in
theorem lkX11_78 : lkF RX11 78 7 1 := Or.inr ⟨"LateAlways", (tb_at 269 (by decide +kernel) rfl)⟩
set_option maxRecDepth 100000 in
theorem stX11_82 : siteV RX11 82 RX10 mdX10_moveInto 1 := ⟨⟨(tb_at 695 (by decide +kernel) rfl), (tb_at 698 (by decide +kernel) rfl), (tb_at 107 (by decide +kernel) rfl), by decide, by decide, by decide +kernel⟩, (tb_at 696 (by decide +kernel) rfl), (tb_at 697 (by decide +kernel) rfl)⟩
set_option maxRecDepth 100000 in
theorem lkX11_86 : lkF RX11 86 9 0 := Or.inr ⟨"LateAlways", (tb_at 350 (by decide +kernel) rfl)⟩
set_option maxRecDepth 100000 in
theorem lkX11_87 : lkF RX11 87 6 8 := Or.inr ⟨"LateAlways", (tb_at 210 (by decide +kernel) rfl)⟩
set_option maxRecDepth 100000 in
theorem stX11_92 : siteV RX11 92 RX3 mdX3_read 0 := ⟨⟨(tb_at 718 (by decide +kernel) rfl), (tb_at 721 (by decide +kernel) rfl), (tb_at 106 (by decide +kernel) rfl), by decide, by decide, by decide +kernel⟩, (tb_at 719 (by decide +kernel) rfl), (tb_at 720 (by decide +kernel) rfl)⟩
set_option maxRecDepth 100000 in
theorem stX11_93 : siteV RX11 93 RX3 mdX3_ruleThatWasRead 0 := ⟨⟨(tb_at 823 (by decide +kernel) rfl), (tb_at 826 (by decide +kernel) rfl), (tb_at 106 (by decide +kernel) rfl), by decide, by decide, by decide +kernel⟩, (tb_at 824 (by decide +kernel) rfl), (tb_at 825 (by decide +kernel) rfl)⟩
set_option maxRecDepth 100000 in
theorem lkX11_97 : lkF RX11 97 9 2 := Or.inr ⟨"LateAlways", (tb_at 354 (by decide +kernel) rfl)⟩
set_option maxRecDepth 100000 in
theorem stX11_100 : siteV RX11 100 RX11 mdX11_isPerson 1 := ⟨⟨(tb_at 868 (by decide +kernel) rfl), (tb_at 871 (by decide +kernel) rfl), (tb_at 102 (by decide +kernel) rfl), by decide, by decide, by decide +kernel⟩, (tb_at 870 (by decide +kernel) rfl), (tb_at 26 (by decide +kernel) rfl)⟩
set_option maxRecDepth 100000 in
theorem lkX11_104 : lkF RX11 104 9 1 := Or.inr ⟨"LateAlways", (tb_at 352 (by decide +kernel) rfl)⟩
set_option maxRecDepth 100000 in
theorem lkX11_108 : lkF RX11 108 4 0 := Or.inr ⟨"LateAlways", (tb_at 345 (by decide +kernel) rfl)⟩
set_option maxRecDepth 100000 in
theorem lkX11_114 : lkF RX11 114 6 9 := Or.inr ⟨"LateAlways", (tb_at 217 (by decide +kernel) rfl)⟩
set_option maxRecDepth 100000 in
theorem stX11_117 : siteV RX11 117 RX5 mdX5_isExempt 1 := ⟨⟨(tb_at 872 (by decide +kernel) rfl), (tb_at 875 (by decide +kernel) rfl), (tb_at 108 (by decide +kernel) rfl), by decide, by decide, by decide +kernel⟩, (tb_at 873 (by decide +kernel) rfl), (tb_at 874 (by decide +kernel) rfl)⟩
set_option maxRecDepth 100000 in
theorem stX11_120 : siteV RX11 120 RX7 mdX7_meetingsOf 1 := ⟨⟨(tb_at 876 (by decide +kernel) rfl), (tb_at 879 (by decide +kernel) rfl), (tb_at 105 (by decide +kernel) rfl), by decide, by decide, by decide +kernel⟩, (tb_at 877 (by decide +kernel) rfl), (tb_at 878 (by decide +kernel) rfl)⟩
set_option maxRecDepth 100000 in
theorem stX11_124 : siteV RX11 124 RX11 mdX11_isMeeting 1 := ⟨⟨(tb_at 884 (by decide +kernel) rfl), (tb_at 887 (by decide +kernel) rfl), (tb_at 102 (by decide +kernel) rfl), by decide, by decide, by decide +kernel⟩, (tb_at 886 (by decide +kernel) rfl), (tb_at 27 (by decide +kernel) rfl)⟩
set_option maxRecDepth 100000 in
theorem lkX11_127 : lkF RX11 127 6 11 := Or.inr ⟨"LateAlways", (tb_at 223 (by decide +kernel) rfl)⟩
set_option maxRecDepth 100000 in
theorem lkX11_130 : lkF RX11 130 6 12 := Or.inr ⟨"LateAlways", (tb_at 227 (by decide +kernel) rfl)⟩
set_option maxRecDepth 100000 in
theorem lkX11_133 : lkF RX11 133 6 14 := Or.inr ⟨"LateAlways", (tb_at 234 (by decide +kernel) rfl)⟩
set_option maxRecDepth 100000 in
theorem lkX11_136 : lkF RX11 136 6 0 := Or.inr ⟨"LateAlways", (tb_at 180 (by decide +kernel) rfl)⟩
set_option maxRecDepth 100000 in
theorem stX11_140 : siteV RX11 140 RX10 mdX10_rememberForUndo 0 := ⟨⟨(tb_at 892 (by decide +kernel) rfl), (tb_at 895 (by decide +kernel) rfl), (tb_at 107 (by decide +kernel) rfl), by decide, by decide, by decide +kernel⟩, (tb_at 893 (by decide +kernel) rfl), (tb_at 894 (by decide +kernel) rfl)⟩
set_option maxRecDepth 100000 in
theorem stX11_143 : siteV RX11 143 RX11 mdX11_startFromNow 0 := ⟨⟨(tb_at 898 (by decide +kernel) rfl), (tb_at 901 (by decide +kernel) rfl), (tb_at 102 (by decide +kernel) rfl), by decide, by decide, by decide +kernel⟩, (tb_at 900 (by decide +kernel) rfl), (tb_at 28 (by decide +kernel) rfl)⟩
set_option maxRecDepth 100000 in
theorem stX11_146 : siteV RX11 146 RX0 mdX0_goDay 0 := ⟨⟨(tb_at 916 (by decide +kernel) rfl), (tb_at 919 (by decide +kernel) rfl), (tb_at 109 (by decide +kernel) rfl), by decide, by decide, by decide +kernel⟩, (tb_at 917 (by decide +kernel) rfl), (tb_at 918 (by decide +kernel) rfl)⟩
set_option maxRecDepth 100000 in
theorem lkX11_149 : lkF RX11 149 0 0 := Or.inr ⟨"LateAlways", (tb_at 434 (by decide +kernel) rfl)⟩
set_option maxRecDepth 100000 in
theorem stX11_150 : siteV RX11 150 RX5 mdX5_copyFrom 1 := ⟨⟨(tb_at 911 (by decide +kernel) rfl), (tb_at 914 (by decide +kernel) rfl), (tb_at 108 (by decide +kernel) rfl), by decide, by decide, by decide +kernel⟩, (tb_at 912 (by decide +kernel) rfl), (tb_at 913 (by decide +kernel) rfl)⟩
set_option maxRecDepth 100000 in
theorem lkX11_154 : lkF RX11 154 0 15 := Or.inr ⟨"LateAlways", (tb_at 456 (by decide +kernel) rfl)⟩
set_option maxRecDepth 100000 in
theorem stX11_157 : siteV RX11 157 RX11 mdX11_act 3 := ⟨⟨(tb_at 979 (by decide +kernel) rfl), (tb_at 982 (by decide +kernel) rfl), (tb_at 102 (by decide +kernel) rfl), by decide, by decide, by decide +kernel⟩, (tb_at 981 (by decide +kernel) rfl), (tb_at 36 (by decide +kernel) rfl)⟩
set_option maxRecDepth 100000 in
theorem lkX11_161 : lkF RX11 161 9 8 := Or.inr ⟨"LateAlways", (tb_at 364 (by decide +kernel) rfl)⟩
set_option maxRecDepth 100000 in
theorem stX11_164 : siteV RX11 164 RX10 mdX10_undoLast 0 := ⟨⟨(tb_at 995 (by decide +kernel) rfl), (tb_at 998 (by decide +kernel) rfl), (tb_at 107 (by decide +kernel) rfl), by decide, by decide, by decide +kernel⟩, (tb_at 996 (by decide +kernel) rfl), (tb_at 997 (by decide +kernel) rfl)⟩
set_option maxRecDepth 100000 in
theorem stX11_167 : siteV RX11 167 RX0 mdX0_goDays 1 := ⟨⟨(tb_at 1003 (by decide +kernel) rfl), (tb_at 1006 (by decide +kernel) rfl), (tb_at 109 (by decide +kernel) rfl), by decide, by decide, by decide +kernel⟩, (tb_at 1004 (by decide +kernel) rfl), (tb_at 1005 (by decide +kernel) rfl)⟩
set_option maxRecDepth 100000 in
theorem lkX11_170 : lkF RX11 170 0 1 := Or.inr ⟨"LateAlways", (tb_at 436 (by decide +kernel) rfl)⟩
set_option maxRecDepth 100000 in
theorem lkX11_174 : lkF RX11 174 1 1 := Or.inr ⟨"LateAlways", (tb_at 403 (by decide +kernel) rfl)⟩
set_option maxRecDepth 100000 in
theorem lkX11_179 : lkF RX11 179 1 3 := Or.inr ⟨"LateAlways", (tb_at 409 (by decide +kernel) rfl)⟩
set_option maxRecDepth 100000 in
theorem lkX11_182 : lkF RX11 182 1 2 := Or.inr ⟨"LateAlways", (tb_at 406 (by decide +kernel) rfl)⟩
set_option maxRecDepth 100000 in
theorem lkX11_185 : lkF RX11 185 1 5 := Or.inr ⟨"LateAlways", (tb_at 415 (by decide +kernel) rfl)⟩
set_option maxRecDepth 100000 in
theorem lkX11_188 : lkF RX11 188 6 7 := Or.inr ⟨"LateAlways", (tb_at 206 (by decide +kernel) rfl)⟩
set_option maxRecDepth 100000 in
theorem lmX11_191 : Cond.methodLink RX11 191 Lib.Math.min.name ∈ TB := (tb_at 1024 (by decide +kernel) rfl)
set_option maxRecDepth 100000 in
theorem lmX11_197 : Cond.methodLink RX11 197 Lib.Math.max.name ∈ TB := (tb_at 1025 (by decide +kernel) rfl)
set_option maxRecDepth 100000 in
theorem lkX11_200 : lkF RX11 200 0 16 := Or.inr ⟨"LateAlways", (tb_at 458 (by decide +kernel) rfl)⟩
set_option maxRecDepth 100000 in
theorem lkX11_203 : lkF RX11 203 0 9 := Or.inr ⟨"LateAlways", (tb_at 448 (by decide +kernel) rfl)⟩
set_option maxRecDepth 100000 in
theorem stX11_206 : siteS RX11 206 mdX9_meantByFirst 1 := ⟨⟨(tb_at 1034 (by decide +kernel) rfl), (tb_at 1036 (by decide +kernel) rfl), (tb_at 111 (by decide +kernel) rfl), by decide, by decide, by decide +kernel⟩, (tb_at 1035 (by decide +kernel) rfl)⟩
set_option maxRecDepth 100000 in
theorem stX11_209 : siteS RX11 209 mdX9_meantBySecond 1 := ⟨⟨(tb_at 1037 (by decide +kernel) rfl), (tb_at 1039 (by decide +kernel) rfl), (tb_at 111 (by decide +kernel) rfl), by decide, by decide, by decide +kernel⟩, (tb_at 1038 (by decide +kernel) rfl)⟩
set_option maxRecDepth 100000 in
theorem stX11_212 : siteV RX11 212 RX0 mdX0_fixMeant 3 := ⟨⟨(tb_at 1040 (by decide +kernel) rfl), (tb_at 1043 (by decide +kernel) rfl), (tb_at 109 (by decide +kernel) rfl), by decide, by decide, by decide +kernel⟩, (tb_at 1041 (by decide +kernel) rfl), (tb_at 1042 (by decide +kernel) rfl)⟩
set_option maxRecDepth 100000 in
theorem lkX11_216 : lkF RX11 216 1 4 := Or.inr ⟨"LateAlways", (tb_at 412 (by decide +kernel) rfl)⟩
set_option maxRecDepth 100000 in
theorem stX11_219 : siteV RX11 219 RX9 mdX9_keepTwo 3 := ⟨⟨(tb_at 1044 (by decide +kernel) rfl), (tb_at 1047 (by decide +kernel) rfl), (tb_at 111 (by decide +kernel) rfl), by decide, by decide, by decide +kernel⟩, (tb_at 1045 (by decide +kernel) rfl), (tb_at 1046 (by decide +kernel) rfl)⟩
set_option maxRecDepth 100000 in
theorem stX11_222 : siteV RX11 222 RX9 mdX9_neitherParts 1 := ⟨⟨(tb_at 1048 (by decide +kernel) rfl), (tb_at 1051 (by decide +kernel) rfl), (tb_at 111 (by decide +kernel) rfl), by decide, by decide, by decide +kernel⟩, (tb_at 1049 (by decide +kernel) rfl), (tb_at 1050 (by decide +kernel) rfl)⟩
set_option maxRecDepth 100000 in
theorem stX11_225 : siteV RX11 225 RX9 mdX9_keepState 2 := ⟨⟨(tb_at 1056 (by decide +kernel) rfl), (tb_at 1059 (by decide +kernel) rfl), (tb_at 111 (by decide +kernel) rfl), by decide, by decide, by decide +kernel⟩, (tb_at 1057 (by decide +kernel) rfl), (tb_at 1058 (by decide +kernel) rfl)⟩
set_option maxRecDepth 100000 in
theorem stX11_229 : siteV RX11 229 RX9 mdX9_lastAlike 1 := ⟨⟨(tb_at 1061 (by decide +kernel) rfl), (tb_at 1064 (by decide +kernel) rfl), (tb_at 111 (by decide +kernel) rfl), by decide, by decide, by decide +kernel⟩, (tb_at 1062 (by decide +kernel) rfl), (tb_at 1063 (by decide +kernel) rfl)⟩
set_option maxRecDepth 100000 in
theorem stX11_232 : siteV RX11 232 RX11 mdX11_isSpan 1 := ⟨⟨(tb_at 1069 (by decide +kernel) rfl), (tb_at 1072 (by decide +kernel) rfl), (tb_at 102 (by decide +kernel) rfl), by decide, by decide, by decide +kernel⟩, (tb_at 1071 (by decide +kernel) rfl), (tb_at 37 (by decide +kernel) rfl)⟩
set_option maxRecDepth 100000 in
theorem lkX11_235 : lkF RX11 235 0 7 := Or.inr ⟨"LateAlways", (tb_at 444 (by decide +kernel) rfl)⟩
set_option maxRecDepth 100000 in
theorem lkX11_238 : lkF RX11 238 0 8 := Or.inr ⟨"LateAlways", (tb_at 446 (by decide +kernel) rfl)⟩
set_option maxRecDepth 100000 in
theorem lkX11_241 : lkF RX11 241 9 4 := Or.inr ⟨"LateAlways", (tb_at 359 (by decide +kernel) rfl)⟩
set_option maxRecDepth 100000 in
theorem stX11_244 : siteV RX11 244 RX10 mdX10_addLog 3 := ⟨⟨(tb_at 1077 (by decide +kernel) rfl), (tb_at 1080 (by decide +kernel) rfl), (tb_at 107 (by decide +kernel) rfl), by decide, by decide, by decide +kernel⟩, (tb_at 1078 (by decide +kernel) rfl), (tb_at 1079 (by decide +kernel) rfl)⟩
set_option maxRecDepth 100000 in
theorem stX11_247 : siteV RX11 247 RX11 mdX11_habitsThatFit 1 := ⟨⟨(tb_at 1085 (by decide +kernel) rfl), (tb_at 1088 (by decide +kernel) rfl), (tb_at 102 (by decide +kernel) rfl), by decide, by decide, by decide +kernel⟩, (tb_at 1087 (by decide +kernel) rfl), (tb_at 38 (by decide +kernel) rfl)⟩
set_option maxRecDepth 100000 in
theorem stX11_250 : siteS RX11 250 mdJ6_bitCount_0f7a4 1 := ⟨⟨(tb_at 1113 (by decide +kernel) rfl), (tb_at 1115 (by decide +kernel) rfl), (tb_at 122 (by decide +kernel) rfl), by decide, by decide, by decide +kernel⟩, (tb_at 1114 (by decide +kernel) rfl)⟩
set_option maxRecDepth 100000 in
theorem stX11_255 : siteS RX11 255 mdX11_habitOf 1 := ⟨⟨(tb_at 1089 (by decide +kernel) rfl), (tb_at 1091 (by decide +kernel) rfl), (tb_at 102 (by decide +kernel) rfl), by decide, by decide, by decide +kernel⟩, (tb_at 1090 (by decide +kernel) rfl)⟩
set_option maxRecDepth 100000 in
theorem stX11_258 : siteV RX11 258 RX9 mdX9_mostAlike 2 := ⟨⟨(tb_at 1123 (by decide +kernel) rfl), (tb_at 1126 (by decide +kernel) rfl), (tb_at 111 (by decide +kernel) rfl), by decide, by decide, by decide +kernel⟩, (tb_at 1124 (by decide +kernel) rfl), (tb_at 1125 (by decide +kernel) rfl)⟩
set_option maxRecDepth 100000 in
theorem lkX11_261 : lkF RX11 261 0 17 := Or.inr ⟨"LateAlways", (tb_at 460 (by decide +kernel) rfl)⟩
set_option maxRecDepth 100000 in
theorem lcX11_264 : Cond.constant RX11 264 (-1000000) ∈ TB := (tb_at 1140 (by decide +kernel) rfl)
set_option maxRecDepth 100000 in
theorem lkX11_265 : lkF RX11 265 9 3 := Or.inr ⟨"LateAlways", (tb_at 356 (by decide +kernel) rfl)⟩
set_option maxRecDepth 100000 in
theorem stX11_268 : siteV RX11 268 RX0 mdX0_drawFrom 1 := ⟨⟨(tb_at 1149 (by decide +kernel) rfl), (tb_at 1152 (by decide +kernel) rfl), (tb_at 109 (by decide +kernel) rfl), by decide, by decide, by decide +kernel⟩, (tb_at 1150 (by decide +kernel) rfl), (tb_at 1151 (by decide +kernel) rfl)⟩
set_option maxRecDepth 100000 in
theorem lkX11_271 : lkF RX11 271 0 14 := Or.inr ⟨"LateAlways", (tb_at 454 (by decide +kernel) rfl)⟩
set_option maxRecDepth 100000 in
theorem lkX11_272 : lkF RX11 272 6 1 := Or.inr ⟨"LateAlways", (tb_at 184 (by decide +kernel) rfl)⟩
set_option maxRecDepth 100000 in
theorem lkX11_273 : lkF RX11 273 6 2 := Or.inr ⟨"LateAlways", (tb_at 188 (by decide +kernel) rfl)⟩
set_option maxRecDepth 100000 in
theorem lkX11_274 : lkF RX11 274 6 3 := Or.inr ⟨"LateAlways", (tb_at 192 (by decide +kernel) rfl)⟩
set_option maxRecDepth 100000 in
theorem stX11_277 : siteV RX11 277 RX5 mdX5_sumOfPeople 1 := ⟨⟨(tb_at 1157 (by decide +kernel) rfl), (tb_at 1160 (by decide +kernel) rfl), (tb_at 108 (by decide +kernel) rfl), by decide, by decide, by decide +kernel⟩, (tb_at 1158 (by decide +kernel) rfl), (tb_at 1159 (by decide +kernel) rfl)⟩
set_option maxRecDepth 100000 in
theorem stX11_280 : siteV RX11 280 RX10 mdX10_copyFrom 1 := ⟨⟨(tb_at 1165 (by decide +kernel) rfl), (tb_at 1168 (by decide +kernel) rfl), (tb_at 107 (by decide +kernel) rfl), by decide, by decide, by decide +kernel⟩, (tb_at 1166 (by decide +kernel) rfl), (tb_at 1167 (by decide +kernel) rfl)⟩
set_option maxRecDepth 100000 in
theorem stX11_283 : siteV RX11 283 RX11 mdX11_ruleThatIsInForce 0 := ⟨⟨(tb_at 902 (by decide +kernel) rfl), (tb_at 905 (by decide +kernel) rfl), (tb_at 102 (by decide +kernel) rfl), by decide, by decide, by decide +kernel⟩, (tb_at 904 (by decide +kernel) rfl), (tb_at 29 (by decide +kernel) rfl)⟩
set_option maxRecDepth 100000 in
theorem stX11_286 : siteV RX11 286 RX0 mdX0_start 2 := ⟨⟨(tb_at 906 (by decide +kernel) rfl), (tb_at 909 (by decide +kernel) rfl), (tb_at 109 (by decide +kernel) rfl), by decide, by decide, by decide +kernel⟩, (tb_at 907 (by decide +kernel) rfl), (tb_at 908 (by decide +kernel) rfl)⟩
set_option maxRecDepth 100000 in
theorem lkX11_290 : lkF RX11 290 0 2 := Or.inr ⟨"LateAlways", (tb_at 438 (by decide +kernel) rfl)⟩
set_option maxRecDepth 100000 in
theorem stX11_291 : siteV RX11 291 RX5 mdX5_begin 2 := ⟨⟨(tb_at 1092 (by decide +kernel) rfl), (tb_at 709 (by decide +kernel) rfl), (tb_at 108 (by decide +kernel) rfl), by decide, by decide, by decide +kernel⟩, (tb_at 707 (by decide +kernel) rfl), (tb_at 708 (by decide +kernel) rfl)⟩
set_option maxRecDepth 100000 in
theorem stX11_295 : siteV RX11 295 RX9 mdX9_keepLate 3 := ⟨⟨(tb_at 1093 (by decide +kernel) rfl), (tb_at 1096 (by decide +kernel) rfl), (tb_at 111 (by decide +kernel) rfl), by decide, by decide, by decide +kernel⟩, (tb_at 1094 (by decide +kernel) rfl), (tb_at 1095 (by decide +kernel) rfl)⟩
set_option maxRecDepth 100000 in
theorem stX11_298 : siteV RX11 298 RX9 mdX9_fitsLogs 3 := ⟨⟨(tb_at 1097 (by decide +kernel) rfl), (tb_at 1100 (by decide +kernel) rfl), (tb_at 111 (by decide +kernel) rfl), by decide, by decide, by decide +kernel⟩, (tb_at 1098 (by decide +kernel) rfl), (tb_at 1099 (by decide +kernel) rfl)⟩
set_option maxRecDepth 100000 in
theorem lkX0_12 : lkF RX0 12 0 0 := Or.inl (tb_at 433 (by decide +kernel) rfl)
set_option maxRecDepth 100000 in
theorem lkX0_21 : lkF RX0 21 0 1 := Or.inl (tb_at 435 (by decide +kernel) rfl)
set_option maxRecDepth 100000 in
theorem lkX0_25 : lkF RX0 25 0 2 := Or.inl (tb_at 437 (by decide +kernel) rfl)
set_option maxRecDepth 100000 in
theorem lkX0_31 : lkF RX0 31 0 3 := Or.inl (tb_at 439 (by decide +kernel) rfl)
set_option maxRecDepth 100000 in
theorem lkX0_34 : lkF RX0 34 0 4 := Or.inl (tb_at 440 (by decide +kernel) rfl)
set_option maxRecDepth 100000 in
theorem lkX0_38 : lkF RX0 38 0 5 := Or.inl (tb_at 441 (by decide +kernel) rfl)
set_option maxRecDepth 100000 in
theorem lkX0_42 : lkF RX0 42 0 6 := Or.inl (tb_at 442 (by decide +kernel) rfl)
set_option maxRecDepth 100000 in
theorem lkX0_46 : lkF RX0 46 0 7 := Or.inl (tb_at 443 (by decide +kernel) rfl)
set_option maxRecDepth 100000 in
theorem lkX0_50 : lkF RX0 50 0 8 := Or.inl (tb_at 445 (by decide +kernel) rfl)
set_option maxRecDepth 100000 in
theorem lkX0_53 : lkF RX0 53 0 9 := Or.inl (tb_at 447 (by decide +kernel) rfl)
set_option maxRecDepth 100000 in
theorem lkX0_56 : lkF RX0 56 0 10 := Or.inl (tb_at 449 (by decide +kernel) rfl)
set_option maxRecDepth 100000 in
theorem lkX0_59 : lkF RX0 59 0 11 := Or.inl (tb_at 450 (by decide +kernel) rfl)
set_option maxRecDepth 100000 in
theorem lkX0_62 : lkF RX0 62 0 12 := Or.inl (tb_at 451 (by decide +kernel) rfl)
set_option maxRecDepth 100000 in
theorem lkX0_65 : lkF RX0 65 0 13 := Or.inl (tb_at 452 (by decide +kernel) rfl)
set_option maxRecDepth 100000 in
theorem lkX0_69 : lkF RX0 69 0 14 := Or.inl (tb_at 453 (by decide +kernel) rfl)
set_option maxRecDepth 100000 in
theorem lkX0_72 : lkF RX0 72 0 15 := Or.inl (tb_at 455 (by decide +kernel) rfl)
set_option maxRecDepth 100000 in
theorem lkX0_75 : lkF RX0 75 0 16 := Or.inl (tb_at 457 (by decide +kernel) rfl)
set_option maxRecDepth 100000 in
theorem lkX0_78 : lkF RX0 78 0 17 := Or.inl (tb_at 459 (by decide +kernel) rfl)
set_option maxRecDepth 100000 in
theorem lkX0_81 : lkF RX0 81 6 9 := Or.inr ⟨"LateAlways", (tb_at 214 (by decide +kernel) rfl)⟩
set_option maxRecDepth 100000 in
theorem lmX0_84 : Cond.methodLink RX0 84 arraycopyName ∈ TB := (tb_at 910 (by decide +kernel) rfl)
set_option maxRecDepth 100000 in
theorem lkX0_90 : lkF RX0 90 6 1 := Or.inr ⟨"LateAlways", (tb_at 182 (by decide +kernel) rfl)⟩
set_option maxRecDepth 100000 in
theorem lkX0_91 : lkF RX0 91 6 2 := Or.inr ⟨"LateAlways", (tb_at 186 (by decide +kernel) rfl)⟩
set_option maxRecDepth 100000 in
theorem stX0_92 : siteV RX0 92 RX0 mdX0_goDay 0 := ⟨⟨(tb_at 1007 (by decide +kernel) rfl), (tb_at 919 (by decide +kernel) rfl), (tb_at 109 (by decide +kernel) rfl), by decide, by decide, by decide +kernel⟩, (tb_at 917 (by decide +kernel) rfl), (tb_at 918 (by decide +kernel) rfl)⟩
set_option maxRecDepth 100000 in
theorem stX0_95 : siteV RX0 95 RX1 mdX1_open 2 := ⟨⟨(tb_at 920 (by decide +kernel) rfl), (tb_at 923 (by decide +kernel) rfl), (tb_at 110 (by decide +kernel) rfl), by decide, by decide, by decide +kernel⟩, (tb_at 921 (by decide +kernel) rfl), (tb_at 922 (by decide +kernel) rfl)⟩
set_option maxRecDepth 100000 in
theorem lkX0_99 : lkF RX0 99 6 8 := Or.inr ⟨"LateAlways", (tb_at 211 (by decide +kernel) rfl)⟩
set_option maxRecDepth 100000 in
theorem lkX0_102 : lkF RX0 102 1 0 := Or.inr ⟨"LateAlways", (tb_at 400 (by decide +kernel) rfl)⟩
set_option maxRecDepth 100000 in
theorem stX0_105 : siteV RX0 105 RX0 mdX0_goThrough 1 := ⟨⟨(tb_at 926 (by decide +kernel) rfl), (tb_at 929 (by decide +kernel) rfl), (tb_at 109 (by decide +kernel) rfl), by decide, by decide, by decide +kernel⟩, (tb_at 928 (by decide +kernel) rfl), (tb_at 30 (by decide +kernel) rfl)⟩
set_option maxRecDepth 100000 in
theorem lkX0_109 : lkF RX0 109 6 7 := Or.inr ⟨"LateAlways", (tb_at 204 (by decide +kernel) rfl)⟩
set_option maxRecDepth 100000 in
theorem lkX0_112 : lkF RX0 112 1 6 := Or.inr ⟨"LateAlways", (tb_at 417 (by decide +kernel) rfl)⟩
set_option maxRecDepth 100000 in
theorem lmX0_115 : Cond.methodLink RX0 115 Lib.Math.min.name ∈ TB := (tb_at 962 (by decide +kernel) rfl)
set_option maxRecDepth 100000 in
theorem lmX0_121 : Cond.methodLink RX0 121 Lib.Math.max.name ∈ TB := (tb_at 963 (by decide +kernel) rfl)
set_option maxRecDepth 100000 in
theorem lkX0_124 : lkF RX0 124 4 0 := Or.inr ⟨"LateAlways", (tb_at 344 (by decide +kernel) rfl)⟩
set_option maxRecDepth 100000 in
theorem lkX0_127 : lkF RX0 127 6 11 := Or.inr ⟨"LateAlways", (tb_at 222 (by decide +kernel) rfl)⟩
set_option maxRecDepth 100000 in
theorem lkX0_130 : lkF RX0 130 6 12 := Or.inr ⟨"LateAlways", (tb_at 226 (by decide +kernel) rfl)⟩
set_option maxRecDepth 100000 in
theorem stX0_133 : siteV RX0 133 RX0 mdX0_minutesMeant 3 := ⟨⟨(tb_at 930 (by decide +kernel) rfl), (tb_at 933 (by decide +kernel) rfl), (tb_at 109 (by decide +kernel) rfl), by decide, by decide, by decide +kernel⟩, (tb_at 932 (by decide +kernel) rfl), (tb_at 31 (by decide +kernel) rfl)⟩
set_option maxRecDepth 100000 in
theorem stX0_137 : siteV RX0 137 RX0 mdX0_withDraw 1 := ⟨⟨(tb_at 954 (by decide +kernel) rfl), (tb_at 957 (by decide +kernel) rfl), (tb_at 109 (by decide +kernel) rfl), by decide, by decide, by decide +kernel⟩, (tb_at 956 (by decide +kernel) rfl), (tb_at 33 (by decide +kernel) rfl)⟩
set_option maxRecDepth 100000 in
theorem stX0_141 : siteV RX0 141 RX0 mdX0_whenComes 3 := ⟨⟨(tb_at 964 (by decide +kernel) rfl), (tb_at 967 (by decide +kernel) rfl), (tb_at 109 (by decide +kernel) rfl), by decide, by decide, by decide +kernel⟩, (tb_at 966 (by decide +kernel) rfl), (tb_at 34 (by decide +kernel) rfl)⟩
set_option maxRecDepth 100000 in
theorem lkX0_144 : lkF RX0 144 6 3 := Or.inr ⟨"LateAlways", (tb_at 191 (by decide +kernel) rfl)⟩
set_option maxRecDepth 100000 in
theorem lmX0_147 : Cond.methodLink RX0 147 Lib.Math.abs.name ∈ TB := (tb_at 968 (by decide +kernel) rfl)
set_option maxRecDepth 100000 in
theorem lkX0_150 : lkF RX0 150 1 1 := Or.inr ⟨"LateAlways", (tb_at 402 (by decide +kernel) rfl)⟩
set_option maxRecDepth 100000 in
theorem lkX0_153 : lkF RX0 153 1 5 := Or.inr ⟨"LateAlways", (tb_at 414 (by decide +kernel) rfl)⟩
set_option maxRecDepth 100000 in
theorem lkX0_156 : lkF RX0 156 6 14 := Or.inr ⟨"LateAlways", (tb_at 233 (by decide +kernel) rfl)⟩
set_option maxRecDepth 100000 in
theorem lkX0_159 : lkF RX0 159 1 2 := Or.inr ⟨"LateAlways", (tb_at 405 (by decide +kernel) rfl)⟩
set_option maxRecDepth 100000 in
theorem stX0_162 : siteV RX0 162 RX0 mdX0_charge 4 := ⟨⟨(tb_at 971 (by decide +kernel) rfl), (tb_at 974 (by decide +kernel) rfl), (tb_at 109 (by decide +kernel) rfl), by decide, by decide, by decide +kernel⟩, (tb_at 973 (by decide +kernel) rfl), (tb_at 35 (by decide +kernel) rfl)⟩
set_option maxRecDepth 100000 in
theorem stX0_166 : siteV RX0 166 RX5 mdX5_isExempt 1 := ⟨⟨(tb_at 934 (by decide +kernel) rfl), (tb_at 875 (by decide +kernel) rfl), (tb_at 108 (by decide +kernel) rfl), by decide, by decide, by decide +kernel⟩, (tb_at 873 (by decide +kernel) rfl), (tb_at 874 (by decide +kernel) rfl)⟩
set_option maxRecDepth 100000 in
theorem lkX0_170 : lkF RX0 170 6 4 := Or.inr ⟨"LateAlways", (tb_at 194 (by decide +kernel) rfl)⟩
set_option maxRecDepth 100000 in
theorem lkX0_173 : lkF RX0 173 6 5 := Or.inr ⟨"LateAlways", (tb_at 197 (by decide +kernel) rfl)⟩
set_option maxRecDepth 100000 in
theorem lkX0_176 : lkF RX0 176 1 3 := Or.inr ⟨"LateAlways", (tb_at 408 (by decide +kernel) rfl)⟩
set_option maxRecDepth 100000 in
theorem lkX0_179 : lkF RX0 179 1 4 := Or.inr ⟨"LateAlways", (tb_at 411 (by decide +kernel) rfl)⟩
set_option maxRecDepth 100000 in
theorem lcX0_182 : Cond.constantLong RX0 182 (1103515245) ∈ TB := (tb_at 958 (by decide +kernel) rfl)
set_option maxRecDepth 100000 in
theorem lcX0_184 : Cond.constantLong RX0 184 (12345) ∈ TB := (tb_at 959 (by decide +kernel) rfl)
set_option maxRecDepth 100000 in
theorem lcX0_186 : Cond.constantLong RX0 186 (2147483648) ∈ TB := (tb_at 960 (by decide +kernel) rfl)
set_option maxRecDepth 100000 in
theorem lcX0_188 : Cond.constant RX0 188 (65536) ∈ TB := (tb_at 961 (by decide +kernel) rfl)
set_option maxRecDepth 100000 in
theorem stX0_189 : siteV RX0 189 RX2 mdX2_minutesMeant 2 := ⟨⟨(tb_at 935 (by decide +kernel) rfl), (tb_at 938 (by decide +kernel) rfl), (tb_at 121 (by decide +kernel) rfl), by decide, by decide, by decide +kernel⟩, (tb_at 936 (by decide +kernel) rfl), (tb_at 937 (by decide +kernel) rfl)⟩
set_option maxRecDepth 100000 in
theorem lkX1_9 : lkF RX1 9 1 0 := Or.inl (tb_at 399 (by decide +kernel) rfl)
set_option maxRecDepth 100000 in
theorem lkX1_27 : lkF RX1 27 1 5 := Or.inl (tb_at 413 (by decide +kernel) rfl)
set_option maxRecDepth 100000 in
theorem lkX1_30 : lkF RX1 30 1 6 := Or.inl (tb_at 416 (by decide +kernel) rfl)
set_option maxRecDepth 100000 in
theorem lcX1_33 : Cond.constant RX1 33 (-1000000) ∈ TB := (tb_at 924 (by decide +kernel) rfl)
set_option maxRecDepth 100000 in
theorem stX1_34 : siteS RX1 34 mdJ7_fill_53178 2 := ⟨⟨(tb_at 925 (by decide +kernel) rfl), (tb_at 712 (by decide +kernel) rfl), (tb_at 119 (by decide +kernel) rfl), by decide, by decide, by decide +kernel⟩, (tb_at 711 (by decide +kernel) rfl)⟩
set_option maxRecDepth 100000 in
theorem lkX1_40 : lkF RX1 40 6 8 := Or.inr ⟨"LateAlways", (tb_at 208 (by decide +kernel) rfl)⟩
set_option maxRecDepth 100000 in
theorem lkX1_46 : lkF RX1 46 4 0 := Or.inr ⟨"LateAlways", (tb_at 341 (by decide +kernel) rfl)⟩
set_option maxRecDepth 100000 in
theorem lkX2_9 : lkF RX2 9 2 0 := Or.inl (tb_at 847 (by decide +kernel) rfl)
set_option maxRecDepth 100000 in
theorem lkX2_15 : lkF RX2 15 2 1 := Or.inl (tb_at 848 (by decide +kernel) rfl)
set_option maxRecDepth 100000 in
theorem lkX2_19 : lkF RX2 19 2 2 := Or.inl (tb_at 849 (by decide +kernel) rfl)
set_option maxRecDepth 100000 in
theorem lkX2_22 : lkF RX2 22 2 3 := Or.inl (tb_at 850 (by decide +kernel) rfl)
set_option maxRecDepth 100000 in
theorem stX2_25 : siteV RX2 25 RX2 mdX2_reckon 4 := ⟨⟨(tb_at 939 (by decide +kernel) rfl), (tb_at 942 (by decide +kernel) rfl), (tb_at 121 (by decide +kernel) rfl), by decide, by decide, by decide +kernel⟩, (tb_at 941 (by decide +kernel) rfl), (tb_at 32 (by decide +kernel) rfl)⟩
set_option maxRecDepth 100000 in
theorem lcX2_29 : Cond.constantLong RX2 29 (-30) ∈ TB := (tb_at 946 (by decide +kernel) rfl)
set_option maxRecDepth 100000 in
theorem lcX2_31 : Cond.constantLong RX2 31 (120) ∈ TB := (tb_at 947 (by decide +kernel) rfl)
set_option maxRecDepth 100000 in
theorem lmX2_33 : Cond.methodLink RX2 33 Lib.MathLoose.min_long.x ∈ TB := (tb_at 948 (by decide +kernel) rfl)
