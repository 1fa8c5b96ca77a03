/-! the links of the reference's code -/
set_option maxRecDepth 100000 in
theorem lkX12_9 : lkF RX12 9 11 1 := Or.inl (tb_at 1180 (by decide +kernel) rfl)
set_option maxRecDepth 100000 in
theorem lkX12_13 : lkF RX12 13 11 2 := Or.inl (tb_at 1181 (by decide +kernel) rfl)
set_option maxRecDepth 100000 in
theorem lkX12_16 : lkF RX12 16 11 3 := Or.inl (tb_at 1182 (by decide +kernel) rfl)
set_option maxRecDepth 100000 in
theorem lkX12_19 : lkF RX12 19 11 4 := Or.inl (tb_at 1183 (by decide +kernel) rfl)
set_option maxRecDepth 100000 in
theorem lkX12_22 : lkF RX12 22 11 5 := Or.inl (tb_at 1184 (by decide +kernel) rfl)
set_option maxRecDepth 100000 in
theorem lkX12_25 : lkF RX12 25 11 6 := Or.inl (tb_at 1185 (by decide +kernel) rfl)
set_option maxRecDepth 100000 in
theorem lkX12_28 : lkF RX12 28 11 7 := Or.inl (tb_at 1186 (by decide +kernel) rfl)
set_option maxRecDepth 100000 in
theorem lkX12_31 : lkF RX12 31 11 8 := Or.inl (tb_at 1187 (by decide +kernel) rfl)
set_option maxRecDepth 100000 in
theorem lkX12_34 : lkF RX12 34 11 9 := Or.inl (tb_at 1188 (by decide +kernel) rfl)
set_option maxRecDepth 100000 in
theorem lkX12_37 : lkF RX12 37 11 10 := Or.inl (tb_at 1189 (by decide +kernel) rfl)
set_option maxRecDepth 100000 in
theorem lkX12_40 : lkF RX12 40 11 11 := Or.inl (tb_at 1190 (by decide +kernel) rfl)
set_option maxRecDepth 100000 in
theorem lkX12_43 : lkF RX12 43 11 12 := Or.inl (tb_at 1191 (by decide +kernel) rfl)
set_option maxRecDepth 100000 in
theorem lkX12_46 : lkF RX12 46 11 13 := Or.inl (tb_at 1192 (by decide +kernel) rfl)
set_option maxRecDepth 100000 in
theorem lkX12_49 : lkF RX12 49 11 14 := Or.inl (tb_at 1193 (by decide +kernel) rfl)
set_option maxRecDepth 100000 in
theorem lkX12_52 : lkF RX12 52 11 15 := Or.inl (tb_at 1194 (by decide +kernel) rfl)
set_option maxRecDepth 100000 in
theorem lkX12_55 : lkF RX12 55 11 16 := Or.inl (tb_at 1195 (by decide +kernel) rfl)
set_option maxRecDepth 100000 in
theorem lkX12_58 : lkF RX12 58 11 17 := Or.inl (tb_at 1196 (by decide +kernel) rfl)
set_option maxRecDepth 100000 in
theorem lkX12_61 : lkF RX12 61 11 18 := Or.inl (tb_at 1197 (by decide +kernel) rfl)
set_option maxRecDepth 100000 in
theorem lkX12_64 : lkF RX12 64 11 19 := Or.inl (tb_at 1198 (by decide +kernel) rfl)
set_option maxRecDepth 100000 in
theorem lkX12_67 : lkF RX12 67 11 20 := Or.inl (tb_at 1199 (by decide +kernel) rfl)
set_option maxRecDepth 100000 in
theorem lkX12_70 : lkF RX12 70 11 21 := Or.inl (tb_at 1200 (by decide +kernel) rfl)
set_option maxRecDepth 100000 in
theorem lkX12_73 : lkF RX12 73 11 22 := Or.inl (tb_at 1201 (by decide +kernel) rfl)
set_option maxRecDepth 100000 in
theorem lkX12_76 : lkF RX12 76 11 23 := Or.inl (tb_at 1202 (by decide +kernel) rfl)
set_option maxRecDepth 100000 in
theorem lkX12_79 : lkF RX12 79 11 24 := Or.inl (tb_at 1203 (by decide +kernel) rfl)
set_option maxRecDepth 100000 in
theorem lkX12_82 : lkF RX12 82 11 25 := Or.inl (tb_at 1204 (by decide +kernel) rfl)
set_option maxRecDepth 100000 in
theorem lkX12_85 : lkF RX12 85 11 35 := Or.inl (tb_at 1214 (by decide +kernel) rfl)
set_option maxRecDepth 100000 in
theorem lkX12_89 : lkF RX12 89 11 36 := Or.inl (tb_at 1215 (by decide +kernel) rfl)
set_option maxRecDepth 100000 in
theorem lkX12_93 : lkF RX12 93 11 37 := Or.inl (tb_at 1216 (by decide +kernel) rfl)
set_option maxRecDepth 100000 in
theorem lkX12_96 : lkF RX12 96 11 38 := Or.inl (tb_at 1217 (by decide +kernel) rfl)
set_option maxRecDepth 100000 in
theorem lkX12_99 : lkF RX12 99 11 39 := Or.inl (tb_at 1218 (by decide +kernel) rfl)
set_option maxRecDepth 100000 in
theorem lkX12_102 : lkF RX12 102 11 40 := Or.inl (tb_at 1219 (by decide +kernel) rfl)
set_option maxRecDepth 100000 in
theorem lkX12_105 : lkF RX12 105 11 41 := Or.inl (tb_at 1220 (by decide +kernel) rfl)
set_option maxRecDepth 100000 in
theorem lkX12_108 : lkF RX12 108 11 42 := Or.inl (tb_at 1221 (by decide +kernel) rfl)
set_option maxRecDepth 100000 in
theorem lkX12_111 : lkF RX12 111 11 43 := Or.inl (tb_at 1222 (by decide +kernel) rfl)
set_option maxRecDepth 100000 in
theorem lkX12_114 : lkF RX12 114 11 44 := Or.inl (tb_at 1223 (by decide +kernel) rfl)
set_option maxRecDepth 100000 in
theorem lkX12_118 : lkF RX12 118 11 45 := Or.inl (tb_at 1224 (by decide +kernel) rfl)
set_option maxRecDepth 100000 in
theorem lkX12_121 : lkF RX12 121 11 46 := Or.inl (tb_at 1225 (by decide +kernel) rfl)
set_option maxRecDepth 100000 in
theorem lkX12_124 : lkF RX12 124 11 47 := Or.inl (tb_at 1226 (by decide +kernel) rfl)
set_option maxRecDepth 100000 in
theorem lkX12_127 : lkF RX12 127 11 48 := Or.inl (tb_at 1227 (by decide +kernel) rfl)
set_option maxRecDepth 100000 in
theorem lkX12_130 : lkF RX12 130 11 49 := Or.inl (tb_at 1228 (by decide +kernel) rfl)
set_option maxRecDepth 100000 in
theorem lkX12_133 : lkF RX12 133 11 50 := Or.inl (tb_at 1229 (by decide +kernel) rfl)
set_option maxRecDepth 100000 in
theorem lkX12_136 : lkF RX12 136 11 51 := Or.inl (tb_at 1230 (by decide +kernel) rfl)
set_option maxRecDepth 100000 in
theorem lkX12_139 : lkF RX12 139 11 52 := Or.inl (tb_at 1231 (by decide +kernel) rfl)
set_option maxRecDepth 100000 in
theorem lkX12_142 : lkF RX12 142 11 53 := Or.inl (tb_at 1232 (by decide +kernel) rfl)
set_option maxRecDepth 100000 in
theorem lkX12_145 : lkF RX12 145 11 54 := Or.inl (tb_at 1233 (by decide +kernel) rfl)
set_option maxRecDepth 100000 in
theorem lkX12_148 : lkF RX12 148 11 55 := Or.inl (tb_at 1234 (by decide +kernel) rfl)
set_option maxRecDepth 100000 in
theorem lkX12_151 : lkF RX12 151 11 56 := Or.inl (tb_at 1235 (by decide +kernel) rfl)
set_option maxRecDepth 100000 in
theorem lkX12_154 : lkF RX12 154 11 57 := Or.inl (tb_at 1236 (by decide +kernel) rfl)
set_option maxRecDepth 100000 in
theorem lkX12_157 : lkF RX12 157 11 64 := Or.inl (tb_at 1243 (by decide +kernel) rfl)
set_option maxRecDepth 100000 in
theorem lkX12_160 : lkF RX12 160 11 65 := Or.inl (tb_at 1244 (by decide +kernel) rfl)
set_option maxRecDepth 100000 in
theorem lkX12_163 : lkF RX12 163 11 72 := Or.inl (tb_at 1251 (by decide +kernel) rfl)
set_option maxRecDepth 100000 in
theorem lkX12_166 : lkF RX12 166 11 73 := Or.inl (tb_at 1252 (by decide +kernel) rfl)
set_option maxRecDepth 100000 in
theorem lkX12_169 : lkF RX12 169 11 74 := Or.inl (tb_at 1253 (by decide +kernel) rfl)
set_option maxRecDepth 100000 in
theorem lkX12_172 : lkF RX12 172 11 75 := Or.inl (tb_at 1254 (by decide +kernel) rfl)
set_option maxRecDepth 100000 in
theorem lkX12_175 : lkF RX12 175 11 76 := Or.inl (tb_at 1255 (by decide +kernel) rfl)
set_option maxRecDepth 100000 in
theorem lkX12_178 : lkF RX12 178 11 77 := Or.inl (tb_at 1256 (by decide +kernel) rfl)
set_option maxRecDepth 100000 in
theorem lkX12_182 : lkF RX12 182 11 78 := Or.inl (tb_at 1257 (by decide +kernel) rfl)
set_option maxRecDepth 100000 in
theorem lkX12_185 : lkF RX12 185 11 79 := Or.inl (tb_at 1258 (by decide +kernel) rfl)
set_option maxRecDepth 100000 in
theorem stX12_191 : siteS RX12 191 mdX12_in 3 := ⟨⟨(tb_at 1504 (by decide +kernel) rfl), (tb_at 1506 (by decide +kernel) rfl), (tb_at 112 (by decide +kernel) rfl), by decide, by decide, by decide +kernel⟩, (tb_at 1505 (by decide +kernel) rfl)⟩
set_option maxRecDepth 100000 in
theorem lkX12_195 : lkF RX12 195 11 26 := Or.inl (tb_at 1205 (by decide +kernel) rfl)
set_option maxRecDepth 100000 in
theorem stX12_198 : siteV RX12 198 RX12 mdX12_put 1 := ⟨⟨(tb_at 1431 (by decide +kernel) rfl), (tb_at 1434 (by decide +kernel) rfl), (tb_at 112 (by decide +kernel) rfl), by decide, by decide, by decide +kernel⟩, (tb_at 1433 (by decide +kernel) rfl), (tb_at 39 (by decide +kernel) rfl)⟩
set_option maxRecDepth 100000 in
theorem lkX12_224 : lkF RX12 224 11 28 := Or.inl (tb_at 1207 (by decide +kernel) rfl)
set_option maxRecDepth 100000 in
theorem lkX12_227 : lkF RX12 227 11 27 := Or.inl (tb_at 1206 (by decide +kernel) rfl)
set_option maxRecDepth 100000 in
theorem stX12_230 : siteV RX12 230 RX12 mdX12_sign 0 := ⟨⟨(tb_at 1459 (by decide +kernel) rfl), (tb_at 1462 (by decide +kernel) rfl), (tb_at 112 (by decide +kernel) rfl), by decide, by decide, by decide +kernel⟩, (tb_at 1461 (by decide +kernel) rfl), (tb_at 44 (by decide +kernel) rfl)⟩
set_option maxRecDepth 100000 in
theorem lcX12_234 : Cond.constantLong RX12 234 (48) ∈ TB := (tb_at 1502 (by decide +kernel) rfl)
set_option maxRecDepth 100000 in
theorem lcX12_236 : Cond.constantLong RX12 236 (57) ∈ TB := (tb_at 1503 (by decide +kernel) rfl)
set_option maxRecDepth 100000 in
theorem stX12_238 : siteV RX12 238 "java/lang/String" mdJ0_length_8abf5 0 := ⟨⟨(tb_at 1475 (by decide +kernel) rfl), (tb_at 605 (by decide +kernel) rfl), (tb_at 113 (by decide +kernel) rfl), by decide, by decide, by decide +kernel⟩, (tb_at 603 (by decide +kernel) rfl), (tb_at 604 (by decide +kernel) rfl)⟩
set_option maxRecDepth 100000 in
theorem stX12_242 : siteV RX12 242 "java/lang/String" mdJ0_charAt_5068e 1 := ⟨⟨(tb_at 1476 (by decide +kernel) rfl), (tb_at 615 (by decide +kernel) rfl), (tb_at 113 (by decide +kernel) rfl), by decide, by decide, by decide +kernel⟩, (tb_at 613 (by decide +kernel) rfl), (tb_at 614 (by decide +kernel) rfl)⟩
set_option maxRecDepth 100000 in
theorem stX12_246 : siteV RX12 246 RX12 mdX12_blanks 0 := ⟨⟨(tb_at 1455 (by decide +kernel) rfl), (tb_at 1458 (by decide +kernel) rfl), (tb_at 112 (by decide +kernel) rfl), by decide, by decide, by decide +kernel⟩, (tb_at 1457 (by decide +kernel) rfl), (tb_at 43 (by decide +kernel) rfl)⟩
set_option maxRecDepth 100000 in
theorem stX12_249 : siteV RX12 249 RX12 mdX12_stood 1 := ⟨⟨(tb_at 1471 (by decide +kernel) rfl), (tb_at 1474 (by decide +kernel) rfl), (tb_at 112 (by decide +kernel) rfl), by decide, by decide, by decide +kernel⟩, (tb_at 1473 (by decide +kernel) rfl), (tb_at 45 (by decide +kernel) rfl)⟩
set_option maxRecDepth 100000 in
theorem lkX12_253 : lkF RX12 253 11 29 := Or.inl (tb_at 1208 (by decide +kernel) rfl)
set_option maxRecDepth 100000 in
theorem lkX12_256 : lkF RX12 256 11 31 := Or.inl (tb_at 1210 (by decide +kernel) rfl)
set_option maxRecDepth 100000 in
theorem lkX12_259 : lkF RX12 259 11 33 := Or.inl (tb_at 1212 (by decide +kernel) rfl)
set_option maxRecDepth 100000 in
theorem stX12_262 : siteV RX12 262 RX12 mdX12_fails 2 := ⟨⟨(tb_at 1477 (by decide +kernel) rfl), (tb_at 1480 (by decide +kernel) rfl), (tb_at 112 (by decide +kernel) rfl), by decide, by decide, by decide +kernel⟩, (tb_at 1479 (by decide +kernel) rfl), (tb_at 46 (by decide +kernel) rfl)⟩
set_option maxRecDepth 100000 in
theorem stX12_266 : siteV RX12 266 RX12 mdX12_isDigit 0 := ⟨⟨(tb_at 1498 (by decide +kernel) rfl), (tb_at 1501 (by decide +kernel) rfl), (tb_at 112 (by decide +kernel) rfl), by decide, by decide, by decide +kernel⟩, (tb_at 1500 (by decide +kernel) rfl), (tb_at 51 (by decide +kernel) rfl)⟩
set_option maxRecDepth 100000 in
theorem lcX12_270 : Cond.constant RX12 270 (99999) ∈ TB := (tb_at 1493 (by decide +kernel) rfl)
set_option maxRecDepth 100000 in
theorem stX12_271 : siteV RX12 271 RX12 mdX12_digits 1 := ⟨⟨(tb_at 1494 (by decide +kernel) rfl), (tb_at 1497 (by decide +kernel) rfl), (tb_at 112 (by decide +kernel) rfl), by decide, by decide, by decide +kernel⟩, (tb_at 1496 (by decide +kernel) rfl), (tb_at 50 (by decide +kernel) rfl)⟩
set_option maxRecDepth 100000 in
theorem stX12_275 : siteV RX12 275 RX12 mdX12_isCounted 1 := ⟨⟨(tb_at 1547 (by decide +kernel) rfl), (tb_at 1550 (by decide +kernel) rfl), (tb_at 112 (by decide +kernel) rfl), by decide, by decide, by decide +kernel⟩, (tb_at 1549 (by decide +kernel) rfl), (tb_at 60 (by decide +kernel) rfl)⟩
set_option maxRecDepth 100000 in
theorem stX12_278 : siteV RX12 278 RX12 mdX12_entry 2 := ⟨⟨(tb_at 1551 (by decide +kernel) rfl), (tb_at 1554 (by decide +kernel) rfl), (tb_at 112 (by decide +kernel) rfl), by decide, by decide, by decide +kernel⟩, (tb_at 1553 (by decide +kernel) rfl), (tb_at 61 (by decide +kernel) rfl)⟩
set_option maxRecDepth 100000 in
theorem stX12_281 : siteS RX12 281 mdX12_wordOf 1 := ⟨⟨(tb_at 1555 (by decide +kernel) rfl), (tb_at 1557 (by decide +kernel) rfl), (tb_at 112 (by decide +kernel) rfl), by decide, by decide, by decide +kernel⟩, (tb_at 1556 (by decide +kernel) rfl)⟩
set_option maxRecDepth 100000 in
theorem stX12_285 : siteV RX12 285 RX12 mdX12_value 0 := ⟨⟨(tb_at 1543 (by decide +kernel) rfl), (tb_at 1546 (by decide +kernel) rfl), (tb_at 112 (by decide +kernel) rfl), by decide, by decide, by decide +kernel⟩, (tb_at 1545 (by decide +kernel) rfl), (tb_at 59 (by decide +kernel) rfl)⟩
set_option maxRecDepth 100000 in
theorem stX12_288 : siteV RX12 288 RX12 mdX12_term 0 := ⟨⟨(tb_at 1539 (by decide +kernel) rfl), (tb_at 1542 (by decide +kernel) rfl), (tb_at 112 (by decide +kernel) rfl), by decide, by decide, by decide +kernel⟩, (tb_at 1541 (by decide +kernel) rfl), (tb_at 58 (by decide +kernel) rfl)⟩
set_option maxRecDepth 100000 in
theorem stX12_291 : siteV RX12 291 RX12 mdX12_sum 0 := ⟨⟨(tb_at 1535 (by decide +kernel) rfl), (tb_at 1538 (by decide +kernel) rfl), (tb_at 112 (by decide +kernel) rfl), by decide, by decide, by decide +kernel⟩, (tb_at 1537 (by decide +kernel) rfl), (tb_at 57 (by decide +kernel) rfl)⟩
set_option maxRecDepth 100000 in
theorem lkX12_294 : lkF RX12 294 11 34 := Or.inl (tb_at 1213 (by decide +kernel) rfl)
set_option maxRecDepth 100000 in
theorem lkX12_297 : lkF RX12 297 11 32 := Or.inl (tb_at 1211 (by decide +kernel) rfl)
set_option maxRecDepth 100000 in
theorem stX12_300 : siteV RX12 300 RX12 mdX12_top 0 := ⟨⟨(tb_at 1596 (by decide +kernel) rfl), (tb_at 1599 (by decide +kernel) rfl), (tb_at 112 (by decide +kernel) rfl), by decide, by decide, by decide +kernel⟩, (tb_at 1598 (by decide +kernel) rfl), (tb_at 68 (by decide +kernel) rfl)⟩
set_option maxRecDepth 100000 in
theorem stX12_305 : siteV RX12 305 RX12 mdX12_opens 1 := ⟨⟨(tb_at 1584 (by decide +kernel) rfl), (tb_at 1587 (by decide +kernel) rfl), (tb_at 112 (by decide +kernel) rfl), by decide, by decide, by decide +kernel⟩, (tb_at 1586 (by decide +kernel) rfl), (tb_at 65 (by decide +kernel) rfl)⟩
set_option maxRecDepth 100000 in
theorem stX12_308 : siteV RX12 308 RX12 mdX12_compared 0 := ⟨⟨(tb_at 1588 (by decide +kernel) rfl), (tb_at 1591 (by decide +kernel) rfl), (tb_at 112 (by decide +kernel) rfl), by decide, by decide, by decide +kernel⟩, (tb_at 1590 (by decide +kernel) rfl), (tb_at 66 (by decide +kernel) rfl)⟩
set_option maxRecDepth 100000 in
theorem stX12_311 : siteV RX12 311 RX12 mdX12_fact 0 := ⟨⟨(tb_at 1579 (by decide +kernel) rfl), (tb_at 1582 (by decide +kernel) rfl), (tb_at 112 (by decide +kernel) rfl), by decide, by decide, by decide +kernel⟩, (tb_at 1581 (by decide +kernel) rfl), (tb_at 64 (by decide +kernel) rfl)⟩
set_option maxRecDepth 100000 in
theorem stX12_314 : siteV RX12 314 RX12 mdX12_answers 1 := ⟨⟨(tb_at 1592 (by decide +kernel) rfl), (tb_at 1595 (by decide +kernel) rfl), (tb_at 112 (by decide +kernel) rfl), by decide, by decide, by decide +kernel⟩, (tb_at 1594 (by decide +kernel) rfl), (tb_at 67 (by decide +kernel) rfl)⟩
set_option maxRecDepth 100000 in
theorem stX12_327 : siteV RX12 327 RX12 mdX12_amount 2 := ⟨⟨(tb_at 1489 (by decide +kernel) rfl), (tb_at 1492 (by decide +kernel) rfl), (tb_at 112 (by decide +kernel) rfl), by decide, by decide, by decide +kernel⟩, (tb_at 1491 (by decide +kernel) rfl), (tb_at 49 (by decide +kernel) rfl)⟩
set_option maxRecDepth 100000 in
theorem stX12_331 : siteV RX12 331 RX12 mdX12_onePerson 0 := ⟨⟨(tb_at 1507 (by decide +kernel) rfl), (tb_at 1510 (by decide +kernel) rfl), (tb_at 112 (by decide +kernel) rfl), by decide, by decide, by decide +kernel⟩, (tb_at 1509 (by decide +kernel) rfl), (tb_at 52 (by decide +kernel) rfl)⟩
set_option maxRecDepth 100000 in
theorem stX12_334 : siteV RX12 334 RX12 mdX12_readsMeeting 0 := ⟨⟨(tb_at 1511 (by decide +kernel) rfl), (tb_at 1514 (by decide +kernel) rfl), (tb_at 112 (by decide +kernel) rfl), by decide, by decide, by decide +kernel⟩, (tb_at 1513 (by decide +kernel) rfl), (tb_at 53 (by decide +kernel) rfl)⟩
set_option maxRecDepth 100000 in
theorem stX12_337 : siteS RX12 337 mdX12_townWord 1 := ⟨⟨(tb_at 1463 (by decide +kernel) rfl), (tb_at 1465 (by decide +kernel) rfl), (tb_at 112 (by decide +kernel) rfl), by decide, by decide, by decide +kernel⟩, (tb_at 1464 (by decide +kernel) rfl)⟩
set_option maxRecDepth 100000 in
theorem stX12_340 : siteV RX12 340 RX12 mdX12_isFull 2 := ⟨⟨(tb_at 1481 (by decide +kernel) rfl), (tb_at 1484 (by decide +kernel) rfl), (tb_at 112 (by decide +kernel) rfl), by decide, by decide, by decide +kernel⟩, (tb_at 1483 (by decide +kernel) rfl), (tb_at 47 (by decide +kernel) rfl)⟩
set_option maxRecDepth 100000 in
theorem stX12_344 : siteV RX12 344 RX12 mdX12_townPart 1 := ⟨⟨(tb_at 1485 (by decide +kernel) rfl), (tb_at 1488 (by decide +kernel) rfl), (tb_at 112 (by decide +kernel) rfl), by decide, by decide, by decide +kernel⟩, (tb_at 1487 (by decide +kernel) rfl), (tb_at 48 (by decide +kernel) rfl)⟩
set_option maxRecDepth 100000 in
theorem stX12_347 : siteV RX12 347 RX12 mdX12_starts 0 := ⟨⟨(tb_at 1447 (by decide +kernel) rfl), (tb_at 1450 (by decide +kernel) rfl), (tb_at 112 (by decide +kernel) rfl), by decide, by decide, by decide +kernel⟩, (tb_at 1449 (by decide +kernel) rfl), (tb_at 41 (by decide +kernel) rfl)⟩
set_option maxRecDepth 100000 in
theorem stX12_350 : siteV RX12 350 RX12 mdX12_townClause 1 := ⟨⟨(tb_at 1451 (by decide +kernel) rfl), (tb_at 1454 (by decide +kernel) rfl), (tb_at 112 (by decide +kernel) rfl), by decide, by decide, by decide +kernel⟩, (tb_at 1453 (by decide +kernel) rfl), (tb_at 42 (by decide +kernel) rfl)⟩
set_option maxRecDepth 100000 in
theorem stX12_353 : siteV RX12 353 RX12 mdX12_goesOn 0 := ⟨⟨(tb_at 1515 (by decide +kernel) rfl), (tb_at 1518 (by decide +kernel) rfl), (tb_at 112 (by decide +kernel) rfl), by decide, by decide, by decide +kernel⟩, (tb_at 1517 (by decide +kernel) rfl), (tb_at 54 (by decide +kernel) rfl)⟩
set_option maxRecDepth 100000 in
theorem stX12_356 : siteS RX12 356 mdX12_copies 2 := ⟨⟨(tb_at 1519 (by decide +kernel) rfl), (tb_at 1521 (by decide +kernel) rfl), (tb_at 112 (by decide +kernel) rfl), by decide, by decide, by decide +kernel⟩, (tb_at 1520 (by decide +kernel) rfl)⟩
set_option maxRecDepth 100000 in
theorem stX12_360 : siteV RX12 360 RX12 mdX12_readsAll 0 := ⟨⟨(tb_at 1443 (by decide +kernel) rfl), (tb_at 1446 (by decide +kernel) rfl), (tb_at 112 (by decide +kernel) rfl), by decide, by decide, by decide +kernel⟩, (tb_at 1445 (by decide +kernel) rfl), (tb_at 40 (by decide +kernel) rfl)⟩
set_option maxRecDepth 100000 in
theorem stX12_363 : siteV RX12 363 RX12 mdX12_begins 0 := ⟨⟨(tb_at 1522 (by decide +kernel) rfl), (tb_at 1525 (by decide +kernel) rfl), (tb_at 112 (by decide +kernel) rfl), by decide, by decide, by decide +kernel⟩, (tb_at 1524 (by decide +kernel) rfl), (tb_at 55 (by decide +kernel) rfl)⟩
set_option maxRecDepth 100000 in
theorem lkX12_366 : lkF RX12 366 11 66 := Or.inl (tb_at 1245 (by decide +kernel) rfl)
set_option maxRecDepth 100000 in
theorem stX12_373 : siteV RX12 373 RX12 mdX12_takes 1 := ⟨⟨(tb_at 1571 (by decide +kernel) rfl), (tb_at 1574 (by decide +kernel) rfl), (tb_at 112 (by decide +kernel) rfl), by decide, by decide, by decide +kernel⟩, (tb_at 1573 (by decide +kernel) rfl), (tb_at 62 (by decide +kernel) rfl)⟩
set_option maxRecDepth 100000 in
theorem stX12_376 : siteV RX12 376 RX12 mdX12_test 0 := ⟨⟨(tb_at 1575 (by decide +kernel) rfl), (tb_at 1578 (by decide +kernel) rfl), (tb_at 112 (by decide +kernel) rfl), by decide, by decide, by decide +kernel⟩, (tb_at 1577 (by decide +kernel) rfl), (tb_at 63 (by decide +kernel) rfl)⟩
set_option maxRecDepth 100000 in
theorem lkX12_379 : lkF RX12 379 11 30 := Or.inl (tb_at 1209 (by decide +kernel) rfl)
set_option maxRecDepth 100000 in
theorem stX12_382 : siteV RX12 382 RX12 mdX12_ruleClause 1 := ⟨⟨(tb_at 1530 (by decide +kernel) rfl), (tb_at 1533 (by decide +kernel) rfl), (tb_at 112 (by decide +kernel) rfl), by decide, by decide, by decide +kernel⟩, (tb_at 1532 (by decide +kernel) rfl), (tb_at 56 (by decide +kernel) rfl)⟩
set_option maxRecDepth 100000 in
theorem lcX12_385 : Cond.constantLong RX12 385 (-1) ∈ TB := (tb_at 1606 (by decide +kernel) rfl)
set_option maxRecDepth 100000 in
theorem stX12_387 : siteV RX12 387 RX12 mdX12_answer 3 := ⟨⟨(tb_at 1686 (by decide +kernel) rfl), (tb_at 1689 (by decide +kernel) rfl), (tb_at 112 (by decide +kernel) rfl), by decide, by decide, by decide +kernel⟩, (tb_at 1688 (by decide +kernel) rfl), (tb_at 83 (by decide +kernel) rfl)⟩
set_option maxRecDepth 100000 in
theorem stX12_391 : siteS RX12 391 mdX12_truth 1 := ⟨⟨(tb_at 1693 (by decide +kernel) rfl), (tb_at 1695 (by decide +kernel) rfl), (tb_at 112 (by decide +kernel) rfl), by decide, by decide, by decide +kernel⟩, (tb_at 1694 (by decide +kernel) rfl)⟩
set_option maxRecDepth 100000 in
theorem stX12_395 : siteS RX12 395 mdX12_both 3 := ⟨⟨(tb_at 1690 (by decide +kernel) rfl), (tb_at 1692 (by decide +kernel) rfl), (tb_at 112 (by decide +kernel) rfl), by decide, by decide, by decide +kernel⟩, (tb_at 1691 (by decide +kernel) rfl)⟩
set_option maxRecDepth 100000 in
theorem stX12_399 : siteS RX12 399 mdX12_held 3 := ⟨⟨(tb_at 1679 (by decide +kernel) rfl), (tb_at 1681 (by decide +kernel) rfl), (tb_at 112 (by decide +kernel) rfl), by decide, by decide, by decide +kernel⟩, (tb_at 1680 (by decide +kernel) rfl)⟩
set_option maxRecDepth 100000 in
theorem stX12_403 : siteS RX12 403 mdX12_has 2 := ⟨⟨(tb_at 1615 (by decide +kernel) rfl), (tb_at 1617 (by decide +kernel) rfl), (tb_at 112 (by decide +kernel) rfl), by decide, by decide, by decide +kernel⟩, (tb_at 1616 (by decide +kernel) rfl)⟩
set_option maxRecDepth 100000 in
theorem stX12_406 : siteV RX12 406 RX12 mdX12_meant 0 := ⟨⟨(tb_at 1682 (by decide +kernel) rfl), (tb_at 1685 (by decide +kernel) rfl), (tb_at 112 (by decide +kernel) rfl), by decide, by decide, by decide +kernel⟩, (tb_at 1684 (by decide +kernel) rfl), (tb_at 82 (by decide +kernel) rfl)⟩
set_option maxRecDepth 100000 in
theorem lkX12_410 : lkF RX12 410 11 63 := Or.inl (tb_at 1242 (by decide +kernel) rfl)
set_option maxRecDepth 100000 in
theorem stX12_414 : siteV RX12 414 RX12 mdX12_draws 1 := ⟨⟨(tb_at 1700 (by decide +kernel) rfl), (tb_at 1703 (by decide +kernel) rfl), (tb_at 112 (by decide +kernel) rfl), by decide, by decide, by decide +kernel⟩, (tb_at 1702 (by decide +kernel) rfl), (tb_at 85 (by decide +kernel) rfl)⟩
set_option maxRecDepth 100000 in
theorem lcX12_417 : Cond.constant RX12 417 (-1000000) ∈ TB := (tb_at 1670 (by decide +kernel) rfl)
set_option maxRecDepth 100000 in
theorem lkX12_418 : lkF RX12 418 11 58 := Or.inl (tb_at 1237 (by decide +kernel) rfl)
set_option maxRecDepth 100000 in
theorem stX12_421 : siteV RX12 421 RX12 mdX12_meansOf 2 := ⟨⟨(tb_at 1675 (by decide +kernel) rfl), (tb_at 1678 (by decide +kernel) rfl), (tb_at 112 (by decide +kernel) rfl), by decide, by decide, by decide +kernel⟩, (tb_at 1677 (by decide +kernel) rfl), (tb_at 81 (by decide +kernel) rfl)⟩
set_option maxRecDepth 100000 in
theorem lkX12_424 : lkF RX12 424 11 59 := Or.inl (tb_at 1238 (by decide +kernel) rfl)
set_option maxRecDepth 100000 in
theorem stX12_427 : siteV RX12 427 RX12 mdX12_drawnMore 1 := ⟨⟨(tb_at 1696 (by decide +kernel) rfl), (tb_at 1699 (by decide +kernel) rfl), (tb_at 112 (by decide +kernel) rfl), by decide, by decide, by decide +kernel⟩, (tb_at 1698 (by decide +kernel) rfl), (tb_at 84 (by decide +kernel) rfl)⟩
set_option maxRecDepth 100000 in
theorem stX12_430 : siteV RX12 430 RX12 mdX12_comes 3 := ⟨⟨(tb_at 1708 (by decide +kernel) rfl), (tb_at 1711 (by decide +kernel) rfl), (tb_at 112 (by decide +kernel) rfl), by decide, by decide, by decide +kernel⟩, (tb_at 1710 (by decide +kernel) rfl), (tb_at 86 (by decide +kernel) rfl)⟩
set_option maxRecDepth 100000 in
theorem stX12_434 : siteV RX12 434 RX12 mdX12_finesOf 2 := ⟨⟨(tb_at 1712 (by decide +kernel) rfl), (tb_at 1715 (by decide +kernel) rfl), (tb_at 112 (by decide +kernel) rfl), by decide, by decide, by decide +kernel⟩, (tb_at 1714 (by decide +kernel) rfl), (tb_at 87 (by decide +kernel) rfl)⟩
set_option maxRecDepth 100000 in
theorem lkX12_437 : lkF RX12 437 11 60 := Or.inl (tb_at 1239 (by decide +kernel) rfl)
set_option maxRecDepth 100000 in
theorem lkX12_440 : lkF RX12 440 11 61 := Or.inl (tb_at 1240 (by decide +kernel) rfl)
set_option maxRecDepth 100000 in
theorem lkX12_443 : lkF RX12 443 11 62 := Or.inl (tb_at 1241 (by decide +kernel) rfl)
set_option maxRecDepth 100000 in
theorem stX12_446 : siteV RX12 446 RX12 mdX12_laysOrder 0 := ⟨⟨(tb_at 1666 (by decide +kernel) rfl), (tb_at 1669 (by decide +kernel) rfl), (tb_at 112 (by decide +kernel) rfl), by decide, by decide, by decide +kernel⟩, (tb_at 1668 (by decide +kernel) rfl), (tb_at 79 (by decide +kernel) rfl)⟩
set_option maxRecDepth 100000 in
theorem stX12_449 : siteV RX12 449 RX12 mdX12_meets 1 := ⟨⟨(tb_at 1671 (by decide +kernel) rfl), (tb_at 1674 (by decide +kernel) rfl), (tb_at 112 (by decide +kernel) rfl), by decide, by decide, by decide +kernel⟩, (tb_at 1673 (by decide +kernel) rfl), (tb_at 80 (by decide +kernel) rfl)⟩
set_option maxRecDepth 100000 in
theorem stX12_452 : siteV RX12 452 RX12 mdX12_setsClock 1 := ⟨⟨(tb_at 1716 (by decide +kernel) rfl), (tb_at 1719 (by decide +kernel) rfl), (tb_at 112 (by decide +kernel) rfl), by decide, by decide, by decide +kernel⟩, (tb_at 1718 (by decide +kernel) rfl), (tb_at 88 (by decide +kernel) rfl)⟩
set_option maxRecDepth 100000 in
theorem stX12_455 : siteV RX12 455 RX12 mdX12_isIn 2 := ⟨⟨(tb_at 1622 (by decide +kernel) rfl), (tb_at 1625 (by decide +kernel) rfl), (tb_at 112 (by decide +kernel) rfl), by decide, by decide, by decide +kernel⟩, (tb_at 1624 (by decide +kernel) rfl), (tb_at 71 (by decide +kernel) rfl)⟩
set_option maxRecDepth 100000 in
theorem stX12_458 : siteV RX12 458 RX12 mdX12_isPerson 1 := ⟨⟨(tb_at 1611 (by decide +kernel) rfl), (tb_at 1614 (by decide +kernel) rfl), (tb_at 112 (by decide +kernel) rfl), by decide, by decide, by decide +kernel⟩, (tb_at 1613 (by decide +kernel) rfl), (tb_at 69 (by decide +kernel) rfl)⟩
set_option maxRecDepth 100000 in
theorem stX12_462 : siteV RX12 462 RX12 mdX12_meetingsOf 1 := ⟨⟨(tb_at 1618 (by decide +kernel) rfl), (tb_at 1621 (by decide +kernel) rfl), (tb_at 112 (by decide +kernel) rfl), by decide, by decide, by decide +kernel⟩, (tb_at 1620 (by decide +kernel) rfl), (tb_at 70 (by decide +kernel) rfl)⟩
set_option maxRecDepth 100000 in
theorem stX12_465 : siteV RX12 465 RX12 mdX12_isMeeting 1 := ⟨⟨(tb_at 1630 (by decide +kernel) rfl), (tb_at 1633 (by decide +kernel) rfl), (tb_at 112 (by decide +kernel) rfl), by decide, by decide, by decide +kernel⟩, (tb_at 1632 (by decide +kernel) rfl), (tb_at 72 (by decide +kernel) rfl)⟩
set_option maxRecDepth 100000 in
theorem lkX12_468 : lkF RX12 468 11 68 := Or.inl (tb_at 1247 (by decide +kernel) rfl)
set_option maxRecDepth 100000 in
theorem lkX12_471 : lkF RX12 471 11 67 := Or.inl (tb_at 1246 (by decide +kernel) rfl)
set_option maxRecDepth 100000 in
theorem stX12_474 : siteV RX12 474 RX12 mdX12_moves 1 := ⟨⟨(tb_at 1642 (by decide +kernel) rfl), (tb_at 1645 (by decide +kernel) rfl), (tb_at 112 (by decide +kernel) rfl), by decide, by decide, by decide +kernel⟩, (tb_at 1644 (by decide +kernel) rfl), (tb_at 74 (by decide +kernel) rfl)⟩
set_option maxRecDepth 100000 in
theorem stX12_477 : siteV RX12 477 RX12 mdX12_movesRow 1 := ⟨⟨(tb_at 1646 (by decide +kernel) rfl), (tb_at 1649 (by decide +kernel) rfl), (tb_at 112 (by decide +kernel) rfl), by decide, by decide, by decide +kernel⟩, (tb_at 1648 (by decide +kernel) rfl), (tb_at 75 (by decide +kernel) rfl)⟩
set_option maxRecDepth 100000 in
theorem stX12_481 : siteV RX12 481 RX12 mdX12_movesAll 2 := ⟨⟨(tb_at 1638 (by decide +kernel) rfl), (tb_at 1641 (by decide +kernel) rfl), (tb_at 112 (by decide +kernel) rfl), by decide, by decide, by decide +kernel⟩, (tb_at 1640 (by decide +kernel) rfl), (tb_at 73 (by decide +kernel) rfl)⟩
set_option maxRecDepth 100000 in
theorem stX12_485 : siteV RX12 485 RX12 mdX12_isTown 0 := ⟨⟨(tb_at 1654 (by decide +kernel) rfl), (tb_at 1657 (by decide +kernel) rfl), (tb_at 112 (by decide +kernel) rfl), by decide, by decide, by decide +kernel⟩, (tb_at 1656 (by decide +kernel) rfl), (tb_at 76 (by decide +kernel) rfl)⟩
set_option maxRecDepth 100000 in
theorem stX12_488 : siteV RX12 488 RX12 mdX12_keepsAct 0 := ⟨⟨(tb_at 1658 (by decide +kernel) rfl), (tb_at 1661 (by decide +kernel) rfl), (tb_at 112 (by decide +kernel) rfl), by decide, by decide, by decide +kernel⟩, (tb_at 1660 (by decide +kernel) rfl), (tb_at 77 (by decide +kernel) rfl)⟩
set_option maxRecDepth 100000 in
theorem stX12_491 : siteV RX12 491 RX12 mdX12_dayGoes 0 := ⟨⟨(tb_at 1662 (by decide +kernel) rfl), (tb_at 1665 (by decide +kernel) rfl), (tb_at 112 (by decide +kernel) rfl), by decide, by decide, by decide +kernel⟩, (tb_at 1664 (by decide +kernel) rfl), (tb_at 78 (by decide +kernel) rfl)⟩
set_option maxRecDepth 100000 in
theorem lcX12_494 : Cond.constantLong RX12 494 (600) ∈ TB := (tb_at 1724 (by decide +kernel) rfl)
set_option maxRecDepth 100000 in
theorem lcX12_496 : Cond.constantLong RX12 496 (-20) ∈ TB := (tb_at 1729 (by decide +kernel) rfl)
set_option maxRecDepth 100000 in
theorem lcX12_498 : Cond.constantLong RX12 498 (20) ∈ TB := (tb_at 1730 (by decide +kernel) rfl)
set_option maxRecDepth 100000 in
theorem stX12_500 : siteV RX12 500 RX12 mdX12_carriesAll 2 := ⟨⟨(tb_at 1745 (by decide +kernel) rfl), (tb_at 1748 (by decide +kernel) rfl), (tb_at 112 (by decide +kernel) rfl), by decide, by decide, by decide +kernel⟩, (tb_at 1747 (by decide +kernel) rfl), (tb_at 90 (by decide +kernel) rfl)⟩
set_option maxRecDepth 100000 in
theorem lkX12_503 : lkF RX12 503 11 69 := Or.inl (tb_at 1248 (by decide +kernel) rfl)
set_option maxRecDepth 100000 in
theorem lkX12_506 : lkF RX12 506 11 70 := Or.inl (tb_at 1249 (by decide +kernel) rfl)
set_option maxRecDepth 100000 in
theorem lkX12_509 : lkF RX12 509 11 71 := Or.inl (tb_at 1250 (by decide +kernel) rfl)
set_option maxRecDepth 100000 in
theorem stX12_512 : siteV RX12 512 RX12 mdX12_goes 1 := ⟨⟨(tb_at 1753 (by decide +kernel) rfl), (tb_at 1756 (by decide +kernel) rfl), (tb_at 112 (by decide +kernel) rfl), by decide, by decide, by decide +kernel⟩, (tb_at 1755 (by decide +kernel) rfl), (tb_at 92 (by decide +kernel) rfl)⟩
set_option maxRecDepth 100000 in
theorem stX12_515 : siteV RX12 515 RX12 mdX12_laysBack 0 := ⟨⟨(tb_at 1757 (by decide +kernel) rfl), (tb_at 1760 (by decide +kernel) rfl), (tb_at 112 (by decide +kernel) rfl), by decide, by decide, by decide +kernel⟩, (tb_at 1759 (by decide +kernel) rfl), (tb_at 93 (by decide +kernel) rfl)⟩
set_option maxRecDepth 100000 in
theorem lcX12_518 : Cond.constantLong RX12 518 (100) ∈ TB := (tb_at 1739 (by decide +kernel) rfl)
set_option maxRecDepth 100000 in
theorem lcX12_520 : Cond.constantLong RX12 520 (2) ∈ TB := (tb_at 1740 (by decide +kernel) rfl)
set_option maxRecDepth 100000 in
theorem stX12_522 : siteV RX12 522 RX12 mdX12_keepsAll 0 := ⟨⟨(tb_at 1741 (by decide +kernel) rfl), (tb_at 1744 (by decide +kernel) rfl), (tb_at 112 (by decide +kernel) rfl), by decide, by decide, by decide +kernel⟩, (tb_at 1743 (by decide +kernel) rfl), (tb_at 89 (by decide +kernel) rfl)⟩
set_option maxRecDepth 100000 in
theorem lcX12_525 : Cond.constantLong RX12 525 (3) ∈ TB := (tb_at 1765 (by decide +kernel) rfl)
set_option maxRecDepth 100000 in
theorem stX12_527 : siteV RX12 527 RX12 mdX12_looksToday 0 := ⟨⟨(tb_at 1766 (by decide +kernel) rfl), (tb_at 1769 (by decide +kernel) rfl), (tb_at 112 (by decide +kernel) rfl), by decide, by decide, by decide +kernel⟩, (tb_at 1768 (by decide +kernel) rfl), (tb_at 94 (by decide +kernel) rfl)⟩
set_option maxRecDepth 100000 in
theorem stX12_530 : siteV RX12 530 RX12 mdX12_costsOf 1 := ⟨⟨(tb_at 1786 (by decide +kernel) rfl), (tb_at 1789 (by decide +kernel) rfl), (tb_at 112 (by decide +kernel) rfl), by decide, by decide, by decide +kernel⟩, (tb_at 1788 (by decide +kernel) rfl), (tb_at 95 (by decide +kernel) rfl)⟩
set_option maxRecDepth 100000 in
theorem stX12_533 : siteV RX12 533 RX12 mdX12_laysRests 1 := ⟨⟨(tb_at 1798 (by decide +kernel) rfl), (tb_at 1801 (by decide +kernel) rfl), (tb_at 112 (by decide +kernel) rfl), by decide, by decide, by decide +kernel⟩, (tb_at 1800 (by decide +kernel) rfl), (tb_at 96 (by decide +kernel) rfl)⟩
set_option maxRecDepth 100000 in
theorem stX12_536 : siteV RX12 536 RX12 mdX12_isRest 1 := ⟨⟨(tb_at 1802 (by decide +kernel) rfl), (tb_at 1805 (by decide +kernel) rfl), (tb_at 112 (by decide +kernel) rfl), by decide, by decide, by decide +kernel⟩, (tb_at 1804 (by decide +kernel) rfl), (tb_at 97 (by decide +kernel) rfl)⟩
set_option maxRecDepth 100000 in
theorem stX12_539 : siteV RX12 539 RX12 mdX12_areAlike 2 := ⟨⟨(tb_at 1810 (by decide +kernel) rfl), (tb_at 1813 (by decide +kernel) rfl), (tb_at 112 (by decide +kernel) rfl), by decide, by decide, by decide +kernel⟩, (tb_at 1812 (by decide +kernel) rfl), (tb_at 98 (by decide +kernel) rfl)⟩
set_option maxRecDepth 100000 in
theorem lcX12_542 : Cond.constantLong RX12 542 (30) ∈ TB := (tb_at 1830 (by decide +kernel) rfl)
set_option maxRecDepth 100000 in
theorem lcX12_544 : Cond.constantLong RX12 544 (-100) ∈ TB := (tb_at 1831 (by decide +kernel) rfl)
set_option maxRecDepth 100000 in
theorem lcX12_546 : Cond.constantLong RX12 546 (1000) ∈ TB := (tb_at 1832 (by decide +kernel) rfl)
set_option maxRecDepth 100000 in
theorem stX12_548 : siteV RX12 548 RX12 mdX12_doesFit 2 := ⟨⟨(tb_at 1837 (by decide +kernel) rfl), (tb_at 1840 (by decide +kernel) rfl), (tb_at 112 (by decide +kernel) rfl), by decide, by decide, by decide +kernel⟩, (tb_at 1839 (by decide +kernel) rfl), (tb_at 99 (by decide +kernel) rfl)⟩
set_option maxRecDepth 100000 in
theorem stX12_551 : siteV RX12 551 RX12 mdX12_mostAlike 1 := ⟨⟨(tb_at 1845 (by decide +kernel) rfl), (tb_at 1848 (by decide +kernel) rfl), (tb_at 112 (by decide +kernel) rfl), by decide, by decide, by decide +kernel⟩, (tb_at 1847 (by decide +kernel) rfl), (tb_at 100 (by decide +kernel) rfl)⟩
set_option maxRecDepth 100000 in
theorem lcX12_554 : Cond.constantLong RX12 554 (1103515245) ∈ TB := (tb_at 1704 (by decide +kernel) rfl)
set_option maxRecDepth 100000 in
theorem lcX12_556 : Cond.constantLong RX12 556 (12345) ∈ TB := (tb_at 1705 (by decide +kernel) rfl)
set_option maxRecDepth 100000 in
theorem lcX12_558 : Cond.constantLong RX12 558 (2147483648) ∈ TB := (tb_at 1706 (by decide +kernel) rfl)
set_option maxRecDepth 100000 in
theorem lcX12_560 : Cond.constant RX12 560 (65536) ∈ TB := (tb_at 1707 (by decide +kernel) rfl)
set_option maxRecDepth 100000 in
theorem lcX12_561 : Cond.constantLong RX12 561 (10) ∈ TB := (tb_at 1857 (by decide +kernel) rfl)
set_option maxRecDepth 100000 in
theorem lcX12_563 : Cond.constantLong RX12 563 (60) ∈ TB := (tb_at 1858 (by decide +kernel) rfl)
set_option maxRecDepth 100000 in
theorem stX12_565 : siteS RX12 565 mdX12_allOf 1 := ⟨⟨(tb_at 1863 (by decide +kernel) rfl), (tb_at 1865 (by decide +kernel) rfl), (tb_at 112 (by decide +kernel) rfl), by decide, by decide, by decide +kernel⟩, (tb_at 1864 (by decide +kernel) rfl)⟩
set_option maxRecDepth 100000 in
theorem lkX12_569 : lkF RX12 569 11 81 := Or.inl (tb_at 1260 (by decide +kernel) rfl)
set_option maxRecDepth 100000 in
theorem lkX12_572 : lkF RX12 572 11 80 := Or.inl (tb_at 1259 (by decide +kernel) rfl)
set_option maxRecDepth 100000 in
theorem stX12_575 : siteV RX12 575 RX12 mdX12_carryRow 1 := ⟨⟨(tb_at 1749 (by decide +kernel) rfl), (tb_at 1752 (by decide +kernel) rfl), (tb_at 112 (by decide +kernel) rfl), by decide, by decide, by decide +kernel⟩, (tb_at 1751 (by decide +kernel) rfl), (tb_at 91 (by decide +kernel) rfl)⟩
