/-! THE LAW: its arms, decoded -/
set_option maxRecDepth 100000 in
theorem arD_feed : armD 176 5 13 17 := ⟨by decide +kernel, fun j hj => match j, hj with | 0, _ => ⟨by decide +kernel, by decide +kernel, by decide +kernel, by decide +kernel, by decide +kernel⟩ | 1, _ => ⟨by decide +kernel, by decide +kernel, by decide +kernel, by decide +kernel, by decide +kernel⟩ | 2, _ => ⟨by decide +kernel, by decide +kernel, by decide +kernel, by decide +kernel, by decide +kernel⟩ | 3, _ => ⟨by decide +kernel, by decide +kernel, by decide +kernel, by decide +kernel, by decide +kernel⟩ | 4, _ => ⟨by decide +kernel, by decide +kernel, by decide +kernel, by decide +kernel, by decide +kernel⟩ | m + 5, h => absurd h (by omega), by decide +kernel, by decide +kernel, fun j hj => match j, hj with | 0, _ => ⟨by decide +kernel, by decide +kernel, by decide +kernel, by decide +kernel, by decide +kernel⟩ | 1, _ => ⟨by decide +kernel, by decide +kernel, by decide +kernel, by decide +kernel, by decide +kernel⟩ | 2, _ => ⟨by decide +kernel, by decide +kernel, by decide +kernel, by decide +kernel, by decide +kernel⟩ | 3, _ => ⟨by decide +kernel, by decide +kernel, by decide +kernel, by decide +kernel, by decide +kernel⟩ | 4, _ => ⟨by decide +kernel, by decide +kernel, by decide +kernel, by decide +kernel, by decide +kernel⟩ | m + 5, h => absurd h (by omega), by decide +kernel, by decide +kernel⟩
set_option maxRecDepth 100000 in
theorem arD_end : armD 239 1 18 22 := ⟨by decide +kernel, fun j hj => match j, hj with | 0, _ => ⟨by decide +kernel, by decide +kernel, by decide +kernel, by decide +kernel, by decide +kernel⟩ | m + 1, h => absurd h (by omega), by decide +kernel, by decide +kernel, fun j hj => match j, hj with | 0, _ => ⟨by decide +kernel, by decide +kernel, by decide +kernel, by decide +kernel, by decide +kernel⟩ | m + 1, h => absurd h (by omega), by decide +kernel, by decide +kernel⟩
set_option maxRecDepth 100000 in
theorem arD_town : armD 262 0 23 27 := ⟨by decide +kernel, fun j hj => absurd hj (by omega), by decide +kernel, by decide +kernel, fun j hj => absurd hj (by omega), by decide +kernel, by decide +kernel⟩
set_option maxRecDepth 100000 in
theorem arD_rule : armD 275 0 28 31 := ⟨by decide +kernel, fun j hj => absurd hj (by omega), by decide +kernel, by decide +kernel, fun j hj => absurd hj (by omega), by decide +kernel, by decide +kernel⟩
set_option maxRecDepth 100000 in
theorem arD_force : armD 288 1 32 35 := ⟨by decide +kernel, fun j hj => match j, hj with | 0, _ => ⟨by decide +kernel, by decide +kernel, by decide +kernel, by decide +kernel, by decide +kernel⟩ | m + 1, h => absurd h (by omega), by decide +kernel, by decide +kernel, fun j hj => match j, hj with | 0, _ => ⟨by decide +kernel, by decide +kernel, by decide +kernel, by decide +kernel, by decide +kernel⟩ | m + 1, h => absurd h (by omega), by decide +kernel, by decide +kernel⟩
set_option maxRecDepth 100000 in
theorem arD_person : armD 311 2 36 40 := ⟨by decide +kernel, fun j hj => match j, hj with | 0, _ => ⟨by decide +kernel, by decide +kernel, by decide +kernel, by decide +kernel, by decide +kernel⟩ | 1, _ => ⟨by decide +kernel, by decide +kernel, by decide +kernel, by decide +kernel, by decide +kernel⟩ | m + 2, h => absurd h (by omega), by decide +kernel, by decide +kernel, fun j hj => match j, hj with | 0, _ => ⟨by decide +kernel, by decide +kernel, by decide +kernel, by decide +kernel, by decide +kernel⟩ | 1, _ => ⟨by decide +kernel, by decide +kernel, by decide +kernel, by decide +kernel, by decide +kernel⟩ | m + 2, h => absurd h (by omega), by decide +kernel, by decide +kernel⟩
set_option maxRecDepth 100000 in
theorem arD_meeting : armD 344 2 41 44 := ⟨by decide +kernel, fun j hj => match j, hj with | 0, _ => ⟨by decide +kernel, by decide +kernel, by decide +kernel, by decide +kernel, by decide +kernel⟩ | 1, _ => ⟨by decide +kernel, by decide +kernel, by decide +kernel, by decide +kernel, by decide +kernel⟩ | m + 2, h => absurd h (by omega), by decide +kernel, by decide +kernel, fun j hj => match j, hj with | 0, _ => ⟨by decide +kernel, by decide +kernel, by decide +kernel, by decide +kernel, by decide +kernel⟩ | 1, _ => ⟨by decide +kernel, by decide +kernel, by decide +kernel, by decide +kernel, by decide +kernel⟩ | m + 2, h => absurd h (by omega), by decide +kernel, by decide +kernel⟩
set_option maxRecDepth 100000 in
theorem arD_day : armD 377 0 45 48 := ⟨by decide +kernel, fun j hj => absurd hj (by omega), by decide +kernel, by decide +kernel, fun j hj => absurd hj (by omega), by decide +kernel, by decide +kernel⟩
set_option maxRecDepth 100000 in
theorem arD_ask : armD 390 2 49 52 := ⟨by decide +kernel, fun j hj => match j, hj with | 0, _ => ⟨by decide +kernel, by decide +kernel, by decide +kernel, by decide +kernel, by decide +kernel⟩ | 1, _ => ⟨by decide +kernel, by decide +kernel, by decide +kernel, by decide +kernel, by decide +kernel⟩ | m + 2, h => absurd h (by omega), by decide +kernel, by decide +kernel, fun j hj => match j, hj with | 0, _ => ⟨by decide +kernel, by decide +kernel, by decide +kernel, by decide +kernel, by decide +kernel⟩ | 1, _ => ⟨by decide +kernel, by decide +kernel, by decide +kernel, by decide +kernel, by decide +kernel⟩ | m + 2, h => absurd h (by omega), by decide +kernel, by decide +kernel⟩
set_option maxRecDepth 100000 in
theorem arD_set : armD 423 2 53 56 := ⟨by decide +kernel, fun j hj => match j, hj with | 0, _ => ⟨by decide +kernel, by decide +kernel, by decide +kernel, by decide +kernel, by decide +kernel⟩ | 1, _ => ⟨by decide +kernel, by decide +kernel, by decide +kernel, by decide +kernel, by decide +kernel⟩ | m + 2, h => absurd h (by omega), by decide +kernel, by decide +kernel, fun j hj => match j, hj with | 0, _ => ⟨by decide +kernel, by decide +kernel, by decide +kernel, by decide +kernel, by decide +kernel⟩ | 1, _ => ⟨by decide +kernel, by decide +kernel, by decide +kernel, by decide +kernel, by decide +kernel⟩ | m + 2, h => absurd h (by omega), by decide +kernel, by decide +kernel⟩
set_option maxRecDepth 100000 in
theorem arD_let : armD 456 1 57 60 := ⟨by decide +kernel, fun j hj => match j, hj with | 0, _ => ⟨by decide +kernel, by decide +kernel, by decide +kernel, by decide +kernel, by decide +kernel⟩ | m + 1, h => absurd h (by omega), by decide +kernel, by decide +kernel, fun j hj => match j, hj with | 0, _ => ⟨by decide +kernel, by decide +kernel, by decide +kernel, by decide +kernel, by decide +kernel⟩ | m + 1, h => absurd h (by omega), by decide +kernel, by decide +kernel⟩
set_option maxRecDepth 100000 in
theorem arD_undo : armD 479 0 61 64 := ⟨by decide +kernel, fun j hj => absurd hj (by omega), by decide +kernel, by decide +kernel, fun j hj => absurd hj (by omega), by decide +kernel, by decide +kernel⟩
set_option maxRecDepth 100000 in
theorem arD_ahead : armD 492 3 65 69 := ⟨by decide +kernel, fun j hj => match j, hj with | 0, _ => ⟨by decide +kernel, by decide +kernel, by decide +kernel, by decide +kernel, by decide +kernel⟩ | 1, _ => ⟨by decide +kernel, by decide +kernel, by decide +kernel, by decide +kernel, by decide +kernel⟩ | 2, _ => ⟨by decide +kernel, by decide +kernel, by decide +kernel, by decide +kernel, by decide +kernel⟩ | m + 3, h => absurd h (by omega), by decide +kernel, by decide +kernel, fun j hj => match j, hj with | 0, _ => ⟨by decide +kernel, by decide +kernel, by decide +kernel, by decide +kernel, by decide +kernel⟩ | 1, _ => ⟨by decide +kernel, by decide +kernel, by decide +kernel, by decide +kernel, by decide +kernel⟩ | 2, _ => ⟨by decide +kernel, by decide +kernel, by decide +kernel, by decide +kernel, by decide +kernel⟩ | m + 3, h => absurd h (by omega), by decide +kernel, by decide +kernel⟩
set_option maxRecDepth 100000 in
theorem arD_today : armD 535 2 70 73 := ⟨by decide +kernel, fun j hj => match j, hj with | 0, _ => ⟨by decide +kernel, by decide +kernel, by decide +kernel, by decide +kernel, by decide +kernel⟩ | 1, _ => ⟨by decide +kernel, by decide +kernel, by decide +kernel, by decide +kernel, by decide +kernel⟩ | m + 2, h => absurd h (by omega), by decide +kernel, by decide +kernel, fun j hj => match j, hj with | 0, _ => ⟨by decide +kernel, by decide +kernel, by decide +kernel, by decide +kernel, by decide +kernel⟩ | 1, _ => ⟨by decide +kernel, by decide +kernel, by decide +kernel, by decide +kernel, by decide +kernel⟩ | m + 2, h => absurd h (by omega), by decide +kernel, by decide +kernel⟩
set_option maxRecDepth 100000 in
theorem arD_ends : armD 568 1 74 77 := ⟨by decide +kernel, fun j hj => match j, hj with | 0, _ => ⟨by decide +kernel, by decide +kernel, by decide +kernel, by decide +kernel, by decide +kernel⟩ | m + 1, h => absurd h (by omega), by decide +kernel, by decide +kernel, fun j hj => match j, hj with | 0, _ => ⟨by decide +kernel, by decide +kernel, by decide +kernel, by decide +kernel, by decide +kernel⟩ | m + 1, h => absurd h (by omega), by decide +kernel, by decide +kernel⟩
set_option maxRecDepth 100000 in
theorem arD_chain : armD 591 1 78 81 := ⟨by decide +kernel, fun j hj => match j, hj with | 0, _ => ⟨by decide +kernel, by decide +kernel, by decide +kernel, by decide +kernel, by decide +kernel⟩ | m + 1, h => absurd h (by omega), by decide +kernel, by decide +kernel, fun j hj => match j, hj with | 0, _ => ⟨by decide +kernel, by decide +kernel, by decide +kernel, by decide +kernel, by decide +kernel⟩ | m + 1, h => absurd h (by omega), by decide +kernel, by decide +kernel⟩
set_option maxRecDepth 100000 in
theorem arD_minute : armD 614 2 82 85 := ⟨by decide +kernel, fun j hj => match j, hj with | 0, _ => ⟨by decide +kernel, by decide +kernel, by decide +kernel, by decide +kernel, by decide +kernel⟩ | 1, _ => ⟨by decide +kernel, by decide +kernel, by decide +kernel, by decide +kernel, by decide +kernel⟩ | m + 2, h => absurd h (by omega), by decide +kernel, by decide +kernel, fun j hj => match j, hj with | 0, _ => ⟨by decide +kernel, by decide +kernel, by decide +kernel, by decide +kernel, by decide +kernel⟩ | 1, _ => ⟨by decide +kernel, by decide +kernel, by decide +kernel, by decide +kernel, by decide +kernel⟩ | m + 2, h => absurd h (by omega), by decide +kernel, by decide +kernel⟩
set_option maxRecDepth 100000 in
theorem arD_leave : armD 647 1 86 89 := ⟨by decide +kernel, fun j hj => match j, hj with | 0, _ => ⟨by decide +kernel, by decide +kernel, by decide +kernel, by decide +kernel, by decide +kernel⟩ | m + 1, h => absurd h (by omega), by decide +kernel, by decide +kernel, fun j hj => match j, hj with | 0, _ => ⟨by decide +kernel, by decide +kernel, by decide +kernel, by decide +kernel, by decide +kernel⟩ | m + 1, h => absurd h (by omega), by decide +kernel, by decide +kernel⟩
set_option maxRecDepth 100000 in
theorem arD_rests : armD 670 2 90 93 := ⟨by decide +kernel, fun j hj => match j, hj with | 0, _ => ⟨by decide +kernel, by decide +kernel, by decide +kernel, by decide +kernel, by decide +kernel⟩ | 1, _ => ⟨by decide +kernel, by decide +kernel, by decide +kernel, by decide +kernel, by decide +kernel⟩ | m + 2, h => absurd h (by omega), by decide +kernel, by decide +kernel, fun j hj => match j, hj with | 0, _ => ⟨by decide +kernel, by decide +kernel, by decide +kernel, by decide +kernel, by decide +kernel⟩ | 1, _ => ⟨by decide +kernel, by decide +kernel, by decide +kernel, by decide +kernel, by decide +kernel⟩ | m + 2, h => absurd h (by omega), by decide +kernel, by decide +kernel⟩
set_option maxRecDepth 100000 in
theorem arD_again : armD 703 1 94 97 := ⟨by decide +kernel, fun j hj => match j, hj with | 0, _ => ⟨by decide +kernel, by decide +kernel, by decide +kernel, by decide +kernel, by decide +kernel⟩ | m + 1, h => absurd h (by omega), by decide +kernel, by decide +kernel, fun j hj => match j, hj with | 0, _ => ⟨by decide +kernel, by decide +kernel, by decide +kernel, by decide +kernel, by decide +kernel⟩ | m + 1, h => absurd h (by omega), by decide +kernel, by decide +kernel⟩
set_option maxRecDepth 100000 in
theorem arD_law : armD 726 2 98 101 := ⟨by decide +kernel, fun j hj => match j, hj with | 0, _ => ⟨by decide +kernel, by decide +kernel, by decide +kernel, by decide +kernel, by decide +kernel⟩ | 1, _ => ⟨by decide +kernel, by decide +kernel, by decide +kernel, by decide +kernel, by decide +kernel⟩ | m + 2, h => absurd h (by omega), by decide +kernel, by decide +kernel, fun j hj => match j, hj with | 0, _ => ⟨by decide +kernel, by decide +kernel, by decide +kernel, by decide +kernel, by decide +kernel⟩ | 1, _ => ⟨by decide +kernel, by decide +kernel, by decide +kernel, by decide +kernel, by decide +kernel⟩ | m + 2, h => absurd h (by omega), by decide +kernel, by decide +kernel⟩
set_option maxRecDepth 100000 in
theorem arD_log : armD 759 3 102 105 := ⟨by decide +kernel, fun j hj => match j, hj with | 0, _ => ⟨by decide +kernel, by decide +kernel, by decide +kernel, by decide +kernel, by decide +kernel⟩ | 1, _ => ⟨by decide +kernel, by decide +kernel, by decide +kernel, by decide +kernel, by decide +kernel⟩ | 2, _ => ⟨by decide +kernel, by decide +kernel, by decide +kernel, by decide +kernel, by decide +kernel⟩ | m + 3, h => absurd h (by omega), by decide +kernel, by decide +kernel, fun j hj => match j, hj with | 0, _ => ⟨by decide +kernel, by decide +kernel, by decide +kernel, by decide +kernel, by decide +kernel⟩ | 1, _ => ⟨by decide +kernel, by decide +kernel, by decide +kernel, by decide +kernel, by decide +kernel⟩ | 2, _ => ⟨by decide +kernel, by decide +kernel, by decide +kernel, by decide +kernel, by decide +kernel⟩ | m + 3, h => absurd h (by omega), by decide +kernel, by decide +kernel⟩
set_option maxRecDepth 100000 in
theorem arD_habit : armD 802 2 106 109 := ⟨by decide +kernel, fun j hj => match j, hj with | 0, _ => ⟨by decide +kernel, by decide +kernel, by decide +kernel, by decide +kernel, by decide +kernel⟩ | 1, _ => ⟨by decide +kernel, by decide +kernel, by decide +kernel, by decide +kernel, by decide +kernel⟩ | m + 2, h => absurd h (by omega), by decide +kernel, by decide +kernel, fun j hj => match j, hj with | 0, _ => ⟨by decide +kernel, by decide +kernel, by decide +kernel, by decide +kernel, by decide +kernel⟩ | 1, _ => ⟨by decide +kernel, by decide +kernel, by decide +kernel, by decide +kernel, by decide +kernel⟩ | m + 2, h => absurd h (by omega), by decide +kernel, by decide +kernel⟩
set_option maxRecDepth 100000 in
theorem arD_door : armD 835 2 110 113 := ⟨by decide +kernel, fun j hj => match j, hj with | 0, _ => ⟨by decide +kernel, by decide +kernel, by decide +kernel, by decide +kernel, by decide +kernel⟩ | 1, _ => ⟨by decide +kernel, by decide +kernel, by decide +kernel, by decide +kernel, by decide +kernel⟩ | m + 2, h => absurd h (by omega), by decide +kernel, by decide +kernel, fun j hj => match j, hj with | 0, _ => ⟨by decide +kernel, by decide +kernel, by decide +kernel, by decide +kernel, by decide +kernel⟩ | 1, _ => ⟨by decide +kernel, by decide +kernel, by decide +kernel, by decide +kernel, by decide +kernel⟩ | m + 2, h => absurd h (by omega), by decide +kernel, by decide +kernel⟩
set_option maxRecDepth 100000 in
theorem arD_clocks : armD 868 2 114 117 := ⟨by decide +kernel, fun j hj => match j, hj with | 0, _ => ⟨by decide +kernel, by decide +kernel, by decide +kernel, by decide +kernel, by decide +kernel⟩ | 1, _ => ⟨by decide +kernel, by decide +kernel, by decide +kernel, by decide +kernel, by decide +kernel⟩ | m + 2, h => absurd h (by omega), by decide +kernel, by decide +kernel, fun j hj => match j, hj with | 0, _ => ⟨by decide +kernel, by decide +kernel, by decide +kernel, by decide +kernel, by decide +kernel⟩ | 1, _ => ⟨by decide +kernel, by decide +kernel, by decide +kernel, by decide +kernel, by decide +kernel⟩ | m + 2, h => absurd h (by omega), by decide +kernel, by decide +kernel⟩
set_option maxRecDepth 100000 in
theorem arD_pardon : armD 901 2 118 121 := ⟨by decide +kernel, fun j hj => match j, hj with | 0, _ => ⟨by decide +kernel, by decide +kernel, by decide +kernel, by decide +kernel, by decide +kernel⟩ | 1, _ => ⟨by decide +kernel, by decide +kernel, by decide +kernel, by decide +kernel, by decide +kernel⟩ | m + 2, h => absurd h (by omega), by decide +kernel, by decide +kernel, fun j hj => match j, hj with | 0, _ => ⟨by decide +kernel, by decide +kernel, by decide +kernel, by decide +kernel, by decide +kernel⟩ | 1, _ => ⟨by decide +kernel, by decide +kernel, by decide +kernel, by decide +kernel, by decide +kernel⟩ | m + 2, h => absurd h (by omega), by decide +kernel, by decide +kernel⟩
set_option maxRecDepth 100000 in
theorem arD_worth : armD 934 2 122 125 := ⟨by decide +kernel, fun j hj => match j, hj with | 0, _ => ⟨by decide +kernel, by decide +kernel, by decide +kernel, by decide +kernel, by decide +kernel⟩ | 1, _ => ⟨by decide +kernel, by decide +kernel, by decide +kernel, by decide +kernel, by decide +kernel⟩ | m + 2, h => absurd h (by omega), by decide +kernel, by decide +kernel, fun j hj => match j, hj with | 0, _ => ⟨by decide +kernel, by decide +kernel, by decide +kernel, by decide +kernel, by decide +kernel⟩ | 1, _ => ⟨by decide +kernel, by decide +kernel, by decide +kernel, by decide +kernel, by decide +kernel⟩ | m + 2, h => absurd h (by omega), by decide +kernel, by decide +kernel⟩
set_option maxRecDepth 100000 in
theorem arD_seed : armD 967 1 126 129 := ⟨by decide +kernel, fun j hj => match j, hj with | 0, _ => ⟨by decide +kernel, by decide +kernel, by decide +kernel, by decide +kernel, by decide +kernel⟩ | m + 1, h => absurd h (by omega), by decide +kernel, by decide +kernel, fun j hj => match j, hj with | 0, _ => ⟨by decide +kernel, by decide +kernel, by decide +kernel, by decide +kernel, by decide +kernel⟩ | m + 1, h => absurd h (by omega), by decide +kernel, by decide +kernel⟩
set_option maxRecDepth 100000 in
theorem arD_years : armD 990 3 130 133 := ⟨by decide +kernel, fun j hj => match j, hj with | 0, _ => ⟨by decide +kernel, by decide +kernel, by decide +kernel, by decide +kernel, by decide +kernel⟩ | 1, _ => ⟨by decide +kernel, by decide +kernel, by decide +kernel, by decide +kernel, by decide +kernel⟩ | 2, _ => ⟨by decide +kernel, by decide +kernel, by decide +kernel, by decide +kernel, by decide +kernel⟩ | m + 3, h => absurd h (by omega), by decide +kernel, by decide +kernel, fun j hj => match j, hj with | 0, _ => ⟨by decide +kernel, by decide +kernel, by decide +kernel, by decide +kernel, by decide +kernel⟩ | 1, _ => ⟨by decide +kernel, by decide +kernel, by decide +kernel, by decide +kernel, by decide +kernel⟩ | 2, _ => ⟨by decide +kernel, by decide +kernel, by decide +kernel, by decide +kernel, by decide +kernel⟩ | m + 3, h => absurd h (by omega), by decide +kernel, by decide +kernel⟩
set_option maxRecDepth 100000 in
theorem arD_count : armD 1033 1 134 137 := ⟨by decide +kernel, fun j hj => match j, hj with | 0, _ => ⟨by decide +kernel, by decide +kernel, by decide +kernel, by decide +kernel, by decide +kernel⟩ | m + 1, h => absurd h (by omega), by decide +kernel, by decide +kernel, fun j hj => match j, hj with | 0, _ => ⟨by decide +kernel, by decide +kernel, by decide +kernel, by decide +kernel, by decide +kernel⟩ | m + 1, h => absurd h (by omega), by decide +kernel, by decide +kernel⟩
set_option maxRecDepth 100000 in
theorem arD_image : armD 1056 1 138 141 := ⟨by decide +kernel, fun j hj => match j, hj with | 0, _ => ⟨by decide +kernel, by decide +kernel, by decide +kernel, by decide +kernel, by decide +kernel⟩ | m + 1, h => absurd h (by omega), by decide +kernel, by decide +kernel, fun j hj => match j, hj with | 0, _ => ⟨by decide +kernel, by decide +kernel, by decide +kernel, by decide +kernel, by decide +kernel⟩ | m + 1, h => absurd h (by omega), by decide +kernel, by decide +kernel⟩
set_option maxRecDepth 100000 in
theorem arD_back : armD 1079 1 142 145 := ⟨by decide +kernel, fun j hj => match j, hj with | 0, _ => ⟨by decide +kernel, by decide +kernel, by decide +kernel, by decide +kernel, by decide +kernel⟩ | m + 1, h => absurd h (by omega), by decide +kernel, by decide +kernel, fun j hj => match j, hj with | 0, _ => ⟨by decide +kernel, by decide +kernel, by decide +kernel, by decide +kernel, by decide +kernel⟩ | m + 1, h => absurd h (by omega), by decide +kernel, by decide +kernel⟩
set_option maxRecDepth 100000 in
theorem dL_0 : decode code 0 = .ok (.new 7, 3) := by decide +kernel
set_option maxRecDepth 100000 in
theorem dL_3 : decode code 3 = .ok (.dup, 1) := by decide +kernel
set_option maxRecDepth 100000 in
theorem dL_4 : decode code 4 = .ok (.invokespecial 9, 3) := by decide +kernel
set_option maxRecDepth 100000 in
theorem dL_7 : decode code 7 = .ok (.astore_n 1, 1) := by decide +kernel
set_option maxRecDepth 100000 in
theorem dL_8 : decode code 8 = .ok (.new 10, 3) := by decide +kernel
set_option maxRecDepth 100000 in
theorem dL_11 : decode code 11 = .ok (.dup, 1) := by decide +kernel
set_option maxRecDepth 100000 in
theorem dL_12 : decode code 12 = .ok (.invokespecial 12, 3) := by decide +kernel
set_option maxRecDepth 100000 in
theorem dL_15 : decode code 15 = .ok (.astore_n 2, 1) := by decide +kernel
set_option maxRecDepth 100000 in
theorem dL_16 : decode code 16 = .ok (.iconst 0, 1) := by decide +kernel
set_option maxRecDepth 100000 in
theorem dL_17 : decode code 17 = .ok (.istore_n 3, 1) := by decide +kernel
set_option maxRecDepth 100000 in
theorem dL_18 : decode code 18 = .ok (.iload_n 3, 1) := by decide +kernel
set_option maxRecDepth 100000 in
theorem dL_19 : decode code 19 = .ok (.aload_n 0, 1) := by decide +kernel
set_option maxRecDepth 100000 in
theorem dL_20 : decode code 20 = .ok (.arraylength, 1) := by decide +kernel
set_option maxRecDepth 100000 in
theorem dL_21 : decode code 21 = .ok (.bipush 6, 2) := by decide +kernel
set_option maxRecDepth 100000 in
theorem dL_23 : decode code 23 = .ok (.isub, 1) := by decide +kernel
set_option maxRecDepth 100000 in
theorem dL_24 : decode code 24 = .ok (.if_icmp .gt 1084, 3) := by decide +kernel
set_option maxRecDepth 100000 in
theorem dL_27 : decode code 27 = .ok (.aload_n 0, 1) := by decide +kernel
set_option maxRecDepth 100000 in
theorem dL_28 : decode code 28 = .ok (.iload_n 3, 1) := by decide +kernel
set_option maxRecDepth 100000 in
theorem dL_29 : decode code 29 = .ok (.iaload, 1) := by decide +kernel
set_option maxRecDepth 100000 in
theorem dL_30 : decode code 30 = .ok (.bipush 31, 2) := by decide +kernel
set_option maxRecDepth 100000 in
theorem dL_32 : decode code 32 = .ok (.iand, 1) := by decide +kernel
set_option maxRecDepth 100000 in
theorem dL_33 : decode code 33 = .ok (.tableswitch 1069 0 31 #[143, 206, 229, 242, 255, 278, 311, 344, 357, 390, 423, 446, 459, 502, 535, 558, 581, 614, 637, 670, 693, 726, 769, 802, 835, 868, 901, 934, 957, 1000, 1023, 1046], 143) := by decide +kernel
set_option maxRecDepth 100000 in
theorem dL_1102 : decode code 1102 = .ok (.iinc 3 6, 3) := by decide +kernel
set_option maxRecDepth 100000 in
theorem dL_1105 : decode code 1105 = .ok (.goto (-1087), 3) := by decide +kernel
set_option maxRecDepth 100000 in
theorem dL_1108 : decode code 1108 = .ok (.iconst 1, 1) := by decide +kernel
set_option maxRecDepth 100000 in
theorem dL_1109 : decode code 1109 = .ok (.ireturn, 1) := by decide +kernel
