/-! THE LAW: its calls -/
abbrev argsAt (p n : Nat) : Prop := ∀ j, j < n → decode code (p + 5 * j) = .ok (.aload_n 0, 1) ∧ decode code (p + 5 * j + 1) = .ok (.iload_n 3, 1) ∧ decode code (p + 5 * j + 1 + 1) = .ok (.iconst ((j : Int) + 1), 1) ∧ decode code (p + 5 * j + 1 + 1 + 1) = .ok (.iadd, 1) ∧ decode code (p + 5 * j + 1 + 1 + 1 + 1) = .ok (.iaload, 1)
abbrev armD (p n x y : Nat) : Prop := decode code p = .ok (.aload_n 1, 1) ∧ argsAt (p + 1) n ∧ decode code (p + 1 + 5 * n) = .ok (.invokevirtual x, 3) ∧ decode code (p + 1 + 5 * n + 3) = .ok (.aload_n 2, 1) ∧ argsAt (p + 1 + 5 * n + 3 + 1) n ∧ decode code (p + 1 + 5 * n + 3 + 1 + 5 * n) = .ok (.invokevirtual y, 3) ∧ decode code (p + 1 + 5 * n + 3 + 1 + 5 * n + 3) = .ok (.if_icmp .eq (1102 - ((p + 1 + 5 * n + 3 + 1 + 5 * n + 3 : Nat) : Int)), 3)
/-- one call by both -/
def StepOK (g : GX) (mc mm : MD) (vs : List Value) (t : PH) (s s' : ST) (d : Nat) : Prop := ∃ a t' z z', Cn g mc (.ref 0 :: vs) (cW t s) (some (.int a)) (cW t' z) ∧ Cn g mm (.ref 0 :: vs) (mW s') (some (.int a)) (mW z') ∧ INV t' z z' (d + 1) ∧ t'.1 ≤ t.1 + 12
set_option maxRecDepth 100000 in
theorem stL_13 : siteV R_law 13 RX11 mdX11_feed 5 := ⟨⟨(tb_at 543 (by decide +kernel) rfl), (tb_at 546 (by decide +kernel) rfl), (tb_at 102 (by decide +kernel) rfl), by decide, by decide, by decide +kernel⟩, (tb_at 544 (by decide +kernel) rfl), (tb_at 545 (by decide +kernel) rfl)⟩
set_option maxRecDepth 100000 in
theorem stL_17 : siteV R_law 17 RX12 mdX12_feed 5 := ⟨⟨(tb_at 1427 (by decide +kernel) rfl), (tb_at 1430 (by decide +kernel) rfl), (tb_at 112 (by decide +kernel) rfl), by decide, by decide, by decide +kernel⟩, (tb_at 1428 (by decide +kernel) rfl), (tb_at 1429 (by decide +kernel) rfl)⟩
theorem stp_feed {g : GX} {t : PH} {s s' : ST} {d : Nat} (h : INV t s s' d) (ht : t.1 + 60 < 1000000) (hd : d ≤ 600) (p0 p1 p2 p3 p4 : Int32) : StepOK g mdX11_feed mdX12_feed [.int p0, .int p1, .int p2, .int p3, .int p4] t s s' d := by
  obtain ⟨a, z, z2, e1, e2, e3⟩ := feed_ok h p0 p1 p2 p3 p4
  exact ⟨a, t, z, z2, kX11_feed e1, kX12_feed e2, e3, by omega⟩
set_option maxRecDepth 100000 in
theorem stL_18 : siteV R_law 18 RX11 mdX11_end 1 := ⟨⟨(tb_at 551 (by decide +kernel) rfl), (tb_at 554 (by decide +kernel) rfl), (tb_at 102 (by decide +kernel) rfl), by decide, by decide, by decide +kernel⟩, (tb_at 552 (by decide +kernel) rfl), (tb_at 553 (by decide +kernel) rfl)⟩
set_option maxRecDepth 100000 in
theorem stL_22 : siteV R_law 22 RX12 mdX12_end 1 := ⟨⟨(tb_at 1435 (by decide +kernel) rfl), (tb_at 1438 (by decide +kernel) rfl), (tb_at 112 (by decide +kernel) rfl), by decide, by decide, by decide +kernel⟩, (tb_at 1436 (by decide +kernel) rfl), (tb_at 1437 (by decide +kernel) rfl)⟩
theorem stp_end {g : GX} {t : PH} {s s' : ST} {d : Nat} (h : INV t s s' d) (ht : t.1 + 60 < 1000000) (hd : d ≤ 600) (p0 : Int32) : StepOK g mdX11_end mdX12_end [.int p0] t s s' d := by
  obtain ⟨a, z, z2, e1, e2, e3⟩ := end_ok h p0
  exact ⟨a, t, z, z2, kX11_end e1, kX12_end e2, e3, by omega⟩
set_option maxRecDepth 100000 in
theorem stL_23 : siteV R_law 23 RX11 mdX11_town 0 := ⟨⟨(tb_at 555 (by decide +kernel) rfl), (tb_at 558 (by decide +kernel) rfl), (tb_at 102 (by decide +kernel) rfl), by decide, by decide, by decide +kernel⟩, (tb_at 556 (by decide +kernel) rfl), (tb_at 557 (by decide +kernel) rfl)⟩
set_option maxRecDepth 100000 in
theorem stL_27 : siteV R_law 27 RX12 mdX12_town 0 := ⟨⟨(tb_at 1439 (by decide +kernel) rfl), (tb_at 1442 (by decide +kernel) rfl), (tb_at 112 (by decide +kernel) rfl), by decide, by decide, by decide +kernel⟩, (tb_at 1440 (by decide +kernel) rfl), (tb_at 1441 (by decide +kernel) rfl)⟩
theorem stp_town {g : GX} {t : PH} {s s' : ST} {d : Nat} (h : INV t s s' d) (ht : t.1 + 60 < 1000000) (hd : d ≤ 600) : StepOK g mdX11_town mdX12_town [] t s s' d := by
  obtain ⟨a, z, z2, e1, e2, e3⟩ := town_ok h 
  exact ⟨a, t, z, z2, kX11_town e1, kX12_town e2, e3, by omega⟩
set_option maxRecDepth 100000 in
theorem stL_28 : siteV R_law 28 RX11 mdRule 0 := ⟨⟨(tb_at 714 (by decide +kernel) rfl), (tb_at 717 (by decide +kernel) rfl), (tb_at 102 (by decide +kernel) rfl), by decide, by decide, by decide +kernel⟩, (tb_at 715 (by decide +kernel) rfl), (tb_at 716 (by decide +kernel) rfl)⟩
set_option maxRecDepth 100000 in
theorem stL_31 : siteV R_law 31 RX12 mdX12_rule 0 := ⟨⟨(tb_at 1526 (by decide +kernel) rfl), (tb_at 1529 (by decide +kernel) rfl), (tb_at 112 (by decide +kernel) rfl), by decide, by decide, by decide +kernel⟩, (tb_at 1527 (by decide +kernel) rfl), (tb_at 1528 (by decide +kernel) rfl)⟩
theorem stp_rule {g : GX} {t : PH} {s s' : ST} {d : Nat} (h : INV t s s' d) (ht : t.1 + 60 < 1000000) (hd : d ≤ 600) : StepOK g mdRule mdX12_rule [] t s s' d := by
  obtain ⟨a, t2, z, z2, e1, e2, e3, e4⟩ := rule_ok h ht 
  exact ⟨a, t2, z, z2, kX11_rule e1, kX12_rule e2, e3, e4⟩
set_option maxRecDepth 100000 in
theorem stL_32 : siteV R_law 32 RX11 mdX11_force 1 := ⟨⟨(tb_at 860 (by decide +kernel) rfl), (tb_at 863 (by decide +kernel) rfl), (tb_at 102 (by decide +kernel) rfl), by decide, by decide, by decide +kernel⟩, (tb_at 861 (by decide +kernel) rfl), (tb_at 862 (by decide +kernel) rfl)⟩
set_option maxRecDepth 100000 in
theorem stL_35 : siteV R_law 35 RX12 mdX12_force 1 := ⟨⟨(tb_at 1602 (by decide +kernel) rfl), (tb_at 1605 (by decide +kernel) rfl), (tb_at 112 (by decide +kernel) rfl), by decide, by decide, by decide +kernel⟩, (tb_at 1603 (by decide +kernel) rfl), (tb_at 1604 (by decide +kernel) rfl)⟩
theorem stp_force {g : GX} {t : PH} {s s' : ST} {d : Nat} (h : INV t s s' d) (ht : t.1 + 60 < 1000000) (hd : d ≤ 600) (p0 : Int32) : StepOK g mdX11_force mdX12_force [.int p0] t s s' d := by
  obtain ⟨a, z, z2, e1, e2, e3⟩ := force_ok h p0
  exact ⟨a, t, z, z2, kX11_force e1, kX12_force e2, e3, by omega⟩
set_option maxRecDepth 100000 in
theorem stL_36 : siteV R_law 36 RX11 mdX11_person 2 := ⟨⟨(tb_at 864 (by decide +kernel) rfl), (tb_at 867 (by decide +kernel) rfl), (tb_at 102 (by decide +kernel) rfl), by decide, by decide, by decide +kernel⟩, (tb_at 865 (by decide +kernel) rfl), (tb_at 866 (by decide +kernel) rfl)⟩
set_option maxRecDepth 100000 in
theorem stL_40 : siteV R_law 40 RX12 mdX12_person 2 := ⟨⟨(tb_at 1607 (by decide +kernel) rfl), (tb_at 1610 (by decide +kernel) rfl), (tb_at 112 (by decide +kernel) rfl), by decide, by decide, by decide +kernel⟩, (tb_at 1608 (by decide +kernel) rfl), (tb_at 1609 (by decide +kernel) rfl)⟩
theorem stp_person {g : GX} {t : PH} {s s' : ST} {d : Nat} (h : INV t s s' d) (ht : t.1 + 60 < 1000000) (hd : d ≤ 600) (p0 p1 : Int32) : StepOK g mdX11_person mdX12_person [.int p0, .int p1] t s s' d := by
  obtain ⟨a, e1, e2⟩ := person_ok h p0 p1
  exact ⟨a, t, s, s', kX11_person e1, kX12_person e2, INV_mono h (by omega), by omega⟩
set_option maxRecDepth 100000 in
theorem stL_41 : siteV R_law 41 RX11 mdX11_meeting 2 := ⟨⟨(tb_at 880 (by decide +kernel) rfl), (tb_at 883 (by decide +kernel) rfl), (tb_at 102 (by decide +kernel) rfl), by decide, by decide, by decide +kernel⟩, (tb_at 881 (by decide +kernel) rfl), (tb_at 882 (by decide +kernel) rfl)⟩
set_option maxRecDepth 100000 in
theorem stL_44 : siteV R_law 44 RX12 mdX12_meeting 2 := ⟨⟨(tb_at 1626 (by decide +kernel) rfl), (tb_at 1629 (by decide +kernel) rfl), (tb_at 112 (by decide +kernel) rfl), by decide, by decide, by decide +kernel⟩, (tb_at 1627 (by decide +kernel) rfl), (tb_at 1628 (by decide +kernel) rfl)⟩
theorem stp_meeting {g : GX} {t : PH} {s s' : ST} {d : Nat} (h : INV t s s' d) (ht : t.1 + 60 < 1000000) (hd : d ≤ 600) (p0 p1 : Int32) : StepOK g mdX11_meeting mdX12_meeting [.int p0, .int p1] t s s' d := by
  obtain ⟨a, e1, e2⟩ := meeting_ok h p0 p1
  exact ⟨a, t, s, s', kX11_meeting e1, kX12_meeting e2, INV_mono h (by omega), by omega⟩
set_option maxRecDepth 100000 in
theorem stL_45 : siteV R_law 45 RX11 mdX11_day 0 := ⟨⟨(tb_at 888 (by decide +kernel) rfl), (tb_at 891 (by decide +kernel) rfl), (tb_at 102 (by decide +kernel) rfl), by decide, by decide, by decide +kernel⟩, (tb_at 889 (by decide +kernel) rfl), (tb_at 890 (by decide +kernel) rfl)⟩
set_option maxRecDepth 100000 in
theorem stL_48 : siteV R_law 48 RX12 mdX12_day 0 := ⟨⟨(tb_at 1650 (by decide +kernel) rfl), (tb_at 1653 (by decide +kernel) rfl), (tb_at 112 (by decide +kernel) rfl), by decide, by decide, by decide +kernel⟩, (tb_at 1651 (by decide +kernel) rfl), (tb_at 1652 (by decide +kernel) rfl)⟩
theorem stp_day {g : GX} {t : PH} {s s' : ST} {d : Nat} (h : INV t s s' d) (ht : t.1 + 60 < 1000000) (hd : d ≤ 600) : StepOK g mdX11_day mdX12_day [] t s s' d := by
  obtain ⟨a, z, z2, e1, e2, e3⟩ := day_ok h hd 
  exact ⟨a, t, z, z2, kX11_day e1, kX12_day e2, e3, by omega⟩
set_option maxRecDepth 100000 in
theorem stL_49 : siteV R_law 49 RX11 mdX11_ask 2 := ⟨⟨(tb_at 975 (by decide +kernel) rfl), (tb_at 978 (by decide +kernel) rfl), (tb_at 102 (by decide +kernel) rfl), by decide, by decide, by decide +kernel⟩, (tb_at 976 (by decide +kernel) rfl), (tb_at 977 (by decide +kernel) rfl)⟩
set_option maxRecDepth 100000 in
theorem stL_52 : siteV R_law 52 RX12 mdX12_ask 2 := ⟨⟨(tb_at 1720 (by decide +kernel) rfl), (tb_at 1723 (by decide +kernel) rfl), (tb_at 112 (by decide +kernel) rfl), by decide, by decide, by decide +kernel⟩, (tb_at 1721 (by decide +kernel) rfl), (tb_at 1722 (by decide +kernel) rfl)⟩
theorem stp_ask {g : GX} {t : PH} {s s' : ST} {d : Nat} (h : INV t s s' d) (ht : t.1 + 60 < 1000000) (hd : d ≤ 600) (p0 p1 : Int32) : StepOK g mdX11_ask mdX12_ask [.int p0, .int p1] t s s' d := by
  obtain ⟨a, z, z2, e1, e2, e3⟩ := ask_ok h p0 p1
  exact ⟨a, t, z, z2, kX11_ask e1, kX12_ask e2, e3, by omega⟩
set_option maxRecDepth 100000 in
theorem stL_53 : siteV R_law 53 RX11 mdX11_set 2 := ⟨⟨(tb_at 983 (by decide +kernel) rfl), (tb_at 986 (by decide +kernel) rfl), (tb_at 102 (by decide +kernel) rfl), by decide, by decide, by decide +kernel⟩, (tb_at 984 (by decide +kernel) rfl), (tb_at 985 (by decide +kernel) rfl)⟩
set_option maxRecDepth 100000 in
theorem stL_56 : siteV R_law 56 RX12 mdX12_set 2 := ⟨⟨(tb_at 1725 (by decide +kernel) rfl), (tb_at 1728 (by decide +kernel) rfl), (tb_at 112 (by decide +kernel) rfl), by decide, by decide, by decide +kernel⟩, (tb_at 1726 (by decide +kernel) rfl), (tb_at 1727 (by decide +kernel) rfl)⟩
theorem stp_set {g : GX} {t : PH} {s s' : ST} {d : Nat} (h : INV t s s' d) (ht : t.1 + 60 < 1000000) (hd : d ≤ 600) (p0 p1 : Int32) : StepOK g mdX11_set mdX12_set [.int p0, .int p1] t s s' d := by
  obtain ⟨a, z, z2, e1, e2, e3⟩ := set_ok h p0 p1
  exact ⟨a, t, z, z2, kX11_set e1, kX12_set e2, e3, by omega⟩
set_option maxRecDepth 100000 in
theorem stL_57 : siteV R_law 57 RX11 mdX11_let 1 := ⟨⟨(tb_at 987 (by decide +kernel) rfl), (tb_at 990 (by decide +kernel) rfl), (tb_at 102 (by decide +kernel) rfl), by decide, by decide, by decide +kernel⟩, (tb_at 988 (by decide +kernel) rfl), (tb_at 989 (by decide +kernel) rfl)⟩
set_option maxRecDepth 100000 in
theorem stL_60 : siteV R_law 60 RX12 mdX12_let 1 := ⟨⟨(tb_at 1731 (by decide +kernel) rfl), (tb_at 1734 (by decide +kernel) rfl), (tb_at 112 (by decide +kernel) rfl), by decide, by decide, by decide +kernel⟩, (tb_at 1732 (by decide +kernel) rfl), (tb_at 1733 (by decide +kernel) rfl)⟩
theorem stp_let {g : GX} {t : PH} {s s' : ST} {d : Nat} (h : INV t s s' d) (ht : t.1 + 60 < 1000000) (hd : d ≤ 600) (p0 : Int32) : StepOK g mdX11_let mdX12_let [.int p0] t s s' d := by
  obtain ⟨a, z, z2, e1, e2, e3⟩ := let_ok h p0
  exact ⟨a, t, z, z2, kX11_let e1, kX12_let e2, e3, by omega⟩
set_option maxRecDepth 100000 in
theorem stL_61 : siteV R_law 61 RX11 mdX11_undo 0 := ⟨⟨(tb_at 991 (by decide +kernel) rfl), (tb_at 994 (by decide +kernel) rfl), (tb_at 102 (by decide +kernel) rfl), by decide, by decide, by decide +kernel⟩, (tb_at 992 (by decide +kernel) rfl), (tb_at 993 (by decide +kernel) rfl)⟩
set_option maxRecDepth 100000 in
theorem stL_64 : siteV R_law 64 RX12 mdX12_undo 0 := ⟨⟨(tb_at 1634 (by decide +kernel) rfl), (tb_at 1637 (by decide +kernel) rfl), (tb_at 112 (by decide +kernel) rfl), by decide, by decide, by decide +kernel⟩, (tb_at 1635 (by decide +kernel) rfl), (tb_at 1636 (by decide +kernel) rfl)⟩
theorem stp_undo {g : GX} {t : PH} {s s' : ST} {d : Nat} (h : INV t s s' d) (ht : t.1 + 60 < 1000000) (hd : d ≤ 600) : StepOK g mdX11_undo mdX12_undo [] t s s' d := by
  obtain ⟨a, z, z2, e1, e2, e3⟩ := undo_ok h 
  exact ⟨a, t, z, z2, kX11_undo e1, kX12_undo e2, e3, by omega⟩
set_option maxRecDepth 100000 in
theorem stL_65 : siteV R_law 65 RX11 mdX11_ahead 3 := ⟨⟨(tb_at 999 (by decide +kernel) rfl), (tb_at 1002 (by decide +kernel) rfl), (tb_at 102 (by decide +kernel) rfl), by decide, by decide, by decide +kernel⟩, (tb_at 1000 (by decide +kernel) rfl), (tb_at 1001 (by decide +kernel) rfl)⟩
set_option maxRecDepth 100000 in
theorem stL_69 : siteV R_law 69 RX12 mdX12_ahead 3 := ⟨⟨(tb_at 1735 (by decide +kernel) rfl), (tb_at 1738 (by decide +kernel) rfl), (tb_at 112 (by decide +kernel) rfl), by decide, by decide, by decide +kernel⟩, (tb_at 1736 (by decide +kernel) rfl), (tb_at 1737 (by decide +kernel) rfl)⟩
theorem stp_ahead {g : GX} {t : PH} {s s' : ST} {d : Nat} (h : INV t s s' d) (ht : t.1 + 60 < 1000000) (hd : d ≤ 600) (p0 p1 p2 : Int32) : StepOK g mdX11_ahead mdX12_ahead [.int p0, .int p1, .int p2] t s s' d := by
  obtain ⟨a, z, z2, e1, e2, e3⟩ := ahead_ok h hd p0 p1 p2
  exact ⟨a, t, z, z2, kX11_ahead e1, kX12_ahead e2, e3, by omega⟩
set_option maxRecDepth 100000 in
theorem stL_70 : siteV R_law 70 RX11 mdX11_today 2 := ⟨⟨(tb_at 1008 (by decide +kernel) rfl), (tb_at 1011 (by decide +kernel) rfl), (tb_at 102 (by decide +kernel) rfl), by decide, by decide, by decide +kernel⟩, (tb_at 1009 (by decide +kernel) rfl), (tb_at 1010 (by decide +kernel) rfl)⟩
set_option maxRecDepth 100000 in
theorem stL_73 : siteV R_law 73 RX12 mdX12_today 2 := ⟨⟨(tb_at 1761 (by decide +kernel) rfl), (tb_at 1764 (by decide +kernel) rfl), (tb_at 112 (by decide +kernel) rfl), by decide, by decide, by decide +kernel⟩, (tb_at 1762 (by decide +kernel) rfl), (tb_at 1763 (by decide +kernel) rfl)⟩
theorem stp_today {g : GX} {t : PH} {s s' : ST} {d : Nat} (h : INV t s s' d) (ht : t.1 + 60 < 1000000) (hd : d ≤ 600) (p0 p1 : Int32) : StepOK g mdX11_today mdX12_today [.int p0, .int p1] t s s' d := by
  obtain ⟨a, z, z2, e1, e2, e3⟩ := today_ok h hd p0 p1
  exact ⟨a, t, z, z2, kX11_today e1, kX12_today e2, e3, by omega⟩
set_option maxRecDepth 100000 in
theorem stL_74 : siteV R_law 74 RX11 mdX11_ends 1 := ⟨⟨(tb_at 1012 (by decide +kernel) rfl), (tb_at 1015 (by decide +kernel) rfl), (tb_at 102 (by decide +kernel) rfl), by decide, by decide, by decide +kernel⟩, (tb_at 1013 (by decide +kernel) rfl), (tb_at 1014 (by decide +kernel) rfl)⟩
set_option maxRecDepth 100000 in
theorem stL_77 : siteV R_law 77 RX12 mdX12_ends 1 := ⟨⟨(tb_at 1770 (by decide +kernel) rfl), (tb_at 1773 (by decide +kernel) rfl), (tb_at 112 (by decide +kernel) rfl), by decide, by decide, by decide +kernel⟩, (tb_at 1771 (by decide +kernel) rfl), (tb_at 1772 (by decide +kernel) rfl)⟩
theorem stp_ends {g : GX} {t : PH} {s s' : ST} {d : Nat} (h : INV t s s' d) (ht : t.1 + 60 < 1000000) (hd : d ≤ 600) (p0 : Int32) : StepOK g mdX11_ends mdX12_ends [.int p0] t s s' d := by
  obtain ⟨a, z, z2, e1, e2, e3⟩ := ends_ok h hd p0
  exact ⟨a, t, z, z2, kX11_ends e1, kX12_ends e2, e3, by omega⟩
set_option maxRecDepth 100000 in
theorem stL_78 : siteV R_law 78 RX11 mdX11_chain 1 := ⟨⟨(tb_at 1016 (by decide +kernel) rfl), (tb_at 1019 (by decide +kernel) rfl), (tb_at 102 (by decide +kernel) rfl), by decide, by decide, by decide +kernel⟩, (tb_at 1017 (by decide +kernel) rfl), (tb_at 1018 (by decide +kernel) rfl)⟩
set_option maxRecDepth 100000 in
theorem stL_81 : siteV R_law 81 RX12 mdX12_chain 1 := ⟨⟨(tb_at 1774 (by decide +kernel) rfl), (tb_at 1777 (by decide +kernel) rfl), (tb_at 112 (by decide +kernel) rfl), by decide, by decide, by decide +kernel⟩, (tb_at 1775 (by decide +kernel) rfl), (tb_at 1776 (by decide +kernel) rfl)⟩
theorem stp_chain {g : GX} {t : PH} {s s' : ST} {d : Nat} (h : INV t s s' d) (ht : t.1 + 60 < 1000000) (hd : d ≤ 600) (p0 : Int32) : StepOK g mdX11_chain mdX12_chain [.int p0] t s s' d := by
  obtain ⟨a, z, z2, e1, e2, e3⟩ := chain_ok h hd p0
  exact ⟨a, t, z, z2, kX11_chain e1, kX12_chain e2, e3, by omega⟩
set_option maxRecDepth 100000 in
theorem stL_82 : siteV R_law 82 RX11 mdX11_minute 2 := ⟨⟨(tb_at 1020 (by decide +kernel) rfl), (tb_at 1023 (by decide +kernel) rfl), (tb_at 102 (by decide +kernel) rfl), by decide, by decide, by decide +kernel⟩, (tb_at 1021 (by decide +kernel) rfl), (tb_at 1022 (by decide +kernel) rfl)⟩
set_option maxRecDepth 100000 in
theorem stL_85 : siteV R_law 85 RX12 mdX12_minute 2 := ⟨⟨(tb_at 1778 (by decide +kernel) rfl), (tb_at 1781 (by decide +kernel) rfl), (tb_at 112 (by decide +kernel) rfl), by decide, by decide, by decide +kernel⟩, (tb_at 1779 (by decide +kernel) rfl), (tb_at 1780 (by decide +kernel) rfl)⟩
theorem stp_minute {g : GX} {t : PH} {s s' : ST} {d : Nat} (h : INV t s s' d) (ht : t.1 + 60 < 1000000) (hd : d ≤ 600) (p0 p1 : Int32) : StepOK g mdX11_minute mdX12_minute [.int p0, .int p1] t s s' d := by
  obtain ⟨a, z, z2, e1, e2, e3⟩ := minute_ok h hd p0 p1
  exact ⟨a, t, z, z2, kX11_minute e1, kX12_minute e2, e3, by omega⟩
set_option maxRecDepth 100000 in
theorem stL_86 : siteV R_law 86 RX11 mdX11_leave 1 := ⟨⟨(tb_at 1026 (by decide +kernel) rfl), (tb_at 1029 (by decide +kernel) rfl), (tb_at 102 (by decide +kernel) rfl), by decide, by decide, by decide +kernel⟩, (tb_at 1027 (by decide +kernel) rfl), (tb_at 1028 (by decide +kernel) rfl)⟩
set_option maxRecDepth 100000 in
theorem stL_89 : siteV R_law 89 RX12 mdX12_leave 1 := ⟨⟨(tb_at 1782 (by decide +kernel) rfl), (tb_at 1785 (by decide +kernel) rfl), (tb_at 112 (by decide +kernel) rfl), by decide, by decide, by decide +kernel⟩, (tb_at 1783 (by decide +kernel) rfl), (tb_at 1784 (by decide +kernel) rfl)⟩
theorem stp_leave {g : GX} {t : PH} {s s' : ST} {d : Nat} (h : INV t s s' d) (ht : t.1 + 60 < 1000000) (hd : d ≤ 600) (p0 : Int32) : StepOK g mdX11_leave mdX12_leave [.int p0] t s s' d := by
  obtain ⟨a, z, z2, e1, e2, e3⟩ := leave_ok h hd p0
  exact ⟨a, t, z, z2, kX11_leave e1, kX12_leave e2, e3, by omega⟩
set_option maxRecDepth 100000 in
theorem stL_90 : siteV R_law 90 RX11 mdX11_rests 2 := ⟨⟨(tb_at 1030 (by decide +kernel) rfl), (tb_at 1033 (by decide +kernel) rfl), (tb_at 102 (by decide +kernel) rfl), by decide, by decide, by decide +kernel⟩, (tb_at 1031 (by decide +kernel) rfl), (tb_at 1032 (by decide +kernel) rfl)⟩
set_option maxRecDepth 100000 in
theorem stL_93 : siteV R_law 93 RX12 mdX12_rests 2 := ⟨⟨(tb_at 1794 (by decide +kernel) rfl), (tb_at 1797 (by decide +kernel) rfl), (tb_at 112 (by decide +kernel) rfl), by decide, by decide, by decide +kernel⟩, (tb_at 1795 (by decide +kernel) rfl), (tb_at 1796 (by decide +kernel) rfl)⟩
theorem stp_rests {g : GX} {t : PH} {s s' : ST} {d : Nat} (h : INV t s s' d) (ht : t.1 + 60 < 1000000) (hd : d ≤ 600) (p0 p1 : Int32) : StepOK g mdX11_rests mdX12_rests [.int p0, .int p1] t s s' d := by
  obtain ⟨a, z, z2, e1, e2, e3⟩ := rests_ok h hd p0 p1
  exact ⟨a, t, z, z2, kX11_rests e1, kX12_rests e2, e3, by omega⟩
set_option maxRecDepth 100000 in
theorem stL_94 : siteV R_law 94 RX11 mdX11_again 1 := ⟨⟨(tb_at 1052 (by decide +kernel) rfl), (tb_at 1055 (by decide +kernel) rfl), (tb_at 102 (by decide +kernel) rfl), by decide, by decide, by decide +kernel⟩, (tb_at 1053 (by decide +kernel) rfl), (tb_at 1054 (by decide +kernel) rfl)⟩
set_option maxRecDepth 100000 in
theorem stL_97 : siteV R_law 97 RX12 mdX12_again 1 := ⟨⟨(tb_at 1806 (by decide +kernel) rfl), (tb_at 1809 (by decide +kernel) rfl), (tb_at 112 (by decide +kernel) rfl), by decide, by decide, by decide +kernel⟩, (tb_at 1807 (by decide +kernel) rfl), (tb_at 1808 (by decide +kernel) rfl)⟩
theorem stp_again {g : GX} {t : PH} {s s' : ST} {d : Nat} (h : INV t s s' d) (ht : t.1 + 60 < 1000000) (hd : d ≤ 600) (p0 : Int32) : StepOK g mdX11_again mdX12_again [.int p0] t s s' d := by
  obtain ⟨a, z, z2, e1, e2, e3⟩ := again_ok h hd p0
  exact ⟨a, t, z, z2, kX11_again e1, kX12_again e2, e3, by omega⟩
set_option maxRecDepth 100000 in
theorem stL_98 : siteV R_law 98 RX11 mdX11_law 2 := ⟨⟨(tb_at 1065 (by decide +kernel) rfl), (tb_at 1068 (by decide +kernel) rfl), (tb_at 102 (by decide +kernel) rfl), by decide, by decide, by decide +kernel⟩, (tb_at 1066 (by decide +kernel) rfl), (tb_at 1067 (by decide +kernel) rfl)⟩
set_option maxRecDepth 100000 in
theorem stL_101 : siteV R_law 101 RX12 mdX12_law 2 := ⟨⟨(tb_at 1814 (by decide +kernel) rfl), (tb_at 1817 (by decide +kernel) rfl), (tb_at 112 (by decide +kernel) rfl), by decide, by decide, by decide +kernel⟩, (tb_at 1815 (by decide +kernel) rfl), (tb_at 1816 (by decide +kernel) rfl)⟩
theorem stp_law {g : GX} {t : PH} {s s' : ST} {d : Nat} (h : INV t s s' d) (ht : t.1 + 60 < 1000000) (hd : d ≤ 600) (p0 p1 : Int32) : StepOK g mdX11_law mdX12_law [.int p0, .int p1] t s s' d := by
  obtain ⟨a, z, z2, e1, e2, e3⟩ := law_ok h hd p0 p1
  exact ⟨a, t, z, z2, kX11_law e1, kX12_law e2, e3, by omega⟩
set_option maxRecDepth 100000 in
theorem stL_102 : siteV R_law 102 RX11 mdX11_log 3 := ⟨⟨(tb_at 1073 (by decide +kernel) rfl), (tb_at 1076 (by decide +kernel) rfl), (tb_at 102 (by decide +kernel) rfl), by decide, by decide, by decide +kernel⟩, (tb_at 1074 (by decide +kernel) rfl), (tb_at 1075 (by decide +kernel) rfl)⟩
set_option maxRecDepth 100000 in
theorem stL_105 : siteV R_law 105 RX12 mdX12_log 3 := ⟨⟨(tb_at 1826 (by decide +kernel) rfl), (tb_at 1829 (by decide +kernel) rfl), (tb_at 112 (by decide +kernel) rfl), by decide, by decide, by decide +kernel⟩, (tb_at 1827 (by decide +kernel) rfl), (tb_at 1828 (by decide +kernel) rfl)⟩
theorem stp_log {g : GX} {t : PH} {s s' : ST} {d : Nat} (h : INV t s s' d) (ht : t.1 + 60 < 1000000) (hd : d ≤ 600) (p0 p1 p2 : Int32) : StepOK g mdX11_log mdX12_log [.int p0, .int p1, .int p2] t s s' d := by
  obtain ⟨a, z, z2, e1, e2, e3⟩ := log_ok h p0 p1 p2
  exact ⟨a, t, z, z2, kX11_log e1, kX12_log e2, e3, by omega⟩
set_option maxRecDepth 100000 in
theorem stL_106 : siteV R_law 106 RX11 mdX11_habit 2 := ⟨⟨(tb_at 1081 (by decide +kernel) rfl), (tb_at 1084 (by decide +kernel) rfl), (tb_at 102 (by decide +kernel) rfl), by decide, by decide, by decide +kernel⟩, (tb_at 1082 (by decide +kernel) rfl), (tb_at 1083 (by decide +kernel) rfl)⟩
set_option maxRecDepth 100000 in
theorem stL_109 : siteV R_law 109 RX12 mdX12_habit 2 := ⟨⟨(tb_at 1833 (by decide +kernel) rfl), (tb_at 1836 (by decide +kernel) rfl), (tb_at 112 (by decide +kernel) rfl), by decide, by decide, by decide +kernel⟩, (tb_at 1834 (by decide +kernel) rfl), (tb_at 1835 (by decide +kernel) rfl)⟩
theorem stp_habit {g : GX} {t : PH} {s s' : ST} {d : Nat} (h : INV t s s' d) (ht : t.1 + 60 < 1000000) (hd : d ≤ 600) (p0 p1 : Int32) : StepOK g mdX11_habit mdX12_habit [.int p0, .int p1] t s s' d := by
  obtain ⟨a, z, z2, e1, e2, e3⟩ := habit_ok h hd p0 p1
  exact ⟨a, t, z, z2, kX11_habit e1, kX12_habit e2, e3, by omega⟩
set_option maxRecDepth 100000 in
theorem stL_110 : siteV R_law 110 RX11 mdX11_door 2 := ⟨⟨(tb_at 1119 (by decide +kernel) rfl), (tb_at 1122 (by decide +kernel) rfl), (tb_at 102 (by decide +kernel) rfl), by decide, by decide, by decide +kernel⟩, (tb_at 1120 (by decide +kernel) rfl), (tb_at 1121 (by decide +kernel) rfl)⟩
set_option maxRecDepth 100000 in
theorem stL_113 : siteV R_law 113 RX12 mdX12_door 2 := ⟨⟨(tb_at 1841 (by decide +kernel) rfl), (tb_at 1844 (by decide +kernel) rfl), (tb_at 112 (by decide +kernel) rfl), by decide, by decide, by decide +kernel⟩, (tb_at 1842 (by decide +kernel) rfl), (tb_at 1843 (by decide +kernel) rfl)⟩
theorem stp_door {g : GX} {t : PH} {s s' : ST} {d : Nat} (h : INV t s s' d) (ht : t.1 + 60 < 1000000) (hd : d ≤ 600) (p0 p1 : Int32) : StepOK g mdX11_door mdX12_door [.int p0, .int p1] t s s' d := by
  obtain ⟨a, z, z2, e1, e2, e3⟩ := door_ok h hd p0 p1
  exact ⟨a, t, z, z2, kX11_door e1, kX12_door e2, e3, by omega⟩
set_option maxRecDepth 100000 in
theorem stL_114 : siteV R_law 114 RX11 mdX11_clocks 2 := ⟨⟨(tb_at 1128 (by decide +kernel) rfl), (tb_at 1131 (by decide +kernel) rfl), (tb_at 102 (by decide +kernel) rfl), by decide, by decide, by decide +kernel⟩, (tb_at 1129 (by decide +kernel) rfl), (tb_at 1130 (by decide +kernel) rfl)⟩
set_option maxRecDepth 100000 in
theorem stL_117 : siteV R_law 117 RX12 mdX12_clocks 2 := ⟨⟨(tb_at 1818 (by decide +kernel) rfl), (tb_at 1821 (by decide +kernel) rfl), (tb_at 112 (by decide +kernel) rfl), by decide, by decide, by decide +kernel⟩, (tb_at 1819 (by decide +kernel) rfl), (tb_at 1820 (by decide +kernel) rfl)⟩
theorem stp_clocks {g : GX} {t : PH} {s s' : ST} {d : Nat} (h : INV t s s' d) (ht : t.1 + 60 < 1000000) (hd : d ≤ 600) (p0 p1 : Int32) : StepOK g mdX11_clocks mdX12_clocks [.int p0, .int p1] t s s' d := by
  obtain ⟨a, z, z2, e1, e2, e3⟩ := clocks_ok h hd p0 p1
  exact ⟨a, t, z, z2, kX11_clocks e1, kX12_clocks e2, e3, by omega⟩
set_option maxRecDepth 100000 in
theorem stL_118 : siteV R_law 118 RX11 mdX11_pardon 2 := ⟨⟨(tb_at 1132 (by decide +kernel) rfl), (tb_at 1135 (by decide +kernel) rfl), (tb_at 102 (by decide +kernel) rfl), by decide, by decide, by decide +kernel⟩, (tb_at 1133 (by decide +kernel) rfl), (tb_at 1134 (by decide +kernel) rfl)⟩
set_option maxRecDepth 100000 in
theorem stL_121 : siteV R_law 121 RX12 mdX12_pardon 2 := ⟨⟨(tb_at 1822 (by decide +kernel) rfl), (tb_at 1825 (by decide +kernel) rfl), (tb_at 112 (by decide +kernel) rfl), by decide, by decide, by decide +kernel⟩, (tb_at 1823 (by decide +kernel) rfl), (tb_at 1824 (by decide +kernel) rfl)⟩
theorem stp_pardon {g : GX} {t : PH} {s s' : ST} {d : Nat} (h : INV t s s' d) (ht : t.1 + 60 < 1000000) (hd : d ≤ 600) (p0 p1 : Int32) : StepOK g mdX11_pardon mdX12_pardon [.int p0, .int p1] t s s' d := by
  obtain ⟨a, z, z2, e1, e2, e3⟩ := pardon_ok h hd p0 p1
  exact ⟨a, t, z, z2, kX11_pardon e1, kX12_pardon e2, e3, by omega⟩
set_option maxRecDepth 100000 in
theorem stL_122 : siteV R_law 122 RX11 mdX11_worth 2 := ⟨⟨(tb_at 1136 (by decide +kernel) rfl), (tb_at 1139 (by decide +kernel) rfl), (tb_at 102 (by decide +kernel) rfl), by decide, by decide, by decide +kernel⟩, (tb_at 1137 (by decide +kernel) rfl), (tb_at 1138 (by decide +kernel) rfl)⟩
set_option maxRecDepth 100000 in
theorem stL_125 : siteV R_law 125 RX12 mdX12_worth 2 := ⟨⟨(tb_at 1790 (by decide +kernel) rfl), (tb_at 1793 (by decide +kernel) rfl), (tb_at 112 (by decide +kernel) rfl), by decide, by decide, by decide +kernel⟩, (tb_at 1791 (by decide +kernel) rfl), (tb_at 1792 (by decide +kernel) rfl)⟩
theorem stp_worth {g : GX} {t : PH} {s s' : ST} {d : Nat} (h : INV t s s' d) (ht : t.1 + 60 < 1000000) (hd : d ≤ 600) (p0 p1 : Int32) : StepOK g mdX11_worth mdX12_worth [.int p0, .int p1] t s s' d := by
  obtain ⟨a, z, z2, e1, e2, e3⟩ := worth_ok h hd p0 p1
  exact ⟨a, t, z, z2, kX11_worth e1, kX12_worth e2, e3, by omega⟩
set_option maxRecDepth 100000 in
theorem stL_126 : siteV R_law 126 RX11 mdX11_seed 1 := ⟨⟨(tb_at 1141 (by decide +kernel) rfl), (tb_at 1144 (by decide +kernel) rfl), (tb_at 102 (by decide +kernel) rfl), by decide, by decide, by decide +kernel⟩, (tb_at 1142 (by decide +kernel) rfl), (tb_at 1143 (by decide +kernel) rfl)⟩
set_option maxRecDepth 100000 in
theorem stL_129 : siteV R_law 129 RX12 mdX12_seed 1 := ⟨⟨(tb_at 1849 (by decide +kernel) rfl), (tb_at 1852 (by decide +kernel) rfl), (tb_at 112 (by decide +kernel) rfl), by decide, by decide, by decide +kernel⟩, (tb_at 1850 (by decide +kernel) rfl), (tb_at 1851 (by decide +kernel) rfl)⟩
theorem stp_seed {g : GX} {t : PH} {s s' : ST} {d : Nat} (h : INV t s s' d) (ht : t.1 + 60 < 1000000) (hd : d ≤ 600) (p0 : Int32) : StepOK g mdX11_seed mdX12_seed [.int p0] t s s' d := by
  obtain ⟨a, z, z2, e1, e2, e3⟩ := seed_ok h p0
  exact ⟨a, t, z, z2, kX11_seed e1, kX12_seed e2, e3, by omega⟩
set_option maxRecDepth 100000 in
theorem stL_130 : siteV R_law 130 RX11 mdX11_years 3 := ⟨⟨(tb_at 1145 (by decide +kernel) rfl), (tb_at 1148 (by decide +kernel) rfl), (tb_at 102 (by decide +kernel) rfl), by decide, by decide, by decide +kernel⟩, (tb_at 1146 (by decide +kernel) rfl), (tb_at 1147 (by decide +kernel) rfl)⟩
set_option maxRecDepth 100000 in
theorem stL_133 : siteV R_law 133 RX12 mdX12_years 3 := ⟨⟨(tb_at 1853 (by decide +kernel) rfl), (tb_at 1856 (by decide +kernel) rfl), (tb_at 112 (by decide +kernel) rfl), by decide, by decide, by decide +kernel⟩, (tb_at 1854 (by decide +kernel) rfl), (tb_at 1855 (by decide +kernel) rfl)⟩
theorem stp_years {g : GX} {t : PH} {s s' : ST} {d : Nat} (h : INV t s s' d) (ht : t.1 + 60 < 1000000) (hd : d ≤ 600) (p0 p1 p2 : Int32) : StepOK g mdX11_years mdX12_years [.int p0, .int p1, .int p2] t s s' d := by
  obtain ⟨a, z, z2, e1, e2, e3⟩ := years_ok h hd p0 p1 p2
  exact ⟨a, t, z, z2, kX11_years e1, kX12_years e2, e3, by omega⟩
set_option maxRecDepth 100000 in
theorem stL_134 : siteV R_law 134 RX11 mdX11_count 1 := ⟨⟨(tb_at 1153 (by decide +kernel) rfl), (tb_at 1156 (by decide +kernel) rfl), (tb_at 102 (by decide +kernel) rfl), by decide, by decide, by decide +kernel⟩, (tb_at 1154 (by decide +kernel) rfl), (tb_at 1155 (by decide +kernel) rfl)⟩
set_option maxRecDepth 100000 in
theorem stL_137 : siteV R_law 137 RX12 mdX12_count 1 := ⟨⟨(tb_at 1859 (by decide +kernel) rfl), (tb_at 1862 (by decide +kernel) rfl), (tb_at 112 (by decide +kernel) rfl), by decide, by decide, by decide +kernel⟩, (tb_at 1860 (by decide +kernel) rfl), (tb_at 1861 (by decide +kernel) rfl)⟩
theorem stp_count {g : GX} {t : PH} {s s' : ST} {d : Nat} (h : INV t s s' d) (ht : t.1 + 60 < 1000000) (hd : d ≤ 600) (p0 : Int32) : StepOK g mdX11_count mdX12_count [.int p0] t s s' d := by
  obtain ⟨a, e1, e2⟩ := count_ok h p0
  exact ⟨a, t, s, s', kX11_count e1, kX12_count e2, INV_mono h (by omega), by omega⟩
set_option maxRecDepth 100000 in
theorem stL_138 : siteV R_law 138 RX11 mdImage 1 := ⟨⟨(tb_at 1161 (by decide +kernel) rfl), (tb_at 1164 (by decide +kernel) rfl), (tb_at 102 (by decide +kernel) rfl), by decide, by decide, by decide +kernel⟩, (tb_at 1162 (by decide +kernel) rfl), (tb_at 1163 (by decide +kernel) rfl)⟩
set_option maxRecDepth 100000 in
theorem stL_141 : siteV R_law 141 RX12 mdX12_image 1 := ⟨⟨(tb_at 1866 (by decide +kernel) rfl), (tb_at 1869 (by decide +kernel) rfl), (tb_at 112 (by decide +kernel) rfl), by decide, by decide, by decide +kernel⟩, (tb_at 1867 (by decide +kernel) rfl), (tb_at 1868 (by decide +kernel) rfl)⟩
theorem stp_image {g : GX} {t : PH} {s s' : ST} {d : Nat} (h : INV t s s' d) (ht : t.1 + 60 < 1000000) (hd : d ≤ 600) (p0 : Int32) : StepOK g mdImage mdX12_image [.int p0] t s s' d := by
  obtain ⟨a, t2, z, z2, e1, e2, e3, e4⟩ := image_ok h ht p0
  exact ⟨a, t2, z, z2, kX11_image e1, kX12_image e2, e3, e4⟩
set_option maxRecDepth 100000 in
theorem stL_142 : siteV R_law 142 RX11 mdX11_back 1 := ⟨⟨(tb_at 1170 (by decide +kernel) rfl), (tb_at 1173 (by decide +kernel) rfl), (tb_at 102 (by decide +kernel) rfl), by decide, by decide, by decide +kernel⟩, (tb_at 1171 (by decide +kernel) rfl), (tb_at 1172 (by decide +kernel) rfl)⟩
set_option maxRecDepth 100000 in
theorem stL_145 : siteV R_law 145 RX12 mdX12_back 1 := ⟨⟨(tb_at 1870 (by decide +kernel) rfl), (tb_at 1873 (by decide +kernel) rfl), (tb_at 112 (by decide +kernel) rfl), by decide, by decide, by decide +kernel⟩, (tb_at 1871 (by decide +kernel) rfl), (tb_at 1872 (by decide +kernel) rfl)⟩
theorem stp_back {g : GX} {t : PH} {s s' : ST} {d : Nat} (h : INV t s s' d) (ht : t.1 + 60 < 1000000) (hd : d ≤ 600) (p0 : Int32) : StepOK g mdX11_back mdX12_back [.int p0] t s s' d := by
  obtain ⟨a, z, z2, e1, e2, e3⟩ := back_ok h p0
  exact ⟨a, t, z, z2, kX11_back e1, kX12_back e2, e3, by omega⟩
set_option maxRecDepth 100000 in
theorem stL_9 : siteI R_law 9 mdX11_init 0 := ⟨⟨(tb_at 125 (by decide +kernel) rfl), (tb_at 127 (by decide +kernel) rfl), (tb_at 102 (by decide +kernel) rfl), by decide, by decide, by decide +kernel⟩, rfl, rfl, (tb_at 126 (by decide +kernel) rfl)⟩
set_option maxRecDepth 100000 in
theorem stL_12 : siteI R_law 12 mdX12_init 0 := ⟨⟨(tb_at 1176 (by decide +kernel) rfl), (tb_at 1178 (by decide +kernel) rfl), (tb_at 112 (by decide +kernel) rfl), by decide, by decide, by decide +kernel⟩, rfl, rfl, (tb_at 1177 (by decide +kernel) rfl)⟩
set_option maxRecDepth 100000 in
theorem lnL_7 : Cond.classLink R_law 7 (cR 10) ∈ TB ∧ Cond.instantiable (cR 10) (nF 10) ∈ TB ∧ Cond.initialized (cR 10) ∈ TB := ⟨(tb_at 123 (by decide +kernel) rfl), (tb_at 124 (by decide +kernel) rfl), (tb_at 102 (by decide +kernel) rfl)⟩
set_option maxRecDepth 100000 in
theorem lnL_10 : Cond.classLink R_law 10 (cR 11) ∈ TB ∧ Cond.instantiable (cR 11) (nF 11) ∈ TB ∧ Cond.initialized (cR 11) ∈ TB := ⟨(tb_at 1174 (by decide +kernel) rfl), (tb_at 1175 (by decide +kernel) rfl), (tb_at 112 (by decide +kernel) rfl)⟩
