set_option maxRecDepth 100000 in
theorem lmX2_39 : Cond.methodLink RX2 39 Lib.MathLoose.max_long.x ∈ TB := (tb_at 951 (by decide +kernel) rfl)
set_option maxRecDepth 100000 in
theorem stX2_44 : siteS RX2 44 mdX2_joined 3 := ⟨⟨(tb_at 943 (by decide +kernel) rfl), (tb_at 945 (by decide +kernel) rfl), (tb_at 121 (by decide +kernel) rfl), by decide, by decide, by decide +kernel⟩, (tb_at 944 (by decide +kernel) rfl)⟩
set_option maxRecDepth 100000 in
theorem lkX3_9 : lkF RX3 9 3 1 := Or.inl (tb_at 285 (by decide +kernel) rfl)
set_option maxRecDepth 100000 in
theorem lkX3_15 : lkF RX3 15 3 2 := Or.inl (tb_at 286 (by decide +kernel) rfl)
set_option maxRecDepth 100000 in
theorem lkX3_19 : lkF RX3 19 3 3 := Or.inl (tb_at 287 (by decide +kernel) rfl)
set_option maxRecDepth 100000 in
theorem lkX3_22 : lkF RX3 22 3 4 := Or.inl (tb_at 288 (by decide +kernel) rfl)
set_option maxRecDepth 100000 in
theorem lkX3_25 : lkF RX3 25 3 5 := Or.inl (tb_at 289 (by decide +kernel) rfl)
set_option maxRecDepth 100000 in
theorem lkX3_28 : lkF RX3 28 3 6 := Or.inl (tb_at 290 (by decide +kernel) rfl)
set_option maxRecDepth 100000 in
theorem lkX3_31 : lkF RX3 31 3 7 := Or.inl (tb_at 291 (by decide +kernel) rfl)
set_option maxRecDepth 100000 in
theorem lkX3_34 : lkF RX3 34 3 8 := Or.inl (tb_at 292 (by decide +kernel) rfl)
set_option maxRecDepth 100000 in
theorem lkX3_37 : lkF RX3 37 3 9 := Or.inl (tb_at 293 (by decide +kernel) rfl)
set_option maxRecDepth 100000 in
theorem lkX3_40 : lkF RX3 40 3 10 := Or.inl (tb_at 294 (by decide +kernel) rfl)
set_option maxRecDepth 100000 in
theorem lkX3_43 : lkF RX3 43 3 11 := Or.inl (tb_at 295 (by decide +kernel) rfl)
set_option maxRecDepth 100000 in
theorem lkX3_46 : lkF RX3 46 3 12 := Or.inl (tb_at 296 (by decide +kernel) rfl)
set_option maxRecDepth 100000 in
theorem lkX3_49 : lkF RX3 49 3 0 := Or.inl (tb_at 284 (by decide +kernel) rfl)
set_option maxRecDepth 100000 in
theorem stX3_53 : siteV RX3 53 RX6 mdX6_rewind 0 := ⟨⟨(tb_at 722 (by decide +kernel) rfl), (tb_at 570 (by decide +kernel) rfl), (tb_at 103 (by decide +kernel) rfl), by decide, by decide, by decide +kernel⟩, (tb_at 568 (by decide +kernel) rfl), (tb_at 569 (by decide +kernel) rfl)⟩
set_option maxRecDepth 100000 in
theorem lkX3_58 : lkF RX3 58 5 3 := Or.inr ⟨"LateAlways", (tb_at 143 (by decide +kernel) rfl)⟩
set_option maxRecDepth 100000 in
theorem stX3_61 : siteV RX3 61 RX6 mdX6_step 0 := ⟨⟨(tb_at 723 (by decide +kernel) rfl), (tb_at 578 (by decide +kernel) rfl), (tb_at 103 (by decide +kernel) rfl), by decide, by decide, by decide +kernel⟩, (tb_at 576 (by decide +kernel) rfl), (tb_at 577 (by decide +kernel) rfl)⟩
set_option maxRecDepth 100000 in
theorem stX3_64 : siteV RX3 64 RX3 mdX3_readLate 0 := ⟨⟨(tb_at 724 (by decide +kernel) rfl), (tb_at 727 (by decide +kernel) rfl), (tb_at 106 (by decide +kernel) rfl), by decide, by decide, by decide +kernel⟩, (tb_at 726 (by decide +kernel) rfl), (tb_at 11 (by decide +kernel) rfl)⟩
set_option maxRecDepth 100000 in
theorem stX3_67 : siteV RX3 67 RX3 mdX3_readFact 0 := ⟨⟨(tb_at 731 (by decide +kernel) rfl), (tb_at 734 (by decide +kernel) rfl), (tb_at 106 (by decide +kernel) rfl), by decide, by decide, by decide +kernel⟩, (tb_at 733 (by decide +kernel) rfl), (tb_at 12 (by decide +kernel) rfl)⟩
set_option maxRecDepth 100000 in
theorem stX3_70 : siteV RX3 70 RX3 mdX3_readValue 0 := ⟨⟨(tb_at 744 (by decide +kernel) rfl), (tb_at 747 (by decide +kernel) rfl), (tb_at 106 (by decide +kernel) rfl), by decide, by decide, by decide +kernel⟩, (tb_at 746 (by decide +kernel) rfl), (tb_at 15 (by decide +kernel) rfl)⟩
set_option maxRecDepth 100000 in
theorem stX3_73 : siteV RX3 73 RX3 mdX3_readSign 0 := ⟨⟨(tb_at 773 (by decide +kernel) rfl), (tb_at 776 (by decide +kernel) rfl), (tb_at 106 (by decide +kernel) rfl), by decide, by decide, by decide +kernel⟩, (tb_at 775 (by decide +kernel) rfl), (tb_at 18 (by decide +kernel) rfl)⟩
set_option maxRecDepth 100000 in
theorem stX3_78 : siteS RX3 78 mdJ7_copyOf_59c91 2 := ⟨⟨(tb_at 829 (by decide +kernel) rfl), (tb_at 831 (by decide +kernel) rfl), (tb_at 119 (by decide +kernel) rfl), by decide, by decide, by decide +kernel⟩, (tb_at 830 (by decide +kernel) rfl)⟩
set_option maxRecDepth 100000 in
theorem stX3_89 : siteV RX3 89 RX6 mdX6_isWord 1 := ⟨⟨(tb_at 729 (by decide +kernel) rfl), (tb_at 601 (by decide +kernel) rfl), (tb_at 103 (by decide +kernel) rfl), by decide, by decide, by decide +kernel⟩, (tb_at 599 (by decide +kernel) rfl), (tb_at 600 (by decide +kernel) rfl)⟩
set_option maxRecDepth 100000 in
theorem stX3_93 : siteV RX3 93 RX6 mdX6_blame 1 := ⟨⟨(tb_at 730 (by decide +kernel) rfl), (tb_at 661 (by decide +kernel) rfl), (tb_at 103 (by decide +kernel) rfl), by decide, by decide, by decide +kernel⟩, (tb_at 659 (by decide +kernel) rfl), (tb_at 660 (by decide +kernel) rfl)⟩
set_option maxRecDepth 100000 in
theorem lkX3_97 : lkF RX3 97 5 4 := Or.inr ⟨"LateAlways", (tb_at 146 (by decide +kernel) rfl)⟩
set_option maxRecDepth 100000 in
theorem stX3_102 : siteV RX3 102 RX3 mdX3_goDeeper 1 := ⟨⟨(tb_at 735 (by decide +kernel) rfl), (tb_at 738 (by decide +kernel) rfl), (tb_at 106 (by decide +kernel) rfl), by decide, by decide, by decide +kernel⟩, (tb_at 737 (by decide +kernel) rfl), (tb_at 13 (by decide +kernel) rfl)⟩
set_option maxRecDepth 100000 in
theorem stX3_107 : siteV RX3 107 RX3 mdX3_letWait 1 := ⟨⟨(tb_at 739 (by decide +kernel) rfl), (tb_at 742 (by decide +kernel) rfl), (tb_at 106 (by decide +kernel) rfl), by decide, by decide, by decide +kernel⟩, (tb_at 741 (by decide +kernel) rfl), (tb_at 14 (by decide +kernel) rfl)⟩
set_option maxRecDepth 100000 in
theorem lkX3_110 : lkF RX3 110 5 6 := Or.inr ⟨"LateAlways", (tb_at 149 (by decide +kernel) rfl)⟩
set_option maxRecDepth 100000 in
theorem stX3_113 : siteV RX3 113 RX3 mdX3_wordOfTape 0 := ⟨⟨(tb_at 748 (by decide +kernel) rfl), (tb_at 751 (by decide +kernel) rfl), (tb_at 106 (by decide +kernel) rfl), by decide, by decide, by decide +kernel⟩, (tb_at 750 (by decide +kernel) rfl), (tb_at 16 (by decide +kernel) rfl)⟩
set_option maxRecDepth 100000 in
theorem stX3_117 : siteV RX3 117 RX3 mdX3_write 2 := ⟨⟨(tb_at 769 (by decide +kernel) rfl), (tb_at 772 (by decide +kernel) rfl), (tb_at 106 (by decide +kernel) rfl), by decide, by decide, by decide +kernel⟩, (tb_at 771 (by decide +kernel) rfl), (tb_at 17 (by decide +kernel) rfl)⟩
set_option maxRecDepth 100000 in
theorem stX3_121 : siteS RX3 121 mdX4_nameOf 1 := ⟨⟨(tb_at 752 (by decide +kernel) rfl), (tb_at 754 (by decide +kernel) rfl), (tb_at 120 (by decide +kernel) rfl), by decide, by decide, by decide +kernel⟩, (tb_at 753 (by decide +kernel) rfl)⟩
set_option maxRecDepth 100000 in
theorem stX3_125 : siteS RX3 125 mdX4_ofToken 1 := ⟨⟨(tb_at 777 (by decide +kernel) rfl), (tb_at 779 (by decide +kernel) rfl), (tb_at 120 (by decide +kernel) rfl), by decide, by decide, by decide +kernel⟩, (tb_at 778 (by decide +kernel) rfl)⟩
set_option maxRecDepth 100000 in
theorem stX3_129 : siteS RX3 129 mdX4_isOfSum 1 := ⟨⟨(tb_at 780 (by decide +kernel) rfl), (tb_at 782 (by decide +kernel) rfl), (tb_at 120 (by decide +kernel) rfl), by decide, by decide, by decide +kernel⟩, (tb_at 781 (by decide +kernel) rfl)⟩
set_option maxRecDepth 100000 in
theorem stX3_133 : siteV RX3 133 RX3 mdX3_join 2 := ⟨⟨(tb_at 783 (by decide +kernel) rfl), (tb_at 786 (by decide +kernel) rfl), (tb_at 106 (by decide +kernel) rfl), by decide, by decide, by decide +kernel⟩, (tb_at 785 (by decide +kernel) rfl), (tb_at 19 (by decide +kernel) rfl)⟩
set_option maxRecDepth 100000 in
theorem stX3_136 : siteS RX3 136 mdX4_isOfFact 1 := ⟨⟨(tb_at 796 (by decide +kernel) rfl), (tb_at 798 (by decide +kernel) rfl), (tb_at 120 (by decide +kernel) rfl), by decide, by decide, by decide +kernel⟩, (tb_at 797 (by decide +kernel) rfl)⟩
set_option maxRecDepth 100000 in
theorem stX3_139 : siteV RX3 139 RX3 mdX3_readSignOfFact 1 := ⟨⟨(tb_at 799 (by decide +kernel) rfl), (tb_at 802 (by decide +kernel) rfl), (tb_at 106 (by decide +kernel) rfl), by decide, by decide, by decide +kernel⟩, (tb_at 801 (by decide +kernel) rfl), (tb_at 21 (by decide +kernel) rfl)⟩
set_option maxRecDepth 100000 in
theorem stX3_142 : siteV RX3 142 RX3 mdX3_isEndOfClause 0 := ⟨⟨(tb_at 803 (by decide +kernel) rfl), (tb_at 806 (by decide +kernel) rfl), (tb_at 106 (by decide +kernel) rfl), by decide, by decide, by decide +kernel⟩, (tb_at 805 (by decide +kernel) rfl), (tb_at 22 (by decide +kernel) rfl)⟩
set_option maxRecDepth 100000 in
theorem stX3_146 : siteV RX3 146 RX3 mdX3_endClause 0 := ⟨⟨(tb_at 807 (by decide +kernel) rfl), (tb_at 810 (by decide +kernel) rfl), (tb_at 106 (by decide +kernel) rfl), by decide, by decide, by decide +kernel⟩, (tb_at 809 (by decide +kernel) rfl), (tb_at 23 (by decide +kernel) rfl)⟩
set_option maxRecDepth 100000 in
theorem stX3_149 : siteV RX3 149 RX3 mdX3_readIf 0 := ⟨⟨(tb_at 811 (by decide +kernel) rfl), (tb_at 814 (by decide +kernel) rfl), (tb_at 106 (by decide +kernel) rfl), by decide, by decide, by decide +kernel⟩, (tb_at 813 (by decide +kernel) rfl), (tb_at 24 (by decide +kernel) rfl)⟩
set_option maxRecDepth 100000 in
theorem stX3_152 : siteV RX3 152 RX3 mdX3_readBehindFact 0 := ⟨⟨(tb_at 816 (by decide +kernel) rfl), (tb_at 819 (by decide +kernel) rfl), (tb_at 106 (by decide +kernel) rfl), by decide, by decide, by decide +kernel⟩, (tb_at 818 (by decide +kernel) rfl), (tb_at 25 (by decide +kernel) rfl)⟩
set_option maxRecDepth 100000 in
theorem stX3_155 : siteV RX3 155 RX3 mdX3_writeWaiting 1 := ⟨⟨(tb_at 792 (by decide +kernel) rfl), (tb_at 795 (by decide +kernel) rfl), (tb_at 106 (by decide +kernel) rfl), by decide, by decide, by decide +kernel⟩, (tb_at 794 (by decide +kernel) rfl), (tb_at 20 (by decide +kernel) rfl)⟩
set_option maxRecDepth 100000 in
theorem stX3_164 : siteS RX3 164 mdX4_tightnessOf 1 := ⟨⟨(tb_at 787 (by decide +kernel) rfl), (tb_at 789 (by decide +kernel) rfl), (tb_at 120 (by decide +kernel) rfl), by decide, by decide, by decide +kernel⟩, (tb_at 788 (by decide +kernel) rfl)⟩
set_option maxRecDepth 100000 in
theorem lmX3_167 : Cond.methodLink RX3 167 Lib.Math.max.name ∈ TB := (tb_at 822 (by decide +kernel) rfl)
set_option maxRecDepth 100000 in
theorem lfX4_9 : Cond.fieldLink RX4 9 "LateAlways$Sign" "TIGHTNESS" "[I" ∈ TB := (tb_at 790 (by decide +kernel) rfl)
set_option maxRecDepth 100000 in
theorem lkX5_11 : lkF RX5 11 4 0 := Or.inl (tb_at 340 (by decide +kernel) rfl)
set_option maxRecDepth 100000 in
theorem lmX5_15 : Cond.methodLink RX5 15 arraycopyName ∈ TB := (tb_at 915 (by decide +kernel) rfl)
set_option maxRecDepth 100000 in
theorem stX5_21 : siteS RX5 21 mdJ7_fill_53178 2 := ⟨⟨(tb_at 710 (by decide +kernel) rfl), (tb_at 712 (by decide +kernel) rfl), (tb_at 119 (by decide +kernel) rfl), by decide, by decide, by decide +kernel⟩, (tb_at 711 (by decide +kernel) rfl)⟩
set_option maxRecDepth 100000 in
theorem lkX5_27 : lkF RX5 27 6 7 := Or.inr ⟨"LateAlways", (tb_at 203 (by decide +kernel) rfl)⟩
set_option maxRecDepth 100000 in
theorem lkX5_33 : lkF RX5 33 6 10 := Or.inr ⟨"LateAlways", (tb_at 219 (by decide +kernel) rfl)⟩
set_option maxRecDepth 100000 in
theorem lkX5_36 : lkF RX5 36 6 8 := Or.inr ⟨"LateAlways", (tb_at 209 (by decide +kernel) rfl)⟩
set_option maxRecDepth 100000 in
theorem lkX5_39 : lkF RX5 39 6 13 := Or.inr ⟨"LateAlways", (tb_at 230 (by decide +kernel) rfl)⟩
set_option maxRecDepth 100000 in
theorem lkX5_42 : lkF RX5 42 6 6 := Or.inr ⟨"LateAlways", (tb_at 200 (by decide +kernel) rfl)⟩
set_option maxRecDepth 100000 in
theorem lkX6_9 : lkF RX6 9 5 0 := Or.inl (tb_at 137 (by decide +kernel) rfl)
set_option maxRecDepth 100000 in
theorem lkX6_15 : lkF RX6 15 5 1 := Or.inl (tb_at 138 (by decide +kernel) rfl)
set_option maxRecDepth 100000 in
theorem lkX6_19 : lkF RX6 19 5 2 := Or.inl (tb_at 140 (by decide +kernel) rfl)
set_option maxRecDepth 100000 in
theorem lkX6_22 : lkF RX6 22 5 3 := Or.inl (tb_at 141 (by decide +kernel) rfl)
set_option maxRecDepth 100000 in
theorem lkX6_25 : lkF RX6 25 5 4 := Or.inl (tb_at 144 (by decide +kernel) rfl)
set_option maxRecDepth 100000 in
theorem lkX6_28 : lkF RX6 28 5 5 := Or.inl (tb_at 147 (by decide +kernel) rfl)
set_option maxRecDepth 100000 in
theorem lkX6_31 : lkF RX6 31 5 6 := Or.inl (tb_at 148 (by decide +kernel) rfl)
set_option maxRecDepth 100000 in
theorem stX6_34 : siteS RX6 34 mdX6_isDigit 1 := ⟨⟨(tb_at 579 (by decide +kernel) rfl), (tb_at 581 (by decide +kernel) rfl), (tb_at 103 (by decide +kernel) rfl), by decide, by decide, by decide +kernel⟩, (tb_at 580 (by decide +kernel) rfl)⟩
set_option maxRecDepth 100000 in
theorem stX6_38 : siteV RX6 38 RX6 mdX6_stepOverDigits 0 := ⟨⟨(tb_at 582 (by decide +kernel) rfl), (tb_at 585 (by decide +kernel) rfl), (tb_at 103 (by decide +kernel) rfl), by decide, by decide, by decide +kernel⟩, (tb_at 584 (by decide +kernel) rfl), (tb_at 1 (by decide +kernel) rfl)⟩
set_option maxRecDepth 100000 in
theorem stX6_41 : siteS RX6 41 mdX6_isLetter 1 := ⟨⟨(tb_at 586 (by decide +kernel) rfl), (tb_at 588 (by decide +kernel) rfl), (tb_at 103 (by decide +kernel) rfl), by decide, by decide, by decide +kernel⟩, (tb_at 587 (by decide +kernel) rfl)⟩
set_option maxRecDepth 100000 in
theorem stX6_44 : siteV RX6 44 RX6 mdX6_stepOverLetters 0 := ⟨⟨(tb_at 589 (by decide +kernel) rfl), (tb_at 592 (by decide +kernel) rfl), (tb_at 103 (by decide +kernel) rfl), by decide, by decide, by decide +kernel⟩, (tb_at 591 (by decide +kernel) rfl), (tb_at 2 (by decide +kernel) rfl)⟩
set_option maxRecDepth 100000 in
theorem stX6_47 : siteV RX6 47 RX6 mdX6_stepOverSign 0 := ⟨⟨(tb_at 593 (by decide +kernel) rfl), (tb_at 596 (by decide +kernel) rfl), (tb_at 103 (by decide +kernel) rfl), by decide, by decide, by decide +kernel⟩, (tb_at 595 (by decide +kernel) rfl), (tb_at 3 (by decide +kernel) rfl)⟩
set_option maxRecDepth 100000 in
theorem stX6_50 : siteV RX6 50 "java/lang/String" mdJ0_length_8abf5 0 := ⟨⟨(tb_at 602 (by decide +kernel) rfl), (tb_at 605 (by decide +kernel) rfl), (tb_at 113 (by decide +kernel) rfl), by decide, by decide, by decide +kernel⟩, (tb_at 603 (by decide +kernel) rfl), (tb_at 604 (by decide +kernel) rfl)⟩
set_option maxRecDepth 100000 in
theorem stX6_55 : siteV RX6 55 "java/lang/String" mdJ0_charAt_5068e 1 := ⟨⟨(tb_at 612 (by decide +kernel) rfl), (tb_at 615 (by decide +kernel) rfl), (tb_at 113 (by decide +kernel) rfl), by decide, by decide, by decide +kernel⟩, (tb_at 613 (by decide +kernel) rfl), (tb_at 614 (by decide +kernel) rfl)⟩
set_option maxRecDepth 100000 in
theorem stX6_59 : siteV RX6 59 RX6 mdX6_step 0 := ⟨⟨(tb_at 670 (by decide +kernel) rfl), (tb_at 578 (by decide +kernel) rfl), (tb_at 103 (by decide +kernel) rfl), by decide, by decide, by decide +kernel⟩, (tb_at 576 (by decide +kernel) rfl), (tb_at 577 (by decide +kernel) rfl)⟩
set_option maxRecDepth 100000 in
theorem stX6_62 : siteV RX6 62 RX6 mdX6_blame 1 := ⟨⟨(tb_at 671 (by decide +kernel) rfl), (tb_at 661 (by decide +kernel) rfl), (tb_at 103 (by decide +kernel) rfl), by decide, by decide, by decide +kernel⟩, (tb_at 659 (by decide +kernel) rfl), (tb_at 660 (by decide +kernel) rfl)⟩
set_option maxRecDepth 100000 in
theorem lkX7_9 : lkF RX7 9 6 0 := Or.inl (tb_at 178 (by decide +kernel) rfl)
set_option maxRecDepth 100000 in
theorem lkX7_15 : lkF RX7 15 6 1 := Or.inl (tb_at 181 (by decide +kernel) rfl)
set_option maxRecDepth 100000 in
theorem lkX7_19 : lkF RX7 19 6 2 := Or.inl (tb_at 185 (by decide +kernel) rfl)
set_option maxRecDepth 100000 in
theorem lkX7_22 : lkF RX7 22 6 3 := Or.inl (tb_at 189 (by decide +kernel) rfl)
set_option maxRecDepth 100000 in
theorem lkX7_25 : lkF RX7 25 6 4 := Or.inl (tb_at 193 (by decide +kernel) rfl)
set_option maxRecDepth 100000 in
theorem lkX7_28 : lkF RX7 28 6 5 := Or.inl (tb_at 196 (by decide +kernel) rfl)
set_option maxRecDepth 100000 in
theorem lkX7_31 : lkF RX7 31 6 6 := Or.inl (tb_at 199 (by decide +kernel) rfl)
set_option maxRecDepth 100000 in
theorem lkX7_34 : lkF RX7 34 6 7 := Or.inl (tb_at 202 (by decide +kernel) rfl)
set_option maxRecDepth 100000 in
theorem lkX7_37 : lkF RX7 37 6 8 := Or.inl (tb_at 207 (by decide +kernel) rfl)
set_option maxRecDepth 100000 in
theorem lkX7_40 : lkF RX7 40 6 9 := Or.inl (tb_at 213 (by decide +kernel) rfl)
set_option maxRecDepth 100000 in
theorem lkX7_44 : lkF RX7 44 6 10 := Or.inl (tb_at 218 (by decide +kernel) rfl)
set_option maxRecDepth 100000 in
theorem lkX7_47 : lkF RX7 47 6 11 := Or.inl (tb_at 221 (by decide +kernel) rfl)
set_option maxRecDepth 100000 in
theorem lkX7_50 : lkF RX7 50 6 12 := Or.inl (tb_at 225 (by decide +kernel) rfl)
set_option maxRecDepth 100000 in
theorem lkX7_53 : lkF RX7 53 6 13 := Or.inl (tb_at 229 (by decide +kernel) rfl)
set_option maxRecDepth 100000 in
theorem lkX7_56 : lkF RX7 56 6 14 := Or.inl (tb_at 232 (by decide +kernel) rfl)
set_option maxRecDepth 100000 in
theorem lmX7_59 : Cond.methodLink RX7 59 arraycopyName ∈ TB := (tb_at 703 (by decide +kernel) rfl)
set_option maxRecDepth 100000 in
theorem lkX8_12 : lkF RX8 12 7 1 := Or.inl (tb_at 268 (by decide +kernel) rfl)
set_option maxRecDepth 100000 in
theorem lkX8_18 : lkF RX8 18 7 2 := Or.inl (tb_at 270 (by decide +kernel) rfl)
set_option maxRecDepth 100000 in
theorem lkX8_22 : lkF RX8 22 7 0 := Or.inl (tb_at 267 (by decide +kernel) rfl)
set_option maxRecDepth 100000 in
theorem stX8_26 : siteV RX8 26 RX7 mdX7_clear 0 := ⟨⟨(tb_at 563 (by decide +kernel) rfl), (tb_at 566 (by decide +kernel) rfl), (tb_at 105 (by decide +kernel) rfl), by decide, by decide, by decide +kernel⟩, (tb_at 564 (by decide +kernel) rfl), (tb_at 565 (by decide +kernel) rfl)⟩
set_option maxRecDepth 100000 in
theorem stX8_29 : siteV RX8 29 RX6 mdX6_rewind 0 := ⟨⟨(tb_at 567 (by decide +kernel) rfl), (tb_at 570 (by decide +kernel) rfl), (tb_at 103 (by decide +kernel) rfl), by decide, by decide, by decide +kernel⟩, (tb_at 568 (by decide +kernel) rfl), (tb_at 569 (by decide +kernel) rfl)⟩
set_option maxRecDepth 100000 in
theorem stX8_34 : siteV RX8 34 RX8 mdX8_readClause 1 := ⟨⟨(tb_at 571 (by decide +kernel) rfl), (tb_at 574 (by decide +kernel) rfl), (tb_at 104 (by decide +kernel) rfl), by decide, by decide, by decide +kernel⟩, (tb_at 573 (by decide +kernel) rfl), (tb_at 0 (by decide +kernel) rfl)⟩
set_option maxRecDepth 100000 in
theorem lkX8_38 : lkF RX8 38 5 3 := Or.inr ⟨"LateAlways", (tb_at 142 (by decide +kernel) rfl)⟩
set_option maxRecDepth 100000 in
theorem stX8_42 : siteV RX8 42 RX8 mdX8_isClauseBehind 0 := ⟨⟨(tb_at 691 (by decide +kernel) rfl), (tb_at 694 (by decide +kernel) rfl), (tb_at 104 (by decide +kernel) rfl), by decide, by decide, by decide +kernel⟩, (tb_at 693 (by decide +kernel) rfl), (tb_at 10 (by decide +kernel) rfl)⟩
set_option maxRecDepth 100000 in
theorem stX8_46 : siteV RX8 46 RX6 mdX6_step 0 := ⟨⟨(tb_at 575 (by decide +kernel) rfl), (tb_at 578 (by decide +kernel) rfl), (tb_at 103 (by decide +kernel) rfl), by decide, by decide, by decide +kernel⟩, (tb_at 576 (by decide +kernel) rfl), (tb_at 577 (by decide +kernel) rfl)⟩
set_option maxRecDepth 100000 in
theorem lkX8_49 : lkF RX8 49 5 4 := Or.inr ⟨"LateAlways", (tb_at 145 (by decide +kernel) rfl)⟩
set_option maxRecDepth 100000 in
theorem stX8_52 : siteV RX8 52 RX6 mdX6_blame 1 := ⟨⟨(tb_at 658 (by decide +kernel) rfl), (tb_at 661 (by decide +kernel) rfl), (tb_at 103 (by decide +kernel) rfl), by decide, by decide, by decide +kernel⟩, (tb_at 659 (by decide +kernel) rfl), (tb_at 660 (by decide +kernel) rfl)⟩
set_option maxRecDepth 100000 in
theorem stX8_56 : siteV RX8 56 RX6 mdX6_isWord 1 := ⟨⟨(tb_at 598 (by decide +kernel) rfl), (tb_at 601 (by decide +kernel) rfl), (tb_at 103 (by decide +kernel) rfl), by decide, by decide, by decide +kernel⟩, (tb_at 599 (by decide +kernel) rfl), (tb_at 600 (by decide +kernel) rfl)⟩
set_option maxRecDepth 100000 in
theorem stX8_60 : siteV RX8 60 RX8 mdX8_isClauseWord 0 := ⟨⟨(tb_at 650 (by decide +kernel) rfl), (tb_at 653 (by decide +kernel) rfl), (tb_at 104 (by decide +kernel) rfl), by decide, by decide, by decide +kernel⟩, (tb_at 652 (by decide +kernel) rfl), (tb_at 4 (by decide +kernel) rfl)⟩
set_option maxRecDepth 100000 in
theorem stX8_63 : siteV RX8 63 RX8 mdX8_readLaw 0 := ⟨⟨(tb_at 662 (by decide +kernel) rfl), (tb_at 665 (by decide +kernel) rfl), (tb_at 104 (by decide +kernel) rfl), by decide, by decide, by decide +kernel⟩, (tb_at 664 (by decide +kernel) rfl), (tb_at 5 (by decide +kernel) rfl)⟩
set_option maxRecDepth 100000 in
theorem stX8_68 : siteV RX8 68 RX8 mdX8_readPerson 0 := ⟨⟨(tb_at 675 (by decide +kernel) rfl), (tb_at 678 (by decide +kernel) rfl), (tb_at 104 (by decide +kernel) rfl), by decide, by decide, by decide +kernel⟩, (tb_at 677 (by decide +kernel) rfl), (tb_at 6 (by decide +kernel) rfl)⟩
set_option maxRecDepth 100000 in
theorem stX8_73 : siteV RX8 73 RX8 mdX8_readExempt 0 := ⟨⟨(tb_at 679 (by decide +kernel) rfl), (tb_at 682 (by decide +kernel) rfl), (tb_at 104 (by decide +kernel) rfl), by decide, by decide, by decide +kernel⟩, (tb_at 681 (by decide +kernel) rfl), (tb_at 7 (by decide +kernel) rfl)⟩
set_option maxRecDepth 100000 in
theorem stX8_78 : siteV RX8 78 RX8 mdX8_readMeeting 0 := ⟨⟨(tb_at 683 (by decide +kernel) rfl), (tb_at 686 (by decide +kernel) rfl), (tb_at 104 (by decide +kernel) rfl), by decide, by decide, by decide +kernel⟩, (tb_at 685 (by decide +kernel) rfl), (tb_at 8 (by decide +kernel) rfl)⟩
set_option maxRecDepth 100000 in
theorem stX8_81 : siteV RX8 81 RX8 mdX8_readFines 0 := ⟨⟨(tb_at 687 (by decide +kernel) rfl), (tb_at 690 (by decide +kernel) rfl), (tb_at 104 (by decide +kernel) rfl), by decide, by decide, by decide +kernel⟩, (tb_at 689 (by decide +kernel) rfl), (tb_at 9 (by decide +kernel) rfl)⟩
set_option maxRecDepth 100000 in
theorem stX8_86 : siteV RX8 86 RX6 mdX6_readNumber 2 := ⟨⟨(tb_at 666 (by decide +kernel) rfl), (tb_at 669 (by decide +kernel) rfl), (tb_at 103 (by decide +kernel) rfl), by decide, by decide, by decide +kernel⟩, (tb_at 667 (by decide +kernel) rfl), (tb_at 668 (by decide +kernel) rfl)⟩
set_option maxRecDepth 100000 in
theorem lkX8_90 : lkF RX8 90 6 1 := Or.inr ⟨"LateAlways", (tb_at 183 (by decide +kernel) rfl)⟩
set_option maxRecDepth 100000 in
theorem lmX8_93 : Cond.methodLink RX8 93 Lib.Math.max.name ∈ TB := (tb_at 672 (by decide +kernel) rfl)
set_option maxRecDepth 100000 in
theorem lkX8_98 : lkF RX8 98 6 2 := Or.inr ⟨"LateAlways", (tb_at 187 (by decide +kernel) rfl)⟩
set_option maxRecDepth 100000 in
theorem lkX8_101 : lkF RX8 101 6 3 := Or.inr ⟨"LateAlways", (tb_at 190 (by decide +kernel) rfl)⟩
set_option maxRecDepth 100000 in
theorem lkX8_104 : lkF RX8 104 6 0 := Or.inr ⟨"LateAlways", (tb_at 179 (by decide +kernel) rfl)⟩
set_option maxRecDepth 100000 in
theorem lkX8_107 : lkF RX8 107 6 7 := Or.inr ⟨"LateAlways", (tb_at 205 (by decide +kernel) rfl)⟩
set_option maxRecDepth 100000 in
theorem lkX8_110 : lkF RX8 110 6 9 := Or.inr ⟨"LateAlways", (tb_at 216 (by decide +kernel) rfl)⟩
set_option maxRecDepth 100000 in
theorem lkX8_114 : lkF RX8 114 6 10 := Or.inr ⟨"LateAlways", (tb_at 220 (by decide +kernel) rfl)⟩
set_option maxRecDepth 100000 in
theorem lkX8_117 : lkF RX8 117 6 6 := Or.inr ⟨"LateAlways", (tb_at 201 (by decide +kernel) rfl)⟩
set_option maxRecDepth 100000 in
theorem lkX8_119 : lkF RX8 119 6 8 := Or.inr ⟨"LateAlways", (tb_at 212 (by decide +kernel) rfl)⟩
set_option maxRecDepth 100000 in
theorem lkX8_122 : lkF RX8 122 6 11 := Or.inr ⟨"LateAlways", (tb_at 224 (by decide +kernel) rfl)⟩
set_option maxRecDepth 100000 in
theorem lkX8_125 : lkF RX8 125 6 12 := Or.inr ⟨"LateAlways", (tb_at 228 (by decide +kernel) rfl)⟩
set_option maxRecDepth 100000 in
theorem lkX8_128 : lkF RX8 128 6 13 := Or.inr ⟨"LateAlways", (tb_at 231 (by decide +kernel) rfl)⟩
set_option maxRecDepth 100000 in
theorem lkX8_131 : lkF RX8 131 6 14 := Or.inr ⟨"LateAlways", (tb_at 235 (by decide +kernel) rfl)⟩
set_option maxRecDepth 100000 in
theorem lkX8_134 : lkF RX8 134 6 4 := Or.inr ⟨"LateAlways", (tb_at 195 (by decide +kernel) rfl)⟩
set_option maxRecDepth 100000 in
theorem lkX8_137 : lkF RX8 137 6 5 := Or.inr ⟨"LateAlways", (tb_at 198 (by decide +kernel) rfl)⟩
set_option maxRecDepth 100000 in
theorem lkX9_13 : lkF RX9 13 8 0 := Or.inl (tb_at 505 (by decide +kernel) rfl)
set_option maxRecDepth 100000 in
theorem lkX9_17 : lkF RX9 17 8 1 := Or.inl (tb_at 506 (by decide +kernel) rfl)
set_option maxRecDepth 100000 in
theorem lkX9_20 : lkF RX9 20 8 2 := Or.inl (tb_at 507 (by decide +kernel) rfl)
set_option maxRecDepth 100000 in
theorem lkX9_23 : lkF RX9 23 4 0 := Or.inr ⟨"LateAlways", (tb_at 343 (by decide +kernel) rfl)⟩
set_option maxRecDepth 100000 in
theorem lmX9_26 : Cond.methodLink RX9 26 arraycopyName ∈ TB := (tb_at 1060 (by decide +kernel) rfl)
set_option maxRecDepth 100000 in
theorem lkX9_32 : lkF RX9 32 9 4 := Or.inr ⟨"LateAlways", (tb_at 358 (by decide +kernel) rfl)⟩
set_option maxRecDepth 100000 in
theorem stX9_38 : siteV RX9 38 RX10 mdX10_logDay 1 := ⟨⟨(tb_at 1101 (by decide +kernel) rfl), (tb_at 1104 (by decide +kernel) rfl), (tb_at 107 (by decide +kernel) rfl), by decide, by decide, by decide +kernel⟩, (tb_at 1102 (by decide +kernel) rfl), (tb_at 1103 (by decide +kernel) rfl)⟩
set_option maxRecDepth 100000 in
theorem stX9_42 : siteV RX9 42 RX10 mdX10_logPerson 1 := ⟨⟨(tb_at 1105 (by decide +kernel) rfl), (tb_at 1108 (by decide +kernel) rfl), (tb_at 107 (by decide +kernel) rfl), by decide, by decide, by decide +kernel⟩, (tb_at 1106 (by decide +kernel) rfl), (tb_at 1107 (by decide +kernel) rfl)⟩
set_option maxRecDepth 100000 in
theorem stX9_45 : siteV RX9 45 RX10 mdX10_logLate 1 := ⟨⟨(tb_at 1109 (by decide +kernel) rfl), (tb_at 1112 (by decide +kernel) rfl), (tb_at 107 (by decide +kernel) rfl), by decide, by decide, by decide +kernel⟩, (tb_at 1110 (by decide +kernel) rfl), (tb_at 1111 (by decide +kernel) rfl)⟩
set_option maxRecDepth 100000 in
theorem lmX9_48 : Cond.methodLink RX9 48 Lib.Math.max.name ∈ TB := (tb_at 1127 (by decide +kernel) rfl)
set_option maxRecDepth 100000 in
theorem lkX10_12 : lkF RX10 12 9 0 := Or.inl (tb_at 349 (by decide +kernel) rfl)
set_option maxRecDepth 100000 in
theorem lkX10_21 : lkF RX10 21 9 1 := Or.inl (tb_at 351 (by decide +kernel) rfl)
set_option maxRecDepth 100000 in
theorem lkX10_25 : lkF RX10 25 9 2 := Or.inl (tb_at 353 (by decide +kernel) rfl)
set_option maxRecDepth 100000 in
theorem lkX10_29 : lkF RX10 29 9 3 := Or.inl (tb_at 355 (by decide +kernel) rfl)
set_option maxRecDepth 100000 in
theorem lkX10_32 : lkF RX10 32 9 4 := Or.inl (tb_at 357 (by decide +kernel) rfl)
set_option maxRecDepth 100000 in
theorem lkX10_35 : lkF RX10 35 9 5 := Or.inl (tb_at 360 (by decide +kernel) rfl)
set_option maxRecDepth 100000 in
theorem lkX10_39 : lkF RX10 39 9 6 := Or.inl (tb_at 361 (by decide +kernel) rfl)
set_option maxRecDepth 100000 in
theorem lkX10_42 : lkF RX10 42 9 7 := Or.inl (tb_at 362 (by decide +kernel) rfl)
set_option maxRecDepth 100000 in
theorem lkX10_45 : lkF RX10 45 9 8 := Or.inl (tb_at 363 (by decide +kernel) rfl)
set_option maxRecDepth 100000 in
theorem stX10_48 : siteV RX10 48 RX7 mdX7_copyFrom 1 := ⟨⟨(tb_at 699 (by decide +kernel) rfl), (tb_at 702 (by decide +kernel) rfl), (tb_at 105 (by decide +kernel) rfl), by decide, by decide, by decide +kernel⟩, (tb_at 700 (by decide +kernel) rfl), (tb_at 701 (by decide +kernel) rfl)⟩
set_option maxRecDepth 100000 in
theorem stX10_52 : siteV RX10 52 RX5 mdX5_copyFrom 1 := ⟨⟨(tb_at 1169 (by decide +kernel) rfl), (tb_at 914 (by decide +kernel) rfl), (tb_at 108 (by decide +kernel) rfl), by decide, by decide, by decide +kernel⟩, (tb_at 912 (by decide +kernel) rfl), (tb_at 913 (by decide +kernel) rfl)⟩
set_option maxRecDepth 100000 in
theorem lmX10_55 : Cond.methodLink RX10 55 arraycopyName ∈ TB := (tb_at 896 (by decide +kernel) rfl)
set_option maxRecDepth 100000 in
theorem lkX10_61 : lkF RX10 61 6 9 := Or.inr ⟨"LateAlways", (tb_at 215 (by decide +kernel) rfl)⟩
set_option maxRecDepth 100000 in
theorem stX10_64 : siteV RX10 64 RX5 mdX5_begin 2 := ⟨⟨(tb_at 706 (by decide +kernel) rfl), (tb_at 709 (by decide +kernel) rfl), (tb_at 108 (by decide +kernel) rfl), by decide, by decide, by decide +kernel⟩, (tb_at 707 (by decide +kernel) rfl), (tb_at 708 (by decide +kernel) rfl)⟩
set_option maxRecDepth 100000 in
theorem lkX10_68 : lkF RX10 68 4 0 := Or.inr ⟨"LateAlways", (tb_at 342 (by decide +kernel) rfl)⟩
set_option maxRecDepth 100000 in
theorem lmX10_71 : Cond.methodLink RX10 71 Lib.Math.min.name ∈ TB := (tb_at 897 (by decide +kernel) rfl)
set_option maxRecDepth 100000 in
theorem lcJ6_265 : Cond.constant RJ6 265 (1431655765) ∈ TB := (tb_at 1116 (by decide +kernel) rfl)
set_option maxRecDepth 100000 in
theorem lcJ6_266 : Cond.constant RJ6 266 (858993459) ∈ TB := (tb_at 1117 (by decide +kernel) rfl)
set_option maxRecDepth 100000 in
theorem lcJ6_267 : Cond.constant RJ6 267 (252645135) ∈ TB := (tb_at 1118 (by decide +kernel) rfl)
set_option maxRecDepth 100000 in
theorem lmJ7_150 : Cond.methodLink RJ7 150 arraycopyName ∈ TB := (tb_at 842 (by decide +kernel) rfl)
set_option maxRecDepth 100000 in
theorem lmJ7_304 : Cond.methodLink RJ7 304 Lib.Math.min.name ∈ TB := (tb_at 839 (by decide +kernel) rfl)
