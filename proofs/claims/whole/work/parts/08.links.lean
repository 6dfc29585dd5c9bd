/-! methods, and what the tables link -/
theorem wr_in (i : Nat) {w : Cond} (h : tables_1[i]? = some w) (hg : goodWord w = true) : w ∈ wr_TG := List.mem_filter.mpr ⟨List.mem_append_right _ (List.mem_of_getElem? h), hg⟩
theorem wr_inS (i : Nat) {w : Cond} (h : (k2_sels lw_privs)[i]? = some w) (hg : goodWord w = true) : w ∈ wr_TG := List.mem_filter.mpr ⟨List.mem_append_left _ (List.mem_of_getElem? h), hg⟩
theorem wr_inN (i : Nat) {w : Cond} (h : tables_1[i]? = some w) (hg : wr_nest w = true) : w ∈ wr_TN := List.mem_filter.mpr ⟨List.mem_of_getElem? h, hg⟩
abbrev mX0_init : wr_M := (yX0_init, cX0_init, 1, none)
set_option maxRecDepth 20000 in
theorem oX0_init : wr_MI mX0_init 0 := ⟨⟨wr_in 198 rfl rfl, wr_in 6 rfl rfl, ⟨by decide, by decide⟩, by decide +kernel, by decide, by decide⟩, wr_in 197 rfl rfl, rfl⟩
abbrev mX0_freshen : wr_M := (yX0_freshen, cX0_freshen, 2, none)
set_option maxRecDepth 20000 in
theorem oX0_freshen : wr_MV mX0_freshen 0 := ⟨⟨wr_in 583 rfl rfl, wr_in 6 rfl rfl, ⟨by decide, by decide⟩, by decide +kernel, by decide, by decide⟩, wr_in 581 rfl rfl, wr_in 582 rfl rfl⟩
abbrev mX0_copy : wr_M := (yX0_copy, cX0_copy, 3, none)
set_option maxRecDepth 20000 in
theorem oX0_copy : wr_MV mX0_copy 1 := ⟨⟨wr_in 732 rfl rfl, wr_in 6 rfl rfl, ⟨by decide, by decide⟩, by decide +kernel, by decide, by decide⟩, wr_in 730 rfl rfl, wr_in 731 rfl rfl⟩
abbrev mX0_stateOf : wr_M := (yX0_stateOf, cX0_stateOf, 2, (some .int))
set_option maxRecDepth 20000 in
theorem oX0_stateOf : wr_MV mX0_stateOf 1 := ⟨⟨wr_in 686 rfl rfl, wr_in 6 rfl rfl, ⟨by decide, by decide⟩, by decide +kernel, by decide, by decide⟩, wr_in 684 rfl rfl, wr_in 685 rfl rfl⟩
abbrev mX0_risesOf : wr_M := (yX0_risesOf, cX0_risesOf, 2, (some .int))
set_option maxRecDepth 20000 in
theorem oX0_risesOf : wr_MV mX0_risesOf 1 := ⟨⟨wr_in 690 rfl rfl, wr_in 6 rfl rfl, ⟨by decide, by decide⟩, by decide +kernel, by decide, by decide⟩, wr_in 688 rfl rfl, wr_in 689 rfl rfl⟩
abbrev mX0_risenBy : wr_M := (yX0_risenBy, cX0_risenBy, 2, (some .int))
set_option maxRecDepth 20000 in
theorem oX0_risenBy : wr_MV mX0_risenBy 1 := ⟨⟨wr_in 706 rfl rfl, wr_in 6 rfl rfl, ⟨by decide, by decide⟩, by decide +kernel, by decide, by decide⟩, wr_in 704 rfl rfl, wr_in 705 rfl rfl⟩
abbrev mX0_raise : wr_M := (yX0_raise, cX0_raise, 6, (some .int))
set_option maxRecDepth 20000 in
theorem oX0_raise : wr_MV mX0_raise 2 := ⟨⟨wr_in 599 rfl rfl, wr_in 6 rfl rfl, ⟨by decide, by decide⟩, by decide +kernel, by decide, by decide⟩, wr_in 597 rfl rfl, wr_in 598 rfl rfl⟩
abbrev mX0_willing : wr_M := (yX0_willing, cX0_willing, 9, (some .long))
set_option maxRecDepth 20000 in
theorem oX0_willing : wr_MV mX0_willing 2 := ⟨⟨wr_in 616 rfl rfl, wr_in 6 rfl rfl, ⟨by decide, by decide⟩, by decide +kernel, by decide, by decide⟩, wr_in 614 rfl rfl, wr_in 615 rfl rfl⟩
abbrev mX0_lookAround : wr_M := (yX0_lookAround, cX0_lookAround, 6, none)
set_option maxRecDepth 20000 in
theorem oX0_lookAround : wr_MV mX0_lookAround 2 := ⟨⟨wr_in 630 rfl rfl, wr_in 6 rfl rfl, ⟨by decide, by decide⟩, by decide +kernel, by decide, by decide⟩, wr_in 629 rfl rfl, wr_inS 23 rfl rfl⟩
abbrev mX0_liveOn : wr_M := (yX0_liveOn, cX0_liveOn, 4, (some .long))
set_option maxRecDepth 20000 in
theorem oX0_liveOn : wr_MV mX0_liveOn 1 := ⟨⟨wr_in 612 rfl rfl, wr_in 6 rfl rfl, ⟨by decide, by decide⟩, by decide +kernel, by decide, by decide⟩, wr_in 610 rfl rfl, wr_in 611 rfl rfl⟩
abbrev mX0_dreamOn : wr_M := (yX0_dreamOn, cX0_dreamOn, 6, (some .long))
set_option maxRecDepth 20000 in
theorem oX0_dreamOn : wr_MV mX0_dreamOn 2 := ⟨⟨wr_in 736 rfl rfl, wr_in 6 rfl rfl, ⟨by decide, by decide⟩, by decide +kernel, by decide, by decide⟩, wr_in 734 rfl rfl, wr_in 735 rfl rfl⟩
abbrev mX0_tillNobodyUp : wr_M := (yX0_tillNobodyUp, cX0_tillNobodyUp, 6, (some .int))
set_option maxRecDepth 20000 in
theorem oX0_tillNobodyUp : wr_MV mX0_tillNobodyUp 3 := ⟨⟨wr_in 744 rfl rfl, wr_in 6 rfl rfl, ⟨by decide, by decide⟩, by decide +kernel, by decide, by decide⟩, wr_in 742 rfl rfl, wr_in 743 rfl rfl⟩
abbrev mX0_withoutTheShy : wr_M := (yX0_withoutTheShy, cX0_withoutTheShy, 7, (some .long))
set_option maxRecDepth 20000 in
theorem oX0_withoutTheShy : wr_MV mX0_withoutTheShy 2 := ⟨⟨wr_in 649 rfl rfl, wr_in 6 rfl rfl, ⟨by decide, by decide⟩, by decide +kernel, by decide, by decide⟩, wr_in 648 rfl rfl, wr_inS 24 rfl rfl⟩
abbrev mX0_drawOfTen : wr_M := (yX0_drawOfTen, cX0_drawOfTen, 1, (some .int))
set_option maxRecDepth 20000 in
theorem oX0_drawOfTen : wr_MV mX0_drawOfTen 0 := ⟨⟨wr_in 653 rfl rfl, wr_in 6 rfl rfl, ⟨by decide, by decide⟩, by decide +kernel, by decide, by decide⟩, wr_in 652 rfl rfl, wr_inS 25 rfl rfl⟩
abbrev mX0_countWays : wr_M := (yX0_countWays, cX0_countWays, 5, none)
set_option maxRecDepth 20000 in
theorem oX0_countWays : wr_MV mX0_countWays 2 := ⟨⟨wr_in 658 rfl rfl, wr_in 6 rfl rfl, ⟨by decide, by decide⟩, by decide +kernel, by decide, by decide⟩, wr_in 657 rfl rfl, wr_inS 26 rfl rfl⟩
abbrev mX0_countWay : wr_M := (yX0_countWay, cX0_countWay, 2, none)
set_option maxRecDepth 20000 in
theorem oX0_countWay : wr_MV mX0_countWay 1 := ⟨⟨wr_in 665 rfl rfl, wr_in 6 rfl rfl, ⟨by decide, by decide⟩, by decide +kernel, by decide, by decide⟩, wr_in 664 rfl rfl, wr_inS 27 rfl rfl⟩
abbrev mX0_wayOf : wr_M := (yX0_wayOf, cX0_wayOf, 2, (some .int))
set_option maxRecDepth 20000 in
theorem oX0_wayOf : wr_MS mX0_wayOf 2 := ⟨⟨wr_in 661 rfl rfl, wr_in 6 rfl rfl, ⟨by decide, by decide⟩, by decide +kernel, by decide, by decide⟩, wr_in 660 rfl rfl⟩
abbrev mX0_move : wr_M := (yX0_move, cX0_move, 5, none)
set_option maxRecDepth 20000 in
theorem oX0_move : wr_MV mX0_move 2 := ⟨⟨wr_in 669 rfl rfl, wr_in 6 rfl rfl, ⟨by decide, by decide⟩, by decide +kernel, by decide, by decide⟩, wr_in 668 rfl rfl, wr_inS 28 rfl rfl⟩
abbrev mX0_stateBehind : wr_M := (yX0_stateBehind, cX0_stateBehind, 2, (some .int))
set_option maxRecDepth 20000 in
theorem oX0_stateBehind : wr_MS mX0_stateBehind 2 := ⟨⟨wr_in 672 rfl rfl, wr_in 6 rfl rfl, ⟨by decide, by decide⟩, by decide +kernel, by decide, by decide⟩, wr_in 671 rfl rfl⟩
abbrev mX1_init : wr_M := (yX1_init, cX1_init, 1, none)
set_option maxRecDepth 20000 in
theorem oX1_init : wr_MI mX1_init 0 := ⟨⟨wr_in 237 rfl rfl, wr_in 7 rfl rfl, ⟨by decide, by decide⟩, by decide +kernel, by decide, by decide⟩, wr_in 236 rfl rfl, rfl⟩
abbrev mX1_forget : wr_M := (yX1_forget, cX1_forget, 1, none)
set_option maxRecDepth 20000 in
theorem oX1_forget : wr_MV mX1_forget 0 := ⟨⟨wr_in 587 rfl rfl, wr_in 7 rfl rfl, ⟨by decide, by decide⟩, by decide +kernel, by decide, by decide⟩, wr_in 585 rfl rfl, wr_in 586 rfl rfl⟩
abbrev mX1_tell : wr_M := (yX1_tell, cX1_tell, 4, (some .int))
set_option maxRecDepth 20000 in
theorem oX1_tell : wr_MV mX1_tell 2 := ⟨⟨wr_in 798 rfl rfl, wr_in 7 rfl rfl, ⟨by decide, by decide⟩, by decide +kernel, by decide, by decide⟩, wr_in 796 rfl rfl, wr_in 797 rfl rfl⟩
abbrev mX1_takeBack : wr_M := (yX1_takeBack, cX1_takeBack, 2, (some .boolean))
set_option maxRecDepth 20000 in
theorem oX1_takeBack : wr_MV mX1_takeBack 1 := ⟨⟨wr_in 806 rfl rfl, wr_in 7 rfl rfl, ⟨by decide, by decide⟩, by decide +kernel, by decide, by decide⟩, wr_in 804 rfl rfl, wr_in 805 rfl rfl⟩
abbrev mX1_recall : wr_M := (yX1_recall, cX1_recall, 4, none)
set_option maxRecDepth 20000 in
theorem oX1_recall : wr_MV mX1_recall 1 := ⟨⟨wr_in 819 rfl rfl, wr_in 7 rfl rfl, ⟨by decide, by decide⟩, by decide +kernel, by decide, by decide⟩, wr_in 817 rfl rfl, wr_in 818 rfl rfl⟩
abbrev mX1_counts : wr_M := (yX1_counts, cX1_counts, 4, (some .boolean))
set_option maxRecDepth 20000 in
theorem oX1_counts : wr_MV mX1_counts 2 := ⟨⟨wr_in 823 rfl rfl, wr_in 7 rfl rfl, ⟨by decide, by decide⟩, by decide +kernel, by decide, by decide⟩, wr_in 822 rfl rfl, wr_inS 32 rfl rfl⟩
abbrev mX1_let : wr_M := (yX1_let, cX1_let, 3, (some .boolean))
set_option maxRecDepth 20000 in
theorem oX1_let : wr_MV mX1_let 1 := ⟨⟨wr_in 836 rfl rfl, wr_in 7 rfl rfl, ⟨by decide, by decide⟩, by decide +kernel, by decide, by decide⟩, wr_in 834 rfl rfl, wr_in 835 rfl rfl⟩
abbrev mX1_shownBy : wr_M := (yX1_shownBy, cX1_shownBy, 4, (some .long))
set_option maxRecDepth 20000 in
theorem oX1_shownBy : wr_MV mX1_shownBy 2 := ⟨⟨wr_in 867 rfl rfl, wr_in 7 rfl rfl, ⟨by decide, by decide⟩, by decide +kernel, by decide, by decide⟩, wr_in 865 rfl rfl, wr_in 866 rfl rfl⟩
abbrev mX2_init : wr_M := (yX2_init, cX2_init, 1, none)
set_option maxRecDepth 20000 in
theorem oX2_init : wr_MI mX2_init 0 := ⟨⟨wr_in 49 rfl rfl, wr_in 4 rfl rfl, ⟨by decide, by decide⟩, by decide +kernel, by decide, by decide⟩, wr_in 48 rfl rfl, rfl⟩
abbrev mX2_clear : wr_M := (yX2_clear, cX2_clear, 1, none)
set_option maxRecDepth 20000 in
theorem oX2_clear : wr_MV mX2_clear 0 := ⟨⟨wr_in 74 rfl rfl, wr_in 4 rfl rfl, ⟨by decide, by decide⟩, by decide +kernel, by decide, by decide⟩, wr_in 72 rfl rfl, wr_in 73 rfl rfl⟩
abbrev mX2_add : wr_M := (yX2_add, cX2_add, 2, none)
set_option maxRecDepth 20000 in
theorem oX2_add : wr_MV mX2_add 1 := ⟨⟨wr_in 82 rfl rfl, wr_in 4 rfl rfl, ⟨by decide, by decide⟩, by decide +kernel, by decide, by decide⟩, wr_in 80 rfl rfl, wr_in 81 rfl rfl⟩
abbrev mX2_addUnit : wr_M := (yX2_addUnit, cX2_addUnit, 2, none)
set_option maxRecDepth 20000 in
theorem oX2_addUnit : wr_MV mX2_addUnit 1 := ⟨⟨wr_in 78 rfl rfl, wr_in 4 rfl rfl, ⟨by decide, by decide⟩, by decide +kernel, by decide, by decide⟩, wr_in 76 rfl rfl, wr_in 77 rfl rfl⟩
abbrev mX2_worth : wr_M := (yX2_worth, cX2_worth, 5, (some .int))
set_option maxRecDepth 20000 in
theorem oX2_worth : wr_MV mX2_worth 1 := ⟨⟨wr_in 639 rfl rfl, wr_in 4 rfl rfl, ⟨by decide, by decide⟩, by decide +kernel, by decide, by decide⟩, wr_in 637 rfl rfl, wr_in 638 rfl rfl⟩
abbrev mX2_lookedUp : wr_M := (yX2_lookedUp, cX2_lookedUp, 2, (some .int))
set_option maxRecDepth 20000 in
theorem oX2_lookedUp : wr_MS mX2_lookedUp 2 := ⟨⟨wr_in 642 rfl rfl, wr_in 4 rfl rfl, ⟨by decide, by decide⟩, by decide +kernel, by decide, by decide⟩, wr_in 641 rfl rfl⟩
abbrev mX2_joined : wr_M := (yX2_joined, cX2_joined, 3, (some .int))
set_option maxRecDepth 20000 in
theorem oX2_joined : wr_MS mX2_joined 3 := ⟨⟨wr_in 645 rfl rfl, wr_in 4 rfl rfl, ⟨by decide, by decide⟩, by decide +kernel, by decide, by decide⟩, wr_in 644 rfl rfl⟩
abbrev mX3_init : wr_M := (yX3_init, cX3_init, 2, none)
set_option maxRecDepth 20000 in
theorem oX3_init : wr_MI mX3_init 1 := ⟨⟨wr_in 279 rfl rfl, wr_in 8 rfl rfl, ⟨by decide, by decide⟩, by decide +kernel, by decide, by decide⟩, wr_in 278 rfl rfl, rfl⟩
abbrev mX3_take : wr_M := (yX3_take, cX3_take, 4, none)
set_option maxRecDepth 20000 in
theorem oX3_take : wr_MV mX3_take 2 := ⟨⟨wr_in 831 rfl rfl, wr_in 8 rfl rfl, ⟨by decide, by decide⟩, by decide +kernel, by decide, by decide⟩, wr_in 829 rfl rfl, wr_in 830 rfl rfl⟩
abbrev mX3_begin : wr_M := (yX3_begin, cX3_begin, 3, none)
set_option maxRecDepth 20000 in
theorem oX3_begin : wr_MV mX3_begin 1 := ⟨⟨wr_in 840 rfl rfl, wr_in 8 rfl rfl, ⟨by decide, by decide⟩, by decide +kernel, by decide, by decide⟩, wr_in 838 rfl rfl, wr_in 839 rfl rfl⟩
abbrev mX3_allUp : wr_M := (yX3_allUp, cX3_allUp, 1, (some .long))
set_option maxRecDepth 20000 in
theorem oX3_allUp : wr_MV mX3_allUp 0 := ⟨⟨wr_in 848 rfl rfl, wr_in 8 rfl rfl, ⟨by decide, by decide⟩, by decide +kernel, by decide, by decide⟩, wr_in 846 rfl rfl, wr_in 847 rfl rfl⟩
abbrev mX3_goOn : wr_M := (yX3_goOn, cX3_goOn, 7, none)
set_option maxRecDepth 20000 in
theorem oX3_goOn : wr_MV mX3_goOn 0 := ⟨⟨wr_in 844 rfl rfl, wr_in 8 rfl rfl, ⟨by decide, by decide⟩, by decide +kernel, by decide, by decide⟩, wr_in 842 rfl rfl, wr_in 843 rfl rfl⟩
abbrev mX3_thoseWhoSee : wr_M := (yX3_thoseWhoSee, cX3_thoseWhoSee, 12, (some .long))
set_option maxRecDepth 20000 in
theorem oX3_thoseWhoSee : wr_MV mX3_thoseWhoSee 0 := ⟨⟨wr_in 852 rfl rfl, wr_in 8 rfl rfl, ⟨by decide, by decide⟩, by decide +kernel, by decide, by decide⟩, wr_in 851 rfl rfl, wr_inS 34 rfl rfl⟩
abbrev mX4_init : wr_M := (yX4_init, cX4_init, 3, none)
set_option maxRecDepth 20000 in
theorem oX4_init : wr_MI mX4_init 2 := ⟨⟨wr_in 156 rfl rfl, wr_in 5 rfl rfl, ⟨by decide, by decide⟩, by decide +kernel, by decide, by decide⟩, wr_in 155 rfl rfl, rfl⟩
abbrev mX4_readInto : wr_M := (yX4_readInto, cX4_readInto, 4, (some .boolean))
set_option maxRecDepth 20000 in
theorem oX4_readInto : wr_MV mX4_readInto 1 := ⟨⟨wr_in 378 rfl rfl, wr_in 5 rfl rfl, ⟨by decide, by decide⟩, by decide +kernel, by decide, by decide⟩, wr_in 376 rfl rfl, wr_in 377 rfl rfl⟩
abbrev mX4_readLine : wr_M := (yX4_readLine, cX4_readLine, 1, (some .boolean))
set_option maxRecDepth 20000 in
theorem oX4_readLine : wr_MV mX4_readLine 0 := ⟨⟨wr_in 411 rfl rfl, wr_in 5 rfl rfl, ⟨by decide, by decide⟩, by decide +kernel, by decide, by decide⟩, wr_in 410 rfl rfl, wr_inS 3 rfl rfl⟩
abbrev mX4_readSeats : wr_M := (yX4_readSeats, cX4_readSeats, 1, (some .boolean))
set_option maxRecDepth 20000 in
theorem oX4_readSeats : wr_MV mX4_readSeats 0 := ⟨⟨wr_in 468 rfl rfl, wr_in 5 rfl rfl, ⟨by decide, by decide⟩, by decide +kernel, by decide, by decide⟩, wr_in 467 rfl rfl, wr_inS 5 rfl rfl⟩
abbrev mX4_readPlaces : wr_M := (yX4_readPlaces, cX4_readPlaces, 6, (some .boolean))
set_option maxRecDepth 20000 in
theorem oX4_readPlaces : wr_MV mX4_readPlaces 0 := ⟨⟨wr_in 491 rfl rfl, wr_in 5 rfl rfl, ⟨by decide, by decide⟩, by decide +kernel, by decide, by decide⟩, wr_in 490 rfl rfl, wr_inS 10 rfl rfl⟩
abbrev mX4_readSlack : wr_M := (yX4_readSlack, cX4_readSlack, 3, (some .boolean))
set_option maxRecDepth 20000 in
theorem oX4_readSlack : wr_MV mX4_readSlack 0 := ⟨⟨wr_in 516 rfl rfl, wr_in 5 rfl rfl, ⟨by decide, by decide⟩, by decide +kernel, by decide, by decide⟩, wr_in 515 rfl rfl, wr_inS 12 rfl rfl⟩
abbrev mX4_readLaw : wr_M := (yX4_readLaw, cX4_readLaw, 1, (some .boolean))
set_option maxRecDepth 20000 in
theorem oX4_readLaw : wr_MV mX4_readLaw 0 := ⟨⟨wr_in 526 rfl rfl, wr_in 5 rfl rfl, ⟨by decide, by decide⟩, by decide +kernel, by decide, by decide⟩, wr_in 525 rfl rfl, wr_inS 13 rfl rfl⟩
abbrev mX4_readEither : wr_M := (yX4_readEither, cX4_readEither, 4, (some .boolean))
set_option maxRecDepth 20000 in
theorem oX4_readEither : wr_MV mX4_readEither 1 := ⟨⟨wr_in 536 rfl rfl, wr_in 5 rfl rfl, ⟨by decide, by decide⟩, by decide +kernel, by decide, by decide⟩, wr_in 535 rfl rfl, wr_inS 14 rfl rfl⟩
abbrev mX4_readBoth : wr_M := (yX4_readBoth, cX4_readBoth, 4, (some .boolean))
set_option maxRecDepth 20000 in
theorem oX4_readBoth : wr_MV mX4_readBoth 1 := ⟨⟨wr_in 540 rfl rfl, wr_in 5 rfl rfl, ⟨by decide, by decide⟩, by decide +kernel, by decide, by decide⟩, wr_in 539 rfl rfl, wr_inS 15 rfl rfl⟩
abbrev mX4_readOne : wr_M := (yX4_readOne, cX4_readOne, 4, (some .boolean))
set_option maxRecDepth 20000 in
theorem oX4_readOne : wr_MV mX4_readOne 1 := ⟨⟨wr_in 544 rfl rfl, wr_in 5 rfl rfl, ⟨by decide, by decide⟩, by decide +kernel, by decide, by decide⟩, wr_in 543 rfl rfl, wr_inS 16 rfl rfl⟩
abbrev mX4_relationHere : wr_M := (yX4_relationHere, cX4_relationHere, 1, (some .int))
set_option maxRecDepth 20000 in
theorem oX4_relationHere : wr_MV mX4_relationHere 0 := ⟨⟨wr_in 577 rfl rfl, wr_in 5 rfl rfl, ⟨by decide, by decide⟩, by decide +kernel, by decide, by decide⟩, wr_in 576 rfl rfl, wr_inS 22 rfl rfl⟩
abbrev mX4_readSum : wr_M := (yX4_readSum, cX4_readSum, 5, (some .boolean))
set_option maxRecDepth 20000 in
theorem oX4_readSum : wr_MV mX4_readSum 1 := ⟨⟨wr_in 550 rfl rfl, wr_in 5 rfl rfl, ⟨by decide, by decide⟩, by decide +kernel, by decide, by decide⟩, wr_in 549 rfl rfl, wr_inS 17 rfl rfl⟩
abbrev mX4_readTerm : wr_M := (yX4_readTerm, cX4_readTerm, 4, (some .boolean))
set_option maxRecDepth 20000 in
theorem oX4_readTerm : wr_MV mX4_readTerm 1 := ⟨⟨wr_in 554 rfl rfl, wr_in 5 rfl rfl, ⟨by decide, by decide⟩, by decide +kernel, by decide, by decide⟩, wr_in 553 rfl rfl, wr_inS 18 rfl rfl⟩
abbrev mX4_readUnit : wr_M := (yX4_readUnit, cX4_readUnit, 3, (some .boolean))
set_option maxRecDepth 20000 in
theorem oX4_readUnit : wr_MV mX4_readUnit 1 := ⟨⟨wr_in 558 rfl rfl, wr_in 5 rfl rfl, ⟨by decide, by decide⟩, by decide +kernel, by decide, by decide⟩, wr_in 557 rfl rfl, wr_inS 19 rfl rfl⟩
abbrev mX4_readNested : wr_M := (yX4_readNested, cX4_readNested, 2, (some .boolean))
set_option maxRecDepth 20000 in
theorem oX4_readNested : wr_MV mX4_readNested 1 := ⟨⟨wr_in 562 rfl rfl, wr_in 5 rfl rfl, ⟨by decide, by decide⟩, by decide +kernel, by decide, by decide⟩, wr_in 561 rfl rfl, wr_inS 20 rfl rfl⟩
abbrev mX4_lookHere : wr_M := (yX4_lookHere, cX4_lookHere, 1, (some .int))
set_option maxRecDepth 20000 in
theorem oX4_lookHere : wr_MV mX4_lookHere 0 := ⟨⟨wr_in 566 rfl rfl, wr_in 5 rfl rfl, ⟨by decide, by decide⟩, by decide +kernel, by decide, by decide⟩, wr_in 565 rfl rfl, wr_inS 21 rfl rfl⟩
abbrev mX4_takeWord : wr_M := (yX4_takeWord, cX4_takeWord, 2, (some .boolean))
set_option maxRecDepth 20000 in
theorem oX4_takeWord : wr_MV mX4_takeWord 1 := ⟨⟨wr_in 496 rfl rfl, wr_in 5 rfl rfl, ⟨by decide, by decide⟩, by decide +kernel, by decide, by decide⟩, wr_in 495 rfl rfl, wr_inS 11 rfl rfl⟩
abbrev mX4_takeSign : wr_M := (yX4_takeSign, cX4_takeSign, 2, (some .boolean))
set_option maxRecDepth 20000 in
theorem oX4_takeSign : wr_MV mX4_takeSign 1 := ⟨⟨wr_in 480 rfl rfl, wr_in 5 rfl rfl, ⟨by decide, by decide⟩, by decide +kernel, by decide, by decide⟩, wr_in 479 rfl rfl, wr_inS 8 rfl rfl⟩
abbrev mX4_takeNumber : wr_M := (yX4_takeNumber, cX4_takeNumber, 3, (some .boolean))
set_option maxRecDepth 20000 in
theorem oX4_takeNumber : wr_MV mX4_takeNumber 2 := ⟨⟨wr_in 476 rfl rfl, wr_in 5 rfl rfl, ⟨by decide, by decide⟩, by decide +kernel, by decide, by decide⟩, wr_in 475 rfl rfl, wr_inS 7 rfl rfl⟩
abbrev mX4_refuse : wr_M := (yX4_refuse, cX4_refuse, 1, (some .boolean))
set_option maxRecDepth 20000 in
theorem oX4_refuse : wr_MV mX4_refuse 0 := ⟨⟨wr_in 472 rfl rfl, wr_in 5 rfl rfl, ⟨by decide, by decide⟩, by decide +kernel, by decide, by decide⟩, wr_in 471 rfl rfl, wr_inS 6 rfl rfl⟩
abbrev mX4_isSign : wr_M := (yX4_isSign, cX4_isSign, 2, (some .boolean))
set_option maxRecDepth 20000 in
theorem oX4_isSign : wr_MV mX4_isSign 1 := ⟨⟨wr_in 484 rfl rfl, wr_in 5 rfl rfl, ⟨by decide, by decide⟩, by decide +kernel, by decide, by decide⟩, wr_in 483 rfl rfl, wr_inS 9 rfl rfl⟩
abbrev mX4_isWord : wr_M := (yX4_isWord, cX4_isWord, 3, (some .boolean))
set_option maxRecDepth 20000 in
theorem oX4_isWord : wr_MV mX4_isWord 1 := ⟨⟨wr_in 416 rfl rfl, wr_in 5 rfl rfl, ⟨by decide, by decide⟩, by decide +kernel, by decide, by decide⟩, wr_in 415 rfl rfl, wr_inS 4 rfl rfl⟩
abbrev mX4_step : wr_M := (yX4_step, cX4_step, 3, none)
set_option maxRecDepth 20000 in
theorem oX4_step : wr_MV mX4_step 0 := ⟨⟨wr_in 383 rfl rfl, wr_in 5 rfl rfl, ⟨by decide, by decide⟩, by decide +kernel, by decide, by decide⟩, wr_in 382 rfl rfl, wr_inS 0 rfl rfl⟩
abbrev mX4_readWord : wr_M := (yX4_readWord, cX4_readWord, 2, none)
set_option maxRecDepth 20000 in
theorem oX4_readWord : wr_MV mX4_readWord 0 := ⟨⟨wr_in 397 rfl rfl, wr_in 5 rfl rfl, ⟨by decide, by decide⟩, by decide +kernel, by decide, by decide⟩, wr_in 396 rfl rfl, wr_inS 1 rfl rfl⟩
abbrev mX4_readNumber : wr_M := (yX4_readNumber, cX4_readNumber, 2, none)
set_option maxRecDepth 20000 in
theorem oX4_readNumber : wr_MV mX4_readNumber 0 := ⟨⟨wr_in 404 rfl rfl, wr_in 5 rfl rfl, ⟨by decide, by decide⟩, by decide +kernel, by decide, by decide⟩, wr_in 403 rfl rfl, wr_inS 2 rfl rfl⟩
abbrev mX4_isBlank : wr_M := (yX4_isBlank, cX4_isBlank, 1, (some .boolean))
set_option maxRecDepth 20000 in
theorem oX4_isBlank : wr_MS mX4_isBlank 1 := ⟨⟨wr_in 390 rfl rfl, wr_in 5 rfl rfl, ⟨by decide, by decide⟩, by decide +kernel, by decide, by decide⟩, wr_in 389 rfl rfl⟩
abbrev mX4_isLetter : wr_M := (yX4_isLetter, cX4_isLetter, 1, (some .boolean))
set_option maxRecDepth 20000 in
theorem oX4_isLetter : wr_MS mX4_isLetter 1 := ⟨⟨wr_in 393 rfl rfl, wr_in 5 rfl rfl, ⟨by decide, by decide⟩, by decide +kernel, by decide, by decide⟩, wr_in 392 rfl rfl⟩
abbrev mX4_isDigit : wr_M := (yX4_isDigit, cX4_isDigit, 1, (some .boolean))
set_option maxRecDepth 20000 in
theorem oX4_isDigit : wr_MS mX4_isDigit 1 := ⟨⟨wr_in 400 rfl rfl, wr_in 5 rfl rfl, ⟨by decide, by decide⟩, by decide +kernel, by decide, by decide⟩, wr_in 399 rfl rfl⟩
abbrev mX4_isOneOfTheSigns : wr_M := (yX4_isOneOfTheSigns, cX4_isOneOfTheSigns, 1, (some .boolean))
set_option maxRecDepth 20000 in
theorem oX4_isOneOfTheSigns : wr_MS mX4_isOneOfTheSigns 1 := ⟨⟨wr_in 407 rfl rfl, wr_in 5 rfl rfl, ⟨by decide, by decide⟩, by decide +kernel, by decide, by decide⟩, wr_in 406 rfl rfl⟩
abbrev mX5_init : wr_M := (yX5_init, cX5_init, 1, none)
set_option maxRecDepth 20000 in
theorem oX5_init : wr_MI mX5_init 0 := ⟨⟨wr_in 43 rfl rfl, wr_in 3 rfl rfl, ⟨by decide, by decide⟩, by decide +kernel, by decide, by decide⟩, wr_in 42 rfl rfl, rfl⟩
abbrev mX5_empty : wr_M := (yX5_empty, cX5_empty, 1, none)
set_option maxRecDepth 20000 in
theorem oX5_empty : wr_MV mX5_empty 0 := ⟨⟨wr_in 70 rfl rfl, wr_in 3 rfl rfl, ⟨by decide, by decide⟩, by decide +kernel, by decide, by decide⟩, wr_in 68 rfl rfl, wr_in 69 rfl rfl⟩
abbrev mX5_has : wr_M := (yX5_has, cX5_has, 2, (some .boolean))
set_option maxRecDepth 20000 in
theorem oX5_has : wr_MV mX5_has 1 := ⟨⟨wr_in 681 rfl rfl, wr_in 3 rfl rfl, ⟨by decide, by decide⟩, by decide +kernel, by decide, by decide⟩, wr_in 679 rfl rfl, wr_in 680 rfl rfl⟩
abbrev mX5_everySeat : wr_M := (yX5_everySeat, cX5_everySeat, 1, (some .long))
set_option maxRecDepth 20000 in
theorem oX5_everySeat : wr_MV mX5_everySeat 0 := ⟨⟨wr_in 511 rfl rfl, wr_in 3 rfl rfl, ⟨by decide, by decide⟩, by decide +kernel, by decide, by decide⟩, wr_in 509 rfl rfl, wr_in 510 rfl rfl⟩
abbrev mX5_seatsFrom : wr_M := (yX5_seatsFrom, cX5_seatsFrom, 3, (some .long))
set_option maxRecDepth 20000 in
theorem oX5_seatsFrom : wr_MV mX5_seatsFrom 2 := ⟨⟨wr_in 500 rfl rfl, wr_in 3 rfl rfl, ⟨by decide, by decide⟩, by decide +kernel, by decide, by decide⟩, wr_in 498 rfl rfl, wr_in 499 rfl rfl⟩
abbrev mX5_turned : wr_M := (yX5_turned, cX5_turned, 4, (some .long))
set_option maxRecDepth 20000 in
theorem oX5_turned : wr_MV mX5_turned 2 := ⟨⟨wr_in 507 rfl rfl, wr_in 3 rfl rfl, ⟨by decide, by decide⟩, by decide +kernel, by decide, by decide⟩, wr_in 505 rfl rfl, wr_in 506 rfl rfl⟩
abbrev mX5_sightOf : wr_M := (yX5_sightOf, cX5_sightOf, 2, (some .int))
set_option maxRecDepth 20000 in
theorem oX5_sightOf : wr_MV mX5_sightOf 1 := ⟨⟨wr_in 634 rfl rfl, wr_in 3 rfl rfl, ⟨by decide, by decide⟩, by decide +kernel, by decide, by decide⟩, wr_in 632 rfl rfl, wr_in 633 rfl rfl⟩
abbrev mX5_addSlack : wr_M := (yX5_addSlack, cX5_addSlack, 4, none)
set_option maxRecDepth 20000 in
theorem oX5_addSlack : wr_MV mX5_addSlack 3 := ⟨⟨wr_in 521 rfl rfl, wr_in 3 rfl rfl, ⟨by decide, by decide⟩, by decide +kernel, by decide, by decide⟩, wr_in 519 rfl rfl, wr_in 520 rfl rfl⟩
abbrev mX5_slackIn : wr_M := (yX5_slackIn, cX5_slackIn, 3, (some .int))
set_option maxRecDepth 20000 in
theorem oX5_slackIn : wr_MV mX5_slackIn 1 := ⟨⟨wr_in 620 rfl rfl, wr_in 3 rfl rfl, ⟨by decide, by decide⟩, by decide +kernel, by decide, by decide⟩, wr_in 618 rfl rfl, wr_in 619 rfl rfl⟩
abbrev mX5_widest : wr_M := (yX5_widest, cX5_widest, 6, (some .int))
set_option maxRecDepth 20000 in
theorem oX5_widest : wr_MV mX5_widest 1 := ⟨⟨wr_in 714 rfl rfl, wr_in 3 rfl rfl, ⟨by decide, by decide⟩, by decide +kernel, by decide, by decide⟩, wr_in 712 rfl rfl, wr_in 713 rfl rfl⟩
abbrev mX5_stretches : wr_M := (yX5_stretches, cX5_stretches, 3, (some .int))
set_option maxRecDepth 20000 in
theorem oX5_stretches : wr_MV mX5_stretches 1 := ⟨⟨wr_in 722 rfl rfl, wr_in 3 rfl rfl, ⟨by decide, by decide⟩, by decide +kernel, by decide, by decide⟩, wr_in 720 rfl rfl, wr_in 721 rfl rfl⟩
abbrev mX6_init : wr_M := (yX6_init, cX6_init, 1, none)
set_option maxRecDepth 20000 in
theorem oX6_init : wr_MI mX6_init 0 := ⟨⟨wr_in 28 rfl rfl, wr_in 2 rfl rfl, ⟨by decide, by decide⟩, by decide +kernel, by decide, by decide⟩, wr_in 27 rfl rfl, rfl⟩
abbrev mX6_add : wr_M := (yX6_add, cX6_add, 3, none)
set_option maxRecDepth 20000 in
theorem oX6_add : wr_MV mX6_add 1 := ⟨⟨wr_in 366 rfl rfl, wr_in 2 rfl rfl, ⟨by decide, by decide⟩, by decide +kernel, by decide, by decide⟩, wr_in 364 rfl rfl, wr_in 365 rfl rfl⟩
abbrev mX6_at : wr_M := (yX6_at, cX6_at, 2, (some .int))
set_option maxRecDepth 20000 in
theorem oX6_at : wr_MV mX6_at 1 := ⟨⟨wr_in 387 rfl rfl, wr_in 2 rfl rfl, ⟨by decide, by decide⟩, by decide +kernel, by decide, by decide⟩, wr_in 385 rfl rfl, wr_in 386 rfl rfl⟩
abbrev mX7_init : wr_M := (yX7_init, cX7_init, 2, none)
set_option maxRecDepth 20000 in
theorem oX7_init : wr_MI mX7_init 0 := ⟨⟨wr_in 20 rfl rfl, wr_in 1 rfl rfl, ⟨by decide, by decide⟩, by decide +kernel, by decide, by decide⟩, wr_in 19 rfl rfl, rfl⟩
abbrev mX7_feed : wr_M := (yX7_feed, cX7_feed, 6, (some .int))
set_option maxRecDepth 20000 in
theorem oX7_feed : wr_MV mX7_feed 5 := ⟨⟨wr_in 362 rfl rfl, wr_in 1 rfl rfl, ⟨by decide, by decide⟩, by decide +kernel, by decide, by decide⟩, wr_in 360 rfl rfl, wr_in 361 rfl rfl⟩
abbrev mX7_end : wr_M := (yX7_end, cX7_end, 2, (some .int))
set_option maxRecDepth 20000 in
theorem oX7_end : wr_MV mX7_end 1 := ⟨⟨wr_in 370 rfl rfl, wr_in 1 rfl rfl, ⟨by decide, by decide⟩, by decide +kernel, by decide, by decide⟩, wr_in 368 rfl rfl, wr_in 369 rfl rfl⟩
abbrev mX7_ring : wr_M := (yX7_ring, cX7_ring, 4, (some .int))
set_option maxRecDepth 20000 in
theorem oX7_ring : wr_MV mX7_ring 0 := ⟨⟨wr_in 374 rfl rfl, wr_in 1 rfl rfl, ⟨by decide, by decide⟩, by decide +kernel, by decide, by decide⟩, wr_in 372 rfl rfl, wr_in 373 rfl rfl⟩
abbrev mX7_fault : wr_M := (yX7_fault, cX7_fault, 2, (some .int))
set_option maxRecDepth 20000 in
theorem oX7_fault : wr_MV mX7_fault 1 := ⟨⟨wr_in 591 rfl rfl, wr_in 1 rfl rfl, ⟨by decide, by decide⟩, by decide +kernel, by decide, by decide⟩, wr_in 589 rfl rfl, wr_in 590 rfl rfl⟩
abbrev mX7_tryNow : wr_M := (yX7_tryNow, cX7_tryNow, 1, (some .int))
set_option maxRecDepth 20000 in
theorem oX7_tryNow : wr_MV mX7_tryNow 0 := ⟨⟨wr_in 595 rfl rfl, wr_in 1 rfl rfl, ⟨by decide, by decide⟩, by decide +kernel, by decide, by decide⟩, wr_in 593 rfl rfl, wr_in 594 rfl rfl⟩
abbrev mX7_run : wr_M := (yX7_run, cX7_run, 4, (some .int))
set_option maxRecDepth 20000 in
theorem oX7_run : wr_MV mX7_run 1 := ⟨⟨wr_in 607 rfl rfl, wr_in 1 rfl rfl, ⟨by decide, by decide⟩, by decide +kernel, by decide, by decide⟩, wr_in 605 rfl rfl, wr_in 606 rfl rfl⟩
abbrev mX7_seat : wr_M := (yX7_seat, cX7_seat, 4, (some .int))
set_option maxRecDepth 20000 in
theorem oX7_seat : wr_MV mX7_seat 2 := ⟨⟨wr_in 677 rfl rfl, wr_in 1 rfl rfl, ⟨by decide, by decide⟩, by decide +kernel, by decide, by decide⟩, wr_in 675 rfl rfl, wr_in 676 rfl rfl⟩
abbrev mX7_would : wr_M := (yX7_would, cX7_would, 1, (some .int))
set_option maxRecDepth 20000 in
theorem oX7_would : wr_MV mX7_would 0 := ⟨⟨wr_in 697 rfl rfl, wr_in 1 rfl rfl, ⟨by decide, by decide⟩, by decide +kernel, by decide, by decide⟩, wr_in 695 rfl rfl, wr_in 696 rfl rfl⟩
abbrev mX7_way : wr_M := (yX7_way, cX7_way, 2, (some .int))
set_option maxRecDepth 20000 in
theorem oX7_way : wr_MV mX7_way 1 := ⟨⟨wr_in 702 rfl rfl, wr_in 1 rfl rfl, ⟨by decide, by decide⟩, by decide +kernel, by decide, by decide⟩, wr_in 700 rfl rfl, wr_in 701 rfl rfl⟩
abbrev mX7_wide : wr_M := (yX7_wide, cX7_wide, 1, (some .int))
set_option maxRecDepth 20000 in
theorem oX7_wide : wr_MV mX7_wide 0 := ⟨⟨wr_in 710 rfl rfl, wr_in 1 rfl rfl, ⟨by decide, by decide⟩, by decide +kernel, by decide, by decide⟩, wr_in 708 rfl rfl, wr_in 709 rfl rfl⟩
abbrev mX7_waves : wr_M := (yX7_waves, cX7_waves, 1, (some .int))
set_option maxRecDepth 20000 in
theorem oX7_waves : wr_MV mX7_waves 0 := ⟨⟨wr_in 718 rfl rfl, wr_in 1 rfl rfl, ⟨by decide, by decide⟩, by decide +kernel, by decide, by decide⟩, wr_in 716 rfl rfl, wr_in 717 rfl rfl⟩
abbrev mX7_till : wr_M := (yX7_till, cX7_till, 5, (some .int))
set_option maxRecDepth 20000 in
theorem oX7_till : wr_MV mX7_till 2 := ⟨⟨wr_in 728 rfl rfl, wr_in 1 rfl rfl, ⟨by decide, by decide⟩, by decide +kernel, by decide, by decide⟩, wr_in 726 rfl rfl, wr_in 727 rfl rfl⟩
abbrev mX7_dies : wr_M := (yX7_dies, cX7_dies, 2, (some .int))
set_option maxRecDepth 20000 in
theorem oX7_dies : wr_MV mX7_dies 0 := ⟨⟨wr_in 740 rfl rfl, wr_in 1 rfl rfl, ⟨by decide, by decide⟩, by decide +kernel, by decide, by decide⟩, wr_in 738 rfl rfl, wr_in 739 rfl rfl⟩
abbrev mX7_lives : wr_M := (yX7_lives, cX7_lives, 3, (some .int))
set_option maxRecDepth 20000 in
theorem oX7_lives : wr_MV mX7_lives 2 := ⟨⟨wr_in 749 rfl rfl, wr_in 1 rfl rfl, ⟨by decide, by decide⟩, by decide +kernel, by decide, by decide⟩, wr_in 747 rfl rfl, wr_in 748 rfl rfl⟩
abbrev mX7_fewest : wr_M := (yX7_fewest, cX7_fewest, 3, (some .int))
set_option maxRecDepth 20000 in
theorem oX7_fewest : wr_MV mX7_fewest 1 := ⟨⟨wr_in 762 rfl rfl, wr_in 1 rfl rfl, ⟨by decide, by decide⟩, by decide +kernel, by decide, by decide⟩, wr_in 760 rfl rfl, wr_in 761 rfl rfl⟩
abbrev mX7_best : wr_M := (yX7_best, cX7_best, 7, (some .int))
set_option maxRecDepth 20000 in
theorem oX7_best : wr_MV mX7_best 2 := ⟨⟨wr_in 766 rfl rfl, wr_in 1 rfl rfl, ⟨by decide, by decide⟩, by decide +kernel, by decide, by decide⟩, wr_in 764 rfl rfl, wr_in 765 rfl rfl⟩
abbrev mX7_jumps : wr_M := (yX7_jumps, cX7_jumps, 7, (some .int))
set_option maxRecDepth 20000 in
theorem oX7_jumps : wr_MV mX7_jumps 3 := ⟨⟨wr_in 770 rfl rfl, wr_in 1 rfl rfl, ⟨by decide, by decide⟩, by decide +kernel, by decide, by decide⟩, wr_in 768 rfl rfl, wr_in 769 rfl rfl⟩
abbrev mX7_meet : wr_M := (yX7_meet, cX7_meet, 5, (some .int))
set_option maxRecDepth 20000 in
theorem oX7_meet : wr_MV mX7_meet 3 := ⟨⟨wr_in 774 rfl rfl, wr_in 1 rfl rfl, ⟨by decide, by decide⟩, by decide +kernel, by decide, by decide⟩, wr_in 772 rfl rfl, wr_in 773 rfl rfl⟩
abbrev mX7_odds : wr_M := (yX7_odds, cX7_odds, 10, (some .long))
set_option maxRecDepth 20000 in
theorem oX7_odds : wr_MV mX7_odds 2 := ⟨⟨wr_in 778 rfl rfl, wr_in 1 rfl rfl, ⟨by decide, by decide⟩, by decide +kernel, by decide, by decide⟩, wr_in 776 rfl rfl, wr_in 777 rfl rfl⟩
abbrev mX7_film : wr_M := (yX7_film, cX7_film, 4, (some .int))
set_option maxRecDepth 20000 in
theorem oX7_film : wr_MV mX7_film 2 := ⟨⟨wr_in 793 rfl rfl, wr_in 1 rfl rfl, ⟨by decide, by decide⟩, by decide +kernel, by decide, by decide⟩, wr_in 791 rfl rfl, wr_in 792 rfl rfl⟩
abbrev mX7_untell : wr_M := (yX7_untell, cX7_untell, 2, (some .boolean))
set_option maxRecDepth 20000 in
theorem oX7_untell : wr_MV mX7_untell 1 := ⟨⟨wr_in 802 rfl rfl, wr_in 1 rfl rfl, ⟨by decide, by decide⟩, by decide +kernel, by decide, by decide⟩, wr_in 800 rfl rfl, wr_in 801 rfl rfl⟩
abbrev mX7_later : wr_M := (yX7_later, cX7_later, 2, (some .int))
set_option maxRecDepth 20000 in
theorem oX7_later : wr_MV mX7_later 1 := ⟨⟨wr_in 810 rfl rfl, wr_in 1 rfl rfl, ⟨by decide, by decide⟩, by decide +kernel, by decide, by decide⟩, wr_in 808 rfl rfl, wr_in 809 rfl rfl⟩
abbrev mX7_fits : wr_M := (yX7_fits, cX7_fits, 4, (some .int))
set_option maxRecDepth 20000 in
theorem oX7_fits : wr_MV mX7_fits 1 := ⟨⟨wr_in 815 rfl rfl, wr_in 1 rfl rfl, ⟨by decide, by decide⟩, by decide +kernel, by decide, by decide⟩, wr_in 813 rfl rfl, wr_in 814 rfl rfl⟩
abbrev mX7_fit : wr_M := (yX7_fit, cX7_fit, 5, (some .int))
set_option maxRecDepth 20000 in
theorem oX7_fit : wr_MV mX7_fit 2 := ⟨⟨wr_in 859 rfl rfl, wr_in 1 rfl rfl, ⟨by decide, by decide⟩, by decide +kernel, by decide, by decide⟩, wr_in 857 rfl rfl, wr_in 858 rfl rfl⟩
abbrev mX7_sure : wr_M := (yX7_sure, cX7_sure, 7, (some .int))
set_option maxRecDepth 20000 in
theorem oX7_sure : wr_MV mX7_sure 3 := ⟨⟨wr_in 863 rfl rfl, wr_in 1 rfl rfl, ⟨by decide, by decide⟩, by decide +kernel, by decide, by decide⟩, wr_in 861 rfl rfl, wr_in 862 rfl rfl⟩
abbrev mX7_same : wr_M := (yX7_same, cX7_same, 5, (some .int))
set_option maxRecDepth 20000 in
theorem oX7_same : wr_MV mX7_same 2 := ⟨⟨wr_in 871 rfl rfl, wr_in 1 rfl rfl, ⟨by decide, by decide⟩, by decide +kernel, by decide, by decide⟩, wr_in 869 rfl rfl, wr_in 870 rfl rfl⟩
abbrev mX7_image : wr_M := (yX7_image, cX7_image, 2, (some .int))
set_option maxRecDepth 20000 in
theorem oX7_image : wr_MV mX7_image 1 := ⟨⟨wr_in 882 rfl rfl, wr_in 1 rfl rfl, ⟨by decide, by decide⟩, by decide +kernel, by decide, by decide⟩, wr_in 880 rfl rfl, wr_in 881 rfl rfl⟩
abbrev mX7_back : wr_M := (yX7_back, cX7_back, 2, (some .int))
set_option maxRecDepth 20000 in
theorem oX7_back : wr_MV mX7_back 1 := ⟨⟨wr_in 890 rfl rfl, wr_in 1 rfl rfl, ⟨by decide, by decide⟩, by decide +kernel, by decide, by decide⟩, wr_in 888 rfl rfl, wr_in 889 rfl rfl⟩
abbrev mX7_seed : wr_M := (yX7_seed, cX7_seed, 3, (some .int))
set_option maxRecDepth 20000 in
theorem oX7_seed : wr_MV mX7_seed 1 := ⟨⟨wr_in 894 rfl rfl, wr_in 1 rfl rfl, ⟨by decide, by decide⟩, by decide +kernel, by decide, by decide⟩, wr_in 892 rfl rfl, wr_in 893 rfl rfl⟩
abbrev mX7_about : wr_M := (yX7_about, cX7_about, 2, (some .int))
set_option maxRecDepth 20000 in
theorem oX7_about : wr_MV mX7_about 1 := ⟨⟨wr_in 898 rfl rfl, wr_in 1 rfl rfl, ⟨by decide, by decide⟩, by decide +kernel, by decide, by decide⟩, wr_in 896 rfl rfl, wr_in 897 rfl rfl⟩
abbrev mX7_isBox : wr_M := (yX7_isBox, cX7_isBox, 2, (some .boolean))
set_option maxRecDepth 20000 in
theorem oX7_isBox : wr_MV mX7_isBox 1 := ⟨⟨wr_in 886 rfl rfl, wr_in 1 rfl rfl, ⟨by decide, by decide⟩, by decide +kernel, by decide, by decide⟩, wr_in 885 rfl rfl, wr_inS 36 rfl rfl⟩
abbrev mX7_canTry : wr_M := (yX7_canTry, cX7_canTry, 2, (some .boolean))
set_option maxRecDepth 20000 in
theorem oX7_canTry : wr_MV mX7_canTry 1 := ⟨⟨wr_in 753 rfl rfl, wr_in 1 rfl rfl, ⟨by decide, by decide⟩, by decide +kernel, by decide, by decide⟩, wr_in 752 rfl rfl, wr_inS 29 rfl rfl⟩
abbrev mX7_lifeOf : wr_M := (yX7_lifeOf, cX7_lifeOf, 5, (some .int))
set_option maxRecDepth 20000 in
theorem oX7_lifeOf : wr_MV mX7_lifeOf 2 := ⟨⟨wr_in 758 rfl rfl, wr_in 1 rfl rfl, ⟨by decide, by decide⟩, by decide +kernel, by decide, by decide⟩, wr_in 757 rfl rfl, wr_inS 30 rfl rfl⟩
abbrev mX7_chancesOfAtLeast : wr_M := (yX7_chancesOfAtLeast, cX7_chancesOfAtLeast, 7, (some .long))
set_option maxRecDepth 20000 in
theorem oX7_chancesOfAtLeast : wr_MV mX7_chancesOfAtLeast 2 := ⟨⟨wr_in 785 rfl rfl, wr_in 1 rfl rfl, ⟨by decide, by decide⟩, by decide +kernel, by decide, by decide⟩, wr_in 784 rfl rfl, wr_inS 31 rfl rfl⟩
abbrev mX7_greatestDivisor : wr_M := (yX7_greatestDivisor, cX7_greatestDivisor, 11, (some .long))
set_option maxRecDepth 20000 in
theorem oX7_greatestDivisor : wr_MS mX7_greatestDivisor 2 := ⟨⟨wr_in 789 rfl rfl, wr_in 1 rfl rfl, ⟨by decide, by decide⟩, by decide +kernel, by decide, by decide⟩, wr_in 788 rfl rfl⟩
abbrev mX7_letByFilms : wr_M := (yX7_letByFilms, cX7_letByFilms, 2, (some .boolean))
set_option maxRecDepth 20000 in
theorem oX7_letByFilms : wr_MV mX7_letByFilms 1 := ⟨⟨wr_in 827 rfl rfl, wr_in 1 rfl rfl, ⟨by decide, by decide⟩, by decide +kernel, by decide, by decide⟩, wr_in 826 rfl rfl, wr_inS 33 rfl rfl⟩
abbrev mX7_goAlike : wr_M := (yX7_goAlike, cX7_goAlike, 4, (some .boolean))
set_option maxRecDepth 20000 in
theorem oX7_goAlike : wr_MV mX7_goAlike 1 := ⟨⟨wr_in 875 rfl rfl, wr_in 1 rfl rfl, ⟨by decide, by decide⟩, by decide +kernel, by decide, by decide⟩, wr_in 874 rfl rfl, wr_inS 35 rfl rfl⟩
abbrev mX7_holds : wr_M := (yX7_holds, cX7_holds, 3, (some .boolean))
set_option maxRecDepth 20000 in
theorem oX7_holds : wr_MS mX7_holds 2 := ⟨⟨wr_in 603 rfl rfl, wr_in 1 rfl rfl, ⟨by decide, by decide⟩, by decide +kernel, by decide, by decide⟩, wr_in 602 rfl rfl⟩
abbrev mX7_oneIf : wr_M := (yX7_oneIf, cX7_oneIf, 1, (some .int))
set_option maxRecDepth 20000 in
theorem oX7_oneIf : wr_MS mX7_oneIf 1 := ⟨⟨wr_in 693 rfl rfl, wr_in 1 rfl rfl, ⟨by decide, by decide⟩, by decide +kernel, by decide, by decide⟩, wr_in 692 rfl rfl⟩
abbrev mX8_init : wr_M := (yX8_init, cX8_init, 1, none)
set_option maxRecDepth 20000 in
theorem oX8_init : wr_MI mX8_init 0 := ⟨⟨wr_in 903 rfl rfl, wr_in 9 rfl rfl, ⟨by decide, by decide⟩, by decide +kernel, by decide, by decide⟩, wr_in 902 rfl rfl, rfl⟩
abbrev mX8_feed : wr_M := (yX8_feed, cX8_feed, 6, (some .int))
set_option maxRecDepth 20000 in
theorem oX8_feed : wr_MV mX8_feed 5 := ⟨⟨wr_in 1163 rfl rfl, wr_in 9 rfl rfl, ⟨by decide, by decide⟩, by decide +kernel, by decide, by decide⟩, wr_in 1161 rfl rfl, wr_in 1162 rfl rfl⟩
abbrev mX8_four : wr_M := (yX8_four, cX8_four, 3, none)
set_option maxRecDepth 20000 in
theorem oX8_four : wr_MV mX8_four 1 := ⟨⟨wr_in 1167 rfl rfl, wr_in 9 rfl rfl, ⟨by decide, by decide⟩, by decide +kernel, by decide, by decide⟩, wr_in 1166 rfl rfl, wr_inS 39 rfl rfl⟩
abbrev mX8_end : wr_M := (yX8_end, cX8_end, 2, (some .int))
set_option maxRecDepth 20000 in
theorem oX8_end : wr_MV mX8_end 1 := ⟨⟨wr_in 1171 rfl rfl, wr_in 9 rfl rfl, ⟨by decide, by decide⟩, by decide +kernel, by decide, by decide⟩, wr_in 1169 rfl rfl, wr_in 1170 rfl rfl⟩
abbrev mX8_here : wr_M := (yX8_here, cX8_here, 2, (some .int))
set_option maxRecDepth 20000 in
theorem oX8_here : wr_MV mX8_here 1 := ⟨⟨wr_in 1183 rfl rfl, wr_in 9 rfl rfl, ⟨by decide, by decide⟩, by decide +kernel, by decide, by decide⟩, wr_in 1182 rfl rfl, wr_inS 41 rfl rfl⟩
abbrev mX8_isLetter : wr_M := (yX8_isLetter, cX8_isLetter, 1, (some .boolean))
set_option maxRecDepth 20000 in
theorem oX8_isLetter : wr_MS mX8_isLetter 1 := ⟨⟨wr_in 1186 rfl rfl, wr_in 9 rfl rfl, ⟨by decide, by decide⟩, by decide +kernel, by decide, by decide⟩, wr_in 1185 rfl rfl⟩
abbrev mX8_isDigit : wr_M := (yX8_isDigit, cX8_isDigit, 1, (some .boolean))
set_option maxRecDepth 20000 in
theorem oX8_isDigit : wr_MS mX8_isDigit 1 := ⟨⟨wr_in 1189 rfl rfl, wr_in 9 rfl rfl, ⟨by decide, by decide⟩, by decide +kernel, by decide, by decide⟩, wr_in 1188 rfl rfl⟩
abbrev mX8_isSign : wr_M := (yX8_isSign, cX8_isSign, 1, (some .boolean))
set_option maxRecDepth 20000 in
theorem oX8_isSign : wr_MS mX8_isSign 1 := ⟨⟨wr_in 1192 rfl rfl, wr_in 9 rfl rfl, ⟨by decide, by decide⟩, by decide +kernel, by decide, by decide⟩, wr_in 1191 rfl rfl⟩
abbrev mX8_token : wr_M := (yX8_token, cX8_token, 3, none)
set_option maxRecDepth 20000 in
theorem oX8_token : wr_MV mX8_token 0 := ⟨⟨wr_in 1179 rfl rfl, wr_in 9 rfl rfl, ⟨by decide, by decide⟩, by decide +kernel, by decide, by decide⟩, wr_in 1178 rfl rfl, wr_inS 40 rfl rfl⟩
abbrev mX8_wrong : wr_M := (yX8_wrong, cX8_wrong, 2, none)
set_option maxRecDepth 20000 in
theorem oX8_wrong : wr_MV mX8_wrong 1 := ⟨⟨wr_in 1213 rfl rfl, wr_in 9 rfl rfl, ⟨by decide, by decide⟩, by decide +kernel, by decide, by decide⟩, wr_in 1212 rfl rfl, wr_inS 46 rfl rfl⟩
abbrev mX8_isWord : wr_M := (yX8_isWord, cX8_isWord, 3, (some .boolean))
set_option maxRecDepth 20000 in
theorem oX8_isWord : wr_MV mX8_isWord 1 := ⟨⟨wr_in 1201 rfl rfl, wr_in 9 rfl rfl, ⟨by decide, by decide⟩, by decide +kernel, by decide, by decide⟩, wr_in 1200 rfl rfl, wr_inS 43 rfl rfl⟩
abbrev mX8_want : wr_M := (yX8_want, cX8_want, 3, none)
set_option maxRecDepth 20000 in
theorem oX8_want : wr_MV mX8_want 1 := ⟨⟨wr_in 1229 rfl rfl, wr_in 9 rfl rfl, ⟨by decide, by decide⟩, by decide +kernel, by decide, by decide⟩, wr_in 1228 rfl rfl, wr_inS 49 rfl rfl⟩
abbrev mX8_toldNumber : wr_M := (yX8_toldNumber, cX8_toldNumber, 4, (some .int))
set_option maxRecDepth 20000 in
theorem oX8_toldNumber : wr_MV mX8_toldNumber 2 := ⟨⟨wr_in 1209 rfl rfl, wr_in 9 rfl rfl, ⟨by decide, by decide⟩, by decide +kernel, by decide, by decide⟩, wr_in 1208 rfl rfl, wr_inS 45 rfl rfl⟩
abbrev mX8_told : wr_M := (yX8_told, cX8_told, 5, (some .int))
set_option maxRecDepth 20000 in
theorem oX8_told : wr_MV mX8_told 3 := ⟨⟨wr_in 1225 rfl rfl, wr_in 9 rfl rfl, ⟨by decide, by decide⟩, by decide +kernel, by decide, by decide⟩, wr_in 1224 rfl rfl, wr_inS 48 rfl rfl⟩
abbrev mX8_note : wr_M := (yX8_note, cX8_note, 3, none)
set_option maxRecDepth 20000 in
theorem oX8_note : wr_MV mX8_note 2 := ⟨⟨wr_in 1271 rfl rfl, wr_in 9 rfl rfl, ⟨by decide, by decide⟩, by decide +kernel, by decide, by decide⟩, wr_in 1270 rfl rfl, wr_inS 57 rfl rfl⟩
abbrev mX8_upper : wr_M := (yX8_upper, cX8_upper, 1, (some .int))
set_option maxRecDepth 20000 in
theorem oX8_upper : wr_MV mX8_upper 0 := ⟨⟨wr_in 1263 rfl rfl, wr_in 9 rfl rfl, ⟨by decide, by decide⟩, by decide +kernel, by decide, by decide⟩, wr_in 1262 rfl rfl, wr_inS 55 rfl rfl⟩
abbrev mX8_hold : wr_M := (yX8_hold, cX8_hold, 2, none)
set_option maxRecDepth 20000 in
theorem oX8_hold : wr_MV mX8_hold 1 := ⟨⟨wr_in 1278 rfl rfl, wr_in 9 rfl rfl, ⟨by decide, by decide⟩, by decide +kernel, by decide, by decide⟩, wr_in 1277 rfl rfl, wr_inS 58 rfl rfl⟩
abbrev mX8_pop : wr_M := (yX8_pop, cX8_pop, 1, none)
set_option maxRecDepth 20000 in
theorem oX8_pop : wr_MV mX8_pop 0 := ⟨⟨wr_in 1267 rfl rfl, wr_in 9 rfl rfl, ⟨by decide, by decide⟩, by decide +kernel, by decide, by decide⟩, wr_in 1266 rfl rfl, wr_inS 56 rfl rfl⟩
abbrev mX8_settle : wr_M := (yX8_settle, cX8_settle, 2, none)
set_option maxRecDepth 20000 in
theorem oX8_settle : wr_MV mX8_settle 1 := ⟨⟨wr_in 1259 rfl rfl, wr_in 9 rfl rfl, ⟨by decide, by decide⟩, by decide +kernel, by decide, by decide⟩, wr_in 1258 rfl rfl, wr_inS 54 rfl rfl⟩
abbrev mX8_isOpen : wr_M := (yX8_isOpen, cX8_isOpen, 3, (some .boolean))
set_option maxRecDepth 20000 in
theorem oX8_isOpen : wr_MV mX8_isOpen 0 := ⟨⟨wr_in 1249 rfl rfl, wr_in 9 rfl rfl, ⟨by decide, by decide⟩, by decide +kernel, by decide, by decide⟩, wr_in 1248 rfl rfl, wr_inS 52 rfl rfl⟩
abbrev mX8_rank : wr_M := (yX8_rank, cX8_rank, 1, (some .int))
set_option maxRecDepth 20000 in
theorem oX8_rank : wr_MS mX8_rank 1 := ⟨⟨wr_in 1274 rfl rfl, wr_in 9 rfl rfl, ⟨by decide, by decide⟩, by decide +kernel, by decide, by decide⟩, wr_in 1273 rfl rfl⟩
abbrev mX8_known : wr_M := (yX8_known, cX8_known, 1, (some .int))
set_option maxRecDepth 20000 in
theorem oX8_known : wr_MV mX8_known 0 := ⟨⟨wr_in 1287 rfl rfl, wr_in 9 rfl rfl, ⟨by decide, by decide⟩, by decide +kernel, by decide, by decide⟩, wr_in 1286 rfl rfl, wr_inS 60 rfl rfl⟩
abbrev mX8_operand : wr_M := (yX8_operand, cX8_operand, 5, (some .int))
set_option maxRecDepth 20000 in
theorem oX8_operand : wr_MV mX8_operand 1 := ⟨⟨wr_in 1282 rfl rfl, wr_in 9 rfl rfl, ⟨by decide, by decide⟩, by decide +kernel, by decide, by decide⟩, wr_in 1281 rfl rfl, wr_inS 59 rfl rfl⟩
abbrev mX8_sign : wr_M := (yX8_sign, cX8_sign, 2, (some .int))
set_option maxRecDepth 20000 in
theorem oX8_sign : wr_MV mX8_sign 0 := ⟨⟨wr_in 1253 rfl rfl, wr_in 9 rfl rfl, ⟨by decide, by decide⟩, by decide +kernel, by decide, by decide⟩, wr_in 1252 rfl rfl, wr_inS 53 rfl rfl⟩
abbrev mX8_readLaw : wr_M := (yX8_readLaw, cX8_readLaw, 2, none)
set_option maxRecDepth 20000 in
theorem oX8_readLaw : wr_MV mX8_readLaw 0 := ⟨⟨wr_in 1240 rfl rfl, wr_in 9 rfl rfl, ⟨by decide, by decide⟩, by decide +kernel, by decide, by decide⟩, wr_in 1239 rfl rfl, wr_inS 51 rfl rfl⟩
abbrev mX8_readSeats : wr_M := (yX8_readSeats, cX8_readSeats, 1, none)
set_option maxRecDepth 20000 in
theorem oX8_readSeats : wr_MV mX8_readSeats 0 := ⟨⟨wr_in 1205 rfl rfl, wr_in 9 rfl rfl, ⟨by decide, by decide⟩, by decide +kernel, by decide, by decide⟩, wr_in 1204 rfl rfl, wr_inS 44 rfl rfl⟩
abbrev mX8_readSlack : wr_M := (yX8_readSlack, cX8_readSlack, 1, none)
set_option maxRecDepth 20000 in
theorem oX8_readSlack : wr_MV mX8_readSlack 0 := ⟨⟨wr_in 1234 rfl rfl, wr_in 9 rfl rfl, ⟨by decide, by decide⟩, by decide +kernel, by decide, by decide⟩, wr_in 1233 rfl rfl, wr_inS 50 rfl rfl⟩
abbrev mX8_readRow : wr_M := (yX8_readRow, cX8_readRow, 5, none)
set_option maxRecDepth 20000 in
theorem oX8_readRow : wr_MV mX8_readRow 0 := ⟨⟨wr_in 1220 rfl rfl, wr_in 9 rfl rfl, ⟨by decide, by decide⟩, by decide +kernel, by decide, by decide⟩, wr_in 1219 rfl rfl, wr_inS 47 rfl rfl⟩
abbrev mX8_readLine : wr_M := (yX8_readLine, cX8_readLine, 1, none)
set_option maxRecDepth 20000 in
theorem oX8_readLine : wr_MV mX8_readLine 0 := ⟨⟨wr_in 1196 rfl rfl, wr_in 9 rfl rfl, ⟨by decide, by decide⟩, by decide +kernel, by decide, by decide⟩, wr_in 1195 rfl rfl, wr_inS 42 rfl rfl⟩
abbrev mX8_plainLaw : wr_M := (yX8_plainLaw, cX8_plainLaw, 1, none)
set_option maxRecDepth 20000 in
theorem oX8_plainLaw : wr_MV mX8_plainLaw 0 := ⟨⟨wr_in 908 rfl rfl, wr_in 9 rfl rfl, ⟨by decide, by decide⟩, by decide +kernel, by decide, by decide⟩, wr_in 907 rfl rfl, wr_inS 37 rfl rfl⟩
abbrev mX8_ring : wr_M := (yX8_ring, cX8_ring, 2, (some .int))
set_option maxRecDepth 20000 in
theorem oX8_ring : wr_MV mX8_ring 0 := ⟨⟨wr_in 1175 rfl rfl, wr_in 9 rfl rfl, ⟨by decide, by decide⟩, by decide +kernel, by decide, by decide⟩, wr_in 1173 rfl rfl, wr_in 1174 rfl rfl⟩
abbrev mX8_fault : wr_M := (yX8_fault, cX8_fault, 2, (some .int))
set_option maxRecDepth 20000 in
theorem oX8_fault : wr_MV mX8_fault 1 := ⟨⟨wr_in 1297 rfl rfl, wr_in 9 rfl rfl, ⟨by decide, by decide⟩, by decide +kernel, by decide, by decide⟩, wr_in 1295 rfl rfl, wr_in 1296 rfl rfl⟩
abbrev mX8_freshen : wr_M := (yX8_freshen, cX8_freshen, 2, none)
set_option maxRecDepth 20000 in
theorem oX8_freshen : wr_MV mX8_freshen 0 := ⟨⟨wr_in 912 rfl rfl, wr_in 9 rfl rfl, ⟨by decide, by decide⟩, by decide +kernel, by decide, by decide⟩, wr_in 911 rfl rfl, wr_inS 38 rfl rfl⟩
abbrev mX8_put : wr_M := (yX8_put, cX8_put, 2, none)
set_option maxRecDepth 20000 in
theorem oX8_put : wr_MV mX8_put 0 := ⟨⟨wr_in 1392 rfl rfl, wr_in 9 rfl rfl, ⟨by decide, by decide⟩, by decide +kernel, by decide, by decide⟩, wr_in 1391 rfl rfl, wr_inS 73 rfl rfl⟩
abbrev mX8_bring : wr_M := (yX8_bring, cX8_bring, 2, none)
set_option maxRecDepth 20000 in
theorem oX8_bring : wr_MV mX8_bring 0 := ⟨⟨wr_in 1396 rfl rfl, wr_in 9 rfl rfl, ⟨by decide, by decide⟩, by decide +kernel, by decide, by decide⟩, wr_in 1395 rfl rfl, wr_inS 74 rfl rfl⟩
abbrev mX8_isUp : wr_M := (yX8_isUp, cX8_isUp, 1, (some .boolean))
set_option maxRecDepth 20000 in
theorem oX8_isUp : wr_MS mX8_isUp 1 := ⟨⟨wr_in 1321 rfl rfl, wr_in 9 rfl rfl, ⟨by decide, by decide⟩, by decide +kernel, by decide, by decide⟩, wr_in 1320 rfl rfl⟩
abbrev mX8_ups : wr_M := (yX8_ups, cX8_ups, 3, (some .int))
set_option maxRecDepth 20000 in
theorem oX8_ups : wr_MV mX8_ups 0 := ⟨⟨wr_in 1318 rfl rfl, wr_in 9 rfl rfl, ⟨by decide, by decide⟩, by decide +kernel, by decide, by decide⟩, wr_in 1317 rfl rfl, wr_inS 63 rfl rfl⟩
abbrev mX8_wrap : wr_M := (yX8_wrap, cX8_wrap, 3, (some .int))
set_option maxRecDepth 20000 in
theorem oX8_wrap : wr_MV mX8_wrap 1 := ⟨⟨wr_in 1337 rfl rfl, wr_in 9 rfl rfl, ⟨by decide, by decide⟩, by decide +kernel, by decide, by decide⟩, wr_in 1336 rfl rfl, wr_inS 67 rfl rfl⟩
abbrev mX8_seen : wr_M := (yX8_seen, cX8_seen, 8, (some .int))
set_option maxRecDepth 20000 in
theorem oX8_seen : wr_MV mX8_seen 4 := ⟨⟨wr_in 1333 rfl rfl, wr_in 9 rfl rfl, ⟨by decide, by decide⟩, by decide +kernel, by decide, by decide⟩, wr_in 1332 rfl rfl, wr_inS 66 rfl rfl⟩
abbrev mX8_slackNow : wr_M := (yX8_slackNow, cX8_slackNow, 2, (some .int))
set_option maxRecDepth 20000 in
theorem oX8_slackNow : wr_MV mX8_slackNow 0 := ⟨⟨wr_in 1341 rfl rfl, wr_in 9 rfl rfl, ⟨by decide, by decide⟩, by decide +kernel, by decide, by decide⟩, wr_in 1340 rfl rfl, wr_inS 68 rfl rfl⟩
abbrev mX8_worked : wr_M := (yX8_worked, cX8_worked, 3, (some .int))
set_option maxRecDepth 20000 in
theorem oX8_worked : wr_MS mX8_worked 3 := ⟨⟨wr_in 1344 rfl rfl, wr_in 9 rfl rfl, ⟨by decide, by decide⟩, by decide +kernel, by decide, by decide⟩, wr_in 1343 rfl rfl⟩
abbrev mX8_askedOf : wr_M := (yX8_askedOf, cX8_askedOf, 4, (some .int))
set_option maxRecDepth 20000 in
theorem oX8_askedOf : wr_MV mX8_askedOf 3 := ⟨⟨wr_in 1329 rfl rfl, wr_in 9 rfl rfl, ⟨by decide, by decide⟩, by decide +kernel, by decide, by decide⟩, wr_in 1328 rfl rfl, wr_inS 65 rfl rfl⟩
abbrev mX8_wants : wr_M := (yX8_wants, cX8_wants, 5, (some .boolean))
set_option maxRecDepth 20000 in
theorem oX8_wants : wr_MV mX8_wants 2 := ⟨⟨wr_in 1325 rfl rfl, wr_in 9 rfl rfl, ⟨by decide, by decide⟩, by decide +kernel, by decide, by decide⟩, wr_in 1324 rfl rfl, wr_inS 64 rfl rfl⟩
abbrev mX8_draw : wr_M := (yX8_draw, cX8_draw, 2, (some .int))
set_option maxRecDepth 20000 in
theorem oX8_draw : wr_MV mX8_draw 1 := ⟨⟨wr_in 1348 rfl rfl, wr_in 9 rfl rfl, ⟨by decide, by decide⟩, by decide +kernel, by decide, by decide⟩, wr_in 1347 rfl rfl, wr_inS 69 rfl rfl⟩
abbrev mX8_behind : wr_M := (yX8_behind, cX8_behind, 3, (some .int))
set_option maxRecDepth 20000 in
theorem oX8_behind : wr_MS mX8_behind 3 := ⟨⟨wr_in 1352 rfl rfl, wr_in 9 rfl rfl, ⟨by decide, by decide⟩, by decide +kernel, by decide, by decide⟩, wr_in 1351 rfl rfl⟩
abbrev mX8_step : wr_M := (yX8_step, cX8_step, 8, (some .int))
set_option maxRecDepth 20000 in
theorem oX8_step : wr_MV mX8_step 1 := ⟨⟨wr_in 1314 rfl rfl, wr_in 9 rfl rfl, ⟨by decide, by decide⟩, by decide +kernel, by decide, by decide⟩, wr_in 1313 rfl rfl, wr_inS 62 rfl rfl⟩
abbrev mX8_tries : wr_M := (yX8_tries, cX8_tries, 2, (some .boolean))
set_option maxRecDepth 20000 in
theorem oX8_tries : wr_MV mX8_tries 1 := ⟨⟨wr_in 1305 rfl rfl, wr_in 9 rfl rfl, ⟨by decide, by decide⟩, by decide +kernel, by decide, by decide⟩, wr_in 1304 rfl rfl, wr_inS 61 rfl rfl⟩
abbrev mX8_tryNow : wr_M := (yX8_tryNow, cX8_tryNow, 3, (some .int))
set_option maxRecDepth 20000 in
theorem oX8_tryNow : wr_MV mX8_tryNow 0 := ⟨⟨wr_in 1301 rfl rfl, wr_in 9 rfl rfl, ⟨by decide, by decide⟩, by decide +kernel, by decide, by decide⟩, wr_in 1299 rfl rfl, wr_in 1300 rfl rfl⟩
abbrev mX8_run : wr_M := (yX8_run, cX8_run, 4, (some .int))
set_option maxRecDepth 20000 in
theorem oX8_run : wr_MV mX8_run 1 := ⟨⟨wr_in 1309 rfl rfl, wr_in 9 rfl rfl, ⟨by decide, by decide⟩, by decide +kernel, by decide, by decide⟩, wr_in 1307 rfl rfl, wr_in 1308 rfl rfl⟩
abbrev mX8_isSeat : wr_M := (yX8_isSeat, cX8_isSeat, 2, (some .boolean))
set_option maxRecDepth 20000 in
theorem oX8_isSeat : wr_MV mX8_isSeat 1 := ⟨⟨wr_in 1360 rfl rfl, wr_in 9 rfl rfl, ⟨by decide, by decide⟩, by decide +kernel, by decide, by decide⟩, wr_in 1359 rfl rfl, wr_inS 70 rfl rfl⟩
abbrev mX8_seat : wr_M := (yX8_seat, cX8_seat, 3, (some .int))
set_option maxRecDepth 20000 in
theorem oX8_seat : wr_MV mX8_seat 2 := ⟨⟨wr_in 1356 rfl rfl, wr_in 9 rfl rfl, ⟨by decide, by decide⟩, by decide +kernel, by decide, by decide⟩, wr_in 1354 rfl rfl, wr_in 1355 rfl rfl⟩
abbrev mX8_wouldRise : wr_M := (yX8_wouldRise, cX8_wouldRise, 4, (some .int))
set_option maxRecDepth 20000 in
theorem oX8_wouldRise : wr_MV mX8_wouldRise 0 := ⟨⟨wr_in 1368 rfl rfl, wr_in 9 rfl rfl, ⟨by decide, by decide⟩, by decide +kernel, by decide, by decide⟩, wr_in 1367 rfl rfl, wr_inS 71 rfl rfl⟩
abbrev mX8_would : wr_M := (yX8_would, cX8_would, 1, (some .int))
set_option maxRecDepth 20000 in
theorem oX8_would : wr_MV mX8_would 0 := ⟨⟨wr_in 1364 rfl rfl, wr_in 9 rfl rfl, ⟨by decide, by decide⟩, by decide +kernel, by decide, by decide⟩, wr_in 1362 rfl rfl, wr_in 1363 rfl rfl⟩
abbrev mX8_way : wr_M := (yX8_way, cX8_way, 2, (some .int))
set_option maxRecDepth 20000 in
theorem oX8_way : wr_MV mX8_way 1 := ⟨⟨wr_in 1372 rfl rfl, wr_in 9 rfl rfl, ⟨by decide, by decide⟩, by decide +kernel, by decide, by decide⟩, wr_in 1370 rfl rfl, wr_in 1371 rfl rfl⟩
abbrev mX8_wide : wr_M := (yX8_wide, cX8_wide, 4, (some .int))
set_option maxRecDepth 20000 in
theorem oX8_wide : wr_MV mX8_wide 0 := ⟨⟨wr_in 1376 rfl rfl, wr_in 9 rfl rfl, ⟨by decide, by decide⟩, by decide +kernel, by decide, by decide⟩, wr_in 1374 rfl rfl, wr_in 1375 rfl rfl⟩
abbrev mX8_waveMany : wr_M := (yX8_waveMany, cX8_waveMany, 3, (some .int))
set_option maxRecDepth 20000 in
theorem oX8_waveMany : wr_MV mX8_waveMany 0 := ⟨⟨wr_in 1384 rfl rfl, wr_in 9 rfl rfl, ⟨by decide, by decide⟩, by decide +kernel, by decide, by decide⟩, wr_in 1383 rfl rfl, wr_inS 72 rfl rfl⟩
abbrev mX8_waves : wr_M := (yX8_waves, cX8_waves, 1, (some .int))
set_option maxRecDepth 20000 in
theorem oX8_waves : wr_MV mX8_waves 0 := ⟨⟨wr_in 1380 rfl rfl, wr_in 9 rfl rfl, ⟨by decide, by decide⟩, by decide +kernel, by decide, by decide⟩, wr_in 1378 rfl rfl, wr_in 1379 rfl rfl⟩
abbrev mX8_till : wr_M := (yX8_till, cX8_till, 7, (some .int))
set_option maxRecDepth 20000 in
theorem oX8_till : wr_MV mX8_till 2 := ⟨⟨wr_in 1388 rfl rfl, wr_in 9 rfl rfl, ⟨by decide, by decide⟩, by decide +kernel, by decide, by decide⟩, wr_in 1386 rfl rfl, wr_in 1387 rfl rfl⟩
abbrev mX8_dies : wr_M := (yX8_dies, cX8_dies, 4, (some .int))
set_option maxRecDepth 20000 in
theorem oX8_dies : wr_MV mX8_dies 0 := ⟨⟨wr_in 1400 rfl rfl, wr_in 9 rfl rfl, ⟨by decide, by decide⟩, by decide +kernel, by decide, by decide⟩, wr_in 1398 rfl rfl, wr_in 1399 rfl rfl⟩
abbrev mX8_start : wr_M := (yX8_start, cX8_start, 5, none)
set_option maxRecDepth 20000 in
theorem oX8_start : wr_MV mX8_start 2 := ⟨⟨wr_in 1416 rfl rfl, wr_in 9 rfl rfl, ⟨by decide, by decide⟩, by decide +kernel, by decide, by decide⟩, wr_in 1415 rfl rfl, wr_inS 77 rfl rfl⟩
abbrev mX8_life : wr_M := (yX8_life, cX8_life, 3, (some .int))
set_option maxRecDepth 20000 in
theorem oX8_life : wr_MV mX8_life 0 := ⟨⟨wr_in 1420 rfl rfl, wr_in 9 rfl rfl, ⟨by decide, by decide⟩, by decide +kernel, by decide, by decide⟩, wr_in 1419 rfl rfl, wr_inS 78 rfl rfl⟩
abbrev mX8_livesBy : wr_M := (yX8_livesBy, cX8_livesBy, 6, (some .int))
set_option maxRecDepth 20000 in
theorem oX8_livesBy : wr_MV mX8_livesBy 4 := ⟨⟨wr_in 1412 rfl rfl, wr_in 9 rfl rfl, ⟨by decide, by decide⟩, by decide +kernel, by decide, by decide⟩, wr_in 1411 rfl rfl, wr_inS 76 rfl rfl⟩
abbrev mX8_isMany : wr_M := (yX8_isMany, cX8_isMany, 2, (some .boolean))
set_option maxRecDepth 20000 in
theorem oX8_isMany : wr_MV mX8_isMany 1 := ⟨⟨wr_in 1408 rfl rfl, wr_in 9 rfl rfl, ⟨by decide, by decide⟩, by decide +kernel, by decide, by decide⟩, wr_in 1407 rfl rfl, wr_inS 75 rfl rfl⟩
abbrev mX8_lives : wr_M := (yX8_lives, cX8_lives, 3, (some .int))
set_option maxRecDepth 20000 in
theorem oX8_lives : wr_MV mX8_lives 2 := ⟨⟨wr_in 1404 rfl rfl, wr_in 9 rfl rfl, ⟨by decide, by decide⟩, by decide +kernel, by decide, by decide⟩, wr_in 1402 rfl rfl, wr_in 1403 rfl rfl⟩
abbrev mX8_fewest : wr_M := (yX8_fewest, cX8_fewest, 3, (some .int))
set_option maxRecDepth 20000 in
theorem oX8_fewest : wr_MV mX8_fewest 1 := ⟨⟨wr_in 1424 rfl rfl, wr_in 9 rfl rfl, ⟨by decide, by decide⟩, by decide +kernel, by decide, by decide⟩, wr_in 1422 rfl rfl, wr_in 1423 rfl rfl⟩
abbrev mX8_best : wr_M := (yX8_best, cX8_best, 7, (some .int))
set_option maxRecDepth 20000 in
theorem oX8_best : wr_MV mX8_best 2 := ⟨⟨wr_in 1428 rfl rfl, wr_in 9 rfl rfl, ⟨by decide, by decide⟩, by decide +kernel, by decide, by decide⟩, wr_in 1426 rfl rfl, wr_in 1427 rfl rfl⟩
abbrev mX8_jumps : wr_M := (yX8_jumps, cX8_jumps, 5, (some .int))
set_option maxRecDepth 20000 in
theorem oX8_jumps : wr_MV mX8_jumps 3 := ⟨⟨wr_in 1432 rfl rfl, wr_in 9 rfl rfl, ⟨by decide, by decide⟩, by decide +kernel, by decide, by decide⟩, wr_in 1430 rfl rfl, wr_in 1431 rfl rfl⟩
abbrev mX8_meet : wr_M := (yX8_meet, cX8_meet, 6, (some .int))
set_option maxRecDepth 20000 in
theorem oX8_meet : wr_MV mX8_meet 3 := ⟨⟨wr_in 1436 rfl rfl, wr_in 9 rfl rfl, ⟨by decide, by decide⟩, by decide +kernel, by decide, by decide⟩, wr_in 1434 rfl rfl, wr_in 1435 rfl rfl⟩
abbrev mX8_common : wr_M := (yX8_common, cX8_common, 10, (some .long))
set_option maxRecDepth 20000 in
theorem oX8_common : wr_MS mX8_common 2 := ⟨⟨wr_in 1446 rfl rfl, wr_in 9 rfl rfl, ⟨by decide, by decide⟩, by decide +kernel, by decide, by decide⟩, wr_in 1445 rfl rfl⟩
abbrev mX8_odds : wr_M := (yX8_odds, cX8_odds, 14, (some .long))
set_option maxRecDepth 20000 in
theorem oX8_odds : wr_MV mX8_odds 2 := ⟨⟨wr_in 1440 rfl rfl, wr_in 9 rfl rfl, ⟨by decide, by decide⟩, by decide +kernel, by decide, by decide⟩, wr_in 1438 rfl rfl, wr_in 1439 rfl rfl⟩
abbrev mX8_film : wr_M := (yX8_film, cX8_film, 4, (some .int))
set_option maxRecDepth 20000 in
theorem oX8_film : wr_MV mX8_film 2 := ⟨⟨wr_in 1450 rfl rfl, wr_in 9 rfl rfl, ⟨by decide, by decide⟩, by decide +kernel, by decide, by decide⟩, wr_in 1448 rfl rfl, wr_in 1449 rfl rfl⟩
abbrev mX8_untell : wr_M := (yX8_untell, cX8_untell, 2, (some .boolean))
set_option maxRecDepth 20000 in
theorem oX8_untell : wr_MV mX8_untell 1 := ⟨⟨wr_in 1454 rfl rfl, wr_in 9 rfl rfl, ⟨by decide, by decide⟩, by decide +kernel, by decide, by decide⟩, wr_in 1452 rfl rfl, wr_in 1453 rfl rfl⟩
abbrev mX8_later : wr_M := (yX8_later, cX8_later, 2, (some .int))
set_option maxRecDepth 20000 in
theorem oX8_later : wr_MV mX8_later 1 := ⟨⟨wr_in 1458 rfl rfl, wr_in 9 rfl rfl, ⟨by decide, by decide⟩, by decide +kernel, by decide, by decide⟩, wr_in 1456 rfl rfl, wr_in 1457 rfl rfl⟩
abbrev mX8_layOut : wr_M := (yX8_layOut, cX8_layOut, 5, (some .boolean))
set_option maxRecDepth 20000 in
theorem oX8_layOut : wr_MV mX8_layOut 1 := ⟨⟨wr_in 1471 rfl rfl, wr_in 9 rfl rfl, ⟨by decide, by decide⟩, by decide +kernel, by decide, by decide⟩, wr_in 1470 rfl rfl, wr_inS 80 rfl rfl⟩
abbrev mX8_startPlain : wr_M := (yX8_startPlain, cX8_startPlain, 5, none)
set_option maxRecDepth 20000 in
theorem oX8_startPlain : wr_MV mX8_startPlain 2 := ⟨⟨wr_in 1479 rfl rfl, wr_in 9 rfl rfl, ⟨by decide, by decide⟩, by decide +kernel, by decide, by decide⟩, wr_in 1478 rfl rfl, wr_inS 82 rfl rfl⟩
abbrev mX8_stepPlain : wr_M := (yX8_stepPlain, cX8_stepPlain, 10, none)
set_option maxRecDepth 20000 in
theorem oX8_stepPlain : wr_MV mX8_stepPlain 2 := ⟨⟨wr_in 1483 rfl rfl, wr_in 9 rfl rfl, ⟨by decide, by decide⟩, by decide +kernel, by decide, by decide⟩, wr_in 1482 rfl rfl, wr_inS 83 rfl rfl⟩
abbrev mX8_upsOf : wr_M := (yX8_upsOf, cX8_upsOf, 5, (some .long))
set_option maxRecDepth 20000 in
theorem oX8_upsOf : wr_MV mX8_upsOf 1 := ⟨⟨wr_in 1487 rfl rfl, wr_in 9 rfl rfl, ⟨by decide, by decide⟩, by decide +kernel, by decide, by decide⟩, wr_in 1486 rfl rfl, wr_inS 84 rfl rfl⟩
abbrev mX8_fitsAll : wr_M := (yX8_fitsAll, cX8_fitsAll, 3, (some .boolean))
set_option maxRecDepth 20000 in
theorem oX8_fitsAll : wr_MV mX8_fitsAll 1 := ⟨⟨wr_in 1475 rfl rfl, wr_in 9 rfl rfl, ⟨by decide, by decide⟩, by decide +kernel, by decide, by decide⟩, wr_in 1474 rfl rfl, wr_inS 81 rfl rfl⟩
abbrev mX8_seekFits : wr_M := (yX8_seekFits, cX8_seekFits, 5, (some .int))
set_option maxRecDepth 20000 in
theorem oX8_seekFits : wr_MV mX8_seekFits 1 := ⟨⟨wr_in 1467 rfl rfl, wr_in 9 rfl rfl, ⟨by decide, by decide⟩, by decide +kernel, by decide, by decide⟩, wr_in 1466 rfl rfl, wr_inS 79 rfl rfl⟩
abbrev mX8_fits : wr_M := (yX8_fits, cX8_fits, 2, (some .int))
set_option maxRecDepth 20000 in
theorem oX8_fits : wr_MV mX8_fits 1 := ⟨⟨wr_in 1463 rfl rfl, wr_in 9 rfl rfl, ⟨by decide, by decide⟩, by decide +kernel, by decide, by decide⟩, wr_in 1461 rfl rfl, wr_in 1462 rfl rfl⟩
abbrev mX8_fit : wr_M := (yX8_fit, cX8_fit, 5, (some .int))
set_option maxRecDepth 20000 in
theorem oX8_fit : wr_MV mX8_fit 2 := ⟨⟨wr_in 1491 rfl rfl, wr_in 9 rfl rfl, ⟨by decide, by decide⟩, by decide +kernel, by decide, by decide⟩, wr_in 1489 rfl rfl, wr_in 1490 rfl rfl⟩
abbrev mX8_sure : wr_M := (yX8_sure, cX8_sure, 8, (some .int))
set_option maxRecDepth 20000 in
theorem oX8_sure : wr_MV mX8_sure 3 := ⟨⟨wr_in 1495 rfl rfl, wr_in 9 rfl rfl, ⟨by decide, by decide⟩, by decide +kernel, by decide, by decide⟩, wr_in 1493 rfl rfl, wr_in 1494 rfl rfl⟩
abbrev mX8_isLaw : wr_M := (yX8_isLaw, cX8_isLaw, 1, (some .boolean))
set_option maxRecDepth 20000 in
theorem oX8_isLaw : wr_MS mX8_isLaw 1 := ⟨⟨wr_in 1502 rfl rfl, wr_in 9 rfl rfl, ⟨by decide, by decide⟩, by decide +kernel, by decide, by decide⟩, wr_in 1501 rfl rfl⟩
abbrev mX8_same : wr_M := (yX8_same, cX8_same, 8, (some .int))
set_option maxRecDepth 20000 in
theorem oX8_same : wr_MV mX8_same 2 := ⟨⟨wr_in 1499 rfl rfl, wr_in 9 rfl rfl, ⟨by decide, by decide⟩, by decide +kernel, by decide, by decide⟩, wr_in 1497 rfl rfl, wr_in 1498 rfl rfl⟩
abbrev mX8_isBox : wr_M := (yX8_isBox, cX8_isBox, 1, (some .boolean))
set_option maxRecDepth 20000 in
theorem oX8_isBox : wr_MS mX8_isBox 1 := ⟨⟨wr_in 1509 rfl rfl, wr_in 9 rfl rfl, ⟨by decide, by decide⟩, by decide +kernel, by decide, by decide⟩, wr_in 1508 rfl rfl⟩
abbrev mX8_image : wr_M := (yX8_image, cX8_image, 3, (some .int))
set_option maxRecDepth 20000 in
theorem oX8_image : wr_MV mX8_image 1 := ⟨⟨wr_in 1506 rfl rfl, wr_in 9 rfl rfl, ⟨by decide, by decide⟩, by decide +kernel, by decide, by decide⟩, wr_in 1504 rfl rfl, wr_in 1505 rfl rfl⟩
abbrev mX8_back : wr_M := (yX8_back, cX8_back, 3, (some .int))
set_option maxRecDepth 20000 in
theorem oX8_back : wr_MV mX8_back 1 := ⟨⟨wr_in 1513 rfl rfl, wr_in 9 rfl rfl, ⟨by decide, by decide⟩, by decide +kernel, by decide, by decide⟩, wr_in 1511 rfl rfl, wr_in 1512 rfl rfl⟩
abbrev mX8_seed : wr_M := (yX8_seed, cX8_seed, 3, (some .int))
set_option maxRecDepth 20000 in
theorem oX8_seed : wr_MV mX8_seed 1 := ⟨⟨wr_in 1517 rfl rfl, wr_in 9 rfl rfl, ⟨by decide, by decide⟩, by decide +kernel, by decide, by decide⟩, wr_in 1515 rfl rfl, wr_in 1516 rfl rfl⟩
abbrev mX8_about : wr_M := (yX8_about, cX8_about, 2, (some .int))
set_option maxRecDepth 20000 in
theorem oX8_about : wr_MV mX8_about 1 := ⟨⟨wr_in 1521 rfl rfl, wr_in 9 rfl rfl, ⟨by decide, by decide⟩, by decide +kernel, by decide, by decide⟩, wr_in 1519 rfl rfl, wr_in 1520 rfl rfl⟩
abbrev mJ13_bitCount_95d88 : wr_M := (yJ13_bitCount_95d88, cJ13_bitCount_95d88, 2, (some .int))
set_option maxRecDepth 20000 in
theorem oJ13_bitCount_95d88 : wr_MS mJ13_bitCount_95d88 1 := ⟨⟨wr_in 623 rfl rfl, wr_in 15 rfl rfl, ⟨by decide, by decide⟩, by decide +kernel, by decide, by decide⟩, wr_in 622 rfl rfl⟩
abbrev mJ9_min_7cf53 : wr_M := (yJ9_min_7cf53, cJ9_min_7cf53, 2, (some .int))
abbrev mJ0_length_8abf5 : wr_M := (yJ0_length_8abf5, cJ0_length_8abf5, 1, (some .int))
set_option maxRecDepth 20000 in
theorem oJ0_length_8abf5 : wr_MV mJ0_length_8abf5 0 := ⟨⟨wr_in 420 rfl rfl, wr_in 10 rfl rfl, ⟨by decide, by decide⟩, by decide +kernel, by decide, by decide⟩, wr_in 418 rfl rfl, wr_in 419 rfl rfl⟩
abbrev mJ0_charAt_5068e : wr_M := (yJ0_charAt_5068e, cJ0_charAt_5068e, 2, (some .char))
set_option maxRecDepth 20000 in
theorem oJ0_charAt_5068e : wr_MV mJ0_charAt_5068e 1 := ⟨⟨wr_in 430 rfl rfl, wr_in 10 rfl rfl, ⟨by decide, by decide⟩, by decide +kernel, by decide, by decide⟩, wr_in 428 rfl rfl, wr_in 429 rfl rfl⟩
abbrev mJ0_coder_7d493 : wr_M := (yJ0_coder_7d493, cJ0_coder_7d493, 1, (some .byte))
set_option maxRecDepth 20000 in
theorem oJ0_coder_7d493 : wr_MV mJ0_coder_7d493 0 := ⟨⟨wr_in 424 rfl rfl, wr_in 10 rfl rfl, ⟨by decide, by decide⟩, by decide +kernel, by decide, by decide⟩, wr_in 422 rfl rfl, wr_in 423 rfl rfl⟩
abbrev mJ0_isLatin1_aae02 : wr_M := (yJ0_isLatin1_aae02, cJ0_isLatin1_aae02, 1, (some .boolean))
set_option maxRecDepth 20000 in
theorem oJ0_isLatin1_aae02 : wr_MV mJ0_isLatin1_aae02 0 := ⟨⟨wr_in 434 rfl rfl, wr_in 10 rfl rfl, ⟨by decide, by decide⟩, by decide +kernel, by decide, by decide⟩, wr_in 432 rfl rfl, wr_in 433 rfl rfl⟩
abbrev mJ0_checkIndex_df160 : wr_M := (yJ0_checkIndex_df160, cJ0_checkIndex_df160, 2, none)
set_option maxRecDepth 20000 in
theorem oJ0_checkIndex_df160 : wr_MS mJ0_checkIndex_df160 2 := ⟨⟨wr_in 440 rfl rfl, wr_in 10 rfl rfl, ⟨by decide, by decide⟩, by decide +kernel, by decide, by decide⟩, wr_in 439 rfl rfl⟩
abbrev mJ1_charAt_3b067 : wr_M := (yJ1_charAt_3b067, cJ1_charAt_3b067, 2, (some .char))
set_option maxRecDepth 20000 in
theorem oJ1_charAt_3b067 : wr_MS mJ1_charAt_3b067 2 := ⟨⟨wr_in 437 rfl rfl, wr_in 11 rfl rfl, ⟨by decide, by decide⟩, by decide +kernel, by decide, by decide⟩, wr_in 436 rfl rfl⟩
abbrev mJ2_getChar_3b067 : wr_M := (yJ2_getChar_3b067, cJ2_getChar_3b067, 2, (some .char))
set_option maxRecDepth 20000 in
theorem oJ2_getChar_3b067 : wr_MS mJ2_getChar_3b067 2 := ⟨⟨wr_in 458 rfl rfl, wr_in 13 rfl rfl, ⟨by decide, by decide⟩, by decide +kernel, by decide, by decide⟩, wr_in 457 rfl rfl⟩
abbrev mJ2_length_9d52b : wr_M := (yJ2_length_9d52b, cJ2_length_9d52b, 1, (some .int))
set_option maxRecDepth 20000 in
theorem oJ2_length_9d52b : wr_MS mJ2_length_9d52b 1 := ⟨⟨wr_in 454 rfl rfl, wr_in 13 rfl rfl, ⟨by decide, by decide⟩, by decide +kernel, by decide, by decide⟩, wr_in 453 rfl rfl⟩
abbrev mJ2_charAt_3b067 : wr_M := (yJ2_charAt_3b067, cJ2_charAt_3b067, 2, (some .char))
set_option maxRecDepth 20000 in
theorem oJ2_charAt_3b067 : wr_MS mJ2_charAt_3b067 2 := ⟨⟨wr_in 448 rfl rfl, wr_in 13 rfl rfl, ⟨by decide, by decide⟩, by decide +kernel, by decide, by decide⟩, wr_in 447 rfl rfl⟩
abbrev mJ2_checkIndex_2214a : wr_M := (yJ2_checkIndex_2214a, cJ2_checkIndex_2214a, 2, none)
set_option maxRecDepth 20000 in
theorem oJ2_checkIndex_2214a : wr_MS mJ2_checkIndex_2214a 2 := ⟨⟨wr_in 451 rfl rfl, wr_in 13 rfl rfl, ⟨by decide, by decide⟩, by decide +kernel, by decide, by decide⟩, wr_in 450 rfl rfl⟩
abbrev mJ3_checkIndex_8e157 : wr_M := (yJ3_checkIndex_8e157, cJ3_checkIndex_8e157, 3, (some .int))
set_option maxRecDepth 20000 in
theorem oJ3_checkIndex_8e157 : wr_MS mJ3_checkIndex_8e157 3 := ⟨⟨wr_in 445 rfl rfl, wr_in 12 rfl rfl, ⟨by decide, by decide⟩, by decide +kernel, by decide, by decide⟩, wr_in 444 rfl rfl⟩
set_option maxRecDepth 20000 in
theorem kL_9 : wr_lk RL 9 mX7_init := Or.inl (wr_in 18 rfl rfl)
set_option maxRecDepth 20000 in
theorem kX7_11 : wr_lk RX7 11 mX6_init := Or.inr ⟨"WaveRing", wr_inN 26 rfl rfl⟩
set_option maxRecDepth 20000 in
theorem fX6_9 : wr_FL RX6 9 6 0 := ⟨by decide, by decide, Or.inl (wr_in 30 rfl rfl)⟩
set_option maxRecDepth 20000 in
theorem gX6_9 : Cond.fieldLink RX6 9 (wr_fT 6 0).1 (wr_fT 6 0).2.1 (wr_fT 6 0).2.2.1 ∈ wr_TG := wr_in 30 rfl rfl
set_option maxRecDepth 20000 in
theorem fX7_76 : wr_FL RX7 76 6 1 := ⟨by decide, by decide, Or.inr ⟨"WaveRing", wr_inN 31 rfl rfl⟩⟩
set_option maxRecDepth 20000 in
theorem fX6_15 : wr_FL RX6 15 6 1 := ⟨by decide, by decide, Or.inl (wr_in 32 rfl rfl)⟩
set_option maxRecDepth 20000 in
theorem kX7_18 : wr_lk RX7 18 mX5_init := Or.inl (wr_in 41 rfl rfl)
set_option maxRecDepth 20000 in
theorem kX5_11 : wr_lk RX5 11 mX2_init := Or.inr ⟨"WaveRing", wr_inN 47 rfl rfl⟩
set_option maxRecDepth 20000 in
theorem fX2_9 : wr_FL RX2 9 2 0 := ⟨by decide, by decide, Or.inl (wr_in 51 rfl rfl)⟩
set_option maxRecDepth 20000 in
theorem gX2_9 : Cond.fieldLink RX2 9 (wr_fT 2 0).1 (wr_fT 2 0).2.1 (wr_fT 2 0).2.2.1 ∈ wr_TG := wr_in 51 rfl rfl
set_option maxRecDepth 20000 in
theorem fX2_15 : wr_FL RX2 15 2 1 := ⟨by decide, by decide, Or.inl (wr_in 52 rfl rfl)⟩
set_option maxRecDepth 20000 in
theorem gX2_15 : Cond.fieldLink RX2 15 (wr_fT 2 1).1 (wr_fT 2 1).2.1 (wr_fT 2 1).2.2.1 ∈ wr_TG := wr_in 52 rfl rfl
set_option maxRecDepth 20000 in
theorem fX2_18 : wr_FL RX2 18 2 2 := ⟨by decide, by decide, Or.inl (wr_in 53 rfl rfl)⟩
set_option maxRecDepth 20000 in
theorem fX2_22 : wr_FL RX2 22 2 3 := ⟨by decide, by decide, Or.inl (wr_in 54 rfl rfl)⟩
set_option maxRecDepth 20000 in
theorem fX4_186 : wr_FL RX4 186 2 3 := ⟨by decide, by decide, Or.inr ⟨"WaveRing", wr_inN 55 rfl rfl⟩⟩
set_option maxRecDepth 20000 in
theorem fX7_257 : wr_FL RX7 257 2 3 := ⟨by decide, by decide, Or.inr ⟨"WaveRing", wr_inN 56 rfl rfl⟩⟩
set_option maxRecDepth 20000 in
theorem kX5_28 : wr_lk RX5 28 mX5_empty := Or.inl (wr_in 67 rfl rfl)
set_option maxRecDepth 20000 in
theorem kX5_60 : wr_lk RX5 60 mX2_clear := Or.inl (wr_in 71 rfl rfl)
set_option maxRecDepth 20000 in
theorem kX5_63 : wr_lk RX5 63 mX2_addUnit := Or.inl (wr_in 75 rfl rfl)
set_option maxRecDepth 20000 in
theorem kX2_25 : wr_lk RX2 25 mX2_add := Or.inl (wr_in 79 rfl rfl)
set_option maxRecDepth 20000 in
theorem kX5_67 : wr_lk RX5 67 mX2_add := Or.inl (wr_in 83 rfl rfl)
set_option maxRecDepth 20000 in
theorem fX5_12 : wr_FL RX5 12 5 0 := ⟨by decide, by decide, Or.inl (wr_in 84 rfl rfl)⟩
set_option maxRecDepth 20000 in
theorem gX5_12 : Cond.fieldLink RX5 12 (wr_fT 5 0).1 (wr_fT 5 0).2.1 (wr_fT 5 0).2.2.1 ∈ wr_TG := wr_in 84 rfl rfl
set_option maxRecDepth 20000 in
theorem fX4_140 : wr_FL RX4 140 5 0 := ⟨by decide, by decide, Or.inr ⟨"WaveRing", wr_inN 85 rfl rfl⟩⟩
set_option maxRecDepth 20000 in
theorem fX0_69 : wr_FL RX0 69 5 0 := ⟨by decide, by decide, Or.inr ⟨"WaveRing", wr_inN 86 rfl rfl⟩⟩
set_option maxRecDepth 20000 in
theorem fX7_253 : wr_FL RX7 253 5 0 := ⟨by decide, by decide, Or.inr ⟨"WaveRing", wr_inN 87 rfl rfl⟩⟩
set_option maxRecDepth 20000 in
theorem fX5_18 : wr_FL RX5 18 5 1 := ⟨by decide, by decide, Or.inl (wr_in 88 rfl rfl)⟩
set_option maxRecDepth 20000 in
theorem gX5_18 : Cond.fieldLink RX5 18 (wr_fT 5 1).1 (wr_fT 5 1).2.1 (wr_fT 5 1).2.2.1 ∈ wr_TG := wr_in 88 rfl rfl
set_option maxRecDepth 20000 in
theorem fX5_22 : wr_FL RX5 22 5 2 := ⟨by decide, by decide, Or.inl (wr_in 89 rfl rfl)⟩
set_option maxRecDepth 20000 in
theorem gX5_22 : Cond.fieldLink RX5 22 (wr_fT 5 2).1 (wr_fT 5 2).2.1 (wr_fT 5 2).2.2.1 ∈ wr_TG := wr_in 89 rfl rfl
set_option maxRecDepth 20000 in
theorem fX5_25 : wr_FL RX5 25 5 3 := ⟨by decide, by decide, Or.inl (wr_in 90 rfl rfl)⟩
set_option maxRecDepth 20000 in
theorem gX5_25 : Cond.fieldLink RX5 25 (wr_fT 5 3).1 (wr_fT 5 3).2.1 (wr_fT 5 3).2.2.1 ∈ wr_TG := wr_in 90 rfl rfl
set_option maxRecDepth 20000 in
theorem fX5_31 : wr_FL RX5 31 5 4 := ⟨by decide, by decide, Or.inl (wr_in 91 rfl rfl)⟩
set_option maxRecDepth 20000 in
theorem fX4_115 : wr_FL RX4 115 5 4 := ⟨by decide, by decide, Or.inr ⟨"WaveRing", wr_inN 92 rfl rfl⟩⟩
set_option maxRecDepth 20000 in
theorem fX5_35 : wr_FL RX5 35 5 5 := ⟨by decide, by decide, Or.inl (wr_in 93 rfl rfl)⟩
set_option maxRecDepth 20000 in
theorem fX4_92 : wr_FL RX4 92 5 5 := ⟨by decide, by decide, Or.inr ⟨"WaveRing", wr_inN 94 rfl rfl⟩⟩
set_option maxRecDepth 20000 in
theorem fX7_94 : wr_FL RX7 94 5 5 := ⟨by decide, by decide, Or.inr ⟨"WaveRing", wr_inN 95 rfl rfl⟩⟩
set_option maxRecDepth 20000 in
theorem fX3_73 : wr_FL RX3 73 5 5 := ⟨by decide, by decide, Or.inr ⟨"WaveRing", wr_inN 96 rfl rfl⟩⟩
set_option maxRecDepth 20000 in
theorem fX0_62 : wr_FL RX0 62 5 5 := ⟨by decide, by decide, Or.inr ⟨"WaveRing", wr_inN 97 rfl rfl⟩⟩
set_option maxRecDepth 20000 in
theorem fX5_38 : wr_FL RX5 38 5 6 := ⟨by decide, by decide, Or.inl (wr_in 98 rfl rfl)⟩
set_option maxRecDepth 20000 in
theorem fX3_65 : wr_FL RX3 65 5 6 := ⟨by decide, by decide, Or.inr ⟨"WaveRing", wr_inN 99 rfl rfl⟩⟩
set_option maxRecDepth 20000 in
theorem fX4_110 : wr_FL RX4 110 5 6 := ⟨by decide, by decide, Or.inr ⟨"WaveRing", wr_inN 100 rfl rfl⟩⟩
set_option maxRecDepth 20000 in
theorem fX0_41 : wr_FL RX0 41 5 6 := ⟨by decide, by decide, Or.inr ⟨"WaveRing", wr_inN 101 rfl rfl⟩⟩
set_option maxRecDepth 20000 in
theorem fX1_55 : wr_FL RX1 55 5 6 := ⟨by decide, by decide, Or.inr ⟨"WaveRing", wr_inN 102 rfl rfl⟩⟩
set_option maxRecDepth 20000 in
theorem fX7_129 : wr_FL RX7 129 5 6 := ⟨by decide, by decide, Or.inr ⟨"WaveRing", wr_inN 103 rfl rfl⟩⟩
set_option maxRecDepth 20000 in
theorem fX5_42 : wr_FL RX5 42 5 7 := ⟨by decide, by decide, Or.inl (wr_in 104 rfl rfl)⟩
set_option maxRecDepth 20000 in
theorem fX3_68 : wr_FL RX3 68 5 7 := ⟨by decide, by decide, Or.inr ⟨"WaveRing", wr_inN 105 rfl rfl⟩⟩
set_option maxRecDepth 20000 in
theorem fX4_107 : wr_FL RX4 107 5 7 := ⟨by decide, by decide, Or.inr ⟨"WaveRing", wr_inN 106 rfl rfl⟩⟩
set_option maxRecDepth 20000 in
theorem fX7_143 : wr_FL RX7 143 5 7 := ⟨by decide, by decide, Or.inr ⟨"WaveRing", wr_inN 107 rfl rfl⟩⟩
set_option maxRecDepth 20000 in
theorem fX0_89 : wr_FL RX0 89 5 7 := ⟨by decide, by decide, Or.inr ⟨"WaveRing", wr_inN 108 rfl rfl⟩⟩
set_option maxRecDepth 20000 in
theorem fX5_45 : wr_FL RX5 45 5 8 := ⟨by decide, by decide, Or.inl (wr_in 109 rfl rfl)⟩
set_option maxRecDepth 20000 in
theorem fX4_113 : wr_FL RX4 113 5 8 := ⟨by decide, by decide, Or.inr ⟨"WaveRing", wr_inN 110 rfl rfl⟩⟩
set_option maxRecDepth 20000 in
theorem fX7_103 : wr_FL RX7 103 5 8 := ⟨by decide, by decide, Or.inr ⟨"WaveRing", wr_inN 111 rfl rfl⟩⟩
set_option maxRecDepth 20000 in
theorem fX5_48 : wr_FL RX5 48 5 9 := ⟨by decide, by decide, Or.inl (wr_in 112 rfl rfl)⟩
set_option maxRecDepth 20000 in
theorem fX4_126 : wr_FL RX4 126 5 9 := ⟨by decide, by decide, Or.inr ⟨"WaveRing", wr_inN 113 rfl rfl⟩⟩
set_option maxRecDepth 20000 in
theorem fX0_129 : wr_FL RX0 129 5 9 := ⟨by decide, by decide, Or.inr ⟨"WaveRing", wr_inN 114 rfl rfl⟩⟩
set_option maxRecDepth 20000 in
theorem fX5_51 : wr_FL RX5 51 5 10 := ⟨by decide, by decide, Or.inl (wr_in 115 rfl rfl)⟩
set_option maxRecDepth 20000 in
theorem fX4_130 : wr_FL RX4 130 5 10 := ⟨by decide, by decide, Or.inr ⟨"WaveRing", wr_inN 116 rfl rfl⟩⟩
set_option maxRecDepth 20000 in
theorem fX0_132 : wr_FL RX0 132 5 10 := ⟨by decide, by decide, Or.inr ⟨"WaveRing", wr_inN 117 rfl rfl⟩⟩
set_option maxRecDepth 20000 in
theorem fX5_54 : wr_FL RX5 54 5 11 := ⟨by decide, by decide, Or.inl (wr_in 118 rfl rfl)⟩
set_option maxRecDepth 20000 in
theorem fX4_134 : wr_FL RX4 134 5 11 := ⟨by decide, by decide, Or.inr ⟨"WaveRing", wr_inN 119 rfl rfl⟩⟩
set_option maxRecDepth 20000 in
theorem fX0_79 : wr_FL RX0 79 5 11 := ⟨by decide, by decide, Or.inr ⟨"WaveRing", wr_inN 120 rfl rfl⟩⟩
set_option maxRecDepth 20000 in
theorem fX5_57 : wr_FL RX5 57 5 12 := ⟨by decide, by decide, Or.inl (wr_in 121 rfl rfl)⟩
set_option maxRecDepth 20000 in
theorem fX4_138 : wr_FL RX4 138 5 12 := ⟨by decide, by decide, Or.inr ⟨"WaveRing", wr_inN 122 rfl rfl⟩⟩
set_option maxRecDepth 20000 in
theorem fX0_96 : wr_FL RX0 96 5 12 := ⟨by decide, by decide, Or.inr ⟨"WaveRing", wr_inN 123 rfl rfl⟩⟩
set_option maxRecDepth 20000 in
theorem fX7_262 : wr_FL RX7 262 5 12 := ⟨by decide, by decide, Or.inr ⟨"WaveRing", wr_inN 124 rfl rfl⟩⟩
set_option maxRecDepth 20000 in
theorem kX7_28 : wr_lk RX7 28 mX4_init := Or.inl (wr_in 154 rfl rfl)
set_option maxRecDepth 20000 in
theorem fX4_9 : wr_FL RX4 9 4 0 := ⟨by decide, by decide, Or.inl (wr_in 158 rfl rfl)⟩
set_option maxRecDepth 20000 in
theorem gX4_9 : Cond.fieldLink RX4 9 (wr_fT 4 0).1 (wr_fT 4 0).2.1 (wr_fT 4 0).2.2.1 ∈ wr_TG := wr_in 158 rfl rfl
set_option maxRecDepth 20000 in
theorem fX4_15 : wr_FL RX4 15 4 1 := ⟨by decide, by decide, Or.inl (wr_in 159 rfl rfl)⟩
set_option maxRecDepth 20000 in
theorem fX4_28 : wr_FL RX4 28 4 2 := ⟨by decide, by decide, Or.inl (wr_in 160 rfl rfl)⟩
set_option maxRecDepth 20000 in
theorem fX4_32 : wr_FL RX4 32 4 3 := ⟨by decide, by decide, Or.inl (wr_in 161 rfl rfl)⟩
set_option maxRecDepth 20000 in
theorem fX4_35 : wr_FL RX4 35 4 4 := ⟨by decide, by decide, Or.inl (wr_in 162 rfl rfl)⟩
set_option maxRecDepth 20000 in
theorem fX4_47 : wr_FL RX4 47 4 5 := ⟨by decide, by decide, Or.inl (wr_in 163 rfl rfl)⟩
set_option maxRecDepth 20000 in
theorem fX4_210 : wr_FL RX4 210 4 6 := ⟨by decide, by decide, Or.inl (wr_in 164 rfl rfl)⟩
set_option maxRecDepth 20000 in
theorem fX4_41 : wr_FL RX4 41 4 7 := ⟨by decide, by decide, Or.inl (wr_in 165 rfl rfl)⟩
set_option maxRecDepth 20000 in
theorem fX4_89 : wr_FL RX4 89 4 8 := ⟨by decide, by decide, Or.inl (wr_in 166 rfl rfl)⟩
set_option maxRecDepth 20000 in
theorem fX4_38 : wr_FL RX4 38 4 9 := ⟨by decide, by decide, Or.inl (wr_in 167 rfl rfl)⟩
set_option maxRecDepth 20000 in
theorem fX7_97 : wr_FL RX7 97 4 9 := ⟨by decide, by decide, Or.inr ⟨"WaveRing", wr_inN 168 rfl rfl⟩⟩
set_option maxRecDepth 20000 in
theorem fX4_19 : wr_FL RX4 19 4 10 := ⟨by decide, by decide, Or.inl (wr_in 169 rfl rfl)⟩
set_option maxRecDepth 20000 in
theorem fX7_100 : wr_FL RX7 100 4 10 := ⟨by decide, by decide, Or.inr ⟨"WaveRing", wr_inN 170 rfl rfl⟩⟩
set_option maxRecDepth 20000 in
theorem kX7_37 : wr_lk RX7 37 mX0_init := Or.inr ⟨"WaveRing", wr_inN 196 rfl rfl⟩
set_option maxRecDepth 20000 in
theorem fX0_9 : wr_FL RX0 9 0 0 := ⟨by decide, by decide, Or.inl (wr_in 200 rfl rfl)⟩
set_option maxRecDepth 20000 in
theorem gX0_9 : Cond.fieldLink RX0 9 (wr_fT 0 0).1 (wr_fT 0 0).2.1 (wr_fT 0 0).2.2.1 ∈ wr_TG := wr_in 200 rfl rfl
set_option maxRecDepth 20000 in
theorem fX0_15 : wr_FL RX0 15 0 1 := ⟨by decide, by decide, Or.inl (wr_in 201 rfl rfl)⟩
set_option maxRecDepth 20000 in
theorem gX0_15 : Cond.fieldLink RX0 15 (wr_fT 0 1).1 (wr_fT 0 1).2.1 (wr_fT 0 1).2.2.1 ∈ wr_TG := wr_in 201 rfl rfl
set_option maxRecDepth 20000 in
theorem fX0_18 : wr_FL RX0 18 0 2 := ⟨by decide, by decide, Or.inl (wr_in 202 rfl rfl)⟩
set_option maxRecDepth 20000 in
theorem gX0_18 : Cond.fieldLink RX0 18 (wr_fT 0 2).1 (wr_fT 0 2).2.1 (wr_fT 0 2).2.2.1 ∈ wr_TG := wr_in 202 rfl rfl
set_option maxRecDepth 20000 in
theorem fX0_21 : wr_FL RX0 21 0 3 := ⟨by decide, by decide, Or.inl (wr_in 203 rfl rfl)⟩
set_option maxRecDepth 20000 in
theorem gX0_21 : Cond.fieldLink RX0 21 (wr_fT 0 3).1 (wr_fT 0 3).2.1 (wr_fT 0 3).2.2.1 ∈ wr_TG := wr_in 203 rfl rfl
set_option maxRecDepth 20000 in
theorem fX0_28 : wr_FL RX0 28 0 4 := ⟨by decide, by decide, Or.inl (wr_in 204 rfl rfl)⟩
set_option maxRecDepth 20000 in
theorem fX7_157 : wr_FL RX7 157 0 4 := ⟨by decide, by decide, Or.inr ⟨"WaveRing", wr_inN 205 rfl rfl⟩⟩
set_option maxRecDepth 20000 in
theorem fX0_32 : wr_FL RX0 32 0 5 := ⟨by decide, by decide, Or.inl (wr_in 206 rfl rfl)⟩
set_option maxRecDepth 20000 in
theorem fX0_35 : wr_FL RX0 35 0 6 := ⟨by decide, by decide, Or.inl (wr_in 207 rfl rfl)⟩
set_option maxRecDepth 20000 in
theorem fX7_112 : wr_FL RX7 112 0 6 := ⟨by decide, by decide, Or.inr ⟨"WaveRing", wr_inN 208 rfl rfl⟩⟩
set_option maxRecDepth 20000 in
theorem fX0_38 : wr_FL RX0 38 0 7 := ⟨by decide, by decide, Or.inl (wr_in 209 rfl rfl)⟩
set_option maxRecDepth 20000 in
theorem fX7_247 : wr_FL RX7 247 0 7 := ⟨by decide, by decide, Or.inr ⟨"WaveRing", wr_inN 210 rfl rfl⟩⟩
set_option maxRecDepth 20000 in
theorem fX0_24 : wr_FL RX0 24 0 8 := ⟨by decide, by decide, Or.inl (wr_in 211 rfl rfl)⟩
set_option maxRecDepth 20000 in
theorem fX7_244 : wr_FL RX7 244 0 8 := ⟨by decide, by decide, Or.inr ⟨"WaveRing", wr_inN 212 rfl rfl⟩⟩
set_option maxRecDepth 20000 in
theorem kX7_55 : wr_lk RX7 55 mX1_init := Or.inr ⟨"WaveRing", wr_inN 235 rfl rfl⟩
set_option maxRecDepth 20000 in
theorem fX1_9 : wr_FL RX1 9 1 0 := ⟨by decide, by decide, Or.inl (wr_in 239 rfl rfl)⟩
set_option maxRecDepth 20000 in
theorem gX1_9 : Cond.fieldLink RX1 9 (wr_fT 1 0).1 (wr_fT 1 0).2.1 (wr_fT 1 0).2.2.1 ∈ wr_TG := wr_in 239 rfl rfl
set_option maxRecDepth 20000 in
theorem fX1_15 : wr_FL RX1 15 1 1 := ⟨by decide, by decide, Or.inl (wr_in 240 rfl rfl)⟩
set_option maxRecDepth 20000 in
theorem gX1_15 : Cond.fieldLink RX1 15 (wr_fT 1 1).1 (wr_fT 1 1).2.1 (wr_fT 1 1).2.2.1 ∈ wr_TG := wr_in 240 rfl rfl
set_option maxRecDepth 20000 in
theorem fX1_19 : wr_FL RX1 19 1 2 := ⟨by decide, by decide, Or.inl (wr_in 241 rfl rfl)⟩
set_option maxRecDepth 20000 in
theorem gX1_19 : Cond.fieldLink RX1 19 (wr_fT 1 2).1 (wr_fT 1 2).2.1 (wr_fT 1 2).2.2.1 ∈ wr_TG := wr_in 241 rfl rfl
set_option maxRecDepth 20000 in
theorem fX1_22 : wr_FL RX1 22 1 3 := ⟨by decide, by decide, Or.inl (wr_in 242 rfl rfl)⟩
set_option maxRecDepth 20000 in
theorem gX1_22 : Cond.fieldLink RX1 22 (wr_fT 1 3).1 (wr_fT 1 3).2.1 (wr_fT 1 3).2.2.1 ∈ wr_TG := wr_in 242 rfl rfl
set_option maxRecDepth 20000 in
theorem fX1_25 : wr_FL RX1 25 1 4 := ⟨by decide, by decide, Or.inl (wr_in 243 rfl rfl)⟩
set_option maxRecDepth 20000 in
theorem gX1_25 : Cond.fieldLink RX1 25 (wr_fT 1 4).1 (wr_fT 1 4).2.1 (wr_fT 1 4).2.2.1 ∈ wr_TG := wr_in 243 rfl rfl
set_option maxRecDepth 20000 in
theorem fX1_29 : wr_FL RX1 29 1 5 := ⟨by decide, by decide, Or.inl (wr_in 244 rfl rfl)⟩
set_option maxRecDepth 20000 in
theorem gX1_29 : Cond.fieldLink RX1 29 (wr_fT 1 5).1 (wr_fT 1 5).2.1 (wr_fT 1 5).2.2.1 ∈ wr_TG := wr_in 244 rfl rfl
set_option maxRecDepth 20000 in
theorem fX1_39 : wr_FL RX1 39 1 6 := ⟨by decide, by decide, Or.inl (wr_in 245 rfl rfl)⟩
set_option maxRecDepth 20000 in
theorem fX7_250 : wr_FL RX7 250 1 6 := ⟨by decide, by decide, Or.inr ⟨"WaveRing", wr_inN 246 rfl rfl⟩⟩
set_option maxRecDepth 20000 in
theorem fX1_42 : wr_FL RX1 42 1 7 := ⟨by decide, by decide, Or.inl (wr_in 247 rfl rfl)⟩
set_option maxRecDepth 20000 in
theorem fX7_217 : wr_FL RX7 217 1 7 := ⟨by decide, by decide, Or.inr ⟨"WaveRing", wr_inN 248 rfl rfl⟩⟩
set_option maxRecDepth 20000 in
theorem fX1_32 : wr_FL RX1 32 1 8 := ⟨by decide, by decide, Or.inl (wr_in 249 rfl rfl)⟩
set_option maxRecDepth 20000 in
theorem fX7_226 : wr_FL RX7 226 1 8 := ⟨by decide, by decide, Or.inr ⟨"WaveRing", wr_inN 250 rfl rfl⟩⟩
set_option maxRecDepth 20000 in
theorem fX1_36 : wr_FL RX1 36 1 9 := ⟨by decide, by decide, Or.inl (wr_in 251 rfl rfl)⟩
set_option maxRecDepth 20000 in
theorem kX7_62 : wr_lk RX7 62 mX3_init := Or.inl (wr_in 277 rfl rfl)
set_option maxRecDepth 20000 in
theorem fX3_7 : wr_FL RX3 7 3 0 := ⟨by decide, by decide, Or.inl (wr_in 281 rfl rfl)⟩
set_option maxRecDepth 20000 in
theorem fX1_49 : wr_FL RX1 49 3 0 := ⟨by decide, by decide, Or.inr ⟨"WaveRing", wr_inN 282 rfl rfl⟩⟩
set_option maxRecDepth 20000 in
theorem fX3_32 : wr_FL RX3 32 3 1 := ⟨by decide, by decide, Or.inl (wr_in 283 rfl rfl)⟩
set_option maxRecDepth 20000 in
theorem fX3_36 : wr_FL RX3 36 3 2 := ⟨by decide, by decide, Or.inl (wr_in 284 rfl rfl)⟩
set_option maxRecDepth 20000 in
theorem fX3_29 : wr_FL RX3 29 3 3 := ⟨by decide, by decide, Or.inl (wr_in 285 rfl rfl)⟩
set_option maxRecDepth 20000 in
theorem fX3_20 : wr_FL RX3 20 3 4 := ⟨by decide, by decide, Or.inl (wr_in 286 rfl rfl)⟩
set_option maxRecDepth 20000 in
theorem fX3_17 : wr_FL RX3 17 3 5 := ⟨by decide, by decide, Or.inl (wr_in 287 rfl rfl)⟩
set_option maxRecDepth 20000 in
theorem fX3_13 : wr_FL RX3 13 3 6 := ⟨by decide, by decide, Or.inl (wr_in 288 rfl rfl)⟩
set_option maxRecDepth 20000 in
theorem fX3_39 : wr_FL RX3 39 3 7 := ⟨by decide, by decide, Or.inl (wr_in 289 rfl rfl)⟩
set_option maxRecDepth 20000 in
theorem fX3_43 : wr_FL RX3 43 3 8 := ⟨by decide, by decide, Or.inl (wr_in 290 rfl rfl)⟩
set_option maxRecDepth 20000 in
theorem fX3_46 : wr_FL RX3 46 3 9 := ⟨by decide, by decide, Or.inl (wr_in 291 rfl rfl)⟩
set_option maxRecDepth 20000 in
theorem fX3_49 : wr_FL RX3 49 3 10 := ⟨by decide, by decide, Or.inl (wr_in 292 rfl rfl)⟩
set_option maxRecDepth 20000 in
theorem fX3_52 : wr_FL RX3 52 3 11 := ⟨by decide, by decide, Or.inl (wr_in 293 rfl rfl)⟩
set_option maxRecDepth 20000 in
theorem fX3_55 : wr_FL RX3 55 3 12 := ⟨by decide, by decide, Or.inl (wr_in 294 rfl rfl)⟩
set_option maxRecDepth 20000 in
theorem fX7_12 : wr_FL RX7 12 7 0 := ⟨by decide, by decide, Or.inl (wr_in 322 rfl rfl)⟩
set_option maxRecDepth 20000 in
theorem gX7_12 : Cond.fieldLink RX7 12 (wr_fT 7 0).1 (wr_fT 7 0).2.1 (wr_fT 7 0).2.2.1 ∈ wr_TG := wr_in 322 rfl rfl
set_option maxRecDepth 20000 in
theorem fX7_19 : wr_FL RX7 19 7 1 := ⟨by decide, by decide, Or.inl (wr_in 323 rfl rfl)⟩
set_option maxRecDepth 20000 in
theorem fX7_23 : wr_FL RX7 23 7 2 := ⟨by decide, by decide, Or.inl (wr_in 324 rfl rfl)⟩
set_option maxRecDepth 20000 in
theorem fX7_31 : wr_FL RX7 31 7 3 := ⟨by decide, by decide, Or.inl (wr_in 325 rfl rfl)⟩
set_option maxRecDepth 20000 in
theorem gX7_31 : Cond.fieldLink RX7 31 (wr_fT 7 3).1 (wr_fT 7 3).2.1 (wr_fT 7 3).2.2.1 ∈ wr_TG := wr_in 325 rfl rfl
set_option maxRecDepth 20000 in
theorem fX7_38 : wr_FL RX7 38 7 4 := ⟨by decide, by decide, Or.inl (wr_in 326 rfl rfl)⟩
set_option maxRecDepth 20000 in
theorem gX7_38 : Cond.fieldLink RX7 38 (wr_fT 7 4).1 (wr_fT 7 4).2.1 (wr_fT 7 4).2.2.1 ∈ wr_TG := wr_in 326 rfl rfl
set_option maxRecDepth 20000 in
theorem fX7_42 : wr_FL RX7 42 7 5 := ⟨by decide, by decide, Or.inl (wr_in 327 rfl rfl)⟩
set_option maxRecDepth 20000 in
theorem gX7_42 : Cond.fieldLink RX7 42 (wr_fT 7 5).1 (wr_fT 7 5).2.1 (wr_fT 7 5).2.2.1 ∈ wr_TG := wr_in 327 rfl rfl
set_option maxRecDepth 20000 in
theorem fX7_45 : wr_FL RX7 45 7 6 := ⟨by decide, by decide, Or.inl (wr_in 328 rfl rfl)⟩
set_option maxRecDepth 20000 in
theorem gX7_45 : Cond.fieldLink RX7 45 (wr_fT 7 6).1 (wr_fT 7 6).2.1 (wr_fT 7 6).2.2.1 ∈ wr_TG := wr_in 328 rfl rfl
set_option maxRecDepth 20000 in
theorem fX7_49 : wr_FL RX7 49 7 7 := ⟨by decide, by decide, Or.inl (wr_in 329 rfl rfl)⟩
set_option maxRecDepth 20000 in
theorem gX7_49 : Cond.fieldLink RX7 49 (wr_fT 7 7).1 (wr_fT 7 7).2.1 (wr_fT 7 7).2.2.1 ∈ wr_TG := wr_in 329 rfl rfl
set_option maxRecDepth 20000 in
theorem fX7_56 : wr_FL RX7 56 7 8 := ⟨by decide, by decide, Or.inl (wr_in 330 rfl rfl)⟩
set_option maxRecDepth 20000 in
theorem gX7_56 : Cond.fieldLink RX7 56 (wr_fT 7 8).1 (wr_fT 7 8).2.1 (wr_fT 7 8).2.2.1 ∈ wr_TG := wr_in 330 rfl rfl
set_option maxRecDepth 20000 in
theorem fX7_65 : wr_FL RX7 65 7 9 := ⟨by decide, by decide, Or.inl (wr_in 331 rfl rfl)⟩
set_option maxRecDepth 20000 in
theorem gX7_65 : Cond.fieldLink RX7 65 (wr_fT 7 9).1 (wr_fT 7 9).2.1 (wr_fT 7 9).2.2.1 ∈ wr_TG := wr_in 331 rfl rfl
set_option maxRecDepth 20000 in
theorem fX7_69 : wr_FL RX7 69 7 10 := ⟨by decide, by decide, Or.inl (wr_in 332 rfl rfl)⟩
set_option maxRecDepth 20000 in
theorem gX7_69 : Cond.fieldLink RX7 69 (wr_fT 7 10).1 (wr_fT 7 10).2.1 (wr_fT 7 10).2.2.1 ∈ wr_TG := wr_in 332 rfl rfl
set_option maxRecDepth 20000 in
theorem fX7_72 : wr_FL RX7 72 7 11 := ⟨by decide, by decide, Or.inl (wr_in 333 rfl rfl)⟩
set_option maxRecDepth 20000 in
theorem gX7_72 : Cond.fieldLink RX7 72 (wr_fT 7 11).1 (wr_fT 7 11).2.1 (wr_fT 7 11).2.2.1 ∈ wr_TG := wr_in 333 rfl rfl
set_option maxRecDepth 20000 in
theorem kL_13 : wr_lk RL 13 mX7_feed := Or.inl (wr_in 359 rfl rfl)
set_option maxRecDepth 20000 in
theorem kX7_80 : wr_lk RX7 80 mX6_add := Or.inl (wr_in 363 rfl rfl)
set_option maxRecDepth 20000 in
theorem kL_18 : wr_lk RL 18 mX7_end := Or.inl (wr_in 367 rfl rfl)
set_option maxRecDepth 20000 in
theorem kL_23 : wr_lk RL 23 mX7_ring := Or.inl (wr_in 371 rfl rfl)
set_option maxRecDepth 20000 in
theorem kX7_84 : wr_lk RX7 84 mX4_readInto := Or.inl (wr_in 375 rfl rfl)
set_option maxRecDepth 20000 in
theorem kX4_23 : wr_lk RX4 23 mX5_empty := Or.inl (wr_in 379 rfl rfl)
set_option maxRecDepth 20000 in
theorem kX4_44 : wr_lk RX4 44 mX4_step := Or.inl (wr_in 380 rfl rfl)
set_option maxRecDepth 20000 in
theorem kX4_213 : wr_lk RX4 213 mX6_at := Or.inl (wr_in 384 rfl rfl)
set_option maxRecDepth 20000 in
theorem kX4_228 : wr_lk RX4 228 mX4_isBlank := Or.inl (wr_in 388 rfl rfl)
set_option maxRecDepth 20000 in
theorem kX4_231 : wr_lk RX4 231 mX4_isLetter := Or.inl (wr_in 391 rfl rfl)
set_option maxRecDepth 20000 in
theorem kX4_234 : wr_lk RX4 234 mX4_readWord := Or.inl (wr_in 394 rfl rfl)
set_option maxRecDepth 20000 in
theorem kX4_237 : wr_lk RX4 237 mX4_isDigit := Or.inl (wr_in 398 rfl rfl)
set_option maxRecDepth 20000 in
theorem kX4_240 : wr_lk RX4 240 mX4_readNumber := Or.inl (wr_in 401 rfl rfl)
set_option maxRecDepth 20000 in
theorem kX4_243 : wr_lk RX4 243 mX4_isOneOfTheSigns := Or.inl (wr_in 405 rfl rfl)
set_option maxRecDepth 20000 in
theorem kX4_50 : wr_lk RX4 50 mX4_readLine := Or.inl (wr_in 408 rfl rfl)
set_option maxRecDepth 20000 in
theorem kX4_56 : wr_lk RX4 56 mX4_isWord := Or.inl (wr_in 413 rfl rfl)
set_option maxRecDepth 20000 in
theorem kX4_219 : wr_lk RX4 219 mJ0_length_8abf5 := Or.inl (wr_in 417 rfl rfl)
set_option maxRecDepth 20000 in
theorem kJ0_335 : wr_lk RJ0 335 mJ0_coder_7d493 := Or.inl (wr_in 421 rfl rfl)
set_option maxRecDepth 20000 in
theorem kX4_224 : wr_lk RX4 224 mJ0_charAt_5068e := Or.inl (wr_in 427 rfl rfl)
set_option maxRecDepth 20000 in
theorem kJ0_492 : wr_lk RJ0 492 mJ0_isLatin1_aae02 := Or.inl (wr_in 431 rfl rfl)
set_option maxRecDepth 20000 in
theorem kJ0_495 : wr_lk RJ0 495 mJ1_charAt_3b067 := Or.inl (wr_in 435 rfl rfl)
set_option maxRecDepth 20000 in
theorem kJ1_9 : wr_lk RJ1 9 mJ0_checkIndex_df160 := Or.inl (wr_in 438 rfl rfl)
set_option maxRecDepth 20000 in
theorem kJ0_1059 : wr_lk RJ0 1059 mJ3_checkIndex_8e157 := Or.inl (wr_in 443 rfl rfl)
set_option maxRecDepth 20000 in
theorem kJ0_498 : wr_lk RJ0 498 mJ2_charAt_3b067 := Or.inl (wr_in 446 rfl rfl)
set_option maxRecDepth 20000 in
theorem kJ2_67 : wr_lk RJ2 67 mJ2_checkIndex_2214a := Or.inl (wr_in 449 rfl rfl)
set_option maxRecDepth 20000 in
theorem kJ2_48 : wr_lk RJ2 48 mJ2_length_9d52b := Or.inl (wr_in 452 rfl rfl)
set_option maxRecDepth 20000 in
theorem kJ2_414 : wr_lk RJ2 414 mJ0_checkIndex_df160 := Or.inl (wr_in 455 rfl rfl)
set_option maxRecDepth 20000 in
theorem kJ2_71 : wr_lk RJ2 71 mJ2_getChar_3b067 := Or.inl (wr_in 456 rfl rfl)
set_option maxRecDepth 20000 in
theorem kX4_60 : wr_lk RX4 60 mX4_readSeats := Or.inl (wr_in 465 rfl rfl)
set_option maxRecDepth 20000 in
theorem kX4_82 : wr_lk RX4 82 mX4_refuse := Or.inl (wr_in 469 rfl rfl)
set_option maxRecDepth 20000 in
theorem kX4_85 : wr_lk RX4 85 mX4_takeNumber := Or.inl (wr_in 473 rfl rfl)
set_option maxRecDepth 20000 in
theorem kX4_94 : wr_lk RX4 94 mX4_takeSign := Or.inl (wr_in 477 rfl rfl)
set_option maxRecDepth 20000 in
theorem kX4_177 : wr_lk RX4 177 mX4_isSign := Or.inl (wr_in 481 rfl rfl)
set_option maxRecDepth 20000 in
theorem kX4_69 : wr_lk RX4 69 mX4_readPlaces := Or.inl (wr_in 488 rfl rfl)
set_option maxRecDepth 20000 in
theorem kX4_100 : wr_lk RX4 100 mX4_takeWord := Or.inl (wr_in 493 rfl rfl)
set_option maxRecDepth 20000 in
theorem kX4_103 : wr_lk RX4 103 mX5_seatsFrom := Or.inl (wr_in 497 rfl rfl)
set_option maxRecDepth 20000 in
theorem kX5_70 : wr_lk RX5 70 mJ9_min_7cf53 := Or.inl (wr_in 501 rfl rfl)
set_option maxRecDepth 20000 in
theorem kX5_76 : wr_lk RX5 76 mX5_turned := Or.inl (wr_in 504 rfl rfl)
set_option maxRecDepth 20000 in
theorem kX5_80 : wr_lk RX5 80 mX5_everySeat := Or.inl (wr_in 508 rfl rfl)
set_option maxRecDepth 20000 in
theorem kX4_74 : wr_lk RX4 74 mX4_readSlack := Or.inl (wr_in 513 rfl rfl)
set_option maxRecDepth 20000 in
theorem kX4_120 : wr_lk RX4 120 mX5_addSlack := Or.inl (wr_in 518 rfl rfl)
set_option maxRecDepth 20000 in
theorem kX4_79 : wr_lk RX4 79 mX4_readLaw := Or.inl (wr_in 523 rfl rfl)
set_option maxRecDepth 20000 in
theorem kX4_143 : wr_lk RX4 143 mX2_clear := Or.inl (wr_in 531 rfl rfl)
set_option maxRecDepth 20000 in
theorem kX4_150 : wr_lk RX4 150 mX4_readEither := Or.inl (wr_in 533 rfl rfl)
set_option maxRecDepth 20000 in
theorem kX4_154 : wr_lk RX4 154 mX4_readBoth := Or.inl (wr_in 537 rfl rfl)
set_option maxRecDepth 20000 in
theorem kX4_163 : wr_lk RX4 163 mX4_readOne := Or.inl (wr_in 541 rfl rfl)
set_option maxRecDepth 20000 in
theorem kX4_159 : wr_lk RX4 159 mX2_add := Or.inl (wr_in 546 rfl rfl)
set_option maxRecDepth 20000 in
theorem kX4_170 : wr_lk RX4 170 mX4_readSum := Or.inl (wr_in 547 rfl rfl)
set_option maxRecDepth 20000 in
theorem kX4_180 : wr_lk RX4 180 mX4_readTerm := Or.inl (wr_in 551 rfl rfl)
set_option maxRecDepth 20000 in
theorem kX4_183 : wr_lk RX4 183 mX4_readUnit := Or.inl (wr_in 555 rfl rfl)
set_option maxRecDepth 20000 in
theorem kX4_189 : wr_lk RX4 189 mX4_readNested := Or.inl (wr_in 559 rfl rfl)
set_option maxRecDepth 20000 in
theorem kX4_192 : wr_lk RX4 192 mX4_lookHere := Or.inl (wr_in 563 rfl rfl)
set_option maxRecDepth 20000 in
theorem kX4_195 : wr_lk RX4 195 mX2_addUnit := Or.inl (wr_in 573 rfl rfl)
set_option maxRecDepth 20000 in
theorem kX4_173 : wr_lk RX4 173 mX4_relationHere := Or.inl (wr_in 574 rfl rfl)
set_option maxRecDepth 20000 in
theorem kX7_88 : wr_lk RX7 88 mX0_freshen := Or.inl (wr_in 580 rfl rfl)
set_option maxRecDepth 20000 in
theorem kX7_91 : wr_lk RX7 91 mX1_forget := Or.inl (wr_in 584 rfl rfl)
set_option maxRecDepth 20000 in
theorem kL_28 : wr_lk RL 28 mX7_fault := Or.inl (wr_in 588 rfl rfl)
set_option maxRecDepth 20000 in
theorem kL_32 : wr_lk RL 32 mX7_tryNow := Or.inl (wr_in 592 rfl rfl)
set_option maxRecDepth 20000 in
theorem kX7_107 : wr_lk RX7 107 mX0_raise := Or.inl (wr_in 596 rfl rfl)
set_option maxRecDepth 20000 in
theorem nX0_46 : Cond.constantLong RX0 46 (-1) ∈ wr_TG := wr_in 600 rfl rfl
set_option maxRecDepth 20000 in
theorem kX0_48 : wr_lk RX0 48 mX7_holds := Or.inr ⟨"WaveRing", wr_inN 601 rfl rfl⟩
set_option maxRecDepth 20000 in
theorem kL_36 : wr_lk RL 36 mX7_run := Or.inl (wr_in 604 rfl rfl)
set_option maxRecDepth 20000 in
theorem nX7_111 : Cond.constant RX7 111 (1000000) ∈ wr_TG := wr_in 608 rfl rfl
set_option maxRecDepth 20000 in
theorem kX7_115 : wr_lk RX7 115 mX0_liveOn := Or.inl (wr_in 609 rfl rfl)
set_option maxRecDepth 20000 in
theorem kX0_92 : wr_lk RX0 92 mX0_willing := Or.inl (wr_in 613 rfl rfl)
set_option maxRecDepth 20000 in
theorem kX0_52 : wr_lk RX0 52 mX5_slackIn := Or.inl (wr_in 617 rfl rfl)
set_option maxRecDepth 20000 in
theorem kX0_56 : wr_lk RX0 56 mJ13_bitCount_95d88 := Or.inl (wr_in 621 rfl rfl)
set_option maxRecDepth 20000 in
theorem nJ13_314 : Cond.constantLong RJ13 314 (6148914691236517205) ∈ wr_TG := wr_in 624 rfl rfl
set_option maxRecDepth 20000 in
theorem nJ13_316 : Cond.constantLong RJ13 316 (3689348814741910323) ∈ wr_TG := wr_in 625 rfl rfl
set_option maxRecDepth 20000 in
theorem nJ13_318 : Cond.constantLong RJ13 318 (1085102592571150095) ∈ wr_TG := wr_in 626 rfl rfl
set_option maxRecDepth 20000 in
theorem kX0_65 : wr_lk RX0 65 mX0_lookAround := Or.inl (wr_in 627 rfl rfl)
set_option maxRecDepth 20000 in
theorem kX0_82 : wr_lk RX0 82 mX5_sightOf := Or.inl (wr_in 631 rfl rfl)
set_option maxRecDepth 20000 in
theorem kX0_85 : wr_lk RX0 85 mX5_turned := Or.inl (wr_in 635 rfl rfl)
set_option maxRecDepth 20000 in
theorem kX0_73 : wr_lk RX0 73 mX2_worth := Or.inl (wr_in 636 rfl rfl)
set_option maxRecDepth 20000 in
theorem kX2_29 : wr_lk RX2 29 mX2_lookedUp := Or.inl (wr_in 640 rfl rfl)
set_option maxRecDepth 20000 in
theorem kX2_33 : wr_lk RX2 33 mX2_joined := Or.inl (wr_in 643 rfl rfl)
set_option maxRecDepth 20000 in
theorem kX0_99 : wr_lk RX0 99 mX0_withoutTheShy := Or.inl (wr_in 646 rfl rfl)
set_option maxRecDepth 20000 in
theorem kX0_112 : wr_lk RX0 112 mX0_drawOfTen := Or.inl (wr_in 650 rfl rfl)
set_option maxRecDepth 20000 in
theorem nX0_116 : Cond.constant RX0 116 (1103515245) ∈ wr_TG := wr_in 654 rfl rfl
set_option maxRecDepth 20000 in
theorem kX0_102 : wr_lk RX0 102 mX0_countWays := Or.inl (wr_in 655 rfl rfl)
set_option maxRecDepth 20000 in
theorem kX0_117 : wr_lk RX0 117 mX0_wayOf := Or.inl (wr_in 659 rfl rfl)
set_option maxRecDepth 20000 in
theorem kX0_121 : wr_lk RX0 121 mX0_countWay := Or.inl (wr_in 662 rfl rfl)
set_option maxRecDepth 20000 in
theorem kX0_106 : wr_lk RX0 106 mX0_move := Or.inl (wr_in 666 rfl rfl)
set_option maxRecDepth 20000 in
theorem kX0_125 : wr_lk RX0 125 mX0_stateBehind := Or.inl (wr_in 670 rfl rfl)
set_option maxRecDepth 20000 in
theorem kX7_119 : wr_lk RX7 119 mJ13_bitCount_95d88 := Or.inl (wr_in 673 rfl rfl)
set_option maxRecDepth 20000 in
theorem kL_40 : wr_lk RL 40 mX7_seat := Or.inl (wr_in 674 rfl rfl)
set_option maxRecDepth 20000 in
theorem kX7_125 : wr_lk RX7 125 mX5_has := Or.inl (wr_in 678 rfl rfl)
set_option maxRecDepth 20000 in
theorem kX7_132 : wr_lk RX7 132 mX7_holds := Or.inl (wr_in 682 rfl rfl)
set_option maxRecDepth 20000 in
theorem kX7_136 : wr_lk RX7 136 mX0_stateOf := Or.inl (wr_in 683 rfl rfl)
set_option maxRecDepth 20000 in
theorem kX7_140 : wr_lk RX7 140 mX0_risesOf := Or.inl (wr_in 687 rfl rfl)
set_option maxRecDepth 20000 in
theorem kX7_146 : wr_lk RX7 146 mX7_oneIf := Or.inl (wr_in 691 rfl rfl)
set_option maxRecDepth 20000 in
theorem kL_45 : wr_lk RL 45 mX7_would := Or.inl (wr_in 694 rfl rfl)
set_option maxRecDepth 20000 in
theorem kX7_150 : wr_lk RX7 150 mX0_willing := Or.inl (wr_in 698 rfl rfl)
set_option maxRecDepth 20000 in
theorem kL_49 : wr_lk RL 49 mX7_way := Or.inl (wr_in 699 rfl rfl)
set_option maxRecDepth 20000 in
theorem kX7_154 : wr_lk RX7 154 mX0_risenBy := Or.inl (wr_in 703 rfl rfl)
set_option maxRecDepth 20000 in
theorem kL_53 : wr_lk RL 53 mX7_wide := Or.inl (wr_in 707 rfl rfl)
set_option maxRecDepth 20000 in
theorem kX7_160 : wr_lk RX7 160 mX5_widest := Or.inl (wr_in 711 rfl rfl)
set_option maxRecDepth 20000 in
theorem kL_57 : wr_lk RL 57 mX7_waves := Or.inl (wr_in 715 rfl rfl)
set_option maxRecDepth 20000 in
theorem kX7_163 : wr_lk RX7 163 mX5_stretches := Or.inl (wr_in 719 rfl rfl)
set_option maxRecDepth 20000 in
theorem nX5_84 : Cond.constantLong RX5 84 (-1) ∈ wr_TG := wr_in 723 rfl rfl
set_option maxRecDepth 20000 in
theorem kX5_86 : wr_lk RX5 86 mJ13_bitCount_95d88 := Or.inl (wr_in 724 rfl rfl)
set_option maxRecDepth 20000 in
theorem kL_61 : wr_lk RL 61 mX7_till := Or.inl (wr_in 725 rfl rfl)
set_option maxRecDepth 20000 in
theorem kX7_166 : wr_lk RX7 166 mX0_copy := Or.inl (wr_in 729 rfl rfl)
set_option maxRecDepth 20000 in
theorem kX7_170 : wr_lk RX7 170 mX0_dreamOn := Or.inl (wr_in 733 rfl rfl)
set_option maxRecDepth 20000 in
theorem kL_65 : wr_lk RL 65 mX7_dies := Or.inl (wr_in 737 rfl rfl)
set_option maxRecDepth 20000 in
theorem kX7_173 : wr_lk RX7 173 mX0_tillNobodyUp := Or.inl (wr_in 741 rfl rfl)
set_option maxRecDepth 20000 in
theorem kX0_109 : wr_lk RX0 109 mX0_dreamOn := Or.inl (wr_in 745 rfl rfl)
set_option maxRecDepth 20000 in
theorem kL_69 : wr_lk RL 69 mX7_lives := Or.inl (wr_in 746 rfl rfl)
set_option maxRecDepth 20000 in
theorem kX7_177 : wr_lk RX7 177 mX7_canTry := Or.inl (wr_in 750 rfl rfl)
set_option maxRecDepth 20000 in
theorem kX7_180 : wr_lk RX7 180 mX5_seatsFrom := Or.inl (wr_in 754 rfl rfl)
set_option maxRecDepth 20000 in
theorem kX7_184 : wr_lk RX7 184 mX7_lifeOf := Or.inl (wr_in 755 rfl rfl)
set_option maxRecDepth 20000 in
theorem kL_73 : wr_lk RL 73 mX7_fewest := Or.inl (wr_in 759 rfl rfl)
set_option maxRecDepth 20000 in
theorem kL_77 : wr_lk RL 77 mX7_best := Or.inl (wr_in 763 rfl rfl)
set_option maxRecDepth 20000 in
theorem kL_81 : wr_lk RL 81 mX7_jumps := Or.inl (wr_in 767 rfl rfl)
set_option maxRecDepth 20000 in
theorem kL_86 : wr_lk RL 86 mX7_meet := Or.inl (wr_in 771 rfl rfl)
set_option maxRecDepth 20000 in
theorem kL_90 : wr_lk RL 90 mX7_odds := Or.inl (wr_in 775 rfl rfl)
set_option maxRecDepth 20000 in
theorem nX7_188 : Cond.constantLong RX7 188 (-1) ∈ wr_TG := wr_in 779 rfl rfl
set_option maxRecDepth 20000 in
theorem kX7_190 : wr_lk RX7 190 mX7_would := Or.inl (wr_in 780 rfl rfl)
set_option maxRecDepth 20000 in
theorem nX7_194 : Cond.constantLong RX7 194 (-2) ∈ wr_TG := wr_in 781 rfl rfl
set_option maxRecDepth 20000 in
theorem kX7_196 : wr_lk RX7 196 mX7_chancesOfAtLeast := Or.inl (wr_in 782 rfl rfl)
set_option maxRecDepth 20000 in
theorem nX7_199 : Cond.constantLong RX7 199 (10) ∈ wr_TG := wr_in 786 rfl rfl
set_option maxRecDepth 20000 in
theorem kX7_201 : wr_lk RX7 201 mX7_greatestDivisor := Or.inl (wr_in 787 rfl rfl)
set_option maxRecDepth 20000 in
theorem kL_97 : wr_lk RL 97 mX7_film := Or.inl (wr_in 790 rfl rfl)
set_option maxRecDepth 20000 in
theorem kX7_205 : wr_lk RX7 205 mX5_everySeat := Or.inl (wr_in 794 rfl rfl)
set_option maxRecDepth 20000 in
theorem kX7_209 : wr_lk RX7 209 mX1_tell := Or.inl (wr_in 795 rfl rfl)
set_option maxRecDepth 20000 in
theorem kL_102 : wr_lk RL 102 mX7_untell := Or.inl (wr_in 799 rfl rfl)
set_option maxRecDepth 20000 in
theorem kX7_213 : wr_lk RX7 213 mX1_takeBack := Or.inl (wr_in 803 rfl rfl)
set_option maxRecDepth 20000 in
theorem kL_107 : wr_lk RL 107 mX7_later := Or.inl (wr_in 807 rfl rfl)
set_option maxRecDepth 20000 in
theorem nX7_216 : Cond.constant RX7 216 (100000) ∈ wr_TG := wr_in 811 rfl rfl
set_option maxRecDepth 20000 in
theorem kL_111 : wr_lk RL 111 mX7_fits := Or.inl (wr_in 812 rfl rfl)
set_option maxRecDepth 20000 in
theorem kX7_220 : wr_lk RX7 220 mX1_recall := Or.inl (wr_in 816 rfl rfl)
set_option maxRecDepth 20000 in
theorem kX1_45 : wr_lk RX1 45 mX1_counts := Or.inl (wr_in 820 rfl rfl)
set_option maxRecDepth 20000 in
theorem kX7_223 : wr_lk RX7 223 mX7_letByFilms := Or.inl (wr_in 824 rfl rfl)
set_option maxRecDepth 20000 in
theorem kX7_233 : wr_lk RX7 233 mX3_take := Or.inl (wr_in 828 rfl rfl)
set_option maxRecDepth 20000 in
theorem kX3_23 : wr_lk RX3 23 mX5_sightOf := Or.inl (wr_in 832 rfl rfl)
set_option maxRecDepth 20000 in
theorem kX7_265 : wr_lk RX7 265 mX1_let := Or.inl (wr_in 833 rfl rfl)
set_option maxRecDepth 20000 in
theorem kX1_61 : wr_lk RX1 61 mX3_begin := Or.inl (wr_in 837 rfl rfl)
set_option maxRecDepth 20000 in
theorem kX1_65 : wr_lk RX1 65 mX3_goOn := Or.inl (wr_in 841 rfl rfl)
set_option maxRecDepth 20000 in
theorem kX3_58 : wr_lk RX3 58 mX3_allUp := Or.inl (wr_in 845 rfl rfl)
set_option maxRecDepth 20000 in
theorem kX3_62 : wr_lk RX3 62 mX3_thoseWhoSee := Or.inl (wr_in 849 rfl rfl)
set_option maxRecDepth 20000 in
theorem kX3_76 : wr_lk RX3 76 mX5_turned := Or.inl (wr_in 853 rfl rfl)
set_option maxRecDepth 20000 in
theorem nX3_71 : Cond.constantLong RX3 71 (-1) ∈ wr_TG := wr_in 854 rfl rfl
set_option maxRecDepth 20000 in
theorem kX1_68 : wr_lk RX1 68 mX3_allUp := Or.inl (wr_in 855 rfl rfl)
set_option maxRecDepth 20000 in
theorem kL_115 : wr_lk RL 115 mX7_fit := Or.inl (wr_in 856 rfl rfl)
set_option maxRecDepth 20000 in
theorem kL_119 : wr_lk RL 119 mX7_sure := Or.inl (wr_in 860 rfl rfl)
set_option maxRecDepth 20000 in
theorem kX7_229 : wr_lk RX7 229 mX1_shownBy := Or.inl (wr_in 864 rfl rfl)
set_option maxRecDepth 20000 in
theorem kL_123 : wr_lk RL 123 mX7_same := Or.inl (wr_in 868 rfl rfl)
set_option maxRecDepth 20000 in
theorem kX7_237 : wr_lk RX7 237 mX7_goAlike := Or.inl (wr_in 872 rfl rfl)
set_option maxRecDepth 20000 in
theorem kX7_269 : wr_lk RX7 269 mX3_begin := Or.inl (wr_in 876 rfl rfl)
set_option maxRecDepth 20000 in
theorem kX7_273 : wr_lk RX7 273 mX3_goOn := Or.inl (wr_in 877 rfl rfl)
set_option maxRecDepth 20000 in
theorem kX7_276 : wr_lk RX7 276 mX3_allUp := Or.inl (wr_in 878 rfl rfl)
set_option maxRecDepth 20000 in
theorem kL_127 : wr_lk RL 127 mX7_image := Or.inl (wr_in 879 rfl rfl)
set_option maxRecDepth 20000 in
theorem kX7_241 : wr_lk RX7 241 mX7_isBox := Or.inl (wr_in 883 rfl rfl)
set_option maxRecDepth 20000 in
theorem kL_131 : wr_lk RL 131 mX7_back := Or.inl (wr_in 887 rfl rfl)
set_option maxRecDepth 20000 in
theorem kL_135 : wr_lk RL 135 mX7_seed := Or.inl (wr_in 891 rfl rfl)
set_option maxRecDepth 20000 in
theorem kL_139 : wr_lk RL 139 mX7_about := Or.inl (wr_in 895 rfl rfl)
set_option maxRecDepth 20000 in
theorem kL_12 : wr_lk RL 12 mX8_init := Or.inl (wr_in 901 rfl rfl)
set_option maxRecDepth 20000 in
theorem kX8_154 : wr_lk RX8 154 mX8_plainLaw := Or.inl (wr_in 905 rfl rfl)
set_option maxRecDepth 20000 in
theorem kX8_157 : wr_lk RX8 157 mX8_freshen := Or.inl (wr_in 909 rfl rfl)
set_option maxRecDepth 20000 in
theorem fX8_7 : wr_FL RX8 7 8 0 := ⟨by decide, by decide, Or.inl (wr_in 913 rfl rfl)⟩
set_option maxRecDepth 20000 in
theorem gX8_7 : Cond.fieldLink RX8 7 (wr_fT 8 0).1 (wr_fT 8 0).2.1 (wr_fT 8 0).2.2.1 ∈ wr_TG := wr_in 913 rfl rfl
set_option maxRecDepth 20000 in
theorem fX8_160 : wr_FL RX8 160 8 1 := ⟨by decide, by decide, Or.inl (wr_in 914 rfl rfl)⟩
set_option maxRecDepth 20000 in
theorem fX8_200 : wr_FL RX8 200 8 2 := ⟨by decide, by decide, Or.inl (wr_in 915 rfl rfl)⟩
set_option maxRecDepth 20000 in
theorem fX8_13 : wr_FL RX8 13 8 3 := ⟨by decide, by decide, Or.inl (wr_in 916 rfl rfl)⟩
set_option maxRecDepth 20000 in
theorem fX8_167 : wr_FL RX8 167 8 4 := ⟨by decide, by decide, Or.inl (wr_in 917 rfl rfl)⟩
set_option maxRecDepth 20000 in
theorem fX8_170 : wr_FL RX8 170 8 5 := ⟨by decide, by decide, Or.inl (wr_in 918 rfl rfl)⟩
set_option maxRecDepth 20000 in
theorem fX8_187 : wr_FL RX8 187 8 6 := ⟨by decide, by decide, Or.inl (wr_in 919 rfl rfl)⟩
set_option maxRecDepth 20000 in
theorem fX8_177 : wr_FL RX8 177 8 7 := ⟨by decide, by decide, Or.inl (wr_in 920 rfl rfl)⟩
set_option maxRecDepth 20000 in
theorem fX8_184 : wr_FL RX8 184 8 8 := ⟨by decide, by decide, Or.inl (wr_in 921 rfl rfl)⟩
set_option maxRecDepth 20000 in
theorem fX8_180 : wr_FL RX8 180 8 9 := ⟨by decide, by decide, Or.inl (wr_in 922 rfl rfl)⟩
set_option maxRecDepth 20000 in
theorem fX8_17 : wr_FL RX8 17 8 10 := ⟨by decide, by decide, Or.inl (wr_in 923 rfl rfl)⟩
set_option maxRecDepth 20000 in
theorem gX8_17 : Cond.fieldLink RX8 17 (wr_fT 8 10).1 (wr_fT 8 10).2.1 (wr_fT 8 10).2.2.1 ∈ wr_TG := wr_in 923 rfl rfl
set_option maxRecDepth 20000 in
theorem fX8_21 : wr_FL RX8 21 8 11 := ⟨by decide, by decide, Or.inl (wr_in 924 rfl rfl)⟩
set_option maxRecDepth 20000 in
theorem gX8_21 : Cond.fieldLink RX8 21 (wr_fT 8 11).1 (wr_fT 8 11).2.1 (wr_fT 8 11).2.2.1 ∈ wr_TG := wr_in 924 rfl rfl
set_option maxRecDepth 20000 in
theorem fX8_24 : wr_FL RX8 24 8 12 := ⟨by decide, by decide, Or.inl (wr_in 925 rfl rfl)⟩
set_option maxRecDepth 20000 in
theorem gX8_24 : Cond.fieldLink RX8 24 (wr_fT 8 12).1 (wr_fT 8 12).2.1 (wr_fT 8 12).2.2.1 ∈ wr_TG := wr_in 925 rfl rfl
set_option maxRecDepth 20000 in
theorem fX8_27 : wr_FL RX8 27 8 13 := ⟨by decide, by decide, Or.inl (wr_in 926 rfl rfl)⟩
set_option maxRecDepth 20000 in
theorem gX8_27 : Cond.fieldLink RX8 27 (wr_fT 8 13).1 (wr_fT 8 13).2.1 (wr_fT 8 13).2.2.1 ∈ wr_TG := wr_in 926 rfl rfl
set_option maxRecDepth 20000 in
theorem fX8_30 : wr_FL RX8 30 8 14 := ⟨by decide, by decide, Or.inl (wr_in 927 rfl rfl)⟩
set_option maxRecDepth 20000 in
theorem gX8_30 : Cond.fieldLink RX8 30 (wr_fT 8 14).1 (wr_fT 8 14).2.1 (wr_fT 8 14).2.2.1 ∈ wr_TG := wr_in 927 rfl rfl
set_option maxRecDepth 20000 in
theorem fX8_33 : wr_FL RX8 33 8 15 := ⟨by decide, by decide, Or.inl (wr_in 928 rfl rfl)⟩
set_option maxRecDepth 20000 in
theorem gX8_33 : Cond.fieldLink RX8 33 (wr_fT 8 15).1 (wr_fT 8 15).2.1 (wr_fT 8 15).2.2.1 ∈ wr_TG := wr_in 928 rfl rfl
set_option maxRecDepth 20000 in
theorem fX8_36 : wr_FL RX8 36 8 16 := ⟨by decide, by decide, Or.inl (wr_in 929 rfl rfl)⟩
set_option maxRecDepth 20000 in
theorem gX8_36 : Cond.fieldLink RX8 36 (wr_fT 8 16).1 (wr_fT 8 16).2.1 (wr_fT 8 16).2.2.1 ∈ wr_TG := wr_in 929 rfl rfl
set_option maxRecDepth 20000 in
theorem fX8_39 : wr_FL RX8 39 8 17 := ⟨by decide, by decide, Or.inl (wr_in 930 rfl rfl)⟩
set_option maxRecDepth 20000 in
theorem gX8_39 : Cond.fieldLink RX8 39 (wr_fT 8 17).1 (wr_fT 8 17).2.1 (wr_fT 8 17).2.2.1 ∈ wr_TG := wr_in 930 rfl rfl
set_option maxRecDepth 20000 in
theorem fX8_42 : wr_FL RX8 42 8 18 := ⟨by decide, by decide, Or.inl (wr_in 931 rfl rfl)⟩
set_option maxRecDepth 20000 in
theorem gX8_42 : Cond.fieldLink RX8 42 (wr_fT 8 18).1 (wr_fT 8 18).2.1 (wr_fT 8 18).2.2.1 ∈ wr_TG := wr_in 931 rfl rfl
set_option maxRecDepth 20000 in
theorem fX8_45 : wr_FL RX8 45 8 19 := ⟨by decide, by decide, Or.inl (wr_in 932 rfl rfl)⟩
set_option maxRecDepth 20000 in
theorem gX8_45 : Cond.fieldLink RX8 45 (wr_fT 8 19).1 (wr_fT 8 19).2.1 (wr_fT 8 19).2.2.1 ∈ wr_TG := wr_in 932 rfl rfl
set_option maxRecDepth 20000 in
theorem fX8_48 : wr_FL RX8 48 8 20 := ⟨by decide, by decide, Or.inl (wr_in 933 rfl rfl)⟩
set_option maxRecDepth 20000 in
theorem gX8_48 : Cond.fieldLink RX8 48 (wr_fT 8 20).1 (wr_fT 8 20).2.1 (wr_fT 8 20).2.2.1 ∈ wr_TG := wr_in 933 rfl rfl
set_option maxRecDepth 20000 in
theorem fX8_51 : wr_FL RX8 51 8 21 := ⟨by decide, by decide, Or.inl (wr_in 934 rfl rfl)⟩
set_option maxRecDepth 20000 in
theorem gX8_51 : Cond.fieldLink RX8 51 (wr_fT 8 21).1 (wr_fT 8 21).2.1 (wr_fT 8 21).2.2.1 ∈ wr_TG := wr_in 934 rfl rfl
set_option maxRecDepth 20000 in
theorem fX8_316 : wr_FL RX8 316 8 22 := ⟨by decide, by decide, Or.inl (wr_in 935 rfl rfl)⟩
set_option maxRecDepth 20000 in
theorem fX8_322 : wr_FL RX8 322 8 23 := ⟨by decide, by decide, Or.inl (wr_in 936 rfl rfl)⟩
set_option maxRecDepth 20000 in
theorem fX8_290 : wr_FL RX8 290 8 24 := ⟨by decide, by decide, Or.inl (wr_in 937 rfl rfl)⟩
set_option maxRecDepth 20000 in
theorem fX8_295 : wr_FL RX8 295 8 25 := ⟨by decide, by decide, Or.inl (wr_in 938 rfl rfl)⟩
set_option maxRecDepth 20000 in
theorem fX8_300 : wr_FL RX8 300 8 26 := ⟨by decide, by decide, Or.inl (wr_in 939 rfl rfl)⟩
set_option maxRecDepth 20000 in
theorem fX8_305 : wr_FL RX8 305 8 27 := ⟨by decide, by decide, Or.inl (wr_in 940 rfl rfl)⟩
set_option maxRecDepth 20000 in
theorem fX8_151 : wr_FL RX8 151 8 28 := ⟨by decide, by decide, Or.inl (wr_in 941 rfl rfl)⟩
set_option maxRecDepth 20000 in
theorem fX8_375 : wr_FL RX8 375 8 29 := ⟨by decide, by decide, Or.inl (wr_in 942 rfl rfl)⟩
set_option maxRecDepth 20000 in
theorem fX8_354 : wr_FL RX8 354 8 30 := ⟨by decide, by decide, Or.inl (wr_in 943 rfl rfl)⟩
set_option maxRecDepth 20000 in
theorem fX8_357 : wr_FL RX8 357 8 31 := ⟨by decide, by decide, Or.inl (wr_in 944 rfl rfl)⟩
set_option maxRecDepth 20000 in
theorem fX8_360 : wr_FL RX8 360 8 32 := ⟨by decide, by decide, Or.inl (wr_in 945 rfl rfl)⟩
set_option maxRecDepth 20000 in
theorem fX8_363 : wr_FL RX8 363 8 33 := ⟨by decide, by decide, Or.inl (wr_in 946 rfl rfl)⟩
set_option maxRecDepth 20000 in
theorem fX8_319 : wr_FL RX8 319 8 34 := ⟨by decide, by decide, Or.inl (wr_in 947 rfl rfl)⟩
set_option maxRecDepth 20000 in
theorem fX8_333 : wr_FL RX8 333 8 35 := ⟨by decide, by decide, Or.inl (wr_in 948 rfl rfl)⟩
set_option maxRecDepth 20000 in
theorem fX8_280 : wr_FL RX8 280 8 36 := ⟨by decide, by decide, Or.inl (wr_in 949 rfl rfl)⟩
set_option maxRecDepth 20000 in
theorem fX8_54 : wr_FL RX8 54 8 37 := ⟨by decide, by decide, Or.inl (wr_in 950 rfl rfl)⟩
set_option maxRecDepth 20000 in
theorem gX8_54 : Cond.fieldLink RX8 54 (wr_fT 8 37).1 (wr_fT 8 37).2.1 (wr_fT 8 37).2.2.1 ∈ wr_TG := wr_in 950 rfl rfl
set_option maxRecDepth 20000 in
theorem fX8_57 : wr_FL RX8 57 8 38 := ⟨by decide, by decide, Or.inl (wr_in 951 rfl rfl)⟩
set_option maxRecDepth 20000 in
theorem gX8_57 : Cond.fieldLink RX8 57 (wr_fT 8 38).1 (wr_fT 8 38).2.1 (wr_fT 8 38).2.2.1 ∈ wr_TG := wr_in 951 rfl rfl
set_option maxRecDepth 20000 in
theorem fX8_60 : wr_FL RX8 60 8 39 := ⟨by decide, by decide, Or.inl (wr_in 952 rfl rfl)⟩
set_option maxRecDepth 20000 in
theorem gX8_60 : Cond.fieldLink RX8 60 (wr_fT 8 39).1 (wr_fT 8 39).2.1 (wr_fT 8 39).2.2.1 ∈ wr_TG := wr_in 952 rfl rfl
set_option maxRecDepth 20000 in
theorem fX8_63 : wr_FL RX8 63 8 40 := ⟨by decide, by decide, Or.inl (wr_in 953 rfl rfl)⟩
set_option maxRecDepth 20000 in
theorem gX8_63 : Cond.fieldLink RX8 63 (wr_fT 8 40).1 (wr_fT 8 40).2.1 (wr_fT 8 40).2.2.1 ∈ wr_TG := wr_in 953 rfl rfl
set_option maxRecDepth 20000 in
theorem fX8_66 : wr_FL RX8 66 8 41 := ⟨by decide, by decide, Or.inl (wr_in 954 rfl rfl)⟩
set_option maxRecDepth 20000 in
theorem gX8_66 : Cond.fieldLink RX8 66 (wr_fT 8 41).1 (wr_fT 8 41).2.1 (wr_fT 8 41).2.2.1 ∈ wr_TG := wr_in 954 rfl rfl
set_option maxRecDepth 20000 in
theorem fX8_69 : wr_FL RX8 69 8 42 := ⟨by decide, by decide, Or.inl (wr_in 955 rfl rfl)⟩
set_option maxRecDepth 20000 in
theorem gX8_69 : Cond.fieldLink RX8 69 (wr_fT 8 42).1 (wr_fT 8 42).2.1 (wr_fT 8 42).2.2.1 ∈ wr_TG := wr_in 955 rfl rfl
set_option maxRecDepth 20000 in
theorem fX8_221 : wr_FL RX8 221 8 43 := ⟨by decide, by decide, Or.inl (wr_in 956 rfl rfl)⟩
set_option maxRecDepth 20000 in
theorem fX8_369 : wr_FL RX8 369 8 44 := ⟨by decide, by decide, Or.inl (wr_in 957 rfl rfl)⟩
set_option maxRecDepth 20000 in
theorem fX8_260 : wr_FL RX8 260 8 45 := ⟨by decide, by decide, Or.inl (wr_in 958 rfl rfl)⟩
set_option maxRecDepth 20000 in
theorem fX8_366 : wr_FL RX8 366 8 46 := ⟨by decide, by decide, Or.inl (wr_in 959 rfl rfl)⟩
set_option maxRecDepth 20000 in
theorem fX8_224 : wr_FL RX8 224 8 47 := ⟨by decide, by decide, Or.inl (wr_in 960 rfl rfl)⟩
set_option maxRecDepth 20000 in
theorem fX8_227 : wr_FL RX8 227 8 48 := ⟨by decide, by decide, Or.inl (wr_in 961 rfl rfl)⟩
set_option maxRecDepth 20000 in
theorem fX8_72 : wr_FL RX8 72 8 49 := ⟨by decide, by decide, Or.inl (wr_in 962 rfl rfl)⟩
set_option maxRecDepth 20000 in
theorem gX8_72 : Cond.fieldLink RX8 72 (wr_fT 8 49).1 (wr_fT 8 49).2.1 (wr_fT 8 49).2.2.1 ∈ wr_TG := wr_in 962 rfl rfl
set_option maxRecDepth 20000 in
theorem fX8_75 : wr_FL RX8 75 8 50 := ⟨by decide, by decide, Or.inl (wr_in 963 rfl rfl)⟩
set_option maxRecDepth 20000 in
theorem gX8_75 : Cond.fieldLink RX8 75 (wr_fT 8 50).1 (wr_fT 8 50).2.1 (wr_fT 8 50).2.2.1 ∈ wr_TG := wr_in 963 rfl rfl
set_option maxRecDepth 20000 in
theorem fX8_78 : wr_FL RX8 78 8 51 := ⟨by decide, by decide, Or.inl (wr_in 964 rfl rfl)⟩
set_option maxRecDepth 20000 in
theorem gX8_78 : Cond.fieldLink RX8 78 (wr_fT 8 51).1 (wr_fT 8 51).2.1 (wr_fT 8 51).2.2.1 ∈ wr_TG := wr_in 964 rfl rfl
set_option maxRecDepth 20000 in
theorem fX8_81 : wr_FL RX8 81 8 52 := ⟨by decide, by decide, Or.inl (wr_in 965 rfl rfl)⟩
set_option maxRecDepth 20000 in
theorem gX8_81 : Cond.fieldLink RX8 81 (wr_fT 8 52).1 (wr_fT 8 52).2.1 (wr_fT 8 52).2.2.1 ∈ wr_TG := wr_in 965 rfl rfl
set_option maxRecDepth 20000 in
theorem fX8_84 : wr_FL RX8 84 8 53 := ⟨by decide, by decide, Or.inl (wr_in 966 rfl rfl)⟩
set_option maxRecDepth 20000 in
theorem gX8_84 : Cond.fieldLink RX8 84 (wr_fT 8 53).1 (wr_fT 8 53).2.1 (wr_fT 8 53).2.2.1 ∈ wr_TG := wr_in 966 rfl rfl
set_option maxRecDepth 20000 in
theorem fX8_87 : wr_FL RX8 87 8 54 := ⟨by decide, by decide, Or.inl (wr_in 967 rfl rfl)⟩
set_option maxRecDepth 20000 in
theorem gX8_87 : Cond.fieldLink RX8 87 (wr_fT 8 54).1 (wr_fT 8 54).2.1 (wr_fT 8 54).2.2.1 ∈ wr_TG := wr_in 967 rfl rfl
set_option maxRecDepth 20000 in
theorem fX8_90 : wr_FL RX8 90 8 55 := ⟨by decide, by decide, Or.inl (wr_in 968 rfl rfl)⟩
set_option maxRecDepth 20000 in
theorem gX8_90 : Cond.fieldLink RX8 90 (wr_fT 8 55).1 (wr_fT 8 55).2.1 (wr_fT 8 55).2.2.1 ∈ wr_TG := wr_in 968 rfl rfl
set_option maxRecDepth 20000 in
theorem fX8_93 : wr_FL RX8 93 8 56 := ⟨by decide, by decide, Or.inl (wr_in 969 rfl rfl)⟩
set_option maxRecDepth 20000 in
theorem gX8_93 : Cond.fieldLink RX8 93 (wr_fT 8 56).1 (wr_fT 8 56).2.1 (wr_fT 8 56).2.2.1 ∈ wr_TG := wr_in 969 rfl rfl
set_option maxRecDepth 20000 in
theorem fX8_381 : wr_FL RX8 381 8 57 := ⟨by decide, by decide, Or.inl (wr_in 970 rfl rfl)⟩
set_option maxRecDepth 20000 in
theorem fX8_384 : wr_FL RX8 384 8 58 := ⟨by decide, by decide, Or.inl (wr_in 971 rfl rfl)⟩
set_option maxRecDepth 20000 in
theorem fX8_96 : wr_FL RX8 96 8 59 := ⟨by decide, by decide, Or.inl (wr_in 972 rfl rfl)⟩
set_option maxRecDepth 20000 in
theorem fX8_387 : wr_FL RX8 387 8 60 := ⟨by decide, by decide, Or.inl (wr_in 973 rfl rfl)⟩
set_option maxRecDepth 20000 in
theorem fX8_390 : wr_FL RX8 390 8 61 := ⟨by decide, by decide, Or.inl (wr_in 974 rfl rfl)⟩
set_option maxRecDepth 20000 in
theorem fX8_99 : wr_FL RX8 99 8 62 := ⟨by decide, by decide, Or.inl (wr_in 975 rfl rfl)⟩
set_option maxRecDepth 20000 in
theorem gX8_99 : Cond.fieldLink RX8 99 (wr_fT 8 62).1 (wr_fT 8 62).2.1 (wr_fT 8 62).2.2.1 ∈ wr_TG := wr_in 975 rfl rfl
set_option maxRecDepth 20000 in
theorem fX8_102 : wr_FL RX8 102 8 63 := ⟨by decide, by decide, Or.inl (wr_in 976 rfl rfl)⟩
set_option maxRecDepth 20000 in
theorem gX8_102 : Cond.fieldLink RX8 102 (wr_fT 8 63).1 (wr_fT 8 63).2.1 (wr_fT 8 63).2.2.1 ∈ wr_TG := wr_in 976 rfl rfl
set_option maxRecDepth 20000 in
theorem fX8_105 : wr_FL RX8 105 8 64 := ⟨by decide, by decide, Or.inl (wr_in 977 rfl rfl)⟩
set_option maxRecDepth 20000 in
theorem gX8_105 : Cond.fieldLink RX8 105 (wr_fT 8 64).1 (wr_fT 8 64).2.1 (wr_fT 8 64).2.2.1 ∈ wr_TG := wr_in 977 rfl rfl
set_option maxRecDepth 20000 in
theorem fX8_108 : wr_FL RX8 108 8 65 := ⟨by decide, by decide, Or.inl (wr_in 978 rfl rfl)⟩
set_option maxRecDepth 20000 in
theorem gX8_108 : Cond.fieldLink RX8 108 (wr_fT 8 65).1 (wr_fT 8 65).2.1 (wr_fT 8 65).2.2.1 ∈ wr_TG := wr_in 978 rfl rfl
set_option maxRecDepth 20000 in
theorem fX8_112 : wr_FL RX8 112 8 66 := ⟨by decide, by decide, Or.inl (wr_in 979 rfl rfl)⟩
set_option maxRecDepth 20000 in
theorem gX8_112 : Cond.fieldLink RX8 112 (wr_fT 8 66).1 (wr_fT 8 66).2.1 (wr_fT 8 66).2.2.1 ∈ wr_TG := wr_in 979 rfl rfl
set_option maxRecDepth 20000 in
theorem fX8_115 : wr_FL RX8 115 8 67 := ⟨by decide, by decide, Or.inl (wr_in 980 rfl rfl)⟩
set_option maxRecDepth 20000 in
theorem gX8_115 : Cond.fieldLink RX8 115 (wr_fT 8 67).1 (wr_fT 8 67).2.1 (wr_fT 8 67).2.2.1 ∈ wr_TG := wr_in 980 rfl rfl
set_option maxRecDepth 20000 in
theorem fX8_118 : wr_FL RX8 118 8 68 := ⟨by decide, by decide, Or.inl (wr_in 981 rfl rfl)⟩
set_option maxRecDepth 20000 in
theorem gX8_118 : Cond.fieldLink RX8 118 (wr_fT 8 68).1 (wr_fT 8 68).2.1 (wr_fT 8 68).2.2.1 ∈ wr_TG := wr_in 981 rfl rfl
set_option maxRecDepth 20000 in
theorem fX8_378 : wr_FL RX8 378 8 69 := ⟨by decide, by decide, Or.inl (wr_in 982 rfl rfl)⟩
set_option maxRecDepth 20000 in
theorem fX8_473 : wr_FL RX8 473 8 70 := ⟨by decide, by decide, Or.inl (wr_in 983 rfl rfl)⟩
set_option maxRecDepth 20000 in
theorem fX8_477 : wr_FL RX8 477 8 71 := ⟨by decide, by decide, Or.inl (wr_in 984 rfl rfl)⟩
set_option maxRecDepth 20000 in
theorem fX8_121 : wr_FL RX8 121 8 72 := ⟨by decide, by decide, Or.inl (wr_in 985 rfl rfl)⟩
set_option maxRecDepth 20000 in
theorem gX8_121 : Cond.fieldLink RX8 121 (wr_fT 8 72).1 (wr_fT 8 72).2.1 (wr_fT 8 72).2.2.1 ∈ wr_TG := wr_in 985 rfl rfl
set_option maxRecDepth 20000 in
theorem fX8_124 : wr_FL RX8 124 8 73 := ⟨by decide, by decide, Or.inl (wr_in 986 rfl rfl)⟩
set_option maxRecDepth 20000 in
theorem gX8_124 : Cond.fieldLink RX8 124 (wr_fT 8 73).1 (wr_fT 8 73).2.1 (wr_fT 8 73).2.2.1 ∈ wr_TG := wr_in 986 rfl rfl
set_option maxRecDepth 20000 in
theorem fX8_127 : wr_FL RX8 127 8 74 := ⟨by decide, by decide, Or.inl (wr_in 987 rfl rfl)⟩
set_option maxRecDepth 20000 in
theorem gX8_127 : Cond.fieldLink RX8 127 (wr_fT 8 74).1 (wr_fT 8 74).2.1 (wr_fT 8 74).2.2.1 ∈ wr_TG := wr_in 987 rfl rfl
set_option maxRecDepth 20000 in
theorem fX8_130 : wr_FL RX8 130 8 75 := ⟨by decide, by decide, Or.inl (wr_in 988 rfl rfl)⟩
set_option maxRecDepth 20000 in
theorem gX8_130 : Cond.fieldLink RX8 130 (wr_fT 8 75).1 (wr_fT 8 75).2.1 (wr_fT 8 75).2.2.1 ∈ wr_TG := wr_in 988 rfl rfl
set_option maxRecDepth 20000 in
theorem fX8_133 : wr_FL RX8 133 8 76 := ⟨by decide, by decide, Or.inl (wr_in 989 rfl rfl)⟩
set_option maxRecDepth 20000 in
theorem gX8_133 : Cond.fieldLink RX8 133 (wr_fT 8 76).1 (wr_fT 8 76).2.1 (wr_fT 8 76).2.2.1 ∈ wr_TG := wr_in 989 rfl rfl
set_option maxRecDepth 20000 in
theorem fX8_136 : wr_FL RX8 136 8 77 := ⟨by decide, by decide, Or.inl (wr_in 990 rfl rfl)⟩
set_option maxRecDepth 20000 in
theorem gX8_136 : Cond.fieldLink RX8 136 (wr_fT 8 77).1 (wr_fT 8 77).2.1 (wr_fT 8 77).2.2.1 ∈ wr_TG := wr_in 990 rfl rfl
set_option maxRecDepth 20000 in
theorem fX8_139 : wr_FL RX8 139 8 78 := ⟨by decide, by decide, Or.inl (wr_in 991 rfl rfl)⟩
set_option maxRecDepth 20000 in
theorem gX8_139 : Cond.fieldLink RX8 139 (wr_fT 8 78).1 (wr_fT 8 78).2.1 (wr_fT 8 78).2.2.1 ∈ wr_TG := wr_in 991 rfl rfl
set_option maxRecDepth 20000 in
theorem fX8_142 : wr_FL RX8 142 8 79 := ⟨by decide, by decide, Or.inl (wr_in 992 rfl rfl)⟩
set_option maxRecDepth 20000 in
theorem gX8_142 : Cond.fieldLink RX8 142 (wr_fT 8 79).1 (wr_fT 8 79).2.1 (wr_fT 8 79).2.2.1 ∈ wr_TG := wr_in 992 rfl rfl
set_option maxRecDepth 20000 in
theorem fX8_145 : wr_FL RX8 145 8 80 := ⟨by decide, by decide, Or.inl (wr_in 993 rfl rfl)⟩
set_option maxRecDepth 20000 in
theorem gX8_145 : Cond.fieldLink RX8 145 (wr_fT 8 80).1 (wr_fT 8 80).2.1 (wr_fT 8 80).2.2.1 ∈ wr_TG := wr_in 993 rfl rfl
set_option maxRecDepth 20000 in
theorem fX8_148 : wr_FL RX8 148 8 81 := ⟨by decide, by decide, Or.inl (wr_in 994 rfl rfl)⟩
set_option maxRecDepth 20000 in
theorem gX8_148 : Cond.fieldLink RX8 148 (wr_fT 8 81).1 (wr_fT 8 81).2.1 (wr_fT 8 81).2.2.1 ∈ wr_TG := wr_in 994 rfl rfl
set_option maxRecDepth 20000 in
theorem kL_17 : wr_lk RL 17 mX8_feed := Or.inl (wr_in 1160 rfl rfl)
set_option maxRecDepth 20000 in
theorem kX8_163 : wr_lk RX8 163 mX8_four := Or.inl (wr_in 1164 rfl rfl)
set_option maxRecDepth 20000 in
theorem kL_22 : wr_lk RL 22 mX8_end := Or.inl (wr_in 1168 rfl rfl)
set_option maxRecDepth 20000 in
theorem kL_27 : wr_lk RL 27 mX8_ring := Or.inl (wr_in 1172 rfl rfl)
set_option maxRecDepth 20000 in
theorem kX8_210 : wr_lk RX8 210 mX8_token := Or.inl (wr_in 1176 rfl rfl)
set_option maxRecDepth 20000 in
theorem kX8_173 : wr_lk RX8 173 mX8_here := Or.inl (wr_in 1180 rfl rfl)
set_option maxRecDepth 20000 in
theorem kX8_190 : wr_lk RX8 190 mX8_isLetter := Or.inl (wr_in 1184 rfl rfl)
set_option maxRecDepth 20000 in
theorem kX8_194 : wr_lk RX8 194 mX8_isDigit := Or.inl (wr_in 1187 rfl rfl)
set_option maxRecDepth 20000 in
theorem kX8_197 : wr_lk RX8 197 mX8_isSign := Or.inl (wr_in 1190 rfl rfl)
set_option maxRecDepth 20000 in
theorem kX8_372 : wr_lk RX8 372 mX8_readLine := Or.inl (wr_in 1193 rfl rfl)
set_option maxRecDepth 20000 in
theorem nX8_336 : Cond.constantLong RX8 336 (495622124659) ∈ wr_TG := wr_in 1197 rfl rfl
set_option maxRecDepth 20000 in
theorem kX8_203 : wr_lk RX8 203 mX8_isWord := Or.inl (wr_in 1198 rfl rfl)
set_option maxRecDepth 20000 in
theorem kX8_338 : wr_lk RX8 338 mX8_readSeats := Or.inl (wr_in 1202 rfl rfl)
set_option maxRecDepth 20000 in
theorem kX8_217 : wr_lk RX8 217 mX8_toldNumber := Or.inl (wr_in 1206 rfl rfl)
set_option maxRecDepth 20000 in
theorem kX8_207 : wr_lk RX8 207 mX8_wrong := Or.inl (wr_in 1210 rfl rfl)
set_option maxRecDepth 20000 in
theorem nX8_329 : Cond.constantLong RX8 329 (1684365682) ∈ wr_TG := wr_in 1214 rfl rfl
set_option maxRecDepth 20000 in
theorem nX8_331 : Cond.constantLong RX8 331 (6775152) ∈ wr_TG := wr_in 1215 rfl rfl
set_option maxRecDepth 20000 in
theorem nX8_341 : Cond.constantLong RX8 341 (6710647) ∈ wr_TG := wr_in 1216 rfl rfl
set_option maxRecDepth 20000 in
theorem kX8_343 : wr_lk RX8 343 mX8_readRow := Or.inl (wr_in 1217 rfl rfl)
set_option maxRecDepth 20000 in
theorem nX8_325 : Cond.constantLong RX8 325 (29807) ∈ wr_TG := wr_in 1221 rfl rfl
set_option maxRecDepth 20000 in
theorem kX8_286 : wr_lk RX8 286 mX8_told := Or.inl (wr_in 1222 rfl rfl)
set_option maxRecDepth 20000 in
theorem kX8_213 : wr_lk RX8 213 mX8_want := Or.inl (wr_in 1226 rfl rfl)
set_option maxRecDepth 20000 in
theorem nX8_245 : Cond.constantLong RX8 245 (495739560811) ∈ wr_TG := wr_in 1230 rfl rfl
set_option maxRecDepth 20000 in
theorem kX8_346 : wr_lk RX8 346 mX8_readSlack := Or.inl (wr_in 1231 rfl rfl)
set_option maxRecDepth 20000 in
theorem nX8_327 : Cond.constantLong RX8 327 (25209) ∈ wr_TG := wr_in 1235 rfl rfl
set_option maxRecDepth 20000 in
theorem nX8_349 : Cond.constantLong RX8 349 (7102839) ∈ wr_TG := wr_in 1236 rfl rfl
set_option maxRecDepth 20000 in
theorem kX8_351 : wr_lk RX8 351 mX8_readLaw := Or.inl (wr_in 1237 rfl rfl)
set_option maxRecDepth 20000 in
theorem nX8_284 : Cond.constantLong RX8 284 (30064) ∈ wr_TG := wr_in 1241 rfl rfl
set_option maxRecDepth 20000 in
theorem nX8_293 : Cond.constantLong RX8 293 (1919251316) ∈ wr_TG := wr_in 1242 rfl rfl
set_option maxRecDepth 20000 in
theorem nX8_298 : Cond.constantLong RX8 298 (1936024947) ∈ wr_TG := wr_in 1243 rfl rfl
set_option maxRecDepth 20000 in
theorem nX8_303 : Cond.constantLong RX8 303 (7563385) ∈ wr_TG := wr_in 1244 rfl rfl
set_option maxRecDepth 20000 in
theorem nX8_308 : Cond.constantLong RX8 308 (2003330414) ∈ wr_TG := wr_in 1245 rfl rfl
set_option maxRecDepth 20000 in
theorem kX8_270 : wr_lk RX8 270 mX8_isOpen := Or.inl (wr_in 1246 rfl rfl)
set_option maxRecDepth 20000 in
theorem kX8_310 : wr_lk RX8 310 mX8_sign := Or.inl (wr_in 1250 rfl rfl)
set_option maxRecDepth 20000 in
theorem nX8_266 : Cond.constantLong RX8 266 (6385252) ∈ wr_TG := wr_in 1254 rfl rfl
set_option maxRecDepth 20000 in
theorem nX8_268 : Cond.constantLong RX8 268 (28530) ∈ wr_TG := wr_in 1255 rfl rfl
set_option maxRecDepth 20000 in
theorem kX8_274 : wr_lk RX8 274 mX8_settle := Or.inl (wr_in 1256 rfl rfl)
set_option maxRecDepth 20000 in
theorem kX8_234 : wr_lk RX8 234 mX8_upper := Or.inl (wr_in 1260 rfl rfl)
set_option maxRecDepth 20000 in
theorem kX8_238 : wr_lk RX8 238 mX8_pop := Or.inl (wr_in 1264 rfl rfl)
set_option maxRecDepth 20000 in
theorem kX8_230 : wr_lk RX8 230 mX8_note := Or.inl (wr_in 1268 rfl rfl)
set_option maxRecDepth 20000 in
theorem kX8_277 : wr_lk RX8 277 mX8_rank := Or.inl (wr_in 1272 rfl rfl)
set_option maxRecDepth 20000 in
theorem kX8_263 : wr_lk RX8 263 mX8_hold := Or.inl (wr_in 1275 rfl rfl)
set_option maxRecDepth 20000 in
theorem kX8_313 : wr_lk RX8 313 mX8_operand := Or.inl (wr_in 1279 rfl rfl)
set_option maxRecDepth 20000 in
theorem nX8_255 : Cond.constantLong RX8 255 (7237492) ∈ wr_TG := wr_in 1283 rfl rfl
set_option maxRecDepth 20000 in
theorem kX8_257 : wr_lk RX8 257 mX8_known := Or.inl (wr_in 1284 rfl rfl)
set_option maxRecDepth 20000 in
theorem nX8_241 : Cond.constantLong RX8 241 (1818584692) ∈ wr_TG := wr_in 1288 rfl rfl
set_option maxRecDepth 20000 in
theorem nX8_243 : Cond.constantLong RX8 243 (491394656372) ∈ wr_TG := wr_in 1289 rfl rfl
set_option maxRecDepth 20000 in
theorem nX8_247 : Cond.constantLong RX8 247 (418548245860) ∈ wr_TG := wr_in 1290 rfl rfl
set_option maxRecDepth 20000 in
theorem nX8_249 : Cond.constantLong RX8 249 (1919906661) ∈ wr_TG := wr_in 1291 rfl rfl
set_option maxRecDepth 20000 in
theorem nX8_251 : Cond.constantLong RX8 251 (7696499) ∈ wr_TG := wr_in 1292 rfl rfl
set_option maxRecDepth 20000 in
theorem nX8_253 : Cond.constantLong RX8 253 (499917943912) ∈ wr_TG := wr_in 1293 rfl rfl
set_option maxRecDepth 20000 in
theorem kL_31 : wr_lk RL 31 mX8_fault := Or.inl (wr_in 1294 rfl rfl)
set_option maxRecDepth 20000 in
theorem kL_35 : wr_lk RL 35 mX8_tryNow := Or.inl (wr_in 1298 rfl rfl)
set_option maxRecDepth 20000 in
theorem kX8_427 : wr_lk RX8 427 mX8_tries := Or.inl (wr_in 1302 rfl rfl)
set_option maxRecDepth 20000 in
theorem kL_39 : wr_lk RL 39 mX8_run := Or.inl (wr_in 1306 rfl rfl)
set_option maxRecDepth 20000 in
theorem nX8_430 : Cond.constant RX8 430 (1000000) ∈ wr_TG := wr_in 1310 rfl rfl
set_option maxRecDepth 20000 in
theorem kX8_431 : wr_lk RX8 431 mX8_step := Or.inl (wr_in 1311 rfl rfl)
set_option maxRecDepth 20000 in
theorem kX8_414 : wr_lk RX8 414 mX8_ups := Or.inl (wr_in 1315 rfl rfl)
set_option maxRecDepth 20000 in
theorem kX8_393 : wr_lk RX8 393 mX8_isUp := Or.inl (wr_in 1319 rfl rfl)
set_option maxRecDepth 20000 in
theorem kX8_417 : wr_lk RX8 417 mX8_wants := Or.inl (wr_in 1322 rfl rfl)
set_option maxRecDepth 20000 in
theorem kX8_406 : wr_lk RX8 406 mX8_askedOf := Or.inl (wr_in 1326 rfl rfl)
set_option maxRecDepth 20000 in
theorem kX8_399 : wr_lk RX8 399 mX8_seen := Or.inl (wr_in 1330 rfl rfl)
set_option maxRecDepth 20000 in
theorem kX8_396 : wr_lk RX8 396 mX8_wrap := Or.inl (wr_in 1334 rfl rfl)
set_option maxRecDepth 20000 in
theorem kX8_403 : wr_lk RX8 403 mX8_slackNow := Or.inl (wr_in 1338 rfl rfl)
set_option maxRecDepth 20000 in
theorem kX8_410 : wr_lk RX8 410 mX8_worked := Or.inl (wr_in 1342 rfl rfl)
set_option maxRecDepth 20000 in
theorem kX8_421 : wr_lk RX8 421 mX8_draw := Or.inl (wr_in 1345 rfl rfl)
set_option maxRecDepth 20000 in
theorem nX8_413 : Cond.constant RX8 413 (1103515245) ∈ wr_TG := wr_in 1349 rfl rfl
set_option maxRecDepth 20000 in
theorem kX8_424 : wr_lk RX8 424 mX8_behind := Or.inl (wr_in 1350 rfl rfl)
set_option maxRecDepth 20000 in
theorem kL_44 : wr_lk RL 44 mX8_seat := Or.inl (wr_in 1353 rfl rfl)
set_option maxRecDepth 20000 in
theorem kX8_435 : wr_lk RX8 435 mX8_isSeat := Or.inl (wr_in 1357 rfl rfl)
set_option maxRecDepth 20000 in
theorem kL_48 : wr_lk RL 48 mX8_would := Or.inl (wr_in 1361 rfl rfl)
set_option maxRecDepth 20000 in
theorem kX8_438 : wr_lk RX8 438 mX8_wouldRise := Or.inl (wr_in 1365 rfl rfl)
set_option maxRecDepth 20000 in
theorem kL_52 : wr_lk RL 52 mX8_way := Or.inl (wr_in 1369 rfl rfl)
set_option maxRecDepth 20000 in
theorem kL_56 : wr_lk RL 56 mX8_wide := Or.inl (wr_in 1373 rfl rfl)
set_option maxRecDepth 20000 in
theorem kL_60 : wr_lk RL 60 mX8_waves := Or.inl (wr_in 1377 rfl rfl)
set_option maxRecDepth 20000 in
theorem kX8_441 : wr_lk RX8 441 mX8_waveMany := Or.inl (wr_in 1381 rfl rfl)
set_option maxRecDepth 20000 in
theorem kL_64 : wr_lk RL 64 mX8_till := Or.inl (wr_in 1385 rfl rfl)
set_option maxRecDepth 20000 in
theorem kX8_444 : wr_lk RX8 444 mX8_put := Or.inl (wr_in 1389 rfl rfl)
set_option maxRecDepth 20000 in
theorem kX8_447 : wr_lk RX8 447 mX8_bring := Or.inl (wr_in 1393 rfl rfl)
set_option maxRecDepth 20000 in
theorem kL_68 : wr_lk RL 68 mX8_dies := Or.inl (wr_in 1397 rfl rfl)
set_option maxRecDepth 20000 in
theorem kL_72 : wr_lk RL 72 mX8_lives := Or.inl (wr_in 1401 rfl rfl)
set_option maxRecDepth 20000 in
theorem kX8_456 : wr_lk RX8 456 mX8_isMany := Or.inl (wr_in 1405 rfl rfl)
set_option maxRecDepth 20000 in
theorem kX8_459 : wr_lk RX8 459 mX8_livesBy := Or.inl (wr_in 1409 rfl rfl)
set_option maxRecDepth 20000 in
theorem kX8_450 : wr_lk RX8 450 mX8_start := Or.inl (wr_in 1413 rfl rfl)
set_option maxRecDepth 20000 in
theorem kX8_453 : wr_lk RX8 453 mX8_life := Or.inl (wr_in 1417 rfl rfl)
set_option maxRecDepth 20000 in
theorem kL_76 : wr_lk RL 76 mX8_fewest := Or.inl (wr_in 1421 rfl rfl)
set_option maxRecDepth 20000 in
theorem kL_80 : wr_lk RL 80 mX8_best := Or.inl (wr_in 1425 rfl rfl)
set_option maxRecDepth 20000 in
theorem kL_85 : wr_lk RL 85 mX8_jumps := Or.inl (wr_in 1429 rfl rfl)
set_option maxRecDepth 20000 in
theorem kL_89 : wr_lk RL 89 mX8_meet := Or.inl (wr_in 1433 rfl rfl)
set_option maxRecDepth 20000 in
theorem kL_94 : wr_lk RL 94 mX8_odds := Or.inl (wr_in 1437 rfl rfl)
set_option maxRecDepth 20000 in
theorem nX8_463 : Cond.constantLong RX8 463 (-1) ∈ wr_TG := wr_in 1441 rfl rfl
set_option maxRecDepth 20000 in
theorem nX8_465 : Cond.constantLong RX8 465 (-2) ∈ wr_TG := wr_in 1442 rfl rfl
set_option maxRecDepth 20000 in
theorem nX8_467 : Cond.constantLong RX8 467 (10) ∈ wr_TG := wr_in 1443 rfl rfl
set_option maxRecDepth 20000 in
theorem kX8_469 : wr_lk RX8 469 mX8_common := Or.inl (wr_in 1444 rfl rfl)
set_option maxRecDepth 20000 in
theorem kL_101 : wr_lk RL 101 mX8_film := Or.inl (wr_in 1447 rfl rfl)
set_option maxRecDepth 20000 in
theorem kL_106 : wr_lk RL 106 mX8_untell := Or.inl (wr_in 1451 rfl rfl)
set_option maxRecDepth 20000 in
theorem kL_110 : wr_lk RL 110 mX8_later := Or.inl (wr_in 1455 rfl rfl)
set_option maxRecDepth 20000 in
theorem nX8_476 : Cond.constant RX8 476 (100000) ∈ wr_TG := wr_in 1459 rfl rfl
set_option maxRecDepth 20000 in
theorem kL_114 : wr_lk RL 114 mX8_fits := Or.inl (wr_in 1460 rfl rfl)
set_option maxRecDepth 20000 in
theorem kX8_497 : wr_lk RX8 497 mX8_seekFits := Or.inl (wr_in 1464 rfl rfl)
set_option maxRecDepth 20000 in
theorem kX8_491 : wr_lk RX8 491 mX8_layOut := Or.inl (wr_in 1468 rfl rfl)
set_option maxRecDepth 20000 in
theorem kX8_494 : wr_lk RX8 494 mX8_fitsAll := Or.inl (wr_in 1472 rfl rfl)
set_option maxRecDepth 20000 in
theorem kX8_480 : wr_lk RX8 480 mX8_startPlain := Or.inl (wr_in 1476 rfl rfl)
set_option maxRecDepth 20000 in
theorem kX8_484 : wr_lk RX8 484 mX8_stepPlain := Or.inl (wr_in 1480 rfl rfl)
set_option maxRecDepth 20000 in
theorem kX8_487 : wr_lk RX8 487 mX8_upsOf := Or.inl (wr_in 1484 rfl rfl)
set_option maxRecDepth 20000 in
theorem kL_118 : wr_lk RL 118 mX8_fit := Or.inl (wr_in 1488 rfl rfl)
set_option maxRecDepth 20000 in
theorem kL_122 : wr_lk RL 122 mX8_sure := Or.inl (wr_in 1492 rfl rfl)
set_option maxRecDepth 20000 in
theorem kL_126 : wr_lk RL 126 mX8_same := Or.inl (wr_in 1496 rfl rfl)
set_option maxRecDepth 20000 in
theorem kX8_500 : wr_lk RX8 500 mX8_isLaw := Or.inl (wr_in 1500 rfl rfl)
set_option maxRecDepth 20000 in
theorem kL_130 : wr_lk RL 130 mX8_image := Or.inl (wr_in 1503 rfl rfl)
set_option maxRecDepth 20000 in
theorem kX8_503 : wr_lk RX8 503 mX8_isBox := Or.inl (wr_in 1507 rfl rfl)
set_option maxRecDepth 20000 in
theorem kL_134 : wr_lk RL 134 mX8_back := Or.inl (wr_in 1510 rfl rfl)
set_option maxRecDepth 20000 in
theorem kL_138 : wr_lk RL 138 mX8_seed := Or.inl (wr_in 1514 rfl rfl)
set_option maxRecDepth 20000 in
theorem kL_142 : wr_lk RL 142 mX8_about := Or.inl (wr_in 1518 rfl rfl)
set_option maxRecDepth 20000 in
theorem nL_95 : Cond.constantLong RL 95 (4294967295) ∈ wr_TG := wr_in 1522 rfl rfl
