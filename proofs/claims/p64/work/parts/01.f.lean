set_option maxRecDepth 100000 in
theorem g593 : Cond.code yX2_sellOne prog_4_method_8_code 3 (Option.none : Option Jvm.ClassFile.FieldType) ∈ Gw := Gw_of 593 rfl rfl
theorem g594 : Cond.methodLink "PledgeHouse$Sale" 86 yX2_firstKind ∈ Gw := Gw_of 594 (by decide +kernel) (by decide +kernel)
theorem g595 : Cond.instanceMethod yX2_firstKind ∈ Gw := Gw_of 595 (by decide +kernel) (by decide +kernel)
theorem g596 : Cond.selects "PledgeHouse$Sale" yX2_firstKind yX2_firstKind ∈ Gw := Gw_of 596 (by decide +kernel) (by decide +kernel)
set_option maxRecDepth 100000 in
theorem g597 : Cond.code yX2_firstKind prog_4_method_9_code 3 (Option.some Jvm.ClassFile.FieldType.int) ∈ Gw := Gw_of 597 rfl rfl
theorem g598 : Cond.methodLink "PledgeHouse$Ledger" 137 yX0_enterSale ∈ Gw := Gw_of 598 (by decide +kernel) (by decide +kernel)
theorem g599 : Cond.instanceMethod yX0_enterSale ∈ Gw := Gw_of 599 (by decide +kernel) (by decide +kernel)
theorem g600 : Cond.selects "PledgeHouse$Ledger" yX0_enterSale yX0_enterSale ∈ Gw := Gw_of 600 (by decide +kernel) (by decide +kernel)
set_option maxRecDepth 100000 in
theorem g601 : Cond.code yX0_enterSale prog_2_method_37_code 5 (Option.none : Option Jvm.ClassFile.FieldType) ∈ Gw := Gw_of 601 rfl rfl
theorem g602 : Cond.methodLink "PledgeHouseLaw" 119 yX3_debtsByAccount ∈ Gw := Gw_of 602 (by decide +kernel) (by decide +kernel)
theorem g603 : Cond.instanceMethod yX3_debtsByAccount ∈ Gw := Gw_of 603 (by decide +kernel) (by decide +kernel)
theorem g604 : Cond.selects "PledgeHouse" yX3_debtsByAccount yX3_debtsByAccount ∈ Gw := Gw_of 604 (by decide +kernel) (by decide +kernel)
set_option maxRecDepth 100000 in
theorem g605 : Cond.code yX3_debtsByAccount prog_1_method_54_code 1 (Option.some Jvm.ClassFile.FieldType.int) ∈ Gw := Gw_of 605 rfl rfl
theorem g606 : Cond.methodLink "PledgeHouseLaw" 186 yL_isClientSo ∈ Gw := Gw_of 606 (by decide +kernel) (by decide +kernel)
theorem g607 : Cond.static yL_isClientSo ∈ Gw := Gw_of 607 (by decide +kernel) (by decide +kernel)
set_option maxRecDepth 100000 in
theorem g608 : Cond.code yL_isClientSo method_8_code 12 (Option.some Jvm.ClassFile.FieldType.boolean) ∈ Gw := Gw_of 608 rfl rfl
theorem g609 : Cond.methodLink "PledgeHouseLaw" 122 yX3_worthOf ∈ Gw := Gw_of 609 (by decide +kernel) (by decide +kernel)
theorem g610 : Cond.instanceMethod yX3_worthOf ∈ Gw := Gw_of 610 (by decide +kernel) (by decide +kernel)
theorem g611 : Cond.selects "PledgeHouse" yX3_worthOf yX3_worthOf ∈ Gw := Gw_of 611 (by decide +kernel) (by decide +kernel)
set_option maxRecDepth 100000 in
theorem g612 : Cond.code yX3_worthOf prog_1_method_32_code 2 (Option.some Jvm.ClassFile.FieldType.int) ∈ Gw := Gw_of 612 rfl rfl
theorem g613 : Cond.methodLink "PledgeHouse" 187 yX0_worth ∈ Gw := Gw_of 613 (by decide +kernel) (by decide +kernel)
theorem g614 : Cond.instanceMethod yX0_worth ∈ Gw := Gw_of 614 (by decide +kernel) (by decide +kernel)
theorem g615 : Cond.selects "PledgeHouse$Ledger" yX0_worth yX0_worth ∈ Gw := Gw_of 615 (by decide +kernel) (by decide +kernel)
set_option maxRecDepth 100000 in
theorem g616 : Cond.code yX0_worth prog_2_method_3_code 4 (Option.some Jvm.ClassFile.FieldType.int) ∈ Gw := Gw_of 616 rfl rfl
theorem g617 : Cond.methodLink "PledgeHouseLaw" 125 yX3_isBarred ∈ Gw := Gw_of 617 (by decide +kernel) (by decide +kernel)
theorem g618 : Cond.instanceMethod yX3_isBarred ∈ Gw := Gw_of 618 (by decide +kernel) (by decide +kernel)
theorem g619 : Cond.selects "PledgeHouse" yX3_isBarred yX3_isBarred ∈ Gw := Gw_of 619 (by decide +kernel) (by decide +kernel)
set_option maxRecDepth 100000 in
theorem g620 : Cond.code yX3_isBarred prog_1_method_37_code 2 (Option.some Jvm.ClassFile.FieldType.boolean) ∈ Gw := Gw_of 620 rfl rfl
theorem g621 : Cond.methodLink "PledgeHouseLaw" 128 yX3_hoursLeft ∈ Gw := Gw_of 621 (by decide +kernel) (by decide +kernel)
theorem g622 : Cond.instanceMethod yX3_hoursLeft ∈ Gw := Gw_of 622 (by decide +kernel) (by decide +kernel)
theorem g623 : Cond.selects "PledgeHouse" yX3_hoursLeft yX3_hoursLeft ∈ Gw := Gw_of 623 (by decide +kernel) (by decide +kernel)
set_option maxRecDepth 100000 in
theorem g624 : Cond.code yX3_hoursLeft prog_1_method_36_code 2 (Option.some Jvm.ClassFile.FieldType.int) ∈ Gw := Gw_of 624 rfl rfl
theorem g625 : Cond.methodLink "PledgeHouseLaw" 131 yX3_fallToCallByTrying ∈ Gw := Gw_of 625 (by decide +kernel) (by decide +kernel)
theorem g626 : Cond.instanceMethod yX3_fallToCallByTrying ∈ Gw := Gw_of 626 (by decide +kernel) (by decide +kernel)
theorem g627 : Cond.selects "PledgeHouse" yX3_fallToCallByTrying yX3_fallToCallByTrying ∈ Gw := Gw_of 627 (by decide +kernel) (by decide +kernel)
set_option maxRecDepth 100000 in
theorem g628 : Cond.code yX3_fallToCallByTrying prog_1_method_46_code 3 (Option.some Jvm.ClassFile.FieldType.int) ∈ Gw := Gw_of 628 rfl rfl
theorem g629 : Cond.methodLink "PledgeHouse" 215 yX0_callingFallByTrying ∈ Gw := Gw_of 629 (by decide +kernel) (by decide +kernel)
theorem g630 : Cond.instanceMethod yX0_callingFallByTrying ∈ Gw := Gw_of 630 (by decide +kernel) (by decide +kernel)
theorem g631 : Cond.selects "PledgeHouse$Ledger" yX0_callingFallByTrying yX0_callingFallByTrying ∈ Gw := Gw_of 631 (by decide +kernel) (by decide +kernel)
set_option maxRecDepth 100000 in
theorem g632 : Cond.code yX0_callingFallByTrying prog_2_method_14_code 3 (Option.some Jvm.ClassFile.FieldType.int) ∈ Gw := Gw_of 632 rfl rfl
theorem g633 : Cond.methodLink "PledgeHouseLaw" 134 yX3_hoursToCall ∈ Gw := Gw_of 633 (by decide +kernel) (by decide +kernel)
theorem g634 : Cond.instanceMethod yX3_hoursToCall ∈ Gw := Gw_of 634 (by decide +kernel) (by decide +kernel)
theorem g635 : Cond.selects "PledgeHouse" yX3_hoursToCall yX3_hoursToCall ∈ Gw := Gw_of 635 (by decide +kernel) (by decide +kernel)
set_option maxRecDepth 100000 in
theorem g636 : Cond.code yX3_hoursToCall prog_1_method_48_code 3 (Option.some Jvm.ClassFile.FieldType.int) ∈ Gw := Gw_of 636 rfl rfl
theorem g637 : Cond.methodLink "PledgeHouse" 221 yX0_hoursUntilCall ∈ Gw := Gw_of 637 (by decide +kernel) (by decide +kernel)
theorem g638 : Cond.instanceMethod yX0_hoursUntilCall ∈ Gw := Gw_of 638 (by decide +kernel) (by decide +kernel)
theorem g639 : Cond.selects "PledgeHouse$Ledger" yX0_hoursUntilCall yX0_hoursUntilCall ∈ Gw := Gw_of 639 (by decide +kernel) (by decide +kernel)
set_option maxRecDepth 100000 in
theorem g640 : Cond.code yX0_hoursUntilCall prog_2_method_16_code 5 (Option.some Jvm.ClassFile.FieldType.int) ∈ Gw := Gw_of 640 rfl rfl
theorem g641 : Cond.methodLink "PledgeHouseLaw" 137 yX3_wouldSell ∈ Gw := Gw_of 641 (by decide +kernel) (by decide +kernel)
theorem g642 : Cond.instanceMethod yX3_wouldSell ∈ Gw := Gw_of 642 (by decide +kernel) (by decide +kernel)
theorem g643 : Cond.selects "PledgeHouse" yX3_wouldSell yX3_wouldSell ∈ Gw := Gw_of 643 (by decide +kernel) (by decide +kernel)
set_option maxRecDepth 100000 in
theorem g644 : Cond.code yX3_wouldSell prog_1_method_49_code 2 (Option.some Jvm.ClassFile.FieldType.int) ∈ Gw := Gw_of 644 rfl rfl
theorem g645 : Cond.methodLink "PledgeHouse" 224 yX2_reckon ∈ Gw := Gw_of 645 (by decide +kernel) (by decide +kernel)
theorem g646 : Cond.methodLink "PledgeHouseLaw" 140 yX3_wouldLose ∈ Gw := Gw_of 646 (by decide +kernel) (by decide +kernel)
theorem g647 : Cond.instanceMethod yX3_wouldLose ∈ Gw := Gw_of 647 (by decide +kernel) (by decide +kernel)
theorem g648 : Cond.selects "PledgeHouse" yX3_wouldLose yX3_wouldLose ∈ Gw := Gw_of 648 (by decide +kernel) (by decide +kernel)
set_option maxRecDepth 100000 in
theorem g649 : Cond.code yX3_wouldLose prog_1_method_50_code 2 (Option.some Jvm.ClassFile.FieldType.int) ∈ Gw := Gw_of 649 rfl rfl
theorem g650 : Cond.methodLink "PledgeHouseLaw" 143 yX3_fallToCallByHalving ∈ Gw := Gw_of 650 (by decide +kernel) (by decide +kernel)
theorem g651 : Cond.instanceMethod yX3_fallToCallByHalving ∈ Gw := Gw_of 651 (by decide +kernel) (by decide +kernel)
theorem g652 : Cond.selects "PledgeHouse" yX3_fallToCallByHalving yX3_fallToCallByHalving ∈ Gw := Gw_of 652 (by decide +kernel) (by decide +kernel)
set_option maxRecDepth 100000 in
theorem g653 : Cond.code yX3_fallToCallByHalving prog_1_method_47_code 3 (Option.some Jvm.ClassFile.FieldType.int) ∈ Gw := Gw_of 653 rfl rfl
theorem g654 : Cond.methodLink "PledgeHouse" 218 yX0_callingFallByHalving ∈ Gw := Gw_of 654 (by decide +kernel) (by decide +kernel)
theorem g655 : Cond.instanceMethod yX0_callingFallByHalving ∈ Gw := Gw_of 655 (by decide +kernel) (by decide +kernel)
theorem g656 : Cond.selects "PledgeHouse$Ledger" yX0_callingFallByHalving yX0_callingFallByHalving ∈ Gw := Gw_of 656 (by decide +kernel) (by decide +kernel)
set_option maxRecDepth 100000 in
theorem g657 : Cond.code yX0_callingFallByHalving prog_2_method_15_code 6 (Option.some Jvm.ClassFile.FieldType.int) ∈ Gw := Gw_of 657 rfl rfl
theorem g658 : Cond.methodLink "PledgeHouseLaw" 146 yL_ifFallen ∈ Gw := Gw_of 658 (by decide +kernel) (by decide +kernel)
theorem g659 : Cond.static yL_ifFallen ∈ Gw := Gw_of 659 (by decide +kernel) (by decide +kernel)
set_option maxRecDepth 100000 in
theorem g660 : Cond.code yL_ifFallen method_9_code 5 (Option.some Jvm.ClassFile.FieldType.int) ∈ Gw := Gw_of 660 rfl rfl
theorem g661 : Cond.methodLink "PledgeHouseLaw" 189 yL_isRiskSo ∈ Gw := Gw_of 661 (by decide +kernel) (by decide +kernel)
theorem g662 : Cond.static yL_isRiskSo ∈ Gw := Gw_of 662 (by decide +kernel) (by decide +kernel)
set_option maxRecDepth 100000 in
theorem g663 : Cond.code yL_isRiskSo method_10_code 8 (Option.some Jvm.ClassFile.FieldType.boolean) ∈ Gw := Gw_of 663 rfl rfl
theorem g664 : Cond.methodLink "PledgeHouseLaw" 150 yX3_riskyBySorting ∈ Gw := Gw_of 664 (by decide +kernel) (by decide +kernel)
theorem g665 : Cond.instanceMethod yX3_riskyBySorting ∈ Gw := Gw_of 665 (by decide +kernel) (by decide +kernel)
theorem g666 : Cond.selects "PledgeHouse" yX3_riskyBySorting yX3_riskyBySorting ∈ Gw := Gw_of 666 (by decide +kernel) (by decide +kernel)
set_option maxRecDepth 100000 in
theorem g667 : Cond.code yX3_riskyBySorting prog_1_method_39_code 2 (Option.some Jvm.ClassFile.FieldType.int) ∈ Gw := Gw_of 667 rfl rfl
theorem g668 : Cond.methodLink "PledgeHouse" 205 yX3_needPlace ∈ Gw := Gw_of 668 (by decide +kernel) (by decide +kernel)
theorem g669 : Cond.static yX3_needPlace ∈ Gw := Gw_of 669 (by decide +kernel) (by decide +kernel)
set_option maxRecDepth 100000 in
theorem g670 : Cond.code yX3_needPlace prog_1_method_78_code 1 (Option.none : Option Jvm.ClassFile.FieldType) ∈ Gw := Gw_of 670 rfl rfl
theorem g671 : Cond.methodLink "PledgeHouse" 208 yX0_sortByRisk ∈ Gw := Gw_of 671 (by decide +kernel) (by decide +kernel)
theorem g672 : Cond.instanceMethod yX0_sortByRisk ∈ Gw := Gw_of 672 (by decide +kernel) (by decide +kernel)
theorem g673 : Cond.selects "PledgeHouse$Ledger" yX0_sortByRisk yX0_sortByRisk ∈ Gw := Gw_of 673 (by decide +kernel) (by decide +kernel)
set_option maxRecDepth 100000 in
theorem g674 : Cond.code yX0_sortByRisk prog_2_method_19_code 4 (Option.none : Option Jvm.ClassFile.FieldType) ∈ Gw := Gw_of 674 rfl rfl
theorem g675 : Cond.methodLink "PledgeHouse$Ledger" 109 yX0_isRiskier ∈ Gw := Gw_of 675 (by decide +kernel) (by decide +kernel)
theorem g676 : Cond.instanceMethod yX0_isRiskier ∈ Gw := Gw_of 676 (by decide +kernel) (by decide +kernel)
theorem g677 : Cond.selects "PledgeHouse$Ledger" yX0_isRiskier yX0_isRiskier ∈ Gw := Gw_of 677 (by decide +kernel) (by decide +kernel)
set_option maxRecDepth 100000 in
theorem g678 : Cond.code yX0_isRiskier prog_2_method_17_code 9 (Option.some Jvm.ClassFile.FieldType.boolean) ∈ Gw := Gw_of 678 rfl rfl
theorem g679 : Cond.methodLink "PledgeHouseLaw" 153 yX3_riskyByTaking ∈ Gw := Gw_of 679 (by decide +kernel) (by decide +kernel)
theorem g680 : Cond.instanceMethod yX3_riskyByTaking ∈ Gw := Gw_of 680 (by decide +kernel) (by decide +kernel)
theorem g681 : Cond.selects "PledgeHouse" yX3_riskyByTaking yX3_riskyByTaking ∈ Gw := Gw_of 681 (by decide +kernel) (by decide +kernel)
set_option maxRecDepth 100000 in
theorem g682 : Cond.code yX3_riskyByTaking prog_1_method_40_code 2 (Option.some Jvm.ClassFile.FieldType.int) ∈ Gw := Gw_of 682 rfl rfl
theorem g683 : Cond.methodLink "PledgeHouse" 212 yX0_takeRiskiest ∈ Gw := Gw_of 683 (by decide +kernel) (by decide +kernel)
theorem g684 : Cond.instanceMethod yX0_takeRiskiest ∈ Gw := Gw_of 684 (by decide +kernel) (by decide +kernel)
theorem g685 : Cond.selects "PledgeHouse$Ledger" yX0_takeRiskiest yX0_takeRiskiest ∈ Gw := Gw_of 685 (by decide +kernel) (by decide +kernel)
set_option maxRecDepth 100000 in
theorem g686 : Cond.code yX0_takeRiskiest prog_2_method_20_code 5 (Option.some Jvm.ClassFile.FieldType.int) ∈ Gw := Gw_of 686 rfl rfl
theorem g687 : Cond.methodLink "PledgeHouse$Ledger" 113 yX0_riskiestBut ∈ Gw := Gw_of 687 (by decide +kernel) (by decide +kernel)
theorem g688 : Cond.instanceMethod yX0_riskiestBut ∈ Gw := Gw_of 688 (by decide +kernel) (by decide +kernel)
theorem g689 : Cond.selects "PledgeHouse$Ledger" yX0_riskiestBut yX0_riskiestBut ∈ Gw := Gw_of 689 (by decide +kernel) (by decide +kernel)
set_option maxRecDepth 100000 in
theorem g690 : Cond.code yX0_riskiestBut prog_2_method_21_code 5 (Option.some Jvm.ClassFile.FieldType.int) ∈ Gw := Gw_of 690 rfl rfl
theorem g691 : Cond.methodLink "PledgeHouseLaw" 156 yX3_rankOf ∈ Gw := Gw_of 691 (by decide +kernel) (by decide +kernel)
theorem g692 : Cond.instanceMethod yX3_rankOf ∈ Gw := Gw_of 692 (by decide +kernel) (by decide +kernel)
theorem g693 : Cond.selects "PledgeHouse" yX3_rankOf yX3_rankOf ∈ Gw := Gw_of 693 (by decide +kernel) (by decide +kernel)
set_option maxRecDepth 100000 in
theorem g694 : Cond.code yX3_rankOf prog_1_method_38_code 2 (Option.some Jvm.ClassFile.FieldType.int) ∈ Gw := Gw_of 694 rfl rfl
theorem g695 : Cond.methodLink "PledgeHouse" 202 yX0_riskPlace ∈ Gw := Gw_of 695 (by decide +kernel) (by decide +kernel)
theorem g696 : Cond.instanceMethod yX0_riskPlace ∈ Gw := Gw_of 696 (by decide +kernel) (by decide +kernel)
theorem g697 : Cond.selects "PledgeHouse$Ledger" yX0_riskPlace yX0_riskPlace ∈ Gw := Gw_of 697 (by decide +kernel) (by decide +kernel)
set_option maxRecDepth 100000 in
theorem g698 : Cond.code yX0_riskPlace prog_2_method_18_code 4 (Option.some Jvm.ClassFile.FieldType.int) ∈ Gw := Gw_of 698 rfl rfl
theorem g699 : Cond.methodLink "PledgeHouseLaw" 193 yL_areAccountsSo ∈ Gw := Gw_of 699 (by decide +kernel) (by decide +kernel)
theorem g700 : Cond.static yL_areAccountsSo ∈ Gw := Gw_of 700 (by decide +kernel) (by decide +kernel)
set_option maxRecDepth 100000 in
theorem g701 : Cond.code yL_areAccountsSo method_11_code 8 (Option.some Jvm.ClassFile.FieldType.boolean) ∈ Gw := Gw_of 701 rfl rfl
theorem g702 : Cond.methodLink "PledgeHouseLaw" 159 yX3_pledgedOf ∈ Gw := Gw_of 702 (by decide +kernel) (by decide +kernel)
theorem g703 : Cond.instanceMethod yX3_pledgedOf ∈ Gw := Gw_of 703 (by decide +kernel) (by decide +kernel)
theorem g704 : Cond.selects "PledgeHouse" yX3_pledgedOf yX3_pledgedOf ∈ Gw := Gw_of 704 (by decide +kernel) (by decide +kernel)
set_option maxRecDepth 100000 in
theorem g705 : Cond.code yX3_pledgedOf prog_1_method_27_code 2 (Option.some Jvm.ClassFile.FieldType.int) ∈ Gw := Gw_of 705 rfl rfl
theorem g706 : Cond.methodLink "PledgeHouse" 181 yX0_piecesOfAll ∈ Gw := Gw_of 706 (by decide +kernel) (by decide +kernel)
theorem g707 : Cond.instanceMethod yX0_piecesOfAll ∈ Gw := Gw_of 707 (by decide +kernel) (by decide +kernel)
theorem g708 : Cond.selects "PledgeHouse$Ledger" yX0_piecesOfAll yX0_piecesOfAll ∈ Gw := Gw_of 708 (by decide +kernel) (by decide +kernel)
set_option maxRecDepth 100000 in
theorem g709 : Cond.code yX0_piecesOfAll prog_2_method_9_code 4 (Option.some Jvm.ClassFile.FieldType.int) ∈ Gw := Gw_of 709 rfl rfl
theorem g710 : Cond.methodLink "PledgeHouseLaw" 162 yX3_soldOf ∈ Gw := Gw_of 710 (by decide +kernel) (by decide +kernel)
theorem g711 : Cond.instanceMethod yX3_soldOf ∈ Gw := Gw_of 711 (by decide +kernel) (by decide +kernel)
theorem g712 : Cond.selects "PledgeHouse" yX3_soldOf yX3_soldOf ∈ Gw := Gw_of 712 (by decide +kernel) (by decide +kernel)
set_option maxRecDepth 100000 in
theorem g713 : Cond.code yX3_soldOf prog_1_method_28_code 2 (Option.some Jvm.ClassFile.FieldType.int) ∈ Gw := Gw_of 713 rfl rfl
theorem g714 : Cond.methodLink "PledgeHouseLaw" 165 yX3_interest ∈ Gw := Gw_of 714 (by decide +kernel) (by decide +kernel)
theorem g715 : Cond.instanceMethod yX3_interest ∈ Gw := Gw_of 715 (by decide +kernel) (by decide +kernel)
theorem g716 : Cond.selects "PledgeHouse" yX3_interest yX3_interest ∈ Gw := Gw_of 716 (by decide +kernel) (by decide +kernel)
set_option maxRecDepth 100000 in
theorem g717 : Cond.code yX3_interest prog_1_method_56_code 1 (Option.some Jvm.ClassFile.FieldType.int) ∈ Gw := Gw_of 717 rfl rfl
theorem g718 : Cond.methodLink "PledgeHouseLaw" 168 yX3_repaid ∈ Gw := Gw_of 718 (by decide +kernel) (by decide +kernel)
theorem g719 : Cond.instanceMethod yX3_repaid ∈ Gw := Gw_of 719 (by decide +kernel) (by decide +kernel)
theorem g720 : Cond.selects "PledgeHouse" yX3_repaid yX3_repaid ∈ Gw := Gw_of 720 (by decide +kernel) (by decide +kernel)
set_option maxRecDepth 100000 in
theorem g721 : Cond.code yX3_repaid prog_1_method_57_code 1 (Option.some Jvm.ClassFile.FieldType.int) ∈ Gw := Gw_of 721 rfl rfl
theorem g722 : Cond.methodLink "PledgeHouseLaw" 171 yX3_lost ∈ Gw := Gw_of 722 (by decide +kernel) (by decide +kernel)
theorem g723 : Cond.instanceMethod yX3_lost ∈ Gw := Gw_of 723 (by decide +kernel) (by decide +kernel)
theorem g724 : Cond.selects "PledgeHouse" yX3_lost yX3_lost ∈ Gw := Gw_of 724 (by decide +kernel) (by decide +kernel)
set_option maxRecDepth 100000 in
theorem g725 : Cond.code yX3_lost prog_1_method_58_code 1 (Option.some Jvm.ClassFile.FieldType.int) ∈ Gw := Gw_of 725 rfl rfl
theorem g726 : Cond.methodLink "PledgeHouseLaw" 174 yX3_usedShare ∈ Gw := Gw_of 726 (by decide +kernel) (by decide +kernel)
theorem g727 : Cond.instanceMethod yX3_usedShare ∈ Gw := Gw_of 727 (by decide +kernel) (by decide +kernel)
theorem g728 : Cond.selects "PledgeHouse" yX3_usedShare yX3_usedShare ∈ Gw := Gw_of 728 (by decide +kernel) (by decide +kernel)
set_option maxRecDepth 100000 in
theorem g729 : Cond.code yX3_usedShare prog_1_method_61_code 2 (Option.some Jvm.ClassFile.FieldType.double) ∈ Gw := Gw_of 729 rfl rfl
theorem g730 : Cond.methodLink "PledgeHouse" 261 yX0_coverOfAll ∈ Gw := Gw_of 730 (by decide +kernel) (by decide +kernel)
theorem g731 : Cond.instanceMethod yX0_coverOfAll ∈ Gw := Gw_of 731 (by decide +kernel) (by decide +kernel)
theorem g732 : Cond.selects "PledgeHouse$Ledger" yX0_coverOfAll yX0_coverOfAll ∈ Gw := Gw_of 732 (by decide +kernel) (by decide +kernel)
set_option maxRecDepth 100000 in
theorem g733 : Cond.code yX0_coverOfAll prog_2_method_11_code 3 (Option.some Jvm.ClassFile.FieldType.int) ∈ Gw := Gw_of 733 rfl rfl
theorem inGX0 : ∀ w ∈ wsX00, w ∈ Gw := fun w h => List.mem_filter.mpr ((by decide +kernel : ∀ w ∈ wsX00, w ∈ lw_tbl ∧ goodWord w = true) w h)
theorem inGX1 : ∀ w ∈ wsX10, w ∈ Gw := fun w h => List.mem_filter.mpr ((by decide +kernel : ∀ w ∈ wsX10, w ∈ lw_tbl ∧ goodWord w = true) w h)
theorem inGX2 : ∀ w ∈ wsX20, w ∈ Gw := fun w h => List.mem_filter.mpr ((by decide +kernel : ∀ w ∈ wsX20, w ∈ lw_tbl ∧ goodWord w = true) w h)
theorem inGX3 : ∀ w ∈ wsX30, w ∈ Gw := fun w h => List.mem_filter.mpr ((by decide +kernel : ∀ w ∈ wsX30, w ∈ lw_tbl ∧ goodWord w = true) w h)
