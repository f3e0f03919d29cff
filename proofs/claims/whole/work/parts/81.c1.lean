set_option maxHeartbeats 4000000 in
set_option maxRecDepth 100000 in
theorem case_12 {v : Av} {D : va_G} {cA : Nat → ClassId} {A : Nat → Prop} {Q : State → Prop} {ax am : Nat → Nat} {b L i : Nat} {xs : Nat → Int32} {M N : Mem} (hC : LC v D cA A b L xs) (hi : i + 6 ≤ L) (hI : Inv M N) (hk : ∀ M N, Inv M N → LO v D cA A Q ax am b i 1283 [] M N) : LO v D cA A Q ax am b i 559 [] M N := by
  have hA := hC.1
  obtain ⟨r, M', N', h1, h2, hI'⟩ := p_season hI (xs (i + 1)) (xs (i + 2)) (xs (i + 3)) (xs (i + 4)) (xs (i + 5))
  refine CO.aload_n (n := 560) hA dL_law_559 2 rfl rfl ?_
  refine CO.arg (k := 1) (n := 565) hC (by omega) rfl dL_law_560 dL_law_561 dL_law_562 dL_law_563 dL_law_564 rfl ?_
  refine CO.arg (k := 2) (n := 570) hC (by omega) rfl dL_law_565 dL_law_566 dL_law_567 dL_law_568 dL_law_569 rfl ?_
  refine CO.arg (k := 3) (n := 575) hC (by omega) rfl dL_law_570 dL_law_571 dL_law_572 dL_law_573 dL_law_574 rfl ?_
  refine CO.arg (k := 4) (n := 580) hC (by omega) rfl dL_law_575 dL_law_576 dL_law_577 dL_law_578 dL_law_579 rfl ?_
  refine CO.arg (k := 5) (n := 585) hC (by omega) rfl dL_law_580 dL_law_581 dL_law_582 dL_law_583 dL_law_584 rfl ?_
  refine CO.callV (r := 0) (m := 5) (n := 588) (As := [.int (xs (i + 1)), .int (xs (i + 2)), .int (xs (i + 3)), .int (xs (i + 4)), .int (xs (i + 5))]) (rest := []) hA (c_X5_season v.2.1 (D, ax, cA, w_list am cA N 0 shM, A, shX) rfl (xs (i + 1)) (xs (i + 2)) (xs (i + 3)) (xs (i + 4)) (xs (i + 5)) M) h1 gL_law_X5_season rfl rfl rfl (by decide +kernel) (by decide) rfl rfl (by decide : (0 : Nat) ≤ 8) dL_law_585 rfl (by decide) ?_
  refine CO.swap ?_
  refine CO.aload_n (n := 589) hA dL_law_588 1 rfl rfl ?_
  refine CO.arg (k := 1) (n := 594) hC (by omega) rfl dL_law_589 dL_law_590 dL_law_591 dL_law_592 dL_law_593 rfl ?_
  refine CO.arg (k := 2) (n := 599) hC (by omega) rfl dL_law_594 dL_law_595 dL_law_596 dL_law_597 dL_law_598 rfl ?_
  refine CO.arg (k := 3) (n := 604) hC (by omega) rfl dL_law_599 dL_law_600 dL_law_601 dL_law_602 dL_law_603 rfl ?_
  refine CO.arg (k := 4) (n := 609) hC (by omega) rfl dL_law_604 dL_law_605 dL_law_606 dL_law_607 dL_law_608 rfl ?_
  refine CO.arg (k := 5) (n := 614) hC (by omega) rfl dL_law_609 dL_law_610 dL_law_611 dL_law_612 dL_law_613 rfl ?_
  refine CO.callV (r := 0) (m := 5) (n := 617) (As := [.int (xs (i + 1)), .int (xs (i + 2)), .int (xs (i + 3)), .int (xs (i + 4)), .int (xs (i + 5))]) (rest := [.int r]) hA (c_X6_season v.2.1 (D, am, cA, w_list ax cA M' 0 shX, A, shM) rfl (xs (i + 1)) (xs (i + 2)) (xs (i + 3)) (xs (i + 4)) (xs (i + 5)) N) h2 gL_law_X6_season rfl rfl rfl (by decide +kernel) (by decide) rfl rfl (by decide : (1 : Nat) ≤ 8) dL_law_614 rfl (by decide) ?_
  refine CO.swap ?_
  refine CO.same_i (n := 1283) hA dL_law_617 rfl ?_
  exact hk M' N' hI'
set_option maxHeartbeats 4000000 in
set_option maxRecDepth 100000 in
theorem case_13 {v : Av} {D : va_G} {cA : Nat → ClassId} {A : Nat → Prop} {Q : State → Prop} {ax am : Nat → Nat} {b L i : Nat} {xs : Nat → Int32} {M N : Mem} (hC : LC v D cA A b L xs) (hi : i + 6 ≤ L) (hI : Inv M N) (hk : ∀ M N, Inv M N → LO v D cA A Q ax am b i 1283 [] M N) : LO v D cA A Q ax am b i 622 [] M N := by
  have hA := hC.1
  obtain ⟨r, M', N', h1, h2, hI'⟩ := p_round hI (xs (i + 1)) (xs (i + 2))
  refine CO.aload_n (n := 623) hA dL_law_622 2 rfl rfl ?_
  refine CO.arg (k := 1) (n := 628) hC (by omega) rfl dL_law_623 dL_law_624 dL_law_625 dL_law_626 dL_law_627 rfl ?_
  refine CO.arg (k := 2) (n := 633) hC (by omega) rfl dL_law_628 dL_law_629 dL_law_630 dL_law_631 dL_law_632 rfl ?_
  refine CO.callV (r := 0) (m := 2) (n := 636) (As := [.int (xs (i + 1)), .int (xs (i + 2))]) (rest := []) hA (c_X5_round v.2.1 (D, ax, cA, w_list am cA N 0 shM, A, shX) rfl (xs (i + 1)) (xs (i + 2)) M) h1 gL_law_X5_round rfl rfl rfl (by decide +kernel) (by decide) rfl rfl (by decide : (0 : Nat) ≤ 8) dL_law_633 rfl (by decide) ?_
  refine CO.swap ?_
  refine CO.aload_n (n := 637) hA dL_law_636 1 rfl rfl ?_
  refine CO.arg (k := 1) (n := 642) hC (by omega) rfl dL_law_637 dL_law_638 dL_law_639 dL_law_640 dL_law_641 rfl ?_
  refine CO.arg (k := 2) (n := 647) hC (by omega) rfl dL_law_642 dL_law_643 dL_law_644 dL_law_645 dL_law_646 rfl ?_
  refine CO.callV (r := 0) (m := 2) (n := 650) (As := [.int (xs (i + 1)), .int (xs (i + 2))]) (rest := [.int r]) hA (c_X6_round v.2.1 (D, am, cA, w_list ax cA M' 0 shX, A, shM) rfl (xs (i + 1)) (xs (i + 2)) N) h2 gL_law_X6_round rfl rfl rfl (by decide +kernel) (by decide) rfl rfl (by decide : (1 : Nat) ≤ 8) dL_law_647 rfl (by decide) ?_
  refine CO.swap ?_
  refine CO.same_i (n := 1283) hA dL_law_650 rfl ?_
  exact hk M' N' hI'
set_option maxHeartbeats 4000000 in
set_option maxRecDepth 100000 in
theorem case_14 {v : Av} {D : va_G} {cA : Nat → ClassId} {A : Nat → Prop} {Q : State → Prop} {ax am : Nat → Nat} {b L i : Nat} {xs : Nat → Int32} {M N : Mem} (hC : LC v D cA A b L xs) (hi : i + 6 ≤ L) (hI : Inv M N) (hk : ∀ M N, Inv M N → LO v D cA A Q ax am b i 1283 [] M N) : LO v D cA A Q ax am b i 655 [] M N := by
  have hA := hC.1
  obtain ⟨r, M', N', h1, h2, hI'⟩ := p_from hI (xs (i + 1)) (xs (i + 2))
  refine CO.aload_n (n := 656) hA dL_law_655 2 rfl rfl ?_
  refine CO.arg (k := 1) (n := 661) hC (by omega) rfl dL_law_656 dL_law_657 dL_law_658 dL_law_659 dL_law_660 rfl ?_
  refine CO.arg (k := 2) (n := 666) hC (by omega) rfl dL_law_661 dL_law_662 dL_law_663 dL_law_664 dL_law_665 rfl ?_
  refine CO.callV (r := 0) (m := 2) (n := 669) (As := [.int (xs (i + 1)), .int (xs (i + 2))]) (rest := []) hA (c_X5_from v.2.1 (D, ax, cA, w_list am cA N 0 shM, A, shX) rfl (xs (i + 1)) (xs (i + 2)) M) h1 gL_law_X5_from rfl rfl rfl (by decide +kernel) (by decide) rfl rfl (by decide : (0 : Nat) ≤ 8) dL_law_666 rfl (by decide) ?_
  refine CO.swap ?_
  refine CO.aload_n (n := 670) hA dL_law_669 1 rfl rfl ?_
  refine CO.arg (k := 1) (n := 675) hC (by omega) rfl dL_law_670 dL_law_671 dL_law_672 dL_law_673 dL_law_674 rfl ?_
  refine CO.arg (k := 2) (n := 680) hC (by omega) rfl dL_law_675 dL_law_676 dL_law_677 dL_law_678 dL_law_679 rfl ?_
  refine CO.callV (r := 0) (m := 2) (n := 683) (As := [.int (xs (i + 1)), .int (xs (i + 2))]) (rest := [.int r]) hA (c_X6_from v.2.1 (D, am, cA, w_list ax cA M' 0 shX, A, shM) rfl (xs (i + 1)) (xs (i + 2)) N) h2 gL_law_X6_from rfl rfl rfl (by decide +kernel) (by decide) rfl rfl (by decide : (1 : Nat) ≤ 8) dL_law_680 rfl (by decide) ?_
  refine CO.swap ?_
  refine CO.same_i (n := 1283) hA dL_law_683 rfl ?_
  exact hk M' N' hI'
set_option maxHeartbeats 4000000 in
set_option maxRecDepth 100000 in
theorem case_15 {v : Av} {D : va_G} {cA : Nat → ClassId} {A : Nat → Prop} {Q : State → Prop} {ax am : Nat → Nat} {b L i : Nat} {xs : Nat → Int32} {M N : Mem} (hC : LC v D cA A b L xs) (hi : i + 6 ≤ L) (hI : Inv M N) (hk : ∀ M N, Inv M N → LO v D cA A Q ax am b i 1283 [] M N) : LO v D cA A Q ax am b i 688 [] M N := by
  have hA := hC.1
  obtain ⟨r, M', N', h1, h2, hI'⟩ := p_settle hI 
  refine CO.aload_n (n := 689) hA dL_law_688 2 rfl rfl ?_
  refine CO.callV (r := 0) (m := 0) (n := 692) (As := []) (rest := []) hA (c_X5_settle v.2.1 (D, ax, cA, w_list am cA N 0 shM, A, shX) rfl M) h1 gL_law_X5_settle rfl rfl rfl (by decide +kernel) (by decide) rfl rfl (by decide : (0 : Nat) ≤ 8) dL_law_689 rfl (by decide) ?_
  refine CO.swap ?_
  refine CO.aload_n (n := 693) hA dL_law_692 1 rfl rfl ?_
  refine CO.callV (r := 0) (m := 0) (n := 696) (As := []) (rest := [.int r]) hA (c_X6_settle v.2.1 (D, am, cA, w_list ax cA M' 0 shX, A, shM) rfl N) h2 gL_law_X6_settle rfl rfl rfl (by decide +kernel) (by decide) rfl rfl (by decide : (1 : Nat) ≤ 8) dL_law_693 rfl (by decide) ?_
  refine CO.swap ?_
  refine CO.same_i (n := 1283) hA dL_law_696 rfl ?_
  exact hk M' N' hI'
set_option maxHeartbeats 4000000 in
set_option maxRecDepth 100000 in
theorem case_16 {v : Av} {D : va_G} {cA : Nat → ClassId} {A : Nat → Prop} {Q : State → Prop} {ax am : Nat → Nat} {b L i : Nat} {xs : Nat → Int32} {M N : Mem} (hC : LC v D cA A b L xs) (hi : i + 6 ≤ L) (hI : Inv M N) (hk : ∀ M N, Inv M N → LO v D cA A Q ax am b i 1283 [] M N) : LO v D cA A Q ax am b i 701 [] M N := by
  have hA := hC.1
  obtain ⟨r, M', N', h1, h2, hI'⟩ := p_still hI (xs (i + 1))
  refine CO.aload_n (n := 702) hA dL_law_701 2 rfl rfl ?_
  refine CO.arg (k := 1) (n := 707) hC (by omega) rfl dL_law_702 dL_law_703 dL_law_704 dL_law_705 dL_law_706 rfl ?_
  refine CO.callV (r := 0) (m := 1) (n := 710) (As := [.int (xs (i + 1))]) (rest := []) hA (c_X5_still v.2.1 (D, ax, cA, w_list am cA N 0 shM, A, shX) rfl (xs (i + 1)) M) h1 gL_law_X5_still rfl rfl rfl (by decide +kernel) (by decide) rfl rfl (by decide : (0 : Nat) ≤ 8) dL_law_707 rfl (by decide) ?_
  refine CO.swap ?_
  refine CO.aload_n (n := 711) hA dL_law_710 1 rfl rfl ?_
  refine CO.arg (k := 1) (n := 716) hC (by omega) rfl dL_law_711 dL_law_712 dL_law_713 dL_law_714 dL_law_715 rfl ?_
  refine CO.callV (r := 0) (m := 1) (n := 719) (As := [.int (xs (i + 1))]) (rest := [.int r]) hA (c_X6_still v.2.1 (D, am, cA, w_list ax cA M' 0 shX, A, shM) rfl (xs (i + 1)) N) h2 gL_law_X6_still rfl rfl rfl (by decide +kernel) (by decide) rfl rfl (by decide : (1 : Nat) ≤ 8) dL_law_716 rfl (by decide) ?_
  refine CO.swap ?_
  refine CO.same_i (n := 1283) hA dL_law_719 rfl ?_
  exact hk M' N' hI'
set_option maxHeartbeats 4000000 in
set_option maxRecDepth 100000 in
theorem case_17 {v : Av} {D : va_G} {cA : Nat → ClassId} {A : Nat → Prop} {Q : State → Prop} {ax am : Nat → Nat} {b L i : Nat} {xs : Nat → Int32} {M N : Mem} (hC : LC v D cA A b L xs) (hi : i + 6 ≤ L) (hI : Inv M N) (hk : ∀ M N, Inv M N → LO v D cA A Q ax am b i 1283 [] M N) : LO v D cA A Q ax am b i 724 [] M N := by
  have hA := hC.1
  obtain ⟨r, M', N', h1, h2, hI'⟩ := p_hush hI (xs (i + 1))
  refine CO.aload_n (n := 725) hA dL_law_724 2 rfl rfl ?_
  refine CO.arg (k := 1) (n := 730) hC (by omega) rfl dL_law_725 dL_law_726 dL_law_727 dL_law_728 dL_law_729 rfl ?_
  refine CO.callV (r := 0) (m := 1) (n := 733) (As := [.int (xs (i + 1))]) (rest := []) hA (c_X5_hush v.2.1 (D, ax, cA, w_list am cA N 0 shM, A, shX) rfl (xs (i + 1)) M) h1 gL_law_X5_hush rfl rfl rfl (by decide +kernel) (by decide) rfl rfl (by decide : (0 : Nat) ≤ 8) dL_law_730 rfl (by decide) ?_
  refine CO.swap ?_
  refine CO.aload_n (n := 734) hA dL_law_733 1 rfl rfl ?_
  refine CO.arg (k := 1) (n := 739) hC (by omega) rfl dL_law_734 dL_law_735 dL_law_736 dL_law_737 dL_law_738 rfl ?_
  refine CO.callV (r := 0) (m := 1) (n := 742) (As := [.int (xs (i + 1))]) (rest := [.int r]) hA (c_X6_hush v.2.1 (D, am, cA, w_list ax cA M' 0 shX, A, shM) rfl (xs (i + 1)) N) h2 gL_law_X6_hush rfl rfl rfl (by decide +kernel) (by decide) rfl rfl (by decide : (1 : Nat) ≤ 8) dL_law_739 rfl (by decide) ?_
  refine CO.swap ?_
  refine CO.same_i (n := 1283) hA dL_law_742 rfl ?_
  exact hk M' N' hI'
set_option maxHeartbeats 4000000 in
set_option maxRecDepth 100000 in
theorem case_18 {v : Av} {D : va_G} {cA : Nat → ClassId} {A : Nat → Prop} {Q : State → Prop} {ax am : Nat → Nat} {b L i : Nat} {xs : Nat → Int32} {M N : Mem} (hC : LC v D cA A b L xs) (hi : i + 6 ≤ L) (hI : Inv M N) (hk : ∀ M N, Inv M N → LO v D cA A Q ax am b i 1283 [] M N) : LO v D cA A Q ax am b i 747 [] M N := by
  have hA := hC.1
  obtain ⟨r, M', N', h1, h2, hI'⟩ := p_reading hI (xs (i + 1)) (xs (i + 2)) (xs (i + 3)) (xs (i + 4))
  refine CO.aload_n (n := 748) hA dL_law_747 2 rfl rfl ?_
  refine CO.arg (k := 1) (n := 753) hC (by omega) rfl dL_law_748 dL_law_749 dL_law_750 dL_law_751 dL_law_752 rfl ?_
  refine CO.arg (k := 2) (n := 758) hC (by omega) rfl dL_law_753 dL_law_754 dL_law_755 dL_law_756 dL_law_757 rfl ?_
  refine CO.arg (k := 3) (n := 763) hC (by omega) rfl dL_law_758 dL_law_759 dL_law_760 dL_law_761 dL_law_762 rfl ?_
  refine CO.arg (k := 4) (n := 768) hC (by omega) rfl dL_law_763 dL_law_764 dL_law_765 dL_law_766 dL_law_767 rfl ?_
  refine CO.callV (r := 0) (m := 4) (n := 771) (As := [.int (xs (i + 1)), .int (xs (i + 2)), .int (xs (i + 3)), .int (xs (i + 4))]) (rest := []) hA (c_X5_reading v.2.1 (D, ax, cA, w_list am cA N 0 shM, A, shX) rfl (xs (i + 1)) (xs (i + 2)) (xs (i + 3)) (xs (i + 4)) M) h1 gL_law_X5_reading rfl rfl rfl (by decide +kernel) (by decide) rfl rfl (by decide : (0 : Nat) ≤ 8) dL_law_768 rfl (by decide) ?_
  refine CO.swap ?_
  refine CO.aload_n (n := 772) hA dL_law_771 1 rfl rfl ?_
  refine CO.arg (k := 1) (n := 777) hC (by omega) rfl dL_law_772 dL_law_773 dL_law_774 dL_law_775 dL_law_776 rfl ?_
  refine CO.arg (k := 2) (n := 782) hC (by omega) rfl dL_law_777 dL_law_778 dL_law_779 dL_law_780 dL_law_781 rfl ?_
  refine CO.arg (k := 3) (n := 787) hC (by omega) rfl dL_law_782 dL_law_783 dL_law_784 dL_law_785 dL_law_786 rfl ?_
  refine CO.arg (k := 4) (n := 792) hC (by omega) rfl dL_law_787 dL_law_788 dL_law_789 dL_law_790 dL_law_791 rfl ?_
  refine CO.callV (r := 0) (m := 4) (n := 795) (As := [.int (xs (i + 1)), .int (xs (i + 2)), .int (xs (i + 3)), .int (xs (i + 4))]) (rest := [.int r]) hA (c_X6_reading v.2.1 (D, am, cA, w_list ax cA M' 0 shX, A, shM) rfl (xs (i + 1)) (xs (i + 2)) (xs (i + 3)) (xs (i + 4)) N) h2 gL_law_X6_reading rfl rfl rfl (by decide +kernel) (by decide) rfl rfl (by decide : (1 : Nat) ≤ 8) dL_law_792 rfl (by decide) ?_
  refine CO.swap ?_
  refine CO.same_i (n := 1283) hA dL_law_795 rfl ?_
  exact hk M' N' hI'
set_option maxHeartbeats 4000000 in
set_option maxRecDepth 100000 in
theorem case_19 {v : Av} {D : va_G} {cA : Nat → ClassId} {A : Nat → Prop} {Q : State → Prop} {ax am : Nat → Nat} {b L i : Nat} {xs : Nat → Int32} {M N : Mem} (hC : LC v D cA A b L xs) (hi : i + 6 ≤ L) (hI : Inv M N) (hk : ∀ M N, Inv M N → LO v D cA A Q ax am b i 1283 [] M N) : LO v D cA A Q ax am b i 800 [] M N := by
  have hA := hC.1
  obtain ⟨r, M', N', h1, h2, hI'⟩ := p_back hI (xs (i + 1))
  refine CO.aload_n (n := 801) hA dL_law_800 2 rfl rfl ?_
  refine CO.arg (k := 1) (n := 806) hC (by omega) rfl dL_law_801 dL_law_802 dL_law_803 dL_law_804 dL_law_805 rfl ?_
  refine CO.callV (r := 0) (m := 1) (n := 809) (As := [.int (xs (i + 1))]) (rest := []) hA (c_X5_back v.2.1 (D, ax, cA, w_list am cA N 0 shM, A, shX) rfl (xs (i + 1)) M) h1 gL_law_X5_back rfl rfl rfl (by decide +kernel) (by decide) rfl rfl (by decide : (0 : Nat) ≤ 8) dL_law_806 rfl (by decide) ?_
  refine CO.swap ?_
  refine CO.aload_n (n := 810) hA dL_law_809 1 rfl rfl ?_
  refine CO.arg (k := 1) (n := 815) hC (by omega) rfl dL_law_810 dL_law_811 dL_law_812 dL_law_813 dL_law_814 rfl ?_
  refine CO.callV (r := 0) (m := 1) (n := 818) (As := [.int (xs (i + 1))]) (rest := [.int r]) hA (c_X6_back v.2.1 (D, am, cA, w_list ax cA M' 0 shX, A, shM) rfl (xs (i + 1)) N) h2 gL_law_X6_back rfl rfl rfl (by decide +kernel) (by decide) rfl rfl (by decide : (1 : Nat) ≤ 8) dL_law_815 rfl (by decide) ?_
  refine CO.swap ?_
  refine CO.same_i (n := 1283) hA dL_law_818 rfl ?_
  exact hk M' N' hI'
set_option maxHeartbeats 4000000 in
set_option maxRecDepth 100000 in
theorem case_20 {v : Av} {D : va_G} {cA : Nat → ClassId} {A : Nat → Prop} {Q : State → Prop} {ax am : Nat → Nat} {b L i : Nat} {xs : Nat → Int32} {M N : Mem} (hC : LC v D cA A b L xs) (hi : i + 6 ≤ L) (hI : Inv M N) (hk : ∀ M N, Inv M N → LO v D cA A Q ax am b i 1283 [] M N) : LO v D cA A Q ax am b i 823 [] M N := by
  have hA := hC.1
  obtain ⟨r, M', N', h1, h2, hI'⟩ := p_depths hI (xs (i + 1))
  refine CO.aload_n (n := 824) hA dL_law_823 2 rfl rfl ?_
  refine CO.arg (k := 1) (n := 829) hC (by omega) rfl dL_law_824 dL_law_825 dL_law_826 dL_law_827 dL_law_828 rfl ?_
  refine CO.callV (r := 0) (m := 1) (n := 832) (As := [.int (xs (i + 1))]) (rest := []) hA (c_X5_depths v.2.1 (D, ax, cA, w_list am cA N 0 shM, A, shX) rfl (xs (i + 1)) M) h1 gL_law_X5_depths rfl rfl rfl (by decide +kernel) (by decide) rfl rfl (by decide : (0 : Nat) ≤ 8) dL_law_829 rfl (by decide) ?_
  refine CO.swap ?_
  refine CO.aload_n (n := 833) hA dL_law_832 1 rfl rfl ?_
  refine CO.arg (k := 1) (n := 838) hC (by omega) rfl dL_law_833 dL_law_834 dL_law_835 dL_law_836 dL_law_837 rfl ?_
  refine CO.callV (r := 0) (m := 1) (n := 841) (As := [.int (xs (i + 1))]) (rest := [.int r]) hA (c_X6_depths v.2.1 (D, am, cA, w_list ax cA M' 0 shX, A, shM) rfl (xs (i + 1)) N) h2 gL_law_X6_depths rfl rfl rfl (by decide +kernel) (by decide) rfl rfl (by decide : (1 : Nat) ≤ 8) dL_law_838 rfl (by decide) ?_
  refine CO.swap ?_
  refine CO.same_i (n := 1283) hA dL_law_841 rfl ?_
  exact hk M' N' hI'
set_option maxHeartbeats 4000000 in
set_option maxRecDepth 100000 in
theorem case_21 {v : Av} {D : va_G} {cA : Nat → ClassId} {A : Nat → Prop} {Q : State → Prop} {ax am : Nat → Nat} {b L i : Nat} {xs : Nat → Int32} {M N : Mem} (hC : LC v D cA A b L xs) (hi : i + 6 ≤ L) (hI : Inv M N) (hk : ∀ M N, Inv M N → LO v D cA A Q ax am b i 1283 [] M N) : LO v D cA A Q ax am b i 846 [] M N := by
  have hA := hC.1
  obtain ⟨r, M', N', h1, h2, hI'⟩ := p_kinds hI (xs (i + 1))
  refine CO.aload_n (n := 847) hA dL_law_846 2 rfl rfl ?_
  refine CO.arg (k := 1) (n := 852) hC (by omega) rfl dL_law_847 dL_law_848 dL_law_849 dL_law_850 dL_law_851 rfl ?_
  refine CO.callV (r := 0) (m := 1) (n := 855) (As := [.int (xs (i + 1))]) (rest := []) hA (c_X5_kinds v.2.1 (D, ax, cA, w_list am cA N 0 shM, A, shX) rfl (xs (i + 1)) M) h1 gL_law_X5_kinds rfl rfl rfl (by decide +kernel) (by decide) rfl rfl (by decide : (0 : Nat) ≤ 8) dL_law_852 rfl (by decide) ?_
  refine CO.swap ?_
  refine CO.aload_n (n := 856) hA dL_law_855 1 rfl rfl ?_
  refine CO.arg (k := 1) (n := 861) hC (by omega) rfl dL_law_856 dL_law_857 dL_law_858 dL_law_859 dL_law_860 rfl ?_
  refine CO.callV (r := 0) (m := 1) (n := 864) (As := [.int (xs (i + 1))]) (rest := [.int r]) hA (c_X6_kinds v.2.1 (D, am, cA, w_list ax cA M' 0 shX, A, shM) rfl (xs (i + 1)) N) h2 gL_law_X6_kinds rfl rfl rfl (by decide +kernel) (by decide) rfl rfl (by decide : (1 : Nat) ≤ 8) dL_law_861 rfl (by decide) ?_
  refine CO.swap ?_
  refine CO.same_i (n := 1283) hA dL_law_864 rfl ?_
  exact hk M' N' hI'
set_option maxHeartbeats 4000000 in
set_option maxRecDepth 100000 in
theorem case_22 {v : Av} {D : va_G} {cA : Nat → ClassId} {A : Nat → Prop} {Q : State → Prop} {ax am : Nat → Nat} {b L i : Nat} {xs : Nat → Int32} {M N : Mem} (hC : LC v D cA A b L xs) (hi : i + 6 ≤ L) (hI : Inv M N) (hk : ∀ M N, Inv M N → LO v D cA A Q ax am b i 1283 [] M N) : LO v D cA A Q ax am b i 869 [] M N := by
  have hA := hC.1
  obtain ⟨r, M', N', h1, h2, hI'⟩ := p_louds hI (xs (i + 1))
  refine CO.aload_n (n := 870) hA dL_law_869 2 rfl rfl ?_
  refine CO.arg (k := 1) (n := 875) hC (by omega) rfl dL_law_870 dL_law_871 dL_law_872 dL_law_873 dL_law_874 rfl ?_
  refine CO.callV (r := 0) (m := 1) (n := 878) (As := [.int (xs (i + 1))]) (rest := []) hA (c_X5_louds v.2.1 (D, ax, cA, w_list am cA N 0 shM, A, shX) rfl (xs (i + 1)) M) h1 gL_law_X5_louds rfl rfl rfl (by decide +kernel) (by decide) rfl rfl (by decide : (0 : Nat) ≤ 8) dL_law_875 rfl (by decide) ?_
  refine CO.swap ?_
  refine CO.aload_n (n := 879) hA dL_law_878 1 rfl rfl ?_
  refine CO.arg (k := 1) (n := 884) hC (by omega) rfl dL_law_879 dL_law_880 dL_law_881 dL_law_882 dL_law_883 rfl ?_
  refine CO.callV (r := 0) (m := 1) (n := 887) (As := [.int (xs (i + 1))]) (rest := [.int r]) hA (c_X6_louds v.2.1 (D, am, cA, w_list ax cA M' 0 shX, A, shM) rfl (xs (i + 1)) N) h2 gL_law_X6_louds rfl rfl rfl (by decide +kernel) (by decide) rfl rfl (by decide : (1 : Nat) ≤ 8) dL_law_884 rfl (by decide) ?_
  refine CO.swap ?_
  refine CO.same_i (n := 1283) hA dL_law_887 rfl ?_
  exact hk M' N' hI'
set_option maxHeartbeats 4000000 in
set_option maxRecDepth 100000 in
theorem case_23 {v : Av} {D : va_G} {cA : Nat → ClassId} {A : Nat → Prop} {Q : State → Prop} {ax am : Nat → Nat} {b L i : Nat} {xs : Nat → Int32} {M N : Mem} (hC : LC v D cA A b L xs) (hi : i + 6 ≤ L) (hI : Inv M N) (hk : ∀ M N, Inv M N → LO v D cA A Q ax am b i 1283 [] M N) : LO v D cA A Q ax am b i 892 [] M N := by
  have hA := hC.1
  obtain ⟨r, M', N', h1, h2, hI'⟩ := p_walls hI 
  refine CO.aload_n (n := 893) hA dL_law_892 2 rfl rfl ?_
  refine CO.callV (r := 0) (m := 0) (n := 896) (As := []) (rest := []) hA (c_X5_walls v.2.1 (D, ax, cA, w_list am cA N 0 shM, A, shX) rfl M) h1 gL_law_X5_walls rfl rfl rfl (by decide +kernel) (by decide) rfl rfl (by decide : (0 : Nat) ≤ 8) dL_law_893 rfl (by decide) ?_
  refine CO.swap ?_
  refine CO.aload_n (n := 897) hA dL_law_896 1 rfl rfl ?_
  refine CO.callV (r := 0) (m := 0) (n := 900) (As := []) (rest := [.int r]) hA (c_X6_walls v.2.1 (D, am, cA, w_list ax cA M' 0 shX, A, shM) rfl N) h2 gL_law_X6_walls rfl rfl rfl (by decide +kernel) (by decide) rfl rfl (by decide : (1 : Nat) ≤ 8) dL_law_897 rfl (by decide) ?_
  refine CO.swap ?_
  refine CO.same_i (n := 1283) hA dL_law_900 rfl ?_
  exact hk M' N' hI'
