theorem dL_law_586 : decode code 586 = .ok (.aload_n 1, 1) := by decide +kernel
theorem dL_law_587 : decode code 587 = .ok (.aload_n 0, 1) := by decide +kernel
theorem dL_law_588 : decode code 588 = .ok (.iload 4, 2) := by decide +kernel
theorem dL_law_590 : decode code 590 = .ok (.iconst 1, 1) := by decide +kernel
theorem dL_law_591 : decode code 591 = .ok (.iadd, 1) := by decide +kernel
theorem dL_law_592 : decode code 592 = .ok (.iaload, 1) := by decide +kernel
theorem dL_law_593 : decode code 593 = .ok (.invokevirtual 63, 3) := by decide +kernel
theorem dL_law_596 : decode code 596 = .ok (.aload_n 2, 1) := by decide +kernel
theorem dL_law_597 : decode code 597 = .ok (.aload_n 0, 1) := by decide +kernel
theorem dL_law_598 : decode code 598 = .ok (.iload 4, 2) := by decide +kernel
theorem dL_law_600 : decode code 600 = .ok (.iconst 1, 1) := by decide +kernel
theorem dL_law_601 : decode code 601 = .ok (.iadd, 1) := by decide +kernel
theorem dL_law_602 : decode code 602 = .ok (.iaload, 1) := by decide +kernel
theorem dL_law_603 : decode code 603 = .ok (.invokevirtual 66, 3) := by decide +kernel
theorem dL_law_606 : decode code 606 = .ok (.if_icmp .eq 1332, 3) := by decide +kernel
theorem hv_L_63 : a_okV RL M_X3_days 63 := ⟨a_in 452 (by decide +kernel) rfl, a_in 453 (by decide +kernel) rfl, a_in 454 (by decide +kernel) rfl⟩
theorem hv_L_66 : a_okV RL M_X4_days 66 := ⟨a_in 1193 (by decide +kernel) rfl, a_in 1194 (by decide +kernel) rfl, a_in 1195 (by decide +kernel) rfl⟩
theorem lc_days {K : lK} (h : K.Ok) {t u : Nat} (hf : t ≤ 601024 ∧ u ≤ 7293034) {w : aW} {X : aX} {Y : aY} (hI : Inv X Y) {a : Int32} (hin : ∀ v : Int32, v = 1 ∨ v = 2 ∨ v = 3 ∨ v = 4 ∨ v = 5 → vp_in (a + v) K.n) (next : ∀ (X' : aX) (Y' : aY), Inv X' Y' → Lw K t u 1938 (lL a) [] (Wd w X' Y')) : Lw K t u 586 (lL a) [] (Wd w X Y) := by
  obtain ⟨r, w1, X', Y', hO, h3, h4, hI'⟩ := st_days hI w (K.xs (a + 1).toNatClampNeg)
  refine l_aload h dL_law_586 rfl rfl ?_
  refine l_arg h dL_law_587 dL_law_588 dL_law_590 dL_law_591 dL_law_592 kc_1 rfl rfl (hin 1 (by decide)) ?_
  refine l_call (rv' := rvI) (c0 := 2) (S := []) h hf rfl rfl ok_X3_days ⟨Nat.le_of_ble_eq_true rfl, Nat.le_of_ble_eq_true rfl⟩ hv_L_63 dL_law_593 (l_obj w X Y) (s_X3_days 0 _ _) h3 rfl rfl (Nat.le_of_ble_eq_true rfl) ?_
  refine l_aload h dL_law_596 rfl rfl ?_
  refine l_arg h dL_law_597 dL_law_598 dL_law_600 dL_law_601 dL_law_602 kc_1 rfl rfl (hin 1 (by decide)) ?_
  refine l_call (rv' := rvI) (c0 := 3) (S := [.int r]) h hf rfl rfl ok_X4_days ⟨Nat.le_of_ble_eq_true rfl, Nat.le_of_ble_eq_true rfl⟩ hv_L_66 dL_law_603 hO (s_X4_days 50 _ _) h4 rfl rfl (Nat.le_of_ble_eq_true rfl) ?_
  exact l_eq h dL_law_606 (by decide) (next X' Y' hI')
theorem dL_law_611 : decode code 611 = .ok (.aload_n 1, 1) := by decide +kernel
theorem dL_law_612 : decode code 612 = .ok (.aload_n 0, 1) := by decide +kernel
theorem dL_law_613 : decode code 613 = .ok (.iload 4, 2) := by decide +kernel
theorem dL_law_615 : decode code 615 = .ok (.iconst 1, 1) := by decide +kernel
theorem dL_law_616 : decode code 616 = .ok (.iadd, 1) := by decide +kernel
theorem dL_law_617 : decode code 617 = .ok (.iaload, 1) := by decide +kernel
theorem dL_law_618 : decode code 618 = .ok (.aload_n 0, 1) := by decide +kernel
theorem dL_law_619 : decode code 619 = .ok (.iload 4, 2) := by decide +kernel
theorem dL_law_621 : decode code 621 = .ok (.iconst 2, 1) := by decide +kernel
theorem dL_law_622 : decode code 622 = .ok (.iadd, 1) := by decide +kernel
theorem dL_law_623 : decode code 623 = .ok (.iaload, 1) := by decide +kernel
theorem dL_law_624 : decode code 624 = .ok (.aload_n 0, 1) := by decide +kernel
theorem dL_law_625 : decode code 625 = .ok (.iload 4, 2) := by decide +kernel
theorem dL_law_627 : decode code 627 = .ok (.iconst 3, 1) := by decide +kernel
theorem dL_law_628 : decode code 628 = .ok (.iadd, 1) := by decide +kernel
theorem dL_law_629 : decode code 629 = .ok (.iaload, 1) := by decide +kernel
theorem dL_law_630 : decode code 630 = .ok (.invokevirtual 67, 3) := by decide +kernel
theorem dL_law_633 : decode code 633 = .ok (.aload_n 2, 1) := by decide +kernel
theorem dL_law_634 : decode code 634 = .ok (.aload_n 0, 1) := by decide +kernel
theorem dL_law_635 : decode code 635 = .ok (.iload 4, 2) := by decide +kernel
theorem dL_law_637 : decode code 637 = .ok (.iconst 1, 1) := by decide +kernel
theorem dL_law_638 : decode code 638 = .ok (.iadd, 1) := by decide +kernel
theorem dL_law_639 : decode code 639 = .ok (.iaload, 1) := by decide +kernel
theorem dL_law_640 : decode code 640 = .ok (.aload_n 0, 1) := by decide +kernel
theorem dL_law_641 : decode code 641 = .ok (.iload 4, 2) := by decide +kernel
theorem dL_law_643 : decode code 643 = .ok (.iconst 2, 1) := by decide +kernel
theorem dL_law_644 : decode code 644 = .ok (.iadd, 1) := by decide +kernel
theorem dL_law_645 : decode code 645 = .ok (.iaload, 1) := by decide +kernel
theorem dL_law_646 : decode code 646 = .ok (.aload_n 0, 1) := by decide +kernel
theorem dL_law_647 : decode code 647 = .ok (.iload 4, 2) := by decide +kernel
theorem dL_law_649 : decode code 649 = .ok (.iconst 3, 1) := by decide +kernel
theorem dL_law_650 : decode code 650 = .ok (.iadd, 1) := by decide +kernel
theorem dL_law_651 : decode code 651 = .ok (.iaload, 1) := by decide +kernel
theorem dL_law_652 : decode code 652 = .ok (.invokevirtual 71, 3) := by decide +kernel
theorem dL_law_655 : decode code 655 = .ok (.if_icmp .eq 1283, 3) := by decide +kernel
theorem hv_L_67 : a_okV RL M_X3_beastThen 67 := ⟨a_in 456 (by decide +kernel) rfl, a_in 457 (by decide +kernel) rfl, a_in 458 (by decide +kernel) rfl⟩
theorem hv_L_71 : a_okV RL M_X4_beastThen 71 := ⟨a_in 1200 (by decide +kernel) rfl, a_in 1201 (by decide +kernel) rfl, a_in 1202 (by decide +kernel) rfl⟩
theorem lc_beastThen {K : lK} (h : K.Ok) {t u : Nat} (hf : t ≤ 601024 ∧ u ≤ 7293034) {w : aW} {X : aX} {Y : aY} (hI : Inv X Y) {a : Int32} (hin : ∀ v : Int32, v = 1 ∨ v = 2 ∨ v = 3 ∨ v = 4 ∨ v = 5 → vp_in (a + v) K.n) (next : ∀ (X' : aX) (Y' : aY), Inv X' Y' → Lw K t u 1938 (lL a) [] (Wd w X' Y')) : Lw K t u 611 (lL a) [] (Wd w X Y) := by
  obtain ⟨r, w1, X', Y', hO, h3, h4, hI'⟩ := st_beastThen hI w (K.xs (a + 1).toNatClampNeg) (K.xs (a + 2).toNatClampNeg) (K.xs (a + 3).toNatClampNeg)
  refine l_aload h dL_law_611 rfl rfl ?_
  refine l_arg h dL_law_612 dL_law_613 dL_law_615 dL_law_616 dL_law_617 kc_1 rfl rfl (hin 1 (by decide)) ?_
  refine l_arg h dL_law_618 dL_law_619 dL_law_621 dL_law_622 dL_law_623 kc_2 rfl rfl (hin 2 (by decide)) ?_
  refine l_arg h dL_law_624 dL_law_625 dL_law_627 dL_law_628 dL_law_629 kc_3 rfl rfl (hin 3 (by decide)) ?_
  refine l_call (rv' := rvI) (c0 := 2) (S := []) h hf rfl rfl ok_X3_beastThen ⟨Nat.le_of_ble_eq_true rfl, Nat.le_of_ble_eq_true rfl⟩ hv_L_67 dL_law_630 (l_obj w X Y) (s_X3_beastThen 0 _ _ _ _) h3 rfl rfl (Nat.le_of_ble_eq_true rfl) ?_
  refine l_aload h dL_law_633 rfl rfl ?_
  refine l_arg h dL_law_634 dL_law_635 dL_law_637 dL_law_638 dL_law_639 kc_1 rfl rfl (hin 1 (by decide)) ?_
  refine l_arg h dL_law_640 dL_law_641 dL_law_643 dL_law_644 dL_law_645 kc_2 rfl rfl (hin 2 (by decide)) ?_
  refine l_arg h dL_law_646 dL_law_647 dL_law_649 dL_law_650 dL_law_651 kc_3 rfl rfl (hin 3 (by decide)) ?_
  refine l_call (rv' := rvI) (c0 := 3) (S := [.int r]) h hf rfl rfl ok_X4_beastThen ⟨Nat.le_of_ble_eq_true rfl, Nat.le_of_ble_eq_true rfl⟩ hv_L_71 dL_law_652 hO (s_X4_beastThen 50 _ _ _ _) h4 rfl rfl (Nat.le_of_ble_eq_true rfl) ?_
  exact l_eq h dL_law_655 (by decide) (next X' Y' hI')
theorem dL_law_660 : decode code 660 = .ok (.aload_n 1, 1) := by decide +kernel
theorem dL_law_661 : decode code 661 = .ok (.aload_n 0, 1) := by decide +kernel
theorem dL_law_662 : decode code 662 = .ok (.iload 4, 2) := by decide +kernel
theorem dL_law_664 : decode code 664 = .ok (.iconst 1, 1) := by decide +kernel
theorem dL_law_665 : decode code 665 = .ok (.iadd, 1) := by decide +kernel
theorem dL_law_666 : decode code 666 = .ok (.iaload, 1) := by decide +kernel
theorem dL_law_667 : decode code 667 = .ok (.aload_n 0, 1) := by decide +kernel
theorem dL_law_668 : decode code 668 = .ok (.iload 4, 2) := by decide +kernel
theorem dL_law_670 : decode code 670 = .ok (.iconst 2, 1) := by decide +kernel
theorem dL_law_671 : decode code 671 = .ok (.iadd, 1) := by decide +kernel
theorem dL_law_672 : decode code 672 = .ok (.iaload, 1) := by decide +kernel
theorem dL_law_673 : decode code 673 = .ok (.aload_n 0, 1) := by decide +kernel
theorem dL_law_674 : decode code 674 = .ok (.iload 4, 2) := by decide +kernel
theorem dL_law_676 : decode code 676 = .ok (.iconst 3, 1) := by decide +kernel
theorem dL_law_677 : decode code 677 = .ok (.iadd, 1) := by decide +kernel
theorem dL_law_678 : decode code 678 = .ok (.iaload, 1) := by decide +kernel
theorem dL_law_679 : decode code 679 = .ok (.invokevirtual 72, 3) := by decide +kernel
theorem dL_law_682 : decode code 682 = .ok (.aload_n 2, 1) := by decide +kernel
theorem dL_law_683 : decode code 683 = .ok (.aload_n 0, 1) := by decide +kernel
theorem dL_law_684 : decode code 684 = .ok (.iload 4, 2) := by decide +kernel
theorem dL_law_686 : decode code 686 = .ok (.iconst 1, 1) := by decide +kernel
theorem dL_law_687 : decode code 687 = .ok (.iadd, 1) := by decide +kernel
theorem dL_law_688 : decode code 688 = .ok (.iaload, 1) := by decide +kernel
theorem dL_law_689 : decode code 689 = .ok (.aload_n 0, 1) := by decide +kernel
theorem dL_law_690 : decode code 690 = .ok (.iload 4, 2) := by decide +kernel
theorem dL_law_692 : decode code 692 = .ok (.iconst 2, 1) := by decide +kernel
theorem dL_law_693 : decode code 693 = .ok (.iadd, 1) := by decide +kernel
theorem dL_law_694 : decode code 694 = .ok (.iaload, 1) := by decide +kernel
theorem dL_law_695 : decode code 695 = .ok (.aload_n 0, 1) := by decide +kernel
theorem dL_law_696 : decode code 696 = .ok (.iload 4, 2) := by decide +kernel
theorem dL_law_698 : decode code 698 = .ok (.iconst 3, 1) := by decide +kernel
theorem dL_law_699 : decode code 699 = .ok (.iadd, 1) := by decide +kernel
theorem dL_law_700 : decode code 700 = .ok (.iaload, 1) := by decide +kernel
theorem dL_law_701 : decode code 701 = .ok (.invokevirtual 75, 3) := by decide +kernel
theorem dL_law_704 : decode code 704 = .ok (.if_icmp .eq 1234, 3) := by decide +kernel
theorem hv_L_72 : a_okV RL M_X3_personThen 72 := ⟨a_in 464 (by decide +kernel) rfl, a_in 465 (by decide +kernel) rfl, a_in 466 (by decide +kernel) rfl⟩
theorem hv_L_75 : a_okV RL M_X4_personThen 75 := ⟨a_in 1205 (by decide +kernel) rfl, a_in 1206 (by decide +kernel) rfl, a_in 1207 (by decide +kernel) rfl⟩
theorem lc_personThen {K : lK} (h : K.Ok) {t u : Nat} (hf : t ≤ 601024 ∧ u ≤ 7293034) {w : aW} {X : aX} {Y : aY} (hI : Inv X Y) {a : Int32} (hin : ∀ v : Int32, v = 1 ∨ v = 2 ∨ v = 3 ∨ v = 4 ∨ v = 5 → vp_in (a + v) K.n) (next : ∀ (X' : aX) (Y' : aY), Inv X' Y' → Lw K t u 1938 (lL a) [] (Wd w X' Y')) : Lw K t u 660 (lL a) [] (Wd w X Y) := by
  obtain ⟨r, w1, X', Y', hO, h3, h4, hI'⟩ := st_personThen hI w (K.xs (a + 1).toNatClampNeg) (K.xs (a + 2).toNatClampNeg) (K.xs (a + 3).toNatClampNeg)
  refine l_aload h dL_law_660 rfl rfl ?_
  refine l_arg h dL_law_661 dL_law_662 dL_law_664 dL_law_665 dL_law_666 kc_1 rfl rfl (hin 1 (by decide)) ?_
  refine l_arg h dL_law_667 dL_law_668 dL_law_670 dL_law_671 dL_law_672 kc_2 rfl rfl (hin 2 (by decide)) ?_
  refine l_arg h dL_law_673 dL_law_674 dL_law_676 dL_law_677 dL_law_678 kc_3 rfl rfl (hin 3 (by decide)) ?_
  refine l_call (rv' := rvI) (c0 := 2) (S := []) h hf rfl rfl ok_X3_personThen ⟨Nat.le_of_ble_eq_true rfl, Nat.le_of_ble_eq_true rfl⟩ hv_L_72 dL_law_679 (l_obj w X Y) (s_X3_personThen 0 _ _ _ _) h3 rfl rfl (Nat.le_of_ble_eq_true rfl) ?_
  refine l_aload h dL_law_682 rfl rfl ?_
  refine l_arg h dL_law_683 dL_law_684 dL_law_686 dL_law_687 dL_law_688 kc_1 rfl rfl (hin 1 (by decide)) ?_
  refine l_arg h dL_law_689 dL_law_690 dL_law_692 dL_law_693 dL_law_694 kc_2 rfl rfl (hin 2 (by decide)) ?_
  refine l_arg h dL_law_695 dL_law_696 dL_law_698 dL_law_699 dL_law_700 kc_3 rfl rfl (hin 3 (by decide)) ?_
  refine l_call (rv' := rvI) (c0 := 3) (S := [.int r]) h hf rfl rfl ok_X4_personThen ⟨Nat.le_of_ble_eq_true rfl, Nat.le_of_ble_eq_true rfl⟩ hv_L_75 dL_law_701 hO (s_X4_personThen 50 _ _ _ _) h4 rfl rfl (Nat.le_of_ble_eq_true rfl) ?_
  exact l_eq h dL_law_704 (by decide) (next X' Y' hI')
theorem dL_law_709 : decode code 709 = .ok (.aload_n 1, 1) := by decide +kernel
theorem dL_law_710 : decode code 710 = .ok (.aload_n 0, 1) := by decide +kernel
theorem dL_law_711 : decode code 711 = .ok (.iload 4, 2) := by decide +kernel
theorem dL_law_713 : decode code 713 = .ok (.iconst 1, 1) := by decide +kernel
theorem dL_law_714 : decode code 714 = .ok (.iadd, 1) := by decide +kernel
theorem dL_law_715 : decode code 715 = .ok (.iaload, 1) := by decide +kernel
theorem dL_law_716 : decode code 716 = .ok (.aload_n 0, 1) := by decide +kernel
theorem dL_law_717 : decode code 717 = .ok (.iload 4, 2) := by decide +kernel
theorem dL_law_719 : decode code 719 = .ok (.iconst 2, 1) := by decide +kernel
theorem dL_law_720 : decode code 720 = .ok (.iadd, 1) := by decide +kernel
theorem dL_law_721 : decode code 721 = .ok (.iaload, 1) := by decide +kernel
theorem dL_law_722 : decode code 722 = .ok (.invokevirtual 76, 3) := by decide +kernel
theorem dL_law_725 : decode code 725 = .ok (.aload_n 2, 1) := by decide +kernel
theorem dL_law_726 : decode code 726 = .ok (.aload_n 0, 1) := by decide +kernel
theorem dL_law_727 : decode code 727 = .ok (.iload 4, 2) := by decide +kernel
theorem dL_law_729 : decode code 729 = .ok (.iconst 1, 1) := by decide +kernel
theorem dL_law_730 : decode code 730 = .ok (.iadd, 1) := by decide +kernel
theorem dL_law_731 : decode code 731 = .ok (.iaload, 1) := by decide +kernel
theorem dL_law_732 : decode code 732 = .ok (.aload_n 0, 1) := by decide +kernel
theorem dL_law_733 : decode code 733 = .ok (.iload 4, 2) := by decide +kernel
theorem dL_law_735 : decode code 735 = .ok (.iconst 2, 1) := by decide +kernel
theorem dL_law_736 : decode code 736 = .ok (.iadd, 1) := by decide +kernel
theorem dL_law_737 : decode code 737 = .ok (.iaload, 1) := by decide +kernel
theorem dL_law_738 : decode code 738 = .ok (.invokevirtual 79, 3) := by decide +kernel
theorem dL_law_741 : decode code 741 = .ok (.if_icmp .eq 1197, 3) := by decide +kernel
theorem hv_L_76 : a_okV RL M_X3_named 76 := ⟨a_in 469 (by decide +kernel) rfl, a_in 470 (by decide +kernel) rfl, a_in 471 (by decide +kernel) rfl⟩
theorem hv_L_79 : a_okV RL M_X4_named 79 := ⟨a_in 1209 (by decide +kernel) rfl, a_in 1210 (by decide +kernel) rfl, a_in 1211 (by decide +kernel) rfl⟩
theorem lc_named {K : lK} (h : K.Ok) {t u : Nat} (hf : t ≤ 601024 ∧ u ≤ 7293034) {w : aW} {X : aX} {Y : aY} (hI : Inv X Y) {a : Int32} (hin : ∀ v : Int32, v = 1 ∨ v = 2 ∨ v = 3 ∨ v = 4 ∨ v = 5 → vp_in (a + v) K.n) (next : ∀ (X' : aX) (Y' : aY), Inv X' Y' → Lw K t u 1938 (lL a) [] (Wd w X' Y')) : Lw K t u 709 (lL a) [] (Wd w X Y) := by
  obtain ⟨r, w1, X', Y', hO, h3, h4, hI'⟩ := st_named hI w (K.xs (a + 1).toNatClampNeg) (K.xs (a + 2).toNatClampNeg)
  refine l_aload h dL_law_709 rfl rfl ?_
  refine l_arg h dL_law_710 dL_law_711 dL_law_713 dL_law_714 dL_law_715 kc_1 rfl rfl (hin 1 (by decide)) ?_
  refine l_arg h dL_law_716 dL_law_717 dL_law_719 dL_law_720 dL_law_721 kc_2 rfl rfl (hin 2 (by decide)) ?_
  refine l_call (rv' := rvI) (c0 := 2) (S := []) h hf rfl rfl ok_X3_named ⟨Nat.le_of_ble_eq_true rfl, Nat.le_of_ble_eq_true rfl⟩ hv_L_76 dL_law_722 (l_obj w X Y) (s_X3_named 0 _ _ _) h3 rfl rfl (Nat.le_of_ble_eq_true rfl) ?_
  refine l_aload h dL_law_725 rfl rfl ?_
  refine l_arg h dL_law_726 dL_law_727 dL_law_729 dL_law_730 dL_law_731 kc_1 rfl rfl (hin 1 (by decide)) ?_
  refine l_arg h dL_law_732 dL_law_733 dL_law_735 dL_law_736 dL_law_737 kc_2 rfl rfl (hin 2 (by decide)) ?_
  refine l_call (rv' := rvI) (c0 := 3) (S := [.int r]) h hf rfl rfl ok_X4_named ⟨Nat.le_of_ble_eq_true rfl, Nat.le_of_ble_eq_true rfl⟩ hv_L_79 dL_law_738 hO (s_X4_named 50 _ _ _) h4 rfl rfl (Nat.le_of_ble_eq_true rfl) ?_
  exact l_eq h dL_law_741 (by decide) (next X' Y' hI')
theorem dL_law_746 : decode code 746 = .ok (.aload_n 1, 1) := by decide +kernel
theorem dL_law_747 : decode code 747 = .ok (.aload_n 0, 1) := by decide +kernel
theorem dL_law_748 : decode code 748 = .ok (.iload 4, 2) := by decide +kernel
theorem dL_law_750 : decode code 750 = .ok (.iconst 1, 1) := by decide +kernel
theorem dL_law_751 : decode code 751 = .ok (.iadd, 1) := by decide +kernel
theorem dL_law_752 : decode code 752 = .ok (.iaload, 1) := by decide +kernel
theorem dL_law_753 : decode code 753 = .ok (.invokevirtual 80, 3) := by decide +kernel
theorem dL_law_756 : decode code 756 = .ok (.aload_n 2, 1) := by decide +kernel
theorem dL_law_757 : decode code 757 = .ok (.aload_n 0, 1) := by decide +kernel
theorem dL_law_758 : decode code 758 = .ok (.iload 4, 2) := by decide +kernel
theorem dL_law_760 : decode code 760 = .ok (.iconst 1, 1) := by decide +kernel
theorem dL_law_761 : decode code 761 = .ok (.iadd, 1) := by decide +kernel
theorem dL_law_762 : decode code 762 = .ok (.iaload, 1) := by decide +kernel
theorem dL_law_763 : decode code 763 = .ok (.invokevirtual 83, 3) := by decide +kernel
theorem dL_law_766 : decode code 766 = .ok (.if_icmp .eq 1172, 3) := by decide +kernel
theorem hv_L_80 : a_okV RL M_X3_dies 80 := ⟨a_in 474 (by decide +kernel) rfl, a_in 475 (by decide +kernel) rfl, a_in 476 (by decide +kernel) rfl⟩
theorem hv_L_83 : a_okV RL M_X4_dies 83 := ⟨a_in 1213 (by decide +kernel) rfl, a_in 1214 (by decide +kernel) rfl, a_in 1215 (by decide +kernel) rfl⟩
theorem lc_dies {K : lK} (h : K.Ok) {t u : Nat} (hf : t ≤ 601024 ∧ u ≤ 7293034) {w : aW} {X : aX} {Y : aY} (hI : Inv X Y) {a : Int32} (hin : ∀ v : Int32, v = 1 ∨ v = 2 ∨ v = 3 ∨ v = 4 ∨ v = 5 → vp_in (a + v) K.n) (next : ∀ (X' : aX) (Y' : aY), Inv X' Y' → Lw K t u 1938 (lL a) [] (Wd w X' Y')) : Lw K t u 746 (lL a) [] (Wd w X Y) := by
  obtain ⟨r, w1, X', Y', hO, h3, h4, hI'⟩ := st_dies hI w (K.xs (a + 1).toNatClampNeg)
  refine l_aload h dL_law_746 rfl rfl ?_
  refine l_arg h dL_law_747 dL_law_748 dL_law_750 dL_law_751 dL_law_752 kc_1 rfl rfl (hin 1 (by decide)) ?_
  refine l_call (rv' := rvI) (c0 := 2) (S := []) h hf rfl rfl ok_X3_dies ⟨Nat.le_of_ble_eq_true rfl, Nat.le_of_ble_eq_true rfl⟩ hv_L_80 dL_law_753 (l_obj w X Y) (s_X3_dies 0 _ _) h3 rfl rfl (Nat.le_of_ble_eq_true rfl) ?_
  refine l_aload h dL_law_756 rfl rfl ?_
  refine l_arg h dL_law_757 dL_law_758 dL_law_760 dL_law_761 dL_law_762 kc_1 rfl rfl (hin 1 (by decide)) ?_
  refine l_call (rv' := rvI) (c0 := 3) (S := [.int r]) h hf rfl rfl ok_X4_dies ⟨Nat.le_of_ble_eq_true rfl, Nat.le_of_ble_eq_true rfl⟩ hv_L_83 dL_law_763 hO (s_X4_dies 50 _ _) h4 rfl rfl (Nat.le_of_ble_eq_true rfl) ?_
  exact l_eq h dL_law_766 (by decide) (next X' Y' hI')
