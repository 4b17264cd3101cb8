/-! the law: the calls, 2 -/
section ZLW
variable {p : Program} {l : Launch} {e : Env} {s : State} {m : MethodId} {below : List Frame} {meth : Method} {c : Code} {g : za_L → Nat} {D : va_G} {cy : Nat → ClassId} {b L : Nat} {xs : Nat → Int32} {Q : State → Prop}
set_option maxRecDepth 100000 in
set_option maxHeartbeats 4000000 in
theorem zL_11 (C : za_C p s m #[Value.ref b] c code 4 RL g D cy) (hX : va_X b L xs s s.heap) (hbl : b < s.heap.size) (hbA : ¬ za_A g b) (hL : L ≤ 3072) {M : za_M} {n : Nat} (hI : zI M) (hn : n + 6 ≤ L) (kk : ∀ M', zI M' → zt p l e room_1 s m #[Value.ref b] below meth c 133 2551 Q g D cy 4 M' 1545 (zl_lv b g n) []) : zt p l e room_1 s m #[Value.ref b] below meth c 133 2551 Q g D cy 4 M 585 (zl_lv b g n) [] := by
  have h := zT_law (xs (n + 1)) (xs (n + 2)) (xs (n + 3)) (xs (n + 4)) M (fun r1 r2 M2 => r1 = r2 ∧ zI M2) hI (fun v M' h => ⟨rfl, h⟩)
  refine zt_aload_n C 1 dL_law_585 rfl rfl ?_
  refine zl_arg C hX hbl hbA hL (k := 1) (by omega) dL_law_586 dL_law_587 dL_law_588 dL_law_589 dL_law_590 ?_
  refine zl_arg C hX hbl hbA hL (k := 2) (by omega) dL_law_591 dL_law_592 dL_law_593 dL_law_594 dL_law_595 ?_
  refine zl_arg C hX hbl hbA hL (k := 3) (by omega) dL_law_596 dL_law_597 dL_law_598 dL_law_599 dL_law_600 ?_
  refine zl_arg C hX hbl hbA hL (k := 4) (by omega) dL_law_601 dL_law_602 dL_law_603 dL_law_604 dL_law_605 ?_
  refine zt_cVi C [.int (xs (n + 1)), .int (xs (n + 2)), .int (xs (n + 3)), .int (xs (n + 4))] (m_X9_law C.2.2.2.2.2.2 h) (za_mem (j := 0) rfl (by decide) (by decide)) (za_E_0 g cy M 0 0) rfl vY_X9_law vV_X9_law (Nat.le_of_ble_eq_true rfl) (by exact ⟨(Nat.le_of_ble_eq_true rfl), (Nat.le_of_ble_eq_true rfl)⟩) (by exact ⟨(Nat.le_of_ble_eq_true rfl), (Nat.le_of_ble_eq_true rfl)⟩) dL_law_606 rfl (fun r1 M1 h1 => ?_)
  refine zt_aload_n C 2 dL_law_609 rfl rfl ?_
  refine zl_arg C hX hbl hbA hL (k := 1) (by omega) dL_law_610 dL_law_611 dL_law_612 dL_law_613 dL_law_614 ?_
  refine zl_arg C hX hbl hbA hL (k := 2) (by omega) dL_law_615 dL_law_616 dL_law_617 dL_law_618 dL_law_619 ?_
  refine zl_arg C hX hbl hbA hL (k := 3) (by omega) dL_law_620 dL_law_621 dL_law_622 dL_law_623 dL_law_624 ?_
  refine zl_arg C hX hbl hbA hL (k := 4) (by omega) dL_law_625 dL_law_626 dL_law_627 dL_law_628 dL_law_629 ?_
  refine zt_cVi C [.int (xs (n + 1)), .int (xs (n + 2)), .int (xs (n + 3)), .int (xs (n + 4))] (m_X10_law C.2.2.2.2.2.2 h1) (za_mem (j := 27) rfl (by decide) (by decide)) (za_E_27 g cy M1 0 0) rfl vY_X10_law vV_X10_law (Nat.le_of_ble_eq_true rfl) (by exact ⟨(Nat.le_of_ble_eq_true rfl), (Nat.le_of_ble_eq_true rfl)⟩) (by exact ⟨(Nat.le_of_ble_eq_true rfl), (Nat.le_of_ble_eq_true rfl)⟩) dL_law_630 rfl (fun r2 M2 h2 => ?_)
  obtain ⟨rfl, hI2⟩ := h2
  exact zt_icmp_eq C 1545 dL_law_633 (by decide) (fun _ => kk M2 hI2) (fun q => absurd rfl q)
set_option maxRecDepth 100000 in
set_option maxHeartbeats 4000000 in
theorem zL_12 (C : za_C p s m #[Value.ref b] c code 4 RL g D cy) (hX : va_X b L xs s s.heap) (hbl : b < s.heap.size) (hbA : ¬ za_A g b) (hL : L ≤ 3072) {M : za_M} {n : Nat} (hI : zI M) (hn : n + 6 ≤ L) (kk : ∀ M', zI M' → zt p l e room_1 s m #[Value.ref b] below meth c 133 2551 Q g D cy 4 M' 1545 (zl_lv b g n) []) : zt p l e room_1 s m #[Value.ref b] below meth c 133 2551 Q g D cy 4 M 638 (zl_lv b g n) [] := by
  have h := zT_lend (xs (n + 1)) (xs (n + 2)) (xs (n + 3)) (xs (n + 4)) (xs (n + 5)) M (fun r1 r2 M2 => r1 = r2 ∧ zI M2) hI (fun v M' h => ⟨rfl, h⟩)
  refine zt_aload_n C 1 dL_law_638 rfl rfl ?_
  refine zl_arg C hX hbl hbA hL (k := 1) (by omega) dL_law_639 dL_law_640 dL_law_641 dL_law_642 dL_law_643 ?_
  refine zl_arg C hX hbl hbA hL (k := 2) (by omega) dL_law_644 dL_law_645 dL_law_646 dL_law_647 dL_law_648 ?_
  refine zl_arg C hX hbl hbA hL (k := 3) (by omega) dL_law_649 dL_law_650 dL_law_651 dL_law_652 dL_law_653 ?_
  refine zl_arg C hX hbl hbA hL (k := 4) (by omega) dL_law_654 dL_law_655 dL_law_656 dL_law_657 dL_law_658 ?_
  refine zl_arg C hX hbl hbA hL (k := 5) (by omega) dL_law_659 dL_law_660 dL_law_661 dL_law_662 dL_law_663 ?_
  refine zt_cVi C [.int (xs (n + 1)), .int (xs (n + 2)), .int (xs (n + 3)), .int (xs (n + 4)), .int (xs (n + 5))] (m_X9_lend C.2.2.2.2.2.2 h) (za_mem (j := 0) rfl (by decide) (by decide)) (za_E_0 g cy M 0 0) rfl vY_X9_lend vV_X9_lend (Nat.le_of_ble_eq_true rfl) (by exact ⟨(Nat.le_of_ble_eq_true rfl), (Nat.le_of_ble_eq_true rfl)⟩) (by exact ⟨(Nat.le_of_ble_eq_true rfl), (Nat.le_of_ble_eq_true rfl)⟩) dL_law_664 rfl (fun r1 M1 h1 => ?_)
  refine zt_aload_n C 2 dL_law_667 rfl rfl ?_
  refine zl_arg C hX hbl hbA hL (k := 1) (by omega) dL_law_668 dL_law_669 dL_law_670 dL_law_671 dL_law_672 ?_
  refine zl_arg C hX hbl hbA hL (k := 2) (by omega) dL_law_673 dL_law_674 dL_law_675 dL_law_676 dL_law_677 ?_
  refine zl_arg C hX hbl hbA hL (k := 3) (by omega) dL_law_678 dL_law_679 dL_law_680 dL_law_681 dL_law_682 ?_
  refine zl_arg C hX hbl hbA hL (k := 4) (by omega) dL_law_683 dL_law_684 dL_law_685 dL_law_686 dL_law_687 ?_
  refine zl_arg C hX hbl hbA hL (k := 5) (by omega) dL_law_688 dL_law_689 dL_law_690 dL_law_691 dL_law_692 ?_
  refine zt_cVi C [.int (xs (n + 1)), .int (xs (n + 2)), .int (xs (n + 3)), .int (xs (n + 4)), .int (xs (n + 5))] (m_X10_lend C.2.2.2.2.2.2 h1) (za_mem (j := 27) rfl (by decide) (by decide)) (za_E_27 g cy M1 0 0) rfl vY_X10_lend vV_X10_lend (Nat.le_of_ble_eq_true rfl) (by exact ⟨(Nat.le_of_ble_eq_true rfl), (Nat.le_of_ble_eq_true rfl)⟩) (by exact ⟨(Nat.le_of_ble_eq_true rfl), (Nat.le_of_ble_eq_true rfl)⟩) dL_law_693 rfl (fun r2 M2 h2 => ?_)
  obtain ⟨rfl, hI2⟩ := h2
  exact zt_icmp_eq C 1545 dL_law_696 (by decide) (fun _ => kk M2 hI2) (fun q => absurd rfl q)
set_option maxRecDepth 100000 in
set_option maxHeartbeats 4000000 in
theorem zL_13 (C : za_C p s m #[Value.ref b] c code 4 RL g D cy) (hX : va_X b L xs s s.heap) (hbl : b < s.heap.size) (hbA : ¬ za_A g b) (hL : L ≤ 3072) {M : za_M} {n : Nat} (hI : zI M) (hn : n + 6 ≤ L) (kk : ∀ M', zI M' → zt p l e room_1 s m #[Value.ref b] below meth c 133 2551 Q g D cy 4 M' 1545 (zl_lv b g n) []) : zt p l e room_1 s m #[Value.ref b] below meth c 133 2551 Q g D cy 4 M 701 (zl_lv b g n) [] := by
  have h := zT_ofLoan (xs (n + 1)) (xs (n + 2)) M (fun r1 r2 M2 => r1 = r2 ∧ zI M2) hI (fun v M' h => ⟨rfl, h⟩)
  refine zt_aload_n C 1 dL_law_701 rfl rfl ?_
  refine zl_arg C hX hbl hbA hL (k := 1) (by omega) dL_law_702 dL_law_703 dL_law_704 dL_law_705 dL_law_706 ?_
  refine zl_arg C hX hbl hbA hL (k := 2) (by omega) dL_law_707 dL_law_708 dL_law_709 dL_law_710 dL_law_711 ?_
  refine zt_cVi C [.int (xs (n + 1)), .int (xs (n + 2))] (m_X9_ofLoan C.2.2.2.2.2.2 h) (za_mem (j := 0) rfl (by decide) (by decide)) (za_E_0 g cy M 0 0) rfl vY_X9_ofLoan vV_X9_ofLoan (Nat.le_of_ble_eq_true rfl) (by exact ⟨(Nat.le_of_ble_eq_true rfl), (Nat.le_of_ble_eq_true rfl)⟩) (by exact ⟨(Nat.le_of_ble_eq_true rfl), (Nat.le_of_ble_eq_true rfl)⟩) dL_law_712 rfl (fun r1 M1 h1 => ?_)
  refine zt_aload_n C 2 dL_law_715 rfl rfl ?_
  refine zl_arg C hX hbl hbA hL (k := 1) (by omega) dL_law_716 dL_law_717 dL_law_718 dL_law_719 dL_law_720 ?_
  refine zl_arg C hX hbl hbA hL (k := 2) (by omega) dL_law_721 dL_law_722 dL_law_723 dL_law_724 dL_law_725 ?_
  refine zt_cVi C [.int (xs (n + 1)), .int (xs (n + 2))] (m_X10_ofLoan C.2.2.2.2.2.2 h1) (za_mem (j := 27) rfl (by decide) (by decide)) (za_E_27 g cy M1 0 0) rfl vY_X10_ofLoan vV_X10_ofLoan (Nat.le_of_ble_eq_true rfl) (by exact ⟨(Nat.le_of_ble_eq_true rfl), (Nat.le_of_ble_eq_true rfl)⟩) (by exact ⟨(Nat.le_of_ble_eq_true rfl), (Nat.le_of_ble_eq_true rfl)⟩) dL_law_726 rfl (fun r2 M2 h2 => ?_)
  obtain ⟨rfl, hI2⟩ := h2
  exact zt_icmp_eq C 1545 dL_law_729 (by decide) (fun _ => kk M2 hI2) (fun q => absurd rfl q)
set_option maxRecDepth 100000 in
set_option maxHeartbeats 4000000 in
theorem zL_14 (C : za_C p s m #[Value.ref b] c code 4 RL g D cy) (hX : va_X b L xs s s.heap) (hbl : b < s.heap.size) (hbA : ¬ za_A g b) (hL : L ≤ 3072) {M : za_M} {n : Nat} (hI : zI M) (hn : n + 6 ≤ L) (kk : ∀ M', zI M' → zt p l e room_1 s m #[Value.ref b] below meth c 133 2551 Q g D cy 4 M' 1545 (zl_lv b g n) []) : zt p l e room_1 s m #[Value.ref b] below meth c 133 2551 Q g D cy 4 M 734 (zl_lv b g n) [] := by
  have h := zT_back (xs (n + 1)) M (fun r1 r2 M2 => r1 = r2 ∧ zI M2) hI (fun v M' h => ⟨rfl, h⟩)
  refine zt_aload_n C 1 dL_law_734 rfl rfl ?_
  refine zl_arg C hX hbl hbA hL (k := 1) (by omega) dL_law_735 dL_law_736 dL_law_737 dL_law_738 dL_law_739 ?_
  refine zt_cVi C [.int (xs (n + 1))] (m_X9_back C.2.2.2.2.2.2 h) (za_mem (j := 0) rfl (by decide) (by decide)) (za_E_0 g cy M 0 0) rfl vY_X9_back vV_X9_back (Nat.le_of_ble_eq_true rfl) (by exact ⟨(Nat.le_of_ble_eq_true rfl), (Nat.le_of_ble_eq_true rfl)⟩) (by exact ⟨(Nat.le_of_ble_eq_true rfl), (Nat.le_of_ble_eq_true rfl)⟩) dL_law_740 rfl (fun r1 M1 h1 => ?_)
  refine zt_aload_n C 2 dL_law_743 rfl rfl ?_
  refine zl_arg C hX hbl hbA hL (k := 1) (by omega) dL_law_744 dL_law_745 dL_law_746 dL_law_747 dL_law_748 ?_
  refine zt_cVi C [.int (xs (n + 1))] (m_X10_back C.2.2.2.2.2.2 h1) (za_mem (j := 27) rfl (by decide) (by decide)) (za_E_27 g cy M1 0 0) rfl vY_X10_back vV_X10_back (Nat.le_of_ble_eq_true rfl) (by exact ⟨(Nat.le_of_ble_eq_true rfl), (Nat.le_of_ble_eq_true rfl)⟩) (by exact ⟨(Nat.le_of_ble_eq_true rfl), (Nat.le_of_ble_eq_true rfl)⟩) dL_law_749 rfl (fun r2 M2 h2 => ?_)
  obtain ⟨rfl, hI2⟩ := h2
  exact zt_icmp_eq C 1545 dL_law_752 (by decide) (fun _ => kk M2 hI2) (fun q => absurd rfl q)
set_option maxRecDepth 100000 in
set_option maxHeartbeats 4000000 in
theorem zL_15 (C : za_C p s m #[Value.ref b] c code 4 RL g D cy) (hX : va_X b L xs s s.heap) (hbl : b < s.heap.size) (hbA : ¬ za_A g b) (hL : L ≤ 3072) {M : za_M} {n : Nat} (hI : zI M) (hn : n + 6 ≤ L) (kk : ∀ M', zI M' → zt p l e room_1 s m #[Value.ref b] below meth c 133 2551 Q g D cy 4 M' 1545 (zl_lv b g n) []) : zt p l e room_1 s m #[Value.ref b] below meth c 133 2551 Q g D cy 4 M 757 (zl_lv b g n) [] := by
  have h := zT_fire (xs (n + 1)) (xs (n + 2)) (xs (n + 3)) M (fun r1 r2 M2 => r1 = r2 ∧ zI M2) hI (fun v M' h => ⟨rfl, h⟩)
  refine zt_aload_n C 1 dL_law_757 rfl rfl ?_
  refine zl_arg C hX hbl hbA hL (k := 1) (by omega) dL_law_758 dL_law_759 dL_law_760 dL_law_761 dL_law_762 ?_
  refine zl_arg C hX hbl hbA hL (k := 2) (by omega) dL_law_763 dL_law_764 dL_law_765 dL_law_766 dL_law_767 ?_
  refine zl_arg C hX hbl hbA hL (k := 3) (by omega) dL_law_768 dL_law_769 dL_law_770 dL_law_771 dL_law_772 ?_
  refine zt_cVi C [.int (xs (n + 1)), .int (xs (n + 2)), .int (xs (n + 3))] (m_X9_fire C.2.2.2.2.2.2 h) (za_mem (j := 0) rfl (by decide) (by decide)) (za_E_0 g cy M 0 0) rfl vY_X9_fire vV_X9_fire (Nat.le_of_ble_eq_true rfl) (by exact ⟨(Nat.le_of_ble_eq_true rfl), (Nat.le_of_ble_eq_true rfl)⟩) (by exact ⟨(Nat.le_of_ble_eq_true rfl), (Nat.le_of_ble_eq_true rfl)⟩) dL_law_773 rfl (fun r1 M1 h1 => ?_)
  refine zt_aload_n C 2 dL_law_776 rfl rfl ?_
  refine zl_arg C hX hbl hbA hL (k := 1) (by omega) dL_law_777 dL_law_778 dL_law_779 dL_law_780 dL_law_781 ?_
  refine zl_arg C hX hbl hbA hL (k := 2) (by omega) dL_law_782 dL_law_783 dL_law_784 dL_law_785 dL_law_786 ?_
  refine zl_arg C hX hbl hbA hL (k := 3) (by omega) dL_law_787 dL_law_788 dL_law_789 dL_law_790 dL_law_791 ?_
  refine zt_cVi C [.int (xs (n + 1)), .int (xs (n + 2)), .int (xs (n + 3))] (m_X10_fire C.2.2.2.2.2.2 h1) (za_mem (j := 27) rfl (by decide) (by decide)) (za_E_27 g cy M1 0 0) rfl vY_X10_fire vV_X10_fire (Nat.le_of_ble_eq_true rfl) (by exact ⟨(Nat.le_of_ble_eq_true rfl), (Nat.le_of_ble_eq_true rfl)⟩) (by exact ⟨(Nat.le_of_ble_eq_true rfl), (Nat.le_of_ble_eq_true rfl)⟩) dL_law_792 rfl (fun r2 M2 h2 => ?_)
  obtain ⟨rfl, hI2⟩ := h2
  exact zt_icmp_eq C 1545 dL_law_795 (by decide) (fun _ => kk M2 hI2) (fun q => absurd rfl q)
set_option maxRecDepth 100000 in
set_option maxHeartbeats 4000000 in
theorem zL_16 (C : za_C p s m #[Value.ref b] c code 4 RL g D cy) (hX : va_X b L xs s s.heap) (hbl : b < s.heap.size) (hbA : ¬ za_A g b) (hL : L ≤ 3072) {M : za_M} {n : Nat} (hI : zI M) (hn : n + 6 ≤ L) (kk : ∀ M', zI M' → zt p l e room_1 s m #[Value.ref b] below meth c 133 2551 Q g D cy 4 M' 1545 (zl_lv b g n) []) : zt p l e room_1 s m #[Value.ref b] below meth c 133 2551 Q g D cy 4 M 800 (zl_lv b g n) [] := by
  have h := zT_days (xs (n + 1)) M (fun r1 r2 M2 => r1 = r2 ∧ zI M2) hI (fun v M' h => ⟨rfl, h⟩)
  refine zt_aload_n C 1 dL_law_800 rfl rfl ?_
  refine zl_arg C hX hbl hbA hL (k := 1) (by omega) dL_law_801 dL_law_802 dL_law_803 dL_law_804 dL_law_805 ?_
  refine zt_cVi C [.int (xs (n + 1))] (m_X9_days C.2.2.2.2.2.2 h) (za_mem (j := 0) rfl (by decide) (by decide)) (za_E_0 g cy M 0 0) rfl vY_X9_days vV_X9_days (Nat.le_of_ble_eq_true rfl) (by exact ⟨(Nat.le_of_ble_eq_true rfl), (Nat.le_of_ble_eq_true rfl)⟩) (by exact ⟨(Nat.le_of_ble_eq_true rfl), (Nat.le_of_ble_eq_true rfl)⟩) dL_law_806 rfl (fun r1 M1 h1 => ?_)
  refine zt_aload_n C 2 dL_law_809 rfl rfl ?_
  refine zl_arg C hX hbl hbA hL (k := 1) (by omega) dL_law_810 dL_law_811 dL_law_812 dL_law_813 dL_law_814 ?_
  refine zt_cVi C [.int (xs (n + 1))] (m_X10_days C.2.2.2.2.2.2 h1) (za_mem (j := 27) rfl (by decide) (by decide)) (za_E_27 g cy M1 0 0) rfl vY_X10_days vV_X10_days (Nat.le_of_ble_eq_true rfl) (by exact ⟨(Nat.le_of_ble_eq_true rfl), (Nat.le_of_ble_eq_true rfl)⟩) (by exact ⟨(Nat.le_of_ble_eq_true rfl), (Nat.le_of_ble_eq_true rfl)⟩) dL_law_815 rfl (fun r2 M2 h2 => ?_)
  obtain ⟨rfl, hI2⟩ := h2
  exact zt_icmp_eq C 1545 dL_law_818 (by decide) (fun _ => kk M2 hI2) (fun q => absurd rfl q)
set_option maxRecDepth 100000 in
set_option maxHeartbeats 4000000 in
theorem zL_17 (C : za_C p s m #[Value.ref b] c code 4 RL g D cy) (hX : va_X b L xs s s.heap) (hbl : b < s.heap.size) (hbA : ¬ za_A g b) (hL : L ≤ 3072) {M : za_M} {n : Nat} (hI : zI M) (hn : n + 6 ≤ L) (kk : ∀ M', zI M' → zt p l e room_1 s m #[Value.ref b] below meth c 133 2551 Q g D cy 4 M' 1545 (zl_lv b g n) []) : zt p l e room_1 s m #[Value.ref b] below meth c 133 2551 Q g D cy 4 M 823 (zl_lv b g n) [] := by
  have h := zT_loose (xs (n + 1)) M (fun r1 r2 M2 => r1 = r2 ∧ zI M2) hI (fun v M' h => ⟨rfl, h⟩)
  refine zt_aload_n C 1 dL_law_823 rfl rfl ?_
  refine zl_arg C hX hbl hbA hL (k := 1) (by omega) dL_law_824 dL_law_825 dL_law_826 dL_law_827 dL_law_828 ?_
  refine zt_cVi C [.int (xs (n + 1))] (m_X9_loose C.2.2.2.2.2.2 h) (za_mem (j := 0) rfl (by decide) (by decide)) (za_E_0 g cy M 0 0) rfl vY_X9_loose vV_X9_loose (Nat.le_of_ble_eq_true rfl) (by exact ⟨(Nat.le_of_ble_eq_true rfl), (Nat.le_of_ble_eq_true rfl)⟩) (by exact ⟨(Nat.le_of_ble_eq_true rfl), (Nat.le_of_ble_eq_true rfl)⟩) dL_law_829 rfl (fun r1 M1 h1 => ?_)
  refine zt_aload_n C 2 dL_law_832 rfl rfl ?_
  refine zl_arg C hX hbl hbA hL (k := 1) (by omega) dL_law_833 dL_law_834 dL_law_835 dL_law_836 dL_law_837 ?_
  refine zt_cVi C [.int (xs (n + 1))] (m_X10_loose C.2.2.2.2.2.2 h1) (za_mem (j := 27) rfl (by decide) (by decide)) (za_E_27 g cy M1 0 0) rfl vY_X10_loose vV_X10_loose (Nat.le_of_ble_eq_true rfl) (by exact ⟨(Nat.le_of_ble_eq_true rfl), (Nat.le_of_ble_eq_true rfl)⟩) (by exact ⟨(Nat.le_of_ble_eq_true rfl), (Nat.le_of_ble_eq_true rfl)⟩) dL_law_838 rfl (fun r2 M2 h2 => ?_)
  obtain ⟨rfl, hI2⟩ := h2
  exact zt_icmp_eq C 1545 dL_law_841 (by decide) (fun _ => kk M2 hI2) (fun q => absurd rfl q)
set_option maxRecDepth 100000 in
set_option maxHeartbeats 4000000 in
theorem zL_18 (C : za_C p s m #[Value.ref b] c code 4 RL g D cy) (hX : va_X b L xs s s.heap) (hbl : b < s.heap.size) (hbA : ¬ za_A g b) (hL : L ≤ 3072) {M : za_M} {n : Nat} (hI : zI M) (hn : n + 6 ≤ L) (kk : ∀ M', zI M' → zt p l e room_1 s m #[Value.ref b] below meth c 133 2551 Q g D cy 4 M' 1545 (zl_lv b g n) []) : zt p l e room_1 s m #[Value.ref b] below meth c 133 2551 Q g D cy 4 M 846 (zl_lv b g n) [] := by
  have h := zT_colour (xs (n + 1)) (xs (n + 2)) M (fun r1 r2 M2 => r1 = r2 ∧ zI M2) hI (fun v M' h => ⟨rfl, h⟩)
  refine zt_aload_n C 1 dL_law_846 rfl rfl ?_
  refine zl_arg C hX hbl hbA hL (k := 1) (by omega) dL_law_847 dL_law_848 dL_law_849 dL_law_850 dL_law_851 ?_
  refine zl_arg C hX hbl hbA hL (k := 2) (by omega) dL_law_852 dL_law_853 dL_law_854 dL_law_855 dL_law_856 ?_
  refine zt_cVi C [.int (xs (n + 1)), .int (xs (n + 2))] (m_X9_colour C.2.2.2.2.2.2 h) (za_mem (j := 0) rfl (by decide) (by decide)) (za_E_0 g cy M 0 0) rfl vY_X9_colour vV_X9_colour (Nat.le_of_ble_eq_true rfl) (by exact ⟨(Nat.le_of_ble_eq_true rfl), (Nat.le_of_ble_eq_true rfl)⟩) (by exact ⟨(Nat.le_of_ble_eq_true rfl), (Nat.le_of_ble_eq_true rfl)⟩) dL_law_857 rfl (fun r1 M1 h1 => ?_)
  refine zt_aload_n C 2 dL_law_860 rfl rfl ?_
  refine zl_arg C hX hbl hbA hL (k := 1) (by omega) dL_law_861 dL_law_862 dL_law_863 dL_law_864 dL_law_865 ?_
  refine zl_arg C hX hbl hbA hL (k := 2) (by omega) dL_law_866 dL_law_867 dL_law_868 dL_law_869 dL_law_870 ?_
  refine zt_cVi C [.int (xs (n + 1)), .int (xs (n + 2))] (m_X10_colour C.2.2.2.2.2.2 h1) (za_mem (j := 27) rfl (by decide) (by decide)) (za_E_27 g cy M1 0 0) rfl vY_X10_colour vV_X10_colour (Nat.le_of_ble_eq_true rfl) (by exact ⟨(Nat.le_of_ble_eq_true rfl), (Nat.le_of_ble_eq_true rfl)⟩) (by exact ⟨(Nat.le_of_ble_eq_true rfl), (Nat.le_of_ble_eq_true rfl)⟩) dL_law_871 rfl (fun r2 M2 h2 => ?_)
  obtain ⟨rfl, hI2⟩ := h2
  exact zt_icmp_eq C 1545 dL_law_874 (by decide) (fun _ => kk M2 hI2) (fun q => absurd rfl q)
set_option maxRecDepth 100000 in
set_option maxHeartbeats 4000000 in
theorem zL_19 (C : za_C p s m #[Value.ref b] c code 4 RL g D cy) (hX : va_X b L xs s s.heap) (hbl : b < s.heap.size) (hbA : ¬ za_A g b) (hL : L ≤ 3072) {M : za_M} {n : Nat} (hI : zI M) (hn : n + 6 ≤ L) (kk : ∀ M', zI M' → zt p l e room_1 s m #[Value.ref b] below meth c 133 2551 Q g D cy 4 M' 1545 (zl_lv b g n) []) : zt p l e room_1 s m #[Value.ref b] below meth c 133 2551 Q g D cy 4 M 879 (zl_lv b g n) [] := by
  have h := zT_then (xs (n + 1)) (xs (n + 2)) (xs (n + 3)) M (fun r1 r2 M2 => r1 = r2 ∧ zI M2) hI (fun v M' h => ⟨rfl, h⟩)
  refine zt_aload_n C 1 dL_law_879 rfl rfl ?_
  refine zl_arg C hX hbl hbA hL (k := 1) (by omega) dL_law_880 dL_law_881 dL_law_882 dL_law_883 dL_law_884 ?_
  refine zl_arg C hX hbl hbA hL (k := 2) (by omega) dL_law_885 dL_law_886 dL_law_887 dL_law_888 dL_law_889 ?_
  refine zl_arg C hX hbl hbA hL (k := 3) (by omega) dL_law_890 dL_law_891 dL_law_892 dL_law_893 dL_law_894 ?_
  refine zt_cVi C [.int (xs (n + 1)), .int (xs (n + 2)), .int (xs (n + 3))] (m_X9_then C.2.2.2.2.2.2 h) (za_mem (j := 0) rfl (by decide) (by decide)) (za_E_0 g cy M 0 0) rfl vY_X9_then vV_X9_then (Nat.le_of_ble_eq_true rfl) (by exact ⟨(Nat.le_of_ble_eq_true rfl), (Nat.le_of_ble_eq_true rfl)⟩) (by exact ⟨(Nat.le_of_ble_eq_true rfl), (Nat.le_of_ble_eq_true rfl)⟩) dL_law_895 rfl (fun r1 M1 h1 => ?_)
  refine zt_aload_n C 2 dL_law_898 rfl rfl ?_
  refine zl_arg C hX hbl hbA hL (k := 1) (by omega) dL_law_899 dL_law_900 dL_law_901 dL_law_902 dL_law_903 ?_
  refine zl_arg C hX hbl hbA hL (k := 2) (by omega) dL_law_904 dL_law_905 dL_law_906 dL_law_907 dL_law_908 ?_
  refine zl_arg C hX hbl hbA hL (k := 3) (by omega) dL_law_909 dL_law_910 dL_law_911 dL_law_912 dL_law_913 ?_
  refine zt_cVi C [.int (xs (n + 1)), .int (xs (n + 2)), .int (xs (n + 3))] (m_X10_then C.2.2.2.2.2.2 h1) (za_mem (j := 27) rfl (by decide) (by decide)) (za_E_27 g cy M1 0 0) rfl vY_X10_then vV_X10_then (Nat.le_of_ble_eq_true rfl) (by exact ⟨(Nat.le_of_ble_eq_true rfl), (Nat.le_of_ble_eq_true rfl)⟩) (by exact ⟨(Nat.le_of_ble_eq_true rfl), (Nat.le_of_ble_eq_true rfl)⟩) dL_law_914 rfl (fun r2 M2 h2 => ?_)
  obtain ⟨rfl, hI2⟩ := h2
  exact zt_icmp_eq C 1545 dL_law_917 (by decide) (fun _ => kk M2 hI2) (fun q => absurd rfl q)
set_option maxRecDepth 100000 in
set_option maxHeartbeats 4000000 in
theorem zL_20 (C : za_C p s m #[Value.ref b] c code 4 RL g D cy) (hX : va_X b L xs s s.heap) (hbl : b < s.heap.size) (hbA : ¬ za_A g b) (hL : L ≤ 3072) {M : za_M} {n : Nat} (hI : zI M) (hn : n + 6 ≤ L) (kk : ∀ M', zI M' → zt p l e room_1 s m #[Value.ref b] below meth c 133 2551 Q g D cy 4 M' 1545 (zl_lv b g n) []) : zt p l e room_1 s m #[Value.ref b] below meth c 133 2551 Q g D cy 4 M 922 (zl_lv b g n) [] := by
  have h := zT_breaks (xs (n + 1)) M (fun r1 r2 M2 => r1 = r2 ∧ zI M2) hI (fun v M' h => ⟨rfl, h⟩)
  refine zt_aload_n C 1 dL_law_922 rfl rfl ?_
  refine zl_arg C hX hbl hbA hL (k := 1) (by omega) dL_law_923 dL_law_924 dL_law_925 dL_law_926 dL_law_927 ?_
  refine zt_cVi C [.int (xs (n + 1))] (m_X9_breaks C.2.2.2.2.2.2 h) (za_mem (j := 0) rfl (by decide) (by decide)) (za_E_0 g cy M 0 0) rfl vY_X9_breaks vV_X9_breaks (Nat.le_of_ble_eq_true rfl) (by exact ⟨(Nat.le_of_ble_eq_true rfl), (Nat.le_of_ble_eq_true rfl)⟩) (by exact ⟨(Nat.le_of_ble_eq_true rfl), (Nat.le_of_ble_eq_true rfl)⟩) dL_law_928 rfl (fun r1 M1 h1 => ?_)
  refine zt_aload_n C 2 dL_law_931 rfl rfl ?_
  refine zl_arg C hX hbl hbA hL (k := 1) (by omega) dL_law_932 dL_law_933 dL_law_934 dL_law_935 dL_law_936 ?_
  refine zt_cVi C [.int (xs (n + 1))] (m_X10_breaks C.2.2.2.2.2.2 h1) (za_mem (j := 27) rfl (by decide) (by decide)) (za_E_27 g cy M1 0 0) rfl vY_X10_breaks vV_X10_breaks (Nat.le_of_ble_eq_true rfl) (by exact ⟨(Nat.le_of_ble_eq_true rfl), (Nat.le_of_ble_eq_true rfl)⟩) (by exact ⟨(Nat.le_of_ble_eq_true rfl), (Nat.le_of_ble_eq_true rfl)⟩) dL_law_937 rfl (fun r2 M2 h2 => ?_)
  obtain ⟨rfl, hI2⟩ := h2
  exact zt_icmp_eq C 1545 dL_law_940 (by decide) (fun _ => kk M2 hI2) (fun q => absurd rfl q)
set_option maxRecDepth 100000 in
set_option maxHeartbeats 4000000 in
theorem zL_21 (C : za_C p s m #[Value.ref b] c code 4 RL g D cy) (hX : va_X b L xs s s.heap) (hbl : b < s.heap.size) (hbA : ¬ za_A g b) (hL : L ≤ 3072) {M : za_M} {n : Nat} (hI : zI M) (hn : n + 6 ≤ L) (kk : ∀ M', zI M' → zt p l e room_1 s m #[Value.ref b] below meth c 133 2551 Q g D cy 4 M' 1545 (zl_lv b g n) []) : zt p l e room_1 s m #[Value.ref b] below meth c 133 2551 Q g D cy 4 M 945 (zl_lv b g n) [] := by
  have h := zT_recipe (xs (n + 1)) (xs (n + 2)) (xs (n + 3)) M (fun r1 r2 M2 => r1 = r2 ∧ zI M2) hI (fun v M' h => ⟨rfl, h⟩)
  refine zt_aload_n C 1 dL_law_945 rfl rfl ?_
  refine zl_arg C hX hbl hbA hL (k := 1) (by omega) dL_law_946 dL_law_947 dL_law_948 dL_law_949 dL_law_950 ?_
  refine zl_arg C hX hbl hbA hL (k := 2) (by omega) dL_law_951 dL_law_952 dL_law_953 dL_law_954 dL_law_955 ?_
  refine zl_arg C hX hbl hbA hL (k := 3) (by omega) dL_law_956 dL_law_957 dL_law_958 dL_law_959 dL_law_960 ?_
  refine zt_cVi C [.int (xs (n + 1)), .int (xs (n + 2)), .int (xs (n + 3))] (m_X9_recipe C.2.2.2.2.2.2 h) (za_mem (j := 0) rfl (by decide) (by decide)) (za_E_0 g cy M 0 0) rfl vY_X9_recipe vV_X9_recipe (Nat.le_of_ble_eq_true rfl) (by exact ⟨(Nat.le_of_ble_eq_true rfl), (Nat.le_of_ble_eq_true rfl)⟩) (by exact ⟨(Nat.le_of_ble_eq_true rfl), (Nat.le_of_ble_eq_true rfl)⟩) dL_law_961 rfl (fun r1 M1 h1 => ?_)
  refine zt_aload_n C 2 dL_law_964 rfl rfl ?_
  refine zl_arg C hX hbl hbA hL (k := 1) (by omega) dL_law_965 dL_law_966 dL_law_967 dL_law_968 dL_law_969 ?_
  refine zl_arg C hX hbl hbA hL (k := 2) (by omega) dL_law_970 dL_law_971 dL_law_972 dL_law_973 dL_law_974 ?_
  refine zl_arg C hX hbl hbA hL (k := 3) (by omega) dL_law_975 dL_law_976 dL_law_977 dL_law_978 dL_law_979 ?_
  refine zt_cVi C [.int (xs (n + 1)), .int (xs (n + 2)), .int (xs (n + 3))] (m_X10_recipe C.2.2.2.2.2.2 h1) (za_mem (j := 27) rfl (by decide) (by decide)) (za_E_27 g cy M1 0 0) rfl vY_X10_recipe vV_X10_recipe (Nat.le_of_ble_eq_true rfl) (by exact ⟨(Nat.le_of_ble_eq_true rfl), (Nat.le_of_ble_eq_true rfl)⟩) (by exact ⟨(Nat.le_of_ble_eq_true rfl), (Nat.le_of_ble_eq_true rfl)⟩) dL_law_980 rfl (fun r2 M2 h2 => ?_)
  obtain ⟨rfl, hI2⟩ := h2
  exact zt_icmp_eq C 1545 dL_law_983 (by decide) (fun _ => kk M2 hI2) (fun q => absurd rfl q)
end ZLW
