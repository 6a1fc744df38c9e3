set_option maxHeartbeats 4000000 in
set_option maxRecDepth 100000 in
theorem lc_21 {Γ : Ga} {X : Cx} {nm : String} {κ : Kp} {I : Ip} {c m b L i : Nat} {xs : Nat → Int32} (hX : Std Γ (mL nm) X) (hR : RmOK (mL nm) X 9) (hSc : ScX Γ b L xs X) (hL : L ≤ 448) (hi : i + 7 ≤ L) (hI : Inv κ I c m) (hq : ∀ (κ2 : Kp) (J : Ip), Inv κ2 J c m → GW Γ (mL nm) X 909 [(3, .int (nI i)), (0, .ref b), (1, .ref c), (2, .ref m)] [] κ2 J 76 1400) : GW Γ (mL nm) X 699 [(3, .int (nI i)), (0, .ref b), (1, .ref c), (2, .ref m)] [] κ I 76 1400 := by
  obtain ⟨hA, P, T, w, s, past, kept, tx, sz, hCR, hMR⟩ := hI
  have k5 : κ.1 c = (5, 0) := hCR.1.2.1 0 (by decide)
  refine g_aload_n hX dL_law_699 rfl rfl ?_
  refine g_aload_n hX dL_law_700 rfl rfl ?_
  refine g_iload_n hX dL_law_701 rfl rfl ?_
  refine g_iconst (v := nI 1) hX dL_law_702 (by decide) ?_
  refine g_iadd hX dL_law_703 ?_
  refine g_sld hX hSc dL_law_704 (nI_add _ _) (by omega) (by omega) ?_
  refine g_aload_n hX dL_law_705 rfl rfl ?_
  refine g_iload_n hX dL_law_706 rfl rfl ?_
  refine g_iconst (v := nI 2) hX dL_law_707 (by decide) ?_
  refine g_iadd hX dL_law_708 ?_
  refine g_sld hX hSc dL_law_709 (nI_add _ _) (by omega) (by omega) ?_
  refine g_aload_n hX dL_law_710 rfl rfl ?_
  refine g_iload_n hX dL_law_711 rfl rfl ?_
  refine g_iconst (v := nI 3) hX dL_law_712 (by decide) ?_
  refine g_iadd hX dL_law_713 ?_
  refine g_sld hX hSc dL_law_714 (nI_add _ _) (by omega) (by omega) ?_
  refine g_callV (md' := mX5_who) (ci := 5) (As := [.int _, .int _, .int _]) hX hR dL_law_715 clL_102 okX5_who rfl k5 rfl rfl (Nat.le_of_ble_eq_true rfl) (Nat.le_of_ble_eq_true rfl) ⟨Nat.le_of_ble_eq_true rfl, Nat.le_of_ble_eq_true rfl⟩ ?_
  refine sp_X5_who hCR (fun κ2 J y1 y2 y3 => ?_)
  change GW _ _ _ 718 _ [.int _] _ _ 76 1400
  have hA2 := hA.kf y1
  have hM2 := hMR.kf hA y1 y3
  have k6 : κ2.1 m = (6, 0) := hM2.1.1
  refine g_aload_n hX dL_law_718 rfl rfl ?_
  refine g_aload_n hX dL_law_719 rfl rfl ?_
  refine g_iload_n hX dL_law_720 rfl rfl ?_
  refine g_iconst (v := nI 1) hX dL_law_721 (by decide) ?_
  refine g_iadd hX dL_law_722 ?_
  refine g_sld hX hSc dL_law_723 (nI_add _ _) (by omega) (by omega) ?_
  refine g_aload_n hX dL_law_724 rfl rfl ?_
  refine g_iload_n hX dL_law_725 rfl rfl ?_
  refine g_iconst (v := nI 2) hX dL_law_726 (by decide) ?_
  refine g_iadd hX dL_law_727 ?_
  refine g_sld hX hSc dL_law_728 (nI_add _ _) (by omega) (by omega) ?_
  refine g_aload_n hX dL_law_729 rfl rfl ?_
  refine g_iload_n hX dL_law_730 rfl rfl ?_
  refine g_iconst (v := nI 3) hX dL_law_731 (by decide) ?_
  refine g_iadd hX dL_law_732 ?_
  refine g_sld hX hSc dL_law_733 (nI_add _ _) (by omega) (by omega) ?_
  refine g_callV (md' := mX6_who) (ci := 6) (As := [.int _, .int _, .int _]) hX hR dL_law_734 clL_105 okX6_who rfl k6 rfl rfl (Nat.le_of_ble_eq_true rfl) (Nat.le_of_ble_eq_true rfl) ⟨Nat.le_of_ble_eq_true rfl, Nat.le_of_ble_eq_true rfl⟩ ?_
  refine sq_X6_who hM2 (fun J2 z1 z2 => ?_)
  change GW _ _ _ 737 _ [.int _, .int _] _ _ 76 1400
  refine g_icmpeq 909 hX dL_law_737 (by decide) (fun _ => ?_) (fun e => absurd rfl e)
  exact hq _ _ ⟨hA2, _, _, _, _, _, _, _, _, (y2).cg (z2.lo hA2), z1⟩

set_option maxHeartbeats 4000000 in
set_option maxRecDepth 100000 in
theorem lc_22 {Γ : Ga} {X : Cx} {nm : String} {κ : Kp} {I : Ip} {c m b L i : Nat} {xs : Nat → Int32} (hX : Std Γ (mL nm) X) (hR : RmOK (mL nm) X 9) (hSc : ScX Γ b L xs X) (hL : L ≤ 448) (hi : i + 7 ≤ L) (hI : Inv κ I c m) (hq : ∀ (κ2 : Kp) (J : Ip), Inv κ2 J c m → GW Γ (mL nm) X 909 [(3, .int (nI i)), (0, .ref b), (1, .ref c), (2, .ref m)] [] κ2 J 76 1400) : GW Γ (mL nm) X 742 [(3, .int (nI i)), (0, .ref b), (1, .ref c), (2, .ref m)] [] κ I 76 1400 := by
  obtain ⟨hA, P, T, w, s, past, kept, tx, sz, hCR, hMR⟩ := hI
  have k5 : κ.1 c = (5, 0) := hCR.1.2.1 0 (by decide)
  refine g_aload_n hX dL_law_742 rfl rfl ?_
  refine g_aload_n hX dL_law_743 rfl rfl ?_
  refine g_iload_n hX dL_law_744 rfl rfl ?_
  refine g_iconst (v := nI 1) hX dL_law_745 (by decide) ?_
  refine g_iadd hX dL_law_746 ?_
  refine g_sld hX hSc dL_law_747 (nI_add _ _) (by omega) (by omega) ?_
  refine g_aload_n hX dL_law_748 rfl rfl ?_
  refine g_iload_n hX dL_law_749 rfl rfl ?_
  refine g_iconst (v := nI 2) hX dL_law_750 (by decide) ?_
  refine g_iadd hX dL_law_751 ?_
  refine g_sld hX hSc dL_law_752 (nI_add _ _) (by omega) (by omega) ?_
  refine g_aload_n hX dL_law_753 rfl rfl ?_
  refine g_iload_n hX dL_law_754 rfl rfl ?_
  refine g_iconst (v := nI 3) hX dL_law_755 (by decide) ?_
  refine g_iadd hX dL_law_756 ?_
  refine g_sld hX hSc dL_law_757 (nI_add _ _) (by omega) (by omega) ?_
  refine g_aload_n hX dL_law_758 rfl rfl ?_
  refine g_iload_n hX dL_law_759 rfl rfl ?_
  refine g_iconst (v := nI 4) hX dL_law_760 (by decide) ?_
  refine g_iadd hX dL_law_761 ?_
  refine g_sld hX hSc dL_law_762 (nI_add _ _) (by omega) (by omega) ?_
  refine g_aload_n hX dL_law_763 rfl rfl ?_
  refine g_iload_n hX dL_law_764 rfl rfl ?_
  refine g_iconst (v := nI 5) hX dL_law_765 (by decide) ?_
  refine g_iadd hX dL_law_766 ?_
  refine g_sld hX hSc dL_law_767 (nI_add _ _) (by omega) (by omega) ?_
  refine g_aload_n hX dL_law_768 rfl rfl ?_
  refine g_iload_n hX dL_law_769 rfl rfl ?_
  refine g_bipush (v := nI 6) hX dL_law_770 (by decide) ?_
  refine g_iadd hX dL_law_772 ?_
  refine g_sld hX hSc dL_law_773 (nI_add _ _) (by omega) (by omega) ?_
  refine g_callV (md' := mX5_held) (ci := 5) (As := [.int _, .int _, .int _, .int _, .int _, .int _]) hX hR dL_law_774 clL_106 okX5_held rfl k5 rfl rfl (Nat.le_of_ble_eq_true rfl) (Nat.le_of_ble_eq_true rfl) ⟨Nat.le_of_ble_eq_true rfl, Nat.le_of_ble_eq_true rfl⟩ ?_
  refine sp_X5_held hCR (fun κ2 J y1 y2 y3 => ?_)
  change GW _ _ _ 777 _ [.int _] _ _ 76 1400
  have hA2 := hA.kf y1
  have hM2 := hMR.kf hA y1 y3
  have k6 : κ2.1 m = (6, 0) := hM2.1.1
  refine g_aload_n hX dL_law_777 rfl rfl ?_
  refine g_aload_n hX dL_law_778 rfl rfl ?_
  refine g_iload_n hX dL_law_779 rfl rfl ?_
  refine g_iconst (v := nI 1) hX dL_law_780 (by decide) ?_
  refine g_iadd hX dL_law_781 ?_
  refine g_sld hX hSc dL_law_782 (nI_add _ _) (by omega) (by omega) ?_
  refine g_aload_n hX dL_law_783 rfl rfl ?_
  refine g_iload_n hX dL_law_784 rfl rfl ?_
  refine g_iconst (v := nI 2) hX dL_law_785 (by decide) ?_
  refine g_iadd hX dL_law_786 ?_
  refine g_sld hX hSc dL_law_787 (nI_add _ _) (by omega) (by omega) ?_
  refine g_aload_n hX dL_law_788 rfl rfl ?_
  refine g_iload_n hX dL_law_789 rfl rfl ?_
  refine g_iconst (v := nI 3) hX dL_law_790 (by decide) ?_
  refine g_iadd hX dL_law_791 ?_
  refine g_sld hX hSc dL_law_792 (nI_add _ _) (by omega) (by omega) ?_
  refine g_aload_n hX dL_law_793 rfl rfl ?_
  refine g_iload_n hX dL_law_794 rfl rfl ?_
  refine g_iconst (v := nI 4) hX dL_law_795 (by decide) ?_
  refine g_iadd hX dL_law_796 ?_
  refine g_sld hX hSc dL_law_797 (nI_add _ _) (by omega) (by omega) ?_
  refine g_aload_n hX dL_law_798 rfl rfl ?_
  refine g_iload_n hX dL_law_799 rfl rfl ?_
  refine g_iconst (v := nI 5) hX dL_law_800 (by decide) ?_
  refine g_iadd hX dL_law_801 ?_
  refine g_sld hX hSc dL_law_802 (nI_add _ _) (by omega) (by omega) ?_
  refine g_aload_n hX dL_law_803 rfl rfl ?_
  refine g_iload_n hX dL_law_804 rfl rfl ?_
  refine g_bipush (v := nI 6) hX dL_law_805 (by decide) ?_
  refine g_iadd hX dL_law_807 ?_
  refine g_sld hX hSc dL_law_808 (nI_add _ _) (by omega) (by omega) ?_
  refine g_callV (md' := mX6_held) (ci := 6) (As := [.int _, .int _, .int _, .int _, .int _, .int _]) hX hR dL_law_809 clL_110 okX6_held rfl k6 rfl rfl (Nat.le_of_ble_eq_true rfl) (Nat.le_of_ble_eq_true rfl) ⟨Nat.le_of_ble_eq_true rfl, Nat.le_of_ble_eq_true rfl⟩ ?_
  refine sq_X6_held hM2 (fun J2 z1 z2 => ?_)
  change GW _ _ _ 812 _ [.int _, .int _] _ _ 76 1400
  refine g_icmpeq 909 hX dL_law_812 (by decide) (fun _ => ?_) (fun e => absurd rfl e)
  exact hq _ _ ⟨hA2, _, _, _, _, _, _, _, _, (y2).cg (z2.lo hA2), z1⟩

set_option maxHeartbeats 4000000 in
set_option maxRecDepth 100000 in
theorem lc_23 {Γ : Ga} {X : Cx} {nm : String} {κ : Kp} {I : Ip} {c m b L i : Nat} {xs : Nat → Int32} (hX : Std Γ (mL nm) X) (hR : RmOK (mL nm) X 9) (hSc : ScX Γ b L xs X) (hL : L ≤ 448) (hi : i + 7 ≤ L) (hI : Inv κ I c m) (hq : ∀ (κ2 : Kp) (J : Ip), Inv κ2 J c m → GW Γ (mL nm) X 909 [(3, .int (nI i)), (0, .ref b), (1, .ref c), (2, .ref m)] [] κ2 J 76 1400) : GW Γ (mL nm) X 817 [(3, .int (nI i)), (0, .ref b), (1, .ref c), (2, .ref m)] [] κ I 76 1400 := by
  obtain ⟨hA, P, T, w, s, past, kept, tx, sz, hCR, hMR⟩ := hI
  have k5 : κ.1 c = (5, 0) := hCR.1.2.1 0 (by decide)
  refine g_aload_n hX dL_law_817 rfl rfl ?_
  refine g_aload_n hX dL_law_818 rfl rfl ?_
  refine g_iload_n hX dL_law_819 rfl rfl ?_
  refine g_iconst (v := nI 1) hX dL_law_820 (by decide) ?_
  refine g_iadd hX dL_law_821 ?_
  refine g_sld hX hSc dL_law_822 (nI_add _ _) (by omega) (by omega) ?_
  refine g_aload_n hX dL_law_823 rfl rfl ?_
  refine g_iload_n hX dL_law_824 rfl rfl ?_
  refine g_iconst (v := nI 2) hX dL_law_825 (by decide) ?_
  refine g_iadd hX dL_law_826 ?_
  refine g_sld hX hSc dL_law_827 (nI_add _ _) (by omega) (by omega) ?_
  refine g_aload_n hX dL_law_828 rfl rfl ?_
  refine g_iload_n hX dL_law_829 rfl rfl ?_
  refine g_iconst (v := nI 3) hX dL_law_830 (by decide) ?_
  refine g_iadd hX dL_law_831 ?_
  refine g_sld hX hSc dL_law_832 (nI_add _ _) (by omega) (by omega) ?_
  refine g_callV (md' := mX5_day) (ci := 5) (As := [.int _, .int _, .int _]) hX hR dL_law_833 clL_111 okX5_day rfl k5 rfl rfl (Nat.le_of_ble_eq_true rfl) (Nat.le_of_ble_eq_true rfl) ⟨Nat.le_of_ble_eq_true rfl, Nat.le_of_ble_eq_true rfl⟩ ?_
  refine sp_X5_day hCR (fun κ2 J y1 y2 y3 => ?_)
  change GW _ _ _ 836 _ [.int _] _ _ 76 1400
  have hA2 := hA.kf y1
  have hM2 := hMR.kf hA y1 y3
  have k6 : κ2.1 m = (6, 0) := hM2.1.1
  refine g_aload_n hX dL_law_836 rfl rfl ?_
  refine g_aload_n hX dL_law_837 rfl rfl ?_
  refine g_iload_n hX dL_law_838 rfl rfl ?_
  refine g_iconst (v := nI 1) hX dL_law_839 (by decide) ?_
  refine g_iadd hX dL_law_840 ?_
  refine g_sld hX hSc dL_law_841 (nI_add _ _) (by omega) (by omega) ?_
  refine g_aload_n hX dL_law_842 rfl rfl ?_
  refine g_iload_n hX dL_law_843 rfl rfl ?_
  refine g_iconst (v := nI 2) hX dL_law_844 (by decide) ?_
  refine g_iadd hX dL_law_845 ?_
  refine g_sld hX hSc dL_law_846 (nI_add _ _) (by omega) (by omega) ?_
  refine g_aload_n hX dL_law_847 rfl rfl ?_
  refine g_iload_n hX dL_law_848 rfl rfl ?_
  refine g_iconst (v := nI 3) hX dL_law_849 (by decide) ?_
  refine g_iadd hX dL_law_850 ?_
  refine g_sld hX hSc dL_law_851 (nI_add _ _) (by omega) (by omega) ?_
  refine g_callV (md' := mX6_day) (ci := 6) (As := [.int _, .int _, .int _]) hX hR dL_law_852 clL_114 okX6_day rfl k6 rfl rfl (Nat.le_of_ble_eq_true rfl) (Nat.le_of_ble_eq_true rfl) ⟨Nat.le_of_ble_eq_true rfl, Nat.le_of_ble_eq_true rfl⟩ ?_
  refine sq_X6_day hM2 (fun J2 z1 z2 => ?_)
  change GW _ _ _ 855 _ [.int _, .int _] _ _ 76 1400
  refine g_icmpeq 909 hX dL_law_855 (by decide) (fun _ => ?_) (fun e => absurd rfl e)
  exact hq _ _ ⟨hA2, _, _, _, _, _, _, _, _, (y2).cg (z2.lo hA2), z1⟩
