set_option maxHeartbeats 4000000 in
set_option maxRecDepth 100000 in
theorem lc_18 {Γ : Ga} {X : Cx} {nm : String} {κ : Kp} {I : Ip} {c m b L i : Nat} {xs : Nat → Int32} (hX : Std Γ (mL nm) X) (hR : RmOK (mL nm) X 9) (hSc : ScX Γ b L xs X) (hL : L ≤ 448) (hi : i + 7 ≤ L) (hI : Inv κ I c m) (hq : ∀ (κ2 : Kp) (J : Ip), Inv κ2 J c m → GW Γ (mL nm) X 909 [(3, .int (nI i)), (0, .ref b), (1, .ref c), (2, .ref m)] [] κ2 J 76 1400) : GW Γ (mL nm) X 580 [(3, .int (nI i)), (0, .ref b), (1, .ref c), (2, .ref m)] [] κ I 76 1400 := by
  obtain ⟨hA, P, T, w, s, past, kept, tx, sz, hCR, hMR⟩ := hI
  have k5 : κ.1 c = (5, 0) := hCR.1.2.1 0 (by decide)
  refine g_aload_n hX dL_law_580 rfl rfl ?_
  refine g_aload_n hX dL_law_581 rfl rfl ?_
  refine g_iload_n hX dL_law_582 rfl rfl ?_
  refine g_iconst (v := nI 1) hX dL_law_583 (by decide) ?_
  refine g_iadd hX dL_law_584 ?_
  refine g_sld hX hSc dL_law_585 (nI_add _ _) (by omega) (by omega) ?_
  refine g_aload_n hX dL_law_586 rfl rfl ?_
  refine g_iload_n hX dL_law_587 rfl rfl ?_
  refine g_iconst (v := nI 2) hX dL_law_588 (by decide) ?_
  refine g_iadd hX dL_law_589 ?_
  refine g_sld hX hSc dL_law_590 (nI_add _ _) (by omega) (by omega) ?_
  refine g_callV (md' := mX5_hears) (ci := 5) (As := [.int _, .int _]) hX hR dL_law_591 clL_89 okX5_hears rfl k5 rfl rfl (Nat.le_of_ble_eq_true rfl) (Nat.le_of_ble_eq_true rfl) ⟨Nat.le_of_ble_eq_true rfl, Nat.le_of_ble_eq_true rfl⟩ ?_
  refine sp_X5_hears hCR ?_
  change GW _ _ _ 594 _ [.int _] _ _ 76 1400
  have k6 : κ.1 m = (6, 0) := hMR.1.1
  refine g_aload_n hX dL_law_594 rfl rfl ?_
  refine g_aload_n hX dL_law_595 rfl rfl ?_
  refine g_iload_n hX dL_law_596 rfl rfl ?_
  refine g_iconst (v := nI 1) hX dL_law_597 (by decide) ?_
  refine g_iadd hX dL_law_598 ?_
  refine g_sld hX hSc dL_law_599 (nI_add _ _) (by omega) (by omega) ?_
  refine g_aload_n hX dL_law_600 rfl rfl ?_
  refine g_iload_n hX dL_law_601 rfl rfl ?_
  refine g_iconst (v := nI 2) hX dL_law_602 (by decide) ?_
  refine g_iadd hX dL_law_603 ?_
  refine g_sld hX hSc dL_law_604 (nI_add _ _) (by omega) (by omega) ?_
  refine g_callV (md' := mX6_hears) (ci := 6) (As := [.int _, .int _]) hX hR dL_law_605 clL_92 okX6_hears rfl k6 rfl rfl (Nat.le_of_ble_eq_true rfl) (Nat.le_of_ble_eq_true rfl) ⟨Nat.le_of_ble_eq_true rfl, Nat.le_of_ble_eq_true rfl⟩ ?_
  refine sq_X6_hears hMR (fun J2 z1 z2 => ?_)
  change GW _ _ _ 608 _ [.int _, .int _] _ _ 76 1400
  refine g_icmpeq 909 hX dL_law_608 (by decide) (fun _ => ?_) (fun e => absurd rfl e)
  exact hq _ _ ⟨hA, _, _, _, _, _, _, _, _, (hCR).cg (z2.lo hA), z1⟩

set_option maxHeartbeats 4000000 in
set_option maxRecDepth 100000 in
theorem lc_19 {Γ : Ga} {X : Cx} {nm : String} {κ : Kp} {I : Ip} {c m b L i : Nat} {xs : Nat → Int32} (hX : Std Γ (mL nm) X) (hR : RmOK (mL nm) X 9) (hSc : ScX Γ b L xs X) (hL : L ≤ 448) (hi : i + 7 ≤ L) (hI : Inv κ I c m) (hq : ∀ (κ2 : Kp) (J : Ip), Inv κ2 J c m → GW Γ (mL nm) X 909 [(3, .int (nI i)), (0, .ref b), (1, .ref c), (2, .ref m)] [] κ2 J 76 1400) : GW Γ (mL nm) X 613 [(3, .int (nI i)), (0, .ref b), (1, .ref c), (2, .ref m)] [] κ I 76 1400 := by
  obtain ⟨hA, P, T, w, s, past, kept, tx, sz, hCR, hMR⟩ := hI
  have k5 : κ.1 c = (5, 0) := hCR.1.2.1 0 (by decide)
  refine g_aload_n hX dL_law_613 rfl rfl ?_
  refine g_aload_n hX dL_law_614 rfl rfl ?_
  refine g_iload_n hX dL_law_615 rfl rfl ?_
  refine g_iconst (v := nI 1) hX dL_law_616 (by decide) ?_
  refine g_iadd hX dL_law_617 ?_
  refine g_sld hX hSc dL_law_618 (nI_add _ _) (by omega) (by omega) ?_
  refine g_aload_n hX dL_law_619 rfl rfl ?_
  refine g_iload_n hX dL_law_620 rfl rfl ?_
  refine g_iconst (v := nI 2) hX dL_law_621 (by decide) ?_
  refine g_iadd hX dL_law_622 ?_
  refine g_sld hX hSc dL_law_623 (nI_add _ _) (by omega) (by omega) ?_
  refine g_callV (md' := mX5_cost) (ci := 5) (As := [.int _, .int _]) hX hR dL_law_624 clL_93 okX5_cost rfl k5 rfl rfl (Nat.le_of_ble_eq_true rfl) (Nat.le_of_ble_eq_true rfl) ⟨Nat.le_of_ble_eq_true rfl, Nat.le_of_ble_eq_true rfl⟩ ?_
  refine sp_X5_cost hCR (fun κ2 J y1 y2 y3 => ?_)
  change GW _ _ _ 627 _ [.int _] _ _ 76 1400
  have hA2 := hA.kf y1
  have hM2 := hMR.kf hA y1 y3
  have k6 : κ2.1 m = (6, 0) := hM2.1.1
  refine g_aload_n hX dL_law_627 rfl rfl ?_
  refine g_aload_n hX dL_law_628 rfl rfl ?_
  refine g_iload_n hX dL_law_629 rfl rfl ?_
  refine g_iconst (v := nI 1) hX dL_law_630 (by decide) ?_
  refine g_iadd hX dL_law_631 ?_
  refine g_sld hX hSc dL_law_632 (nI_add _ _) (by omega) (by omega) ?_
  refine g_aload_n hX dL_law_633 rfl rfl ?_
  refine g_iload_n hX dL_law_634 rfl rfl ?_
  refine g_iconst (v := nI 2) hX dL_law_635 (by decide) ?_
  refine g_iadd hX dL_law_636 ?_
  refine g_sld hX hSc dL_law_637 (nI_add _ _) (by omega) (by omega) ?_
  refine g_callV (md' := mX6_cost) (ci := 6) (As := [.int _, .int _]) hX hR dL_law_638 clL_96 okX6_cost rfl k6 rfl rfl (Nat.le_of_ble_eq_true rfl) (Nat.le_of_ble_eq_true rfl) ⟨Nat.le_of_ble_eq_true rfl, Nat.le_of_ble_eq_true rfl⟩ ?_
  refine sq_X6_cost hM2 (fun J2 z1 z2 => ?_)
  change GW _ _ _ 641 _ [.int _, .int _] _ _ 76 1400
  refine g_icmpeq 909 hX dL_law_641 (by decide) (fun _ => ?_) (fun e => absurd rfl e)
  exact hq _ _ ⟨hA2, _, _, _, _, _, _, _, _, (y2).cg (z2.lo hA2), z1⟩

set_option maxHeartbeats 4000000 in
set_option maxRecDepth 100000 in
theorem lc_20 {Γ : Ga} {X : Cx} {nm : String} {κ : Kp} {I : Ip} {c m b L i : Nat} {xs : Nat → Int32} (hX : Std Γ (mL nm) X) (hR : RmOK (mL nm) X 9) (hSc : ScX Γ b L xs X) (hL : L ≤ 448) (hi : i + 7 ≤ L) (hI : Inv κ I c m) (hq : ∀ (κ2 : Kp) (J : Ip), Inv κ2 J c m → GW Γ (mL nm) X 909 [(3, .int (nI i)), (0, .ref b), (1, .ref c), (2, .ref m)] [] κ2 J 76 1400) : GW Γ (mL nm) X 646 [(3, .int (nI i)), (0, .ref b), (1, .ref c), (2, .ref m)] [] κ I 76 1400 := by
  obtain ⟨hA, P, T, w, s, past, kept, tx, sz, hCR, hMR⟩ := hI
  have k5 : κ.1 c = (5, 0) := hCR.1.2.1 0 (by decide)
  refine g_aload_n hX dL_law_646 rfl rfl ?_
  refine g_aload_n hX dL_law_647 rfl rfl ?_
  refine g_iload_n hX dL_law_648 rfl rfl ?_
  refine g_iconst (v := nI 1) hX dL_law_649 (by decide) ?_
  refine g_iadd hX dL_law_650 ?_
  refine g_sld hX hSc dL_law_651 (nI_add _ _) (by omega) (by omega) ?_
  refine g_aload_n hX dL_law_652 rfl rfl ?_
  refine g_iload_n hX dL_law_653 rfl rfl ?_
  refine g_iconst (v := nI 2) hX dL_law_654 (by decide) ?_
  refine g_iadd hX dL_law_655 ?_
  refine g_sld hX hSc dL_law_656 (nI_add _ _) (by omega) (by omega) ?_
  refine g_aload_n hX dL_law_657 rfl rfl ?_
  refine g_iload_n hX dL_law_658 rfl rfl ?_
  refine g_iconst (v := nI 3) hX dL_law_659 (by decide) ?_
  refine g_iadd hX dL_law_660 ?_
  refine g_sld hX hSc dL_law_661 (nI_add _ _) (by omega) (by omega) ?_
  refine g_aload_n hX dL_law_662 rfl rfl ?_
  refine g_iload_n hX dL_law_663 rfl rfl ?_
  refine g_iconst (v := nI 4) hX dL_law_664 (by decide) ?_
  refine g_iadd hX dL_law_665 ?_
  refine g_sld hX hSc dL_law_666 (nI_add _ _) (by omega) (by omega) ?_
  refine g_callV (md' := mX5_said) (ci := 5) (As := [.int _, .int _, .int _, .int _]) hX hR dL_law_667 clL_97 okX5_said rfl k5 rfl rfl (Nat.le_of_ble_eq_true rfl) (Nat.le_of_ble_eq_true rfl) ⟨Nat.le_of_ble_eq_true rfl, Nat.le_of_ble_eq_true rfl⟩ ?_
  refine sp_X5_said hCR ?_
  change GW _ _ _ 670 _ [.int _] _ _ 76 1400
  have k6 : κ.1 m = (6, 0) := hMR.1.1
  refine g_aload_n hX dL_law_670 rfl rfl ?_
  refine g_aload_n hX dL_law_671 rfl rfl ?_
  refine g_iload_n hX dL_law_672 rfl rfl ?_
  refine g_iconst (v := nI 1) hX dL_law_673 (by decide) ?_
  refine g_iadd hX dL_law_674 ?_
  refine g_sld hX hSc dL_law_675 (nI_add _ _) (by omega) (by omega) ?_
  refine g_aload_n hX dL_law_676 rfl rfl ?_
  refine g_iload_n hX dL_law_677 rfl rfl ?_
  refine g_iconst (v := nI 2) hX dL_law_678 (by decide) ?_
  refine g_iadd hX dL_law_679 ?_
  refine g_sld hX hSc dL_law_680 (nI_add _ _) (by omega) (by omega) ?_
  refine g_aload_n hX dL_law_681 rfl rfl ?_
  refine g_iload_n hX dL_law_682 rfl rfl ?_
  refine g_iconst (v := nI 3) hX dL_law_683 (by decide) ?_
  refine g_iadd hX dL_law_684 ?_
  refine g_sld hX hSc dL_law_685 (nI_add _ _) (by omega) (by omega) ?_
  refine g_aload_n hX dL_law_686 rfl rfl ?_
  refine g_iload_n hX dL_law_687 rfl rfl ?_
  refine g_iconst (v := nI 4) hX dL_law_688 (by decide) ?_
  refine g_iadd hX dL_law_689 ?_
  refine g_sld hX hSc dL_law_690 (nI_add _ _) (by omega) (by omega) ?_
  refine g_callV (md' := mX6_said) (ci := 6) (As := [.int _, .int _, .int _, .int _]) hX hR dL_law_691 clL_101 okX6_said rfl k6 rfl rfl (Nat.le_of_ble_eq_true rfl) (Nat.le_of_ble_eq_true rfl) ⟨Nat.le_of_ble_eq_true rfl, Nat.le_of_ble_eq_true rfl⟩ ?_
  refine sq_X6_said hMR (fun J2 z1 z2 => ?_)
  change GW _ _ _ 694 _ [.int _, .int _] _ _ 76 1400
  refine g_icmpeq 909 hX dL_law_694 (by decide) (fun _ => ?_) (fun e => absurd rfl e)
  exact hq _ _ ⟨hA, _, _, _, _, _, _, _, _, (hCR).cg (z2.lo hA), z1⟩
