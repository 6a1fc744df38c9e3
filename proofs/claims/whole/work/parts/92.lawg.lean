set_option maxHeartbeats 4000000 in
set_option maxRecDepth 100000 in
theorem lc_15 {Γ : Ga} {X : Cx} {nm : String} {κ : Kp} {I : Ip} {c m b L i : Nat} {xs : Nat → Int32} (hX : Std Γ (mL nm) X) (hR : RmOK (mL nm) X 9) (hSc : ScX Γ b L xs X) (hL : L ≤ 448) (hi : i + 7 ≤ L) (hI : Inv κ I c m) (hq : ∀ (κ2 : Kp) (J : Ip), Inv κ2 J c m → GW Γ (mL nm) X 909 [(3, .int (nI i)), (0, .ref b), (1, .ref c), (2, .ref m)] [] κ2 J 76 1400) : GW Γ (mL nm) X 491 [(3, .int (nI i)), (0, .ref b), (1, .ref c), (2, .ref m)] [] κ I 76 1400 := by
  obtain ⟨hA, P, T, w, s, past, kept, tx, sz, hCR, hMR⟩ := hI
  have k5 : κ.1 c = (5, 0) := hCR.1.2.1 0 (by decide)
  refine g_aload_n hX dL_law_491 rfl rfl ?_
  refine g_aload_n hX dL_law_492 rfl rfl ?_
  refine g_iload_n hX dL_law_493 rfl rfl ?_
  refine g_iconst (v := nI 1) hX dL_law_494 (by decide) ?_
  refine g_iadd hX dL_law_495 ?_
  refine g_sld hX hSc dL_law_496 (nI_add _ _) (by omega) (by omega) ?_
  refine g_aload_n hX dL_law_497 rfl rfl ?_
  refine g_iload_n hX dL_law_498 rfl rfl ?_
  refine g_iconst (v := nI 2) hX dL_law_499 (by decide) ?_
  refine g_iadd hX dL_law_500 ?_
  refine g_sld hX hSc dL_law_501 (nI_add _ _) (by omega) (by omega) ?_
  refine g_callV (md' := mX5_best) (ci := 5) (As := [.int _, .int _]) hX hR dL_law_502 clL_77 okX5_best rfl k5 rfl rfl (Nat.le_of_ble_eq_true rfl) (Nat.le_of_ble_eq_true rfl) ⟨Nat.le_of_ble_eq_true rfl, Nat.le_of_ble_eq_true rfl⟩ ?_
  refine sp_X5_best hCR (fun κ2 J y1 y2 y3 => ?_)
  change GW _ _ _ 505 _ [.int _] _ _ 76 1400
  have hA2 := hA.kf y1
  have hM2 := hMR.kf hA y1 y3
  have k6 : κ2.1 m = (6, 0) := hM2.1.1
  refine g_aload_n hX dL_law_505 rfl rfl ?_
  refine g_aload_n hX dL_law_506 rfl rfl ?_
  refine g_iload_n hX dL_law_507 rfl rfl ?_
  refine g_iconst (v := nI 1) hX dL_law_508 (by decide) ?_
  refine g_iadd hX dL_law_509 ?_
  refine g_sld hX hSc dL_law_510 (nI_add _ _) (by omega) (by omega) ?_
  refine g_aload_n hX dL_law_511 rfl rfl ?_
  refine g_iload_n hX dL_law_512 rfl rfl ?_
  refine g_iconst (v := nI 2) hX dL_law_513 (by decide) ?_
  refine g_iadd hX dL_law_514 ?_
  refine g_sld hX hSc dL_law_515 (nI_add _ _) (by omega) (by omega) ?_
  refine g_callV (md' := mX6_best) (ci := 6) (As := [.int _, .int _]) hX hR dL_law_516 clL_80 okX6_best rfl k6 rfl rfl (Nat.le_of_ble_eq_true rfl) (Nat.le_of_ble_eq_true rfl) ⟨Nat.le_of_ble_eq_true rfl, Nat.le_of_ble_eq_true rfl⟩ ?_
  refine sq_X6_best hM2 (fun J2 z1 z2 => ?_)
  change GW _ _ _ 519 _ [.int _, .int _] _ _ 76 1400
  refine g_icmpeq 909 hX dL_law_519 (by decide) (fun _ => ?_) (fun e => absurd rfl e)
  exact hq _ _ ⟨hA2, _, _, _, _, _, _, _, _, (y2).cg (z2.lo hA2), z1⟩

set_option maxHeartbeats 4000000 in
set_option maxRecDepth 100000 in
theorem lc_16 {Γ : Ga} {X : Cx} {nm : String} {κ : Kp} {I : Ip} {c m b L i : Nat} {xs : Nat → Int32} (hX : Std Γ (mL nm) X) (hR : RmOK (mL nm) X 9) (hSc : ScX Γ b L xs X) (hL : L ≤ 448) (hi : i + 7 ≤ L) (hI : Inv κ I c m) (hq : ∀ (κ2 : Kp) (J : Ip), Inv κ2 J c m → GW Γ (mL nm) X 909 [(3, .int (nI i)), (0, .ref b), (1, .ref c), (2, .ref m)] [] κ2 J 76 1400) : GW Γ (mL nm) X 524 [(3, .int (nI i)), (0, .ref b), (1, .ref c), (2, .ref m)] [] κ I 76 1400 := by
  obtain ⟨hA, P, T, w, s, past, kept, tx, sz, hCR, hMR⟩ := hI
  have k5 : κ.1 c = (5, 0) := hCR.1.2.1 0 (by decide)
  refine g_aload_n hX dL_law_524 rfl rfl ?_
  refine g_aload_n hX dL_law_525 rfl rfl ?_
  refine g_iload_n hX dL_law_526 rfl rfl ?_
  refine g_iconst (v := nI 1) hX dL_law_527 (by decide) ?_
  refine g_iadd hX dL_law_528 ?_
  refine g_sld hX hSc dL_law_529 (nI_add _ _) (by omega) (by omega) ?_
  refine g_aload_n hX dL_law_530 rfl rfl ?_
  refine g_iload_n hX dL_law_531 rfl rfl ?_
  refine g_iconst (v := nI 2) hX dL_law_532 (by decide) ?_
  refine g_iadd hX dL_law_533 ?_
  refine g_sld hX hSc dL_law_534 (nI_add _ _) (by omega) (by omega) ?_
  refine g_callV (md' := mX5_twos) (ci := 5) (As := [.int _, .int _]) hX hR dL_law_535 clL_81 okX5_twos rfl k5 rfl rfl (Nat.le_of_ble_eq_true rfl) (Nat.le_of_ble_eq_true rfl) ⟨Nat.le_of_ble_eq_true rfl, Nat.le_of_ble_eq_true rfl⟩ ?_
  refine sp_X5_twos hCR (fun κ2 J y1 y2 y3 => ?_)
  change GW _ _ _ 538 _ [.int _] _ _ 76 1400
  have hA2 := hA.kf y1
  have hM2 := hMR.kf hA y1 y3
  have k6 : κ2.1 m = (6, 0) := hM2.1.1
  refine g_aload_n hX dL_law_538 rfl rfl ?_
  refine g_aload_n hX dL_law_539 rfl rfl ?_
  refine g_iload_n hX dL_law_540 rfl rfl ?_
  refine g_iconst (v := nI 1) hX dL_law_541 (by decide) ?_
  refine g_iadd hX dL_law_542 ?_
  refine g_sld hX hSc dL_law_543 (nI_add _ _) (by omega) (by omega) ?_
  refine g_aload_n hX dL_law_544 rfl rfl ?_
  refine g_iload_n hX dL_law_545 rfl rfl ?_
  refine g_iconst (v := nI 2) hX dL_law_546 (by decide) ?_
  refine g_iadd hX dL_law_547 ?_
  refine g_sld hX hSc dL_law_548 (nI_add _ _) (by omega) (by omega) ?_
  refine g_callV (md' := mX6_twos) (ci := 6) (As := [.int _, .int _]) hX hR dL_law_549 clL_84 okX6_twos rfl k6 rfl rfl (Nat.le_of_ble_eq_true rfl) (Nat.le_of_ble_eq_true rfl) ⟨Nat.le_of_ble_eq_true rfl, Nat.le_of_ble_eq_true rfl⟩ ?_
  refine sq_X6_twos hM2 (fun J2 z1 z2 => ?_)
  change GW _ _ _ 552 _ [.int _, .int _] _ _ 76 1400
  refine g_icmpeq 909 hX dL_law_552 (by decide) (fun _ => ?_) (fun e => absurd rfl e)
  exact hq _ _ ⟨hA2, _, _, _, _, _, _, _, _, (y2).cg (z2.lo hA2), z1⟩

set_option maxHeartbeats 4000000 in
set_option maxRecDepth 100000 in
theorem lc_17 {Γ : Ga} {X : Cx} {nm : String} {κ : Kp} {I : Ip} {c m b L i : Nat} {xs : Nat → Int32} (hX : Std Γ (mL nm) X) (hR : RmOK (mL nm) X 9) (hSc : ScX Γ b L xs X) (hL : L ≤ 448) (hi : i + 7 ≤ L) (hI : Inv κ I c m) (hq : ∀ (κ2 : Kp) (J : Ip), Inv κ2 J c m → GW Γ (mL nm) X 909 [(3, .int (nI i)), (0, .ref b), (1, .ref c), (2, .ref m)] [] κ2 J 76 1400) : GW Γ (mL nm) X 557 [(3, .int (nI i)), (0, .ref b), (1, .ref c), (2, .ref m)] [] κ I 76 1400 := by
  obtain ⟨hA, P, T, w, s, past, kept, tx, sz, hCR, hMR⟩ := hI
  have k5 : κ.1 c = (5, 0) := hCR.1.2.1 0 (by decide)
  refine g_aload_n hX dL_law_557 rfl rfl ?_
  refine g_aload_n hX dL_law_558 rfl rfl ?_
  refine g_iload_n hX dL_law_559 rfl rfl ?_
  refine g_iconst (v := nI 1) hX dL_law_560 (by decide) ?_
  refine g_iadd hX dL_law_561 ?_
  refine g_sld hX hSc dL_law_562 (nI_add _ _) (by omega) (by omega) ?_
  refine g_callV (md' := mX5_leave) (ci := 5) (As := [.int _]) hX hR dL_law_563 clL_85 okX5_leave rfl k5 rfl rfl (Nat.le_of_ble_eq_true rfl) (Nat.le_of_ble_eq_true rfl) ⟨Nat.le_of_ble_eq_true rfl, Nat.le_of_ble_eq_true rfl⟩ ?_
  refine sp_X5_leave hCR (fun κ2 J y1 y2 y3 => ?_)
  change GW _ _ _ 566 _ [.int _] _ _ 76 1400
  have hA2 := hA.kf y1
  have hM2 := hMR.kf hA y1 y3
  have k6 : κ2.1 m = (6, 0) := hM2.1.1
  refine g_aload_n hX dL_law_566 rfl rfl ?_
  refine g_aload_n hX dL_law_567 rfl rfl ?_
  refine g_iload_n hX dL_law_568 rfl rfl ?_
  refine g_iconst (v := nI 1) hX dL_law_569 (by decide) ?_
  refine g_iadd hX dL_law_570 ?_
  refine g_sld hX hSc dL_law_571 (nI_add _ _) (by omega) (by omega) ?_
  refine g_callV (md' := mX6_leave) (ci := 6) (As := [.int _]) hX hR dL_law_572 clL_88 okX6_leave rfl k6 rfl rfl (Nat.le_of_ble_eq_true rfl) (Nat.le_of_ble_eq_true rfl) ⟨Nat.le_of_ble_eq_true rfl, Nat.le_of_ble_eq_true rfl⟩ ?_
  refine sq_X6_leave hM2 (fun J2 z1 z2 => ?_)
  change GW _ _ _ 575 _ [.int _, .int _] _ _ 76 1400
  refine g_icmpeq 909 hX dL_law_575 (by decide) (fun _ => ?_) (fun e => absurd rfl e)
  exact hq _ _ ⟨hA2, _, _, _, _, _, _, _, _, (y2).cg (z2.lo hA2), z1⟩
