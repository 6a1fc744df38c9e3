set_option maxHeartbeats 4000000 in
set_option maxRecDepth 100000 in
theorem lc_12 {Γ : Ga} {X : Cx} {nm : String} {κ : Kp} {I : Ip} {c m b L i : Nat} {xs : Nat → Int32} (hX : Std Γ (mL nm) X) (hR : RmOK (mL nm) X 9) (hSc : ScX Γ b L xs X) (hL : L ≤ 448) (hi : i + 7 ≤ L) (hI : Inv κ I c m) (hq : ∀ (κ2 : Kp) (J : Ip), Inv κ2 J c m → GW Γ (mL nm) X 909 [(3, .int (nI i)), (0, .ref b), (1, .ref c), (2, .ref m)] [] κ2 J 76 1400) : GW Γ (mL nm) X 412 [(3, .int (nI i)), (0, .ref b), (1, .ref c), (2, .ref m)] [] κ I 76 1400 := by
  obtain ⟨hA, P, T, w, s, past, kept, tx, sz, hCR, hMR⟩ := hI
  have k5 : κ.1 c = (5, 0) := hCR.1.2.1 0 (by decide)
  refine g_aload_n hX dL_law_412 rfl rfl ?_
  refine g_aload_n hX dL_law_413 rfl rfl ?_
  refine g_iload_n hX dL_law_414 rfl rfl ?_
  refine g_iconst (v := nI 1) hX dL_law_415 (by decide) ?_
  refine g_iadd hX dL_law_416 ?_
  refine g_sld hX hSc dL_law_417 (nI_add _ _) (by omega) (by omega) ?_
  refine g_callV (md' := mX5_comes) (ci := 5) (As := [.int _]) hX hR dL_law_418 clL_64 okX5_comes rfl k5 rfl rfl (Nat.le_of_ble_eq_true rfl) (Nat.le_of_ble_eq_true rfl) ⟨Nat.le_of_ble_eq_true rfl, Nat.le_of_ble_eq_true rfl⟩ ?_
  refine sp_X5_comes hCR (fun κ2 J y1 y2 y3 => ?_)
  change GW _ _ _ 421 _ [.int _] _ _ 76 1400
  have hA2 := hA.kf y1
  have hM2 := hMR.kf hA y1 y3
  have k6 : κ2.1 m = (6, 0) := hM2.1.1
  refine g_aload_n hX dL_law_421 rfl rfl ?_
  refine g_aload_n hX dL_law_422 rfl rfl ?_
  refine g_iload_n hX dL_law_423 rfl rfl ?_
  refine g_iconst (v := nI 1) hX dL_law_424 (by decide) ?_
  refine g_iadd hX dL_law_425 ?_
  refine g_sld hX hSc dL_law_426 (nI_add _ _) (by omega) (by omega) ?_
  refine g_callV (md' := mX6_comes) (ci := 6) (As := [.int _]) hX hR dL_law_427 clL_67 okX6_comes rfl k6 rfl rfl (Nat.le_of_ble_eq_true rfl) (Nat.le_of_ble_eq_true rfl) ⟨Nat.le_of_ble_eq_true rfl, Nat.le_of_ble_eq_true rfl⟩ ?_
  refine sq_X6_comes hM2 (fun J2 z1 z2 => ?_)
  change GW _ _ _ 430 _ [.int _, .int _] _ _ 76 1400
  refine g_icmpeq 909 hX dL_law_430 (by decide) (fun _ => ?_) (fun e => absurd rfl e)
  exact hq _ _ ⟨hA2, _, _, _, _, _, _, _, _, (y2).cg (z2.lo hA2), z1⟩

set_option maxHeartbeats 4000000 in
set_option maxRecDepth 100000 in
theorem lc_13 {Γ : Ga} {X : Cx} {nm : String} {κ : Kp} {I : Ip} {c m b L i : Nat} {xs : Nat → Int32} (hX : Std Γ (mL nm) X) (hR : RmOK (mL nm) X 9) (hSc : ScX Γ b L xs X) (hL : L ≤ 448) (hi : i + 7 ≤ L) (hI : Inv κ I c m) (hq : ∀ (κ2 : Kp) (J : Ip), Inv κ2 J c m → GW Γ (mL nm) X 909 [(3, .int (nI i)), (0, .ref b), (1, .ref c), (2, .ref m)] [] κ2 J 76 1400) : GW Γ (mL nm) X 435 [(3, .int (nI i)), (0, .ref b), (1, .ref c), (2, .ref m)] [] κ I 76 1400 := by
  obtain ⟨hA, P, T, w, s, past, kept, tx, sz, hCR, hMR⟩ := hI
  have k5 : κ.1 c = (5, 0) := hCR.1.2.1 0 (by decide)
  refine g_aload_n hX dL_law_435 rfl rfl ?_
  refine g_callV (md' := mX5_quiet) (ci := 5) (As := []) hX hR dL_law_436 clL_68 okX5_quiet rfl k5 rfl rfl (Nat.le_of_ble_eq_true rfl) (Nat.le_of_ble_eq_true rfl) ⟨Nat.le_of_ble_eq_true rfl, Nat.le_of_ble_eq_true rfl⟩ ?_
  refine sp_X5_quiet hCR (fun κ2 J y1 y2 y3 => ?_)
  change GW _ _ _ 439 _ [.int _] _ _ 76 1400
  have hA2 := hA.kf y1
  have hM2 := hMR.kf hA y1 y3
  have k6 : κ2.1 m = (6, 0) := hM2.1.1
  refine g_aload_n hX dL_law_439 rfl rfl ?_
  refine g_callV (md' := mX6_quiet) (ci := 6) (As := []) hX hR dL_law_440 clL_71 okX6_quiet rfl k6 rfl rfl (Nat.le_of_ble_eq_true rfl) (Nat.le_of_ble_eq_true rfl) ⟨Nat.le_of_ble_eq_true rfl, Nat.le_of_ble_eq_true rfl⟩ ?_
  refine sq_X6_quiet hM2 (fun J2 z1 z2 => ?_)
  change GW _ _ _ 443 _ [.int _, .int _] _ _ 76 1400
  refine g_icmpeq 909 hX dL_law_443 (by decide) (fun _ => ?_) (fun e => absurd rfl e)
  exact hq _ _ ⟨hA2, _, _, _, _, _, _, _, _, (y2).cg (z2.lo hA2), z1⟩

set_option maxHeartbeats 4000000 in
set_option maxRecDepth 100000 in
theorem lc_14 {Γ : Ga} {X : Cx} {nm : String} {κ : Kp} {I : Ip} {c m b L i : Nat} {xs : Nat → Int32} (hX : Std Γ (mL nm) X) (hR : RmOK (mL nm) X 9) (hSc : ScX Γ b L xs X) (hL : L ≤ 448) (hi : i + 7 ≤ L) (hI : Inv κ I c m) (hq : ∀ (κ2 : Kp) (J : Ip), Inv κ2 J c m → GW Γ (mL nm) X 909 [(3, .int (nI i)), (0, .ref b), (1, .ref c), (2, .ref m)] [] κ2 J 76 1400) : GW Γ (mL nm) X 448 [(3, .int (nI i)), (0, .ref b), (1, .ref c), (2, .ref m)] [] κ I 76 1400 := by
  obtain ⟨hA, P, T, w, s, past, kept, tx, sz, hCR, hMR⟩ := hI
  have k5 : κ.1 c = (5, 0) := hCR.1.2.1 0 (by decide)
  refine g_aload_n hX dL_law_448 rfl rfl ?_
  refine g_aload_n hX dL_law_449 rfl rfl ?_
  refine g_iload_n hX dL_law_450 rfl rfl ?_
  refine g_iconst (v := nI 1) hX dL_law_451 (by decide) ?_
  refine g_iadd hX dL_law_452 ?_
  refine g_sld hX hSc dL_law_453 (nI_add _ _) (by omega) (by omega) ?_
  refine g_aload_n hX dL_law_454 rfl rfl ?_
  refine g_iload_n hX dL_law_455 rfl rfl ?_
  refine g_iconst (v := nI 2) hX dL_law_456 (by decide) ?_
  refine g_iadd hX dL_law_457 ?_
  refine g_sld hX hSc dL_law_458 (nI_add _ _) (by omega) (by omega) ?_
  refine g_aload_n hX dL_law_459 rfl rfl ?_
  refine g_iload_n hX dL_law_460 rfl rfl ?_
  refine g_iconst (v := nI 3) hX dL_law_461 (by decide) ?_
  refine g_iadd hX dL_law_462 ?_
  refine g_sld hX hSc dL_law_463 (nI_add _ _) (by omega) (by omega) ?_
  refine g_callV (md' := mX5_brings) (ci := 5) (As := [.int _, .int _, .int _]) hX hR dL_law_464 clL_72 okX5_brings rfl k5 rfl rfl (Nat.le_of_ble_eq_true rfl) (Nat.le_of_ble_eq_true rfl) ⟨Nat.le_of_ble_eq_true rfl, Nat.le_of_ble_eq_true rfl⟩ ?_
  refine sp_X5_brings hCR (fun κ2 J y1 y2 y3 => ?_)
  change GW _ _ _ 467 _ [.int _] _ _ 76 1400
  have hA2 := hA.kf y1
  have hM2 := hMR.kf hA y1 y3
  have k6 : κ2.1 m = (6, 0) := hM2.1.1
  refine g_aload_n hX dL_law_467 rfl rfl ?_
  refine g_aload_n hX dL_law_468 rfl rfl ?_
  refine g_iload_n hX dL_law_469 rfl rfl ?_
  refine g_iconst (v := nI 1) hX dL_law_470 (by decide) ?_
  refine g_iadd hX dL_law_471 ?_
  refine g_sld hX hSc dL_law_472 (nI_add _ _) (by omega) (by omega) ?_
  refine g_aload_n hX dL_law_473 rfl rfl ?_
  refine g_iload_n hX dL_law_474 rfl rfl ?_
  refine g_iconst (v := nI 2) hX dL_law_475 (by decide) ?_
  refine g_iadd hX dL_law_476 ?_
  refine g_sld hX hSc dL_law_477 (nI_add _ _) (by omega) (by omega) ?_
  refine g_aload_n hX dL_law_478 rfl rfl ?_
  refine g_iload_n hX dL_law_479 rfl rfl ?_
  refine g_iconst (v := nI 3) hX dL_law_480 (by decide) ?_
  refine g_iadd hX dL_law_481 ?_
  refine g_sld hX hSc dL_law_482 (nI_add _ _) (by omega) (by omega) ?_
  refine g_callV (md' := mX6_brings) (ci := 6) (As := [.int _, .int _, .int _]) hX hR dL_law_483 clL_76 okX6_brings rfl k6 rfl rfl (Nat.le_of_ble_eq_true rfl) (Nat.le_of_ble_eq_true rfl) ⟨Nat.le_of_ble_eq_true rfl, Nat.le_of_ble_eq_true rfl⟩ ?_
  refine sq_X6_brings hM2 (fun J2 z1 z2 => ?_)
  change GW _ _ _ 486 _ [.int _, .int _] _ _ 76 1400
  refine g_icmpeq 909 hX dL_law_486 (by decide) (fun _ => ?_) (fun e => absurd rfl e)
  exact hq _ _ ⟨hA2, _, _, _, _, _, _, _, _, (y2).cg (z2.lo hA2), z1⟩
