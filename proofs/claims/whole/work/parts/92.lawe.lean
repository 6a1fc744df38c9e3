set_option maxHeartbeats 4000000 in
set_option maxRecDepth 100000 in
theorem lc_9 {Γ : Ga} {X : Cx} {nm : String} {κ : Kp} {I : Ip} {c m b L i : Nat} {xs : Nat → Int32} (hX : Std Γ (mL nm) X) (hR : RmOK (mL nm) X 9) (hSc : ScX Γ b L xs X) (hL : L ≤ 448) (hi : i + 7 ≤ L) (hI : Inv κ I c m) (hq : ∀ (κ2 : Kp) (J : Ip), Inv κ2 J c m → GW Γ (mL nm) X 909 [(3, .int (nI i)), (0, .ref b), (1, .ref c), (2, .ref m)] [] κ2 J 76 1400) : GW Γ (mL nm) X 353 [(3, .int (nI i)), (0, .ref b), (1, .ref c), (2, .ref m)] [] κ I 76 1400 := by
  obtain ⟨hA, P, T, w, s, past, kept, tx, sz, hCR, hMR⟩ := hI
  have k5 : κ.1 c = (5, 0) := hCR.1.2.1 0 (by decide)
  refine g_aload_n hX dL_law_353 rfl rfl ?_
  refine g_aload_n hX dL_law_354 rfl rfl ?_
  refine g_iload_n hX dL_law_355 rfl rfl ?_
  refine g_iconst (v := nI 1) hX dL_law_356 (by decide) ?_
  refine g_iadd hX dL_law_357 ?_
  refine g_sld hX hSc dL_law_358 (nI_add _ _) (by omega) (by omega) ?_
  refine g_callV (md' := mX5_pass) (ci := 5) (As := [.int _]) hX hR dL_law_359 clL_52 okX5_pass rfl k5 rfl rfl (Nat.le_of_ble_eq_true rfl) (Nat.le_of_ble_eq_true rfl) ⟨Nat.le_of_ble_eq_true rfl, Nat.le_of_ble_eq_true rfl⟩ ?_
  refine sp_X5_pass hCR (fun κ2 J y1 y2 y3 => ?_)
  change GW _ _ _ 362 _ [.int _] _ _ 76 1400
  have hA2 := hA.kf y1
  have hM2 := hMR.kf hA y1 y3
  have k6 : κ2.1 m = (6, 0) := hM2.1.1
  refine g_aload_n hX dL_law_362 rfl rfl ?_
  refine g_aload_n hX dL_law_363 rfl rfl ?_
  refine g_iload_n hX dL_law_364 rfl rfl ?_
  refine g_iconst (v := nI 1) hX dL_law_365 (by decide) ?_
  refine g_iadd hX dL_law_366 ?_
  refine g_sld hX hSc dL_law_367 (nI_add _ _) (by omega) (by omega) ?_
  refine g_callV (md' := mX6_pass) (ci := 6) (As := [.int _]) hX hR dL_law_368 clL_55 okX6_pass rfl k6 rfl rfl (Nat.le_of_ble_eq_true rfl) (Nat.le_of_ble_eq_true rfl) ⟨Nat.le_of_ble_eq_true rfl, Nat.le_of_ble_eq_true rfl⟩ ?_
  refine sp_X6_pass hM2 (fun J2 z1 z2 => ?_)
  change GW _ _ _ 371 _ [.int _, .int _] _ _ 76 1400
  refine g_icmpeq 909 hX dL_law_371 (by decide) (fun _ => ?_) (fun e => absurd rfl e)
  exact hq _ _ ⟨hA2, _, _, _, _, _, _, _, _, (y2).cg (z2.lo hA2), z1⟩

set_option maxHeartbeats 4000000 in
set_option maxRecDepth 100000 in
theorem lc_10 {Γ : Ga} {X : Cx} {nm : String} {κ : Kp} {I : Ip} {c m b L i : Nat} {xs : Nat → Int32} (hX : Std Γ (mL nm) X) (hR : RmOK (mL nm) X 9) (hSc : ScX Γ b L xs X) (hL : L ≤ 448) (hi : i + 7 ≤ L) (hI : Inv κ I c m) (hq : ∀ (κ2 : Kp) (J : Ip), Inv κ2 J c m → GW Γ (mL nm) X 909 [(3, .int (nI i)), (0, .ref b), (1, .ref c), (2, .ref m)] [] κ2 J 76 1400) : GW Γ (mL nm) X 376 [(3, .int (nI i)), (0, .ref b), (1, .ref c), (2, .ref m)] [] κ I 76 1400 := by
  obtain ⟨hA, P, T, w, s, past, kept, tx, sz, hCR, hMR⟩ := hI
  have k5 : κ.1 c = (5, 0) := hCR.1.2.1 0 (by decide)
  refine g_aload_n hX dL_law_376 rfl rfl ?_
  refine g_aload_n hX dL_law_377 rfl rfl ?_
  refine g_iload_n hX dL_law_378 rfl rfl ?_
  refine g_iconst (v := nI 1) hX dL_law_379 (by decide) ?_
  refine g_iadd hX dL_law_380 ?_
  refine g_sld hX hSc dL_law_381 (nI_add _ _) (by omega) (by omega) ?_
  refine g_callV (md' := mX5_hush) (ci := 5) (As := [.int _]) hX hR dL_law_382 clL_56 okX5_hush rfl k5 rfl rfl (Nat.le_of_ble_eq_true rfl) (Nat.le_of_ble_eq_true rfl) ⟨Nat.le_of_ble_eq_true rfl, Nat.le_of_ble_eq_true rfl⟩ ?_
  refine sp_X5_hush hCR (fun κ2 J y1 y2 y3 => ?_)
  change GW _ _ _ 385 _ [.int _] _ _ 76 1400
  have hA2 := hA.kf y1
  have hM2 := hMR.kf hA y1 y3
  have k6 : κ2.1 m = (6, 0) := hM2.1.1
  refine g_aload_n hX dL_law_385 rfl rfl ?_
  refine g_aload_n hX dL_law_386 rfl rfl ?_
  refine g_iload_n hX dL_law_387 rfl rfl ?_
  refine g_iconst (v := nI 1) hX dL_law_388 (by decide) ?_
  refine g_iadd hX dL_law_389 ?_
  refine g_sld hX hSc dL_law_390 (nI_add _ _) (by omega) (by omega) ?_
  refine g_callV (md' := mX6_hush) (ci := 6) (As := [.int _]) hX hR dL_law_391 clL_59 okX6_hush rfl k6 rfl rfl (Nat.le_of_ble_eq_true rfl) (Nat.le_of_ble_eq_true rfl) ⟨Nat.le_of_ble_eq_true rfl, Nat.le_of_ble_eq_true rfl⟩ ?_
  refine sp_X6_hush hM2 (fun J2 z1 z2 => ?_)
  change GW _ _ _ 394 _ [.int _, .int _] _ _ 76 1400
  refine g_icmpeq 909 hX dL_law_394 (by decide) (fun _ => ?_) (fun e => absurd rfl e)
  exact hq _ _ ⟨hA2, _, _, _, _, _, _, _, _, (y2).cg (z2.lo hA2), z1⟩

set_option maxHeartbeats 4000000 in
set_option maxRecDepth 100000 in
theorem lc_11 {Γ : Ga} {X : Cx} {nm : String} {κ : Kp} {I : Ip} {c m b L i : Nat} {xs : Nat → Int32} (hX : Std Γ (mL nm) X) (hR : RmOK (mL nm) X 9) (hSc : ScX Γ b L xs X) (hL : L ≤ 448) (hi : i + 7 ≤ L) (hI : Inv κ I c m) (hq : ∀ (κ2 : Kp) (J : Ip), Inv κ2 J c m → GW Γ (mL nm) X 909 [(3, .int (nI i)), (0, .ref b), (1, .ref c), (2, .ref m)] [] κ2 J 76 1400) : GW Γ (mL nm) X 399 [(3, .int (nI i)), (0, .ref b), (1, .ref c), (2, .ref m)] [] κ I 76 1400 := by
  obtain ⟨hA, P, T, w, s, past, kept, tx, sz, hCR, hMR⟩ := hI
  have k5 : κ.1 c = (5, 0) := hCR.1.2.1 0 (by decide)
  refine g_aload_n hX dL_law_399 rfl rfl ?_
  refine g_callV (md' := mX5_undo) (ci := 5) (As := []) hX hR dL_law_400 clL_60 okX5_undo rfl k5 rfl rfl (Nat.le_of_ble_eq_true rfl) (Nat.le_of_ble_eq_true rfl) ⟨Nat.le_of_ble_eq_true rfl, Nat.le_of_ble_eq_true rfl⟩ ?_
  refine sp_X5_undo hCR (fun κ2 J y1 y2 y3 => ?_)
  change GW _ _ _ 403 _ [.int _] _ _ 76 1400
  have hA2 := hA.kf y1
  have hM2 := hMR.kf hA y1 y3
  have k6 : κ2.1 m = (6, 0) := hM2.1.1
  refine g_aload_n hX dL_law_403 rfl rfl ?_
  refine g_callV (md' := mX6_undo) (ci := 6) (As := []) hX hR dL_law_404 clL_63 okX6_undo rfl k6 rfl rfl (Nat.le_of_ble_eq_true rfl) (Nat.le_of_ble_eq_true rfl) ⟨Nat.le_of_ble_eq_true rfl, Nat.le_of_ble_eq_true rfl⟩ ?_
  refine sp_X6_undo hM2 (fun J2 z1 z2 => ?_)
  change GW _ _ _ 407 _ [.int _, .int _] _ _ 76 1400
  refine g_icmpeq 909 hX dL_law_407 (by decide) (fun _ => ?_) (fun e => absurd rfl e)
  exact hq _ _ ⟨hA2, _, _, _, _, _, _, _, _, (y2).cg (z2.lo hA2), z1⟩
