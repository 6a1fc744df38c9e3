set_option maxHeartbeats 4000000 in
set_option maxRecDepth 100000 in
theorem lc_6 {Γ : Ga} {X : Cx} {nm : String} {κ : Kp} {I : Ip} {c m b L i : Nat} {xs : Nat → Int32} (hX : Std Γ (mL nm) X) (hR : RmOK (mL nm) X 9) (hSc : ScX Γ b L xs X) (hL : L ≤ 448) (hi : i + 7 ≤ L) (hI : Inv κ I c m) (hq : ∀ (κ2 : Kp) (J : Ip), Inv κ2 J c m → GW Γ (mL nm) X 909 [(3, .int (nI i)), (0, .ref b), (1, .ref c), (2, .ref m)] [] κ2 J 76 1400) : GW Γ (mL nm) X 284 [(3, .int (nI i)), (0, .ref b), (1, .ref c), (2, .ref m)] [] κ I 76 1400 := by
  obtain ⟨hA, P, T, w, s, past, kept, tx, sz, hCR, hMR⟩ := hI
  have k5 : κ.1 c = (5, 0) := hCR.1.2.1 0 (by decide)
  refine g_aload_n hX dL_law_284 rfl rfl ?_
  refine g_aload_n hX dL_law_285 rfl rfl ?_
  refine g_iload_n hX dL_law_286 rfl rfl ?_
  refine g_iconst (v := nI 1) hX dL_law_287 (by decide) ?_
  refine g_iadd hX dL_law_288 ?_
  refine g_sld hX hSc dL_law_289 (nI_add _ _) (by omega) (by omega) ?_
  refine g_callV (md' := mX5_churn) (ci := 5) (As := [.int _]) hX hR dL_law_290 clL_40 okX5_churn rfl k5 rfl rfl (Nat.le_of_ble_eq_true rfl) (Nat.le_of_ble_eq_true rfl) ⟨Nat.le_of_ble_eq_true rfl, Nat.le_of_ble_eq_true rfl⟩ ?_
  refine sp_X5_churn hCR ?_
  change GW _ _ _ 293 _ [.int _] _ _ 76 1400
  have k6 : κ.1 m = (6, 0) := hMR.1.1
  refine g_aload_n hX dL_law_293 rfl rfl ?_
  refine g_aload_n hX dL_law_294 rfl rfl ?_
  refine g_iload_n hX dL_law_295 rfl rfl ?_
  refine g_iconst (v := nI 1) hX dL_law_296 (by decide) ?_
  refine g_iadd hX dL_law_297 ?_
  refine g_sld hX hSc dL_law_298 (nI_add _ _) (by omega) (by omega) ?_
  refine g_callV (md' := mX6_churn) (ci := 6) (As := [.int _]) hX hR dL_law_299 clL_43 okX6_churn rfl k6 rfl rfl (Nat.le_of_ble_eq_true rfl) (Nat.le_of_ble_eq_true rfl) ⟨Nat.le_of_ble_eq_true rfl, Nat.le_of_ble_eq_true rfl⟩ ?_
  refine sp_X6_churn hMR ?_
  change GW _ _ _ 302 _ [.int _, .int _] _ _ 76 1400
  refine g_icmpeq 909 hX dL_law_302 (by decide) (fun _ => ?_) (fun e => absurd rfl e)
  exact hq _ _ ⟨hA, P, T, w, s, past, kept, tx, sz, hCR, hMR⟩

set_option maxHeartbeats 4000000 in
set_option maxRecDepth 100000 in
theorem lc_7 {Γ : Ga} {X : Cx} {nm : String} {κ : Kp} {I : Ip} {c m b L i : Nat} {xs : Nat → Int32} (hX : Std Γ (mL nm) X) (hR : RmOK (mL nm) X 9) (hSc : ScX Γ b L xs X) (hL : L ≤ 448) (hi : i + 7 ≤ L) (hI : Inv κ I c m) (hq : ∀ (κ2 : Kp) (J : Ip), Inv κ2 J c m → GW Γ (mL nm) X 909 [(3, .int (nI i)), (0, .ref b), (1, .ref c), (2, .ref m)] [] κ2 J 76 1400) : GW Γ (mL nm) X 307 [(3, .int (nI i)), (0, .ref b), (1, .ref c), (2, .ref m)] [] κ I 76 1400 := by
  obtain ⟨hA, P, T, w, s, past, kept, tx, sz, hCR, hMR⟩ := hI
  have k5 : κ.1 c = (5, 0) := hCR.1.2.1 0 (by decide)
  refine g_aload_n hX dL_law_307 rfl rfl ?_
  refine g_aload_n hX dL_law_308 rfl rfl ?_
  refine g_iload_n hX dL_law_309 rfl rfl ?_
  refine g_iconst (v := nI 1) hX dL_law_310 (by decide) ?_
  refine g_iadd hX dL_law_311 ?_
  refine g_sld hX hSc dL_law_312 (nI_add _ _) (by omega) (by omega) ?_
  refine g_aload_n hX dL_law_313 rfl rfl ?_
  refine g_iload_n hX dL_law_314 rfl rfl ?_
  refine g_iconst (v := nI 2) hX dL_law_315 (by decide) ?_
  refine g_iadd hX dL_law_316 ?_
  refine g_sld hX hSc dL_law_317 (nI_add _ _) (by omega) (by omega) ?_
  refine g_callV (md' := mX5_sit) (ci := 5) (As := [.int _, .int _]) hX hR dL_law_318 clL_44 okX5_sit rfl k5 rfl rfl (Nat.le_of_ble_eq_true rfl) (Nat.le_of_ble_eq_true rfl) ⟨Nat.le_of_ble_eq_true rfl, Nat.le_of_ble_eq_true rfl⟩ ?_
  refine sp_X5_sit hCR (fun κ2 J y1 y2 y3 => ?_)
  change GW _ _ _ 321 _ [.int _] _ _ 76 1400
  have hA2 := hA.kf y1
  have hM2 := hMR.kf hA y1 y3
  have k6 : κ2.1 m = (6, 0) := hM2.1.1
  refine g_aload_n hX dL_law_321 rfl rfl ?_
  refine g_aload_n hX dL_law_322 rfl rfl ?_
  refine g_iload_n hX dL_law_323 rfl rfl ?_
  refine g_iconst (v := nI 1) hX dL_law_324 (by decide) ?_
  refine g_iadd hX dL_law_325 ?_
  refine g_sld hX hSc dL_law_326 (nI_add _ _) (by omega) (by omega) ?_
  refine g_aload_n hX dL_law_327 rfl rfl ?_
  refine g_iload_n hX dL_law_328 rfl rfl ?_
  refine g_iconst (v := nI 2) hX dL_law_329 (by decide) ?_
  refine g_iadd hX dL_law_330 ?_
  refine g_sld hX hSc dL_law_331 (nI_add _ _) (by omega) (by omega) ?_
  refine g_callV (md' := mX6_sit) (ci := 6) (As := [.int _, .int _]) hX hR dL_law_332 clL_47 okX6_sit rfl k6 rfl rfl (Nat.le_of_ble_eq_true rfl) (Nat.le_of_ble_eq_true rfl) ⟨Nat.le_of_ble_eq_true rfl, Nat.le_of_ble_eq_true rfl⟩ ?_
  refine sp_X6_sit hM2 (fun J2 z1 z2 => ?_)
  change GW _ _ _ 335 _ [.int _, .int _] _ _ 76 1400
  refine g_icmpeq 909 hX dL_law_335 (by decide) (fun _ => ?_) (fun e => absurd rfl e)
  exact hq _ _ ⟨hA2, _, _, _, _, _, _, _, _, (y2).cg (z2.lo hA2), z1⟩

set_option maxHeartbeats 4000000 in
set_option maxRecDepth 100000 in
theorem lc_8 {Γ : Ga} {X : Cx} {nm : String} {κ : Kp} {I : Ip} {c m b L i : Nat} {xs : Nat → Int32} (hX : Std Γ (mL nm) X) (hR : RmOK (mL nm) X 9) (hSc : ScX Γ b L xs X) (hL : L ≤ 448) (hi : i + 7 ≤ L) (hI : Inv κ I c m) (hq : ∀ (κ2 : Kp) (J : Ip), Inv κ2 J c m → GW Γ (mL nm) X 909 [(3, .int (nI i)), (0, .ref b), (1, .ref c), (2, .ref m)] [] κ2 J 76 1400) : GW Γ (mL nm) X 340 [(3, .int (nI i)), (0, .ref b), (1, .ref c), (2, .ref m)] [] κ I 76 1400 := by
  obtain ⟨hA, P, T, w, s, past, kept, tx, sz, hCR, hMR⟩ := hI
  have k5 : κ.1 c = (5, 0) := hCR.1.2.1 0 (by decide)
  refine g_aload_n hX dL_law_340 rfl rfl ?_
  refine g_callV (md' := mX5_stand) (ci := 5) (As := []) hX hR dL_law_341 clL_48 okX5_stand rfl k5 rfl rfl (Nat.le_of_ble_eq_true rfl) (Nat.le_of_ble_eq_true rfl) ⟨Nat.le_of_ble_eq_true rfl, Nat.le_of_ble_eq_true rfl⟩ ?_
  refine sp_X5_stand hCR (fun κ2 J y1 y2 y3 => ?_)
  change GW _ _ _ 344 _ [.int _] _ _ 76 1400
  have hA2 := hA.kf y1
  have hM2 := hMR.kf hA y1 y3
  have k6 : κ2.1 m = (6, 0) := hM2.1.1
  refine g_aload_n hX dL_law_344 rfl rfl ?_
  refine g_callV (md' := mX6_stand) (ci := 6) (As := []) hX hR dL_law_345 clL_51 okX6_stand rfl k6 rfl rfl (Nat.le_of_ble_eq_true rfl) (Nat.le_of_ble_eq_true rfl) ⟨Nat.le_of_ble_eq_true rfl, Nat.le_of_ble_eq_true rfl⟩ ?_
  refine sp_X6_stand hM2 (fun J2 z1 z2 => ?_)
  change GW _ _ _ 348 _ [.int _, .int _] _ _ 76 1400
  refine g_icmpeq 909 hX dL_law_348 (by decide) (fun _ => ?_) (fun e => absurd rfl e)
  exact hq _ _ ⟨hA2, _, _, _, _, _, _, _, _, (y2).cg (z2.lo hA2), z1⟩
