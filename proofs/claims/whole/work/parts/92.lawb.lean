set_option maxHeartbeats 4000000 in
set_option maxRecDepth 100000 in
theorem lc_0 {Γ : Ga} {X : Cx} {nm : String} {κ : Kp} {I : Ip} {c m b L i : Nat} {xs : Nat → Int32} (hX : Std Γ (mL nm) X) (hR : RmOK (mL nm) X 9) (hSc : ScX Γ b L xs X) (hL : L ≤ 448) (hi : i + 7 ≤ L) (hI : Inv κ I c m) (hq : ∀ (κ2 : Kp) (J : Ip), Inv κ2 J c m → GW Γ (mL nm) X 909 [(3, .int (nI i)), (0, .ref b), (1, .ref c), (2, .ref m)] [] κ2 J 76 1400) : GW Γ (mL nm) X 156 [(3, .int (nI i)), (0, .ref b), (1, .ref c), (2, .ref m)] [] κ I 76 1400 := by
  obtain ⟨hA, P, T, w, s, past, kept, tx, sz, hCR, hMR⟩ := hI
  have k5 : κ.1 c = (5, 0) := hCR.1.2.1 0 (by decide)
  refine g_aload_n hX dL_law_156 rfl rfl ?_
  refine g_aload_n hX dL_law_157 rfl rfl ?_
  refine g_iload_n hX dL_law_158 rfl rfl ?_
  refine g_iconst (v := nI 1) hX dL_law_159 (by decide) ?_
  refine g_iadd hX dL_law_160 ?_
  refine g_sld hX hSc dL_law_161 (nI_add _ _) (by omega) (by omega) ?_
  refine g_callV (md' := mX5_write) (ci := 5) (As := [.int _]) hX hR dL_law_162 clL_13 okX5_write rfl k5 rfl rfl (Nat.le_of_ble_eq_true rfl) (Nat.le_of_ble_eq_true rfl) ⟨Nat.le_of_ble_eq_true rfl, Nat.le_of_ble_eq_true rfl⟩ ?_
  refine sp_X5_write hCR (fun κ2 J y1 y2 y3 => ?_)
  change GW _ _ _ 165 _ [.int _] _ _ 76 1400
  have hA2 := hA.kf y1
  have hM2 := hMR.kf hA y1 y3
  have k6 : κ2.1 m = (6, 0) := hM2.1.1
  refine g_aload_n hX dL_law_165 rfl rfl ?_
  refine g_aload_n hX dL_law_166 rfl rfl ?_
  refine g_iload_n hX dL_law_167 rfl rfl ?_
  refine g_iconst (v := nI 1) hX dL_law_168 (by decide) ?_
  refine g_iadd hX dL_law_169 ?_
  refine g_sld hX hSc dL_law_170 (nI_add _ _) (by omega) (by omega) ?_
  refine g_callV (md' := mX6_write) (ci := 6) (As := [.int _]) hX hR dL_law_171 clL_17 okX6_write rfl k6 rfl rfl (Nat.le_of_ble_eq_true rfl) (Nat.le_of_ble_eq_true rfl) ⟨Nat.le_of_ble_eq_true rfl, Nat.le_of_ble_eq_true rfl⟩ ?_
  refine sp_X6_write hM2 (fun J2 z1 z2 => ?_)
  change GW _ _ _ 174 _ [.int _, .int _] _ _ 76 1400
  refine g_icmpeq 909 hX dL_law_174 (by decide) (fun _ => ?_) (fun e => absurd rfl e)
  exact hq _ _ ⟨hA2, _, _, _, _, _, _, _, _, (y2).cg (z2.lo hA2), z1⟩

set_option maxHeartbeats 4000000 in
set_option maxRecDepth 100000 in
theorem lc_1 {Γ : Ga} {X : Cx} {nm : String} {κ : Kp} {I : Ip} {c m b L i : Nat} {xs : Nat → Int32} (hX : Std Γ (mL nm) X) (hR : RmOK (mL nm) X 9) (hSc : ScX Γ b L xs X) (hL : L ≤ 448) (hi : i + 7 ≤ L) (hI : Inv κ I c m) (hq : ∀ (κ2 : Kp) (J : Ip), Inv κ2 J c m → GW Γ (mL nm) X 909 [(3, .int (nI i)), (0, .ref b), (1, .ref c), (2, .ref m)] [] κ2 J 76 1400) : GW Γ (mL nm) X 179 [(3, .int (nI i)), (0, .ref b), (1, .ref c), (2, .ref m)] [] κ I 76 1400 := by
  obtain ⟨hA, P, T, w, s, past, kept, tx, sz, hCR, hMR⟩ := hI
  have k5 : κ.1 c = (5, 0) := hCR.1.2.1 0 (by decide)
  refine g_aload_n hX dL_law_179 rfl rfl ?_
  refine g_callV (md' := mX5_wipe) (ci := 5) (As := []) hX hR dL_law_180 clL_18 okX5_wipe rfl k5 rfl rfl (Nat.le_of_ble_eq_true rfl) (Nat.le_of_ble_eq_true rfl) ⟨Nat.le_of_ble_eq_true rfl, Nat.le_of_ble_eq_true rfl⟩ ?_
  refine sp_X5_wipe hCR (fun κ2 J y1 y2 y3 => ?_)
  change GW _ _ _ 183 _ [.int _] _ _ 76 1400
  have hA2 := hA.kf y1
  have hM2 := hMR.kf hA y1 y3
  have k6 : κ2.1 m = (6, 0) := hM2.1.1
  refine g_aload_n hX dL_law_183 rfl rfl ?_
  refine g_callV (md' := mX6_wipe) (ci := 6) (As := []) hX hR dL_law_184 clL_22 okX6_wipe rfl k6 rfl rfl (Nat.le_of_ble_eq_true rfl) (Nat.le_of_ble_eq_true rfl) ⟨Nat.le_of_ble_eq_true rfl, Nat.le_of_ble_eq_true rfl⟩ ?_
  refine sp_X6_wipe hM2 (fun J2 z1 z2 => ?_)
  change GW _ _ _ 187 _ [.int _, .int _] _ _ 76 1400
  refine g_icmpeq 909 hX dL_law_187 (by decide) (fun _ => ?_) (fun e => absurd rfl e)
  exact hq _ _ ⟨hA2, _, _, _, _, _, _, _, _, (y2).cg (z2.lo hA2), z1⟩

set_option maxHeartbeats 4000000 in
set_option maxRecDepth 100000 in
theorem lc_2 {Γ : Ga} {X : Cx} {nm : String} {κ : Kp} {I : Ip} {c m b L i : Nat} {xs : Nat → Int32} (hX : Std Γ (mL nm) X) (hR : RmOK (mL nm) X 9) (hSc : ScX Γ b L xs X) (hL : L ≤ 448) (hi : i + 7 ≤ L) (hI : Inv κ I c m) (hq : ∀ (κ2 : Kp) (J : Ip), Inv κ2 J c m → GW Γ (mL nm) X 909 [(3, .int (nI i)), (0, .ref b), (1, .ref c), (2, .ref m)] [] κ2 J 76 1400) : GW Γ (mL nm) X 192 [(3, .int (nI i)), (0, .ref b), (1, .ref c), (2, .ref m)] [] κ I 76 1400 := by
  obtain ⟨hA, P, T, w, s, past, kept, tx, sz, hCR, hMR⟩ := hI
  have k5 : κ.1 c = (5, 0) := hCR.1.2.1 0 (by decide)
  refine g_aload_n hX dL_law_192 rfl rfl ?_
  refine g_callV (md' := mX5_fault) (ci := 5) (As := []) hX hR dL_law_193 clL_23 okX5_fault rfl k5 rfl rfl (Nat.le_of_ble_eq_true rfl) (Nat.le_of_ble_eq_true rfl) ⟨Nat.le_of_ble_eq_true rfl, Nat.le_of_ble_eq_true rfl⟩ ?_
  refine sp_X5_fault hCR (fun κ2 J y1 y2 y3 => ?_)
  change GW _ _ _ 196 _ [.int _] _ _ 76 1400
  have hA2 := hA.kf y1
  have hM2 := hMR.kf hA y1 y3
  have k6 : κ2.1 m = (6, 0) := hM2.1.1
  refine g_aload_n hX dL_law_196 rfl rfl ?_
  refine g_callV (md' := mX6_fault) (ci := 6) (As := []) hX hR dL_law_197 clL_26 okX6_fault rfl k6 rfl rfl (Nat.le_of_ble_eq_true rfl) (Nat.le_of_ble_eq_true rfl) ⟨Nat.le_of_ble_eq_true rfl, Nat.le_of_ble_eq_true rfl⟩ ?_
  refine sq_X6_fault hM2 (fun J2 z1 z2 => ?_)
  change GW _ _ _ 200 _ [.int _, .int _] _ _ 76 1400
  refine g_icmpeq 909 hX dL_law_200 (by decide) (fun _ => ?_) (fun e => absurd rfl e)
  exact hq _ _ ⟨hA2, _, _, _, _, _, _, _, _, (y2).cg (z2.lo hA2), z1⟩
