set_option maxHeartbeats 4000000 in
set_option maxRecDepth 100000 in
theorem lc_3 {Γ : Ga} {X : Cx} {nm : String} {κ : Kp} {I : Ip} {c m b L i : Nat} {xs : Nat → Int32} (hX : Std Γ (mL nm) X) (hR : RmOK (mL nm) X 9) (hSc : ScX Γ b L xs X) (hL : L ≤ 448) (hi : i + 7 ≤ L) (hI : Inv κ I c m) (hq : ∀ (κ2 : Kp) (J : Ip), Inv κ2 J c m → GW Γ (mL nm) X 909 [(3, .int (nI i)), (0, .ref b), (1, .ref c), (2, .ref m)] [] κ2 J 76 1400) : GW Γ (mL nm) X 205 [(3, .int (nI i)), (0, .ref b), (1, .ref c), (2, .ref m)] [] κ I 76 1400 := by
  obtain ⟨hA, P, T, w, s, past, kept, tx, sz, hCR, hMR⟩ := hI
  have k5 : κ.1 c = (5, 0) := hCR.1.2.1 0 (by decide)
  refine g_aload_n hX dL_law_205 rfl rfl ?_
  refine g_callV (md' := mX5_lay) (ci := 5) (As := []) hX hR dL_law_206 clL_27 okX5_lay rfl k5 rfl rfl (Nat.le_of_ble_eq_true rfl) (Nat.le_of_ble_eq_true rfl) ⟨Nat.le_of_ble_eq_true rfl, Nat.le_of_ble_eq_true rfl⟩ ?_
  refine sp_X5_lay hCR (fun e κ2 J y1 y2 y3 => ?_) (fun e1 e2 κ2 J y1 y2 y3 => ?_)
  · change GW _ _ _ 209 _ [.int _] _ _ 76 1400
    have hA2 := hA.kf y1
    have hM2 := hMR.kf hA y1 y3
    have k6 : κ2.1 m = (6, 0) := hM2.1.1
    refine g_aload_n hX dL_law_209 rfl rfl ?_
    refine g_callV (md' := mX6_lay) (ci := 6) (As := []) hX hR dL_law_210 clL_30 okX6_lay rfl k6 rfl rfl (Nat.le_of_ble_eq_true rfl) (Nat.le_of_ble_eq_true rfl) ⟨Nat.le_of_ble_eq_true rfl, Nat.le_of_ble_eq_true rfl⟩ ?_
    refine sp_X6_lay hM2 (fun _ J2 z1 z2 => ?_) (fun f1 f2 => absurd e (fun h => h.elim (fun g => g f1) (fun g => f2 g)))
    change GW _ _ _ 213 _ [.int _, .int _] _ _ 76 1400
    refine g_icmpeq 909 hX dL_law_213 (by decide) (fun _ => ?_) (fun e => absurd rfl e)
    exact hq _ _ ⟨hA2, _, _, _, _, _, _, _, _, (y2).cg (z2.lo hA2), z1⟩
  · change GW _ _ _ 209 _ [.int _] _ _ 76 1400
    have hA2 := hA.kf y1
    have hM2 := hMR.kf hA y1 y3
    have k6 : κ2.1 m = (6, 0) := hM2.1.1
    refine g_aload_n hX dL_law_209 rfl rfl ?_
    refine g_callV (md' := mX6_lay) (ci := 6) (As := []) hX hR dL_law_210 clL_30 okX6_lay rfl k6 rfl rfl (Nat.le_of_ble_eq_true rfl) (Nat.le_of_ble_eq_true rfl) ⟨Nat.le_of_ble_eq_true rfl, Nat.le_of_ble_eq_true rfl⟩ ?_
    refine sp_X6_lay hM2 (fun e => absurd e (fun h => h.elim (fun g => g e1) (fun g => e2 g))) (fun _ _ J2 z1 z2 => ?_)
    change GW _ _ _ 213 _ [.int _, .int _] _ _ 76 1400
    refine g_icmpeq 909 hX dL_law_213 (by decide) (fun _ => ?_) (fun e => absurd rfl e)
    exact hq _ _ ⟨hA2, _, _, _, _, _, _, _, _, (y2).cg (z2.lo hA2), z1⟩

set_option maxHeartbeats 4000000 in
set_option maxRecDepth 100000 in
theorem lc_4 {Γ : Ga} {X : Cx} {nm : String} {κ : Kp} {I : Ip} {c m b L i : Nat} {xs : Nat → Int32} (hX : Std Γ (mL nm) X) (hR : RmOK (mL nm) X 9) (hSc : ScX Γ b L xs X) (hL : L ≤ 448) (hi : i + 7 ≤ L) (hI : Inv κ I c m) (hq : ∀ (κ2 : Kp) (J : Ip), Inv κ2 J c m → GW Γ (mL nm) X 909 [(3, .int (nI i)), (0, .ref b), (1, .ref c), (2, .ref m)] [] κ2 J 76 1400) : GW Γ (mL nm) X 218 [(3, .int (nI i)), (0, .ref b), (1, .ref c), (2, .ref m)] [] κ I 76 1400 := by
  obtain ⟨hA, P, T, w, s, past, kept, tx, sz, hCR, hMR⟩ := hI
  have k5 : κ.1 c = (5, 0) := hCR.1.2.1 0 (by decide)
  refine g_aload_n hX dL_law_218 rfl rfl ?_
  refine g_aload_n hX dL_law_219 rfl rfl ?_
  refine g_iload_n hX dL_law_220 rfl rfl ?_
  refine g_iconst (v := nI 1) hX dL_law_221 (by decide) ?_
  refine g_iadd hX dL_law_222 ?_
  refine g_sld hX hSc dL_law_223 (nI_add _ _) (by omega) (by omega) ?_
  refine g_aload_n hX dL_law_224 rfl rfl ?_
  refine g_iload_n hX dL_law_225 rfl rfl ?_
  refine g_iconst (v := nI 2) hX dL_law_226 (by decide) ?_
  refine g_iadd hX dL_law_227 ?_
  refine g_sld hX hSc dL_law_228 (nI_add _ _) (by omega) (by omega) ?_
  refine g_callV (md' := mX5_person) (ci := 5) (As := [.int _, .int _]) hX hR dL_law_229 clL_31 okX5_person rfl k5 rfl rfl (Nat.le_of_ble_eq_true rfl) (Nat.le_of_ble_eq_true rfl) ⟨Nat.le_of_ble_eq_true rfl, Nat.le_of_ble_eq_true rfl⟩ ?_
  refine sp_X5_person hCR ?_
  change GW _ _ _ 232 _ [.int _] _ _ 76 1400
  have k6 : κ.1 m = (6, 0) := hMR.1.1
  refine g_aload_n hX dL_law_232 rfl rfl ?_
  refine g_aload_n hX dL_law_233 rfl rfl ?_
  refine g_iload_n hX dL_law_234 rfl rfl ?_
  refine g_iconst (v := nI 1) hX dL_law_235 (by decide) ?_
  refine g_iadd hX dL_law_236 ?_
  refine g_sld hX hSc dL_law_237 (nI_add _ _) (by omega) (by omega) ?_
  refine g_aload_n hX dL_law_238 rfl rfl ?_
  refine g_iload_n hX dL_law_239 rfl rfl ?_
  refine g_iconst (v := nI 2) hX dL_law_240 (by decide) ?_
  refine g_iadd hX dL_law_241 ?_
  refine g_sld hX hSc dL_law_242 (nI_add _ _) (by omega) (by omega) ?_
  refine g_callV (md' := mX6_person) (ci := 6) (As := [.int _, .int _]) hX hR dL_law_243 clL_35 okX6_person rfl k6 rfl rfl (Nat.le_of_ble_eq_true rfl) (Nat.le_of_ble_eq_true rfl) ⟨Nat.le_of_ble_eq_true rfl, Nat.le_of_ble_eq_true rfl⟩ ?_
  refine sp_X6_person hMR ?_
  change GW _ _ _ 246 _ [.int _, .int _] _ _ 76 1400
  refine g_icmpeq 909 hX dL_law_246 (by decide) (fun _ => ?_) (fun e => absurd rfl e)
  exact hq _ _ ⟨hA, P, T, w, s, past, kept, tx, sz, hCR, hMR⟩

set_option maxHeartbeats 4000000 in
set_option maxRecDepth 100000 in
theorem lc_5 {Γ : Ga} {X : Cx} {nm : String} {κ : Kp} {I : Ip} {c m b L i : Nat} {xs : Nat → Int32} (hX : Std Γ (mL nm) X) (hR : RmOK (mL nm) X 9) (hSc : ScX Γ b L xs X) (hL : L ≤ 448) (hi : i + 7 ≤ L) (hI : Inv κ I c m) (hq : ∀ (κ2 : Kp) (J : Ip), Inv κ2 J c m → GW Γ (mL nm) X 909 [(3, .int (nI i)), (0, .ref b), (1, .ref c), (2, .ref m)] [] κ2 J 76 1400) : GW Γ (mL nm) X 251 [(3, .int (nI i)), (0, .ref b), (1, .ref c), (2, .ref m)] [] κ I 76 1400 := by
  obtain ⟨hA, P, T, w, s, past, kept, tx, sz, hCR, hMR⟩ := hI
  have k5 : κ.1 c = (5, 0) := hCR.1.2.1 0 (by decide)
  refine g_aload_n hX dL_law_251 rfl rfl ?_
  refine g_aload_n hX dL_law_252 rfl rfl ?_
  refine g_iload_n hX dL_law_253 rfl rfl ?_
  refine g_iconst (v := nI 1) hX dL_law_254 (by decide) ?_
  refine g_iadd hX dL_law_255 ?_
  refine g_sld hX hSc dL_law_256 (nI_add _ _) (by omega) (by omega) ?_
  refine g_aload_n hX dL_law_257 rfl rfl ?_
  refine g_iload_n hX dL_law_258 rfl rfl ?_
  refine g_iconst (v := nI 2) hX dL_law_259 (by decide) ?_
  refine g_iadd hX dL_law_260 ?_
  refine g_sld hX hSc dL_law_261 (nI_add _ _) (by omega) (by omega) ?_
  refine g_callV (md' := mX5_tale) (ci := 5) (As := [.int _, .int _]) hX hR dL_law_262 clL_36 okX5_tale rfl k5 rfl rfl (Nat.le_of_ble_eq_true rfl) (Nat.le_of_ble_eq_true rfl) ⟨Nat.le_of_ble_eq_true rfl, Nat.le_of_ble_eq_true rfl⟩ ?_
  refine sp_X5_tale hCR ?_
  change GW _ _ _ 265 _ [.int _] _ _ 76 1400
  have k6 : κ.1 m = (6, 0) := hMR.1.1
  refine g_aload_n hX dL_law_265 rfl rfl ?_
  refine g_aload_n hX dL_law_266 rfl rfl ?_
  refine g_iload_n hX dL_law_267 rfl rfl ?_
  refine g_iconst (v := nI 1) hX dL_law_268 (by decide) ?_
  refine g_iadd hX dL_law_269 ?_
  refine g_sld hX hSc dL_law_270 (nI_add _ _) (by omega) (by omega) ?_
  refine g_aload_n hX dL_law_271 rfl rfl ?_
  refine g_iload_n hX dL_law_272 rfl rfl ?_
  refine g_iconst (v := nI 2) hX dL_law_273 (by decide) ?_
  refine g_iadd hX dL_law_274 ?_
  refine g_sld hX hSc dL_law_275 (nI_add _ _) (by omega) (by omega) ?_
  refine g_callV (md' := mX6_tale) (ci := 6) (As := [.int _, .int _]) hX hR dL_law_276 clL_39 okX6_tale rfl k6 rfl rfl (Nat.le_of_ble_eq_true rfl) (Nat.le_of_ble_eq_true rfl) ⟨Nat.le_of_ble_eq_true rfl, Nat.le_of_ble_eq_true rfl⟩ ?_
  refine sp_X6_tale hMR ?_
  change GW _ _ _ 279 _ [.int _, .int _] _ _ 76 1400
  refine g_icmpeq 909 hX dL_law_279 (by decide) (fun _ => ?_) (fun e => absurd rfl e)
  exact hq _ _ ⟨hA, P, T, w, s, past, kept, tx, sz, hCR, hMR⟩
