set_option maxHeartbeats 4000000 in
set_option maxRecDepth 100000 in
theorem lc_24 {Γ : Ga} {X : Cx} {nm : String} {κ : Kp} {I : Ip} {c m b L i : Nat} {xs : Nat → Int32} (hX : Std Γ (mL nm) X) (hR : RmOK (mL nm) X 9) (hSc : ScX Γ b L xs X) (hL : L ≤ 448) (hi : i + 7 ≤ L) (hI : Inv κ I c m) (hq : ∀ (κ2 : Kp) (J : Ip), Inv κ2 J c m → GW Γ (mL nm) X 909 [(3, .int (nI i)), (0, .ref b), (1, .ref c), (2, .ref m)] [] κ2 J 76 1400) : GW Γ (mL nm) X 860 [(3, .int (nI i)), (0, .ref b), (1, .ref c), (2, .ref m)] [] κ I 76 1400 := by
  obtain ⟨hA, P, T, w, s, past, kept, tx, sz, hCR, hMR⟩ := hI
  have k5 : κ.1 c = (5, 0) := hCR.1.2.1 0 (by decide)
  refine g_aload_n hX dL_law_860 rfl rfl ?_
  refine g_callV (md' := mX5_keep) (ci := 5) (As := []) hX hR dL_law_861 clL_115 okX5_keep rfl k5 rfl rfl (Nat.le_of_ble_eq_true rfl) (Nat.le_of_ble_eq_true rfl) ⟨Nat.le_of_ble_eq_true rfl, Nat.le_of_ble_eq_true rfl⟩ ?_
  refine sp_X5_keep hCR (fun κ2 J y1 y2 y3 => ?_)
  change GW _ _ _ 864 _ [.int _] _ _ 76 1400
  have hA2 := hA.kf y1
  have hM2 := hMR.kf hA y1 y3
  have k6 : κ2.1 m = (6, 0) := hM2.1.1
  refine g_aload_n hX dL_law_864 rfl rfl ?_
  refine g_callV (md' := mX6_keep) (ci := 6) (As := []) hX hR dL_law_865 clL_118 okX6_keep rfl k6 rfl rfl (Nat.le_of_ble_eq_true rfl) (Nat.le_of_ble_eq_true rfl) ⟨Nat.le_of_ble_eq_true rfl, Nat.le_of_ble_eq_true rfl⟩ ?_
  refine sp_X6_keep hM2 (fun J2 z1 z2 => ?_)
  change GW _ _ _ 868 _ [.int _, .int _] _ _ 76 1400
  refine g_icmpeq 909 hX dL_law_868 (by decide) (fun _ => ?_) (fun e => absurd rfl e)
  exact hq _ _ ⟨hA2, _, _, _, _, _, _, _, _, (y2).cg (z2.lo hA2), z1⟩

set_option maxHeartbeats 4000000 in
set_option maxRecDepth 100000 in
theorem lc_25 {Γ : Ga} {X : Cx} {nm : String} {κ : Kp} {I : Ip} {c m b L i : Nat} {xs : Nat → Int32} (hX : Std Γ (mL nm) X) (hR : RmOK (mL nm) X 9) (hSc : ScX Γ b L xs X) (hL : L ≤ 448) (hi : i + 7 ≤ L) (hI : Inv κ I c m) (hq : ∀ (κ2 : Kp) (J : Ip), Inv κ2 J c m → GW Γ (mL nm) X 909 [(3, .int (nI i)), (0, .ref b), (1, .ref c), (2, .ref m)] [] κ2 J 76 1400) : GW Γ (mL nm) X 873 [(3, .int (nI i)), (0, .ref b), (1, .ref c), (2, .ref m)] [] κ I 76 1400 := by
  obtain ⟨hA, P, T, w, s, past, kept, tx, sz, hCR, hMR⟩ := hI
  have k5 : κ.1 c = (5, 0) := hCR.1.2.1 0 (by decide)
  refine g_aload_n hX dL_law_873 rfl rfl ?_
  refine g_callV (md' := mX5_back) (ci := 5) (As := []) hX hR dL_law_874 clL_119 okX5_back rfl k5 rfl rfl (Nat.le_of_ble_eq_true rfl) (Nat.le_of_ble_eq_true rfl) ⟨Nat.le_of_ble_eq_true rfl, Nat.le_of_ble_eq_true rfl⟩ ?_
  refine sp_X5_back hCR (fun κ2 J y1 y2 y3 => ?_)
  change GW _ _ _ 877 _ [.int _] _ _ 76 1400
  have hA2 := hA.kf y1
  have hM2 := hMR.kf hA y1 y3
  have k6 : κ2.1 m = (6, 0) := hM2.1.1
  refine g_aload_n hX dL_law_877 rfl rfl ?_
  refine g_callV (md' := mX6_back) (ci := 6) (As := []) hX hR dL_law_878 clL_122 okX6_back rfl k6 rfl rfl (Nat.le_of_ble_eq_true rfl) (Nat.le_of_ble_eq_true rfl) ⟨Nat.le_of_ble_eq_true rfl, Nat.le_of_ble_eq_true rfl⟩ ?_
  refine sp_X6_back hM2 (fun J2 z1 z2 => ?_)
  change GW _ _ _ 881 _ [.int _, .int _] _ _ 76 1400
  refine g_icmpeq 909 hX dL_law_881 (by decide) (fun _ => ?_) (fun e => absurd rfl e)
  exact hq _ _ ⟨hA2, _, _, _, _, _, _, _, _, (y2).cg (z2.lo hA2), z1⟩

set_option maxHeartbeats 4000000 in
set_option maxRecDepth 100000 in
theorem lc_26 {Γ : Ga} {X : Cx} {nm : String} {κ : Kp} {I : Ip} {c m b L i : Nat} {xs : Nat → Int32} (hX : Std Γ (mL nm) X) (hR : RmOK (mL nm) X 9) (hSc : ScX Γ b L xs X) (hL : L ≤ 448) (hi : i + 7 ≤ L) (hI : Inv κ I c m) (hq : ∀ (κ2 : Kp) (J : Ip), Inv κ2 J c m → GW Γ (mL nm) X 909 [(3, .int (nI i)), (0, .ref b), (1, .ref c), (2, .ref m)] [] κ2 J 76 1400) : GW Γ (mL nm) X 886 [(3, .int (nI i)), (0, .ref b), (1, .ref c), (2, .ref m)] [] κ I 76 1400 := by
  obtain ⟨hA, P, T, w, s, past, kept, tx, sz, hCR, hMR⟩ := hI
  have k5 : κ.1 c = (5, 0) := hCR.1.2.1 0 (by decide)
  refine g_aload_n hX dL_law_886 rfl rfl ?_
  refine g_aload_n hX dL_law_887 rfl rfl ?_
  refine g_iload_n hX dL_law_888 rfl rfl ?_
  refine g_iconst (v := nI 1) hX dL_law_889 (by decide) ?_
  refine g_iadd hX dL_law_890 ?_
  refine g_sld hX hSc dL_law_891 (nI_add _ _) (by omega) (by omega) ?_
  refine g_callV (md' := mX5_count) (ci := 5) (As := [.int _]) hX hR dL_law_892 clL_123 okX5_count rfl k5 rfl rfl (Nat.le_of_ble_eq_true rfl) (Nat.le_of_ble_eq_true rfl) ⟨Nat.le_of_ble_eq_true rfl, Nat.le_of_ble_eq_true rfl⟩ ?_
  refine sp_X5_count hCR ?_
  change GW _ _ _ 895 _ [.int _] _ _ 76 1400
  have k6 : κ.1 m = (6, 0) := hMR.1.1
  refine g_aload_n hX dL_law_895 rfl rfl ?_
  refine g_aload_n hX dL_law_896 rfl rfl ?_
  refine g_iload_n hX dL_law_897 rfl rfl ?_
  refine g_iconst (v := nI 1) hX dL_law_898 (by decide) ?_
  refine g_iadd hX dL_law_899 ?_
  refine g_sld hX hSc dL_law_900 (nI_add _ _) (by omega) (by omega) ?_
  refine g_callV (md' := mX6_count) (ci := 6) (As := [.int _]) hX hR dL_law_901 clL_126 okX6_count rfl k6 rfl rfl (Nat.le_of_ble_eq_true rfl) (Nat.le_of_ble_eq_true rfl) ⟨Nat.le_of_ble_eq_true rfl, Nat.le_of_ble_eq_true rfl⟩ ?_
  refine sp_X6_count hMR ?_
  change GW _ _ _ 904 _ [.int _, .int _] _ _ 76 1400
  refine g_icmpeq 909 hX dL_law_904 (by decide) (fun _ => ?_) (fun e => absurd rfl e)
  exact hq _ _ ⟨hA, P, T, w, s, past, kept, tx, sz, hCR, hMR⟩
