set_option maxHeartbeats 4000000 in
set_option maxRecDepth 100000 in
theorem fr_X5_stand_24 {Γ : Ga} {d : Nat} {κ : Kp} {Q : Option Value → Kp → Ip → Prop} {X : Cx} {I : Ip} {c P T : Nat} {w s : Nat → Int32} {pl kept : List (Nat → Int32)} {tx : Nat → Int32} {sz : Nat} (hM : Mx Γ (d + 3) mX5_stand Q X) (hCR : CR κ c I P T w s pl kept tx sz) (hq : ∀ J : Ip, CR κ c J P T w (standF s) pl kept tx sz → COut c I J → Q (some (.int (nI (pcI (s 15))))) κ J) : GW Γ mX5_stand X 24 [(0, .ref (c))] [] κ (I) 0 0 := by
  have hX := hM.std
  have hR := hM.room
  obtain ⟨hC, hTR, hw, hP1, hSR, hs, hpa, hpl, hke, hkl, htx⟩ := id hCR
  obtain ⟨hw0, hw1, hP, hT, -⟩ := id hw
  obtain ⟨cz, ckd, g0, g1, g2, g3, g4, g5, -⟩ := id hC
  have hk0 : κ.1 c = (5, 0) := ckd 0 (by decide)
  have hTx := hC.txo
  obtain ⟨hSt, e34⟩ := hC.now
  obtain ⟨hA, e56⟩ := hC.ahd
  have hS7 := hC.sh7
  have hS25 := hC.sh25
  have hPa := hC.pa
  have hTwL := hC.tw6
  have hSpL := hC.tw7
  have hTw := hTwL.1
  have k1 := hTx.1
  have k3 := hSt.1
  have k5 := hA.1
  have k7 := hS7.1
  have k25 := hS25.1
  have k31 := hPa.1
  have k6 := hTw.1
  have ks := hSpL.1.1
  have z6 := hTw.2.1
  have zs := hSpL.1.2.1
  have htt := hC.two
  rw [← e34] at hSR
  obtain ⟨r0, r1, r2, r3, r4, r5, r6, r7, r8⟩ := id hTR
  refine g_aload_n hX dX5_stand_24 rfl rfl ?_
  refine g_getR hX dX5_stand_25 flX5_19 (by assumption) rfl (by first | assumption | rfl) (by first | assumption | exact Nat.succ_ne_zero _) ?_
  refine g_getI hX dX5_stand_28 flX5_155 (by assumption) rfl ?_
  refine g_callS (md' := mJ6_bitCount_0f7a4) (As := [.int _]) hX hR dX5_stand_31 clX5_177 okJ6_bitCount_0f7a4 rfl rfl (Nat.le_of_ble_eq_true rfl) (Nat.le_of_ble_eq_true rfl) ⟨Nat.le_of_ble_eq_true rfl, Nat.le_of_ble_eq_true rfl⟩ ?_
  rw [hSR.2.2.1]
  obtain ⟨kk, hkk, ekk⟩ := small_nI (N := 9) (by decide) (fun i hi => Nat.lt_of_lt_of_le (hs.2.2.1 i hi) hT)
  rw [ekk] at hq ⊢
  refine sp_J6_bitCount_0f7a4 hkk ?_
  rw [← pcI_nI hkk]
  change GW _ _ _ 34 _ [.int _] _ _ 0 0
  refine g_istore_n (lv' := [(1, .int _), (0, .ref _)]) hX dX5_stand_34 rfl (by decide) rfl ?_
  refine g_aload_n hX dX5_stand_35 rfl rfl ?_
  refine g_getR hX dX5_stand_36 flX5_19 (by assumption) rfl (by first | assumption | rfl) (by first | assumption | exact Nat.succ_ne_zero _) ?_
  refine g_callV (md' := mX2_standUp) (ci := 2) (As := []) hX hR dX5_stand_39 clX5_182 okX2_standUp rfl (by assumption) rfl rfl (Nat.le_of_ble_eq_true rfl) (Nat.le_of_ble_eq_true rfl) ⟨Nat.le_of_ble_eq_true rfl, Nat.le_of_ble_eq_true rfl⟩ ?_
  refine sp_X2_standUp hSt ?_
  rw [sst_f (κ := κ) (st := c + 3)]
  obtain ⟨z1, z2⟩ := hCR.nowS (K := I (κ.2.1 (c + 3) 0)) (f := stdV (I (c + 3))) (wfs_stand hT hs) (hSR.std hT)
  change GW _ _ _ 42 _ [] _ _ 0 0
  refine g_iload_n hX dX5_stand_42 rfl rfl ?_
  refine g_iret hM dX5_stand_43 rfl (rfl) ⟨Nat.le_of_ble_eq_true rfl, Nat.le_of_ble_eq_true rfl⟩ ?_
  exact hq _ z1 z2
