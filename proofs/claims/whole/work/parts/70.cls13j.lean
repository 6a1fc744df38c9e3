set_option maxHeartbeats 4000000 in
set_option maxRecDepth 100000 in
theorem fr_X5_keep_24 {Γ : Ga} {d : Nat} {κ : Kp} {Q : Option Value → Kp → Ip → Prop} {X : Cx} {I : Ip} {c P T : Nat} {w s : Nat → Int32} {past kept : List (Nat → Int32)} {tx : Nat → Int32} {sz : Nat} (hM : Mx Γ (d + 3) mX5_keep Q X) (hCR : CR κ c I P T w s past kept tx sz) (hq : Q (some (.int (nI kept.length))) κ I) : GW Γ mX5_keep X 24 [(0, .ref (c))] [] κ (I) 0 0 := by
  have hX := hM.std
  have hR := hM.room
  obtain ⟨hC, hTR, hw, hP1, hSR, hs, hpa, hpl, hke, hkl, htx⟩ := id hCR
  obtain ⟨hw0, hw1, hP, hT, -⟩ := id hw
  obtain ⟨cz, ckd, g0, g1, g2, g3, g4, g5, -⟩ := id hC
  have hk0 : κ.1 c = (5, 0) := ckd 0 (by decide)
  have hTx := hC.txo
  obtain ⟨hSt, e34⟩ := hC.now
  obtain ⟨hA, e56⟩ := hC.ahd
  have hS7 := hC.sh7
  have hS25 := hC.sh25
  have hPa := hC.pa
  have hTwL := hC.tw6
  have hSpL := hC.tw7
  have hTw := hTwL.1
  have k1 := hTx.1
  have k3 := hSt.1
  have k5 := hA.1
  have k7 := hS7.1
  have k25 := hS25.1
  have k31 := hPa.1
  have k6 := hTw.1
  have ks := hSpL.1.1
  have z6 := hTw.2.1
  have zs := hSpL.1.2.1
  have htt := hC.two
  rw [← e34] at hSR
  obtain ⟨r0, r1, r2, r3, r4, r5, r6, r7, r8⟩ := id hTR
  refine g_aload_n hX dX5_keep_24 rfl rfl ?_
  refine g_getR hX dX5_keep_25 flX5_35 (by assumption) rfl (by first | assumption | rfl) (by first | assumption | exact Nat.succ_ne_zero _) ?_
  refine g_callV (md' := mX1_size) (ci := 1) (As := []) hX hR dX5_keep_28 clX5_211 okX1_size rfl (by assumption) rfl rfl (Nat.le_of_ble_eq_true rfl) (Nat.le_of_ble_eq_true rfl) ⟨Nat.le_of_ble_eq_true rfl, Nat.le_of_ble_eq_true rfl⟩ ?_
  refine sp_X1_size hS25 ?_
  rw [hke.1]
  change GW _ _ _ 31 _ [.int _] _ _ 0 0
  refine g_iret hM dX5_keep_31 rfl (rfl) ⟨Nat.le_of_ble_eq_true rfl, Nat.le_of_ble_eq_true rfl⟩ ?_
  exact hq
