set_option maxHeartbeats 4000000 in
set_option maxRecDepth 100000 in
theorem fr_X5_init_145 {Γ : Ga} {d : Nat} {κ : Kp} {Q : Option Value → Kp → Ip → Prop} {X : Cx} {I : Ip} {c P T : Nat} {w s : Nat → Int32} {past kept : List (Nat → Int32)} {tx : Nat → Int32} {sz : Nat} (hM : Mx Γ (d + 6) mX5_init Q X) (hCR : CR κ c I P T w s past kept tx sz) (hq : ∀ J : Ip, CR κ c J P T w s past kept tx 0 → COut c I J → Q none κ J) : GW Γ mX5_init X 145 [(0, .ref (c))] [] κ (I) 63 805 := by
  have hX := hM.std
  have hR := hM.room
  obtain ⟨hC, hTR, hw, hP1, hSR, hs, hpa, hpl, hke, hkl, htx⟩ := id hCR
  obtain ⟨hw0, hw1, hP, hT, -⟩ := id hw
  obtain ⟨cz, ckd, g0, g1, g2, g3, g4, g5, -⟩ := id hC
  have hk0 : κ.1 c = (5, 0) := ckd 0 (by decide)
  have hTx := hC.txo
  obtain ⟨hSt, e34⟩ := hC.now
  obtain ⟨hA, e56⟩ := hC.ahd
  have hS7 := hC.sh7
  have hS25 := hC.sh25
  have hPa := hC.pa
  have hTwL := hC.tw6
  have hSpL := hC.tw7
  have hTw := hTwL.1
  have k1 := hTx.1
  have k3 := hSt.1
  have k5 := hA.1
  have k7 := hS7.1
  have k25 := hS25.1
  have k31 := hPa.1
  have k6 := hTw.1
  have ks := hSpL.1.1
  have z6 := hTw.2.1
  have zs := hSpL.1.2.1
  have htt := hC.two
  rw [← e34] at hSR
  obtain ⟨r0, r1, r2, r3, r4, r5, r6, r7, r8⟩ := id hTR
  refine g_aload_n hX dX5_init_145 rfl rfl ?_
  refine g_getR hX dX5_init_146 flX5_10 (by assumption) rfl (by first | assumption | rfl) (by first | assumption | exact Nat.succ_ne_zero _) ?_
  refine g_callV (md' := mX3_empty) (ci := 3) (As := []) hX hR dX5_init_149 clX5_78 okX3_empty rfl (by assumption) rfl rfl (Nat.le_of_ble_eq_true rfl) (Nat.le_of_ble_eq_true rfl) ⟨Nat.le_of_ble_eq_true rfl, Nat.le_of_ble_eq_true rfl⟩ ?_
  refine sp_X3_empty hTx ?_
  change GW _ _ _ 152 _ [] _ _ _ _
  refine g_vret hM dX5_init_152 rfl ⟨Nat.le_of_ble_eq_true rfl, Nat.le_of_ble_eq_true rfl⟩ ?_
  have hz := hCR.txtS (f := I (c + 2)) (v := va_up (I (c + 1)) 1 (nI 0)) (t2 := tx) (z2 := 0) (up_same _ _ _) (by omega) (fun k hk => by omega) (fun k hk => by omega)
  rw [up_self] at hz
  exact hq _ hz.1 hz.2
