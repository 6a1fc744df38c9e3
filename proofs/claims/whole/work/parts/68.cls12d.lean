set_option maxHeartbeats 4000000 in
set_option maxRecDepth 100000 in
theorem sp_X5_fault {Γ : Ga} {d : Nat} {κ : Kp} {I : Ip} {Q : Option Value → Kp → Ip → Prop} {c P T : Nat} {w s : Nat → Int32} {past kept : List (Nat → Int32)} {tx : Nat → Int32} {sz : Nat}  (hCR : CR κ c I P T w s past kept tx sz)  (hq : ∀ (κ' : Kp) (J : Ip), KF c κ κ' → CR κ' c J (P) (T) (w) (s) (past) (kept) (tx) (sz) → COut c I J → Q (some (.int (faultA tx sz))) κ' J) : Sp Γ (d + 6) mX5_fault [.ref (c)] κ I Q := by
  obtain ⟨hC, hTR, hw, hP1, hSR, hs, hpa, hpl, hke, hkl, htx⟩ := id hCR
  obtain ⟨hw0, hw1, hP, hT, -⟩ := id hw
  obtain ⟨cz, ckd, g0, g1, g2, g3, g4, g5, -⟩ := id hC
  have hk0 : κ.1 c = (5, 0) := ckd 0 (by decide)
  have hTx := hC.txo
  obtain ⟨hSt, e34⟩ := hC.now
  obtain ⟨hA, e56⟩ := hC.ahd
  have hS7 := hC.sh7
  have hS25 := hC.sh25
  have hPa := hC.pa
  have hTwL := hC.tw6
  have hSpL := hC.tw7
  have hTw := hTwL.1
  have k1 := hTx.1
  have k3 := hSt.1
  have k5 := hA.1
  have k7 := hS7.1
  have k25 := hS25.1
  have k31 := hPa.1
  have k6 := hTw.1
  have ks := hSpL.1.1
  have z6 := hTw.2.1
  have zs := hSpL.1.2.1
  have htt := hC.two
  rw [← e34] at hSR
  obtain ⟨r0, r1, r2, r3, r4, r5, r6, r7, r8⟩ := id hTR
  intro X hM
  have hX := hM.std
  have hR := hM.room
  show GW _ mX5_fault X 0 [(0, .ref (c))] [] _ _ 0 0
  refine g_aload_n hX dX5_fault_0 rfl rfl ?_
  refine g_getR hX dX5_fault_1 flX5_10 (by assumption) rfl (by first | assumption | rfl) (by first | assumption | exact Nat.succ_ne_zero _) ?_
  refine g_aload_n hX dX5_fault_4 rfl rfl ?_
  refine g_getR hX dX5_fault_5 flX5_52 (by assumption) rfl (by first | assumption | rfl) (by first | assumption | exact Nat.succ_ne_zero _) ?_
  refine g_callV (md' := mX3_readInto) (ci := 3) (As := [.ref _]) hX hR dX5_fault_8 clX5_71 okX3_readInto rfl (by assumption) rfl rfl (Nat.le_of_ble_eq_true rfl) (Nat.le_of_ble_eq_true rfl) ⟨Nat.le_of_ble_eq_true rfl, Nat.le_of_ble_eq_true rfl⟩ ?_
  refine sp_X3_readInto hTx hSpL htx (fun J hF hn => ?_)
  change GW _ _ _ 11 _ [.int (fltA (flt0 tx sz).1)] _ _ 0 0
  change GW _ _ _ 11 _ [.int _] _ _ 0 0
  refine g_istore_n (lv' := [(1, .int _), (0, .ref _)]) hX dX5_fault_11 rfl (by decide) rfl ?_
  refine g_iload_n hX dX5_fault_12 rfl rfl ?_
  refine g_iconst (v := (-1)) hX dX5_fault_13 (by decide) ?_
  refine g_icmpne 22 hX dX5_fault_14 (by decide) (fun c14 => ?_) (fun c14 => ?_)
  · rw [flt_m1 htx.2.1] at c14
    refine g_iload_n hX dX5_fault_22 rfl rfl ?_
    refine g_iret hM dX5_fault_23 rfl (rfl) ⟨Nat.le_of_ble_eq_true rfl, Nat.le_of_ble_eq_true rfl⟩ ?_
    obtain ⟨z1, z2⟩ := hCR.fr (rd_cfr hSpL hF)
    exact q_int (faultA_yes c14) (hq κ _ KF.rf z1 z2)
  · rw [flt_m1 htx.2.1] at c14
    refine g_bipush (v := (-4)) hX dX5_fault_17 (by decide) ?_
    refine g_goto 23 hX dX5_fault_19 (by decide) ?_
    refine g_iret hM dX5_fault_23 rfl (rfl) ⟨Nat.le_of_ble_eq_true rfl, Nat.le_of_ble_eq_true rfl⟩ ?_
    obtain ⟨z1, z2⟩ := hCR.fr (rd_cfr hSpL hF)
    exact q_int (faultA_no c14) (hq κ _ KF.rf z1 z2)
