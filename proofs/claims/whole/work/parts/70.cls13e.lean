set_option maxHeartbeats 4000000 in
set_option maxRecDepth 100000 in
theorem fr_X5_pass_20 {Γ : Ga} {d : Nat} {κ : Kp} {Q : Option Value → Kp → Ip → Prop} {X : Cx} {I : Ip} {m : Nat} {c P T : Nat} {w s : Nat → Int32} {pl kept : List (Nat → Int32)} {tx : Nat → Int32} {sz : Nat} (hM : Mx Γ (d + 5) mX5_pass Q X) (hCR : CR κ c I P T w s pl kept tx sz) (hm : m ≤ 60) (hq : ∀ J : Ip, CR κ c J P T w (itF w T m s) pl kept tx sz → COut c I J → Q (some (.int (itF w T m s 17))) κ J) : GW Γ mX5_pass X 20 [(0, .ref (c)), (1, .int (nI m))] [] κ (I) 0 0 := by
  have hX := hM.std
  have hR := hM.room
  obtain ⟨hC, hTR, hw, hP1, hSR, hs, hpa, hpl, hke, hkl, htx⟩ := id hCR
  obtain ⟨hw0, hw1, hP, hT, -⟩ := id hw
  obtain ⟨cz, ckd, g0, g1, g2, g3, g4, g5, -⟩ := id hC
  have hk0 : κ.1 c = (5, 0) := ckd 0 (by decide)
  have hTx := hC.txo
  obtain ⟨hSt, e34⟩ := hC.now
  obtain ⟨hA, e56⟩ := hC.ahd
  have hS7 := hC.sh7
  have hS25 := hC.sh25
  have hPa := hC.pa
  have hTwL := hC.tw6
  have hSpL := hC.tw7
  have hTw := hTwL.1
  have k1 := hTx.1
  have k3 := hSt.1
  have k5 := hA.1
  have k7 := hS7.1
  have k25 := hS25.1
  have k31 := hPa.1
  have k6 := hTw.1
  have ks := hSpL.1.1
  have z6 := hTw.2.1
  have zs := hSpL.1.2.1
  have htt := hC.two
  rw [← e34] at hSR
  obtain ⟨r0, r1, r2, r3, r4, r5, r6, r7, r8⟩ := id hTR
  have htl := htt.lo
  refine g_aload_n hX dX5_pass_20 rfl rfl ?_
  refine g_getR hX dX5_pass_21 flX5_19 (by assumption) rfl (by first | assumption | rfl) (by first | assumption | exact Nat.succ_ne_zero _) ?_
  refine g_aload_n hX dX5_pass_24 rfl rfl ?_
  refine g_getR hX dX5_pass_25 flX5_48 (by assumption) rfl (by first | assumption | rfl) (by first | assumption | exact Nat.succ_ne_zero _) ?_
  refine g_iload_n hX dX5_pass_28 rfl rfl ?_
  refine g_callV (md' := mX2_goOn) (ci := 2) (As := [.ref _, .int _]) hX hR dX5_pass_29 clX5_188 okX2_goOn rfl (by assumption) rfl rfl (Nat.le_of_ble_eq_true rfl) (Nat.le_of_ble_eq_true rfl) ⟨Nat.le_of_ble_eq_true rfl, Nat.le_of_ble_eq_true rfl⟩ ?_
  refine sp_X2_goOn hSt hTw (Sep_of (c := c) hTwL (by omega) (by omega)) hTR hw hs hSR hm (fun K' f' hSR2 => ?_)
  obtain ⟨z1, z2⟩ := hCR.nowS (K := K') (f := f') (wfs_it hw hs m) hSR2
  change GW _ _ _ 32 _ [] _ _ 0 0
  refine g_aload_n hX dX5_pass_32 rfl rfl ?_
  refine g_getR hX dX5_pass_33 flX5_19 (by assumption) rfl (by first | assumption | rfl) (by first | assumption | exact Nat.succ_ne_zero _) ?_
  refine g_getI hX dX5_pass_36 flX5_192 (by assumption) rfl ?_
  refine g_iret hM dX5_pass_39 rfl (rfl) ⟨Nat.le_of_ble_eq_true rfl, Nat.le_of_ble_eq_true rfl⟩ ?_
  rw [sst_st, hSR2.2.2.2.2.1]
  exact hq _ z1 z2
