set_option maxHeartbeats 4000000 in
set_option maxRecDepth 100000 in
theorem sp_X5_pass {Γ : Ga} {d : Nat} {κ : Kp} {I : Ip} {Q : Option Value → Kp → Ip → Prop} {c P T : Nat} {w s : Nat → Int32} {past kept : List (Nat → Int32)} {tx : Nat → Int32} {sz : Nat} {x : Int32} (hCR : CR κ c I P T w s past kept tx sz)  (hq : ∀ (κ' : Kp) (J : Ip), KF c κ κ' → CR κ' c J (P) (T) (w) ((passA w s T past x).2.1) ((passA w s T past x).2.2) (kept) (tx) (sz) → COut c I J → Q (some (.int ((passA w s T past x).1))) κ' J) : Sp Γ (d + 5) mX5_pass [.ref (c), .int (x)] κ I Q := by
  obtain ⟨hC, hTR, hw, hP1, hSR, hs, hpa, hpl, hke, hkl, htx⟩ := id hCR
  obtain ⟨hw0, hw1, hP, hT, -⟩ := id hw
  obtain ⟨cz, ckd, g0, g1, g2, g3, g4, g5, -⟩ := id hC
  have hk0 : κ.1 c = (5, 0) := ckd 0 (by decide)
  have hTx := hC.txo
  obtain ⟨hSt, e34⟩ := hC.now
  obtain ⟨hA, e56⟩ := hC.ahd
  have hS7 := hC.sh7
  have hS25 := hC.sh25
  have hPa := hC.pa
  have hTwL := hC.tw6
  have hSpL := hC.tw7
  have hTw := hTwL.1
  have k1 := hTx.1
  have k3 := hSt.1
  have k5 := hA.1
  have k7 := hS7.1
  have k25 := hS25.1
  have k31 := hPa.1
  have k6 := hTw.1
  have ks := hSpL.1.1
  have z6 := hTw.2.1
  have zs := hSpL.1.2.1
  have htt := hC.two
  rw [← e34] at hSR
  obtain ⟨r0, r1, r2, r3, r4, r5, r6, r7, r8⟩ := id hTR
  intro X hM
  have hX := hM.std
  have hR := hM.room
  show GW _ mX5_pass X 0 [(0, .ref (c)), (1, .int (x))] [] _ _ 0 0
  refine g_iload_n hX dX5_pass_0 rfl rfl ?_
  refine g_callS (md' := mX5_isSpan) (As := [.int _]) hX hR dX5_pass_1 clX5_185 okX5_isSpan rfl rfl (Nat.le_of_ble_eq_true rfl) (Nat.le_of_ble_eq_true rfl) ⟨Nat.le_of_ble_eq_true rfl, Nat.le_of_ble_eq_true rfl⟩ ?_
  refine sp_X5_isSpan ?_
  change GW _ _ _ 4 _ [.int _] _ _ 0 0
  refine g_ifne 9 hX dX5_pass_4 (by decide) (fun c4 => ?_) (fun c4 => ?_)
  · rw [b2i_n0, decide_eq_true_eq] at c4
    obtain ⟨m, hm1, hm2, rfl⟩ := inR_of c4
    refine g_aload_n hX dX5_pass_9 rfl rfl ?_
    refine g_getR hX dX5_pass_10 flX5_31 (by assumption) rfl (by first | assumption | rfl) (by first | assumption | exact Nat.succ_ne_zero _) ?_
    refine g_aload_n hX dX5_pass_13 rfl rfl ?_
    refine g_getR hX dX5_pass_14 flX5_19 (by assumption) rfl (by first | assumption | rfl) (by first | assumption | exact Nat.succ_ne_zero _) ?_
    refine g_callV (md' := mX1_push) (ci := 1) (As := [.ref _]) hX hR dX5_pass_17 clX5_165 okX1_push rfl (by assumption) rfl rfl (Nat.le_of_ble_eq_true rfl) (Nat.le_of_ble_eq_true rfl) ⟨Nat.le_of_ble_eq_true rfl, Nat.le_of_ble_eq_true rfl⟩ ?_
    refine sp_X1_push hS7 (by decide) hpa hC.bes7 hs (by rw [e34] at hSR; exact hSR) hpl (by decide) (fun g J p1 p2 p3 => ?_)
    obtain ⟨z1, z2, z3⟩ := hCR.push p1 p2 (pushN_len hpl (by decide)) p3
    change GW _ _ _ 20 _ [] _ _ 0 0
    have e : passA w s T past (nI m) = (itF w T m s 17, itF w T m s, pushL past s) := by
      unfold passA
      rw [if_pos c4, nI_clamp (by omega)]
    rw [e] at hq
    exact g_pick [0, 1] rfl (fr_X5_pass_20 hM z1 hm2 (fun J2 y1 y2 => hq _ J2 z3 y1 (z2.tr y2)))
  · rw [b2i_0, decide_eq_false_iff_not] at c4
    refine g_iconst (v := (-1)) hX dX5_pass_7 (by decide) ?_
    refine g_iret hM dX5_pass_8 rfl (rfl) ⟨Nat.le_of_ble_eq_true rfl, Nat.le_of_ble_eq_true rfl⟩ ?_
    have e : passA w s T past x = (-1, s, past) := if_neg c4
    rw [e] at hq
    exact hq κ I KF.rf hCR COut.rf
