set_option maxHeartbeats 4000000 in
set_option maxRecDepth 100000 in
theorem sp_X5_keep {Γ : Ga} {d : Nat} {κ : Kp} {I : Ip} {Q : Option Value → Kp → Ip → Prop} {c P T : Nat} {w s : Nat → Int32} {past kept : List (Nat → Int32)} {tx : Nat → Int32} {sz : Nat}  (hCR : CR κ c I P T w s past kept tx sz)  (hq : ∀ (κ' : Kp) (J : Ip), KF c κ κ' → CR κ' c J (P) (T) (w) (s) (past) ((keepA kept s).2) (tx) (sz) → COut c I J → Q (some (.int ((keepA kept s).1))) κ' J) : Sp Γ (d + 3) mX5_keep [.ref (c)] κ I Q := by
  obtain ⟨hC, hTR, hw, hP1, hSR, hs, hpa, hpl, hke, hkl, htx⟩ := id hCR
  obtain ⟨hw0, hw1, hP, hT, -⟩ := id hw
  obtain ⟨cz, ckd, g0, g1, g2, g3, g4, g5, -⟩ := id hC
  have hk0 : κ.1 c = (5, 0) := ckd 0 (by decide)
  have hTx := hC.txo
  obtain ⟨hSt, e34⟩ := hC.now
  obtain ⟨hA, e56⟩ := hC.ahd
  have hS7 := hC.sh7
  have hS25 := hC.sh25
  have hPa := hC.pa
  have hTwL := hC.tw6
  have hSpL := hC.tw7
  have hTw := hTwL.1
  have k1 := hTx.1
  have k3 := hSt.1
  have k5 := hA.1
  have k7 := hS7.1
  have k25 := hS25.1
  have k31 := hPa.1
  have k6 := hTw.1
  have ks := hSpL.1.1
  have z6 := hTw.2.1
  have zs := hSpL.1.2.1
  have htt := hC.two
  rw [← e34] at hSR
  obtain ⟨r0, r1, r2, r3, r4, r5, r6, r7, r8⟩ := id hTR
  intro X hM
  have hX := hM.std
  have hR := hM.room
  show GW _ mX5_keep X 0 [(0, .ref (c))] [] _ _ 0 0
  refine g_aload_n hX dX5_keep_0 rfl rfl ?_
  refine g_getR hX dX5_keep_1 flX5_35 (by assumption) rfl (by first | assumption | rfl) (by first | assumption | exact Nat.succ_ne_zero _) ?_
  refine g_callV (md' := mX1_isFull) (ci := 1) (As := []) hX hR dX5_keep_4 clX5_297 okX1_isFull rfl (by assumption) rfl rfl (Nat.le_of_ble_eq_true rfl) (Nat.le_of_ble_eq_true rfl) ⟨Nat.le_of_ble_eq_true rfl, Nat.le_of_ble_eq_true rfl⟩ ?_
  refine sp_X1_isFull hS25 (by decide) hke hkl ?_
  change GW _ _ _ 7 _ [.int _] _ _ 0 0
  refine g_ifeq 13 hX dX5_keep_7 (by decide) (fun c7 => ?_) (fun c7 => ?_)
  · rw [b2i_0, decide_eq_false_iff_not] at c7
    refine g_aload_n hX dX5_keep_13 rfl rfl ?_
    refine g_getR hX dX5_keep_14 flX5_35 (by assumption) rfl (by first | assumption | rfl) (by first | assumption | exact Nat.succ_ne_zero _) ?_
    refine g_aload_n hX dX5_keep_17 rfl rfl ?_
    refine g_getR hX dX5_keep_18 flX5_19 (by assumption) rfl (by first | assumption | rfl) (by first | assumption | exact Nat.succ_ne_zero _) ?_
    refine g_callV (md' := mX1_push) (ci := 1) (As := [.ref _]) hX hR dX5_keep_21 clX5_165 okX1_push rfl (by assumption) rfl rfl (Nat.le_of_ble_eq_true rfl) (Nat.le_of_ble_eq_true rfl) ⟨Nat.le_of_ble_eq_true rfl, Nat.le_of_ble_eq_true rfl⟩ ?_
    refine sp_X1_push hS25 (by decide) hke hC.bes25 hs (by rw [e34] at hSR; exact hSR) hkl (by decide) (fun g J p1 p2 p3 => ?_)
    obtain ⟨z1, z2, z3⟩ := hCR.pushK p1 p2 (pushN_len hkl (by decide)) p3
    change GW _ _ _ 24 _ [] _ _ 0 0
    have e : keepA kept s = (nI (kept.length + 1), kept ++ [s]) := if_neg c7
    have e2 : pushN 2 kept s = kept ++ [s] := by unfold pushN; rw [if_neg c7]
    rw [e] at hq
    rw [e2] at z1
    refine g_pick [0] rfl (fr_X5_keep_24 hM z1 ?_)
    rw [List.length_append]
    exact hq _ J z3 z1 z2
  · rw [b2i_n0, decide_eq_true_eq] at c7
    refine g_bipush (v := (-3)) hX dX5_keep_10 (by decide) ?_
    refine g_iret hM dX5_keep_12 rfl (rfl) ⟨Nat.le_of_ble_eq_true rfl, Nat.le_of_ble_eq_true rfl⟩ ?_
    have e : keepA kept s = (-3, kept) := if_pos c7
    rw [e] at hq
    exact hq κ I KF.rf hCR COut.rf
