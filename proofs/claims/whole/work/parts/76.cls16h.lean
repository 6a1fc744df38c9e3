set_option maxHeartbeats 4000000 in
set_option maxRecDepth 100000 in
theorem sp_X5_leave {Γ : Ga} {d : Nat} {κ : Kp} {I : Ip} {Q : Option Value → Kp → Ip → Prop} {c P T : Nat} {w s : Nat → Int32} {past kept : List (Nat → Int32)} {tx : Nat → Int32} {sz : Nat} {x : Int32} (hCR : CR κ c I P T w s past kept tx sz)  (hq : ∀ (κ' : Kp) (J : Ip), KF c κ κ' → CR κ' c J (P) (T) (w) (s) (past) (kept) (tx) (sz) → COut c I J → Q (some (.int (leaveA w s P T x))) κ' J) : Sp Γ (d + 7) mX5_leave [.ref (c), .int (x)] κ I Q := by
  obtain ⟨hC, hTR, hw, hP1, hSR, hs, hpa, hpl, hke, hkl, htx⟩ := id hCR
  obtain ⟨hw0, hw1, hP, hT, -⟩ := id hw
  obtain ⟨cz, ckd, g0, g1, g2, g3, g4, g5, -⟩ := id hC
  have hk0 : κ.1 c = (5, 0) := ckd 0 (by decide)
  have hTx := hC.txo
  obtain ⟨hSt, e34⟩ := hC.now
  obtain ⟨hA, e56⟩ := hC.ahd
  have hS7 := hC.sh7
  have hS25 := hC.sh25
  have hPa := hC.pa
  have hTwL := hC.tw6
  have hSpL := hC.tw7
  have hTw := hTwL.1
  have k1 := hTx.1
  have k3 := hSt.1
  have k5 := hA.1
  have k7 := hS7.1
  have k25 := hS25.1
  have k31 := hPa.1
  have k6 := hTw.1
  have ks := hSpL.1.1
  have z6 := hTw.2.1
  have zs := hSpL.1.2.1
  have htt := hC.two
  rw [← e34] at hSR
  obtain ⟨r0, r1, r2, r3, r4, r5, r6, r7, r8⟩ := id hTR
  intro X hM
  have hX := hM.std
  have hR := hM.room
  show GW _ mX5_leave X 0 [(0, .ref (c)), (1, .int (x))] [] _ _ 0 0
  refine g_iload_n hX dX5_leave_0 rfl rfl ?_
  refine g_callS (md' := mX5_isSpan) (As := [.int _]) hX hR dX5_leave_1 clX5_185 okX5_isSpan rfl rfl (Nat.le_of_ble_eq_true rfl) (Nat.le_of_ble_eq_true rfl) ⟨Nat.le_of_ble_eq_true rfl, Nat.le_of_ble_eq_true rfl⟩ ?_
  refine sp_X5_isSpan ?_
  change GW _ _ _ 4 _ [.int _] _ _ 0 0
  refine g_ifne 9 hX dX5_leave_4 (by decide) (fun c4 => ?_) (fun c4 => ?_)
  · rw [b2i_n0, decide_eq_true_eq] at c4
    obtain ⟨mn, hmn1, hmn, rfl⟩ := inR_of c4
    refine g_aload_n hX dX5_leave_9 rfl rfl ?_
    refine g_iload_n hX dX5_leave_10 rfl rfl ?_
    refine g_callV (md' := mX5_pairAll) (ci := 5) (As := [.int _]) hX hR dX5_leave_11 clX5_235 okX5_pairAll rfl (by assumption) rfl rfl (Nat.le_of_ble_eq_true rfl) (Nat.le_of_ble_eq_true rfl) ⟨Nat.le_of_ble_eq_true rfl, Nat.le_of_ble_eq_true rfl⟩ ?_
    refine sp_X5_pairAll hCR hmn (fun J hF hB hD hm => ?_)
    obtain ⟨z1, z2⟩ := hCR.fr hF
    obtain ⟨t1, t2⟩ := two_all2 hw hs hmn
    have r0J : J (κ.2.1 c 6) 0 = nI P := z1.2.1.1
    change GW _ _ _ 14 _ [] _ _ 0 0
    refine g_iconst (v := nI 0) hX dX5_leave_14 (by decide) ?_
    refine g_istore_n (lv' := [(2, .int _), (0, .ref _), (1, .int _)]) hX dX5_leave_15 rfl (by decide) rfl ?_
    refine g_pick [0, 1] rfl (lp_X5_leave_16 hM z1 hmn hB (fun p hp => by rw [hm p hp, t2 p hp]) (fun v hvv => ?_) P 0 (Nat.sub_zero P).symm (Nat.zero_le _) rfl)
    refine q_int ?_ (hq κ J KF.rf z1 z2)
    unfold leaveA
    rw [if_pos c4, nI_clamp (by omega)]
    split at hvv
    · next e => rw [e]; exact hvv.symm
    · next e => rw [e]; exact hvv.symm
  · rw [b2i_0, decide_eq_false_iff_not] at c4
    refine g_iconst (v := (-1)) hX dX5_leave_7 (by decide) ?_
    refine g_iret hM dX5_leave_8 rfl (rfl) ⟨Nat.le_of_ble_eq_true rfl, Nat.le_of_ble_eq_true rfl⟩ ?_
    refine q_int ?_ (hq κ I KF.rf hCR COut.rf)
    unfold leaveA
    rw [if_neg c4]
