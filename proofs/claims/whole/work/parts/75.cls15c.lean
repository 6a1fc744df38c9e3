set_option maxHeartbeats 4000000 in
set_option maxRecDepth 100000 in
theorem sp_X5_cost {Γ : Ga} {d : Nat} {κ : Kp} {I : Ip} {Q : Option Value → Kp → Ip → Prop} {c P T : Nat} {w s : Nat → Int32} {past kept : List (Nat → Int32)} {tx : Nat → Int32} {sz : Nat} {x y : Int32} (hCR : CR κ c I P T w s past kept tx sz)  (hq : ∀ (κ' : Kp) (J : Ip), KF c κ κ' → CR κ' c J (P) (T) (w) (s) (past) (kept) (tx) (sz) → COut c I J → Q (some (.int (costA w s P T x y))) κ' J) : Sp Γ (d + 7) mX5_cost [.ref (c), .int (x), .int (y)] κ I Q := by
  obtain ⟨hC, hTR, hw, hP1, hSR, hs, hpa, hpl, hke, hkl, htx⟩ := id hCR
  obtain ⟨hw0, hw1, hP, hT, -⟩ := id hw
  obtain ⟨cz, ckd, g0, g1, g2, g3, g4, g5, -⟩ := id hC
  have hk0 : κ.1 c = (5, 0) := ckd 0 (by decide)
  have hTx := hC.txo
  obtain ⟨hSt, e34⟩ := hC.now
  obtain ⟨hA, e56⟩ := hC.ahd
  have hS7 := hC.sh7
  have hS25 := hC.sh25
  have hPa := hC.pa
  have hTwL := hC.tw6
  have hSpL := hC.tw7
  have hTw := hTwL.1
  have k1 := hTx.1
  have k3 := hSt.1
  have k5 := hA.1
  have k7 := hS7.1
  have k25 := hS25.1
  have k31 := hPa.1
  have k6 := hTw.1
  have ks := hSpL.1.1
  have z6 := hTw.2.1
  have zs := hSpL.1.2.1
  have htt := hC.two
  rw [← e34] at hSR
  obtain ⟨r0, r1, r2, r3, r4, r5, r6, r7, r8⟩ := id hTR
  intro X hM
  have hX := hM.std
  have hR := hM.room
  show GW _ mX5_cost X 0 [(0, .ref (c)), (1, .int (x)), (2, .int (y))] [] _ _ 0 0
  refine g_iload_n hX dX5_cost_0 rfl rfl ?_
  refine g_callS (md' := mX5_isSpan) (As := [.int _]) hX hR dX5_cost_1 clX5_185 okX5_isSpan rfl rfl (Nat.le_of_ble_eq_true rfl) (Nat.le_of_ble_eq_true rfl) ⟨Nat.le_of_ble_eq_true rfl, Nat.le_of_ble_eq_true rfl⟩ ?_
  refine sp_X5_isSpan ?_
  change GW _ _ _ 4 _ [.int _] _ _ 0 0
  refine g_ifeq 16 hX dX5_cost_4 (by decide) (fun c4 => ?_) (fun c4 => ?_)
  · rw [b2i_0, decide_eq_false_iff_not] at c4
    refine g_iconst (v := (-1)) hX dX5_cost_16 (by decide) ?_
    refine g_iret hM dX5_cost_17 rfl (rfl) ⟨Nat.le_of_ble_eq_true rfl, Nat.le_of_ble_eq_true rfl⟩ ?_
    refine q_int ?_ (hq κ I KF.rf hCR COut.rf)
    unfold costA
    rw [if_neg (fun e => c4 e.1)]
  · rw [b2i_n0, decide_eq_true_eq] at c4
    obtain ⟨mn, hmn1, hmn, rfl⟩ := inR_of c4
    refine g_iload_n hX dX5_cost_7 rfl rfl ?_
    refine g_iconst (v := nI 0) hX dX5_cost_8 (by decide) ?_
    refine g_iconst (v := nI 1) hX dX5_cost_9 (by decide) ?_
    refine g_callS (md' := mX5_isWithin) (As := [.int _, .int _, .int _]) hX hR dX5_cost_10 clX5_81 okX5_isWithin rfl rfl (Nat.le_of_ble_eq_true rfl) (Nat.le_of_ble_eq_true rfl) ⟨Nat.le_of_ble_eq_true rfl, Nat.le_of_ble_eq_true rfl⟩ ?_
    refine sp_X5_isWithin (lo := 0) (hi := 1) (by decide) (by decide) ?_
    change GW _ _ _ 13 _ [.int _] _ _ 0 0
    refine g_ifne 18 hX dX5_cost_13 (by decide) (fun c13 => ?_) (fun c13 => ?_)
    · rw [b2i_n0, decide_eq_true_eq] at c13
      refine g_iconst (v := (-1)) hX dX5_cost_18 (by decide) ?_
      refine g_istore_n (lv' := [(3, .int _), (0, .ref _), (1, .int _), (2, .int _)]) hX dX5_cost_19 rfl (by decide) rfl ?_
      refine g_iconst (v := nI 0) hX dX5_cost_20 (by decide) ?_
      refine g_istore (lv' := [(4, .int _), (3, .int _), (0, .ref _), (1, .int _), (2, .int _)]) hX dX5_cost_21 (by decide) rfl ?_
      refine g_iconst (v := nI 0) hX dX5_cost_23 (by decide) ?_
      refine g_istore (lv' := [(5, .int _), (4, .int _), (3, .int _), (0, .ref _), (1, .int _), (2, .int _)]) hX dX5_cost_24 (by decide) rfl ?_
      refine g_pick [0, 1, 2, 3, 4, 5] rfl (lp_X5_cost_26 (I := I) hM hCR hmn (fun J2 hF2 => ?_) T 0 I (-1) (nI 0) (Nat.sub_zero T).symm (Nat.zero_le _) CFr.rf (Or.inl ⟨rfl, rfl⟩))
      obtain ⟨z1, z2⟩ := hCR.fr hF2
      refine q_int ?_ (hq κ _ KF.rf z1 z2)
      unfold costA
      rw [if_pos ⟨c4, c13⟩, nI_clamp (by omega)]
    · rw [b2i_0, decide_eq_false_iff_not] at c13
      refine g_iconst (v := (-1)) hX dX5_cost_16 (by decide) ?_
      refine g_iret hM dX5_cost_17 rfl (rfl) ⟨Nat.le_of_ble_eq_true rfl, Nat.le_of_ble_eq_true rfl⟩ ?_
      refine q_int ?_ (hq κ I KF.rf hCR COut.rf)
      unfold costA
      rw [if_neg (fun e => c13 e.2)]
