set_option maxHeartbeats 4000000 in
set_option maxRecDepth 100000 in
theorem sp_X5_comes {Γ : Ga} {d : Nat} {κ : Kp} {I : Ip} {Q : Option Value → Kp → Ip → Prop} {c P T : Nat} {w s : Nat → Int32} {past kept : List (Nat → Int32)} {tx : Nat → Int32} {sz : Nat} {x : Int32} (hCR : CR κ c I P T w s past kept tx sz)  (hq : ∀ (κ' : Kp) (J : Ip), KF c κ κ' → CR κ' c J (P) (T) (w) (s) (past) (kept) (tx) (sz) → COut c I J → Q (some (.int (comesA w s T x))) κ' J) : Sp Γ (d + 5) mX5_comes [.ref (c), .int (x)] κ I Q := by
  obtain ⟨hC, hTR, hw, hP1, hSR, hs, hpa, hpl, hke, hkl, htx⟩ := id hCR
  obtain ⟨hw0, hw1, hP, hT, -⟩ := id hw
  obtain ⟨cz, ckd, g0, g1, g2, g3, g4, g5, -⟩ := id hC
  have hk0 : κ.1 c = (5, 0) := ckd 0 (by decide)
  have hTx := hC.txo
  obtain ⟨hSt, e34⟩ := hC.now
  obtain ⟨hA, e56⟩ := hC.ahd
  have hS7 := hC.sh7
  have hS25 := hC.sh25
  have hPa := hC.pa
  have hTwL := hC.tw6
  have hSpL := hC.tw7
  have hTw := hTwL.1
  have k1 := hTx.1
  have k3 := hSt.1
  have k5 := hA.1
  have k7 := hS7.1
  have k25 := hS25.1
  have k31 := hPa.1
  have k6 := hTw.1
  have ks := hSpL.1.1
  have z6 := hTw.2.1
  have zs := hSpL.1.2.1
  have htt := hC.two
  rw [← e34] at hSR
  obtain ⟨r0, r1, r2, r3, r4, r5, r6, r7, r8⟩ := id hTR
  intro X hM
  have hX := hM.std
  have hR := hM.room
  show GW _ mX5_comes X 0 [(0, .ref (c)), (1, .int (x))] [] _ _ 0 0
  refine g_iload_n hX dX5_comes_0 rfl rfl ?_
  refine g_iconst (v := nI 0) hX dX5_comes_1 (by decide) ?_
  refine g_sipush (v := nI 999) hX dX5_comes_2 (by decide) ?_
  refine g_callS (md' := mX5_isWithin) (As := [.int _, .int _, .int _]) hX hR dX5_comes_5 clX5_81 okX5_isWithin rfl rfl (Nat.le_of_ble_eq_true rfl) (Nat.le_of_ble_eq_true rfl) ⟨Nat.le_of_ble_eq_true rfl, Nat.le_of_ble_eq_true rfl⟩ ?_
  refine sp_X5_isWithin (lo := 0) (hi := 999) (by decide) (by decide) ?_
  change GW _ _ _ 8 _ [.int _] _ _ 0 0
  refine g_ifne 13 hX dX5_comes_8 (by decide) (fun c8 => ?_) (fun c8 => ?_)
  · rw [b2i_n0, decide_eq_true_eq] at c8
    refine g_aload_n hX dX5_comes_13 rfl rfl ?_
    refine g_getR hX dX5_comes_14 flX5_23 (by assumption) rfl (by first | assumption | rfl) (by first | assumption | exact Nat.succ_ne_zero _) ?_
    refine g_aload_n hX dX5_comes_17 rfl rfl ?_
    refine g_getR hX dX5_comes_18 flX5_19 (by assumption) rfl (by first | assumption | rfl) (by first | assumption | exact Nat.succ_ne_zero _) ?_
    refine g_callV (md' := mX2_copyFrom) (ci := 2) (As := [.ref _]) hX hR dX5_comes_21 clX5_212 okX2_copyFrom rfl (by assumption) rfl rfl (Nat.le_of_ble_eq_true rfl) (Nat.le_of_ble_eq_true rfl) ⟨Nat.le_of_ble_eq_true rfl, Nat.le_of_ble_eq_true rfl⟩ ?_
    refine sp_X2_copyFrom hA hSt (show c + 3 ≠ c + 5 by omega) (by rw [e34, e56]; omega) (fun K' f' hK hf => ?_)
    have hSK : SR K' f' (itF w T 0 s) T := hSR.cg hK hf
    change GW _ _ _ 24 _ [] _ _ 0 0
    refine g_iconst (v := nI 0) hX dX5_comes_24 (by decide) ?_
    refine g_istore_n (lv' := [(2, .int _), (0, .ref _), (1, .int _)]) hX dX5_comes_25 rfl (by decide) rfl ?_
    refine g_pick [0, 1, 2] rfl (lp_X5_comes_26 hM hCR (fun J2 hF2 => ?_) 121 0 K' f' rfl (by decide) hSK (fun i hi => absurd hi (Nat.not_lt_zero _)))
    obtain ⟨z1, z2⟩ := hCR.fr hF2
    refine q_int ?_ (hq κ _ KF.rf z1 z2)
    unfold comesA
    rw [if_pos c8]
  · rw [b2i_0, decide_eq_false_iff_not] at c8
    refine g_iconst (v := (-1)) hX dX5_comes_11 (by decide) ?_
    refine g_iret hM dX5_comes_12 rfl (rfl) ⟨Nat.le_of_ble_eq_true rfl, Nat.le_of_ble_eq_true rfl⟩ ?_
    refine q_int ?_ (hq κ I KF.rf hCR COut.rf)
    unfold comesA
    rw [if_neg c8]
