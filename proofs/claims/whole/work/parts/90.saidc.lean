set_option maxHeartbeats 4000000 in
set_option maxRecDepth 100000 in
theorem sp_X5_said {Γ : Ga} {d : Nat} {κ : Kp} {I : Ip} {Q : Option Value → Kp → Ip → Prop} {c P T : Nat} {w s : Nat → Int32} {past kept : List (Nat → Int32)} {tx : Nat → Int32} {sz : Nat} {x y z v : Int32} (hCR : CR κ c I P T w s past kept tx sz)  (hq : Q (some (.int (saidA w s P T x y z v))) κ I) : Sp Γ (d + 3) mX5_said [.ref (c), .int (x), .int (y), .int (z), .int (v)] κ I Q := by
  obtain ⟨hC, hTR, hw, hP1, hSR, hs, hpa, hpl, hke, hkl, htx⟩ := id hCR
  obtain ⟨hw0, hw1, hP, hT, -⟩ := id hw
  obtain ⟨cz, ckd, g0, g1, g2, g3, g4, g5, -⟩ := id hC
  have hk0 : κ.1 c = (5, 0) := ckd 0 (by decide)
  have hTx := hC.txo
  obtain ⟨hSt, e34⟩ := hC.now
  obtain ⟨hA, e56⟩ := hC.ahd
  have hS7 := hC.sh7
  have hS25 := hC.sh25
  have hPa := hC.pa
  have hTwL := hC.tw6
  have hSpL := hC.tw7
  have hTw := hTwL.1
  have k1 := hTx.1
  have k3 := hSt.1
  have k5 := hA.1
  have k7 := hS7.1
  have k25 := hS25.1
  have k31 := hPa.1
  have k6 := hTw.1
  have ks := hSpL.1.1
  have z6 := hTw.2.1
  have zs := hSpL.1.2.1
  have htt := hC.two
  rw [← e34] at hSR
  obtain ⟨r0, r1, r2, r3, r4, r5, r6, r7, r8⟩ := id hTR
  intro X hM
  have hX := hM.std
  have hR := hM.room
  show GW _ mX5_said X 0 [(0, .ref (c)), (1, .int (x)), (2, .int (y)), (3, .int (z)), (4, .int (v))] [] _ _ 0 0
  refine g_aload_n hX dX5_said_0 rfl rfl ?_
  refine g_iload_n hX dX5_said_1 rfl rfl ?_
  refine g_iload_n hX dX5_said_2 rfl rfl ?_
  refine g_callV (md' := mX5_areTwo) (ci := 5) (As := [.int _, .int _]) hX hR dX5_said_3 clX5_158 okX5_areTwo rfl (by assumption) rfl rfl (Nat.le_of_ble_eq_true rfl) (Nat.le_of_ble_eq_true rfl) ⟨Nat.le_of_ble_eq_true rfl, Nat.le_of_ble_eq_true rfl⟩ ?_
  refine sp_X5_areTwo hCR ?_
  change GW _ _ _ 6 _ [.int _] _ _ 0 0
  refine g_ifeq 30 hX dX5_said_6 (by decide) (fun c6 => ?_) (fun c6 => ?_)
  · rw [b2i_0, decide_eq_false_iff_not] at c6
    refine g_iconst (v := (-1)) hX dX5_said_30 (by decide) ?_
    refine g_iret hM dX5_said_31 rfl (rfl) ⟨Nat.le_of_ble_eq_true rfl, Nat.le_of_ble_eq_true rfl⟩ ?_
    refine q_int ?_ hq
    rw [saidA, if_neg (fun e => c6 e.1)]
  · rw [b2i_n0, decide_eq_true_eq] at c6
    refine g_iload_n hX dX5_said_9 rfl rfl ?_
    refine g_iconst (v := nI 0) hX dX5_said_10 (by decide) ?_
    refine g_sipush (v := nI 180) hX dX5_said_11 (by decide) ?_
    refine g_callS (md' := mX5_isWithin) (As := [.int _, .int _, .int _]) hX hR dX5_said_14 clX5_81 okX5_isWithin rfl rfl (Nat.le_of_ble_eq_true rfl) (Nat.le_of_ble_eq_true rfl) ⟨Nat.le_of_ble_eq_true rfl, Nat.le_of_ble_eq_true rfl⟩ ?_
    refine sp_X5_isWithin (lo := 0) (hi := 180) (by decide) (by decide) ?_
    change GW _ _ _ 17 _ [.int _] _ _ 0 0
    refine g_ifeq 30 hX dX5_said_17 (by decide) (fun c17 => ?_) (fun c17 => ?_)
    · rw [b2i_0, decide_eq_false_iff_not] at c17
      refine g_iconst (v := (-1)) hX dX5_said_30 (by decide) ?_
      refine g_iret hM dX5_said_31 rfl (rfl) ⟨Nat.le_of_ble_eq_true rfl, Nat.le_of_ble_eq_true rfl⟩ ?_
      refine q_int ?_ hq
      rw [saidA, if_neg (fun e => c17 e.2.1)]
    · rw [b2i_n0, decide_eq_true_eq] at c17
      refine g_iload hX dX5_said_20 rfl ?_
      refine g_iconst (v := nI 0) hX dX5_said_22 (by decide) ?_
      refine g_iconst (v := nI 1) hX dX5_said_23 (by decide) ?_
      refine g_callS (md' := mX5_isWithin) (As := [.int _, .int _, .int _]) hX hR dX5_said_24 clX5_81 okX5_isWithin rfl rfl (Nat.le_of_ble_eq_true rfl) (Nat.le_of_ble_eq_true rfl) ⟨Nat.le_of_ble_eq_true rfl, Nat.le_of_ble_eq_true rfl⟩ ?_
      refine sp_X5_isWithin (lo := 0) (hi := 1) (by decide) (by decide) ?_
      change GW _ _ _ 27 _ [.int _] _ _ 0 0
      refine g_ifne 32 hX dX5_said_27 (by decide) (fun c27 => ?_) (fun c27 => ?_)
      · rw [b2i_n0, decide_eq_true_eq] at c27
        obtain ⟨j, hj1, hj2, rfl⟩ := inR_of c17
        obtain ⟨i1, hi1, rfl⟩ := inN_of c6.1
        obtain ⟨i2, hi2, rfl⟩ := inN_of c6.2.1
        refine g_aload_n hX dX5_said_32 rfl rfl ?_
        refine g_getR hX dX5_said_33 flX5_19 (by assumption) rfl (by first | assumption | rfl) (by first | assumption | exact Nat.succ_ne_zero _) ?_
        refine g_aload_n hX dX5_said_36 rfl rfl ?_
        refine g_getR hX dX5_said_37 flX5_48 (by assumption) rfl (by first | assumption | rfl) (by first | assumption | exact Nat.succ_ne_zero _) ?_
        refine g_iload_n hX dX5_said_40 rfl rfl ?_
        refine g_iload_n hX dX5_said_41 rfl rfl ?_
        refine g_callV (md' := mX2_mayTell) (ci := 2) (As := [.ref _, .int _, .int _]) hX hR dX5_said_42 clX5_173 okX2_mayTell rfl (by assumption) rfl rfl (Nat.le_of_ble_eq_true rfl) (Nat.le_of_ble_eq_true rfl) ⟨Nat.le_of_ble_eq_true rfl, Nat.le_of_ble_eq_true rfl⟩ ?_
        refine sp_X2_mayTell hSt hTw ?_
        rw [mt_tell0 hTR hw hSR (by omega) (by omega), tell0]
        change GW _ _ _ 45 _ [.int _] _ _ 0 0
        refine g_istore (lv' := [(5, .int _), (0, .ref _), (1, .int _), (2, .int _), (3, .int _), (4, .int _)]) hX dX5_said_45 (by decide) rfl ?_
        refine g_iconst (v := nI 0) hX dX5_said_47 (by decide) ?_
        refine g_istore (lv' := [(6, .int _), (5, .int _), (0, .ref _), (1, .int _), (2, .int _), (3, .int _), (4, .int _)]) hX dX5_said_48 (by decide) rfl ?_
        refine g_bipush (v := (-4)) hX dX5_said_50 (by decide) ?_
        refine g_istore (lv' := [(7, .int _), (6, .int _), (5, .int _), (0, .ref _), (1, .int _), (2, .int _), (3, .int _), (4, .int _)]) hX dX5_said_52 (by decide) rfl ?_
        refine g_iconst (v := nI 0) hX dX5_said_54 (by decide) ?_
        refine g_istore (lv' := [(8, .int _), (7, .int _), (6, .int _), (5, .int _), (0, .ref _), (1, .int _), (2, .int _), (3, .int _), (4, .int _)]) hX dX5_said_55 (by decide) rfl ?_
        refine g_pick [0, 1, 2, 3, 4, 5, 6, 7, 8] rfl (lp_X5_said_57 hM hCR (q_int ?_ hq) 512 0 rfl (by decide))
        rw [saidA, if_pos ⟨c6, c17, c27⟩, nI_clamp (by omega), said_512 hT]
      · rw [b2i_0, decide_eq_false_iff_not] at c27
        refine g_iconst (v := (-1)) hX dX5_said_30 (by decide) ?_
        refine g_iret hM dX5_said_31 rfl (rfl) ⟨Nat.le_of_ble_eq_true rfl, Nat.le_of_ble_eq_true rfl⟩ ?_
        refine q_int ?_ hq
        rw [saidA, if_neg (fun e => c27 e.2.2)]
