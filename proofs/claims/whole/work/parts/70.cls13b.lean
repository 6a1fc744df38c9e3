set_option maxHeartbeats 4000000 in
set_option maxRecDepth 100000 in
theorem sp_X5_sit {Γ : Ga} {d : Nat} {κ : Kp} {I : Ip} {Q : Option Value → Kp → Ip → Prop} {c P T : Nat} {w s : Nat → Int32} {past kept : List (Nat → Int32)} {tx : Nat → Int32} {sz : Nat} {x y : Int32} (hCR : CR κ c I P T w s past kept tx sz)  (hq : ∀ (κ' : Kp) (J : Ip), KF c κ κ' → CR κ' c J (P) (T) (w) ((sitA w s P T past x y).2.1) ((sitA w s P T past x y).2.2) (kept) (tx) (sz) → COut c I J → Q (some (.int ((sitA w s P T past x y).1))) κ' J) : Sp Γ (d + 3) mX5_sit [.ref (c), .int (x), .int (y)] κ I Q := by
  obtain ⟨hC, hTR, hw, hP1, hSR, hs, hpa, hpl, hke, hkl, htx⟩ := id hCR
  obtain ⟨hw0, hw1, hP, hT, -⟩ := id hw
  obtain ⟨cz, ckd, g0, g1, g2, g3, g4, g5, -⟩ := id hC
  have hk0 : κ.1 c = (5, 0) := ckd 0 (by decide)
  have hTx := hC.txo
  obtain ⟨hSt, e34⟩ := hC.now
  obtain ⟨hA, e56⟩ := hC.ahd
  have hS7 := hC.sh7
  have hS25 := hC.sh25
  have hPa := hC.pa
  have hTwL := hC.tw6
  have hSpL := hC.tw7
  have hTw := hTwL.1
  have k1 := hTx.1
  have k3 := hSt.1
  have k5 := hA.1
  have k7 := hS7.1
  have k25 := hS25.1
  have k31 := hPa.1
  have k6 := hTw.1
  have ks := hSpL.1.1
  have z6 := hTw.2.1
  have zs := hSpL.1.2.1
  have htt := hC.two
  rw [← e34] at hSR
  obtain ⟨r0, r1, r2, r3, r4, r5, r6, r7, r8⟩ := id hTR
  intro X hM
  have hX := hM.std
  have hR := hM.room
  show GW _ mX5_sit X 0 [(0, .ref (c)), (1, .int (x)), (2, .int (y))] [] _ _ 0 0
  refine g_aload_n hX dX5_sit_0 rfl rfl ?_
  refine g_iload_n hX dX5_sit_1 rfl rfl ?_
  refine g_iload_n hX dX5_sit_2 rfl rfl ?_
  refine g_callV (md' := mX5_areTwo) (ci := 5) (As := [.int _, .int _]) hX hR dX5_sit_3 clX5_158 okX5_areTwo rfl (by assumption) rfl rfl (Nat.le_of_ble_eq_true rfl) (Nat.le_of_ble_eq_true rfl) ⟨Nat.le_of_ble_eq_true rfl, Nat.le_of_ble_eq_true rfl⟩ ?_
  refine sp_X5_areTwo hCR ?_
  change GW _ _ _ 6 _ [.int _] _ _ 0 0
  refine g_ifne 11 hX dX5_sit_6 (by decide) (fun c6 => ?_) (fun c6 => ?_)
  · rw [b2i_n0, decide_eq_true_eq] at c6
    obtain ⟨i, hi, rfl⟩ := inN_of c6.1
    obtain ⟨j, hj, rfl⟩ := inN_of c6.2.1
    have hij : i ≠ j := fun e => c6.2.2 (by rw [e])
    refine g_aload_n hX dX5_sit_11 rfl rfl ?_
    refine g_getR hX dX5_sit_12 flX5_19 (by assumption) rfl (by first | assumption | rfl) (by first | assumption | exact Nat.succ_ne_zero _) ?_
    refine g_callV (md' := mX2_anyoneSits) (ci := 2) (As := []) hX hR dX5_sit_15 clX5_133 okX2_anyoneSits rfl (by assumption) rfl rfl (Nat.le_of_ble_eq_true rfl) (Nat.le_of_ble_eq_true rfl) ⟨Nat.le_of_ble_eq_true rfl, Nat.le_of_ble_eq_true rfl⟩ ?_
    refine sp_X2_anyoneSits hSt ?_
    change GW _ _ _ 18 _ [.int _] _ _ 0 0
    refine g_ifne 33 hX dX5_sit_18 (by decide) (fun c18 => ?_) (fun c18 => ?_)
    · rw [b2i_n0, decide_eq_true_eq, hSR.sits hw hs] at c18
      refine g_bipush (v := (-2)) hX dX5_sit_33 (by decide) ?_
      refine g_iret hM dX5_sit_35 rfl (rfl) ⟨Nat.le_of_ble_eq_true rfl, Nat.le_of_ble_eq_true rfl⟩ ?_
      have e : sitA w s P T past (nI i) (nI j) = (-2, s, past) := (if_pos c6).trans (if_neg (fun e => c18 e.1))
      rw [e] at hq
      exact hq κ I KF.rf hCR COut.rf
    · rw [b2i_0, decide_eq_false_iff_not, Decidable.not_not, hSR.sits hw hs] at c18
      refine g_aload_n hX dX5_sit_21 rfl rfl ?_
      refine g_getR hX dX5_sit_22 flX5_48 (by assumption) rfl (by first | assumption | rfl) (by first | assumption | exact Nat.succ_ne_zero _) ?_
      refine g_iload_n hX dX5_sit_25 rfl rfl ?_
      refine g_iload_n hX dX5_sit_26 rfl rfl ?_
      refine g_callV (md' := mX4_areFriends) (ci := 4) (As := [.int _, .int _]) hX hR dX5_sit_27 clX5_162 okX4_areFriends rfl (by assumption) rfl rfl (Nat.le_of_ble_eq_true rfl) (Nat.le_of_ble_eq_true rfl) ⟨Nat.le_of_ble_eq_true rfl, Nat.le_of_ble_eq_true rfl⟩ ?_
      refine sp_X4_areFriends hTw hTR hP hi hj ?_
      change GW _ _ _ 30 _ [.int _] _ _ 0 0
      refine g_ifne 36 hX dX5_sit_30 (by decide) (fun c30 => ?_) (fun c30 => ?_)
      · rw [b2i_n0] at c30
        refine g_aload_n hX dX5_sit_36 rfl rfl ?_
        refine g_getR hX dX5_sit_37 flX5_31 (by assumption) rfl (by first | assumption | rfl) (by first | assumption | exact Nat.succ_ne_zero _) ?_
        refine g_aload_n hX dX5_sit_40 rfl rfl ?_
        refine g_getR hX dX5_sit_41 flX5_19 (by assumption) rfl (by first | assumption | rfl) (by first | assumption | exact Nat.succ_ne_zero _) ?_
        refine g_callV (md' := mX1_push) (ci := 1) (As := [.ref _]) hX hR dX5_sit_44 clX5_165 okX1_push rfl (by assumption) rfl rfl (Nat.le_of_ble_eq_true rfl) (Nat.le_of_ble_eq_true rfl) ⟨Nat.le_of_ble_eq_true rfl, Nat.le_of_ble_eq_true rfl⟩ ?_
        refine sp_X1_push hS7 (by decide) hpa hC.bes7 hs (by rw [e34] at hSR; exact hSR) hpl (by decide) (fun g J p1 p2 p3 => ?_)
        obtain ⟨z1, z2, z3⟩ := hCR.push p1 p2 (pushN_len hpl (by decide)) p3
        change GW _ _ _ 47 _ [] _ _ 0 0
        have e : sitA w s P T past (nI i) (nI j) = (tellF w s T i (nI j) (nI 0), sitF s (nI i) (nI j), pushL past s) := by
          unfold sitA
          rw [if_pos c6, nI_clamp (by omega), nI_clamp (by omega), if_pos ⟨c18, c30⟩]
        rw [e] at hq
        exact g_pick [0, 1, 2] rfl (fr_X5_sit_47 hM z1 hi hj hij (fun J2 y1 y2 => hq _ J2 z3 y1 (z2.tr y2)))
      · rw [b2i_0] at c30
        refine g_bipush (v := (-2)) hX dX5_sit_33 (by decide) ?_
        refine g_iret hM dX5_sit_35 rfl (rfl) ⟨Nat.le_of_ble_eq_true rfl, Nat.le_of_ble_eq_true rfl⟩ ?_
        have e : sitA w s P T past (nI i) (nI j) = (-2, s, past) := (if_pos c6).trans (if_neg (fun e => by have h := e.2; rw [nI_clamp (by omega), nI_clamp (by omega), c30] at h; cases h))
        rw [e] at hq
        exact hq κ I KF.rf hCR COut.rf
  · rw [b2i_0, decide_eq_false_iff_not] at c6
    refine g_iconst (v := (-1)) hX dX5_sit_9 (by decide) ?_
    refine g_iret hM dX5_sit_10 rfl (rfl) ⟨Nat.le_of_ble_eq_true rfl, Nat.le_of_ble_eq_true rfl⟩ ?_
    have e : sitA w s P T past x y = (-1, s, past) := if_neg c6
    rw [e] at hq
    exact hq κ I KF.rf hCR COut.rf
