set_option maxHeartbeats 4000000 in
set_option maxRecDepth 100000 in
theorem sp_X5_who {Γ : Ga} {d : Nat} {κ : Kp} {I : Ip} {Q : Option Value → Kp → Ip → Prop} {c P T : Nat} {w s : Nat → Int32} {past kept : List (Nat → Int32)} {tx : Nat → Int32} {sz : Nat} {x y z : Int32} (hCR : CR κ c I P T w s past kept tx sz)  (hq : ∀ (κ' : Kp) (J : Ip), KF c κ κ' → CR κ' c J (P) (T) (w) (s) (past) (kept) (tx) (sz) → COut c I J → Q (some (.int (whoA w s P T x y z))) κ' J) : Sp Γ (d + 7) mX5_who [.ref (c), .int (x), .int (y), .int (z)] κ I Q := by
  obtain ⟨hC, hTR, hw, hP1, hSR, hs, hpa, hpl, hke, hkl, htx⟩ := id hCR
  obtain ⟨hw0, hw1, hP, hT, -⟩ := id hw
  obtain ⟨cz, ckd, g0, g1, g2, g3, g4, g5, -⟩ := id hC
  have hk0 : κ.1 c = (5, 0) := ckd 0 (by decide)
  have hTx := hC.txo
  obtain ⟨hSt, e34⟩ := hC.now
  obtain ⟨hA, e56⟩ := hC.ahd
  have hS7 := hC.sh7
  have hS25 := hC.sh25
  have hPa := hC.pa
  have hTwL := hC.tw6
  have hSpL := hC.tw7
  have hTw := hTwL.1
  have k1 := hTx.1
  have k3 := hSt.1
  have k5 := hA.1
  have k7 := hS7.1
  have k25 := hS25.1
  have k31 := hPa.1
  have k6 := hTw.1
  have ks := hSpL.1.1
  have z6 := hTw.2.1
  have zs := hSpL.1.2.1
  have htt := hC.two
  rw [← e34] at hSR
  obtain ⟨r0, r1, r2, r3, r4, r5, r6, r7, r8⟩ := id hTR
  intro X hM
  have hX := hM.std
  have hR := hM.room
  show GW _ mX5_who X 0 [(0, .ref (c)), (1, .int (x)), (2, .int (y)), (3, .int (z))] [] _ _ 0 0
  refine g_iload_n hX dX5_who_0 rfl rfl ?_
  refine g_callS (md' := mX5_isSpan) (As := [.int _]) hX hR dX5_who_1 clX5_185 okX5_isSpan rfl rfl (Nat.le_of_ble_eq_true rfl) (Nat.le_of_ble_eq_true rfl) ⟨Nat.le_of_ble_eq_true rfl, Nat.le_of_ble_eq_true rfl⟩ ?_
  refine sp_X5_isSpan ?_
  change GW _ _ _ 4 _ [.int _] _ _ 0 0
  refine g_ifeq 27 hX dX5_who_4 (by decide) (fun c4 => ?_) (fun c4 => ?_)
  · rw [b2i_0, decide_eq_false_iff_not] at c4
    refine g_iconst (v := (-1)) hX dX5_who_27 (by decide) ?_
    refine g_iret hM dX5_who_28 rfl (rfl) ⟨Nat.le_of_ble_eq_true rfl, Nat.le_of_ble_eq_true rfl⟩ ?_
    refine q_int ?_ (hq κ I KF.rf hCR COut.rf)
    unfold whoA
    rw [if_neg (fun e => c4 e.1)]
  · rw [b2i_n0, decide_eq_true_eq] at c4
    obtain ⟨mn, hmn1, hmn, rfl⟩ := inR_of c4
    refine g_iload_n hX dX5_who_7 rfl rfl ?_
    refine g_iconst (v := nI 0) hX dX5_who_8 (by decide) ?_
    refine g_sipush (v := nI 999) hX dX5_who_9 (by decide) ?_
    refine g_callS (md' := mX5_isWithin) (As := [.int _, .int _, .int _]) hX hR dX5_who_12 clX5_81 okX5_isWithin rfl rfl (Nat.le_of_ble_eq_true rfl) (Nat.le_of_ble_eq_true rfl) ⟨Nat.le_of_ble_eq_true rfl, Nat.le_of_ble_eq_true rfl⟩ ?_
    refine sp_X5_isWithin (lo := 0) (hi := 999) (by decide) (by decide) ?_
    change GW _ _ _ 15 _ [.int _] _ _ 0 0
    refine g_ifeq 27 hX dX5_who_15 (by decide) (fun c15 => ?_) (fun c15 => ?_)
    · rw [b2i_0, decide_eq_false_iff_not] at c15
      refine g_iconst (v := (-1)) hX dX5_who_27 (by decide) ?_
      refine g_iret hM dX5_who_28 rfl (rfl) ⟨Nat.le_of_ble_eq_true rfl, Nat.le_of_ble_eq_true rfl⟩ ?_
      refine q_int ?_ (hq κ I KF.rf hCR COut.rf)
      unfold whoA
      rw [if_neg (fun e => c15 e.2.1)]
    · rw [b2i_n0, decide_eq_true_eq] at c15
      obtain ⟨yy, hy1, hy2, rfl⟩ := inR_of c15
      refine g_iload_n hX dX5_who_18 rfl rfl ?_
      refine g_iconst (v := nI 0) hX dX5_who_19 (by decide) ?_
      refine g_iconst (v := nI 1) hX dX5_who_20 (by decide) ?_
      refine g_callS (md' := mX5_isWithin) (As := [.int _, .int _, .int _]) hX hR dX5_who_21 clX5_81 okX5_isWithin rfl rfl (Nat.le_of_ble_eq_true rfl) (Nat.le_of_ble_eq_true rfl) ⟨Nat.le_of_ble_eq_true rfl, Nat.le_of_ble_eq_true rfl⟩ ?_
      refine sp_X5_isWithin (lo := 0) (hi := 1) (by decide) (by decide) ?_
      change GW _ _ _ 24 _ [.int _] _ _ 0 0
      refine g_ifne 29 hX dX5_who_24 (by decide) (fun c24 => ?_) (fun c24 => ?_)
      · rw [b2i_n0, decide_eq_true_eq] at c24
        refine g_iload_n hX dX5_who_29 rfl rfl ?_
        refine g_ifne 42 hX dX5_who_30 (by decide) (fun c30 => ?_) (fun c30 => ?_)
        · refine g_aload_n hX dX5_who_42 rfl rfl ?_
          refine g_iload_n hX dX5_who_43 rfl rfl ?_
          refine g_iload_n hX dX5_who_44 rfl rfl ?_
          refine g_callV (md' := mX5_firstWho) (ci := 5) (As := [.int _, .int _]) hX hR dX5_who_45 clX5_227 okX5_firstWho rfl (by assumption) rfl rfl (Nat.le_of_ble_eq_true rfl) (Nat.le_of_ble_eq_true rfl) ⟨Nat.le_of_ble_eq_true rfl, Nat.le_of_ble_eq_true rfl⟩ ?_
          refine sp_X5_firstWho hCR hmn (fun J2 hF2 => ?_)
          change GW _ _ _ 48 _ [.int _] _ _ 0 0
          refine g_iret hM dX5_who_48 rfl (rfl) ⟨Nat.le_of_ble_eq_true rfl, Nat.le_of_ble_eq_true rfl⟩ ?_
          obtain ⟨z1, z2⟩ := hCR.fr hF2
          refine q_int ?_ (hq κ _ KF.rf z1 z2)
          unfold whoA
          rw [if_pos ⟨c4, c15, c24⟩, if_neg c30, nI_clamp (by omega), who_cw (by omega) hP (rowsL P P) (fun p hp => mem_rowsL P hp)]
        · refine g_aload_n hX dX5_who_33 rfl rfl ?_
          refine g_iload_n hX dX5_who_34 rfl rfl ?_
          refine g_iload_n hX dX5_who_35 rfl rfl ?_
          refine g_callV (md' := mX5_howManyWho) (ci := 5) (As := [.int _, .int _]) hX hR dX5_who_36 clX5_266 okX5_howManyWho rfl (by assumption) rfl rfl (Nat.le_of_ble_eq_true rfl) (Nat.le_of_ble_eq_true rfl) ⟨Nat.le_of_ble_eq_true rfl, Nat.le_of_ble_eq_true rfl⟩ ?_
          refine sp_X5_howManyWho hCR hmn (fun J2 hF2 => ?_)
          change GW _ _ _ 39 _ [.int _] _ _ 0 0
          refine g_goto 48 hX dX5_who_39 (by decide) ?_
          refine g_iret hM dX5_who_48 rfl (rfl) ⟨Nat.le_of_ble_eq_true rfl, Nat.le_of_ble_eq_true rfl⟩ ?_
          obtain ⟨z1, z2⟩ := hCR.fr hF2
          refine q_int ?_ (hq κ _ KF.rf z1 z2)
          unfold whoA
          rw [if_pos ⟨c4, c15, c24⟩, if_pos c30, nI_clamp (by omega), who_cw (by omega) hP (rowsL P P) (fun p hp => mem_rowsL P hp)]
      · rw [b2i_0, decide_eq_false_iff_not] at c24
        refine g_iconst (v := (-1)) hX dX5_who_27 (by decide) ?_
        refine g_iret hM dX5_who_28 rfl (rfl) ⟨Nat.le_of_ble_eq_true rfl, Nat.le_of_ble_eq_true rfl⟩ ?_
        refine q_int ?_ (hq κ I KF.rf hCR COut.rf)
        unfold whoA
        rw [if_neg (fun e => c24 e.2.2)]
