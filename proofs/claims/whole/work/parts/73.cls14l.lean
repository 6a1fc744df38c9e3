set_option maxHeartbeats 4000000 in
set_option maxRecDepth 100000 in
theorem sp_X5_best {Γ : Ga} {d : Nat} {κ : Kp} {I : Ip} {Q : Option Value → Kp → Ip → Prop} {c P T : Nat} {w s : Nat → Int32} {past kept : List (Nat → Int32)} {tx : Nat → Int32} {sz : Nat} {x y : Int32} (hCR : CR κ c I P T w s past kept tx sz)  (hq : ∀ (κ' : Kp) (J : Ip), KF c κ κ' → CR κ' c J (P) (T) (w) (s) (past) (kept) (tx) (sz) → COut c I J → Q (some (.int (bestA w s P T x y))) κ' J) : Sp Γ (d + 7) mX5_best [.ref (c), .int (x), .int (y)] κ I Q := by
  obtain ⟨hC, hTR, hw, hP1, hSR, hs, hpa, hpl, hke, hkl, htx⟩ := id hCR
  obtain ⟨hw0, hw1, hP, hT, -⟩ := id hw
  obtain ⟨cz, ckd, g0, g1, g2, g3, g4, g5, -⟩ := id hC
  have hk0 : κ.1 c = (5, 0) := ckd 0 (by decide)
  have hTx := hC.txo
  obtain ⟨hSt, e34⟩ := hC.now
  obtain ⟨hA, e56⟩ := hC.ahd
  have hS7 := hC.sh7
  have hS25 := hC.sh25
  have hPa := hC.pa
  have hTwL := hC.tw6
  have hSpL := hC.tw7
  have hTw := hTwL.1
  have k1 := hTx.1
  have k3 := hSt.1
  have k5 := hA.1
  have k7 := hS7.1
  have k25 := hS25.1
  have k31 := hPa.1
  have k6 := hTw.1
  have ks := hSpL.1.1
  have z6 := hTw.2.1
  have zs := hSpL.1.2.1
  have htt := hC.two
  rw [← e34] at hSR
  obtain ⟨r0, r1, r2, r3, r4, r5, r6, r7, r8⟩ := id hTR
  intro X hM
  have hX := hM.std
  have hR := hM.room
  show GW _ mX5_best X 0 [(0, .ref (c)), (1, .int (x)), (2, .int (y))] [] _ _ 0 0
  refine g_iload_n hX dX5_best_0 rfl rfl ?_
  refine g_callS (md' := mX5_isSpan) (As := [.int _]) hX hR dX5_best_1 clX5_185 okX5_isSpan rfl rfl (Nat.le_of_ble_eq_true rfl) (Nat.le_of_ble_eq_true rfl) ⟨Nat.le_of_ble_eq_true rfl, Nat.le_of_ble_eq_true rfl⟩ ?_
  refine sp_X5_isSpan ?_
  change GW _ _ _ 4 _ [.int _] _ _ 0 0
  refine g_ifeq 16 hX dX5_best_4 (by decide) (fun c4 => ?_) (fun c4 => ?_)
  · rw [b2i_0, decide_eq_false_iff_not] at c4
    refine g_iconst (v := (-1)) hX dX5_best_16 (by decide) ?_
    refine g_iret hM dX5_best_17 rfl (rfl) ⟨Nat.le_of_ble_eq_true rfl, Nat.le_of_ble_eq_true rfl⟩ ?_
    refine q_int ?_ (hq κ I KF.rf hCR COut.rf)
    unfold bestA
    rw [if_neg (fun e => c4 e.1)]
  · rw [b2i_n0, decide_eq_true_eq] at c4
    obtain ⟨mn, hmn1, hmn, rfl⟩ := inR_of c4
    refine g_iload_n hX dX5_best_7 rfl rfl ?_
    refine g_iconst (v := nI 0) hX dX5_best_8 (by decide) ?_
    refine g_iconst (v := nI 1) hX dX5_best_9 (by decide) ?_
    refine g_callS (md' := mX5_isWithin) (As := [.int _, .int _, .int _]) hX hR dX5_best_10 clX5_81 okX5_isWithin rfl rfl (Nat.le_of_ble_eq_true rfl) (Nat.le_of_ble_eq_true rfl) ⟨Nat.le_of_ble_eq_true rfl, Nat.le_of_ble_eq_true rfl⟩ ?_
    refine sp_X5_isWithin (lo := 0) (hi := 1) (by decide) (by decide) ?_
    change GW _ _ _ 13 _ [.int _] _ _ 0 0
    refine g_ifne 18 hX dX5_best_13 (by decide) (fun c13 => ?_) (fun c13 => ?_)
    · rw [b2i_n0, decide_eq_true_eq] at c13
      refine g_aload_n hX dX5_best_18 rfl rfl ?_
      refine g_iload_n hX dX5_best_19 rfl rfl ?_
      refine g_aload_n hX dX5_best_20 rfl rfl ?_
      refine g_getR hX dX5_best_21 flX5_19 (by assumption) rfl (by first | assumption | rfl) (by first | assumption | exact Nat.succ_ne_zero _) ?_
      refine g_getI hX dX5_best_24 flX5_198 (by assumption) rfl ?_
      refine g_callV (md' := mX5_bestButter) (ci := 5) (As := [.int _, .int _]) hX hR dX5_best_27 clX5_223 okX5_bestButter rfl (by assumption) rfl rfl (Nat.le_of_ble_eq_true rfl) (Nat.le_of_ble_eq_true rfl) ⟨Nat.le_of_ble_eq_true rfl, Nat.le_of_ble_eq_true rfl⟩ ?_
      rw [hSR.2.1]
      refine sp_X5_bestButter hCR hmn hs.2.1 (fun J2 hF2 => ?_)
      obtain ⟨k, hk, ek, eb⟩ := best_fw hw hs hmn
      rw [ek]
      change GW _ _ _ 30 _ [.int _] _ _ 0 0
      refine g_istore_n (lv' := [(3, .int _), (0, .ref _), (1, .int _), (2, .int _)]) hX dX5_best_30 rfl (by decide) rfl ?_
      refine g_aload_n hX dX5_best_31 rfl rfl ?_
      refine g_iload_n hX dX5_best_32 rfl rfl ?_
      refine g_iload_n hX dX5_best_33 rfl rfl ?_
      refine g_callV (md' := mX5_firstWho) (ci := 5) (As := [.int _, .int _]) hX hR dX5_best_34 clX5_227 okX5_firstWho rfl (by assumption) rfl rfl (Nat.le_of_ble_eq_true rfl) (Nat.le_of_ble_eq_true rfl) ⟨Nat.le_of_ble_eq_true rfl, Nat.le_of_ble_eq_true rfl⟩ ?_
      refine sp_X5_firstWho (hCR.fr hF2).1 hmn (fun J3 hF3 => ?_)
      change GW _ _ _ 37 _ [.int _] _ _ 0 0
      refine g_istore (lv' := [(4, .int _), (3, .int _), (0, .ref _), (1, .int _), (2, .int _)]) hX dX5_best_37 (by decide) rfl ?_
      refine g_iload_n hX dX5_best_39 rfl rfl ?_
      refine g_ifeq 50 hX dX5_best_40 (by decide) (fun c40 => ?_) (fun c40 => ?_)
      · refine g_iload hX dX5_best_50 rfl ?_
        refine g_goto 56 hX dX5_best_52 (by decide) ?_
        refine g_iret hM dX5_best_56 rfl (rfl) ⟨Nat.le_of_ble_eq_true rfl, Nat.le_of_ble_eq_true rfl⟩ ?_
        obtain ⟨z1, z2⟩ := hCR.fr (hF2.tr hF3)
        refine q_int ?_ (hq κ _ KF.rf z1 z2)
        unfold bestA
        rw [if_pos ⟨c4, c13⟩, nI_clamp (by omega), if_pos c40]
        rcases eb with ⟨e1, e2⟩ | ⟨e1, e2⟩
        · rw [e1, e2]
        · rw [e1]
      · refine g_iload hX dX5_best_43 rfl ?_
        refine g_bipush (v := (-4)) hX dX5_best_45 (by decide) ?_
        refine g_icmpne 55 hX dX5_best_47 (by decide) (fun c47 => ?_) (fun c47 => ?_)
        · refine g_iload_n hX dX5_best_55 rfl rfl ?_
          refine g_iret hM dX5_best_56 rfl (rfl) ⟨Nat.le_of_ble_eq_true rfl, Nat.le_of_ble_eq_true rfl⟩ ?_
          obtain ⟨z1, z2⟩ := hCR.fr (hF2.tr hF3)
          refine q_int ?_ (hq κ _ KF.rf z1 z2)
          unfold bestA
          rw [if_pos ⟨c4, c13⟩, nI_clamp (by omega), if_neg c40]
          rcases eb with ⟨e1, e2⟩ | ⟨e1, e2⟩
          · exact absurd e2 c47
          · rw [e1]
        · refine g_iload hX dX5_best_50 rfl ?_
          refine g_goto 56 hX dX5_best_52 (by decide) ?_
          refine g_iret hM dX5_best_56 rfl (rfl) ⟨Nat.le_of_ble_eq_true rfl, Nat.le_of_ble_eq_true rfl⟩ ?_
          obtain ⟨z1, z2⟩ := hCR.fr (hF2.tr hF3)
          refine q_int ?_ (hq κ _ KF.rf z1 z2)
          unfold bestA
          rw [if_pos ⟨c4, c13⟩, nI_clamp (by omega), if_neg c40]
          rcases eb with ⟨e1, e2⟩ | ⟨e1, e2⟩
          · rw [e1, e2]
          · exact absurd c47 e2
    · rw [b2i_0, decide_eq_false_iff_not] at c13
      refine g_iconst (v := (-1)) hX dX5_best_16 (by decide) ?_
      refine g_iret hM dX5_best_17 rfl (rfl) ⟨Nat.le_of_ble_eq_true rfl, Nat.le_of_ble_eq_true rfl⟩ ?_
      refine q_int ?_ (hq κ I KF.rf hCR COut.rf)
      unfold bestA
      rw [if_neg (fun e => c13 e.2)]
