set_option maxHeartbeats 4000000 in
set_option maxRecDepth 100000 in
theorem sp_X5_brings {Γ : Ga} {d : Nat} {κ : Kp} {I : Ip} {Q : Option Value → Kp → Ip → Prop} {c P T : Nat} {w s : Nat → Int32} {past kept : List (Nat → Int32)} {tx : Nat → Int32} {sz : Nat} {x y z : Int32} (hCR : CR κ c I P T w s past kept tx sz)  (hq : ∀ (κ' : Kp) (J : Ip), KF c κ κ' → CR κ' c J (P) (T) (w) (s) (past) (kept) (tx) (sz) → COut c I J → Q (some (.int (bringsA w s P T x y z))) κ' J) : Sp Γ (d + 6) mX5_brings [.ref (c), .int (x), .int (y), .int (z)] κ I Q := by
  obtain ⟨hC, hTR, hw, hP1, hSR, hs, hpa, hpl, hke, hkl, htx⟩ := id hCR
  obtain ⟨hw0, hw1, hP, hT, -⟩ := id hw
  obtain ⟨cz, ckd, g0, g1, g2, g3, g4, g5, -⟩ := id hC
  have hk0 : κ.1 c = (5, 0) := ckd 0 (by decide)
  have hTx := hC.txo
  obtain ⟨hSt, e34⟩ := hC.now
  obtain ⟨hA, e56⟩ := hC.ahd
  have hS7 := hC.sh7
  have hS25 := hC.sh25
  have hPa := hC.pa
  have hTwL := hC.tw6
  have hSpL := hC.tw7
  have hTw := hTwL.1
  have k1 := hTx.1
  have k3 := hSt.1
  have k5 := hA.1
  have k7 := hS7.1
  have k25 := hS25.1
  have k31 := hPa.1
  have k6 := hTw.1
  have ks := hSpL.1.1
  have z6 := hTw.2.1
  have zs := hSpL.1.2.1
  have htt := hC.two
  rw [← e34] at hSR
  obtain ⟨r0, r1, r2, r3, r4, r5, r6, r7, r8⟩ := id hTR
  intro X hM
  have hX := hM.std
  have hR := hM.room
  show GW _ mX5_brings X 0 [(0, .ref (c)), (1, .int (x)), (2, .int (y)), (3, .int (z))] [] _ _ 0 0
  refine g_aload_n hX dX5_brings_0 rfl rfl ?_
  refine g_iload_n hX dX5_brings_1 rfl rfl ?_
  refine g_iload_n hX dX5_brings_2 rfl rfl ?_
  refine g_callV (md' := mX5_areTwo) (ci := 5) (As := [.int _, .int _]) hX hR dX5_brings_3 clX5_158 okX5_areTwo rfl (by assumption) rfl rfl (Nat.le_of_ble_eq_true rfl) (Nat.le_of_ble_eq_true rfl) ⟨Nat.le_of_ble_eq_true rfl, Nat.le_of_ble_eq_true rfl⟩ ?_
  refine sp_X5_areTwo hCR ?_
  change GW _ _ _ 6 _ [.int _] _ _ 0 0
  refine g_ifeq 16 hX dX5_brings_6 (by decide) (fun c6 => ?_) (fun c6 => ?_)
  · rw [b2i_0, decide_eq_false_iff_not] at c6
    refine g_iconst (v := (-1)) hX dX5_brings_16 (by decide) ?_
    refine g_iret hM dX5_brings_17 rfl (rfl) ⟨Nat.le_of_ble_eq_true rfl, Nat.le_of_ble_eq_true rfl⟩ ?_
    refine q_int ?_ (hq κ I KF.rf hCR COut.rf)
    unfold bringsA
    rw [if_neg (fun e => c6 e.1)]
  · rw [b2i_n0, decide_eq_true_eq] at c6
    obtain ⟨i, hi, rfl⟩ := inN_of c6.1
    obtain ⟨j, hj, rfl⟩ := inN_of c6.2.1
    refine g_iload_n hX dX5_brings_9 rfl rfl ?_
    refine g_callS (md' := mX5_isSpan) (As := [.int _]) hX hR dX5_brings_10 clX5_185 okX5_isSpan rfl rfl (Nat.le_of_ble_eq_true rfl) (Nat.le_of_ble_eq_true rfl) ⟨Nat.le_of_ble_eq_true rfl, Nat.le_of_ble_eq_true rfl⟩ ?_
    refine sp_X5_isSpan ?_
    change GW _ _ _ 13 _ [.int _] _ _ 0 0
    refine g_ifne 18 hX dX5_brings_13 (by decide) (fun c13 => ?_) (fun c13 => ?_)
    · rw [b2i_n0, decide_eq_true_eq] at c13
      obtain ⟨mn, hmn1, hmn, rfl⟩ := inR_of c13
      refine g_aload_n hX dX5_brings_18 rfl rfl ?_
      refine g_iload_n hX dX5_brings_19 rfl rfl ?_
      refine g_iload_n hX dX5_brings_20 rfl rfl ?_
      refine g_iload_n hX dX5_brings_21 rfl rfl ?_
      refine g_aload_n hX dX5_brings_22 rfl rfl ?_
      refine g_getR hX dX5_brings_23 flX5_19 (by assumption) rfl (by first | assumption | rfl) (by first | assumption | exact Nat.succ_ne_zero _) ?_
      refine g_getI hX dX5_brings_26 flX5_198 (by assumption) rfl ?_
      refine g_callV (md' := mX5_wouldBring) (ci := 5) (As := [.int _, .int _, .int _, .int _]) hX hR dX5_brings_29 clX5_219 okX5_wouldBring rfl (by assumption) rfl rfl (Nat.le_of_ble_eq_true rfl) (Nat.le_of_ble_eq_true rfl) ⟨Nat.le_of_ble_eq_true rfl, Nat.le_of_ble_eq_true rfl⟩ ?_
      rw [hSR.2.1]
      refine sp_X5_wouldBring hCR hi hj hmn hs.2.1 (fun J2 hF2 => ?_)
      change GW _ _ _ 32 _ [.int _] _ _ 0 0
      refine g_iret hM dX5_brings_32 rfl (rfl) ⟨Nat.le_of_ble_eq_true rfl, Nat.le_of_ble_eq_true rfl⟩ ?_
      obtain ⟨z1, z2⟩ := hCR.fr hF2
      refine q_int ?_ (hq κ _ KF.rf z1 z2)
      unfold bringsA wbF
      rw [if_pos ⟨c6, c13⟩, nI_clamp (by omega), nI_clamp (by omega), nI_clamp (by omega)]
    · rw [b2i_0, decide_eq_false_iff_not] at c13
      refine g_iconst (v := (-1)) hX dX5_brings_16 (by decide) ?_
      refine g_iret hM dX5_brings_17 rfl (rfl) ⟨Nat.le_of_ble_eq_true rfl, Nat.le_of_ble_eq_true rfl⟩ ?_
      refine q_int ?_ (hq κ I KF.rf hCR COut.rf)
      unfold bringsA
      rw [if_neg (fun e => c13 e.2)]
