set_option maxHeartbeats 4000000 in
set_option maxRecDepth 100000 in
theorem sp_X5_hush {Γ : Ga} {d : Nat} {κ : Kp} {I : Ip} {Q : Option Value → Kp → Ip → Prop} {c P T : Nat} {w s : Nat → Int32} {past kept : List (Nat → Int32)} {tx : Nat → Int32} {sz : Nat} {x : Int32} (hCR : CR κ c I P T w s past kept tx sz)  (hq : ∀ (κ' : Kp) (J : Ip), KF c κ κ' → CR κ' c J (P) (T) (w) ((hushA s T past x).2.1) ((hushA s T past x).2.2) (kept) (tx) (sz) → COut c I J → Q (some (.int ((hushA s T past x).1))) κ' J) : Sp Γ (d + 3) mX5_hush [.ref (c), .int (x)] κ I Q := by
  obtain ⟨hC, hTR, hw, hP1, hSR, hs, hpa, hpl, hke, hkl, htx⟩ := id hCR
  obtain ⟨hw0, hw1, hP, hT, -⟩ := id hw
  obtain ⟨cz, ckd, g0, g1, g2, g3, g4, g5, -⟩ := id hC
  have hk0 : κ.1 c = (5, 0) := ckd 0 (by decide)
  have hTx := hC.txo
  obtain ⟨hSt, e34⟩ := hC.now
  obtain ⟨hA, e56⟩ := hC.ahd
  have hS7 := hC.sh7
  have hS25 := hC.sh25
  have hPa := hC.pa
  have hTwL := hC.tw6
  have hSpL := hC.tw7
  have hTw := hTwL.1
  have k1 := hTx.1
  have k3 := hSt.1
  have k5 := hA.1
  have k7 := hS7.1
  have k25 := hS25.1
  have k31 := hPa.1
  have k6 := hTw.1
  have ks := hSpL.1.1
  have z6 := hTw.2.1
  have zs := hSpL.1.2.1
  have htt := hC.two
  rw [← e34] at hSR
  obtain ⟨r0, r1, r2, r3, r4, r5, r6, r7, r8⟩ := id hTR
  intro X hM
  have hX := hM.std
  have hR := hM.room
  show GW _ mX5_hush X 0 [(0, .ref (c)), (1, .int (x))] [] _ _ 0 0
  refine g_aload_n hX dX5_hush_0 rfl rfl ?_
  refine g_getR hX dX5_hush_1 flX5_48 (by assumption) rfl (by first | assumption | rfl) (by first | assumption | exact Nat.succ_ne_zero _) ?_
  refine g_iload_n hX dX5_hush_4 rfl rfl ?_
  refine g_callV (md' := mX4_hasTale) (ci := 4) (As := [.int _]) hX hR dX5_hush_5 clX5_115 okX4_hasTale rfl (by assumption) rfl rfl (Nat.le_of_ble_eq_true rfl) (Nat.le_of_ble_eq_true rfl) ⟨Nat.le_of_ble_eq_true rfl, Nat.le_of_ble_eq_true rfl⟩ ?_
  refine sp_X4_hasTale hTw r1 (by omega) ?_
  change GW _ _ _ 8 _ [.int _] _ _ 0 0
  refine g_ifne 13 hX dX5_hush_8 (by decide) (fun c8 => ?_) (fun c8 => ?_)
  · rw [b2i_n0, decide_eq_true_eq] at c8
    obtain ⟨i, hi, rfl⟩ := inN_of c8
    refine g_aload_n hX dX5_hush_13 rfl rfl ?_
    refine g_getR hX dX5_hush_14 flX5_19 (by assumption) rfl (by first | assumption | rfl) (by first | assumption | exact Nat.succ_ne_zero _) ?_
    refine g_iload_n hX dX5_hush_17 rfl rfl ?_
    refine g_callV (md' := mX2_canHush) (ci := 2) (As := [.int _]) hX hR dX5_hush_18 clX5_195 okX2_canHush rfl (by assumption) rfl rfl (Nat.le_of_ble_eq_true rfl) (Nat.le_of_ble_eq_true rfl) ⟨Nat.le_of_ble_eq_true rfl, Nat.le_of_ble_eq_true rfl⟩ ?_
    refine sp_X2_canHush hSt (by omega) ?_
    change GW _ _ _ 21 _ [.int _] _ _ 0 0
    refine g_ifne 27 hX dX5_hush_21 (by decide) (fun c21 => ?_) (fun c21 => ?_)
    · rw [b2i_n0, hSR.tale hw hs hi] at c21
      refine g_aload_n hX dX5_hush_27 rfl rfl ?_
      refine g_getR hX dX5_hush_28 flX5_31 (by assumption) rfl (by first | assumption | rfl) (by first | assumption | exact Nat.succ_ne_zero _) ?_
      refine g_aload_n hX dX5_hush_31 rfl rfl ?_
      refine g_getR hX dX5_hush_32 flX5_19 (by assumption) rfl (by first | assumption | rfl) (by first | assumption | exact Nat.succ_ne_zero _) ?_
      refine g_callV (md' := mX1_push) (ci := 1) (As := [.ref _]) hX hR dX5_hush_35 clX5_165 okX1_push rfl (by assumption) rfl rfl (Nat.le_of_ble_eq_true rfl) (Nat.le_of_ble_eq_true rfl) ⟨Nat.le_of_ble_eq_true rfl, Nat.le_of_ble_eq_true rfl⟩ ?_
      refine sp_X1_push hS7 (by decide) hpa hC.bes7 hs (by rw [e34] at hSR; exact hSR) hpl (by decide) (fun g J p1 p2 p3 => ?_)
      obtain ⟨z1, z2, z3⟩ := hCR.push p1 p2 (pushN_len hpl (by decide)) p3
      change GW _ _ _ 38 _ [] _ _ 0 0
      have e : hushA s T past (nI i) = (nI T - nI (pcI (s 9 ||| bit1 i)), va_up s 9 (s 9 ||| bit1 i), pushL past s) := by
        unfold hushA
        rw [if_pos c8, nI_clamp (by omega), if_pos c21]
      rw [e] at hq
      exact g_pick [0, 1] rfl (fr_X5_hush_38 hM z1 hi (fun J2 y1 y2 => hq _ J2 z3 y1 (z2.tr y2)))
    · rw [b2i_0, hSR.tale hw hs hi] at c21
      refine g_bipush (v := (-2)) hX dX5_hush_24 (by decide) ?_
      refine g_iret hM dX5_hush_26 rfl (rfl) ⟨Nat.le_of_ble_eq_true rfl, Nat.le_of_ble_eq_true rfl⟩ ?_
      have e : hushA s T past (nI i) = (-2, s, past) := (if_pos c8).trans (if_neg (fun e => by rw [nI_clamp (by omega), c21] at e; cases e))
      rw [e] at hq
      exact hq κ I KF.rf hCR COut.rf
  · rw [b2i_0, decide_eq_false_iff_not] at c8
    refine g_iconst (v := (-1)) hX dX5_hush_11 (by decide) ?_
    refine g_iret hM dX5_hush_12 rfl (rfl) ⟨Nat.le_of_ble_eq_true rfl, Nat.le_of_ble_eq_true rfl⟩ ?_
    have e : hushA s T past x = (-1, s, past) := if_neg c8
    rw [e] at hq
    exact hq κ I KF.rf hCR COut.rf
