set_option maxHeartbeats 4000000 in
set_option maxRecDepth 100000 in
theorem sp_X5_back {Γ : Ga} {d : Nat} {κ : Kp} {I : Ip} {Q : Option Value → Kp → Ip → Prop} {c P T : Nat} {w s : Nat → Int32} {past kept : List (Nat → Int32)} {tx : Nat → Int32} {sz : Nat}  (hCR : CR κ c I P T w s past kept tx sz)  (hq : ∀ (κ' : Kp) (J : Ip), KF c κ κ' → CR κ' c J (P) (T) (w) ((backA s past kept).2.1) ((backA s past kept).2.2.1) ((backA s past kept).2.2.2) (tx) (sz) → COut c I J → Q (some (.int ((backA s past kept).1))) κ' J) : Sp Γ (d + 3) mX5_back [.ref (c)] κ I Q := by
  obtain ⟨hC, hTR, hw, hP1, hSR, hs, hpa, hpl, hke, hkl, htx⟩ := id hCR
  obtain ⟨hw0, hw1, hP, hT, -⟩ := id hw
  obtain ⟨cz, ckd, g0, g1, g2, g3, g4, g5, -⟩ := id hC
  have hk0 : κ.1 c = (5, 0) := ckd 0 (by decide)
  have hTx := hC.txo
  obtain ⟨hSt, e34⟩ := hC.now
  obtain ⟨hA, e56⟩ := hC.ahd
  have hS7 := hC.sh7
  have hS25 := hC.sh25
  have hPa := hC.pa
  have hTwL := hC.tw6
  have hSpL := hC.tw7
  have hTw := hTwL.1
  have k1 := hTx.1
  have k3 := hSt.1
  have k5 := hA.1
  have k7 := hS7.1
  have k25 := hS25.1
  have k31 := hPa.1
  have k6 := hTw.1
  have ks := hSpL.1.1
  have z6 := hTw.2.1
  have zs := hSpL.1.2.1
  have htt := hC.two
  rw [← e34] at hSR
  obtain ⟨r0, r1, r2, r3, r4, r5, r6, r7, r8⟩ := id hTR
  intro X hM
  have hX := hM.std
  have hR := hM.room
  show GW _ mX5_back X 0 [(0, .ref (c))] [] _ _ 0 0
  refine g_aload_n hX dX5_back_0 rfl rfl ?_
  refine g_getR hX dX5_back_1 flX5_35 (by assumption) rfl (by first | assumption | rfl) (by first | assumption | exact Nat.succ_ne_zero _) ?_
  refine g_aload_n hX dX5_back_4 rfl rfl ?_
  refine g_getR hX dX5_back_5 flX5_19 (by assumption) rfl (by first | assumption | rfl) (by first | assumption | exact Nat.succ_ne_zero _) ?_
  refine g_callV (md' := mX1_popInto) (ci := 1) (As := [.ref _]) hX hR dX5_back_8 clX5_207 okX1_popInto rfl (by assumption) rfl rfl (Nat.le_of_ble_eq_true rfl) (Nat.le_of_ble_eq_true rfl) ⟨Nat.le_of_ble_eq_true rfl, Nat.le_of_ble_eq_true rfl⟩ ?_
  refine sp_X1_popIntoB (s := s) hS25 (by decide) hke hC.bes25 hkl (fun t J hn hy => ?_)
  change GW _ _ _ 11 _ [.int _] _ _ 0 0
  refine g_ifne 17 hX dX5_back_11 (by decide) (fun c11 => ?_) (fun c11 => ?_)
  · rw [b2i_n0] at c11
    obtain ⟨y0, y1, y2, y3, y4⟩ := hy c11
    obtain ⟨z1, z2⟩ := hCR.pop25 y1 (by rw [List.length_dropLast]; omega) y2 y3 y4
    obtain ⟨z3, z4⟩ := z1.clr7
    refine g_aload_n hX dX5_back_17 rfl rfl ?_
    refine g_getR hX dX5_back_18 flX5_31 (by assumption) rfl (by first | assumption | rfl) (by first | assumption | exact Nat.succ_ne_zero _) ?_
    refine g_callV (md' := mX1_clear) (ci := 1) (As := []) hX hR dX5_back_21 clX5_96 okX1_clear rfl (by assumption) rfl rfl (Nat.le_of_ble_eq_true rfl) (Nat.le_of_ble_eq_true rfl) ⟨Nat.le_of_ble_eq_true rfl, Nat.le_of_ble_eq_true rfl⟩ ?_
    refine sp_X1_clear hS7 ?_
    change GW _ _ _ 24 _ [] _ _ 0 0
    refine g_aload_n hX dX5_back_24 rfl rfl ?_
    refine g_getR hX dX5_back_25 flX5_35 (by assumption) rfl (by first | assumption | rfl) (by first | assumption | exact Nat.succ_ne_zero _) ?_
    refine g_callV (md' := mX1_size) (ci := 1) (As := []) hX hR dX5_back_28 clX5_211 okX1_size rfl (by assumption) rfl rfl (Nat.le_of_ble_eq_true rfl) (Nat.le_of_ble_eq_true rfl) ⟨Nat.le_of_ble_eq_true rfl, Nat.le_of_ble_eq_true rfl⟩ ?_
    refine sp_X1_size hS25 ?_
    rw [up_ne _ _ (by omega), y1.1, List.length_dropLast]
    change GW _ _ _ 31 _ [.int _] _ _ 0 0
    refine g_iret hM dX5_back_31 rfl (rfl) ⟨Nat.le_of_ble_eq_true rfl, Nat.le_of_ble_eq_true rfl⟩ ?_
    have e : backA s past kept = (nI (kept.length - 1), lastD kept s, [], kept.dropLast) := if_neg y0
    rw [e] at hq
    exact hq κ _ KF.rf z3 (z2.tr z4)
  · rw [b2i_0] at c11
    obtain ⟨y0, rfl⟩ := hn c11
    refine g_bipush (v := (-2)) hX dX5_back_14 (by decide) ?_
    refine g_iret hM dX5_back_16 rfl (rfl) ⟨Nat.le_of_ble_eq_true rfl, Nat.le_of_ble_eq_true rfl⟩ ?_
    have e : backA s past kept = (-2, s, past, kept) := if_pos y0
    rw [e] at hq
    exact hq κ J KF.rf hCR COut.rf
