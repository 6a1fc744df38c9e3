set_option maxHeartbeats 4000000 in
set_option maxRecDepth 100000 in
theorem sp_X5_day {Γ : Ga} {d : Nat} {κ : Kp} {I : Ip} {Q : Option Value → Kp → Ip → Prop} {c P T : Nat} {w s : Nat → Int32} {past kept : List (Nat → Int32)} {tx : Nat → Int32} {sz : Nat} {x y v : Int32} (hCR : CR κ c I P T w s past kept tx sz)  (hq : ∀ (κ' : Kp) (J : Ip), KF c κ κ' → CR κ' c J (P) (T) (w) (s) (past) (kept) (tx) (sz) → COut c I J → Q (some (.int (dayA w s P T x y v))) κ' J) : Sp Γ (d + 5) mX5_day [.ref (c), .int (x), .int (y), .int (v)] κ I Q := by
  obtain ⟨hC, hTR, hw, hP1, hSR, hs, hpa, hpl, hke, hkl, htx⟩ := id hCR
  obtain ⟨hw0, hw1, hP, hT, -⟩ := id hw
  obtain ⟨cz, ckd, g0, g1, g2, g3, g4, g5, -⟩ := id hC
  have hk0 : κ.1 c = (5, 0) := ckd 0 (by decide)
  have hTx := hC.txo
  obtain ⟨hSt, e34⟩ := hC.now
  obtain ⟨hA, e56⟩ := hC.ahd
  have hS7 := hC.sh7
  have hS25 := hC.sh25
  have hPa := hC.pa
  have hTwL := hC.tw6
  have hSpL := hC.tw7
  have hTw := hTwL.1
  have k1 := hTx.1
  have k3 := hSt.1
  have k5 := hA.1
  have k7 := hS7.1
  have k25 := hS25.1
  have k31 := hPa.1
  have k6 := hTw.1
  have ks := hSpL.1.1
  have z6 := hTw.2.1
  have zs := hSpL.1.2.1
  have htt := hC.two
  rw [← e34] at hSR
  obtain ⟨r0, r1, r2, r3, r4, r5, r6, r7, r8⟩ := id hTR
  intro X hM
  have hX := hM.std
  have hR := hM.room
  show GW _ mX5_day X 0 [(0, .ref (c)), (1, .int (x)), (2, .int (y)), (3, .int (v))] [] _ _ 0 0
  refine g_iload_n hX dX5_day_0 rfl rfl ?_
  refine g_iconst (v := nI 0) hX dX5_day_1 (by decide) ?_
  refine g_sipush (v := nI 9999) hX dX5_day_2 (by decide) ?_
  refine g_callS (md' := mX5_isWithin) (As := [.int _, .int _, .int _]) hX hR dX5_day_5 clX5_81 okX5_isWithin rfl rfl (Nat.le_of_ble_eq_true rfl) (Nat.le_of_ble_eq_true rfl) ⟨Nat.le_of_ble_eq_true rfl, Nat.le_of_ble_eq_true rfl⟩ ?_
  refine sp_X5_isWithin (lo := 0) (hi := 9999) (by decide) (by decide) ?_
  change GW _ _ _ 8 _ [.int _] _ _ 0 0
  refine g_ifeq 27 hX dX5_day_8 (by decide) (fun c8 => ?_) (fun c8 => ?_)
  · rw [b2i_0, decide_eq_false_iff_not] at c8
    refine g_iconst (v := (-1)) hX dX5_day_27 (by decide) ?_
    refine g_iret hM dX5_day_28 rfl (rfl) ⟨Nat.le_of_ble_eq_true rfl, Nat.le_of_ble_eq_true rfl⟩ ?_
    refine q_int ?_ (hq κ I KF.rf hCR COut.rf)
    unfold dayA
    rw [if_neg (fun e => c8 e.1)]
  · rw [b2i_n0, decide_eq_true_eq] at c8
    obtain ⟨z, hz1, hz, rfl⟩ := inR_of c8
    refine g_iload_n hX dX5_day_11 rfl rfl ?_
    refine g_callS (md' := mX5_isSpan) (As := [.int _]) hX hR dX5_day_12 clX5_185 okX5_isSpan rfl rfl (Nat.le_of_ble_eq_true rfl) (Nat.le_of_ble_eq_true rfl) ⟨Nat.le_of_ble_eq_true rfl, Nat.le_of_ble_eq_true rfl⟩ ?_
    refine sp_X5_isSpan ?_
    change GW _ _ _ 15 _ [.int _] _ _ 0 0
    refine g_ifeq 27 hX dX5_day_15 (by decide) (fun c15 => ?_) (fun c15 => ?_)
    · rw [b2i_0, decide_eq_false_iff_not] at c15
      refine g_iconst (v := (-1)) hX dX5_day_27 (by decide) ?_
      refine g_iret hM dX5_day_28 rfl (rfl) ⟨Nat.le_of_ble_eq_true rfl, Nat.le_of_ble_eq_true rfl⟩ ?_
      refine q_int ?_ (hq κ I KF.rf hCR COut.rf)
      unfold dayA
      rw [if_neg (fun e => c15 e.2.1)]
    · rw [b2i_n0, decide_eq_true_eq] at c15
      obtain ⟨mn, hmn1, hmn, rfl⟩ := inR_of c15
      refine g_iload_n hX dX5_day_18 rfl rfl ?_
      refine g_iconst (v := nI 0) hX dX5_day_19 (by decide) ?_
      refine g_iconst (v := nI 1) hX dX5_day_20 (by decide) ?_
      refine g_callS (md' := mX5_isWithin) (As := [.int _, .int _, .int _]) hX hR dX5_day_21 clX5_81 okX5_isWithin rfl rfl (Nat.le_of_ble_eq_true rfl) (Nat.le_of_ble_eq_true rfl) ⟨Nat.le_of_ble_eq_true rfl, Nat.le_of_ble_eq_true rfl⟩ ?_
      refine sp_X5_isWithin (lo := 0) (hi := 1) (by decide) (by decide) ?_
      change GW _ _ _ 24 _ [.int _] _ _ 0 0
      refine g_ifne 29 hX dX5_day_24 (by decide) (fun c24 => ?_) (fun c24 => ?_)
      · rw [b2i_n0, decide_eq_true_eq] at c24
        refine g_aload_n hX dX5_day_29 rfl rfl ?_
        refine g_getR hX dX5_day_30 flX5_23 (by assumption) rfl (by first | assumption | rfl) (by first | assumption | exact Nat.succ_ne_zero _) ?_
        refine g_aload_n hX dX5_day_33 rfl rfl ?_
        refine g_getR hX dX5_day_34 flX5_19 (by assumption) rfl (by first | assumption | rfl) (by first | assumption | exact Nat.succ_ne_zero _) ?_
        refine g_callV (md' := mX2_copyFrom) (ci := 2) (As := [.ref _]) hX hR dX5_day_37 clX5_212 okX2_copyFrom rfl (by assumption) rfl rfl (Nat.le_of_ble_eq_true rfl) (Nat.le_of_ble_eq_true rfl) ⟨Nat.le_of_ble_eq_true rfl, Nat.le_of_ble_eq_true rfl⟩ ?_
        refine sp_X2_copyFrom hA hSt (show c + 3 ≠ c + 5 by omega) (by rw [e34, e56]; omega) (fun K' f' hK hf => ?_)
        have hSK : SR K' f' (dayS w s P T z 0) T := hSR.cg hK hf
        change GW _ _ _ 40 _ [] _ _ 0 0
        refine g_iconst (v := nI 0) hX dX5_day_40 (by decide) ?_
        refine g_istore (lv' := [(4, .int _), (0, .ref _), (1, .int _), (2, .int _), (3, .int _)]) hX dX5_day_41 (by decide) rfl ?_
        refine g_pick [0, 1, 2, 3, 4] rfl (lp_X5_day_43 hM hCR hmn hz (fun K f hSK2 => ?_) mn 0 K' f' (Nat.sub_zero mn).symm (Nat.zero_le _) hSK)
        obtain ⟨z1, z2⟩ := hCR.fr (J := sst κ (c + 5) I K f) ⟨fun a a1 a2 _ _ _ => sst_ne a1 (by rw [e56]; exact a2), fun k _ => by rw [sst_ne (by omega) (by omega)]⟩
        refine q_int ?_ (hq κ _ KF.rf z1 z2)
        unfold dayA
        rw [if_pos ⟨c8, c15, c24⟩, nI_clamp (by omega), nI_clamp (by omega)]
      · rw [b2i_0, decide_eq_false_iff_not] at c24
        refine g_iconst (v := (-1)) hX dX5_day_27 (by decide) ?_
        refine g_iret hM dX5_day_28 rfl (rfl) ⟨Nat.le_of_ble_eq_true rfl, Nat.le_of_ble_eq_true rfl⟩ ?_
        refine q_int ?_ (hq κ I KF.rf hCR COut.rf)
        unfold dayA
        rw [if_neg (fun e => c24 e.2.2)]
