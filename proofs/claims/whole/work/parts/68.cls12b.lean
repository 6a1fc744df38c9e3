set_option maxHeartbeats 4000000 in
set_option maxRecDepth 100000 in
theorem sp_X5_write {Γ : Ga} {d : Nat} {κ : Kp} {I : Ip} {Q : Option Value → Kp → Ip → Prop} {c P T : Nat} {w s : Nat → Int32} {past kept : List (Nat → Int32)} {tx : Nat → Int32} {sz : Nat} {x : Int32} (hCR : CR κ c I P T w s past kept tx sz)  (hq : ∀ (κ' : Kp) (J : Ip), KF c κ κ' → CR κ' c J (P) (T) (w) (s) (past) (kept) ((writeA tx sz x).2.1) ((writeA tx sz x).2.2) → COut c I J → Q (some (.int ((writeA tx sz x).1))) κ' J) : Sp Γ (d + 1) mX5_write [.ref (c), .int (x)] κ I Q := by
  obtain ⟨hC, hTR, hw, hP1, hSR, hs, hpa, hpl, hke, hkl, htx⟩ := id hCR
  obtain ⟨hw0, hw1, hP, hT, -⟩ := id hw
  obtain ⟨cz, ckd, g0, g1, g2, g3, g4, g5, -⟩ := id hC
  have hk0 : κ.1 c = (5, 0) := ckd 0 (by decide)
  have hTx := hC.txo
  obtain ⟨hSt, e34⟩ := hC.now
  obtain ⟨hA, e56⟩ := hC.ahd
  have hS7 := hC.sh7
  have hS25 := hC.sh25
  have hPa := hC.pa
  have hTwL := hC.tw6
  have hSpL := hC.tw7
  have hTw := hTwL.1
  have k1 := hTx.1
  have k3 := hSt.1
  have k5 := hA.1
  have k7 := hS7.1
  have k25 := hS25.1
  have k31 := hPa.1
  have k6 := hTw.1
  have ks := hSpL.1.1
  have z6 := hTw.2.1
  have zs := hSpL.1.2.1
  have htt := hC.two
  rw [← e34] at hSR
  obtain ⟨r0, r1, r2, r3, r4, r5, r6, r7, r8⟩ := id hTR
  intro X hM
  have hX := hM.std
  have hR := hM.room
  show GW _ mX5_write X 0 [(0, .ref (c)), (1, .int (x))] [] _ _ 0 0
  refine g_iload_n hX dX5_write_0 rfl rfl ?_
  refine g_bipush (v := nI 32) hX dX5_write_1 (by decide) ?_
  refine g_bipush (v := nI 126) hX dX5_write_3 (by decide) ?_
  refine g_callS (md' := mX5_isWithin) (As := [.int _, .int _, .int _]) hX hR dX5_write_5 clX5_81 okX5_isWithin rfl rfl (Nat.le_of_ble_eq_true rfl) (Nat.le_of_ble_eq_true rfl) ⟨Nat.le_of_ble_eq_true rfl, Nat.le_of_ble_eq_true rfl⟩ ?_
  refine sp_X5_isWithin (lo := 32) (hi := 126) (by decide) (by decide) ?_
  change GW _ _ _ 8 _ [.int _] _ _ 0 0
  refine g_ifne 13 hX dX5_write_8 (by decide) (fun c8 => ?_) (fun c8 => ?_)
  · rw [b2i_n0, decide_eq_true_eq] at c8
    obtain ⟨i1, hi1, hi2, rfl⟩ := inR_of c8
    refine g_aload_n hX dX5_write_13 rfl rfl ?_
    refine g_getR hX dX5_write_14 flX5_10 (by assumption) rfl (by first | assumption | rfl) (by first | assumption | exact Nat.succ_ne_zero _) ?_
    refine g_iload_n hX dX5_write_17 rfl rfl ?_
    refine g_callV (md' := mX3_add) (ci := 3) (As := [.int _]) hX hR dX5_write_18 clX5_67 okX3_add rfl (by assumption) rfl rfl (Nat.le_of_ble_eq_true rfl) (Nat.le_of_ble_eq_true rfl) ⟨Nat.le_of_ble_eq_true rfl, Nat.le_of_ble_eq_true rfl⟩ ?_
    refine sp_X3_addB hTx htx.1 htx.2.1 hi2 (fun t J hy hn => ?_)
    change GW _ _ _ 21 _ [.int _] _ _ 0 0
    refine g_ifeq 34 hX dX5_write_21 (by decide) (fun c21 => ?_) (fun c21 => ?_)
    · rw [b2i_0] at c21
      refine g_bipush (v := (-3)) hX dX5_write_34 (by decide) ?_
      refine g_iret hM dX5_write_36 rfl (rfl) ⟨Nat.le_of_ble_eq_true rfl, Nat.le_of_ble_eq_true rfl⟩ ?_
      obtain ⟨y1, rfl⟩ := hn c21
      have e : writeA tx sz (nI i1) = (-3, tx, sz) := (if_pos c8).trans (if_pos y1)
      rw [e] at hq
      exact hq κ J KF.rf hCR COut.rf
    · rw [b2i_n0] at c21
      obtain ⟨y1, rfl⟩ := hy c21
      refine g_aload_n hX dX5_write_24 rfl rfl ?_
      refine g_getR hX dX5_write_25 flX5_10 (by assumption) rfl (by first | assumption | rfl) (by first | assumption | exact Nat.succ_ne_zero _) ?_
      refine g_callV (md' := mX3_size) (ci := 3) (As := []) hX hR dX5_write_28 clX5_85 okX3_size rfl (by assumption) rfl rfl (Nat.le_of_ble_eq_true rfl) (Nat.le_of_ble_eq_true rfl) ⟨Nat.le_of_ble_eq_true rfl, Nat.le_of_ble_eq_true rfl⟩ ?_
      refine sp_X3_size hTx ?_
      rw [up_same, up_same]
      change GW _ _ _ 31 _ [.int _] _ _ 0 0
      refine g_goto 36 hX dX5_write_31 (by decide) ?_
      refine g_iret hM dX5_write_36 rfl (rfl) ⟨Nat.le_of_ble_eq_true rfl, Nat.le_of_ble_eq_true rfl⟩ ?_
      have e : writeA tx sz (nI i1) = (nI (sz + 1), va_up tx sz (nI i1), sz + 1) := (if_pos c8).trans (if_neg (by omega))
      rw [e] at hq
      have e1 : κ.2.1 (c + 1) 0 = c + 2 := hC.2.2.2.2.2.2.2.2.2.1
      rw [e1]
      have hz := hCR.txtS (f := va_up (I (c + 2)) sz (nI i1)) (v := va_up (I (c + 1)) 1 (nI (sz + 1))) (t2 := va_up tx sz (nI i1)) (z2 := sz + 1) (up_same _ _ _) (by omega) (fun k hk => ?_) (fun k hk => ?_)
      · exact hq κ _ KF.rf hz.1 hz.2
      · by_cases e3 : k = sz
        · subst e3; rw [up_same, up_same]
        · have := htx.2.2.1 k (by omega)
          rw [e1] at this
          rw [up_ne _ _ e3, up_ne _ _ e3]; exact this
      · by_cases e3 : k = sz
        · subst e3; rw [up_same]; exact ⟨i1, hi1, hi2, rfl⟩
        · rw [up_ne _ _ e3]; exact htx.2.2.2 k (by omega)
  · rw [b2i_0, decide_eq_false_iff_not] at c8
    refine g_iconst (v := (-1)) hX dX5_write_11 (by decide) ?_
    refine g_iret hM dX5_write_12 rfl (rfl) ⟨Nat.le_of_ble_eq_true rfl, Nat.le_of_ble_eq_true rfl⟩ ?_
    have e : writeA tx sz x = (-1, tx, sz) := if_neg c8
    rw [e] at hq
    exact hq κ I KF.rf hCR COut.rf
