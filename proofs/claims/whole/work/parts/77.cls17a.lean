set_option maxHeartbeats 4000000 in
set_option maxRecDepth 100000 in
theorem sp_X5_seatByDraw {Γ : Ga} {d : Nat} {κ : Kp} {I : Ip} {Q : Option Value → Kp → Ip → Prop} {c P T : Nat} {w s : Nat → Int32} {past kept : List (Nat → Int32)} {tx : Nat → Int32} {sz : Nat} {dr : Nat} {s2 : Nat → Int32} (hCR : CR κ c I P T w s past kept tx sz) (hA2 : SR (I (κ.2.1 (c + 5) 0)) (I (c + 5)) s2 T) (hs2 : WfS s2 P T) (hdr : dr < 100000) (hq : ∀ K f : Nat → Int32, SR K f (if ¬ dr / 8 % P = dr / 64 % P ∧ lkF w (dr / 8 % P) (dr / 64 % P) = true then sitF s2 (nI (dr / 8 % P)) (nI (dr / 64 % P)) else s2) T → Q none κ (sst κ (c + 5) I K f)) : Sp Γ (d + 3) mX5_seatByDraw [.ref (c), .int (nI dr)] κ I Q := by
  obtain ⟨hC, hTR, hw, hP1, hSR, hs, hpa, hpl, hke, hkl, htx⟩ := id hCR
  obtain ⟨hw0, hw1, hP, hT, -⟩ := id hw
  obtain ⟨cz, ckd, g0, g1, g2, g3, g4, g5, -⟩ := id hC
  have hk0 : κ.1 c = (5, 0) := ckd 0 (by decide)
  have hTx := hC.txo
  obtain ⟨hSt, e34⟩ := hC.now
  obtain ⟨hA, e56⟩ := hC.ahd
  have hS7 := hC.sh7
  have hS25 := hC.sh25
  have hPa := hC.pa
  have hTwL := hC.tw6
  have hSpL := hC.tw7
  have hTw := hTwL.1
  have k1 := hTx.1
  have k3 := hSt.1
  have k5 := hA.1
  have k7 := hS7.1
  have k25 := hS25.1
  have k31 := hPa.1
  have k6 := hTw.1
  have ks := hSpL.1.1
  have z6 := hTw.2.1
  have zs := hSpL.1.2.1
  have htt := hC.two
  rw [← e34] at hSR
  obtain ⟨r0, r1, r2, r3, r4, r5, r6, r7, r8⟩ := id hTR
  have ham := Nat.mod_lt (dr / 8) hP1
  have hbm := Nat.mod_lt (dr / 64) hP1
  intro X hM
  have hX := hM.std
  have hR := hM.room
  show GW _ mX5_seatByDraw X 0 [(0, .ref (c)), (1, .int (nI dr))] [] _ _ 0 0
  refine g_aload_n hX dX5_seatByDraw_0 rfl rfl ?_
  refine g_getR hX dX5_seatByDraw_1 flX5_48 (by assumption) rfl (by first | assumption | rfl) (by first | assumption | exact Nat.succ_ne_zero _) ?_
  refine g_getI hX dX5_seatByDraw_4 flX5_88 (by assumption) rfl ?_
  refine g_ifgt 11 hX dX5_seatByDraw_7 (by decide) (fun c7 => ?_) (fun c7 => ?_)
  · rw [r0, nI_gt0 (by omega)] at c7
    refine g_iload_n hX dX5_seatByDraw_11 rfl rfl ?_
    refine g_bipush (v := nI 8) hX dX5_seatByDraw_12 (by decide) ?_
    refine g_idiv hX dX5_seatByDraw_14 (by decide) ?_
    rw [nI_div (by omega) (by decide)]
    refine g_aload_n hX dX5_seatByDraw_15 rfl rfl ?_
    refine g_getR hX dX5_seatByDraw_16 flX5_48 (by assumption) rfl (by first | assumption | rfl) (by first | assumption | exact Nat.succ_ne_zero _) ?_
    refine g_getI hX dX5_seatByDraw_19 flX5_88 (by assumption) rfl ?_
    refine g_irem hX dX5_seatByDraw_22 (by rw [r0]; exact nI_ne0 hP1 (by omega)) ?_
    rw [r0, nI_rem (by omega) (by omega)]
    refine g_istore_n (lv' := [(2, .int _), (0, .ref _), (1, .int _)]) hX dX5_seatByDraw_23 rfl (by decide) rfl ?_
    refine g_iload_n hX dX5_seatByDraw_24 rfl rfl ?_
    refine g_bipush (v := nI 64) hX dX5_seatByDraw_25 (by decide) ?_
    refine g_idiv hX dX5_seatByDraw_27 (by decide) ?_
    rw [nI_div (by omega) (by decide)]
    refine g_aload_n hX dX5_seatByDraw_28 rfl rfl ?_
    refine g_getR hX dX5_seatByDraw_29 flX5_48 (by assumption) rfl (by first | assumption | rfl) (by first | assumption | exact Nat.succ_ne_zero _) ?_
    refine g_getI hX dX5_seatByDraw_32 flX5_88 (by assumption) rfl ?_
    refine g_irem hX dX5_seatByDraw_35 (by rw [r0]; exact nI_ne0 hP1 (by omega)) ?_
    rw [r0, nI_rem (by omega) (by omega)]
    refine g_istore_n (lv' := [(3, .int _), (2, .int _), (0, .ref _), (1, .int _)]) hX dX5_seatByDraw_36 rfl (by decide) rfl ?_
    refine g_aload_n hX dX5_seatByDraw_37 rfl rfl ?_
    refine g_getR hX dX5_seatByDraw_38 flX5_48 (by assumption) rfl (by first | assumption | rfl) (by first | assumption | exact Nat.succ_ne_zero _) ?_
    refine g_iload_n hX dX5_seatByDraw_41 rfl rfl ?_
    refine g_iload_n hX dX5_seatByDraw_42 rfl rfl ?_
    refine g_callV (md' := mX4_areFriends) (ci := 4) (As := [.int _, .int _]) hX hR dX5_seatByDraw_43 clX5_162 okX4_areFriends rfl (by assumption) rfl rfl (Nat.le_of_ble_eq_true rfl) (Nat.le_of_ble_eq_true rfl) ⟨Nat.le_of_ble_eq_true rfl, Nat.le_of_ble_eq_true rfl⟩ ?_
    refine sp_X4_areFriends hTw hTR hP ham hbm ?_
    change GW _ _ _ 46 _ [.int _] _ _ 0 0
    refine g_ifeq 58 hX dX5_seatByDraw_46 (by decide) (fun c46 => ?_) (fun c46 => ?_)
    · rw [b2i_0] at c46
      refine g_vret hM dX5_seatByDraw_58 rfl ⟨Nat.le_of_ble_eq_true rfl, Nat.le_of_ble_eq_true rfl⟩ ?_
      have hz := hq (I (κ.2.1 (c + 5) 0)) (I (c + 5)) (by rw [if_neg (fun e => by rw [c46] at e; cases e.2)]; exact hA2)
      rw [sst_self] at hz
      exact hz
    · rw [b2i_n0] at c46
      refine g_aload_n hX dX5_seatByDraw_49 rfl rfl ?_
      refine g_getR hX dX5_seatByDraw_50 flX5_23 (by assumption) rfl (by first | assumption | rfl) (by first | assumption | exact Nat.succ_ne_zero _) ?_
      refine g_iload_n hX dX5_seatByDraw_53 rfl rfl ?_
      refine g_iload_n hX dX5_seatByDraw_54 rfl rfl ?_
      refine g_callV (md' := mX2_seat) (ci := 2) (As := [.int _, .int _]) hX hR dX5_seatByDraw_55 clX5_169 okX2_seat rfl (by assumption) rfl rfl (Nat.le_of_ble_eq_true rfl) (Nat.le_of_ble_eq_true rfl) ⟨Nat.le_of_ble_eq_true rfl, Nat.le_of_ble_eq_true rfl⟩ ?_
      refine sp_X2_seat hA ?_
      rw [sst_f (κ := κ) (st := c + 5)]
      change GW _ _ _ 58 _ [] _ _ 0 0
      refine g_vret hM dX5_seatByDraw_58 rfl ⟨Nat.le_of_ble_eq_true rfl, Nat.le_of_ble_eq_true rfl⟩ ?_
      refine hq _ _ ?_
      rw [if_pos ⟨fun e => lk_ne hw ham c46 e, c46⟩]
      exact hA2.seat hT (by omega)
  · rw [r0, nI_gt0 (by omega)] at c7
    exact absurd hP1 c7
