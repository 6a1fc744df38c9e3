set_option maxHeartbeats 4000000 in
set_option maxRecDepth 100000 in
theorem sp_X5_wouldBringA {Γ : Ga} {d : Nat} {κ : Kp} {I : Ip} {Q : Option Value → Kp → Ip → Prop} {c P T : Nat} {w s : Nat → Int32} {past kept : List (Nat → Int32)} {tx : Nat → Int32} {sz : Nat} {a b mn : Nat} {hh : Int32} (hCR : CR κ c I P T w s past kept tx sz) (ha : a < P) (hb : b < P) (hmn : mn ≤ 60) (hh9 : ∀ i, bt hh i = true → i < T) (hq : ∀ J : Ip, AFr c I J → Q (some (.int (wbF w s T mn hh (-2) a b))) κ J) : Sp Γ (d + 5) mX5_wouldBring [.ref (c), .int (nI a), .int (nI b), .int (nI mn), .int (hh)] κ I Q := by
  obtain ⟨hC, hTR, hw, hP1, hSR, hs, hpa, hpl, hke, hkl, htx⟩ := id hCR
  obtain ⟨hw0, hw1, hP, hT, -⟩ := id hw
  obtain ⟨cz, ckd, g0, g1, g2, g3, g4, g5, -⟩ := id hC
  have hk0 : κ.1 c = (5, 0) := ckd 0 (by decide)
  have hTx := hC.txo
  obtain ⟨hSt, e34⟩ := hC.now
  obtain ⟨hA, e56⟩ := hC.ahd
  have hS7 := hC.sh7
  have hS25 := hC.sh25
  have hPa := hC.pa
  have hTwL := hC.tw6
  have hSpL := hC.tw7
  have hTw := hTwL.1
  have k1 := hTx.1
  have k3 := hSt.1
  have k5 := hA.1
  have k7 := hS7.1
  have k25 := hS25.1
  have k31 := hPa.1
  have k6 := hTw.1
  have ks := hSpL.1.1
  have z6 := hTw.2.1
  have zs := hSpL.1.2.1
  have htt := hC.two
  rw [← e34] at hSR
  obtain ⟨r0, r1, r2, r3, r4, r5, r6, r7, r8⟩ := id hTR
  intro X hM
  have hX := hM.std
  have hR := hM.room
  show GW _ mX5_wouldBring X 0 [(0, .ref (c)), (1, .int (nI a)), (2, .int (nI b)), (3, .int (nI mn)), (4, .int (hh))] [] _ _ 0 0
  refine g_aload_n hX dX5_wouldBring_0 rfl rfl ?_
  refine g_getR hX dX5_wouldBring_1 flX5_48 (by assumption) rfl (by first | assumption | rfl) (by first | assumption | exact Nat.succ_ne_zero _) ?_
  refine g_iload_n hX dX5_wouldBring_4 rfl rfl ?_
  refine g_iload_n hX dX5_wouldBring_5 rfl rfl ?_
  refine g_callV (md' := mX4_areFriends) (ci := 4) (As := [.int _, .int _]) hX hR dX5_wouldBring_6 clX5_162 okX4_areFriends rfl (by assumption) rfl rfl (Nat.le_of_ble_eq_true rfl) (Nat.le_of_ble_eq_true rfl) ⟨Nat.le_of_ble_eq_true rfl, Nat.le_of_ble_eq_true rfl⟩ ?_
  refine sp_X4_areFriends hTw hTR hP ha hb ?_
  change GW _ _ _ 9 _ [.int _] _ _ 0 0
  refine g_ifne 15 hX dX5_wouldBring_9 (by decide) (fun c9 => ?_) (fun c9 => ?_)
  · rw [b2i_n0] at c9
    have hab := lk_ne hw ha c9
    refine g_aload_n hX dX5_wouldBring_15 rfl rfl ?_
    refine g_getR hX dX5_wouldBring_16 flX5_23 (by assumption) rfl (by first | assumption | rfl) (by first | assumption | exact Nat.succ_ne_zero _) ?_
    refine g_aload_n hX dX5_wouldBring_19 rfl rfl ?_
    refine g_getR hX dX5_wouldBring_20 flX5_19 (by assumption) rfl (by first | assumption | rfl) (by first | assumption | exact Nat.succ_ne_zero _) ?_
    refine g_callV (md' := mX2_copyFrom) (ci := 2) (As := [.ref _]) hX hR dX5_wouldBring_23 clX5_212 okX2_copyFrom rfl (by assumption) rfl rfl (Nat.le_of_ble_eq_true rfl) (Nat.le_of_ble_eq_true rfl) ⟨Nat.le_of_ble_eq_true rfl, Nat.le_of_ble_eq_true rfl⟩ ?_
    refine sp_X2_copyFrom hA hSt (show c + 3 ≠ c + 5 by omega) (by rw [e34, e56]; omega) (fun K' f' hK hf => ?_)
    change GW _ _ _ 26 _ [] _ _ 0 0
    refine g_aload_n hX dX5_wouldBring_26 rfl rfl ?_
    refine g_getR hX dX5_wouldBring_27 flX5_23 (by assumption) rfl (by first | assumption | rfl) (by first | assumption | exact Nat.succ_ne_zero _) ?_
    refine g_iload hX dX5_wouldBring_30 rfl ?_
    refine g_putI hX dX5_wouldBring_32 flX5_198 (by assumption) rfl rfl ?_
    rw [sst_st, sst_up]
    refine g_aload_n hX dX5_wouldBring_35 rfl rfl ?_
    refine g_getR hX dX5_wouldBring_36 flX5_23 (by assumption) rfl (by first | assumption | rfl) (by first | assumption | exact Nat.succ_ne_zero _) ?_
    refine g_iconst (v := nI 0) hX dX5_wouldBring_39 (by decide) ?_
    refine g_putI hX dX5_wouldBring_40 flX5_192 (by assumption) rfl rfl ?_
    rw [sst_st, sst_up]
    refine g_aload_n hX dX5_wouldBring_43 rfl rfl ?_
    refine g_getR hX dX5_wouldBring_44 flX5_23 (by assumption) rfl (by first | assumption | rfl) (by first | assumption | exact Nat.succ_ne_zero _) ?_
    refine g_iload_n hX dX5_wouldBring_47 rfl rfl ?_
    refine g_iload_n hX dX5_wouldBring_48 rfl rfl ?_
    refine g_callV (md' := mX2_seat) (ci := 2) (As := [.int _, .int _]) hX hR dX5_wouldBring_49 clX5_169 okX2_seat rfl (by assumption) rfl rfl (Nat.le_of_ble_eq_true rfl) (Nat.le_of_ble_eq_true rfl) ⟨Nat.le_of_ble_eq_true rfl, Nat.le_of_ble_eq_true rfl⟩ ?_
    refine sp_X2_seat hA ?_
    rw [sst_st, sst_up]
    have hS2 : SR K' (seatV (va_up (va_up f' 1 hh) 9 (nI 0)) (nI a) (nI b)) (brS s a b hh) T := SR.seatB (hSR.cg hK hf) hT (by omega)
    change GW _ _ _ 52 _ [] _ _ 0 0
    refine g_aload_n hX dX5_wouldBring_52 rfl rfl ?_
    refine g_getR hX dX5_wouldBring_53 flX5_23 (by assumption) rfl (by first | assumption | rfl) (by first | assumption | exact Nat.succ_ne_zero _) ?_
    refine g_aload_n hX dX5_wouldBring_56 rfl rfl ?_
    refine g_getR hX dX5_wouldBring_57 flX5_48 (by assumption) rfl (by first | assumption | rfl) (by first | assumption | exact Nat.succ_ne_zero _) ?_
    refine g_iload_n hX dX5_wouldBring_60 rfl rfl ?_
    refine g_callV (md' := mX2_goOn) (ci := 2) (As := [.ref _, .int _]) hX hR dX5_wouldBring_61 clX5_188 okX2_goOn rfl (by assumption) rfl rfl (Nat.le_of_ble_eq_true rfl) (Nat.le_of_ble_eq_true rfl) ⟨Nat.le_of_ble_eq_true rfl, Nat.le_of_ble_eq_true rfl⟩ ?_
    refine sp_X2_goOn (s := brS s a b hh) hA hTw (Sep_of (c := c) hTwL (by have := htt.lo; omega) htt.lo.1) (hTR.sst hA hTw (Sep_of (c := c) hTwL (by have := htt.lo; omega) htt.lo.1)) hw (wfs_brS hw hs ha hb hab hh9) (by rw [sst_kn hA, sst_st]; exact hS2) hmn (fun K2 f2 h2 => ?_)
    rw [sst_sst hA]
    change GW _ _ _ 64 _ [] _ _ 0 0
    refine g_aload_n hX dX5_wouldBring_64 rfl rfl ?_
    refine g_getR hX dX5_wouldBring_65 flX5_23 (by assumption) rfl (by first | assumption | rfl) (by first | assumption | exact Nat.succ_ne_zero _) ?_
    refine g_getI hX dX5_wouldBring_68 flX5_192 (by assumption) rfl ?_
    refine g_iret hM dX5_wouldBring_71 rfl (rfl) ⟨Nat.le_of_ble_eq_true rfl, Nat.le_of_ble_eq_true rfl⟩ ?_
    rw [sst_st, h2.2.2.2.2.1]
    have hz := hq (sst κ (c + 5) I K2 f2) (fun a a1 a2 => sst_ne a1 (by rw [e56]; exact a2))
    rw [wbF, if_pos c9] at hz
    exact hz
  · rw [b2i_0] at c9
    refine g_bipush (v := (-2)) hX dX5_wouldBring_12 (by decide) ?_
    refine g_iret hM dX5_wouldBring_14 rfl (rfl) ⟨Nat.le_of_ble_eq_true rfl, Nat.le_of_ble_eq_true rfl⟩ ?_
    exact q_int (if_neg (by rw [c9]; decide)) (hq I (fun _ _ _ => rfl))
