set_option maxHeartbeats 4000000 in
set_option maxRecDepth 100000 in
theorem sp_X5_hears {Γ : Ga} {d : Nat} {κ : Kp} {I : Ip} {Q : Option Value → Kp → Ip → Prop} {c P T : Nat} {w s : Nat → Int32} {past kept : List (Nat → Int32)} {tx : Nat → Int32} {sz : Nat} {x y : Int32} (hCR : CR κ c I P T w s past kept tx sz)  (hq : Q (some (.int (hearsA w s P T x y))) κ I) : Sp Γ (d + 3) mX5_hears [.ref (c), .int (x), .int (y)] κ I Q := by
  obtain ⟨hC, hTR, hw, hP1, hSR, hs, hpa, hpl, hke, hkl, htx⟩ := id hCR
  obtain ⟨hw0, hw1, hP, hT, -⟩ := id hw
  obtain ⟨cz, ckd, g0, g1, g2, g3, g4, g5, -⟩ := id hC
  have hk0 : κ.1 c = (5, 0) := ckd 0 (by decide)
  have hTx := hC.txo
  obtain ⟨hSt, e34⟩ := hC.now
  obtain ⟨hA, e56⟩ := hC.ahd
  have hS7 := hC.sh7
  have hS25 := hC.sh25
  have hPa := hC.pa
  have hTwL := hC.tw6
  have hSpL := hC.tw7
  have hTw := hTwL.1
  have k1 := hTx.1
  have k3 := hSt.1
  have k5 := hA.1
  have k7 := hS7.1
  have k25 := hS25.1
  have k31 := hPa.1
  have k6 := hTw.1
  have ks := hSpL.1.1
  have z6 := hTw.2.1
  have zs := hSpL.1.2.1
  have htt := hC.two
  rw [← e34] at hSR
  obtain ⟨r0, r1, r2, r3, r4, r5, r6, r7, r8⟩ := id hTR
  intro X hM
  have hX := hM.std
  have hR := hM.room
  show GW _ mX5_hears X 0 [(0, .ref (c)), (1, .int (x)), (2, .int (y))] [] _ _ 0 0
  refine g_aload_n hX dX5_hears_0 rfl rfl ?_
  refine g_getR hX dX5_hears_1 flX5_48 (by assumption) rfl (by first | assumption | rfl) (by first | assumption | exact Nat.succ_ne_zero _) ?_
  refine g_iload_n hX dX5_hears_4 rfl rfl ?_
  refine g_callV (md' := mX4_hasTale) (ci := 4) (As := [.int _]) hX hR dX5_hears_5 clX5_115 okX4_hasTale rfl (by assumption) rfl rfl (Nat.le_of_ble_eq_true rfl) (Nat.le_of_ble_eq_true rfl) ⟨Nat.le_of_ble_eq_true rfl, Nat.le_of_ble_eq_true rfl⟩ ?_
  refine sp_X4_hasTale hTw r1 (by omega) ?_
  change GW _ _ _ 8 _ [.int _] _ _ 0 0
  refine g_ifeq 22 hX dX5_hears_8 (by decide) (fun c8 => ?_) (fun c8 => ?_)
  · rw [b2i_0, decide_eq_false_iff_not] at c8
    refine g_iconst (v := (-1)) hX dX5_hears_22 (by decide) ?_
    refine g_iret hM dX5_hears_23 rfl (rfl) ⟨Nat.le_of_ble_eq_true rfl, Nat.le_of_ble_eq_true rfl⟩ ?_
    refine q_int ?_ hq
    unfold hearsA
    rw [if_neg (fun e => c8 e.1)]
  · rw [b2i_n0, decide_eq_true_eq] at c8
    obtain ⟨t, htT, rfl⟩ := inN_of c8
    refine g_aload_n hX dX5_hears_11 rfl rfl ?_
    refine g_getR hX dX5_hears_12 flX5_48 (by assumption) rfl (by first | assumption | rfl) (by first | assumption | exact Nat.succ_ne_zero _) ?_
    refine g_iload_n hX dX5_hears_15 rfl rfl ?_
    refine g_callV (md' := mX4_hasPerson) (ci := 4) (As := [.int _]) hX hR dX5_hears_16 clX5_99 okX4_hasPerson rfl (by assumption) rfl rfl (Nat.le_of_ble_eq_true rfl) (Nat.le_of_ble_eq_true rfl) ⟨Nat.le_of_ble_eq_true rfl, Nat.le_of_ble_eq_true rfl⟩ ?_
    refine sp_X4_hasPerson hTw r0 (by omega) ?_
    change GW _ _ _ 19 _ [.int _] _ _ 0 0
    refine g_ifne 24 hX dX5_hears_19 (by decide) (fun c19 => ?_) (fun c19 => ?_)
    · rw [b2i_n0, decide_eq_true_eq] at c19
      obtain ⟨p, hpP, rfl⟩ := inN_of c19
      refine g_aload_n hX dX5_hears_24 rfl rfl ?_
      refine g_getR hX dX5_hears_25 flX5_19 (by assumption) rfl (by first | assumption | rfl) (by first | assumption | exact Nat.succ_ne_zero _) ?_
      refine g_iload_n hX dX5_hears_28 rfl rfl ?_
      refine g_callV (md' := mX2_knowersOf) (ci := 2) (As := [.int _]) hX hR dX5_hears_29 clX5_130 okX2_knowersOf rfl (by assumption) rfl rfl (Nat.le_of_ble_eq_true rfl) (Nat.le_of_ble_eq_true rfl) ⟨Nat.le_of_ble_eq_true rfl, Nat.le_of_ble_eq_true rfl⟩ ?_
      refine sp_X2_knowersOf (P := P) (T := T) (s := s) hSt hP hT hs hSR htT ?_
      change GW _ _ _ 32 _ [.int _] _ _ 0 0
      refine g_istore_n (lv' := [(3, .int _), (0, .ref _), (1, .int _), (2, .int _)]) hX dX5_hears_32 rfl (by decide) rfl ?_
      refine g_iconst (v := nI 0) hX dX5_hears_33 (by decide) ?_
      refine g_istore (lv' := [(4, .int _), (3, .int _), (0, .ref _), (1, .int _), (2, .int _)]) hX dX5_hears_34 (by decide) rfl ?_
      refine g_pick [0, 1, 2, 3, 4] rfl (lp_X5_hears_36 hM hCR htT hpP ?_ (P + 1) 0 rfl (Nat.zero_le _) (fun k hk => absurd hk (Nat.not_lt_zero _)))
      refine q_int ?_ hq
      unfold hearsA
      rw [if_pos ⟨c8, c19⟩, nI_clamp (by omega), nI_clamp (by omega)]
    · rw [b2i_0, decide_eq_false_iff_not] at c19
      refine g_iconst (v := (-1)) hX dX5_hears_22 (by decide) ?_
      refine g_iret hM dX5_hears_23 rfl (rfl) ⟨Nat.le_of_ble_eq_true rfl, Nat.le_of_ble_eq_true rfl⟩ ?_
      refine q_int ?_ hq
      unfold hearsA
      rw [if_neg (fun e => c19 e.2)]
