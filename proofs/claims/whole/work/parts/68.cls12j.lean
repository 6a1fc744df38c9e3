set_option maxHeartbeats 4000000 in
set_option maxRecDepth 100000 in
theorem sp_X5_tale {Γ : Ga} {d : Nat} {κ : Kp} {I : Ip} {Q : Option Value → Kp → Ip → Prop} {c P T : Nat} {w s : Nat → Int32} {past kept : List (Nat → Int32)} {tx : Nat → Int32} {sz : Nat} {x y : Int32} (hCR : CR κ c I P T w s past kept tx sz)  (hq : Q (some (.int (taleA w s T x y))) κ I) : Sp Γ (d + 3) mX5_tale [.ref (c), .int (x), .int (y)] κ I Q := by
  obtain ⟨hC, hTR, hw, hP1, hSR, hs, hpa, hpl, hke, hkl, htx⟩ := id hCR
  obtain ⟨hw0, hw1, hP, hT, -⟩ := id hw
  obtain ⟨cz, ckd, g0, g1, g2, g3, g4, g5, -⟩ := id hC
  have hk0 : κ.1 c = (5, 0) := ckd 0 (by decide)
  have hTx := hC.txo
  obtain ⟨hSt, e34⟩ := hC.now
  obtain ⟨hA, e56⟩ := hC.ahd
  have hS7 := hC.sh7
  have hS25 := hC.sh25
  have hPa := hC.pa
  have hTwL := hC.tw6
  have hSpL := hC.tw7
  have hTw := hTwL.1
  have k1 := hTx.1
  have k3 := hSt.1
  have k5 := hA.1
  have k7 := hS7.1
  have k25 := hS25.1
  have k31 := hPa.1
  have k6 := hTw.1
  have ks := hSpL.1.1
  have z6 := hTw.2.1
  have zs := hSpL.1.2.1
  have htt := hC.two
  rw [← e34] at hSR
  obtain ⟨r0, r1, r2, r3, r4, r5, r6, r7, r8⟩ := id hTR
  intro X hM
  have hX := hM.std
  have hR := hM.room
  show GW _ mX5_tale X 0 [(0, .ref (c)), (1, .int (x)), (2, .int (y))] [] _ _ 0 0
  refine g_aload_n hX dX5_tale_0 rfl rfl ?_
  refine g_getR hX dX5_tale_1 flX5_48 (by assumption) rfl (by first | assumption | rfl) (by first | assumption | exact Nat.succ_ne_zero _) ?_
  refine g_iload_n hX dX5_tale_4 rfl rfl ?_
  refine g_callV (md' := mX4_hasTale) (ci := 4) (As := [.int _]) hX hR dX5_tale_5 clX5_115 okX4_hasTale rfl (by assumption) rfl rfl (Nat.le_of_ble_eq_true rfl) (Nat.le_of_ble_eq_true rfl) ⟨Nat.le_of_ble_eq_true rfl, Nat.le_of_ble_eq_true rfl⟩ ?_
  refine sp_X4_hasTale hTw r1 (by omega) ?_
  change GW _ _ _ 8 _ [.int _] _ _ 0 0
  refine g_ifne 13 hX dX5_tale_8 (by decide) (fun c8 => ?_) (fun c8 => ?_)
  · rw [b2i_n0, decide_eq_true_eq] at c8
    obtain ⟨i1, hi1, rfl⟩ := inN_of c8
    refine g_iload_n hX dX5_tale_13 rfl rfl ?_
    by_cases ht : y.toInt < 0 ∨ (4 : Int) < y.toInt
    · refine g_tableOut 101 hX dX5_tale_14 ht (by decide) ?_
      refine g_iconst (v := (-1)) hX dX5_tale_101 (by decide) ?_
      refine g_iret hM dX5_tale_102 rfl (rfl) ⟨Nat.le_of_ble_eq_true rfl, Nat.le_of_ble_eq_true rfl⟩ ?_
      refine q_int ?_ hq
      unfold taleA
      rw [if_pos c8, if_neg (out_ne ht (k := 0) (by decide) (by decide)), if_neg (out_ne ht (k := 1) (by decide) (by decide)), if_neg (out_ne ht (k := 2) (by decide) (by decide)), if_neg (out_ne ht (k := 3) (by decide) (by decide)), if_neg (out_ne ht (k := 4) (by decide) (by decide))]
    · obtain ⟨jj, hjj, rfl⟩ := tbl_of (hi := 4) ht
      rcases (show jj = 0 ∨ jj = 1 ∨ jj = 2 ∨ jj = 3 ∨ jj = 4 by omega) with rfl | rfl | rfl | rfl | rfl
      · refine g_tableIn 48 hX dX5_tale_14 (by decide) (by decide) (off := 34) (by decide) (by decide) ?_
        refine g_aload_n hX dX5_tale_48 rfl rfl ?_
        refine g_getR hX dX5_tale_49 flX5_48 (by assumption) rfl (by first | assumption | rfl) (by first | assumption | exact Nat.succ_ne_zero _) ?_
        refine g_iload_n hX dX5_tale_52 rfl rfl ?_
        refine g_callV (md' := mX4_personOf) (ci := 4) (As := [.int _]) hX hR dX5_tale_53 clX5_118 okX4_personOf rfl (by assumption) rfl rfl (Nat.le_of_ble_eq_true rfl) (Nat.le_of_ble_eq_true rfl) ⟨Nat.le_of_ble_eq_true rfl, Nat.le_of_ble_eq_true rfl⟩ ?_
        refine sp_X4_personOf hTw ?_
        rw [atV_in (by omega) (by decide), r6 i1 hi1]
        change GW _ _ _ 56 _ [.int _] _ _ 0 0
        refine g_iret hM dX5_tale_56 rfl (rfl) ⟨Nat.le_of_ble_eq_true rfl, Nat.le_of_ble_eq_true rfl⟩ ?_
        refine q_int ?_ hq
        unfold taleA
        rw [if_pos c8, if_pos rfl, nI_clamp (by omega)]
      · refine g_tableIn 57 hX dX5_tale_14 (by decide) (by decide) (off := 43) (by decide) (by decide) ?_
        refine g_aload_n hX dX5_tale_57 rfl rfl ?_
        refine g_getR hX dX5_tale_58 flX5_48 (by assumption) rfl (by first | assumption | rfl) (by first | assumption | exact Nat.succ_ne_zero _) ?_
        refine g_iload_n hX dX5_tale_61 rfl rfl ?_
        refine g_callV (md' := mX4_illOf) (ci := 4) (As := [.int _]) hX hR dX5_tale_62 clX5_121 okX4_illOf rfl (by assumption) rfl rfl (Nat.le_of_ble_eq_true rfl) (Nat.le_of_ble_eq_true rfl) ⟨Nat.le_of_ble_eq_true rfl, Nat.le_of_ble_eq_true rfl⟩ ?_
        refine sp_X4_illOf hTw ?_
        rw [atV_in (by omega) (by decide), r7 i1 hi1]
        change GW _ _ _ 65 _ [.int _] _ _ 0 0
        refine g_iret hM dX5_tale_65 rfl (rfl) ⟨Nat.le_of_ble_eq_true rfl, Nat.le_of_ble_eq_true rfl⟩ ?_
        refine q_int ?_ hq
        unfold taleA
        rw [if_pos c8, if_neg (by decide), if_pos rfl, nI_clamp (by omega)]
      · refine g_tableIn 66 hX dX5_tale_14 (by decide) (by decide) (off := 52) (by decide) (by decide) ?_
        refine g_aload_n hX dX5_tale_66 rfl rfl ?_
        refine g_getR hX dX5_tale_67 flX5_48 (by assumption) rfl (by first | assumption | rfl) (by first | assumption | exact Nat.succ_ne_zero _) ?_
        refine g_iload_n hX dX5_tale_70 rfl rfl ?_
        refine g_callV (md' := mX4_minutesOf) (ci := 4) (As := [.int _]) hX hR dX5_tale_71 clX5_124 okX4_minutesOf rfl (by assumption) rfl rfl (Nat.le_of_ble_eq_true rfl) (Nat.le_of_ble_eq_true rfl) ⟨Nat.le_of_ble_eq_true rfl, Nat.le_of_ble_eq_true rfl⟩ ?_
        refine sp_X4_minutesOf hTw ?_
        rw [atV_in (by omega) (by decide), r8 i1 hi1]
        change GW _ _ _ 74 _ [.int _] _ _ 0 0
        refine g_iret hM dX5_tale_74 rfl (rfl) ⟨Nat.le_of_ble_eq_true rfl, Nat.le_of_ble_eq_true rfl⟩ ?_
        refine q_int ?_ hq
        unfold taleA
        rw [if_pos c8, if_neg (by decide), if_neg (by decide), if_pos rfl, nI_clamp (by omega)]
      · refine g_tableIn 75 hX dX5_tale_14 (by decide) (by decide) (off := 61) (by decide) (by decide) ?_
        refine g_aload_n hX dX5_tale_75 rfl rfl ?_
        refine g_getR hX dX5_tale_76 flX5_19 (by assumption) rfl (by first | assumption | rfl) (by first | assumption | exact Nat.succ_ne_zero _) ?_
        refine g_iload_n hX dX5_tale_79 rfl rfl ?_
        refine g_callV (md' := mX2_isHushed) (ci := 2) (As := [.int _]) hX hR dX5_tale_80 clX5_127 okX2_isHushed rfl (by assumption) rfl rfl (Nat.le_of_ble_eq_true rfl) (Nat.le_of_ble_eq_true rfl) ⟨Nat.le_of_ble_eq_true rfl, Nat.le_of_ble_eq_true rfl⟩ ?_
        refine sp_X2_isHushed hSt (by omega) ?_
        change GW _ _ _ 83 _ [.int _] _ _ 0 0
        refine g_ifeq 90 hX dX5_tale_83 (by decide) (fun c83 => ?_) (fun c83 => ?_)
        · rw [b2i_0, hSR.2.1] at c83
          refine g_iconst (v := nI 0) hX dX5_tale_90 (by decide) ?_
          refine g_iret hM dX5_tale_91 rfl (rfl) ⟨Nat.le_of_ble_eq_true rfl, Nat.le_of_ble_eq_true rfl⟩ ?_
          refine q_int ?_ hq
          unfold taleA
          rw [if_pos c8, if_neg (by decide), if_neg (by decide), if_neg (by decide), if_pos rfl, nI_clamp (by omega), c83]
          rfl
        · rw [b2i_n0, hSR.2.1] at c83
          refine g_iconst (v := nI 1) hX dX5_tale_86 (by decide) ?_
          refine g_goto 91 hX dX5_tale_87 (by decide) ?_
          refine g_iret hM dX5_tale_91 rfl (rfl) ⟨Nat.le_of_ble_eq_true rfl, Nat.le_of_ble_eq_true rfl⟩ ?_
          refine q_int ?_ hq
          unfold taleA
          rw [if_pos c8, if_neg (by decide), if_neg (by decide), if_neg (by decide), if_pos rfl, nI_clamp (by omega), c83]
          rfl
      · refine g_tableIn 92 hX dX5_tale_14 (by decide) (by decide) (off := 78) (by decide) (by decide) ?_
        refine g_aload_n hX dX5_tale_92 rfl rfl ?_
        refine g_getR hX dX5_tale_93 flX5_19 (by assumption) rfl (by first | assumption | rfl) (by first | assumption | exact Nat.succ_ne_zero _) ?_
        refine g_iload_n hX dX5_tale_96 rfl rfl ?_
        refine g_callV (md' := mX2_knowersOf) (ci := 2) (As := [.int _]) hX hR dX5_tale_97 clX5_130 okX2_knowersOf rfl (by assumption) rfl rfl (Nat.le_of_ble_eq_true rfl) (Nat.le_of_ble_eq_true rfl) ⟨Nat.le_of_ble_eq_true rfl, Nat.le_of_ble_eq_true rfl⟩ ?_
        refine sp_X2_knowersOf (P := P) (T := T) (s := s) hSt hP hT hs hSR hi1 ?_
        change GW _ _ _ 100 _ [.int _] _ _ 0 0
        refine g_iret hM dX5_tale_100 rfl (rfl) ⟨Nat.le_of_ble_eq_true rfl, Nat.le_of_ble_eq_true rfl⟩ ?_
        refine q_int ?_ hq
        unfold taleA
        rw [if_pos c8, if_neg (by decide), if_neg (by decide), if_neg (by decide), if_neg (by decide), if_pos rfl, nI_clamp (by omega)]
  · rw [b2i_0, decide_eq_false_iff_not] at c8
    refine g_iconst (v := (-1)) hX dX5_tale_11 (by decide) ?_
    refine g_iret hM dX5_tale_12 rfl (rfl) ⟨Nat.le_of_ble_eq_true rfl, Nat.le_of_ble_eq_true rfl⟩ ?_
    refine q_int ?_ hq
    unfold taleA
    rw [if_neg c8]
