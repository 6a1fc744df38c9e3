set_option maxHeartbeats 4000000 in
set_option maxRecDepth 100000 in
theorem sp_X5_count {Γ : Ga} {d : Nat} {κ : Kp} {I : Ip} {Q : Option Value → Kp → Ip → Prop} {c P T : Nat} {w s : Nat → Int32} {past kept : List (Nat → Int32)} {tx : Nat → Int32} {sz : Nat} {x : Int32} (hCR : CR κ c I P T w s past kept tx sz)  (hq : Q (some (.int (countA w s P T past kept sz x))) κ I) : Sp Γ (d + 4) mX5_count [.ref (c), .int (x)] κ I Q := by
  obtain ⟨hC, hTR, hw, hP1, hSR, hs, hpa, hpl, hke, hkl, htx⟩ := id hCR
  obtain ⟨hw0, hw1, hP, hT, -⟩ := id hw
  obtain ⟨cz, ckd, g0, g1, g2, g3, g4, g5, -⟩ := id hC
  have hk0 : κ.1 c = (5, 0) := ckd 0 (by decide)
  have hTx := hC.txo
  obtain ⟨hSt, e34⟩ := hC.now
  obtain ⟨hA, e56⟩ := hC.ahd
  have hS7 := hC.sh7
  have hS25 := hC.sh25
  have hPa := hC.pa
  have hTwL := hC.tw6
  have hSpL := hC.tw7
  have hTw := hTwL.1
  have k1 := hTx.1
  have k3 := hSt.1
  have k5 := hA.1
  have k7 := hS7.1
  have k25 := hS25.1
  have k31 := hPa.1
  have k6 := hTw.1
  have ks := hSpL.1.1
  have z6 := hTw.2.1
  have zs := hSpL.1.2.1
  have htt := hC.two
  rw [← e34] at hSR
  obtain ⟨r0, r1, r2, r3, r4, r5, r6, r7, r8⟩ := id hTR
  intro X hM
  have hX := hM.std
  have hR := hM.room
  show GW _ mX5_count X 0 [(0, .ref (c)), (1, .int (x))] [] _ _ 0 0
  refine g_iload_n hX dX5_count_0 rfl rfl ?_
  by_cases ht : x.toInt < 0 ∨ (9 : Int) < x.toInt
  · refine g_tableOut 139 hX dX5_count_1 ht (by decide) ?_
    refine g_iconst (v := (-1)) hX dX5_count_139 (by decide) ?_
    refine g_iret hM dX5_count_140 rfl (rfl) ⟨Nat.le_of_ble_eq_true rfl, Nat.le_of_ble_eq_true rfl⟩ ?_
    refine q_int ?_ hq
    unfold countA
    rw [if_neg (out_ne ht (k := 0) (by decide) (by decide)), if_neg (out_ne ht (k := 1) (by decide) (by decide)), if_neg (out_ne ht (k := 2) (by decide) (by decide)), if_neg (out_ne ht (k := 3) (by decide) (by decide)), if_neg (out_ne ht (k := 4) (by decide) (by decide)), if_neg (out_ne ht (k := 5) (by decide) (by decide)), if_neg (out_ne ht (k := 6) (by decide) (by decide)), if_neg (out_ne ht (k := 7) (by decide) (by decide)), if_neg (out_ne ht (k := 8) (by decide) (by decide)), if_neg (out_ne ht (k := 9) (by decide) (by decide))]
  · obtain ⟨jj, hjj, rfl⟩ := tbl_of (hi := 9) ht
    rcases (show jj = 0 ∨ jj = 1 ∨ jj = 2 ∨ jj = 3 ∨ jj = 4 ∨ jj = 5 ∨ jj = 6 ∨ jj = 7 ∨ jj = 8 ∨ jj = 9 by omega) with rfl | rfl | rfl | rfl | rfl | rfl | rfl | rfl | rfl | rfl
    · refine g_tableIn 56 hX dX5_count_1 (by decide) (by decide) (off := 55) (by decide) (by decide) ?_
      refine g_aload_n hX dX5_count_56 rfl rfl ?_
      refine g_getR hX dX5_count_57 flX5_48 (by assumption) rfl (by first | assumption | rfl) (by first | assumption | exact Nat.succ_ne_zero _) ?_
      refine g_getI hX dX5_count_60 flX5_88 (by assumption) rfl ?_
      refine g_iret hM dX5_count_63 rfl (rfl) ⟨Nat.le_of_ble_eq_true rfl, Nat.le_of_ble_eq_true rfl⟩ ?_
      refine q_int ?_ hq
      unfold countA
      rw [if_pos rfl]
      exact r0.symm
    · refine g_tableIn 64 hX dX5_count_1 (by decide) (by decide) (off := 63) (by decide) (by decide) ?_
      refine g_aload_n hX dX5_count_64 rfl rfl ?_
      refine g_getR hX dX5_count_65 flX5_48 (by assumption) rfl (by first | assumption | rfl) (by first | assumption | exact Nat.succ_ne_zero _) ?_
      refine g_getI hX dX5_count_68 flX5_204 (by assumption) rfl ?_
      refine g_iret hM dX5_count_71 rfl (rfl) ⟨Nat.le_of_ble_eq_true rfl, Nat.le_of_ble_eq_true rfl⟩ ?_
      refine q_int ?_ hq
      unfold countA
      rw [if_neg (by decide), if_pos rfl]
      exact r1.symm
    · refine g_tableIn 72 hX dX5_count_1 (by decide) (by decide) (off := 71) (by decide) (by decide) ?_
      refine g_aload_n hX dX5_count_72 rfl rfl ?_
      refine g_getR hX dX5_count_73 flX5_48 (by assumption) rfl (by first | assumption | rfl) (by first | assumption | exact Nat.succ_ne_zero _) ?_
      refine g_callV (md' := mX4_friendships) (ci := 4) (As := []) hX hR dX5_count_76 clX5_300 okX4_friendships rfl (by assumption) rfl rfl (Nat.le_of_ble_eq_true rfl) (Nat.le_of_ble_eq_true rfl) ⟨Nat.le_of_ble_eq_true rfl, Nat.le_of_ble_eq_true rfl⟩ ?_
      refine sp_X4_friendships hTw hTR hw ?_
      change GW _ _ _ 79 _ [.int _] _ _ 0 0
      refine g_iret hM dX5_count_79 rfl (rfl) ⟨Nat.le_of_ble_eq_true rfl, Nat.le_of_ble_eq_true rfl⟩ ?_
      refine q_int ?_ hq
      unfold countA
      rw [if_neg (by decide), if_neg (by decide), if_pos rfl]
    · refine g_tableIn 80 hX dX5_count_1 (by decide) (by decide) (off := 79) (by decide) (by decide) ?_
      refine g_aload_n hX dX5_count_80 rfl rfl ?_
      refine g_getR hX dX5_count_81 flX5_19 (by assumption) rfl (by first | assumption | rfl) (by first | assumption | exact Nat.succ_ne_zero _) ?_
      refine g_getI hX dX5_count_84 flX5_303 (by assumption) rfl ?_
      refine g_iret hM dX5_count_87 rfl (rfl) ⟨Nat.le_of_ble_eq_true rfl, Nat.le_of_ble_eq_true rfl⟩ ?_
      refine q_int ?_ hq
      unfold countA
      rw [if_neg (by decide), if_neg (by decide), if_neg (by decide), if_pos rfl]
      exact hSR.2.2.2.1.symm
    · refine g_tableIn 88 hX dX5_count_1 (by decide) (by decide) (off := 87) (by decide) (by decide) ?_
      refine g_aload_n hX dX5_count_88 rfl rfl ?_
      refine g_getR hX dX5_count_89 flX5_19 (by assumption) rfl (by first | assumption | rfl) (by first | assumption | exact Nat.succ_ne_zero _) ?_
      refine g_getI hX dX5_count_92 flX5_192 (by assumption) rfl ?_
      refine g_iret hM dX5_count_95 rfl (rfl) ⟨Nat.le_of_ble_eq_true rfl, Nat.le_of_ble_eq_true rfl⟩ ?_
      refine q_int ?_ hq
      unfold countA
      rw [if_neg (by decide), if_neg (by decide), if_neg (by decide), if_neg (by decide), if_pos rfl]
      exact hSR.2.2.2.2.1.symm
    · refine g_tableIn 96 hX dX5_count_1 (by decide) (by decide) (off := 95) (by decide) (by decide) ?_
      refine g_aload_n hX dX5_count_96 rfl rfl ?_
      refine g_getR hX dX5_count_97 flX5_19 (by assumption) rfl (by first | assumption | rfl) (by first | assumption | exact Nat.succ_ne_zero _) ?_
      refine g_getI hX dX5_count_100 flX5_198 (by assumption) rfl ?_
      refine g_callS (md' := mJ6_bitCount_0f7a4) (As := [.int _]) hX hR dX5_count_103 clX5_177 okJ6_bitCount_0f7a4 rfl rfl (Nat.le_of_ble_eq_true rfl) (Nat.le_of_ble_eq_true rfl) ⟨Nat.le_of_ble_eq_true rfl, Nat.le_of_ble_eq_true rfl⟩ ?_
      rw [hSR.2.1]
      obtain ⟨kk, hkk, ekk⟩ := small_nI (N := 9) (by decide) (fun i hi => Nat.lt_of_lt_of_le (hs.2.1 i hi) hT)
      rw [ekk]
      refine sp_J6_bitCount_0f7a4 hkk ?_
      rw [← pcI_nI hkk, ← ekk]
      change GW _ _ _ 106 _ [.int _] _ _ 0 0
      refine g_iret hM dX5_count_106 rfl (rfl) ⟨Nat.le_of_ble_eq_true rfl, Nat.le_of_ble_eq_true rfl⟩ ?_
      refine q_int ?_ hq
      unfold countA
      rw [if_neg (by decide), if_neg (by decide), if_neg (by decide), if_neg (by decide), if_neg (by decide), if_pos rfl]
    · refine g_tableIn 107 hX dX5_count_1 (by decide) (by decide) (off := 106) (by decide) (by decide) ?_
      refine g_aload_n hX dX5_count_107 rfl rfl ?_
      refine g_getR hX dX5_count_108 flX5_19 (by assumption) rfl (by first | assumption | rfl) (by first | assumption | exact Nat.succ_ne_zero _) ?_
      refine g_callV (md' := mX2_knownByAll) (ci := 2) (As := []) hX hR dX5_count_111 clX5_285 okX2_knownByAll rfl (by assumption) rfl rfl (Nat.le_of_ble_eq_true rfl) (Nat.le_of_ble_eq_true rfl) ⟨Nat.le_of_ble_eq_true rfl, Nat.le_of_ble_eq_true rfl⟩ ?_
      refine sp_X2_knownByAll hSt hP hT hs hSR ?_
      change GW _ _ _ 114 _ [.int _] _ _ 0 0
      refine g_iret hM dX5_count_114 rfl (rfl) ⟨Nat.le_of_ble_eq_true rfl, Nat.le_of_ble_eq_true rfl⟩ ?_
      refine q_int ?_ hq
      unfold countA
      rw [if_neg (by decide), if_neg (by decide), if_neg (by decide), if_neg (by decide), if_neg (by decide), if_neg (by decide), if_pos rfl]
    · refine g_tableIn 115 hX dX5_count_1 (by decide) (by decide) (off := 114) (by decide) (by decide) ?_
      refine g_aload_n hX dX5_count_115 rfl rfl ?_
      refine g_getR hX dX5_count_116 flX5_31 (by assumption) rfl (by first | assumption | rfl) (by first | assumption | exact Nat.succ_ne_zero _) ?_
      refine g_callV (md' := mX1_size) (ci := 1) (As := []) hX hR dX5_count_119 clX5_211 okX1_size rfl (by assumption) rfl rfl (Nat.le_of_ble_eq_true rfl) (Nat.le_of_ble_eq_true rfl) ⟨Nat.le_of_ble_eq_true rfl, Nat.le_of_ble_eq_true rfl⟩ ?_
      refine sp_X1_size hS7 ?_
      change GW _ _ _ 122 _ [.int _] _ _ 0 0
      refine g_iret hM dX5_count_122 rfl (rfl) ⟨Nat.le_of_ble_eq_true rfl, Nat.le_of_ble_eq_true rfl⟩ ?_
      refine q_int ?_ hq
      unfold countA
      rw [if_neg (by decide), if_neg (by decide), if_neg (by decide), if_neg (by decide), if_neg (by decide), if_neg (by decide), if_neg (by decide), if_pos rfl]
      exact hpa.1.symm
    · refine g_tableIn 123 hX dX5_count_1 (by decide) (by decide) (off := 122) (by decide) (by decide) ?_
      refine g_aload_n hX dX5_count_123 rfl rfl ?_
      refine g_getR hX dX5_count_124 flX5_35 (by assumption) rfl (by first | assumption | rfl) (by first | assumption | exact Nat.succ_ne_zero _) ?_
      refine g_callV (md' := mX1_size) (ci := 1) (As := []) hX hR dX5_count_127 clX5_211 okX1_size rfl (by assumption) rfl rfl (Nat.le_of_ble_eq_true rfl) (Nat.le_of_ble_eq_true rfl) ⟨Nat.le_of_ble_eq_true rfl, Nat.le_of_ble_eq_true rfl⟩ ?_
      refine sp_X1_size hS25 ?_
      change GW _ _ _ 130 _ [.int _] _ _ 0 0
      refine g_iret hM dX5_count_130 rfl (rfl) ⟨Nat.le_of_ble_eq_true rfl, Nat.le_of_ble_eq_true rfl⟩ ?_
      refine q_int ?_ hq
      unfold countA
      rw [if_neg (by decide), if_neg (by decide), if_neg (by decide), if_neg (by decide), if_neg (by decide), if_neg (by decide), if_neg (by decide), if_neg (by decide), if_pos rfl]
      exact hke.1.symm
    · refine g_tableIn 131 hX dX5_count_1 (by decide) (by decide) (off := 130) (by decide) (by decide) ?_
      refine g_aload_n hX dX5_count_131 rfl rfl ?_
      refine g_getR hX dX5_count_132 flX5_10 (by assumption) rfl (by first | assumption | rfl) (by first | assumption | exact Nat.succ_ne_zero _) ?_
      refine g_callV (md' := mX3_size) (ci := 3) (As := []) hX hR dX5_count_135 clX5_85 okX3_size rfl (by assumption) rfl rfl (Nat.le_of_ble_eq_true rfl) (Nat.le_of_ble_eq_true rfl) ⟨Nat.le_of_ble_eq_true rfl, Nat.le_of_ble_eq_true rfl⟩ ?_
      refine sp_X3_size hTx ?_
      change GW _ _ _ 138 _ [.int _] _ _ 0 0
      refine g_iret hM dX5_count_138 rfl (rfl) ⟨Nat.le_of_ble_eq_true rfl, Nat.le_of_ble_eq_true rfl⟩ ?_
      refine q_int ?_ hq
      unfold countA
      rw [if_neg (by decide), if_neg (by decide), if_neg (by decide), if_neg (by decide), if_neg (by decide), if_neg (by decide), if_neg (by decide), if_neg (by decide), if_neg (by decide), if_pos rfl]
      exact htx.1.symm
