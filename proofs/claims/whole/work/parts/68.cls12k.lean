set_option maxHeartbeats 4000000 in
set_option maxRecDepth 100000 in
theorem sp_X5_churn {Γ : Ga} {d : Nat} {κ : Kp} {I : Ip} {Q : Option Value → Kp → Ip → Prop} {c P T : Nat} {w s : Nat → Int32} {past kept : List (Nat → Int32)} {tx : Nat → Int32} {sz : Nat} {x : Int32} (hCR : CR κ c I P T w s past kept tx sz)  (hq : Q (some (.int (churnA s x))) κ I) : Sp Γ (d + 3) mX5_churn [.ref (c), .int (x)] κ I Q := by
  obtain ⟨hC, hTR, hw, hP1, hSR, hs, hpa, hpl, hke, hkl, htx⟩ := id hCR
  obtain ⟨hw0, hw1, hP, hT, -⟩ := id hw
  obtain ⟨cz, ckd, g0, g1, g2, g3, g4, g5, -⟩ := id hC
  have hk0 : κ.1 c = (5, 0) := ckd 0 (by decide)
  have hTx := hC.txo
  obtain ⟨hSt, e34⟩ := hC.now
  obtain ⟨hA, e56⟩ := hC.ahd
  have hS7 := hC.sh7
  have hS25 := hC.sh25
  have hPa := hC.pa
  have hTwL := hC.tw6
  have hSpL := hC.tw7
  have hTw := hTwL.1
  have k1 := hTx.1
  have k3 := hSt.1
  have k5 := hA.1
  have k7 := hS7.1
  have k25 := hS25.1
  have k31 := hPa.1
  have k6 := hTw.1
  have ks := hSpL.1.1
  have z6 := hTw.2.1
  have zs := hSpL.1.2.1
  have htt := hC.two
  rw [← e34] at hSR
  obtain ⟨r0, r1, r2, r3, r4, r5, r6, r7, r8⟩ := id hTR
  intro X hM
  have hX := hM.std
  have hR := hM.room
  show GW _ mX5_churn X 0 [(0, .ref (c)), (1, .int (x))] [] _ _ 0 0
  refine g_iload_n hX dX5_churn_0 rfl rfl ?_
  refine g_iconst (v := nI 0) hX dX5_churn_1 (by decide) ?_
  refine g_iconst (v := nI 5) hX dX5_churn_2 (by decide) ?_
  refine g_callS (md' := mX5_isWithin) (As := [.int _, .int _, .int _]) hX hR dX5_churn_3 clX5_81 okX5_isWithin rfl rfl (Nat.le_of_ble_eq_true rfl) (Nat.le_of_ble_eq_true rfl) ⟨Nat.le_of_ble_eq_true rfl, Nat.le_of_ble_eq_true rfl⟩ ?_
  refine sp_X5_isWithin (lo := 0) (hi := 5) (by decide) (by decide) ?_
  change GW _ _ _ 6 _ [.int _] _ _ 0 0
  refine g_ifne 11 hX dX5_churn_6 (by decide) (fun c6 => ?_) (fun c6 => ?_)
  · first | (rw [b2i_n0, decide_eq_true_eq] at c6) | (rw [b2i_0, decide_eq_false_iff_not] at c6)
    refine g_aload_n hX dX5_churn_11 rfl rfl ?_
    refine g_getR hX dX5_churn_12 flX5_19 (by assumption) rfl (by first | assumption | rfl) (by first | assumption | exact Nat.succ_ne_zero _) ?_
    refine g_callV (md' := mX2_anyoneSits) (ci := 2) (As := []) hX hR dX5_churn_15 clX5_133 okX2_anyoneSits rfl (by assumption) rfl rfl (Nat.le_of_ble_eq_true rfl) (Nat.le_of_ble_eq_true rfl) ⟨Nat.le_of_ble_eq_true rfl, Nat.le_of_ble_eq_true rfl⟩ ?_
    refine sp_X2_anyoneSits hSt ?_
    change GW _ _ _ 18 _ [.int _] _ _ 0 0
    refine g_ifne 24 hX dX5_churn_18 (by decide) (fun c18 => ?_) (fun c18 => ?_)
    · rw [b2i_n0, decide_eq_true_eq, hSR.sits hw hs] at c18
      obtain ⟨q2, q3, q4, q6, q5⟩ := hSR.s2 c18
      refine g_iload_n hX dX5_churn_24 rfl rfl ?_
      by_cases ht : x.toInt < 0 ∨ (4 : Int) < x.toInt
      · refine g_tableOut 115 hX dX5_churn_25 ht (by decide) ?_
        refine g_aload_n hX dX5_churn_115 rfl rfl ?_
        refine g_getR hX dX5_churn_116 flX5_19 (by assumption) rfl (by first | assumption | rfl) (by first | assumption | exact Nat.succ_ne_zero _) ?_
        refine g_getI hX dX5_churn_119 flX5_155 (by assumption) rfl ?_
        refine g_iret hM dX5_churn_122 rfl (rfl) ⟨Nat.le_of_ble_eq_true rfl, Nat.le_of_ble_eq_true rfl⟩ ?_
        obtain ⟨jj, hj1, hj2, rfl⟩ := inR_of c6
        rw [nI_toInt (by omega)] at ht
        obtain rfl : jj = 5 := by omega
        refine q_int ?_ hq
        unfold churnA
        rw [if_pos c6, if_neg c18, nI_clamp (by omega)]
        exact hSR.2.2.1.symm
      · obtain ⟨jj, hjj, rfl⟩ := tbl_of (hi := 4) ht
        rcases (show jj = 0 ∨ jj = 1 ∨ jj = 2 ∨ jj = 3 ∨ jj = 4 by omega) with rfl | rfl | rfl | rfl | rfl
        · refine g_tableIn 60 hX dX5_churn_25 (by decide) (by decide) (off := 35) (by decide) (by decide) ?_
          refine g_aload_n hX dX5_churn_60 rfl rfl ?_
          refine g_getR hX dX5_churn_61 flX5_19 (by assumption) rfl (by first | assumption | rfl) (by first | assumption | exact Nat.succ_ne_zero _) ?_
          refine g_getI hX dX5_churn_64 flX5_137 (by assumption) rfl ?_
          refine g_iret hM dX5_churn_67 rfl (rfl) ⟨Nat.le_of_ble_eq_true rfl, Nat.le_of_ble_eq_true rfl⟩ ?_
          refine q_int ?_ hq
          unfold churnA
          rw [if_pos c6, if_neg c18, nI_clamp (by omega)]
          exact q2.symm
        · refine g_tableIn 68 hX dX5_churn_25 (by decide) (by decide) (off := 43) (by decide) (by decide) ?_
          refine g_aload_n hX dX5_churn_68 rfl rfl ?_
          refine g_getR hX dX5_churn_69 flX5_19 (by assumption) rfl (by first | assumption | rfl) (by first | assumption | exact Nat.succ_ne_zero _) ?_
          refine g_getI hX dX5_churn_72 flX5_140 (by assumption) rfl ?_
          refine g_iret hM dX5_churn_75 rfl (rfl) ⟨Nat.le_of_ble_eq_true rfl, Nat.le_of_ble_eq_true rfl⟩ ?_
          refine q_int ?_ hq
          unfold churnA
          rw [if_pos c6, if_neg c18, nI_clamp (by omega)]
          exact q3.symm
        · refine g_tableIn 76 hX dX5_churn_25 (by decide) (by decide) (off := 51) (by decide) (by decide) ?_
          refine g_aload_n hX dX5_churn_76 rfl rfl ?_
          refine g_getR hX dX5_churn_77 flX5_19 (by assumption) rfl (by first | assumption | rfl) (by first | assumption | exact Nat.succ_ne_zero _) ?_
          refine g_getI hX dX5_churn_80 flX5_143 (by assumption) rfl ?_
          refine g_iret hM dX5_churn_83 rfl (rfl) ⟨Nat.le_of_ble_eq_true rfl, Nat.le_of_ble_eq_true rfl⟩ ?_
          refine q_int ?_ hq
          unfold churnA
          rw [if_pos c6, if_neg c18, nI_clamp (by omega)]
          exact q4.symm
        · refine g_tableIn 84 hX dX5_churn_25 (by decide) (by decide) (off := 59) (by decide) (by decide) ?_
          refine g_aload_n hX dX5_churn_84 rfl rfl ?_
          refine g_getR hX dX5_churn_85 flX5_19 (by assumption) rfl (by first | assumption | rfl) (by first | assumption | exact Nat.succ_ne_zero _) ?_
          refine g_callV (md' := mX2_isTelling) (ci := 2) (As := []) hX hR dX5_churn_88 clX5_146 okX2_isTelling rfl (by assumption) rfl rfl (Nat.le_of_ble_eq_true rfl) (Nat.le_of_ble_eq_true rfl) ⟨Nat.le_of_ble_eq_true rfl, Nat.le_of_ble_eq_true rfl⟩ ?_
          refine sp_X2_isTelling hSt ?_
          change GW _ _ _ 91 _ [.int _] _ _ 0 0
          refine g_ifeq 104 hX dX5_churn_91 (by decide) (fun c91 => ?_) (fun c91 => ?_)
          · rw [b2i_0, decide_eq_false_iff_not, Decidable.not_not, hSR.tells hw hs] at c91
            refine g_bipush (v := (-4)) hX dX5_churn_104 (by decide) ?_
            refine g_iret hM dX5_churn_106 rfl (rfl) ⟨Nat.le_of_ble_eq_true rfl, Nat.le_of_ble_eq_true rfl⟩ ?_
            refine q_int ?_ hq
            unfold churnA
            rw [if_pos c6, if_neg c18, nI_clamp (by omega)]
            exact c91
          · rw [b2i_n0, decide_eq_true_eq, hSR.tells hw hs] at c91
            refine g_aload_n hX dX5_churn_94 rfl rfl ?_
            refine g_getR hX dX5_churn_95 flX5_19 (by assumption) rfl (by first | assumption | rfl) (by first | assumption | exact Nat.succ_ne_zero _) ?_
            refine g_getI hX dX5_churn_98 flX5_149 (by assumption) rfl ?_
            refine g_goto 106 hX dX5_churn_101 (by decide) ?_
            refine g_iret hM dX5_churn_106 rfl (rfl) ⟨Nat.le_of_ble_eq_true rfl, Nat.le_of_ble_eq_true rfl⟩ ?_
            refine q_int ?_ hq
            unfold churnA
            rw [if_pos c6, if_neg c18, nI_clamp (by omega)]
            exact (q5 c91).symm
        · refine g_tableIn 107 hX dX5_churn_25 (by decide) (by decide) (off := 82) (by decide) (by decide) ?_
          refine g_aload_n hX dX5_churn_107 rfl rfl ?_
          refine g_getR hX dX5_churn_108 flX5_19 (by assumption) rfl (by first | assumption | rfl) (by first | assumption | exact Nat.succ_ne_zero _) ?_
          refine g_getI hX dX5_churn_111 flX5_152 (by assumption) rfl ?_
          refine g_iret hM dX5_churn_114 rfl (rfl) ⟨Nat.le_of_ble_eq_true rfl, Nat.le_of_ble_eq_true rfl⟩ ?_
          refine q_int ?_ hq
          unfold churnA
          rw [if_pos c6, if_neg c18, nI_clamp (by omega)]
          exact q6.symm
    · rw [b2i_0, decide_eq_false_iff_not, Decidable.not_not, hSR.sits hw hs] at c18
      refine g_bipush (v := (-4)) hX dX5_churn_21 (by decide) ?_
      refine g_iret hM dX5_churn_23 rfl (rfl) ⟨Nat.le_of_ble_eq_true rfl, Nat.le_of_ble_eq_true rfl⟩ ?_
      refine q_int ?_ hq
      unfold churnA
      rw [if_pos c6, if_pos c18]
  · first | (rw [b2i_n0, decide_eq_true_eq] at c6) | (rw [b2i_0, decide_eq_false_iff_not] at c6)
    refine g_iconst (v := (-1)) hX dX5_churn_9 (by decide) ?_
    refine g_iret hM dX5_churn_10 rfl (rfl) ⟨Nat.le_of_ble_eq_true rfl, Nat.le_of_ble_eq_true rfl⟩ ?_
    refine q_int ?_ hq
    unfold churnA
    rw [if_neg c6]
