set_option maxHeartbeats 4000000 in
set_option maxRecDepth 100000 in
theorem sp_X5_person {Γ : Ga} {d : Nat} {κ : Kp} {I : Ip} {Q : Option Value → Kp → Ip → Prop} {c P T : Nat} {w s : Nat → Int32} {past kept : List (Nat → Int32)} {tx : Nat → Int32} {sz : Nat} {x y : Int32} (hCR : CR κ c I P T w s past kept tx sz)  (hq : Q (some (.int (personA w s P T x y))) κ I) : Sp Γ (d + 3) mX5_person [.ref (c), .int (x), .int (y)] κ I Q := by
  obtain ⟨hC, hTR, hw, hP1, hSR, hs, hpa, hpl, hke, hkl, htx⟩ := id hCR
  obtain ⟨hw0, hw1, hP, hT, -⟩ := id hw
  obtain ⟨cz, ckd, g0, g1, g2, g3, g4, g5, -⟩ := id hC
  have hk0 : κ.1 c = (5, 0) := ckd 0 (by decide)
  have hTx := hC.txo
  obtain ⟨hSt, e34⟩ := hC.now
  obtain ⟨hA, e56⟩ := hC.ahd
  have hS7 := hC.sh7
  have hS25 := hC.sh25
  have hPa := hC.pa
  have hTwL := hC.tw6
  have hSpL := hC.tw7
  have hTw := hTwL.1
  have k1 := hTx.1
  have k3 := hSt.1
  have k5 := hA.1
  have k7 := hS7.1
  have k25 := hS25.1
  have k31 := hPa.1
  have k6 := hTw.1
  have ks := hSpL.1.1
  have z6 := hTw.2.1
  have zs := hSpL.1.2.1
  have htt := hC.two
  rw [← e34] at hSR
  obtain ⟨r0, r1, r2, r3, r4, r5, r6, r7, r8⟩ := id hTR
  intro X hM
  have hX := hM.std
  have hR := hM.room
  show GW _ mX5_person X 0 [(0, .ref (c)), (1, .int (x)), (2, .int (y))] [] _ _ 0 0
  refine g_aload_n hX dX5_person_0 rfl rfl ?_
  refine g_getR hX dX5_person_1 flX5_48 (by assumption) rfl (by first | assumption | rfl) (by first | assumption | exact Nat.succ_ne_zero _) ?_
  refine g_iload_n hX dX5_person_4 rfl rfl ?_
  refine g_callV (md' := mX4_hasPerson) (ci := 4) (As := [.int _]) hX hR dX5_person_5 clX5_99 okX4_hasPerson rfl (by assumption) rfl rfl (Nat.le_of_ble_eq_true rfl) (Nat.le_of_ble_eq_true rfl) ⟨Nat.le_of_ble_eq_true rfl, Nat.le_of_ble_eq_true rfl⟩ ?_
  refine sp_X4_hasPerson hTw r0 (by omega) ?_
  change GW _ _ _ 8 _ [.int _] _ _ 0 0
  refine g_ifne 13 hX dX5_person_8 (by decide) (fun c8 => ?_) (fun c8 => ?_)
  · rw [b2i_n0, decide_eq_true_eq] at c8
    obtain ⟨i1, hi1, rfl⟩ := inN_of c8
    refine g_iload_n hX dX5_person_13 rfl rfl ?_
    by_cases ht : y.toInt < 0 ∨ (3 : Int) < y.toInt
    · refine g_tableOut 88 hX dX5_person_14 ht (by decide) ?_
      refine g_iconst (v := (-1)) hX dX5_person_88 (by decide) ?_
      refine g_iret hM dX5_person_89 rfl (rfl) ⟨Nat.le_of_ble_eq_true rfl, Nat.le_of_ble_eq_true rfl⟩ ?_
      refine q_int ?_ hq
      unfold personA
      rw [if_pos c8, if_neg (out_ne ht (k := 0) (by decide) (by decide)), if_neg (out_ne ht (k := 1) (by decide) (by decide)), if_neg (out_ne ht (k := 2) (by decide) (by decide)), if_neg (out_ne ht (k := 3) (by decide) (by decide))]
    · obtain ⟨jj, hjj, rfl⟩ := tbl_of (hi := 3) ht
      rcases (show jj = 0 ∨ jj = 1 ∨ jj = 2 ∨ jj = 3 by omega) with rfl | rfl | rfl | rfl
      · refine g_tableIn 44 hX dX5_person_14 (by decide) (by decide) (off := 30) (by decide) (by decide) ?_
        refine g_aload_n hX dX5_person_44 rfl rfl ?_
        refine g_getR hX dX5_person_45 flX5_48 (by assumption) rfl (by first | assumption | rfl) (by first | assumption | exact Nat.succ_ne_zero _) ?_
        refine g_iload_n hX dX5_person_48 rfl rfl ?_
        refine g_callV (md' := mX4_kindOf) (ci := 4) (As := [.int _]) hX hR dX5_person_49 clX5_102 okX4_kindOf rfl (by assumption) rfl rfl (Nat.le_of_ble_eq_true rfl) (Nat.le_of_ble_eq_true rfl) ⟨Nat.le_of_ble_eq_true rfl, Nat.le_of_ble_eq_true rfl⟩ ?_
        refine sp_X4_kindOf hTw ?_
        rw [atV_in (by omega) (by decide), r2 i1 hi1]
        change GW _ _ _ 52 _ [.int _] _ _ 0 0
        refine g_iret hM dX5_person_52 rfl (rfl) ⟨Nat.le_of_ble_eq_true rfl, Nat.le_of_ble_eq_true rfl⟩ ?_
        refine q_int ?_ hq
        unfold personA
        rw [if_pos c8, if_pos rfl, nI_clamp (by omega)]
      · refine g_tableIn 53 hX dX5_person_14 (by decide) (by decide) (off := 39) (by decide) (by decide) ?_
        refine g_aload_n hX dX5_person_53 rfl rfl ?_
        refine g_getR hX dX5_person_54 flX5_48 (by assumption) rfl (by first | assumption | rfl) (by first | assumption | exact Nat.succ_ne_zero _) ?_
        refine g_iload_n hX dX5_person_57 rfl rfl ?_
        refine g_callV (md' := mX4_friendsOf) (ci := 4) (As := [.int _]) hX hR dX5_person_58 clX5_106 okX4_friendsOf rfl (by assumption) rfl rfl (Nat.le_of_ble_eq_true rfl) (Nat.le_of_ble_eq_true rfl) ⟨Nat.le_of_ble_eq_true rfl, Nat.le_of_ble_eq_true rfl⟩ ?_
        refine sp_X4_friendsOf hTw ?_
        rw [atV_in (by omega) (by decide), r3 i1 hi1]
        change GW _ _ _ 61 _ [.int _] _ _ 0 0
        refine g_iret hM dX5_person_61 rfl (rfl) ⟨Nat.le_of_ble_eq_true rfl, Nat.le_of_ble_eq_true rfl⟩ ?_
        refine q_int ?_ hq
        unfold personA
        rw [if_pos c8, if_neg (by decide), if_pos rfl, nI_clamp (by omega)]
      · refine g_tableIn 62 hX dX5_person_14 (by decide) (by decide) (off := 48) (by decide) (by decide) ?_
        refine g_aload_n hX dX5_person_62 rfl rfl ?_
        refine g_getR hX dX5_person_63 flX5_19 (by assumption) rfl (by first | assumption | rfl) (by first | assumption | exact Nat.succ_ne_zero _) ?_
        refine g_iload_n hX dX5_person_66 rfl rfl ?_
        refine g_callV (md' := mX2_knownBy) (ci := 2) (As := [.int _]) hX hR dX5_person_67 clX5_109 okX2_knownBy rfl (by assumption) rfl rfl (Nat.le_of_ble_eq_true rfl) (Nat.le_of_ble_eq_true rfl) ⟨Nat.le_of_ble_eq_true rfl, Nat.le_of_ble_eq_true rfl⟩ ?_
        refine sp_X2_knownBy hSt ?_
        rw [atV_in (by omega) (by decide), hSR.knp (by omega) (by omega)]
        change GW _ _ _ 70 _ [.int _] _ _ 0 0
        refine g_iret hM dX5_person_70 rfl (rfl) ⟨Nat.le_of_ble_eq_true rfl, Nat.le_of_ble_eq_true rfl⟩ ?_
        refine q_int ?_ hq
        unfold personA
        rw [if_pos c8, if_neg (by decide), if_neg (by decide), if_pos rfl, nI_clamp (by omega)]
      · refine g_tableIn 71 hX dX5_person_14 (by decide) (by decide) (off := 57) (by decide) (by decide) ?_
        refine g_aload_n hX dX5_person_71 rfl rfl ?_
        refine g_getR hX dX5_person_72 flX5_19 (by assumption) rfl (by first | assumption | rfl) (by first | assumption | exact Nat.succ_ne_zero _) ?_
        refine g_iload_n hX dX5_person_75 rfl rfl ?_
        refine g_callV (md' := mX2_isSeated) (ci := 2) (As := [.int _]) hX hR dX5_person_76 clX5_112 okX2_isSeated rfl (by assumption) rfl rfl (Nat.le_of_ble_eq_true rfl) (Nat.le_of_ble_eq_true rfl) ⟨Nat.le_of_ble_eq_true rfl, Nat.le_of_ble_eq_true rfl⟩ ?_
        refine sp_X2_isSeated hSt ?_
        change GW _ _ _ 79 _ [.int _] _ _ 0 0
        refine g_ifeq 86 hX dX5_person_79 (by decide) (fun c79 => ?_) (fun c79 => ?_)
        · rw [b2i_0, hSR.seated hw hs] at c79
          refine g_iconst (v := nI 0) hX dX5_person_86 (by decide) ?_
          refine g_iret hM dX5_person_87 rfl (rfl) ⟨Nat.le_of_ble_eq_true rfl, Nat.le_of_ble_eq_true rfl⟩ ?_
          refine q_int ?_ hq
          unfold personA
          rw [if_pos c8, if_neg (by decide), if_neg (by decide), if_neg (by decide), if_pos rfl, c79]
          rfl
        · rw [b2i_n0, hSR.seated hw hs] at c79
          refine g_iconst (v := nI 1) hX dX5_person_82 (by decide) ?_
          refine g_goto 87 hX dX5_person_83 (by decide) ?_
          refine g_iret hM dX5_person_87 rfl (rfl) ⟨Nat.le_of_ble_eq_true rfl, Nat.le_of_ble_eq_true rfl⟩ ?_
          refine q_int ?_ hq
          unfold personA
          rw [if_pos c8, if_neg (by decide), if_neg (by decide), if_neg (by decide), if_pos rfl, c79]
          rfl
  · rw [b2i_0, decide_eq_false_iff_not] at c8
    refine g_iconst (v := (-1)) hX dX5_person_11 (by decide) ?_
    refine g_iret hM dX5_person_12 rfl (rfl) ⟨Nat.le_of_ble_eq_true rfl, Nat.le_of_ble_eq_true rfl⟩ ?_
    refine q_int ?_ hq
    unfold personA
    rw [if_neg c8]
