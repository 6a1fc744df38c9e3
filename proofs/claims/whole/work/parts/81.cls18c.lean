set_option maxHeartbeats 4000000 in
set_option maxRecDepth 100000 in
theorem sp_X5_held {Γ : Ga} {d : Nat} {κ : Kp} {I : Ip} {Q : Option Value → Kp → Ip → Prop} {c P T : Nat} {w s : Nat → Int32} {past kept : List (Nat → Int32)} {tx : Nat → Int32} {sz : Nat} {x y n h v part : Int32} (hCR : CR κ c I P T w s past kept tx sz)  (hq : ∀ (κ' : Kp) (J : Ip), KF c κ κ' → CR κ' c J (P) (T) (w) (s) (past) (kept) (tx) (sz) → COut c I J → Q (some (.int (heldA w s P T x y n h v part))) κ' J) : Sp Γ (d + 7) mX5_held [.ref (c), .int (x), .int (y), .int (n), .int (h), .int (v), .int (part)] κ I Q := by
  obtain ⟨hC, hTR, hw, hP1, hSR, hs, hpa, hpl, hke, hkl, htx⟩ := id hCR
  obtain ⟨hw0, hw1, hP, hT, -⟩ := id hw
  obtain ⟨cz, ckd, g0, g1, g2, g3, g4, g5, -⟩ := id hC
  have hk0 : κ.1 c = (5, 0) := ckd 0 (by decide)
  have hTx := hC.txo
  obtain ⟨hSt, e34⟩ := hC.now
  obtain ⟨hA, e56⟩ := hC.ahd
  have hS7 := hC.sh7
  have hS25 := hC.sh25
  have hPa := hC.pa
  have hTwL := hC.tw6
  have hSpL := hC.tw7
  have hTw := hTwL.1
  have k1 := hTx.1
  have k3 := hSt.1
  have k5 := hA.1
  have k7 := hS7.1
  have k25 := hS25.1
  have k31 := hPa.1
  have k6 := hTw.1
  have ks := hSpL.1.1
  have z6 := hTw.2.1
  have zs := hSpL.1.2.1
  have htt := hC.two
  rw [← e34] at hSR
  obtain ⟨r0, r1, r2, r3, r4, r5, r6, r7, r8⟩ := id hTR
  intro X hM
  have hX := hM.std
  have hR := hM.room
  show GW _ mX5_held X 0 [(0, .ref (c)), (1, .int (x)), (2, .int (y)), (3, .int (n)), (4, .int (h)), (5, .int (v)), (6, .int (part))] [] _ _ 0 0
  refine g_aload_n hX dX5_held_0 rfl rfl ?_
  refine g_iload_n hX dX5_held_1 rfl rfl ?_
  refine g_iload_n hX dX5_held_2 rfl rfl ?_
  refine g_callV (md' := mX5_areTwo) (ci := 5) (As := [.int _, .int _]) hX hR dX5_held_3 clX5_158 okX5_areTwo rfl (by assumption) rfl rfl (Nat.le_of_ble_eq_true rfl) (Nat.le_of_ble_eq_true rfl) ⟨Nat.le_of_ble_eq_true rfl, Nat.le_of_ble_eq_true rfl⟩ ?_
  refine sp_X5_areTwo hCR ?_
  change GW _ _ _ 6 _ [.int _] _ _ 0 0
  refine g_ifeq 49 hX dX5_held_6 (by decide) (fun c6 => ?_) (fun c6 => ?_)
  · rw [b2i_0, decide_eq_false_iff_not] at c6
    refine g_iconst (v := (-1)) hX dX5_held_49 (by decide) ?_
    refine g_iret hM dX5_held_50 rfl (rfl) ⟨Nat.le_of_ble_eq_true rfl, Nat.le_of_ble_eq_true rfl⟩ ?_
    refine q_int ?_ (hq κ I KF.rf hCR COut.rf)
    unfold heldA
    rw [if_neg (fun e => c6 e.1)]
  · rw [b2i_n0, decide_eq_true_eq] at c6
    obtain ⟨a, ha, rfl⟩ := inN_of c6.1
    obtain ⟨b, hb, rfl⟩ := inN_of c6.2.1
    have hab : a ≠ b := fun e => c6.2.2 (by rw [e])
    refine g_iload_n hX dX5_held_9 rfl rfl ?_
    refine g_callS (md' := mX5_isSpan) (As := [.int _]) hX hR dX5_held_10 clX5_185 okX5_isSpan rfl rfl (Nat.le_of_ble_eq_true rfl) (Nat.le_of_ble_eq_true rfl) ⟨Nat.le_of_ble_eq_true rfl, Nat.le_of_ble_eq_true rfl⟩ ?_
    refine sp_X5_isSpan ?_
    change GW _ _ _ 13 _ [.int _] _ _ 0 0
    refine g_ifeq 49 hX dX5_held_13 (by decide) (fun c13 => ?_) (fun c13 => ?_)
    · rw [b2i_0, decide_eq_false_iff_not] at c13
      refine g_iconst (v := (-1)) hX dX5_held_49 (by decide) ?_
      refine g_iret hM dX5_held_50 rfl (rfl) ⟨Nat.le_of_ble_eq_true rfl, Nat.le_of_ble_eq_true rfl⟩ ?_
      refine q_int ?_ (hq κ I KF.rf hCR COut.rf)
      unfold heldA
      rw [if_neg (fun e => c13 e.2.1)]
    · rw [b2i_n0, decide_eq_true_eq] at c13
      obtain ⟨mn, hmn1, hmn, rfl⟩ := inR_of c13
      refine g_iload hX dX5_held_16 rfl ?_
      refine g_iconst (v := nI 0) hX dX5_held_18 (by decide) ?_
      refine g_sipush (v := nI 999) hX dX5_held_19 (by decide) ?_
      refine g_callS (md' := mX5_isWithin) (As := [.int _, .int _, .int _]) hX hR dX5_held_22 clX5_81 okX5_isWithin rfl rfl (Nat.le_of_ble_eq_true rfl) (Nat.le_of_ble_eq_true rfl) ⟨Nat.le_of_ble_eq_true rfl, Nat.le_of_ble_eq_true rfl⟩ ?_
      refine sp_X5_isWithin (lo := 0) (hi := 999) (by decide) (by decide) ?_
      change GW _ _ _ 25 _ [.int _] _ _ 0 0
      refine g_ifeq 49 hX dX5_held_25 (by decide) (fun c25 => ?_) (fun c25 => ?_)
      · rw [b2i_0, decide_eq_false_iff_not] at c25
        refine g_iconst (v := (-1)) hX dX5_held_49 (by decide) ?_
        refine g_iret hM dX5_held_50 rfl (rfl) ⟨Nat.le_of_ble_eq_true rfl, Nat.le_of_ble_eq_true rfl⟩ ?_
        refine q_int ?_ (hq κ I KF.rf hCR COut.rf)
        unfold heldA
        rw [if_neg (fun e => c25 e.2.2.1)]
      · rw [b2i_n0, decide_eq_true_eq] at c25
        refine g_iload hX dX5_held_28 rfl ?_
        refine g_iconst (v := nI 0) hX dX5_held_30 (by decide) ?_
        refine g_bipush (v := nI 10) hX dX5_held_31 (by decide) ?_
        refine g_callS (md' := mX5_isWithin) (As := [.int _, .int _, .int _]) hX hR dX5_held_33 clX5_81 okX5_isWithin rfl rfl (Nat.le_of_ble_eq_true rfl) (Nat.le_of_ble_eq_true rfl) ⟨Nat.le_of_ble_eq_true rfl, Nat.le_of_ble_eq_true rfl⟩ ?_
        refine sp_X5_isWithin (lo := 0) (hi := 10) (by decide) (by decide) ?_
        change GW _ _ _ 36 _ [.int _] _ _ 0 0
        refine g_ifeq 49 hX dX5_held_36 (by decide) (fun c36 => ?_) (fun c36 => ?_)
        · rw [b2i_0, decide_eq_false_iff_not] at c36
          refine g_iconst (v := (-1)) hX dX5_held_49 (by decide) ?_
          refine g_iret hM dX5_held_50 rfl (rfl) ⟨Nat.le_of_ble_eq_true rfl, Nat.le_of_ble_eq_true rfl⟩ ?_
          refine q_int ?_ (hq κ I KF.rf hCR COut.rf)
          unfold heldA
          rw [if_neg (fun e => c36 e.2.2.2.1)]
        · rw [b2i_n0, decide_eq_true_eq] at c36
          obtain ⟨xx, hx0, hx, rfl⟩ := inR_of c36
          refine g_iload hX dX5_held_39 rfl ?_
          refine g_iconst (v := nI 0) hX dX5_held_41 (by decide) ?_
          refine g_iconst (v := nI 1) hX dX5_held_42 (by decide) ?_
          refine g_callS (md' := mX5_isWithin) (As := [.int _, .int _, .int _]) hX hR dX5_held_43 clX5_81 okX5_isWithin rfl rfl (Nat.le_of_ble_eq_true rfl) (Nat.le_of_ble_eq_true rfl) ⟨Nat.le_of_ble_eq_true rfl, Nat.le_of_ble_eq_true rfl⟩ ?_
          refine sp_X5_isWithin (lo := 0) (hi := 1) (by decide) (by decide) ?_
          change GW _ _ _ 46 _ [.int _] _ _ 0 0
          refine g_ifne 51 hX dX5_held_46 (by decide) (fun c46 => ?_) (fun c46 => ?_)
          · rw [b2i_n0, decide_eq_true_eq] at c46
            refine g_aload_n hX dX5_held_51 rfl rfl ?_
            refine g_getR hX dX5_held_52 flX5_48 (by assumption) rfl (by first | assumption | rfl) (by first | assumption | exact Nat.succ_ne_zero _) ?_
            refine g_iload_n hX dX5_held_55 rfl rfl ?_
            refine g_iload_n hX dX5_held_56 rfl rfl ?_
            refine g_callV (md' := mX4_areFriends) (ci := 4) (As := [.int _, .int _]) hX hR dX5_held_57 clX5_162 okX4_areFriends rfl (by assumption) rfl rfl (Nat.le_of_ble_eq_true rfl) (Nat.le_of_ble_eq_true rfl) ⟨Nat.le_of_ble_eq_true rfl, Nat.le_of_ble_eq_true rfl⟩ ?_
            refine sp_X4_areFriends hTw hTR hP ha hb ?_
            change GW _ _ _ 60 _ [.int _] _ _ 0 0
            refine g_ifne 66 hX dX5_held_60 (by decide) (fun c60 => ?_) (fun c60 => ?_)
            · rw [b2i_n0] at c60
              refine g_aload_n hX dX5_held_66 rfl rfl ?_
              refine g_getR hX dX5_held_67 flX5_19 (by assumption) rfl (by first | assumption | rfl) (by first | assumption | exact Nat.succ_ne_zero _) ?_
              refine g_aload_n hX dX5_held_70 rfl rfl ?_
              refine g_getR hX dX5_held_71 flX5_48 (by assumption) rfl (by first | assumption | rfl) (by first | assumption | exact Nat.succ_ne_zero _) ?_
              refine g_iload_n hX dX5_held_74 rfl rfl ?_
              refine g_iload_n hX dX5_held_75 rfl rfl ?_
              refine g_callV (md' := mX2_mayTell) (ci := 2) (As := [.ref _, .int _, .int _]) hX hR dX5_held_76 clX5_173 okX2_mayTell rfl (by assumption) rfl rfl (Nat.le_of_ble_eq_true rfl) (Nat.le_of_ble_eq_true rfl) ⟨Nat.le_of_ble_eq_true rfl, Nat.le_of_ble_eq_true rfl⟩ ?_
              refine sp_X2_mayTell hSt hTw ?_
              rw [mt_tell0 hTR hw hSR ha hb]
              change GW _ _ _ 79 _ [.int _] _ _ 0 0
              refine g_aload_n hX dX5_held_79 rfl rfl ?_
              refine g_getR hX dX5_held_80 flX5_19 (by assumption) rfl (by first | assumption | rfl) (by first | assumption | exact Nat.succ_ne_zero _) ?_
              refine g_aload_n hX dX5_held_83 rfl rfl ?_
              refine g_getR hX dX5_held_84 flX5_48 (by assumption) rfl (by first | assumption | rfl) (by first | assumption | exact Nat.succ_ne_zero _) ?_
              refine g_iload_n hX dX5_held_87 rfl rfl ?_
              refine g_iload_n hX dX5_held_88 rfl rfl ?_
              refine g_callV (md' := mX2_mayTell) (ci := 2) (As := [.ref _, .int _, .int _]) hX hR dX5_held_89 clX5_173 okX2_mayTell rfl (by assumption) rfl rfl (Nat.le_of_ble_eq_true rfl) (Nat.le_of_ble_eq_true rfl) ⟨Nat.le_of_ble_eq_true rfl, Nat.le_of_ble_eq_true rfl⟩ ?_
              refine sp_X2_mayTell hSt hTw ?_
              rw [mt_tell0 hTR hw hSR hb ha]
              change GW _ _ _ 92 _ [.int _, .int _] _ _ 0 0
              refine g_ior hX dX5_held_92 ?_
              obtain ⟨tl, htl5', htl⟩ := small_nI (N := 9) (x := telF w s T a b) (by decide) (fun i hi => by
                rw [tel_bt hT] at hi
                simp only [Bool.and_eq_true, decide_eq_true_eq] at hi
                omega)
              have htl5 : tl < 512 := htl5'
              rw [show (tellF w s T a (nI b) (nI 0) ||| tellF w s T b (nI a) (nI 0)) = nI tl from htl]
              refine g_istore (lv' := [(7, .int _), (0, .ref _), (1, .int _), (2, .int _), (3, .int _), (4, .int _), (5, .int _), (6, .int _)]) hX dX5_held_93 (by decide) rfl ?_
              refine g_iload hX dX5_held_95 rfl ?_
              refine g_callS (md' := mJ6_bitCount_0f7a4) (As := [.int _]) hX hR dX5_held_97 clX5_177 okJ6_bitCount_0f7a4 rfl rfl (Nat.le_of_ble_eq_true rfl) (Nat.le_of_ble_eq_true rfl) ⟨Nat.le_of_ble_eq_true rfl, Nat.le_of_ble_eq_true rfl⟩ ?_
              refine sp_J6_bitCount_0f7a4 htl5 ?_
              change GW _ _ _ 100 _ [.int _] _ _ 0 0
              refine g_istore (lv' := [(8, .int _), (7, .int _), (0, .ref _), (1, .int _), (2, .int _), (3, .int _), (4, .int _), (5, .int _), (6, .int _)]) hX dX5_held_100 (by decide) rfl ?_
              refine g_lconst (v := 0) hX dX5_held_102 (by decide) ?_
              refine g_lstore (lv' := [(9, .long _), (8, .int _), (7, .int _), (0, .ref _), (1, .int _), (2, .int _), (3, .int _), (4, .int _), (5, .int _), (6, .int _)]) hX dX5_held_103 (by decide) rfl ?_
              refine g_iconst (v := nI 0) hX dX5_held_105 (by decide) ?_
              refine g_istore (lv' := [(11, .int _), (9, .long _), (8, .int _), (7, .int _), (0, .ref _), (1, .int _), (2, .int _), (3, .int _), (4, .int _), (5, .int _), (6, .int _)]) hX dX5_held_106 (by decide) rfl ?_
              obtain ⟨B, l, m, eB, el, hl9, hBl, eA, ebl⟩ := held_eq (n := mn) (h := h) hw hs ha hb hab hx htl
              have epc : nI (pc9 tl) = nI l := by rw [el, htl, pcI_nI htl5]
              rw [epc]
              refine g_pick [0, 1, 4, 5, 6, 7, 8, 9, 10, 3, 2] rfl (lp_X5_held_108 (I := I) (x := xx) (h := h) (part := part) hM hCR ha hb c60 hmn hx htl htl5 el (fun J hF => ?_) 512 0 I rfl (by decide) CFr.rf)
              rw [← el] at eB
              rw [← eB]
              refine g_pick [1, 7, 9, 0] rfl (fr_X5_held_205 (B := B) hM hl9 hBl ?_)
              obtain ⟨z1, z2⟩ := hCR.fr hF
              refine q_int ?_ (hq κ _ KF.rf z1 z2)
              unfold heldA
              rw [if_pos ⟨c6, c13, c25, c36, c46⟩, nI_clamp (by omega), nI_clamp (by omega), if_pos c60, nI_clamp (by omega), nI_clamp (by omega), eA, ebl, red_eq]
            · rw [b2i_0] at c60
              refine g_bipush (v := (-2)) hX dX5_held_63 (by decide) ?_
              refine g_iret hM dX5_held_65 rfl (rfl) ⟨Nat.le_of_ble_eq_true rfl, Nat.le_of_ble_eq_true rfl⟩ ?_
              refine q_int ?_ (hq κ I KF.rf hCR COut.rf)
              unfold heldA
              rw [if_pos ⟨c6, c13, c25, c36, c46⟩, nI_clamp (by omega), nI_clamp (by omega), if_neg (by rw [c60]; decide)]
          · rw [b2i_0, decide_eq_false_iff_not] at c46
            refine g_iconst (v := (-1)) hX dX5_held_49 (by decide) ?_
            refine g_iret hM dX5_held_50 rfl (rfl) ⟨Nat.le_of_ble_eq_true rfl, Nat.le_of_ble_eq_true rfl⟩ ?_
            refine q_int ?_ (hq κ I KF.rf hCR COut.rf)
            unfold heldA
            rw [if_neg (fun e => c46 e.2.2.2.2)]
