set_option maxHeartbeats 4000000 in
set_option maxRecDepth 100000 in
theorem sp_X5_twos {Γ : Ga} {d : Nat} {κ : Kp} {I : Ip} {Q : Option Value → Kp → Ip → Prop} {c P T : Nat} {w s : Nat → Int32} {past kept : List (Nat → Int32)} {tx : Nat → Int32} {sz : Nat} {x y : Int32} (hCR : CR κ c I P T w s past kept tx sz)  (hq : ∀ (κ' : Kp) (J : Ip), KF c κ κ' → CR κ' c J (P) (T) (w) (s) (past) (kept) (tx) (sz) → COut c I J → Q (some (.int (twosA w s P T x y))) κ' J) : Sp Γ (d + 8) mX5_twos [.ref (c), .int (x), .int (y)] κ I Q := by
  obtain ⟨hC, hTR, hw, hP1, hSR, hs, hpa, hpl, hke, hkl, htx⟩ := id hCR
  obtain ⟨hw0, hw1, hP, hT, -⟩ := id hw
  obtain ⟨cz, ckd, g0, g1, g2, g3, g4, g5, -⟩ := id hC
  have hk0 : κ.1 c = (5, 0) := ckd 0 (by decide)
  have hTx := hC.txo
  obtain ⟨hSt, e34⟩ := hC.now
  obtain ⟨hA, e56⟩ := hC.ahd
  have hS7 := hC.sh7
  have hS25 := hC.sh25
  have hPa := hC.pa
  have hTwL := hC.tw6
  have hSpL := hC.tw7
  have hTw := hTwL.1
  have k1 := hTx.1
  have k3 := hSt.1
  have k5 := hA.1
  have k7 := hS7.1
  have k25 := hS25.1
  have k31 := hPa.1
  have k6 := hTw.1
  have ks := hSpL.1.1
  have z6 := hTw.2.1
  have zs := hSpL.1.2.1
  have htt := hC.two
  rw [← e34] at hSR
  obtain ⟨r0, r1, r2, r3, r4, r5, r6, r7, r8⟩ := id hTR
  intro X hM
  have hX := hM.std
  have hR := hM.room
  show GW _ mX5_twos X 0 [(0, .ref (c)), (1, .int (x)), (2, .int (y))] [] _ _ 0 0
  refine g_iload_n hX dX5_twos_0 rfl rfl ?_
  refine g_callS (md' := mX5_isSpan) (As := [.int _]) hX hR dX5_twos_1 clX5_185 okX5_isSpan rfl rfl (Nat.le_of_ble_eq_true rfl) (Nat.le_of_ble_eq_true rfl) ⟨Nat.le_of_ble_eq_true rfl, Nat.le_of_ble_eq_true rfl⟩ ?_
  refine sp_X5_isSpan ?_
  change GW _ _ _ 4 _ [.int _] _ _ 0 0
  refine g_ifeq 23 hX dX5_twos_4 (by decide) (fun c4 => ?_) (fun c4 => ?_)
  · rw [b2i_0, decide_eq_false_iff_not] at c4
    refine g_iconst (v := (-1)) hX dX5_twos_23 (by decide) ?_
    refine g_iret hM dX5_twos_24 rfl (rfl) ⟨Nat.le_of_ble_eq_true rfl, Nat.le_of_ble_eq_true rfl⟩ ?_
    refine q_int ?_ (hq κ I KF.rf hCR COut.rf)
    unfold twosA
    rw [if_neg (fun e => c4 e.1)]
  · rw [b2i_n0, decide_eq_true_eq] at c4
    obtain ⟨mn, hmn1, hmn, rfl⟩ := inR_of c4
    refine g_iload_n hX dX5_twos_7 rfl rfl ?_
    refine g_iconst (v := (-1)) hX dX5_twos_8 (by decide) ?_
    refine g_icmpeq 25 hX dX5_twos_9 (by decide) (fun c9 => ?_) (fun c9 => ?_)
    · refine g_aload_n hX dX5_twos_25 rfl rfl ?_
      refine g_iload_n hX dX5_twos_26 rfl rfl ?_
      refine g_callV (md' := mX5_pairAll) (ci := 5) (As := [.int _]) hX hR dX5_twos_27 clX5_235 okX5_pairAll rfl (by assumption) rfl rfl (Nat.le_of_ble_eq_true rfl) (Nat.le_of_ble_eq_true rfl) ⟨Nat.le_of_ble_eq_true rfl, Nat.le_of_ble_eq_true rfl⟩ ?_
      refine sp_X5_pairAll hCR hmn (fun J hF hB hD hm => ?_)
      obtain ⟨z1, z2⟩ := hCR.fr hF
      obtain ⟨t1, t2⟩ := two_all2 hw hs hmn
      have r0J : J (κ.2.1 c 6) 0 = nI P := z1.2.1.1
      change GW _ _ _ 30 _ [] _ _ 0 0
      refine g_iload_n hX dX5_twos_30 rfl rfl ?_
      refine g_iconst (v := (-1)) hX dX5_twos_31 (by decide) ?_
      refine g_icmpne 50 hX dX5_twos_32 (by decide) (fun c32 => ?_) (fun c32 => ?_)
      · exact absurd c9 c32
      · refine g_aload_n hX dX5_twos_35 rfl rfl ?_
        refine g_getR hX dX5_twos_36 flX5_41 (by assumption) rfl (by first | assumption | rfl) (by first | assumption | exact Nat.succ_ne_zero _) ?_
        refine g_aload_n hX dX5_twos_39 rfl rfl ?_
        refine g_getR hX dX5_twos_40 flX5_48 (by assumption) rfl (by first | assumption | rfl) (by first | assumption | exact Nat.succ_ne_zero _) ?_
        refine g_getI hX dX5_twos_43 flX5_88 (by assumption) rfl ?_
        refine g_callV (md' := mX0_sum) (ci := 0) (As := [.int _]) hX hR dX5_twos_46 clX5_238 okX0_sum rfl (by assumption) rfl rfl (Nat.le_of_ble_eq_true rfl) (Nat.le_of_ble_eq_true rfl) ⟨Nat.le_of_ble_eq_true rfl, Nat.le_of_ble_eq_true rfl⟩ ?_
        rw [r0J]
        refine sp_X0_sum hPa hP ?_
        change GW _ _ _ 49 _ [.int _] _ _ 0 0
        refine g_iret hM dX5_twos_49 rfl (rfl) ⟨Nat.le_of_ble_eq_true rfl, Nat.le_of_ble_eq_true rfl⟩ ?_
        refine q_int ?_ (hq κ J KF.rf z1 z2)
        unfold twosA
        rw [if_pos ⟨c4, Or.inl c9⟩, if_pos c9, nI_clamp (by omega), t1, hD]
    · refine g_aload_n hX dX5_twos_12 rfl rfl ?_
      refine g_getR hX dX5_twos_13 flX5_48 (by assumption) rfl (by first | assumption | rfl) (by first | assumption | exact Nat.succ_ne_zero _) ?_
      refine g_iload_n hX dX5_twos_16 rfl rfl ?_
      refine g_callV (md' := mX4_hasPerson) (ci := 4) (As := [.int _]) hX hR dX5_twos_17 clX5_99 okX4_hasPerson rfl (by assumption) rfl rfl (Nat.le_of_ble_eq_true rfl) (Nat.le_of_ble_eq_true rfl) ⟨Nat.le_of_ble_eq_true rfl, Nat.le_of_ble_eq_true rfl⟩ ?_
      refine sp_X4_hasPerson hTw r0 (by omega) ?_
      change GW _ _ _ 20 _ [.int _] _ _ 0 0
      refine g_ifne 25 hX dX5_twos_20 (by decide) (fun c20 => ?_) (fun c20 => ?_)
      · rw [b2i_n0, decide_eq_true_eq] at c20
        obtain ⟨x2, hx2, rfl⟩ := inN_of c20
        refine g_aload_n hX dX5_twos_25 rfl rfl ?_
        refine g_iload_n hX dX5_twos_26 rfl rfl ?_
        refine g_callV (md' := mX5_pairAll) (ci := 5) (As := [.int _]) hX hR dX5_twos_27 clX5_235 okX5_pairAll rfl (by assumption) rfl rfl (Nat.le_of_ble_eq_true rfl) (Nat.le_of_ble_eq_true rfl) ⟨Nat.le_of_ble_eq_true rfl, Nat.le_of_ble_eq_true rfl⟩ ?_
        refine sp_X5_pairAll hCR hmn (fun J hF hB hD hm => ?_)
        obtain ⟨z1, z2⟩ := hCR.fr hF
        obtain ⟨t1, t2⟩ := two_all2 hw hs hmn
        have r0J : J (κ.2.1 c 6) 0 = nI P := z1.2.1.1
        change GW _ _ _ 30 _ [] _ _ 0 0
        refine g_iload_n hX dX5_twos_30 rfl rfl ?_
        refine g_iconst (v := (-1)) hX dX5_twos_31 (by decide) ?_
        refine g_icmpne 50 hX dX5_twos_32 (by decide) (fun c32 => ?_) (fun c32 => ?_)
        · refine g_aload_n hX dX5_twos_50 rfl rfl ?_
          refine g_getR hX dX5_twos_51 flX5_41 (by assumption) rfl (by first | assumption | rfl) (by first | assumption | exact Nat.succ_ne_zero _) ?_
          refine g_iload_n hX dX5_twos_54 rfl rfl ?_
          refine g_callV (md' := mX0_mateOf) (ci := 0) (As := [.int _]) hX hR dX5_twos_55 clX5_241 okX0_mateOf rfl (by assumption) rfl rfl (Nat.le_of_ble_eq_true rfl) (Nat.le_of_ble_eq_true rfl) ⟨Nat.le_of_ble_eq_true rfl, Nat.le_of_ble_eq_true rfl⟩ ?_
          refine sp_X0_mateOf hPa (by omega) ?_
          rw [hm x2 hx2, ← t2 x2 hx2]
          obtain ⟨md, emd⟩ : ∃ md, md = bwF (lkF w) (wbF w s T mn (s 9) (-4)) P x2 := ⟨_, rfl⟩
          have hmd : md ≤ P := by rw [emd]; exact dig_le _ _ _
          rw [← emd]
          change GW _ _ _ 58 _ [.int _] _ _ 0 0
          refine g_istore_n (lv' := [(3, .int _), (0, .ref _), (1, .int _), (2, .int _)]) hX dX5_twos_58 rfl (by decide) rfl ?_
          refine g_iload_n hX dX5_twos_59 rfl rfl ?_
          refine g_iconst (v := (-1)) hX dX5_twos_60 (by decide) ?_
          refine g_icmpne 69 hX dX5_twos_61 (by decide) (fun c61 => ?_) (fun c61 => ?_)
          · rw [eI_m1 (by omega)] at c61
            refine g_iload_n hX dX5_twos_69 rfl rfl ?_
            refine g_iret hM dX5_twos_70 rfl (rfl) ⟨Nat.le_of_ble_eq_true rfl, Nat.le_of_ble_eq_true rfl⟩ ?_
            refine q_int ?_ (hq κ J KF.rf z1 z2)
            unfold twosA
            rw [if_pos ⟨c4, Or.inr c20⟩, if_neg c9, nI_clamp (by omega), nI_clamp (by omega), ← emd, if_pos (by omega), eI_n c61]
          · rw [eI_m1 (by omega)] at c61
            refine g_bipush (v := (-4)) hX dX5_twos_64 (by decide) ?_
            refine g_goto 70 hX dX5_twos_66 (by decide) ?_
            refine g_iret hM dX5_twos_70 rfl (rfl) ⟨Nat.le_of_ble_eq_true rfl, Nat.le_of_ble_eq_true rfl⟩ ?_
            refine q_int ?_ (hq κ J KF.rf z1 z2)
            unfold twosA
            rw [if_pos ⟨c4, Or.inr c20⟩, if_neg c9, nI_clamp (by omega), nI_clamp (by omega), ← emd, if_neg (by omega)]
        · exact absurd c32 c9
      · rw [b2i_0, decide_eq_false_iff_not] at c20
        refine g_iconst (v := (-1)) hX dX5_twos_23 (by decide) ?_
        refine g_iret hM dX5_twos_24 rfl (rfl) ⟨Nat.le_of_ble_eq_true rfl, Nat.le_of_ble_eq_true rfl⟩ ?_
        refine q_int ?_ (hq κ I KF.rf hCR COut.rf)
        unfold twosA
        rw [if_neg (fun e => e.2.elim c9 c20)]
