set_option maxHeartbeats 4000000 in
set_option maxRecDepth 100000 in
theorem sp_X5_actByDraw {Γ : Ga} {d : Nat} {κ : Kp} {I : Ip} {Q : Option Value → Kp → Ip → Prop} {c P T : Nat} {w s : Nat → Int32} {past kept : List (Nat → Int32)} {tx : Nat → Int32} {sz : Nat} {dr : Nat} {s2 : Nat → Int32} (hCR : CR κ c I P T w s past kept tx sz) (hA2 : SR (I (κ.2.1 (c + 5) 0)) (I (c + 5)) s2 T) (hs2 : WfS s2 P T) (hdr : dr < 100000) (hq : ∀ K f : Nat → Int32, SR K f (drawS w s2 P T dr) T → Q none κ (sst κ (c + 5) I K f)) : Sp Γ (d + 4) mX5_actByDraw [.ref (c), .int (nI dr)] κ I Q := by
  obtain ⟨hC, hTR, hw, hP1, hSR, hs, hpa, hpl, hke, hkl, htx⟩ := id hCR
  obtain ⟨hw0, hw1, hP, hT, -⟩ := id hw
  obtain ⟨cz, ckd, g0, g1, g2, g3, g4, g5, -⟩ := id hC
  have hk0 : κ.1 c = (5, 0) := ckd 0 (by decide)
  have hTx := hC.txo
  obtain ⟨hSt, e34⟩ := hC.now
  obtain ⟨hA, e56⟩ := hC.ahd
  have hS7 := hC.sh7
  have hS25 := hC.sh25
  have hPa := hC.pa
  have hTwL := hC.tw6
  have hSpL := hC.tw7
  have hTw := hTwL.1
  have k1 := hTx.1
  have k3 := hSt.1
  have k5 := hA.1
  have k7 := hS7.1
  have k25 := hS25.1
  have k31 := hPa.1
  have k6 := hTw.1
  have ks := hSpL.1.1
  have z6 := hTw.2.1
  have zs := hSpL.1.2.1
  have htt := hC.two
  rw [← e34] at hSR
  obtain ⟨r0, r1, r2, r3, r4, r5, r6, r7, r8⟩ := id hTR
  intro X hM
  have hX := hM.std
  have hR := hM.room
  show GW _ mX5_actByDraw X 0 [(0, .ref (c)), (1, .int (nI dr))] [] _ _ 0 0
  refine g_aload_n hX dX5_actByDraw_0 rfl rfl ?_
  refine g_getR hX dX5_actByDraw_1 flX5_23 (by assumption) rfl (by first | assumption | rfl) (by first | assumption | exact Nat.succ_ne_zero _) ?_
  refine g_callV (md' := mX2_anyoneSits) (ci := 2) (As := []) hX hR dX5_actByDraw_4 clX5_133 okX2_anyoneSits rfl (by assumption) rfl rfl (Nat.le_of_ble_eq_true rfl) (Nat.le_of_ble_eq_true rfl) ⟨Nat.le_of_ble_eq_true rfl, Nat.le_of_ble_eq_true rfl⟩ ?_
  refine sp_X2_anyoneSits hA ?_
  change GW _ _ _ 7 _ [.int _] _ _ 0 0
  refine g_ifne 18 hX dX5_actByDraw_7 (by decide) (fun c7 => ?_) (fun c7 => ?_)
  · rw [b2i_n0, decide_eq_true_eq, hA2.sits hw hs2] at c7
    refine g_iload_n hX dX5_actByDraw_18 rfl rfl ?_
    refine g_bipush (v := nI 8) hX dX5_actByDraw_19 (by decide) ?_
    refine g_irem hX dX5_actByDraw_21 (by decide) ?_
    rw [nI_rem (by omega) (by decide)]
    refine g_ifne 35 hX dX5_actByDraw_22 (by decide) (fun c22 => ?_) (fun c22 => ?_)
    · rw [nI_z0 (by omega)] at c22
      refine g_iload_n hX dX5_actByDraw_35 rfl rfl ?_
      refine g_bipush (v := nI 8) hX dX5_actByDraw_36 (by decide) ?_
      refine g_irem hX dX5_actByDraw_38 (by decide) ?_
      rw [nI_rem (by omega) (by decide)]
      refine g_iconst (v := nI 1) hX dX5_actByDraw_39 (by decide) ?_
      refine g_icmpne 93 hX dX5_actByDraw_40 (by decide) (fun c40 => ?_) (fun c40 => ?_)
      · rw [nI_eq (by omega) (by omega)] at c40
        refine g_vret hM dX5_actByDraw_93 rfl ⟨Nat.le_of_ble_eq_true rfl, Nat.le_of_ble_eq_true rfl⟩ ?_
        have hz := hq (I (κ.2.1 (c + 5) 0)) (I (c + 5)) (by unfold drawS; rw [if_neg c7, if_neg c22, if_neg (fun e => c40 e.1)]; exact hA2)
        rw [sst_self] at hz
        exact hz
      · rw [nI_eq (by omega) (by omega)] at c40
        refine g_aload_n hX dX5_actByDraw_43 rfl rfl ?_
        refine g_getR hX dX5_actByDraw_44 flX5_48 (by assumption) rfl (by first | assumption | rfl) (by first | assumption | exact Nat.succ_ne_zero _) ?_
        refine g_getI hX dX5_actByDraw_47 flX5_204 (by assumption) rfl ?_
        refine g_ifle 93 hX dX5_actByDraw_50 (by decide) (fun c50 => ?_) (fun c50 => ?_)
        · replace c50 : ¬ 0 < T := fun e => absurd ((nI_gt0 (show T < 2 ^ 31 by omega)).mpr e) (by rw [r1] at c50; rw [Int32.lt_iff_toInt_lt]; rw [Int32.le_iff_toInt_le] at c50; omega)
          refine g_vret hM dX5_actByDraw_93 rfl ⟨Nat.le_of_ble_eq_true rfl, Nat.le_of_ble_eq_true rfl⟩ ?_
          have hz := hq (I (κ.2.1 (c + 5) 0)) (I (c + 5)) (by unfold drawS; rw [if_neg c7, if_neg c22, if_neg (fun e => c50 e.2)]; exact hA2)
          rw [sst_self] at hz
          exact hz
        · replace c50 : 0 < T := by
            rw [r1] at c50
            rcases Nat.eq_zero_or_pos T with e | e
            · exfalso; apply c50; rw [e]; decide
            · exact e
          have htm := Nat.mod_lt (dr / 8) c50
          refine g_iload_n hX dX5_actByDraw_53 rfl rfl ?_
          refine g_bipush (v := nI 8) hX dX5_actByDraw_54 (by decide) ?_
          refine g_idiv hX dX5_actByDraw_56 (by decide) ?_
          rw [nI_div (by omega) (by decide)]
          refine g_aload_n hX dX5_actByDraw_57 rfl rfl ?_
          refine g_getR hX dX5_actByDraw_58 flX5_48 (by assumption) rfl (by first | assumption | rfl) (by first | assumption | exact Nat.succ_ne_zero _) ?_
          refine g_getI hX dX5_actByDraw_61 flX5_204 (by assumption) rfl ?_
          refine g_irem hX dX5_actByDraw_64 (by rw [r1]; exact nI_ne0 c50 (by omega)) ?_
          rw [r1, nI_rem (by omega) (by omega)]
          refine g_istore_n (lv' := [(2, .int _), (0, .ref _), (1, .int _)]) hX dX5_actByDraw_65 rfl (by decide) rfl ?_
          refine g_aload_n hX dX5_actByDraw_66 rfl rfl ?_
          refine g_getR hX dX5_actByDraw_67 flX5_23 (by assumption) rfl (by first | assumption | rfl) (by first | assumption | exact Nat.succ_ne_zero _) ?_
          refine g_iload_n hX dX5_actByDraw_70 rfl rfl ?_
          refine g_callV (md' := mX2_canHush) (ci := 2) (As := [.int _]) hX hR dX5_actByDraw_71 clX5_195 okX2_canHush rfl (by assumption) rfl rfl (Nat.le_of_ble_eq_true rfl) (Nat.le_of_ble_eq_true rfl) ⟨Nat.le_of_ble_eq_true rfl, Nat.le_of_ble_eq_true rfl⟩ ?_
          refine sp_X2_canHush hA (by omega) ?_
          change GW _ _ _ 74 _ [.int _] _ _ 0 0
          refine g_ifeq 93 hX dX5_actByDraw_74 (by decide) (fun c74 => ?_) (fun c74 => ?_)
          · rw [b2i_0, hA2.tale hw hs2 htm] at c74
            refine g_vret hM dX5_actByDraw_93 rfl ⟨Nat.le_of_ble_eq_true rfl, Nat.le_of_ble_eq_true rfl⟩ ?_
            have hz := hq (I (κ.2.1 (c + 5) 0)) (I (c + 5)) (by unfold drawS; rw [if_neg c7, if_neg c22, if_pos ⟨c40, c50⟩, if_neg (by rw [c74]; decide), or_nI0, up_self]; exact hA2)
            rw [sst_self] at hz
            exact hz
          · rw [b2i_n0, hA2.tale hw hs2 htm] at c74
            refine g_aload_n hX dX5_actByDraw_77 rfl rfl ?_
            refine g_getR hX dX5_actByDraw_78 flX5_23 (by assumption) rfl (by first | assumption | rfl) (by first | assumption | exact Nat.succ_ne_zero _) ?_
            refine g_dup hX dX5_actByDraw_81 rfl ?_
            refine g_getI hX dX5_actByDraw_82 flX5_198 (by assumption) rfl ?_
            refine g_iload_n hX dX5_actByDraw_85 rfl rfl ?_
            refine g_callS (md' := mX5_bit) (As := [.int _]) hX hR dX5_actByDraw_86 clX5_201 okX5_bit rfl rfl (Nat.le_of_ble_eq_true rfl) (Nat.le_of_ble_eq_true rfl) ⟨Nat.le_of_ble_eq_true rfl, Nat.le_of_ble_eq_true rfl⟩ ?_
            refine sp_X5_bit ?_
            change GW _ _ _ 89 _ [.int _, .int _, .ref _] _ _ 0 0
            refine g_ior hX dX5_actByDraw_89 ?_
            rw [hA2.2.1, bitI_nI]
            refine g_putI hX dX5_actByDraw_90 flX5_198 (by assumption) rfl rfl ?_
            rw [sst_f (κ := κ) (st := c + 5)]
            refine g_vret hM dX5_actByDraw_93 rfl ⟨Nat.le_of_ble_eq_true rfl, Nat.le_of_ble_eq_true rfl⟩ ?_
            refine hq _ _ ?_
            unfold drawS
            rw [if_neg c7, if_neg c22, if_pos ⟨c40, c50⟩, if_pos c74]
            exact hA2.hush hT
    · rw [nI_z0 (by omega)] at c22
      refine g_aload_n hX dX5_actByDraw_25 rfl rfl ?_
      refine g_getR hX dX5_actByDraw_26 flX5_23 (by assumption) rfl (by first | assumption | rfl) (by first | assumption | exact Nat.succ_ne_zero _) ?_
      refine g_callV (md' := mX2_standUp) (ci := 2) (As := []) hX hR dX5_actByDraw_29 clX5_182 okX2_standUp rfl (by assumption) rfl rfl (Nat.le_of_ble_eq_true rfl) (Nat.le_of_ble_eq_true rfl) ⟨Nat.le_of_ble_eq_true rfl, Nat.le_of_ble_eq_true rfl⟩ ?_
      refine sp_X2_standUp hA ?_
      rw [sst_f (κ := κ) (st := c + 5)]
      change GW _ _ _ 32 _ [] _ _ 0 0
      refine g_goto 93 hX dX5_actByDraw_32 (by decide) ?_
      refine g_vret hM dX5_actByDraw_93 rfl ⟨Nat.le_of_ble_eq_true rfl, Nat.le_of_ble_eq_true rfl⟩ ?_
      refine hq _ _ ?_
      unfold drawS
      rw [if_neg c7, if_pos c22]
      exact hA2.std hT
  · rw [b2i_0, decide_eq_false_iff_not, Decidable.not_not, hA2.sits hw hs2] at c7
    refine g_aload_n hX dX5_actByDraw_10 rfl rfl ?_
    refine g_iload_n hX dX5_actByDraw_11 rfl rfl ?_
    refine g_callV (md' := mX5_seatByDraw) (ci := 5) (As := [.int _]) hX hR dX5_actByDraw_12 clX5_294 okX5_seatByDraw rfl (by assumption) rfl rfl (Nat.le_of_ble_eq_true rfl) (Nat.le_of_ble_eq_true rfl) ⟨Nat.le_of_ble_eq_true rfl, Nat.le_of_ble_eq_true rfl⟩ ?_
    refine sp_X5_seatByDraw hCR hA2 hs2 hdr (fun K f hS2 => ?_)
    change GW _ _ _ 15 _ [] _ _ 0 0
    refine g_goto 93 hX dX5_actByDraw_15 (by decide) ?_
    refine g_vret hM dX5_actByDraw_93 rfl ⟨Nat.le_of_ble_eq_true rfl, Nat.le_of_ble_eq_true rfl⟩ ?_
    exact hq K f (by unfold drawS; rw [if_pos c7]; exact hS2)
