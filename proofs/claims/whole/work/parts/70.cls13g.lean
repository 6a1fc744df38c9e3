set_option maxHeartbeats 4000000 in
set_option maxRecDepth 100000 in
theorem fr_X5_hush_38 {Γ : Ga} {d : Nat} {κ : Kp} {Q : Option Value → Kp → Ip → Prop} {X : Cx} {I : Ip} {i : Nat} {c P T : Nat} {w s : Nat → Int32} {pl kept : List (Nat → Int32)} {tx : Nat → Int32} {sz : Nat} (hM : Mx Γ (d + 3) mX5_hush Q X) (hCR : CR κ c I P T w s pl kept tx sz) (hi : i < T) (hq : ∀ J : Ip, CR κ c J P T w (va_up s 9 (s 9 ||| bit1 i)) pl kept tx sz → COut c I J → Q (some (.int (nI T - nI (pcI (s 9 ||| bit1 i))))) κ J) : GW Γ mX5_hush X 38 [(0, .ref (c)), (1, .int (nI i))] [] κ (I) 0 0 := by
  have hX := hM.std
  have hR := hM.room
  obtain ⟨hC, hTR, hw, hP1, hSR, hs, hpa, hpl, hke, hkl, htx⟩ := id hCR
  obtain ⟨hw0, hw1, hP, hT, -⟩ := id hw
  obtain ⟨cz, ckd, g0, g1, g2, g3, g4, g5, -⟩ := id hC
  have hk0 : κ.1 c = (5, 0) := ckd 0 (by decide)
  have hTx := hC.txo
  obtain ⟨hSt, e34⟩ := hC.now
  obtain ⟨hA, e56⟩ := hC.ahd
  have hS7 := hC.sh7
  have hS25 := hC.sh25
  have hPa := hC.pa
  have hTwL := hC.tw6
  have hSpL := hC.tw7
  have hTw := hTwL.1
  have k1 := hTx.1
  have k3 := hSt.1
  have k5 := hA.1
  have k7 := hS7.1
  have k25 := hS25.1
  have k31 := hPa.1
  have k6 := hTw.1
  have ks := hSpL.1.1
  have z6 := hTw.2.1
  have zs := hSpL.1.2.1
  have htt := hC.two
  rw [← e34] at hSR
  obtain ⟨r0, r1, r2, r3, r4, r5, r6, r7, r8⟩ := id hTR
  have hv : ∀ j, bt (s 9 ||| bit1 i) j = true → j < T := fun j hj => by
    rw [b_or, bt_bit1 (by omega)] at hj
    simp only [Bool.or_eq_true, decide_eq_true_eq] at hj
    rcases hj with h | h
    · exact hs.2.1 j h
    · omega
  refine g_aload_n hX dX5_hush_38 rfl rfl ?_
  refine g_getR hX dX5_hush_39 flX5_19 (by assumption) rfl (by first | assumption | rfl) (by first | assumption | exact Nat.succ_ne_zero _) ?_
  refine g_dup hX dX5_hush_42 rfl ?_
  refine g_getI hX dX5_hush_43 flX5_198 (by assumption) rfl ?_
  refine g_iload_n hX dX5_hush_46 rfl rfl ?_
  refine g_callS (md' := mX5_bit) (As := [.int _]) hX hR dX5_hush_47 clX5_201 okX5_bit rfl rfl (Nat.le_of_ble_eq_true rfl) (Nat.le_of_ble_eq_true rfl) ⟨Nat.le_of_ble_eq_true rfl, Nat.le_of_ble_eq_true rfl⟩ ?_
  refine sp_X5_bit ?_
  change GW _ _ _ 50 _ [.int _, .int _, .ref _] _ _ 0 0
  refine g_ior hX dX5_hush_50 ?_
  refine g_putI hX dX5_hush_51 flX5_198 (by assumption) rfl rfl ?_
  rw [hSR.2.1, bitI_nI, sst_f (κ := κ) (st := c + 3)]
  obtain ⟨z1, z2⟩ := hCR.nowS (K := I (κ.2.1 (c + 3) 0)) (f := va_up (I (c + 3)) 1 (s 9 ||| bit1 i)) (wfs_hush hT hs hv) (hSR.hush hT)
  generalize sst κ (c + 3) I (I (κ.2.1 (c + 3) 0)) (va_up (I (c + 3)) 1 (s 9 ||| bit1 i)) = J at z1 z2 ⊢
  obtain ⟨-, hTR2, -, -, hSR2, -⟩ := id z1
  refine g_aload_n hX dX5_hush_54 rfl rfl ?_
  refine g_getR hX dX5_hush_55 flX5_48 (by assumption) rfl (by first | assumption | rfl) (by first | assumption | exact Nat.succ_ne_zero _) ?_
  refine g_getI hX dX5_hush_58 flX5_204 (by assumption) rfl ?_
  rw [hTR2.2.1]
  refine g_aload_n hX dX5_hush_61 rfl rfl ?_
  refine g_getR hX dX5_hush_62 flX5_19 (by assumption) rfl (by first | assumption | rfl) (by first | assumption | exact Nat.succ_ne_zero _) ?_
  refine g_getI hX dX5_hush_65 flX5_198 (by assumption) rfl ?_
  rw [hSR2.2.1, up_same]
  refine g_callS (md' := mJ6_bitCount_0f7a4) (As := [.int _]) hX hR dX5_hush_68 clX5_177 okJ6_bitCount_0f7a4 rfl rfl (Nat.le_of_ble_eq_true rfl) (Nat.le_of_ble_eq_true rfl) ⟨Nat.le_of_ble_eq_true rfl, Nat.le_of_ble_eq_true rfl⟩ ?_
  obtain ⟨kk, hkk, ekk⟩ := small_nI (N := 9) (by decide) (fun i hi => Nat.lt_of_lt_of_le (hv i hi) hT)
  rw [ekk] at hq z1 ⊢
  refine sp_J6_bitCount_0f7a4 hkk ?_
  rw [← pcI_nI hkk]
  change GW _ _ _ 71 _ [.int _, .int _] _ _ 0 0
  refine g_isub hX dX5_hush_71 ?_
  refine g_iret hM dX5_hush_72 rfl (rfl) ⟨Nat.le_of_ble_eq_true rfl, Nat.le_of_ble_eq_true rfl⟩ ?_
  exact hq _ z1 z2
