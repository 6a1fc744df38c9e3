set_option maxHeartbeats 4000000 in
set_option maxRecDepth 100000 in
theorem fr_X5_sit_47 {Γ : Ga} {d : Nat} {κ : Kp} {Q : Option Value → Kp → Ip → Prop} {X : Cx} {I : Ip} {i j : Nat} {c P T : Nat} {w s : Nat → Int32} {pl kept : List (Nat → Int32)} {tx : Nat → Int32} {sz : Nat} (hM : Mx Γ (d + 3) mX5_sit Q X) (hCR : CR κ c I P T w s pl kept tx sz) (hi : i < P) (hj : j < P) (hij : i ≠ j) (hq : ∀ J : Ip, CR κ c J P T w (sitF s (nI i) (nI j)) pl kept tx sz → COut c I J → Q (some (.int (tellF w s T i (nI j) (nI 0)))) κ J) : GW Γ mX5_sit X 47 [(0, .ref (c)), (1, .int (nI i)), (2, .int (nI j))] [] κ (I) 0 0 := by
  have hX := hM.std
  have hR := hM.room
  obtain ⟨hC, hTR, hw, hP1, hSR, hs, hpa, hpl, hke, hkl, htx⟩ := id hCR
  obtain ⟨hw0, hw1, hP, hT, -⟩ := id hw
  obtain ⟨cz, ckd, g0, g1, g2, g3, g4, g5, -⟩ := id hC
  have hk0 : κ.1 c = (5, 0) := ckd 0 (by decide)
  have hTx := hC.txo
  obtain ⟨hSt, e34⟩ := hC.now
  obtain ⟨hA, e56⟩ := hC.ahd
  have hS7 := hC.sh7
  have hS25 := hC.sh25
  have hPa := hC.pa
  have hTwL := hC.tw6
  have hSpL := hC.tw7
  have hTw := hTwL.1
  have k1 := hTx.1
  have k3 := hSt.1
  have k5 := hA.1
  have k7 := hS7.1
  have k25 := hS25.1
  have k31 := hPa.1
  have k6 := hTw.1
  have ks := hSpL.1.1
  have z6 := hTw.2.1
  have zs := hSpL.1.2.1
  have htt := hC.two
  rw [← e34] at hSR
  obtain ⟨r0, r1, r2, r3, r4, r5, r6, r7, r8⟩ := id hTR
  refine g_aload_n hX dX5_sit_47 rfl rfl ?_
  refine g_getR hX dX5_sit_48 flX5_19 (by assumption) rfl (by first | assumption | rfl) (by first | assumption | exact Nat.succ_ne_zero _) ?_
  refine g_iload_n hX dX5_sit_51 rfl rfl ?_
  refine g_iload_n hX dX5_sit_52 rfl rfl ?_
  refine g_callV (md' := mX2_seat) (ci := 2) (As := [.int _, .int _]) hX hR dX5_sit_53 clX5_169 okX2_seat rfl (by assumption) rfl rfl (Nat.le_of_ble_eq_true rfl) (Nat.le_of_ble_eq_true rfl) ⟨Nat.le_of_ble_eq_true rfl, Nat.le_of_ble_eq_true rfl⟩ ?_
  refine sp_X2_seat hSt ?_
  rw [sst_f (κ := κ) (st := c + 3)]
  obtain ⟨z1, z2⟩ := hCR.nowS (K := I (κ.2.1 (c + 3) 0)) (f := seatV (I (c + 3)) (nI i) (nI j)) (wfs_sit hw hs hi hj hij) (hSR.seat hT (by omega))
  change GW _ _ _ 56 _ [] κ (sst κ (c + 3) I (I (κ.2.1 (c + 3) 0)) (seatV (I (c + 3)) (nI i) (nI j))) 0 0
  generalize sst κ (c + 3) I (I (κ.2.1 (c + 3) 0)) (seatV (I (c + 3)) (nI i) (nI j)) = J at z1 z2 ⊢
  obtain ⟨-, hTR2, -, -, hSR2, -⟩ := id z1
  rw [← e34] at hSR2
  change GW _ _ _ 56 _ [] _ _ 0 0
  refine g_aload_n hX dX5_sit_56 rfl rfl ?_
  refine g_getR hX dX5_sit_57 flX5_19 (by assumption) rfl (by first | assumption | rfl) (by first | assumption | exact Nat.succ_ne_zero _) ?_
  refine g_aload_n hX dX5_sit_60 rfl rfl ?_
  refine g_getR hX dX5_sit_61 flX5_48 (by assumption) rfl (by first | assumption | rfl) (by first | assumption | exact Nat.succ_ne_zero _) ?_
  refine g_iload_n hX dX5_sit_64 rfl rfl ?_
  refine g_iload_n hX dX5_sit_65 rfl rfl ?_
  refine g_callV (md' := mX2_mayTell) (ci := 2) (As := [.ref _, .int _, .int _]) hX hR dX5_sit_66 clX5_173 okX2_mayTell rfl (by assumption) rfl rfl (Nat.le_of_ble_eq_true rfl) (Nat.le_of_ble_eq_true rfl) ⟨Nat.le_of_ble_eq_true rfl, Nat.le_of_ble_eq_true rfl⟩ ?_
  refine sp_X2_mayTell hSt hTw ?_
  rw [mt_tell0 hTR2 hw hSR2 hi hj, tell_sit hT]
  change GW _ _ _ 69 _ [.int _] _ _ 0 0
  refine g_iret hM dX5_sit_69 rfl (rfl) ⟨Nat.le_of_ble_eq_true rfl, Nat.le_of_ble_eq_true rfl⟩ ?_
  exact hq _ z1 z2
