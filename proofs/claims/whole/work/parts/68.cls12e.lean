set_option maxHeartbeats 4000000 in
set_option maxRecDepth 100000 in
theorem fr_X5_moveIn_18 {Γ : Ga} {d : Nat} {κ : Kp} {Q : Option Value → Kp → Ip → Prop} {X : Cx} {I : Ip} {c P T : Nat} {w : Nat → Int32} {tx : Nat → Int32} {sz : Nat} (hM : Mx Γ (d + 3) mX5_moveIn Q X) (hC : CK κ c) (hTR : TwR κ I (κ.2.1 c 6) w P T) (hw : WfT w P T) (hP1 : 0 < P) (htx : TxC κ (c + 1) I tx sz) (hq : ∀ J : Ip, CR κ c J P T w (laidS w) [] [] tx sz → COut c I J → Q none κ J) : GW Γ mX5_moveIn X 18 [(0, .ref (c))] [] κ (I) 0 0 := by
  have hX := hM.std
  have hR := hM.room
  obtain ⟨cz, ckd, g0, g1, g2, g3, g4, g5, -⟩ := id hC
  have hk0 : κ.1 c = (5, 0) := ckd 0 (by decide)
  have hTx := hC.txo
  obtain ⟨hSt, e34⟩ := hC.now
  obtain ⟨hA, e56⟩ := hC.ahd
  have hS7 := hC.sh7
  have hS25 := hC.sh25
  have hPa := hC.pa
  have hTwL := hC.tw6
  have hSpL := hC.tw7
  have hTw := hTwL.1
  have k1 := hTx.1
  have k3 := hSt.1
  have k5 := hA.1
  have k7 := hS7.1
  have k25 := hS25.1
  have k31 := hPa.1
  have k6 := hTw.1
  have ks := hSpL.1.1
  have z6 := hTw.2.1
  have zs := hSpL.1.2.1
  have htt := hC.two
  obtain ⟨t1, t2, t3, t4⟩ := htt.lo
  refine g_aload_n hX dX5_moveIn_18 rfl rfl ?_
  refine g_getR hX dX5_moveIn_19 flX5_19 (by assumption) rfl (by first | assumption | rfl) (by first | assumption | exact Nat.succ_ne_zero _) ?_
  refine g_aload_n hX dX5_moveIn_22 rfl rfl ?_
  refine g_getR hX dX5_moveIn_23 flX5_48 (by assumption) rfl (by first | assumption | rfl) (by first | assumption | exact Nat.succ_ne_zero _) ?_
  refine g_callV (md' := mX2_startIn) (ci := 2) (As := [.ref _]) hX hR dX5_moveIn_26 clX5_92 okX2_startIn rfl (by assumption) rfl rfl (Nat.le_of_ble_eq_true rfl) (Nat.le_of_ble_eq_true rfl) ⟨Nat.le_of_ble_eq_true rfl, Nat.le_of_ble_eq_true rfl⟩ ?_
  refine sp_X2_startIn hSt hTw (Sep_of (c := c) hTwL (by omega) t1) hTR hw (fun K' f' hSR => ?_)
  change GW _ _ _ 29 _ [] _ _ 0 0
  refine g_aload_n hX dX5_moveIn_29 rfl rfl ?_
  refine g_getR hX dX5_moveIn_30 flX5_31 (by assumption) rfl (by first | assumption | rfl) (by first | assumption | exact Nat.succ_ne_zero _) ?_
  refine g_callV (md' := mX1_clear) (ci := 1) (As := []) hX hR dX5_moveIn_33 clX5_96 okX1_clear rfl (by assumption) rfl rfl (Nat.le_of_ble_eq_true rfl) (Nat.le_of_ble_eq_true rfl) ⟨Nat.le_of_ble_eq_true rfl, Nat.le_of_ble_eq_true rfl⟩ ?_
  refine sp_X1_clear hS7 ?_
  change GW _ _ _ 36 _ [] _ _ 0 0
  refine g_aload_n hX dX5_moveIn_36 rfl rfl ?_
  refine g_getR hX dX5_moveIn_37 flX5_35 (by assumption) rfl (by first | assumption | rfl) (by first | assumption | exact Nat.succ_ne_zero _) ?_
  refine g_callV (md' := mX1_clear) (ci := 1) (As := []) hX hR dX5_moveIn_40 clX5_96 okX1_clear rfl (by assumption) rfl rfl (Nat.le_of_ble_eq_true rfl) (Nat.le_of_ble_eq_true rfl) ⟨Nat.le_of_ble_eq_true rfl, Nat.le_of_ble_eq_true rfl⟩ ?_
  refine sp_X1_clear hS25 ?_
  change GW _ _ _ 43 _ [] _ _ 0 0
  refine g_vret hM dX5_moveIn_43 rfl ⟨Nat.le_of_ble_eq_true rfl, Nat.le_of_ble_eq_true rfl⟩ ?_
  have hne : ∀ a, a ≠ c + 3 → a ≠ c + 4 → a ≠ c + 7 → a ≠ c + 25 → va_up (va_up (sst κ (c + 3) I K' f') (c + 7) (va_up (sst κ (c + 3) I K' f' (c + 7)) 1 (nI 0))) (c + 25) (va_up (va_up (sst κ (c + 3) I K' f') (c + 7) (va_up (sst κ (c + 3) I K' f' (c + 7)) 1 (nI 0)) (c + 25)) 1 (nI 0)) a = I a := fun a a1 a2 a3 a4 => by rw [up_ne _ _ a4, up_ne _ _ a3, sst_ne a1 (by rw [e34]; exact a2)]
  refine hq _ ⟨hC, ?_, hw, hP1, ?_, wfs_laid hw, ⟨?_, fun i g hg => by simp at hg⟩, by decide, ⟨?_, fun i g hg => by simp at hg⟩, by decide, ?_⟩ (fun a ha => hne a (by omega) (by omega) (by omega) (by omega))
  · exact hC.twfr hTwL hTR (fun a a1 a2 => hne a (by omega) (by omega) (by omega) (by omega))
  · rw [up_ne _ _ (by omega), up_ne _ _ (by omega), up_ne _ _ (by omega), up_ne _ _ (by omega), sst_st, ← e34, sst_kn hSt]
    exact hSR
  · rw [up_ne _ _ (by omega), up_same, up_same]; rfl
  · rw [up_same, up_same]; rfl
  · exact hC.tfr htx (by rw [hne (c + 1) (by omega) (by omega) (by omega) (by omega)]) (hne (c + 2) (by omega) (by omega) (by omega) (by omega))
