set_option maxHeartbeats 4000000 in
set_option maxRecDepth 100000 in
theorem sp_X5_moveIn {Γ : Ga} {d : Nat} {κ : Kp} {I : Ip} {Q : Option Value → Kp → Ip → Prop} {c P T : Nat} {w : Nat → Int32} {tx : Nat → Int32} {sz : Nat} (hC : CK κ c) (hTR : TwR κ I (κ.2.1 c 7) w P T) (hw : WfT w P T) (hP1 : 0 < P) (htx : TxC κ (c + 1) I tx sz) (hq : ∀ (κ' : Kp) (J : Ip), KF c κ κ' → CR κ' c J P T w (laidS w) [] [] tx sz → COut c I J → Q none κ' J) : Sp Γ (d + 3) mX5_moveIn [.ref (c)] κ I Q := by
  obtain ⟨cz, ckd, g0, g1, g2, g3, g4, g5, -⟩ := id hC
  have hk0 : κ.1 c = (5, 0) := ckd 0 (by decide)
  have hTx := hC.txo
  obtain ⟨hSt, e34⟩ := hC.now
  obtain ⟨hA, e56⟩ := hC.ahd
  have hS7 := hC.sh7
  have hS25 := hC.sh25
  have hPa := hC.pa
  have hTwL := hC.tw6
  have hSpL := hC.tw7
  have hTw := hTwL.1
  have k1 := hTx.1
  have k3 := hSt.1
  have k5 := hA.1
  have k7 := hS7.1
  have k25 := hS25.1
  have k31 := hPa.1
  have k6 := hTw.1
  have ks := hSpL.1.1
  have z6 := hTw.2.1
  have zs := hSpL.1.2.1
  have htt := hC.two
  intro X hM
  have hX := hM.std
  have hR := hM.room
  show GW _ mX5_moveIn X 0 [(0, .ref (c))] [] _ _ 0 0
  refine g_aload_n hX dX5_moveIn_0 rfl rfl ?_
  refine g_getR hX dX5_moveIn_1 flX5_48 (by assumption) rfl (by first | assumption | rfl) (by first | assumption | exact Nat.succ_ne_zero _) ?_
  refine g_astore_n (lv' := [(1, .ref _), (0, .ref _)]) hX dX5_moveIn_4 rfl (by decide) rfl ?_
  refine g_aload_n hX dX5_moveIn_5 rfl rfl ?_
  refine g_aload_n hX dX5_moveIn_6 rfl rfl ?_
  refine g_getR hX dX5_moveIn_7 flX5_52 (by assumption) rfl (by first | assumption | rfl) (by first | assumption | exact Nat.succ_ne_zero _) ?_
  refine g_putR hX dX5_moveIn_10 flX5_48 (by assumption) rfl (by assumption) (Or.inl rfl) ?_
  refine g_kp (show _ = kR κ c (va_up (κ.2.1 c) 6 (κ.2.1 c 7)) from rfl) ?_
  refine g_aload_n hX dX5_moveIn_13 rfl rfl ?_
  refine g_aload_n hX dX5_moveIn_14 rfl rfl ?_
  refine g_putR hX dX5_moveIn_15 flX5_52 (by assumption) rfl (by assumption) (Or.inl rfl) ?_
  rw [kR_up]
  have e6 : (kR κ c (va_up (va_up (κ.2.1 c) 6 (κ.2.1 c 7)) 7 (κ.2.1 c 6))).2.1 c 6 = κ.2.1 c 7 := by rw [kR_A]; rfl
  exact g_pick [1] rfl (fr_X5_moveIn_18 hM hC.swap (by rw [e6]; exact hTR.kR (by have := htt.lo; omega)) hw hP1 (htx.kR (by omega)) (fun J j1 j2 => hq _ J ⟨rfl, rfl, fun a ha => kR_ne (by omega)⟩ j1 j2))
