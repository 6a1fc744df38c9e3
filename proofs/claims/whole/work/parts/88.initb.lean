set_option maxHeartbeats 4000000 in
set_option maxRecDepth 100000 in
theorem fr_X5_init_126 {Γ : Ga} {d : Nat} {κ : Kp} {Q : Option Value → Kp → Ip → Prop} {X : Cx} {I : Ip} {c : Nat} (hM : Mx Γ (d + 6) mX5_init Q X) (hC : CK κ c) (htx : TxC κ (c + 1) I TXB 119) (hq : ∀ (κ' : Kp) (J : Ip), CR κ' c J R0.2.1 R0.2.2.1 R0.1 (laidS R0.1) [] [] TXB 0 → KF c κ κ' → COut c I J → Q none κ' J) : GW Γ mX5_init X 126 [(0, .ref (c))] [] κ (I) 63 805 := by
  have hX := hM.std
  have hR := hM.room
  obtain ⟨cz, ckd, g0, g1, g2, g3, g4, g5, -⟩ := id hC
  have hk0 : κ.1 c = (5, 0) := ckd 0 (by decide)
  have hTx := hC.txo
  obtain ⟨hSt, e34⟩ := hC.now
  obtain ⟨hA, e56⟩ := hC.ahd
  have hS7 := hC.sh7
  have hS25 := hC.sh25
  have hPa := hC.pa
  have hTwL := hC.tw6
  have hSpL := hC.tw7
  have hTw := hTwL.1
  have k1 := hTx.1
  have k3 := hSt.1
  have k5 := hA.1
  have k7 := hS7.1
  have k25 := hS25.1
  have k31 := hPa.1
  have k6 := hTw.1
  have ks := hSpL.1.1
  have z6 := hTw.2.1
  have zs := hSpL.1.2.1
  have htt := hC.two
  refine g_aload_n hX dX5_init_126 rfl rfl ?_
  refine g_getR hX dX5_init_127 flX5_10 (by assumption) rfl (by first | assumption | rfl) (by first | assumption | exact Nat.succ_ne_zero _) ?_
  refine g_aload_n hX dX5_init_130 rfl rfl ?_
  refine g_getR hX dX5_init_131 flX5_52 (by assumption) rfl (by first | assumption | rfl) (by first | assumption | exact Nat.succ_ne_zero _) ?_
  refine g_callV (md' := mX3_readInto) (ci := 3) (As := [.ref _]) hX hR dX5_init_134 clX5_71 okX3_readInto rfl (by assumption) rfl rfl (Nat.le_of_ble_eq_true rfl) (Nat.le_of_ble_eq_true rfl) ⟨Nat.le_of_ble_eq_true rfl, Nat.le_of_ble_eq_true rfl⟩ ?_
  refine sp_X3_readInto hTx hSpL htx (fun J hF hn => ?_)
  change GW _ _ _ 137 _ [.int (fltA (flt0 TXB 119).1)] _ _ 63 805
  have hn2 := hn first_ok
  have ok := flt_ok (tx := TXB) (sz := 119) 200 _ (ok_0 119)
  change OkR R0 119 at ok
  have hTR0 : TwR κ J (κ.2.1 c 7) R0.1 R0.2.1 R0.2.2.1 := hn2
  obtain ⟨ow, -, -⟩ := id ok
  have hfr := rd_cfr hSpL hF
  change GW _ _ _ 137 _ [.int _] _ _ _ _
  refine g_iconst (v := (-1)) hX dX5_init_137 (by decide) ?_
  refine g_icmpne 145 hX dX5_init_138 (by decide) (fun c138 => ?_) (fun c138 => ?_)
  · exact absurd (by rw [first_ok]; rfl) c138
  · refine g_aload_n hX dX5_init_141 rfl rfl ?_
    refine g_callV (md' := mX5_moveIn) (ci := 5) (As := []) hX hR dX5_init_142 clX5_75 okX5_moveIn rfl (by assumption) rfl rfl (Nat.le_of_ble_eq_true rfl) (Nat.le_of_ble_eq_true rfl) ⟨Nat.le_of_ble_eq_true rfl, Nat.le_of_ble_eq_true rfl⟩ ?_
    refine sp_X5_moveIn hC hTR0 ow (by rw [first_P.1]; decide) (hF.txc hTx hSpL.1 htx) (fun κ' J2 j1 j2 j3 => ?_)
    change GW _ _ _ 145 _ [] _ _ _ _
    refine g_pick [0] rfl (fr_X5_init_145 hM j2 (fun J3 y1 y2 => hq κ' J3 y1 j1 (COut.tr (COut.tr (fun a ha => hfr.1 a (by omega) (by omega) (by omega) (by have := htt.lo; omega) (by omega)) j3) y2)))
