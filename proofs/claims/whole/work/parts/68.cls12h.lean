set_option maxHeartbeats 4000000 in
set_option maxRecDepth 100000 in
theorem sp_X5_lay {Γ : Ga} {d : Nat} {κ : Kp} {I : Ip} {Q : Option Value → Kp → Ip → Prop} {c P T : Nat} {w s : Nat → Int32} {past kept : List (Nat → Int32)} {tx : Nat → Int32} {sz : Nat}  (hCR : CR κ c I P T w s past kept tx sz) (hq0 : (¬ (flt0 tx sz).1 = none ∨ (flt0 tx sz).2.2.1 = 0) → ∀ (κ' : Kp) (J : Ip), KF c κ κ' → CR κ' c J (P) (T) (w) (s) (past) (kept) (tx) (sz) → COut c I J → Q (some (.int (-2))) κ' J) (hq : (flt0 tx sz).1 = none → (flt0 tx sz).2.2.1 ≠ 0 → ∀ (κ' : Kp) (J : Ip), KF c κ κ' → CR κ' c J ((flt0 tx sz).2.2.1) ((flt0 tx sz).2.2.2.1) ((flt0 tx sz).2.1) (laidS (flt0 tx sz).2.1) ([]) ([]) (tx) (sz) → COut c I J → Q (some (.int (nI (flt0 tx sz).2.2.1))) κ' J) : Sp Γ (d + 6) mX5_lay [.ref (c)] κ I Q := by
  obtain ⟨hC, hTR, hw, hP1, hSR, hs, hpa, hpl, hke, hkl, htx⟩ := id hCR
  obtain ⟨hw0, hw1, hP, hT, -⟩ := id hw
  obtain ⟨cz, ckd, g0, g1, g2, g3, g4, g5, -⟩ := id hC
  have hk0 : κ.1 c = (5, 0) := ckd 0 (by decide)
  have hTx := hC.txo
  obtain ⟨hSt, e34⟩ := hC.now
  obtain ⟨hA, e56⟩ := hC.ahd
  have hS7 := hC.sh7
  have hS25 := hC.sh25
  have hPa := hC.pa
  have hTwL := hC.tw6
  have hSpL := hC.tw7
  have hTw := hTwL.1
  have k1 := hTx.1
  have k3 := hSt.1
  have k5 := hA.1
  have k7 := hS7.1
  have k25 := hS25.1
  have k31 := hPa.1
  have k6 := hTw.1
  have ks := hSpL.1.1
  have z6 := hTw.2.1
  have zs := hSpL.1.2.1
  have htt := hC.two
  rw [← e34] at hSR
  obtain ⟨r0, r1, r2, r3, r4, r5, r6, r7, r8⟩ := id hTR
  intro X hM
  have hX := hM.std
  have hR := hM.room
  show GW _ mX5_lay X 0 [(0, .ref (c))] [] _ _ 0 0
  refine g_aload_n hX dX5_lay_0 rfl rfl ?_
  refine g_getR hX dX5_lay_1 flX5_10 (by assumption) rfl (by first | assumption | rfl) (by first | assumption | exact Nat.succ_ne_zero _) ?_
  refine g_aload_n hX dX5_lay_4 rfl rfl ?_
  refine g_getR hX dX5_lay_5 flX5_52 (by assumption) rfl (by first | assumption | rfl) (by first | assumption | exact Nat.succ_ne_zero _) ?_
  refine g_callV (md' := mX3_readInto) (ci := 3) (As := [.ref _]) hX hR dX5_lay_8 clX5_71 okX3_readInto rfl (by assumption) rfl rfl (Nat.le_of_ble_eq_true rfl) (Nat.le_of_ble_eq_true rfl) ⟨Nat.le_of_ble_eq_true rfl, Nat.le_of_ble_eq_true rfl⟩ ?_
  refine sp_X3_readInto hTx hSpL htx (fun J hF hn => ?_)
  change GW _ _ _ 11 _ [.int (fltA (flt0 tx sz).1)] _ _ 0 0
  change GW _ _ _ 11 _ [.int _] _ _ 0 0
  refine g_iconst (v := (-1)) hX dX5_lay_11 (by decide) ?_
  refine g_icmpne 25 hX dX5_lay_12 (by decide) (fun c12 => ?_) (fun c12 => ?_)
  · rw [flt_m1 htx.2.1] at c12
    refine g_bipush (v := (-2)) hX dX5_lay_25 (by decide) ?_
    refine g_iret hM dX5_lay_27 rfl (rfl) ⟨Nat.le_of_ble_eq_true rfl, Nat.le_of_ble_eq_true rfl⟩ ?_
    obtain ⟨z1, z2⟩ := hCR.fr (rd_cfr hSpL hF)
    exact hq0 (Or.inl c12) κ _ KF.rf z1 z2
  · rw [flt_m1 htx.2.1] at c12
    have hn2 := hn c12
    have ok := flt_ok (tx := tx) 200 _ (ok_0 sz)
    change OkR (flt0 tx sz).2 sz at ok
    obtain ⟨ow, -, -⟩ := id ok
    have hP6 := ow.2.2.1
    refine g_aload_n hX dX5_lay_15 rfl rfl ?_
    refine g_getR hX dX5_lay_16 flX5_52 (by assumption) rfl (by first | assumption | rfl) (by first | assumption | exact Nat.succ_ne_zero _) ?_
    refine g_getI hX dX5_lay_19 flX5_88 (by assumption) rfl ?_
    refine g_ifne 28 hX dX5_lay_22 (by decide) (fun c22 => ?_) (fun c22 => ?_)
    · rw [hn2.1, nI_z0 (by omega)] at c22
      refine g_aload_n hX dX5_lay_28 rfl rfl ?_
      refine g_callV (md' := mX5_moveIn) (ci := 5) (As := []) hX hR dX5_lay_29 clX5_75 okX5_moveIn rfl (by assumption) rfl rfl (Nat.le_of_ble_eq_true rfl) (Nat.le_of_ble_eq_true rfl) ⟨Nat.le_of_ble_eq_true rfl, Nat.le_of_ble_eq_true rfl⟩ ?_
      refine sp_X5_moveIn hC hn2 ow (by omega) (hF.txc hTx hSpL.1 htx) (fun κ' J2 j1 j2 j3 => ?_)
      change GW _ _ _ 32 _ [] _ _ 0 0
      exact g_pick [0] rfl (fr_X5_lay_32 hM j2 (hq c12 c22 κ' J2 j1 j2 ((hCR.fr (rd_cfr hSpL hF)).2.tr j3)))
    · rw [hn2.1, nI_z0 (by omega)] at c22
      refine g_bipush (v := (-2)) hX dX5_lay_25 (by decide) ?_
      refine g_iret hM dX5_lay_27 rfl (rfl) ⟨Nat.le_of_ble_eq_true rfl, Nat.le_of_ble_eq_true rfl⟩ ?_
      obtain ⟨z1, z2⟩ := hCR.fr (rd_cfr hSpL hF)
      exact hq0 (Or.inr c22) κ _ KF.rf z1 z2
