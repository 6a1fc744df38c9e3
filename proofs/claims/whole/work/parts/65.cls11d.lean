set_option maxHeartbeats 4000000 in
set_option maxRecDepth 100000 in
theorem sp_X0_hasNow {Γ : Ga} {d : Nat} {κ : Kp} {I : Ip} {Q : Option Value → Kp → Ip → Prop} {p a : Nat} (hPa : PaK κ p) (ha : a < 6) (hm : I (κ.2.1 p 3) a = -1 ∨ ∃ b, b < 6 ∧ b ≠ a ∧ I (κ.2.1 p 3) a = nI b) (hq : Q (some (.int (if I (κ.2.1 p 3) a = -1 then nI 0 else I (κ.2.1 p 0) (6 * min a (I (κ.2.1 p 3) a).toNatClampNeg + max a (I (κ.2.1 p 3) a).toNatClampNeg)))) κ I) : Sp Γ (d + 2) mX0_hasNow [.ref (p), .int (nI a)] κ I Q := by
  obtain ⟨pk, pz, ⟨q0, z0⟩, ⟨q1, z1⟩, ⟨q2, z2⟩, ⟨q3, z3⟩, d12⟩ := id hPa
  intro X hM
  have hX := hM.std
  have hR := hM.room
  show GW _ mX0_hasNow X 0 [(0, .ref (p)), (1, .int (nI a))] [] _ _ 0 0
  refine g_aload_n hX dX0_hasNow_0 rfl rfl ?_
  refine g_iload_n hX dX0_hasNow_1 rfl rfl ?_
  refine g_callV (md' := mX0_mateOf) (ci := 0) (As := [.int _]) hX hR dX0_hasNow_2 clX0_41 okX0_mateOf rfl (by assumption) rfl rfl (Nat.le_of_ble_eq_true rfl) (Nat.le_of_ble_eq_true rfl) ⟨Nat.le_of_ble_eq_true rfl, Nat.le_of_ble_eq_true rfl⟩ ?_
  refine sp_X0_mateOf hPa ha ?_
  change GW _ _ _ 5 _ [.int _] _ _ 0 0
  refine g_iconst (v := (-1)) hX dX0_hasNow_5 (by decide) ?_
  refine g_icmpne 13 hX dX0_hasNow_6 (by decide) (fun c6 => ?_) (fun c6 => ?_)
  · refine g_aload_n hX dX0_hasNow_13 rfl rfl ?_
    refine g_iload_n hX dX0_hasNow_14 rfl rfl ?_
    refine g_aload_n hX dX0_hasNow_15 rfl rfl ?_
    refine g_iload_n hX dX0_hasNow_16 rfl rfl ?_
    refine g_callV (md' := mX0_mateOf) (ci := 0) (As := [.int _]) hX hR dX0_hasNow_17 clX0_41 okX0_mateOf rfl (by assumption) rfl rfl (Nat.le_of_ble_eq_true rfl) (Nat.le_of_ble_eq_true rfl) ⟨Nat.le_of_ble_eq_true rfl, Nat.le_of_ble_eq_true rfl⟩ ?_
    refine sp_X0_mateOf hPa ha ?_
    change GW _ _ _ 20 _ [.int _, .int _, .ref _] _ _ 0 0
    refine g_callV (md' := mX0_butterOf) (ci := 0) (As := [.int _, .int _]) hX hR dX0_hasNow_20 clX0_45 okX0_butterOf rfl (by assumption) rfl rfl (Nat.le_of_ble_eq_true rfl) (Nat.le_of_ble_eq_true rfl) ⟨Nat.le_of_ble_eq_true rfl, Nat.le_of_ble_eq_true rfl⟩ ?_
    obtain ⟨b, hb, hba, eb⟩ := hm.resolve_left c6
    rw [eb]
    refine sp_X0_butterOf hPa ha hb (Ne.symm hba) ?_
    change GW _ _ _ 23 _ [.int _] _ _ 0 0
    refine g_iret hM dX0_hasNow_23 rfl (rfl) ⟨Nat.le_of_ble_eq_true rfl, Nat.le_of_ble_eq_true rfl⟩ ?_
    rw [if_neg c6, eb, nI_clamp (by omega)] at hq
    exact hq
  · refine g_iconst (v := nI 0) hX dX0_hasNow_9 (by decide) ?_
    refine g_goto 23 hX dX0_hasNow_10 (by decide) ?_
    refine g_iret hM dX0_hasNow_23 rfl (rfl) ⟨Nat.le_of_ble_eq_true rfl, Nat.le_of_ble_eq_true rfl⟩ ?_
    exact q_int (if_pos c6) hq
