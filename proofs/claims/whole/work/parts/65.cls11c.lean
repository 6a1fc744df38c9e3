set_option maxHeartbeats 4000000 in
set_option maxRecDepth 100000 in
theorem sp_X0_mateOf {Γ : Ga} {d : Nat} {κ : Kp} {I : Ip} {Q : Option Value → Kp → Ip → Prop} {p a : Nat} (hPa : PaK κ p) (ha : a < 6) (hq : Q (some (.int (I (κ.2.1 p 3) a))) κ I) : Sp Γ (d + 1) mX0_mateOf [.ref (p), .int (nI a)] κ I Q := by
  obtain ⟨pk, pz, ⟨q0, z0⟩, ⟨q1, z1⟩, ⟨q2, z2⟩, ⟨q3, z3⟩, d12⟩ := id hPa
  intro X hM
  have hX := hM.std
  have hR := hM.room
  show GW _ mX0_mateOf X 0 [(0, .ref (p)), (1, .int (nI a))] [] _ _ 0 0
  refine g_aload_n hX dX0_mateOf_0 rfl rfl ?_
  refine g_getR hX dX0_mateOf_1 flX0_21 (by assumption) rfl (by first | assumption | rfl) (by assumption) ?_
  refine g_iload_n hX dX0_mateOf_4 rfl rfl ?_
  refine g_callS (md' := mX5_at) (As := [.ref _, .int _]) hX hR dX0_mateOf_5 clX0_37 okX5_at rfl rfl (Nat.le_of_ble_eq_true rfl) (Nat.le_of_ble_eq_true rfl) ⟨Nat.le_of_ble_eq_true rfl, Nat.le_of_ble_eq_true rfl⟩ ?_
  refine sp_X5_at (by assumption) (by decide) ?_
  rw [atV_in (by omega) (by decide)]
  change GW _ _ _ 8 _ [.int _] _ _ 0 0
  refine g_iret hM dX0_mateOf_8 rfl (rfl) ⟨Nat.le_of_ble_eq_true rfl, Nat.le_of_ble_eq_true rfl⟩ ?_
  exact hq
