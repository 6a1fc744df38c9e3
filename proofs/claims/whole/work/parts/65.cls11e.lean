set_option maxHeartbeats 4000000 in
set_option maxRecDepth 100000 in
theorem sp_X0_sum {Γ : Ga} {d : Nat} {κ : Kp} {I : Ip} {Q : Option Value → Kp → Ip → Prop} {p P : Nat} (hPa : PaK κ p) (hP : P ≤ 6) (hq : Q (some (.int (I (κ.2.1 p 1) (2 ^ P - 1)))) κ I) : Sp Γ (d + 1) mX0_sum [.ref (p), .int (nI P)] κ I Q := by
  obtain ⟨pk, pz, ⟨q0, z0⟩, ⟨q1, z1⟩, ⟨q2, z2⟩, ⟨q3, z3⟩, d12⟩ := id hPa
  intro X hM
  have hX := hM.std
  have hR := hM.room
  show GW _ mX0_sum X 0 [(0, .ref (p)), (1, .int (nI P))] [] _ _ 0 0
  refine g_aload_n hX dX0_sum_0 rfl rfl ?_
  refine g_getR hX dX0_sum_1 flX0_15 (by assumption) rfl (by first | assumption | rfl) (by assumption) ?_
  refine g_iload_n hX dX0_sum_4 rfl rfl ?_
  refine g_callS (md' := mX5_bit) (As := [.int _]) hX hR dX0_sum_5 clX0_48 okX5_bit rfl rfl (Nat.le_of_ble_eq_true rfl) (Nat.le_of_ble_eq_true rfl) ⟨Nat.le_of_ble_eq_true rfl, Nat.le_of_ble_eq_true rfl⟩ ?_
  refine sp_X5_bit ?_
  change GW _ _ _ 8 _ [.int _, .ref _] _ _ 0 0
  refine g_iconst (v := nI 1) hX dX0_sum_8 (by decide) ?_
  rw [bitI_nI, bit1_pow (by omega)]
  refine g_isub hX dX0_sum_9 ?_
  rw [bmI hP]
  refine g_callS (md' := mX5_at) (As := [.ref _, .int _]) hX hR dX0_sum_10 clX0_37 okX5_at rfl rfl (Nat.le_of_ble_eq_true rfl) (Nat.le_of_ble_eq_true rfl) ⟨Nat.le_of_ble_eq_true rfl, Nat.le_of_ble_eq_true rfl⟩ ?_
  obtain ⟨e1, e2⟩ := pow6 hP
  refine sp_X5_at (by assumption) (by decide) ?_
  rw [atV_in (by omega) (by decide)]
  change GW _ _ _ 13 _ [.int _] _ _ 0 0
  refine g_iret hM dX0_sum_13 rfl (rfl) ⟨Nat.le_of_ble_eq_true rfl, Nat.le_of_ble_eq_true rfl⟩ ?_
  exact hq
