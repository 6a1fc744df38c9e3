set_option maxHeartbeats 4000000 in
set_option maxRecDepth 100000 in
theorem sp_X0_butterOf {Γ : Ga} {d : Nat} {κ : Kp} {I : Ip} {Q : Option Value → Kp → Ip → Prop} {p a b : Nat} (hPa : PaK κ p) (ha : a < 6) (hb : b < 6) (hab : a ≠ b) (hq : Q (some (.int (I (κ.2.1 p 0) (6 * min a b + max a b)))) κ I) : Sp Γ (d + 1) mX0_butterOf [.ref (p), .int (nI a), .int (nI b)] κ I Q := by
  obtain ⟨pk, pz, ⟨q0, z0⟩, ⟨q1, z1⟩, ⟨q2, z2⟩, ⟨q3, z3⟩, d12⟩ := id hPa
  intro X hM
  have hX := hM.std
  have hR := hM.room
  show GW _ mX0_butterOf X 0 [(0, .ref (p)), (1, .int (nI a)), (2, .int (nI b))] [] _ _ 0 0
  refine g_aload_n hX dX0_butterOf_0 rfl rfl ?_
  refine g_getR hX dX0_butterOf_1 flX0_9 (by assumption) rfl (by first | assumption | rfl) (by assumption) ?_
  refine g_bipush (v := nI 6) hX dX0_butterOf_4 (by decide) ?_
  refine g_iload_n hX dX0_butterOf_6 rfl rfl ?_
  refine g_iload_n hX dX0_butterOf_7 rfl rfl ?_
  refine g_min hX hR dX0_butterOf_8 mmX0_28 mmin_st mmath_in mmin_co (Nat.le_of_ble_eq_true rfl) ⟨Nat.le_of_ble_eq_true rfl, Nat.le_of_ble_eq_true rfl⟩ ?_
  refine g_imul hX dX0_butterOf_11 ?_
  rw [min1 (by omega) (by omega), nI_mul]
  refine g_iload_n hX dX0_butterOf_12 rfl rfl ?_
  refine g_iload_n hX dX0_butterOf_13 rfl rfl ?_
  refine g_max hX hR dX0_butterOf_14 mmX0_34 mmax_st mmath_in mmax_co (Nat.le_of_ble_eq_true rfl) ⟨Nat.le_of_ble_eq_true rfl, Nat.le_of_ble_eq_true rfl⟩ ?_
  refine g_iadd hX dX0_butterOf_17 ?_
  rw [max2 (by omega) (by omega), nI_add]
  refine g_callS (md' := mX5_at) (As := [.ref _, .int _]) hX hR dX0_butterOf_18 clX0_37 okX5_at rfl rfl (Nat.le_of_ble_eq_true rfl) (Nat.le_of_ble_eq_true rfl) ⟨Nat.le_of_ble_eq_true rfl, Nat.le_of_ble_eq_true rfl⟩ ?_
  refine sp_X5_at (by assumption) (by decide) ?_
  rw [atV_in (by omega) (by decide)]
  change GW _ _ _ 21 _ [.int _] _ _ 0 0
  refine g_iret hM dX0_butterOf_21 rfl (rfl) ⟨Nat.le_of_ble_eq_true rfl, Nat.le_of_ble_eq_true rfl⟩ ?_
  exact hq
