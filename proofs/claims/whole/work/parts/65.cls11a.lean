set_option maxHeartbeats 4000000 in
set_option maxRecDepth 100000 in
theorem sp_X0_setButter {Γ : Ga} {d : Nat} {κ : Kp} {I : Ip} {Q : Option Value → Kp → Ip → Prop} {p a b : Nat} {x : Int32} (hPa : PaK κ p) (ha : a < 6) (hb : b < 6) (hq : Q none κ (va_up I (κ.2.1 p 0) (va_up (I (κ.2.1 p 0)) (6 * a + b) x))) : Sp Γ (d + 1) mX0_setButter [.ref (p), .int (nI a), .int (nI b), .int (x)] κ I Q := by
  obtain ⟨pk, pz, ⟨q0, z0⟩, ⟨q1, z1⟩, ⟨q2, z2⟩, ⟨q3, z3⟩, d12⟩ := id hPa
  intro X hM
  have hX := hM.std
  have hR := hM.room
  show GW _ mX0_setButter X 0 [(0, .ref (p)), (1, .int (nI a)), (2, .int (nI b)), (3, .int (x))] [] _ _ 0 0
  refine g_aload_n hX dX0_setButter_0 rfl rfl ?_
  refine g_getR hX dX0_setButter_1 flX0_9 (by assumption) rfl (by first | assumption | rfl) (by assumption) ?_
  refine g_bipush (v := nI 6) hX dX0_setButter_4 (by decide) ?_
  refine g_iload_n hX dX0_setButter_6 rfl rfl ?_
  refine g_imul hX dX0_setButter_7 ?_
  rw [nI_mul]
  refine g_iload_n hX dX0_setButter_8 rfl rfl ?_
  refine g_iadd hX dX0_setButter_9 ?_
  rw [nI_add]
  refine g_iload_n hX dX0_setButter_10 rfl rfl ?_
  refine g_callS (md' := mX5_put) (As := [.ref _, .int _, .int _]) hX hR dX0_setButter_11 clX0_24 okX5_put rfl rfl (Nat.le_of_ble_eq_true rfl) (Nat.le_of_ble_eq_true rfl) ⟨Nat.le_of_ble_eq_true rfl, Nat.le_of_ble_eq_true rfl⟩ ?_
  refine sp_X5_put (by assumption) (by decide) (by omega) ?_
  change GW _ _ _ 14 _ [] _ _ 0 0
  refine g_vret hM dX0_setButter_14 rfl ⟨Nat.le_of_ble_eq_true rfl, Nat.le_of_ble_eq_true rfl⟩ ?_
  exact hq
