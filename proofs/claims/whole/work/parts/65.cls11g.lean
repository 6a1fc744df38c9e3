set_option maxHeartbeats 4000000 in
set_option maxRecDepth 100000 in
theorem sp_X0_seatLowest {Γ : Ga} {d : Nat} {κ : Kp} {I : Ip} {Q : Option Value → Kp → Ip → Prop} {p P S : Nat} {lk : Nat → Nat → Bool} {v : Nat → Nat → Nat} (hPa : PaK κ p) (hB : PaB κ I p P lk v) (hv : ∀ a b, lk a b = true → v a b ≤ 1200) (hS : S < 64) (h0 : S ≠ 0) (hSP : ∀ i, S.testBit i = true → i < P) (hMm : PaM κ I p P S lk v) (hq : Q none κ (va_up (va_up I (κ.2.1 p 2) (va_up (I (κ.2.1 p 2)) S (eI P (DF lk v P S).2))) (κ.2.1 p 1) (va_up (I (κ.2.1 p 1)) S (nI (DF lk v P S).1)))) : Sp Γ (d + 3) mX0_seatLowest [.ref (p), .int (nI S)] κ I Q := by
  obtain ⟨l1, l2, l3⟩ := lwS_ok S hS h0
  obtain ⟨c1, c2, c3⟩ := clr_lt64 S hS _ l1
  have c4 := c3 l2
  have hbo := clr_mem hS l1 hSP
  have hbd1 := DF_b hv c1 hbo
  have hE := DF_E hv hS h0 hSP
  obtain ⟨pk, pz, ⟨q0, z0⟩, ⟨q1, z1⟩, ⟨q2, z2⟩, ⟨q3, z3⟩, d12⟩ := id hPa
  intro X hM
  have hX := hM.std
  have hR := hM.room
  show GW _ mX0_seatLowest X 0 [(0, .ref (p)), (1, .int (nI S))] [] _ _ 0 0
  refine g_iload_n hX dX0_seatLowest_0 rfl rfl ?_
  refine g_callS (md' := mX5_lowestOf) (As := [.int _]) hX hR dX0_seatLowest_1 clX0_58 okX5_lowestOf rfl rfl (Nat.le_of_ble_eq_true rfl) (Nat.le_of_ble_eq_true rfl) ⟨Nat.le_of_ble_eq_true rfl, Nat.le_of_ble_eq_true rfl⟩ ?_
  refine sp_X5_lowestOf (k := S) (by omega) ?_
  rw [if_neg h0, l3]
  change GW _ _ _ 4 _ [.int _] _ _ 0 0
  refine g_istore_n (lv' := [(2, .int _), (0, .ref _), (1, .int _)]) hX dX0_seatLowest_4 rfl (by decide) rfl ?_
  refine g_iload_n hX dX0_seatLowest_5 rfl rfl ?_
  refine g_iload_n hX dX0_seatLowest_6 rfl rfl ?_
  refine g_callS (md' := mX5_bit) (As := [.int _]) hX hR dX0_seatLowest_7 clX0_48 okX5_bit rfl rfl (Nat.le_of_ble_eq_true rfl) (Nat.le_of_ble_eq_true rfl) ⟨Nat.le_of_ble_eq_true rfl, Nat.le_of_ble_eq_true rfl⟩ ?_
  refine sp_X5_bit ?_
  change GW _ _ _ 10 _ [.int _, .int _] _ _ 0 0
  refine g_iconst (v := (-1)) hX dX0_seatLowest_10 (by decide) ?_
  refine g_ixor hX dX0_seatLowest_11 ?_
  refine g_iand hX dX0_seatLowest_12 ?_
  rw [bitI_nI, clr_I _ hS _ l1]
  refine g_istore_n (lv' := [(3, .int _), (2, .int _), (0, .ref _), (1, .int _)]) hX dX0_seatLowest_13 rfl (by decide) rfl ?_
  refine g_iconst (v := (-1)) hX dX0_seatLowest_14 (by decide) ?_
  refine g_istore (lv' := [(4, .int _), (3, .int _), (2, .int _), (0, .ref _), (1, .int _)]) hX dX0_seatLowest_15 (by decide) rfl ?_
  refine g_iconst (v := (-1)) hX dX0_seatLowest_17 (by decide) ?_
  refine g_istore (lv' := [(5, .int _), (4, .int _), (3, .int _), (2, .int _), (0, .ref _), (1, .int _)]) hX dX0_seatLowest_18 (by decide) rfl ?_
  refine g_iload_n hX dX0_seatLowest_20 rfl rfl ?_
  refine g_iconst (v := nI 1) hX dX0_seatLowest_21 (by decide) ?_
  refine g_iadd hX dX0_seatLowest_22 ?_
  rw [nI_add]
  refine g_istore (lv' := [(6, .int _), (5, .int _), (4, .int _), (3, .int _), (2, .int _), (0, .ref _), (1, .int _)]) hX dX0_seatLowest_23 (by decide) rfl ?_
  refine g_pick [0, 2, 1, 4, 3, 6, 5] rfl ?_
  have hz := lp_X0_seatLowest_25 (D := DF lk v P) (low := lwS S) (o := clr S (lwS S)) (Q := Q) hM hPa hB hv hS l1 c1 c4 (fun Z hZ => (hMm Z hZ).1) hbd1 hE (fun r hr => ?_) (5 - lwS S) 0 rfl (Nat.zero_le _) (Nat.zero_le _)
  · rw [scF, eI_P, Nat.add_zero] at hz
    exact hz
  · rw [DF_s hS h0] at hq
    unfold stF at hq
    rw [← hr] at hq
    exact hq
