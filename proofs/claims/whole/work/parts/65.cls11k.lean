set_option maxHeartbeats 4000000 in
set_option maxRecDepth 100000 in
theorem sp_X0_solve {Γ : Ga} {d : Nat} {κ : Kp} {I : Ip} {Q : Option Value → Kp → Ip → Prop} {p P : Nat} {lk : Nat → Nat → Bool} {v : Nat → Nat → Nat} (hPa : PaK κ p) (hP : P ≤ 6) (hB : PaB κ I p P lk v) (hv : ∀ a b, lk a b = true → v a b ≤ 1200) (hq : ∀ J : Ip, PaF κ p I J → J (κ.2.1 p 1) (2 ^ P - 1) = nI (DF lk v P (2 ^ P - 1)).1 → (∀ x, x < P → J (κ.2.1 p 3) x = eI P (bmF lk v P 64 (2 ^ P - 1) x)) → Q none κ J) : Sp Γ (d + 4) mX0_solve [.ref (p), .int (nI P)] κ I Q := by
  obtain ⟨pk, pz, ⟨q0, z0⟩, ⟨q1, z1⟩, ⟨q2, z2⟩, ⟨q3, z3⟩, d12⟩ := id hPa
  have d10 : κ.2.1 p 1 ≠ κ.2.1 p 0 := kd_ne q1 q0 (by decide)
  have d21 : κ.2.1 p 2 ≠ κ.2.1 p 1 := Ne.symm d12
  have d20 : κ.2.1 p 2 ≠ κ.2.1 p 0 := kd_ne q2 q0 (by decide)
  have d13 : κ.2.1 p 1 ≠ κ.2.1 p 3 := kd_ne q1 q3 (by decide)
  obtain ⟨e1, e2⟩ := pow6 hP
  intro X hM
  have hX := hM.std
  have hR := hM.room
  show GW _ mX0_solve X 0 [(0, .ref (p)), (1, .int (nI P))] [] _ _ 0 0
  refine g_aload_n hX dX0_solve_0 rfl rfl ?_
  refine g_getR hX dX0_solve_1 flX0_15 (by assumption) rfl (by first | assumption | rfl) (by assumption) ?_
  refine g_iconst (v := nI 0) hX dX0_solve_4 (by decide) ?_
  refine g_iconst (v := nI 0) hX dX0_solve_5 (by decide) ?_
  refine g_callS (md' := mX5_put) (As := [.ref _, .int _, .int _]) hX hR dX0_solve_6 clX0_24 okX5_put rfl rfl (Nat.le_of_ble_eq_true rfl) (Nat.le_of_ble_eq_true rfl) ⟨Nat.le_of_ble_eq_true rfl, Nat.le_of_ble_eq_true rfl⟩ ?_
  refine sp_X5_put (by assumption) (by decide) (show 0 < 64 by decide) ?_
  change GW _ _ _ 9 _ [] _ _ 0 0
  refine g_iconst (v := nI 1) hX dX0_solve_9 (by decide) ?_
  refine g_istore_n (lv' := [(2, .int _), (0, .ref _), (1, .int _)]) hX dX0_solve_10 rfl (by decide) rfl ?_
  refine g_pick [0, 1, 2] rfl (lp_X0_solve_11 (I := I) hM hPa hP hB hv hq (2 ^ P - 1) 1 _ rfl (Nat.le_refl _) e1 (fun a a1 a2 a3 => up_ne _ _ a1) (fun Z hZ => ?_))
  obtain rfl : Z = 0 := by omega
  rw [up_same, up_same]
  exact ⟨rfl, fun h => absurd rfl h⟩
