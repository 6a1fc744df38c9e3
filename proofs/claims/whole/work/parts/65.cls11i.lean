set_option maxHeartbeats 4000000 in
set_option maxRecDepth 100000 in
theorem sp_X0_readMates {Γ : Ga} {d : Nat} {κ : Kp} {I : Ip} {Q : Option Value → Kp → Ip → Prop} {p P : Nat} {lk : Nat → Nat → Bool} {v : Nat → Nat → Nat} (hPa : PaK κ p) (hP : P ≤ 6) (hMt : PaM κ I p P (2 ^ P) lk v) (hq : ∀ J3 : Nat → Int32, (∀ x, x < P → J3 x = eI P (bmF lk v P 64 (2 ^ P - 1) x)) → Q none κ (va_up I (κ.2.1 p 3) J3)) : Sp Γ (d + 1) mX0_readMates [.ref (p), .int (nI (2 ^ P - 1))] κ I Q := by
  obtain ⟨pk, pz, ⟨q0, z0⟩, ⟨q1, z1⟩, ⟨q2, z2⟩, ⟨q3, z3⟩, d12⟩ := id hPa
  have d31 : κ.2.1 p 2 ≠ κ.2.1 p 3 := kd_ne q2 q3 (by decide)
  obtain ⟨e1, e2⟩ := pow6 hP
  intro X hM
  have hX := hM.std
  have hR := hM.room
  show GW _ mX0_readMates X 0 [(0, .ref (p)), (1, .int (nI (2 ^ P - 1)))] [] _ _ 0 0
  refine g_iload_n hX dX0_readMates_0 rfl rfl ?_
  refine g_istore_n (lv' := [(2, .int _), (0, .ref _), (1, .int _)]) hX dX0_readMates_1 rfl (by decide) rfl ?_
  refine g_iconst (v := nI 0) hX dX0_readMates_2 (by decide) ?_
  refine g_istore_n (lv' := [(3, .int _), (2, .int _), (0, .ref _), (1, .int _)]) hX dX0_readMates_3 rfl (by decide) rfl ?_
  refine g_st (up_self I (κ.2.1 p 3)).symm (g_pick [0, 1, 2, 3] rfl (lp_X0_readMates_4 hM hPa hP hMt hq 6 0 (2 ^ P - 1) _ rfl (by omega) ⟨by omega, fun i hi => ?_, fun x hx hxb => ?_, fun _ _ => rfl⟩))
  · rw [full_bit hP, decide_eq_true_eq] at hi
    exact ⟨hi, Nat.zero_le _⟩
  · rw [full_bit hP, decide_eq_true hx] at hxb
    cases hxb
