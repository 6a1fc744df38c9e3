set_option maxHeartbeats 4000000 in
set_option maxRecDepth 100000 in
theorem sp_X0_init {Γ : Ga} {d : Nat} {κ : Kp} {I : Ip} {Q : Option Value → Kp → Ip → Prop} {x : Nat} (hkx : κ.1 x = (0, 0)) (hx : x < κ.2.2) (hq : ∀ (κ' : Kp) (J : Ip), GrP κ κ' x 4 kd0 (fun i => i) I J → Q none κ' J) : Sp Γ (d + 1) mX0_init [.ref (x)] κ I Q := by
  have hg0 : GrP κ κ x 0 kd0 (fun i => i) I I := GrP.rf
  have kx0 := hkx
  have kn0 : κ.2.2 = κ.2.2 + 0 := rfl
  intro X hM
  have hX := hM.std
  have hR := hM.room
  show GW _ mX0_init X 0 [(0, .ref (x))] [] _ _ 0 0
  refine g_aload_n hX dX0_init_0 rfl rfl ?_
  refine g_objInit hX hR dX0_init_1 oiX0_3 wg_oi wg_oc (Nat.le_of_ble_eq_true rfl) ?_
  refine g_aload_n hX dX0_init_4 rfl rfl ?_
  refine g_bipush (v := nI 36) hX dX0_init_5 (by decide) ?_
  refine g_newI (N := 36) hX hR dX0_init_7 ac_int (by decide) (by decide) (by decide) ⟨Nat.le_of_ble_eq_true rfl, Nat.le_of_ble_eq_true rfl⟩ ?_
  refine g_putR hX dX0_init_9 flX0_9 (by rw [kNew_k (by omega)]; exact kx0) rfl (by first | assumption | omega) (Or.inr ⟨rfl, fun r0 h => by cases h; exact ⟨rfl, fwX0_9⟩⟩) ?_
  refine g_kp (show _ = kRow κ x 0 (8, 36) from rfl) ?_
  have hg1 := hg0.step (K := (8, 36)) (o := 0) hx rfl (by decide) rfl
  generalize kRow κ x 0 (8, 36) = κ1 at hg1 ⊢
  generalize iNew κ I = I1 at hg1 ⊢
  have kx1 := hg1.k hx hkx
  have kn1 := hg1.1
  refine g_aload_n hX dX0_init_12 rfl rfl ?_
  refine g_bipush (v := nI 64) hX dX0_init_13 (by decide) ?_
  refine g_newI (N := 64) hX hR dX0_init_15 ac_int (by decide) (by decide) (by decide) ⟨Nat.le_of_ble_eq_true rfl, Nat.le_of_ble_eq_true rfl⟩ ?_
  refine g_putR hX dX0_init_17 flX0_15 (by rw [kNew_k (by omega)]; exact kx1) rfl (by first | assumption | omega) (Or.inr ⟨rfl, fun r0 h => by cases h; exact ⟨rfl, fwX0_15⟩⟩) ?_
  refine g_kp (show _ = kRow κ1 x 1 (8, 64) from rfl) ?_
  have hg2 := hg1.step (K := (8, 64)) (o := 1) hx rfl (by decide) rfl
  generalize kRow κ1 x 1 (8, 64) = κ2 at hg2 ⊢
  generalize iNew κ1 I1 = I2 at hg2 ⊢
  have kx2 := hg2.k hx hkx
  have kn2 := hg2.1
  refine g_aload_n hX dX0_init_20 rfl rfl ?_
  refine g_bipush (v := nI 64) hX dX0_init_21 (by decide) ?_
  refine g_newI (N := 64) hX hR dX0_init_23 ac_int (by decide) (by decide) (by decide) ⟨Nat.le_of_ble_eq_true rfl, Nat.le_of_ble_eq_true rfl⟩ ?_
  refine g_putR hX dX0_init_25 flX0_18 (by rw [kNew_k (by omega)]; exact kx2) rfl (by first | assumption | omega) (Or.inr ⟨rfl, fun r0 h => by cases h; exact ⟨rfl, fwX0_18⟩⟩) ?_
  refine g_kp (show _ = kRow κ2 x 2 (8, 64) from rfl) ?_
  have hg3 := hg2.step (K := (8, 64)) (o := 2) hx rfl (by decide) rfl
  generalize kRow κ2 x 2 (8, 64) = κ3 at hg3 ⊢
  generalize iNew κ2 I2 = I3 at hg3 ⊢
  have kx3 := hg3.k hx hkx
  have kn3 := hg3.1
  refine g_aload_n hX dX0_init_28 rfl rfl ?_
  refine g_bipush (v := nI 6) hX dX0_init_29 (by decide) ?_
  refine g_newI (N := 6) hX hR dX0_init_31 ac_int (by decide) (by decide) (by decide) ⟨Nat.le_of_ble_eq_true rfl, Nat.le_of_ble_eq_true rfl⟩ ?_
  refine g_putR hX dX0_init_33 flX0_21 (by rw [kNew_k (by omega)]; exact kx3) rfl (by first | assumption | omega) (Or.inr ⟨rfl, fun r0 h => by cases h; exact ⟨rfl, fwX0_21⟩⟩) ?_
  refine g_kp (show _ = kRow κ3 x 3 (8, 6) from rfl) ?_
  have hg4 := hg3.step (K := (8, 6)) (o := 3) hx rfl (by decide) rfl
  generalize kRow κ3 x 3 (8, 6) = κ4 at hg4 ⊢
  generalize iNew κ3 I3 = I4 at hg4 ⊢
  have kx4 := hg4.k hx hkx
  have kn4 := hg4.1
  refine g_vret hM dX0_init_36 rfl ⟨Nat.le_of_ble_eq_true rfl, Nat.le_of_ble_eq_true rfl⟩ ?_
  exact hq _ _ hg4
