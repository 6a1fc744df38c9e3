set_option maxHeartbeats 4000000 in
set_option maxRecDepth 100000 in
theorem sp_X4_init {Γ : Ga} {d : Nat} {κ : Kp} {I : Ip} {Q : Option Value → Kp → Ip → Prop} {x : Nat} (hkx : κ.1 x = (4, 0)) (hx : x < κ.2.2) (hq : ∀ (κ' : Kp) (J : Ip), GrP κ κ' x 7 kd4 (fun i => i + 2) I J → Q none κ' J) : Sp Γ (d + 1) mX4_init [.ref (x)] κ I Q := by
  have hg0 : GrP κ κ x 0 kd4 (fun i => i + 2) I I := GrP.rf
  have kx0 := hkx
  have kn0 : κ.2.2 = κ.2.2 + 0 := rfl
  intro X hM
  have hX := hM.std
  have hR := hM.room
  show GW _ mX4_init X 0 [(0, .ref (x))] [] _ _ 0 0
  refine g_aload_n hX dX4_init_0 rfl rfl ?_
  refine g_objInit hX hR dX4_init_1 oiX4_3 wg_oi wg_oc (Nat.le_of_ble_eq_true rfl) ?_
  refine g_aload_n hX dX4_init_4 rfl rfl ?_
  refine g_bipush (v := nI 6) hX dX4_init_5 (by decide) ?_
  refine g_newI (N := 6) hX hR dX4_init_7 ac_int (by decide) (by decide) (by decide) ⟨Nat.le_of_ble_eq_true rfl, Nat.le_of_ble_eq_true rfl⟩ ?_
  refine g_putR hX dX4_init_9 flX4_9 (by rw [kNew_k (by omega)]; exact kx0) rfl (by first | assumption | omega) (Or.inr ⟨rfl, fun r0 h => by cases h; exact ⟨rfl, fwX4_9⟩⟩) ?_
  refine g_kp (show _ = kRow κ x 2 (8, 6) from rfl) ?_
  have hg1 := hg0.step (K := (8, 6)) (o := 2) hx rfl (by decide) rfl
  generalize kRow κ x 2 (8, 6) = κ1 at hg1 ⊢
  generalize iNew κ I = I1 at hg1 ⊢
  have kx1 := hg1.k hx hkx
  have kn1 := hg1.1
  refine g_aload_n hX dX4_init_12 rfl rfl ?_
  refine g_bipush (v := nI 6) hX dX4_init_13 (by decide) ?_
  refine g_newI (N := 6) hX hR dX4_init_15 ac_int (by decide) (by decide) (by decide) ⟨Nat.le_of_ble_eq_true rfl, Nat.le_of_ble_eq_true rfl⟩ ?_
  refine g_putR hX dX4_init_17 flX4_15 (by rw [kNew_k (by omega)]; exact kx1) rfl (by first | assumption | omega) (Or.inr ⟨rfl, fun r0 h => by cases h; exact ⟨rfl, fwX4_15⟩⟩) ?_
  refine g_kp (show _ = kRow κ1 x 3 (8, 6) from rfl) ?_
  have hg2 := hg1.step (K := (8, 6)) (o := 3) hx rfl (by decide) rfl
  generalize kRow κ1 x 3 (8, 6) = κ2 at hg2 ⊢
  generalize iNew κ1 I1 = I2 at hg2 ⊢
  have kx2 := hg2.k hx hkx
  have kn2 := hg2.1
  refine g_aload_n hX dX4_init_20 rfl rfl ?_
  refine g_bipush (v := nI 6) hX dX4_init_21 (by decide) ?_
  refine g_newI (N := 6) hX hR dX4_init_23 ac_int (by decide) (by decide) (by decide) ⟨Nat.le_of_ble_eq_true rfl, Nat.le_of_ble_eq_true rfl⟩ ?_
  refine g_putR hX dX4_init_25 flX4_18 (by rw [kNew_k (by omega)]; exact kx2) rfl (by first | assumption | omega) (Or.inr ⟨rfl, fun r0 h => by cases h; exact ⟨rfl, fwX4_18⟩⟩) ?_
  refine g_kp (show _ = kRow κ2 x 4 (8, 6) from rfl) ?_
  have hg3 := hg2.step (K := (8, 6)) (o := 4) hx rfl (by decide) rfl
  generalize kRow κ2 x 4 (8, 6) = κ3 at hg3 ⊢
  generalize iNew κ2 I2 = I3 at hg3 ⊢
  have kx3 := hg3.k hx hkx
  have kn3 := hg3.1
  refine g_aload_n hX dX4_init_28 rfl rfl ?_
  refine g_bipush (v := nI 6) hX dX4_init_29 (by decide) ?_
  refine g_newI (N := 6) hX hR dX4_init_31 ac_int (by decide) (by decide) (by decide) ⟨Nat.le_of_ble_eq_true rfl, Nat.le_of_ble_eq_true rfl⟩ ?_
  refine g_putR hX dX4_init_33 flX4_21 (by rw [kNew_k (by omega)]; exact kx3) rfl (by first | assumption | omega) (Or.inr ⟨rfl, fun r0 h => by cases h; exact ⟨rfl, fwX4_21⟩⟩) ?_
  refine g_kp (show _ = kRow κ3 x 5 (8, 6) from rfl) ?_
  have hg4 := hg3.step (K := (8, 6)) (o := 5) hx rfl (by decide) rfl
  generalize kRow κ3 x 5 (8, 6) = κ4 at hg4 ⊢
  generalize iNew κ3 I3 = I4 at hg4 ⊢
  have kx4 := hg4.k hx hkx
  have kn4 := hg4.1
  refine g_aload_n hX dX4_init_36 rfl rfl ?_
  refine g_bipush (v := nI 9) hX dX4_init_37 (by decide) ?_
  refine g_newI (N := 9) hX hR dX4_init_39 ac_int (by decide) (by decide) (by decide) ⟨Nat.le_of_ble_eq_true rfl, Nat.le_of_ble_eq_true rfl⟩ ?_
  refine g_putR hX dX4_init_41 flX4_24 (by rw [kNew_k (by omega)]; exact kx4) rfl (by first | assumption | omega) (Or.inr ⟨rfl, fun r0 h => by cases h; exact ⟨rfl, fwX4_24⟩⟩) ?_
  refine g_kp (show _ = kRow κ4 x 6 (8, 9) from rfl) ?_
  have hg5 := hg4.step (K := (8, 9)) (o := 6) hx rfl (by decide) rfl
  generalize kRow κ4 x 6 (8, 9) = κ5 at hg5 ⊢
  generalize iNew κ4 I4 = I5 at hg5 ⊢
  have kx5 := hg5.k hx hkx
  have kn5 := hg5.1
  refine g_aload_n hX dX4_init_44 rfl rfl ?_
  refine g_bipush (v := nI 9) hX dX4_init_45 (by decide) ?_
  refine g_newI (N := 9) hX hR dX4_init_47 ac_int (by decide) (by decide) (by decide) ⟨Nat.le_of_ble_eq_true rfl, Nat.le_of_ble_eq_true rfl⟩ ?_
  refine g_putR hX dX4_init_49 flX4_27 (by rw [kNew_k (by omega)]; exact kx5) rfl (by first | assumption | omega) (Or.inr ⟨rfl, fun r0 h => by cases h; exact ⟨rfl, fwX4_27⟩⟩) ?_
  refine g_kp (show _ = kRow κ5 x 7 (8, 9) from rfl) ?_
  have hg6 := hg5.step (K := (8, 9)) (o := 7) hx rfl (by decide) rfl
  generalize kRow κ5 x 7 (8, 9) = κ6 at hg6 ⊢
  generalize iNew κ5 I5 = I6 at hg6 ⊢
  have kx6 := hg6.k hx hkx
  have kn6 := hg6.1
  refine g_aload_n hX dX4_init_52 rfl rfl ?_
  refine g_bipush (v := nI 9) hX dX4_init_53 (by decide) ?_
  refine g_newI (N := 9) hX hR dX4_init_55 ac_int (by decide) (by decide) (by decide) ⟨Nat.le_of_ble_eq_true rfl, Nat.le_of_ble_eq_true rfl⟩ ?_
  refine g_putR hX dX4_init_57 flX4_30 (by rw [kNew_k (by omega)]; exact kx6) rfl (by first | assumption | omega) (Or.inr ⟨rfl, fun r0 h => by cases h; exact ⟨rfl, fwX4_30⟩⟩) ?_
  refine g_kp (show _ = kRow κ6 x 8 (8, 9) from rfl) ?_
  have hg7 := hg6.step (K := (8, 9)) (o := 8) hx rfl (by decide) rfl
  generalize kRow κ6 x 8 (8, 9) = κ7 at hg7 ⊢
  generalize iNew κ6 I6 = I7 at hg7 ⊢
  have kx7 := hg7.k hx hkx
  have kn7 := hg7.1
  refine g_vret hM dX4_init_60 rfl ⟨Nat.le_of_ble_eq_true rfl, Nat.le_of_ble_eq_true rfl⟩ ?_
  exact hq _ _ hg7
