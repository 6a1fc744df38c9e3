set_option maxHeartbeats 4000000 in
set_option maxRecDepth 100000 in
theorem sp_X6_init {Γ : Ga} {d : Nat} {κ : Kp} {I : Ip} {Q : Option Value → Kp → Ip → Prop} {x : Nat} (hkx : κ.1 x = (6, 0)) (hx : x < κ.2.2) (x0 : x ≠ 0) (hq : ∀ (κ' : Kp) (J : Ip), MoK κ' x → J (κ'.2.1 x 0) = R0.1 → J (κ'.2.1 x 2) = laidS R0.1 → J x 5 = nI 0 → J x 7 = nI 0 → J x 9 = I x 9 → (∀ i, i < 10 → κ'.2.1 x (of6 i) = κ.2.2 + i) → (∀ a, a < κ.2.2 → κ'.1 a = κ.1 a ∧ (a ≠ x → κ'.2.1 a = κ.2.1 a ∧ J a = I a)) → Q none κ' J) : Sp Γ (d + 2) mX6_init [.ref (x)] κ I Q := by
  have hg0 : GrP κ κ x 0 kd6 of6 I I := GrP.rf
  have kx0 := hkx
  have kn0 : κ.2.2 = κ.2.2 + 0 := rfl
  intro X hM
  have hX := hM.std
  have hR := hM.room
  show GW _ mX6_init X 0 [(0, .ref (x))] [] _ _ 0 0
  refine g_aload_n hX dX6_init_0 rfl rfl ?_
  refine g_objInit hX hR dX6_init_1 oiX6_1 wg_oi wg_oc (Nat.le_of_ble_eq_true rfl) ?_
  refine g_aload_n hX dX6_init_4 rfl rfl ?_
  refine g_bipush (v := nI 50) hX dX6_init_5 (by decide) ?_
  refine g_newI (N := 50) hX hR dX6_init_7 ac_int (by decide) (by decide) (by decide) ⟨Nat.le_of_ble_eq_true rfl, Nat.le_of_ble_eq_true rfl⟩ ?_
  refine g_putR hX dX6_init_9 flX6_7 (by rw [kNew_k (by omega)]; exact kx0) rfl (by first | assumption | omega) (Or.inr ⟨rfl, fun r0 h => by cases h; exact ⟨rfl, fwX6_7⟩⟩) ?_
  refine g_kp (show _ = kRow κ x 0 (8, 50) from rfl) ?_
  have hg1 := hg0.step (K := (8, 50)) (o := 0) hx rfl (by decide) rfl
  generalize kRow κ x 0 (8, 50) = κ1 at hg1 ⊢
  generalize iNew κ I = I1 at hg1 ⊢
  have kx1 := hg1.k hx hkx
  have kn1 := hg1.1
  refine g_aload_n hX dX6_init_12 rfl rfl ?_
  refine g_bipush (v := nI 50) hX dX6_init_13 (by decide) ?_
  refine g_newI (N := 50) hX hR dX6_init_15 ac_int (by decide) (by decide) (by decide) ⟨Nat.le_of_ble_eq_true rfl, Nat.le_of_ble_eq_true rfl⟩ ?_
  refine g_putR hX dX6_init_17 flX6_13 (by rw [kNew_k (by omega)]; exact kx1) rfl (by first | assumption | omega) (Or.inr ⟨rfl, fun r0 h => by cases h; exact ⟨rfl, fwX6_13⟩⟩) ?_
  refine g_kp (show _ = kRow κ1 x 1 (8, 50) from rfl) ?_
  have hg2 := hg1.step (K := (8, 50)) (o := 1) hx rfl (by decide) rfl
  generalize kRow κ1 x 1 (8, 50) = κ2 at hg2 ⊢
  generalize iNew κ1 I1 = I2 at hg2 ⊢
  have kx2 := hg2.k hx hkx
  have kn2 := hg2.1
  refine g_aload_n hX dX6_init_20 rfl rfl ?_
  refine g_bipush (v := nI 18) hX dX6_init_21 (by decide) ?_
  refine g_newI (N := 18) hX hR dX6_init_23 ac_int (by decide) (by decide) (by decide) ⟨Nat.le_of_ble_eq_true rfl, Nat.le_of_ble_eq_true rfl⟩ ?_
  refine g_putR hX dX6_init_25 flX6_16 (by rw [kNew_k (by omega)]; exact kx2) rfl (by first | assumption | omega) (Or.inr ⟨rfl, fun r0 h => by cases h; exact ⟨rfl, fwX6_16⟩⟩) ?_
  refine g_kp (show _ = kRow κ2 x 2 (8, 18) from rfl) ?_
  have hg3 := hg2.step (K := (8, 18)) (o := 2) hx rfl (by decide) rfl
  generalize kRow κ2 x 2 (8, 18) = κ3 at hg3 ⊢
  generalize iNew κ2 I2 = I3 at hg3 ⊢
  have kx3 := hg3.k hx hkx
  have kn3 := hg3.1
  refine g_aload_n hX dX6_init_28 rfl rfl ?_
  refine g_bipush (v := nI 18) hX dX6_init_29 (by decide) ?_
  refine g_newI (N := 18) hX hR dX6_init_31 ac_int (by decide) (by decide) (by decide) ⟨Nat.le_of_ble_eq_true rfl, Nat.le_of_ble_eq_true rfl⟩ ?_
  refine g_putR hX dX6_init_33 flX6_19 (by rw [kNew_k (by omega)]; exact kx3) rfl (by first | assumption | omega) (Or.inr ⟨rfl, fun r0 h => by cases h; exact ⟨rfl, fwX6_19⟩⟩) ?_
  refine g_kp (show _ = kRow κ3 x 3 (8, 18) from rfl) ?_
  have hg4 := hg3.step (K := (8, 18)) (o := 3) hx rfl (by decide) rfl
  generalize kRow κ3 x 3 (8, 18) = κ4 at hg4 ⊢
  generalize iNew κ3 I3 = I4 at hg4 ⊢
  have kx4 := hg4.k hx hkx
  have kn4 := hg4.1
  refine g_aload_n hX dX6_init_36 rfl rfl ?_
  refine g_sipush (v := nI 144) hX dX6_init_37 (by decide) ?_
  refine g_newI (N := 144) hX hR dX6_init_40 ac_int (by decide) (by decide) (by decide) ⟨Nat.le_of_ble_eq_true rfl, Nat.le_of_ble_eq_true rfl⟩ ?_
  refine g_putR hX dX6_init_42 flX6_22 (by rw [kNew_k (by omega)]; exact kx4) rfl (by first | assumption | omega) (Or.inr ⟨rfl, fun r0 h => by cases h; exact ⟨rfl, fwX6_22⟩⟩) ?_
  refine g_kp (show _ = kRow κ4 x 4 (8, 144) from rfl) ?_
  have hg5 := hg4.step (K := (8, 144)) (o := 4) hx rfl (by decide) rfl
  generalize kRow κ4 x 4 (8, 144) = κ5 at hg5 ⊢
  generalize iNew κ4 I4 = I5 at hg5 ⊢
  have kx5 := hg5.k hx hkx
  have kn5 := hg5.1
  refine g_aload_n hX dX6_init_45 rfl rfl ?_
  refine g_bipush (v := nI 36) hX dX6_init_46 (by decide) ?_
  refine g_newI (N := 36) hX hR dX6_init_48 ac_int (by decide) (by decide) (by decide) ⟨Nat.le_of_ble_eq_true rfl, Nat.le_of_ble_eq_true rfl⟩ ?_
  refine g_putR hX dX6_init_50 flX6_25 (by rw [kNew_k (by omega)]; exact kx5) rfl (by first | assumption | omega) (Or.inr ⟨rfl, fun r0 h => by cases h; exact ⟨rfl, fwX6_25⟩⟩) ?_
  refine g_kp (show _ = kRow κ5 x 6 (8, 36) from rfl) ?_
  have hg6 := hg5.step (K := (8, 36)) (o := 6) hx rfl (by decide) rfl
  generalize kRow κ5 x 6 (8, 36) = κ6 at hg6 ⊢
  generalize iNew κ5 I5 = I6 at hg6 ⊢
  have kx6 := hg6.k hx hkx
  have kn6 := hg6.1
  refine g_aload_n hX dX6_init_53 rfl rfl ?_
  refine g_sipush (v := nI 200) hX dX6_init_54 (by decide) ?_
  refine g_newI (N := 200) hX hR dX6_init_57 ac_int (by decide) (by decide) (by decide) ⟨Nat.le_of_ble_eq_true rfl, Nat.le_of_ble_eq_true rfl⟩ ?_
  refine g_putR hX dX6_init_59 flX6_28 (by rw [kNew_k (by omega)]; exact kx6) rfl (by first | assumption | omega) (Or.inr ⟨rfl, fun r0 h => by cases h; exact ⟨rfl, fwX6_28⟩⟩) ?_
  refine g_kp (show _ = kRow κ6 x 8 (8, 200) from rfl) ?_
  have hg7 := hg6.step (K := (8, 200)) (o := 8) hx rfl (by decide) rfl
  generalize kRow κ6 x 8 (8, 200) = κ7 at hg7 ⊢
  generalize iNew κ6 I6 = I7 at hg7 ⊢
  have kx7 := hg7.k hx hkx
  have kn7 := hg7.1
  refine g_aload_n hX dX6_init_62 rfl rfl ?_
  refine g_bipush (v := nI 36) hX dX6_init_63 (by decide) ?_
  refine g_newI (N := 36) hX hR dX6_init_65 ac_int (by decide) (by decide) (by decide) ⟨Nat.le_of_ble_eq_true rfl, Nat.le_of_ble_eq_true rfl⟩ ?_
  refine g_putR hX dX6_init_67 flX6_31 (by rw [kNew_k (by omega)]; exact kx7) rfl (by first | assumption | omega) (Or.inr ⟨rfl, fun r0 h => by cases h; exact ⟨rfl, fwX6_31⟩⟩) ?_
  refine g_kp (show _ = kRow κ7 x 14 (8, 36) from rfl) ?_
  have hg8 := hg7.step (K := (8, 36)) (o := 14) hx rfl (by decide) rfl
  generalize kRow κ7 x 14 (8, 36) = κ8 at hg8 ⊢
  generalize iNew κ7 I7 = I8 at hg8 ⊢
  have kx8 := hg8.k hx hkx
  have kn8 := hg8.1
  refine g_aload_n hX dX6_init_70 rfl rfl ?_
  refine g_bipush (v := nI 6) hX dX6_init_71 (by decide) ?_
  refine g_newI (N := 6) hX hR dX6_init_73 ac_int (by decide) (by decide) (by decide) ⟨Nat.le_of_ble_eq_true rfl, Nat.le_of_ble_eq_true rfl⟩ ?_
  refine g_putR hX dX6_init_75 flX6_34 (by rw [kNew_k (by omega)]; exact kx8) rfl (by first | assumption | omega) (Or.inr ⟨rfl, fun r0 h => by cases h; exact ⟨rfl, fwX6_34⟩⟩) ?_
  refine g_kp (show _ = kRow κ8 x 15 (8, 6) from rfl) ?_
  have hg9 := hg8.step (K := (8, 6)) (o := 15) hx rfl (by decide) rfl
  generalize kRow κ8 x 15 (8, 6) = κ9 at hg9 ⊢
  generalize iNew κ8 I8 = I9 at hg9 ⊢
  have kx9 := hg9.k hx hkx
  have kn9 := hg9.1
  refine g_aload_n hX dX6_init_78 rfl rfl ?_
  refine g_bipush (v := nI 6) hX dX6_init_79 (by decide) ?_
  refine g_newI (N := 6) hX hR dX6_init_81 ac_int (by decide) (by decide) (by decide) ⟨Nat.le_of_ble_eq_true rfl, Nat.le_of_ble_eq_true rfl⟩ ?_
  refine g_putR hX dX6_init_83 flX6_37 (by rw [kNew_k (by omega)]; exact kx9) rfl (by first | assumption | omega) (Or.inr ⟨rfl, fun r0 h => by cases h; exact ⟨rfl, fwX6_37⟩⟩) ?_
  refine g_kp (show _ = kRow κ9 x 16 (8, 6) from rfl) ?_
  have hg10 := hg9.step (K := (8, 6)) (o := 16) hx rfl (by decide) rfl
  generalize kRow κ9 x 16 (8, 6) = κ10 at hg10 ⊢
  generalize iNew κ9 I9 = I10 at hg10 ⊢
  have kx10 := hg10.k hx hkx
  have kn10 := hg10.1
  obtain ⟨gn, ga, gi⟩ := hg10
  refine g_cs (a' := 10) (b' := 564) ⟨rfl, rfl⟩ ?_
  refine g_pick [0] rfl (fr_X6_init_86 (b := κ.2.2) hM gi gn kx10 hx x0 (fun J y1 y2 y3 y4 y5 y6 hMo => ?_))
  have h11 : ∀ i, i < 10 → (kNew κ10 (8, 6)).2.1 x (of6 i) = κ.2.2 + i := fun i hi => by rw [kNew_r (by omega)]; exact (gi i hi).2
  have s0 : (kNew κ10 (8, 6)).2.1 x 0 = κ.2.2 + 0 := h11 0 (by decide)
  have s2 : (kNew κ10 (8, 6)).2.1 x 2 = κ.2.2 + 2 := h11 2 (by decide)
  refine hq _ J hMo ?_ ?_ y3 y4 ?_ h11 (fun a ha => ⟨?_, fun hax => ⟨?_, ?_⟩⟩)
  · rw [s0]; exact y1
  · rw [s2]; exact y2
  · rw [y5, (ga x hx).2.1]
  · rw [kNew_k (by omega)]; exact (ga a ha).1
  · rw [kNew_r (by omega)]; exact (ga a ha).2.2 hax
  · rw [y6 a ha hax]; exact (ga a ha).2.1
