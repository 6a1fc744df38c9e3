set_option maxHeartbeats 4000000 in
set_option maxRecDepth 100000 in
theorem sp_X2_init {Γ : Ga} {d : Nat} {κ : Kp} {I : Ip} {Q : Option Value → Kp → Ip → Prop} {x : Nat} (hkx : κ.1 x = (2, 0)) (hx : x < κ.2.2) (hq : ∀ (κ' : Kp) (J : Ip), κ'.2.2 = κ.2.2 + 1 → (∀ a, a < κ.2.2 → κ'.1 a = κ.1 a ∧ (a ≠ x → J a = I a ∧ κ'.2.1 a = κ.2.1 a)) → κ'.1 κ.2.2 = (8, 6) → κ'.2.1 x 0 = κ.2.2 → Q none κ' J) : Sp Γ (d + 1) mX2_init [.ref (x)] κ I Q := by
  have hg0 : GrP κ κ x 0 (fun _ => (8, 6)) (fun i => i) I I := GrP.rf
  have kx0 := hkx
  have kn0 : κ.2.2 = κ.2.2 + 0 := rfl
  intro X hM
  have hX := hM.std
  have hR := hM.room
  show GW _ mX2_init X 0 [(0, .ref (x))] [] _ _ 0 0
  refine g_aload_n hX dX2_init_0 rfl rfl ?_
  refine g_objInit hX hR dX2_init_1 oiX2_3 wg_oi wg_oc (Nat.le_of_ble_eq_true rfl) ?_
  refine g_aload_n hX dX2_init_4 rfl rfl ?_
  refine g_bipush (v := nI 6) hX dX2_init_5 (by decide) ?_
  refine g_newI (N := 6) hX hR dX2_init_7 ac_int (by decide) (by decide) (by decide) ⟨Nat.le_of_ble_eq_true rfl, Nat.le_of_ble_eq_true rfl⟩ ?_
  refine g_putR hX dX2_init_9 flX2_9 (by rw [kNew_k (by omega)]; exact kx0) rfl (by first | assumption | omega) (Or.inr ⟨rfl, fun r0 h => by cases h; exact ⟨rfl, fwX2_9⟩⟩) ?_
  refine g_kp (show _ = kRow κ x 0 (8, 6) from rfl) ?_
  have hg1 := hg0.step (K := (8, 6)) (o := 0) hx rfl (by decide) rfl
  generalize kRow κ x 0 (8, 6) = κ1 at hg1 ⊢
  generalize iNew κ I = I1 at hg1 ⊢
  have kx1 := hg1.k hx hkx
  have kn1 := hg1.1
  refine g_aload_n hX dX2_init_12 rfl rfl ?_
  refine g_iconst (v := (-1)) hX dX2_init_13 (by decide) ?_
  refine g_putI hX dX2_init_14 flX2_15 (by assumption) rfl rfl ?_
  refine g_aload_n hX dX2_init_17 rfl rfl ?_
  refine g_iconst (v := (-1)) hX dX2_init_18 (by decide) ?_
  refine g_putI hX dX2_init_19 flX2_19 (by assumption) rfl rfl ?_
  refine g_aload_n hX dX2_init_22 rfl rfl ?_
  refine g_iconst (v := (-1)) hX dX2_init_23 (by decide) ?_
  refine g_putI hX dX2_init_24 flX2_22 (by assumption) rfl rfl ?_
  refine g_aload_n hX dX2_init_27 rfl rfl ?_
  refine g_iconst (v := (-1)) hX dX2_init_28 (by decide) ?_
  refine g_putI hX dX2_init_29 flX2_25 (by assumption) rfl rfl ?_
  refine g_vret hM dX2_init_32 rfl ⟨Nat.le_of_ble_eq_true rfl, Nat.le_of_ble_eq_true rfl⟩ ?_
  refine hq _ _ hg1.1 (fun a ha => ⟨(hg1.2.1 a ha).1, fun hax => ⟨?_, (hg1.2.1 a ha).2.2 hax⟩⟩) (hg1.2.2 0 (by decide)).1 (hg1.2.2 0 (by decide)).2
  rw [up_ne _ _ hax, up_ne _ _ hax, up_ne _ _ hax, up_ne _ _ hax]
  exact (hg1.2.1 a ha).2.1
