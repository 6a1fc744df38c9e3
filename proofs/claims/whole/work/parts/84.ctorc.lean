set_option maxHeartbeats 4000000 in
set_option maxRecDepth 100000 in
theorem sp_X3_init {Γ : Ga} {d : Nat} {κ : Kp} {I : Ip} {Q : Option Value → Kp → Ip → Prop} {x : Nat} (hkx : κ.1 x = (3, 0)) (hx : x < κ.2.2) (hq : ∀ (κ' : Kp) (J : Ip), GrP κ κ' x 1 (fun _ => (7, 200)) (fun i => i) I J → Q none κ' J) : Sp Γ (d + 1) mX3_init [.ref (x)] κ I Q := by
  have hg0 : GrP κ κ x 0 (fun _ => (7, 200)) (fun i => i) I I := GrP.rf
  have kx0 := hkx
  have kn0 : κ.2.2 = κ.2.2 + 0 := rfl
  intro X hM
  have hX := hM.std
  have hR := hM.room
  show GW _ mX3_init X 0 [(0, .ref (x))] [] _ _ 0 0
  refine g_aload_n hX dX3_init_0 rfl rfl ?_
  refine g_objInit hX hR dX3_init_1 oiX3_3 wg_oi wg_oc (Nat.le_of_ble_eq_true rfl) ?_
  refine g_aload_n hX dX3_init_4 rfl rfl ?_
  refine g_sipush (v := nI 200) hX dX3_init_5 (by decide) ?_
  refine g_newC (N := 200) hX hR dX3_init_8 ac_char (by decide) (by decide) (by decide) ⟨Nat.le_of_ble_eq_true rfl, Nat.le_of_ble_eq_true rfl⟩ ?_
  refine g_putR hX dX3_init_10 flX3_9 (by rw [kNew_k (by omega)]; exact kx0) rfl (by first | assumption | omega) (Or.inr ⟨rfl, fun r0 h => by cases h; exact ⟨rfl, fwX3_9⟩⟩) ?_
  refine g_kp (show _ = kRow κ x 0 (7, 200) from rfl) ?_
  have hg1 := hg0.step (K := (7, 200)) (o := 0) hx rfl (by decide) rfl
  generalize kRow κ x 0 (7, 200) = κ1 at hg1 ⊢
  generalize iNew κ I = I1 at hg1 ⊢
  have kx1 := hg1.k hx hkx
  have kn1 := hg1.1
  refine g_vret hM dX3_init_13 rfl ⟨Nat.le_of_ble_eq_true rfl, Nat.le_of_ble_eq_true rfl⟩ ?_
  exact hq _ _ hg1
