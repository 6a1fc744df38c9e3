set_option maxHeartbeats 4000000 in
set_option maxRecDepth 100000 in
theorem lp_X6_init_113 {Γ : Ga} {d : Nat} {κ : Kp} {Q : Option Value → Kp → Ip → Prop} {X : Cx} {I : Ip} {m e : Nat} (hM : Mx Γ (d + 2) mX6_init Q X) (hMo : MoK κ m) (hke : κ.1 e = (8, 6)) (he : e ≠ 0) (her : e ≠ κ.2.1 m 1) (hE : ∀ k, k < 6 → I e k = KN k) (hq : ∀ J0 : Ip, J0 = va_up I (κ.2.1 m 1) (PB 6) → GW Γ mX6_init X 132 [(2, .int (nI 6)), (1, .ref e), (0, .ref m)] [] κ J0 11 570) : ∀ (n : Nat) (i : Nat), n = 6 - i → i ≤ 6 → GW Γ mX6_init X 113 [(2, .int (nI i)), (1, .ref (e)), (0, .ref (m))] [] κ (va_up I (κ.2.1 m 1) (PB i)) 11 570 := by
  have hX := hM.std
  have hR := hM.room
  intro n
  induction n using Nat.strongRecOn with
  | ind n ih =>
    intro i hn hi
    have km := hMo.1
    refine g_iload_n hX dX6_init_113 rfl rfl ?_
    refine g_bipush (v := nI 6) hX dX6_init_114 (by decide) ?_
    refine g_icmpge 132 hX dX6_init_116 (by decide) (fun c116 => ?_) (fun c116 => ?_)
    · rw [nI_leI (by omega) (by omega)] at c116
      have e : i = 6 := by omega
      subst e
      exact g_pick [0, 1, 2] rfl (hq _ rfl)
    · rw [nI_leI (by omega) (by omega)] at c116
      refine g_aload_n hX dX6_init_119 rfl rfl ?_
      refine g_aload_n hX dX6_init_120 rfl rfl ?_
      refine g_iload_n hX dX6_init_121 rfl rfl ?_
      refine g_ialdN hX dX6_init_122 (by assumption) (rfl) (by omega) (by first | decide | omega) ?_
      refine g_callV (md' := mX6_addsPerson) (ci := 6) (As := [.int _]) hX hR dX6_init_123 clX6_43 okX6_addsPerson rfl (by assumption) rfl rfl (Nat.le_of_ble_eq_true rfl) (Nat.le_of_ble_eq_true rfl) ⟨Nat.le_of_ble_eq_true rfl, Nat.le_of_ble_eq_true rfl⟩ ?_
      refine sp_X6_addsPerson hMo (p := i) (by rw [up_same]; exact PB0 i) (by omega) ?_
      rw [up_same, up_up, up_ne _ _ her, hE i (by omega)]
      change GW _ _ _ 126 _ [] _ _ _ _
      refine g_iinc (lv' := [(2, .int _), (1, .ref _), (0, .ref _)]) hX dX6_init_126 rfl (by first | exact nI_inc _ | rfl) (by decide) rfl ?_
      refine g_goto 113 hX dX6_init_129 (by decide) ?_
      exact g_pick [0, 1, 2] rfl (ih (6 - (i + 1)) (by omega) (i + 1) rfl (by omega))
