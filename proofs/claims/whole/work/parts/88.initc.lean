set_option maxHeartbeats 4000000 in
set_option maxRecDepth 100000 in
theorem lp_X5_init_97 {Γ : Ga} {d : Nat} {κ : Kp} {Q : Option Value → Kp → Ip → Prop} {X : Cx} {I : Ip} {c q v : Nat} (hM : Mx Γ (d + 6) mX5_init Q X) (hStr : StrX Γ q v X) (hC : CK κ c) (hq : ∀ (κ' : Kp) (J : Ip), CR κ' c J R0.2.1 R0.2.2.1 R0.1 (laidS R0.1) [] [] TXB 0 → KF c κ κ' → COut c I J → Q none κ' J) : ∀ (n i : Nat) (J : Ip), n = 119 - i → i ≤ 119 → J (c + 1) 1 = nI i → (∀ k, k < i → J (c + 2) k = TXB k) → (∀ a, a ≠ c + 1 → a ≠ c + 2 → J a = I a) → GW Γ mX5_init X 97 [(1, .int (nI i)), (0, .ref c)] [] κ J 63 805 := by
  have hX := hM.std
  have hR := hM.room
  intro n
  induction n using Nat.strongRecOn with
  | ind n ih =>
    intro i J hn hi h1 h2 hJ
    have hk0 : κ.1 c = (5, 0) := hC.2.1 0 (by decide)
    have g0 : κ.2.1 c 0 = c + 1 := hC.2.2.1
    have hTx := hC.txo
    have k1 := hTx.1
    have e1 : κ.2.1 (c + 1) 0 = c + 2 := hC.2.2.2.2.2.2.2.2.2.1
    refine g_iload_n hX dX5_init_97 rfl rfl ?_
    refine g_ldcS hX hStr rfl dX5_init_98 ?_
    refine g_callVS (md' := mJ0_length_8abf5) (As := []) hX hStr hR dX5_init_100 clX5_57 okJ0_length_8abf5 rfl rfl rfl (Nat.le_of_ble_eq_true rfl) (Nat.le_of_ble_eq_true rfl) ⟨Nat.le_of_ble_eq_true rfl, Nat.le_of_ble_eq_true rfl⟩ ?_
    refine sp_J0_length_8abf5 ?_
    change GW _ _ _ 103 _ [.int _, .int _] _ _ 63 805
    refine g_icmpge 126 hX dX5_init_103 (by decide) (fun c103 => ?_) (fun c103 => ?_)
    · rw [nI_leI (by omega) (by omega)] at c103
      have e : i = 119 := by omega
      subst e
      refine g_pick [1] rfl (fr_X5_init_126 hM hC ⟨h1, by decide, fun k hk => by rw [e1]; exact h2 k hk, fun k hk => ⟨BYF k, (BY_ok k hk).1, (BY_ok k hk).2, rfl⟩⟩ (fun κ' J2 y1 y2 y3 => hq κ' J2 y1 y2 (fun a ha => (y3 a ha).trans (hJ a (by omega) (by omega)))))
    · rw [nI_leI (by omega) (by omega)] at c103
      have hb := BY_ok i (by omega)
      refine g_aload_n hX dX5_init_106 rfl rfl ?_
      refine g_getR hX dX5_init_107 flX5_10 (by assumption) rfl (by first | assumption | rfl) (by first | assumption | exact Nat.succ_ne_zero _) ?_
      refine g_ldcS hX hStr rfl dX5_init_110 ?_
      refine g_iload_n hX dX5_init_112 rfl rfl ?_
      refine g_callVS (md' := mJ0_charAt_5068e) (As := [.int (nI i)]) hX hStr hR dX5_init_113 clX5_63 okJ0_charAt_5068e rfl rfl rfl (Nat.le_of_ble_eq_true rfl) (Nat.le_of_ble_eq_true rfl) ⟨Nat.le_of_ble_eq_true rfl, Nat.le_of_ble_eq_true rfl⟩ ?_
      refine sp_J0_charAt_5068e (show i < 119 by omega) ?_
      change GW _ _ _ 116 _ [.int _, .ref _] _ _ 63 805
      refine g_callV (md' := mX3_add) (ci := 3) (As := [.int _]) hX hR dX5_init_116 clX5_67 okX3_add rfl (by assumption) rfl rfl (Nat.le_of_ble_eq_true rfl) (Nat.le_of_ble_eq_true rfl) ⟨Nat.le_of_ble_eq_true rfl, Nat.le_of_ble_eq_true rfl⟩ ?_
      refine sp_X3_add hTx h1 (by omega) (by omega) (fun e => by omega) (fun _ => ?_)
      change GW _ _ _ 119 _ [.int _] _ _ 63 805
      refine g_pop hX dX5_init_119 rfl ?_
      refine g_iinc (lv' := [(1, .int _), (0, .ref _)]) hX dX5_init_120 rfl (by first | exact nI_inc _ | rfl) (by decide) rfl ?_
      refine g_goto 97 hX dX5_init_123 (by decide) ?_
      rw [e1]
      refine ih (119 - (i + 1)) (by omega) (i + 1) _ rfl (by omega) (by rw [up_same, up_same]) (fun k hk => ?_) (fun a a1 a2 => by rw [up_ne _ _ a1, up_ne _ _ a2]; exact hJ a a1 a2)
      rw [up_ne _ _ (by omega), up_same]
      by_cases e : k = i
      · subst e; rw [up_same]; rfl
      · rw [up_ne _ _ e]; exact h2 k (by omega)
