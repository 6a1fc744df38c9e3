set_option maxHeartbeats 4000000 in
set_option maxRecDepth 100000 in
theorem lp_X0_solve_11 {Γ : Ga} {d : Nat} {κ : Kp} {Q : Option Value → Kp → Ip → Prop} {X : Cx} {I : Ip} {p P : Nat} {lk : Nat → Nat → Bool} {v : Nat → Nat → Nat} (hM : Mx Γ (d + 4) mX0_solve Q X) (hPa : PaK κ p) (hP : P ≤ 6) (hB : PaB κ I p P lk v) (hv : ∀ a b, lk a b = true → v a b ≤ 1200) (hq : ∀ J : Ip, PaF κ p I J → J (κ.2.1 p 1) (2 ^ P - 1) = nI (DF lk v P (2 ^ P - 1)).1 → (∀ x, x < P → J (κ.2.1 p 3) x = eI P (bmF lk v P 64 (2 ^ P - 1) x)) → Q none κ J) : ∀ (n : Nat) (S : Nat) (J : Ip), n = 2 ^ P - S → 1 ≤ S → S ≤ 2 ^ P → PaF κ p I J → PaM κ J p P S lk v → GW Γ mX0_solve X 11 [(2, .int (nI S)), (0, .ref (p)), (1, .int (nI P))] [] κ (J) 0 0 := by
  have hX := hM.std
  have hR := hM.room
  intro n
  induction n using Nat.strongRecOn with
  | ind n ih =>
    intro S J hn hS1 hS hF hMs
    obtain ⟨pk, pz, ⟨q0, z0⟩, ⟨q1, z1⟩, ⟨q2, z2⟩, ⟨q3, z3⟩, d12⟩ := id hPa
    have d10 : κ.2.1 p 1 ≠ κ.2.1 p 0 := kd_ne q1 q0 (by decide)
    have d21 : κ.2.1 p 2 ≠ κ.2.1 p 1 := Ne.symm d12
    have d20 : κ.2.1 p 2 ≠ κ.2.1 p 0 := kd_ne q2 q0 (by decide)
    have d13 : κ.2.1 p 1 ≠ κ.2.1 p 3 := kd_ne q1 q3 (by decide)
    obtain ⟨e1, e2⟩ := pow6 hP
    refine g_iload_n hX dX0_solve_11 rfl rfl ?_
    refine g_aload_n hX dX0_solve_12 rfl rfl ?_
    refine g_getR hX dX0_solve_13 flX0_15 (by assumption) rfl (by first | assumption | rfl) (by assumption) ?_
    refine g_alen hX dX0_solve_16 (by assumption) (by decide) rfl ?_
    refine g_icmpge 39 hX dX0_solve_17 (by decide) (fun c17 => ?_) (fun c17 => ?_)
    · rw [show Int32.ofNat 64 = nI 64 from rfl, nI_leI (by omega) (by omega)] at c17
      refine g_aload_n hX dX0_solve_39 rfl rfl ?_
      refine g_iload_n hX dX0_solve_40 rfl rfl ?_
      refine g_callS (md' := mX5_bit) (As := [.int _]) hX hR dX0_solve_41 clX0_48 okX5_bit rfl rfl (Nat.le_of_ble_eq_true rfl) (Nat.le_of_ble_eq_true rfl) ⟨Nat.le_of_ble_eq_true rfl, Nat.le_of_ble_eq_true rfl⟩ ?_
      refine sp_X5_bit ?_
      change GW _ _ _ 44 _ [.int _, .ref _] _ _ 0 0
      refine g_iconst (v := nI 1) hX dX0_solve_44 (by decide) ?_
      refine g_isub hX dX0_solve_45 ?_
      refine g_callV (md' := mX0_readMates) (ci := 0) (As := [.int _]) hX hR dX0_solve_46 clX0_55 okX0_readMates rfl (by assumption) rfl rfl (Nat.le_of_ble_eq_true rfl) (Nat.le_of_ble_eq_true rfl) ⟨Nat.le_of_ble_eq_true rfl, Nat.le_of_ble_eq_true rfl⟩ ?_
      rw [bitI_nI, bit1_pow (by omega), bmI hP]
      refine sp_X0_readMates hPa hP (by rw [show 2 ^ P = S by omega]; exact hMs) (fun J3 hJ3 => ?_)
      change GW _ _ _ 49 _ [] _ _ 0 0
      refine g_vret hM dX0_solve_49 rfl ⟨Nat.le_of_ble_eq_true rfl, Nat.le_of_ble_eq_true rfl⟩ ?_
      refine hq _ (fun a a1 a2 a3 => by rw [up_ne _ _ a3]; exact hF a a1 a2 a3) ?_ ?_
      · rw [up_ne _ _ d13]
        exact (hMs _ (by omega)).1
      · rw [up_same]
        exact hJ3
    · rw [show Int32.ofNat 64 = nI 64 from rfl, nI_leI (by omega) (by omega)] at c17
      refine g_iload_n hX dX0_solve_20 rfl rfl ?_
      refine g_iload_n hX dX0_solve_21 rfl rfl ?_
      refine g_callS (md' := mX5_bit) (As := [.int _]) hX hR dX0_solve_22 clX0_48 okX5_bit rfl rfl (Nat.le_of_ble_eq_true rfl) (Nat.le_of_ble_eq_true rfl) ⟨Nat.le_of_ble_eq_true rfl, Nat.le_of_ble_eq_true rfl⟩ ?_
      refine sp_X5_bit ?_
      change GW _ _ _ 25 _ [.int _, .int _] _ _ 0 0
      refine g_icmpge 39 hX dX0_solve_25 (by decide) (fun c25 => ?_) (fun c25 => ?_)
      · rw [bitI_nI, bit1_pow (by omega), nI_leI (by omega) (by omega)] at c25
        refine g_aload_n hX dX0_solve_39 rfl rfl ?_
        refine g_iload_n hX dX0_solve_40 rfl rfl ?_
        refine g_callS (md' := mX5_bit) (As := [.int _]) hX hR dX0_solve_41 clX0_48 okX5_bit rfl rfl (Nat.le_of_ble_eq_true rfl) (Nat.le_of_ble_eq_true rfl) ⟨Nat.le_of_ble_eq_true rfl, Nat.le_of_ble_eq_true rfl⟩ ?_
        refine sp_X5_bit ?_
        change GW _ _ _ 44 _ [.int _, .ref _] _ _ 0 0
        refine g_iconst (v := nI 1) hX dX0_solve_44 (by decide) ?_
        refine g_isub hX dX0_solve_45 ?_
        refine g_callV (md' := mX0_readMates) (ci := 0) (As := [.int _]) hX hR dX0_solve_46 clX0_55 okX0_readMates rfl (by assumption) rfl rfl (Nat.le_of_ble_eq_true rfl) (Nat.le_of_ble_eq_true rfl) ⟨Nat.le_of_ble_eq_true rfl, Nat.le_of_ble_eq_true rfl⟩ ?_
        rw [bitI_nI, bit1_pow (by omega), bmI hP]
        refine sp_X0_readMates hPa hP (by rw [show 2 ^ P = S by omega]; exact hMs) (fun J3 hJ3 => ?_)
        change GW _ _ _ 49 _ [] _ _ 0 0
        refine g_vret hM dX0_solve_49 rfl ⟨Nat.le_of_ble_eq_true rfl, Nat.le_of_ble_eq_true rfl⟩ ?_
        refine hq _ (fun a a1 a2 a3 => by rw [up_ne _ _ a3]; exact hF a a1 a2 a3) ?_ ?_
        · rw [up_ne _ _ d13]
          exact (hMs _ (by omega)).1
        · rw [up_same]
          exact hJ3
      · rw [bitI_nI, bit1_pow (by omega), nI_leI (by omega) (by omega)] at c25
        refine g_aload_n hX dX0_solve_28 rfl rfl ?_
        refine g_iload_n hX dX0_solve_29 rfl rfl ?_
        refine g_callV (md' := mX0_seatLowest) (ci := 0) (As := [.int _]) hX hR dX0_solve_30 clX0_51 okX0_seatLowest rfl (by assumption) rfl rfl (Nat.le_of_ble_eq_true rfl) (Nat.le_of_ble_eq_true rfl) ⟨Nat.le_of_ble_eq_true rfl, Nat.le_of_ble_eq_true rfl⟩ ?_
        refine sp_X0_seatLowest (P := P) (lk := lk) (v := v) hPa (fun a b hab hb => ?_) hv (by omega) (by omega) (fun i hi => ?_) hMs ?_
        · rw [hF _ (Ne.symm d10) (Ne.symm d20) (kd_ne q0 q3 (by decide))]
          exact hB a b hab hb
        · rcases Nat.lt_or_ge i P with z | z
          · exact z
          · exfalso
            have h2 : 2 ^ P ≤ 2 ^ i := Nat.pow_le_pow_right (by decide) z
            rw [Nat.testBit_lt_two_pow (by omega)] at hi
            cases hi
        change GW _ _ _ 33 _ [] _ _ 0 0
        refine g_iinc (lv' := [(2, .int _), (0, .ref _), (1, .int _)]) hX dX0_solve_33 rfl (by first | exact nI_inc _ | rfl) (by decide) rfl ?_
        refine g_goto 11 hX dX0_solve_36 (by decide) ?_
        refine g_pick [0, 1, 2] rfl (ih (2 ^ P - (S + 1)) (by omega) (S + 1) _ rfl (by omega) (by omega) (fun a a1 a2 a3 => ?_) (fun Z hZ => ?_))
        · rw [up_ne _ _ a1, up_ne _ _ a2]
          exact hF a a1 a2 a3
        · rw [up_same, up_ne _ _ d21, up_same]
          by_cases e : Z = S
          · subst e
            rw [up_same, up_same]
            exact ⟨rfl, fun _ => rfl⟩
          · rw [up_ne _ _ e, up_ne _ _ e]
            exact hMs Z (by omega)
