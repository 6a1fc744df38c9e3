set_option maxHeartbeats 4000000 in
set_option maxRecDepth 100000 in
theorem lp_X0_readMates_4 {Γ : Ga} {d : Nat} {κ : Kp} {Q : Option Value → Kp → Ip → Prop} {X : Cx} {I : Ip} {p P : Nat} {lk : Nat → Nat → Bool} {v : Nat → Nat → Nat} (hM : Mx Γ (d + 1) mX0_readMates Q X) (hPa : PaK κ p) (hP : P ≤ 6) (hMt : PaM κ I p P (2 ^ P) lk v) (hq : ∀ J3 : Nat → Int32, (∀ x, x < P → J3 x = eI P (bmF lk v P 64 (2 ^ P - 1) x)) → Q none κ (va_up I (κ.2.1 p 3) J3)) : ∀ (n : Nat) (x S : Nat) (J3 : Nat → Int32), n = 6 - x → x ≤ 6 → PaT lk v P S x J3 → GW Γ mX0_readMates X 4 [(3, .int (nI x)), (2, .int (nI S)), (0, .ref (p)), (1, .int (nI (2 ^ P - 1)))] [] κ (va_up I (κ.2.1 p 3) J3) 0 0 := by
  have hX := hM.std
  have hR := hM.room
  intro n
  induction n using Nat.strongRecOn with
  | ind n ih =>
    intro x S J3 hn hx hT
    obtain ⟨pk, pz, ⟨q0, z0⟩, ⟨q1, z1⟩, ⟨q2, z2⟩, ⟨q3, z3⟩, d12⟩ := id hPa
    have d31 : κ.2.1 p 2 ≠ κ.2.1 p 3 := kd_ne q2 q3 (by decide)
    obtain ⟨e1, e2⟩ := pow6 hP
    have hS64 := hT.1
    refine g_iload_n hX dX0_readMates_4 rfl rfl ?_
    refine g_aload_n hX dX0_readMates_5 rfl rfl ?_
    refine g_getR hX dX0_readMates_6 flX0_21 (by assumption) rfl (by first | assumption | rfl) (by assumption) ?_
    refine g_alen hX dX0_readMates_9 (by assumption) (by decide) rfl ?_
    refine g_icmpge 86 hX dX0_readMates_10 (by decide) (fun c10 => ?_) (fun c10 => ?_)
    · rw [show Int32.ofNat 6 = nI 6 from rfl, nI_leI (by omega) (by omega)] at c10
      refine g_vret hM dX0_readMates_86 rfl ⟨Nat.le_of_ble_eq_true rfl, Nat.le_of_ble_eq_true rfl⟩ ?_
      refine hq J3 (fun y hy => hT.2.2.1 y hy ?_)
      cases hb : S.testBit y with
      | false => rfl
      | true => have := (hT.2.1 y hb).2; omega
    · rw [show Int32.ofNat 6 = nI 6 from rfl, nI_leI (by omega) (by omega)] at c10
      refine g_iload_n hX dX0_readMates_13 rfl rfl ?_
      refine g_iload_n hX dX0_readMates_14 rfl rfl ?_
      refine g_callS (md' := mX5_bit) (As := [.int _]) hX hR dX0_readMates_15 clX0_48 okX5_bit rfl rfl (Nat.le_of_ble_eq_true rfl) (Nat.le_of_ble_eq_true rfl) ⟨Nat.le_of_ble_eq_true rfl, Nat.le_of_ble_eq_true rfl⟩ ?_
      refine sp_X5_bit ?_
      change GW _ _ _ 18 _ [.int _, .int _] _ _ 0 0
      refine g_iand hX dX0_readMates_18 ?_
      refine g_ifne 25 hX dX0_readMates_19 (by decide) (fun c19 => ?_) (fun c19 => ?_)
      · rw [bitI_nI, and_bit1 (by omega), bt_nI (by omega) (by omega)] at c19
        have hS0 : S ≠ 0 ∧ lwS S = x := hT.low c19
        obtain ⟨md, hmd⟩ : ∃ md, md = (DF lk v P S).2 := ⟨_, rfl⟩
        have hd2 : md ≤ P := by rw [hmd]; exact DF_two hT.1 hS0.1 (fun i hi => (hT.2.1 i hi).1)
        have hSP : S < 2 ^ P := by
          rcases Nat.lt_or_ge S (2 ^ P) with z | z
          · exact z
          · exfalso
            obtain ⟨i, hi1, hi2⟩ := Nat.exists_ge_and_testBit_of_ge_two_pow z
            have := (hT.2.1 i hi2).1
            omega
        refine g_aload_n hX dX0_readMates_25 rfl rfl ?_
        refine g_getR hX dX0_readMates_26 flX0_18 (by assumption) rfl (by first | assumption | rfl) (by assumption) ?_
        refine g_iload_n hX dX0_readMates_29 rfl rfl ?_
        refine g_callS (md' := mX5_at) (As := [.ref _, .int _]) hX hR dX0_readMates_30 clX0_37 okX5_at rfl rfl (Nat.le_of_ble_eq_true rfl) (Nat.le_of_ble_eq_true rfl) ⟨Nat.le_of_ble_eq_true rfl, Nat.le_of_ble_eq_true rfl⟩ ?_
        refine sp_X5_at (x := κ.2.1 p 2) (by assumption) (by decide) ?_
        rw [up_ne _ _ d31, atV_in hS64 (by decide), (hMt S hSP).2 hS0.1, ← hmd]
        change GW _ _ _ 33 _ [.int _] _ _ 0 0
        refine g_istore (lv' := [(4, .int _), (3, .int _), (2, .int _), (0, .ref _), (1, .int _)]) hX dX0_readMates_33 (by decide) rfl ?_
        refine g_aload_n hX dX0_readMates_35 rfl rfl ?_
        refine g_getR hX dX0_readMates_36 flX0_21 (by assumption) rfl (by first | assumption | rfl) (by assumption) ?_
        refine g_iload_n hX dX0_readMates_39 rfl rfl ?_
        refine g_iload hX dX0_readMates_40 rfl ?_
        refine g_callS (md' := mX5_put) (As := [.ref _, .int _, .int _]) hX hR dX0_readMates_42 clX0_24 okX5_put rfl rfl (Nat.le_of_ble_eq_true rfl) (Nat.le_of_ble_eq_true rfl) ⟨Nat.le_of_ble_eq_true rfl, Nat.le_of_ble_eq_true rfl⟩ ?_
        refine sp_X5_put (by assumption) (by decide) (by omega) ?_
        rw [up_same, up_up]
        change GW _ _ _ 45 _ [] _ _ 0 0
        refine g_iload_n hX dX0_readMates_45 rfl rfl ?_
        refine g_iload_n hX dX0_readMates_46 rfl rfl ?_
        refine g_callS (md' := mX5_bit) (As := [.int _]) hX hR dX0_readMates_47 clX0_48 okX5_bit rfl rfl (Nat.le_of_ble_eq_true rfl) (Nat.le_of_ble_eq_true rfl) ⟨Nat.le_of_ble_eq_true rfl, Nat.le_of_ble_eq_true rfl⟩ ?_
        refine sp_X5_bit ?_
        change GW _ _ _ 50 _ [.int _, .int _] _ _ 0 0
        refine g_iconst (v := (-1)) hX dX0_readMates_50 (by decide) ?_
        refine g_ixor hX dX0_readMates_51 ?_
        refine g_iand hX dX0_readMates_52 ?_
        rw [bitI_nI, clr_I _ hS64 _ (by omega)]
        refine g_istore_n (lv' := [(2, .int _), (4, .int _), (3, .int _), (0, .ref _), (1, .int _)]) hX dX0_readMates_53 rfl (by decide) rfl ?_
        refine g_iload hX dX0_readMates_54 rfl ?_
        refine g_iconst (v := (-1)) hX dX0_readMates_56 (by decide) ?_
        refine g_icmpeq 80 hX dX0_readMates_57 (by decide) (fun c57 => ?_) (fun c57 => ?_)
        · rw [eI_m1 (by omega)] at c57
          refine g_iinc (lv' := [(3, .int _), (2, .int _), (4, .int _), (0, .ref _), (1, .int _)]) hX dX0_readMates_80 rfl (by first | exact nI_inc _ | rfl) (by decide) rfl ?_
          refine g_goto 4 hX dX0_readMates_83 (by decide) ?_
          rw [c57, eI_P]
          exact g_pick [0, 1, 3, 4] rfl (ih (6 - (x + 1)) (by omega) (x + 1) _ _ rfl (by omega) (hT.aside c19 (by rw [← hmd]; exact c57)))
        · rw [eI_m1 (by omega)] at c57
          obtain ⟨g1, g2, g3, g4⟩ := hT.pair c19 (by rw [← hmd]; exact c57)
          rw [← hmd] at g1 g2 g3 g4
          rw [eI_n c57]
          refine g_aload_n hX dX0_readMates_60 rfl rfl ?_
          refine g_getR hX dX0_readMates_61 flX0_21 (by assumption) rfl (by first | assumption | rfl) (by assumption) ?_
          refine g_iload hX dX0_readMates_64 rfl ?_
          refine g_iload_n hX dX0_readMates_66 rfl rfl ?_
          refine g_callS (md' := mX5_put) (As := [.ref _, .int _, .int _]) hX hR dX0_readMates_67 clX0_24 okX5_put rfl rfl (Nat.le_of_ble_eq_true rfl) (Nat.le_of_ble_eq_true rfl) ⟨Nat.le_of_ble_eq_true rfl, Nat.le_of_ble_eq_true rfl⟩ ?_
          refine sp_X5_put (by assumption) (by decide) (by omega) ?_
          rw [up_same, up_up]
          change GW _ _ _ 70 _ [] _ _ 0 0
          refine g_iload_n hX dX0_readMates_70 rfl rfl ?_
          refine g_iload hX dX0_readMates_71 rfl ?_
          refine g_callS (md' := mX5_bit) (As := [.int _]) hX hR dX0_readMates_73 clX0_48 okX5_bit rfl rfl (Nat.le_of_ble_eq_true rfl) (Nat.le_of_ble_eq_true rfl) ⟨Nat.le_of_ble_eq_true rfl, Nat.le_of_ble_eq_true rfl⟩ ?_
          refine sp_X5_bit ?_
          change GW _ _ _ 76 _ [.int _, .int _] _ _ 0 0
          refine g_iconst (v := (-1)) hX dX0_readMates_76 (by decide) ?_
          refine g_ixor hX dX0_readMates_77 ?_
          refine g_iand hX dX0_readMates_78 ?_
          rw [bitI_nI, clr_I _ (clr_lt64 S hS64 x (by omega)).1 _ (by omega)]
          refine g_istore_n (lv' := [(2, .int _), (4, .int _), (3, .int _), (0, .ref _), (1, .int _)]) hX dX0_readMates_79 rfl (by decide) rfl ?_
          refine g_iinc (lv' := [(3, .int _), (2, .int _), (4, .int _), (0, .ref _), (1, .int _)]) hX dX0_readMates_80 rfl (by first | exact nI_inc _ | rfl) (by decide) rfl ?_
          refine g_goto 4 hX dX0_readMates_83 (by decide) ?_
          exact g_pick [0, 1, 3, 4] rfl (ih (6 - (x + 1)) (by omega) (x + 1) _ _ rfl (by omega) g4)
      · rw [bitI_nI, and_bit0 (by omega), bt_nI (by omega) (by omega)] at c19
        refine g_goto 80 hX dX0_readMates_22 (by decide) ?_
        refine g_iinc (lv' := [(3, .int _), (2, .int _), (0, .ref _), (1, .int _)]) hX dX0_readMates_80 rfl (by first | exact nI_inc _ | rfl) (by decide) rfl ?_
        refine g_goto 4 hX dX0_readMates_83 (by decide) ?_
        exact g_pick [0, 1, 2, 3] rfl (ih (6 - (x + 1)) (by omega) (x + 1) S J3 rfl (by omega) (hT.no c19))
