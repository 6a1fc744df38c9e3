set_option maxHeartbeats 4000000 in
set_option maxRecDepth 100000 in
theorem lp_X0_seatLowest_25 {Γ : Ga} {d : Nat} {κ : Kp} {Q : Option Value → Kp → Ip → Prop} {X : Cx} {I : Ip} {p P S low o : Nat} {lk : Nat → Nat → Bool} {v : Nat → Nat → Nat} {D : Nat → Nat × Nat} (hM : Mx Γ (d + 3) mX0_seatLowest Q X) (hPa : PaK κ p) (hB : PaB κ I p P lk v) (hv : ∀ a b, lk a b = true → v a b ≤ 1200) (hS : S < 64) (hlo : low < 6) (ho : o < 64) (hoS : o < S) (hM1 : ∀ Z, Z < S → I (κ.2.1 p 1) Z = nI (D Z).1) (hDo : (D o).1 ≤ 76800) (hE : ∀ i, i < 6 → o.testBit i = true → i < P ∧ ∃ z, clr o i = z ∧ z < S ∧ nI o &&& (bit1 i ^^^ -1) = nI z ∧ (D z).1 ≤ 76800) (hq : ∀ r : Nat × Nat, r = (if (scF lk v P (fun Z => (D Z).1) low o (5 - low)).1 < (D o).1 + 1 then ((D o).1, P) else ((scF lk v P (fun Z => (D Z).1) low o (5 - low)).1 - 1, (scF lk v P (fun Z => (D Z).1) low o (5 - low)).2)) → Q none κ (va_up (va_up I (κ.2.1 p 2) (va_up (I (κ.2.1 p 2)) S (eI P r.2))) (κ.2.1 p 1) (va_up (I (κ.2.1 p 1)) S (nI r.1)))) : ∀ (n : Nat) (k : Nat), n = 5 - low - k → k ≤ 5 - low → (scF lk v P (fun Z => (D Z).1) low o (k)).1 ≤ 80000 → GW Γ mX0_seatLowest X 25 [(6, .int (nI (low + 1 + k))), (4, .int (eI P (scF lk v P (fun Z => (D Z).1) low o (k)).2)), (5, .int (mI (scF lk v P (fun Z => (D Z).1) low o (k)).1)), (2, .int (nI low)), (3, .int (nI o)), (1, .int (nI S)), (0, .ref (p))] [] κ (I) 0 0 := by
  have hX := hM.std
  have hR := hM.room
  intro n
  induction n using Nat.strongRecOn with
  | ind n ih =>
    intro k hn hk hsb
    obtain ⟨pk, pz, ⟨q0, z0⟩, ⟨q1, z1⟩, ⟨q2, z2⟩, ⟨q3, z3⟩, d12⟩ := id hPa
    have d10 : κ.2.1 p 1 ≠ κ.2.1 p 0 := kd_ne q1 q0 (by decide)
    have d21 : κ.2.1 p 2 ≠ κ.2.1 p 1 := Ne.symm d12
    refine g_iload hX dX0_seatLowest_25 rfl ?_
    refine g_bipush (v := nI 6) hX dX0_seatLowest_27 (by decide) ?_
    refine g_icmpge 102 hX dX0_seatLowest_29 (by decide) (fun c29 => ?_) (fun c29 => ?_)
    · rw [nI_leI (by omega) (by omega)] at c29
      refine g_aload_n hX dX0_seatLowest_102 rfl rfl ?_
      refine g_getR hX dX0_seatLowest_103 flX0_15 (by assumption) rfl (by first | assumption | rfl) (by assumption) ?_
      refine g_iload_n hX dX0_seatLowest_106 rfl rfl ?_
      refine g_callS (md' := mX5_at) (As := [.ref _, .int _]) hX hR dX0_seatLowest_107 clX0_37 okX5_at rfl rfl (Nat.le_of_ble_eq_true rfl) (Nat.le_of_ble_eq_true rfl) ⟨Nat.le_of_ble_eq_true rfl, Nat.le_of_ble_eq_true rfl⟩ ?_
      refine sp_X5_at (x := κ.2.1 p 1) (by assumption) (by decide) ?_
      rw [atV_in (ho) (by decide)]
      rw [hM1 o hoS]
      change GW _ _ _ 110 _ [.int _] _ _ 0 0
      refine g_iload hX dX0_seatLowest_110 rfl ?_
      refine g_icmple 128 hX dX0_seatLowest_112 (by decide) (fun c112 => ?_) (fun c112 => ?_)
      · rw [mI_le (by omega) (by omega)] at c112
        refine g_aload_n hX dX0_seatLowest_128 rfl rfl ?_
        refine g_getR hX dX0_seatLowest_129 flX0_18 (by assumption) rfl (by first | assumption | rfl) (by assumption) ?_
        refine g_iload_n hX dX0_seatLowest_132 rfl rfl ?_
        refine g_iload hX dX0_seatLowest_133 rfl ?_
        refine g_callS (md' := mX5_put) (As := [.ref _, .int _, .int _]) hX hR dX0_seatLowest_135 clX0_24 okX5_put rfl rfl (Nat.le_of_ble_eq_true rfl) (Nat.le_of_ble_eq_true rfl) ⟨Nat.le_of_ble_eq_true rfl, Nat.le_of_ble_eq_true rfl⟩ ?_
        refine sp_X5_put (by assumption) (by decide) (hS) ?_
        change GW _ _ _ 138 _ [] _ _ 0 0
        refine g_aload_n hX dX0_seatLowest_138 rfl rfl ?_
        refine g_getR hX dX0_seatLowest_139 flX0_15 (by assumption) rfl (by first | assumption | rfl) (by assumption) ?_
        refine g_iload_n hX dX0_seatLowest_142 rfl rfl ?_
        refine g_iload hX dX0_seatLowest_143 rfl ?_
        refine g_callS (md' := mX5_put) (As := [.ref _, .int _, .int _]) hX hR dX0_seatLowest_145 clX0_24 okX5_put rfl rfl (Nat.le_of_ble_eq_true rfl) (Nat.le_of_ble_eq_true rfl) ⟨Nat.le_of_ble_eq_true rfl, Nat.le_of_ble_eq_true rfl⟩ ?_
        refine sp_X5_put (by assumption) (by decide) (hS) ?_
        rw [up_ne _ _ d12]
        change GW _ _ _ 148 _ [] _ _ 0 0
        refine g_vret hM dX0_seatLowest_148 rfl ⟨Nat.le_of_ble_eq_true rfl, Nat.le_of_ble_eq_true rfl⟩ ?_
        obtain rfl : k = 5 - low := by omega
        have hz := hq (if (scF lk v P (fun Z => (D Z).1) low o (5 - low)).1 < (D o).1 + 1 then ((D o).1, P) else ((scF lk v P (fun Z => (D Z).1) low o (5 - low)).1 - 1, (scF lk v P (fun Z => (D Z).1) low o (5 - low)).2)) rfl
        rw [if_neg (by omega)] at hz
        dsimp only at hz
        have e9 : mI (scF lk v P (fun Z => (D Z).1) low o (5 - low)).1 = nI ((scF lk v P (fun Z => (D Z).1) low o (5 - low)).1 - 1) := if_neg (by omega)
        rw [e9]
        exact hz
      · rw [mI_le (by omega) (by omega)] at c112
        refine g_iconst (v := (-1)) hX dX0_seatLowest_115 (by decide) ?_
        refine g_istore (lv' := [(4, .int _), (6, .int _), (5, .int _), (2, .int _), (3, .int _), (1, .int _), (0, .ref _)]) hX dX0_seatLowest_116 (by decide) rfl ?_
        refine g_aload_n hX dX0_seatLowest_118 rfl rfl ?_
        refine g_getR hX dX0_seatLowest_119 flX0_15 (by assumption) rfl (by first | assumption | rfl) (by assumption) ?_
        refine g_iload_n hX dX0_seatLowest_122 rfl rfl ?_
        refine g_callS (md' := mX5_at) (As := [.ref _, .int _]) hX hR dX0_seatLowest_123 clX0_37 okX5_at rfl rfl (Nat.le_of_ble_eq_true rfl) (Nat.le_of_ble_eq_true rfl) ⟨Nat.le_of_ble_eq_true rfl, Nat.le_of_ble_eq_true rfl⟩ ?_
        refine sp_X5_at (x := κ.2.1 p 1) (by assumption) (by decide) ?_
        rw [atV_in (ho) (by decide)]
        rw [hM1 o hoS]
        change GW _ _ _ 126 _ [.int _] _ _ 0 0
        refine g_istore (lv' := [(5, .int _), (4, .int _), (6, .int _), (2, .int _), (3, .int _), (1, .int _), (0, .ref _)]) hX dX0_seatLowest_126 (by decide) rfl ?_
        refine g_aload_n hX dX0_seatLowest_128 rfl rfl ?_
        refine g_getR hX dX0_seatLowest_129 flX0_18 (by assumption) rfl (by first | assumption | rfl) (by assumption) ?_
        refine g_iload_n hX dX0_seatLowest_132 rfl rfl ?_
        refine g_iload hX dX0_seatLowest_133 rfl ?_
        refine g_callS (md' := mX5_put) (As := [.ref _, .int _, .int _]) hX hR dX0_seatLowest_135 clX0_24 okX5_put rfl rfl (Nat.le_of_ble_eq_true rfl) (Nat.le_of_ble_eq_true rfl) ⟨Nat.le_of_ble_eq_true rfl, Nat.le_of_ble_eq_true rfl⟩ ?_
        refine sp_X5_put (by assumption) (by decide) (hS) ?_
        change GW _ _ _ 138 _ [] _ _ 0 0
        refine g_aload_n hX dX0_seatLowest_138 rfl rfl ?_
        refine g_getR hX dX0_seatLowest_139 flX0_15 (by assumption) rfl (by first | assumption | rfl) (by assumption) ?_
        refine g_iload_n hX dX0_seatLowest_142 rfl rfl ?_
        refine g_iload hX dX0_seatLowest_143 rfl ?_
        refine g_callS (md' := mX5_put) (As := [.ref _, .int _, .int _]) hX hR dX0_seatLowest_145 clX0_24 okX5_put rfl rfl (Nat.le_of_ble_eq_true rfl) (Nat.le_of_ble_eq_true rfl) ⟨Nat.le_of_ble_eq_true rfl, Nat.le_of_ble_eq_true rfl⟩ ?_
        refine sp_X5_put (by assumption) (by decide) (hS) ?_
        rw [up_ne _ _ d12]
        change GW _ _ _ 148 _ [] _ _ 0 0
        refine g_vret hM dX0_seatLowest_148 rfl ⟨Nat.le_of_ble_eq_true rfl, Nat.le_of_ble_eq_true rfl⟩ ?_
        obtain rfl : k = 5 - low := by omega
        have hz := hq (if (scF lk v P (fun Z => (D Z).1) low o (5 - low)).1 < (D o).1 + 1 then ((D o).1, P) else ((scF lk v P (fun Z => (D Z).1) low o (5 - low)).1 - 1, (scF lk v P (fun Z => (D Z).1) low o (5 - low)).2)) rfl
        rw [if_pos (by omega)] at hz
        dsimp only at hz
        rw [eI_P] at hz
        exact hz
    · rw [nI_leI (by omega) (by omega)] at c29
      refine g_iload_n hX dX0_seatLowest_32 rfl rfl ?_
      refine g_iload hX dX0_seatLowest_33 rfl ?_
      refine g_callS (md' := mX5_bit) (As := [.int _]) hX hR dX0_seatLowest_35 clX0_48 okX5_bit rfl rfl (Nat.le_of_ble_eq_true rfl) (Nat.le_of_ble_eq_true rfl) ⟨Nat.le_of_ble_eq_true rfl, Nat.le_of_ble_eq_true rfl⟩ ?_
      refine sp_X5_bit ?_
      change GW _ _ _ 38 _ [.int _, .int _] _ _ 0 0
      refine g_iand hX dX0_seatLowest_38 ?_
      refine g_ifeq 96 hX dX0_seatLowest_39 (by decide) (fun c39 => ?_) (fun c39 => ?_)
      · rw [bitI_nI, and_bit0 (by omega), bt_nI (by omega) (by omega)] at c39
        refine g_iinc (lv' := [(6, .int _), (4, .int _), (5, .int _), (2, .int _), (3, .int _), (1, .int _), (0, .ref _)]) hX dX0_seatLowest_96 rfl (by first | exact nI_inc _ | rfl) (by decide) rfl ?_
        refine g_goto 25 hX dX0_seatLowest_99 (by decide) ?_
        have e : (scF lk v P (fun Z => (D Z).1) low o (k + 1)) = (scF lk v P (fun Z => (D Z).1) low o (k)) := by rw [scF, if_neg (fun e => by rw [c39] at e; cases e.1)]
        rw [← e] at hsb ⊢
        exact g_pick [0, 1, 2, 3, 4, 5, 6] rfl (ih (5 - low - (k + 1)) (by omega) (k + 1) rfl (by omega) (by omega))
      · rw [bitI_nI, and_bit1 (by omega), bt_nI (by omega) (by omega)] at c39
        have h6 : low + 1 + k < 6 := by omega
        obtain ⟨hkP, z, ez, z1, z2, z3⟩ := hE _ h6 c39
        refine g_aload_n hX dX0_seatLowest_42 rfl rfl ?_
        refine g_iload_n hX dX0_seatLowest_43 rfl rfl ?_
        refine g_iload hX dX0_seatLowest_44 rfl ?_
        refine g_callV (md' := mX0_butterOf) (ci := 0) (As := [.int _, .int _]) hX hR dX0_seatLowest_46 clX0_45 okX0_butterOf rfl (by assumption) rfl rfl (Nat.le_of_ble_eq_true rfl) (Nat.le_of_ble_eq_true rfl) ⟨Nat.le_of_ble_eq_true rfl, Nat.le_of_ble_eq_true rfl⟩ ?_
        refine sp_X0_butterOf hPa hlo (show low + 1 + k < 6 by omega) (by omega) ?_
        rw [show 6 * min low (low + 1 + k) + max low (low + 1 + k) = 6 * low + (low + 1 + k) by omega, hB _ _ (by omega) hkP]
        change GW _ _ _ 49 _ [.int _] _ _ 0 0
        refine g_ifge 55 hX dX0_seatLowest_49 (by decide) (fun c49 => ?_) (fun c49 => ?_)
        · replace c49 : lk low (low + 1 + k) = true := by
            cases hlk : lk low (low + 1 + k) with
            | true => rfl
            | false => rw [hlk, if_neg (by decide)] at c49; exact absurd c49 (by decide)
          have hv1 := hv _ _ c49
          refine g_aload_n hX dX0_seatLowest_55 rfl rfl ?_
          refine g_iload_n hX dX0_seatLowest_56 rfl rfl ?_
          refine g_iload hX dX0_seatLowest_57 rfl ?_
          refine g_callV (md' := mX0_butterOf) (ci := 0) (As := [.int _, .int _]) hX hR dX0_seatLowest_59 clX0_45 okX0_butterOf rfl (by assumption) rfl rfl (Nat.le_of_ble_eq_true rfl) (Nat.le_of_ble_eq_true rfl) ⟨Nat.le_of_ble_eq_true rfl, Nat.le_of_ble_eq_true rfl⟩ ?_
          refine sp_X0_butterOf hPa hlo (show low + 1 + k < 6 by omega) (by omega) ?_
          rw [show 6 * min low (low + 1 + k) + max low (low + 1 + k) = 6 * low + (low + 1 + k) by omega, hB _ _ (by omega) hkP]
          rw [if_pos c49]
          change GW _ _ _ 62 _ [.int _] _ _ 0 0
          refine g_aload_n hX dX0_seatLowest_62 rfl rfl ?_
          refine g_getR hX dX0_seatLowest_63 flX0_15 (by assumption) rfl (by first | assumption | rfl) (by assumption) ?_
          refine g_iload_n hX dX0_seatLowest_66 rfl rfl ?_
          refine g_iload hX dX0_seatLowest_67 rfl ?_
          refine g_callS (md' := mX5_bit) (As := [.int _]) hX hR dX0_seatLowest_69 clX0_48 okX5_bit rfl rfl (Nat.le_of_ble_eq_true rfl) (Nat.le_of_ble_eq_true rfl) ⟨Nat.le_of_ble_eq_true rfl, Nat.le_of_ble_eq_true rfl⟩ ?_
          refine sp_X5_bit ?_
          change GW _ _ _ 72 _ [.int _, .int _, .ref _, .int _] _ _ 0 0
          refine g_iconst (v := (-1)) hX dX0_seatLowest_72 (by decide) ?_
          refine g_ixor hX dX0_seatLowest_73 ?_
          refine g_iand hX dX0_seatLowest_74 ?_
          rw [bitI_nI, z2]
          refine g_callS (md' := mX5_at) (As := [.ref _, .int _]) hX hR dX0_seatLowest_75 clX0_37 okX5_at rfl rfl (Nat.le_of_ble_eq_true rfl) (Nat.le_of_ble_eq_true rfl) ⟨Nat.le_of_ble_eq_true rfl, Nat.le_of_ble_eq_true rfl⟩ ?_
          refine sp_X5_at (x := κ.2.1 p 1) (by assumption) (by decide) ?_
          rw [atV_in (show z < 64 by omega) (by decide)]
          rw [hM1 z z1]
          change GW _ _ _ 78 _ [.int _, .int _] _ _ 0 0
          refine g_iadd hX dX0_seatLowest_78 ?_
          rw [nI_add]
          refine g_istore (lv' := [(7, .int _), (6, .int _), (4, .int _), (5, .int _), (2, .int _), (3, .int _), (1, .int _), (0, .ref _)]) hX dX0_seatLowest_79 (by decide) rfl ?_
          refine g_iload hX dX0_seatLowest_81 rfl ?_
          refine g_iload hX dX0_seatLowest_83 rfl ?_
          refine g_icmple 96 hX dX0_seatLowest_85 (by decide) (fun c85 => ?_) (fun c85 => ?_)
          · rw [mI_le (by omega) (by omega)] at c85
            refine g_iinc (lv' := [(6, .int _), (7, .int _), (4, .int _), (5, .int _), (2, .int _), (3, .int _), (1, .int _), (0, .ref _)]) hX dX0_seatLowest_96 rfl (by first | exact nI_inc _ | rfl) (by decide) rfl ?_
            refine g_goto 25 hX dX0_seatLowest_99 (by decide) ?_
            have e : (scF lk v P (fun Z => (D Z).1) low o (k + 1)) = (scF lk v P (fun Z => (D Z).1) low o (k)) := by rw [scF, if_neg (fun e => by have := e.2.2; rw [ez] at this; omega)]
            rw [← e] at hsb ⊢
            exact g_pick [0, 2, 3, 4, 5, 6, 7] rfl (ih (5 - low - (k + 1)) (by omega) (k + 1) rfl (by omega) (by omega))
          · rw [mI_le (by omega) (by omega)] at c85
            refine g_iload hX dX0_seatLowest_88 rfl ?_
            refine g_istore (lv' := [(4, .int _), (7, .int _), (6, .int _), (5, .int _), (2, .int _), (3, .int _), (1, .int _), (0, .ref _)]) hX dX0_seatLowest_90 (by decide) rfl ?_
            refine g_iload hX dX0_seatLowest_92 rfl ?_
            refine g_istore (lv' := [(5, .int _), (4, .int _), (7, .int _), (6, .int _), (2, .int _), (3, .int _), (1, .int _), (0, .ref _)]) hX dX0_seatLowest_94 (by decide) rfl ?_
            refine g_iinc (lv' := [(6, .int _), (5, .int _), (4, .int _), (7, .int _), (2, .int _), (3, .int _), (1, .int _), (0, .ref _)]) hX dX0_seatLowest_96 rfl (by first | exact nI_inc _ | rfl) (by decide) rfl ?_
            refine g_goto 25 hX dX0_seatLowest_99 (by decide) ?_
            have e : (scF lk v P (fun Z => (D Z).1) low o (k + 1)) = (v low (low + 1 + k) + (D z).1 + 1, low + 1 + k) := by rw [scF, ez, if_pos ⟨c39, c49, by omega⟩]
            have e1 : nI (low + 1 + k) = eI P (scF lk v P (fun Z => (D Z).1) low o (k + 1)).2 := by rw [e, eI_n (by omega)]
            have e2 : nI (v low (low + 1 + k) + (D z).1) = mI (scF lk v P (fun Z => (D Z).1) low o (k + 1)).1 := by rw [e, mI_s]
            have hz := ih (5 - low - (k + 1)) (by omega) (k + 1) rfl (by omega) (by rw [e]; show _ + 1 ≤ _; omega)
            rw [← e1, ← e2] at hz
            exact g_pick [0, 2, 1, 4, 5, 6, 7] rfl hz
        · replace c49 : lk low (low + 1 + k) = false := by
            cases hlk : lk low (low + 1 + k) with
            | false => rfl
            | true =>
              exfalso
              have hv1 := hv _ _ hlk
              rw [hlk, if_pos rfl] at c49
              apply c49
              show nI 0 ≤ _
              rw [nI_leI (by omega) (by omega)]
              exact Nat.zero_le _
          refine g_goto 96 hX dX0_seatLowest_52 (by decide) ?_
          refine g_iinc (lv' := [(6, .int _), (4, .int _), (5, .int _), (2, .int _), (3, .int _), (1, .int _), (0, .ref _)]) hX dX0_seatLowest_96 rfl (by first | exact nI_inc _ | rfl) (by decide) rfl ?_
          refine g_goto 25 hX dX0_seatLowest_99 (by decide) ?_
          have e : (scF lk v P (fun Z => (D Z).1) low o (k + 1)) = (scF lk v P (fun Z => (D Z).1) low o (k)) := by rw [scF, if_neg (fun e => by rw [c49] at e; cases e.2.1)]
          rw [← e] at hsb ⊢
          exact g_pick [0, 1, 2, 3, 4, 5, 6] rfl (ih (5 - low - (k + 1)) (by omega) (k + 1) rfl (by omega) (by omega))
