set_option maxHeartbeats 4000000 in
set_option maxRecDepth 100000 in
theorem sp_X5_at {Γ : Ga} {d : Nat} {κ : Kp} {I : Ip} {Q : Option Value → Kp → Ip → Prop} {x n : Nat} {i : Int32} (hx : κ.1 x = (8, n)) (hn : n < 1000) (hq : Q (some (.int (atV (I x) n i))) κ I) : Sp Γ d mX5_at [.ref (x), .int (i)] κ I Q := by
  intro X hM
  have hX := hM.std
  show GW _ mX5_at X 0 [(0, .ref (x)), (1, .int (i))] [] _ _ 0 0
  refine g_iload_n hX dX5_at_0 rfl rfl ?_
  refine g_iflt 16 hX dX5_at_1 (by decide) (fun c1 => ?_) (fun c1 => ?_)
  · rw [x_lt_0] at c1
    refine g_iconst (v := nI 0) hX dX5_at_16 (by decide) ?_
    refine g_iret hM dX5_at_17 rfl (rfl) ⟨Nat.le_of_ble_eq_true rfl, Nat.le_of_ble_eq_true rfl⟩ ?_
    exact q_int (atV_out (inN_no1 c1)) hq
  · rw [x_lt_0] at c1
    refine g_iload_n hX dX5_at_4 rfl rfl ?_
    refine g_aload_n hX dX5_at_5 rfl rfl ?_
    refine g_alen hX dX5_at_6 hx (by decide) rfl ?_
    refine g_icmpge 16 hX dX5_at_7 (by decide) (fun c7 => ?_) (fun c7 => ?_)
    · rw [show Int32.ofNat n = nI n from rfl, nI_le_x (by omega)] at c7
      refine g_iconst (v := nI 0) hX dX5_at_16 (by decide) ?_
      refine g_iret hM dX5_at_17 rfl (rfl) ⟨Nat.le_of_ble_eq_true rfl, Nat.le_of_ble_eq_true rfl⟩ ?_
      exact q_int (atV_out (inN_no2 c7)) hq
    · rw [show Int32.ofNat n = nI n from rfl, nI_le_x (by omega)] at c7
      obtain ⟨j, hj, rfl⟩ := inN_of (n := n) (x := i) ⟨by omega, by omega⟩
      refine g_aload_n hX dX5_at_10 rfl rfl ?_
      refine g_iload_n hX dX5_at_11 rfl rfl ?_
      refine g_ialdN hX dX5_at_12 (by assumption) (rfl) (by omega) (by first | decide | omega) ?_
      refine g_goto 17 hX dX5_at_13 (by decide) ?_
      refine g_iret hM dX5_at_17 rfl (rfl) ⟨Nat.le_of_ble_eq_true rfl, Nat.le_of_ble_eq_true rfl⟩ ?_
      exact q_int (atV_in hj (by omega)) hq

set_option maxHeartbeats 4000000 in
set_option maxRecDepth 100000 in
theorem sp_X5_put {Γ : Ga} {d : Nat} {κ : Kp} {I : Ip} {Q : Option Value → Kp → Ip → Prop} {x n j : Nat} {v : Int32} (hx : κ.1 x = (8, n)) (hn : n < 1000) (hj : j < n) (hq : Q none κ (va_up I x (va_up (I x) j v))) : Sp Γ d mX5_put [.ref (x), .int (nI j), .int (v)] κ I Q := by
  intro X hM
  have hX := hM.std
  show GW _ mX5_put X 0 [(0, .ref (x)), (1, .int (nI j)), (2, .int (v))] [] _ _ 0 0
  refine g_iload_n hX dX5_put_0 rfl rfl ?_
  refine g_iflt 14 hX dX5_put_1 (by decide) (fun c1 => ?_) (fun c1 => ?_)
  · rw [x_lt_0, nI_toInt (by omega)] at c1
    exfalso; omega
  · refine g_iload_n hX dX5_put_4 rfl rfl ?_
    refine g_aload_n hX dX5_put_5 rfl rfl ?_
    refine g_alen hX dX5_put_6 (by assumption) (by decide) rfl ?_
    refine g_icmpge 14 hX dX5_put_7 (by decide) (fun c7 => ?_) (fun c7 => ?_)
    · rw [show Int32.ofNat n = nI n from rfl, nI_leI (by omega) (by omega)] at c7
      exfalso; omega
    · refine g_aload_n hX dX5_put_10 rfl rfl ?_
      refine g_iload_n hX dX5_put_11 rfl rfl ?_
      refine g_iload_n hX dX5_put_12 rfl rfl ?_
      refine g_iastN hX dX5_put_13 (by assumption) (rfl) (by omega) (by first | decide | omega) ?_
      refine g_vret hM dX5_put_14 rfl ⟨Nat.le_of_ble_eq_true rfl, Nat.le_of_ble_eq_true rfl⟩ ?_
      exact hq

set_option maxHeartbeats 4000000 in
set_option maxRecDepth 100000 in
theorem sp_X5_bit {Γ : Ga} {d : Nat} {κ : Kp} {I : Ip} {Q : Option Value → Kp → Ip → Prop} {i : Int32}  (hq : Q (some (.int (bitI i))) κ I) : Sp Γ d mX5_bit [.int (i)] κ I Q := by
  intro X hM
  have hX := hM.std
  show GW _ mX5_bit X 0 [(0, .int (i))] [] _ _ 0 0
  refine g_iconst (v := nI 1) hX dX5_bit_0 (by decide) ?_
  refine g_iload_n hX dX5_bit_1 rfl rfl ?_
  refine g_ishl hX dX5_bit_2 ?_
  refine g_iret hM dX5_bit_3 rfl (rfl) ⟨Nat.le_of_ble_eq_true rfl, Nat.le_of_ble_eq_true rfl⟩ ?_
  exact hq

set_option maxHeartbeats 4000000 in
set_option maxRecDepth 100000 in
theorem sp_X5_isWithin {Γ : Ga} {d : Nat} {κ : Kp} {I : Ip} {Q : Option Value → Kp → Ip → Prop} {x : Int32} {lo hi : Nat} (hlo : lo < 2 ^ 31) (hhi : hi < 2 ^ 31) (hq : Q (some (.int (b2i (decide (inR lo hi x))))) κ I) : Sp Γ d mX5_isWithin [.int (x), .int (nI lo), .int (nI hi)] κ I Q := by
  intro X hM
  have hX := hM.std
  show GW _ mX5_isWithin X 0 [(0, .int (x)), (1, .int (nI lo)), (2, .int (nI hi))] [] _ _ 0 0
  refine g_iload_n hX dX5_isWithin_0 rfl rfl ?_
  refine g_iload_n hX dX5_isWithin_1 rfl rfl ?_
  refine g_icmplt 14 hX dX5_isWithin_2 (by decide) (fun c2 => ?_) (fun c2 => ?_)
  · rw [inR_lt hlo] at c2
    refine g_iconst (v := nI 0) hX dX5_isWithin_14 (by decide) ?_
    refine g_iret hM dX5_isWithin_15 rfl (rfl) ⟨Nat.le_of_ble_eq_true rfl, Nat.le_of_ble_eq_true rfl⟩ ?_
    exact q_f (decide_eq_false (fun e => by have := e.1; omega)) hq
  · rw [inR_lt hlo] at c2
    refine g_iload_n hX dX5_isWithin_5 rfl rfl ?_
    refine g_iload_n hX dX5_isWithin_6 rfl rfl ?_
    refine g_icmpgt 14 hX dX5_isWithin_7 (by decide) (fun c7 => ?_) (fun c7 => ?_)
    · rw [inR_gt hhi] at c7
      refine g_iconst (v := nI 0) hX dX5_isWithin_14 (by decide) ?_
      refine g_iret hM dX5_isWithin_15 rfl (rfl) ⟨Nat.le_of_ble_eq_true rfl, Nat.le_of_ble_eq_true rfl⟩ ?_
      exact q_f (decide_eq_false (fun e => by have := e.2; omega)) hq
    · rw [inR_gt hhi] at c7
      refine g_iconst (v := nI 1) hX dX5_isWithin_10 (by decide) ?_
      refine g_goto 15 hX dX5_isWithin_11 (by decide) ?_
      refine g_iret hM dX5_isWithin_15 rfl (rfl) ⟨Nat.le_of_ble_eq_true rfl, Nat.le_of_ble_eq_true rfl⟩ ?_
      exact q_t (decide_eq_true ⟨by omega, by omega⟩) hq

set_option maxHeartbeats 4000000 in
set_option maxRecDepth 100000 in
theorem sp_X5_isSpan {Γ : Ga} {d : Nat} {κ : Kp} {I : Ip} {Q : Option Value → Kp → Ip → Prop} {x : Int32}  (hq : Q (some (.int (b2i (decide (inR 1 60 x))))) κ I) : Sp Γ (d + 1) mX5_isSpan [.int (x)] κ I Q := by
  intro X hM
  have hX := hM.std
  have hR := hM.room
  show GW _ mX5_isSpan X 0 [(0, .int (x))] [] _ _ 0 0
  refine g_iload_n hX dX5_isSpan_0 rfl rfl ?_
  refine g_iconst (v := nI 1) hX dX5_isSpan_1 (by decide) ?_
  refine g_bipush (v := nI 60) hX dX5_isSpan_2 (by decide) ?_
  refine g_callS (md' := mX5_isWithin) (As := [.int _, .int _, .int _]) hX hR dX5_isSpan_4 clX5_81 okX5_isWithin rfl rfl (Nat.le_of_ble_eq_true rfl) (Nat.le_of_ble_eq_true rfl) ⟨Nat.le_of_ble_eq_true rfl, Nat.le_of_ble_eq_true rfl⟩ ?_
  refine sp_X5_isWithin (lo := 1) (hi := 60) (by decide) (by decide) ?_
  change GW _ _ _ 7 _ [.int _] _ _ 0 0
  refine g_iret hM dX5_isSpan_7 rfl (b2i_nar _) ⟨Nat.le_of_ble_eq_true rfl, Nat.le_of_ble_eq_true rfl⟩ ?_
  exact hq

set_option maxHeartbeats 4000000 in
set_option maxRecDepth 100000 in
theorem sp_J6_bitCount_0f7a4 {Γ : Ga} {d : Nat} {κ : Kp} {I : Ip} {Q : Option Value → Kp → Ip → Prop} {k : Nat} (hk : k < 512) (hq : Q (some (.int (nI (pc9 k)))) κ I) : Sp Γ d mJ6_bitCount_0f7a4 [.int (nI k)] κ I Q := by
  intro X hM
  have hX := hM.std
  show GW _ mJ6_bitCount_0f7a4 X 0 [(0, .int (nI k))] [] _ _ 0 0
  refine g_iload_n hX dJ6_bitCount_0f7a4_0 rfl rfl ?_
  refine g_iload_n hX dJ6_bitCount_0f7a4_1 rfl rfl ?_
  refine g_iconst (v := nI 1) hX dJ6_bitCount_0f7a4_2 (by decide) ?_
  refine g_iushr hX dJ6_bitCount_0f7a4_3 rfl ?_
  refine g_ldcw hX dJ6_bitCount_0f7a4_4 kJ6_265 ?_
  refine g_iand hX dJ6_bitCount_0f7a4_7 ?_
  refine g_isub hX dJ6_bitCount_0f7a4_8 ?_
  change GW _ _ _ _ _ [.int (bA (nI k))] _ _ _ _
  refine g_istore_n (lv' := [(0, .int _)]) hX dJ6_bitCount_0f7a4_9 rfl (by decide) rfl ?_
  refine g_iload_n hX dJ6_bitCount_0f7a4_10 rfl rfl ?_
  refine g_ldcw hX dJ6_bitCount_0f7a4_11 kJ6_266 ?_
  refine g_iand hX dJ6_bitCount_0f7a4_14 ?_
  refine g_iload_n hX dJ6_bitCount_0f7a4_15 rfl rfl ?_
  refine g_iconst (v := nI 2) hX dJ6_bitCount_0f7a4_16 (by decide) ?_
  refine g_iushr hX dJ6_bitCount_0f7a4_17 rfl ?_
  refine g_ldcw hX dJ6_bitCount_0f7a4_18 kJ6_266 ?_
  refine g_iand hX dJ6_bitCount_0f7a4_21 ?_
  refine g_iadd hX dJ6_bitCount_0f7a4_22 ?_
  change GW _ _ _ _ _ [.int (bB (bA (nI k)))] _ _ _ _
  refine g_istore_n (lv' := [(0, .int _)]) hX dJ6_bitCount_0f7a4_23 rfl (by decide) rfl ?_
  refine g_iload_n hX dJ6_bitCount_0f7a4_24 rfl rfl ?_
  refine g_iload_n hX dJ6_bitCount_0f7a4_25 rfl rfl ?_
  refine g_iconst (v := nI 4) hX dJ6_bitCount_0f7a4_26 (by decide) ?_
  refine g_iushr hX dJ6_bitCount_0f7a4_27 rfl ?_
  refine g_iadd hX dJ6_bitCount_0f7a4_28 ?_
  refine g_ldcw hX dJ6_bitCount_0f7a4_29 kJ6_267 ?_
  refine g_iand hX dJ6_bitCount_0f7a4_32 ?_
  change GW _ _ _ _ _ [.int (bC (bB (bA (nI k))))] _ _ _ _
  refine g_istore_n (lv' := [(0, .int _)]) hX dJ6_bitCount_0f7a4_33 rfl (by decide) rfl ?_
  refine g_iload_n hX dJ6_bitCount_0f7a4_34 rfl rfl ?_
  refine g_iload_n hX dJ6_bitCount_0f7a4_35 rfl rfl ?_
  refine g_bipush (v := nI 8) hX dJ6_bitCount_0f7a4_36 (by decide) ?_
  refine g_iushr hX dJ6_bitCount_0f7a4_38 rfl ?_
  refine g_iadd hX dJ6_bitCount_0f7a4_39 ?_
  change GW _ _ _ _ _ [.int (bD (bC (bB (bA (nI k)))))] _ _ _ _
  refine g_istore_n (lv' := [(0, .int _)]) hX dJ6_bitCount_0f7a4_40 rfl (by decide) rfl ?_
  refine g_iload_n hX dJ6_bitCount_0f7a4_41 rfl rfl ?_
  refine g_iload_n hX dJ6_bitCount_0f7a4_42 rfl rfl ?_
  refine g_bipush (v := nI 16) hX dJ6_bitCount_0f7a4_43 (by decide) ?_
  refine g_iushr hX dJ6_bitCount_0f7a4_45 rfl ?_
  refine g_iadd hX dJ6_bitCount_0f7a4_46 ?_
  change GW _ _ _ _ _ [.int (bE (bD (bC (bB (bA (nI k))))))] _ _ _ _
  refine g_istore_n (lv' := [(0, .int _)]) hX dJ6_bitCount_0f7a4_47 rfl (by decide) rfl ?_
  refine g_iload_n hX dJ6_bitCount_0f7a4_48 rfl rfl ?_
  refine g_bipush (v := nI 63) hX dJ6_bitCount_0f7a4_49 (by decide) ?_
  refine g_iand hX dJ6_bitCount_0f7a4_51 ?_
  refine g_iret hM dJ6_bitCount_0f7a4_52 rfl (rfl) ⟨Nat.le_of_ble_eq_true rfl, Nat.le_of_ble_eq_true rfl⟩ ?_
  exact q_int (bcX_ok k hk).symm hq

set_option maxHeartbeats 4000000 in
set_option maxRecDepth 100000 in
theorem sp_X5_lowestOf {Γ : Ga} {d : Nat} {κ : Kp} {I : Ip} {Q : Option Value → Kp → Ip → Prop} {k : Nat} (hk : k < 512) (hq : Q (some (.int (if k = 0 then -1 else nI (lowN (nI k))))) κ I) : Sp Γ (d + 1) mX5_lowestOf [.int (nI k)] κ I Q := by
  intro X hM
  have hX := hM.std
  have hR := hM.room
  show GW _ mX5_lowestOf X 0 [(0, .int (nI k))] [] _ _ 0 0
  refine g_iload_n hX dX5_lowestOf_0 rfl rfl ?_
  refine g_ifne 8 hX dX5_lowestOf_1 (by decide) (fun c1 => ?_) (fun c1 => ?_)
  · have e : k ≠ 0 := fun e => c1 ((nI_z0 (by omega)).mpr e)
    rw [if_neg e] at hq
    obtain ⟨l1, l2⟩ := low_ok k hk e
    obtain ⟨l3, l4⟩ := low_pc _ l2
    refine g_iload_n hX dX5_lowestOf_8 rfl rfl ?_
    refine g_iload_n hX dX5_lowestOf_9 rfl rfl ?_
    refine g_ineg hX dX5_lowestOf_10 ?_
    refine g_iand hX dX5_lowestOf_11 ?_
    refine g_iconst (v := nI 1) hX dX5_lowestOf_12 (by decide) ?_
    refine g_isub hX dX5_lowestOf_13 ?_
    refine g_callS (md' := mJ6_bitCount_0f7a4) (As := [.int _]) hX hR dX5_lowestOf_14 clX5_177 okJ6_bitCount_0f7a4 rfl rfl (Nat.le_of_ble_eq_true rfl) (Nat.le_of_ble_eq_true rfl) ⟨Nat.le_of_ble_eq_true rfl, Nat.le_of_ble_eq_true rfl⟩ ?_
    rw [l1]
    refine sp_J6_bitCount_0f7a4 l3 ?_
    rw [l4]
    change GW _ _ _ 17 _ [.int _] _ _ 0 0
    refine g_iret hM dX5_lowestOf_17 rfl (rfl) ⟨Nat.le_of_ble_eq_true rfl, Nat.le_of_ble_eq_true rfl⟩ ?_
    exact hq
  · have e : k = 0 := (nI_z0 (by omega)).mp c1
    rw [if_pos e] at hq
    refine g_iconst (v := (-1)) hX dX5_lowestOf_4 (by decide) ?_
    refine g_goto 17 hX dX5_lowestOf_5 (by decide) ?_
    refine g_iret hM dX5_lowestOf_17 rfl (rfl) ⟨Nat.le_of_ble_eq_true rfl, Nat.le_of_ble_eq_true rfl⟩ ?_
    exact hq

set_option maxHeartbeats 4000000 in
set_option maxRecDepth 100000 in
theorem lp_X5_power_5 {Γ : Ga} {d : Nat} {κ : Kp} {Q : Option Value → Kp → Ip → Prop} {X : Cx} {I : Ip} {b t : Nat} (hM : Mx Γ d mX5_power Q X) (ht : t < 1000) (hq : Q (some (.long (lN (b ^ t)))) κ I) : ∀ (n : Nat) (i : Nat), n = t - i → i ≤ t → GW Γ mX5_power X 5 [(5, .int (nI i)), (3, .long (lN (b ^ i))), (0, .long (lN b)), (2, .int (nI t))] [] κ (I) 0 0 := by
  have hX := hM.std
  intro n
  induction n using Nat.strongRecOn with
  | ind n ih =>
    intro i hn hi
    refine g_iload hX dX5_power_5 rfl ?_
    refine g_iload_n hX dX5_power_7 rfl rfl ?_
    refine g_icmpge 21 hX dX5_power_8 (by decide) (fun c8 => ?_) (fun c8 => ?_)
    · rw [nI_leI (by omega) (by omega)] at c8
      refine g_lload_n hX dX5_power_21 rfl rfl ?_
      refine g_lret hM dX5_power_22 rfl ⟨Nat.le_of_ble_eq_true rfl, Nat.le_of_ble_eq_true rfl⟩ ?_
      have e : i = t := by omega
      subst e
      exact hq
    · rw [nI_leI (by omega) (by omega)] at c8
      refine g_lload_n hX dX5_power_11 rfl rfl ?_
      refine g_lload_n hX dX5_power_12 rfl rfl ?_
      refine g_lmul hX dX5_power_13 ?_
      refine g_lstore_n (lv' := [(3, .long _), (5, .int _), (0, .long _), (2, .int _)]) hX dX5_power_14 rfl (by decide) rfl ?_
      refine g_iinc (lv' := [(5, .int _), (3, .long _), (0, .long _), (2, .int _)]) hX dX5_power_15 rfl (by first | exact nI_inc _ | rfl) (by decide) rfl ?_
      refine g_goto 5 hX dX5_power_18 (by decide) ?_
      rw [lN_mul, ← Nat.pow_succ]
      exact g_pick [0, 1, 2, 3] rfl (ih (t - (i + 1)) (by omega) (i + 1) rfl (by omega))

set_option maxHeartbeats 4000000 in
set_option maxRecDepth 100000 in
theorem sp_X5_power {Γ : Ga} {d : Nat} {κ : Kp} {I : Ip} {Q : Option Value → Kp → Ip → Prop} {b t : Nat} (ht : t < 1000) (hq : Q (some (.long (lN (b ^ t)))) κ I) : Sp Γ d mX5_power [.long (lN b), .int (nI t)] κ I Q := by
  intro X hM
  have hX := hM.std
  show GW _ mX5_power X 0 [(0, .long (lN b)), (2, .int (nI t))] [] _ _ 0 0
  refine g_lconst (v := 1) hX dX5_power_0 (by decide) ?_
  refine g_lstore_n (lv' := [(3, .long _), (0, .long _), (2, .int _)]) hX dX5_power_1 rfl (by decide) rfl ?_
  refine g_iconst (v := nI 0) hX dX5_power_2 (by decide) ?_
  refine g_istore (lv' := [(5, .int _), (3, .long _), (0, .long _), (2, .int _)]) hX dX5_power_3 (by decide) rfl ?_
  exact g_pick [0, 1, 2, 3] rfl (lp_X5_power_5 hM ht hq t 0 rfl (Nat.zero_le _))

set_option maxHeartbeats 4000000 in
set_option maxRecDepth 100000 in
theorem lp_X5_commonDivisor_3 {Γ : Ga} {d : Nat} {κ : Kp} {Q : Option Value → Kp → Ip → Prop} {X : Cx} {I : Ip} {g : Nat} (hM : Mx Γ d mX5_commonDivisor Q X)  (hq : Q (some (.long (lN g))) κ I) : ∀ (n : Nat) (i u v : Nat), n = 200 - i → i ≤ 200 → u < 2 ^ 31 → v < 2 ^ 31 → (i = 0 ∨ v < u) → u * v * 2 ^ i < 2 ^ 64 → Nat.gcd u v = g → GW Γ mX5_commonDivisor X 3 [(4, .int (nI i)), (2, .long (lN v)), (0, .long (lN u))] [] κ (I) 0 0 := by
  have hX := hM.std
  intro n
  induction n using Nat.strongRecOn with
  | ind n ih =>
    intro i u v hn hi hu hv hlt hp hg
    refine g_iload hX dX5_commonDivisor_3 rfl ?_
    refine g_sipush (v := nI 200) hX dX5_commonDivisor_5 (by decide) ?_
    refine g_icmpge 33 hX dX5_commonDivisor_8 (by decide) (fun c8 => ?_) (fun c8 => ?_)
    · rw [nI_leI (by omega) (by omega)] at c8
      refine g_lload_n hX dX5_commonDivisor_33 rfl rfl ?_
      refine g_lret hM dX5_commonDivisor_34 rfl ⟨Nat.le_of_ble_eq_true rfl, Nat.le_of_ble_eq_true rfl⟩ ?_
      have hv0 : v = 0 := gcd_end (u := u) (by omega) (by rw [show i = 200 by omega] at hp; exact hp)
      subst hv0
      rw [Nat.gcd_zero_right] at hg
      subst hg
      exact hq
    · rw [nI_leI (by omega) (by omega)] at c8
      refine g_lload_n hX dX5_commonDivisor_11 rfl rfl ?_
      refine g_lconst (v := 0) hX dX5_commonDivisor_12 (by decide) ?_
      refine g_lcmp hX dX5_commonDivisor_13 ?_
      refine g_ifeq 33 hX dX5_commonDivisor_14 (by decide) (fun c14 => ?_) (fun c14 => ?_)
      · rw [lgc_eq, show (0 : Int64) = lN 0 from rfl, fb_lN_inj (by omega) (by omega)] at c14
        refine g_lload_n hX dX5_commonDivisor_33 rfl rfl ?_
        refine g_lret hM dX5_commonDivisor_34 rfl ⟨Nat.le_of_ble_eq_true rfl, Nat.le_of_ble_eq_true rfl⟩ ?_
        have hv0 : v = 0 := c14
        subst hv0
        rw [Nat.gcd_zero_right] at hg
        subst hg
        exact hq
      · rw [lgc_eq, show (0 : Int64) = lN 0 from rfl, fb_lN_inj (by omega) (by omega)] at c14
        refine g_lload_n hX dX5_commonDivisor_17 rfl rfl ?_
        refine g_lload_n hX dX5_commonDivisor_18 rfl rfl ?_
        refine g_lrem hX dX5_commonDivisor_19 (lN_ne0 (by omega) (by omega)) ?_
        rw [lN_rem (by omega) (by omega)]
        refine g_lstore (lv' := [(5, .long _), (4, .int _), (2, .long _), (0, .long _)]) hX dX5_commonDivisor_20 (by decide) rfl ?_
        refine g_lload_n hX dX5_commonDivisor_22 rfl rfl ?_
        refine g_lstore_n (lv' := [(0, .long _), (5, .long _), (4, .int _), (2, .long _)]) hX dX5_commonDivisor_23 rfl (by decide) rfl ?_
        refine g_lload hX dX5_commonDivisor_24 rfl ?_
        refine g_lstore_n (lv' := [(2, .long _), (0, .long _), (5, .long _), (4, .int _)]) hX dX5_commonDivisor_26 rfl (by decide) rfl ?_
        refine g_iinc (lv' := [(4, .int _), (2, .long _), (0, .long _), (5, .long _)]) hX dX5_commonDivisor_27 rfl (by first | exact nI_inc _ | rfl) (by decide) rfl ?_
        refine g_goto 3 hX dX5_commonDivisor_30 (by decide) ?_
        have hv0 : 0 < v := by omega
        have hm := Nat.mod_lt u hv0
        exact g_pick [0, 1, 2] rfl (ih (200 - (i + 1)) (by omega) (i + 1) v (u % v) rfl (by omega) hv (by omega) (Or.inr hm) (gcd_step hlt hu hv hv0 hp) (by rw [Nat.gcd_comm, ← Nat.gcd_rec, Nat.gcd_comm]; exact hg))

set_option maxHeartbeats 4000000 in
set_option maxRecDepth 100000 in
theorem sp_X5_commonDivisor {Γ : Ga} {d : Nat} {κ : Kp} {I : Ip} {Q : Option Value → Kp → Ip → Prop} {u v : Nat} (hu : u < 2 ^ 31) (hv : v < 2 ^ 31) (hq : Q (some (.long (lN (Nat.gcd u v)))) κ I) : Sp Γ d mX5_commonDivisor [.long (lN u), .long (lN v)] κ I Q := by
  intro X hM
  have hX := hM.std
  show GW _ mX5_commonDivisor X 0 [(0, .long (lN u)), (2, .long (lN v))] [] _ _ 0 0
  refine g_iconst (v := nI 0) hX dX5_commonDivisor_0 (by decide) ?_
  refine g_istore (lv' := [(4, .int _), (0, .long _), (2, .long _)]) hX dX5_commonDivisor_1 (by decide) rfl ?_
  exact g_pick [0, 2, 1] rfl (lp_X5_commonDivisor_3 hM hq 200 0 u v rfl (by omega) hu hv (Or.inl rfl) (by
    have h1 : u * v ≤ 2 ^ 31 * 2 ^ 31 := Nat.mul_le_mul (by omega) (by omega)
    have h2 : (2 : Nat) ^ 31 * 2 ^ 31 = 2 ^ 62 := by decide
    omega) rfl)

set_option maxHeartbeats 4000000 in
set_option maxRecDepth 100000 in
theorem sp_X5_draw {Γ : Ga} {d : Nat} {κ : Kp} {I : Ip} {Q : Option Value → Kp → Ip → Prop} {z k : Nat} (hz : z ≤ 9999) (hk : k ≤ 60) (hq : Q (some (.int (nI (drawN z k)))) κ I) : Sp Γ d mX5_draw [.int (nI z), .int (nI k)] κ I Q := by
  intro X hM
  have hX := hM.std
  show GW _ mX5_draw X 0 [(0, .int (nI z)), (1, .int (nI k))] [] _ _ 0 0
  refine g_ldc2 hX dX5_draw_0 kX5_288 ?_
  rw [show (7919 : Int64) = lN 7919 from rfl]
  refine g_iload_n hX dX5_draw_3 rfl rfl ?_
  refine g_i2l hX dX5_draw_4 ?_
  rw [nI_l (by omega)]
  refine g_lmul hX dX5_draw_5 ?_
  rw [lN_mul]
  refine g_ldc2 hX dX5_draw_6 kX5_290 ?_
  rw [show (6151 : Int64) = lN 6151 from rfl]
  refine g_iload_n hX dX5_draw_9 rfl rfl ?_
  refine g_i2l hX dX5_draw_10 ?_
  rw [nI_l (by omega)]
  refine g_lmul hX dX5_draw_11 ?_
  rw [lN_mul]
  refine g_ladd hX dX5_draw_12 ?_
  rw [lN_add]
  refine g_lconst (v := 1) hX dX5_draw_13 (by decide) ?_
  rw [show (1 : Int64) = lN 1 from rfl]
  refine g_ladd hX dX5_draw_14 ?_
  rw [lN_add]
  have hx : 7919 * z + 6151 * k + 1 ≤ 80000000 := by omega
  have hxx := Nat.mul_le_mul hx hx
  refine g_lstore_n (lv' := [(2, .long _), (0, .int _), (1, .int _)]) hX dX5_draw_15 rfl (by decide) rfl ?_
  refine g_lload_n hX dX5_draw_16 rfl rfl ?_
  refine g_lload_n hX dX5_draw_17 rfl rfl ?_
  refine g_lmul hX dX5_draw_18 ?_
  rw [lN_mul]
  refine g_ldc2 hX dX5_draw_19 kX5_292 ?_
  rw [show (65521 : Int64) = lN 65521 from rfl]
  refine g_lrem hX dX5_draw_22 (lN_ne0 (by decide) (by decide)) ?_
  rw [lN_rem (Nat.lt_of_le_of_lt hxx (by decide)) (by decide)]
  refine g_l2i hX dX5_draw_23 ?_
  rw [lN_i]
  refine g_iret hM dX5_draw_24 rfl (rfl) ⟨Nat.le_of_ble_eq_true rfl, Nat.le_of_ble_eq_true rfl⟩ ?_
  exact hq

set_option maxHeartbeats 4000000 in
set_option maxRecDepth 100000 in
theorem sp_X4_hasPerson {Γ : Ga} {d : Nat} {κ : Kp} {I : Ip} {Q : Option Value → Kp → Ip → Prop} {tw P : Nat} {x : Int32} (hTw : TwK κ tw) (h0 : I tw 0 = nI P) (hP : P < 100) (hq : Q (some (.int (b2i (decide (inN P x))))) κ I) : Sp Γ d mX4_hasPerson [.ref (tw), .int (x)] κ I Q := by
  obtain ⟨ht, ht0, ⟨t2, u2⟩, ⟨t3, u3⟩, ⟨t4, u4⟩, ⟨t5, u5⟩, ⟨t6, u6⟩, ⟨t7, u7⟩, ⟨t8, u8⟩⟩ := id hTw
  intro X hM
  have hX := hM.std
  show GW _ mX4_hasPerson X 0 [(0, .ref (tw)), (1, .int (x))] [] _ _ 0 0
  refine g_iload_n hX dX4_hasPerson_0 rfl rfl ?_
  refine g_iflt 16 hX dX4_hasPerson_1 (by decide) (fun c1 => ?_) (fun c1 => ?_)
  · rw [x_lt_0] at c1
    refine g_iconst (v := nI 0) hX dX4_hasPerson_16 (by decide) ?_
    refine g_iret hM dX4_hasPerson_17 rfl (rfl) ⟨Nat.le_of_ble_eq_true rfl, Nat.le_of_ble_eq_true rfl⟩ ?_
    exact q_f (decide_eq_false (inN_no1 c1)) hq
  · rw [x_lt_0] at c1
    refine g_iload_n hX dX4_hasPerson_4 rfl rfl ?_
    refine g_aload_n hX dX4_hasPerson_5 rfl rfl ?_
    refine g_getI hX dX4_hasPerson_6 flX4_33 (by assumption) rfl ?_
    refine g_icmpge 16 hX dX4_hasPerson_9 (by decide) (fun c9 => ?_) (fun c9 => ?_)
    · rw [h0, nI_le_x (by omega)] at c9
      refine g_iconst (v := nI 0) hX dX4_hasPerson_16 (by decide) ?_
      refine g_iret hM dX4_hasPerson_17 rfl (rfl) ⟨Nat.le_of_ble_eq_true rfl, Nat.le_of_ble_eq_true rfl⟩ ?_
      exact q_f (decide_eq_false (inN_no2 c9)) hq
    · rw [h0, nI_le_x (by omega)] at c9
      refine g_iconst (v := nI 1) hX dX4_hasPerson_12 (by decide) ?_
      refine g_goto 17 hX dX4_hasPerson_13 (by decide) ?_
      refine g_iret hM dX4_hasPerson_17 rfl (rfl) ⟨Nat.le_of_ble_eq_true rfl, Nat.le_of_ble_eq_true rfl⟩ ?_
      exact q_t (decide_eq_true ⟨by omega, by omega⟩) hq

set_option maxHeartbeats 4000000 in
set_option maxRecDepth 100000 in
theorem sp_X4_hasTale {Γ : Ga} {d : Nat} {κ : Kp} {I : Ip} {Q : Option Value → Kp → Ip → Prop} {tw P : Nat} {x : Int32} (hTw : TwK κ tw) (h0 : I tw 1 = nI P) (hP : P < 100) (hq : Q (some (.int (b2i (decide (inN P x))))) κ I) : Sp Γ d mX4_hasTale [.ref (tw), .int (x)] κ I Q := by
  obtain ⟨ht, ht0, ⟨t2, u2⟩, ⟨t3, u3⟩, ⟨t4, u4⟩, ⟨t5, u5⟩, ⟨t6, u6⟩, ⟨t7, u7⟩, ⟨t8, u8⟩⟩ := id hTw
  intro X hM
  have hX := hM.std
  show GW _ mX4_hasTale X 0 [(0, .ref (tw)), (1, .int (x))] [] _ _ 0 0
  refine g_iload_n hX dX4_hasTale_0 rfl rfl ?_
  refine g_iflt 16 hX dX4_hasTale_1 (by decide) (fun c1 => ?_) (fun c1 => ?_)
  · rw [x_lt_0] at c1
    refine g_iconst (v := nI 0) hX dX4_hasTale_16 (by decide) ?_
    refine g_iret hM dX4_hasTale_17 rfl (rfl) ⟨Nat.le_of_ble_eq_true rfl, Nat.le_of_ble_eq_true rfl⟩ ?_
    exact q_f (decide_eq_false (inN_no1 c1)) hq
  · rw [x_lt_0] at c1
    refine g_iload_n hX dX4_hasTale_4 rfl rfl ?_
    refine g_aload_n hX dX4_hasTale_5 rfl rfl ?_
    refine g_getI hX dX4_hasTale_6 flX4_37 (by assumption) rfl ?_
    refine g_icmpge 16 hX dX4_hasTale_9 (by decide) (fun c9 => ?_) (fun c9 => ?_)
    · rw [h0, nI_le_x (by omega)] at c9
      refine g_iconst (v := nI 0) hX dX4_hasTale_16 (by decide) ?_
      refine g_iret hM dX4_hasTale_17 rfl (rfl) ⟨Nat.le_of_ble_eq_true rfl, Nat.le_of_ble_eq_true rfl⟩ ?_
      exact q_f (decide_eq_false (inN_no2 c9)) hq
    · rw [h0, nI_le_x (by omega)] at c9
      refine g_iconst (v := nI 1) hX dX4_hasTale_12 (by decide) ?_
      refine g_goto 17 hX dX4_hasTale_13 (by decide) ?_
      refine g_iret hM dX4_hasTale_17 rfl (rfl) ⟨Nat.le_of_ble_eq_true rfl, Nat.le_of_ble_eq_true rfl⟩ ?_
      exact q_t (decide_eq_true ⟨by omega, by omega⟩) hq

set_option maxHeartbeats 4000000 in
set_option maxRecDepth 100000 in
theorem sp_X4_kindOf {Γ : Ga} {d : Nat} {κ : Kp} {I : Ip} {Q : Option Value → Kp → Ip → Prop} {tw : Nat} {x : Int32} (hTw : TwK κ tw)  (hq : Q (some (.int (atV (I (κ.2.1 tw 2)) 6 x))) κ I) : Sp Γ (d + 1) mX4_kindOf [.ref (tw), .int (x)] κ I Q := by
  obtain ⟨ht, ht0, ⟨t2, u2⟩, ⟨t3, u3⟩, ⟨t4, u4⟩, ⟨t5, u5⟩, ⟨t6, u6⟩, ⟨t7, u7⟩, ⟨t8, u8⟩⟩ := id hTw
  intro X hM
  have hX := hM.std
  have hR := hM.room
  show GW _ mX4_kindOf X 0 [(0, .ref (tw)), (1, .int (x))] [] _ _ 0 0
  refine g_aload_n hX dX4_kindOf_0 rfl rfl ?_
  refine g_getR hX dX4_kindOf_1 flX4_9 (by assumption) rfl (by first | assumption | rfl) (by assumption) ?_
  refine g_iload_n hX dX4_kindOf_4 rfl rfl ?_
  refine g_callS (md' := mX5_at) (As := [.ref _, .int _]) hX hR dX4_kindOf_5 clX4_59 okX5_at rfl rfl (Nat.le_of_ble_eq_true rfl) (Nat.le_of_ble_eq_true rfl) ⟨Nat.le_of_ble_eq_true rfl, Nat.le_of_ble_eq_true rfl⟩ ?_
  refine sp_X5_at (by assumption) (by decide) ?_
  change GW _ _ _ 8 _ [.int _] _ _ 0 0
  refine g_iret hM dX4_kindOf_8 rfl (rfl) ⟨Nat.le_of_ble_eq_true rfl, Nat.le_of_ble_eq_true rfl⟩ ?_
  exact hq

set_option maxHeartbeats 4000000 in
set_option maxRecDepth 100000 in
theorem sp_X4_friendsOf {Γ : Ga} {d : Nat} {κ : Kp} {I : Ip} {Q : Option Value → Kp → Ip → Prop} {tw : Nat} {x : Int32} (hTw : TwK κ tw)  (hq : Q (some (.int (atV (I (κ.2.1 tw 3)) 6 x))) κ I) : Sp Γ (d + 1) mX4_friendsOf [.ref (tw), .int (x)] κ I Q := by
  obtain ⟨ht, ht0, ⟨t2, u2⟩, ⟨t3, u3⟩, ⟨t4, u4⟩, ⟨t5, u5⟩, ⟨t6, u6⟩, ⟨t7, u7⟩, ⟨t8, u8⟩⟩ := id hTw
  intro X hM
  have hX := hM.std
  have hR := hM.room
  show GW _ mX4_friendsOf X 0 [(0, .ref (tw)), (1, .int (x))] [] _ _ 0 0
  refine g_aload_n hX dX4_friendsOf_0 rfl rfl ?_
  refine g_getR hX dX4_friendsOf_1 flX4_15 (by assumption) rfl (by first | assumption | rfl) (by assumption) ?_
  refine g_iload_n hX dX4_friendsOf_4 rfl rfl ?_
  refine g_callS (md' := mX5_at) (As := [.ref _, .int _]) hX hR dX4_friendsOf_5 clX4_59 okX5_at rfl rfl (Nat.le_of_ble_eq_true rfl) (Nat.le_of_ble_eq_true rfl) ⟨Nat.le_of_ble_eq_true rfl, Nat.le_of_ble_eq_true rfl⟩ ?_
  refine sp_X5_at (by assumption) (by decide) ?_
  change GW _ _ _ 8 _ [.int _] _ _ 0 0
  refine g_iret hM dX4_friendsOf_8 rfl (rfl) ⟨Nat.le_of_ble_eq_true rfl, Nat.le_of_ble_eq_true rfl⟩ ?_
  exact hq

set_option maxHeartbeats 4000000 in
set_option maxRecDepth 100000 in
theorem sp_X4_personOf {Γ : Ga} {d : Nat} {κ : Kp} {I : Ip} {Q : Option Value → Kp → Ip → Prop} {tw : Nat} {x : Int32} (hTw : TwK κ tw)  (hq : Q (some (.int (atV (I (κ.2.1 tw 6)) 9 x))) κ I) : Sp Γ (d + 1) mX4_personOf [.ref (tw), .int (x)] κ I Q := by
  obtain ⟨ht, ht0, ⟨t2, u2⟩, ⟨t3, u3⟩, ⟨t4, u4⟩, ⟨t5, u5⟩, ⟨t6, u6⟩, ⟨t7, u7⟩, ⟨t8, u8⟩⟩ := id hTw
  intro X hM
  have hX := hM.std
  have hR := hM.room
  show GW _ mX4_personOf X 0 [(0, .ref (tw)), (1, .int (x))] [] _ _ 0 0
  refine g_aload_n hX dX4_personOf_0 rfl rfl ?_
  refine g_getR hX dX4_personOf_1 flX4_24 (by assumption) rfl (by first | assumption | rfl) (by assumption) ?_
  refine g_iload_n hX dX4_personOf_4 rfl rfl ?_
  refine g_callS (md' := mX5_at) (As := [.ref _, .int _]) hX hR dX4_personOf_5 clX4_59 okX5_at rfl rfl (Nat.le_of_ble_eq_true rfl) (Nat.le_of_ble_eq_true rfl) ⟨Nat.le_of_ble_eq_true rfl, Nat.le_of_ble_eq_true rfl⟩ ?_
  refine sp_X5_at (by assumption) (by decide) ?_
  change GW _ _ _ 8 _ [.int _] _ _ 0 0
  refine g_iret hM dX4_personOf_8 rfl (rfl) ⟨Nat.le_of_ble_eq_true rfl, Nat.le_of_ble_eq_true rfl⟩ ?_
  exact hq

set_option maxHeartbeats 4000000 in
set_option maxRecDepth 100000 in
theorem sp_X4_illOf {Γ : Ga} {d : Nat} {κ : Kp} {I : Ip} {Q : Option Value → Kp → Ip → Prop} {tw : Nat} {x : Int32} (hTw : TwK κ tw)  (hq : Q (some (.int (atV (I (κ.2.1 tw 7)) 9 x))) κ I) : Sp Γ (d + 1) mX4_illOf [.ref (tw), .int (x)] κ I Q := by
  obtain ⟨ht, ht0, ⟨t2, u2⟩, ⟨t3, u3⟩, ⟨t4, u4⟩, ⟨t5, u5⟩, ⟨t6, u6⟩, ⟨t7, u7⟩, ⟨t8, u8⟩⟩ := id hTw
  intro X hM
  have hX := hM.std
  have hR := hM.room
  show GW _ mX4_illOf X 0 [(0, .ref (tw)), (1, .int (x))] [] _ _ 0 0
  refine g_aload_n hX dX4_illOf_0 rfl rfl ?_
  refine g_getR hX dX4_illOf_1 flX4_27 (by assumption) rfl (by first | assumption | rfl) (by assumption) ?_
  refine g_iload_n hX dX4_illOf_4 rfl rfl ?_
  refine g_callS (md' := mX5_at) (As := [.ref _, .int _]) hX hR dX4_illOf_5 clX4_59 okX5_at rfl rfl (Nat.le_of_ble_eq_true rfl) (Nat.le_of_ble_eq_true rfl) ⟨Nat.le_of_ble_eq_true rfl, Nat.le_of_ble_eq_true rfl⟩ ?_
  refine sp_X5_at (by assumption) (by decide) ?_
  change GW _ _ _ 8 _ [.int _] _ _ 0 0
  refine g_iret hM dX4_illOf_8 rfl (rfl) ⟨Nat.le_of_ble_eq_true rfl, Nat.le_of_ble_eq_true rfl⟩ ?_
  exact hq

set_option maxHeartbeats 4000000 in
set_option maxRecDepth 100000 in
theorem sp_X4_minutesOf {Γ : Ga} {d : Nat} {κ : Kp} {I : Ip} {Q : Option Value → Kp → Ip → Prop} {tw : Nat} {x : Int32} (hTw : TwK κ tw)  (hq : Q (some (.int (atV (I (κ.2.1 tw 8)) 9 x))) κ I) : Sp Γ (d + 1) mX4_minutesOf [.ref (tw), .int (x)] κ I Q := by
  obtain ⟨ht, ht0, ⟨t2, u2⟩, ⟨t3, u3⟩, ⟨t4, u4⟩, ⟨t5, u5⟩, ⟨t6, u6⟩, ⟨t7, u7⟩, ⟨t8, u8⟩⟩ := id hTw
  intro X hM
  have hX := hM.std
  have hR := hM.room
  show GW _ mX4_minutesOf X 0 [(0, .ref (tw)), (1, .int (x))] [] _ _ 0 0
  refine g_aload_n hX dX4_minutesOf_0 rfl rfl ?_
  refine g_getR hX dX4_minutesOf_1 flX4_30 (by assumption) rfl (by first | assumption | rfl) (by assumption) ?_
  refine g_iload_n hX dX4_minutesOf_4 rfl rfl ?_
  refine g_callS (md' := mX5_at) (As := [.ref _, .int _]) hX hR dX4_minutesOf_5 clX4_59 okX5_at rfl rfl (Nat.le_of_ble_eq_true rfl) (Nat.le_of_ble_eq_true rfl) ⟨Nat.le_of_ble_eq_true rfl, Nat.le_of_ble_eq_true rfl⟩ ?_
  refine sp_X5_at (by assumption) (by decide) ?_
  change GW _ _ _ 8 _ [.int _] _ _ 0 0
  refine g_iret hM dX4_minutesOf_8 rfl (rfl) ⟨Nat.le_of_ble_eq_true rfl, Nat.le_of_ble_eq_true rfl⟩ ?_
  exact hq

set_option maxHeartbeats 4000000 in
set_option maxRecDepth 100000 in
theorem sp_X4_areFriends {Γ : Ga} {d : Nat} {κ : Kp} {I : Ip} {Q : Option Value → Kp → Ip → Prop} {tw P T i j : Nat} {w : Nat → Int32} (hTw : TwK κ tw) (hR : TwR κ I tw w P T) (hP : P ≤ 6) (hi : i < P) (hj : j < P) (hq : Q (some (.int (b2i (lkF w i j)))) κ I) : Sp Γ (d + 2) mX4_areFriends [.ref (tw), .int (nI i), .int (nI j)] κ I Q := by
  obtain ⟨ht, ht0, ⟨t2, u2⟩, ⟨t3, u3⟩, ⟨t4, u4⟩, ⟨t5, u5⟩, ⟨t6, u6⟩, ⟨t7, u7⟩, ⟨t8, u8⟩⟩ := id hTw
  obtain ⟨r0, r1, r2, r3, -⟩ := id hR
  clear hR
  intro X hM
  have hX := hM.std
  have hR := hM.room
  show GW _ mX4_areFriends X 0 [(0, .ref (tw)), (1, .int (nI i)), (2, .int (nI j))] [] _ _ 0 0
  refine g_aload_n hX dX4_areFriends_0 rfl rfl ?_
  refine g_iload_n hX dX4_areFriends_1 rfl rfl ?_
  refine g_callV (md' := mX4_hasPerson) (ci := 4) (As := [.int _]) hX hR dX4_areFriends_2 clX4_48 okX4_hasPerson rfl (by assumption) rfl rfl (Nat.le_of_ble_eq_true rfl) (Nat.le_of_ble_eq_true rfl) ⟨Nat.le_of_ble_eq_true rfl, Nat.le_of_ble_eq_true rfl⟩ ?_
  refine sp_X4_hasPerson hTw r0 (by omega) ?_
  change GW _ _ _ 5 _ [.int _] _ _ 0 0
  refine g_ifeq 33 hX dX4_areFriends_5 (by decide) (fun c5 => ?_) (fun c5 => ?_)
  · rw [b2i_0, decide_eq_false_iff_not] at c5
    exact absurd (inN_nI hi (by omega)) c5
  · first | (rw [b2i_n0] at c5) | (rw [b2i_0] at c5)
    refine g_aload_n hX dX4_areFriends_8 rfl rfl ?_
    refine g_iload_n hX dX4_areFriends_9 rfl rfl ?_
    refine g_callV (md' := mX4_hasPerson) (ci := 4) (As := [.int _]) hX hR dX4_areFriends_10 clX4_48 okX4_hasPerson rfl (by assumption) rfl rfl (Nat.le_of_ble_eq_true rfl) (Nat.le_of_ble_eq_true rfl) ⟨Nat.le_of_ble_eq_true rfl, Nat.le_of_ble_eq_true rfl⟩ ?_
    refine sp_X4_hasPerson hTw r0 (by omega) ?_
    change GW _ _ _ 13 _ [.int _] _ _ 0 0
    refine g_ifeq 33 hX dX4_areFriends_13 (by decide) (fun c13 => ?_) (fun c13 => ?_)
    · rw [b2i_0, decide_eq_false_iff_not] at c13
      exact absurd (inN_nI hj (by omega)) c13
    · first | (rw [b2i_n0] at c13) | (rw [b2i_0] at c13)
      refine g_aload_n hX dX4_areFriends_16 rfl rfl ?_
      refine g_iload_n hX dX4_areFriends_17 rfl rfl ?_
      refine g_callV (md' := mX4_friendsOf) (ci := 4) (As := [.int _]) hX hR dX4_areFriends_18 clX4_52 okX4_friendsOf rfl (by assumption) rfl rfl (Nat.le_of_ble_eq_true rfl) (Nat.le_of_ble_eq_true rfl) ⟨Nat.le_of_ble_eq_true rfl, Nat.le_of_ble_eq_true rfl⟩ ?_
      refine sp_X4_friendsOf hTw ?_
      change GW _ _ _ 21 _ [.int _] _ _ 0 0
      refine g_iload_n hX dX4_areFriends_21 rfl rfl ?_
      refine g_callS (md' := mX5_bit) (As := [.int _]) hX hR dX4_areFriends_22 clX4_56 okX5_bit rfl rfl (Nat.le_of_ble_eq_true rfl) (Nat.le_of_ble_eq_true rfl) ⟨Nat.le_of_ble_eq_true rfl, Nat.le_of_ble_eq_true rfl⟩ ?_
      refine sp_X5_bit ?_
      change GW _ _ _ 25 _ [.int _, .int _] _ _ 0 0
      refine g_iand hX dX4_areFriends_25 ?_
      refine g_ifeq 33 hX dX4_areFriends_26 (by decide) (fun c26 => ?_) (fun c26 => ?_)
      · rw [atV_in (by omega) (by decide), r3 i hi, bitI_nI] at c26
        refine g_iconst (v := nI 0) hX dX4_areFriends_33 (by decide) ?_
        refine g_iret hM dX4_areFriends_34 rfl (rfl) ⟨Nat.le_of_ble_eq_true rfl, Nat.le_of_ble_eq_true rfl⟩ ?_
        exact q_f ((and_bit0 (by omega)).mp c26) hq
      · rw [atV_in (by omega) (by decide), r3 i hi, bitI_nI] at c26
        refine g_iconst (v := nI 1) hX dX4_areFriends_29 (by decide) ?_
        refine g_goto 34 hX dX4_areFriends_30 (by decide) ?_
        refine g_iret hM dX4_areFriends_34 rfl (rfl) ⟨Nat.le_of_ble_eq_true rfl, Nat.le_of_ble_eq_true rfl⟩ ?_
        exact q_t ((and_bit1 (by omega)).mp c26) hq

set_option maxHeartbeats 4000000 in
set_option maxRecDepth 100000 in
theorem sp_X4_clear {Γ : Ga} {d : Nat} {κ : Kp} {I : Ip} {Q : Option Value → Kp → Ip → Prop} {tw : Nat} (hTw : TwK κ tw)  (hq : Q none κ (va_up I tw (va_up (va_up (I tw) 0 (nI 0)) 1 (nI 0)))) : Sp Γ d mX4_clear [.ref (tw)] κ I Q := by
  obtain ⟨ht, ht0, ⟨t2, u2⟩, ⟨t3, u3⟩, ⟨t4, u4⟩, ⟨t5, u5⟩, ⟨t6, u6⟩, ⟨t7, u7⟩, ⟨t8, u8⟩⟩ := id hTw
  intro X hM
  have hX := hM.std
  show GW _ mX4_clear X 0 [(0, .ref (tw))] [] _ _ 0 0
  refine g_aload_n hX dX4_clear_0 rfl rfl ?_
  refine g_iconst (v := nI 0) hX dX4_clear_1 (by decide) ?_
  refine g_putI hX dX4_clear_2 flX4_33 (by assumption) rfl rfl ?_
  try rw [up_same, up_up]
  refine g_aload_n hX dX4_clear_5 rfl rfl ?_
  refine g_iconst (v := nI 0) hX dX4_clear_6 (by decide) ?_
  refine g_putI hX dX4_clear_7 flX4_37 (by assumption) rfl rfl ?_
  try rw [up_same, up_up]
  refine g_vret hM dX4_clear_10 rfl ⟨Nat.le_of_ble_eq_true rfl, Nat.le_of_ble_eq_true rfl⟩ ?_
  exact hq
