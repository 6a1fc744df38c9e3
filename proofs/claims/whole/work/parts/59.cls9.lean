set_option maxHeartbeats 4000000 in
set_option maxRecDepth 100000 in
theorem sp_X3_peek {Γ : Ga} {d : Nat} {κ : Kp} {I : Ip} {Q : Option Value → Kp → Ip → Prop} {x a sz : Nat} {tx : Nat → Int32} (hO : TxO κ x) (ht : TxC κ x I tx sz) (h2 : I x 2 = nI a) (ha : a ≤ sz) (hq : Q (some (.int (nI (Lc tx sz a)))) κ I) : Sp Γ d mX3_peek [.ref (x)] κ I Q := by
  obtain ⟨xk, xz, lk, lz⟩ := id hO
  obtain ⟨s1, s2, s3, s4⟩ := id ht
  have hle := ht.le a
  intro X hM
  have hX := hM.std
  show GW _ mX3_peek X 0 [(0, .ref (x))] [] _ _ 0 0
  refine g_aload_n hX dX3_peek_0 rfl rfl ?_
  refine g_getI hX dX3_peek_1 flX3_24 (by assumption) rfl ?_
  refine g_iflt 42 hX dX3_peek_4 (by decide) (fun c4 => ?_) (fun c4 => ?_)
  · rw [h2, x_lt_0, nI_toInt (by omega)] at c4
    exfalso; omega
  · rw [h2, x_lt_0, nI_toInt (by omega)] at c4
    refine g_aload_n hX dX3_peek_7 rfl rfl ?_
    refine g_getI hX dX3_peek_8 flX3_24 (by assumption) rfl ?_
    refine g_aload_n hX dX3_peek_11 rfl rfl ?_
    refine g_getI hX dX3_peek_12 flX3_15 (by assumption) rfl ?_
    refine g_icmpge 42 hX dX3_peek_15 (by decide) (fun c15 => ?_) (fun c15 => ?_)
    · rw [h2, s1, nI_leI (by omega) (by omega)] at c15
      refine g_iconst (v := nI 0) hX dX3_peek_42 (by decide) ?_
      refine g_iret hM dX3_peek_43 rfl (rfl) ⟨Nat.le_of_ble_eq_true rfl, Nat.le_of_ble_eq_true rfl⟩ ?_
      exact q_int (by rw [Lc_0 (by omega)]) hq
    · rw [h2, s1, nI_leI (by omega) (by omega)] at c15
      refine g_aload_n hX dX3_peek_18 rfl rfl ?_
      refine g_getI hX dX3_peek_19 flX3_24 (by assumption) rfl ?_
      refine g_aload_n hX dX3_peek_22 rfl rfl ?_
      refine g_getR hX dX3_peek_23 flX3_9 (by assumption) rfl (by first | assumption | rfl) (by assumption) ?_
      refine g_alen hX dX3_peek_26 (by assumption) (by decide) rfl ?_
      refine g_icmpge 42 hX dX3_peek_27 (by decide) (fun c27 => ?_) (fun c27 => ?_)
      · rw [h2, show Int32.ofNat 200 = nI 200 from rfl, nI_leI (by omega) (by omega)] at c27
        exfalso; omega
      · rw [h2, show Int32.ofNat 200 = nI 200 from rfl, nI_leI (by omega) (by omega)] at c27
        refine g_aload_n hX dX3_peek_30 rfl rfl ?_
        refine g_getR hX dX3_peek_31 flX3_9 (by assumption) rfl (by first | assumption | rfl) (by assumption) ?_
        refine g_aload_n hX dX3_peek_34 rfl rfl ?_
        refine g_getI hX dX3_peek_35 flX3_24 (by assumption) rfl ?_
        refine g_caldN hX dX3_peek_38 (by assumption) (h2) (by omega) (by first | decide | omega) ?_
        rw [(ht.at (show a < sz by omega)).1]
        refine g_goto 43 hX dX3_peek_39 (by decide) ?_
        refine g_iret hM dX3_peek_43 rfl (rfl) ⟨Nat.le_of_ble_eq_true rfl, Nat.le_of_ble_eq_true rfl⟩ ?_
        exact hq

set_option maxHeartbeats 4000000 in
set_option maxRecDepth 100000 in
theorem sp_X3_readFigure {Γ : Ga} {d : Nat} {κ : Kp} {I : Ip} {Q : Option Value → Kp → Ip → Prop} {x a sz : Nat} {tx : Nat → Int32} (hO : TxO κ x) (ht : TxC κ x I tx sz) (h2 : I x 2 = nI a) (ha : a ≤ sz) (hq : Q (some (.int (figV (Lc tx sz a)))) κ (plc x I (if isD (Lc tx sz a) then a + 1 else a))) : Sp Γ (d + 1) mX3_readFigure [.ref (x)] κ I Q := by
  obtain ⟨xk, xz, lk, lz⟩ := id hO
  obtain ⟨s1, s2, s3, s4⟩ := id ht
  have hle := ht.le a
  intro X hM
  have hX := hM.std
  have hR := hM.room
  show GW _ mX3_readFigure X 0 [(0, .ref (x))] [] _ _ 0 0
  refine g_aload_n hX dX3_readFigure_0 rfl rfl ?_
  refine g_callV (md' := mX3_peek) (ci := 3) (As := []) hX hR dX3_readFigure_1 clX3_31 okX3_peek rfl (by assumption) rfl rfl (Nat.le_of_ble_eq_true rfl) (Nat.le_of_ble_eq_true rfl) ⟨Nat.le_of_ble_eq_true rfl, Nat.le_of_ble_eq_true rfl⟩ ?_
  refine sp_X3_peek hO ht h2 ha ?_
  change GW _ _ _ 4 _ [.int _] _ _ 0 0
  refine g_istore_n (lv' := [(1, .int _), (0, .ref _)]) hX dX3_readFigure_4 rfl (by decide) rfl ?_
  refine g_iload_n hX dX3_readFigure_5 rfl rfl ?_
  refine g_bipush (v := nI 48) hX dX3_readFigure_6 (by decide) ?_
  refine g_icmplt 17 hX dX3_readFigure_8 (by decide) (fun c8 => ?_) (fun c8 => ?_)
  · rw [lt_nI (by omega) (by omega)] at c8
    refine g_iconst (v := (-1)) hX dX3_readFigure_17 (by decide) ?_
    refine g_iret hM dX3_readFigure_18 rfl (rfl) ⟨Nat.le_of_ble_eq_true rfl, Nat.le_of_ble_eq_true rfl⟩ ?_
    have e : ¬ isD (Lc tx sz a) := by omega
    rw [figV, if_neg e, if_neg e, plc_self h2] at hq
    exact hq
  · rw [lt_nI (by omega) (by omega)] at c8
    refine g_iload_n hX dX3_readFigure_11 rfl rfl ?_
    refine g_bipush (v := nI 57) hX dX3_readFigure_12 (by decide) ?_
    refine g_icmple 19 hX dX3_readFigure_14 (by decide) (fun c14 => ?_) (fun c14 => ?_)
    · rw [nI_leI (by omega) (by omega)] at c14
      refine g_aload_n hX dX3_readFigure_19 rfl rfl ?_
      refine g_dup hX dX3_readFigure_20 rfl ?_
      refine g_getI hX dX3_readFigure_21 flX3_24 (by assumption) rfl ?_
      rw [h2]
      refine g_iconst (v := nI 1) hX dX3_readFigure_24 (by decide) ?_
      refine g_iadd hX dX3_readFigure_25 ?_
      rw [nI_add]
      refine g_putI hX dX3_readFigure_26 flX3_24 (by assumption) rfl rfl ?_
      refine g_iload_n hX dX3_readFigure_29 rfl rfl ?_
      refine g_bipush (v := nI 48) hX dX3_readFigure_30 (by decide) ?_
      refine g_isub hX dX3_readFigure_32 ?_
      refine g_iret hM dX3_readFigure_33 rfl (rfl) ⟨Nat.le_of_ble_eq_true rfl, Nat.le_of_ble_eq_true rfl⟩ ?_
      have e : isD (Lc tx sz a) := by omega
      rw [figV, if_pos e, if_pos e] at hq
      exact q_int (nI_subE (k := Lc tx sz a - 48) (by omega) (by omega)).symm hq
    · rw [nI_leI (by omega) (by omega)] at c14
      refine g_iconst (v := (-1)) hX dX3_readFigure_17 (by decide) ?_
      refine g_iret hM dX3_readFigure_18 rfl (rfl) ⟨Nat.le_of_ble_eq_true rfl, Nat.le_of_ble_eq_true rfl⟩ ?_
      have e : ¬ isD (Lc tx sz a) := by omega
      rw [figV, if_neg e, if_neg e, plc_self h2] at hq
      exact hq

set_option maxHeartbeats 4000000 in
set_option maxRecDepth 100000 in
theorem sp_X3_readNumber {Γ : Ga} {d : Nat} {κ : Kp} {I : Ip} {Q : Option Value → Kp → Ip → Prop} {x a sz : Nat} {tx : Nat → Int32} (hO : TxO κ x) (ht : TxC κ x I tx sz) (h2 : I x 2 = nI a) (ha : a ≤ sz) (hq : ∀ (v : Int32) (b : Nat), b ≤ sz → NumR (Lc tx sz) a v b → Q (some (.int v)) κ (plc x I b)) : Sp Γ (d + 2) mX3_readNumber [.ref (x)] κ I Q := by
  obtain ⟨xk, xz, lk, lz⟩ := id hO
  obtain ⟨s1, s2, s3, s4⟩ := id ht
  have hle := ht.le a
  intro X hM
  have hX := hM.std
  have hR := hM.room
  show GW _ mX3_readNumber X 0 [(0, .ref (x))] [] _ _ 0 0
  refine g_aload_n hX dX3_readNumber_0 rfl rfl ?_
  refine g_callV (md' := mX3_readFigure) (ci := 3) (As := []) hX hR dX3_readNumber_1 clX3_67 okX3_readFigure rfl (by assumption) rfl rfl (Nat.le_of_ble_eq_true rfl) (Nat.le_of_ble_eq_true rfl) ⟨Nat.le_of_ble_eq_true rfl, Nat.le_of_ble_eq_true rfl⟩ ?_
  refine sp_X3_readFigure hO ht h2 ha ?_
  change GW _ _ _ 4 _ [.int _] _ _ 0 0
  refine g_istore_n (lv' := [(1, .int _), (0, .ref _)]) hX dX3_readNumber_4 rfl (by decide) rfl ?_
  refine g_iload_n hX dX3_readNumber_5 rfl rfl ?_
  refine g_iconst (v := (-1)) hX dX3_readNumber_6 (by decide) ?_
  refine g_icmpne 12 hX dX3_readNumber_7 (by decide) (fun c7 => ?_) (fun c7 => ?_)
  · rw [figV_m1 hle, Decidable.not_not] at c7
    have hlt := Lc_lt (tx := tx) (sz := sz) (a := a) (by omega)
    have hle1 := ht.le (a + 1)
    rw [figV, if_pos c7, if_pos c7]
    refine g_aload_n hX dX3_readNumber_12 rfl rfl ?_
    refine g_callV (md' := mX3_readFigure) (ci := 3) (As := []) hX hR dX3_readNumber_13 clX3_67 okX3_readFigure rfl (by assumption) rfl rfl (Nat.le_of_ble_eq_true rfl) (Nat.le_of_ble_eq_true rfl) ⟨Nat.le_of_ble_eq_true rfl, Nat.le_of_ble_eq_true rfl⟩ ?_
    refine sp_X3_readFigure (a := a + 1) hO (ht.plc hO) plc_2 (by omega) ?_
    rw [plc_plc]
    change GW _ _ _ 16 _ [.int _] _ _ 0 0
    refine g_istore_n (lv' := [(2, .int _), (1, .int _), (0, .ref _)]) hX dX3_readNumber_16 rfl (by decide) rfl ?_
    refine g_iload_n hX dX3_readNumber_17 rfl rfl ?_
    refine g_iconst (v := (-1)) hX dX3_readNumber_18 (by decide) ?_
    refine g_icmpne 26 hX dX3_readNumber_19 (by decide) (fun c19 => ?_) (fun c19 => ?_)
    · rw [figV_m1 hle1, Decidable.not_not] at c19
      have hlt2 := Lc_lt (tx := tx) (sz := sz) (a := a + 1) (by omega)
      rw [figV, if_pos c19, if_pos c19]
      refine g_bipush (v := nI 10) hX dX3_readNumber_26 (by decide) ?_
      refine g_iload_n hX dX3_readNumber_28 rfl rfl ?_
      refine g_imul hX dX3_readNumber_29 ?_
      rw [nI_mul]
      refine g_iload_n hX dX3_readNumber_30 rfl rfl ?_
      refine g_iadd hX dX3_readNumber_31 ?_
      rw [nI_add]
      refine g_iret hM dX3_readNumber_32 rfl (rfl) ⟨Nat.le_of_ble_eq_true rfl, Nat.le_of_ble_eq_true rfl⟩ ?_
      exact hq _ (a + 2) (by omega) (Or.inr ⟨_, by unfold numF; rw [if_pos c7, if_pos c19], rfl⟩)
    · rw [figV_m1 hle1] at c19
      rw [if_neg c19]
      refine g_iload_n hX dX3_readNumber_22 rfl rfl ?_
      refine g_goto 32 hX dX3_readNumber_23 (by decide) ?_
      refine g_iret hM dX3_readNumber_32 rfl (rfl) ⟨Nat.le_of_ble_eq_true rfl, Nat.le_of_ble_eq_true rfl⟩ ?_
      exact hq _ (a + 1) (by omega) (Or.inr ⟨_, by unfold numF; rw [if_pos c7, if_neg c19], rfl⟩)
  · rw [figV_m1 hle] at c7
    rw [if_neg c7]
    refine g_iconst (v := (-1)) hX dX3_readNumber_10 (by decide) ?_
    refine g_iret hM dX3_readNumber_11 rfl (rfl) ⟨Nat.le_of_ble_eq_true rfl, Nat.le_of_ble_eq_true rfl⟩ ?_
    exact hq _ a ha (Or.inl ⟨if_neg c7, rfl, rfl⟩)

set_option maxHeartbeats 4000000 in
set_option maxRecDepth 100000 in
theorem sp_X3_accept {Γ : Ga} {d : Nat} {κ : Kp} {I : Ip} {Q : Option Value → Kp → Ip → Prop} {x a sz c : Nat} {tx : Nat → Int32} (hO : TxO κ x) (ht : TxC κ x I tx sz) (h2 : I x 2 = nI a) (ha : a ≤ sz) (hc1 : 1 ≤ c) (hc2 : c ≤ 126) (hq : ∀ (t : Bool) (b : Nat), b ≤ sz → AccR (Lc tx sz) a c t b → Q (some (.int (b2i t))) κ (plc x I b)) : Sp Γ (d + 1) mX3_accept [.ref (x), .int (nI c)] κ I Q := by
  obtain ⟨xk, xz, lk, lz⟩ := id hO
  obtain ⟨s1, s2, s3, s4⟩ := id ht
  have hle := ht.le a
  intro X hM
  have hX := hM.std
  have hR := hM.room
  show GW _ mX3_accept X 0 [(0, .ref (x)), (1, .int (nI c))] [] _ _ 0 0
  refine g_aload_n hX dX3_accept_0 rfl rfl ?_
  refine g_callV (md' := mX3_peek) (ci := 3) (As := []) hX hR dX3_accept_1 clX3_31 okX3_peek rfl (by assumption) rfl rfl (Nat.le_of_ble_eq_true rfl) (Nat.le_of_ble_eq_true rfl) ⟨Nat.le_of_ble_eq_true rfl, Nat.le_of_ble_eq_true rfl⟩ ?_
  refine sp_X3_peek hO ht h2 ha ?_
  change GW _ _ _ 4 _ [.int _] _ _ 0 0
  refine g_iload_n hX dX3_accept_4 rfl rfl ?_
  refine g_icmpeq 10 hX dX3_accept_5 (by decide) (fun c5 => ?_) (fun c5 => ?_)
  · rw [nI_eq (by omega) (by omega)] at c5
    refine g_aload_n hX dX3_accept_10 rfl rfl ?_
    refine g_dup hX dX3_accept_11 rfl ?_
    refine g_getI hX dX3_accept_12 flX3_24 (by assumption) rfl ?_
    rw [h2]
    refine g_iconst (v := nI 1) hX dX3_accept_15 (by decide) ?_
    refine g_iadd hX dX3_accept_16 ?_
    rw [nI_add]
    refine g_putI hX dX3_accept_17 flX3_24 (by assumption) rfl rfl ?_
    refine g_iconst (v := nI 1) hX dX3_accept_20 (by decide) ?_
    refine g_iret hM dX3_accept_21 rfl (rfl) ⟨Nat.le_of_ble_eq_true rfl, Nat.le_of_ble_eq_true rfl⟩ ?_
    have hlt := Lc_lt (tx := tx) (sz := sz) (a := a) (by omega)
    exact q_t rfl (hq true (a + 1) (by omega) ⟨fun _ => ⟨c5, rfl⟩, fun e => (by cases e)⟩)
  · rw [nI_eq (by omega) (by omega)] at c5
    refine g_iconst (v := nI 0) hX dX3_accept_8 (by decide) ?_
    refine g_iret hM dX3_accept_9 rfl (rfl) ⟨Nat.le_of_ble_eq_true rfl, Nat.le_of_ble_eq_true rfl⟩ ?_
    have hz := hq false a ha ⟨fun e => (by cases e), fun _ => c5⟩
    rw [plc_self h2] at hz
    exact q_f rfl hz

set_option maxHeartbeats 4000000 in
set_option maxRecDepth 100000 in
theorem lp_X3_readRow_4 {Γ : Ga} {d : Nat} {κ : Kp} {Q : Option Value → Kp → Ip → Prop} {X : Cx} {I : Ip} {x tw sz P : Nat} {tx : Nat → Int32} {RR : Int32 × Nat} (hM : Mx Γ (d + 2) mX3_readRow Q X) (hO : TxO κ x) (hTw : TwK κ tw) (ht : TxC κ x I tx sz) (h0 : I tw 0 = nI P) (hP : P ≤ 6) (hq : ∀ a1 : Nat, a1 ≤ sz → (¬ RR.1 = 0 → a1 = RR.2) → Q (some (.int RR.1)) κ (plc x I a1)) : ∀ (n : Nat) (i a : Nat) (acc : Int32), i + n = 200 → a ≤ sz → rowC (Lc tx sz) P n a acc = RR → GW Γ mX3_readRow X 4 [(3, .int (nI i)), (2, .int (acc)), (0, .ref (x)), (1, .ref (tw))] [] κ (plc x I a) 0 0 := by
  have hX := hM.std
  have hR := hM.room
  intro n
  induction n using Nat.strongRecOn with
  | ind n ih =>
    intro i a acc hn ha hRR
    obtain ⟨xk, xz, lk, lz⟩ := id hO
    obtain ⟨s1, s2, s3, s4⟩ := id ht
    obtain ⟨ht4, ht0, -⟩ := id hTw
    have hnx : tw ≠ x := kd_ne ht4 xk (by decide)
    have hle := ht.le a
    refine g_iload_n hX dX3_readRow_4 rfl rfl ?_
    refine g_aload_n hX dX3_readRow_5 rfl rfl ?_
    refine g_getR hX dX3_readRow_6 flX3_9 (by assumption) rfl (by first | assumption | rfl) (by assumption) ?_
    refine g_alen hX dX3_readRow_9 (by assumption) (by decide) rfl ?_
    refine g_icmpge 62 hX dX3_readRow_10 (by decide) (fun c10 => ?_) (fun c10 => ?_)
    · rw [show Int32.ofNat 200 = nI 200 from rfl, nI_leI (by omega) (by omega)] at c10
      refine g_iload_n hX dX3_readRow_62 rfl rfl ?_
      refine g_iret hM dX3_readRow_63 rfl (rfl) ⟨Nat.le_of_ble_eq_true rfl, Nat.le_of_ble_eq_true rfl⟩ ?_
      obtain rfl : n = 0 := by omega
      rw [rowC] at hRR
      subst hRR
      exact hq a ha (fun _ => rfl)
    · rw [show Int32.ofNat 200 = nI 200 from rfl, nI_leI (by omega) (by omega)] at c10
      obtain ⟨k, rfl⟩ : ∃ k, n = k + 1 := ⟨n - 1, by omega⟩
      rw [rowC] at hRR
      refine g_aload_n hX dX3_readRow_13 rfl rfl ?_
      refine g_callV (md' := mX3_readFigure) (ci := 3) (As := []) hX hR dX3_readRow_14 clX3_67 okX3_readFigure rfl (by assumption) rfl rfl (Nat.le_of_ble_eq_true rfl) (Nat.le_of_ble_eq_true rfl) ⟨Nat.le_of_ble_eq_true rfl, Nat.le_of_ble_eq_true rfl⟩ ?_
      refine sp_X3_readFigure (a := a) hO (ht.plc hO) plc_2 ha ?_
      rw [plc_plc]
      change GW _ _ _ 17 _ [.int _] _ _ 0 0
      refine g_istore (lv' := [(4, .int _), (3, .int _), (2, .int _), (0, .ref _), (1, .ref _)]) hX dX3_readRow_17 (by decide) rfl ?_
      refine g_iload hX dX3_readRow_19 rfl ?_
      refine g_iconst (v := (-1)) hX dX3_readRow_21 (by decide) ?_
      refine g_icmpne 27 hX dX3_readRow_22 (by decide) (fun c22 => ?_) (fun c22 => ?_)
      · rw [figV_m1 hle, Decidable.not_not] at c22
        have hlt := Lc_lt (tx := tx) (sz := sz) (a := a) (by omega)
        rw [figV, if_pos c22, if_pos c22]
        rw [if_pos c22] at hRR
        refine g_aload_n hX dX3_readRow_27 rfl rfl ?_
        refine g_iload hX dX3_readRow_28 rfl ?_
        refine g_callV (md' := mX4_hasPerson) (ci := 4) (As := [.int _]) hX hR dX3_readRow_30 clX3_70 okX4_hasPerson rfl (by assumption) rfl rfl (Nat.le_of_ble_eq_true rfl) (Nat.le_of_ble_eq_true rfl) ⟨Nat.le_of_ble_eq_true rfl, Nat.le_of_ble_eq_true rfl⟩ ?_
        refine sp_X4_hasPerson (P := P) hTw (by rw [plc_ne hnx]; exact h0) (by omega) ?_
        change GW _ _ _ 33 _ [.int _] _ _ 0 0
        refine g_ifeq 46 hX dX3_readRow_33 (by decide) (fun c33 => ?_) (fun c33 => ?_)
        · rw [b2i_0, decide_eq_false_iff_not, inN, nI_toInt (by omega)] at c33
          rw [if_neg (fun e => c33 (by omega))] at hRR
          refine g_iconst (v := nI 0) hX dX3_readRow_46 (by decide) ?_
          refine g_iret hM dX3_readRow_47 rfl (rfl) ⟨Nat.le_of_ble_eq_true rfl, Nat.le_of_ble_eq_true rfl⟩ ?_
          subst hRR
          exact hq (a + 1) (by omega) (fun e => absurd rfl e)
        · rw [b2i_n0, decide_eq_true_eq, inN, nI_toInt (by omega)] at c33
          refine g_iload_n hX dX3_readRow_36 rfl rfl ?_
          refine g_iload hX dX3_readRow_37 rfl ?_
          refine g_callS (md' := mX5_bit) (As := [.int _]) hX hR dX3_readRow_39 clX3_73 okX5_bit rfl rfl (Nat.le_of_ble_eq_true rfl) (Nat.le_of_ble_eq_true rfl) ⟨Nat.le_of_ble_eq_true rfl, Nat.le_of_ble_eq_true rfl⟩ ?_
          refine sp_X5_bit ?_
          change GW _ _ _ 42 _ [.int _, .int _] _ _ 0 0
          refine g_iand hX dX3_readRow_42 ?_
          refine g_ifeq 48 hX dX3_readRow_43 (by decide) (fun c43 => ?_) (fun c43 => ?_)
          · rw [bitI_nI, and_bit0 (by omega)] at c43
            rw [if_pos ⟨by omega, c43⟩] at hRR
            refine g_iload_n hX dX3_readRow_48 rfl rfl ?_
            refine g_iload hX dX3_readRow_49 rfl ?_
            refine g_callS (md' := mX5_bit) (As := [.int _]) hX hR dX3_readRow_51 clX3_73 okX5_bit rfl rfl (Nat.le_of_ble_eq_true rfl) (Nat.le_of_ble_eq_true rfl) ⟨Nat.le_of_ble_eq_true rfl, Nat.le_of_ble_eq_true rfl⟩ ?_
            refine sp_X5_bit ?_
            change GW _ _ _ 54 _ [.int _, .int _] _ _ 0 0
            rw [bitI_nI]
            refine g_ior hX dX3_readRow_54 ?_
            refine g_istore_n (lv' := [(2, .int _), (4, .int _), (3, .int _), (0, .ref _), (1, .ref _)]) hX dX3_readRow_55 rfl (by decide) rfl ?_
            refine g_iinc (lv' := [(3, .int _), (2, .int _), (4, .int _), (0, .ref _), (1, .ref _)]) hX dX3_readRow_56 rfl (by first | exact nI_inc _ | rfl) (by decide) rfl ?_
            refine g_goto 4 hX dX3_readRow_59 (by decide) ?_
            exact g_pick [0, 1, 3, 4] rfl (ih k (by omega) (i + 1) (a + 1) _ (by omega) (by omega) hRR)
          · rw [bitI_nI, and_bit1 (by omega)] at c43
            rw [if_neg (fun e => by rw [c43] at e; cases e.2)] at hRR
            refine g_iconst (v := nI 0) hX dX3_readRow_46 (by decide) ?_
            refine g_iret hM dX3_readRow_47 rfl (rfl) ⟨Nat.le_of_ble_eq_true rfl, Nat.le_of_ble_eq_true rfl⟩ ?_
            subst hRR
            exact hq (a + 1) (by omega) (fun e => absurd rfl e)
      · rw [figV_m1 hle] at c22
        rw [if_neg c22]
        rw [if_neg c22] at hRR
        refine g_iload_n hX dX3_readRow_25 rfl rfl ?_
        refine g_iret hM dX3_readRow_26 rfl (rfl) ⟨Nat.le_of_ble_eq_true rfl, Nat.le_of_ble_eq_true rfl⟩ ?_
        subst hRR
        exact hq a ha (fun _ => rfl)

set_option maxHeartbeats 4000000 in
set_option maxRecDepth 100000 in
theorem sp_X3_readRow {Γ : Ga} {d : Nat} {κ : Kp} {I : Ip} {Q : Option Value → Kp → Ip → Prop} {x tw a sz P : Nat} {tx : Nat → Int32} (hO : TxO κ x) (hTw : TwK κ tw) (ht : TxC κ x I tx sz) (h0 : I tw 0 = nI P) (hP : P ≤ 6) (h2 : I x 2 = nI a) (ha : a ≤ sz) (hq : ∀ a1 : Nat, a1 ≤ sz → (¬ (rowC (Lc tx sz) P 200 a 0).1 = 0 → a1 = (rowC (Lc tx sz) P 200 a 0).2) → Q (some (.int (rowC (Lc tx sz) P 200 a 0).1)) κ (plc x I a1)) : Sp Γ (d + 2) mX3_readRow [.ref (x), .ref (tw)] κ I Q := by
  obtain ⟨xk, xz, lk, lz⟩ := id hO
  obtain ⟨s1, s2, s3, s4⟩ := id ht
  obtain ⟨ht4, ht0, -⟩ := id hTw
  have hnx : tw ≠ x := kd_ne ht4 xk (by decide)
  intro X hM
  have hX := hM.std
  have hR := hM.room
  show GW _ mX3_readRow X 0 [(0, .ref (x)), (1, .ref (tw))] [] _ _ 0 0
  refine g_iconst (v := nI 0) hX dX3_readRow_0 (by decide) ?_
  refine g_istore_n (lv' := [(2, .int _), (0, .ref _), (1, .ref _)]) hX dX3_readRow_1 rfl (by decide) rfl ?_
  refine g_iconst (v := nI 0) hX dX3_readRow_2 (by decide) ?_
  refine g_istore_n (lv' := [(3, .int _), (2, .int _), (0, .ref _), (1, .ref _)]) hX dX3_readRow_3 rfl (by decide) rfl ?_
  refine g_st (plc_self h2).symm (g_pick [0, 1, 2, 3] rfl (lp_X3_readRow_4 (RR := rowC (Lc tx sz) P 200 a 0) hM hO hTw ht h0 hP hq 200 0 a (nI 0) rfl ha (by rw [nI0])))
