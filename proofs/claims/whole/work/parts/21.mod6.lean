set_option maxHeartbeats 4000000 in
set_option maxRecDepth 100000 in
theorem sp_X6_likes {Γ : Ga} {d : Nat} {κ : Kp} {I : Ip} {Q : Option Value → Kp → Ip → Prop} {m i j : Nat} (hMo : MoK κ m) (hi : i < 6) (hj : j < 32) (hq : Q (some (.int (b2i (bt (I (κ.2.1 m 0) (8 + i)) j)))) κ I) : Sp Γ (d + 1) mX6_likes [.ref (m), .int (nI i), .int (nI j)] κ I Q := by
  obtain ⟨hm, hm0, ⟨k0, n0⟩, ⟨k1, n1⟩, ⟨k2, n2⟩, ⟨k3, n3⟩, ⟨k4, n4⟩, ⟨k6, n6⟩, ⟨k8, n8⟩, ⟨k14, n14⟩, ⟨k15, n15⟩, ⟨k16, n16⟩, d01, d23, d614, d1516⟩ := id hMo
  intro X hM
  have hX := hM.std
  have hR := hM.room
  show GW _ mX6_likes X 0 [(0, .ref (m)), (1, .int (nI i)), (2, .int (nI j))] [] _ _ 0 0
  refine g_aload_n hX dX6_likes_0 rfl rfl ?_
  refine g_getR hX dX6_likes_1 flX6_7 (by assumption) rfl (by first | assumption | rfl) (by assumption) ?_
  refine g_bipush (v := nI 8) hX dX6_likes_4 (by decide) ?_
  refine g_iload_n hX dX6_likes_6 rfl rfl ?_
  refine g_iadd hX dX6_likes_7 ?_
  refine g_ialdN hX dX6_likes_8 (by assumption) (nI_add _ _) (by omega) (by first | decide | omega) ?_
  refine g_iload_n hX dX6_likes_9 rfl rfl ?_
  refine g_callS (md' := mX6_has) (As := [.int _, .int _]) hX hR dX6_likes_10 clX6_105 okX6_has rfl rfl (Nat.le_of_ble_eq_true rfl) (Nat.le_of_ble_eq_true rfl) ⟨Nat.le_of_ble_eq_true rfl, Nat.le_of_ble_eq_true rfl⟩ ?_
  refine sp_X6_has hj ?_
  change GW _ _ _ 13 _ (.int _ :: _) _ _ _ _
  refine g_iret hM dX6_likes_13 rfl (b2i_nar _) ⟨Nat.le_of_ble_eq_true rfl, Nat.le_of_ble_eq_true rfl⟩ ?_
  exact hq

set_option maxHeartbeats 4000000 in
set_option maxRecDepth 100000 in
theorem sp_X6_isOne {Γ : Ga} {d : Nat} {κ : Kp} {I : Ip} {Q : Option Value → Kp → Ip → Prop} {m P : Nat} {x : Int32} (hMo : MoK κ m) (h0 : I (κ.2.1 m 0) 0 = nI P) (hP : P < 100) (hq : Q (some (.int (b2i (decide (0 ≤ x.toInt ∧ x.toInt < (P : Int)))))) κ I) : Sp Γ (d + 1) mX6_isOne [.ref (m), .int (x)] κ I Q := by
  obtain ⟨hm, hm0, ⟨k0, n0⟩, ⟨k1, n1⟩, ⟨k2, n2⟩, ⟨k3, n3⟩, ⟨k4, n4⟩, ⟨k6, n6⟩, ⟨k8, n8⟩, ⟨k14, n14⟩, ⟨k15, n15⟩, ⟨k16, n16⟩, d01, d23, d614, d1516⟩ := id hMo
  intro X hM
  have hX := hM.std
  have hR := hM.room
  show GW _ mX6_isOne X 0 [(0, .ref (m)), (1, .int (x))] [] _ _ 0 0
  refine g_iload_n hX dX6_isOne_0 rfl rfl ?_
  refine g_i2l hX dX6_isOne_1 ?_
  refine g_lconst (v := 0) hX dX6_isOne_2 (by decide) ?_
  refine g_aload_n hX dX6_isOne_3 rfl rfl ?_
  refine g_getR hX dX6_isOne_4 flX6_7 (by assumption) rfl (by first | assumption | rfl) (by assumption) ?_
  refine g_iconst (v := nI 0) hX dX6_isOne_7 (by decide) ?_
  refine g_ialdN hX dX6_isOne_8 (by assumption) (rfl) (by decide) (by first | decide | omega) ?_
  refine g_iconst (v := nI 1) hX dX6_isOne_9 (by decide) ?_
  refine g_isub hX dX6_isOne_10 ?_
  refine g_i2l hX dX6_isOne_11 ?_
  refine g_callS (md' := mX6_in) (As := [.long _, .long _, .long _]) hX hR dX6_isOne_12 clX6_73 okX6_in rfl rfl (Nat.le_of_ble_eq_true rfl) (Nat.le_of_ble_eq_true rfl) ⟨Nat.le_of_ble_eq_true rfl, Nat.le_of_ble_eq_true rfl⟩ ?_
  refine sp_X6_in ?_
  change GW _ _ _ 15 _ (.int _ :: _) _ _ _ _
  refine g_iret hM dX6_isOne_15 rfl (b2i_nar _) ⟨Nat.le_of_ble_eq_true rfl, Nat.le_of_ble_eq_true rfl⟩ ?_
  refine q_int ?_ hq
  rw [h0]
  refine dec_iff ?_
  rw [l32, l32, nI_p1 hP, show Int64.toInt 0 = 0 from rfl]
  omega

set_option maxHeartbeats 4000000 in
set_option maxRecDepth 100000 in
theorem sp_X6_isTaleOf {Γ : Ga} {d : Nat} {κ : Kp} {I : Ip} {Q : Option Value → Kp → Ip → Prop} {m P : Nat} {x : Int32} (hMo : MoK κ m) (h0 : I (κ.2.1 m 0) 1 = nI P) (hP : P < 100) (hq : Q (some (.int (b2i (decide (0 ≤ x.toInt ∧ x.toInt < (P : Int)))))) κ I) : Sp Γ (d + 1) mX6_isTaleOf [.ref (m), .int (x)] κ I Q := by
  obtain ⟨hm, hm0, ⟨k0, n0⟩, ⟨k1, n1⟩, ⟨k2, n2⟩, ⟨k3, n3⟩, ⟨k4, n4⟩, ⟨k6, n6⟩, ⟨k8, n8⟩, ⟨k14, n14⟩, ⟨k15, n15⟩, ⟨k16, n16⟩, d01, d23, d614, d1516⟩ := id hMo
  intro X hM
  have hX := hM.std
  have hR := hM.room
  show GW _ mX6_isTaleOf X 0 [(0, .ref (m)), (1, .int (x))] [] _ _ 0 0
  refine g_iload_n hX dX6_isTaleOf_0 rfl rfl ?_
  refine g_i2l hX dX6_isTaleOf_1 ?_
  refine g_lconst (v := 0) hX dX6_isTaleOf_2 (by decide) ?_
  refine g_aload_n hX dX6_isTaleOf_3 rfl rfl ?_
  refine g_getR hX dX6_isTaleOf_4 flX6_7 (by assumption) rfl (by first | assumption | rfl) (by assumption) ?_
  refine g_iconst (v := nI 1) hX dX6_isTaleOf_7 (by decide) ?_
  refine g_ialdN hX dX6_isTaleOf_8 (by assumption) (rfl) (by decide) (by first | decide | omega) ?_
  refine g_iconst (v := nI 1) hX dX6_isTaleOf_9 (by decide) ?_
  refine g_isub hX dX6_isTaleOf_10 ?_
  refine g_i2l hX dX6_isTaleOf_11 ?_
  refine g_callS (md' := mX6_in) (As := [.long _, .long _, .long _]) hX hR dX6_isTaleOf_12 clX6_73 okX6_in rfl rfl (Nat.le_of_ble_eq_true rfl) (Nat.le_of_ble_eq_true rfl) ⟨Nat.le_of_ble_eq_true rfl, Nat.le_of_ble_eq_true rfl⟩ ?_
  refine sp_X6_in ?_
  change GW _ _ _ 15 _ (.int _ :: _) _ _ _ _
  refine g_iret hM dX6_isTaleOf_15 rfl (b2i_nar _) ⟨Nat.le_of_ble_eq_true rfl, Nat.le_of_ble_eq_true rfl⟩ ?_
  refine q_int ?_ hq
  rw [h0]
  refine dec_iff ?_
  rw [l32, l32, nI_p1 hP, show Int64.toInt 0 = 0 from rfl]
  omega

set_option maxHeartbeats 4000000 in
set_option maxRecDepth 100000 in
theorem sp_X6_areTwo {Γ : Ga} {d : Nat} {κ : Kp} {I : Ip} {Q : Option Value → Kp → Ip → Prop} {m P : Nat} {x y : Int32} (hMo : MoK κ m) (h0 : I (κ.2.1 m 0) 0 = nI P) (hP : P < 100) (hq : Q (some (.int (b2i (decide ((0 ≤ x.toInt ∧ x.toInt < (P : Int)) ∧ (0 ≤ y.toInt ∧ y.toInt < (P : Int)) ∧ ¬ x = y))))) κ I) : Sp Γ (d + 2) mX6_areTwo [.ref (m), .int (x), .int (y)] κ I Q := by
  obtain ⟨hm, hm0, ⟨k0, n0⟩, ⟨k1, n1⟩, ⟨k2, n2⟩, ⟨k3, n3⟩, ⟨k4, n4⟩, ⟨k6, n6⟩, ⟨k8, n8⟩, ⟨k14, n14⟩, ⟨k15, n15⟩, ⟨k16, n16⟩, d01, d23, d614, d1516⟩ := id hMo
  intro X hM
  have hX := hM.std
  have hR := hM.room
  show GW _ mX6_areTwo X 0 [(0, .ref (m)), (1, .int (x)), (2, .int (y))] [] _ _ 0 0
  refine g_aload_n hX dX6_areTwo_0 rfl rfl ?_
  refine g_iload_n hX dX6_areTwo_1 rfl rfl ?_
  refine g_callV (md' := mX6_isOne) (ci := 6) (As := [.int _]) hX hR dX6_areTwo_2 clX6_128 okX6_isOne rfl (by assumption) rfl rfl (Nat.le_of_ble_eq_true rfl) (Nat.le_of_ble_eq_true rfl) ⟨Nat.le_of_ble_eq_true rfl, Nat.le_of_ble_eq_true rfl⟩ ?_
  refine sp_X6_isOne hMo h0 (by omega) ?_
  change GW _ _ _ 5 _ (.int _ :: _) _ _ _ _
  refine g_ifeq 25 hX dX6_areTwo_5 (by decide) (fun c5 => ?_) (fun c5 => ?_)
  · first | (rw [b2i_n0, decide_eq_true_eq] at c5) | (rw [b2i_0, decide_eq_false_iff_not] at c5)
    refine g_iconst (v := nI 0) hX dX6_areTwo_25 (by decide) ?_
    refine g_iret hM dX6_areTwo_26 rfl (rfl) ⟨Nat.le_of_ble_eq_true rfl, Nat.le_of_ble_eq_true rfl⟩ ?_
    first | (refine q_t ?_ hq; simp [*]; done) | (refine q_f ?_ hq; simp [*]; done)
  · first | (rw [b2i_n0, decide_eq_true_eq] at c5) | (rw [b2i_0, decide_eq_false_iff_not] at c5)
    refine g_aload_n hX dX6_areTwo_8 rfl rfl ?_
    refine g_iload_n hX dX6_areTwo_9 rfl rfl ?_
    refine g_callV (md' := mX6_isOne) (ci := 6) (As := [.int _]) hX hR dX6_areTwo_10 clX6_128 okX6_isOne rfl (by assumption) rfl rfl (Nat.le_of_ble_eq_true rfl) (Nat.le_of_ble_eq_true rfl) ⟨Nat.le_of_ble_eq_true rfl, Nat.le_of_ble_eq_true rfl⟩ ?_
    refine sp_X6_isOne hMo h0 (by omega) ?_
    change GW _ _ _ 13 _ (.int _ :: _) _ _ _ _
    refine g_ifeq 25 hX dX6_areTwo_13 (by decide) (fun c13 => ?_) (fun c13 => ?_)
    · first | (rw [b2i_n0, decide_eq_true_eq] at c13) | (rw [b2i_0, decide_eq_false_iff_not] at c13)
      refine g_iconst (v := nI 0) hX dX6_areTwo_25 (by decide) ?_
      refine g_iret hM dX6_areTwo_26 rfl (rfl) ⟨Nat.le_of_ble_eq_true rfl, Nat.le_of_ble_eq_true rfl⟩ ?_
      first | (refine q_t ?_ hq; simp [*]; done) | (refine q_f ?_ hq; simp [*]; done)
    · first | (rw [b2i_n0, decide_eq_true_eq] at c13) | (rw [b2i_0, decide_eq_false_iff_not] at c13)
      refine g_iload_n hX dX6_areTwo_16 rfl rfl ?_
      refine g_iload_n hX dX6_areTwo_17 rfl rfl ?_
      refine g_icmpeq 25 hX dX6_areTwo_18 (by decide) (fun c18 => ?_) (fun c18 => ?_)
      · refine g_iconst (v := nI 0) hX dX6_areTwo_25 (by decide) ?_
        refine g_iret hM dX6_areTwo_26 rfl (rfl) ⟨Nat.le_of_ble_eq_true rfl, Nat.le_of_ble_eq_true rfl⟩ ?_
        first | (refine q_t ?_ hq; simp [*]; done) | (refine q_f ?_ hq; simp [*]; done)
      · refine g_iconst (v := nI 1) hX dX6_areTwo_21 (by decide) ?_
        refine g_goto 26 hX dX6_areTwo_22 (by decide) ?_
        refine g_iret hM dX6_areTwo_26 rfl (rfl) ⟨Nat.le_of_ble_eq_true rfl, Nat.le_of_ble_eq_true rfl⟩ ?_
        first | (refine q_t ?_ hq; simp [*]; done) | (refine q_f ?_ hq; simp [*]; done)

set_option maxHeartbeats 4000000 in
set_option maxRecDepth 100000 in
theorem sp_X6_sits {Γ : Ga} {d : Nat} {κ : Kp} {I : Ip} {Q : Option Value → Kp → Ip → Prop} {m : Nat} {x : Int32} (hMo : MoK κ m)  (hq : Q (some (.int (b2i (decide (¬ I (κ.2.1 m 2) 10 = -4 ∧ (I (κ.2.1 m 2) 10 = x ∨ I (κ.2.1 m 2) 11 = x)))))) κ I) : Sp Γ d mX6_sits [.ref (m), .int (x)] κ I Q := by
  obtain ⟨hm, hm0, ⟨k0, n0⟩, ⟨k1, n1⟩, ⟨k2, n2⟩, ⟨k3, n3⟩, ⟨k4, n4⟩, ⟨k6, n6⟩, ⟨k8, n8⟩, ⟨k14, n14⟩, ⟨k15, n15⟩, ⟨k16, n16⟩, d01, d23, d614, d1516⟩ := id hMo
  intro X hM
  have hX := hM.std
  show GW _ mX6_sits X 0 [(0, .ref (m)), (1, .int (x))] [] _ _ 0 0
  refine g_aload_n hX dX6_sits_0 rfl rfl ?_
  refine g_getR hX dX6_sits_1 flX6_16 (by assumption) rfl (by first | assumption | rfl) (by assumption) ?_
  refine g_bipush (v := nI 10) hX dX6_sits_4 (by decide) ?_
  refine g_ialdN hX dX6_sits_6 (by assumption) (rfl) (by omega) (by first | decide | omega) ?_
  refine g_bipush (v := (-4)) hX dX6_sits_7 (by decide) ?_
  refine g_icmpeq 38 hX dX6_sits_9 (by decide) (fun c9 => ?_) (fun c9 => ?_)
  · refine g_iconst (v := nI 0) hX dX6_sits_38 (by decide) ?_
    refine g_iret hM dX6_sits_39 rfl (rfl) ⟨Nat.le_of_ble_eq_true rfl, Nat.le_of_ble_eq_true rfl⟩ ?_
    first | (refine q_t (decide_eq_true ?_) hq; grind) | (refine q_f (decide_eq_false ?_) hq; grind)
  · refine g_aload_n hX dX6_sits_12 rfl rfl ?_
    refine g_getR hX dX6_sits_13 flX6_16 (by assumption) rfl (by first | assumption | rfl) (by assumption) ?_
    refine g_bipush (v := nI 10) hX dX6_sits_16 (by decide) ?_
    refine g_ialdN hX dX6_sits_18 (by assumption) (rfl) (by omega) (by first | decide | omega) ?_
    refine g_iload_n hX dX6_sits_19 rfl rfl ?_
    refine g_icmpeq 34 hX dX6_sits_20 (by decide) (fun c20 => ?_) (fun c20 => ?_)
    · refine g_iconst (v := nI 1) hX dX6_sits_34 (by decide) ?_
      refine g_goto 39 hX dX6_sits_35 (by decide) ?_
      refine g_iret hM dX6_sits_39 rfl (rfl) ⟨Nat.le_of_ble_eq_true rfl, Nat.le_of_ble_eq_true rfl⟩ ?_
      first | (refine q_t (decide_eq_true ?_) hq; grind) | (refine q_f (decide_eq_false ?_) hq; grind)
    · refine g_aload_n hX dX6_sits_23 rfl rfl ?_
      refine g_getR hX dX6_sits_24 flX6_16 (by assumption) rfl (by first | assumption | rfl) (by assumption) ?_
      refine g_bipush (v := nI 11) hX dX6_sits_27 (by decide) ?_
      refine g_ialdN hX dX6_sits_29 (by assumption) (rfl) (by omega) (by first | decide | omega) ?_
      refine g_iload_n hX dX6_sits_30 rfl rfl ?_
      refine g_icmpne 38 hX dX6_sits_31 (by decide) (fun c31 => ?_) (fun c31 => ?_)
      · refine g_iconst (v := nI 0) hX dX6_sits_38 (by decide) ?_
        refine g_iret hM dX6_sits_39 rfl (rfl) ⟨Nat.le_of_ble_eq_true rfl, Nat.le_of_ble_eq_true rfl⟩ ?_
        first | (refine q_t (decide_eq_true ?_) hq; grind) | (refine q_f (decide_eq_false ?_) hq; grind)
      · refine g_iconst (v := nI 1) hX dX6_sits_34 (by decide) ?_
        refine g_goto 39 hX dX6_sits_35 (by decide) ?_
        refine g_iret hM dX6_sits_39 rfl (rfl) ⟨Nat.le_of_ble_eq_true rfl, Nat.le_of_ble_eq_true rfl⟩ ?_
        first | (refine q_t (decide_eq_true ?_) hq; grind) | (refine q_f (decide_eq_false ?_) hq; grind)

set_option maxHeartbeats 4000000 in
set_option maxRecDepth 100000 in
theorem lp_X6_knownBy_4 {Γ : Ga} {d : Nat} {κ : Kp} {Q : Option Value → Kp → Ip → Prop} {X : Cx} {I : Ip} {m i T : Nat} (hM : Mx Γ (d + 1) mX6_knownBy Q X) (hMo : MoK κ m) (hw1 : I (κ.2.1 m 0) 1 = nI T) (hT : T ≤ 9) (hi : i < 32) (hq : Q (some (.int (bsum T (fun t => bt (I (κ.2.1 m 2) t) i)))) κ I) : ∀ (n : Nat) (k : Nat), n = T - k → k ≤ T → GW Γ mX6_knownBy X 4 [(3, .int (nI k)), (2, .int (bsum k (fun t => bt (I (κ.2.1 m 2) t) i))), (0, .ref (m)), (1, .int (nI i))] [] κ (I) 0 0 := by
  have hX := hM.std
  have hR := hM.room
  intro n
  induction n using Nat.strongRecOn with
  | ind n ih =>
    intro k hn hk
    obtain ⟨hm, hm0, ⟨k0, n0⟩, ⟨k1, n1⟩, ⟨k2, n2⟩, ⟨k3, n3⟩, ⟨k4, n4⟩, ⟨k6, n6⟩, ⟨k8, n8⟩, ⟨k14, n14⟩, ⟨k15, n15⟩, ⟨k16, n16⟩, d01, d23, d614, d1516⟩ := id hMo
    refine g_iload_n hX dX6_knownBy_4 rfl rfl ?_
    refine g_aload_n hX dX6_knownBy_5 rfl rfl ?_
    refine g_getR hX dX6_knownBy_6 flX6_7 (by assumption) rfl (by first | assumption | rfl) (by assumption) ?_
    refine g_iconst (v := nI 1) hX dX6_knownBy_9 (by decide) ?_
    refine g_ialdN hX dX6_knownBy_10 (by assumption) (rfl) (by omega) (by first | decide | omega) ?_
    refine g_icmpge 45 hX dX6_knownBy_11 (by decide) (fun c11 => ?_) (fun c11 => ?_)
    · rw [hw1, nI_leI (by omega) (by omega)] at c11
      refine g_iload_n hX dX6_knownBy_45 rfl rfl ?_
      refine g_iret hM dX6_knownBy_46 rfl (rfl) ⟨Nat.le_of_ble_eq_true rfl, Nat.le_of_ble_eq_true rfl⟩ ?_
      have e : k = T := by omega
      subst e
      exact hq
    · rw [hw1, nI_leI (by omega) (by omega)] at c11
      refine g_iload_n hX dX6_knownBy_14 rfl rfl ?_
      refine g_aload_n hX dX6_knownBy_15 rfl rfl ?_
      refine g_getR hX dX6_knownBy_16 flX6_16 (by assumption) rfl (by first | assumption | rfl) (by assumption) ?_
      refine g_iconst (v := nI 0) hX dX6_knownBy_19 (by decide) ?_
      refine g_iload_n hX dX6_knownBy_20 rfl rfl ?_
      refine g_iadd hX dX6_knownBy_21 ?_
      refine g_ialdN hX dX6_knownBy_22 (by assumption) (nI_z _) (by omega) (by first | decide | omega) ?_
      refine g_iload_n hX dX6_knownBy_23 rfl rfl ?_
      refine g_callS (md' := mX6_has) (As := [.int _, .int _]) hX hR dX6_knownBy_24 clX6_105 okX6_has rfl rfl (Nat.le_of_ble_eq_true rfl) (Nat.le_of_ble_eq_true rfl) ⟨Nat.le_of_ble_eq_true rfl, Nat.le_of_ble_eq_true rfl⟩ ?_
      refine sp_X6_has hi ?_
      change GW _ _ _ 27 _ (.int _ :: _) _ _ _ _
      refine g_ifeq 36 hX dX6_knownBy_27 (by decide) (fun c27 => ?_) (fun c27 => ?_)
      · first | (rw [b2i_n0] at c27) | (rw [b2i_0] at c27)
        refine g_iconst (v := nI 0) hX dX6_knownBy_36 (by decide) ?_
        refine g_ior hX dX6_knownBy_37 ?_
        refine g_istore_n (lv' := [(2, .int _), (3, .int _), (0, .ref _), (1, .int _)]) hX dX6_knownBy_38 rfl (by decide) rfl ?_
        refine g_iinc (lv' := [(3, .int _), (2, .int _), (0, .ref _), (1, .int _)]) hX dX6_knownBy_39 rfl (by first | exact nI_inc _ | rfl) (by decide) rfl ?_
        refine g_goto 4 hX dX6_knownBy_42 (by decide) ?_
        refine g_pick [0, 1, 2, 3] rfl ?_
        have := ih (T - (k + 1)) (by omega) (k + 1) rfl (by omega)
        rw [bsum] at this
        first | (rw [if_pos (by simp [*])] at this; exact this) | (rw [if_neg (by simp [*])] at this; exact this)
      · first | (rw [b2i_n0] at c27) | (rw [b2i_0] at c27)
        refine g_iconst (v := nI 1) hX dX6_knownBy_30 (by decide) ?_
        refine g_iload_n hX dX6_knownBy_31 rfl rfl ?_
        refine g_ishl hX dX6_knownBy_32 ?_
        refine g_goto 37 hX dX6_knownBy_33 (by decide) ?_
        refine g_ior hX dX6_knownBy_37 ?_
        refine g_istore_n (lv' := [(2, .int _), (3, .int _), (0, .ref _), (1, .int _)]) hX dX6_knownBy_38 rfl (by decide) rfl ?_
        refine g_iinc (lv' := [(3, .int _), (2, .int _), (0, .ref _), (1, .int _)]) hX dX6_knownBy_39 rfl (by first | exact nI_inc _ | rfl) (by decide) rfl ?_
        refine g_goto 4 hX dX6_knownBy_42 (by decide) ?_
        refine g_pick [0, 1, 2, 3] rfl ?_
        have := ih (T - (k + 1)) (by omega) (k + 1) rfl (by omega)
        rw [bsum] at this
        first | (rw [if_pos (by simp [*])] at this; exact this) | (rw [if_neg (by simp [*])] at this; exact this)

set_option maxHeartbeats 4000000 in
set_option maxRecDepth 100000 in
theorem sp_X6_knownBy {Γ : Ga} {d : Nat} {κ : Kp} {I : Ip} {Q : Option Value → Kp → Ip → Prop} {m i T : Nat} (hMo : MoK κ m) (hw1 : I (κ.2.1 m 0) 1 = nI T) (hT : T ≤ 9) (hi : i < 32) (hq : Q (some (.int (bsum T (fun t => bt (I (κ.2.1 m 2) t) i)))) κ I) : Sp Γ (d + 1) mX6_knownBy [.ref (m), .int (nI i)] κ I Q := by
  obtain ⟨hm, hm0, ⟨k0, n0⟩, ⟨k1, n1⟩, ⟨k2, n2⟩, ⟨k3, n3⟩, ⟨k4, n4⟩, ⟨k6, n6⟩, ⟨k8, n8⟩, ⟨k14, n14⟩, ⟨k15, n15⟩, ⟨k16, n16⟩, d01, d23, d614, d1516⟩ := id hMo
  intro X hM
  have hX := hM.std
  have hR := hM.room
  show GW _ mX6_knownBy X 0 [(0, .ref (m)), (1, .int (nI i))] [] _ _ 0 0
  refine g_iconst (v := nI 0) hX dX6_knownBy_0 (by decide) ?_
  refine g_istore_n (lv' := [(2, .int _), (0, .ref _), (1, .int _)]) hX dX6_knownBy_1 rfl (by decide) rfl ?_
  refine g_iconst (v := nI 0) hX dX6_knownBy_2 (by decide) ?_
  refine g_istore_n (lv' := [(3, .int _), (2, .int _), (0, .ref _), (1, .int _)]) hX dX6_knownBy_3 rfl (by decide) rfl ?_
  exact g_pick [0, 1, 2, 3] rfl (lp_X6_knownBy_4 hM hMo hw1 hT hi hq T 0 rfl (by omega))

set_option maxHeartbeats 4000000 in
set_option maxRecDepth 100000 in
theorem sp_X6_mayHush {Γ : Ga} {d : Nat} {κ : Kp} {I : Ip} {Q : Option Value → Kp → Ip → Prop} {m x t : Nat} (hMo : MoK κ m) (hx : κ.1 x = (8, 18)) (ht : t < 32) (hq : Q (some (.int (b2i (!bt (I x 9) t && decide (I x 10 = -4 ∨ ¬ I x 13 = nI t))))) κ I) : Sp Γ (d + 1) mX6_mayHush [.ref (m), .ref (x), .int (nI t)] κ I Q := by
  obtain ⟨hm, hm0, ⟨k0, n0⟩, ⟨k1, n1⟩, ⟨k2, n2⟩, ⟨k3, n3⟩, ⟨k4, n4⟩, ⟨k6, n6⟩, ⟨k8, n8⟩, ⟨k14, n14⟩, ⟨k15, n15⟩, ⟨k16, n16⟩, d01, d23, d614, d1516⟩ := id hMo
  intro X hM
  have hX := hM.std
  have hR := hM.room
  show GW _ mX6_mayHush X 0 [(0, .ref (m)), (1, .ref (x)), (2, .int (nI t))] [] _ _ 0 0
  refine g_aload_n hX dX6_mayHush_0 rfl rfl ?_
  refine g_bipush (v := nI 9) hX dX6_mayHush_1 (by decide) ?_
  refine g_ialdN hX dX6_mayHush_3 (by assumption) (rfl) (by omega) (by first | decide | omega) ?_
  refine g_iload_n hX dX6_mayHush_4 rfl rfl ?_
  refine g_callS (md' := mX6_has) (As := [.int _, .int _]) hX hR dX6_mayHush_5 clX6_105 okX6_has rfl rfl (Nat.le_of_ble_eq_true rfl) (Nat.le_of_ble_eq_true rfl) ⟨Nat.le_of_ble_eq_true rfl, Nat.le_of_ble_eq_true rfl⟩ ?_
  refine sp_X6_has ht ?_
  change GW _ _ _ 8 _ (.int _ :: _) _ _ _ _
  refine g_ifne 32 hX dX6_mayHush_8 (by decide) (fun c8 => ?_) (fun c8 => ?_)
  · first | (rw [b2i_n0] at c8) | (rw [b2i_0] at c8)
    refine g_iconst (v := nI 0) hX dX6_mayHush_32 (by decide) ?_
    refine g_iret hM dX6_mayHush_33 rfl (rfl) ⟨Nat.le_of_ble_eq_true rfl, Nat.le_of_ble_eq_true rfl⟩ ?_
    first | (refine q_t ?_ hq; simp [*]; done) | (refine q_f ?_ hq; simp [*]; done)
  · first | (rw [b2i_n0] at c8) | (rw [b2i_0] at c8)
    refine g_aload_n hX dX6_mayHush_11 rfl rfl ?_
    refine g_bipush (v := nI 10) hX dX6_mayHush_12 (by decide) ?_
    refine g_ialdN hX dX6_mayHush_14 (by assumption) (rfl) (by omega) (by first | decide | omega) ?_
    refine g_bipush (v := (-4)) hX dX6_mayHush_15 (by decide) ?_
    refine g_icmpeq 28 hX dX6_mayHush_17 (by decide) (fun c17 => ?_) (fun c17 => ?_)
    · refine g_iconst (v := nI 1) hX dX6_mayHush_28 (by decide) ?_
      refine g_goto 33 hX dX6_mayHush_29 (by decide) ?_
      refine g_iret hM dX6_mayHush_33 rfl (rfl) ⟨Nat.le_of_ble_eq_true rfl, Nat.le_of_ble_eq_true rfl⟩ ?_
      first | (refine q_t ?_ hq; simp [*]; done) | (refine q_f ?_ hq; simp [*]; done)
    · refine g_aload_n hX dX6_mayHush_20 rfl rfl ?_
      refine g_bipush (v := nI 13) hX dX6_mayHush_21 (by decide) ?_
      refine g_ialdN hX dX6_mayHush_23 (by assumption) (rfl) (by omega) (by first | decide | omega) ?_
      refine g_iload_n hX dX6_mayHush_24 rfl rfl ?_
      refine g_icmpeq 32 hX dX6_mayHush_25 (by decide) (fun c25 => ?_) (fun c25 => ?_)
      · refine g_iconst (v := nI 0) hX dX6_mayHush_32 (by decide) ?_
        refine g_iret hM dX6_mayHush_33 rfl (rfl) ⟨Nat.le_of_ble_eq_true rfl, Nat.le_of_ble_eq_true rfl⟩ ?_
        first | (refine q_t ?_ hq; simp [*]; done) | (refine q_f ?_ hq; simp [*]; done)
      · refine g_iconst (v := nI 1) hX dX6_mayHush_28 (by decide) ?_
        refine g_goto 33 hX dX6_mayHush_29 (by decide) ?_
        refine g_iret hM dX6_mayHush_33 rfl (rfl) ⟨Nat.le_of_ble_eq_true rfl, Nat.le_of_ble_eq_true rfl⟩ ?_
        first | (refine q_t ?_ hq; simp [*]; done) | (refine q_f ?_ hq; simp [*]; done)

set_option maxHeartbeats 4000000 in
set_option maxRecDepth 100000 in
theorem sp_X6_layAside {Γ : Ga} {d : Nat} {κ : Kp} {I : Ip} {Q : Option Value → Kp → Ip → Prop} {m : Nat} (hMo : MoK κ m)  (hq : Q none κ (va_up I (κ.2.1 m 3) (I (κ.2.1 m 2)))) : Sp Γ (d + 1) mX6_layAside [.ref (m)] κ I Q := by
  obtain ⟨hm, hm0, ⟨k0, n0⟩, ⟨k1, n1⟩, ⟨k2, n2⟩, ⟨k3, n3⟩, ⟨k4, n4⟩, ⟨k6, n6⟩, ⟨k8, n8⟩, ⟨k14, n14⟩, ⟨k15, n15⟩, ⟨k16, n16⟩, d01, d23, d614, d1516⟩ := id hMo
  intro X hM
  have hX := hM.std
  have hR := hM.room
  show GW _ mX6_layAside X 0 [(0, .ref (m))] [] _ _ 0 0
  refine g_aload_n hX dX6_layAside_0 rfl rfl ?_
  refine g_getR hX dX6_layAside_1 flX6_16 (by assumption) rfl (by first | assumption | rfl) (by assumption) ?_
  refine g_iconst (v := nI 0) hX dX6_layAside_4 (by decide) ?_
  refine g_aload_n hX dX6_layAside_5 rfl rfl ?_
  refine g_getR hX dX6_layAside_6 flX6_19 (by assumption) rfl (by first | assumption | rfl) (by assumption) ?_
  refine g_iconst (v := nI 0) hX dX6_layAside_9 (by decide) ?_
  refine g_bipush (v := nI 18) hX dX6_layAside_10 (by decide) ?_
  refine g_callS (md' := mX6_copies) (As := [.ref _, .int _, .ref _, .int _, .int _]) hX hR dX6_layAside_12 clX6_58 okX6_copies rfl rfl (Nat.le_of_ble_eq_true rfl) (Nat.le_of_ble_eq_true rfl) ⟨Nat.le_of_ble_eq_true rfl, Nat.le_of_ble_eq_true rfl⟩ ?_
  refine sp_X6_copies (i := 0) (j := 0) (c := 18) k2 k3 (by decide) (by decide) (by decide) (by decide) d23 ?_
  refine g_ext (f := I (κ.2.1 m 2)) k3 (fun k hk => ?_) ?_
  · rw [up_same, fb_put_in (Nat.zero_le _) (by omega), Nat.sub_zero, Nat.zero_add]
  rw [up_up]
  change GW _ _ _ 15 _ _ _ _ _ _
  refine g_vret hM dX6_layAside_15 rfl ⟨Nat.le_of_ble_eq_true rfl, Nat.le_of_ble_eq_true rfl⟩ ?_
  exact hq

set_option maxHeartbeats 4000000 in
set_option maxRecDepth 100000 in
theorem sp_X6_isSilent {Γ : Ga} {d : Nat} {κ : Kp} {I : Ip} {Q : Option Value → Kp → Ip → Prop} {m x a b T : Nat} (hMo : MoK κ m) (hx : κ.1 x = (8, 18)) (hw1 : I (κ.2.1 m 0) 1 = nI T) (hT : T ≤ 9) (h10 : I x 10 = nI a) (h11 : I x 11 = nI b) (ha : a < 6) (hb : b < 6) (hq : Q (some (.int (b2i (decide (I x 13 = -4 ∧ tellF (I (κ.2.1 m 0)) (I x) T a (nI b) (I x 15) = 0 ∧ tellF (I (κ.2.1 m 0)) (I x) T b (nI a) (I x 15) = 0))))) κ I) : Sp Γ (d + 3) mX6_isSilent [.ref (m), .ref (x)] κ I Q := by
  obtain ⟨hm, hm0, ⟨k0, n0⟩, ⟨k1, n1⟩, ⟨k2, n2⟩, ⟨k3, n3⟩, ⟨k4, n4⟩, ⟨k6, n6⟩, ⟨k8, n8⟩, ⟨k14, n14⟩, ⟨k15, n15⟩, ⟨k16, n16⟩, d01, d23, d614, d1516⟩ := id hMo
  intro X hM
  have hX := hM.std
  have hR := hM.room
  show GW _ mX6_isSilent X 0 [(0, .ref (m)), (1, .ref (x))] [] _ _ 0 0
  refine g_aload_n hX dX6_isSilent_0 rfl rfl ?_
  refine g_bipush (v := nI 13) hX dX6_isSilent_1 (by decide) ?_
  refine g_ialdN hX dX6_isSilent_3 (by assumption) (rfl) (by omega) (by first | decide | omega) ?_
  refine g_bipush (v := (-4)) hX dX6_isSilent_4 (by decide) ?_
  refine g_icmpne 53 hX dX6_isSilent_6 (by decide) (fun c6 => ?_) (fun c6 => ?_)
  · refine g_iconst (v := nI 0) hX dX6_isSilent_53 (by decide) ?_
    refine g_iret hM dX6_isSilent_54 rfl (rfl) ⟨Nat.le_of_ble_eq_true rfl, Nat.le_of_ble_eq_true rfl⟩ ?_
    first | (refine q_t ?_ hq; simp [*]; done) | (refine q_f ?_ hq; simp [*]; done)
  · refine g_aload_n hX dX6_isSilent_9 rfl rfl ?_
    refine g_aload_n hX dX6_isSilent_10 rfl rfl ?_
    refine g_aload_n hX dX6_isSilent_11 rfl rfl ?_
    refine g_bipush (v := nI 10) hX dX6_isSilent_12 (by decide) ?_
    refine g_ialdN hX dX6_isSilent_14 (by assumption) (rfl) (by omega) (by first | decide | omega) ?_
    rw [h10]
    refine g_aload_n hX dX6_isSilent_15 rfl rfl ?_
    refine g_bipush (v := nI 11) hX dX6_isSilent_16 (by decide) ?_
    refine g_ialdN hX dX6_isSilent_18 (by assumption) (rfl) (by omega) (by first | decide | omega) ?_
    rw [h11]
    refine g_aload_n hX dX6_isSilent_19 rfl rfl ?_
    refine g_bipush (v := nI 15) hX dX6_isSilent_20 (by decide) ?_
    refine g_ialdN hX dX6_isSilent_22 (by assumption) (rfl) (by omega) (by first | decide | omega) ?_
    refine g_callV (md' := mX6_tellable) (ci := 6) (As := [.ref _, .int _, .int _, .int _]) hX hR dX6_isSilent_23 clX6_150 okX6_tellable rfl (by assumption) rfl rfl (Nat.le_of_ble_eq_true rfl) (Nat.le_of_ble_eq_true rfl) ⟨Nat.le_of_ble_eq_true rfl, Nat.le_of_ble_eq_true rfl⟩ ?_
    refine sp_X6_tellable hMo hx hw1 hT (by omega) ?_
    change GW _ _ _ 26 _ (.int _ :: _) _ _ _ _
    refine g_ifne 53 hX dX6_isSilent_26 (by decide) (fun c26 => ?_) (fun c26 => ?_)
    · refine g_iconst (v := nI 0) hX dX6_isSilent_53 (by decide) ?_
      refine g_iret hM dX6_isSilent_54 rfl (rfl) ⟨Nat.le_of_ble_eq_true rfl, Nat.le_of_ble_eq_true rfl⟩ ?_
      first | (refine q_t ?_ hq; simp [*]; done) | (refine q_f ?_ hq; simp [*]; done)
    · refine g_aload_n hX dX6_isSilent_29 rfl rfl ?_
      refine g_aload_n hX dX6_isSilent_30 rfl rfl ?_
      refine g_aload_n hX dX6_isSilent_31 rfl rfl ?_
      refine g_bipush (v := nI 11) hX dX6_isSilent_32 (by decide) ?_
      refine g_ialdN hX dX6_isSilent_34 (by assumption) (rfl) (by omega) (by first | decide | omega) ?_
      rw [h11]
      refine g_aload_n hX dX6_isSilent_35 rfl rfl ?_
      refine g_bipush (v := nI 10) hX dX6_isSilent_36 (by decide) ?_
      refine g_ialdN hX dX6_isSilent_38 (by assumption) (rfl) (by omega) (by first | decide | omega) ?_
      rw [h10]
      refine g_aload_n hX dX6_isSilent_39 rfl rfl ?_
      refine g_bipush (v := nI 15) hX dX6_isSilent_40 (by decide) ?_
      refine g_ialdN hX dX6_isSilent_42 (by assumption) (rfl) (by omega) (by first | decide | omega) ?_
      refine g_callV (md' := mX6_tellable) (ci := 6) (As := [.ref _, .int _, .int _, .int _]) hX hR dX6_isSilent_43 clX6_150 okX6_tellable rfl (by assumption) rfl rfl (Nat.le_of_ble_eq_true rfl) (Nat.le_of_ble_eq_true rfl) ⟨Nat.le_of_ble_eq_true rfl, Nat.le_of_ble_eq_true rfl⟩ ?_
      refine sp_X6_tellable hMo hx hw1 hT (by omega) ?_
      change GW _ _ _ 46 _ (.int _ :: _) _ _ _ _
      refine g_ifne 53 hX dX6_isSilent_46 (by decide) (fun c46 => ?_) (fun c46 => ?_)
      · refine g_iconst (v := nI 0) hX dX6_isSilent_53 (by decide) ?_
        refine g_iret hM dX6_isSilent_54 rfl (rfl) ⟨Nat.le_of_ble_eq_true rfl, Nat.le_of_ble_eq_true rfl⟩ ?_
        first | (refine q_t ?_ hq; simp [*]; done) | (refine q_f ?_ hq; simp [*]; done)
      · refine g_iconst (v := nI 1) hX dX6_isSilent_49 (by decide) ?_
        refine g_goto 54 hX dX6_isSilent_50 (by decide) ?_
        refine g_iret hM dX6_isSilent_54 rfl (rfl) ⟨Nat.le_of_ble_eq_true rfl, Nat.le_of_ble_eq_true rfl⟩ ?_
        first | (refine q_t ?_ hq; simp [*]; done) | (refine q_f ?_ hq; simp [*]; done)

set_option maxHeartbeats 4000000 in
set_option maxRecDepth 100000 in
theorem lp_X6_bringsBy_34 {Γ : Ga} {d : Nat} {κ : Kp} {Q : Option Value → Kp → Ip → Prop} {X : Cx} {I : Ip} {m a b c P T : Nat} {hh : Int32} {s : Nat → Int32} (hM : Mx Γ (d + 5) mX6_bringsBy Q X) (hMo : MoK κ m) (hw : WfT (I (κ.2.1 m 0)) P T) (hs : WfS s P T) (hc : c < 1000) (hq : Q (some (.int (itF (I (κ.2.1 m 0)) T c s 17))) κ (va_up I (κ.2.1 m 3) (itF (I (κ.2.1 m 0)) T c s))) : ∀ (n : Nat) (k : Nat), n = c - k → k ≤ c → GW Γ mX6_bringsBy X 34 [(5, .int (nI k)), (0, .ref (m)), (1, .int (nI a)), (2, .int (nI b)), (3, .int (nI c)), (4, .int (hh))] [] κ (va_up I (κ.2.1 m 3) (itF (I (κ.2.1 m 0)) T k s)) 0 0 := by
  have hX := hM.std
  have hR := hM.room
  intro n
  induction n using Nat.strongRecOn with
  | ind n ih =>
    intro k hn hk
    obtain ⟨hm, hm0, ⟨k0, n0⟩, ⟨k1, n1⟩, ⟨k2, n2⟩, ⟨k3, n3⟩, ⟨k4, n4⟩, ⟨k6, n6⟩, ⟨k8, n8⟩, ⟨k14, n14⟩, ⟨k15, n15⟩, ⟨k16, n16⟩, d01, d23, d614, d1516⟩ := id hMo
    have h03 : κ.2.1 m 0 ≠ κ.2.1 m 3 := kd_ne k0 k3 (by decide)
    refine g_iload hX dX6_bringsBy_34 rfl ?_
    refine g_iload_n hX dX6_bringsBy_36 rfl rfl ?_
    refine g_icmpge 54 hX dX6_bringsBy_37 (by decide) (fun c37 => ?_) (fun c37 => ?_)
    · rw [nI_leI (by omega) (by omega)] at c37
      refine g_aload_n hX dX6_bringsBy_54 rfl rfl ?_
      refine g_getR hX dX6_bringsBy_55 flX6_19 (by assumption) rfl (by first | assumption | rfl) (by assumption) ?_
      refine g_bipush (v := nI 17) hX dX6_bringsBy_58 (by decide) ?_
      refine g_ialdN hX dX6_bringsBy_60 (by assumption) (rfl) (by omega) (by first | decide | omega) ?_
      refine g_iret hM dX6_bringsBy_61 rfl (rfl) ⟨Nat.le_of_ble_eq_true rfl, Nat.le_of_ble_eq_true rfl⟩ ?_
      have e : k = c := by omega
      subst e
      rw [up_same]
      exact hq
    · rw [nI_leI (by omega) (by omega)] at c37
      refine g_aload_n hX dX6_bringsBy_40 rfl rfl ?_
      refine g_aload_n hX dX6_bringsBy_41 rfl rfl ?_
      refine g_getR hX dX6_bringsBy_42 flX6_19 (by assumption) rfl (by first | assumption | rfl) (by assumption) ?_
      refine g_callV (md' := mX6_minuteGoes) (ci := 6) (As := [.ref _]) hX hR dX6_bringsBy_45 clX6_183 okX6_minuteGoes rfl (by assumption) rfl rfl (Nat.le_of_ble_eq_true rfl) (Nat.le_of_ble_eq_true rfl) ⟨Nat.le_of_ble_eq_true rfl, Nat.le_of_ble_eq_true rfl⟩ ?_
      refine sp_X6_minuteGoes (P := P) (T := T) hMo k3 (by rw [up_ne _ _ h03]; exact hw) (by rw [up_same]; exact wfs_it hw hs k) ?_
      rw [up_same, up_ne _ _ h03, up_up]
      change GW _ _ _ 48 _ _ _ _ _ _
      refine g_iinc (lv' := [(5, .int _), (0, .ref _), (1, .int _), (2, .int _), (3, .int _), (4, .int _)]) hX dX6_bringsBy_48 rfl (by first | exact nI_inc _ | rfl) (by decide) rfl ?_
      refine g_goto 34 hX dX6_bringsBy_51 (by decide) ?_
      exact g_pick [0, 1, 2, 3, 4, 5] rfl (ih (c - (k + 1)) (by omega) (k + 1) rfl (by omega))

set_option maxHeartbeats 4000000 in
set_option maxRecDepth 100000 in
theorem sp_X6_bringsBy {Γ : Ga} {d : Nat} {κ : Kp} {I : Ip} {Q : Option Value → Kp → Ip → Prop} {m a b c P T : Nat} {hh : Int32} (hMo : MoK κ m) (hw : WfT (I (κ.2.1 m 0)) P T) (hs : WfS (I (κ.2.1 m 2)) P T) (hc : c < 1000) (ha : a < P) (hb : b < P) (hab : a ≠ b) (hh9 : ∀ i, bt hh i = true → i < T) (hq : Q (some (.int (brF (I (κ.2.1 m 0)) (I (κ.2.1 m 2)) T a b c hh))) κ (va_up I (κ.2.1 m 3) (itF (I (κ.2.1 m 0)) T c (brS (I (κ.2.1 m 2)) a b hh)))) : Sp Γ (d + 5) mX6_bringsBy [.ref (m), .int (nI a), .int (nI b), .int (nI c), .int (hh)] κ I Q := by
  obtain ⟨hm, hm0, ⟨k0, n0⟩, ⟨k1, n1⟩, ⟨k2, n2⟩, ⟨k3, n3⟩, ⟨k4, n4⟩, ⟨k6, n6⟩, ⟨k8, n8⟩, ⟨k14, n14⟩, ⟨k15, n15⟩, ⟨k16, n16⟩, d01, d23, d614, d1516⟩ := id hMo
  have h03 : κ.2.1 m 0 ≠ κ.2.1 m 3 := kd_ne k0 k3 (by decide)
  intro X hM
  have hX := hM.std
  have hR := hM.room
  show GW _ mX6_bringsBy X 0 [(0, .ref (m)), (1, .int (nI a)), (2, .int (nI b)), (3, .int (nI c)), (4, .int (hh))] [] _ _ 0 0
  refine g_aload_n hX dX6_bringsBy_0 rfl rfl ?_
  refine g_callV (md' := mX6_layAside) (ci := 6) (As := []) hX hR dX6_bringsBy_1 clX6_192 okX6_layAside rfl (by assumption) rfl rfl (Nat.le_of_ble_eq_true rfl) (Nat.le_of_ble_eq_true rfl) ⟨Nat.le_of_ble_eq_true rfl, Nat.le_of_ble_eq_true rfl⟩ ?_
  refine sp_X6_layAside hMo ?_
  change GW _ _ _ 4 _ _ _ _ _ _
  refine g_aload_n hX dX6_bringsBy_4 rfl rfl ?_
  refine g_aload_n hX dX6_bringsBy_5 rfl rfl ?_
  refine g_getR hX dX6_bringsBy_6 flX6_19 (by assumption) rfl (by first | assumption | rfl) (by assumption) ?_
  refine g_iload_n hX dX6_bringsBy_9 rfl rfl ?_
  refine g_iload_n hX dX6_bringsBy_10 rfl rfl ?_
  refine g_callV (md' := mX6_sitsDown) (ci := 6) (As := [.ref _, .int _, .int _]) hX hR dX6_bringsBy_11 clX6_174 okX6_sitsDown rfl (by assumption) rfl rfl (Nat.le_of_ble_eq_true rfl) (Nat.le_of_ble_eq_true rfl) ⟨Nat.le_of_ble_eq_true rfl, Nat.le_of_ble_eq_true rfl⟩ ?_
  refine sp_X6_sitsDown hMo k3 ?_
  simp only [up_same, up_up]
  change GW _ _ _ 14 _ _ _ _ _ _
  refine g_aload_n hX dX6_bringsBy_14 rfl rfl ?_
  refine g_getR hX dX6_bringsBy_15 flX6_19 (by assumption) rfl (by first | assumption | rfl) (by assumption) ?_
  refine g_bipush (v := nI 9) hX dX6_bringsBy_18 (by decide) ?_
  refine g_iload hX dX6_bringsBy_20 rfl ?_
  refine g_iastN hX dX6_bringsBy_22 (by assumption) (rfl) (by omega) (by first | decide | omega) ?_
  try simp (disch := decide) only [up_same, up_up, up_neD]
  refine g_aload_n hX dX6_bringsBy_23 rfl rfl ?_
  refine g_getR hX dX6_bringsBy_24 flX6_19 (by assumption) rfl (by first | assumption | rfl) (by assumption) ?_
  refine g_bipush (v := nI 17) hX dX6_bringsBy_27 (by decide) ?_
  refine g_iconst (v := nI 0) hX dX6_bringsBy_29 (by decide) ?_
  refine g_iastN hX dX6_bringsBy_30 (by assumption) (rfl) (by omega) (by first | decide | omega) ?_
  try simp (disch := decide) only [up_same, up_up, up_neD]
  refine g_iconst (v := nI 0) hX dX6_bringsBy_31 (by decide) ?_
  refine g_istore (lv' := [(5, .int _), (0, .ref _), (1, .int _), (2, .int _), (3, .int _), (4, .int _)]) hX dX6_bringsBy_32 (by decide) rfl ?_
  refine g_pick [0, 1, 2, 3, 4, 5] rfl ?_
  refine g_st ?_ (lp_X6_bringsBy_34 (s := brS (I (κ.2.1 m 2)) a b hh) (I := I) hM hMo hw (wfs_brS hw hs ha hb hab hh9) hc hq c 0 rfl (by omega))
  rfl
