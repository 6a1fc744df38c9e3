set_option maxHeartbeats 4000000 in
set_option maxRecDepth 100000 in
theorem sp_X6_canTell {Γ : Ga} {d : Nat} {κ : Kp} {I : Ip} {Q : Option Value → Kp → Ip → Prop} {m x t i : Nat} {b : Int32} (hMo : MoK κ m) (hx : κ.1 x = (8, 18)) (ht : t < 9) (hi : i < 6) (hq : Q (some (.int (b2i (canF (I (κ.2.1 m 0)) (I x) t i b)))) κ I) : Sp Γ (d + 1) mX6_canTell [.ref (m), .ref (x), .int (nI t), .int (nI i), .int (b)] κ I Q := by
  obtain ⟨hm, hm0, ⟨k0, n0⟩, ⟨k1, n1⟩, ⟨k2, n2⟩, ⟨k3, n3⟩, ⟨k4, n4⟩, ⟨k6, n6⟩, ⟨k8, n8⟩, ⟨k14, n14⟩, ⟨k15, n15⟩, ⟨k16, n16⟩, d01, d23, d614, d1516⟩ := id hMo
  intro X hM
  have hX := hM.std
  have hR := hM.room
  show GW _ mX6_canTell X 0 [(0, .ref (m)), (1, .ref (x)), (2, .int (nI t)), (3, .int (nI i)), (4, .int (b))] [] _ _ 0 0
  refine g_aload_n hX dX6_canTell_0 rfl rfl ?_
  refine g_iconst (v := nI 0) hX dX6_canTell_1 (by decide) ?_
  refine g_iload_n hX dX6_canTell_2 rfl rfl ?_
  refine g_iadd hX dX6_canTell_3 ?_
  refine g_ialdN hX dX6_canTell_4 (by assumption) (nI_z _) (by omega) (by first | decide | omega) ?_
  refine g_iload_n hX dX6_canTell_5 rfl rfl ?_
  refine g_callS (md' := mX6_has) (As := [.int _, .int _]) hX hR dX6_canTell_6 clX6_105 okX6_has rfl rfl (Nat.le_of_ble_eq_true rfl) (Nat.le_of_ble_eq_true rfl) ⟨Nat.le_of_ble_eq_true rfl, Nat.le_of_ble_eq_true rfl⟩ ?_
  refine sp_X6_has (by omega) ?_
  change GW _ _ _ 9 _ (.int _ :: _) _ _ _ _
  refine g_ifeq 53 hX dX6_canTell_9 (by decide) (fun c9 => ?_) (fun c9 => ?_)
  · first | (rw [b2i_n0] at c9) | (rw [b2i_0] at c9)
    refine g_iconst (v := nI 0) hX dX6_canTell_53 (by decide) ?_
    refine g_iret hM dX6_canTell_54 rfl (rfl) ⟨Nat.le_of_ble_eq_true rfl, Nat.le_of_ble_eq_true rfl⟩ ?_
    first | (refine q_t ?_ hq; simp [canF, *]; done) | (refine q_f ?_ hq; simp [canF, *]; done)
  · first | (rw [b2i_n0] at c9) | (rw [b2i_0] at c9)
    refine g_aload_n hX dX6_canTell_12 rfl rfl ?_
    refine g_getR hX dX6_canTell_13 flX6_7 (by assumption) rfl (by first | assumption | rfl) (by assumption) ?_
    refine g_iconst (v := nI 2) hX dX6_canTell_16 (by decide) ?_
    refine g_iload_n hX dX6_canTell_17 rfl rfl ?_
    refine g_iadd hX dX6_canTell_18 ?_
    refine g_ialdN hX dX6_canTell_19 (by assumption) (nI_add _ _) (by omega) (by first | decide | omega) ?_
    refine g_iconst (v := nI 1) hX dX6_canTell_20 (by decide) ?_
    refine g_icmpeq 53 hX dX6_canTell_21 (by decide) (fun c21 => ?_) (fun c21 => ?_)
    · refine g_iconst (v := nI 0) hX dX6_canTell_53 (by decide) ?_
      refine g_iret hM dX6_canTell_54 rfl (rfl) ⟨Nat.le_of_ble_eq_true rfl, Nat.le_of_ble_eq_true rfl⟩ ?_
      first | (refine q_t ?_ hq; simp [canF, *]; done) | (refine q_f ?_ hq; simp [canF, *]; done)
    · refine g_aload_n hX dX6_canTell_24 rfl rfl ?_
      refine g_bipush (v := nI 9) hX dX6_canTell_25 (by decide) ?_
      refine g_ialdN hX dX6_canTell_27 (by assumption) (rfl) (by omega) (by first | decide | omega) ?_
      refine g_iload_n hX dX6_canTell_28 rfl rfl ?_
      refine g_callS (md' := mX6_has) (As := [.int _, .int _]) hX hR dX6_canTell_29 clX6_105 okX6_has rfl rfl (Nat.le_of_ble_eq_true rfl) (Nat.le_of_ble_eq_true rfl) ⟨Nat.le_of_ble_eq_true rfl, Nat.le_of_ble_eq_true rfl⟩ ?_
      refine sp_X6_has (by omega) ?_
      change GW _ _ _ 32 _ (.int _ :: _) _ _ _ _
      refine g_ifne 53 hX dX6_canTell_32 (by decide) (fun c32 => ?_) (fun c32 => ?_)
      · first | (rw [b2i_n0] at c32) | (rw [b2i_0] at c32)
        refine g_iconst (v := nI 0) hX dX6_canTell_53 (by decide) ?_
        refine g_iret hM dX6_canTell_54 rfl (rfl) ⟨Nat.le_of_ble_eq_true rfl, Nat.le_of_ble_eq_true rfl⟩ ?_
        first | (refine q_t ?_ hq; simp [canF, *]; done) | (refine q_f ?_ hq; simp [canF, *]; done)
      · first | (rw [b2i_n0] at c32) | (rw [b2i_0] at c32)
        refine g_aload_n hX dX6_canTell_35 rfl rfl ?_
        refine g_getR hX dX6_canTell_36 flX6_7 (by assumption) rfl (by first | assumption | rfl) (by assumption) ?_
        refine g_bipush (v := nI 14) hX dX6_canTell_39 (by decide) ?_
        refine g_iload_n hX dX6_canTell_41 rfl rfl ?_
        refine g_iadd hX dX6_canTell_42 ?_
        refine g_ialdN hX dX6_canTell_43 (by assumption) (nI_add _ _) (by omega) (by first | decide | omega) ?_
        refine g_iload hX dX6_canTell_44 rfl ?_
        refine g_icmpeq 53 hX dX6_canTell_46 (by decide) (fun c46 => ?_) (fun c46 => ?_)
        · refine g_iconst (v := nI 0) hX dX6_canTell_53 (by decide) ?_
          refine g_iret hM dX6_canTell_54 rfl (rfl) ⟨Nat.le_of_ble_eq_true rfl, Nat.le_of_ble_eq_true rfl⟩ ?_
          first | (refine q_t ?_ hq; simp [canF, *]; done) | (refine q_f ?_ hq; simp [canF, *]; done)
        · refine g_iconst (v := nI 1) hX dX6_canTell_49 (by decide) ?_
          refine g_goto 54 hX dX6_canTell_50 (by decide) ?_
          refine g_iret hM dX6_canTell_54 rfl (rfl) ⟨Nat.le_of_ble_eq_true rfl, Nat.le_of_ble_eq_true rfl⟩ ?_
          first | (refine q_t ?_ hq; simp [canF, *]; done) | (refine q_f ?_ hq; simp [canF, *]; done)

set_option maxHeartbeats 4000000 in
set_option maxRecDepth 100000 in
theorem lp_X6_tellable_6 {Γ : Ga} {d : Nat} {κ : Kp} {Q : Option Value → Kp → Ip → Prop} {X : Cx} {I : Ip} {m x i T : Nat} {b told : Int32} (hM : Mx Γ (d + 2) mX6_tellable Q X) (hMo : MoK κ m) (hx : κ.1 x = (8, 18)) (hw1 : I (κ.2.1 m 0) 1 = nI T) (hT : T ≤ 9) (hi : i < 6) (hq : Q (some (.int (tellF (I (κ.2.1 m 0)) (I x) T i b told))) κ I) : ∀ (n : Nat) (k : Nat), n = T - k → k ≤ T → GW Γ mX6_tellable X 6 [(6, .int (nI k)), (5, .int (bsum k (fun t => canF (I (κ.2.1 m 0)) (I x) t i b && !bt told t))), (0, .ref (m)), (1, .ref (x)), (2, .int (nI i)), (3, .int (b)), (4, .int (told))] [] κ (I) 0 0 := by
  have hX := hM.std
  have hR := hM.room
  intro n
  induction n using Nat.strongRecOn with
  | ind n ih =>
    intro k hn hk
    obtain ⟨hm, hm0, ⟨k0, n0⟩, ⟨k1, n1⟩, ⟨k2, n2⟩, ⟨k3, n3⟩, ⟨k4, n4⟩, ⟨k6, n6⟩, ⟨k8, n8⟩, ⟨k14, n14⟩, ⟨k15, n15⟩, ⟨k16, n16⟩, d01, d23, d614, d1516⟩ := id hMo
    refine g_iload hX dX6_tellable_6 rfl ?_
    refine g_aload_n hX dX6_tellable_8 rfl rfl ?_
    refine g_getR hX dX6_tellable_9 flX6_7 (by assumption) rfl (by first | assumption | rfl) (by assumption) ?_
    refine g_iconst (v := nI 1) hX dX6_tellable_12 (by decide) ?_
    refine g_ialdN hX dX6_tellable_13 (by assumption) (rfl) (by omega) (by first | decide | omega) ?_
    refine g_icmpge 58 hX dX6_tellable_14 (by decide) (fun c14 => ?_) (fun c14 => ?_)
    · rw [hw1, nI_leI (by omega) (by omega)] at c14
      refine g_iload hX dX6_tellable_58 rfl ?_
      refine g_iret hM dX6_tellable_60 rfl (rfl) ⟨Nat.le_of_ble_eq_true rfl, Nat.le_of_ble_eq_true rfl⟩ ?_
      have e : k = T := by omega
      subst e
      exact hq
    · rw [hw1, nI_leI (by omega) (by omega)] at c14
      refine g_iload hX dX6_tellable_17 rfl ?_
      refine g_aload_n hX dX6_tellable_19 rfl rfl ?_
      refine g_aload_n hX dX6_tellable_20 rfl rfl ?_
      refine g_iload hX dX6_tellable_21 rfl ?_
      refine g_iload_n hX dX6_tellable_23 rfl rfl ?_
      refine g_iload_n hX dX6_tellable_24 rfl rfl ?_
      refine g_callV (md' := mX6_canTell) (ci := 6) (As := [.ref _, .int _, .int _, .int _]) hX hR dX6_tellable_25 clX6_142 okX6_canTell rfl (by assumption) rfl rfl (Nat.le_of_ble_eq_true rfl) (Nat.le_of_ble_eq_true rfl) ⟨Nat.le_of_ble_eq_true rfl, Nat.le_of_ble_eq_true rfl⟩ ?_
      refine sp_X6_canTell hMo hx (by omega) (by omega) ?_
      change GW _ _ _ 28 _ (.int _ :: _) _ _ _ _
      refine g_ifeq 48 hX dX6_tellable_28 (by decide) (fun c28 => ?_) (fun c28 => ?_)
      · first | (rw [b2i_n0] at c28) | (rw [b2i_0] at c28)
        refine g_iconst (v := nI 0) hX dX6_tellable_48 (by decide) ?_
        refine g_ior hX dX6_tellable_49 ?_
        refine g_istore (lv' := [(5, .int _), (6, .int _), (0, .ref _), (1, .ref _), (2, .int _), (3, .int _), (4, .int _)]) hX dX6_tellable_50 (by decide) rfl ?_
        refine g_iinc (lv' := [(6, .int _), (5, .int _), (0, .ref _), (1, .ref _), (2, .int _), (3, .int _), (4, .int _)]) hX dX6_tellable_52 rfl (by first | exact nI_inc _ | rfl) (by decide) rfl ?_
        refine g_goto 6 hX dX6_tellable_55 (by decide) ?_
        refine g_pick [0, 1, 2, 3, 4, 5, 6] rfl ?_
        have := ih (T - (k + 1)) (by omega) (k + 1) rfl (by omega)
        rw [bsum] at this
        first | (rw [if_pos (by simp [*])] at this; exact this) | (rw [if_neg (by simp [*])] at this; exact this)
      · first | (rw [b2i_n0] at c28) | (rw [b2i_0] at c28)
        refine g_iload hX dX6_tellable_31 rfl ?_
        refine g_iload hX dX6_tellable_33 rfl ?_
        refine g_callS (md' := mX6_has) (As := [.int _, .int _]) hX hR dX6_tellable_35 clX6_105 okX6_has rfl rfl (Nat.le_of_ble_eq_true rfl) (Nat.le_of_ble_eq_true rfl) ⟨Nat.le_of_ble_eq_true rfl, Nat.le_of_ble_eq_true rfl⟩ ?_
        refine sp_X6_has (by omega) ?_
        change GW _ _ _ 38 _ (.int _ :: _) _ _ _ _
        refine g_ifne 48 hX dX6_tellable_38 (by decide) (fun c38 => ?_) (fun c38 => ?_)
        · first | (rw [b2i_n0] at c38) | (rw [b2i_0] at c38)
          refine g_iconst (v := nI 0) hX dX6_tellable_48 (by decide) ?_
          refine g_ior hX dX6_tellable_49 ?_
          refine g_istore (lv' := [(5, .int _), (6, .int _), (0, .ref _), (1, .ref _), (2, .int _), (3, .int _), (4, .int _)]) hX dX6_tellable_50 (by decide) rfl ?_
          refine g_iinc (lv' := [(6, .int _), (5, .int _), (0, .ref _), (1, .ref _), (2, .int _), (3, .int _), (4, .int _)]) hX dX6_tellable_52 rfl (by first | exact nI_inc _ | rfl) (by decide) rfl ?_
          refine g_goto 6 hX dX6_tellable_55 (by decide) ?_
          refine g_pick [0, 1, 2, 3, 4, 5, 6] rfl ?_
          have := ih (T - (k + 1)) (by omega) (k + 1) rfl (by omega)
          rw [bsum] at this
          first | (rw [if_pos (by simp [*])] at this; exact this) | (rw [if_neg (by simp [*])] at this; exact this)
        · first | (rw [b2i_n0] at c38) | (rw [b2i_0] at c38)
          refine g_iconst (v := nI 1) hX dX6_tellable_41 (by decide) ?_
          refine g_iload hX dX6_tellable_42 rfl ?_
          refine g_ishl hX dX6_tellable_44 ?_
          refine g_goto 49 hX dX6_tellable_45 (by decide) ?_
          refine g_ior hX dX6_tellable_49 ?_
          refine g_istore (lv' := [(5, .int _), (6, .int _), (0, .ref _), (1, .ref _), (2, .int _), (3, .int _), (4, .int _)]) hX dX6_tellable_50 (by decide) rfl ?_
          refine g_iinc (lv' := [(6, .int _), (5, .int _), (0, .ref _), (1, .ref _), (2, .int _), (3, .int _), (4, .int _)]) hX dX6_tellable_52 rfl (by first | exact nI_inc _ | rfl) (by decide) rfl ?_
          refine g_goto 6 hX dX6_tellable_55 (by decide) ?_
          refine g_pick [0, 1, 2, 3, 4, 5, 6] rfl ?_
          have := ih (T - (k + 1)) (by omega) (k + 1) rfl (by omega)
          rw [bsum] at this
          first | (rw [if_pos (by simp [*])] at this; exact this) | (rw [if_neg (by simp [*])] at this; exact this)

set_option maxHeartbeats 4000000 in
set_option maxRecDepth 100000 in
theorem sp_X6_tellable {Γ : Ga} {d : Nat} {κ : Kp} {I : Ip} {Q : Option Value → Kp → Ip → Prop} {m x i T : Nat} {b told : Int32} (hMo : MoK κ m) (hx : κ.1 x = (8, 18)) (hw1 : I (κ.2.1 m 0) 1 = nI T) (hT : T ≤ 9) (hi : i < 6) (hq : Q (some (.int (tellF (I (κ.2.1 m 0)) (I x) T i b told))) κ I) : Sp Γ (d + 2) mX6_tellable [.ref (m), .ref (x), .int (nI i), .int (b), .int (told)] κ I Q := by
  obtain ⟨hm, hm0, ⟨k0, n0⟩, ⟨k1, n1⟩, ⟨k2, n2⟩, ⟨k3, n3⟩, ⟨k4, n4⟩, ⟨k6, n6⟩, ⟨k8, n8⟩, ⟨k14, n14⟩, ⟨k15, n15⟩, ⟨k16, n16⟩, d01, d23, d614, d1516⟩ := id hMo
  intro X hM
  have hX := hM.std
  have hR := hM.room
  show GW _ mX6_tellable X 0 [(0, .ref (m)), (1, .ref (x)), (2, .int (nI i)), (3, .int (b)), (4, .int (told))] [] _ _ 0 0
  refine g_iconst (v := nI 0) hX dX6_tellable_0 (by decide) ?_
  refine g_istore (lv' := [(5, .int _), (0, .ref _), (1, .ref _), (2, .int _), (3, .int _), (4, .int _)]) hX dX6_tellable_1 (by decide) rfl ?_
  refine g_iconst (v := nI 0) hX dX6_tellable_3 (by decide) ?_
  refine g_istore (lv' := [(6, .int _), (5, .int _), (0, .ref _), (1, .ref _), (2, .int _), (3, .int _), (4, .int _)]) hX dX6_tellable_4 (by decide) rfl ?_
  exact g_pick [0, 1, 2, 3, 4, 5, 6] rfl (lp_X6_tellable_6 hM hMo hx hw1 hT hi hq T 0 rfl (by omega))

set_option maxHeartbeats 4000000 in
set_option maxRecDepth 100000 in
theorem lp_X6_lowest_2 {Γ : Ga} {d : Nat} {κ : Kp} {Q : Option Value → Kp → Ip → Prop} {X : Cx} {x : Int32} {I : Ip} {j : Nat} (hM : Mx Γ (d + 1) mX6_lowest Q X) (hj : j < 32) (h1 : bt x j = true) (h2 : ∀ i, i < j → bt x i = false) (hq : Q (some (.int (nI j))) κ I) : ∀ (n : Nat) (k : Nat), n = j - k → k ≤ j → GW Γ mX6_lowest X 2 [(1, .int (nI k)), (0, .int (x))] [] κ (I) 0 0 := by
  have hX := hM.std
  have hR := hM.room
  intro n
  induction n using Nat.strongRecOn with
  | ind n ih =>
    intro k hn hk
    refine g_iload_n hX dX6_lowest_2 rfl rfl ?_
    refine g_iload_n hX dX6_lowest_3 rfl rfl ?_
    refine g_callS (md' := mX6_has) (As := [.int _, .int _]) hX hR dX6_lowest_4 clX6_105 okX6_has rfl rfl (Nat.le_of_ble_eq_true rfl) (Nat.le_of_ble_eq_true rfl) ⟨Nat.le_of_ble_eq_true rfl, Nat.le_of_ble_eq_true rfl⟩ ?_
    refine sp_X6_has (by omega) ?_
    change GW _ _ _ 7 _ (.int _ :: _) _ _ _ _
    refine g_ifne 16 hX dX6_lowest_7 (by decide) (fun c7 => ?_) (fun c7 => ?_)
    · first | (rw [b2i_n0] at c7) | (rw [b2i_0] at c7)
      refine g_iload_n hX dX6_lowest_16 rfl rfl ?_
      refine g_iret hM dX6_lowest_17 rfl (rfl) ⟨Nat.le_of_ble_eq_true rfl, Nat.le_of_ble_eq_true rfl⟩ ?_
      have e : k = j := by
        rcases Nat.lt_or_ge k j with h | h
        · have h3 := h2 k h
          rw [c7] at h3
          cases h3
        · omega
      subst e
      exact hq
    · first | (rw [b2i_n0] at c7) | (rw [b2i_0] at c7)
      refine g_iinc (lv' := [(1, .int _), (0, .int _)]) hX dX6_lowest_10 rfl (by first | exact nI_inc _ | rfl) (by decide) rfl ?_
      refine g_goto 2 hX dX6_lowest_13 (by decide) ?_
      have hkj : k ≠ j := fun e => by rw [e, h1] at c7; cases c7
      exact g_pick [0, 1] rfl (ih (j - (k + 1)) (by omega) (k + 1) rfl (by omega))

set_option maxHeartbeats 4000000 in
set_option maxRecDepth 100000 in
theorem sp_X6_lowest {Γ : Ga} {d : Nat} {κ : Kp} {I : Ip} {Q : Option Value → Kp → Ip → Prop} {x : Int32} (hx : ¬ x = 0) (hq : Q (some (.int (nI (lowN x)))) κ I) : Sp Γ (d + 1) mX6_lowest [.int (x)] κ I Q := by
  intro X hM
  have hX := hM.std
  have hR := hM.room
  show GW _ mX6_lowest X 0 [(0, .int (x))] [] _ _ 0 0
  refine g_iconst (v := nI 0) hX dX6_lowest_0 (by decide) ?_
  refine g_istore_n (lv' := [(1, .int _), (0, .int _)]) hX dX6_lowest_1 rfl (by decide) rfl ?_
  exact g_pick [0, 1] rfl (lp_X6_lowest_2 hM (lowN_spec hx).1 (lowN_spec hx).2.1 (lowN_spec hx).2.2 hq (lowN x) 0 (Nat.sub_zero _).symm (Nat.zero_le _))

set_option maxHeartbeats 4000000 in
set_option maxRecDepth 100000 in
theorem sp_X6_otherOf {Γ : Ga} {d : Nat} {κ : Kp} {I : Ip} {Q : Option Value → Kp → Ip → Prop} {x : Nat} {b : Int32} (hx : κ.1 x = (8, 18)) (hq : Q (some (.int (otherF (I x) b))) κ I) : Sp Γ d mX6_otherOf [.ref (x), .int (b)] κ I Q := by
  intro X hM
  have hX := hM.std
  show GW _ mX6_otherOf X 0 [(0, .ref (x)), (1, .int (b))] [] _ _ 0 0
  refine g_aload_n hX dX6_otherOf_0 rfl rfl ?_
  refine g_bipush (v := nI 10) hX dX6_otherOf_1 (by decide) ?_
  refine g_ialdN hX dX6_otherOf_3 (by assumption) (rfl) (by omega) (by first | decide | omega) ?_
  refine g_iload_n hX dX6_otherOf_4 rfl rfl ?_
  refine g_icmpne 15 hX dX6_otherOf_5 (by decide) (fun c5 => ?_) (fun c5 => ?_)
  · refine g_aload_n hX dX6_otherOf_15 rfl rfl ?_
    refine g_bipush (v := nI 10) hX dX6_otherOf_16 (by decide) ?_
    refine g_ialdN hX dX6_otherOf_18 (by assumption) (rfl) (by omega) (by first | decide | omega) ?_
    refine g_iret hM dX6_otherOf_19 rfl (rfl) ⟨Nat.le_of_ble_eq_true rfl, Nat.le_of_ble_eq_true rfl⟩ ?_
    refine q_int ?_ hq
    simp [otherF, *]
  · refine g_aload_n hX dX6_otherOf_8 rfl rfl ?_
    refine g_bipush (v := nI 11) hX dX6_otherOf_9 (by decide) ?_
    refine g_ialdN hX dX6_otherOf_11 (by assumption) (rfl) (by omega) (by first | decide | omega) ?_
    refine g_goto 19 hX dX6_otherOf_12 (by decide) ?_
    refine g_iret hM dX6_otherOf_19 rfl (rfl) ⟨Nat.le_of_ble_eq_true rfl, Nat.le_of_ble_eq_true rfl⟩ ?_
    refine q_int ?_ hq
    simp [otherF, *]
