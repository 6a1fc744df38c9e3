set_option maxHeartbeats 4000000 in
set_option maxRecDepth 100000 in
theorem sp_X4_addPerson {Γ : Ga} {d : Nat} {κ : Kp} {I : Ip} {Q : Option Value → Kp → Ip → Prop} {tw P T : Nat} {r : Nat → Int32} {x : Int32} (hL : TwL κ tw) (hTR : TwR κ I tw r P T) (hw : WfT r P T) (h8 : ∀ p, P ≤ p → p < 6 → r (8 + p) = 0) (hq0 : ¬ (P < 6 ∧ inR 0 3 x) → Q (some (.int (b2i false))) κ I) (hq : (P < 6 ∧ inR 0 3 x) → ∀ J : Ip, TwR κ J tw (adP r P x) (P + 1) T → TwF κ tw I J → Q (some (.int (b2i true))) κ J) : Sp Γ (d + 1) mX4_addPerson [.ref (tw), .int (x)] κ I Q := by
  have hTw := hL.1
  obtain ⟨ht, ht0, ⟨t2, u2⟩, ⟨t3, u3⟩, ⟨t4, u4⟩, ⟨t5, u5⟩, ⟨t6, u6⟩, ⟨t7, u7⟩, ⟨t8, u8⟩⟩ := id hTw
  obtain ⟨r0, r1, -⟩ := id hTR
  obtain ⟨hw0, hw1, hP, hT, -⟩ := id hw
  intro X hM
  have hX := hM.std
  have hR := hM.room
  show GW _ mX4_addPerson X 0 [(0, .ref (tw)), (1, .int (x))] [] _ _ 0 0
  refine g_aload_n hX dX4_addPerson_0 rfl rfl ?_
  refine g_getI hX dX4_addPerson_1 flX4_33 (by assumption) rfl ?_
  try simp (disch := first | exact hL.ne (by decide) (by decide) (by decide) | exact hL.n0 (by decide) | exact (hL.n0 (by decide)).symm | decide) only [up_same, up_up, up_neD]
  refine g_bipush (v := nI 6) hX dX4_addPerson_4 (by decide) ?_
  refine g_icmpge 18 hX dX4_addPerson_6 (by decide) (fun c6 => ?_) (fun c6 => ?_)
  · rw [r0, nI_leI (by omega) (by omega)] at c6
    refine g_iconst (v := nI 0) hX dX4_addPerson_18 (by decide) ?_
    refine g_iret hM dX4_addPerson_19 rfl (rfl) ⟨Nat.le_of_ble_eq_true rfl, Nat.le_of_ble_eq_true rfl⟩ ?_
    exact q_f rfl (hq0 (fun e => absurd e.1 (by omega)))
  · rw [r0, nI_leI (by omega) (by omega)] at c6
    refine g_iload_n hX dX4_addPerson_9 rfl rfl ?_
    refine g_iconst (v := nI 0) hX dX4_addPerson_10 (by decide) ?_
    refine g_iconst (v := nI 3) hX dX4_addPerson_11 (by decide) ?_
    refine g_callS (md' := mX5_isWithin) (As := [.int _, .int _, .int _]) hX hR dX4_addPerson_12 clX4_40 okX5_isWithin rfl rfl (Nat.le_of_ble_eq_true rfl) (Nat.le_of_ble_eq_true rfl) ⟨Nat.le_of_ble_eq_true rfl, Nat.le_of_ble_eq_true rfl⟩ ?_
    refine sp_X5_isWithin (lo := 0) (hi := 3) (by decide) (by decide) ?_
    change GW _ _ _ 15 _ [.int _] _ _ 0 0
    refine g_ifne 20 hX dX4_addPerson_15 (by decide) (fun c15 => ?_) (fun c15 => ?_)
    · rw [b2i_n0, decide_eq_true_eq] at c15
      refine g_aload_n hX dX4_addPerson_20 rfl rfl ?_
      refine g_getR hX dX4_addPerson_21 flX4_9 (by assumption) rfl (by first | assumption | rfl) (by assumption) ?_
      refine g_aload_n hX dX4_addPerson_24 rfl rfl ?_
      refine g_getI hX dX4_addPerson_25 flX4_33 (by assumption) rfl ?_
      try simp (disch := first | exact hL.ne (by decide) (by decide) (by decide) | exact hL.n0 (by decide) | exact (hL.n0 (by decide)).symm | decide) only [up_same, up_up, up_neD]
      refine g_iload_n hX dX4_addPerson_28 rfl rfl ?_
      refine g_callS (md' := mX5_put) (As := [.ref _, .int _, .int _]) hX hR dX4_addPerson_29 clX4_44 okX5_put rfl rfl (Nat.le_of_ble_eq_true rfl) (Nat.le_of_ble_eq_true rfl) ⟨Nat.le_of_ble_eq_true rfl, Nat.le_of_ble_eq_true rfl⟩ ?_
      rw [r0]
      refine sp_X5_put (by assumption) (by decide) (by omega) ?_
      change GW _ _ _ 32 _ [] _ _ 0 0
      refine g_aload_n hX dX4_addPerson_32 rfl rfl ?_
      refine g_getR hX dX4_addPerson_33 flX4_15 (by assumption) rfl (by first | assumption | rfl) (by assumption) ?_
      refine g_aload_n hX dX4_addPerson_36 rfl rfl ?_
      refine g_getI hX dX4_addPerson_37 flX4_33 (by assumption) rfl ?_
      try simp (disch := first | exact hL.ne (by decide) (by decide) (by decide) | exact hL.n0 (by decide) | exact (hL.n0 (by decide)).symm | decide) only [up_same, up_up, up_neD]
      refine g_iconst (v := nI 0) hX dX4_addPerson_40 (by decide) ?_
      refine g_callS (md' := mX5_put) (As := [.ref _, .int _, .int _]) hX hR dX4_addPerson_41 clX4_44 okX5_put rfl rfl (Nat.le_of_ble_eq_true rfl) (Nat.le_of_ble_eq_true rfl) ⟨Nat.le_of_ble_eq_true rfl, Nat.le_of_ble_eq_true rfl⟩ ?_
      try simp (disch := first | exact hL.ne (by decide) (by decide) (by decide) | exact hL.n0 (by decide) | exact (hL.n0 (by decide)).symm | decide) only [up_same, up_up, up_neD]
      rw [r0]
      refine sp_X5_put (by assumption) (by decide) (by omega) ?_
      change GW _ _ _ 44 _ [] _ _ 0 0
      refine g_aload_n hX dX4_addPerson_44 rfl rfl ?_
      refine g_getR hX dX4_addPerson_45 flX4_18 (by assumption) rfl (by first | assumption | rfl) (by assumption) ?_
      refine g_aload_n hX dX4_addPerson_48 rfl rfl ?_
      refine g_getI hX dX4_addPerson_49 flX4_33 (by assumption) rfl ?_
      try simp (disch := first | exact hL.ne (by decide) (by decide) (by decide) | exact hL.n0 (by decide) | exact (hL.n0 (by decide)).symm | decide) only [up_same, up_up, up_neD]
      refine g_iconst (v := nI 0) hX dX4_addPerson_52 (by decide) ?_
      refine g_callS (md' := mX5_put) (As := [.ref _, .int _, .int _]) hX hR dX4_addPerson_53 clX4_44 okX5_put rfl rfl (Nat.le_of_ble_eq_true rfl) (Nat.le_of_ble_eq_true rfl) ⟨Nat.le_of_ble_eq_true rfl, Nat.le_of_ble_eq_true rfl⟩ ?_
      try simp (disch := first | exact hL.ne (by decide) (by decide) (by decide) | exact hL.n0 (by decide) | exact (hL.n0 (by decide)).symm | decide) only [up_same, up_up, up_neD]
      rw [r0]
      refine sp_X5_put (by assumption) (by decide) (by omega) ?_
      change GW _ _ _ 56 _ [] _ _ 0 0
      refine g_aload_n hX dX4_addPerson_56 rfl rfl ?_
      refine g_getR hX dX4_addPerson_57 flX4_21 (by assumption) rfl (by first | assumption | rfl) (by assumption) ?_
      refine g_aload_n hX dX4_addPerson_60 rfl rfl ?_
      refine g_getI hX dX4_addPerson_61 flX4_33 (by assumption) rfl ?_
      try simp (disch := first | exact hL.ne (by decide) (by decide) (by decide) | exact hL.n0 (by decide) | exact (hL.n0 (by decide)).symm | decide) only [up_same, up_up, up_neD]
      refine g_iconst (v := nI 0) hX dX4_addPerson_64 (by decide) ?_
      refine g_callS (md' := mX5_put) (As := [.ref _, .int _, .int _]) hX hR dX4_addPerson_65 clX4_44 okX5_put rfl rfl (Nat.le_of_ble_eq_true rfl) (Nat.le_of_ble_eq_true rfl) ⟨Nat.le_of_ble_eq_true rfl, Nat.le_of_ble_eq_true rfl⟩ ?_
      try simp (disch := first | exact hL.ne (by decide) (by decide) (by decide) | exact hL.n0 (by decide) | exact (hL.n0 (by decide)).symm | decide) only [up_same, up_up, up_neD]
      rw [r0]
      refine sp_X5_put (by assumption) (by decide) (by omega) ?_
      change GW _ _ _ 68 _ [] _ _ 0 0
      refine g_aload_n hX dX4_addPerson_68 rfl rfl ?_
      refine g_dup hX dX4_addPerson_69 rfl ?_
      refine g_getI hX dX4_addPerson_70 flX4_33 (by assumption) rfl ?_
      try simp (disch := first | exact hL.ne (by decide) (by decide) (by decide) | exact hL.n0 (by decide) | exact (hL.n0 (by decide)).symm | decide) only [up_same, up_up, up_neD]
      try simp (disch := first | exact hL.ne (by decide) (by decide) (by decide) | exact hL.n0 (by decide) | exact (hL.n0 (by decide)).symm | decide) only [up_same, up_up, up_neD]
      rw [r0]
      refine g_iconst (v := nI 1) hX dX4_addPerson_73 (by decide) ?_
      refine g_iadd hX dX4_addPerson_74 ?_
      rw [nI_add]
      refine g_putI hX dX4_addPerson_75 flX4_33 (by assumption) rfl rfl ?_
      try simp (disch := first | exact hL.ne (by decide) (by decide) (by decide) | exact hL.n0 (by decide) | exact (hL.n0 (by decide)).symm | decide) only [up_same, up_up, up_neD]
      refine g_iconst (v := nI 1) hX dX4_addPerson_78 (by decide) ?_
      refine g_iret hM dX4_addPerson_79 rfl (rfl) ⟨Nat.le_of_ble_eq_true rfl, Nat.le_of_ble_eq_true rfl⟩ ?_
      refine q_t rfl (hq ⟨by omega, c15⟩ _ (tw_adP hTR hw h8 (by omega) ?_ ?_ ?_ ?_ ?_ ?_ ?_ ?_ ?_) (fun a a1 a2 => ?_))
      iterate 9 (simp (disch := first | exact hL.ne (by decide) (by decide) (by decide) | exact hL.n0 (by decide) | exact (hL.n0 (by decide)).symm | decide) only [up_same, up_up, up_neD])
      rw [up_ne _ _ a1, up_ne _ _ (a2 5 (by decide) (by decide)), up_ne _ _ (a2 4 (by decide) (by decide)), up_ne _ _ (a2 3 (by decide) (by decide)), up_ne _ _ (a2 2 (by decide) (by decide))]
    · rw [b2i_0, decide_eq_false_iff_not] at c15
      refine g_iconst (v := nI 0) hX dX4_addPerson_18 (by decide) ?_
      refine g_iret hM dX4_addPerson_19 rfl (rfl) ⟨Nat.le_of_ble_eq_true rfl, Nat.le_of_ble_eq_true rfl⟩ ?_
      exact q_f rfl (hq0 (fun e => c15 e.2))

set_option maxHeartbeats 4000000 in
set_option maxRecDepth 100000 in
theorem sp_X4_addFriends {Γ : Ga} {d : Nat} {κ : Kp} {I : Ip} {Q : Option Value → Kp → Ip → Prop} {tw P T : Nat} {r : Nat → Int32} {x y : Int32} (hL : TwL κ tw) (hTR : TwR κ I tw r P T) (hw : WfT r P T) (hq0 : ¬ (inN P x ∧ inN P y ∧ ¬ x = y) → Q (some (.int (b2i false))) κ I) (hq : (inN P x ∧ inN P y ∧ ¬ x = y) → ∀ J : Ip, TwR κ J tw (adF r x.toNatClampNeg y.toNatClampNeg) P T → TwF κ tw I J → Q (some (.int (b2i true))) κ J) : Sp Γ (d + 2) mX4_addFriends [.ref (tw), .int (x), .int (y)] κ I Q := by
  have hTw := hL.1
  obtain ⟨ht, ht0, ⟨t2, u2⟩, ⟨t3, u3⟩, ⟨t4, u4⟩, ⟨t5, u5⟩, ⟨t6, u6⟩, ⟨t7, u7⟩, ⟨t8, u8⟩⟩ := id hTw
  obtain ⟨r0, r1, r2, r3, -⟩ := id hTR
  obtain ⟨hw0, hw1, hP, hT, -⟩ := id hw
  intro X hM
  have hX := hM.std
  have hR := hM.room
  show GW _ mX4_addFriends X 0 [(0, .ref (tw)), (1, .int (x)), (2, .int (y))] [] _ _ 0 0
  refine g_aload_n hX dX4_addFriends_0 rfl rfl ?_
  refine g_iload_n hX dX4_addFriends_1 rfl rfl ?_
  refine g_callV (md' := mX4_hasPerson) (ci := 4) (As := [.int _]) hX hR dX4_addFriends_2 clX4_48 okX4_hasPerson rfl (by assumption) rfl rfl (Nat.le_of_ble_eq_true rfl) (Nat.le_of_ble_eq_true rfl) ⟨Nat.le_of_ble_eq_true rfl, Nat.le_of_ble_eq_true rfl⟩ ?_
  refine sp_X4_hasPerson hTw r0 (by omega) ?_
  change GW _ _ _ 5 _ [.int _] _ _ 0 0
  refine g_ifeq 21 hX dX4_addFriends_5 (by decide) (fun c5 => ?_) (fun c5 => ?_)
  · rw [b2i_0, decide_eq_false_iff_not] at c5
    refine g_iconst (v := nI 0) hX dX4_addFriends_21 (by decide) ?_
    refine g_iret hM dX4_addFriends_22 rfl (rfl) ⟨Nat.le_of_ble_eq_true rfl, Nat.le_of_ble_eq_true rfl⟩ ?_
    exact q_f rfl (hq0 (fun e => c5 e.1))
  · rw [b2i_n0, decide_eq_true_eq] at c5
    refine g_aload_n hX dX4_addFriends_8 rfl rfl ?_
    refine g_iload_n hX dX4_addFriends_9 rfl rfl ?_
    refine g_callV (md' := mX4_hasPerson) (ci := 4) (As := [.int _]) hX hR dX4_addFriends_10 clX4_48 okX4_hasPerson rfl (by assumption) rfl rfl (Nat.le_of_ble_eq_true rfl) (Nat.le_of_ble_eq_true rfl) ⟨Nat.le_of_ble_eq_true rfl, Nat.le_of_ble_eq_true rfl⟩ ?_
    refine sp_X4_hasPerson hTw r0 (by omega) ?_
    change GW _ _ _ 13 _ [.int _] _ _ 0 0
    refine g_ifeq 21 hX dX4_addFriends_13 (by decide) (fun c13 => ?_) (fun c13 => ?_)
    · rw [b2i_0, decide_eq_false_iff_not] at c13
      refine g_iconst (v := nI 0) hX dX4_addFriends_21 (by decide) ?_
      refine g_iret hM dX4_addFriends_22 rfl (rfl) ⟨Nat.le_of_ble_eq_true rfl, Nat.le_of_ble_eq_true rfl⟩ ?_
      exact q_f rfl (hq0 (fun e => c13 e.2.1))
    · rw [b2i_n0, decide_eq_true_eq] at c13
      refine g_iload_n hX dX4_addFriends_16 rfl rfl ?_
      refine g_iload_n hX dX4_addFriends_17 rfl rfl ?_
      refine g_icmpne 23 hX dX4_addFriends_18 (by decide) (fun c18 => ?_) (fun c18 => ?_)
      · obtain ⟨i, hi, rfl⟩ := inN_of c5
        obtain ⟨j, hj, rfl⟩ := inN_of c13
        have hij : i ≠ j := fun e => c18 (by rw [e])
        refine g_aload_n hX dX4_addFriends_23 rfl rfl ?_
        refine g_getR hX dX4_addFriends_24 flX4_15 (by assumption) rfl (by first | assumption | rfl) (by assumption) ?_
        refine g_iload_n hX dX4_addFriends_27 rfl rfl ?_
        refine g_aload_n hX dX4_addFriends_28 rfl rfl ?_
        refine g_iload_n hX dX4_addFriends_29 rfl rfl ?_
        refine g_callV (md' := mX4_friendsOf) (ci := 4) (As := [.int _]) hX hR dX4_addFriends_30 clX4_52 okX4_friendsOf rfl (by assumption) rfl rfl (Nat.le_of_ble_eq_true rfl) (Nat.le_of_ble_eq_true rfl) ⟨Nat.le_of_ble_eq_true rfl, Nat.le_of_ble_eq_true rfl⟩ ?_
        refine sp_X4_friendsOf hTw ?_
        rw [atV_in (by omega) (by decide), r3 i hi]
        change GW _ _ _ 33 _ [.int _, .int _, .ref _] _ _ 0 0
        refine g_iload_n hX dX4_addFriends_33 rfl rfl ?_
        refine g_callS (md' := mX5_bit) (As := [.int _]) hX hR dX4_addFriends_34 clX4_56 okX5_bit rfl rfl (Nat.le_of_ble_eq_true rfl) (Nat.le_of_ble_eq_true rfl) ⟨Nat.le_of_ble_eq_true rfl, Nat.le_of_ble_eq_true rfl⟩ ?_
        refine sp_X5_bit ?_
        change GW _ _ _ 37 _ [.int _, .int _, .int _, .ref _] _ _ 0 0
        refine g_ior hX dX4_addFriends_37 ?_
        refine g_callS (md' := mX5_put) (As := [.ref _, .int _, .int _]) hX hR dX4_addFriends_38 clX4_44 okX5_put rfl rfl (Nat.le_of_ble_eq_true rfl) (Nat.le_of_ble_eq_true rfl) ⟨Nat.le_of_ble_eq_true rfl, Nat.le_of_ble_eq_true rfl⟩ ?_
        rw [bitI_nI]
        refine sp_X5_put (by assumption) (by decide) (by omega) ?_
        change GW _ _ _ 41 _ [] _ _ 0 0
        refine g_aload_n hX dX4_addFriends_41 rfl rfl ?_
        refine g_getR hX dX4_addFriends_42 flX4_15 (by assumption) rfl (by first | assumption | rfl) (by assumption) ?_
        refine g_iload_n hX dX4_addFriends_45 rfl rfl ?_
        refine g_aload_n hX dX4_addFriends_46 rfl rfl ?_
        refine g_iload_n hX dX4_addFriends_47 rfl rfl ?_
        refine g_callV (md' := mX4_friendsOf) (ci := 4) (As := [.int _]) hX hR dX4_addFriends_48 clX4_52 okX4_friendsOf rfl (by assumption) rfl rfl (Nat.le_of_ble_eq_true rfl) (Nat.le_of_ble_eq_true rfl) ⟨Nat.le_of_ble_eq_true rfl, Nat.le_of_ble_eq_true rfl⟩ ?_
        refine sp_X4_friendsOf hTw ?_
        try simp (disch := first | exact hL.ne (by decide) (by decide) (by decide) | exact hL.n0 (by decide) | exact (hL.n0 (by decide)).symm | decide) only [up_same, up_up, up_neD]
        rw [atV_in (by omega) (by decide), up_ne _ _ (Ne.symm hij), r3 j hj]
        change GW _ _ _ 51 _ [.int _, .int _, .ref _] _ _ 0 0
        refine g_iload_n hX dX4_addFriends_51 rfl rfl ?_
        refine g_callS (md' := mX5_bit) (As := [.int _]) hX hR dX4_addFriends_52 clX4_56 okX5_bit rfl rfl (Nat.le_of_ble_eq_true rfl) (Nat.le_of_ble_eq_true rfl) ⟨Nat.le_of_ble_eq_true rfl, Nat.le_of_ble_eq_true rfl⟩ ?_
        refine sp_X5_bit ?_
        change GW _ _ _ 55 _ [.int _, .int _, .int _, .ref _] _ _ 0 0
        refine g_ior hX dX4_addFriends_55 ?_
        refine g_callS (md' := mX5_put) (As := [.ref _, .int _, .int _]) hX hR dX4_addFriends_56 clX4_44 okX5_put rfl rfl (Nat.le_of_ble_eq_true rfl) (Nat.le_of_ble_eq_true rfl) ⟨Nat.le_of_ble_eq_true rfl, Nat.le_of_ble_eq_true rfl⟩ ?_
        rw [bitI_nI]
        refine sp_X5_put (by assumption) (by decide) (by omega) ?_
        change GW _ _ _ 59 _ [] _ _ 0 0
        refine g_iconst (v := nI 1) hX dX4_addFriends_59 (by decide) ?_
        refine g_iret hM dX4_addFriends_60 rfl (rfl) ⟨Nat.le_of_ble_eq_true rfl, Nat.le_of_ble_eq_true rfl⟩ ?_
        have hA : (inN P (nI i) ∧ inN P (nI j) ∧ ¬ (nI i) = (nI j)) := ⟨c5, c13, c18⟩
        have hz := hq hA
        rw [nI_clamp (by omega), nI_clamp (by omega)] at hz
        refine q_t rfl (hz _ (tw_adF hTR hP hi hj hij ?_ ?_ ?_ ?_ ?_ ?_ ?_ ?_) (fun a a1 a2 => ?_))
        iterate 8 (simp (disch := first | exact hL.ne (by decide) (by decide) (by decide) | exact hL.n0 (by decide) | exact (hL.n0 (by decide)).symm | decide) only [up_same, up_up, up_neD])
        rw [up_ne _ _ (a2 3 (by decide) (by decide)), up_ne _ _ (a2 3 (by decide) (by decide))]
      · refine g_iconst (v := nI 0) hX dX4_addFriends_21 (by decide) ?_
        refine g_iret hM dX4_addFriends_22 rfl (rfl) ⟨Nat.le_of_ble_eq_true rfl, Nat.le_of_ble_eq_true rfl⟩ ?_
        exact q_f rfl (hq0 (fun e => e.2.2 c18))
