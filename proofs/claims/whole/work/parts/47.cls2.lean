set_option maxHeartbeats 4000000 in
set_option maxRecDepth 100000 in
theorem sp_X2_anyoneSits {Γ : Ga} {d : Nat} {κ : Kp} {I : Ip} {Q : Option Value → Kp → Ip → Prop} {st : Nat} (hSt : StK κ st)  (hq : Q (some (.int (b2i (decide (¬ I st 2 = -1))))) κ I) : Sp Γ d mX2_anyoneSits [.ref (st)] κ I Q := by
  obtain ⟨hst, hst0, sk, sk0⟩ := id hSt
  intro X hM
  have hX := hM.std
  show GW _ mX2_anyoneSits X 0 [(0, .ref (st))] [] _ _ 0 0
  refine g_aload_n hX dX2_anyoneSits_0 rfl rfl ?_
  refine g_getI hX dX2_anyoneSits_1 flX2_15 (by assumption) rfl ?_
  refine g_iconst (v := (-1)) hX dX2_anyoneSits_4 (by decide) ?_
  refine g_icmpeq 12 hX dX2_anyoneSits_5 (by decide) (fun c5 => ?_) (fun c5 => ?_)
  · refine g_iconst (v := nI 0) hX dX2_anyoneSits_12 (by decide) ?_
    refine g_iret hM dX2_anyoneSits_13 rfl (rfl) ⟨Nat.le_of_ble_eq_true rfl, Nat.le_of_ble_eq_true rfl⟩ ?_
    exact q_f (decide_eq_false (fun e => e c5)) hq
  · refine g_iconst (v := nI 1) hX dX2_anyoneSits_8 (by decide) ?_
    refine g_goto 13 hX dX2_anyoneSits_9 (by decide) ?_
    refine g_iret hM dX2_anyoneSits_13 rfl (rfl) ⟨Nat.le_of_ble_eq_true rfl, Nat.le_of_ble_eq_true rfl⟩ ?_
    exact q_t (decide_eq_true c5) hq

set_option maxHeartbeats 4000000 in
set_option maxRecDepth 100000 in
theorem sp_X2_isTelling {Γ : Ga} {d : Nat} {κ : Kp} {I : Ip} {Q : Option Value → Kp → Ip → Prop} {st : Nat} (hSt : StK κ st)  (hq : Q (some (.int (b2i (decide (¬ I st 5 = -1))))) κ I) : Sp Γ d mX2_isTelling [.ref (st)] κ I Q := by
  obtain ⟨hst, hst0, sk, sk0⟩ := id hSt
  intro X hM
  have hX := hM.std
  show GW _ mX2_isTelling X 0 [(0, .ref (st))] [] _ _ 0 0
  refine g_aload_n hX dX2_isTelling_0 rfl rfl ?_
  refine g_getI hX dX2_isTelling_1 flX2_25 (by assumption) rfl ?_
  refine g_iconst (v := (-1)) hX dX2_isTelling_4 (by decide) ?_
  refine g_icmpeq 12 hX dX2_isTelling_5 (by decide) (fun c5 => ?_) (fun c5 => ?_)
  · refine g_iconst (v := nI 0) hX dX2_isTelling_12 (by decide) ?_
    refine g_iret hM dX2_isTelling_13 rfl (rfl) ⟨Nat.le_of_ble_eq_true rfl, Nat.le_of_ble_eq_true rfl⟩ ?_
    exact q_f (decide_eq_false (fun e => e c5)) hq
  · refine g_iconst (v := nI 1) hX dX2_isTelling_8 (by decide) ?_
    refine g_goto 13 hX dX2_isTelling_9 (by decide) ?_
    refine g_iret hM dX2_isTelling_13 rfl (rfl) ⟨Nat.le_of_ble_eq_true rfl, Nat.le_of_ble_eq_true rfl⟩ ?_
    exact q_t (decide_eq_true c5) hq

set_option maxHeartbeats 4000000 in
set_option maxRecDepth 100000 in
theorem sp_X2_isHushed {Γ : Ga} {d : Nat} {κ : Kp} {I : Ip} {Q : Option Value → Kp → Ip → Prop} {st t : Nat} (hSt : StK κ st) (ht : t < 32) (hq : Q (some (.int (b2i (bt (I st 1) t)))) κ I) : Sp Γ (d + 1) mX2_isHushed [.ref (st), .int (nI t)] κ I Q := by
  obtain ⟨hst, hst0, sk, sk0⟩ := id hSt
  intro X hM
  have hX := hM.std
  have hR := hM.room
  show GW _ mX2_isHushed X 0 [(0, .ref (st)), (1, .int (nI t))] [] _ _ 0 0
  refine g_aload_n hX dX2_isHushed_0 rfl rfl ?_
  refine g_getI hX dX2_isHushed_1 flX2_40 (by assumption) rfl ?_
  refine g_iload_n hX dX2_isHushed_4 rfl rfl ?_
  refine g_callS (md' := mX5_bit) (As := [.int _]) hX hR dX2_isHushed_5 clX2_62 okX5_bit rfl rfl (Nat.le_of_ble_eq_true rfl) (Nat.le_of_ble_eq_true rfl) ⟨Nat.le_of_ble_eq_true rfl, Nat.le_of_ble_eq_true rfl⟩ ?_
  refine sp_X5_bit ?_
  change GW _ _ _ 8 _ [.int _, .int _] _ _ 0 0
  refine g_iand hX dX2_isHushed_8 ?_
  refine g_ifeq 16 hX dX2_isHushed_9 (by decide) (fun c9 => ?_) (fun c9 => ?_)
  · rw [bitI_nI] at c9
    refine g_iconst (v := nI 0) hX dX2_isHushed_16 (by decide) ?_
    refine g_iret hM dX2_isHushed_17 rfl (rfl) ⟨Nat.le_of_ble_eq_true rfl, Nat.le_of_ble_eq_true rfl⟩ ?_
    exact q_f ((and_bit0 ht).mp c9) hq
  · rw [bitI_nI] at c9
    refine g_iconst (v := nI 1) hX dX2_isHushed_12 (by decide) ?_
    refine g_goto 17 hX dX2_isHushed_13 (by decide) ?_
    refine g_iret hM dX2_isHushed_17 rfl (rfl) ⟨Nat.le_of_ble_eq_true rfl, Nat.le_of_ble_eq_true rfl⟩ ?_
    exact q_t ((and_bit1 ht).mp c9) hq

set_option maxHeartbeats 4000000 in
set_option maxRecDepth 100000 in
theorem sp_X2_canHush {Γ : Ga} {d : Nat} {κ : Kp} {I : Ip} {Q : Option Value → Kp → Ip → Prop} {st t : Nat} (hSt : StK κ st) (ht : t < 32) (hq : Q (some (.int (b2i (!bt (I st 1) t && decide (¬ I st 5 = nI t))))) κ I) : Sp Γ (d + 2) mX2_canHush [.ref (st), .int (nI t)] κ I Q := by
  obtain ⟨hst, hst0, sk, sk0⟩ := id hSt
  intro X hM
  have hX := hM.std
  have hR := hM.room
  show GW _ mX2_canHush X 0 [(0, .ref (st)), (1, .int (nI t))] [] _ _ 0 0
  refine g_aload_n hX dX2_canHush_0 rfl rfl ?_
  refine g_iload_n hX dX2_canHush_1 rfl rfl ?_
  refine g_callV (md' := mX2_isHushed) (ci := 2) (As := [.int _]) hX hR dX2_canHush_2 clX2_66 okX2_isHushed rfl (by assumption) rfl rfl (Nat.le_of_ble_eq_true rfl) (Nat.le_of_ble_eq_true rfl) ⟨Nat.le_of_ble_eq_true rfl, Nat.le_of_ble_eq_true rfl⟩ ?_
  refine sp_X2_isHushed hSt (by omega) ?_
  change GW _ _ _ 5 _ [.int _] _ _ 0 0
  refine g_ifne 20 hX dX2_canHush_5 (by decide) (fun c5 => ?_) (fun c5 => ?_)
  · first | (rw [b2i_n0] at c5) | (rw [b2i_0] at c5)
    refine g_iconst (v := nI 0) hX dX2_canHush_20 (by decide) ?_
    refine g_iret hM dX2_canHush_21 rfl (rfl) ⟨Nat.le_of_ble_eq_true rfl, Nat.le_of_ble_eq_true rfl⟩ ?_
    exact q_f (by rw [c5]; rfl) hq
  · first | (rw [b2i_n0] at c5) | (rw [b2i_0] at c5)
    refine g_aload_n hX dX2_canHush_8 rfl rfl ?_
    refine g_getI hX dX2_canHush_9 flX2_25 (by assumption) rfl ?_
    refine g_iload_n hX dX2_canHush_12 rfl rfl ?_
    refine g_icmpeq 20 hX dX2_canHush_13 (by decide) (fun c13 => ?_) (fun c13 => ?_)
    · refine g_iconst (v := nI 0) hX dX2_canHush_20 (by decide) ?_
      refine g_iret hM dX2_canHush_21 rfl (rfl) ⟨Nat.le_of_ble_eq_true rfl, Nat.le_of_ble_eq_true rfl⟩ ?_
      exact q_f (by rw [c5, decide_eq_false (fun e => e c13)]; rfl) hq
    · refine g_iconst (v := nI 1) hX dX2_canHush_16 (by decide) ?_
      refine g_goto 21 hX dX2_canHush_17 (by decide) ?_
      refine g_iret hM dX2_canHush_21 rfl (rfl) ⟨Nat.le_of_ble_eq_true rfl, Nat.le_of_ble_eq_true rfl⟩ ?_
      exact q_t (by rw [c5, decide_eq_true c13]; rfl) hq

set_option maxHeartbeats 4000000 in
set_option maxRecDepth 100000 in
theorem sp_X2_isSeated {Γ : Ga} {d : Nat} {κ : Kp} {I : Ip} {Q : Option Value → Kp → Ip → Prop} {st : Nat} {x : Int32} (hSt : StK κ st)  (hq : Q (some (.int (b2i (decide (¬ I st 2 = -1 ∧ (x = I st 2 ∨ x = I st 3)))))) κ I) : Sp Γ (d + 1) mX2_isSeated [.ref (st), .int (x)] κ I Q := by
  obtain ⟨hst, hst0, sk, sk0⟩ := id hSt
  intro X hM
  have hX := hM.std
  have hR := hM.room
  show GW _ mX2_isSeated X 0 [(0, .ref (st)), (1, .int (x))] [] _ _ 0 0
  refine g_aload_n hX dX2_isSeated_0 rfl rfl ?_
  refine g_callV (md' := mX2_anyoneSits) (ci := 2) (As := []) hX hR dX2_isSeated_1 clX2_58 okX2_anyoneSits rfl (by assumption) rfl rfl (Nat.le_of_ble_eq_true rfl) (Nat.le_of_ble_eq_true rfl) ⟨Nat.le_of_ble_eq_true rfl, Nat.le_of_ble_eq_true rfl⟩ ?_
  refine sp_X2_anyoneSits hSt ?_
  change GW _ _ _ 4 _ [.int _] _ _ 0 0
  refine g_ifeq 27 hX dX2_isSeated_4 (by decide) (fun c4 => ?_) (fun c4 => ?_)
  · rw [b2i_0, decide_eq_false_iff_not] at c4
    refine g_iconst (v := nI 0) hX dX2_isSeated_27 (by decide) ?_
    refine g_iret hM dX2_isSeated_28 rfl (rfl) ⟨Nat.le_of_ble_eq_true rfl, Nat.le_of_ble_eq_true rfl⟩ ?_
    exact q_f (decide_eq_false (fun e => c4 e.1)) hq
  · rw [b2i_n0, decide_eq_true_eq] at c4
    refine g_iload_n hX dX2_isSeated_7 rfl rfl ?_
    refine g_aload_n hX dX2_isSeated_8 rfl rfl ?_
    refine g_getI hX dX2_isSeated_9 flX2_15 (by assumption) rfl ?_
    refine g_icmpeq 23 hX dX2_isSeated_12 (by decide) (fun c12 => ?_) (fun c12 => ?_)
    · refine g_iconst (v := nI 1) hX dX2_isSeated_23 (by decide) ?_
      refine g_goto 28 hX dX2_isSeated_24 (by decide) ?_
      refine g_iret hM dX2_isSeated_28 rfl (rfl) ⟨Nat.le_of_ble_eq_true rfl, Nat.le_of_ble_eq_true rfl⟩ ?_
      exact q_t (decide_eq_true ⟨c4, Or.inl c12⟩) hq
    · refine g_iload_n hX dX2_isSeated_15 rfl rfl ?_
      refine g_aload_n hX dX2_isSeated_16 rfl rfl ?_
      refine g_getI hX dX2_isSeated_17 flX2_19 (by assumption) rfl ?_
      refine g_icmpne 27 hX dX2_isSeated_20 (by decide) (fun c20 => ?_) (fun c20 => ?_)
      · refine g_iconst (v := nI 0) hX dX2_isSeated_27 (by decide) ?_
        refine g_iret hM dX2_isSeated_28 rfl (rfl) ⟨Nat.le_of_ble_eq_true rfl, Nat.le_of_ble_eq_true rfl⟩ ?_
        exact q_f (decide_eq_false (fun e => e.2.elim c12 c20)) hq
      · refine g_iconst (v := nI 1) hX dX2_isSeated_23 (by decide) ?_
        refine g_goto 28 hX dX2_isSeated_24 (by decide) ?_
        refine g_iret hM dX2_isSeated_28 rfl (rfl) ⟨Nat.le_of_ble_eq_true rfl, Nat.le_of_ble_eq_true rfl⟩ ?_
        exact q_t (decide_eq_true ⟨c4, Or.inr c20⟩) hq

set_option maxHeartbeats 4000000 in
set_option maxRecDepth 100000 in
theorem sp_X2_knownBy {Γ : Ga} {d : Nat} {κ : Kp} {I : Ip} {Q : Option Value → Kp → Ip → Prop} {st : Nat} {x : Int32} (hSt : StK κ st)  (hq : Q (some (.int (atV (I (κ.2.1 st 0)) 6 x))) κ I) : Sp Γ (d + 1) mX2_knownBy [.ref (st), .int (x)] κ I Q := by
  obtain ⟨hst, hst0, sk, sk0⟩ := id hSt
  intro X hM
  have hX := hM.std
  have hR := hM.room
  show GW _ mX2_knownBy X 0 [(0, .ref (st)), (1, .int (x))] [] _ _ 0 0
  refine g_aload_n hX dX2_knownBy_0 rfl rfl ?_
  refine g_getR hX dX2_knownBy_1 flX2_9 (by assumption) rfl (by first | assumption | rfl) (by assumption) ?_
  refine g_iload_n hX dX2_knownBy_4 rfl rfl ?_
  refine g_callS (md' := mX5_at) (As := [.ref _, .int _]) hX hR dX2_knownBy_5 clX2_36 okX5_at rfl rfl (Nat.le_of_ble_eq_true rfl) (Nat.le_of_ble_eq_true rfl) ⟨Nat.le_of_ble_eq_true rfl, Nat.le_of_ble_eq_true rfl⟩ ?_
  refine sp_X5_at (by assumption) (by decide) ?_
  change GW _ _ _ 8 _ [.int _] _ _ 0 0
  refine g_iret hM dX2_knownBy_8 rfl (rfl) ⟨Nat.le_of_ble_eq_true rfl, Nat.le_of_ble_eq_true rfl⟩ ?_
  exact hq

set_option maxHeartbeats 4000000 in
set_option maxRecDepth 100000 in
theorem sp_X2_listener {Γ : Ga} {d : Nat} {κ : Kp} {I : Ip} {Q : Option Value → Kp → Ip → Prop} {st : Nat} (hSt : StK κ st)  (hq : Q (some (.int (lisV (I st)))) κ I) : Sp Γ d mX2_listener [.ref (st)] κ I Q := by
  obtain ⟨hst, hst0, sk, sk0⟩ := id hSt
  intro X hM
  have hX := hM.std
  show GW _ mX2_listener X 0 [(0, .ref (st))] [] _ _ 0 0
  refine g_aload_n hX dX2_listener_0 rfl rfl ?_
  refine g_getI hX dX2_listener_1 flX2_22 (by assumption) rfl ?_
  refine g_aload_n hX dX2_listener_4 rfl rfl ?_
  refine g_getI hX dX2_listener_5 flX2_15 (by assumption) rfl ?_
  refine g_icmpne 18 hX dX2_listener_8 (by decide) (fun c8 => ?_) (fun c8 => ?_)
  · refine g_aload_n hX dX2_listener_18 rfl rfl ?_
    refine g_getI hX dX2_listener_19 flX2_15 (by assumption) rfl ?_
    refine g_iret hM dX2_listener_22 rfl (rfl) ⟨Nat.le_of_ble_eq_true rfl, Nat.le_of_ble_eq_true rfl⟩ ?_
    exact q_int (if_neg c8) hq
  · refine g_aload_n hX dX2_listener_11 rfl rfl ?_
    refine g_getI hX dX2_listener_12 flX2_19 (by assumption) rfl ?_
    refine g_goto 22 hX dX2_listener_15 (by decide) ?_
    refine g_iret hM dX2_listener_22 rfl (rfl) ⟨Nat.le_of_ble_eq_true rfl, Nat.le_of_ble_eq_true rfl⟩ ?_
    exact q_int (if_pos c8) hq

set_option maxHeartbeats 4000000 in
set_option maxRecDepth 100000 in
theorem sp_X2_endTale {Γ : Ga} {d : Nat} {κ : Kp} {I : Ip} {Q : Option Value → Kp → Ip → Prop} {st : Nat} (hSt : StK κ st)  (hq : Q none κ (va_up I st (endV (I st)))) : Sp Γ d mX2_endTale [.ref (st)] κ I Q := by
  obtain ⟨hst, hst0, sk, sk0⟩ := id hSt
  intro X hM
  have hX := hM.std
  show GW _ mX2_endTale X 0 [(0, .ref (st))] [] _ _ 0 0
  refine g_aload_n hX dX2_endTale_0 rfl rfl ?_
  refine g_iconst (v := (-1)) hX dX2_endTale_1 (by decide) ?_
  refine g_putI hX dX2_endTale_2 flX2_25 (by assumption) rfl rfl ?_
  try simp only [up_same, up_up]
  refine g_aload_n hX dX2_endTale_5 rfl rfl ?_
  refine g_iconst (v := nI 0) hX dX2_endTale_6 (by decide) ?_
  refine g_putI hX dX2_endTale_7 flX2_52 (by assumption) rfl rfl ?_
  try simp only [up_same, up_up]
  refine g_vret hM dX2_endTale_10 rfl ⟨Nat.le_of_ble_eq_true rfl, Nat.le_of_ble_eq_true rfl⟩ ?_
  exact hq

set_option maxHeartbeats 4000000 in
set_option maxRecDepth 100000 in
theorem sp_X2_standUp {Γ : Ga} {d : Nat} {κ : Kp} {I : Ip} {Q : Option Value → Kp → Ip → Prop} {st : Nat} (hSt : StK κ st)  (hq : Q none κ (va_up I st (stdV (I st)))) : Sp Γ (d + 1) mX2_standUp [.ref (st)] κ I Q := by
  obtain ⟨hst, hst0, sk, sk0⟩ := id hSt
  intro X hM
  have hX := hM.std
  have hR := hM.room
  show GW _ mX2_standUp X 0 [(0, .ref (st))] [] _ _ 0 0
  refine g_aload_n hX dX2_standUp_0 rfl rfl ?_
  refine g_iconst (v := (-1)) hX dX2_standUp_1 (by decide) ?_
  refine g_putI hX dX2_standUp_2 flX2_15 (by assumption) rfl rfl ?_
  try simp only [up_same, up_up]
  refine g_aload_n hX dX2_standUp_5 rfl rfl ?_
  refine g_iconst (v := (-1)) hX dX2_standUp_6 (by decide) ?_
  refine g_putI hX dX2_standUp_7 flX2_19 (by assumption) rfl rfl ?_
  try simp only [up_same, up_up]
  refine g_aload_n hX dX2_standUp_10 rfl rfl ?_
  refine g_iconst (v := (-1)) hX dX2_standUp_11 (by decide) ?_
  refine g_putI hX dX2_standUp_12 flX2_22 (by assumption) rfl rfl ?_
  try simp only [up_same, up_up]
  refine g_aload_n hX dX2_standUp_15 rfl rfl ?_
  refine g_iconst (v := nI 0) hX dX2_standUp_16 (by decide) ?_
  refine g_putI hX dX2_standUp_17 flX2_55 (by assumption) rfl rfl ?_
  try simp only [up_same, up_up]
  refine g_aload_n hX dX2_standUp_20 rfl rfl ?_
  refine g_callV (md' := mX2_endTale) (ci := 2) (As := []) hX hR dX2_standUp_21 clX2_90 okX2_endTale rfl (by assumption) rfl rfl (Nat.le_of_ble_eq_true rfl) (Nat.le_of_ble_eq_true rfl) ⟨Nat.le_of_ble_eq_true rfl, Nat.le_of_ble_eq_true rfl⟩ ?_
  refine sp_X2_endTale hSt ?_
  simp only [up_same, up_up]
  change GW _ _ _ 24 _ [] _ _ 0 0
  refine g_vret hM dX2_standUp_24 rfl ⟨Nat.le_of_ble_eq_true rfl, Nat.le_of_ble_eq_true rfl⟩ ?_
  exact hq

set_option maxHeartbeats 4000000 in
set_option maxRecDepth 100000 in
theorem sp_X2_seat {Γ : Ga} {d : Nat} {κ : Kp} {I : Ip} {Q : Option Value → Kp → Ip → Prop} {st : Nat} {x y : Int32} (hSt : StK κ st)  (hq : Q none κ (va_up I st (va_up (va_up (va_up (stdV (I st)) 2 x) 3 y) 4 x))) : Sp Γ (d + 2) mX2_seat [.ref (st), .int (x), .int (y)] κ I Q := by
  obtain ⟨hst, hst0, sk, sk0⟩ := id hSt
  intro X hM
  have hX := hM.std
  have hR := hM.room
  show GW _ mX2_seat X 0 [(0, .ref (st)), (1, .int (x)), (2, .int (y))] [] _ _ 0 0
  refine g_aload_n hX dX2_seat_0 rfl rfl ?_
  refine g_callV (md' := mX2_standUp) (ci := 2) (As := []) hX hR dX2_seat_1 clX2_49 okX2_standUp rfl (by assumption) rfl rfl (Nat.le_of_ble_eq_true rfl) (Nat.le_of_ble_eq_true rfl) ⟨Nat.le_of_ble_eq_true rfl, Nat.le_of_ble_eq_true rfl⟩ ?_
  refine sp_X2_standUp hSt ?_
  change GW _ _ _ 4 _ [] _ _ 0 0
  refine g_aload_n hX dX2_seat_4 rfl rfl ?_
  refine g_iload_n hX dX2_seat_5 rfl rfl ?_
  refine g_putI hX dX2_seat_6 flX2_15 (by assumption) rfl rfl ?_
  try simp only [up_same, up_up]
  refine g_aload_n hX dX2_seat_9 rfl rfl ?_
  refine g_iload_n hX dX2_seat_10 rfl rfl ?_
  refine g_putI hX dX2_seat_11 flX2_19 (by assumption) rfl rfl ?_
  try simp only [up_same, up_up]
  refine g_aload_n hX dX2_seat_14 rfl rfl ?_
  refine g_iload_n hX dX2_seat_15 rfl rfl ?_
  refine g_putI hX dX2_seat_16 flX2_22 (by assumption) rfl rfl ?_
  try simp only [up_same, up_up]
  refine g_vret hM dX2_seat_19 rfl ⟨Nat.le_of_ble_eq_true rfl, Nat.le_of_ble_eq_true rfl⟩ ?_
  exact hq

set_option maxHeartbeats 4000000 in
set_option maxRecDepth 100000 in
theorem sp_X2_mayTell {Γ : Ga} {d : Nat} {κ : Kp} {I : Ip} {Q : Option Value → Kp → Ip → Prop} {st tw : Nat} {x y : Int32} (hSt : StK κ st) (hTw : TwK κ tw)  (hq : Q (some (.int (mtV (I (κ.2.1 tw 2)) (I (κ.2.1 tw 4)) (I (κ.2.1 st 0)) (I st 1) (x) (y)))) κ I) : Sp Γ (d + 1) mX2_mayTell [.ref (st), .ref (tw), .int (x), .int (y)] κ I Q := by
  obtain ⟨hst, hst0, sk, sk0⟩ := id hSt
  obtain ⟨ht, ht0, ⟨t2, u2⟩, ⟨t3, u3⟩, ⟨t4, u4⟩, ⟨t5, u5⟩, ⟨t6, u6⟩, ⟨t7, u7⟩, ⟨t8, u8⟩⟩ := id hTw
  intro X hM
  have hX := hM.std
  have hR := hM.room
  show GW _ mX2_mayTell X 0 [(0, .ref (st)), (1, .ref (tw)), (2, .int (x)), (3, .int (y))] [] _ _ 0 0
  refine g_aload_n hX dX2_mayTell_0 rfl rfl ?_
  refine g_getR hX dX2_mayTell_1 flX2_84 (by assumption) rfl (by first | assumption | rfl) (by assumption) ?_
  refine g_iload_n hX dX2_mayTell_4 rfl rfl ?_
  refine g_callS (md' := mX5_at) (As := [.ref _, .int _]) hX hR dX2_mayTell_5 clX2_36 okX5_at rfl rfl (Nat.le_of_ble_eq_true rfl) (Nat.le_of_ble_eq_true rfl) ⟨Nat.le_of_ble_eq_true rfl, Nat.le_of_ble_eq_true rfl⟩ ?_
  refine sp_X5_at (by assumption) (by decide) ?_
  change GW _ _ _ 8 _ [.int _] _ _ 0 0
  refine g_iconst (v := nI 1) hX dX2_mayTell_8 (by decide) ?_
  refine g_icmpne 14 hX dX2_mayTell_9 (by decide) (fun c9 => ?_) (fun c9 => ?_)
  · refine g_aload_n hX dX2_mayTell_14 rfl rfl ?_
    refine g_getR hX dX2_mayTell_15 flX2_9 (by assumption) rfl (by first | assumption | rfl) (by assumption) ?_
    refine g_iload_n hX dX2_mayTell_18 rfl rfl ?_
    refine g_callS (md' := mX5_at) (As := [.ref _, .int _]) hX hR dX2_mayTell_19 clX2_36 okX5_at rfl rfl (Nat.le_of_ble_eq_true rfl) (Nat.le_of_ble_eq_true rfl) ⟨Nat.le_of_ble_eq_true rfl, Nat.le_of_ble_eq_true rfl⟩ ?_
    refine sp_X5_at (by assumption) (by decide) ?_
    change GW _ _ _ 22 _ [.int _] _ _ 0 0
    refine g_aload_n hX dX2_mayTell_22 rfl rfl ?_
    refine g_getI hX dX2_mayTell_23 flX2_40 (by assumption) rfl ?_
    refine g_iconst (v := (-1)) hX dX2_mayTell_26 (by decide) ?_
    refine g_ixor hX dX2_mayTell_27 ?_
    refine g_iand hX dX2_mayTell_28 ?_
    refine g_aload_n hX dX2_mayTell_29 rfl rfl ?_
    refine g_getR hX dX2_mayTell_30 flX2_87 (by assumption) rfl (by first | assumption | rfl) (by assumption) ?_
    refine g_iload_n hX dX2_mayTell_33 rfl rfl ?_
    refine g_callS (md' := mX5_at) (As := [.ref _, .int _]) hX hR dX2_mayTell_34 clX2_36 okX5_at rfl rfl (Nat.le_of_ble_eq_true rfl) (Nat.le_of_ble_eq_true rfl) ⟨Nat.le_of_ble_eq_true rfl, Nat.le_of_ble_eq_true rfl⟩ ?_
    refine sp_X5_at (by assumption) (by decide) ?_
    change GW _ _ _ 37 _ [.int _, .int _] _ _ 0 0
    refine g_iconst (v := (-1)) hX dX2_mayTell_37 (by decide) ?_
    refine g_ixor hX dX2_mayTell_38 ?_
    refine g_iand hX dX2_mayTell_39 ?_
    refine g_iret hM dX2_mayTell_40 rfl (rfl) ⟨Nat.le_of_ble_eq_true rfl, Nat.le_of_ble_eq_true rfl⟩ ?_
    exact q_int (if_neg c9) hq
  · refine g_iconst (v := nI 0) hX dX2_mayTell_12 (by decide) ?_
    refine g_iret hM dX2_mayTell_13 rfl (rfl) ⟨Nat.le_of_ble_eq_true rfl, Nat.le_of_ble_eq_true rfl⟩ ?_
    exact q_int (if_pos c9) hq

set_option maxHeartbeats 4000000 in
set_option maxRecDepth 100000 in
theorem sp_X2_isSilent {Γ : Ga} {d : Nat} {κ : Kp} {I : Ip} {Q : Option Value → Kp → Ip → Prop} {st tw : Nat} (hSt : StK κ st) (hTw : TwK κ tw)  (hq : Q (some (.int (b2i (decide (¬ I st 2 = -1 ∧ I st 5 = -1 ∧ (mtV (I (κ.2.1 tw 2)) (I (κ.2.1 tw 4)) (I (κ.2.1 st 0)) (I st 1) (I st 2) (I st 3) ||| mtV (I (κ.2.1 tw 2)) (I (κ.2.1 tw 4)) (I (κ.2.1 st 0)) (I st 1) (I st 3) (I st 2)) &&& (I st 7 ^^^ -1) = 0))))) κ I) : Sp Γ (d + 2) mX2_isSilent [.ref (st), .ref (tw)] κ I Q := by
  obtain ⟨hst, hst0, sk, sk0⟩ := id hSt
  obtain ⟨ht, ht0, ⟨t2, u2⟩, ⟨t3, u3⟩, ⟨t4, u4⟩, ⟨t5, u5⟩, ⟨t6, u6⟩, ⟨t7, u7⟩, ⟨t8, u8⟩⟩ := id hTw
  intro X hM
  have hX := hM.std
  have hR := hM.room
  show GW _ mX2_isSilent X 0 [(0, .ref (st)), (1, .ref (tw))] [] _ _ 0 0
  refine g_aload_n hX dX2_isSilent_0 rfl rfl ?_
  refine g_aload_n hX dX2_isSilent_1 rfl rfl ?_
  refine g_aload_n hX dX2_isSilent_2 rfl rfl ?_
  refine g_getI hX dX2_isSilent_3 flX2_15 (by assumption) rfl ?_
  refine g_aload_n hX dX2_isSilent_6 rfl rfl ?_
  refine g_getI hX dX2_isSilent_7 flX2_19 (by assumption) rfl ?_
  refine g_callV (md' := mX2_mayTell) (ci := 2) (As := [.ref _, .int _, .int _]) hX hR dX2_isSilent_10 clX2_93 okX2_mayTell rfl (by assumption) rfl rfl (Nat.le_of_ble_eq_true rfl) (Nat.le_of_ble_eq_true rfl) ⟨Nat.le_of_ble_eq_true rfl, Nat.le_of_ble_eq_true rfl⟩ ?_
  refine sp_X2_mayTell hSt hTw ?_
  change GW _ _ _ 13 _ [.int _] _ _ 0 0
  refine g_aload_n hX dX2_isSilent_13 rfl rfl ?_
  refine g_aload_n hX dX2_isSilent_14 rfl rfl ?_
  refine g_aload_n hX dX2_isSilent_15 rfl rfl ?_
  refine g_getI hX dX2_isSilent_16 flX2_19 (by assumption) rfl ?_
  refine g_aload_n hX dX2_isSilent_19 rfl rfl ?_
  refine g_getI hX dX2_isSilent_20 flX2_15 (by assumption) rfl ?_
  refine g_callV (md' := mX2_mayTell) (ci := 2) (As := [.ref _, .int _, .int _]) hX hR dX2_isSilent_23 clX2_93 okX2_mayTell rfl (by assumption) rfl rfl (Nat.le_of_ble_eq_true rfl) (Nat.le_of_ble_eq_true rfl) ⟨Nat.le_of_ble_eq_true rfl, Nat.le_of_ble_eq_true rfl⟩ ?_
  refine sp_X2_mayTell hSt hTw ?_
  change GW _ _ _ 26 _ [.int _, .int _] _ _ 0 0
  refine g_ior hX dX2_isSilent_26 ?_
  refine g_istore_n (lv' := [(2, .int _), (0, .ref _), (1, .ref _)]) hX dX2_isSilent_27 rfl (by decide) rfl ?_
  refine g_aload_n hX dX2_isSilent_28 rfl rfl ?_
  refine g_callV (md' := mX2_anyoneSits) (ci := 2) (As := []) hX hR dX2_isSilent_29 clX2_58 okX2_anyoneSits rfl (by assumption) rfl rfl (Nat.le_of_ble_eq_true rfl) (Nat.le_of_ble_eq_true rfl) ⟨Nat.le_of_ble_eq_true rfl, Nat.le_of_ble_eq_true rfl⟩ ?_
  refine sp_X2_anyoneSits hSt ?_
  change GW _ _ _ 32 _ [.int _] _ _ 0 0
  refine g_ifeq 57 hX dX2_isSilent_32 (by decide) (fun c32 => ?_) (fun c32 => ?_)
  · rw [b2i_0, decide_eq_false_iff_not] at c32
    refine g_iconst (v := nI 0) hX dX2_isSilent_57 (by decide) ?_
    refine g_iret hM dX2_isSilent_58 rfl (rfl) ⟨Nat.le_of_ble_eq_true rfl, Nat.le_of_ble_eq_true rfl⟩ ?_
    exact q_f (decide_eq_false (fun e => c32 e.1)) hq
  · rw [b2i_n0, decide_eq_true_eq] at c32
    refine g_aload_n hX dX2_isSilent_35 rfl rfl ?_
    refine g_callV (md' := mX2_isTelling) (ci := 2) (As := []) hX hR dX2_isSilent_36 clX2_97 okX2_isTelling rfl (by assumption) rfl rfl (Nat.le_of_ble_eq_true rfl) (Nat.le_of_ble_eq_true rfl) ⟨Nat.le_of_ble_eq_true rfl, Nat.le_of_ble_eq_true rfl⟩ ?_
    refine sp_X2_isTelling hSt ?_
    change GW _ _ _ 39 _ [.int _] _ _ 0 0
    refine g_ifne 57 hX dX2_isSilent_39 (by decide) (fun c39 => ?_) (fun c39 => ?_)
    · rw [b2i_n0, decide_eq_true_eq] at c39
      refine g_iconst (v := nI 0) hX dX2_isSilent_57 (by decide) ?_
      refine g_iret hM dX2_isSilent_58 rfl (rfl) ⟨Nat.le_of_ble_eq_true rfl, Nat.le_of_ble_eq_true rfl⟩ ?_
      exact q_f (decide_eq_false (fun e => c39 e.2.1)) hq
    · rw [b2i_0, decide_eq_false_iff_not] at c39
      refine g_iload_n hX dX2_isSilent_42 rfl rfl ?_
      refine g_aload_n hX dX2_isSilent_43 rfl rfl ?_
      refine g_getI hX dX2_isSilent_44 flX2_55 (by assumption) rfl ?_
      refine g_iconst (v := (-1)) hX dX2_isSilent_47 (by decide) ?_
      refine g_ixor hX dX2_isSilent_48 ?_
      refine g_iand hX dX2_isSilent_49 ?_
      refine g_ifne 57 hX dX2_isSilent_50 (by decide) (fun c50 => ?_) (fun c50 => ?_)
      · refine g_iconst (v := nI 0) hX dX2_isSilent_57 (by decide) ?_
        refine g_iret hM dX2_isSilent_58 rfl (rfl) ⟨Nat.le_of_ble_eq_true rfl, Nat.le_of_ble_eq_true rfl⟩ ?_
        exact q_f (decide_eq_false (fun e => c50 e.2.2)) hq
      · refine g_iconst (v := nI 1) hX dX2_isSilent_53 (by decide) ?_
        refine g_goto 58 hX dX2_isSilent_54 (by decide) ?_
        refine g_iret hM dX2_isSilent_58 rfl (rfl) ⟨Nat.le_of_ble_eq_true rfl, Nat.le_of_ble_eq_true rfl⟩ ?_
        exact q_t (decide_eq_true ⟨c32, Decidable.of_not_not c39, c50⟩) hq

set_option maxHeartbeats 4000000 in
set_option maxRecDepth 100000 in
theorem sp_X2_beginTale {Γ : Ga} {d : Nat} {κ : Kp} {I : Ip} {Q : Option Value → Kp → Ip → Prop} {st tw : Nat} {P T : Nat} {w s : Nat → Int32} (hSt : StK κ st) (hTw : TwK κ tw) (hTR : TwR κ I tw w P T) (hw : WfT w P T) (hs : WfS s P T) (hSR : SR (I (κ.2.1 st 0)) (I st) s T) (hq : ∀ f' : Nat → Int32, SR (I (κ.2.1 st 0)) f' (begX w s T) T → Q none κ (va_up I st f')) : Sp Γ (d + 3) mX2_beginTale [.ref (st), .ref (tw)] κ I Q := by
  obtain ⟨hst, hst0, sk, sk0⟩ := id hSt
  obtain ⟨ht, ht0, ⟨t2, u2⟩, ⟨t3, u3⟩, ⟨t4, u4⟩, ⟨t5, u5⟩, ⟨t6, u6⟩, ⟨t7, u7⟩, ⟨t8, u8⟩⟩ := id hTw
  obtain ⟨hw0, hw1, hP, hT, -⟩ := id hw
  have hne8 : κ.2.1 tw 8 ≠ st := kd_ne t8 hst (by decide)
  have r8 := hTR.2.2.2.2.2.2.2.2
  intro X hM
  have hX := hM.std
  have hR := hM.room
  show GW _ mX2_beginTale X 0 [(0, .ref (st)), (1, .ref (tw))] [] _ _ 0 0
  refine g_aload_n hX dX2_beginTale_0 rfl rfl ?_
  refine g_callV (md' := mX2_anyoneSits) (ci := 2) (As := []) hX hR dX2_beginTale_1 clX2_58 okX2_anyoneSits rfl (by assumption) rfl rfl (Nat.le_of_ble_eq_true rfl) (Nat.le_of_ble_eq_true rfl) ⟨Nat.le_of_ble_eq_true rfl, Nat.le_of_ble_eq_true rfl⟩ ?_
  refine sp_X2_anyoneSits hSt ?_
  change GW _ _ _ 4 _ [.int _] _ _ 0 0
  refine g_ifeq 14 hX dX2_beginTale_4 (by decide) (fun c4 => ?_) (fun c4 => ?_)
  · rw [b2i_0, decide_eq_false_iff_not, Decidable.not_not, hSR.sits hw hs] at c4
    refine g_vret hM dX2_beginTale_14 rfl ⟨Nat.le_of_ble_eq_true rfl, Nat.le_of_ble_eq_true rfl⟩ ?_
    have hz := hq (I st) (by unfold begX; rw [if_pos c4]; exact hSR)
    rw [up_self] at hz
    exact hz
  · rw [b2i_n0, decide_eq_true_eq, hSR.sits hw hs] at c4
    obtain ⟨a, b, c, o, hseat, hoc, hco, ho6, hc6, h12⟩ := wfs_seat hw hs c4
    obtain ⟨o2, ho2, hco2, hoP, -⟩ := seat_oth hseat hP
    obtain ⟨f2, f3, f4, f6, f5⟩ := hSR.s2 c4
    have hlis := hSR.lis c4
    rw [h12, hoc] at hlis
    rw [h12] at f4
    have hcP : c < P := by obtain ⟨ha, hb, hab, -, -, hc, -⟩ := hseat; rcases hc with rfl | rfl <;> assumption
    have hoe : o = o2 := nI_inj (by omega) (by omega) (hoc.symm.trans ho2)
    subst hoe
    refine g_aload_n hX dX2_beginTale_7 rfl rfl ?_
    refine g_callV (md' := mX2_isTelling) (ci := 2) (As := []) hX hR dX2_beginTale_8 clX2_97 okX2_isTelling rfl (by assumption) rfl rfl (Nat.le_of_ble_eq_true rfl) (Nat.le_of_ble_eq_true rfl) ⟨Nat.le_of_ble_eq_true rfl, Nat.le_of_ble_eq_true rfl⟩ ?_
    refine sp_X2_isTelling hSt ?_
    change GW _ _ _ 11 _ [.int _] _ _ 0 0
    refine g_ifeq 15 hX dX2_beginTale_11 (by decide) (fun c11 => ?_) (fun c11 => ?_)
    · rw [b2i_0, decide_eq_false_iff_not, Decidable.not_not, hSR.tells hw hs] at c11
      refine g_aload_n hX dX2_beginTale_15 rfl rfl ?_
      refine g_aload_n hX dX2_beginTale_16 rfl rfl ?_
      refine g_aload_n hX dX2_beginTale_17 rfl rfl ?_
      refine g_getI hX dX2_beginTale_18 flX2_22 (by assumption) rfl ?_
      try simp only [up_same, up_up]
      refine g_aload_n hX dX2_beginTale_21 rfl rfl ?_
      refine g_callV (md' := mX2_listener) (ci := 2) (As := []) hX hR dX2_beginTale_22 clX2_117 okX2_listener rfl (by assumption) rfl rfl (Nat.le_of_ble_eq_true rfl) (Nat.le_of_ble_eq_true rfl) ⟨Nat.le_of_ble_eq_true rfl, Nat.le_of_ble_eq_true rfl⟩ ?_
      refine sp_X2_listener hSt ?_
      change GW _ _ _ 25 _ [.int _, .int _, .ref _, .ref _] _ _ 0 0
      refine g_callV (md' := mX2_mayTell) (ci := 2) (As := [.ref _, .int _, .int _]) hX hR dX2_beginTale_25 clX2_93 okX2_mayTell rfl (by assumption) rfl rfl (Nat.le_of_ble_eq_true rfl) (Nat.le_of_ble_eq_true rfl) ⟨Nat.le_of_ble_eq_true rfl, Nat.le_of_ble_eq_true rfl⟩ ?_
      refine sp_X2_mayTell hSt hTw ?_
      change GW _ _ _ 28 _ [.int _] _ _ 0 0
      refine g_aload_n hX dX2_beginTale_28 rfl rfl ?_
      refine g_getI hX dX2_beginTale_29 flX2_55 (by assumption) rfl ?_
      try simp only [up_same, up_up]
      refine g_iconst (v := (-1)) hX dX2_beginTale_32 (by decide) ?_
      refine g_ixor hX dX2_beginTale_33 ?_
      refine g_iand hX dX2_beginTale_34 ?_
      rw [f4, hlis, mt_tell hTR hw hSR hcP hoP, hSR.2.2.1]
      refine g_istore_n (lv' := [(2, .int _), (0, .ref _), (1, .ref _)]) hX dX2_beginTale_35 rfl (by decide) rfl ?_
      refine g_iload_n hX dX2_beginTale_36 rfl rfl ?_
      refine g_ifne 80 hX dX2_beginTale_37 (by decide) (fun c37 => ?_) (fun c37 => ?_)
      · refine g_aload_n hX dX2_beginTale_80 rfl rfl ?_
        refine g_iload_n hX dX2_beginTale_81 rfl rfl ?_
        refine g_callS (md' := mX5_lowestOf) (As := [.int _]) hX hR dX2_beginTale_82 clX2_121 okX5_lowestOf rfl rfl (Nat.le_of_ble_eq_true rfl) (Nat.le_of_ble_eq_true rfl) ⟨Nat.le_of_ble_eq_true rfl, Nat.le_of_ble_eq_true rfl⟩ ?_
        obtain ⟨kk, hkk, ekk⟩ := tell_small (w := w) (s := s) (a := c) (b := nI o) (told := s 15) hT
        have hk0 : kk ≠ 0 := fun e => c37 (by rw [ekk, e]; exact nI0)
        obtain ⟨l1, -, -⟩ := tell_low hT c37
        rw [ekk]
        refine sp_X5_lowestOf hkk ?_
        rw [if_neg hk0, ← ekk]
        change GW _ _ _ 85 _ [.int _, .ref _] _ _ 0 0
        refine g_putI hX dX2_beginTale_85 flX2_25 (by assumption) rfl rfl ?_
        try simp only [up_same, up_up]
        refine g_aload_n hX dX2_beginTale_88 rfl rfl ?_
        refine g_aload_n hX dX2_beginTale_89 rfl rfl ?_
        refine g_aload_n hX dX2_beginTale_90 rfl rfl ?_
        refine g_getI hX dX2_beginTale_91 flX2_25 (by assumption) rfl ?_
        try simp only [up_same, up_up]
        refine g_callV (md' := mX4_minutesOf) (ci := 4) (As := [.int _]) hX hR dX2_beginTale_94 clX2_124 okX4_minutesOf rfl (by assumption) rfl rfl (Nat.le_of_ble_eq_true rfl) (Nat.le_of_ble_eq_true rfl) ⟨Nat.le_of_ble_eq_true rfl, Nat.le_of_ble_eq_true rfl⟩ ?_
        refine sp_X4_minutesOf hTw ?_
        rw [atV_in (by omega) (by decide), up_ne _ _ hne8, r8 _ l1]
        change GW _ _ _ 97 _ [.int _, .ref _] _ _ 0 0
        refine g_putI hX dX2_beginTale_97 flX2_52 (by assumption) rfl rfl ?_
        try simp only [up_same, up_up]
        refine g_vret hM dX2_beginTale_100 rfl ⟨Nat.le_of_ble_eq_true rfl, Nat.le_of_ble_eq_true rfl⟩ ?_
        have hz := hSR.beg hT c4 (x := nI c) (y := nI (lowN (tellF w s T c (nI o) (s 15)))) (z := w (32 + lowN (tellF w s T c (nI o) (s 15)))) (nI_m4 (by omega))
        rw [show va_up (I st) 4 (nI c) = I st by rw [← f4, up_self]] at hz
        exact hq _ (by rw [begX_1 c4 h12 hoc hc6 ho6, begF, if_pos c11, if_neg c37]; exact hz)
      · refine g_aload_n hX dX2_beginTale_40 rfl rfl ?_
        refine g_aload_n hX dX2_beginTale_41 rfl rfl ?_
        refine g_aload_n hX dX2_beginTale_42 rfl rfl ?_
        refine g_callV (md' := mX2_listener) (ci := 2) (As := []) hX hR dX2_beginTale_43 clX2_117 okX2_listener rfl (by assumption) rfl rfl (Nat.le_of_ble_eq_true rfl) (Nat.le_of_ble_eq_true rfl) ⟨Nat.le_of_ble_eq_true rfl, Nat.le_of_ble_eq_true rfl⟩ ?_
        refine sp_X2_listener hSt ?_
        change GW _ _ _ 46 _ [.int _, .ref _, .ref _] _ _ 0 0
        refine g_aload_n hX dX2_beginTale_46 rfl rfl ?_
        refine g_getI hX dX2_beginTale_47 flX2_22 (by assumption) rfl ?_
        try simp only [up_same, up_up]
        refine g_callV (md' := mX2_mayTell) (ci := 2) (As := [.ref _, .int _, .int _]) hX hR dX2_beginTale_50 clX2_93 okX2_mayTell rfl (by assumption) rfl rfl (Nat.le_of_ble_eq_true rfl) (Nat.le_of_ble_eq_true rfl) ⟨Nat.le_of_ble_eq_true rfl, Nat.le_of_ble_eq_true rfl⟩ ?_
        refine sp_X2_mayTell hSt hTw ?_
        change GW _ _ _ 53 _ [.int _] _ _ 0 0
        refine g_aload_n hX dX2_beginTale_53 rfl rfl ?_
        refine g_getI hX dX2_beginTale_54 flX2_55 (by assumption) rfl ?_
        try simp only [up_same, up_up]
        refine g_iconst (v := (-1)) hX dX2_beginTale_57 (by decide) ?_
        refine g_ixor hX dX2_beginTale_58 ?_
        refine g_iand hX dX2_beginTale_59 ?_
        rw [f4, hlis, mt_tell hTR hw hSR hoP hcP, hSR.2.2.1]
        refine g_istore_n (lv' := [(2, .int _), (0, .ref _), (1, .ref _)]) hX dX2_beginTale_60 rfl (by decide) rfl ?_
        refine g_aload_n hX dX2_beginTale_61 rfl rfl ?_
        refine g_iload_n hX dX2_beginTale_62 rfl rfl ?_
        refine g_ifne 73 hX dX2_beginTale_63 (by decide) (fun c63 => ?_) (fun c63 => ?_)
        · refine g_aload_n hX dX2_beginTale_73 rfl rfl ?_
          refine g_callV (md' := mX2_listener) (ci := 2) (As := []) hX hR dX2_beginTale_74 clX2_117 okX2_listener rfl (by assumption) rfl rfl (Nat.le_of_ble_eq_true rfl) (Nat.le_of_ble_eq_true rfl) ⟨Nat.le_of_ble_eq_true rfl, Nat.le_of_ble_eq_true rfl⟩ ?_
          refine sp_X2_listener hSt ?_
          rw [hlis]
          change GW _ _ _ 77 _ [.int _, .ref _] _ _ 0 0
          refine g_putI hX dX2_beginTale_77 flX2_22 (by assumption) rfl rfl ?_
          try simp only [up_same, up_up]
          refine g_aload_n hX dX2_beginTale_80 rfl rfl ?_
          refine g_iload_n hX dX2_beginTale_81 rfl rfl ?_
          refine g_callS (md' := mX5_lowestOf) (As := [.int _]) hX hR dX2_beginTale_82 clX2_121 okX5_lowestOf rfl rfl (Nat.le_of_ble_eq_true rfl) (Nat.le_of_ble_eq_true rfl) ⟨Nat.le_of_ble_eq_true rfl, Nat.le_of_ble_eq_true rfl⟩ ?_
          obtain ⟨kk, hkk, ekk⟩ := tell_small (w := w) (s := s) (a := o) (b := nI c) (told := s 15) hT
          have hk0 : kk ≠ 0 := fun e => c63 (by rw [ekk, e]; exact nI0)
          obtain ⟨l1, -, -⟩ := tell_low hT c63
          rw [ekk]
          refine sp_X5_lowestOf hkk ?_
          rw [if_neg hk0, ← ekk]
          change GW _ _ _ 85 _ [.int _, .ref _] _ _ 0 0
          refine g_putI hX dX2_beginTale_85 flX2_25 (by assumption) rfl rfl ?_
          try simp only [up_same, up_up]
          refine g_aload_n hX dX2_beginTale_88 rfl rfl ?_
          refine g_aload_n hX dX2_beginTale_89 rfl rfl ?_
          refine g_aload_n hX dX2_beginTale_90 rfl rfl ?_
          refine g_getI hX dX2_beginTale_91 flX2_25 (by assumption) rfl ?_
          try simp only [up_same, up_up]
          refine g_callV (md' := mX4_minutesOf) (ci := 4) (As := [.int _]) hX hR dX2_beginTale_94 clX2_124 okX4_minutesOf rfl (by assumption) rfl rfl (Nat.le_of_ble_eq_true rfl) (Nat.le_of_ble_eq_true rfl) ⟨Nat.le_of_ble_eq_true rfl, Nat.le_of_ble_eq_true rfl⟩ ?_
          refine sp_X4_minutesOf hTw ?_
          rw [atV_in (by omega) (by decide), up_ne _ _ hne8, r8 _ l1]
          change GW _ _ _ 97 _ [.int _, .ref _] _ _ 0 0
          refine g_putI hX dX2_beginTale_97 flX2_52 (by assumption) rfl rfl ?_
          try simp only [up_same, up_up]
          refine g_vret hM dX2_beginTale_100 rfl ⟨Nat.le_of_ble_eq_true rfl, Nat.le_of_ble_eq_true rfl⟩ ?_
          exact hq _ (by rw [begX_1 c4 h12 hoc hc6 ho6, begF, if_pos c11, if_pos c37, if_neg c63]; exact hSR.beg hT c4 (nI_m4 (by omega)))
        · refine g_aload_n hX dX2_beginTale_66 rfl rfl ?_
          refine g_getI hX dX2_beginTale_67 flX2_22 (by assumption) rfl ?_
          try simp only [up_same, up_up]
          rw [f4]
          refine g_goto 77 hX dX2_beginTale_70 (by decide) ?_
          refine g_putI hX dX2_beginTale_77 flX2_22 (by assumption) rfl rfl ?_
          try simp only [up_same, up_up]
          refine g_aload_n hX dX2_beginTale_80 rfl rfl ?_
          refine g_iload_n hX dX2_beginTale_81 rfl rfl ?_
          refine g_callS (md' := mX5_lowestOf) (As := [.int _]) hX hR dX2_beginTale_82 clX2_121 okX5_lowestOf rfl rfl (Nat.le_of_ble_eq_true rfl) (Nat.le_of_ble_eq_true rfl) ⟨Nat.le_of_ble_eq_true rfl, Nat.le_of_ble_eq_true rfl⟩ ?_
          rw [c63]
          refine sp_X5_lowestOf (k := 0) (by decide) ?_
          rw [if_pos rfl]
          change GW _ _ _ 85 _ [.int _, .ref _] _ _ 0 0
          refine g_putI hX dX2_beginTale_85 flX2_25 (by assumption) rfl rfl ?_
          try simp only [up_same, up_up]
          refine g_aload_n hX dX2_beginTale_88 rfl rfl ?_
          refine g_aload_n hX dX2_beginTale_89 rfl rfl ?_
          refine g_aload_n hX dX2_beginTale_90 rfl rfl ?_
          refine g_getI hX dX2_beginTale_91 flX2_25 (by assumption) rfl ?_
          try simp only [up_same, up_up]
          refine g_callV (md' := mX4_minutesOf) (ci := 4) (As := [.int _]) hX hR dX2_beginTale_94 clX2_124 okX4_minutesOf rfl (by assumption) rfl rfl (Nat.le_of_ble_eq_true rfl) (Nat.le_of_ble_eq_true rfl) ⟨Nat.le_of_ble_eq_true rfl, Nat.le_of_ble_eq_true rfl⟩ ?_
          refine sp_X4_minutesOf hTw ?_
          rw [atV_out inN_m1]
          change GW _ _ _ 97 _ [.int _, .ref _] _ _ 0 0
          refine g_putI hX dX2_beginTale_97 flX2_52 (by assumption) rfl rfl ?_
          try simp only [up_same, up_up]
          refine g_vret hM dX2_beginTale_100 rfl ⟨Nat.le_of_ble_eq_true rfl, Nat.le_of_ble_eq_true rfl⟩ ?_
          have hz := hSR.sil c4 c11 (seat_14 hseat hT c11)
          rw [f4] at hz
          exact hq _ (by rw [begX_1 c4 h12 hoc hc6 ho6, begF, if_pos c11, if_pos c37, if_pos c63]; exact hz)
    · rw [b2i_n0, decide_eq_true_eq, hSR.tells hw hs] at c11
      refine g_vret hM dX2_beginTale_14 rfl ⟨Nat.le_of_ble_eq_true rfl, Nat.le_of_ble_eq_true rfl⟩ ?_
      have hz := hq (I st) (by unfold begX; rw [if_neg c4, begF, if_neg c11]; exact hSR)
      rw [up_self] at hz
      exact hz
