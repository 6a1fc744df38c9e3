set_option maxHeartbeats 4000000 in
set_option maxRecDepth 100000 in
theorem sp_X6_undo {Γ : Ga} {d : Nat} {κ : Kp} {I : Ip} {Q : Option Value → Kp → Ip → Prop} {m P T : Nat} {w s : Nat → Int32} {past kept : List (Nat → Int32)} {tx : Nat → Int32} {sz : Nat}  (hMR : MR κ m I P T w s past kept tx sz)  (hq : ∀ J : Ip, MR κ m J P T w (undoA s past).2.1 (undoA s past).2.2 kept tx sz → MOut κ m I J → Q (some (.int (undoA s past).1)) κ J) : Sp Γ (d + 1) mX6_undo [.ref (m)] κ I Q := by
  obtain ⟨hMo, rfl, rfl, hw, hP1, hs, hpl, hp5, hpB, hkl, hk7, hkB, hsz, hs9, htx, hlt⟩ := id hMR
  obtain ⟨hm, hm0, ⟨k0, n0⟩, ⟨k1, n1⟩, ⟨k2, n2⟩, ⟨k3, n3⟩, ⟨k4, n4⟩, ⟨k6, n6⟩, ⟨k8, n8⟩, ⟨k14, n14⟩, ⟨k15, n15⟩, ⟨k16, n16⟩, d01, d23, d614, d1516⟩ := id hMo
  obtain ⟨hw0, hw1, hP, hT, -⟩ := id hw
  have m4 : κ.2.1 m 4 ≠ m := kd_ne k4 hm (by decide)
  have m2 : κ.2.1 m 2 ≠ m := kd_ne k2 hm (by decide)
  intro X hM
  have hX := hM.std
  have hR := hM.room
  show GW _ mX6_undo X 0 [(0, .ref (m))] [] _ _ 0 0
  refine g_aload_n hX dX6_undo_0 rfl rfl ?_
  refine g_getI hX dX6_undo_1 flX6_62 (by assumption) rfl ?_
  refine g_ifne 10 hX dX6_undo_4 (by decide) (fun c4 => ?_) (fun c4 => ?_)
  · rw [hp5, nI_z0 (by omega)] at c4
    refine g_aload_n hX dX6_undo_10 rfl rfl ?_
    refine g_dup hX dX6_undo_11 rfl ?_
    refine g_getI hX dX6_undo_12 flX6_62 (by assumption) rfl ?_
    refine g_iconst (v := nI 1) hX dX6_undo_15 (by decide) ?_
    refine g_isub hX dX6_undo_16 ?_
    rw [hp5, nI_subE (k := past.length - 1) (by omega) (by omega)]
    refine g_putI hX dX6_undo_17 flX6_62 (by assumption) rfl rfl ?_
    refine g_aload_n hX dX6_undo_20 rfl rfl ?_
    refine g_getR hX dX6_undo_21 flX6_22 (by assumption) rfl (by first | assumption | rfl) (by assumption) ?_
    refine g_bipush (v := nI 18) hX dX6_undo_24 (by decide) ?_
    refine g_aload_n hX dX6_undo_26 rfl rfl ?_
    refine g_getI hX dX6_undo_27 flX6_62 (by assumption) rfl ?_
    rw [up_same, up_same]
    refine g_imul hX dX6_undo_30 ?_
    rw [nI_mul]
    refine g_aload_n hX dX6_undo_31 rfl rfl ?_
    refine g_getR hX dX6_undo_32 flX6_16 (by assumption) rfl (by first | assumption | rfl) (by assumption) ?_
    refine g_iconst (v := nI 0) hX dX6_undo_35 (by decide) ?_
    refine g_bipush (v := nI 18) hX dX6_undo_36 (by decide) ?_
    refine g_callS (md' := mX6_copies) (As := [.ref _, .int _, .ref _, .int _, .int _]) hX hR dX6_undo_38 clX6_58 okX6_copies rfl rfl (Nat.le_of_ble_eq_true rfl) (Nat.le_of_ble_eq_true rfl) ⟨Nat.le_of_ble_eq_true rfl, Nat.le_of_ble_eq_true rfl⟩ ?_
    refine sp_X6_copies (i := 18 * (past.length - 1)) (j := 0) (c := 18) k4 k2 (by omega) (by decide) (by decide) (by decide) (kd_ne k4 k2 (by decide)) ?_
    obtain ⟨hwl, hbl⟩ := hMR.wfp c4
    refine g_ext (f := lastD past (I (κ.2.1 m 2))) k2 (fun k hk => ?_) ?_
    · rw [up_same, fb_put_in (Nat.zero_le _) (by omega), Nat.sub_zero, up_ne _ _ m4]
      exact hbl k hk
    rw [up_up]
    change GW _ _ _ 41 _ [] _ _ 0 0
    refine g_aload_n hX dX6_undo_41 rfl rfl ?_
    refine g_getI hX dX6_undo_42 flX6_62 (by assumption) rfl ?_
    rw [up_ne _ _ hMo.m2, up_same, up_same]
    refine g_iret hM dX6_undo_45 rfl (rfl) ⟨Nat.le_of_ble_eq_true rfl, Nat.le_of_ble_eq_true rfl⟩ ?_
    have e : undoA (I (κ.2.1 m 2)) past = (nI (past.length - 1), lastD past (I (κ.2.1 m 2)), past.dropLast) := if_neg c4
    rw [e] at hq
    exact hq _ ((hMR.cnt5 (p2 := past.dropLast) (by rw [List.length_dropLast]; omega) (by rw [List.length_dropLast]) hpB.init).now hwl) ((MOut.rf.up (Or.inl rfl)).up (Or.inr (Or.inr (Or.inr (Or.inl rfl)))))
  · rw [hp5, nI_z0 (by omega)] at c4
    refine g_bipush (v := (-2)) hX dX6_undo_7 (by decide) ?_
    refine g_iret hM dX6_undo_9 rfl (rfl) ⟨Nat.le_of_ble_eq_true rfl, Nat.le_of_ble_eq_true rfl⟩ ?_
    have e : undoA (I (κ.2.1 m 2)) past = (-2, I (κ.2.1 m 2), past) := by unfold undoA; exact if_pos c4
    rw [e] at hq
    exact hq I hMR MOut.rf

set_option maxHeartbeats 4000000 in
set_option maxRecDepth 100000 in
theorem sp_X6_keep {Γ : Ga} {d : Nat} {κ : Kp} {I : Ip} {Q : Option Value → Kp → Ip → Prop} {m P T : Nat} {w s : Nat → Int32} {past kept : List (Nat → Int32)} {tx : Nat → Int32} {sz : Nat}  (hMR : MR κ m I P T w s past kept tx sz)  (hq : ∀ J : Ip, MR κ m J P T w s past (keepA kept s).2 tx sz → MOut κ m I J → Q (some (.int (keepA kept s).1)) κ J) : Sp Γ (d + 1) mX6_keep [.ref (m)] κ I Q := by
  obtain ⟨hMo, rfl, rfl, hw, hP1, hs, hpl, hp5, hpB, hkl, hk7, hkB, hsz, hs9, htx, hlt⟩ := id hMR
  obtain ⟨hm, hm0, ⟨k0, n0⟩, ⟨k1, n1⟩, ⟨k2, n2⟩, ⟨k3, n3⟩, ⟨k4, n4⟩, ⟨k6, n6⟩, ⟨k8, n8⟩, ⟨k14, n14⟩, ⟨k15, n15⟩, ⟨k16, n16⟩, d01, d23, d614, d1516⟩ := id hMo
  obtain ⟨hw0, hw1, hP, hT, -⟩ := id hw
  have m6 : m ≠ κ.2.1 m 6 := hMo.m6
  intro X hM
  have hX := hM.std
  have hR := hM.room
  show GW _ mX6_keep X 0 [(0, .ref (m))] [] _ _ 0 0
  refine g_aload_n hX dX6_keep_0 rfl rfl ?_
  refine g_getI hX dX6_keep_1 flX6_66 (by assumption) rfl ?_
  refine g_iconst (v := nI 2) hX dX6_keep_4 (by decide) ?_
  refine g_icmpne 11 hX dX6_keep_5 (by decide) (fun c5 => ?_) (fun c5 => ?_)
  · rw [hk7, nI_eq (by omega) (by omega)] at c5
    refine g_aload_n hX dX6_keep_11 rfl rfl ?_
    refine g_getR hX dX6_keep_12 flX6_16 (by assumption) rfl (by first | assumption | rfl) (by assumption) ?_
    refine g_iconst (v := nI 0) hX dX6_keep_15 (by decide) ?_
    refine g_aload_n hX dX6_keep_16 rfl rfl ?_
    refine g_getR hX dX6_keep_17 flX6_25 (by assumption) rfl (by first | assumption | rfl) (by assumption) ?_
    refine g_bipush (v := nI 18) hX dX6_keep_20 (by decide) ?_
    refine g_aload_n hX dX6_keep_22 rfl rfl ?_
    refine g_getI hX dX6_keep_23 flX6_66 (by assumption) rfl ?_
    rw [hk7]
    refine g_imul hX dX6_keep_26 ?_
    rw [nI_mul]
    refine g_bipush (v := nI 18) hX dX6_keep_27 (by decide) ?_
    refine g_callS (md' := mX6_copies) (As := [.ref _, .int _, .ref _, .int _, .int _]) hX hR dX6_keep_29 clX6_58 okX6_copies rfl rfl (Nat.le_of_ble_eq_true rfl) (Nat.le_of_ble_eq_true rfl) ⟨Nat.le_of_ble_eq_true rfl, Nat.le_of_ble_eq_true rfl⟩ ?_
    refine sp_X6_copies (i := 0) (j := 18 * kept.length) (c := 18) k2 k6 (by decide) (by omega) (by decide) (by decide) (kd_ne k2 k6 (by decide)) ?_
    change GW _ _ _ 32 _ [] _ _ 0 0
    refine g_aload_n hX dX6_keep_32 rfl rfl ?_
    refine g_dup hX dX6_keep_33 rfl ?_
    refine g_getI hX dX6_keep_34 flX6_66 (by assumption) rfl ?_
    rw [up_ne _ _ m6, hk7]
    refine g_iconst (v := nI 1) hX dX6_keep_37 (by decide) ?_
    refine g_iadd hX dX6_keep_38 ?_
    rw [nI_add]
    refine g_putI hX dX6_keep_39 flX6_66 (by assumption) rfl rfl ?_
    refine g_aload_n hX dX6_keep_42 rfl rfl ?_
    refine g_getI hX dX6_keep_43 flX6_66 (by assumption) rfl ?_
    rw [up_same, up_same]
    refine g_iret hM dX6_keep_46 rfl (rfl) ⟨Nat.le_of_ble_eq_true rfl, Nat.le_of_ble_eq_true rfl⟩ ?_
    have e : keepA kept (I (κ.2.1 m 2)) = (nI (kept.length + 1), kept ++ [(I (κ.2.1 m 2))]) := if_neg c5
    rw [e] at hq
    have hm1 := hMR.kpt (f := fb_put (I (κ.2.1 m 6)) (fun q => I (κ.2.1 m 2) (0 + q)) (18 * kept.length) 18) (c := nI (kept.length + 1)) (p2 := kept ++ [(I (κ.2.1 m 2))]) (by rw [List.length_append]; simp; omega) (by rw [List.length_append]; rfl) (Blk.app hkB hs)
    have e2 : va_up I (κ.2.1 m 6) (fb_put (I (κ.2.1 m 6)) (fun q => I (κ.2.1 m 2) (0 + q)) (18 * kept.length) 18) m = I m := up_ne _ _ m6
    rw [e2]
    exact hq _ hm1 ((MOut.rf.up (Or.inr (Or.inr (Or.inr (Or.inr (Or.inr (Or.inr (Or.inl rfl)))))))).up (Or.inl rfl))
  · rw [hk7, nI_eq (by omega) (by omega)] at c5
    refine g_bipush (v := (-3)) hX dX6_keep_8 (by decide) ?_
    refine g_iret hM dX6_keep_10 rfl (rfl) ⟨Nat.le_of_ble_eq_true rfl, Nat.le_of_ble_eq_true rfl⟩ ?_
    have e : keepA kept (I (κ.2.1 m 2)) = (-3, kept) := if_pos c5
    rw [e] at hq
    exact hq I hMR MOut.rf

set_option maxHeartbeats 4000000 in
set_option maxRecDepth 100000 in
theorem sp_X6_back {Γ : Ga} {d : Nat} {κ : Kp} {I : Ip} {Q : Option Value → Kp → Ip → Prop} {m P T : Nat} {w s : Nat → Int32} {past kept : List (Nat → Int32)} {tx : Nat → Int32} {sz : Nat}  (hMR : MR κ m I P T w s past kept tx sz)  (hq : ∀ J : Ip, MR κ m J P T w (backA s past kept).2.1 (backA s past kept).2.2.1 (backA s past kept).2.2.2 tx sz → MOut κ m I J → Q (some (.int (backA s past kept).1)) κ J) : Sp Γ (d + 1) mX6_back [.ref (m)] κ I Q := by
  obtain ⟨hMo, rfl, rfl, hw, hP1, hs, hpl, hp5, hpB, hkl, hk7, hkB, hsz, hs9, htx, hlt⟩ := id hMR
  obtain ⟨hm, hm0, ⟨k0, n0⟩, ⟨k1, n1⟩, ⟨k2, n2⟩, ⟨k3, n3⟩, ⟨k4, n4⟩, ⟨k6, n6⟩, ⟨k8, n8⟩, ⟨k14, n14⟩, ⟨k15, n15⟩, ⟨k16, n16⟩, d01, d23, d614, d1516⟩ := id hMo
  obtain ⟨hw0, hw1, hP, hT, -⟩ := id hw
  have m6 : κ.2.1 m 6 ≠ m := kd_ne k6 hm (by decide)
  have m2 : κ.2.1 m 2 ≠ m := kd_ne k2 hm (by decide)
  intro X hM
  have hX := hM.std
  have hR := hM.room
  show GW _ mX6_back X 0 [(0, .ref (m))] [] _ _ 0 0
  refine g_aload_n hX dX6_back_0 rfl rfl ?_
  refine g_getI hX dX6_back_1 flX6_66 (by assumption) rfl ?_
  refine g_ifne 10 hX dX6_back_4 (by decide) (fun c4 => ?_) (fun c4 => ?_)
  · rw [hk7, nI_z0 (by omega)] at c4
    refine g_aload_n hX dX6_back_10 rfl rfl ?_
    refine g_dup hX dX6_back_11 rfl ?_
    refine g_getI hX dX6_back_12 flX6_66 (by assumption) rfl ?_
    refine g_iconst (v := nI 1) hX dX6_back_15 (by decide) ?_
    refine g_isub hX dX6_back_16 ?_
    rw [hk7, nI_subE (k := kept.length - 1) (by omega) (by omega)]
    refine g_putI hX dX6_back_17 flX6_66 (by assumption) rfl rfl ?_
    refine g_aload_n hX dX6_back_20 rfl rfl ?_
    refine g_getR hX dX6_back_21 flX6_25 (by assumption) rfl (by first | assumption | rfl) (by assumption) ?_
    refine g_bipush (v := nI 18) hX dX6_back_24 (by decide) ?_
    refine g_aload_n hX dX6_back_26 rfl rfl ?_
    refine g_getI hX dX6_back_27 flX6_66 (by assumption) rfl ?_
    rw [up_same, up_same]
    refine g_imul hX dX6_back_30 ?_
    rw [nI_mul]
    refine g_aload_n hX dX6_back_31 rfl rfl ?_
    refine g_getR hX dX6_back_32 flX6_16 (by assumption) rfl (by first | assumption | rfl) (by assumption) ?_
    refine g_iconst (v := nI 0) hX dX6_back_35 (by decide) ?_
    refine g_bipush (v := nI 18) hX dX6_back_36 (by decide) ?_
    refine g_callS (md' := mX6_copies) (As := [.ref _, .int _, .ref _, .int _, .int _]) hX hR dX6_back_38 clX6_58 okX6_copies rfl rfl (Nat.le_of_ble_eq_true rfl) (Nat.le_of_ble_eq_true rfl) ⟨Nat.le_of_ble_eq_true rfl, Nat.le_of_ble_eq_true rfl⟩ ?_
    refine sp_X6_copies (i := 18 * (kept.length - 1)) (j := 0) (c := 18) k6 k2 (by omega) (by decide) (by decide) (by decide) (kd_ne k6 k2 (by decide)) ?_
    obtain ⟨hwl, hbl⟩ := hMR.wfk c4
    refine g_ext (f := lastD kept (I (κ.2.1 m 2))) k2 (fun k hk => ?_) ?_
    · rw [up_same, fb_put_in (Nat.zero_le _) (by omega), Nat.sub_zero, up_ne _ _ m6]
      exact hbl k hk
    rw [up_up]
    change GW _ _ _ 41 _ [] _ _ 0 0
    refine g_aload_n hX dX6_back_41 rfl rfl ?_
    refine g_iconst (v := nI 0) hX dX6_back_42 (by decide) ?_
    refine g_putI hX dX6_back_43 flX6_62 (by assumption) rfl rfl ?_
    refine g_aload_n hX dX6_back_46 rfl rfl ?_
    refine g_getI hX dX6_back_47 flX6_66 (by assumption) rfl ?_
    rw [up_same, up_ne _ _ (by decide), up_ne _ _ hMo.m2, up_same, up_same]
    refine g_iret hM dX6_back_50 rfl (rfl) ⟨Nat.le_of_ble_eq_true rfl, Nat.le_of_ble_eq_true rfl⟩ ?_
    have e : backA (I (κ.2.1 m 2)) past kept = (nI (kept.length - 1), lastD kept (I (κ.2.1 m 2)), [], kept.dropLast) := if_neg c4
    rw [e] at hq
    have hmm := ((hMR.cnt7 (c := nI (kept.length - 1)) (p2 := kept.dropLast) (by rw [List.length_dropLast]; omega) (by rw [List.length_dropLast]) hkB.init).now hwl).cnt5 (c := nI 0) (p2 := []) (by decide) rfl (fun i g h => by simp at h)
    rw [up_ne _ _ hMo.m2, up_same] at hmm
    exact hq _ hmm (((MOut.rf.up (Or.inl rfl)).up (Or.inr (Or.inr (Or.inr (Or.inl rfl))))).up (Or.inl rfl))
  · rw [hk7, nI_z0 (by omega)] at c4
    refine g_bipush (v := (-2)) hX dX6_back_7 (by decide) ?_
    refine g_iret hM dX6_back_9 rfl (rfl) ⟨Nat.le_of_ble_eq_true rfl, Nat.le_of_ble_eq_true rfl⟩ ?_
    have e : backA (I (κ.2.1 m 2)) past kept = (-2, (I (κ.2.1 m 2)), past, kept) := if_pos c4
    rw [e] at hq
    exact hq I hMR MOut.rf

set_option maxHeartbeats 4000000 in
set_option maxRecDepth 100000 in
theorem lp_X6_count_74 {Γ : Ga} {d : Nat} {κ : Kp} {Q : Option Value → Kp → Ip → Prop} {X : Cx} {I : Ip} {m P T : Nat} {x : Int32} (hM : Mx Γ (d + 4) mX6_count Q X) (hMo : MoK κ m) (hw : WfT (I (κ.2.1 m 0)) P T) (hq : Q (some (.int (nI (pairsF (I (κ.2.1 m 0)) P / 2)))) κ I) : ∀ (n : Nat) (p : Nat), n = P - p → p ≤ P → GW Γ mX6_count X 74 [(3, .int (nI p)), (2, .int (nI (fb_sm (fun p => pcI ((I (κ.2.1 m 0)) (8 + p))) p))), (0, .ref (m)), (1, .int (x))] [] κ (I) 0 0 := by
  have hX := hM.std
  have hR := hM.room
  intro n
  induction n using Nat.strongRecOn with
  | ind n ih =>
    intro p hn hp
    obtain ⟨hm, hm0, ⟨k0, n0⟩, ⟨k1, n1⟩, ⟨k2, n2⟩, ⟨k3, n3⟩, ⟨k4, n4⟩, ⟨k6, n6⟩, ⟨k8, n8⟩, ⟨k14, n14⟩, ⟨k15, n15⟩, ⟨k16, n16⟩, d01, d23, d614, d1516⟩ := id hMo
    obtain ⟨hw0, hw1, hP, hT, -⟩ := id hw
    have hle : pairsF (I (κ.2.1 m 0)) P ≤ P * 9 := fb_sm_bound (fun k _ => fb_ct_le _ _)
    refine g_iload_n hX dX6_count_74 rfl rfl ?_
    refine g_aload_n hX dX6_count_75 rfl rfl ?_
    refine g_getR hX dX6_count_76 flX6_7 (by assumption) rfl (by first | assumption | rfl) (by assumption) ?_
    refine g_iconst (v := nI 0) hX dX6_count_79 (by decide) ?_
    refine g_ialdN hX dX6_count_80 (by assumption) (rfl) (by omega) (by first | decide | omega) ?_
    refine g_icmpge 105 hX dX6_count_81 (by decide) (fun c81 => ?_) (fun c81 => ?_)
    · rw [hw0, nI_leI (by omega) (by omega)] at c81
      refine g_iload_n hX dX6_count_105 rfl rfl ?_
      refine g_iconst (v := nI 2) hX dX6_count_106 (by decide) ?_
      refine g_idiv hX dX6_count_107 (by decide) ?_
      refine g_iret hM dX6_count_108 rfl (rfl) ⟨Nat.le_of_ble_eq_true rfl, Nat.le_of_ble_eq_true rfl⟩ ?_
      have e : p = P := by omega
      subst e
      refine q_int ?_ hq
      exact (nI_div (by show pairsF _ _ < _; omega) (by decide)).symm
    · rw [hw0, nI_leI (by omega) (by omega)] at c81
      refine g_iload_n hX dX6_count_84 rfl rfl ?_
      refine g_aload_n hX dX6_count_85 rfl rfl ?_
      refine g_getR hX dX6_count_86 flX6_7 (by assumption) rfl (by first | assumption | rfl) (by assumption) ?_
      refine g_bipush (v := nI 8) hX dX6_count_89 (by decide) ?_
      refine g_iload_n hX dX6_count_91 rfl rfl ?_
      refine g_iadd hX dX6_count_92 ?_
      refine g_ialdN hX dX6_count_93 (by assumption) (nI_add _ _) (by omega) (by first | decide | omega) ?_
      refine g_callS (md' := mX6_bits) (As := [.int _]) hX hR dX6_count_94 clX6_178 okX6_bits rfl rfl (Nat.le_of_ble_eq_true rfl) (Nat.le_of_ble_eq_true rfl) ⟨Nat.le_of_ble_eq_true rfl, Nat.le_of_ble_eq_true rfl⟩ ?_
      obtain ⟨kk, hkk, ekk⟩ := small_nI (N := 6) (by decide) (fun i hi => Nat.lt_of_lt_of_le (hw.2.2.2.2.2.1 p (by omega) i hi).1 hP)
      rw [ekk]
      refine sp_X6_bits (by omega) ?_
      rw [← pcI_nI (by omega), ← ekk]
      change GW _ _ _ 97 _ [.int _, .int _] _ _ 0 0
      refine g_iadd hX dX6_count_97 ?_
      refine g_istore_n (lv' := [(2, .int _), (3, .int _), (0, .ref _), (1, .int _)]) hX dX6_count_98 rfl (by decide) rfl ?_
      refine g_iinc (lv' := [(3, .int _), (2, .int _), (0, .ref _), (1, .int _)]) hX dX6_count_99 rfl (by first | exact nI_inc _ | rfl) (by decide) rfl ?_
      refine g_goto 74 hX dX6_count_102 (by decide) ?_
      rw [nI_add]
      exact g_pick [0, 1, 2, 3] rfl (ih (P - (p + 1)) (by omega) (p + 1) rfl (by omega))

set_option maxHeartbeats 4000000 in
set_option maxRecDepth 100000 in
theorem sp_X6_count {Γ : Ga} {d : Nat} {κ : Kp} {I : Ip} {Q : Option Value → Kp → Ip → Prop} {m P T : Nat} {w s : Nat → Int32} {past kept : List (Nat → Int32)} {tx : Nat → Int32} {sz : Nat} {x : Int32} (hMR : MR κ m I P T w s past kept tx sz)  (hq : Q (some (.int (countA w s P T past kept sz x))) κ I) : Sp Γ (d + 4) mX6_count [.ref (m), .int (x)] κ I Q := by
  obtain ⟨hMo, rfl, rfl, hw, hP1, hs, hpl, hp5, hpB, hkl, hk7, hkB, hsz, hs9, htx, hlt⟩ := id hMR
  obtain ⟨hm, hm0, ⟨k0, n0⟩, ⟨k1, n1⟩, ⟨k2, n2⟩, ⟨k3, n3⟩, ⟨k4, n4⟩, ⟨k6, n6⟩, ⟨k8, n8⟩, ⟨k14, n14⟩, ⟨k15, n15⟩, ⟨k16, n16⟩, d01, d23, d614, d1516⟩ := id hMo
  obtain ⟨hw0, hw1, hP, hT, -⟩ := id hw
  intro X hM
  have hX := hM.std
  have hR := hM.room
  show GW _ mX6_count X 0 [(0, .ref (m)), (1, .int (x))] [] _ _ 0 0
  refine g_iload_n hX dX6_count_0 rfl rfl ?_
  by_cases ht : x.toInt < 0 ∨ (9 : Int) < x.toInt
  · refine g_tableOut 160 hX dX6_count_1 ht (by decide) ?_
    refine g_iconst (v := (-1)) hX dX6_count_160 (by decide) ?_
    refine g_iret hM dX6_count_161 rfl (rfl) ⟨Nat.le_of_ble_eq_true rfl, Nat.le_of_ble_eq_true rfl⟩ ?_
    refine q_int ?_ hq
    unfold countA
    rw [if_neg (out_ne ht (k := 0) (by decide) (by decide)), if_neg (out_ne ht (k := 1) (by decide) (by decide)), if_neg (out_ne ht (k := 2) (by decide) (by decide)), if_neg (out_ne ht (k := 3) (by decide) (by decide)), if_neg (out_ne ht (k := 4) (by decide) (by decide)), if_neg (out_ne ht (k := 5) (by decide) (by decide)), if_neg (out_ne ht (k := 6) (by decide) (by decide)), if_neg (out_ne ht (k := 7) (by decide) (by decide)), if_neg (out_ne ht (k := 8) (by decide) (by decide)), if_neg (out_ne ht (k := 9) (by decide) (by decide))]
  · obtain ⟨jj, hjj, rfl⟩ := tbl_of (hi := 9) ht
    rcases (show jj = 0 ∨ jj = 1 ∨ jj = 2 ∨ jj = 3 ∨ jj = 4 ∨ jj = 5 ∨ jj = 6 ∨ jj = 7 ∨ jj = 8 ∨ jj = 9 by omega) with rfl | rfl | rfl | rfl | rfl | rfl | rfl | rfl | rfl | rfl
    · refine g_tableIn 56 hX dX6_count_1 (by decide) (by decide) (off := 55) (by decide) (by decide) ?_
      refine g_aload_n hX dX6_count_56 rfl rfl ?_
      refine g_getR hX dX6_count_57 flX6_7 (by assumption) rfl (by first | assumption | rfl) (by assumption) ?_
      refine g_iconst (v := nI 0) hX dX6_count_60 (by decide) ?_
      refine g_ialdN hX dX6_count_61 (by assumption) (rfl) (by omega) (by first | decide | omega) ?_
      refine g_iret hM dX6_count_62 rfl (rfl) ⟨Nat.le_of_ble_eq_true rfl, Nat.le_of_ble_eq_true rfl⟩ ?_
      refine q_int ?_ hq
      unfold countA
      rw [if_pos rfl]
      exact hw0.symm
    · refine g_tableIn 63 hX dX6_count_1 (by decide) (by decide) (off := 62) (by decide) (by decide) ?_
      refine g_aload_n hX dX6_count_63 rfl rfl ?_
      refine g_getR hX dX6_count_64 flX6_7 (by assumption) rfl (by first | assumption | rfl) (by assumption) ?_
      refine g_iconst (v := nI 1) hX dX6_count_67 (by decide) ?_
      refine g_ialdN hX dX6_count_68 (by assumption) (rfl) (by omega) (by first | decide | omega) ?_
      refine g_iret hM dX6_count_69 rfl (rfl) ⟨Nat.le_of_ble_eq_true rfl, Nat.le_of_ble_eq_true rfl⟩ ?_
      refine q_int ?_ hq
      unfold countA
      rw [if_neg (by decide), if_pos rfl]
      exact hw1.symm
    · refine g_tableIn 70 hX dX6_count_1 (by decide) (by decide) (off := 69) (by decide) (by decide) ?_
      refine g_iconst (v := nI 0) hX dX6_count_70 (by decide) ?_
      refine g_istore_n (lv' := [(2, .int _), (0, .ref _), (1, .int _)]) hX dX6_count_71 rfl (by decide) rfl ?_
      refine g_iconst (v := nI 0) hX dX6_count_72 (by decide) ?_
      refine g_istore_n (lv' := [(3, .int _), (2, .int _), (0, .ref _), (1, .int _)]) hX dX6_count_73 rfl (by decide) rfl ?_
      refine g_pick [0, 1, 2, 3] rfl (lp_X6_count_74 hM hMo hw (q_int ?_ hq) P 0 (Nat.sub_zero P).symm (Nat.zero_le _))
      unfold countA
      rw [if_neg (by decide), if_neg (by decide), if_pos rfl]
    · refine g_tableIn 109 hX dX6_count_1 (by decide) (by decide) (off := 108) (by decide) (by decide) ?_
      refine g_aload_n hX dX6_count_109 rfl rfl ?_
      refine g_getR hX dX6_count_110 flX6_16 (by assumption) rfl (by first | assumption | rfl) (by assumption) ?_
      refine g_bipush (v := nI 16) hX dX6_count_113 (by decide) ?_
      refine g_ialdN hX dX6_count_115 (by assumption) (rfl) (by omega) (by first | decide | omega) ?_
      refine g_iret hM dX6_count_116 rfl (rfl) ⟨Nat.le_of_ble_eq_true rfl, Nat.le_of_ble_eq_true rfl⟩ ?_
      refine q_int ?_ hq
      unfold countA
      rw [if_neg (by decide), if_neg (by decide), if_neg (by decide), if_pos rfl]
    · refine g_tableIn 117 hX dX6_count_1 (by decide) (by decide) (off := 116) (by decide) (by decide) ?_
      refine g_aload_n hX dX6_count_117 rfl rfl ?_
      refine g_getR hX dX6_count_118 flX6_16 (by assumption) rfl (by first | assumption | rfl) (by assumption) ?_
      refine g_bipush (v := nI 17) hX dX6_count_121 (by decide) ?_
      refine g_ialdN hX dX6_count_123 (by assumption) (rfl) (by omega) (by first | decide | omega) ?_
      refine g_iret hM dX6_count_124 rfl (rfl) ⟨Nat.le_of_ble_eq_true rfl, Nat.le_of_ble_eq_true rfl⟩ ?_
      refine q_int ?_ hq
      unfold countA
      rw [if_neg (by decide), if_neg (by decide), if_neg (by decide), if_neg (by decide), if_pos rfl]
    · refine g_tableIn 125 hX dX6_count_1 (by decide) (by decide) (off := 124) (by decide) (by decide) ?_
      refine g_aload_n hX dX6_count_125 rfl rfl ?_
      refine g_getR hX dX6_count_126 flX6_16 (by assumption) rfl (by first | assumption | rfl) (by assumption) ?_
      refine g_bipush (v := nI 9) hX dX6_count_129 (by decide) ?_
      refine g_ialdN hX dX6_count_131 (by assumption) (rfl) (by omega) (by first | decide | omega) ?_
      refine g_callS (md' := mX6_bits) (As := [.int _]) hX hR dX6_count_132 clX6_178 okX6_bits rfl rfl (Nat.le_of_ble_eq_true rfl) (Nat.le_of_ble_eq_true rfl) ⟨Nat.le_of_ble_eq_true rfl, Nat.le_of_ble_eq_true rfl⟩ ?_
      obtain ⟨kk, hkk, ekk⟩ := small_nI (N := 9) (by decide) (fun i hi => Nat.lt_of_lt_of_le (hs.2.1 i hi) hT)
      rw [ekk]
      refine sp_X6_bits hkk ?_
      rw [← pcI_nI hkk, ← ekk]
      change GW _ _ _ 135 _ [.int _] _ _ 0 0
      refine g_iret hM dX6_count_135 rfl (rfl) ⟨Nat.le_of_ble_eq_true rfl, Nat.le_of_ble_eq_true rfl⟩ ?_
      refine q_int ?_ hq
      unfold countA
      rw [if_neg (by decide), if_neg (by decide), if_neg (by decide), if_neg (by decide), if_neg (by decide), if_pos rfl]
    · refine g_tableIn 136 hX dX6_count_1 (by decide) (by decide) (off := 135) (by decide) (by decide) ?_
      refine g_aload_n hX dX6_count_136 rfl rfl ?_
      refine g_aload_n hX dX6_count_137 rfl rfl ?_
      refine g_getR hX dX6_count_138 flX6_16 (by assumption) rfl (by first | assumption | rfl) (by assumption) ?_
      refine g_callV (md' := mX6_known) (ci := 6) (As := [.ref _]) hX hR dX6_count_141 clX6_245 okX6_known rfl (by assumption) rfl rfl (Nat.le_of_ble_eq_true rfl) (Nat.le_of_ble_eq_true rfl) ⟨Nat.le_of_ble_eq_true rfl, Nat.le_of_ble_eq_true rfl⟩ ?_
      refine sp_X6_known (P := P) (T := T) hMo hw k2 hs ?_
      change GW _ _ _ 144 _ [.int _] _ _ 0 0
      refine g_iret hM dX6_count_144 rfl (rfl) ⟨Nat.le_of_ble_eq_true rfl, Nat.le_of_ble_eq_true rfl⟩ ?_
      refine q_int ?_ hq
      unfold countA
      rw [if_neg (by decide), if_neg (by decide), if_neg (by decide), if_neg (by decide), if_neg (by decide), if_neg (by decide), if_pos rfl]
    · refine g_tableIn 145 hX dX6_count_1 (by decide) (by decide) (off := 144) (by decide) (by decide) ?_
      refine g_aload_n hX dX6_count_145 rfl rfl ?_
      refine g_getI hX dX6_count_146 flX6_62 (by assumption) rfl ?_
      refine g_iret hM dX6_count_149 rfl (rfl) ⟨Nat.le_of_ble_eq_true rfl, Nat.le_of_ble_eq_true rfl⟩ ?_
      refine q_int ?_ hq
      unfold countA
      rw [if_neg (by decide), if_neg (by decide), if_neg (by decide), if_neg (by decide), if_neg (by decide), if_neg (by decide), if_neg (by decide), if_pos rfl]
      exact hp5.symm
    · refine g_tableIn 150 hX dX6_count_1 (by decide) (by decide) (off := 149) (by decide) (by decide) ?_
      refine g_aload_n hX dX6_count_150 rfl rfl ?_
      refine g_getI hX dX6_count_151 flX6_66 (by assumption) rfl ?_
      refine g_iret hM dX6_count_154 rfl (rfl) ⟨Nat.le_of_ble_eq_true rfl, Nat.le_of_ble_eq_true rfl⟩ ?_
      refine q_int ?_ hq
      unfold countA
      rw [if_neg (by decide), if_neg (by decide), if_neg (by decide), if_neg (by decide), if_neg (by decide), if_neg (by decide), if_neg (by decide), if_neg (by decide), if_pos rfl]
      exact hk7.symm
    · refine g_tableIn 155 hX dX6_count_1 (by decide) (by decide) (off := 154) (by decide) (by decide) ?_
      refine g_aload_n hX dX6_count_155 rfl rfl ?_
      refine g_getI hX dX6_count_156 flX6_77 (by assumption) rfl ?_
      refine g_iret hM dX6_count_159 rfl (rfl) ⟨Nat.le_of_ble_eq_true rfl, Nat.le_of_ble_eq_true rfl⟩ ?_
      refine q_int ?_ hq
      unfold countA
      rw [if_neg (by decide), if_neg (by decide), if_neg (by decide), if_neg (by decide), if_neg (by decide), if_neg (by decide), if_neg (by decide), if_neg (by decide), if_neg (by decide), if_pos rfl]
      exact hs9.symm

set_option maxHeartbeats 4000000 in
set_option maxRecDepth 100000 in
theorem sp_X6_person {Γ : Ga} {d : Nat} {κ : Kp} {I : Ip} {Q : Option Value → Kp → Ip → Prop} {m P T : Nat} {w s : Nat → Int32} {past kept : List (Nat → Int32)} {tx : Nat → Int32} {sz : Nat} {x y : Int32} (hMR : MR κ m I P T w s past kept tx sz)  (hq : Q (some (.int (personA w s P T x y))) κ I) : Sp Γ (d + 3) mX6_person [.ref (m), .int (x), .int (y)] κ I Q := by
  obtain ⟨hMo, rfl, rfl, hw, hP1, hs, hpl, hp5, hpB, hkl, hk7, hkB, hsz, hs9, htx, hlt⟩ := id hMR
  obtain ⟨hm, hm0, ⟨k0, n0⟩, ⟨k1, n1⟩, ⟨k2, n2⟩, ⟨k3, n3⟩, ⟨k4, n4⟩, ⟨k6, n6⟩, ⟨k8, n8⟩, ⟨k14, n14⟩, ⟨k15, n15⟩, ⟨k16, n16⟩, d01, d23, d614, d1516⟩ := id hMo
  obtain ⟨hw0, hw1, hP, hT, -⟩ := id hw
  intro X hM
  have hX := hM.std
  have hR := hM.room
  show GW _ mX6_person X 0 [(0, .ref (m)), (1, .int (x)), (2, .int (y))] [] _ _ 0 0
  refine g_aload_n hX dX6_person_0 rfl rfl ?_
  refine g_iload_n hX dX6_person_1 rfl rfl ?_
  refine g_callV (md' := mX6_isOne) (ci := 6) (As := [.int _]) hX hR dX6_person_2 clX6_128 okX6_isOne rfl (by assumption) rfl rfl (Nat.le_of_ble_eq_true rfl) (Nat.le_of_ble_eq_true rfl) ⟨Nat.le_of_ble_eq_true rfl, Nat.le_of_ble_eq_true rfl⟩ ?_
  refine sp_X6_isOne hMo hw0 (by omega) ?_
  change GW _ _ _ 5 _ [.int _] _ _ 0 0
  refine g_ifne 10 hX dX6_person_5 (by decide) (fun c5 => ?_) (fun c5 => ?_)
  · rw [b2i_n0, decide_eq_true_eq] at c5
    obtain ⟨i1, hi1, rfl⟩ := inN_of c5
    refine g_iload_n hX dX6_person_10 rfl rfl ?_
    by_cases ht : y.toInt < 0 ∨ (3 : Int) < y.toInt
    · refine g_tableOut 79 hX dX6_person_11 ht (by decide) ?_
      refine g_iconst (v := (-1)) hX dX6_person_79 (by decide) ?_
      refine g_iret hM dX6_person_80 rfl (rfl) ⟨Nat.le_of_ble_eq_true rfl, Nat.le_of_ble_eq_true rfl⟩ ?_
      refine q_int ?_ hq
      unfold personA
      rw [if_pos c5, if_neg (out_ne ht (k := 0) (by decide) (by decide)), if_neg (out_ne ht (k := 1) (by decide) (by decide)), if_neg (out_ne ht (k := 2) (by decide) (by decide)), if_neg (out_ne ht (k := 3) (by decide) (by decide))]
    · obtain ⟨jj, hjj, rfl⟩ := tbl_of (hi := 3) ht
      rcases (show jj = 0 ∨ jj = 1 ∨ jj = 2 ∨ jj = 3 by omega) with rfl | rfl | rfl | rfl
      · refine g_tableIn 40 hX dX6_person_11 (by decide) (by decide) (off := 29) (by decide) (by decide) ?_
        refine g_aload_n hX dX6_person_40 rfl rfl ?_
        refine g_getR hX dX6_person_41 flX6_7 (by assumption) rfl (by first | assumption | rfl) (by assumption) ?_
        refine g_iconst (v := nI 2) hX dX6_person_44 (by decide) ?_
        refine g_iload_n hX dX6_person_45 rfl rfl ?_
        refine g_iadd hX dX6_person_46 ?_
        refine g_ialdN hX dX6_person_47 (by assumption) (nI_add _ _) (by omega) (by first | decide | omega) ?_
        refine g_iret hM dX6_person_48 rfl (rfl) ⟨Nat.le_of_ble_eq_true rfl, Nat.le_of_ble_eq_true rfl⟩ ?_
        refine q_int ?_ hq
        unfold personA
        rw [if_pos c5, if_pos rfl, nI_clamp (by omega)]
      · refine g_tableIn 49 hX dX6_person_11 (by decide) (by decide) (off := 38) (by decide) (by decide) ?_
        refine g_aload_n hX dX6_person_49 rfl rfl ?_
        refine g_getR hX dX6_person_50 flX6_7 (by assumption) rfl (by first | assumption | rfl) (by assumption) ?_
        refine g_bipush (v := nI 8) hX dX6_person_53 (by decide) ?_
        refine g_iload_n hX dX6_person_55 rfl rfl ?_
        refine g_iadd hX dX6_person_56 ?_
        refine g_ialdN hX dX6_person_57 (by assumption) (nI_add _ _) (by omega) (by first | decide | omega) ?_
        refine g_iret hM dX6_person_58 rfl (rfl) ⟨Nat.le_of_ble_eq_true rfl, Nat.le_of_ble_eq_true rfl⟩ ?_
        refine q_int ?_ hq
        unfold personA
        rw [if_pos c5, if_neg (by decide), if_pos rfl, nI_clamp (by omega)]
      · refine g_tableIn 59 hX dX6_person_11 (by decide) (by decide) (off := 48) (by decide) (by decide) ?_
        refine g_aload_n hX dX6_person_59 rfl rfl ?_
        refine g_iload_n hX dX6_person_60 rfl rfl ?_
        refine g_callV (md' := mX6_knownBy) (ci := 6) (As := [.int _]) hX hR dX6_person_61 clX6_131 okX6_knownBy rfl (by assumption) rfl rfl (Nat.le_of_ble_eq_true rfl) (Nat.le_of_ble_eq_true rfl) ⟨Nat.le_of_ble_eq_true rfl, Nat.le_of_ble_eq_true rfl⟩ ?_
        refine sp_X6_knownBy (T := T) hMo hw1 hT (by omega) ?_
        change GW _ _ _ 64 _ [.int _] _ _ 0 0
        refine g_iret hM dX6_person_64 rfl (rfl) ⟨Nat.le_of_ble_eq_true rfl, Nat.le_of_ble_eq_true rfl⟩ ?_
        refine q_int ?_ hq
        unfold personA
        rw [if_pos c5, if_neg (by decide), if_neg (by decide), if_pos rfl, nI_clamp (by omega)]
      · refine g_tableIn 65 hX dX6_person_11 (by decide) (by decide) (off := 54) (by decide) (by decide) ?_
        refine g_aload_n hX dX6_person_65 rfl rfl ?_
        refine g_iload_n hX dX6_person_66 rfl rfl ?_
        refine g_callV (md' := mX6_sits) (ci := 6) (As := [.int _]) hX hR dX6_person_67 clX6_134 okX6_sits rfl (by assumption) rfl rfl (Nat.le_of_ble_eq_true rfl) (Nat.le_of_ble_eq_true rfl) ⟨Nat.le_of_ble_eq_true rfl, Nat.le_of_ble_eq_true rfl⟩ ?_
        refine sp_X6_sits hMo ?_
        change GW _ _ _ 70 _ [.int _] _ _ 0 0
        refine g_ifeq 77 hX dX6_person_70 (by decide) (fun c70 => ?_) (fun c70 => ?_)
        · rw [b2i_0, decide_eq_false_iff_not] at c70
          refine g_iconst (v := nI 0) hX dX6_person_77 (by decide) ?_
          refine g_iret hM dX6_person_78 rfl (rfl) ⟨Nat.le_of_ble_eq_true rfl, Nat.le_of_ble_eq_true rfl⟩ ?_
          refine q_int ?_ hq
          unfold personA
          rw [if_pos c5, if_neg (by decide), if_neg (by decide), if_neg (by decide), if_pos rfl, decide_eq_false c70]
          rfl
        · rw [b2i_n0, decide_eq_true_eq] at c70
          refine g_iconst (v := nI 1) hX dX6_person_73 (by decide) ?_
          refine g_goto 78 hX dX6_person_74 (by decide) ?_
          refine g_iret hM dX6_person_78 rfl (rfl) ⟨Nat.le_of_ble_eq_true rfl, Nat.le_of_ble_eq_true rfl⟩ ?_
          refine q_int ?_ hq
          unfold personA
          rw [if_pos c5, if_neg (by decide), if_neg (by decide), if_neg (by decide), if_pos rfl, decide_eq_true c70]
          rfl
  · rw [b2i_0, decide_eq_false_iff_not] at c5
    refine g_iconst (v := (-1)) hX dX6_person_8 (by decide) ?_
    refine g_iret hM dX6_person_9 rfl (rfl) ⟨Nat.le_of_ble_eq_true rfl, Nat.le_of_ble_eq_true rfl⟩ ?_
    refine q_int ?_ hq
    unfold personA
    rw [if_neg c5]

set_option maxHeartbeats 4000000 in
set_option maxRecDepth 100000 in
theorem sp_X6_tale {Γ : Ga} {d : Nat} {κ : Kp} {I : Ip} {Q : Option Value → Kp → Ip → Prop} {m P T : Nat} {w s : Nat → Int32} {past kept : List (Nat → Int32)} {tx : Nat → Int32} {sz : Nat} {x y : Int32} (hMR : MR κ m I P T w s past kept tx sz)  (hq : Q (some (.int (taleA w s T x y))) κ I) : Sp Γ (d + 3) mX6_tale [.ref (m), .int (x), .int (y)] κ I Q := by
  obtain ⟨hMo, rfl, rfl, hw, hP1, hs, hpl, hp5, hpB, hkl, hk7, hkB, hsz, hs9, htx, hlt⟩ := id hMR
  obtain ⟨hm, hm0, ⟨k0, n0⟩, ⟨k1, n1⟩, ⟨k2, n2⟩, ⟨k3, n3⟩, ⟨k4, n4⟩, ⟨k6, n6⟩, ⟨k8, n8⟩, ⟨k14, n14⟩, ⟨k15, n15⟩, ⟨k16, n16⟩, d01, d23, d614, d1516⟩ := id hMo
  obtain ⟨hw0, hw1, hP, hT, -⟩ := id hw
  intro X hM
  have hX := hM.std
  have hR := hM.room
  show GW _ mX6_tale X 0 [(0, .ref (m)), (1, .int (x)), (2, .int (y))] [] _ _ 0 0
  refine g_aload_n hX dX6_tale_0 rfl rfl ?_
  refine g_iload_n hX dX6_tale_1 rfl rfl ?_
  refine g_callV (md' := mX6_isTaleOf) (ci := 6) (As := [.int _]) hX hR dX6_tale_2 clX6_137 okX6_isTaleOf rfl (by assumption) rfl rfl (Nat.le_of_ble_eq_true rfl) (Nat.le_of_ble_eq_true rfl) ⟨Nat.le_of_ble_eq_true rfl, Nat.le_of_ble_eq_true rfl⟩ ?_
  refine sp_X6_isTaleOf hMo hw1 (by omega) ?_
  change GW _ _ _ 5 _ [.int _] _ _ 0 0
  refine g_ifne 10 hX dX6_tale_5 (by decide) (fun c5 => ?_) (fun c5 => ?_)
  · rw [b2i_n0, decide_eq_true_eq] at c5
    obtain ⟨i1, hi1, rfl⟩ := inN_of c5
    refine g_iload_n hX dX6_tale_10 rfl rfl ?_
    by_cases ht : y.toInt < 0 ∨ (4 : Int) < y.toInt
    · refine g_tableOut 80 hX dX6_tale_11 ht (by decide) ?_
      refine g_iconst (v := (-1)) hX dX6_tale_80 (by decide) ?_
      refine g_iret hM dX6_tale_81 rfl (rfl) ⟨Nat.le_of_ble_eq_true rfl, Nat.le_of_ble_eq_true rfl⟩ ?_
      refine q_int ?_ hq
      unfold taleA
      rw [if_pos c5, if_neg (out_ne ht (k := 0) (by decide) (by decide)), if_neg (out_ne ht (k := 1) (by decide) (by decide)), if_neg (out_ne ht (k := 2) (by decide) (by decide)), if_neg (out_ne ht (k := 3) (by decide) (by decide)), if_neg (out_ne ht (k := 4) (by decide) (by decide))]
    · obtain ⟨jj, hjj, rfl⟩ := tbl_of (hi := 4) ht
      rcases (show jj = 0 ∨ jj = 1 ∨ jj = 2 ∨ jj = 3 ∨ jj = 4 by omega) with rfl | rfl | rfl | rfl | rfl
      · refine g_tableIn 44 hX dX6_tale_11 (by decide) (by decide) (off := 33) (by decide) (by decide) ?_
        refine g_aload_n hX dX6_tale_44 rfl rfl ?_
        refine g_getR hX dX6_tale_45 flX6_7 (by assumption) rfl (by first | assumption | rfl) (by assumption) ?_
        refine g_bipush (v := nI 14) hX dX6_tale_48 (by decide) ?_
        refine g_bipush (v := nI 9) hX dX6_tale_50 (by decide) ?_
        refine g_iload_n hX dX6_tale_52 rfl rfl ?_
        refine g_imul hX dX6_tale_53 ?_
        refine g_iadd hX dX6_tale_54 ?_
        refine g_iload_n hX dX6_tale_55 rfl rfl ?_
        refine g_iadd hX dX6_tale_56 ?_
        refine g_ialdN hX dX6_tale_57 (by assumption) ((by rw [nI_mul, nI_add]; exact nI_add _ _)) (by omega) (by first | decide | omega) ?_
        refine g_iret hM dX6_tale_58 rfl (rfl) ⟨Nat.le_of_ble_eq_true rfl, Nat.le_of_ble_eq_true rfl⟩ ?_
        refine q_int ?_ hq
        unfold taleA
        rw [if_pos c5, if_pos rfl, nI_clamp (by omega)]
      · refine g_tableIn 44 hX dX6_tale_11 (by decide) (by decide) (off := 33) (by decide) (by decide) ?_
        refine g_aload_n hX dX6_tale_44 rfl rfl ?_
        refine g_getR hX dX6_tale_45 flX6_7 (by assumption) rfl (by first | assumption | rfl) (by assumption) ?_
        refine g_bipush (v := nI 14) hX dX6_tale_48 (by decide) ?_
        refine g_bipush (v := nI 9) hX dX6_tale_50 (by decide) ?_
        refine g_iload_n hX dX6_tale_52 rfl rfl ?_
        refine g_imul hX dX6_tale_53 ?_
        refine g_iadd hX dX6_tale_54 ?_
        refine g_iload_n hX dX6_tale_55 rfl rfl ?_
        refine g_iadd hX dX6_tale_56 ?_
        refine g_ialdN hX dX6_tale_57 (by assumption) ((by rw [nI_mul, nI_add]; exact nI_add _ _)) (by omega) (by first | decide | omega) ?_
        refine g_iret hM dX6_tale_58 rfl (rfl) ⟨Nat.le_of_ble_eq_true rfl, Nat.le_of_ble_eq_true rfl⟩ ?_
        refine q_int ?_ hq
        unfold taleA
        rw [if_pos c5, if_neg (by decide), if_pos rfl, nI_clamp (by omega)]
      · refine g_tableIn 44 hX dX6_tale_11 (by decide) (by decide) (off := 33) (by decide) (by decide) ?_
        refine g_aload_n hX dX6_tale_44 rfl rfl ?_
        refine g_getR hX dX6_tale_45 flX6_7 (by assumption) rfl (by first | assumption | rfl) (by assumption) ?_
        refine g_bipush (v := nI 14) hX dX6_tale_48 (by decide) ?_
        refine g_bipush (v := nI 9) hX dX6_tale_50 (by decide) ?_
        refine g_iload_n hX dX6_tale_52 rfl rfl ?_
        refine g_imul hX dX6_tale_53 ?_
        refine g_iadd hX dX6_tale_54 ?_
        refine g_iload_n hX dX6_tale_55 rfl rfl ?_
        refine g_iadd hX dX6_tale_56 ?_
        refine g_ialdN hX dX6_tale_57 (by assumption) ((by rw [nI_mul, nI_add]; exact nI_add _ _)) (by omega) (by first | decide | omega) ?_
        refine g_iret hM dX6_tale_58 rfl (rfl) ⟨Nat.le_of_ble_eq_true rfl, Nat.le_of_ble_eq_true rfl⟩ ?_
        refine q_int ?_ hq
        unfold taleA
        rw [if_pos c5, if_neg (by decide), if_neg (by decide), if_pos rfl, nI_clamp (by omega)]
      · refine g_tableIn 59 hX dX6_tale_11 (by decide) (by decide) (off := 48) (by decide) (by decide) ?_
        refine g_aload_n hX dX6_tale_59 rfl rfl ?_
        refine g_getR hX dX6_tale_60 flX6_16 (by assumption) rfl (by first | assumption | rfl) (by assumption) ?_
        refine g_bipush (v := nI 9) hX dX6_tale_63 (by decide) ?_
        refine g_ialdN hX dX6_tale_65 (by assumption) (rfl) (by omega) (by first | decide | omega) ?_
        refine g_iload_n hX dX6_tale_66 rfl rfl ?_
        refine g_ishr hX dX6_tale_67 ?_
        refine g_iconst (v := nI 1) hX dX6_tale_68 (by decide) ?_
        refine g_iand hX dX6_tale_69 ?_
        refine g_iret hM dX6_tale_70 rfl (rfl) ⟨Nat.le_of_ble_eq_true rfl, Nat.le_of_ble_eq_true rfl⟩ ?_
        refine q_int ?_ hq
        unfold taleA
        rw [if_pos c5, if_neg (by decide), if_neg (by decide), if_neg (by decide), if_pos rfl, nI_clamp (by omega)]
        exact (bt_and1v _ _ (by omega)).symm
      · refine g_tableIn 71 hX dX6_tale_11 (by decide) (by decide) (off := 60) (by decide) (by decide) ?_
        refine g_aload_n hX dX6_tale_71 rfl rfl ?_
        refine g_getR hX dX6_tale_72 flX6_16 (by assumption) rfl (by first | assumption | rfl) (by assumption) ?_
        refine g_iconst (v := nI 0) hX dX6_tale_75 (by decide) ?_
        refine g_iload_n hX dX6_tale_76 rfl rfl ?_
        refine g_iadd hX dX6_tale_77 ?_
        refine g_ialdN hX dX6_tale_78 (by assumption) (nI_z _) (by omega) (by first | decide | omega) ?_
        refine g_iret hM dX6_tale_79 rfl (rfl) ⟨Nat.le_of_ble_eq_true rfl, Nat.le_of_ble_eq_true rfl⟩ ?_
        refine q_int ?_ hq
        unfold taleA
        rw [if_pos c5, if_neg (by decide), if_neg (by decide), if_neg (by decide), if_neg (by decide), if_pos rfl, nI_clamp (by omega)]
  · rw [b2i_0, decide_eq_false_iff_not] at c5
    refine g_iconst (v := (-1)) hX dX6_tale_8 (by decide) ?_
    refine g_iret hM dX6_tale_9 rfl (rfl) ⟨Nat.le_of_ble_eq_true rfl, Nat.le_of_ble_eq_true rfl⟩ ?_
    refine q_int ?_ hq
    unfold taleA
    rw [if_neg c5]

set_option maxHeartbeats 4000000 in
set_option maxRecDepth 100000 in
theorem sp_X6_churn {Γ : Ga} {d : Nat} {κ : Kp} {I : Ip} {Q : Option Value → Kp → Ip → Prop} {m P T : Nat} {w s : Nat → Int32} {past kept : List (Nat → Int32)} {tx : Nat → Int32} {sz : Nat} {x : Int32} (hMR : MR κ m I P T w s past kept tx sz)  (hq : Q (some (.int (churnA s x))) κ I) : Sp Γ (d + 3) mX6_churn [.ref (m), .int (x)] κ I Q := by
  obtain ⟨hMo, rfl, rfl, hw, hP1, hs, hpl, hp5, hpB, hkl, hk7, hkB, hsz, hs9, htx, hlt⟩ := id hMR
  obtain ⟨hm, hm0, ⟨k0, n0⟩, ⟨k1, n1⟩, ⟨k2, n2⟩, ⟨k3, n3⟩, ⟨k4, n4⟩, ⟨k6, n6⟩, ⟨k8, n8⟩, ⟨k14, n14⟩, ⟨k15, n15⟩, ⟨k16, n16⟩, d01, d23, d614, d1516⟩ := id hMo
  obtain ⟨hw0, hw1, hP, hT, -⟩ := id hw
  intro X hM
  have hX := hM.std
  have hR := hM.room
  show GW _ mX6_churn X 0 [(0, .ref (m)), (1, .int (x))] [] _ _ 0 0
  refine g_iload_n hX dX6_churn_0 rfl rfl ?_
  refine g_i2l hX dX6_churn_1 ?_
  refine g_lconst (v := 0) hX dX6_churn_2 (by decide) ?_
  refine g_ldc2 hX dX6_churn_3 kX6_140 ?_
  refine g_callS (md' := mX6_in) (As := [.long _, .long _, .long _]) hX hR dX6_churn_6 clX6_73 okX6_in rfl rfl (Nat.le_of_ble_eq_true rfl) (Nat.le_of_ble_eq_true rfl) ⟨Nat.le_of_ble_eq_true rfl, Nat.le_of_ble_eq_true rfl⟩ ?_
  refine sp_X6_inR 0 5 rfl rfl ?_
  change GW _ _ _ 9 _ [.int _] _ _ 0 0
  refine g_ifne 14 hX dX6_churn_9 (by decide) (fun c9 => ?_) (fun c9 => ?_)
  · rw [b2i_n0, decide_eq_true_eq] at c9
    obtain ⟨i1, hi1, hi2, rfl⟩ := inR_of c9
    refine g_aload_n hX dX6_churn_14 rfl rfl ?_
    refine g_getR hX dX6_churn_15 flX6_16 (by assumption) rfl (by first | assumption | rfl) (by assumption) ?_
    refine g_bipush (v := nI 10) hX dX6_churn_18 (by decide) ?_
    refine g_ialdN hX dX6_churn_20 (by assumption) (rfl) (by omega) (by first | decide | omega) ?_
    refine g_bipush (v := (-4)) hX dX6_churn_21 (by decide) ?_
    refine g_icmpne 31 hX dX6_churn_23 (by decide) (fun c23 => ?_) (fun c23 => ?_)
    · refine g_aload_n hX dX6_churn_31 rfl rfl ?_
      refine g_getR hX dX6_churn_32 flX6_16 (by assumption) rfl (by first | assumption | rfl) (by assumption) ?_
      refine g_bipush (v := nI 10) hX dX6_churn_35 (by decide) ?_
      refine g_iload_n hX dX6_churn_37 rfl rfl ?_
      refine g_iadd hX dX6_churn_38 ?_
      refine g_ialdN hX dX6_churn_39 (by assumption) (nI_add _ _) (by omega) (by first | decide | omega) ?_
      refine g_iret hM dX6_churn_40 rfl (rfl) ⟨Nat.le_of_ble_eq_true rfl, Nat.le_of_ble_eq_true rfl⟩ ?_
      refine q_int ?_ hq
      unfold churnA
      rw [if_pos c9, if_neg c23, nI_clamp (by omega)]
    · refine g_bipush (v := (-4)) hX dX6_churn_26 (by decide) ?_
      refine g_goto 40 hX dX6_churn_28 (by decide) ?_
      refine g_iret hM dX6_churn_40 rfl (rfl) ⟨Nat.le_of_ble_eq_true rfl, Nat.le_of_ble_eq_true rfl⟩ ?_
      refine q_int ?_ hq
      unfold churnA
      rw [if_pos c9, if_pos c23]
  · rw [b2i_0, decide_eq_false_iff_not] at c9
    refine g_iconst (v := (-1)) hX dX6_churn_12 (by decide) ?_
    refine g_iret hM dX6_churn_13 rfl (rfl) ⟨Nat.le_of_ble_eq_true rfl, Nat.le_of_ble_eq_true rfl⟩ ?_
    refine q_int ?_ hq
    unfold churnA
    rw [if_neg c9]

set_option maxHeartbeats 4000000 in
set_option maxRecDepth 100000 in
theorem sp_X6_write {Γ : Ga} {d : Nat} {κ : Kp} {I : Ip} {Q : Option Value → Kp → Ip → Prop} {m P T : Nat} {w s : Nat → Int32} {past kept : List (Nat → Int32)} {tx : Nat → Int32} {sz : Nat} {x : Int32} (hMR : MR κ m I P T w s past kept tx sz)  (hq : ∀ J : Ip, MR κ m J P T w s past kept (writeA tx sz x).2.1 (writeA tx sz x).2.2 → MOut κ m I J → Q (some (.int (writeA tx sz x).1)) κ J) : Sp Γ (d + 3) mX6_write [.ref (m), .int (x)] κ I Q := by
  obtain ⟨hMo, rfl, rfl, hw, hP1, hs, hpl, hp5, hpB, hkl, hk7, hkB, hsz, hs9, htx, hlt⟩ := id hMR
  obtain ⟨hm, hm0, ⟨k0, n0⟩, ⟨k1, n1⟩, ⟨k2, n2⟩, ⟨k3, n3⟩, ⟨k4, n4⟩, ⟨k6, n6⟩, ⟨k8, n8⟩, ⟨k14, n14⟩, ⟨k15, n15⟩, ⟨k16, n16⟩, d01, d23, d614, d1516⟩ := id hMo
  obtain ⟨hw0, hw1, hP, hT, -⟩ := id hw
  have m8 : m ≠ κ.2.1 m 8 := hMo.m8
  intro X hM
  have hX := hM.std
  have hR := hM.room
  show GW _ mX6_write X 0 [(0, .ref (m)), (1, .int (x))] [] _ _ 0 0
  refine g_iload_n hX dX6_write_0 rfl rfl ?_
  refine g_i2l hX dX6_write_1 ?_
  refine g_ldc2 hX dX6_write_2 kX6_69 ?_
  refine g_ldc2 hX dX6_write_5 kX6_71 ?_
  refine g_callS (md' := mX6_in) (As := [.long _, .long _, .long _]) hX hR dX6_write_8 clX6_73 okX6_in rfl rfl (Nat.le_of_ble_eq_true rfl) (Nat.le_of_ble_eq_true rfl) ⟨Nat.le_of_ble_eq_true rfl, Nat.le_of_ble_eq_true rfl⟩ ?_
  refine sp_X6_inR 32 126 rfl rfl ?_
  change GW _ _ _ 11 _ [.int _] _ _ 0 0
  refine g_ifne 16 hX dX6_write_11 (by decide) (fun c11 => ?_) (fun c11 => ?_)
  · rw [b2i_n0, decide_eq_true_eq] at c11
    obtain ⟨i1, hi1, hi2, rfl⟩ := inR_of c11
    refine g_aload_n hX dX6_write_16 rfl rfl ?_
    refine g_getI hX dX6_write_17 flX6_77 (by assumption) rfl ?_
    refine g_sipush (v := nI 200) hX dX6_write_20 (by decide) ?_
    refine g_icmpne 29 hX dX6_write_23 (by decide) (fun c23 => ?_) (fun c23 => ?_)
    · rw [hs9, nI_eq (by omega) (by decide)] at c23
      refine g_aload_n hX dX6_write_29 rfl rfl ?_
      refine g_getR hX dX6_write_30 flX6_28 (by assumption) rfl (by first | assumption | rfl) (by assumption) ?_
      refine g_aload_n hX dX6_write_33 rfl rfl ?_
      refine g_getI hX dX6_write_34 flX6_77 (by assumption) rfl ?_
      rw [hs9]
      refine g_iload_n hX dX6_write_37 rfl rfl ?_
      refine g_iastN hX dX6_write_38 (by assumption) (rfl) (by omega) (by first | decide | omega) ?_
      refine g_aload_n hX dX6_write_39 rfl rfl ?_
      refine g_dup hX dX6_write_40 rfl ?_
      refine g_getI hX dX6_write_41 flX6_77 (by assumption) rfl ?_
      rw [up_ne _ _ m8, hs9]
      refine g_iconst (v := nI 1) hX dX6_write_44 (by decide) ?_
      refine g_iadd hX dX6_write_45 ?_
      rw [nI_add]
      refine g_putI hX dX6_write_46 flX6_77 (by assumption) rfl rfl ?_
      refine g_aload_n hX dX6_write_49 rfl rfl ?_
      refine g_getI hX dX6_write_50 flX6_77 (by assumption) rfl ?_
      rw [up_same, up_same]
      refine g_iret hM dX6_write_53 rfl (rfl) ⟨Nat.le_of_ble_eq_true rfl, Nat.le_of_ble_eq_true rfl⟩ ?_
      have e : writeA tx sz (nI i1) = (nI (sz + 1), va_up tx sz (nI i1), sz + 1) := (if_pos c11).trans (if_neg c23)
      rw [e] at hq
      have hmm := hMR.txt (f := va_up (I (κ.2.1 m 8)) sz (nI i1)) (c := nI (sz + 1)) (t2 := va_up tx sz (nI i1)) (z2 := sz + 1) (by omega) rfl (fun k hk => ?_) (fun k hk => ?_)
      · have e2 : va_up I (κ.2.1 m 8) (va_up (I (κ.2.1 m 8)) sz (nI i1)) m = I m := up_ne _ _ m8
        rw [e2]
        exact hq _ hmm ((MOut.rf.up (Or.inr (Or.inr (Or.inr (Or.inr (Or.inr (Or.inr (Or.inr (Or.inl rfl))))))))).up (Or.inl rfl))
      · by_cases e3 : k = sz
        · subst e3; rw [up_same, up_same]
        · rw [up_ne _ _ e3, up_ne _ _ e3]; exact htx k (by omega)
      · by_cases e3 : k = sz
        · subst e3; rw [up_same]; exact ⟨i1, hi1, hi2, rfl⟩
        · rw [up_ne _ _ e3]; exact hlt k (by omega)
    · rw [hs9, nI_eq (by omega) (by decide)] at c23
      refine g_bipush (v := (-3)) hX dX6_write_26 (by decide) ?_
      refine g_iret hM dX6_write_28 rfl (rfl) ⟨Nat.le_of_ble_eq_true rfl, Nat.le_of_ble_eq_true rfl⟩ ?_
      have e : writeA tx sz (nI i1) = (-3, tx, sz) := (if_pos c11).trans (if_pos c23)
      rw [e] at hq
      exact hq I hMR MOut.rf
  · rw [b2i_0, decide_eq_false_iff_not] at c11
    refine g_iconst (v := (-1)) hX dX6_write_14 (by decide) ?_
    refine g_iret hM dX6_write_15 rfl (rfl) ⟨Nat.le_of_ble_eq_true rfl, Nat.le_of_ble_eq_true rfl⟩ ?_
    have e : writeA tx sz x = (-1, tx, sz) := if_neg c11
    rw [e] at hq
    exact hq I hMR MOut.rf

set_option maxHeartbeats 4000000 in
set_option maxRecDepth 100000 in
theorem sp_X6_wipe {Γ : Ga} {d : Nat} {κ : Kp} {I : Ip} {Q : Option Value → Kp → Ip → Prop} {m P T : Nat} {w s : Nat → Int32} {past kept : List (Nat → Int32)} {tx : Nat → Int32} {sz : Nat}  (hMR : MR κ m I P T w s past kept tx sz)  (hq : ∀ J : Ip, MR κ m J P T w s past kept tx 0 → MOut κ m I J → Q (some (.int (nI sz))) κ J) : Sp Γ d mX6_wipe [.ref (m)] κ I Q := by
  obtain ⟨hMo, rfl, rfl, hw, hP1, hs, hpl, hp5, hpB, hkl, hk7, hkB, hsz, hs9, htx, hlt⟩ := id hMR
  obtain ⟨hm, hm0, ⟨k0, n0⟩, ⟨k1, n1⟩, ⟨k2, n2⟩, ⟨k3, n3⟩, ⟨k4, n4⟩, ⟨k6, n6⟩, ⟨k8, n8⟩, ⟨k14, n14⟩, ⟨k15, n15⟩, ⟨k16, n16⟩, d01, d23, d614, d1516⟩ := id hMo
  obtain ⟨hw0, hw1, hP, hT, -⟩ := id hw
  intro X hM
  have hX := hM.std
  show GW _ mX6_wipe X 0 [(0, .ref (m))] [] _ _ 0 0
  refine g_aload_n hX dX6_wipe_0 rfl rfl ?_
  refine g_getI hX dX6_wipe_1 flX6_77 (by assumption) rfl ?_
  refine g_istore_n (lv' := [(1, .int _), (0, .ref _)]) hX dX6_wipe_4 rfl (by decide) rfl ?_
  refine g_aload_n hX dX6_wipe_5 rfl rfl ?_
  refine g_iconst (v := nI 0) hX dX6_wipe_6 (by decide) ?_
  refine g_putI hX dX6_wipe_7 flX6_77 (by assumption) rfl rfl ?_
  refine g_iload_n hX dX6_wipe_10 rfl rfl ?_
  refine g_iret hM dX6_wipe_11 rfl (rfl) ⟨Nat.le_of_ble_eq_true rfl, Nat.le_of_ble_eq_true rfl⟩ ?_
  have hmm := hMR.txt (f := I (κ.2.1 m 8)) (c := nI 0) (t2 := tx) (z2 := 0) (by omega) rfl (fun k hk => by omega) (fun k hk => by omega)
  rw [up_self] at hmm
  exact q_int hs9.symm (hq _ hmm (MOut.rf.up (Or.inl rfl)))
