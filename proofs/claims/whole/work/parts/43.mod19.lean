set_option maxHeartbeats 4000000 in
set_option maxRecDepth 100000 in
theorem sp_X6_here {Γ : Ga} {d : Nat} {κ : Kp} {I : Ip} {Q : Option Value → Kp → Ip → Prop} {m a sz : Nat} {v : Int32} {r tx : Nat → Int32}  (hMo : MoK κ m) (ht : TxK κ m I tx sz) (ha : a ≤ sz)  (hq : Q (some (.int (hV (Lc tx sz a)))) κ (pst κ m I (nI a) v r)) : Sp Γ d mX6_here [.ref (m)] κ (pst κ m I (nI a) v r) Q := by
  obtain ⟨hm, hm0, ⟨k0, n0⟩, ⟨k1, n1⟩, ⟨k2, n2⟩, ⟨k3, n3⟩, ⟨k4, n4⟩, ⟨k6, n6⟩, ⟨k8, n8⟩, ⟨k14, n14⟩, ⟨k15, n15⟩, ⟨k16, n16⟩, d01, d23, d614, d1516⟩ := id hMo
  have hp1 := hMo.m1
  obtain ⟨ht9, hsz, -⟩ := id ht
  intro X hM
  have hX := hM.std
  show GW _ mX6_here X 0 [(0, .ref (m))] [] _ _ 0 0
  refine g_aload_n hX dX6_here_0 rfl rfl ?_
  refine g_getI hX dX6_here_1 flX6_80 (by assumption) rfl ?_
  try simp only [pst_at hp1, pst_vl hp1, pst_sa hp1, pst_sv hp1]
  refine g_aload_n hX dX6_here_4 rfl rfl ?_
  refine g_getI hX dX6_here_5 flX6_77 (by assumption) rfl ?_
  try simp only [pst_at hp1, pst_vl hp1, pst_sa hp1, pst_sv hp1]
  rw [pst_k hp1 (by decide) (by decide), ht9]
  refine g_icmpge 23 hX dX6_here_8 (by decide) (fun c8 => ?_) (fun c8 => ?_)
  · rw [nI_leI (by omega) (by omega)] at c8
    refine g_iconst (v := (-1)) hX dX6_here_23 (by decide) ?_
    refine g_iret hM dX6_here_24 rfl (rfl) ⟨Nat.le_of_ble_eq_true rfl, Nat.le_of_ble_eq_true rfl⟩ ?_
    refine q_int ?_ hq
    rw [Lc_0 c8]
    rfl
  · rw [nI_leI (by omega) (by omega)] at c8
    refine g_aload_n hX dX6_here_11 rfl rfl ?_
    refine g_getR hX dX6_here_12 flX6_28 (by assumption) rfl (by first | assumption | rfl) (by assumption) ?_
    refine g_aload_n hX dX6_here_15 rfl rfl ?_
    refine g_getI hX dX6_here_16 flX6_80 (by assumption) rfl ?_
    try simp only [pst_at hp1, pst_vl hp1, pst_sa hp1, pst_sv hp1]
    refine g_ialdN hX dX6_here_19 (by assumption) (rfl) (by omega) (by first | decide | omega) ?_
    try simp only [pst_at hp1, pst_vl hp1, pst_sa hp1, pst_sv hp1]
    refine g_goto 24 hX dX6_here_20 (by decide) ?_
    refine g_iret hM dX6_here_24 rfl (rfl) ⟨Nat.le_of_ble_eq_true rfl, Nat.le_of_ble_eq_true rfl⟩ ?_
    have hc := ht.at (a := a) (by omega)
    refine q_int ?_ hq
    rw [pst_ne (kd_ne k8 hm (by decide)) (kd_ne k8 k1 (by decide)), hc.1, hV, if_neg (by omega)]

set_option maxHeartbeats 4000000 in
set_option maxRecDepth 100000 in
theorem sp_X6_takes {Γ : Ga} {d : Nat} {κ : Kp} {I : Ip} {Q : Option Value → Kp → Ip → Prop} {m a sz : Nat} {v : Int32} {r tx : Nat → Int32} {c : Nat} (hMo : MoK κ m) (ht : TxK κ m I tx sz) (ha : a ≤ sz) (hc1 : 1 ≤ c) (hc2 : c ≤ 126) (hq : Q (some (.int (b2i (decide (Lc tx sz a = c))))) κ (pst κ m I (nI (if Lc tx sz a = c then a + 1 else a)) v r)) : Sp Γ (d + 1) mX6_takes [.ref (m), .int (nI c)] κ (pst κ m I (nI a) v r) Q := by
  obtain ⟨hm, hm0, ⟨k0, n0⟩, ⟨k1, n1⟩, ⟨k2, n2⟩, ⟨k3, n3⟩, ⟨k4, n4⟩, ⟨k6, n6⟩, ⟨k8, n8⟩, ⟨k14, n14⟩, ⟨k15, n15⟩, ⟨k16, n16⟩, d01, d23, d614, d1516⟩ := id hMo
  have hp1 := hMo.m1
  obtain ⟨ht9, hsz, -⟩ := id ht
  intro X hM
  have hX := hM.std
  have hR := hM.room
  show GW _ mX6_takes X 0 [(0, .ref (m)), (1, .int (nI c))] [] _ _ 0 0
  refine g_aload_n hX dX6_takes_0 rfl rfl ?_
  refine g_callV (md' := mX6_here) (ci := 6) (As := []) hX hR dX6_takes_1 clX6_83 okX6_here rfl (by assumption) rfl rfl (Nat.le_of_ble_eq_true rfl) (Nat.le_of_ble_eq_true rfl) ⟨Nat.le_of_ble_eq_true rfl, Nat.le_of_ble_eq_true rfl⟩ ?_
  refine sp_X6_here hMo ht ha ?_
  change GW _ _ _ 4 _ [.int _] _ _ 0 0
  refine g_iload_n hX dX6_takes_4 rfl rfl ?_
  refine g_icmpne 12 hX dX6_takes_5 (by decide) (fun c5 => ?_) (fun c5 => ?_)
  · rw [hV_eq (ht.le a) hc1 hc2] at c5
    refine g_iconst (v := nI 0) hX dX6_takes_12 (by decide) ?_
    refine g_istore_n (lv' := [(2, .int _), (0, .ref _), (1, .int _)]) hX dX6_takes_13 rfl (by decide) rfl ?_
    refine g_aload_n hX dX6_takes_14 rfl rfl ?_
    refine g_dup hX dX6_takes_15 rfl ?_
    refine g_getI hX dX6_takes_16 flX6_80 (by assumption) rfl ?_
    try simp only [pst_at hp1, pst_vl hp1, pst_sa hp1, pst_sv hp1]
    refine g_iload_n hX dX6_takes_19 rfl rfl ?_
    refine g_ifeq 27 hX dX6_takes_20 (by decide) (fun c20 => ?_) (fun c20 => ?_)
    · refine g_iconst (v := nI 0) hX dX6_takes_27 (by decide) ?_
      refine g_iadd hX dX6_takes_28 ?_
      rw [nI_add]
      refine g_putI hX dX6_takes_29 flX6_80 (by assumption) rfl rfl ?_
      try simp only [pst_at hp1, pst_vl hp1, pst_sa hp1, pst_sv hp1]
      refine g_iload_n hX dX6_takes_32 rfl rfl ?_
      refine g_iret hM dX6_takes_33 rfl (rfl) ⟨Nat.le_of_ble_eq_true rfl, Nat.le_of_ble_eq_true rfl⟩ ?_
      rw [if_neg c5] at hq
      exact q_f (decide_eq_false c5) hq
    · exact absurd nI0 c20
  · rw [hV_eq (ht.le a) hc1 hc2] at c5
    refine g_iconst (v := nI 1) hX dX6_takes_8 (by decide) ?_
    refine g_goto 13 hX dX6_takes_9 (by decide) ?_
    refine g_istore_n (lv' := [(2, .int _), (0, .ref _), (1, .int _)]) hX dX6_takes_13 rfl (by decide) rfl ?_
    refine g_aload_n hX dX6_takes_14 rfl rfl ?_
    refine g_dup hX dX6_takes_15 rfl ?_
    refine g_getI hX dX6_takes_16 flX6_80 (by assumption) rfl ?_
    try simp only [pst_at hp1, pst_vl hp1, pst_sa hp1, pst_sv hp1]
    refine g_iload_n hX dX6_takes_19 rfl rfl ?_
    refine g_ifeq 27 hX dX6_takes_20 (by decide) (fun c20 => ?_) (fun c20 => ?_)
    · exact absurd c20 (by decide)
    · refine g_iconst (v := nI 1) hX dX6_takes_23 (by decide) ?_
      refine g_goto 28 hX dX6_takes_24 (by decide) ?_
      refine g_iadd hX dX6_takes_28 ?_
      rw [nI_add]
      refine g_putI hX dX6_takes_29 flX6_80 (by assumption) rfl rfl ?_
      try simp only [pst_at hp1, pst_vl hp1, pst_sa hp1, pst_sv hp1]
      refine g_iload_n hX dX6_takes_32 rfl rfl ?_
      refine g_iret hM dX6_takes_33 rfl (rfl) ⟨Nat.le_of_ble_eq_true rfl, Nat.le_of_ble_eq_true rfl⟩ ?_
      rw [if_pos c5] at hq
      exact q_t (decide_eq_true c5) hq

set_option maxHeartbeats 4000000 in
set_option maxRecDepth 100000 in
theorem sp_X6_isFigure {Γ : Ga} {d : Nat} {κ : Kp} {I : Ip} {Q : Option Value → Kp → Ip → Prop} {c : Nat} (hc : c ≤ 126) (hq : Q (some (.int (b2i (decide (isD c))))) κ I) : Sp Γ (d + 1) mX6_isFigure [.int (hV c)] κ I Q := by
  intro X hM
  have hX := hM.std
  have hR := hM.room
  show GW _ mX6_isFigure X 0 [(0, .int (hV c))] [] _ _ 0 0
  refine g_iload_n hX dX6_isFigure_0 rfl rfl ?_
  refine g_i2l hX dX6_isFigure_1 ?_
  refine g_ldc2 hX dX6_isFigure_2 kX6_87 ?_
  refine g_ldc2 hX dX6_isFigure_5 kX6_89 ?_
  refine g_callS (md' := mX6_in) (As := [.long _, .long _, .long _]) hX hR dX6_isFigure_8 clX6_73 okX6_in rfl rfl (Nat.le_of_ble_eq_true rfl) (Nat.le_of_ble_eq_true rfl) ⟨Nat.le_of_ble_eq_true rfl, Nat.le_of_ble_eq_true rfl⟩ ?_
  refine sp_X6_inR 48 57 rfl rfl ?_
  change GW _ _ _ 11 _ [.int _] _ _ 0 0
  refine g_iret hM dX6_isFigure_11 rfl (b2i_nar _) ⟨Nat.le_of_ble_eq_true rfl, Nat.le_of_ble_eq_true rfl⟩ ?_
  refine q_int ?_ hq
  simp only [hV_D hc]

set_option maxHeartbeats 4000000 in
set_option maxRecDepth 100000 in
theorem sp_X6_number {Γ : Ga} {d : Nat} {κ : Kp} {I : Ip} {Q : Option Value → Kp → Ip → Prop} {m a sz : Nat} {v : Int32} {r tx : Nat → Int32} {lo hi : Nat} {l h : Int32} (hMo : MoK κ m) (ht : TxK κ m I tx sz) (ha : a ≤ sz) (hl : l.toInt = (lo : Int)) (hh : h.toInt = (hi : Int) - 1) (hq : ∀ (a1 v1 : Int32), (∀ x, numB lo hi (Lc tx sz) a = some x → a1 = nI x.2 ∧ v1 = nI x.1) → Q (some (.int (b2i (numB lo hi (Lc tx sz) a).isSome))) κ (pst κ m I a1 v1 r)) : Sp Γ (d + 2) mX6_number [.ref (m), .int (l), .int (h)] κ (pst κ m I (nI a) v r) Q := by
  obtain ⟨hm, hm0, ⟨k0, n0⟩, ⟨k1, n1⟩, ⟨k2, n2⟩, ⟨k3, n3⟩, ⟨k4, n4⟩, ⟨k6, n6⟩, ⟨k8, n8⟩, ⟨k14, n14⟩, ⟨k15, n15⟩, ⟨k16, n16⟩, d01, d23, d614, d1516⟩ := id hMo
  have hp1 := hMo.m1
  obtain ⟨ht9, hsz, -⟩ := id ht
  intro X hM
  have hX := hM.std
  have hR := hM.room
  show GW _ mX6_number X 0 [(0, .ref (m)), (1, .int (l)), (2, .int (h))] [] _ _ 0 0
  refine g_aload_n hX dX6_number_0 rfl rfl ?_
  refine g_callV (md' := mX6_here) (ci := 6) (As := []) hX hR dX6_number_1 clX6_83 okX6_here rfl (by assumption) rfl rfl (Nat.le_of_ble_eq_true rfl) (Nat.le_of_ble_eq_true rfl) ⟨Nat.le_of_ble_eq_true rfl, Nat.le_of_ble_eq_true rfl⟩ ?_
  refine sp_X6_here hMo ht ha ?_
  change GW _ _ _ 4 _ [.int _] _ _ 0 0
  refine g_callS (md' := mX6_isFigure) (As := [.int _]) hX hR dX6_number_4 clX6_91 okX6_isFigure rfl rfl (Nat.le_of_ble_eq_true rfl) (Nat.le_of_ble_eq_true rfl) ⟨Nat.le_of_ble_eq_true rfl, Nat.le_of_ble_eq_true rfl⟩ ?_
  refine sp_X6_isFigure (ht.le a) ?_
  change GW _ _ _ 7 _ [.int _] _ _ 0 0
  refine g_ifne 12 hX dX6_number_7 (by decide) (fun c7 => ?_) (fun c7 => ?_)
  · rw [b2i_n0, decide_eq_true_eq] at c7
    refine g_aload_n hX dX6_number_12 rfl rfl ?_
    refine g_aload_n hX dX6_number_13 rfl rfl ?_
    refine g_callV (md' := mX6_here) (ci := 6) (As := []) hX hR dX6_number_14 clX6_83 okX6_here rfl (by assumption) rfl rfl (Nat.le_of_ble_eq_true rfl) (Nat.le_of_ble_eq_true rfl) ⟨Nat.le_of_ble_eq_true rfl, Nat.le_of_ble_eq_true rfl⟩ ?_
    have hl1 := Lc_lt (tx := tx) (sz := sz) (a := a) (by omega)
    refine sp_X6_here hMo ht ha ?_
    change GW _ _ _ 17 _ [.int _, .ref _] _ _ 0 0
    refine g_bipush (v := nI 48) hX dX6_number_17 (by decide) ?_
    refine g_isub hX dX6_number_19 ?_
    rw [hV_sub c7]
    refine g_putI hX dX6_number_20 flX6_95 (by assumption) rfl rfl ?_
    try simp only [pst_at hp1, pst_vl hp1, pst_sa hp1, pst_sv hp1]
    refine g_aload_n hX dX6_number_23 rfl rfl ?_
    refine g_dup hX dX6_number_24 rfl ?_
    refine g_getI hX dX6_number_25 flX6_80 (by assumption) rfl ?_
    try simp only [pst_at hp1, pst_vl hp1, pst_sa hp1, pst_sv hp1]
    refine g_iconst (v := nI 1) hX dX6_number_28 (by decide) ?_
    refine g_iadd hX dX6_number_29 ?_
    refine g_putI hX dX6_number_30 flX6_80 (by assumption) rfl rfl ?_
    try simp only [pst_at hp1, pst_vl hp1, pst_sa hp1, pst_sv hp1]
    refine g_aload_n hX dX6_number_33 rfl rfl ?_
    refine g_callV (md' := mX6_here) (ci := 6) (As := []) hX hR dX6_number_34 clX6_83 okX6_here rfl (by assumption) rfl rfl (Nat.le_of_ble_eq_true rfl) (Nat.le_of_ble_eq_true rfl) ⟨Nat.le_of_ble_eq_true rfl, Nat.le_of_ble_eq_true rfl⟩ ?_
    rw [nI_add]
    refine sp_X6_here hMo ht (by omega) ?_
    change GW _ _ _ 37 _ [.int _] _ _ 0 0
    refine g_callS (md' := mX6_isFigure) (As := [.int _]) hX hR dX6_number_37 clX6_91 okX6_isFigure rfl rfl (Nat.le_of_ble_eq_true rfl) (Nat.le_of_ble_eq_true rfl) ⟨Nat.le_of_ble_eq_true rfl, Nat.le_of_ble_eq_true rfl⟩ ?_
    refine sp_X6_isFigure (ht.le _) ?_
    change GW _ _ _ 40 _ [.int _] _ _ 0 0
    refine g_ifeq 72 hX dX6_number_40 (by decide) (fun c40 => ?_) (fun c40 => ?_)
    · rw [b2i_0, decide_eq_false_iff_not] at c40
      refine g_aload_n hX dX6_number_72 rfl rfl ?_
      refine g_getI hX dX6_number_73 flX6_95 (by assumption) rfl ?_
      try simp only [pst_at hp1, pst_vl hp1, pst_sa hp1, pst_sv hp1]
      refine g_i2l hX dX6_number_76 ?_
      refine g_iload_n hX dX6_number_77 rfl rfl ?_
      refine g_i2l hX dX6_number_78 ?_
      refine g_iload_n hX dX6_number_79 rfl rfl ?_
      refine g_i2l hX dX6_number_80 ?_
      refine g_callS (md' := mX6_in) (As := [.long _, .long _, .long _]) hX hR dX6_number_81 clX6_73 okX6_in rfl rfl (Nat.le_of_ble_eq_true rfl) (Nat.le_of_ble_eq_true rfl) ⟨Nat.le_of_ble_eq_true rfl, Nat.le_of_ble_eq_true rfl⟩ ?_
      refine sp_X6_in ?_
      change GW _ _ _ 84 _ [.int _] _ _ 0 0
      refine g_iret hM dX6_number_84 rfl (b2i_nar _) ⟨Nat.le_of_ble_eq_true rfl, Nat.le_of_ble_eq_true rfl⟩ ?_
      have e : numF (Lc tx sz) a = some (Lc tx sz a - 48, a + 1) := by unfold numF; rw [if_pos c7, if_neg c40]
      exact q_int (numB_b e (by have := ht.le a; have := ht.le (a + 1); omega) hl hh).symm (hq _ _ (fun x hx => numB_eq e hx))
    · rw [b2i_n0, decide_eq_true_eq] at c40
      refine g_aload_n hX dX6_number_43 rfl rfl ?_
      refine g_bipush (v := nI 10) hX dX6_number_44 (by decide) ?_
      refine g_aload_n hX dX6_number_46 rfl rfl ?_
      refine g_getI hX dX6_number_47 flX6_95 (by assumption) rfl ?_
      try simp only [pst_at hp1, pst_vl hp1, pst_sa hp1, pst_sv hp1]
      refine g_imul hX dX6_number_50 ?_
      refine g_aload_n hX dX6_number_51 rfl rfl ?_
      refine g_callV (md' := mX6_here) (ci := 6) (As := []) hX hR dX6_number_52 clX6_83 okX6_here rfl (by assumption) rfl rfl (Nat.le_of_ble_eq_true rfl) (Nat.le_of_ble_eq_true rfl) ⟨Nat.le_of_ble_eq_true rfl, Nat.le_of_ble_eq_true rfl⟩ ?_
      refine sp_X6_here hMo ht (by omega) ?_
      rw [hV_D1 c40, nI_mul]
      change GW _ _ _ 55 _ [.int _, .int _, .ref _] _ _ 0 0
      refine g_iadd hX dX6_number_55 ?_
      rw [nI_add]
      refine g_bipush (v := nI 48) hX dX6_number_56 (by decide) ?_
      refine g_isub hX dX6_number_58 ?_
      rw [nI_subE (k := 10 * (Lc tx sz a - 48) + (Lc tx sz (a + 1) - 48)) (by omega) (by have := ht.le a; have := ht.le (a + 1); omega)]
      refine g_putI hX dX6_number_59 flX6_95 (by assumption) rfl rfl ?_
      try simp only [pst_at hp1, pst_vl hp1, pst_sa hp1, pst_sv hp1]
      refine g_aload_n hX dX6_number_62 rfl rfl ?_
      refine g_dup hX dX6_number_63 rfl ?_
      refine g_getI hX dX6_number_64 flX6_80 (by assumption) rfl ?_
      try simp only [pst_at hp1, pst_vl hp1, pst_sa hp1, pst_sv hp1]
      refine g_iconst (v := nI 1) hX dX6_number_67 (by decide) ?_
      refine g_iadd hX dX6_number_68 ?_
      try rw [nI_add]
      refine g_putI hX dX6_number_69 flX6_80 (by assumption) rfl rfl ?_
      try simp only [pst_at hp1, pst_vl hp1, pst_sa hp1, pst_sv hp1]
      refine g_aload_n hX dX6_number_72 rfl rfl ?_
      refine g_getI hX dX6_number_73 flX6_95 (by assumption) rfl ?_
      try simp only [pst_at hp1, pst_vl hp1, pst_sa hp1, pst_sv hp1]
      refine g_i2l hX dX6_number_76 ?_
      refine g_iload_n hX dX6_number_77 rfl rfl ?_
      refine g_i2l hX dX6_number_78 ?_
      refine g_iload_n hX dX6_number_79 rfl rfl ?_
      refine g_i2l hX dX6_number_80 ?_
      refine g_callS (md' := mX6_in) (As := [.long _, .long _, .long _]) hX hR dX6_number_81 clX6_73 okX6_in rfl rfl (Nat.le_of_ble_eq_true rfl) (Nat.le_of_ble_eq_true rfl) ⟨Nat.le_of_ble_eq_true rfl, Nat.le_of_ble_eq_true rfl⟩ ?_
      refine sp_X6_in ?_
      change GW _ _ _ 84 _ [.int _] _ _ 0 0
      refine g_iret hM dX6_number_84 rfl (b2i_nar _) ⟨Nat.le_of_ble_eq_true rfl, Nat.le_of_ble_eq_true rfl⟩ ?_
      have e : numF (Lc tx sz) a = some (10 * (Lc tx sz a - 48) + (Lc tx sz (a + 1) - 48), a + 1 + 1) := by unfold numF; rw [if_pos c7, if_pos c40]
      exact q_int (numB_b e (by have := ht.le a; have := ht.le (a + 1); omega) hl hh).symm (hq _ _ (fun x hx => numB_eq e hx))
  · rw [b2i_0, decide_eq_false_iff_not] at c7
    refine g_iconst (v := nI 0) hX dX6_number_10 (by decide) ?_
    refine g_iret hM dX6_number_11 rfl (rfl) ⟨Nat.le_of_ble_eq_true rfl, Nat.le_of_ble_eq_true rfl⟩ ?_
    have e : numB lo hi (Lc tx sz) a = none := by unfold numB numF; rw [if_neg c7]
    exact q_f (by rw [e]; rfl) (hq _ _ (fun x hx => by rw [e] at hx; cases hx))

set_option maxHeartbeats 4000000 in
set_option maxRecDepth 100000 in
theorem sp_X6_isPerson {Γ : Ga} {d : Nat} {κ : Kp} {I : Ip} {Q : Option Value → Kp → Ip → Prop} {m a sz : Nat} {v : Int32} {r tx : Nat → Int32} {P T : Nat} (hMo : MoK κ m) (ht : TxK κ m I tx sz) (ha : a ≤ sz) (hr0 : r 0 = nI P) (hP : P ≤ 6) (hq : ∀ (a1 v1 : Int32) (r1 : Nat → Int32), (∀ x, perF (Lc tx sz) r P T a = some x → r1 = x.1 ∧ a1 = nI x.2.2.2) → Q (some (.int (b2i (perF (Lc tx sz) r P T a).isSome))) κ (pst κ m I a1 v1 r1)) : Sp Γ (d + 3) mX6_isPerson [.ref (m)] κ (pst κ m I (nI a) v r) Q := by
  obtain ⟨hm, hm0, ⟨k0, n0⟩, ⟨k1, n1⟩, ⟨k2, n2⟩, ⟨k3, n3⟩, ⟨k4, n4⟩, ⟨k6, n6⟩, ⟨k8, n8⟩, ⟨k14, n14⟩, ⟨k15, n15⟩, ⟨k16, n16⟩, d01, d23, d614, d1516⟩ := id hMo
  have hp1 := hMo.m1
  obtain ⟨ht9, hsz, -⟩ := id ht
  intro X hM
  have hX := hM.std
  have hR := hM.room
  show GW _ mX6_isPerson X 0 [(0, .ref (m))] [] _ _ 0 0
  refine g_aload_n hX dX6_isPerson_0 rfl rfl ?_
  refine g_getR hX dX6_isPerson_1 flX6_13 (by assumption) rfl (by first | assumption | rfl) (by assumption) ?_
  refine g_iconst (v := nI 0) hX dX6_isPerson_4 (by decide) ?_
  refine g_ialdN hX dX6_isPerson_5 (by assumption) (rfl) (by omega) (by first | decide | omega) ?_
  try simp only [pst_at hp1, pst_vl hp1, pst_sa hp1, pst_sv hp1]
  rw [pst_rd, hr0]
  refine g_bipush (v := nI 6) hX dX6_isPerson_6 (by decide) ?_
  refine g_icmpeq 29 hX dX6_isPerson_8 (by decide) (fun c8 => ?_) (fun c8 => ?_)
  · rw [nI_eq (by omega) (by decide)] at c8
    refine g_iconst (v := nI 0) hX dX6_isPerson_29 (by decide) ?_
    refine g_iret hM dX6_isPerson_30 rfl (rfl) ⟨Nat.le_of_ble_eq_true rfl, Nat.le_of_ble_eq_true rfl⟩ ?_
    have e : perF (Lc tx sz) r P T a = none := by
      unfold perF
      rw [if_pos c8]
    exact q_f (by rw [e]; rfl) (hq _ _ _ (fun x hx => by rw [e] at hx; cases hx))
  · rw [nI_eq (by omega) (by decide)] at c8
    refine g_aload_n hX dX6_isPerson_11 rfl rfl ?_
    refine g_iconst (v := nI 0) hX dX6_isPerson_12 (by decide) ?_
    refine g_iconst (v := nI 3) hX dX6_isPerson_13 (by decide) ?_
    refine g_callV (md' := mX6_number) (ci := 6) (As := [.int _, .int _]) hX hR dX6_isPerson_14 clX6_98 okX6_number rfl (by assumption) rfl rfl (Nat.le_of_ble_eq_true rfl) (Nat.le_of_ble_eq_true rfl) ⟨Nat.le_of_ble_eq_true rfl, Nat.le_of_ble_eq_true rfl⟩ ?_
    refine sp_X6_number (lo := 0) (hi := 4) hMo ht (ha) rfl rfl (fun a_x v_x h_x => ?_)
    change GW _ _ _ 17 _ [.int _] _ _ 0 0
    refine g_ifeq 29 hX dX6_isPerson_17 (by decide) (fun c17 => ?_) (fun c17 => ?_)
    · rw [b2i_0] at c17
      replace c17 := opt_no c17
      refine g_iconst (v := nI 0) hX dX6_isPerson_29 (by decide) ?_
      refine g_iret hM dX6_isPerson_30 rfl (rfl) ⟨Nat.le_of_ble_eq_true rfl, Nat.le_of_ble_eq_true rfl⟩ ?_
      have e : perF (Lc tx sz) r P T a = none := by
        unfold perF
        rw [if_neg c8, c17]
      exact q_f (by rw [e]; rfl) (hq _ _ _ (fun x hx => by rw [e] at hx; cases hx))
    · rw [b2i_n0] at c17
      obtain ⟨x, g_x⟩ := opt_yes c17
      obtain ⟨rfl, rfl⟩ := h_x x g_x
      have l_x := numB_le g_x
      refine g_aload_n hX dX6_isPerson_20 rfl rfl ?_
      refine g_bipush (v := nI 59) hX dX6_isPerson_21 (by decide) ?_
      refine g_callV (md' := mX6_takes) (ci := 6) (As := [.int _]) hX hR dX6_isPerson_23 clX6_102 okX6_takes rfl (by assumption) rfl rfl (Nat.le_of_ble_eq_true rfl) (Nat.le_of_ble_eq_true rfl) ⟨Nat.le_of_ble_eq_true rfl, Nat.le_of_ble_eq_true rfl⟩ ?_
      refine sp_X6_takes (c := 59) hMo ht (l_x.2.2.2.1) (by decide) (by decide) ?_
      change GW _ _ _ 26 _ [.int _] _ _ 0 0
      refine g_ifne 31 hX dX6_isPerson_26 (by decide) (fun c26 => ?_) (fun c26 => ?_)
      · rw [b2i_n0, decide_eq_true_eq] at c26
        rw [if_pos c26]
        have t26 := Lc_lt (tx := tx) (sz := sz) (by rw [c26]; decide)
        refine g_aload_n hX dX6_isPerson_31 rfl rfl ?_
        refine g_aload_n hX dX6_isPerson_32 rfl rfl ?_
        refine g_getI hX dX6_isPerson_33 flX6_95 (by assumption) rfl ?_
        try simp only [pst_at hp1, pst_vl hp1, pst_sa hp1, pst_sv hp1]
        refine g_callV (md' := mX6_addsPerson) (ci := 6) (As := [.int _]) hX hR dX6_isPerson_36 clX6_43 okX6_addsPerson rfl (by assumption) rfl rfl (Nat.le_of_ble_eq_true rfl) (Nat.le_of_ble_eq_true rfl) ⟨Nat.le_of_ble_eq_true rfl, Nat.le_of_ble_eq_true rfl⟩ ?_
        refine sp_X6_addsPerson hMo (p := P) (by rw [pst_rd]; exact hr0) (by omega) ?_
        rw [pst_rd, pst_sr]
        change GW _ _ _ 39 _ [] _ _ 0 0
        refine g_iconst (v := nI 1) hX dX6_isPerson_39 (by decide) ?_
        refine g_iret hM dX6_isPerson_40 rfl (rfl) ⟨Nat.le_of_ble_eq_true rfl, Nat.le_of_ble_eq_true rfl⟩ ?_
        have e : perF (Lc tx sz) r P T a = some (adP r P (nI x.1), P + 1, T, x.2 + 1) := by
          unfold perF
          rw [if_neg c8, g_x]
          dsimp only
          rw [if_pos c26]
        exact q_t (by rw [e]; rfl) (hq _ _ _ (fun x hx => by rw [e] at hx; cases hx; exact ⟨rfl, rfl⟩))
      · rw [b2i_0, decide_eq_false_iff_not] at c26
        rw [if_neg c26]
        refine g_iconst (v := nI 0) hX dX6_isPerson_29 (by decide) ?_
        refine g_iret hM dX6_isPerson_30 rfl (rfl) ⟨Nat.le_of_ble_eq_true rfl, Nat.le_of_ble_eq_true rfl⟩ ?_
        have e : perF (Lc tx sz) r P T a = none := by
          unfold perF
          rw [if_neg c8, g_x]
          dsimp only
          rw [if_neg c26]
        exact q_f (by rw [e]; rfl) (hq _ _ _ (fun x hx => by rw [e] at hx; cases hx))

set_option maxHeartbeats 4000000 in
set_option maxRecDepth 100000 in
theorem sp_X6_areFriends {Γ : Ga} {d : Nat} {κ : Kp} {I : Ip} {Q : Option Value → Kp → Ip → Prop} {m a sz : Nat} {v : Int32} {r tx : Nat → Int32} {P T : Nat} (hMo : MoK κ m) (ht : TxK κ m I tx sz) (ha : a ≤ sz) (hr0 : r 0 = nI P) (hP : P ≤ 6) (hq : ∀ (a1 v1 : Int32) (r1 : Nat → Int32), (∀ x, friF (Lc tx sz) r P T a = some x → r1 = x.1 ∧ a1 = nI x.2.2.2) → Q (some (.int (b2i (friF (Lc tx sz) r P T a).isSome))) κ (pst κ m I a1 v1 r1)) : Sp Γ (d + 3) mX6_areFriends [.ref (m)] κ (pst κ m I (nI a) v r) Q := by
  obtain ⟨hm, hm0, ⟨k0, n0⟩, ⟨k1, n1⟩, ⟨k2, n2⟩, ⟨k3, n3⟩, ⟨k4, n4⟩, ⟨k6, n6⟩, ⟨k8, n8⟩, ⟨k14, n14⟩, ⟨k15, n15⟩, ⟨k16, n16⟩, d01, d23, d614, d1516⟩ := id hMo
  have hp1 := hMo.m1
  obtain ⟨ht9, hsz, -⟩ := id ht
  intro X hM
  have hX := hM.std
  have hR := hM.room
  show GW _ mX6_areFriends X 0 [(0, .ref (m))] [] _ _ 0 0
  refine g_aload_n hX dX6_areFriends_0 rfl rfl ?_
  refine g_getR hX dX6_areFriends_1 flX6_13 (by assumption) rfl (by first | assumption | rfl) (by assumption) ?_
  refine g_iconst (v := nI 0) hX dX6_areFriends_4 (by decide) ?_
  refine g_ialdN hX dX6_areFriends_5 (by assumption) (rfl) (by omega) (by first | decide | omega) ?_
  try simp only [pst_at hp1, pst_vl hp1, pst_sa hp1, pst_sv hp1]
  rw [pst_rd, hr0]
  refine g_iconst (v := nI 1) hX dX6_areFriends_6 (by decide) ?_
  refine g_isub hX dX6_areFriends_7 ?_
  refine g_istore_n (lv' := [(1, .int _), (0, .ref _)]) hX dX6_areFriends_8 rfl (by decide) rfl ?_
  refine g_aload_n hX dX6_areFriends_9 rfl rfl ?_
  refine g_iconst (v := nI 0) hX dX6_areFriends_10 (by decide) ?_
  refine g_iload_n hX dX6_areFriends_11 rfl rfl ?_
  refine g_callV (md' := mX6_number) (ci := 6) (As := [.int _, .int _]) hX hR dX6_areFriends_12 clX6_98 okX6_number rfl (by assumption) rfl rfl (Nat.le_of_ble_eq_true rfl) (Nat.le_of_ble_eq_true rfl) ⟨Nat.le_of_ble_eq_true rfl, Nat.le_of_ble_eq_true rfl⟩ ?_
  refine sp_X6_number (lo := 0) (hi := P) hMo ht (ha) rfl (nI_p1 (by omega)) (fun a_x v_x h_x => ?_)
  change GW _ _ _ 15 _ [.int _] _ _ 0 0
  refine g_ifne 20 hX dX6_areFriends_15 (by decide) (fun c15 => ?_) (fun c15 => ?_)
  · rw [b2i_n0] at c15
    obtain ⟨x, g_x⟩ := opt_yes c15
    obtain ⟨rfl, rfl⟩ := h_x x g_x
    have l_x := numB_le g_x
    refine g_aload_n hX dX6_areFriends_20 rfl rfl ?_
    refine g_getI hX dX6_areFriends_21 flX6_95 (by assumption) rfl ?_
    try simp only [pst_at hp1, pst_vl hp1, pst_sa hp1, pst_sv hp1]
    refine g_istore_n (lv' := [(2, .int _), (1, .int _), (0, .ref _)]) hX dX6_areFriends_24 rfl (by decide) rfl ?_
    refine g_aload_n hX dX6_areFriends_25 rfl rfl ?_
    refine g_bipush (v := nI 44) hX dX6_areFriends_26 (by decide) ?_
    refine g_callV (md' := mX6_takes) (ci := 6) (As := [.int _]) hX hR dX6_areFriends_28 clX6_102 okX6_takes rfl (by assumption) rfl rfl (Nat.le_of_ble_eq_true rfl) (Nat.le_of_ble_eq_true rfl) ⟨Nat.le_of_ble_eq_true rfl, Nat.le_of_ble_eq_true rfl⟩ ?_
    refine sp_X6_takes (c := 44) hMo ht (l_x.2.2.2.1) (by decide) (by decide) ?_
    change GW _ _ _ 31 _ [.int _] _ _ 0 0
    refine g_ifeq 60 hX dX6_areFriends_31 (by decide) (fun c31 => ?_) (fun c31 => ?_)
    · rw [b2i_0, decide_eq_false_iff_not] at c31
      rw [if_neg c31]
      refine g_iconst (v := nI 0) hX dX6_areFriends_60 (by decide) ?_
      refine g_iret hM dX6_areFriends_61 rfl (rfl) ⟨Nat.le_of_ble_eq_true rfl, Nat.le_of_ble_eq_true rfl⟩ ?_
      have e : friF (Lc tx sz) r P T a = none := by
        unfold friF
        rw [g_x]
        dsimp only
        rw [if_neg c31]
      exact q_f (by rw [e]; rfl) (hq _ _ _ (fun x hx => by rw [e] at hx; cases hx))
    · rw [b2i_n0, decide_eq_true_eq] at c31
      rw [if_pos c31]
      have t31 := Lc_lt (tx := tx) (sz := sz) (by rw [c31]; decide)
      refine g_aload_n hX dX6_areFriends_34 rfl rfl ?_
      refine g_iconst (v := nI 0) hX dX6_areFriends_35 (by decide) ?_
      refine g_iload_n hX dX6_areFriends_36 rfl rfl ?_
      refine g_callV (md' := mX6_number) (ci := 6) (As := [.int _, .int _]) hX hR dX6_areFriends_37 clX6_98 okX6_number rfl (by assumption) rfl rfl (Nat.le_of_ble_eq_true rfl) (Nat.le_of_ble_eq_true rfl) ⟨Nat.le_of_ble_eq_true rfl, Nat.le_of_ble_eq_true rfl⟩ ?_
      refine sp_X6_number (lo := 0) (hi := P) hMo ht (by omega) rfl (nI_p1 (by omega)) (fun a_y v_y h_y => ?_)
      change GW _ _ _ 40 _ [.int _] _ _ 0 0
      refine g_ifeq 60 hX dX6_areFriends_40 (by decide) (fun c40 => ?_) (fun c40 => ?_)
      · rw [b2i_0] at c40
        replace c40 := opt_no c40
        refine g_iconst (v := nI 0) hX dX6_areFriends_60 (by decide) ?_
        refine g_iret hM dX6_areFriends_61 rfl (rfl) ⟨Nat.le_of_ble_eq_true rfl, Nat.le_of_ble_eq_true rfl⟩ ?_
        have e : friF (Lc tx sz) r P T a = none := by
          unfold friF
          rw [g_x]
          dsimp only
          rw [if_pos c31, c40]
        exact q_f (by rw [e]; rfl) (hq _ _ _ (fun x hx => by rw [e] at hx; cases hx))
      · rw [b2i_n0] at c40
        obtain ⟨y, g_y⟩ := opt_yes c40
        obtain ⟨rfl, rfl⟩ := h_y y g_y
        have l_y := numB_le g_y
        refine g_aload_n hX dX6_areFriends_43 rfl rfl ?_
        refine g_getI hX dX6_areFriends_44 flX6_95 (by assumption) rfl ?_
        try simp only [pst_at hp1, pst_vl hp1, pst_sa hp1, pst_sv hp1]
        refine g_iload_n hX dX6_areFriends_47 rfl rfl ?_
        refine g_icmpeq 60 hX dX6_areFriends_48 (by decide) (fun c48 => ?_) (fun c48 => ?_)
        · rw [nI_eq (by omega) (by omega)] at c48
          refine g_iconst (v := nI 0) hX dX6_areFriends_60 (by decide) ?_
          refine g_iret hM dX6_areFriends_61 rfl (rfl) ⟨Nat.le_of_ble_eq_true rfl, Nat.le_of_ble_eq_true rfl⟩ ?_
          have e : friF (Lc tx sz) r P T a = none := by
            unfold friF
            rw [g_x]
            dsimp only
            rw [if_pos c31, g_y]
            dsimp only
            rw [if_neg (fun h => h.1 c48)]
          exact q_f (by rw [e]; rfl) (hq _ _ _ (fun x hx => by rw [e] at hx; cases hx))
        · rw [nI_eq (by omega) (by omega)] at c48
          refine g_aload_n hX dX6_areFriends_51 rfl rfl ?_
          refine g_bipush (v := nI 59) hX dX6_areFriends_52 (by decide) ?_
          refine g_callV (md' := mX6_takes) (ci := 6) (As := [.int _]) hX hR dX6_areFriends_54 clX6_102 okX6_takes rfl (by assumption) rfl rfl (Nat.le_of_ble_eq_true rfl) (Nat.le_of_ble_eq_true rfl) ⟨Nat.le_of_ble_eq_true rfl, Nat.le_of_ble_eq_true rfl⟩ ?_
          refine sp_X6_takes (c := 59) hMo ht (l_y.2.2.2.1) (by decide) (by decide) ?_
          change GW _ _ _ 57 _ [.int _] _ _ 0 0
          refine g_ifne 62 hX dX6_areFriends_57 (by decide) (fun c57 => ?_) (fun c57 => ?_)
          · rw [b2i_n0, decide_eq_true_eq] at c57
            rw [if_pos c57]
            have t57 := Lc_lt (tx := tx) (sz := sz) (by rw [c57]; decide)
            refine g_aload_n hX dX6_areFriends_62 rfl rfl ?_
            refine g_iload_n hX dX6_areFriends_63 rfl rfl ?_
            refine g_aload_n hX dX6_areFriends_64 rfl rfl ?_
            refine g_getI hX dX6_areFriends_65 flX6_95 (by assumption) rfl ?_
            try simp only [pst_at hp1, pst_vl hp1, pst_sa hp1, pst_sv hp1]
            refine g_callV (md' := mX6_befriends) (ci := 6) (As := [.int _, .int _]) hX hR dX6_areFriends_68 clX6_47 okX6_befriends rfl (by assumption) rfl rfl (Nat.le_of_ble_eq_true rfl) (Nat.le_of_ble_eq_true rfl) ⟨Nat.le_of_ble_eq_true rfl, Nat.le_of_ble_eq_true rfl⟩ ?_
            refine sp_X6_befriends hMo (i := x.1) (j := y.1) (by omega) (by omega) ?_
            rw [pst_rd, pst_sr]
            change GW _ _ _ 71 _ [] _ _ 0 0
            refine g_iconst (v := nI 1) hX dX6_areFriends_71 (by decide) ?_
            refine g_iret hM dX6_areFriends_72 rfl (rfl) ⟨Nat.le_of_ble_eq_true rfl, Nat.le_of_ble_eq_true rfl⟩ ?_
            have e : friF (Lc tx sz) r P T a = some (adF r x.1 y.1, P, T, y.2 + 1) := by
              unfold friF
              rw [g_x]
              dsimp only
              rw [if_pos c31, g_y]
              dsimp only
              rw [if_pos ⟨c48, c57⟩]
            exact q_t (by rw [e]; rfl) (hq _ _ _ (fun x hx => by rw [e] at hx; cases hx; exact ⟨rfl, rfl⟩))
          · rw [b2i_0, decide_eq_false_iff_not] at c57
            rw [if_neg c57]
            refine g_iconst (v := nI 0) hX dX6_areFriends_60 (by decide) ?_
            refine g_iret hM dX6_areFriends_61 rfl (rfl) ⟨Nat.le_of_ble_eq_true rfl, Nat.le_of_ble_eq_true rfl⟩ ?_
            have e : friF (Lc tx sz) r P T a = none := by
              unfold friF
              rw [g_x]
              dsimp only
              rw [if_pos c31, g_y]
              dsimp only
              rw [if_neg (fun h => c57 h.2)]
            exact q_f (by rw [e]; rfl) (hq _ _ _ (fun x hx => by rw [e] at hx; cases hx))
  · rw [b2i_0] at c15
    replace c15 := opt_no c15
    refine g_iconst (v := nI 0) hX dX6_areFriends_18 (by decide) ?_
    refine g_iret hM dX6_areFriends_19 rfl (rfl) ⟨Nat.le_of_ble_eq_true rfl, Nat.le_of_ble_eq_true rfl⟩ ?_
    have e : friF (Lc tx sz) r P T a = none := by
      unfold friF
      rw [c15]
    exact q_f (by rw [e]; rfl) (hq _ _ _ (fun x hx => by rw [e] at hx; cases hx))

set_option maxHeartbeats 4000000 in
set_option maxRecDepth 100000 in
theorem lp_X6_row_2 {Γ : Ga} {d : Nat} {κ : Kp} {Q : Option Value → Kp → Ip → Prop} {X : Cx} {I : Ip} {m sz P q : Nat} {v : Int32} {r tx : Nat → Int32} {RR : Int32 × Nat} (hM : Mx Γ (d + 2) mX6_row Q X) (hMo : MoK κ m) (ht : TxK κ m I tx sz) (hr0 : r 0 = nI P) (hP : P ≤ 6) (hq6 : q < 6) (hq : ∀ a1 : Int32, (¬ RR.1 = 0 → a1 = nI RR.2) → Q (some (.int RR.1)) κ (pst κ m I a1 v r)) : ∀ (n : Nat) (a : Nat) (x : Int32), sz ≤ a + n → a ≤ sz → rowF (Lc tx sz) P q n a x = RR → GW Γ mX6_row X 2 [(2, .int (x)), (0, .ref (m)), (1, .int (nI q))] [] κ (pst κ m I (nI a) v r) 0 0 := by
  have hX := hM.std
  have hR := hM.room
  intro n
  induction n using Nat.strongRecOn with
  | ind n ih =>
    intro a x hn ha hRF
    obtain ⟨hm, hm0, ⟨k0, n0⟩, ⟨k1, n1⟩, ⟨k2, n2⟩, ⟨k3, n3⟩, ⟨k4, n4⟩, ⟨k6, n6⟩, ⟨k8, n8⟩, ⟨k14, n14⟩, ⟨k15, n15⟩, ⟨k16, n16⟩, d01, d23, d614, d1516⟩ := id hMo
    have hp1 := hMo.m1
    obtain ⟨ht9, hsz, -⟩ := id ht
    refine g_aload_n hX dX6_row_2 rfl rfl ?_
    refine g_callV (md' := mX6_here) (ci := 6) (As := []) hX hR dX6_row_3 clX6_83 okX6_here rfl (by assumption) rfl rfl (Nat.le_of_ble_eq_true rfl) (Nat.le_of_ble_eq_true rfl) ⟨Nat.le_of_ble_eq_true rfl, Nat.le_of_ble_eq_true rfl⟩ ?_
    refine sp_X6_here hMo ht ha ?_
    change GW _ _ _ 6 _ [.int _] _ _ 0 0
    refine g_callS (md' := mX6_isFigure) (As := [.int _]) hX hR dX6_row_6 clX6_91 okX6_isFigure rfl rfl (Nat.le_of_ble_eq_true rfl) (Nat.le_of_ble_eq_true rfl) ⟨Nat.le_of_ble_eq_true rfl, Nat.le_of_ble_eq_true rfl⟩ ?_
    refine sp_X6_isFigure (ht.le a) ?_
    change GW _ _ _ 9 _ [.int _] _ _ 0 0
    refine g_ifeq 64 hX dX6_row_9 (by decide) (fun c9 => ?_) (fun c9 => ?_)
    · rw [b2i_0, decide_eq_false_iff_not] at c9
      refine g_iload_n hX dX6_row_64 rfl rfl ?_
      refine g_iret hM dX6_row_65 rfl (rfl) ⟨Nat.le_of_ble_eq_true rfl, Nat.le_of_ble_eq_true rfl⟩ ?_
      have e : RR = (x, a) := by
        rw [← hRF]
        cases n with
        | zero => rfl
        | succ k => rw [rowF, if_neg c9]
      subst e
      exact hq _ (fun _ => rfl)
    · rw [b2i_n0, decide_eq_true_eq] at c9
      have hl1 := Lc_lt (tx := tx) (sz := sz) (a := a) (by omega)
      obtain ⟨k, rfl⟩ : ∃ k, n = k + 1 := ⟨n - 1, by omega⟩
      rw [rowF, if_pos c9] at hRF
      refine g_aload_n hX dX6_row_12 rfl rfl ?_
      refine g_callV (md' := mX6_here) (ci := 6) (As := []) hX hR dX6_row_13 clX6_83 okX6_here rfl (by assumption) rfl rfl (Nat.le_of_ble_eq_true rfl) (Nat.le_of_ble_eq_true rfl) ⟨Nat.le_of_ble_eq_true rfl, Nat.le_of_ble_eq_true rfl⟩ ?_
      refine sp_X6_here hMo ht ha ?_
      change GW _ _ _ 16 _ [.int _] _ _ 0 0
      refine g_bipush (v := nI 48) hX dX6_row_16 (by decide) ?_
      refine g_isub hX dX6_row_18 ?_
      rw [hV_sub c9]
      refine g_istore_n (lv' := [(3, .int _), (2, .int _), (0, .ref _), (1, .int _)]) hX dX6_row_19 rfl (by decide) rfl ?_
      refine g_iload_n hX dX6_row_20 rfl rfl ?_
      refine g_aload_n hX dX6_row_21 rfl rfl ?_
      refine g_getR hX dX6_row_22 flX6_13 (by assumption) rfl (by first | assumption | rfl) (by assumption) ?_
      refine g_iconst (v := nI 0) hX dX6_row_25 (by decide) ?_
      refine g_ialdN hX dX6_row_26 (by assumption) (rfl) (by omega) (by first | decide | omega) ?_
      try simp only [pst_at hp1, pst_vl hp1, pst_sa hp1, pst_sv hp1]
      rw [pst_rd, hr0]
      refine g_icmpge 43 hX dX6_row_27 (by decide) (fun c27 => ?_) (fun c27 => ?_)
      · rw [nI_leI (by omega) (by omega)] at c27
        refine g_iconst (v := nI 0) hX dX6_row_43 (by decide) ?_
        refine g_iret hM dX6_row_44 rfl (rfl) ⟨Nat.le_of_ble_eq_true rfl, Nat.le_of_ble_eq_true rfl⟩ ?_
        rw [if_neg (fun h => by omega)] at hRF
        subst hRF
        exact q_int nI0.symm (hq _ (fun h => absurd rfl h))
      · rw [nI_leI (by omega) (by omega)] at c27
        refine g_iload_n hX dX6_row_30 rfl rfl ?_
        refine g_iload_n hX dX6_row_31 rfl rfl ?_
        refine g_icmpeq 43 hX dX6_row_32 (by decide) (fun c32 => ?_) (fun c32 => ?_)
        · rw [nI_eq (by omega) (by omega)] at c32
          refine g_iconst (v := nI 0) hX dX6_row_43 (by decide) ?_
          refine g_iret hM dX6_row_44 rfl (rfl) ⟨Nat.le_of_ble_eq_true rfl, Nat.le_of_ble_eq_true rfl⟩ ?_
          rw [if_neg (fun h => h.2.1 c32)] at hRF
          subst hRF
          exact q_int nI0.symm (hq _ (fun h => absurd rfl h))
        · rw [nI_eq (by omega) (by omega)] at c32
          refine g_iload_n hX dX6_row_35 rfl rfl ?_
          refine g_iload_n hX dX6_row_36 rfl rfl ?_
          refine g_callS (md' := mX6_has) (As := [.int _, .int _]) hX hR dX6_row_37 clX6_105 okX6_has rfl rfl (Nat.le_of_ble_eq_true rfl) (Nat.le_of_ble_eq_true rfl) ⟨Nat.le_of_ble_eq_true rfl, Nat.le_of_ble_eq_true rfl⟩ ?_
          refine sp_X6_has (by omega) ?_
          change GW _ _ _ 40 _ [.int _] _ _ 0 0
          refine g_ifeq 45 hX dX6_row_40 (by decide) (fun c40 => ?_) (fun c40 => ?_)
          · rw [b2i_0] at c40
            refine g_iload_n hX dX6_row_45 rfl rfl ?_
            refine g_iconst (v := nI 1) hX dX6_row_46 (by decide) ?_
            refine g_iload_n hX dX6_row_47 rfl rfl ?_
            refine g_ishl hX dX6_row_48 ?_
            refine g_ior hX dX6_row_49 ?_
            refine g_istore_n (lv' := [(2, .int _), (3, .int _), (0, .ref _), (1, .int _)]) hX dX6_row_50 rfl (by decide) rfl ?_
            refine g_aload_n hX dX6_row_51 rfl rfl ?_
            refine g_dup hX dX6_row_52 rfl ?_
            refine g_getI hX dX6_row_53 flX6_80 (by assumption) rfl ?_
            try simp only [pst_at hp1, pst_vl hp1, pst_sa hp1, pst_sv hp1]
            refine g_iconst (v := nI 1) hX dX6_row_56 (by decide) ?_
            refine g_iadd hX dX6_row_57 ?_
            rw [nI_add]
            refine g_putI hX dX6_row_58 flX6_80 (by assumption) rfl rfl ?_
            try simp only [pst_at hp1, pst_vl hp1, pst_sa hp1, pst_sv hp1]
            refine g_goto 2 hX dX6_row_61 (by decide) ?_
            rw [if_pos ⟨by omega, c32, c40⟩] at hRF
            exact g_pick [0, 2, 3] rfl (ih k (by omega) (a + 1) (x ||| bit1 (Lc tx sz a - 48)) (by omega) (by omega) hRF)
          · rw [b2i_n0] at c40
            refine g_iconst (v := nI 0) hX dX6_row_43 (by decide) ?_
            refine g_iret hM dX6_row_44 rfl (rfl) ⟨Nat.le_of_ble_eq_true rfl, Nat.le_of_ble_eq_true rfl⟩ ?_
            rw [if_neg (fun h => by rw [h.2.2] at c40; cases c40)] at hRF
            subst hRF
            exact q_int nI0.symm (hq _ (fun h => absurd rfl h))

set_option maxHeartbeats 4000000 in
set_option maxRecDepth 100000 in
theorem sp_X6_row {Γ : Ga} {d : Nat} {κ : Kp} {I : Ip} {Q : Option Value → Kp → Ip → Prop} {m a sz : Nat} {v : Int32} {r tx : Nat → Int32} {P q : Nat} (hMo : MoK κ m) (ht : TxK κ m I tx sz) (ha : a ≤ sz) (hr0 : r 0 = nI P) (hP : P ≤ 6) (hq6 : q < 6) (hq : ∀ a1 : Int32, (¬ (rowF (Lc tx sz) P q 200 a 0).1 = 0 → a1 = nI (rowF (Lc tx sz) P q 200 a 0).2) → Q (some (.int (rowF (Lc tx sz) P q 200 a 0).1)) κ (pst κ m I a1 v r)) : Sp Γ (d + 2) mX6_row [.ref (m), .int (nI q)] κ (pst κ m I (nI a) v r) Q := by
  obtain ⟨hm, hm0, ⟨k0, n0⟩, ⟨k1, n1⟩, ⟨k2, n2⟩, ⟨k3, n3⟩, ⟨k4, n4⟩, ⟨k6, n6⟩, ⟨k8, n8⟩, ⟨k14, n14⟩, ⟨k15, n15⟩, ⟨k16, n16⟩, d01, d23, d614, d1516⟩ := id hMo
  have hp1 := hMo.m1
  obtain ⟨ht9, hsz, -⟩ := id ht
  intro X hM
  have hX := hM.std
  have hR := hM.room
  show GW _ mX6_row X 0 [(0, .ref (m)), (1, .int (nI q))] [] _ _ 0 0
  refine g_iconst (v := nI 0) hX dX6_row_0 (by decide) ?_
  refine g_istore_n (lv' := [(2, .int _), (0, .ref _), (1, .int _)]) hX dX6_row_1 rfl (by decide) rfl ?_
  exact g_pick [0, 1, 2] rfl (lp_X6_row_2 hM hMo ht hr0 hP hq6 hq 200 a 0 (by omega) ha rfl)

set_option maxHeartbeats 4000000 in
set_option maxRecDepth 100000 in
theorem sp_X6_isTale {Γ : Ga} {d : Nat} {κ : Kp} {I : Ip} {Q : Option Value → Kp → Ip → Prop} {m a sz : Nat} {v : Int32} {r tx : Nat → Int32} {P T : Nat} (hMo : MoK κ m) (ht : TxK κ m I tx sz) (ha : a ≤ sz) (hr0 : r 0 = nI P) (hr1 : r 1 = nI T) (hP : P ≤ 6) (hT : T ≤ 9) (hq : ∀ (a1 v1 : Int32) (r1 : Nat → Int32), (∀ x, talF (Lc tx sz) r P T a = some x → r1 = x.1 ∧ a1 = nI x.2.2.2) → Q (some (.int (b2i (talF (Lc tx sz) r P T a).isSome))) κ (pst κ m I a1 v1 r1)) : Sp Γ (d + 3) mX6_isTale [.ref (m)] κ (pst κ m I (nI a) v r) Q := by
  obtain ⟨hm, hm0, ⟨k0, n0⟩, ⟨k1, n1⟩, ⟨k2, n2⟩, ⟨k3, n3⟩, ⟨k4, n4⟩, ⟨k6, n6⟩, ⟨k8, n8⟩, ⟨k14, n14⟩, ⟨k15, n15⟩, ⟨k16, n16⟩, d01, d23, d614, d1516⟩ := id hMo
  have hp1 := hMo.m1
  obtain ⟨ht9, hsz, -⟩ := id ht
  intro X hM
  have hX := hM.std
  have hR := hM.room
  show GW _ mX6_isTale X 0 [(0, .ref (m))] [] _ _ 0 0
  refine g_aload_n hX dX6_isTale_0 rfl rfl ?_
  refine g_getR hX dX6_isTale_1 flX6_13 (by assumption) rfl (by first | assumption | rfl) (by assumption) ?_
  refine g_iconst (v := nI 1) hX dX6_isTale_4 (by decide) ?_
  refine g_ialdN hX dX6_isTale_5 (by assumption) (rfl) (by omega) (by first | decide | omega) ?_
  try simp only [pst_at hp1, pst_vl hp1, pst_sa hp1, pst_sv hp1]
  rw [pst_rd, hr1]
  refine g_bipush (v := nI 9) hX dX6_isTale_6 (by decide) ?_
  refine g_icmpeq 27 hX dX6_isTale_8 (by decide) (fun c8 => ?_) (fun c8 => ?_)
  · rw [nI_eq (by omega) (by decide)] at c8
    refine g_iconst (v := nI 0) hX dX6_isTale_27 (by decide) ?_
    refine g_iret hM dX6_isTale_28 rfl (rfl) ⟨Nat.le_of_ble_eq_true rfl, Nat.le_of_ble_eq_true rfl⟩ ?_
    have e : talF (Lc tx sz) r P T a = none := by
      unfold talF
      rw [if_pos c8]
    exact q_f (by rw [e]; rfl) (hq _ _ _ (fun x hx => by rw [e] at hx; cases hx))
  · rw [nI_eq (by omega) (by decide)] at c8
    refine g_aload_n hX dX6_isTale_11 rfl rfl ?_
    refine g_iconst (v := nI 0) hX dX6_isTale_12 (by decide) ?_
    refine g_aload_n hX dX6_isTale_13 rfl rfl ?_
    refine g_getR hX dX6_isTale_14 flX6_13 (by assumption) rfl (by first | assumption | rfl) (by assumption) ?_
    refine g_iconst (v := nI 0) hX dX6_isTale_17 (by decide) ?_
    refine g_ialdN hX dX6_isTale_18 (by assumption) (rfl) (by omega) (by first | decide | omega) ?_
    try simp only [pst_at hp1, pst_vl hp1, pst_sa hp1, pst_sv hp1]
    rw [pst_rd, hr0]
    refine g_iconst (v := nI 1) hX dX6_isTale_19 (by decide) ?_
    refine g_isub hX dX6_isTale_20 ?_
    refine g_callV (md' := mX6_number) (ci := 6) (As := [.int _, .int _]) hX hR dX6_isTale_21 clX6_98 okX6_number rfl (by assumption) rfl rfl (Nat.le_of_ble_eq_true rfl) (Nat.le_of_ble_eq_true rfl) ⟨Nat.le_of_ble_eq_true rfl, Nat.le_of_ble_eq_true rfl⟩ ?_
    refine sp_X6_number (lo := 0) (hi := P) hMo ht (ha) rfl (nI_p1 (by omega)) (fun a_x v_x h_x => ?_)
    change GW _ _ _ 24 _ [.int _] _ _ 0 0
    refine g_ifne 29 hX dX6_isTale_24 (by decide) (fun c24 => ?_) (fun c24 => ?_)
    · rw [b2i_n0] at c24
      obtain ⟨x, g_x⟩ := opt_yes c24
      obtain ⟨rfl, rfl⟩ := h_x x g_x
      have l_x := numB_le g_x
      refine g_aload_n hX dX6_isTale_29 rfl rfl ?_
      refine g_getI hX dX6_isTale_30 flX6_95 (by assumption) rfl ?_
      try simp only [pst_at hp1, pst_vl hp1, pst_sa hp1, pst_sv hp1]
      refine g_istore_n (lv' := [(1, .int _), (0, .ref _)]) hX dX6_isTale_33 rfl (by decide) rfl ?_
      refine g_aload_n hX dX6_isTale_34 rfl rfl ?_
      refine g_bipush (v := nI 44) hX dX6_isTale_35 (by decide) ?_
      refine g_callV (md' := mX6_takes) (ci := 6) (As := [.int _]) hX hR dX6_isTale_37 clX6_102 okX6_takes rfl (by assumption) rfl rfl (Nat.le_of_ble_eq_true rfl) (Nat.le_of_ble_eq_true rfl) ⟨Nat.le_of_ble_eq_true rfl, Nat.le_of_ble_eq_true rfl⟩ ?_
      refine sp_X6_takes (c := 44) hMo ht (l_x.2.2.2.1) (by decide) (by decide) ?_
      change GW _ _ _ 40 _ [.int _] _ _ 0 0
      refine g_ifeq 53 hX dX6_isTale_40 (by decide) (fun c40 => ?_) (fun c40 => ?_)
      · rw [b2i_0, decide_eq_false_iff_not] at c40
        rw [if_neg c40]
        refine g_iconst (v := nI 0) hX dX6_isTale_53 (by decide) ?_
        refine g_iret hM dX6_isTale_54 rfl (rfl) ⟨Nat.le_of_ble_eq_true rfl, Nat.le_of_ble_eq_true rfl⟩ ?_
        have e : talF (Lc tx sz) r P T a = none := by
          unfold talF
          rw [if_neg c8, g_x]
          dsimp only
          rw [if_neg c40]
        exact q_f (by rw [e]; rfl) (hq _ _ _ (fun x hx => by rw [e] at hx; cases hx))
      · rw [b2i_n0, decide_eq_true_eq] at c40
        rw [if_pos c40]
        have t40 := Lc_lt (tx := tx) (sz := sz) (by rw [c40]; decide)
        refine g_aload_n hX dX6_isTale_43 rfl rfl ?_
        refine g_iconst (v := nI 1) hX dX6_isTale_44 (by decide) ?_
        refine g_bipush (v := nI 20) hX dX6_isTale_45 (by decide) ?_
        refine g_callV (md' := mX6_number) (ci := 6) (As := [.int _, .int _]) hX hR dX6_isTale_47 clX6_98 okX6_number rfl (by assumption) rfl rfl (Nat.le_of_ble_eq_true rfl) (Nat.le_of_ble_eq_true rfl) ⟨Nat.le_of_ble_eq_true rfl, Nat.le_of_ble_eq_true rfl⟩ ?_
        refine sp_X6_number (lo := 1) (hi := 21) hMo ht (by omega) rfl rfl (fun a_y v_y h_y => ?_)
        change GW _ _ _ 50 _ [.int _] _ _ 0 0
        refine g_ifne 55 hX dX6_isTale_50 (by decide) (fun c50 => ?_) (fun c50 => ?_)
        · rw [b2i_n0] at c50
          obtain ⟨y, g_y⟩ := opt_yes c50
          obtain ⟨rfl, rfl⟩ := h_y y g_y
          have l_y := numB_le g_y
          refine g_aload_n hX dX6_isTale_55 rfl rfl ?_
          refine g_getI hX dX6_isTale_56 flX6_95 (by assumption) rfl ?_
          try simp only [pst_at hp1, pst_vl hp1, pst_sa hp1, pst_sv hp1]
          refine g_istore_n (lv' := [(2, .int _), (1, .int _), (0, .ref _)]) hX dX6_isTale_59 rfl (by decide) rfl ?_
          refine g_aload_n hX dX6_isTale_60 rfl rfl ?_
          refine g_bipush (v := nI 44) hX dX6_isTale_61 (by decide) ?_
          refine g_callV (md' := mX6_takes) (ci := 6) (As := [.int _]) hX hR dX6_isTale_63 clX6_102 okX6_takes rfl (by assumption) rfl rfl (Nat.le_of_ble_eq_true rfl) (Nat.le_of_ble_eq_true rfl) ⟨Nat.le_of_ble_eq_true rfl, Nat.le_of_ble_eq_true rfl⟩ ?_
          refine sp_X6_takes (c := 44) hMo ht (l_y.2.2.2.1) (by decide) (by decide) ?_
          change GW _ _ _ 66 _ [.int _] _ _ 0 0
          refine g_ifeq 79 hX dX6_isTale_66 (by decide) (fun c66 => ?_) (fun c66 => ?_)
          · rw [b2i_0, decide_eq_false_iff_not] at c66
            rw [if_neg c66]
            refine g_iconst (v := nI 0) hX dX6_isTale_79 (by decide) ?_
            refine g_iret hM dX6_isTale_80 rfl (rfl) ⟨Nat.le_of_ble_eq_true rfl, Nat.le_of_ble_eq_true rfl⟩ ?_
            have e : talF (Lc tx sz) r P T a = none := by
              unfold talF
              rw [if_neg c8, g_x]
              dsimp only
              rw [if_pos c40, g_y]
              dsimp only
              rw [if_neg c66]
            exact q_f (by rw [e]; rfl) (hq _ _ _ (fun x hx => by rw [e] at hx; cases hx))
          · rw [b2i_n0, decide_eq_true_eq] at c66
            rw [if_pos c66]
            have t66 := Lc_lt (tx := tx) (sz := sz) (by rw [c66]; decide)
            refine g_aload_n hX dX6_isTale_69 rfl rfl ?_
            refine g_iconst (v := nI 1) hX dX6_isTale_70 (by decide) ?_
            refine g_bipush (v := nI 9) hX dX6_isTale_71 (by decide) ?_
            refine g_callV (md' := mX6_number) (ci := 6) (As := [.int _, .int _]) hX hR dX6_isTale_73 clX6_98 okX6_number rfl (by assumption) rfl rfl (Nat.le_of_ble_eq_true rfl) (Nat.le_of_ble_eq_true rfl) ⟨Nat.le_of_ble_eq_true rfl, Nat.le_of_ble_eq_true rfl⟩ ?_
            refine sp_X6_number (lo := 1) (hi := 10) hMo ht (by omega) rfl rfl (fun a_z v_z h_z => ?_)
            change GW _ _ _ 76 _ [.int _] _ _ 0 0
            refine g_ifne 81 hX dX6_isTale_76 (by decide) (fun c76 => ?_) (fun c76 => ?_)
            · rw [b2i_n0] at c76
              obtain ⟨z, g_z⟩ := opt_yes c76
              obtain ⟨rfl, rfl⟩ := h_z z g_z
              have l_z := numB_le g_z
              refine g_aload_n hX dX6_isTale_81 rfl rfl ?_
              refine g_getI hX dX6_isTale_82 flX6_95 (by assumption) rfl ?_
              try simp only [pst_at hp1, pst_vl hp1, pst_sa hp1, pst_sv hp1]
              refine g_istore_n (lv' := [(3, .int _), (2, .int _), (1, .int _), (0, .ref _)]) hX dX6_isTale_85 rfl (by decide) rfl ?_
              refine g_aload_n hX dX6_isTale_86 rfl rfl ?_
              refine g_bipush (v := nI 44) hX dX6_isTale_87 (by decide) ?_
              refine g_callV (md' := mX6_takes) (ci := 6) (As := [.int _]) hX hR dX6_isTale_89 clX6_102 okX6_takes rfl (by assumption) rfl rfl (Nat.le_of_ble_eq_true rfl) (Nat.le_of_ble_eq_true rfl) ⟨Nat.le_of_ble_eq_true rfl, Nat.le_of_ble_eq_true rfl⟩ ?_
              refine sp_X6_takes (c := 44) hMo ht (l_z.2.2.2.1) (by decide) (by decide) ?_
              change GW _ _ _ 92 _ [.int _] _ _ 0 0
              refine g_ifne 97 hX dX6_isTale_92 (by decide) (fun c92 => ?_) (fun c92 => ?_)
              · rw [b2i_n0, decide_eq_true_eq] at c92
                rw [if_pos c92]
                have t92 := Lc_lt (tx := tx) (sz := sz) (by rw [c92]; decide)
                refine g_aload_n hX dX6_isTale_97 rfl rfl ?_
                refine g_iload_n hX dX6_isTale_98 rfl rfl ?_
                refine g_callV (md' := mX6_row) (ci := 6) (As := [.int _]) hX hR dX6_isTale_99 clX6_108 okX6_row rfl (by assumption) rfl rfl (Nat.le_of_ble_eq_true rfl) (Nat.le_of_ble_eq_true rfl) ⟨Nat.le_of_ble_eq_true rfl, Nat.le_of_ble_eq_true rfl⟩ ?_
                refine sp_X6_row (P := P) (q := x.1) hMo ht (by omega) hr0 hP (by omega) (fun a_R h_R => ?_)
                change GW _ _ _ 102 _ [.int _] _ _ 0 0
                refine g_istore (lv' := [(4, .int _), (3, .int _), (2, .int _), (1, .int _), (0, .ref _)]) hX dX6_isTale_102 (by decide) rfl ?_
                refine g_iload hX dX6_isTale_104 rfl ?_
                refine g_ifeq 118 hX dX6_isTale_106 (by decide) (fun c106 => ?_) (fun c106 => ?_)
                · have e106 := c106
                  refine g_iconst (v := nI 0) hX dX6_isTale_118 (by decide) ?_
                  refine g_iret hM dX6_isTale_119 rfl (rfl) ⟨Nat.le_of_ble_eq_true rfl, Nat.le_of_ble_eq_true rfl⟩ ?_
                  have e : talF (Lc tx sz) r P T a = none := by
                    unfold talF
                    rw [if_neg c8, g_x]
                    dsimp only
                    rw [if_pos c40, g_y]
                    dsimp only
                    rw [if_pos c66, g_z]
                    dsimp only
                    rw [if_pos c92]
                    rw [if_neg (fun h => h.1 c106)]
                  exact q_f (by rw [e]; rfl) (hq _ _ _ (fun x hx => by rw [e] at hx; cases hx))
                · obtain rfl := h_R c106
                  have hrk := rowF_ok (tx := tx) (sz := sz) (q := x.1) hP 200 (z.2 + 1) 0 (by omega) (fun j hj => by rw [b_0] at hj; cases hj)
                  refine g_aload_n hX dX6_isTale_109 rfl rfl ?_
                  refine g_bipush (v := nI 59) hX dX6_isTale_110 (by decide) ?_
                  refine g_callV (md' := mX6_takes) (ci := 6) (As := [.int _]) hX hR dX6_isTale_112 clX6_102 okX6_takes rfl (by assumption) rfl rfl (Nat.le_of_ble_eq_true rfl) (Nat.le_of_ble_eq_true rfl) ⟨Nat.le_of_ble_eq_true rfl, Nat.le_of_ble_eq_true rfl⟩ ?_
                  refine sp_X6_takes (c := 59) hMo ht (hrk.2.1) (by decide) (by decide) ?_
                  change GW _ _ _ 115 _ [.int _] _ _ 0 0
                  refine g_ifne 120 hX dX6_isTale_115 (by decide) (fun c115 => ?_) (fun c115 => ?_)
                  · rw [b2i_n0, decide_eq_true_eq] at c115
                    rw [if_pos c115]
                    have t115 := Lc_lt (tx := tx) (sz := sz) (by rw [c115]; decide)
                    refine g_aload_n hX dX6_isTale_120 rfl rfl ?_
                    refine g_iload_n hX dX6_isTale_121 rfl rfl ?_
                    refine g_iload_n hX dX6_isTale_122 rfl rfl ?_
                    refine g_iload_n hX dX6_isTale_123 rfl rfl ?_
                    refine g_iload hX dX6_isTale_124 rfl ?_
                    refine g_callV (md' := mX6_addsTale) (ci := 6) (As := [.int _, .int _, .int _, .int _]) hX hR dX6_isTale_126 clX6_51 okX6_addsTale rfl (by assumption) rfl rfl (Nat.le_of_ble_eq_true rfl) (Nat.le_of_ble_eq_true rfl) ⟨Nat.le_of_ble_eq_true rfl, Nat.le_of_ble_eq_true rfl⟩ ?_
                    refine sp_X6_addsTale hMo (p := T) (by rw [pst_rd]; exact hr1) (by omega) ?_
                    rw [pst_rd, pst_sr]
                    change GW _ _ _ 129 _ [] _ _ 0 0
                    refine g_iconst (v := nI 1) hX dX6_isTale_129 (by decide) ?_
                    refine g_iret hM dX6_isTale_130 rfl (rfl) ⟨Nat.le_of_ble_eq_true rfl, Nat.le_of_ble_eq_true rfl⟩ ?_
                    have e : talF (Lc tx sz) r P T a = some (adT r T (nI x.1) (nI y.1) (nI z.1) (rowF (Lc tx sz) P x.1 200 (z.2 + 1) 0).1, P, T + 1, (rowF (Lc tx sz) P x.1 200 (z.2 + 1) 0).2 + 1) := by
                      unfold talF
                      rw [if_neg c8, g_x]
                      dsimp only
                      rw [if_pos c40, g_y]
                      dsimp only
                      rw [if_pos c66, g_z]
                      dsimp only
                      rw [if_pos c92]
                      rw [if_pos ⟨c106, c115⟩]
                    exact q_t (by rw [e]; rfl) (hq _ _ _ (fun x hx => by rw [e] at hx; cases hx; exact ⟨rfl, rfl⟩))
                  · rw [b2i_0, decide_eq_false_iff_not] at c115
                    rw [if_neg c115]
                    refine g_iconst (v := nI 0) hX dX6_isTale_118 (by decide) ?_
                    refine g_iret hM dX6_isTale_119 rfl (rfl) ⟨Nat.le_of_ble_eq_true rfl, Nat.le_of_ble_eq_true rfl⟩ ?_
                    have e : talF (Lc tx sz) r P T a = none := by
                      unfold talF
                      rw [if_neg c8, g_x]
                      dsimp only
                      rw [if_pos c40, g_y]
                      dsimp only
                      rw [if_pos c66, g_z]
                      dsimp only
                      rw [if_pos c92]
                      rw [if_neg (fun h => c115 h.2)]
                    exact q_f (by rw [e]; rfl) (hq _ _ _ (fun x hx => by rw [e] at hx; cases hx))
              · rw [b2i_0, decide_eq_false_iff_not] at c92
                rw [if_neg c92]
                refine g_iconst (v := nI 0) hX dX6_isTale_95 (by decide) ?_
                refine g_iret hM dX6_isTale_96 rfl (rfl) ⟨Nat.le_of_ble_eq_true rfl, Nat.le_of_ble_eq_true rfl⟩ ?_
                have e : talF (Lc tx sz) r P T a = none := by
                  unfold talF
                  rw [if_neg c8, g_x]
                  dsimp only
                  rw [if_pos c40, g_y]
                  dsimp only
                  rw [if_pos c66, g_z]
                  dsimp only
                  rw [if_neg c92]
                exact q_f (by rw [e]; rfl) (hq _ _ _ (fun x hx => by rw [e] at hx; cases hx))
            · rw [b2i_0] at c76
              replace c76 := opt_no c76
              refine g_iconst (v := nI 0) hX dX6_isTale_79 (by decide) ?_
              refine g_iret hM dX6_isTale_80 rfl (rfl) ⟨Nat.le_of_ble_eq_true rfl, Nat.le_of_ble_eq_true rfl⟩ ?_
              have e : talF (Lc tx sz) r P T a = none := by
                unfold talF
                rw [if_neg c8, g_x]
                dsimp only
                rw [if_pos c40, g_y]
                dsimp only
                rw [if_pos c66, c76]
              exact q_f (by rw [e]; rfl) (hq _ _ _ (fun x hx => by rw [e] at hx; cases hx))
        · rw [b2i_0] at c50
          replace c50 := opt_no c50
          refine g_iconst (v := nI 0) hX dX6_isTale_53 (by decide) ?_
          refine g_iret hM dX6_isTale_54 rfl (rfl) ⟨Nat.le_of_ble_eq_true rfl, Nat.le_of_ble_eq_true rfl⟩ ?_
          have e : talF (Lc tx sz) r P T a = none := by
            unfold talF
            rw [if_neg c8, g_x]
            dsimp only
            rw [if_pos c40, c50]
          exact q_f (by rw [e]; rfl) (hq _ _ _ (fun x hx => by rw [e] at hx; cases hx))
    · rw [b2i_0] at c24
      replace c24 := opt_no c24
      refine g_iconst (v := nI 0) hX dX6_isTale_27 (by decide) ?_
      refine g_iret hM dX6_isTale_28 rfl (rfl) ⟨Nat.le_of_ble_eq_true rfl, Nat.le_of_ble_eq_true rfl⟩ ?_
      have e : talF (Lc tx sz) r P T a = none := by
        unfold talF
        rw [if_neg c8, c24]
      exact q_f (by rw [e]; rfl) (hq _ _ _ (fun x hx => by rw [e] at hx; cases hx))

set_option maxHeartbeats 4000000 in
set_option maxRecDepth 100000 in
theorem sp_X6_isItem {Γ : Ga} {d : Nat} {κ : Kp} {I : Ip} {Q : Option Value → Kp → Ip → Prop} {m a sz : Nat} {v : Int32} {r tx : Nat → Int32} {P T : Nat} (hMo : MoK κ m) (ht : TxK κ m I tx sz) (ha : a ≤ sz) (hw : WfT r P T) (hq : ∀ (a1 v1 : Int32) (r1 : Nat → Int32), (∀ x, itemF (Lc tx sz) (r, P, T, a) = some x → r1 = x.1 ∧ a1 = nI x.2.2.2) → Q (some (.int (b2i (itemF (Lc tx sz) (r, P, T, a)).isSome))) κ (pst κ m I a1 v1 r1)) : Sp Γ (d + 4) mX6_isItem [.ref (m)] κ (pst κ m I (nI a) v r) Q := by
  obtain ⟨hm, hm0, ⟨k0, n0⟩, ⟨k1, n1⟩, ⟨k2, n2⟩, ⟨k3, n3⟩, ⟨k4, n4⟩, ⟨k6, n6⟩, ⟨k8, n8⟩, ⟨k14, n14⟩, ⟨k15, n15⟩, ⟨k16, n16⟩, d01, d23, d614, d1516⟩ := id hMo
  have hp1 := hMo.m1
  obtain ⟨ht9, hsz, -⟩ := id ht
  obtain ⟨hr0, hr1, hP, hT, -⟩ := id hw
  intro X hM
  have hX := hM.std
  have hR := hM.room
  show GW _ mX6_isItem X 0 [(0, .ref (m))] [] _ _ 0 0
  refine g_aload_n hX dX6_isItem_0 rfl rfl ?_
  refine g_bipush (v := nI 112) hX dX6_isItem_1 (by decide) ?_
  refine g_callV (md' := mX6_takes) (ci := 6) (As := [.int _]) hX hR dX6_isItem_3 clX6_102 okX6_takes rfl (by assumption) rfl rfl (Nat.le_of_ble_eq_true rfl) (Nat.le_of_ble_eq_true rfl) ⟨Nat.le_of_ble_eq_true rfl, Nat.le_of_ble_eq_true rfl⟩ ?_
  refine sp_X6_takes (c := 112) hMo ht (ha) (by decide) (by decide) ?_
  change GW _ _ _ 6 _ [.int _] _ _ 0 0
  refine g_ifeq 14 hX dX6_isItem_6 (by decide) (fun c6 => ?_) (fun c6 => ?_)
  · rw [b2i_0, decide_eq_false_iff_not] at c6
    rw [if_neg c6]
    refine g_aload_n hX dX6_isItem_14 rfl rfl ?_
    refine g_bipush (v := nI 102) hX dX6_isItem_15 (by decide) ?_
    refine g_callV (md' := mX6_takes) (ci := 6) (As := [.int _]) hX hR dX6_isItem_17 clX6_102 okX6_takes rfl (by assumption) rfl rfl (Nat.le_of_ble_eq_true rfl) (Nat.le_of_ble_eq_true rfl) ⟨Nat.le_of_ble_eq_true rfl, Nat.le_of_ble_eq_true rfl⟩ ?_
    refine sp_X6_takes (c := 102) hMo ht (ha) (by decide) (by decide) ?_
    change GW _ _ _ 20 _ [.int _] _ _ 0 0
    refine g_ifeq 28 hX dX6_isItem_20 (by decide) (fun c20 => ?_) (fun c20 => ?_)
    · rw [b2i_0, decide_eq_false_iff_not] at c20
      rw [if_neg c20]
      refine g_aload_n hX dX6_isItem_28 rfl rfl ?_
      refine g_bipush (v := nI 116) hX dX6_isItem_29 (by decide) ?_
      refine g_callV (md' := mX6_takes) (ci := 6) (As := [.int _]) hX hR dX6_isItem_31 clX6_102 okX6_takes rfl (by assumption) rfl rfl (Nat.le_of_ble_eq_true rfl) (Nat.le_of_ble_eq_true rfl) ⟨Nat.le_of_ble_eq_true rfl, Nat.le_of_ble_eq_true rfl⟩ ?_
      refine sp_X6_takes (c := 116) hMo ht (ha) (by decide) (by decide) ?_
      change GW _ _ _ 34 _ [.int _] _ _ 0 0
      refine g_ifeq 48 hX dX6_isItem_34 (by decide) (fun c34 => ?_) (fun c34 => ?_)
      · rw [b2i_0, decide_eq_false_iff_not] at c34
        rw [if_neg c34]
        refine g_iconst (v := nI 0) hX dX6_isItem_48 (by decide) ?_
        refine g_iret hM dX6_isItem_49 rfl (rfl) ⟨Nat.le_of_ble_eq_true rfl, Nat.le_of_ble_eq_true rfl⟩ ?_
        have e : itemF (Lc tx sz) (r, P, T, a) = none := by
          unfold itemF
          dsimp only
          rw [if_neg c6, if_neg c20, if_neg c34]
        rw [e] at hq
        exact q_f rfl (hq _ _ _ (fun x hx => by cases hx))
      · rw [b2i_n0, decide_eq_true_eq] at c34
        rw [if_pos c34]
        have t34 := Lc_lt (tx := tx) (sz := sz) (by rw [c34]; decide)
        refine g_aload_n hX dX6_isItem_37 rfl rfl ?_
        refine g_callV (md' := mX6_isTale) (ci := 6) (As := []) hX hR dX6_isItem_38 clX6_119 okX6_isTale rfl (by assumption) rfl rfl (Nat.le_of_ble_eq_true rfl) (Nat.le_of_ble_eq_true rfl) ⟨Nat.le_of_ble_eq_true rfl, Nat.le_of_ble_eq_true rfl⟩ ?_
        refine sp_X6_isTale (P := P) (T := T) hMo ht (by omega) hr0 hr1 hP hT (fun a1 v1 r1 h1 => ?_)
        change GW _ _ _ 41 _ [.int _] _ _ 0 0
        refine g_ifeq 48 hX dX6_isItem_41 (by decide) (fun c41 => ?_) (fun c41 => ?_)
        · first | (rw [b2i_n0] at c41) | (rw [b2i_0] at c41)
          refine g_iconst (v := nI 0) hX dX6_isItem_48 (by decide) ?_
          refine g_iret hM dX6_isItem_49 rfl (rfl) ⟨Nat.le_of_ble_eq_true rfl, Nat.le_of_ble_eq_true rfl⟩ ?_
          have e : itemF (Lc tx sz) (r, P, T, a) = talF (Lc tx sz) r P T (a + 1) := by
            unfold itemF
            dsimp only
            rw [if_neg c6, if_neg c20, if_pos c34]
          rw [e] at hq
          exact q_f c41 (hq _ _ _ h1)
        · first | (rw [b2i_n0] at c41) | (rw [b2i_0] at c41)
          refine g_iconst (v := nI 1) hX dX6_isItem_44 (by decide) ?_
          refine g_goto 49 hX dX6_isItem_45 (by decide) ?_
          refine g_iret hM dX6_isItem_49 rfl (rfl) ⟨Nat.le_of_ble_eq_true rfl, Nat.le_of_ble_eq_true rfl⟩ ?_
          have e : itemF (Lc tx sz) (r, P, T, a) = talF (Lc tx sz) r P T (a + 1) := by
            unfold itemF
            dsimp only
            rw [if_neg c6, if_neg c20, if_pos c34]
          rw [e] at hq
          exact q_t c41 (hq _ _ _ h1)
    · rw [b2i_n0, decide_eq_true_eq] at c20
      rw [if_pos c20]
      have t20 := Lc_lt (tx := tx) (sz := sz) (by rw [c20]; decide)
      refine g_aload_n hX dX6_isItem_23 rfl rfl ?_
      refine g_callV (md' := mX6_areFriends) (ci := 6) (As := []) hX hR dX6_isItem_24 clX6_116 okX6_areFriends rfl (by assumption) rfl rfl (Nat.le_of_ble_eq_true rfl) (Nat.le_of_ble_eq_true rfl) ⟨Nat.le_of_ble_eq_true rfl, Nat.le_of_ble_eq_true rfl⟩ ?_
      refine sp_X6_areFriends (P := P) (T := T) hMo ht (by omega) hr0 hP (fun a1 v1 r1 h1 => ?_)
      change GW _ _ _ 27 _ [.int _] _ _ 0 0
      refine g_iret hM dX6_isItem_27 rfl (b2i_nar _) ⟨Nat.le_of_ble_eq_true rfl, Nat.le_of_ble_eq_true rfl⟩ ?_
      have e : itemF (Lc tx sz) (r, P, T, a) = friF (Lc tx sz) r P T (a + 1) := by
        unfold itemF
        dsimp only
        rw [if_neg c6, if_pos c20]
      rw [e] at hq
      exact hq _ _ _ h1
  · rw [b2i_n0, decide_eq_true_eq] at c6
    rw [if_pos c6]
    have t6 := Lc_lt (tx := tx) (sz := sz) (by rw [c6]; decide)
    refine g_aload_n hX dX6_isItem_9 rfl rfl ?_
    refine g_callV (md' := mX6_isPerson) (ci := 6) (As := []) hX hR dX6_isItem_10 clX6_112 okX6_isPerson rfl (by assumption) rfl rfl (Nat.le_of_ble_eq_true rfl) (Nat.le_of_ble_eq_true rfl) ⟨Nat.le_of_ble_eq_true rfl, Nat.le_of_ble_eq_true rfl⟩ ?_
    refine sp_X6_isPerson (P := P) (T := T) hMo ht (by omega) hr0 hP (fun a1 v1 r1 h1 => ?_)
    change GW _ _ _ 13 _ [.int _] _ _ 0 0
    refine g_iret hM dX6_isItem_13 rfl (b2i_nar _) ⟨Nat.le_of_ble_eq_true rfl, Nat.le_of_ble_eq_true rfl⟩ ?_
    have e : itemF (Lc tx sz) (r, P, T, a) = perF (Lc tx sz) r P T (a + 1) := by
      unfold itemF
      dsimp only
      rw [if_pos c6]
    rw [e] at hq
    exact hq _ _ _ h1

set_option maxHeartbeats 4000000 in
set_option maxRecDepth 100000 in
theorem lp_X6_fault_9 {Γ : Ga} {d : Nat} {κ : Kp} {Q : Option Value → Kp → Ip → Prop} {X : Cx} {I : Ip} {m sz : Nat} {tx : Nat → Int32} {RR : Option Nat × PsT} (hM : Mx Γ (d + 5) mX6_fault Q X) (hMo : MoK κ m) (ht : TxK κ m I tx sz) (hq : ∀ (a1 v1 : Int32) (r1 : Nat → Int32), (RR.1 = none → r1 = RR.2.1) → Q (some (.int (match RR.1 with | none => -4 | some a => nI a))) κ (pst κ m I a1 v1 r1)) : ∀ (n : Nat) (s : PsT) (v : Int32), sz ≤ s.2.2.2 + n → OkR s sz → fltF (Lc tx sz) sz n s = RR → GW Γ mX6_fault X 9 [(0, .ref (m))] [] κ (pst κ m I (nI s.2.2.2) v s.1) 0 0 := by
  have hX := hM.std
  have hR := hM.room
  intro n
  induction n using Nat.strongRecOn with
  | ind n ih =>
    intro s v hn hs hRF
    obtain ⟨hm, hm0, ⟨k0, n0⟩, ⟨k1, n1⟩, ⟨k2, n2⟩, ⟨k3, n3⟩, ⟨k4, n4⟩, ⟨k6, n6⟩, ⟨k8, n8⟩, ⟨k14, n14⟩, ⟨k15, n15⟩, ⟨k16, n16⟩, d01, d23, d614, d1516⟩ := id hMo
    have hp1 := hMo.m1
    obtain ⟨ht9, hsz, -⟩ := id ht
    obtain ⟨r, P, T, a⟩ := s
    obtain ⟨hw, h8, ha⟩ := id hs
    dsimp only at hw h8 ha hn ⊢
    refine g_aload_n hX dX6_fault_9 rfl rfl ?_
    refine g_getI hX dX6_fault_10 flX6_80 (by assumption) rfl ?_
    try simp only [pst_at hp1, pst_vl hp1, pst_sa hp1, pst_sv hp1]
    refine g_aload_n hX dX6_fault_13 rfl rfl ?_
    refine g_getI hX dX6_fault_14 flX6_77 (by assumption) rfl ?_
    try simp only [pst_at hp1, pst_vl hp1, pst_sa hp1, pst_sv hp1]
    rw [pst_k hp1 (by decide) (by decide), ht9]
    refine g_icmpge 37 hX dX6_fault_17 (by decide) (fun c17 => ?_) (fun c17 => ?_)
    · rw [nI_leI (by omega) (by omega)] at c17
      refine g_bipush (v := (-4)) hX dX6_fault_37 (by decide) ?_
      refine g_iret hM dX6_fault_39 rfl (rfl) ⟨Nat.le_of_ble_eq_true rfl, Nat.le_of_ble_eq_true rfl⟩ ?_
      have e : RR = (none, r, P, T, a) := by
        rw [← hRF]
        cases n with
        | zero => rfl
        | succ k => rw [fltF, if_neg (show ¬ a < sz by omega)]
      subst e
      exact hq _ _ _ (fun _ => rfl)
    · rw [nI_leI (by omega) (by omega)] at c17
      obtain ⟨k, rfl⟩ : ∃ k, n = k + 1 := ⟨n - 1, by omega⟩
      rw [fltF, if_pos (show a < sz by omega)] at hRF
      refine g_aload_n hX dX6_fault_20 rfl rfl ?_
      refine g_getI hX dX6_fault_21 flX6_80 (by assumption) rfl ?_
      try simp only [pst_at hp1, pst_vl hp1, pst_sa hp1, pst_sv hp1]
      refine g_istore_n (lv' := [(1, .int _), (0, .ref _)]) hX dX6_fault_24 rfl (by decide) rfl ?_
      refine g_aload_n hX dX6_fault_25 rfl rfl ?_
      refine g_callV (md' := mX6_isItem) (ci := 6) (As := []) hX hR dX6_fault_26 clX6_122 okX6_isItem rfl (by assumption) rfl rfl (Nat.le_of_ble_eq_true rfl) (Nat.le_of_ble_eq_true rfl) ⟨Nat.le_of_ble_eq_true rfl, Nat.le_of_ble_eq_true rfl⟩ ?_
      refine sp_X6_isItem (P := P) (T := T) hMo ht ha hw (fun a1 v1 r1 h1 => ?_)
      change GW _ _ _ 29 _ [.int _] _ _ 0 0
      refine g_ifne 34 hX dX6_fault_29 (by decide) (fun c29 => ?_) (fun c29 => ?_)
      · rw [b2i_n0] at c29
        obtain ⟨s2, g2⟩ := opt_yes c29
        obtain ⟨rfl, rfl⟩ := h1 s2 g2
        rw [g2] at hRF
        obtain ⟨o1, o2⟩ := item_ok hs g2
        dsimp only at o2 hRF
        refine g_goto 9 hX dX6_fault_34 (by decide) ?_
        exact g_pick [1] rfl (ih k (by omega) s2 v1 (by omega) o1 hRF)
      · rw [b2i_0] at c29
        replace c29 := opt_no c29
        rw [c29] at hRF
        refine g_iload_n hX dX6_fault_32 rfl rfl ?_
        refine g_iret hM dX6_fault_33 rfl (rfl) ⟨Nat.le_of_ble_eq_true rfl, Nat.le_of_ble_eq_true rfl⟩ ?_
        subst hRF
        exact hq _ _ _ (fun h => by cases h)

set_option maxHeartbeats 4000000 in
set_option maxRecDepth 100000 in
theorem sp_X6_fault {Γ : Ga} {d : Nat} {κ : Kp} {I : Ip} {Q : Option Value → Kp → Ip → Prop} {m sz : Nat} {tx : Nat → Int32} (hMo : MoK κ m) (ht : TxK κ m I tx sz) (hq : ∀ (a1 v1 : Int32) (r1 : Nat → Int32), ((flt0 tx sz).1 = none → r1 = (flt0 tx sz).2.1) → Q (some (.int (faultA tx sz))) κ (pst κ m I a1 v1 r1)) : Sp Γ (d + 5) mX6_fault [.ref (m)] κ I Q := by
  obtain ⟨hm, hm0, ⟨k0, n0⟩, ⟨k1, n1⟩, ⟨k2, n2⟩, ⟨k3, n3⟩, ⟨k4, n4⟩, ⟨k6, n6⟩, ⟨k8, n8⟩, ⟨k14, n14⟩, ⟨k15, n15⟩, ⟨k16, n16⟩, d01, d23, d614, d1516⟩ := id hMo
  have hp1 := hMo.m1
  obtain ⟨ht9, hsz, -⟩ := id ht
  intro X hM
  have hX := hM.std
  have hR := hM.room
  show GW _ mX6_fault X 0 [(0, .ref (m))] [] _ _ 0 0
  refine g_aload_n hX dX6_fault_0 rfl rfl ?_
  refine g_callV (md' := mX6_empties) (ci := 6) (As := []) hX hR dX6_fault_1 clX6_40 okX6_empties rfl (by assumption) rfl rfl (Nat.le_of_ble_eq_true rfl) (Nat.le_of_ble_eq_true rfl) ⟨Nat.le_of_ble_eq_true rfl, Nat.le_of_ble_eq_true rfl⟩ ?_
  refine sp_X6_empties hMo ?_
  refine g_ext (f := fun _ => nI 0) k1 (fun k hk => ?_) ?_
  · rw [up_same, fb_put_in (Nat.zero_le _) (by omega)]
  rw [up_up]
  change GW _ _ _ 4 _ [] _ _ 0 0
  refine g_aload_n hX dX6_fault_4 rfl rfl ?_
  refine g_iconst (v := nI 0) hX dX6_fault_5 (by decide) ?_
  refine g_putI hX dX6_fault_6 flX6_80 (by assumption) rfl rfl ?_
  rw [up_ne _ _ hp1]
  refine g_st ?_ (g_pick [0] rfl (lp_X6_fault_9 hM hMo ht (RR := flt0 tx sz) hq 200 (fun _ => nI 0, 0, 0, 0) (I m 11) (by show sz ≤ 0 + 200; omega) (ok_0 sz) rfl))
  unfold pst
  rw [← up_comm _ _ _ hp1, up_eq (f := va_up (I m) 10 (nI 0)) (g := va_up (I m) 10 (nI 0)) (by rw [up_ne _ _ (by decide)]) (fun j hj => rfl)]

set_option maxHeartbeats 4000000 in
set_option maxRecDepth 100000 in
theorem lp_X6_begins_17 {Γ : Ga} {d : Nat} {κ : Kp} {Q : Option Value → Kp → Ip → Prop} {X : Cx} {I : Ip} {m : Nat} (hM : Mx Γ (d + 1) mX6_begins Q X) (hMo : MoK κ m) (hout : GW Γ mX6_begins X 36 [(1, .int (nI 18)), (0, .ref m)] [] κ (va_up I (κ.2.1 m 2) (fb_put (I (κ.2.1 m 2)) (fun _ => nI 0) 0 18)) 0 0) : ∀ (n : Nat) (k : Nat), n = 18 - k → k ≤ 18 → GW Γ mX6_begins X 17 [(1, .int (nI k)), (0, .ref (m))] [] κ (va_up I (κ.2.1 m 2) (fb_put (I (κ.2.1 m 2)) (fun _ => nI 0) 0 k)) 0 0 := by
  have hX := hM.std
  have hR := hM.room
  intro n
  induction n using Nat.strongRecOn with
  | ind n ih =>
    intro k hn hk
    obtain ⟨hm, hm0, ⟨k0, n0⟩, ⟨k1, n1⟩, ⟨k2, n2⟩, ⟨k3, n3⟩, ⟨k4, n4⟩, ⟨k6, n6⟩, ⟨k8, n8⟩, ⟨k14, n14⟩, ⟨k15, n15⟩, ⟨k16, n16⟩, d01, d23, d614, d1516⟩ := id hMo
    refine g_iload_n hX dX6_begins_17 rfl rfl ?_
    refine g_bipush (v := nI 18) hX dX6_begins_18 (by decide) ?_
    refine g_icmpge 36 hX dX6_begins_20 (by decide) (fun c20 => ?_) (fun c20 => ?_)
    · rw [nI_leI (by omega) (by omega)] at c20
      have e : k = 18 := by omega
      subst e
      exact g_pick [0, 1] rfl hout
    · rw [nI_leI (by omega) (by omega)] at c20
      refine g_aload_n hX dX6_begins_23 rfl rfl ?_
      refine g_getR hX dX6_begins_24 flX6_16 (by assumption) rfl (by first | assumption | rfl) (by assumption) ?_
      refine g_iload_n hX dX6_begins_27 rfl rfl ?_
      refine g_iconst (v := nI 0) hX dX6_begins_28 (by decide) ?_
      refine g_iastN hX dX6_begins_29 (by assumption) (rfl) (by omega) (by first | decide | omega) ?_
      refine g_iinc (lv' := [(1, .int _), (0, .ref _)]) hX dX6_begins_30 rfl (by first | exact nI_inc _ | rfl) (by decide) rfl ?_
      refine g_goto 17 hX dX6_begins_33 (by decide) ?_
      refine g_st ?_ (g_pick [0, 1] rfl (ih (18 - (k + 1)) (by omega) (k + 1) rfl (by omega)))
      rw [up_same, up_up, ← fb_put_succ, Nat.zero_add]
      rfl

set_option maxHeartbeats 4000000 in
set_option maxRecDepth 100000 in
theorem sp_X6_begins {Γ : Ga} {d : Nat} {κ : Kp} {I : Ip} {Q : Option Value → Kp → Ip → Prop} {m : Nat} (hMo : MoK κ m)  (hq : Q none κ (va_up (va_up (va_up I (κ.2.1 m 0) (I (κ.2.1 m 1))) (κ.2.1 m 2) (laidS (I (κ.2.1 m 1)))) m (va_up (va_up (I m) 5 (nI 0)) 7 (nI 0)))) : Sp Γ (d + 1) mX6_begins [.ref (m)] κ I Q := by
  obtain ⟨hm, hm0, ⟨k0, n0⟩, ⟨k1, n1⟩, ⟨k2, n2⟩, ⟨k3, n3⟩, ⟨k4, n4⟩, ⟨k6, n6⟩, ⟨k8, n8⟩, ⟨k14, n14⟩, ⟨k15, n15⟩, ⟨k16, n16⟩, d01, d23, d614, d1516⟩ := id hMo
  have h02 : κ.2.1 m 0 ≠ κ.2.1 m 2 := kd_ne k0 k2 (by decide)
  have hm2 := hMo.m2
  have hm0x := hMo.m0
  intro X hM
  have hX := hM.std
  have hR := hM.room
  show GW _ mX6_begins X 0 [(0, .ref (m))] [] _ _ 0 0
  refine g_aload_n hX dX6_begins_0 rfl rfl ?_
  refine g_getR hX dX6_begins_1 flX6_13 (by assumption) rfl (by first | assumption | rfl) (by assumption) ?_
  refine g_iconst (v := nI 0) hX dX6_begins_4 (by decide) ?_
  refine g_aload_n hX dX6_begins_5 rfl rfl ?_
  refine g_getR hX dX6_begins_6 flX6_7 (by assumption) rfl (by first | assumption | rfl) (by assumption) ?_
  refine g_iconst (v := nI 0) hX dX6_begins_9 (by decide) ?_
  refine g_bipush (v := nI 50) hX dX6_begins_10 (by decide) ?_
  refine g_callS (md' := mX6_copies) (As := [.ref _, .int _, .ref _, .int _, .int _]) hX hR dX6_begins_12 clX6_58 okX6_copies rfl rfl (Nat.le_of_ble_eq_true rfl) (Nat.le_of_ble_eq_true rfl) ⟨Nat.le_of_ble_eq_true rfl, Nat.le_of_ble_eq_true rfl⟩ ?_
  refine sp_X6_copies (i := 0) (j := 0) (c := 50) k1 k0 (by decide) (by decide) (by decide) (by decide) (fun e => d01 e.symm) ?_
  refine g_ext (f := I (κ.2.1 m 1)) k0 (fun k hk => ?_) ?_
  · rw [up_same, fb_put_in (Nat.zero_le _) (by omega), Nat.sub_zero, Nat.zero_add]
  rw [up_up]
  change GW _ _ _ 15 _ [] _ _ 0 0
  refine g_iconst (v := nI 0) hX dX6_begins_15 (by decide) ?_
  refine g_istore_n (lv' := [(1, .int _), (0, .ref _)]) hX dX6_begins_16 rfl (by decide) rfl ?_
  refine g_pick [0, 1] rfl (g_st ?_ (lp_X6_begins_17 (I := va_up I (κ.2.1 m 0) (I (κ.2.1 m 1))) hM hMo ?_ 18 0 rfl (by omega)))
  · rw [fb_put_0, up_self]
  refine g_aload_n hX dX6_begins_36 rfl rfl ?_
  refine g_getR hX dX6_begins_37 flX6_7 (by assumption) rfl (by first | assumption | rfl) (by assumption) ?_
  refine g_bipush (v := nI 41) hX dX6_begins_40 (by decide) ?_
  refine g_aload_n hX dX6_begins_42 rfl rfl ?_
  refine g_getR hX dX6_begins_43 flX6_16 (by assumption) rfl (by first | assumption | rfl) (by assumption) ?_
  refine g_iconst (v := nI 0) hX dX6_begins_46 (by decide) ?_
  refine g_bipush (v := nI 9) hX dX6_begins_47 (by decide) ?_
  refine g_callS (md' := mX6_copies) (As := [.ref _, .int _, .ref _, .int _, .int _]) hX hR dX6_begins_49 clX6_58 okX6_copies rfl rfl (Nat.le_of_ble_eq_true rfl) (Nat.le_of_ble_eq_true rfl) ⟨Nat.le_of_ble_eq_true rfl, Nat.le_of_ble_eq_true rfl⟩ ?_
  refine sp_X6_copies (i := 41) (j := 0) (c := 9) k0 k2 (by decide) (by decide) (by decide) (by decide) (kd_ne k0 k2 (by decide)) ?_
  simp only [up_ne _ _ h02, up_same, up_up]
  change GW _ _ _ 52 _ [] _ _ 0 0
  refine g_aload_n hX dX6_begins_52 rfl rfl ?_
  refine g_getR hX dX6_begins_53 flX6_16 (by assumption) rfl (by first | assumption | rfl) (by assumption) ?_
  refine g_bipush (v := nI 10) hX dX6_begins_56 (by decide) ?_
  refine g_bipush (v := (-4)) hX dX6_begins_58 (by decide) ?_
  refine g_iastN hX dX6_begins_60 (by assumption) (rfl) (by omega) (by first | decide | omega) ?_
  try simp only [up_same, up_up]
  refine g_aload_n hX dX6_begins_61 rfl rfl ?_
  refine g_getR hX dX6_begins_62 flX6_16 (by assumption) rfl (by first | assumption | rfl) (by assumption) ?_
  refine g_bipush (v := nI 13) hX dX6_begins_65 (by decide) ?_
  refine g_bipush (v := (-4)) hX dX6_begins_67 (by decide) ?_
  refine g_iastN hX dX6_begins_69 (by assumption) (rfl) (by omega) (by first | decide | omega) ?_
  try simp only [up_same, up_up]
  refine g_ext (f := laidS (I (κ.2.1 m 1))) k2 (fun k hk => ?_) ?_
  · rw [up_same]
    exact laid_row k hk
  rw [up_up]
  refine g_aload_n hX dX6_begins_70 rfl rfl ?_
  refine g_iconst (v := nI 0) hX dX6_begins_71 (by decide) ?_
  refine g_putI hX dX6_begins_72 flX6_62 (by assumption) rfl rfl ?_
  try simp only [up_same, up_up]
  refine g_aload_n hX dX6_begins_75 rfl rfl ?_
  refine g_iconst (v := nI 0) hX dX6_begins_76 (by decide) ?_
  refine g_putI hX dX6_begins_77 flX6_66 (by assumption) rfl rfl ?_
  try simp only [up_same, up_up]
  refine g_vret hM dX6_begins_80 rfl ⟨Nat.le_of_ble_eq_true rfl, Nat.le_of_ble_eq_true rfl⟩ ?_
  rw [up_ne _ _ hm2, up_ne _ _ hm0x]
  exact hq

set_option maxHeartbeats 4000000 in
set_option maxRecDepth 100000 in
theorem sp_X6_lay {Γ : Ga} {d : Nat} {κ : Kp} {I : Ip} {Q : Option Value → Kp → Ip → Prop} {m P T : Nat} {w s : Nat → Int32} {past kept : List (Nat → Int32)} {tx : Nat → Int32} {sz : Nat}  (hMR : MR κ m I P T w s past kept tx sz) (hq0 : (¬ (flt0 tx sz).1 = none ∨ (flt0 tx sz).2.2.1 = 0) → ∀ J : Ip, MR κ m J P T w s past kept tx sz → MOut κ m I J → Q (some (.int (-2))) κ J) (hq : (flt0 tx sz).1 = none → (flt0 tx sz).2.2.1 ≠ 0 → ∀ J : Ip, MR κ m J (flt0 tx sz).2.2.1 (flt0 tx sz).2.2.2.1 (flt0 tx sz).2.1 (laidS (flt0 tx sz).2.1) [] [] tx sz → MOut κ m I J → Q (some (.int (nI (flt0 tx sz).2.2.1))) κ J) : Sp Γ (d + 6) mX6_lay [.ref (m)] κ I Q := by
  obtain ⟨hMo, hw_, hs_, hw, hP1, hs, hpl, hp5, hpB, hkl, hk7, hkB, hsz, hs9, htx, hlt⟩ := id hMR
  obtain ⟨hm, hm0, ⟨k0, n0⟩, ⟨k1, n1⟩, ⟨k2, n2⟩, ⟨k3, n3⟩, ⟨k4, n4⟩, ⟨k6, n6⟩, ⟨k8, n8⟩, ⟨k14, n14⟩, ⟨k15, n15⟩, ⟨k16, n16⟩, d01, d23, d614, d1516⟩ := id hMo
  have ht : TxK κ m I tx sz := ⟨hs9, hsz, htx, hlt⟩
  have hp1 := hMo.m1
  have ok := flt_ok (tx := tx) 200 _ (ok_0 sz)
  change OkR (flt0 tx sz).2 sz at ok
  obtain ⟨ow, -, -⟩ := id ok
  have hP6 := ow.2.2.1
  intro X hM
  have hX := hM.std
  have hR := hM.room
  show GW _ mX6_lay X 0 [(0, .ref (m))] [] _ _ 0 0
  refine g_aload_n hX dX6_lay_0 rfl rfl ?_
  refine g_callV (md' := mX6_fault) (ci := 6) (As := []) hX hR dX6_lay_1 clX6_125 okX6_fault rfl (by assumption) rfl rfl (Nat.le_of_ble_eq_true rfl) (Nat.le_of_ble_eq_true rfl) ⟨Nat.le_of_ble_eq_true rfl, Nat.le_of_ble_eq_true rfl⟩ ?_
  refine sp_X6_fault hMo ht (fun a1 v1 r1 h1 => ?_)
  obtain ⟨hM2, hO2⟩ := mr_pstK hMR a1 v1 r1
  change GW _ _ _ 4 _ [.int _] _ _ 0 0
  refine g_bipush (v := (-4)) hX dX6_lay_4 (by decide) ?_
  refine g_icmpne 18 hX dX6_lay_6 (by decide) (fun c6 => ?_) (fun c6 => ?_)
  · refine g_bipush (v := (-2)) hX dX6_lay_18 (by decide) ?_
    refine g_iret hM dX6_lay_20 rfl (rfl) ⟨Nat.le_of_ble_eq_true rfl, Nat.le_of_ble_eq_true rfl⟩ ?_
    refine hq0 (Or.inl (fun h => ?_)) _ hM2 hO2
    rw [faultA, h] at c6
    exact c6 rfl
  · have hn : (flt0 tx sz).1 = none := by
      cases hz : (flt0 tx sz).1 with
      | none => rfl
      | some x =>
        exfalso
        have hxl : x < 2 ^ 31 := flt_lt (tx := tx) (sz := sz) (by omega) hz
        rw [faultA, hz] at c6
        exact nI_m4 hxl c6
    obtain rfl := h1 hn
    refine g_aload_n hX dX6_lay_9 rfl rfl ?_
    refine g_getR hX dX6_lay_10 flX6_13 (by assumption) rfl (by first | assumption | rfl) (by assumption) ?_
    refine g_iconst (v := nI 0) hX dX6_lay_13 (by decide) ?_
    refine g_ialdN hX dX6_lay_14 (by assumption) (rfl) (by omega) (by first | decide | omega) ?_
    refine g_ifne 21 hX dX6_lay_15 (by decide) (fun c15 => ?_) (fun c15 => ?_)
    · rw [pst_rd, ow.1] at c15
      refine g_aload_n hX dX6_lay_21 rfl rfl ?_
      refine g_callV (md' := mX6_begins) (ci := 6) (As := []) hX hR dX6_lay_22 clX6_55 okX6_begins rfl (by assumption) rfl rfl (Nat.le_of_ble_eq_true rfl) (Nat.le_of_ble_eq_true rfl) ⟨Nat.le_of_ble_eq_true rfl, Nat.le_of_ble_eq_true rfl⟩ ?_
      refine sp_X6_begins hMo ?_
      rw [pst_rd]
      change GW _ _ _ 25 _ [] _ _ 0 0
      refine g_aload_n hX dX6_lay_25 rfl rfl ?_
      refine g_getR hX dX6_lay_26 flX6_7 (by assumption) rfl (by first | assumption | rfl) (by assumption) ?_
      refine g_iconst (v := nI 0) hX dX6_lay_29 (by decide) ?_
      refine g_ialdN hX dX6_lay_30 (by assumption) (rfl) (by omega) (by first | decide | omega) ?_
      refine g_iret hM dX6_lay_31 rfl (rfl) ⟨Nat.le_of_ble_eq_true rfl, Nat.le_of_ble_eq_true rfl⟩ ?_
      have hP0 : (flt0 tx sz).2.2.1 ≠ 0 := fun e => c15 (by rw [e]; exact nI0)
      rw [up_ne _ _ (Ne.symm hMo.m0), up_ne _ _ (kd_ne k0 k2 (by decide)), up_same, ow.1]
      refine hq hn hP0 _ ⟨hMo, ?_, ?_, ow, by omega, wfs_laid ow, by decide, ?_, fun i g h => by simp at h, by decide, ?_, fun i g h => by simp at h, hsz, ?_, ?_, hlt⟩ ?_
      · rw [up_ne _ _ (Ne.symm hMo.m0), up_ne _ _ (kd_ne k0 k2 (by decide)), up_same]
      · rw [up_ne _ _ (Ne.symm hMo.m2), up_same]
      · rw [up_same]; rfl
      · rw [up_same]; rfl
      · rw [up_same, up_ne _ _ (by decide), up_ne _ _ (by decide), pst_k hp1 (by decide) (by decide)]; exact hs9
      · rw [up_ne _ _ (Ne.symm hMo.m8), up_ne _ _ (kd_ne k8 k2 (by decide)), up_ne _ _ (kd_ne k8 k0 (by decide)), pst_ne (Ne.symm hMo.m8) (kd_ne k8 k1 (by decide))]; exact htx
      · exact ((hO2.up (Or.inr (Or.inl rfl))).up (Or.inr (Or.inr (Or.inr (Or.inl rfl))))).up (Or.inl rfl)
    · rw [pst_rd, ow.1] at c15
      refine g_bipush (v := (-2)) hX dX6_lay_18 (by decide) ?_
      refine g_iret hM dX6_lay_20 rfl (rfl) ⟨Nat.le_of_ble_eq_true rfl, Nat.le_of_ble_eq_true rfl⟩ ?_
      exact hq0 (Or.inr ((nI_z0 (by omega)).mp c15)) _ hM2 hO2
