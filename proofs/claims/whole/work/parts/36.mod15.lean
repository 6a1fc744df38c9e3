set_option maxHeartbeats 4000000 in
set_option maxRecDepth 100000 in
theorem lp_X6_day_43 {Γ : Ga} {d : Nat} {κ : Kp} {Q : Option Value → Kp → Ip → Prop} {X : Cx} {I : Ip} {m P T z c : Nat} {what : Int32} (hM : Mx Γ (d + 5) mX6_day Q X) (hMo : MoK κ m) (hw : WfT (I (κ.2.1 m 0)) P T) (hs : WfS (I (κ.2.1 m 2)) P T) (hP1 : 0 < P) (hz : z ≤ 9999) (hc : c ≤ 60) (hq : ∀ J : Ip, MFr κ m I J → Q (some (.int (if what = 0 then dayS (I (κ.2.1 m 0)) (I (κ.2.1 m 2)) P T z c 17 else nI (knownF (dayS (I (κ.2.1 m 0)) (I (κ.2.1 m 2)) P T z c) T)))) κ J) : ∀ (n : Nat) (k : Nat), n = c - k → k ≤ c → GW Γ mX6_day X 43 [(4, .int (nI k)), (0, .ref (m)), (1, .int (nI z)), (2, .int (nI c)), (3, .int (what))] [] κ (va_up I (κ.2.1 m 3) (dayS (I (κ.2.1 m 0)) (I (κ.2.1 m 2)) P T z k)) 0 0 := by
  have hX := hM.std
  have hR := hM.room
  intro n
  induction n using Nat.strongRecOn with
  | ind n ih =>
    intro k hn hk
    obtain ⟨hm, hm0, ⟨k0, n0⟩, ⟨k1, n1⟩, ⟨k2, n2⟩, ⟨k3, n3⟩, ⟨k4, n4⟩, ⟨k6, n6⟩, ⟨k8, n8⟩, ⟨k14, n14⟩, ⟨k15, n15⟩, ⟨k16, n16⟩, d01, d23, d614, d1516⟩ := id hMo
    have h03 : κ.2.1 m 0 ≠ κ.2.1 m 3 := kd_ne k0 k3 (by decide)
    obtain ⟨hw0, hw1, hP, hT, -⟩ := id hw
    have hwd := wfs_day (z := z) hw hP1 hs k
    have hx : 7919 * z + 6151 * k + 1 ≤ 80000000 := by omega
    have hxx := Nat.mul_le_mul hx hx
    have hfr : MFr κ m I (va_up I (κ.2.1 m 3) (dayS (I (κ.2.1 m 0)) (I (κ.2.1 m 2)) P T z k)) := MFr.rf.row (Or.inr (Or.inl rfl)) hMo.m3
    refine g_iload hX dX6_day_43 rfl ?_
    refine g_iload_n hX dX6_day_45 rfl rfl ?_
    refine g_icmpge 95 hX dX6_day_46 (by decide) (fun c46 => ?_) (fun c46 => ?_)
    · rw [nI_leI (by omega) (by omega)] at c46
      refine g_iload_n hX dX6_day_95 rfl rfl ?_
      refine g_ifne 109 hX dX6_day_96 (by decide) (fun c96 => ?_) (fun c96 => ?_)
      · refine g_aload_n hX dX6_day_109 rfl rfl ?_
        refine g_aload_n hX dX6_day_110 rfl rfl ?_
        refine g_getR hX dX6_day_111 flX6_19 (by assumption) rfl (by first | assumption | rfl) (by assumption) ?_
        refine g_callV (md' := mX6_known) (ci := 6) (As := [.ref _]) hX hR dX6_day_114 clX6_245 okX6_known rfl (by assumption) rfl rfl (Nat.le_of_ble_eq_true rfl) (Nat.le_of_ble_eq_true rfl) ⟨Nat.le_of_ble_eq_true rfl, Nat.le_of_ble_eq_true rfl⟩ ?_
        refine sp_X6_known (P := P) (T := T) hMo (by rw [up_ne _ _ h03]; exact hw) k3 (by rw [up_same]; exact hwd) ?_
        rw [up_same]
        change GW _ _ _ 117 _ [.int _] _ _ 0 0
        refine g_iret hM dX6_day_117 rfl (rfl) ⟨Nat.le_of_ble_eq_true rfl, Nat.le_of_ble_eq_true rfl⟩ ?_
        have e : k = c := by omega
        subst e
        exact q_int (by rw [if_neg c96]) (hq _ hfr)
      · refine g_aload_n hX dX6_day_99 rfl rfl ?_
        refine g_getR hX dX6_day_100 flX6_19 (by assumption) rfl (by first | assumption | rfl) (by assumption) ?_
        refine g_bipush (v := nI 17) hX dX6_day_103 (by decide) ?_
        refine g_ialdN hX dX6_day_105 (by assumption) (rfl) (by omega) (by first | decide | omega) ?_
        refine g_goto 117 hX dX6_day_106 (by decide) ?_
        refine g_iret hM dX6_day_117 rfl (rfl) ⟨Nat.le_of_ble_eq_true rfl, Nat.le_of_ble_eq_true rfl⟩ ?_
        have e : k = c := by omega
        subst e
        exact q_int (by rw [if_pos c96, up_same]) (hq _ hfr)
    · rw [nI_leI (by omega) (by omega)] at c46
      refine g_ldc2 hX dX6_day_49 kX6_236 ?_
      rw [show (7919 : Int64) = lN 7919 from rfl]
      refine g_iload_n hX dX6_day_52 rfl rfl ?_
      refine g_i2l hX dX6_day_53 ?_
      rw [nI_l (by omega)]
      refine g_lmul hX dX6_day_54 ?_
      rw [lN_mul]
      refine g_ldc2 hX dX6_day_55 kX6_238 ?_
      rw [show (6151 : Int64) = lN 6151 from rfl]
      refine g_iload hX dX6_day_58 rfl ?_
      refine g_i2l hX dX6_day_60 ?_
      rw [nI_l (by omega)]
      refine g_lmul hX dX6_day_61 ?_
      rw [lN_mul]
      refine g_ladd hX dX6_day_62 ?_
      rw [lN_add]
      refine g_lconst (v := 1) hX dX6_day_63 (by decide) ?_
      rw [show (1 : Int64) = lN 1 from rfl]
      refine g_ladd hX dX6_day_64 ?_
      rw [lN_add]
      refine g_lstore (lv' := [(5, .long _), (4, .int _), (0, .ref _), (1, .int _), (2, .int _), (3, .int _)]) hX dX6_day_65 (by decide) rfl ?_
      refine g_aload_n hX dX6_day_67 rfl rfl ?_
      refine g_lload hX dX6_day_68 rfl ?_
      refine g_lload hX dX6_day_70 rfl ?_
      refine g_lmul hX dX6_day_72 ?_
      rw [lN_mul]
      refine g_ldc2 hX dX6_day_73 kX6_240 ?_
      rw [show (65521 : Int64) = lN 65521 from rfl]
      refine g_lrem hX dX6_day_76 (lN_ne0 (by decide) (by decide)) ?_
      rw [lN_rem (Nat.lt_of_le_of_lt hxx (by decide)) (by decide)]
      refine g_l2i hX dX6_day_77 ?_
      rw [lN_i]
      refine g_callV (md' := mX6_draws) (ci := 6) (As := [.int _]) hX hR dX6_day_78 clX6_242 okX6_draws rfl (by assumption) rfl rfl (Nat.le_of_ble_eq_true rfl) (Nat.le_of_ble_eq_true rfl) ⟨Nat.le_of_ble_eq_true rfl, Nat.le_of_ble_eq_true rfl⟩ ?_
      have hdr : drawN z k < 65521 := Nat.mod_lt _ (by decide)
      refine sp_X6_draws (P := P) (T := T) (dr := drawN z k) hMo (by rw [up_ne _ _ h03]; exact hw) hP1 (by omega) ?_
      rw [up_same, up_ne _ _ h03, up_up]
      change GW _ _ _ 81 _ [] _ _ 0 0
      refine g_aload_n hX dX6_day_81 rfl rfl ?_
      refine g_aload_n hX dX6_day_82 rfl rfl ?_
      refine g_getR hX dX6_day_83 flX6_19 (by assumption) rfl (by first | assumption | rfl) (by assumption) ?_
      refine g_callV (md' := mX6_minuteGoes) (ci := 6) (As := [.ref _]) hX hR dX6_day_86 clX6_183 okX6_minuteGoes rfl (by assumption) rfl rfl (Nat.le_of_ble_eq_true rfl) (Nat.le_of_ble_eq_true rfl) ⟨Nat.le_of_ble_eq_true rfl, Nat.le_of_ble_eq_true rfl⟩ ?_
      refine sp_X6_minuteGoes (P := P) (T := T) hMo k3 (by rw [up_ne _ _ h03]; exact hw) (by rw [up_same]; exact wfs_draw hw hP1 hwd) ?_
      rw [up_same, up_ne _ _ h03, up_up]
      change GW _ _ _ 89 _ [] _ _ 0 0
      refine g_iinc (lv' := [(4, .int _), (5, .long _), (0, .ref _), (1, .int _), (2, .int _), (3, .int _)]) hX dX6_day_89 rfl (by first | exact nI_inc _ | rfl) (by decide) rfl ?_
      refine g_goto 43 hX dX6_day_92 (by decide) ?_
      exact g_pick [0, 2, 3, 4, 5] rfl (ih (c - (k + 1)) (by omega) (k + 1) rfl (by omega))

set_option maxHeartbeats 4000000 in
set_option maxRecDepth 100000 in
theorem sp_X6_day {Γ : Ga} {d : Nat} {κ : Kp} {I : Ip} {Q : Option Value → Kp → Ip → Prop} {m P T : Nat} {x y v : Int32} (hMo : MoK κ m) (hw : WfT (I (κ.2.1 m 0)) P T) (hs : WfS (I (κ.2.1 m 2)) P T) (hP1 : 0 < P) (hq : ∀ J : Ip, MFr κ m I J → Q (some (.int (dayA (I (κ.2.1 m 0)) (I (κ.2.1 m 2)) P T x y v))) κ J) : Sp Γ (d + 5) mX6_day [.ref (m), .int (x), .int (y), .int (v)] κ I Q := by
  obtain ⟨hm, hm0, ⟨k0, n0⟩, ⟨k1, n1⟩, ⟨k2, n2⟩, ⟨k3, n3⟩, ⟨k4, n4⟩, ⟨k6, n6⟩, ⟨k8, n8⟩, ⟨k14, n14⟩, ⟨k15, n15⟩, ⟨k16, n16⟩, d01, d23, d614, d1516⟩ := id hMo
  obtain ⟨hw0, hw1, hP, hT, -⟩ := id hw
  intro X hM
  have hX := hM.std
  have hR := hM.room
  show GW _ mX6_day X 0 [(0, .ref (m)), (1, .int (x)), (2, .int (y)), (3, .int (v))] [] _ _ 0 0
  refine g_iload_n hX dX6_day_0 rfl rfl ?_
  refine g_i2l hX dX6_day_1 ?_
  refine g_lconst (v := 0) hX dX6_day_2 (by decide) ?_
  refine g_ldc2 hX dX6_day_3 kX6_234 ?_
  refine g_callS (md' := mX6_in) (As := [.long _, .long _, .long _]) hX hR dX6_day_6 clX6_73 okX6_in rfl rfl (Nat.le_of_ble_eq_true rfl) (Nat.le_of_ble_eq_true rfl) ⟨Nat.le_of_ble_eq_true rfl, Nat.le_of_ble_eq_true rfl⟩ ?_
  refine sp_X6_inR 0 9999 rfl rfl ?_
  change GW _ _ _ 9 _ [.int _] _ _ 0 0
  refine g_ifeq 34 hX dX6_day_9 (by decide) (fun c9 => ?_) (fun c9 => ?_)
  · first | (rw [b2i_n0, decide_eq_true_eq] at c9) | (rw [b2i_0, decide_eq_false_iff_not] at c9)
    refine g_iconst (v := (-1)) hX dX6_day_34 (by decide) ?_
    refine g_iret hM dX6_day_35 rfl (rfl) ⟨Nat.le_of_ble_eq_true rfl, Nat.le_of_ble_eq_true rfl⟩ ?_
    refine q_int ?_ (hq I MFr.rf)
    rw [dayA, if_neg (fun e => c9 e.1)]
  · first | (rw [b2i_n0, decide_eq_true_eq] at c9) | (rw [b2i_0, decide_eq_false_iff_not] at c9)
    refine g_iload_n hX dX6_day_12 rfl rfl ?_
    refine g_i2l hX dX6_day_13 ?_
    refine g_lconst (v := 1) hX dX6_day_14 (by decide) ?_
    refine g_ldc2 hX dX6_day_15 kX6_181 ?_
    refine g_callS (md' := mX6_in) (As := [.long _, .long _, .long _]) hX hR dX6_day_18 clX6_73 okX6_in rfl rfl (Nat.le_of_ble_eq_true rfl) (Nat.le_of_ble_eq_true rfl) ⟨Nat.le_of_ble_eq_true rfl, Nat.le_of_ble_eq_true rfl⟩ ?_
    refine sp_X6_inR 1 60 rfl rfl ?_
    change GW _ _ _ 21 _ [.int _] _ _ 0 0
    refine g_ifeq 34 hX dX6_day_21 (by decide) (fun c21 => ?_) (fun c21 => ?_)
    · first | (rw [b2i_n0, decide_eq_true_eq] at c21) | (rw [b2i_0, decide_eq_false_iff_not] at c21)
      refine g_iconst (v := (-1)) hX dX6_day_34 (by decide) ?_
      refine g_iret hM dX6_day_35 rfl (rfl) ⟨Nat.le_of_ble_eq_true rfl, Nat.le_of_ble_eq_true rfl⟩ ?_
      refine q_int ?_ (hq I MFr.rf)
      rw [dayA, if_neg (fun e => c21 e.2.1)]
    · first | (rw [b2i_n0, decide_eq_true_eq] at c21) | (rw [b2i_0, decide_eq_false_iff_not] at c21)
      refine g_iload_n hX dX6_day_24 rfl rfl ?_
      refine g_i2l hX dX6_day_25 ?_
      refine g_lconst (v := 0) hX dX6_day_26 (by decide) ?_
      refine g_lconst (v := 1) hX dX6_day_27 (by decide) ?_
      refine g_callS (md' := mX6_in) (As := [.long _, .long _, .long _]) hX hR dX6_day_28 clX6_73 okX6_in rfl rfl (Nat.le_of_ble_eq_true rfl) (Nat.le_of_ble_eq_true rfl) ⟨Nat.le_of_ble_eq_true rfl, Nat.le_of_ble_eq_true rfl⟩ ?_
      refine sp_X6_inR 0 1 rfl rfl ?_
      change GW _ _ _ 31 _ [.int _] _ _ 0 0
      refine g_ifne 36 hX dX6_day_31 (by decide) (fun c31 => ?_) (fun c31 => ?_)
      · rw [b2i_n0, decide_eq_true_eq] at c31
        obtain ⟨z, hz1, hz2, rfl⟩ := inR_of c9
        obtain ⟨j, hj1, hj2, rfl⟩ := inR_of c21
        refine g_aload_n hX dX6_day_36 rfl rfl ?_
        refine g_callV (md' := mX6_layAside) (ci := 6) (As := []) hX hR dX6_day_37 clX6_192 okX6_layAside rfl (by assumption) rfl rfl (Nat.le_of_ble_eq_true rfl) (Nat.le_of_ble_eq_true rfl) ⟨Nat.le_of_ble_eq_true rfl, Nat.le_of_ble_eq_true rfl⟩ ?_
        refine sp_X6_layAside hMo ?_
        change GW _ _ _ 40 _ [] _ _ 0 0
        refine g_iconst (v := nI 0) hX dX6_day_40 (by decide) ?_
        refine g_istore (lv' := [(4, .int _), (0, .ref _), (1, .int _), (2, .int _), (3, .int _)]) hX dX6_day_41 (by decide) rfl ?_
        refine g_pick [0, 1, 2, 3, 4] rfl (lp_X6_day_43 hM hMo hw hs hP1 hz2 hj2 (fun J hf => ?_) j 0 (Nat.sub_zero j).symm (Nat.zero_le _))
        refine q_int ?_ (hq J hf)
        rw [dayA, if_pos ⟨c9, c21, c31⟩, nI_clamp (by omega), nI_clamp (by omega)]
      · rw [b2i_0, decide_eq_false_iff_not] at c31
        refine g_iconst (v := (-1)) hX dX6_day_34 (by decide) ?_
        refine g_iret hM dX6_day_35 rfl (rfl) ⟨Nat.le_of_ble_eq_true rfl, Nat.le_of_ble_eq_true rfl⟩ ?_
        refine q_int ?_ (hq I MFr.rf)
        rw [dayA, if_neg (fun e => c31 e.2.2)]

set_option maxHeartbeats 4000000 in
set_option maxRecDepth 100000 in
theorem lp_X6_held_81 {Γ : Ga} {d : Nat} {κ : Kp} {Q : Option Value → Kp → Ip → Prop} {X : Cx} {I : Ip} {m P T i1 i2 c x0 : Nat} {hb part : Int32} (hM : Mx Γ (d + 6) mX6_held Q X) (hMo : MoK κ m) (hw : WfT (I (κ.2.1 m 0)) P T) (hs : WfS (I (κ.2.1 m 2)) P T) (hi1 : i1 < P) (hi2 : i2 < P) (hne : i1 ≠ i2) (hc : c ≤ 60) (hx0 : x0 ≤ 10) (hout : GW Γ mX6_held X 125 [(11, .int (nI T)), (9, .long (lN (belF (I (κ.2.1 m 2) 9) T))), (7, .long (lN 0)), (0, .ref (m)), (1, .int (nI i1)), (2, .int (nI i2)), (3, .int (nI c)), (4, .int (hb)), (5, .int (nI x0)), (6, .int (part))] [] κ I 0 0) : ∀ (n : Nat) (t : Nat), n = T - t → t ≤ T → GW Γ mX6_held X 81 [(11, .int (nI t)), (9, .long (lN (belF (I (κ.2.1 m 2) 9) t))), (7, .long (lN 0)), (0, .ref (m)), (1, .int (nI i1)), (2, .int (nI i2)), (3, .int (nI c)), (4, .int (hb)), (5, .int (nI x0)), (6, .int (part))] [] κ (I) 0 0 := by
  have hX := hM.std
  have hR := hM.room
  intro n
  induction n using Nat.strongRecOn with
  | ind n ih =>
    intro t hn ht
    obtain ⟨hm, hm0, ⟨k0, n0⟩, ⟨k1, n1⟩, ⟨k2, n2⟩, ⟨k3, n3⟩, ⟨k4, n4⟩, ⟨k6, n6⟩, ⟨k8, n8⟩, ⟨k14, n14⟩, ⟨k15, n15⟩, ⟨k16, n16⟩, d01, d23, d614, d1516⟩ := id hMo
    obtain ⟨hw0, hw1, hP, hT, -⟩ := id hw
    have p10 : 10 ^ T ≤ 10 ^ 9 := Nat.pow_le_pow_right (by decide) hT
    have p9 : (10 : Nat) ^ 9 = 1000000000 := by decide
    have hpT : 2 ^ T ≤ 2 ^ 9 := Nat.pow_le_pow_right (by decide) hT
    refine g_iload hX dX6_held_81 rfl ?_
    refine g_aload_n hX dX6_held_83 rfl rfl ?_
    refine g_getR hX dX6_held_84 flX6_7 (by assumption) rfl (by first | assumption | rfl) (by assumption) ?_
    refine g_iconst (v := nI 1) hX dX6_held_87 (by decide) ?_
    refine g_ialdN hX dX6_held_88 (by assumption) (rfl) (by omega) (by first | decide | omega) ?_
    refine g_icmpge 125 hX dX6_held_89 (by decide) (fun c89 => ?_) (fun c89 => ?_)
    · rw [hw1, nI_leI (by omega) (by omega)] at c89
      have e : t = T := by omega
      subst e
      exact g_pick [0, 1, 2, 3, 4, 5, 6, 7, 8, 9] rfl hout
    · rw [hw1, nI_leI (by omega) (by omega)] at c89
      refine g_lload hX dX6_held_92 rfl ?_
      refine g_aload_n hX dX6_held_94 rfl rfl ?_
      refine g_getR hX dX6_held_95 flX6_16 (by assumption) rfl (by first | assumption | rfl) (by assumption) ?_
      refine g_bipush (v := nI 9) hX dX6_held_98 (by decide) ?_
      refine g_ialdN hX dX6_held_100 (by assumption) (rfl) (by omega) (by first | decide | omega) ?_
      refine g_iload hX dX6_held_101 rfl ?_
      refine g_callS (md' := mX6_has) (As := [.int _, .int _]) hX hR dX6_held_103 clX6_105 okX6_has rfl rfl (Nat.le_of_ble_eq_true rfl) (Nat.le_of_ble_eq_true rfl) ⟨Nat.le_of_ble_eq_true rfl, Nat.le_of_ble_eq_true rfl⟩ ?_
      refine sp_X6_has (by omega) ?_
      change GW _ _ _ 106 _ [.int _, .long _] _ _ 0 0
      refine g_ifeq 113 hX dX6_held_106 (by decide) (fun c106 => ?_) (fun c106 => ?_)
      · first | (rw [b2i_n0] at c106) | (rw [b2i_0] at c106)
        refine g_ldc2 hX dX6_held_113 kX6_232 ?_
        rw [show (10 : Int64) = lN 10 from rfl]
        refine g_lmul hX dX6_held_116 ?_
        refine g_lstore (lv' := [(9, .long _), (11, .int _), (7, .long _), (0, .ref _), (1, .int _), (2, .int _), (3, .int _), (4, .int _), (5, .int _), (6, .int _)]) hX dX6_held_117 (by decide) rfl ?_
        refine g_iinc (lv' := [(11, .int _), (9, .long _), (7, .long _), (0, .ref _), (1, .int _), (2, .int _), (3, .int _), (4, .int _), (5, .int _), (6, .int _)]) hX dX6_held_119 rfl (by first | exact nI_inc _ | rfl) (by decide) rfl ?_
        refine g_goto 81 hX dX6_held_122 (by decide) ?_
        rw [lN_mul]
        refine g_pick [0, 1, 2, 3, 4, 5, 6, 7, 8, 9] rfl ?_
        have := ih (T - (t + 1)) (by omega) (t + 1) rfl (by omega)
        rw [belF, if_neg (by rw [c106]; decide)] at this
        exact this
      · first | (rw [b2i_n0] at c106) | (rw [b2i_0] at c106)
        refine g_lconst (v := 1) hX dX6_held_109 (by decide) ?_
        rw [show (1 : Int64) = lN 1 from rfl]
        refine g_goto 116 hX dX6_held_110 (by decide) ?_
        refine g_lmul hX dX6_held_116 ?_
        refine g_lstore (lv' := [(9, .long _), (11, .int _), (7, .long _), (0, .ref _), (1, .int _), (2, .int _), (3, .int _), (4, .int _), (5, .int _), (6, .int _)]) hX dX6_held_117 (by decide) rfl ?_
        refine g_iinc (lv' := [(11, .int _), (9, .long _), (7, .long _), (0, .ref _), (1, .int _), (2, .int _), (3, .int _), (4, .int _), (5, .int _), (6, .int _)]) hX dX6_held_119 rfl (by first | exact nI_inc _ | rfl) (by decide) rfl ?_
        refine g_goto 81 hX dX6_held_122 (by decide) ?_
        rw [lN_mul]
        refine g_pick [0, 1, 2, 3, 4, 5, 6, 7, 8, 9] rfl ?_
        have := ih (T - (t + 1)) (by omega) (t + 1) rfl (by omega)
        rw [belF, if_pos c106] at this
        exact this

set_option maxHeartbeats 4000000 in
set_option maxRecDepth 100000 in
theorem lp_X6_held_160 {Γ : Ga} {d : Nat} {κ : Kp} {Q : Option Value → Kp → Ip → Prop} {X : Cx} {I : Ip} {m P T i1 i2 c x0 : Nat} {hb part : Int32} {k : Nat} {bel abv : Int64} {J : Ip} (hM : Mx Γ (d + 6) mX6_held Q X) (hMo : MoK κ m) (hw : WfT (I (κ.2.1 m 0)) P T) (hs : WfS (I (κ.2.1 m 2)) P T) (hi1 : i1 < P) (hi2 : i2 < P) (hne : i1 ≠ i2) (hc : c ≤ 60) (hx0 : x0 ≤ 10) (hk : k < 512) (hf : MFr κ m I J) (hout : GW Γ mX6_held X 224 [(14, .int (nI T)), (12, .long (lN (waysF (I (κ.2.1 m 2) 9) x0 k T))), (11, .int (nI k)), (9, .long bel), (7, .long abv), (0, .ref (m)), (1, .int (nI i1)), (2, .int (nI i2)), (3, .int (nI c)), (4, .int (hb)), (5, .int (nI x0)), (6, .int (part))] [] κ J 0 0) : ∀ (n : Nat) (t : Nat), n = T - t → t ≤ T → GW Γ mX6_held X 160 [(14, .int (nI t)), (12, .long (lN (waysF (I (κ.2.1 m 2) 9) x0 k t))), (11, .int (nI k)), (9, .long (bel)), (7, .long (abv)), (0, .ref (m)), (1, .int (nI i1)), (2, .int (nI i2)), (3, .int (nI c)), (4, .int (hb)), (5, .int (nI x0)), (6, .int (part))] [] κ (J) 0 0 := by
  have hX := hM.std
  have hR := hM.room
  intro n
  induction n using Nat.strongRecOn with
  | ind n ih =>
    intro t hn ht
    obtain ⟨hm, hm0, ⟨k0, n0⟩, ⟨k1, n1⟩, ⟨k2, n2⟩, ⟨k3, n3⟩, ⟨k4, n4⟩, ⟨k6, n6⟩, ⟨k8, n8⟩, ⟨k14, n14⟩, ⟨k15, n15⟩, ⟨k16, n16⟩, d01, d23, d614, d1516⟩ := id hMo
    obtain ⟨hw0, hw1, hP, hT, -⟩ := id hw
    have p10 : 10 ^ T ≤ 10 ^ 9 := Nat.pow_le_pow_right (by decide) hT
    have p9 : (10 : Nat) ^ 9 = 1000000000 := by decide
    have hpT : 2 ^ T ≤ 2 ^ 9 := Nat.pow_le_pow_right (by decide) hT
    have ew := hf.w hMo
    have es := hf.s hMo
    refine g_iload hX dX6_held_160 rfl ?_
    refine g_aload_n hX dX6_held_162 rfl rfl ?_
    refine g_getR hX dX6_held_163 flX6_7 (by assumption) rfl (by first | assumption | rfl) (by assumption) ?_
    refine g_iconst (v := nI 1) hX dX6_held_166 (by decide) ?_
    refine g_ialdN hX dX6_held_167 (by assumption) (rfl) (by omega) (by first | decide | omega) ?_
    refine g_icmpge 224 hX dX6_held_168 (by decide) (fun c168 => ?_) (fun c168 => ?_)
    · rw [ew, hw1, nI_leI (by omega) (by omega)] at c168
      have e : t = T := by omega
      subst e
      exact g_pick [0, 1, 2, 3, 4, 5, 6, 7, 8, 9, 10, 11] rfl hout
    · rw [ew, hw1, nI_leI (by omega) (by omega)] at c168
      refine g_lload hX dX6_held_171 rfl ?_
      refine g_aload_n hX dX6_held_173 rfl rfl ?_
      refine g_getR hX dX6_held_174 flX6_16 (by assumption) rfl (by first | assumption | rfl) (by assumption) ?_
      refine g_bipush (v := nI 9) hX dX6_held_177 (by decide) ?_
      refine g_ialdN hX dX6_held_179 (by assumption) (rfl) (by omega) (by first | decide | omega) ?_
      refine g_iload hX dX6_held_180 rfl ?_
      refine g_callS (md' := mX6_has) (As := [.int _, .int _]) hX hR dX6_held_182 clX6_105 okX6_has rfl rfl (Nat.le_of_ble_eq_true rfl) (Nat.le_of_ble_eq_true rfl) ⟨Nat.le_of_ble_eq_true rfl, Nat.le_of_ble_eq_true rfl⟩ ?_
      refine sp_X6_has (by omega) ?_
      rw [es]
      change GW _ _ _ 185 _ [.int _, .long _] _ _ 0 0
      refine g_ifeq 192 hX dX6_held_185 (by decide) (fun c185 => ?_) (fun c185 => ?_)
      · first | (rw [b2i_n0] at c185) | (rw [b2i_0] at c185)
        refine g_iload hX dX6_held_192 rfl ?_
        refine g_iload hX dX6_held_194 rfl ?_
        refine g_callS (md' := mX6_has) (As := [.int _, .int _]) hX hR dX6_held_196 clX6_105 okX6_has rfl rfl (Nat.le_of_ble_eq_true rfl) (Nat.le_of_ble_eq_true rfl) ⟨Nat.le_of_ble_eq_true rfl, Nat.le_of_ble_eq_true rfl⟩ ?_
        refine sp_X6_has (by omega) ?_
        rw [bt_nI (by omega) (by omega)]
        change GW _ _ _ 199 _ [.int _, .long _] _ _ 0 0
        refine g_ifeq 208 hX dX6_held_199 (by decide) (fun c199 => ?_) (fun c199 => ?_)
        · first | (rw [b2i_n0] at c199) | (rw [b2i_0] at c199)
          refine g_ldc2 hX dX6_held_208 kX6_232 ?_
          rw [show (10 : Int64) = lN 10 from rfl]
          refine g_iload hX dX6_held_211 rfl ?_
          refine g_i2l hX dX6_held_213 ?_
          rw [nI_l (by omega)]
          refine g_lsub hX dX6_held_214 ?_
          rw [lL_sub (show 10 = (10 - x0) + x0 by omega)]
          refine g_lmul hX dX6_held_215 ?_
          refine g_lstore (lv' := [(12, .long _), (14, .int _), (11, .int _), (9, .long _), (7, .long _), (0, .ref _), (1, .int _), (2, .int _), (3, .int _), (4, .int _), (5, .int _), (6, .int _)]) hX dX6_held_216 (by decide) rfl ?_
          refine g_iinc (lv' := [(14, .int _), (12, .long _), (11, .int _), (9, .long _), (7, .long _), (0, .ref _), (1, .int _), (2, .int _), (3, .int _), (4, .int _), (5, .int _), (6, .int _)]) hX dX6_held_218 rfl (by first | exact nI_inc _ | rfl) (by decide) rfl ?_
          refine g_goto 160 hX dX6_held_221 (by decide) ?_
          rw [lN_mul]
          refine g_pick [0, 1, 2, 3, 4, 5, 6, 7, 8, 9, 10, 11] rfl ?_
          have := ih (T - (t + 1)) (by omega) (t + 1) rfl (by omega)
          rw [waysF, if_neg (by rw [c185]; decide), if_neg (by rw [c199]; decide)] at this
          exact this
        · first | (rw [b2i_n0] at c199) | (rw [b2i_0] at c199)
          refine g_iload hX dX6_held_202 rfl ?_
          refine g_i2l hX dX6_held_204 ?_
          rw [nI_l (by omega)]
          refine g_goto 215 hX dX6_held_205 (by decide) ?_
          refine g_lmul hX dX6_held_215 ?_
          refine g_lstore (lv' := [(12, .long _), (14, .int _), (11, .int _), (9, .long _), (7, .long _), (0, .ref _), (1, .int _), (2, .int _), (3, .int _), (4, .int _), (5, .int _), (6, .int _)]) hX dX6_held_216 (by decide) rfl ?_
          refine g_iinc (lv' := [(14, .int _), (12, .long _), (11, .int _), (9, .long _), (7, .long _), (0, .ref _), (1, .int _), (2, .int _), (3, .int _), (4, .int _), (5, .int _), (6, .int _)]) hX dX6_held_218 rfl (by first | exact nI_inc _ | rfl) (by decide) rfl ?_
          refine g_goto 160 hX dX6_held_221 (by decide) ?_
          rw [lN_mul]
          refine g_pick [0, 1, 2, 3, 4, 5, 6, 7, 8, 9, 10, 11] rfl ?_
          have := ih (T - (t + 1)) (by omega) (t + 1) rfl (by omega)
          rw [waysF, if_neg (by rw [c185]; decide), if_pos c199] at this
          exact this
      · first | (rw [b2i_n0] at c185) | (rw [b2i_0] at c185)
        refine g_lconst (v := 1) hX dX6_held_188 (by decide) ?_
        rw [show (1 : Int64) = lN 1 from rfl]
        refine g_goto 215 hX dX6_held_189 (by decide) ?_
        refine g_lmul hX dX6_held_215 ?_
        refine g_lstore (lv' := [(12, .long _), (14, .int _), (11, .int _), (9, .long _), (7, .long _), (0, .ref _), (1, .int _), (2, .int _), (3, .int _), (4, .int _), (5, .int _), (6, .int _)]) hX dX6_held_216 (by decide) rfl ?_
        refine g_iinc (lv' := [(14, .int _), (12, .long _), (11, .int _), (9, .long _), (7, .long _), (0, .ref _), (1, .int _), (2, .int _), (3, .int _), (4, .int _), (5, .int _), (6, .int _)]) hX dX6_held_218 rfl (by first | exact nI_inc _ | rfl) (by decide) rfl ?_
        refine g_goto 160 hX dX6_held_221 (by decide) ?_
        rw [lN_mul]
        refine g_pick [0, 1, 2, 3, 4, 5, 6, 7, 8, 9, 10, 11] rfl ?_
        have := ih (T - (t + 1)) (by omega) (t + 1) rfl (by omega)
        rw [waysF, if_pos c185] at this
        exact this

set_option maxHeartbeats 4000000 in
set_option maxRecDepth 100000 in
theorem lp_X6_held_278 {Γ : Ga} {d : Nat} {κ : Kp} {Q : Option Value → Kp → Ip → Prop} {X : Cx} {I : Ip} {m P T i1 i2 c x0 : Nat} {hb part : Int32} {ab be g : Nat} {J : Ip} (hM : Mx Γ (d + 6) mX6_held Q X) (hMo : MoK κ m) (hw : WfT (I (κ.2.1 m 0)) P T) (hs : WfS (I (κ.2.1 m 2)) P T) (hi1 : i1 < P) (hi2 : i2 < P) (hne : i1 ≠ i2) (hc : c ≤ 60) (hx0 : x0 ≤ 10) (hab : ab < 2 ^ 62) (hbe : be < 2 ^ 62) (hg : 0 < g) (hq : Q (some (.int (nI ((if part = 0 then ab else be) / g)))) κ J) : ∀ (n : Nat) (v u : Nat), n = v → v < 2 ^ 62 → u < 2 ^ 62 → Nat.gcd v u = g → GW Γ mX6_held X 278 [(13, .long (lN v)), (11, .long (lN u)), (9, .long (lN be)), (7, .long (lN ab)), (0, .ref (m)), (1, .int (nI i1)), (2, .int (nI i2)), (3, .int (nI c)), (4, .int (hb)), (5, .int (nI x0)), (6, .int (part))] [] κ (J) 0 0 := by
  have hX := hM.std
  have hR := hM.room
  intro n
  induction n using Nat.strongRecOn with
  | ind n ih =>
    intro v u hn hv hu hgc
    obtain ⟨hm, hm0, ⟨k0, n0⟩, ⟨k1, n1⟩, ⟨k2, n2⟩, ⟨k3, n3⟩, ⟨k4, n4⟩, ⟨k6, n6⟩, ⟨k8, n8⟩, ⟨k14, n14⟩, ⟨k15, n15⟩, ⟨k16, n16⟩, d01, d23, d614, d1516⟩ := id hMo
    obtain ⟨hw0, hw1, hP, hT, -⟩ := id hw
    have p10 : 10 ^ T ≤ 10 ^ 9 := Nat.pow_le_pow_right (by decide) hT
    have p9 : (10 : Nat) ^ 9 = 1000000000 := by decide
    have hpT : 2 ^ T ≤ 2 ^ 9 := Nat.pow_le_pow_right (by decide) hT
    refine g_lload hX dX6_held_278 rfl ?_
    refine g_lconst (v := 0) hX dX6_held_280 (by decide) ?_
    rw [show (0 : Int64) = lN 0 from rfl]
    refine g_lcmp hX dX6_held_281 ?_
    refine g_ifeq 303 hX dX6_held_282 (by decide) (fun c282 => ?_) (fun c282 => ?_)
    · rw [lgc_eq] at c282
      have hv0 : v = 0 := by
        have h1 := lL_I (show v < 2 ^ 63 by omega)
        rw [c282] at h1
        have h2 := lL_I (show 0 < 2 ^ 63 by omega)
        omega
      subst hv0
      rw [Nat.gcd_zero_left] at hgc
      refine g_iload hX dX6_held_303 rfl ?_
      refine g_ifne 313 hX dX6_held_305 (by decide) (fun c305 => ?_) (fun c305 => ?_)
      · refine g_lload hX dX6_held_313 rfl ?_
        refine g_lload hX dX6_held_315 rfl ?_
        refine g_ldiv hX dX6_held_317 (lN_ne0 (by omega) (by omega)) ?_
        rw [lN_div (by omega) (by omega)]
        refine g_l2i hX dX6_held_318 ?_
        rw [lN_i]
        refine g_iret hM dX6_held_319 rfl (rfl) ⟨Nat.le_of_ble_eq_true rfl, Nat.le_of_ble_eq_true rfl⟩ ?_
        subst hgc
        exact q_int (by rw [if_neg c305]) hq
      · refine g_lload hX dX6_held_308 rfl ?_
        refine g_goto 315 hX dX6_held_310 (by decide) ?_
        refine g_lload hX dX6_held_315 rfl ?_
        refine g_ldiv hX dX6_held_317 (lN_ne0 (by omega) (by omega)) ?_
        rw [lN_div (by omega) (by omega)]
        refine g_l2i hX dX6_held_318 ?_
        rw [lN_i]
        refine g_iret hM dX6_held_319 rfl (rfl) ⟨Nat.le_of_ble_eq_true rfl, Nat.le_of_ble_eq_true rfl⟩ ?_
        subst hgc
        exact q_int (by rw [if_pos c305]) hq
    · have hv0 : 0 < v := by
        rcases Nat.eq_zero_or_pos v with h | h
        · exfalso; apply c282; rw [h, lgc_eq]
        · exact h
      have hm := Nat.mod_lt u hv0
      refine g_lload hX dX6_held_285 rfl ?_
      refine g_lload hX dX6_held_287 rfl ?_
      refine g_lrem hX dX6_held_289 (by rw [← lN0]; exact fun e => c282 ((lgc_eq _ _).mpr e)) ?_
      rw [lN_rem (by omega) (by omega)]
      refine g_lstore (lv' := [(15, .long _), (13, .long _), (11, .long _), (9, .long _), (7, .long _), (0, .ref _), (1, .int _), (2, .int _), (3, .int _), (4, .int _), (5, .int _), (6, .int _)]) hX dX6_held_290 (by decide) rfl ?_
      refine g_lload hX dX6_held_292 rfl ?_
      refine g_lstore (lv' := [(11, .long _), (15, .long _), (13, .long _), (9, .long _), (7, .long _), (0, .ref _), (1, .int _), (2, .int _), (3, .int _), (4, .int _), (5, .int _), (6, .int _)]) hX dX6_held_294 (by decide) rfl ?_
      refine g_lload hX dX6_held_296 rfl ?_
      refine g_lstore (lv' := [(13, .long _), (11, .long _), (15, .long _), (9, .long _), (7, .long _), (0, .ref _), (1, .int _), (2, .int _), (3, .int _), (4, .int _), (5, .int _), (6, .int _)]) hX dX6_held_298 (by decide) rfl ?_
      refine g_goto 278 hX dX6_held_300 (by decide) ?_
      refine g_pick [0, 1, 3, 4, 5, 6, 7, 8, 9, 10, 11] rfl ?_
      exact ih (u % v) (by omega) (u % v) v rfl (by omega) hv (by rw [← Nat.gcd_rec]; exact hgc)

set_option maxHeartbeats 4000000 in
set_option maxRecDepth 100000 in
theorem lp_X6_held_128 {Γ : Ga} {d : Nat} {κ : Kp} {Q : Option Value → Kp → Ip → Prop} {X : Cx} {I : Ip} {m P T i1 i2 c x0 : Nat} {hb part : Int32} (hM : Mx Γ (d + 6) mX6_held Q X) (hMo : MoK κ m) (hw : WfT (I (κ.2.1 m 0)) P T) (hs : WfS (I (κ.2.1 m 2)) P T) (hi1 : i1 < P) (hi2 : i2 < P) (hne : i1 ≠ i2) (hc : c ≤ 60) (hx0 : x0 ≤ 10) (hq : ∀ J : Ip, MFr κ m I J → Q (some (.int (nI ((if part = 0 then abvF (fun k => brF (I (κ.2.1 m 0)) (I (κ.2.1 m 2)) T i1 i2 c ((I (κ.2.1 m 2) 9) ||| nI k)) (I (κ.2.1 m 2) 9) hb x0 T (2 ^ T) else belF (I (κ.2.1 m 2) 9) T) / Nat.gcd (abvF (fun k => brF (I (κ.2.1 m 0)) (I (κ.2.1 m 2)) T i1 i2 c ((I (κ.2.1 m 2) 9) ||| nI k)) (I (κ.2.1 m 2) 9) hb x0 T (2 ^ T)) (belF (I (κ.2.1 m 2) 9) T))))) κ J) : ∀ (n : Nat) (k : Nat) (J : Ip), n = 2 ^ T - k → k ≤ 2 ^ T → MFr κ m I J → GW Γ mX6_held X 128 [(11, .int (nI k)), (9, .long (lN (belF (I (κ.2.1 m 2) 9) T))), (7, .long (lN (abvF (fun k => brF (I (κ.2.1 m 0)) (I (κ.2.1 m 2)) T i1 i2 c ((I (κ.2.1 m 2) 9) ||| nI k)) (I (κ.2.1 m 2) 9) hb x0 T k))), (0, .ref (m)), (1, .int (nI i1)), (2, .int (nI i2)), (3, .int (nI c)), (4, .int (hb)), (5, .int (nI x0)), (6, .int (part))] [] κ (J) 0 0 := by
  have hX := hM.std
  have hR := hM.room
  intro n
  induction n using Nat.strongRecOn with
  | ind n ih =>
    intro k J hn hk hf
    obtain ⟨hm, hm0, ⟨k0, n0⟩, ⟨k1, n1⟩, ⟨k2, n2⟩, ⟨k3, n3⟩, ⟨k4, n4⟩, ⟨k6, n6⟩, ⟨k8, n8⟩, ⟨k14, n14⟩, ⟨k15, n15⟩, ⟨k16, n16⟩, d01, d23, d614, d1516⟩ := id hMo
    obtain ⟨hw0, hw1, hP, hT, -⟩ := id hw
    have p10 : 10 ^ T ≤ 10 ^ 9 := Nat.pow_le_pow_right (by decide) hT
    have p9 : (10 : Nat) ^ 9 = 1000000000 := by decide
    have hpT : 2 ^ T ≤ 2 ^ 9 := Nat.pow_le_pow_right (by decide) hT
    have ew := hf.w hMo
    have es := hf.s hMo
    have hwl := ways_le (hu := (I (κ.2.1 m 2) 9)) (x := x0) (set := k) hx0 T
    have hal := abv_le (br := (fun k => brF (I (κ.2.1 m 0)) (I (κ.2.1 m 2)) T i1 i2 c ((I (κ.2.1 m 2) 9) ||| nI k))) (hu := (I (κ.2.1 m 2) 9)) (h := hb) (T := T) hx0 k
    have hbl := bel_le (hu := (I (κ.2.1 m 2) 9)) T
    have hbp := bel_pos (hu := (I (κ.2.1 m 2) 9)) T
    have hkm := Nat.mul_le_mul (Nat.le_trans hk hpT) p10
    refine g_iload hX dX6_held_128 rfl ?_
    refine g_iconst (v := nI 1) hX dX6_held_130 (by decide) ?_
    refine g_aload_n hX dX6_held_131 rfl rfl ?_
    refine g_getR hX dX6_held_132 flX6_7 (by assumption) rfl (by first | assumption | rfl) (by assumption) ?_
    refine g_iconst (v := nI 1) hX dX6_held_135 (by decide) ?_
    refine g_ialdN hX dX6_held_136 (by assumption) (rfl) (by omega) (by first | decide | omega) ?_
    refine g_ishl hX dX6_held_137 ?_
    refine g_icmpge 270 hX dX6_held_138 (by decide) (fun c138 => ?_) (fun c138 => ?_)
    · rw [ew, hw1, show nI 1 <<< (nI T &&& 31) = nI (2 ^ T) from bit1_pow (by omega), nI_leI (by omega) (by omega)] at c138
      refine g_lload hX dX6_held_270 rfl ?_
      refine g_lstore (lv' := [(11, .long _), (9, .long _), (7, .long _), (0, .ref _), (1, .int _), (2, .int _), (3, .int _), (4, .int _), (5, .int _), (6, .int _)]) hX dX6_held_272 (by decide) rfl ?_
      refine g_lload hX dX6_held_274 rfl ?_
      refine g_lstore (lv' := [(13, .long _), (11, .long _), (9, .long _), (7, .long _), (0, .ref _), (1, .int _), (2, .int _), (3, .int _), (4, .int _), (5, .int _), (6, .int _)]) hX dX6_held_276 (by decide) rfl ?_
      have e : k = 2 ^ T := by omega
      subst e
      refine g_pick [0, 1, 2, 3, 4, 5, 6, 7, 8, 9, 10] rfl ?_
      exact lp_X6_held_278 hM hMo hw hs hi1 hi2 hne hc hx0 (by omega) (by omega) (Nat.gcd_pos_of_pos_right _ hbp) (hq J hf) _ _ _ rfl (by omega) (by omega) (Nat.gcd_comm _ _)
    · rw [ew, hw1, show nI 1 <<< (nI T &&& 31) = nI (2 ^ T) from bit1_pow (by omega), nI_leI (by omega) (by omega)] at c138
      refine g_iload hX dX6_held_141 rfl ?_
      refine g_aload_n hX dX6_held_143 rfl rfl ?_
      refine g_getR hX dX6_held_144 flX6_16 (by assumption) rfl (by first | assumption | rfl) (by assumption) ?_
      refine g_bipush (v := nI 9) hX dX6_held_147 (by decide) ?_
      refine g_ialdN hX dX6_held_149 (by assumption) (rfl) (by omega) (by first | decide | omega) ?_
      refine g_iand hX dX6_held_150 ?_
      refine g_ifne 264 hX dX6_held_151 (by decide) (fun c151 => ?_) (fun c151 => ?_)
      · refine g_iinc (lv' := [(11, .int _), (9, .long _), (7, .long _), (0, .ref _), (1, .int _), (2, .int _), (3, .int _), (4, .int _), (5, .int _), (6, .int _)]) hX dX6_held_264 rfl (by first | exact nI_inc _ | rfl) (by decide) rfl ?_
        refine g_goto 128 hX dX6_held_267 (by decide) ?_
        refine g_pick [0, 1, 2, 3, 4, 5, 6, 7, 8, 9] rfl ?_
        have := ih (2 ^ T - (k + 1)) (by omega) (k + 1) J rfl (by omega) hf
        rw [abvF, if_neg (fun e => by rw [← es] at e; exact c151 e.1), Nat.add_zero] at this
        exact this
      · refine g_lconst (v := 1) hX dX6_held_154 (by decide) ?_
        rw [show (1 : Int64) = lN 1 from rfl]
        refine g_lstore (lv' := [(12, .long _), (11, .int _), (9, .long _), (7, .long _), (0, .ref _), (1, .int _), (2, .int _), (3, .int _), (4, .int _), (5, .int _), (6, .int _)]) hX dX6_held_155 (by decide) rfl ?_
        refine g_iconst (v := nI 0) hX dX6_held_157 (by decide) ?_
        refine g_istore (lv' := [(14, .int _), (12, .long _), (11, .int _), (9, .long _), (7, .long _), (0, .ref _), (1, .int _), (2, .int _), (3, .int _), (4, .int _), (5, .int _), (6, .int _)]) hX dX6_held_158 (by decide) rfl ?_
        refine g_pick [0, 1, 2, 3, 4, 5, 6, 7, 8, 9, 10, 11] rfl ?_
        refine lp_X6_held_160 (k := k) (J := J) hM hMo hw hs hi1 hi2 hne hc hx0 (by omega) hf ?_ T 0 (Nat.sub_zero T).symm (Nat.zero_le _)
        refine g_lload hX dX6_held_224 rfl ?_
        refine g_lload hX dX6_held_226 rfl ?_
        refine g_lconst (v := 0) hX dX6_held_228 (by decide) ?_
        rw [show (0 : Int64) = lN 0 from rfl]
        refine g_lcmp hX dX6_held_229 ?_
        refine g_ifle 260 hX dX6_held_230 (by decide) (fun c230 => ?_) (fun c230 => ?_)
        · have hW : ¬ 0 < waysF (I (κ.2.1 m 2) 9) x0 k T := fun h => by
            have h1 : 0 < lg_cmp (lN (waysF (I (κ.2.1 m 2) 9) x0 k T)) (lN 0) := by
              rw [lgc_gt, lL_I (by omega), lL_I (by omega)]; omega
            rw [Int32.lt_iff_toInt_lt] at h1
            rw [Int32.le_iff_toInt_le] at c230
            omega
          refine g_lconst (v := 0) hX dX6_held_260 (by decide) ?_
          rw [show (0 : Int64) = lN 0 from rfl]
          refine g_ladd hX dX6_held_261 ?_
          refine g_lstore (lv' := [(7, .long _), (14, .int _), (12, .long _), (11, .int _), (9, .long _), (0, .ref _), (1, .int _), (2, .int _), (3, .int _), (4, .int _), (5, .int _), (6, .int _)]) hX dX6_held_262 (by decide) rfl ?_
          refine g_iinc (lv' := [(11, .int _), (7, .long _), (14, .int _), (12, .long _), (9, .long _), (0, .ref _), (1, .int _), (2, .int _), (3, .int _), (4, .int _), (5, .int _), (6, .int _)]) hX dX6_held_264 rfl (by first | exact nI_inc _ | rfl) (by decide) rfl ?_
          refine g_goto 128 hX dX6_held_267 (by decide) ?_
          rw [lN_add]
          refine g_pick [0, 4, 1, 5, 6, 7, 8, 9, 10, 11] rfl ?_
          have := ih (2 ^ T - (k + 1)) (by omega) (k + 1) J rfl (by omega) hf
          rw [abvF, if_neg (fun e => by omega)] at this
          exact this
        · have hW : 0 < waysF (I (κ.2.1 m 2) 9) x0 k T := by
            rcases Nat.eq_zero_or_pos (waysF (I (κ.2.1 m 2) 9) x0 k T) with h | h
            · exfalso; apply c230; rw [h]; decide
            · exact h
          refine g_aload_n hX dX6_held_233 rfl rfl ?_
          refine g_iload_n hX dX6_held_234 rfl rfl ?_
          refine g_iload_n hX dX6_held_235 rfl rfl ?_
          refine g_iload_n hX dX6_held_236 rfl rfl ?_
          refine g_aload_n hX dX6_held_237 rfl rfl ?_
          refine g_getR hX dX6_held_238 flX6_16 (by assumption) rfl (by first | assumption | rfl) (by assumption) ?_
          refine g_bipush (v := nI 9) hX dX6_held_241 (by decide) ?_
          refine g_ialdN hX dX6_held_243 (by assumption) (rfl) (by omega) (by first | decide | omega) ?_
          refine g_iload hX dX6_held_244 rfl ?_
          refine g_ior hX dX6_held_246 ?_
          refine g_callV (md' := mX6_bringsBy) (ci := 6) (As := [.int _, .int _, .int _, .int _]) hX hR dX6_held_247 clX6_198 okX6_bringsBy rfl (by assumption) rfl rfl (Nat.le_of_ble_eq_true rfl) (Nat.le_of_ble_eq_true rfl) ⟨Nat.le_of_ble_eq_true rfl, Nat.le_of_ble_eq_true rfl⟩ ?_
          refine sp_X6_bringsBy (P := P) (T := T) hMo (by rw [ew]; exact hw) (by rw [es]; exact hs) (by omega) hi1 hi2 hne (fun i hi => ?_) ?_
          · rw [b_or, es] at hi
            simp only [Bool.or_eq_true] at hi
            rcases hi with hi | hi
            · exact hs.2.1 i hi
            · rcases Nat.lt_or_ge i 32 with h32 | h32
              · rw [bt_nI (by omega) h32] at hi
                rcases Nat.lt_or_ge i T with h | h
                · exact h
                · rw [Nat.testBit_lt_two_pow (Nat.lt_of_lt_of_le (by omega : k < 2 ^ T) (Nat.pow_le_pow_right (by decide) h))] at hi
                  cases hi
              · rw [b_big h32] at hi; cases hi
          have hf2 := (MFr.rf (κ := κ) (m := m) (I := J)).row (f := itF (J (κ.2.1 m 0)) T c (brS (J (κ.2.1 m 2)) i1 i2 (J (κ.2.1 m 2) 9 ||| nI k))) (Or.inr (Or.inl rfl)) hMo.m3
          generalize va_up J (κ.2.1 m 3) (itF (J (κ.2.1 m 0)) T c (brS (J (κ.2.1 m 2)) i1 i2 (J (κ.2.1 m 2) 9 ||| nI k))) = K at hf2 ⊢
          rw [ew, es]
          change GW _ _ _ 250 _ [.int _, .long _] _ _ 0 0
          refine g_iload hX dX6_held_250 rfl ?_
          refine g_icmplt 260 hX dX6_held_252 (by decide) (fun c252 => ?_) (fun c252 => ?_)
          · refine g_lconst (v := 0) hX dX6_held_260 (by decide) ?_
            rw [show (0 : Int64) = lN 0 from rfl]
            refine g_ladd hX dX6_held_261 ?_
            refine g_lstore (lv' := [(7, .long _), (14, .int _), (12, .long _), (11, .int _), (9, .long _), (0, .ref _), (1, .int _), (2, .int _), (3, .int _), (4, .int _), (5, .int _), (6, .int _)]) hX dX6_held_262 (by decide) rfl ?_
            refine g_iinc (lv' := [(11, .int _), (7, .long _), (14, .int _), (12, .long _), (9, .long _), (0, .ref _), (1, .int _), (2, .int _), (3, .int _), (4, .int _), (5, .int _), (6, .int _)]) hX dX6_held_264 rfl (by first | exact nI_inc _ | rfl) (by decide) rfl ?_
            refine g_goto 128 hX dX6_held_267 (by decide) ?_
            rw [lN_add]
            refine g_pick [0, 4, 1, 5, 6, 7, 8, 9, 10, 11] rfl ?_
            have := ih (2 ^ T - (k + 1)) (by omega) (k + 1) K rfl (by omega) (hf.tr hf2)
            rw [abvF, if_neg (fun e => Int32_nle.mpr c252 e.2.2)] at this
            exact this
          · refine g_lload hX dX6_held_255 rfl ?_
            refine g_goto 261 hX dX6_held_257 (by decide) ?_
            refine g_ladd hX dX6_held_261 ?_
            refine g_lstore (lv' := [(7, .long _), (14, .int _), (12, .long _), (11, .int _), (9, .long _), (0, .ref _), (1, .int _), (2, .int _), (3, .int _), (4, .int _), (5, .int _), (6, .int _)]) hX dX6_held_262 (by decide) rfl ?_
            refine g_iinc (lv' := [(11, .int _), (7, .long _), (14, .int _), (12, .long _), (9, .long _), (0, .ref _), (1, .int _), (2, .int _), (3, .int _), (4, .int _), (5, .int _), (6, .int _)]) hX dX6_held_264 rfl (by first | exact nI_inc _ | rfl) (by decide) rfl ?_
            refine g_goto 128 hX dX6_held_267 (by decide) ?_
            rw [lN_add]
            refine g_pick [0, 4, 1, 5, 6, 7, 8, 9, 10, 11] rfl ?_
            have := ih (2 ^ T - (k + 1)) (by omega) (k + 1) K rfl (by omega) (hf.tr hf2)
            rw [abvF, if_pos ⟨by rw [← es]; exact c151, hW, Decidable.of_not_not (fun h => c252 (Int32_nle.mp h))⟩] at this
            exact this

set_option maxHeartbeats 4000000 in
set_option maxRecDepth 100000 in
theorem sp_X6_held {Γ : Ga} {d : Nat} {κ : Kp} {I : Ip} {Q : Option Value → Kp → Ip → Prop} {m P T : Nat} {x y n h v part : Int32} (hMo : MoK κ m) (hw : WfT (I (κ.2.1 m 0)) P T) (hs : WfS (I (κ.2.1 m 2)) P T) (hq : ∀ J : Ip, MFr κ m I J → Q (some (.int (heldA (I (κ.2.1 m 0)) (I (κ.2.1 m 2)) P T x y n h v part))) κ J) : Sp Γ (d + 6) mX6_held [.ref (m), .int (x), .int (y), .int (n), .int (h), .int (v), .int (part)] κ I Q := by
  obtain ⟨hm, hm0, ⟨k0, n0⟩, ⟨k1, n1⟩, ⟨k2, n2⟩, ⟨k3, n3⟩, ⟨k4, n4⟩, ⟨k6, n6⟩, ⟨k8, n8⟩, ⟨k14, n14⟩, ⟨k15, n15⟩, ⟨k16, n16⟩, d01, d23, d614, d1516⟩ := id hMo
  obtain ⟨hw0, hw1, hP, hT, -⟩ := id hw
  intro X hM
  have hX := hM.std
  have hR := hM.room
  show GW _ mX6_held X 0 [(0, .ref (m)), (1, .int (x)), (2, .int (y)), (3, .int (n)), (4, .int (h)), (5, .int (v)), (6, .int (part))] [] _ _ 0 0
  refine g_aload_n hX dX6_held_0 rfl rfl ?_
  refine g_iload_n hX dX6_held_1 rfl rfl ?_
  refine g_iload_n hX dX6_held_2 rfl rfl ?_
  refine g_callV (md' := mX6_areTwo) (ci := 6) (As := [.int _, .int _]) hX hR dX6_held_3 clX6_165 okX6_areTwo rfl (by assumption) rfl rfl (Nat.le_of_ble_eq_true rfl) (Nat.le_of_ble_eq_true rfl) ⟨Nat.le_of_ble_eq_true rfl, Nat.le_of_ble_eq_true rfl⟩ ?_
  refine sp_X6_areTwo hMo hw0 (by omega) ?_
  change GW _ _ _ 6 _ [.int _] _ _ 0 0
  refine g_ifeq 58 hX dX6_held_6 (by decide) (fun c6 => ?_) (fun c6 => ?_)
  · first | (rw [b2i_n0, decide_eq_true_eq] at c6) | (rw [b2i_0, decide_eq_false_iff_not] at c6)
    refine g_iconst (v := (-1)) hX dX6_held_58 (by decide) ?_
    refine g_iret hM dX6_held_59 rfl (rfl) ⟨Nat.le_of_ble_eq_true rfl, Nat.le_of_ble_eq_true rfl⟩ ?_
    refine q_int ?_ (hq I MFr.rf)
    rw [heldA, if_neg (fun e => c6 e.1)]
  · first | (rw [b2i_n0, decide_eq_true_eq] at c6) | (rw [b2i_0, decide_eq_false_iff_not] at c6)
    refine g_iload_n hX dX6_held_9 rfl rfl ?_
    refine g_i2l hX dX6_held_10 ?_
    refine g_lconst (v := 1) hX dX6_held_11 (by decide) ?_
    refine g_ldc2 hX dX6_held_12 kX6_181 ?_
    refine g_callS (md' := mX6_in) (As := [.long _, .long _, .long _]) hX hR dX6_held_15 clX6_73 okX6_in rfl rfl (Nat.le_of_ble_eq_true rfl) (Nat.le_of_ble_eq_true rfl) ⟨Nat.le_of_ble_eq_true rfl, Nat.le_of_ble_eq_true rfl⟩ ?_
    refine sp_X6_inR 1 60 rfl rfl ?_
    change GW _ _ _ 18 _ [.int _] _ _ 0 0
    refine g_ifeq 58 hX dX6_held_18 (by decide) (fun c18 => ?_) (fun c18 => ?_)
    · first | (rw [b2i_n0, decide_eq_true_eq] at c18) | (rw [b2i_0, decide_eq_false_iff_not] at c18)
      refine g_iconst (v := (-1)) hX dX6_held_58 (by decide) ?_
      refine g_iret hM dX6_held_59 rfl (rfl) ⟨Nat.le_of_ble_eq_true rfl, Nat.le_of_ble_eq_true rfl⟩ ?_
      refine q_int ?_ (hq I MFr.rf)
      rw [heldA, if_neg (fun e => c18 e.2.1)]
    · first | (rw [b2i_n0, decide_eq_true_eq] at c18) | (rw [b2i_0, decide_eq_false_iff_not] at c18)
      refine g_iload hX dX6_held_21 rfl ?_
      refine g_i2l hX dX6_held_23 ?_
      refine g_lconst (v := 0) hX dX6_held_24 (by decide) ?_
      refine g_ldc2 hX dX6_held_25 kX6_190 ?_
      refine g_callS (md' := mX6_in) (As := [.long _, .long _, .long _]) hX hR dX6_held_28 clX6_73 okX6_in rfl rfl (Nat.le_of_ble_eq_true rfl) (Nat.le_of_ble_eq_true rfl) ⟨Nat.le_of_ble_eq_true rfl, Nat.le_of_ble_eq_true rfl⟩ ?_
      refine sp_X6_inR 0 999 rfl rfl ?_
      change GW _ _ _ 31 _ [.int _] _ _ 0 0
      refine g_ifeq 58 hX dX6_held_31 (by decide) (fun c31 => ?_) (fun c31 => ?_)
      · first | (rw [b2i_n0, decide_eq_true_eq] at c31) | (rw [b2i_0, decide_eq_false_iff_not] at c31)
        refine g_iconst (v := (-1)) hX dX6_held_58 (by decide) ?_
        refine g_iret hM dX6_held_59 rfl (rfl) ⟨Nat.le_of_ble_eq_true rfl, Nat.le_of_ble_eq_true rfl⟩ ?_
        refine q_int ?_ (hq I MFr.rf)
        rw [heldA, if_neg (fun e => c31 e.2.2.1)]
      · first | (rw [b2i_n0, decide_eq_true_eq] at c31) | (rw [b2i_0, decide_eq_false_iff_not] at c31)
        refine g_iload hX dX6_held_34 rfl ?_
        refine g_i2l hX dX6_held_36 ?_
        refine g_lconst (v := 0) hX dX6_held_37 (by decide) ?_
        refine g_ldc2 hX dX6_held_38 kX6_232 ?_
        refine g_callS (md' := mX6_in) (As := [.long _, .long _, .long _]) hX hR dX6_held_41 clX6_73 okX6_in rfl rfl (Nat.le_of_ble_eq_true rfl) (Nat.le_of_ble_eq_true rfl) ⟨Nat.le_of_ble_eq_true rfl, Nat.le_of_ble_eq_true rfl⟩ ?_
        refine sp_X6_inR 0 10 rfl rfl ?_
        change GW _ _ _ 44 _ [.int _] _ _ 0 0
        refine g_ifeq 58 hX dX6_held_44 (by decide) (fun c44 => ?_) (fun c44 => ?_)
        · first | (rw [b2i_n0, decide_eq_true_eq] at c44) | (rw [b2i_0, decide_eq_false_iff_not] at c44)
          refine g_iconst (v := (-1)) hX dX6_held_58 (by decide) ?_
          refine g_iret hM dX6_held_59 rfl (rfl) ⟨Nat.le_of_ble_eq_true rfl, Nat.le_of_ble_eq_true rfl⟩ ?_
          refine q_int ?_ (hq I MFr.rf)
          rw [heldA, if_neg (fun e => c44 e.2.2.2.1)]
        · first | (rw [b2i_n0, decide_eq_true_eq] at c44) | (rw [b2i_0, decide_eq_false_iff_not] at c44)
          refine g_iload hX dX6_held_47 rfl ?_
          refine g_i2l hX dX6_held_49 ?_
          refine g_lconst (v := 0) hX dX6_held_50 (by decide) ?_
          refine g_lconst (v := 1) hX dX6_held_51 (by decide) ?_
          refine g_callS (md' := mX6_in) (As := [.long _, .long _, .long _]) hX hR dX6_held_52 clX6_73 okX6_in rfl rfl (Nat.le_of_ble_eq_true rfl) (Nat.le_of_ble_eq_true rfl) ⟨Nat.le_of_ble_eq_true rfl, Nat.le_of_ble_eq_true rfl⟩ ?_
          refine sp_X6_inR 0 1 rfl rfl ?_
          change GW _ _ _ 55 _ [.int _] _ _ 0 0
          refine g_ifne 60 hX dX6_held_55 (by decide) (fun c55 => ?_) (fun c55 => ?_)
          · rw [b2i_n0, decide_eq_true_eq] at c55
            obtain ⟨c, hc1, hc2, rfl⟩ := inR_of c18
            obtain ⟨x0, hx1, hx2, rfl⟩ := inR_of c44
            obtain ⟨i1, hi1, rfl⟩ := inN_of c6.1
            obtain ⟨i2, hi2, rfl⟩ := inN_of c6.2.1
            have hne : i1 ≠ i2 := fun e => c6.2.2 (by rw [e])
            refine g_aload_n hX dX6_held_60 rfl rfl ?_
            refine g_iload_n hX dX6_held_61 rfl rfl ?_
            refine g_iload_n hX dX6_held_62 rfl rfl ?_
            refine g_callV (md' := mX6_likes) (ci := 6) (As := [.int _, .int _]) hX hR dX6_held_63 clX6_168 okX6_likes rfl (by assumption) rfl rfl (Nat.le_of_ble_eq_true rfl) (Nat.le_of_ble_eq_true rfl) ⟨Nat.le_of_ble_eq_true rfl, Nat.le_of_ble_eq_true rfl⟩ ?_
            refine sp_X6_likes hMo (by omega) (by omega) ?_
            change GW _ _ _ 66 _ [.int _] _ _ 0 0
            refine g_ifne 72 hX dX6_held_66 (by decide) (fun c66 => ?_) (fun c66 => ?_)
            · first | (rw [b2i_n0] at c66) | (rw [b2i_0] at c66)
              refine g_lconst (v := 0) hX dX6_held_72 (by decide) ?_
              rw [show (0 : Int64) = lN 0 from rfl]
              refine g_lstore (lv' := [(7, .long _), (0, .ref _), (1, .int _), (2, .int _), (3, .int _), (4, .int _), (5, .int _), (6, .int _)]) hX dX6_held_73 (by decide) rfl ?_
              refine g_lconst (v := 1) hX dX6_held_75 (by decide) ?_
              rw [show (1 : Int64) = lN 1 from rfl]
              refine g_lstore (lv' := [(9, .long _), (7, .long _), (0, .ref _), (1, .int _), (2, .int _), (3, .int _), (4, .int _), (5, .int _), (6, .int _)]) hX dX6_held_76 (by decide) rfl ?_
              refine g_iconst (v := nI 0) hX dX6_held_78 (by decide) ?_
              refine g_istore (lv' := [(11, .int _), (9, .long _), (7, .long _), (0, .ref _), (1, .int _), (2, .int _), (3, .int _), (4, .int _), (5, .int _), (6, .int _)]) hX dX6_held_79 (by decide) rfl ?_
              refine g_pick [0, 1, 2, 3, 4, 5, 6, 7, 8, 9] rfl ?_
              refine lp_X6_held_81 (hb := h) (part := part) hM hMo hw hs hi1 hi2 hne hc2 hx2 ?_ T 0 (Nat.sub_zero T).symm (Nat.zero_le _)
              refine g_iconst (v := nI 0) hX dX6_held_125 (by decide) ?_
              refine g_istore (lv' := [(11, .int _), (9, .long _), (7, .long _), (0, .ref _), (1, .int _), (2, .int _), (3, .int _), (4, .int _), (5, .int _), (6, .int _)]) hX dX6_held_126 (by decide) rfl ?_
              refine g_pick [0, 1, 2, 3, 4, 5, 6, 7, 8, 9] rfl ?_
              refine lp_X6_held_128 hM hMo hw hs hi1 hi2 hne hc2 hx2 (fun J hf => ?_) (2 ^ T) 0 I (Nat.sub_zero _).symm (Nat.zero_le _) MFr.rf
              refine q_int ?_ (hq J hf)
              rw [heldA, if_pos ⟨c6, c18, c31, c44, c55⟩, nI_clamp (by omega), nI_clamp (by omega), nI_clamp (by omega), nI_clamp (by omega), if_pos (show lkF _ _ _ = true from c66)]
            · first | (rw [b2i_n0] at c66) | (rw [b2i_0] at c66)
              refine g_bipush (v := (-2)) hX dX6_held_69 (by decide) ?_
              refine g_iret hM dX6_held_71 rfl (rfl) ⟨Nat.le_of_ble_eq_true rfl, Nat.le_of_ble_eq_true rfl⟩ ?_
              refine q_int ?_ (hq I MFr.rf)
              rw [heldA, if_pos ⟨c6, c18, c31, c44, c55⟩, nI_clamp (by omega), nI_clamp (by omega), if_neg (by rw [show lkF _ _ _ = _ from c66]; decide)]
          · rw [b2i_0, decide_eq_false_iff_not] at c55
            refine g_iconst (v := (-1)) hX dX6_held_58 (by decide) ?_
            refine g_iret hM dX6_held_59 rfl (rfl) ⟨Nat.le_of_ble_eq_true rfl, Nat.le_of_ble_eq_true rfl⟩ ?_
            refine q_int ?_ (hq I MFr.rf)
            rw [heldA, if_neg (fun e => c55 e.2.2.2.2)]
