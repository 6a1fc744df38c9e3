set_option maxHeartbeats 4000000 in
set_option maxRecDepth 100000 in
theorem lp_X6_comes_20 {Γ : Ga} {d : Nat} {κ : Kp} {Q : Option Value → Kp → Ip → Prop} {X : Cx} {I : Ip} {m P T h0 : Nat} (hM : Mx Γ (d + 5) mX6_comes Q X) (hMo : MoK κ m) (hw : WfT (I (κ.2.1 m 0)) P T) (hs : WfS (I (κ.2.1 m 2)) P T) (hq : ∀ J : Ip, MFr κ m I J → Q (some (.int (firstI 121 (fun n => decide (nI h0 ≤ itF (I (κ.2.1 m 0)) T n (I (κ.2.1 m 2)) 17))))) κ J) : ∀ (n : Nat) (k : Nat), n = 121 - k → k ≤ 121 → (∀ i, i < k → (fun n => decide (nI h0 ≤ itF (I (κ.2.1 m 0)) T n (I (κ.2.1 m 2)) 17)) i = false) → GW Γ mX6_comes X 20 [(2, .int (nI k)), (0, .ref (m)), (1, .int (nI h0))] [] κ (va_up I (κ.2.1 m 3) (itF (I (κ.2.1 m 0)) T k (I (κ.2.1 m 2)))) 0 0 := by
  have hX := hM.std
  have hR := hM.room
  intro n
  induction n using Nat.strongRecOn with
  | ind n ih =>
    intro k hn hk hno
    obtain ⟨hm, hm0, ⟨k0, n0⟩, ⟨k1, n1⟩, ⟨k2, n2⟩, ⟨k3, n3⟩, ⟨k4, n4⟩, ⟨k6, n6⟩, ⟨k8, n8⟩, ⟨k14, n14⟩, ⟨k15, n15⟩, ⟨k16, n16⟩, d01, d23, d614, d1516⟩ := id hMo
    have h03 : κ.2.1 m 0 ≠ κ.2.1 m 3 := kd_ne k0 k3 (by decide)
    obtain ⟨hw0, hw1, hP, hT, -⟩ := id hw
    refine g_iload_n hX dX6_comes_20 rfl rfl ?_
    refine g_bipush (v := nI 121) hX dX6_comes_21 (by decide) ?_
    refine g_icmpge 53 hX dX6_comes_23 (by decide) (fun c23 => ?_) (fun c23 => ?_)
    · rw [nI_leI (by omega) (by omega)] at c23
      refine g_bipush (v := (-4)) hX dX6_comes_53 (by decide) ?_
      refine g_iret hM dX6_comes_55 rfl (rfl) ⟨Nat.le_of_ble_eq_true rfl, Nat.le_of_ble_eq_true rfl⟩ ?_
      have e : k = 121 := by omega
      subst e
      exact q_int (first_no hno) (hq _ ((MFr.rf (κ := κ) (m := m) (I := I)).row (f := itF (I (κ.2.1 m 0)) T 121 (I (κ.2.1 m 2))) (Or.inr (Or.inl rfl)) hMo.m3))
    · rw [nI_leI (by omega) (by omega)] at c23
      refine g_aload_n hX dX6_comes_26 rfl rfl ?_
      refine g_getR hX dX6_comes_27 flX6_19 (by assumption) rfl (by first | assumption | rfl) (by assumption) ?_
      refine g_bipush (v := nI 17) hX dX6_comes_30 (by decide) ?_
      refine g_ialdN hX dX6_comes_32 (by assumption) (rfl) (by omega) (by first | decide | omega) ?_
      refine g_iload_n hX dX6_comes_33 rfl rfl ?_
      refine g_icmplt 39 hX dX6_comes_34 (by decide) (fun c34 => ?_) (fun c34 => ?_)
      · rw [up_same] at c34
        refine g_aload_n hX dX6_comes_39 rfl rfl ?_
        refine g_aload_n hX dX6_comes_40 rfl rfl ?_
        refine g_getR hX dX6_comes_41 flX6_19 (by assumption) rfl (by first | assumption | rfl) (by assumption) ?_
        refine g_callV (md' := mX6_minuteGoes) (ci := 6) (As := [.ref _]) hX hR dX6_comes_44 clX6_183 okX6_minuteGoes rfl (by assumption) rfl rfl (Nat.le_of_ble_eq_true rfl) (Nat.le_of_ble_eq_true rfl) ⟨Nat.le_of_ble_eq_true rfl, Nat.le_of_ble_eq_true rfl⟩ ?_
        refine sp_X6_minuteGoes (P := P) (T := T) hMo k3 (by rw [up_ne _ _ h03]; exact hw) (by rw [up_same]; exact wfs_it hw hs k) ?_
        rw [up_same, up_ne _ _ h03, up_up]
        change GW _ _ _ 47 _ [] _ _ 0 0
        refine g_iinc (lv' := [(2, .int _), (0, .ref _), (1, .int _)]) hX dX6_comes_47 rfl (by first | exact nI_inc _ | rfl) (by decide) rfl ?_
        refine g_goto 20 hX dX6_comes_50 (by decide) ?_
        refine g_pick [0, 1, 2] rfl (ih (121 - (k + 1)) (by omega) (k + 1) rfl (by omega) (fun i hi => ?_))
        by_cases e : i = k
        · subst e
          exact decide_eq_false (fun h => Int32_nle.mpr c34 h)
        · exact hno i (by omega)
      · rw [up_same] at c34
        refine g_iload_n hX dX6_comes_37 rfl rfl ?_
        refine g_iret hM dX6_comes_38 rfl (rfl) ⟨Nat.le_of_ble_eq_true rfl, Nat.le_of_ble_eq_true rfl⟩ ?_
        refine q_int ?_ (hq _ ((MFr.rf (κ := κ) (m := m) (I := I)).row (f := itF (I (κ.2.1 m 0)) T k (I (κ.2.1 m 2))) (Or.inr (Or.inl rfl)) hMo.m3))
        exact first_at (by omega) (decide_eq_true (Decidable.of_not_not (fun h => c34 (Int32_nle.mp h)))) hno

set_option maxHeartbeats 4000000 in
set_option maxRecDepth 100000 in
theorem sp_X6_comes {Γ : Ga} {d : Nat} {κ : Kp} {I : Ip} {Q : Option Value → Kp → Ip → Prop} {m P T : Nat} {x : Int32} (hMo : MoK κ m) (hw : WfT (I (κ.2.1 m 0)) P T) (hs : WfS (I (κ.2.1 m 2)) P T) (hq : ∀ J : Ip, MFr κ m I J → Q (some (.int (comesA (I (κ.2.1 m 0)) (I (κ.2.1 m 2)) T x))) κ J) : Sp Γ (d + 5) mX6_comes [.ref (m), .int (x)] κ I Q := by
  obtain ⟨hm, hm0, ⟨k0, n0⟩, ⟨k1, n1⟩, ⟨k2, n2⟩, ⟨k3, n3⟩, ⟨k4, n4⟩, ⟨k6, n6⟩, ⟨k8, n8⟩, ⟨k14, n14⟩, ⟨k15, n15⟩, ⟨k16, n16⟩, d01, d23, d614, d1516⟩ := id hMo
  obtain ⟨hw0, hw1, hP, hT, -⟩ := id hw
  intro X hM
  have hX := hM.std
  have hR := hM.room
  show GW _ mX6_comes X 0 [(0, .ref (m)), (1, .int (x))] [] _ _ 0 0
  refine g_iload_n hX dX6_comes_0 rfl rfl ?_
  refine g_i2l hX dX6_comes_1 ?_
  refine g_lconst (v := 0) hX dX6_comes_2 (by decide) ?_
  refine g_ldc2 hX dX6_comes_3 kX6_190 ?_
  refine g_callS (md' := mX6_in) (As := [.long _, .long _, .long _]) hX hR dX6_comes_6 clX6_73 okX6_in rfl rfl (Nat.le_of_ble_eq_true rfl) (Nat.le_of_ble_eq_true rfl) ⟨Nat.le_of_ble_eq_true rfl, Nat.le_of_ble_eq_true rfl⟩ ?_
  refine sp_X6_inR 0 999 rfl rfl ?_
  change GW _ _ _ 9 _ [.int _] _ _ 0 0
  refine g_ifne 14 hX dX6_comes_9 (by decide) (fun c9 => ?_) (fun c9 => ?_)
  · first | (rw [b2i_n0, decide_eq_true_eq] at c9) | (rw [b2i_0, decide_eq_false_iff_not] at c9)
    refine g_aload_n hX dX6_comes_14 rfl rfl ?_
    refine g_callV (md' := mX6_layAside) (ci := 6) (As := []) hX hR dX6_comes_15 clX6_192 okX6_layAside rfl (by assumption) rfl rfl (Nat.le_of_ble_eq_true rfl) (Nat.le_of_ble_eq_true rfl) ⟨Nat.le_of_ble_eq_true rfl, Nat.le_of_ble_eq_true rfl⟩ ?_
    refine sp_X6_layAside hMo ?_
    obtain ⟨h0, hj1, hj2, rfl⟩ := inR_of c9
    change GW _ _ _ 18 _ [] _ _ 0 0
    refine g_iconst (v := nI 0) hX dX6_comes_18 (by decide) ?_
    refine g_istore_n (lv' := [(2, .int _), (0, .ref _), (1, .int _)]) hX dX6_comes_19 rfl (by decide) rfl ?_
    refine g_pick [0, 1, 2] rfl (lp_X6_comes_20 (h0 := h0) hM hMo hw hs (fun J hf => ?_) 121 0 rfl (by omega) (fun i hi => by omega))
    refine q_int ?_ (hq J hf)
    rw [comesA, if_pos c9]
  · first | (rw [b2i_n0, decide_eq_true_eq] at c9) | (rw [b2i_0, decide_eq_false_iff_not] at c9)
    refine g_iconst (v := (-1)) hX dX6_comes_12 (by decide) ?_
    refine g_iret hM dX6_comes_13 rfl (rfl) ⟨Nat.le_of_ble_eq_true rfl, Nat.le_of_ble_eq_true rfl⟩ ?_
    refine q_int ?_ (hq I MFr.rf)
    rw [comesA, if_neg c9]

set_option maxHeartbeats 4000000 in
set_option maxRecDepth 100000 in
theorem lp_X6_quiet_21 {Γ : Ga} {d : Nat} {κ : Kp} {Q : Option Value → Kp → Ip → Prop} {X : Cx} {I : Ip} {m P T a b : Nat} (hM : Mx Γ (d + 5) mX6_quiet Q X) (hMo : MoK κ m) (hw : WfT (I (κ.2.1 m 0)) P T) (hs : WfS (I (κ.2.1 m 2)) P T) (h10 : I (κ.2.1 m 2) 10 = nI a) (h11 : I (κ.2.1 m 2) 11 = nI b) (ha : a < 6) (hb : b < 6) (hq : ∀ J : Ip, MFr κ m I J → Q (some (.int (firstI 121 (fun n => silB (I (κ.2.1 m 0)) (itF (I (κ.2.1 m 0)) T n (I (κ.2.1 m 2))) T)))) κ J) : ∀ (n : Nat) (k : Nat), n = 121 - k → k ≤ 121 → (∀ i, i < k → (fun n => silB (I (κ.2.1 m 0)) (itF (I (κ.2.1 m 0)) T n (I (κ.2.1 m 2))) T) i = false) → GW Γ mX6_quiet X 21 [(1, .int (nI k)), (0, .ref (m))] [] κ (va_up I (κ.2.1 m 3) (itF (I (κ.2.1 m 0)) T k (I (κ.2.1 m 2)))) 0 0 := by
  have hX := hM.std
  have hR := hM.room
  intro n
  induction n using Nat.strongRecOn with
  | ind n ih =>
    intro k hn hk hno
    obtain ⟨hm, hm0, ⟨k0, n0⟩, ⟨k1, n1⟩, ⟨k2, n2⟩, ⟨k3, n3⟩, ⟨k4, n4⟩, ⟨k6, n6⟩, ⟨k8, n8⟩, ⟨k14, n14⟩, ⟨k15, n15⟩, ⟨k16, n16⟩, d01, d23, d614, d1516⟩ := id hMo
    have h03 : κ.2.1 m 0 ≠ κ.2.1 m 3 := kd_ne k0 k3 (by decide)
    obtain ⟨hw0, hw1, hP, hT, -⟩ := id hw
    have e10 := (it_keep hw hs (Or.inr (Or.inl rfl)) k).trans h10
    have e11 := (it_keep hw hs (Or.inr (Or.inr rfl)) k).trans h11
    have hsil : silB (I (κ.2.1 m 0)) (itF (I (κ.2.1 m 0)) T k (I (κ.2.1 m 2))) T = decide (itF (I (κ.2.1 m 0)) T k (I (κ.2.1 m 2)) 13 = -4 ∧ tellF (I (κ.2.1 m 0)) (itF (I (κ.2.1 m 0)) T k (I (κ.2.1 m 2))) T a (nI b) (itF (I (κ.2.1 m 0)) T k (I (κ.2.1 m 2)) 15) = 0 ∧ tellF (I (κ.2.1 m 0)) (itF (I (κ.2.1 m 0)) T k (I (κ.2.1 m 2))) T b (nI a) (itF (I (κ.2.1 m 0)) T k (I (κ.2.1 m 2)) 15) = 0) := by
      rw [silB, e10, e11, nI_clamp (by omega), nI_clamp (by omega)]
    refine g_iload_n hX dX6_quiet_21 rfl rfl ?_
    refine g_bipush (v := nI 121) hX dX6_quiet_22 (by decide) ?_
    refine g_icmpge 54 hX dX6_quiet_24 (by decide) (fun c24 => ?_) (fun c24 => ?_)
    · rw [nI_leI (by omega) (by omega)] at c24
      refine g_bipush (v := (-4)) hX dX6_quiet_54 (by decide) ?_
      refine g_iret hM dX6_quiet_56 rfl (rfl) ⟨Nat.le_of_ble_eq_true rfl, Nat.le_of_ble_eq_true rfl⟩ ?_
      have e : k = 121 := by omega
      subst e
      exact q_int (first_no hno) (hq _ ((MFr.rf (κ := κ) (m := m) (I := I)).row (f := itF (I (κ.2.1 m 0)) T 121 (I (κ.2.1 m 2))) (Or.inr (Or.inl rfl)) hMo.m3))
    · rw [nI_leI (by omega) (by omega)] at c24
      refine g_aload_n hX dX6_quiet_27 rfl rfl ?_
      refine g_aload_n hX dX6_quiet_28 rfl rfl ?_
      refine g_getR hX dX6_quiet_29 flX6_19 (by assumption) rfl (by first | assumption | rfl) (by assumption) ?_
      refine g_callV (md' := mX6_isSilent) (ci := 6) (As := [.ref _]) hX hR dX6_quiet_32 clX6_195 okX6_isSilent rfl (by assumption) rfl rfl (Nat.le_of_ble_eq_true rfl) (Nat.le_of_ble_eq_true rfl) ⟨Nat.le_of_ble_eq_true rfl, Nat.le_of_ble_eq_true rfl⟩ ?_
      refine sp_X6_isSilent (T := T) (a := a) (b := b) hMo k3 (by rw [up_ne _ _ h03]; exact hw1) hT (by rw [up_same]; exact e10) (by rw [up_same]; exact e11) ha hb ?_
      rw [up_same, up_ne _ _ h03, ← hsil]
      change GW _ _ _ 35 _ [.int _] _ _ 0 0
      refine g_ifeq 40 hX dX6_quiet_35 (by decide) (fun c35 => ?_) (fun c35 => ?_)
      · first | (rw [b2i_n0] at c35) | (rw [b2i_0] at c35)
        refine g_aload_n hX dX6_quiet_40 rfl rfl ?_
        refine g_aload_n hX dX6_quiet_41 rfl rfl ?_
        refine g_getR hX dX6_quiet_42 flX6_19 (by assumption) rfl (by first | assumption | rfl) (by assumption) ?_
        refine g_callV (md' := mX6_minuteGoes) (ci := 6) (As := [.ref _]) hX hR dX6_quiet_45 clX6_183 okX6_minuteGoes rfl (by assumption) rfl rfl (Nat.le_of_ble_eq_true rfl) (Nat.le_of_ble_eq_true rfl) ⟨Nat.le_of_ble_eq_true rfl, Nat.le_of_ble_eq_true rfl⟩ ?_
        refine sp_X6_minuteGoes (P := P) (T := T) hMo k3 (by rw [up_ne _ _ h03]; exact hw) (by rw [up_same]; exact wfs_it hw hs k) ?_
        rw [up_same, up_ne _ _ h03, up_up]
        change GW _ _ _ 48 _ [] _ _ 0 0
        refine g_iinc (lv' := [(1, .int _), (0, .ref _)]) hX dX6_quiet_48 rfl (by first | exact nI_inc _ | rfl) (by decide) rfl ?_
        refine g_goto 21 hX dX6_quiet_51 (by decide) ?_
        refine g_pick [0, 1] rfl (ih (121 - (k + 1)) (by omega) (k + 1) rfl (by omega) (fun i hi => ?_))
        by_cases e : i = k
        · subst e
          exact c35
        · exact hno i (by omega)
      · first | (rw [b2i_n0] at c35) | (rw [b2i_0] at c35)
        refine g_iload_n hX dX6_quiet_38 rfl rfl ?_
        refine g_iret hM dX6_quiet_39 rfl (rfl) ⟨Nat.le_of_ble_eq_true rfl, Nat.le_of_ble_eq_true rfl⟩ ?_
        refine q_int ?_ (hq _ ((MFr.rf (κ := κ) (m := m) (I := I)).row (f := itF (I (κ.2.1 m 0)) T k (I (κ.2.1 m 2))) (Or.inr (Or.inl rfl)) hMo.m3))
        exact first_at (by omega) c35 hno

set_option maxHeartbeats 4000000 in
set_option maxRecDepth 100000 in
theorem sp_X6_quiet {Γ : Ga} {d : Nat} {κ : Kp} {I : Ip} {Q : Option Value → Kp → Ip → Prop} {m P T : Nat} (hMo : MoK κ m) (hw : WfT (I (κ.2.1 m 0)) P T) (hs : WfS (I (κ.2.1 m 2)) P T) (hq : ∀ J : Ip, MFr κ m I J → Q (some (.int (quietA (I (κ.2.1 m 0)) (I (κ.2.1 m 2)) T))) κ J) : Sp Γ (d + 5) mX6_quiet [.ref (m)] κ I Q := by
  obtain ⟨hm, hm0, ⟨k0, n0⟩, ⟨k1, n1⟩, ⟨k2, n2⟩, ⟨k3, n3⟩, ⟨k4, n4⟩, ⟨k6, n6⟩, ⟨k8, n8⟩, ⟨k14, n14⟩, ⟨k15, n15⟩, ⟨k16, n16⟩, d01, d23, d614, d1516⟩ := id hMo
  obtain ⟨hw0, hw1, hP, hT, -⟩ := id hw
  intro X hM
  have hX := hM.std
  have hR := hM.room
  show GW _ mX6_quiet X 0 [(0, .ref (m))] [] _ _ 0 0
  refine g_aload_n hX dX6_quiet_0 rfl rfl ?_
  refine g_getR hX dX6_quiet_1 flX6_16 (by assumption) rfl (by first | assumption | rfl) (by assumption) ?_
  refine g_bipush (v := nI 10) hX dX6_quiet_4 (by decide) ?_
  refine g_ialdN hX dX6_quiet_6 (by assumption) (rfl) (by omega) (by first | decide | omega) ?_
  refine g_bipush (v := (-4)) hX dX6_quiet_7 (by decide) ?_
  refine g_icmpne 15 hX dX6_quiet_9 (by decide) (fun c9 => ?_) (fun c9 => ?_)
  · refine g_aload_n hX dX6_quiet_15 rfl rfl ?_
    refine g_callV (md' := mX6_layAside) (ci := 6) (As := []) hX hR dX6_quiet_16 clX6_192 okX6_layAside rfl (by assumption) rfl rfl (Nat.le_of_ble_eq_true rfl) (Nat.le_of_ble_eq_true rfl) ⟨Nat.le_of_ble_eq_true rfl, Nat.le_of_ble_eq_true rfl⟩ ?_
    refine sp_X6_layAside hMo ?_
    obtain ⟨a, b, c, o, hseat, -⟩ := wfs_seat hw hs c9
    obtain ⟨ha, hb, -, h10, h11, -⟩ := id hseat
    change GW _ _ _ 19 _ [] _ _ 0 0
    refine g_iconst (v := nI 0) hX dX6_quiet_19 (by decide) ?_
    refine g_istore_n (lv' := [(1, .int _), (0, .ref _)]) hX dX6_quiet_20 rfl (by decide) rfl ?_
    refine g_pick [0, 1] rfl (lp_X6_quiet_21 hM hMo hw hs h10 h11 (by omega) (by omega) (fun J hf => ?_) 121 0 rfl (by omega) (fun i hi => by omega))
    refine q_int ?_ (hq J hf)
    rw [quietA, if_neg c9]
  · refine g_bipush (v := (-2)) hX dX6_quiet_12 (by decide) ?_
    refine g_iret hM dX6_quiet_14 rfl (rfl) ⟨Nat.le_of_ble_eq_true rfl, Nat.le_of_ble_eq_true rfl⟩ ?_
    refine q_int ?_ (hq I MFr.rf)
    rw [quietA, if_pos c9]

set_option maxHeartbeats 4000000 in
set_option maxRecDepth 100000 in
theorem sp_X6_brings {Γ : Ga} {d : Nat} {κ : Kp} {I : Ip} {Q : Option Value → Kp → Ip → Prop} {m P T : Nat} {x y n : Int32} (hMo : MoK κ m) (hw : WfT (I (κ.2.1 m 0)) P T) (hs : WfS (I (κ.2.1 m 2)) P T) (hq : ∀ J : Ip, MFr κ m I J → Q (some (.int (bringsA (I (κ.2.1 m 0)) (I (κ.2.1 m 2)) P T x y n))) κ J) : Sp Γ (d + 6) mX6_brings [.ref (m), .int (x), .int (y), .int (n)] κ I Q := by
  obtain ⟨hm, hm0, ⟨k0, n0⟩, ⟨k1, n1⟩, ⟨k2, n2⟩, ⟨k3, n3⟩, ⟨k4, n4⟩, ⟨k6, n6⟩, ⟨k8, n8⟩, ⟨k14, n14⟩, ⟨k15, n15⟩, ⟨k16, n16⟩, d01, d23, d614, d1516⟩ := id hMo
  obtain ⟨hw0, hw1, hP, hT, -⟩ := id hw
  intro X hM
  have hX := hM.std
  have hR := hM.room
  show GW _ mX6_brings X 0 [(0, .ref (m)), (1, .int (x)), (2, .int (y)), (3, .int (n))] [] _ _ 0 0
  refine g_aload_n hX dX6_brings_0 rfl rfl ?_
  refine g_iload_n hX dX6_brings_1 rfl rfl ?_
  refine g_iload_n hX dX6_brings_2 rfl rfl ?_
  refine g_callV (md' := mX6_areTwo) (ci := 6) (As := [.int _, .int _]) hX hR dX6_brings_3 clX6_165 okX6_areTwo rfl (by assumption) rfl rfl (Nat.le_of_ble_eq_true rfl) (Nat.le_of_ble_eq_true rfl) ⟨Nat.le_of_ble_eq_true rfl, Nat.le_of_ble_eq_true rfl⟩ ?_
  refine sp_X6_areTwo hMo hw0 (by omega) ?_
  change GW _ _ _ 6 _ [.int _] _ _ 0 0
  refine g_ifeq 21 hX dX6_brings_6 (by decide) (fun c6 => ?_) (fun c6 => ?_)
  · first | (rw [b2i_n0, decide_eq_true_eq] at c6) | (rw [b2i_0, decide_eq_false_iff_not] at c6)
    refine g_iconst (v := (-1)) hX dX6_brings_21 (by decide) ?_
    refine g_iret hM dX6_brings_22 rfl (rfl) ⟨Nat.le_of_ble_eq_true rfl, Nat.le_of_ble_eq_true rfl⟩ ?_
    refine q_int ?_ (hq I MFr.rf)
    rw [bringsA, if_neg (fun e => c6 e.1)]
  · first | (rw [b2i_n0, decide_eq_true_eq] at c6) | (rw [b2i_0, decide_eq_false_iff_not] at c6)
    refine g_iload_n hX dX6_brings_9 rfl rfl ?_
    refine g_i2l hX dX6_brings_10 ?_
    refine g_lconst (v := 1) hX dX6_brings_11 (by decide) ?_
    refine g_ldc2 hX dX6_brings_12 kX6_181 ?_
    refine g_callS (md' := mX6_in) (As := [.long _, .long _, .long _]) hX hR dX6_brings_15 clX6_73 okX6_in rfl rfl (Nat.le_of_ble_eq_true rfl) (Nat.le_of_ble_eq_true rfl) ⟨Nat.le_of_ble_eq_true rfl, Nat.le_of_ble_eq_true rfl⟩ ?_
    refine sp_X6_inR 1 60 rfl rfl ?_
    change GW _ _ _ 18 _ [.int _] _ _ 0 0
    refine g_ifne 23 hX dX6_brings_18 (by decide) (fun c18 => ?_) (fun c18 => ?_)
    · first | (rw [b2i_n0, decide_eq_true_eq] at c18) | (rw [b2i_0, decide_eq_false_iff_not] at c18)
      refine g_aload_n hX dX6_brings_23 rfl rfl ?_
      refine g_iload_n hX dX6_brings_24 rfl rfl ?_
      refine g_iload_n hX dX6_brings_25 rfl rfl ?_
      refine g_callV (md' := mX6_likes) (ci := 6) (As := [.int _, .int _]) hX hR dX6_brings_26 clX6_168 okX6_likes rfl (by assumption) rfl rfl (Nat.le_of_ble_eq_true rfl) (Nat.le_of_ble_eq_true rfl) ⟨Nat.le_of_ble_eq_true rfl, Nat.le_of_ble_eq_true rfl⟩ ?_
      obtain ⟨j, hj1, hj2, rfl⟩ := inR_of c18
      obtain ⟨i1, hi1, rfl⟩ := inN_of c6.1
      obtain ⟨i2, hi2, rfl⟩ := inN_of c6.2.1
      have hne : i1 ≠ i2 := fun e => c6.2.2 (by rw [e])
      refine sp_X6_likes hMo (by omega) (by omega) ?_
      change GW _ _ _ 29 _ [.int _] _ _ 0 0
      refine g_ifeq 49 hX dX6_brings_29 (by decide) (fun c29 => ?_) (fun c29 => ?_)
      · first | (rw [b2i_n0] at c29) | (rw [b2i_0] at c29)
        refine g_bipush (v := (-2)) hX dX6_brings_49 (by decide) ?_
        refine g_iret hM dX6_brings_51 rfl (rfl) ⟨Nat.le_of_ble_eq_true rfl, Nat.le_of_ble_eq_true rfl⟩ ?_
        refine q_int ?_ (hq I MFr.rf)
        rw [bringsA, if_pos ⟨c6, c18⟩, nI_clamp (by omega), nI_clamp (by omega), if_neg (by simpa [lkF] using c29)]
      · first | (rw [b2i_n0] at c29) | (rw [b2i_0] at c29)
        refine g_aload_n hX dX6_brings_32 rfl rfl ?_
        refine g_iload_n hX dX6_brings_33 rfl rfl ?_
        refine g_iload_n hX dX6_brings_34 rfl rfl ?_
        refine g_iload_n hX dX6_brings_35 rfl rfl ?_
        refine g_aload_n hX dX6_brings_36 rfl rfl ?_
        refine g_getR hX dX6_brings_37 flX6_16 (by assumption) rfl (by first | assumption | rfl) (by assumption) ?_
        refine g_bipush (v := nI 9) hX dX6_brings_40 (by decide) ?_
        refine g_ialdN hX dX6_brings_42 (by assumption) (rfl) (by omega) (by first | decide | omega) ?_
        refine g_callV (md' := mX6_bringsBy) (ci := 6) (As := [.int _, .int _, .int _, .int _]) hX hR dX6_brings_43 clX6_198 okX6_bringsBy rfl (by assumption) rfl rfl (Nat.le_of_ble_eq_true rfl) (Nat.le_of_ble_eq_true rfl) ⟨Nat.le_of_ble_eq_true rfl, Nat.le_of_ble_eq_true rfl⟩ ?_
        refine sp_X6_bringsBy (P := P) (T := T) hMo hw hs (by omega) hi1 hi2 hne hs.2.1 ?_
        change GW _ _ _ 46 _ [.int _] _ _ 0 0
        refine g_goto 51 hX dX6_brings_46 (by decide) ?_
        refine g_iret hM dX6_brings_51 rfl (rfl) ⟨Nat.le_of_ble_eq_true rfl, Nat.le_of_ble_eq_true rfl⟩ ?_
        refine q_int ?_ (hq _ (MFr.rf.row (Or.inr (Or.inl rfl)) hMo.m3))
        rw [bringsA, if_pos ⟨c6, c18⟩, nI_clamp (by omega), nI_clamp (by omega), nI_clamp (by omega), if_pos (show lkF _ _ _ = true from c29)]
    · first | (rw [b2i_n0, decide_eq_true_eq] at c18) | (rw [b2i_0, decide_eq_false_iff_not] at c18)
      refine g_iconst (v := (-1)) hX dX6_brings_21 (by decide) ?_
      refine g_iret hM dX6_brings_22 rfl (rfl) ⟨Nat.le_of_ble_eq_true rfl, Nat.le_of_ble_eq_true rfl⟩ ?_
      refine q_int ?_ (hq I MFr.rf)
      rw [bringsA, if_neg (fun e => c18 e.2)]
