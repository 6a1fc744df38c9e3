set_option maxHeartbeats 4000000 in
set_option maxRecDepth 100000 in
theorem lp_X6_findsTwos_9 {Γ : Ga} {d : Nat} {κ : Kp} {Q : Option Value → Kp → Ip → Prop} {X : Cx} {I : Ip} {m c P T : Nat} {J : Ip} (hM : Mx Γ (d + 7) mX6_findsTwos Q X) (hMo : MoK κ m) (hw : WfT (I (κ.2.1 m 0)) P T) (hs : WfS (I (κ.2.1 m 2)) P T) (hc : c < 1000) (hf : MFr κ m I J) (hout : GW Γ mX6_findsTwos X 36 [(3, .int (nI P)), (2, .int (nI ((P + 1) ^ P))), (0, .ref m), (1, .int (nI c))] [] κ J 0 0) : ∀ (n : Nat) (x : Nat), n = P - x → x ≤ P → GW Γ mX6_findsTwos X 9 [(3, .int (nI x)), (2, .int (nI ((P + 1) ^ x))), (0, .ref (m)), (1, .int (nI c))] [] κ (J) 0 0 := by
  have hX := hM.std
  have hR := hM.room
  intro n
  induction n using Nat.strongRecOn with
  | ind n ih =>
    intro x hn hx
    obtain ⟨hm, hm0, ⟨k0, n0⟩, ⟨k1, n1⟩, ⟨k2, n2⟩, ⟨k3, n3⟩, ⟨k4, n4⟩, ⟨k6, n6⟩, ⟨k8, n8⟩, ⟨k14, n14⟩, ⟨k15, n15⟩, ⟨k16, n16⟩, d01, d23, d614, d1516⟩ := id hMo
    obtain ⟨hw0, hw1, hP, hT, -⟩ := id hw
    have ew := hf.w hMo
    refine g_iload_n hX dX6_findsTwos_9 rfl rfl ?_
    refine g_aload_n hX dX6_findsTwos_10 rfl rfl ?_
    refine g_getR hX dX6_findsTwos_11 flX6_7 (by assumption) rfl (by first | assumption | rfl) (by assumption) ?_
    refine g_iconst (v := nI 0) hX dX6_findsTwos_14 (by decide) ?_
    refine g_ialdN hX dX6_findsTwos_15 (by assumption) (rfl) (by omega) (by first | decide | omega) ?_
    refine g_icmpge 36 hX dX6_findsTwos_16 (by decide) (fun c16 => ?_) (fun c16 => ?_)
    · rw [ew, hw0, nI_leI (by omega) (by omega)] at c16
      have e : x = P := by omega
      subst e
      exact g_pick [0, 1, 2, 3] rfl hout
    · rw [ew, hw0, nI_leI (by omega) (by omega)] at c16
      refine g_iload_n hX dX6_findsTwos_19 rfl rfl ?_
      refine g_aload_n hX dX6_findsTwos_20 rfl rfl ?_
      refine g_getR hX dX6_findsTwos_21 flX6_7 (by assumption) rfl (by first | assumption | rfl) (by assumption) ?_
      refine g_iconst (v := nI 0) hX dX6_findsTwos_24 (by decide) ?_
      refine g_ialdN hX dX6_findsTwos_25 (by assumption) (rfl) (by omega) (by first | decide | omega) ?_
      rw [ew, hw0]
      refine g_iconst (v := nI 1) hX dX6_findsTwos_26 (by decide) ?_
      refine g_iadd hX dX6_findsTwos_27 ?_
      refine g_imul hX dX6_findsTwos_28 ?_
      refine g_istore_n (lv' := [(2, .int _), (3, .int _), (0, .ref _), (1, .int _)]) hX dX6_findsTwos_29 rfl (by decide) rfl ?_
      refine g_iinc (lv' := [(3, .int _), (2, .int _), (0, .ref _), (1, .int _)]) hX dX6_findsTwos_30 rfl (by first | exact nI_inc _ | rfl) (by decide) rfl ?_
      refine g_goto 9 hX dX6_findsTwos_33 (by decide) ?_
      rw [nI_add, nI_mul, ← Nat.pow_succ]
      exact g_pick [0, 1, 2, 3] rfl (ih (P - (x + 1)) (by omega) (x + 1) rfl (by omega))

set_option maxHeartbeats 4000000 in
set_option maxRecDepth 100000 in
theorem lp_X6_findsTwos_41 {Γ : Ga} {d : Nat} {κ : Kp} {Q : Option Value → Kp → Ip → Prop} {X : Cx} {I : Ip} {m c P T : Nat} (hM : Mx Γ (d + 7) mX6_findsTwos Q X) (hMo : MoK κ m) (hw : WfT (I (κ.2.1 m 0)) P T) (hs : WfS (I (κ.2.1 m 2)) P T) (hc : c < 1000) (hq : ∀ J : Ip, MFr κ m I J → (∀ a b, a < b → b < P → J (κ.2.1 m 14) (6 * a + b) = (wbF (I (κ.2.1 m 0)) (I (κ.2.1 m 2)) T c (I (κ.2.1 m 2) 9) (-4)) a b) → (∀ p, p < P → J (κ.2.1 m 16) p = nI (bwF (lkF (I (κ.2.1 m 0))) (wbF (I (κ.2.1 m 0)) (I (κ.2.1 m 2)) T c (I (κ.2.1 m 2) 9) (-4)) P p)) → Q (some (.int (twosM (lkF (I (κ.2.1 m 0))) (wbF (I (κ.2.1 m 0)) (I (κ.2.1 m 2)) T c (I (κ.2.1 m 2) 9) (-4)) P))) κ J) : ∀ (n : Nat) (k : Nat) (J : Ip), n = (P + 1) ^ P - k → k ≤ (P + 1) ^ P → MFr κ m I J → (∀ a b, a < b → b < P → J (κ.2.1 m 14) (6 * a + b) = (wbF (I (κ.2.1 m 0)) (I (κ.2.1 m 2)) T c (I (κ.2.1 m 2) 9) (-4)) a b) → ((twoF (lkF (I (κ.2.1 m 0))) (wbF (I (κ.2.1 m 0)) (I (κ.2.1 m 2)) T c (I (κ.2.1 m 2) 9) (-4)) P k).1 = -1 ∨ ∀ p, p < P → J (κ.2.1 m 16) p = nI (dig P (twoF (lkF (I (κ.2.1 m 0))) (wbF (I (κ.2.1 m 0)) (I (κ.2.1 m 2)) T c (I (κ.2.1 m 2) 9) (-4)) P k).2 p)) → GW Γ mX6_findsTwos X 41 [(4, .int (nI k)), (3, .int ((twoF (lkF (I (κ.2.1 m 0))) (wbF (I (κ.2.1 m 0)) (I (κ.2.1 m 2)) T c (I (κ.2.1 m 2) 9) (-4)) P k).1)), (2, .int (nI ((P + 1) ^ P))), (0, .ref (m)), (1, .int (nI c))] [] κ (J) 0 0 := by
  have hX := hM.std
  have hR := hM.room
  intro n
  induction n using Nat.strongRecOn with
  | ind n ih =>
    intro k J hn hk hf hv hb
    obtain ⟨hm, hm0, ⟨k0, n0⟩, ⟨k1, n1⟩, ⟨k2, n2⟩, ⟨k3, n3⟩, ⟨k4, n4⟩, ⟨k6, n6⟩, ⟨k8, n8⟩, ⟨k14, n14⟩, ⟨k15, n15⟩, ⟨k16, n16⟩, d01, d23, d614, d1516⟩ := id hMo
    obtain ⟨hw0, hw1, hP, hT, -⟩ := id hw
    have ew := hf.w hMo
    have hpw := pw_le hP hP
    refine g_iload hX dX6_findsTwos_41 rfl ?_
    refine g_iload_n hX dX6_findsTwos_43 rfl rfl ?_
    refine g_icmpge 85 hX dX6_findsTwos_44 (by decide) (fun c44 => ?_) (fun c44 => ?_)
    · rw [nI_leI (by omega) (by omega)] at c44
      refine g_iload_n hX dX6_findsTwos_85 rfl rfl ?_
      refine g_iret hM dX6_findsTwos_86 rfl (rfl) ⟨Nat.le_of_ble_eq_true rfl, Nat.le_of_ble_eq_true rfl⟩ ?_
      have e : k = (P + 1) ^ P := by omega
      subst e
      refine hq J hf hv ?_
      rcases hb with e | hb
      · have := two_end (lk := lkF (I (κ.2.1 m 0))) (V := wbF (I (κ.2.1 m 0)) (I (κ.2.1 m 2)) T c (I (κ.2.1 m 2) 9) (-4)) (show P < 7 by omega)
        rw [e] at this
        exact absurd this (by decide)
      · exact hb
    · rw [nI_leI (by omega) (by omega)] at c44
      refine g_aload_n hX dX6_findsTwos_47 rfl rfl ?_
      refine g_iload hX dX6_findsTwos_48 rfl ?_
      refine g_callV (md' := mX6_worth) (ci := 6) (As := [.int _]) hX hR dX6_findsTwos_50 clX6_221 okX6_worth rfl (by assumption) rfl rfl (Nat.le_of_ble_eq_true rfl) (Nat.le_of_ble_eq_true rfl) ⟨Nat.le_of_ble_eq_true rfl, Nat.le_of_ble_eq_true rfl⟩ ?_
      refine sp_X6_worth (P := P) (T := T) hMo (by rw [ew]; exact hw) (by omega) hv (fun K hf2 e14 e16 h15 => ?_)
      rw [ew]
      change GW _ _ _ 53 _ [.int _] _ _ 0 0
      refine g_istore (lv' := [(5, .int _), (4, .int _), (3, .int _), (2, .int _), (0, .ref _), (1, .int _)]) hX dX6_findsTwos_53 (by decide) rfl ?_
      refine g_iload hX dX6_findsTwos_55 rfl ?_
      refine g_iload_n hX dX6_findsTwos_57 rfl rfl ?_
      refine g_icmple 79 hX dX6_findsTwos_58 (by decide) (fun c58 => ?_) (fun c58 => ?_)
      · refine g_iinc (lv' := [(4, .int _), (5, .int _), (3, .int _), (2, .int _), (0, .ref _), (1, .int _)]) hX dX6_findsTwos_79 rfl (by first | exact nI_inc _ | rfl) (by decide) rfl ?_
        refine g_goto 41 hX dX6_findsTwos_82 (by decide) ?_
        refine g_pick [0, 2, 3, 4, 5] rfl ?_
        have := ih ((P + 1) ^ P - (k + 1)) (by omega) (k + 1) _ rfl (by omega) (hf.tr hf2) (fun a b h1 h2 => by rw [e14]; exact hv a b h1 h2) (by rw [twoF, if_neg (fun e => Int32_nle.mpr e c58), e16]; exact hb)
        rw [twoF, if_neg (fun e => Int32_nle.mpr e c58)] at this
        exact this
      · refine g_iload hX dX6_findsTwos_61 rfl ?_
        refine g_istore_n (lv' := [(3, .int _), (5, .int _), (4, .int _), (2, .int _), (0, .ref _), (1, .int _)]) hX dX6_findsTwos_63 rfl (by decide) rfl ?_
        refine g_aload_n hX dX6_findsTwos_64 rfl rfl ?_
        refine g_getR hX dX6_findsTwos_65 flX6_34 (by assumption) rfl (by first | assumption | rfl) (by assumption) ?_
        refine g_iconst (v := nI 0) hX dX6_findsTwos_68 (by decide) ?_
        refine g_aload_n hX dX6_findsTwos_69 rfl rfl ?_
        refine g_getR hX dX6_findsTwos_70 flX6_37 (by assumption) rfl (by first | assumption | rfl) (by assumption) ?_
        refine g_iconst (v := nI 0) hX dX6_findsTwos_73 (by decide) ?_
        refine g_bipush (v := nI 6) hX dX6_findsTwos_74 (by decide) ?_
        refine g_callS (md' := mX6_copies) (As := [.ref _, .int _, .ref _, .int _, .int _]) hX hR dX6_findsTwos_76 clX6_58 okX6_copies rfl rfl (Nat.le_of_ble_eq_true rfl) (Nat.le_of_ble_eq_true rfl) ⟨Nat.le_of_ble_eq_true rfl, Nat.le_of_ble_eq_true rfl⟩ ?_
        refine sp_X6_copies (i := 0) (j := 0) (c := 6) k15 k16 (by decide) (by decide) (by decide) (by decide) d1516 ?_
        change GW _ _ _ 79 _ [] _ _ 0 0
        refine g_iinc (lv' := [(4, .int _), (3, .int _), (5, .int _), (2, .int _), (0, .ref _), (1, .int _)]) hX dX6_findsTwos_79 rfl (by first | exact nI_inc _ | rfl) (by decide) rfl ?_
        refine g_goto 41 hX dX6_findsTwos_82 (by decide) ?_
        refine g_pick [0, 1, 3, 4, 5] rfl ?_
        have := ih ((P + 1) ^ P - (k + 1)) (by omega) (k + 1) (va_up K (κ.2.1 m 16) (fb_put (K (κ.2.1 m 16)) (fun q => K (κ.2.1 m 15) (0 + q)) 0 6)) rfl (by omega) ((hf.tr hf2).row (Or.inr (Or.inr (Or.inr (Or.inr rfl)))) hMo.m16) (fun a b h1 h2 => by rw [up_ne _ _ (kd_ne k14 k16 (by decide)), e14]; exact hv a b h1 h2) (Or.inr (fun p hp => by rw [up_same, fb_put_in (Nat.zero_le _) (by omega), Nat.sub_zero, Nat.zero_add, twoF, if_pos (Int32_nle.mp c58)]; exact h15 p hp))
        rw [twoF, if_pos (Int32_nle.mp c58)] at this
        exact this

set_option maxHeartbeats 4000000 in
set_option maxRecDepth 100000 in
theorem sp_X6_findsTwos {Γ : Ga} {d : Nat} {κ : Kp} {I : Ip} {Q : Option Value → Kp → Ip → Prop} {m c P T : Nat} (hMo : MoK κ m) (hw : WfT (I (κ.2.1 m 0)) P T) (hs : WfS (I (κ.2.1 m 2)) P T) (hc : c < 1000) (hq : ∀ J : Ip, MFr κ m I J → (∀ a b, a < b → b < P → J (κ.2.1 m 14) (6 * a + b) = (wbF (I (κ.2.1 m 0)) (I (κ.2.1 m 2)) T c (I (κ.2.1 m 2) 9) (-4)) a b) → (∀ p, p < P → J (κ.2.1 m 16) p = nI (bwF (lkF (I (κ.2.1 m 0))) (wbF (I (κ.2.1 m 0)) (I (κ.2.1 m 2)) T c (I (κ.2.1 m 2) 9) (-4)) P p)) → Q (some (.int (twosM (lkF (I (κ.2.1 m 0))) (wbF (I (κ.2.1 m 0)) (I (κ.2.1 m 2)) T c (I (κ.2.1 m 2) 9) (-4)) P))) κ J) : Sp Γ (d + 7) mX6_findsTwos [.ref (m), .int (nI c)] κ I Q := by
  obtain ⟨hm, hm0, ⟨k0, n0⟩, ⟨k1, n1⟩, ⟨k2, n2⟩, ⟨k3, n3⟩, ⟨k4, n4⟩, ⟨k6, n6⟩, ⟨k8, n8⟩, ⟨k14, n14⟩, ⟨k15, n15⟩, ⟨k16, n16⟩, d01, d23, d614, d1516⟩ := id hMo
  obtain ⟨hw0, hw1, hP, hT, -⟩ := id hw
  intro X hM
  have hX := hM.std
  have hR := hM.room
  show GW _ mX6_findsTwos X 0 [(0, .ref (m)), (1, .int (nI c))] [] _ _ 0 0
  refine g_aload_n hX dX6_findsTwos_0 rfl rfl ?_
  refine g_iload_n hX dX6_findsTwos_1 rfl rfl ?_
  refine g_callV (md' := mX6_lays) (ci := 6) (As := [.int _]) hX hR dX6_findsTwos_2 clX6_218 okX6_lays rfl (by assumption) rfl rfl (Nat.le_of_ble_eq_true rfl) (Nat.le_of_ble_eq_true rfl) ⟨Nat.le_of_ble_eq_true rfl, Nat.le_of_ble_eq_true rfl⟩ ?_
  refine sp_X6_lays (P := P) (T := T) hMo hw hs hc (fun J hf hv => ?_)
  change GW _ _ _ 5 _ [] _ _ 0 0
  refine g_iconst (v := nI 1) hX dX6_findsTwos_5 (by decide) ?_
  refine g_istore_n (lv' := [(2, .int _), (0, .ref _), (1, .int _)]) hX dX6_findsTwos_6 rfl (by decide) rfl ?_
  refine g_iconst (v := nI 0) hX dX6_findsTwos_7 (by decide) ?_
  refine g_istore_n (lv' := [(3, .int _), (2, .int _), (0, .ref _), (1, .int _)]) hX dX6_findsTwos_8 rfl (by decide) rfl ?_
  refine g_pick [0, 1, 2, 3] rfl ?_
  have := lp_X6_findsTwos_9 (P := P) (T := T) (c := c) (X := X) (J := J) hM hMo hw hs hc hf ?_ P 0 (Nat.sub_zero P).symm (Nat.zero_le _)
  · rw [Nat.pow_zero] at this; exact this
  refine g_iconst (v := (-1)) hX dX6_findsTwos_36 (by decide) ?_
  refine g_istore_n (lv' := [(3, .int _), (2, .int _), (0, .ref _), (1, .int _)]) hX dX6_findsTwos_37 rfl (by decide) rfl ?_
  refine g_iconst (v := nI 0) hX dX6_findsTwos_38 (by decide) ?_
  refine g_istore (lv' := [(4, .int _), (3, .int _), (2, .int _), (0, .ref _), (1, .int _)]) hX dX6_findsTwos_39 (by decide) rfl ?_
  exact g_pick [0, 1, 2, 3, 4] rfl (lp_X6_findsTwos_41 hM hMo hw hs hc hq ((P + 1) ^ P) 0 J (Nat.sub_zero _).symm (Nat.zero_le _) hf hv (Or.inl rfl))

set_option maxHeartbeats 4000000 in
set_option maxRecDepth 100000 in
theorem sp_X6_twos {Γ : Ga} {d : Nat} {κ : Kp} {I : Ip} {Q : Option Value → Kp → Ip → Prop} {m P T : Nat} {n x : Int32} (hMo : MoK κ m) (hw : WfT (I (κ.2.1 m 0)) P T) (hs : WfS (I (κ.2.1 m 2)) P T) (hq : ∀ J : Ip, MFr κ m I J → Q (some (.int (twosA (I (κ.2.1 m 0)) (I (κ.2.1 m 2)) P T n x))) κ J) : Sp Γ (d + 8) mX6_twos [.ref (m), .int (n), .int (x)] κ I Q := by
  obtain ⟨hm, hm0, ⟨k0, n0⟩, ⟨k1, n1⟩, ⟨k2, n2⟩, ⟨k3, n3⟩, ⟨k4, n4⟩, ⟨k6, n6⟩, ⟨k8, n8⟩, ⟨k14, n14⟩, ⟨k15, n15⟩, ⟨k16, n16⟩, d01, d23, d614, d1516⟩ := id hMo
  obtain ⟨hw0, hw1, hP, hT, -⟩ := id hw
  intro X hM
  have hX := hM.std
  have hR := hM.room
  show GW _ mX6_twos X 0 [(0, .ref (m)), (1, .int (n)), (2, .int (x))] [] _ _ 0 0
  refine g_iload_n hX dX6_twos_0 rfl rfl ?_
  refine g_i2l hX dX6_twos_1 ?_
  refine g_lconst (v := 1) hX dX6_twos_2 (by decide) ?_
  refine g_ldc2 hX dX6_twos_3 kX6_181 ?_
  refine g_callS (md' := mX6_in) (As := [.long _, .long _, .long _]) hX hR dX6_twos_6 clX6_73 okX6_in rfl rfl (Nat.le_of_ble_eq_true rfl) (Nat.le_of_ble_eq_true rfl) ⟨Nat.le_of_ble_eq_true rfl, Nat.le_of_ble_eq_true rfl⟩ ?_
  refine sp_X6_inR 1 60 rfl rfl ?_
  change GW _ _ _ 9 _ [.int _] _ _ 0 0
  refine g_ifeq 25 hX dX6_twos_9 (by decide) (fun c9 => ?_) (fun c9 => ?_)
  · first | (rw [b2i_n0, decide_eq_true_eq] at c9) | (rw [b2i_0, decide_eq_false_iff_not] at c9)
    refine g_iconst (v := (-1)) hX dX6_twos_25 (by decide) ?_
    refine g_iret hM dX6_twos_26 rfl (rfl) ⟨Nat.le_of_ble_eq_true rfl, Nat.le_of_ble_eq_true rfl⟩ ?_
    refine q_int ?_ (hq I MFr.rf)
    rw [twosA, if_neg (fun e => c9 e.1)]
  · first | (rw [b2i_n0, decide_eq_true_eq] at c9) | (rw [b2i_0, decide_eq_false_iff_not] at c9)
    refine g_iload_n hX dX6_twos_12 rfl rfl ?_
    refine g_iconst (v := (-1)) hX dX6_twos_13 (by decide) ?_
    refine g_icmpeq 27 hX dX6_twos_14 (by decide) (fun c14 => ?_) (fun c14 => ?_)
    · refine g_aload_n hX dX6_twos_27 rfl rfl ?_
      refine g_iload_n hX dX6_twos_28 rfl rfl ?_
      refine g_callV (md' := mX6_findsTwos) (ci := 6) (As := [.int _]) hX hR dX6_twos_29 clX6_224 okX6_findsTwos rfl (by assumption) rfl rfl (Nat.le_of_ble_eq_true rfl) (Nat.le_of_ble_eq_true rfl) ⟨Nat.le_of_ble_eq_true rfl, Nat.le_of_ble_eq_true rfl⟩ ?_
      obtain ⟨j, hj1, hj2, rfl⟩ := inR_of c9
      refine sp_X6_findsTwos (P := P) (T := T) hMo hw hs (by omega) (fun J hf hv h16 => ?_)
      have ew := hf.w hMo
      have hbl : bwF (lkF (I (κ.2.1 m 0))) (wbF (I (κ.2.1 m 0)) (I (κ.2.1 m 2)) T j (I (κ.2.1 m 2) 9) (-4)) P 0 ≤ P := dig_le _ _ _
      change GW _ _ _ 32 _ [.int _] _ _ 0 0
      refine g_istore_n (lv' := [(3, .int _), (0, .ref _), (1, .int _), (2, .int _)]) hX dX6_twos_32 rfl (by decide) rfl ?_
      refine g_iload_n hX dX6_twos_33 rfl rfl ?_
      refine g_iconst (v := (-1)) hX dX6_twos_34 (by decide) ?_
      refine g_icmpne 40 hX dX6_twos_35 (by decide) (fun c35 => ?_) (fun c35 => ?_)
      · exact absurd c14 c35
      · refine g_iload_n hX dX6_twos_38 rfl rfl ?_
        refine g_iret hM dX6_twos_39 rfl (rfl) ⟨Nat.le_of_ble_eq_true rfl, Nat.le_of_ble_eq_true rfl⟩ ?_
        refine q_int ?_ (hq J hf)
        rw [twosA, if_pos ⟨c9, Or.inl c35⟩, if_pos c35, nI_clamp (by omega)]
    · refine g_aload_n hX dX6_twos_17 rfl rfl ?_
      refine g_iload_n hX dX6_twos_18 rfl rfl ?_
      refine g_callV (md' := mX6_isOne) (ci := 6) (As := [.int _]) hX hR dX6_twos_19 clX6_128 okX6_isOne rfl (by assumption) rfl rfl (Nat.le_of_ble_eq_true rfl) (Nat.le_of_ble_eq_true rfl) ⟨Nat.le_of_ble_eq_true rfl, Nat.le_of_ble_eq_true rfl⟩ ?_
      refine sp_X6_isOne hMo hw0 (by omega) ?_
      change GW _ _ _ 22 _ [.int _] _ _ 0 0
      refine g_ifne 27 hX dX6_twos_22 (by decide) (fun c22 => ?_) (fun c22 => ?_)
      · first | (rw [b2i_n0, decide_eq_true_eq] at c22) | (rw [b2i_0, decide_eq_false_iff_not] at c22)
        refine g_aload_n hX dX6_twos_27 rfl rfl ?_
        refine g_iload_n hX dX6_twos_28 rfl rfl ?_
        refine g_callV (md' := mX6_findsTwos) (ci := 6) (As := [.int _]) hX hR dX6_twos_29 clX6_224 okX6_findsTwos rfl (by assumption) rfl rfl (Nat.le_of_ble_eq_true rfl) (Nat.le_of_ble_eq_true rfl) ⟨Nat.le_of_ble_eq_true rfl, Nat.le_of_ble_eq_true rfl⟩ ?_
        obtain ⟨j, hj1, hj2, rfl⟩ := inR_of c9
        obtain ⟨y, hy, rfl⟩ := inN_of c22
        refine sp_X6_findsTwos (P := P) (T := T) hMo hw hs (by omega) (fun J hf hv h16 => ?_)
        have ew := hf.w hMo
        have hbl : bwF (lkF (I (κ.2.1 m 0))) (wbF (I (κ.2.1 m 0)) (I (κ.2.1 m 2)) T j (I (κ.2.1 m 2) 9) (-4)) P y ≤ P := dig_le _ _ _
        change GW _ _ _ 32 _ [.int _] _ _ 0 0
        refine g_istore_n (lv' := [(3, .int _), (0, .ref _), (1, .int _), (2, .int _)]) hX dX6_twos_32 rfl (by decide) rfl ?_
        refine g_iload_n hX dX6_twos_33 rfl rfl ?_
        refine g_iconst (v := (-1)) hX dX6_twos_34 (by decide) ?_
        refine g_icmpne 40 hX dX6_twos_35 (by decide) (fun c35 => ?_) (fun c35 => ?_)
        · refine g_aload_n hX dX6_twos_40 rfl rfl ?_
          refine g_getR hX dX6_twos_41 flX6_37 (by assumption) rfl (by first | assumption | rfl) (by assumption) ?_
          refine g_iload_n hX dX6_twos_44 rfl rfl ?_
          refine g_ialdN hX dX6_twos_45 (by assumption) (rfl) (by omega) (by first | decide | omega) ?_
          refine g_aload_n hX dX6_twos_46 rfl rfl ?_
          refine g_getR hX dX6_twos_47 flX6_7 (by assumption) rfl (by first | assumption | rfl) (by assumption) ?_
          refine g_iconst (v := nI 0) hX dX6_twos_50 (by decide) ?_
          refine g_ialdN hX dX6_twos_51 (by assumption) (rfl) (by omega) (by first | decide | omega) ?_
          refine g_icmpge 64 hX dX6_twos_52 (by decide) (fun c52 => ?_) (fun c52 => ?_)
          · rw [h16 y hy, ew, hw0, nI_leI (by omega) (by omega)] at c52
            refine g_bipush (v := (-4)) hX dX6_twos_64 (by decide) ?_
            refine g_iret hM dX6_twos_66 rfl (rfl) ⟨Nat.le_of_ble_eq_true rfl, Nat.le_of_ble_eq_true rfl⟩ ?_
            refine q_int ?_ (hq J hf)
            rw [twosA, if_pos ⟨c9, Or.inr (inN_nI hy (by omega))⟩, if_neg c35, nI_clamp (by omega), nI_clamp (by omega), if_neg (by omega)]
          · rw [h16 y hy, ew, hw0, nI_leI (by omega) (by omega)] at c52
            refine g_aload_n hX dX6_twos_55 rfl rfl ?_
            refine g_getR hX dX6_twos_56 flX6_37 (by assumption) rfl (by first | assumption | rfl) (by assumption) ?_
            refine g_iload_n hX dX6_twos_59 rfl rfl ?_
            refine g_ialdN hX dX6_twos_60 (by assumption) (rfl) (by omega) (by first | decide | omega) ?_
            refine g_goto 66 hX dX6_twos_61 (by decide) ?_
            refine g_iret hM dX6_twos_66 rfl (rfl) ⟨Nat.le_of_ble_eq_true rfl, Nat.le_of_ble_eq_true rfl⟩ ?_
            refine q_int ?_ (hq J hf)
            rw [twosA, if_pos ⟨c9, Or.inr (inN_nI hy (by omega))⟩, if_neg c35, nI_clamp (by omega), nI_clamp (by omega), if_pos (by omega), ← h16 y hy]
        · exact absurd c35 (nI_m1 (by omega))
      · first | (rw [b2i_n0, decide_eq_true_eq] at c22) | (rw [b2i_0, decide_eq_false_iff_not] at c22)
        refine g_iconst (v := (-1)) hX dX6_twos_25 (by decide) ?_
        refine g_iret hM dX6_twos_26 rfl (rfl) ⟨Nat.le_of_ble_eq_true rfl, Nat.le_of_ble_eq_true rfl⟩ ?_
        refine q_int ?_ (hq I MFr.rf)
        rw [twosA, if_neg (fun e => e.2.elim c14 c22)]

set_option maxHeartbeats 4000000 in
set_option maxRecDepth 100000 in
theorem sp_X6_hasBy {Γ : Ga} {d : Nat} {κ : Kp} {I : Ip} {Q : Option Value → Kp → Ip → Prop} {m x P : Nat} {V : Nat → Nat → Int32} {q : Nat → Nat} (hMo : MoK κ m) (h0 : I (κ.2.1 m 0) 0 = nI P) (hP : P ≤ 6) (hx : x < P) (hv : ∀ a b, a < b → b < P → I (κ.2.1 m 14) (6 * a + b) = V a b) (hq6 : I (κ.2.1 m 16) x = nI (q x)) (hqP : q x ≤ P) (hqx : q x < P → q x ≠ x) (hq : Q (some (.int (hasF V P q x))) κ I) : Sp Γ (d + 2) mX6_hasBy [.ref (m), .int (nI x)] κ I Q := by
  obtain ⟨hm, hm0, ⟨k0, n0⟩, ⟨k1, n1⟩, ⟨k2, n2⟩, ⟨k3, n3⟩, ⟨k4, n4⟩, ⟨k6, n6⟩, ⟨k8, n8⟩, ⟨k14, n14⟩, ⟨k15, n15⟩, ⟨k16, n16⟩, d01, d23, d614, d1516⟩ := id hMo
  intro X hM
  have hX := hM.std
  have hR := hM.room
  show GW _ mX6_hasBy X 0 [(0, .ref (m)), (1, .int (nI x))] [] _ _ 0 0
  refine g_aload_n hX dX6_hasBy_0 rfl rfl ?_
  refine g_getR hX dX6_hasBy_1 flX6_37 (by assumption) rfl (by first | assumption | rfl) (by assumption) ?_
  refine g_iload_n hX dX6_hasBy_4 rfl rfl ?_
  refine g_ialdN hX dX6_hasBy_5 (by assumption) (rfl) (by omega) (by first | decide | omega) ?_
  refine g_aload_n hX dX6_hasBy_6 rfl rfl ?_
  refine g_getR hX dX6_hasBy_7 flX6_7 (by assumption) rfl (by first | assumption | rfl) (by assumption) ?_
  refine g_iconst (v := nI 0) hX dX6_hasBy_10 (by decide) ?_
  refine g_ialdN hX dX6_hasBy_11 (by assumption) (rfl) (by omega) (by first | decide | omega) ?_
  refine g_icmpge 29 hX dX6_hasBy_12 (by decide) (fun c12 => ?_) (fun c12 => ?_)
  · rw [hq6, h0, nI_leI (by omega) (by omega)] at c12
    refine g_iconst (v := nI 0) hX dX6_hasBy_29 (by decide) ?_
    refine g_iret hM dX6_hasBy_30 rfl (rfl) ⟨Nat.le_of_ble_eq_true rfl, Nat.le_of_ble_eq_true rfl⟩ ?_
    refine q_int ?_ hq
    rw [hasF, if_neg (by omega)]
  · rw [hq6, h0, nI_leI (by omega) (by omega)] at c12
    refine g_aload_n hX dX6_hasBy_15 rfl rfl ?_
    refine g_iload_n hX dX6_hasBy_16 rfl rfl ?_
    refine g_aload_n hX dX6_hasBy_17 rfl rfl ?_
    refine g_getR hX dX6_hasBy_18 flX6_37 (by assumption) rfl (by first | assumption | rfl) (by assumption) ?_
    refine g_iload_n hX dX6_hasBy_21 rfl rfl ?_
    refine g_ialdN hX dX6_hasBy_22 (by assumption) (rfl) (by omega) (by first | decide | omega) ?_
    refine g_callV (md' := mX6_bringOf) (ci := 6) (As := [.int _, .int _]) hX hR dX6_hasBy_23 clX6_215 okX6_bringOf rfl (by assumption) rfl rfl (Nat.le_of_ble_eq_true rfl) (Nat.le_of_ble_eq_true rfl) ⟨Nat.le_of_ble_eq_true rfl, Nat.le_of_ble_eq_true rfl⟩ ?_
    rw [hq6]
    have hne := hqx (by omega)
    refine sp_X6_bringOf hMo (by omega) (by omega) (by omega) ?_
    rw [hv _ _ (by omega) (by omega)]
    change GW _ _ _ 26 _ [.int _] _ _ 0 0
    refine g_goto 30 hX dX6_hasBy_26 (by decide) ?_
    refine g_iret hM dX6_hasBy_30 rfl (rfl) ⟨Nat.le_of_ble_eq_true rfl, Nat.le_of_ble_eq_true rfl⟩ ?_
    refine q_int ?_ hq
    rw [hasF, if_pos (by omega)]

set_option maxHeartbeats 4000000 in
set_option maxRecDepth 100000 in
theorem lp_X6_leave_37 {Γ : Ga} {d : Nat} {κ : Kp} {Q : Option Value → Kp → Ip → Prop} {X : Cx} {I : Ip} {m c P T : Nat} {J : Ip} {x : Nat} {mo : Int32} (hM : Mx Γ (d + 8) mX6_leave Q X) (hMo : MoK κ m) (hw : WfT (I (κ.2.1 m 0)) P T) (hs : WfS (I (κ.2.1 m 2)) P T) (hc : c < 1000) (hf : MFr κ m I J) (hv : (∀ a b, a < b → b < P → J (κ.2.1 m 14) (6 * a + b) = (wbF (I (κ.2.1 m 0)) (I (κ.2.1 m 2)) T c (I (κ.2.1 m 2) 9) (-4)) a b)) (h16 : ∀ p, p < P → J (κ.2.1 m 16) p = nI (bwF (lkF (I (κ.2.1 m 0))) (wbF (I (κ.2.1 m 0)) (I (κ.2.1 m 2)) T c (I (κ.2.1 m 2) 9) (-4)) P p)) (hx : x < P) (hno : (upL P x).find? (lvB (lkF (I (κ.2.1 m 0))) (wbF (I (κ.2.1 m 0)) (I (κ.2.1 m 2)) T c (I (κ.2.1 m 2) 9) (-4)) P (bwF (lkF (I (κ.2.1 m 0))) (wbF (I (κ.2.1 m 0)) (I (κ.2.1 m 2)) T c (I (κ.2.1 m 2) 9) (-4)) P)) = none) (hq : ∀ v : Int32, (match (upL P P).find? (lvB (lkF (I (κ.2.1 m 0))) (wbF (I (κ.2.1 m 0)) (I (κ.2.1 m 2)) T c (I (κ.2.1 m 2) 9) (-4)) P (bwF (lkF (I (κ.2.1 m 0))) (wbF (I (κ.2.1 m 0)) (I (κ.2.1 m 2)) T c (I (κ.2.1 m 2) 9) (-4)) P)) with | some x => v = nI (10 * x.1 + x.2) | none => v = -4) → Q (some (.int v)) κ J) (hout : (upRow x (P - (x + 1))).find? (lvB (lkF (I (κ.2.1 m 0))) (wbF (I (κ.2.1 m 0)) (I (κ.2.1 m 2)) T c (I (κ.2.1 m 2) 9) (-4)) P (bwF (lkF (I (κ.2.1 m 0))) (wbF (I (κ.2.1 m 0)) (I (κ.2.1 m 2)) T c (I (κ.2.1 m 2) 9) (-4)) P)) = none → GW Γ mX6_leave X 114 [(4, .int (nI (x + 1 + (P - (x + 1))))), (3, .int (nI x)), (2, .int mo), (0, .ref m), (1, .int (nI c))] [] κ J 0 0) : ∀ (n : Nat) (y : Nat), n = P - (x + 1) - y → y ≤ P - (x + 1) → (upRow x y).find? (lvB (lkF (I (κ.2.1 m 0))) (wbF (I (κ.2.1 m 0)) (I (κ.2.1 m 2)) T c (I (κ.2.1 m 2) 9) (-4)) P (bwF (lkF (I (κ.2.1 m 0))) (wbF (I (κ.2.1 m 0)) (I (κ.2.1 m 2)) T c (I (κ.2.1 m 2) 9) (-4)) P)) = none → GW Γ mX6_leave X 37 [(4, .int (nI (x + 1 + y))), (3, .int (nI x)), (2, .int (mo)), (0, .ref (m)), (1, .int (nI c))] [] κ (J) 0 0 := by
  have hX := hM.std
  have hR := hM.room
  intro n
  induction n using Nat.strongRecOn with
  | ind n ih =>
    intro y hn hy hr
    obtain ⟨hm, hm0, ⟨k0, n0⟩, ⟨k1, n1⟩, ⟨k2, n2⟩, ⟨k3, n3⟩, ⟨k4, n4⟩, ⟨k6, n6⟩, ⟨k8, n8⟩, ⟨k14, n14⟩, ⟨k15, n15⟩, ⟨k16, n16⟩, d01, d23, d614, d1516⟩ := id hMo
    obtain ⟨hw0, hw1, hP, hT, -⟩ := id hw
    have ew := hf.w hMo
    have ha : bwF (lkF (I (κ.2.1 m 0))) (wbF (I (κ.2.1 m 0)) (I (κ.2.1 m 2)) T c (I (κ.2.1 m 2) 9) (-4)) P x ≤ P := dig_le _ _ _
    have hb : bwF (lkF (I (κ.2.1 m 0))) (wbF (I (κ.2.1 m 0)) (I (κ.2.1 m 2)) T c (I (κ.2.1 m 2) 9) (-4)) P (x + 1 + y) ≤ P := dig_le _ _ _
    have hh : ∀ p, p < P → bwF (lkF (I (κ.2.1 m 0))) (wbF (I (κ.2.1 m 0)) (I (κ.2.1 m 2)) T c (I (κ.2.1 m 2) 9) (-4)) P p < P → bwF (lkF (I (κ.2.1 m 0))) (wbF (I (κ.2.1 m 0)) (I (κ.2.1 m 2)) T c (I (κ.2.1 m 2) 9) (-4)) P p ≠ p := fun p hp h => (two_vld (by omega) hp h).1
    have hfd : y < P - (x + 1) → (lvB (lkF (I (κ.2.1 m 0))) (wbF (I (κ.2.1 m 0)) (I (κ.2.1 m 2)) T c (I (κ.2.1 m 2) 9) (-4)) P (bwF (lkF (I (κ.2.1 m 0))) (wbF (I (κ.2.1 m 0)) (I (κ.2.1 m 2)) T c (I (κ.2.1 m 2) 9) (-4)) P)) (x, x + 1 + y) = true → (upL P P).find? (lvB (lkF (I (κ.2.1 m 0))) (wbF (I (κ.2.1 m 0)) (I (κ.2.1 m 2)) T c (I (κ.2.1 m 2) 9) (-4)) P (bwF (lkF (I (κ.2.1 m 0))) (wbF (I (κ.2.1 m 0)) (I (κ.2.1 m 2)) T c (I (κ.2.1 m 2) 9) (-4)) P)) = some (x, x + 1 + y) := fun h1 h2 => up_find hx hno h1 hr h2
    refine g_iload hX dX6_leave_37 rfl ?_
    refine g_aload_n hX dX6_leave_39 rfl rfl ?_
    refine g_getR hX dX6_leave_40 flX6_7 (by assumption) rfl (by first | assumption | rfl) (by assumption) ?_
    refine g_iconst (v := nI 0) hX dX6_leave_43 (by decide) ?_
    refine g_ialdN hX dX6_leave_44 (by assumption) (rfl) (by omega) (by first | decide | omega) ?_
    refine g_icmpge 114 hX dX6_leave_45 (by decide) (fun c45 => ?_) (fun c45 => ?_)
    · rw [ew, hw0, nI_leI (by omega) (by omega)] at c45
      have e : y = P - (x + 1) := by omega
      subst e
      exact g_pick [0, 1, 2, 3, 4] rfl (hout hr)
    · rw [ew, hw0, nI_leI (by omega) (by omega)] at c45
      refine g_aload_n hX dX6_leave_48 rfl rfl ?_
      refine g_iload_n hX dX6_leave_49 rfl rfl ?_
      refine g_iload hX dX6_leave_50 rfl ?_
      refine g_callV (md' := mX6_likes) (ci := 6) (As := [.int _, .int _]) hX hR dX6_leave_52 clX6_168 okX6_likes rfl (by assumption) rfl rfl (Nat.le_of_ble_eq_true rfl) (Nat.le_of_ble_eq_true rfl) ⟨Nat.le_of_ble_eq_true rfl, Nat.le_of_ble_eq_true rfl⟩ ?_
      refine sp_X6_likes hMo (by omega) (by omega) ?_
      rw [ew]
      change GW _ _ _ 55 _ [.int _] _ _ 0 0
      refine g_ifeq 108 hX dX6_leave_55 (by decide) (fun c55 => ?_) (fun c55 => ?_)
      · first | (rw [b2i_n0] at c55) | (rw [b2i_0] at c55)
        refine g_iinc (lv' := [(4, .int _), (3, .int _), (2, .int _), (0, .ref _), (1, .int _)]) hX dX6_leave_108 rfl (by first | exact nI_inc _ | rfl) (by decide) rfl ?_
        refine g_goto 37 hX dX6_leave_111 (by decide) ?_
        refine g_pick [0, 1, 2, 3, 4] rfl ?_
        refine ih (P - (x + 1) - (y + 1)) (by omega) (y + 1) rfl (by omega) ?_
        have hfl : (lvB (lkF (I (κ.2.1 m 0))) (wbF (I (κ.2.1 m 0)) (I (κ.2.1 m 2)) T c (I (κ.2.1 m 2) 9) (-4)) P (bwF (lkF (I (κ.2.1 m 0))) (wbF (I (κ.2.1 m 0)) (I (κ.2.1 m 2)) T c (I (κ.2.1 m 2) 9) (-4)) P)) (x, x + 1 + y) = false := by simp [lvB, lkF, c55]
        rw [upRow, List.find?_append, hr]
        simp only [Option.none_or, List.find?_cons, List.find?_nil, hfl]
      · first | (rw [b2i_n0] at c55) | (rw [b2i_0] at c55)
        refine g_aload_n hX dX6_leave_58 rfl rfl ?_
        refine g_getR hX dX6_leave_59 flX6_37 (by assumption) rfl (by first | assumption | rfl) (by assumption) ?_
        refine g_iload_n hX dX6_leave_62 rfl rfl ?_
        refine g_ialdN hX dX6_leave_63 (by assumption) (rfl) (by omega) (by first | decide | omega) ?_
        refine g_iload hX dX6_leave_64 rfl ?_
        refine g_icmpeq 108 hX dX6_leave_66 (by decide) (fun c66 => ?_) (fun c66 => ?_)
        · rw [h16 x hx, nI_eq (by omega) (by omega)] at c66
          refine g_iinc (lv' := [(4, .int _), (3, .int _), (2, .int _), (0, .ref _), (1, .int _)]) hX dX6_leave_108 rfl (by first | exact nI_inc _ | rfl) (by decide) rfl ?_
          refine g_goto 37 hX dX6_leave_111 (by decide) ?_
          refine g_pick [0, 1, 2, 3, 4] rfl ?_
          refine ih (P - (x + 1) - (y + 1)) (by omega) (y + 1) rfl (by omega) ?_
          have hfl : (lvB (lkF (I (κ.2.1 m 0))) (wbF (I (κ.2.1 m 0)) (I (κ.2.1 m 2)) T c (I (κ.2.1 m 2) 9) (-4)) P (bwF (lkF (I (κ.2.1 m 0))) (wbF (I (κ.2.1 m 0)) (I (κ.2.1 m 2)) T c (I (κ.2.1 m 2) 9) (-4)) P)) (x, x + 1 + y) = false := by simp [lvB, c66]
          rw [upRow, List.find?_append, hr]
          simp only [Option.none_or, List.find?_cons, List.find?_nil, hfl]
        · rw [h16 x hx, nI_eq (by omega) (by omega)] at c66
          refine g_aload_n hX dX6_leave_69 rfl rfl ?_
          refine g_iload_n hX dX6_leave_70 rfl rfl ?_
          refine g_iload hX dX6_leave_71 rfl ?_
          refine g_callV (md' := mX6_bringOf) (ci := 6) (As := [.int _, .int _]) hX hR dX6_leave_73 clX6_215 okX6_bringOf rfl (by assumption) rfl rfl (Nat.le_of_ble_eq_true rfl) (Nat.le_of_ble_eq_true rfl) ⟨Nat.le_of_ble_eq_true rfl, Nat.le_of_ble_eq_true rfl⟩ ?_
          refine sp_X6_bringOf hMo (by omega) (by omega) (by omega) ?_
          rw [show 6 * min x (x + 1 + y) + max x (x + 1 + y) = 6 * x + (x + 1 + y) by omega, hv _ _ (by omega) (by omega)]
          change GW _ _ _ 76 _ [.int _] _ _ 0 0
          refine g_aload_n hX dX6_leave_76 rfl rfl ?_
          refine g_iload_n hX dX6_leave_77 rfl rfl ?_
          refine g_callV (md' := mX6_hasBy) (ci := 6) (As := [.int _]) hX hR dX6_leave_78 clX6_227 okX6_hasBy rfl (by assumption) rfl rfl (Nat.le_of_ble_eq_true rfl) (Nat.le_of_ble_eq_true rfl) ⟨Nat.le_of_ble_eq_true rfl, Nat.le_of_ble_eq_true rfl⟩ ?_
          refine sp_X6_hasBy (P := P) (q := bwF (lkF (I (κ.2.1 m 0))) (wbF (I (κ.2.1 m 0)) (I (κ.2.1 m 2)) T c (I (κ.2.1 m 2) 9) (-4)) P) hMo (by rw [ew]; exact hw0) hP hx hv (h16 x hx) ha (hh x hx) ?_
          change GW _ _ _ 81 _ [.int _, .int _] _ _ 0 0
          refine g_icmple 108 hX dX6_leave_81 (by decide) (fun c81 => ?_) (fun c81 => ?_)
          · refine g_iinc (lv' := [(4, .int _), (3, .int _), (2, .int _), (0, .ref _), (1, .int _)]) hX dX6_leave_108 rfl (by first | exact nI_inc _ | rfl) (by decide) rfl ?_
            refine g_goto 37 hX dX6_leave_111 (by decide) ?_
            refine g_pick [0, 1, 2, 3, 4] rfl ?_
            refine ih (P - (x + 1) - (y + 1)) (by omega) (y + 1) rfl (by omega) ?_
            have hfl : (lvB (lkF (I (κ.2.1 m 0))) (wbF (I (κ.2.1 m 0)) (I (κ.2.1 m 2)) T c (I (κ.2.1 m 2) 9) (-4)) P (bwF (lkF (I (κ.2.1 m 0))) (wbF (I (κ.2.1 m 0)) (I (κ.2.1 m 2)) T c (I (κ.2.1 m 2) 9) (-4)) P)) (x, x + 1 + y) = false := by exact lvB_a c81
            rw [upRow, List.find?_append, hr]
            simp only [Option.none_or, List.find?_cons, List.find?_nil, hfl]
          · refine g_aload_n hX dX6_leave_84 rfl rfl ?_
            refine g_iload_n hX dX6_leave_85 rfl rfl ?_
            refine g_iload hX dX6_leave_86 rfl ?_
            refine g_callV (md' := mX6_bringOf) (ci := 6) (As := [.int _, .int _]) hX hR dX6_leave_88 clX6_215 okX6_bringOf rfl (by assumption) rfl rfl (Nat.le_of_ble_eq_true rfl) (Nat.le_of_ble_eq_true rfl) ⟨Nat.le_of_ble_eq_true rfl, Nat.le_of_ble_eq_true rfl⟩ ?_
            refine sp_X6_bringOf hMo (by omega) (by omega) (by omega) ?_
            rw [show 6 * min x (x + 1 + y) + max x (x + 1 + y) = 6 * x + (x + 1 + y) by omega, hv _ _ (by omega) (by omega)]
            change GW _ _ _ 91 _ [.int _] _ _ 0 0
            refine g_aload_n hX dX6_leave_91 rfl rfl ?_
            refine g_iload hX dX6_leave_92 rfl ?_
            refine g_callV (md' := mX6_hasBy) (ci := 6) (As := [.int _]) hX hR dX6_leave_94 clX6_227 okX6_hasBy rfl (by assumption) rfl rfl (Nat.le_of_ble_eq_true rfl) (Nat.le_of_ble_eq_true rfl) ⟨Nat.le_of_ble_eq_true rfl, Nat.le_of_ble_eq_true rfl⟩ ?_
            refine sp_X6_hasBy (P := P) (q := bwF (lkF (I (κ.2.1 m 0))) (wbF (I (κ.2.1 m 0)) (I (κ.2.1 m 2)) T c (I (κ.2.1 m 2) 9) (-4)) P) hMo (by rw [ew]; exact hw0) hP (by omega) hv (h16 (x + 1 + y) (by omega)) hb (hh (x + 1 + y) (by omega)) ?_
            change GW _ _ _ 97 _ [.int _, .int _] _ _ 0 0
            refine g_icmple 108 hX dX6_leave_97 (by decide) (fun c97 => ?_) (fun c97 => ?_)
            · refine g_iinc (lv' := [(4, .int _), (3, .int _), (2, .int _), (0, .ref _), (1, .int _)]) hX dX6_leave_108 rfl (by first | exact nI_inc _ | rfl) (by decide) rfl ?_
              refine g_goto 37 hX dX6_leave_111 (by decide) ?_
              refine g_pick [0, 1, 2, 3, 4] rfl ?_
              refine ih (P - (x + 1) - (y + 1)) (by omega) (y + 1) rfl (by omega) ?_
              have hfl : (lvB (lkF (I (κ.2.1 m 0))) (wbF (I (κ.2.1 m 0)) (I (κ.2.1 m 2)) T c (I (κ.2.1 m 2) 9) (-4)) P (bwF (lkF (I (κ.2.1 m 0))) (wbF (I (κ.2.1 m 0)) (I (κ.2.1 m 2)) T c (I (κ.2.1 m 2) 9) (-4)) P)) (x, x + 1 + y) = false := by exact lvB_b c97
              rw [upRow, List.find?_append, hr]
              simp only [Option.none_or, List.find?_cons, List.find?_nil, hfl]
            · refine g_bipush (v := nI 10) hX dX6_leave_100 (by decide) ?_
              refine g_iload_n hX dX6_leave_102 rfl rfl ?_
              refine g_imul hX dX6_leave_103 ?_
              refine g_iload hX dX6_leave_104 rfl ?_
              refine g_iadd hX dX6_leave_106 ?_
              refine g_iret hM dX6_leave_107 rfl (rfl) ⟨Nat.le_of_ble_eq_true rfl, Nat.le_of_ble_eq_true rfl⟩ ?_
              refine hq _ ?_
              rw [hfd (by omega) (by simp only [lvB, Bool.and_eq_true, decide_eq_true_eq]; exact ⟨c55, c66, Int32_nle.mp c81, Int32_nle.mp c97⟩), nI_mul, nI_add]

set_option maxHeartbeats 4000000 in
set_option maxRecDepth 100000 in
theorem lp_X6_leave_22 {Γ : Ga} {d : Nat} {κ : Kp} {Q : Option Value → Kp → Ip → Prop} {X : Cx} {I : Ip} {m c P T : Nat} {J : Ip} {mo : Int32} (hM : Mx Γ (d + 8) mX6_leave Q X) (hMo : MoK κ m) (hw : WfT (I (κ.2.1 m 0)) P T) (hs : WfS (I (κ.2.1 m 2)) P T) (hc : c < 1000) (hf : MFr κ m I J) (hv : (∀ a b, a < b → b < P → J (κ.2.1 m 14) (6 * a + b) = (wbF (I (κ.2.1 m 0)) (I (κ.2.1 m 2)) T c (I (κ.2.1 m 2) 9) (-4)) a b)) (h16 : ∀ p, p < P → J (κ.2.1 m 16) p = nI (bwF (lkF (I (κ.2.1 m 0))) (wbF (I (κ.2.1 m 0)) (I (κ.2.1 m 2)) T c (I (κ.2.1 m 2) 9) (-4)) P p)) (hq : ∀ v : Int32, (match (upL P P).find? (lvB (lkF (I (κ.2.1 m 0))) (wbF (I (κ.2.1 m 0)) (I (κ.2.1 m 2)) T c (I (κ.2.1 m 2) 9) (-4)) P (bwF (lkF (I (κ.2.1 m 0))) (wbF (I (κ.2.1 m 0)) (I (κ.2.1 m 2)) T c (I (κ.2.1 m 2) 9) (-4)) P)) with | some x => v = nI (10 * x.1 + x.2) | none => v = -4) → Q (some (.int v)) κ J) : ∀ (n : Nat) (x : Nat), n = P - x → x ≤ P → (upL P x).find? (lvB (lkF (I (κ.2.1 m 0))) (wbF (I (κ.2.1 m 0)) (I (κ.2.1 m 2)) T c (I (κ.2.1 m 2) 9) (-4)) P (bwF (lkF (I (κ.2.1 m 0))) (wbF (I (κ.2.1 m 0)) (I (κ.2.1 m 2)) T c (I (κ.2.1 m 2) 9) (-4)) P)) = none → GW Γ mX6_leave X 22 [(3, .int (nI x)), (2, .int (mo)), (0, .ref (m)), (1, .int (nI c))] [] κ (J) 0 0 := by
  have hX := hM.std
  have hR := hM.room
  intro n
  induction n using Nat.strongRecOn with
  | ind n ih =>
    intro x hn hx hno
    obtain ⟨hm, hm0, ⟨k0, n0⟩, ⟨k1, n1⟩, ⟨k2, n2⟩, ⟨k3, n3⟩, ⟨k4, n4⟩, ⟨k6, n6⟩, ⟨k8, n8⟩, ⟨k14, n14⟩, ⟨k15, n15⟩, ⟨k16, n16⟩, d01, d23, d614, d1516⟩ := id hMo
    obtain ⟨hw0, hw1, hP, hT, -⟩ := id hw
    have ew := hf.w hMo
    refine g_iload_n hX dX6_leave_22 rfl rfl ?_
    refine g_aload_n hX dX6_leave_23 rfl rfl ?_
    refine g_getR hX dX6_leave_24 flX6_7 (by assumption) rfl (by first | assumption | rfl) (by assumption) ?_
    refine g_iconst (v := nI 0) hX dX6_leave_27 (by decide) ?_
    refine g_ialdN hX dX6_leave_28 (by assumption) (rfl) (by omega) (by first | decide | omega) ?_
    refine g_icmpge 120 hX dX6_leave_29 (by decide) (fun c29 => ?_) (fun c29 => ?_)
    · rw [ew, hw0, nI_leI (by omega) (by omega)] at c29
      refine g_bipush (v := (-4)) hX dX6_leave_120 (by decide) ?_
      refine g_iret hM dX6_leave_122 rfl (rfl) ⟨Nat.le_of_ble_eq_true rfl, Nat.le_of_ble_eq_true rfl⟩ ?_
      have e : x = P := by omega
      subst e
      refine hq _ ?_
      rw [hno]
    · rw [ew, hw0, nI_leI (by omega) (by omega)] at c29
      refine g_iload_n hX dX6_leave_32 rfl rfl ?_
      refine g_iconst (v := nI 1) hX dX6_leave_33 (by decide) ?_
      refine g_iadd hX dX6_leave_34 ?_
      refine g_istore (lv' := [(4, .int _), (3, .int _), (2, .int _), (0, .ref _), (1, .int _)]) hX dX6_leave_35 (by decide) rfl ?_
      refine g_pick [0, 1, 2, 3, 4] rfl ?_
      rw [nI_add]
      refine lp_X6_leave_37 (x := x) hM hMo hw hs hc hf hv h16 (by omega) hno hq (fun hr' => ?_) (P - (x + 1)) 0 (Nat.sub_zero _).symm (Nat.zero_le _) rfl
      refine g_iinc (lv' := [(3, .int _), (4, .int _), (2, .int _), (0, .ref _), (1, .int _)]) hX dX6_leave_114 rfl (by first | exact nI_inc _ | rfl) (by decide) rfl ?_
      refine g_goto 22 hX dX6_leave_117 (by decide) ?_
      exact g_pick [0, 2, 3, 4] rfl (ih (P - (x + 1)) (by omega) (x + 1) rfl (by omega) (by rw [upL, List.find?_append, hno, hr']; rfl))

set_option maxHeartbeats 4000000 in
set_option maxRecDepth 100000 in
theorem sp_X6_leave {Γ : Ga} {d : Nat} {κ : Kp} {I : Ip} {Q : Option Value → Kp → Ip → Prop} {m P T : Nat} {n : Int32} (hMo : MoK κ m) (hw : WfT (I (κ.2.1 m 0)) P T) (hs : WfS (I (κ.2.1 m 2)) P T) (hq : ∀ J : Ip, MFr κ m I J → Q (some (.int (leaveA (I (κ.2.1 m 0)) (I (κ.2.1 m 2)) P T n))) κ J) : Sp Γ (d + 8) mX6_leave [.ref (m), .int (n)] κ I Q := by
  obtain ⟨hm, hm0, ⟨k0, n0⟩, ⟨k1, n1⟩, ⟨k2, n2⟩, ⟨k3, n3⟩, ⟨k4, n4⟩, ⟨k6, n6⟩, ⟨k8, n8⟩, ⟨k14, n14⟩, ⟨k15, n15⟩, ⟨k16, n16⟩, d01, d23, d614, d1516⟩ := id hMo
  obtain ⟨hw0, hw1, hP, hT, -⟩ := id hw
  intro X hM
  have hX := hM.std
  have hR := hM.room
  show GW _ mX6_leave X 0 [(0, .ref (m)), (1, .int (n))] [] _ _ 0 0
  refine g_iload_n hX dX6_leave_0 rfl rfl ?_
  refine g_i2l hX dX6_leave_1 ?_
  refine g_lconst (v := 1) hX dX6_leave_2 (by decide) ?_
  refine g_ldc2 hX dX6_leave_3 kX6_181 ?_
  refine g_callS (md' := mX6_in) (As := [.long _, .long _, .long _]) hX hR dX6_leave_6 clX6_73 okX6_in rfl rfl (Nat.le_of_ble_eq_true rfl) (Nat.le_of_ble_eq_true rfl) ⟨Nat.le_of_ble_eq_true rfl, Nat.le_of_ble_eq_true rfl⟩ ?_
  refine sp_X6_inR 1 60 rfl rfl ?_
  change GW _ _ _ 9 _ [.int _] _ _ 0 0
  refine g_ifne 14 hX dX6_leave_9 (by decide) (fun c9 => ?_) (fun c9 => ?_)
  · first | (rw [b2i_n0, decide_eq_true_eq] at c9) | (rw [b2i_0, decide_eq_false_iff_not] at c9)
    refine g_aload_n hX dX6_leave_14 rfl rfl ?_
    refine g_iload_n hX dX6_leave_15 rfl rfl ?_
    refine g_callV (md' := mX6_findsTwos) (ci := 6) (As := [.int _]) hX hR dX6_leave_16 clX6_224 okX6_findsTwos rfl (by assumption) rfl rfl (Nat.le_of_ble_eq_true rfl) (Nat.le_of_ble_eq_true rfl) ⟨Nat.le_of_ble_eq_true rfl, Nat.le_of_ble_eq_true rfl⟩ ?_
    obtain ⟨j, hj1, hj2, rfl⟩ := inR_of c9
    refine sp_X6_findsTwos (P := P) (T := T) hMo hw hs (by omega) (fun J hf hv h16 => ?_)
    change GW _ _ _ 19 _ [.int _] _ _ 0 0
    refine g_istore_n (lv' := [(2, .int _), (0, .ref _), (1, .int _)]) hX dX6_leave_19 rfl (by decide) rfl ?_
    refine g_iconst (v := nI 0) hX dX6_leave_20 (by decide) ?_
    refine g_istore_n (lv' := [(3, .int _), (2, .int _), (0, .ref _), (1, .int _)]) hX dX6_leave_21 rfl (by decide) rfl ?_
    refine g_pick [0, 1, 2, 3] rfl (lp_X6_leave_22 hM hMo hw hs (by omega) hf hv h16 (fun v hvv => ?_) P 0 (Nat.sub_zero P).symm (Nat.zero_le _) rfl)
    refine q_int ?_ (hq J hf)
    rw [leaveA, if_pos c9, nI_clamp (by omega)]
    split at hvv
    · next e => rw [e]; exact hvv.symm
    · next e => rw [e]; exact hvv.symm
  · first | (rw [b2i_n0, decide_eq_true_eq] at c9) | (rw [b2i_0, decide_eq_false_iff_not] at c9)
    refine g_iconst (v := (-1)) hX dX6_leave_12 (by decide) ?_
    refine g_iret hM dX6_leave_13 rfl (rfl) ⟨Nat.le_of_ble_eq_true rfl, Nat.le_of_ble_eq_true rfl⟩ ?_
    refine q_int ?_ (hq I MFr.rf)
    rw [leaveA, if_neg c9]
