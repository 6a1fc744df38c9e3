set_option maxHeartbeats 4000000 in
set_option maxRecDepth 100000 in
theorem sp_X6_sit {Γ : Ga} {d : Nat} {κ : Kp} {I : Ip} {Q : Option Value → Kp → Ip → Prop} {m P T : Nat} {w s : Nat → Int32} {past kept : List (Nat → Int32)} {tx : Nat → Int32} {sz : Nat} {x y : Int32} (hMR : MR κ m I P T w s past kept tx sz)  (hq : ∀ J : Ip, MR κ m J P T w (sitA w s P T past x y).2.1 (sitA w s P T past x y).2.2 kept tx sz → MOut κ m I J → Q (some (.int (sitA w s P T past x y).1)) κ J) : Sp Γ (d + 4) mX6_sit [.ref (m), .int (x), .int (y)] κ I Q := by
  obtain ⟨hMo, rfl, rfl, hw, hP1, hs, hpl, hp5, hpB, hkl, hk7, hkB, hsz, hs9, htx, hlt⟩ := id hMR
  obtain ⟨hm, hm0, ⟨k0, n0⟩, ⟨k1, n1⟩, ⟨k2, n2⟩, ⟨k3, n3⟩, ⟨k4, n4⟩, ⟨k6, n6⟩, ⟨k8, n8⟩, ⟨k14, n14⟩, ⟨k15, n15⟩, ⟨k16, n16⟩, d01, d23, d614, d1516⟩ := id hMo
  obtain ⟨hw0, hw1, hP, hT, -⟩ := id hw
  have h02 : κ.2.1 m 0 ≠ κ.2.1 m 2 := kd_ne k0 k2 (by decide)
  intro X hM
  have hX := hM.std
  have hR := hM.room
  show GW _ mX6_sit X 0 [(0, .ref (m)), (1, .int (x)), (2, .int (y))] [] _ _ 0 0
  refine g_aload_n hX dX6_sit_0 rfl rfl ?_
  refine g_iload_n hX dX6_sit_1 rfl rfl ?_
  refine g_iload_n hX dX6_sit_2 rfl rfl ?_
  refine g_callV (md' := mX6_areTwo) (ci := 6) (As := [.int _, .int _]) hX hR dX6_sit_3 clX6_165 okX6_areTwo rfl (by assumption) rfl rfl (Nat.le_of_ble_eq_true rfl) (Nat.le_of_ble_eq_true rfl) ⟨Nat.le_of_ble_eq_true rfl, Nat.le_of_ble_eq_true rfl⟩ ?_
  refine sp_X6_areTwo hMo hw0 (by omega) ?_
  change GW _ _ _ 6 _ [.int _] _ _ 0 0
  refine g_ifne 11 hX dX6_sit_6 (by decide) (fun c6 => ?_) (fun c6 => ?_)
  · first | (rw [b2i_n0, decide_eq_true_eq] at c6) | (rw [b2i_0, decide_eq_false_iff_not] at c6)
    refine g_aload_n hX dX6_sit_11 rfl rfl ?_
    refine g_getR hX dX6_sit_12 flX6_16 (by assumption) rfl (by first | assumption | rfl) (by assumption) ?_
    refine g_bipush (v := nI 10) hX dX6_sit_15 (by decide) ?_
    refine g_ialdN hX dX6_sit_17 (by assumption) (rfl) (by omega) (by first | decide | omega) ?_
    refine g_bipush (v := (-4)) hX dX6_sit_18 (by decide) ?_
    refine g_icmpne 32 hX dX6_sit_20 (by decide) (fun c20 => ?_) (fun c20 => ?_)
    · refine g_bipush (v := (-2)) hX dX6_sit_32 (by decide) ?_
      refine g_iret hM dX6_sit_34 rfl (rfl) ⟨Nat.le_of_ble_eq_true rfl, Nat.le_of_ble_eq_true rfl⟩ ?_
      have e : sitA (I (κ.2.1 m 0)) (I (κ.2.1 m 2)) P T past x y = (-2, I (κ.2.1 m 2), past) := by unfold sitA; exact (if_pos c6).trans (if_neg (fun e => c20 e.1))
      rw [e] at hq
      exact hq I hMR MOut.rf
    · refine g_aload_n hX dX6_sit_23 rfl rfl ?_
      refine g_iload_n hX dX6_sit_24 rfl rfl ?_
      refine g_iload_n hX dX6_sit_25 rfl rfl ?_
      refine g_callV (md' := mX6_likes) (ci := 6) (As := [.int _, .int _]) hX hR dX6_sit_26 clX6_168 okX6_likes rfl (by assumption) rfl rfl (Nat.le_of_ble_eq_true rfl) (Nat.le_of_ble_eq_true rfl) ⟨Nat.le_of_ble_eq_true rfl, Nat.le_of_ble_eq_true rfl⟩ ?_
      obtain ⟨i1, hi1, rfl⟩ := inN_of c6.1
      obtain ⟨i2, hi2, rfl⟩ := inN_of c6.2.1
      have hne : i1 ≠ i2 := fun e => c6.2.2 (by rw [e])
      refine sp_X6_likes hMo (by omega) (by omega) ?_
      change GW _ _ _ 29 _ [.int _] _ _ 0 0
      refine g_ifne 35 hX dX6_sit_29 (by decide) (fun c29 => ?_) (fun c29 => ?_)
      · first | (rw [b2i_n0] at c29) | (rw [b2i_0] at c29)
        refine g_aload_n hX dX6_sit_35 rfl rfl ?_
        refine g_callV (md' := mX6_remember) (ci := 6) (As := []) hX hR dX6_sit_36 clX6_171 okX6_remember rfl (by assumption) rfl rfl (Nat.le_of_ble_eq_true rfl) (Nat.le_of_ble_eq_true rfl) ⟨Nat.le_of_ble_eq_true rfl, Nat.le_of_ble_eq_true rfl⟩ ?_
        refine sp_X6_remember hMR (fun J hJ ho => ?_)
        obtain ⟨-, ew, es, -⟩ := id hJ
        change GW _ _ _ 39 _ [] _ _ 0 0
        refine g_aload_n hX dX6_sit_39 rfl rfl ?_
        refine g_aload_n hX dX6_sit_40 rfl rfl ?_
        refine g_getR hX dX6_sit_41 flX6_16 (by assumption) rfl (by first | assumption | rfl) (by assumption) ?_
        refine g_iload_n hX dX6_sit_44 rfl rfl ?_
        refine g_iload_n hX dX6_sit_45 rfl rfl ?_
        refine g_callV (md' := mX6_sitsDown) (ci := 6) (As := [.ref _, .int _, .int _]) hX hR dX6_sit_46 clX6_174 okX6_sitsDown rfl (by assumption) rfl rfl (Nat.le_of_ble_eq_true rfl) (Nat.le_of_ble_eq_true rfl) ⟨Nat.le_of_ble_eq_true rfl, Nat.le_of_ble_eq_true rfl⟩ ?_
        refine sp_X6_sitsDown hMo k2 ?_
        rw [es]
        change GW _ _ _ 49 _ [] _ _ 0 0
        refine g_aload_n hX dX6_sit_49 rfl rfl ?_
        refine g_aload_n hX dX6_sit_50 rfl rfl ?_
        refine g_getR hX dX6_sit_51 flX6_16 (by assumption) rfl (by first | assumption | rfl) (by assumption) ?_
        refine g_iload_n hX dX6_sit_54 rfl rfl ?_
        refine g_iload_n hX dX6_sit_55 rfl rfl ?_
        refine g_iconst (v := nI 0) hX dX6_sit_56 (by decide) ?_
        refine g_callV (md' := mX6_tellable) (ci := 6) (As := [.ref _, .int _, .int _, .int _]) hX hR dX6_sit_57 clX6_150 okX6_tellable rfl (by assumption) rfl rfl (Nat.le_of_ble_eq_true rfl) (Nat.le_of_ble_eq_true rfl) ⟨Nat.le_of_ble_eq_true rfl, Nat.le_of_ble_eq_true rfl⟩ ?_
        refine sp_X6_tellable (T := T) hMo k2 (by rw [up_ne _ _ h02, ew]; exact hw1) hT (by omega) ?_
        rw [up_same, up_ne _ _ h02, ew, tell_sit hT]
        change GW _ _ _ 60 _ [.int _] _ _ 0 0
        refine g_iret hM dX6_sit_60 rfl (rfl) ⟨Nat.le_of_ble_eq_true rfl, Nat.le_of_ble_eq_true rfl⟩ ?_
        have e : sitA (I (κ.2.1 m 0)) (I (κ.2.1 m 2)) P T past (nI i1) (nI i2) = (tellF (I (κ.2.1 m 0)) (I (κ.2.1 m 2)) T i1 (nI i2) (nI 0), sitF (I (κ.2.1 m 2)) (nI i1) (nI i2), pushL past (I (κ.2.1 m 2))) := by
          unfold sitA
          rw [if_pos c6, nI_clamp (by omega), nI_clamp (by omega), if_pos ⟨c20, c29⟩]
        rw [e] at hq
        exact hq _ (hJ.now (wfs_sit hw hs hi1 hi2 hne)) (ho.up (Or.inr (Or.inr (Or.inr (Or.inl rfl)))))
      · first | (rw [b2i_n0] at c29) | (rw [b2i_0] at c29)
        refine g_bipush (v := (-2)) hX dX6_sit_32 (by decide) ?_
        refine g_iret hM dX6_sit_34 rfl (rfl) ⟨Nat.le_of_ble_eq_true rfl, Nat.le_of_ble_eq_true rfl⟩ ?_
        have e : sitA (I (κ.2.1 m 0)) (I (κ.2.1 m 2)) P T past (nI i1) (nI i2) = (-2, I (κ.2.1 m 2), past) := by unfold sitA; exact (if_pos c6).trans (if_neg (fun e => by rw [nI_clamp (by omega), nI_clamp (by omega), show lkF _ _ _ = _ from c29] at e; cases e.2))
        rw [e] at hq
        exact hq I hMR MOut.rf
  · first | (rw [b2i_n0, decide_eq_true_eq] at c6) | (rw [b2i_0, decide_eq_false_iff_not] at c6)
    refine g_iconst (v := (-1)) hX dX6_sit_9 (by decide) ?_
    refine g_iret hM dX6_sit_10 rfl (rfl) ⟨Nat.le_of_ble_eq_true rfl, Nat.le_of_ble_eq_true rfl⟩ ?_
    have e : sitA (I (κ.2.1 m 0)) (I (κ.2.1 m 2)) P T past x y = (-1, I (κ.2.1 m 2), past) := by unfold sitA; exact if_neg c6
    rw [e] at hq
    exact hq I hMR MOut.rf

set_option maxHeartbeats 4000000 in
set_option maxRecDepth 100000 in
theorem sp_X6_stand {Γ : Ga} {d : Nat} {κ : Kp} {I : Ip} {Q : Option Value → Kp → Ip → Prop} {m P T : Nat} {w s : Nat → Int32} {past kept : List (Nat → Int32)} {tx : Nat → Int32} {sz : Nat}  (hMR : MR κ m I P T w s past kept tx sz)  (hq : ∀ J : Ip, MR κ m J P T w (standA s past).2.1 (standA s past).2.2 kept tx sz → MOut κ m I J → Q (some (.int (standA s past).1)) κ J) : Sp Γ (d + 4) mX6_stand [.ref (m)] κ I Q := by
  obtain ⟨hMo, rfl, rfl, hw, hP1, hs, hpl, hp5, hpB, hkl, hk7, hkB, hsz, hs9, htx, hlt⟩ := id hMR
  obtain ⟨hm, hm0, ⟨k0, n0⟩, ⟨k1, n1⟩, ⟨k2, n2⟩, ⟨k3, n3⟩, ⟨k4, n4⟩, ⟨k6, n6⟩, ⟨k8, n8⟩, ⟨k14, n14⟩, ⟨k15, n15⟩, ⟨k16, n16⟩, d01, d23, d614, d1516⟩ := id hMo
  obtain ⟨hw0, hw1, hP, hT, -⟩ := id hw
  intro X hM
  have hX := hM.std
  have hR := hM.room
  show GW _ mX6_stand X 0 [(0, .ref (m))] [] _ _ 0 0
  refine g_aload_n hX dX6_stand_0 rfl rfl ?_
  refine g_getR hX dX6_stand_1 flX6_16 (by assumption) rfl (by first | assumption | rfl) (by assumption) ?_
  refine g_bipush (v := nI 10) hX dX6_stand_4 (by decide) ?_
  refine g_ialdN hX dX6_stand_6 (by assumption) (rfl) (by omega) (by first | decide | omega) ?_
  refine g_bipush (v := (-4)) hX dX6_stand_7 (by decide) ?_
  refine g_icmpne 15 hX dX6_stand_9 (by decide) (fun c9 => ?_) (fun c9 => ?_)
  · refine g_aload_n hX dX6_stand_15 rfl rfl ?_
    refine g_callV (md' := mX6_remember) (ci := 6) (As := []) hX hR dX6_stand_16 clX6_171 okX6_remember rfl (by assumption) rfl rfl (Nat.le_of_ble_eq_true rfl) (Nat.le_of_ble_eq_true rfl) ⟨Nat.le_of_ble_eq_true rfl, Nat.le_of_ble_eq_true rfl⟩ ?_
    refine sp_X6_remember hMR (fun J hJ ho => ?_)
    obtain ⟨-, ew, es, -⟩ := id hJ
    change GW _ _ _ 19 _ [] _ _ 0 0
    refine g_aload_n hX dX6_stand_19 rfl rfl ?_
    refine g_getR hX dX6_stand_20 flX6_16 (by assumption) rfl (by first | assumption | rfl) (by assumption) ?_
    refine g_bipush (v := nI 15) hX dX6_stand_23 (by decide) ?_
    refine g_ialdN hX dX6_stand_25 (by assumption) (rfl) (by omega) (by first | decide | omega) ?_
    refine g_callS (md' := mX6_bits) (As := [.int _]) hX hR dX6_stand_26 clX6_178 okX6_bits rfl rfl (Nat.le_of_ble_eq_true rfl) (Nat.le_of_ble_eq_true rfl) ⟨Nat.le_of_ble_eq_true rfl, Nat.le_of_ble_eq_true rfl⟩ ?_
    rw [es]
    obtain ⟨kk, hkk, ekk⟩ := small_nI (N := 9) (by decide) (fun i hi => Nat.lt_of_lt_of_le (hs.2.2.1 i hi) hT)
    rw [ekk]
    refine sp_X6_bits hkk ?_
    rw [← pcI_nI hkk, ← ekk]
    change GW _ _ _ 29 _ [.int _] _ _ 0 0
    refine g_istore_n (lv' := [(1, .int _), (0, .ref _)]) hX dX6_stand_29 rfl (by decide) rfl ?_
    refine g_aload_n hX dX6_stand_30 rfl rfl ?_
    refine g_getR hX dX6_stand_31 flX6_16 (by assumption) rfl (by first | assumption | rfl) (by assumption) ?_
    refine g_bipush (v := nI 10) hX dX6_stand_34 (by decide) ?_
    refine g_bipush (v := (-4)) hX dX6_stand_36 (by decide) ?_
    refine g_iastN hX dX6_stand_38 (by assumption) (rfl) (by omega) (by first | decide | omega) ?_
    refine g_aload_n hX dX6_stand_39 rfl rfl ?_
    refine g_getR hX dX6_stand_40 flX6_16 (by assumption) rfl (by first | assumption | rfl) (by assumption) ?_
    refine g_callS (md' := mX6_standsAnew) (As := [.ref _]) hX hR dX6_stand_43 clX6_161 okX6_standsAnew rfl rfl (Nat.le_of_ble_eq_true rfl) (Nat.le_of_ble_eq_true rfl) ⟨Nat.le_of_ble_eq_true rfl, Nat.le_of_ble_eq_true rfl⟩ ?_
    refine sp_X6_standsAnew k2 ?_
    rw [up_same, up_up, es]
    change GW _ _ _ 46 _ [] _ _ 0 0
    refine g_iload_n hX dX6_stand_46 rfl rfl ?_
    refine g_iret hM dX6_stand_47 rfl (rfl) ⟨Nat.le_of_ble_eq_true rfl, Nat.le_of_ble_eq_true rfl⟩ ?_
    have e : standA (I (κ.2.1 m 2)) past = (nI (pcI ((I (κ.2.1 m 2)) 15)), standF (I (κ.2.1 m 2)), pushL past (I (κ.2.1 m 2))) := if_neg c9
    rw [e] at hq
    exact hq _ (hJ.now (wfs_stand hT hs)) (ho.up (Or.inr (Or.inr (Or.inr (Or.inl rfl)))))
  · refine g_bipush (v := (-2)) hX dX6_stand_12 (by decide) ?_
    refine g_iret hM dX6_stand_14 rfl (rfl) ⟨Nat.le_of_ble_eq_true rfl, Nat.le_of_ble_eq_true rfl⟩ ?_
    have e : standA (I (κ.2.1 m 2)) past = (-2, I (κ.2.1 m 2), past) := by unfold standA; exact if_pos c9
    rw [e] at hq
    exact hq I hMR MOut.rf

set_option maxHeartbeats 4000000 in
set_option maxRecDepth 100000 in
theorem lp_X6_pass_20 {Γ : Ga} {d : Nat} {κ : Kp} {Q : Option Value → Kp → Ip → Prop} {X : Cx} {J : Ip} {m P T c : Nat} {w s : Nat → Int32} (hM : Mx Γ (d + 5) mX6_pass Q X) (hMo : MoK κ m) (ew : J (κ.2.1 m 0) = w) (hw : WfT w P T) (hs : WfS s P T) (hc : c ≤ 60) (hq : Q (some (.int (itF w T c s 17))) κ (va_up J (κ.2.1 m 2) (itF w T c s))) : ∀ (n : Nat) (k : Nat), n = c - k → k ≤ c → GW Γ mX6_pass X 20 [(2, .int (nI k)), (0, .ref (m)), (1, .int (nI c))] [] κ (va_up J (κ.2.1 m 2) (itF w T k s)) 0 0 := by
  have hX := hM.std
  have hR := hM.room
  intro n
  induction n using Nat.strongRecOn with
  | ind n ih =>
    intro k hn hk
    obtain ⟨hm, hm0, ⟨k0, n0⟩, ⟨k1, n1⟩, ⟨k2, n2⟩, ⟨k3, n3⟩, ⟨k4, n4⟩, ⟨k6, n6⟩, ⟨k8, n8⟩, ⟨k14, n14⟩, ⟨k15, n15⟩, ⟨k16, n16⟩, d01, d23, d614, d1516⟩ := id hMo
    have h02 : κ.2.1 m 0 ≠ κ.2.1 m 2 := kd_ne k0 k2 (by decide)
    refine g_iload_n hX dX6_pass_20 rfl rfl ?_
    refine g_iload_n hX dX6_pass_21 rfl rfl ?_
    refine g_icmpge 39 hX dX6_pass_22 (by decide) (fun c22 => ?_) (fun c22 => ?_)
    · rw [nI_leI (by omega) (by omega)] at c22
      refine g_aload_n hX dX6_pass_39 rfl rfl ?_
      refine g_getR hX dX6_pass_40 flX6_16 (by assumption) rfl (by first | assumption | rfl) (by assumption) ?_
      refine g_bipush (v := nI 17) hX dX6_pass_43 (by decide) ?_
      refine g_ialdN hX dX6_pass_45 (by assumption) (rfl) (by omega) (by first | decide | omega) ?_
      refine g_iret hM dX6_pass_46 rfl (rfl) ⟨Nat.le_of_ble_eq_true rfl, Nat.le_of_ble_eq_true rfl⟩ ?_
      have e : k = c := by omega
      subst e
      rw [up_same]
      exact hq
    · rw [nI_leI (by omega) (by omega)] at c22
      refine g_aload_n hX dX6_pass_25 rfl rfl ?_
      refine g_aload_n hX dX6_pass_26 rfl rfl ?_
      refine g_getR hX dX6_pass_27 flX6_16 (by assumption) rfl (by first | assumption | rfl) (by assumption) ?_
      refine g_callV (md' := mX6_minuteGoes) (ci := 6) (As := [.ref _]) hX hR dX6_pass_30 clX6_183 okX6_minuteGoes rfl (by assumption) rfl rfl (Nat.le_of_ble_eq_true rfl) (Nat.le_of_ble_eq_true rfl) ⟨Nat.le_of_ble_eq_true rfl, Nat.le_of_ble_eq_true rfl⟩ ?_
      refine sp_X6_minuteGoes (P := P) (T := T) hMo k2 (by rw [up_ne _ _ h02, ew]; exact hw) (by rw [up_same]; exact wfs_it hw hs k) ?_
      rw [up_same, up_ne _ _ h02, up_up, ew]
      change GW _ _ _ 33 _ [] _ _ 0 0
      refine g_iinc (lv' := [(2, .int _), (0, .ref _), (1, .int _)]) hX dX6_pass_33 rfl (by first | exact nI_inc _ | rfl) (by decide) rfl ?_
      refine g_goto 20 hX dX6_pass_36 (by decide) ?_
      exact g_pick [0, 1, 2] rfl (ih (c - (k + 1)) (by omega) (k + 1) rfl (by omega))

set_option maxHeartbeats 4000000 in
set_option maxRecDepth 100000 in
theorem sp_X6_pass {Γ : Ga} {d : Nat} {κ : Kp} {I : Ip} {Q : Option Value → Kp → Ip → Prop} {m P T : Nat} {w s : Nat → Int32} {past kept : List (Nat → Int32)} {tx : Nat → Int32} {sz : Nat} {n : Int32} (hMR : MR κ m I P T w s past kept tx sz)  (hq : ∀ J : Ip, MR κ m J P T w (passA w s T past n).2.1 (passA w s T past n).2.2 kept tx sz → MOut κ m I J → Q (some (.int (passA w s T past n).1)) κ J) : Sp Γ (d + 5) mX6_pass [.ref (m), .int (n)] κ I Q := by
  obtain ⟨hMo, rfl, rfl, hw, hP1, hs, hpl, hp5, hpB, hkl, hk7, hkB, hsz, hs9, htx, hlt⟩ := id hMR
  obtain ⟨hm, hm0, ⟨k0, n0⟩, ⟨k1, n1⟩, ⟨k2, n2⟩, ⟨k3, n3⟩, ⟨k4, n4⟩, ⟨k6, n6⟩, ⟨k8, n8⟩, ⟨k14, n14⟩, ⟨k15, n15⟩, ⟨k16, n16⟩, d01, d23, d614, d1516⟩ := id hMo
  obtain ⟨hw0, hw1, hP, hT, -⟩ := id hw
  intro X hM
  have hX := hM.std
  have hR := hM.room
  show GW _ mX6_pass X 0 [(0, .ref (m)), (1, .int (n))] [] _ _ 0 0
  refine g_iload_n hX dX6_pass_0 rfl rfl ?_
  refine g_i2l hX dX6_pass_1 ?_
  refine g_lconst (v := 1) hX dX6_pass_2 (by decide) ?_
  refine g_ldc2 hX dX6_pass_3 kX6_181 ?_
  refine g_callS (md' := mX6_in) (As := [.long _, .long _, .long _]) hX hR dX6_pass_6 clX6_73 okX6_in rfl rfl (Nat.le_of_ble_eq_true rfl) (Nat.le_of_ble_eq_true rfl) ⟨Nat.le_of_ble_eq_true rfl, Nat.le_of_ble_eq_true rfl⟩ ?_
  refine sp_X6_inR 1 60 rfl rfl ?_
  change GW _ _ _ 9 _ [.int _] _ _ 0 0
  refine g_ifne 14 hX dX6_pass_9 (by decide) (fun c9 => ?_) (fun c9 => ?_)
  · first | (rw [b2i_n0, decide_eq_true_eq] at c9) | (rw [b2i_0, decide_eq_false_iff_not] at c9)
    refine g_aload_n hX dX6_pass_14 rfl rfl ?_
    refine g_callV (md' := mX6_remember) (ci := 6) (As := []) hX hR dX6_pass_15 clX6_171 okX6_remember rfl (by assumption) rfl rfl (Nat.le_of_ble_eq_true rfl) (Nat.le_of_ble_eq_true rfl) ⟨Nat.le_of_ble_eq_true rfl, Nat.le_of_ble_eq_true rfl⟩ ?_
    obtain ⟨c, hc1, hc2, rfl⟩ := inR_of c9
    refine sp_X6_remember hMR (fun J hJ ho => ?_)
    obtain ⟨-, ew, es, -⟩ := id hJ
    change GW _ _ _ 18 _ [] _ _ 0 0
    refine g_iconst (v := nI 0) hX dX6_pass_18 (by decide) ?_
    refine g_istore_n (lv' := [(2, .int _), (0, .ref _), (1, .int _)]) hX dX6_pass_19 rfl (by decide) rfl ?_
    refine g_pick [0, 1, 2] rfl (g_st (by rw [itF, ← es, up_self]) (lp_X6_pass_20 (J := J) (w := (I (κ.2.1 m 0))) (s := (I (κ.2.1 m 2))) hM hMo ew hw hs hc2 ?_ c 0 (Nat.sub_zero c).symm (Nat.zero_le _)))
    have e : passA (I (κ.2.1 m 0)) (I (κ.2.1 m 2)) T past (nI c) = (itF (I (κ.2.1 m 0)) T c (I (κ.2.1 m 2)) 17, itF (I (κ.2.1 m 0)) T c (I (κ.2.1 m 2)), pushL past (I (κ.2.1 m 2))) := by
      unfold passA
      rw [if_pos c9, nI_clamp (by omega)]
    rw [e] at hq
    exact hq _ (hJ.now (wfs_it hw hs c)) (ho.up (Or.inr (Or.inr (Or.inr (Or.inl rfl)))))
  · first | (rw [b2i_n0, decide_eq_true_eq] at c9) | (rw [b2i_0, decide_eq_false_iff_not] at c9)
    refine g_iconst (v := (-1)) hX dX6_pass_12 (by decide) ?_
    refine g_iret hM dX6_pass_13 rfl (rfl) ⟨Nat.le_of_ble_eq_true rfl, Nat.le_of_ble_eq_true rfl⟩ ?_
    have e : passA (I (κ.2.1 m 0)) (I (κ.2.1 m 2)) T past n = (-1, I (κ.2.1 m 2), past) := by unfold passA; exact if_neg c9
    rw [e] at hq
    exact hq I hMR MOut.rf

set_option maxHeartbeats 4000000 in
set_option maxRecDepth 100000 in
theorem sp_X6_hush {Γ : Ga} {d : Nat} {κ : Kp} {I : Ip} {Q : Option Value → Kp → Ip → Prop} {m P T : Nat} {w s : Nat → Int32} {past kept : List (Nat → Int32)} {tx : Nat → Int32} {sz : Nat} {x : Int32} (hMR : MR κ m I P T w s past kept tx sz)  (hq : ∀ J : Ip, MR κ m J P T w (hushA s T past x).2.1 (hushA s T past x).2.2 kept tx sz → MOut κ m I J → Q (some (.int (hushA s T past x).1)) κ J) : Sp Γ (d + 4) mX6_hush [.ref (m), .int (x)] κ I Q := by
  obtain ⟨hMo, rfl, rfl, hw, hP1, hs, hpl, hp5, hpB, hkl, hk7, hkB, hsz, hs9, htx, hlt⟩ := id hMR
  obtain ⟨hm, hm0, ⟨k0, n0⟩, ⟨k1, n1⟩, ⟨k2, n2⟩, ⟨k3, n3⟩, ⟨k4, n4⟩, ⟨k6, n6⟩, ⟨k8, n8⟩, ⟨k14, n14⟩, ⟨k15, n15⟩, ⟨k16, n16⟩, d01, d23, d614, d1516⟩ := id hMo
  obtain ⟨hw0, hw1, hP, hT, -⟩ := id hw
  have h02 : κ.2.1 m 0 ≠ κ.2.1 m 2 := kd_ne k0 k2 (by decide)
  intro X hM
  have hX := hM.std
  have hR := hM.room
  show GW _ mX6_hush X 0 [(0, .ref (m)), (1, .int (x))] [] _ _ 0 0
  refine g_aload_n hX dX6_hush_0 rfl rfl ?_
  refine g_iload_n hX dX6_hush_1 rfl rfl ?_
  refine g_callV (md' := mX6_isTaleOf) (ci := 6) (As := [.int _]) hX hR dX6_hush_2 clX6_137 okX6_isTaleOf rfl (by assumption) rfl rfl (Nat.le_of_ble_eq_true rfl) (Nat.le_of_ble_eq_true rfl) ⟨Nat.le_of_ble_eq_true rfl, Nat.le_of_ble_eq_true rfl⟩ ?_
  refine sp_X6_isTaleOf hMo hw1 (by omega) ?_
  change GW _ _ _ 5 _ [.int _] _ _ 0 0
  refine g_ifne 10 hX dX6_hush_5 (by decide) (fun c5 => ?_) (fun c5 => ?_)
  · first | (rw [b2i_n0, decide_eq_true_eq] at c5) | (rw [b2i_0, decide_eq_false_iff_not] at c5)
    refine g_aload_n hX dX6_hush_10 rfl rfl ?_
    refine g_aload_n hX dX6_hush_11 rfl rfl ?_
    refine g_getR hX dX6_hush_12 flX6_16 (by assumption) rfl (by first | assumption | rfl) (by assumption) ?_
    refine g_iload_n hX dX6_hush_15 rfl rfl ?_
    refine g_callV (md' := mX6_mayHush) (ci := 6) (As := [.ref _, .int _]) hX hR dX6_hush_16 clX6_186 okX6_mayHush rfl (by assumption) rfl rfl (Nat.le_of_ble_eq_true rfl) (Nat.le_of_ble_eq_true rfl) ⟨Nat.le_of_ble_eq_true rfl, Nat.le_of_ble_eq_true rfl⟩ ?_
    obtain ⟨t, ht, rfl⟩ := inN_of c5
    refine sp_X6_mayHush hMo k2 (by omega) ?_
    change GW _ _ _ 19 _ [.int _] _ _ 0 0
    refine g_ifne 25 hX dX6_hush_19 (by decide) (fun c19 => ?_) (fun c19 => ?_)
    · first | (rw [b2i_n0] at c19) | (rw [b2i_0] at c19)
      refine g_aload_n hX dX6_hush_25 rfl rfl ?_
      refine g_callV (md' := mX6_remember) (ci := 6) (As := []) hX hR dX6_hush_26 clX6_171 okX6_remember rfl (by assumption) rfl rfl (Nat.le_of_ble_eq_true rfl) (Nat.le_of_ble_eq_true rfl) ⟨Nat.le_of_ble_eq_true rfl, Nat.le_of_ble_eq_true rfl⟩ ?_
      refine sp_X6_remember hMR (fun J hJ ho => ?_)
      obtain ⟨-, ew, es, -⟩ := id hJ
      change GW _ _ _ 29 _ [] _ _ 0 0
      refine g_aload_n hX dX6_hush_29 rfl rfl ?_
      refine g_getR hX dX6_hush_30 flX6_16 (by assumption) rfl (by first | assumption | rfl) (by assumption) ?_
      refine g_bipush (v := nI 9) hX dX6_hush_33 (by decide) ?_
      refine g_dup2 hX dX6_hush_35 rfl rfl ?_
      refine g_ialdN hX dX6_hush_36 (by assumption) (rfl) (by omega) (by first | decide | omega) ?_
      try simp (disch := decide) only [up_same, up_up, up_ne _ _ h02, es]
      refine g_iconst (v := nI 1) hX dX6_hush_37 (by decide) ?_
      refine g_iload_n hX dX6_hush_38 rfl rfl ?_
      refine g_ishl hX dX6_hush_39 ?_
      refine g_ior hX dX6_hush_40 ?_
      refine g_iastN hX dX6_hush_41 (by assumption) (rfl) (by omega) (by first | decide | omega) ?_
      try simp (disch := decide) only [up_same, up_up, up_ne _ _ h02, es]
      refine g_aload_n hX dX6_hush_42 rfl rfl ?_
      refine g_getR hX dX6_hush_43 flX6_7 (by assumption) rfl (by first | assumption | rfl) (by assumption) ?_
      refine g_iconst (v := nI 1) hX dX6_hush_46 (by decide) ?_
      refine g_ialdN hX dX6_hush_47 (by assumption) (rfl) (by omega) (by first | decide | omega) ?_
      try simp (disch := decide) only [up_same, up_up, up_ne _ _ h02, es]
      rw [ew, hw1]
      refine g_aload_n hX dX6_hush_48 rfl rfl ?_
      refine g_getR hX dX6_hush_49 flX6_16 (by assumption) rfl (by first | assumption | rfl) (by assumption) ?_
      refine g_bipush (v := nI 9) hX dX6_hush_52 (by decide) ?_
      refine g_ialdN hX dX6_hush_54 (by assumption) (rfl) (by omega) (by first | decide | omega) ?_
      try simp (disch := decide) only [up_same, up_up, up_ne _ _ h02, es]
      refine g_callS (md' := mX6_bits) (As := [.int _]) hX hR dX6_hush_55 clX6_178 okX6_bits rfl rfl (Nat.le_of_ble_eq_true rfl) (Nat.le_of_ble_eq_true rfl) ⟨Nat.le_of_ble_eq_true rfl, Nat.le_of_ble_eq_true rfl⟩ ?_
      have hb9 : ∀ i, bt ((I (κ.2.1 m 2)) 9 ||| bit1 t) i = true → i < T := fun i hi => by
        rw [b_or] at hi
        simp only [Bool.or_eq_true] at hi
        rcases hi with hi | hi
        · exact hs.2.1 i hi
        · rw [bt_bit1 (by omega), decide_eq_true_eq] at hi; omega
      obtain ⟨kk, hkk, ekk⟩ := small_nI (N := 9) (by decide) (fun i hi => Nat.lt_of_lt_of_le (hb9 i hi) hT)
      rw [show nI 1 <<< (nI t &&& 31) = bit1 t from rfl, ekk]
      refine sp_X6_bits hkk ?_
      rw [← pcI_nI hkk, ← ekk]
      change GW _ _ _ 58 _ [.int _, .int _] _ _ 0 0
      refine g_isub hX dX6_hush_58 ?_
      refine g_iret hM dX6_hush_59 rfl (rfl) ⟨Nat.le_of_ble_eq_true rfl, Nat.le_of_ble_eq_true rfl⟩ ?_
      have e : hushA (I (κ.2.1 m 2)) T past (nI t) = (nI T - nI (pcI ((I (κ.2.1 m 2)) 9 ||| bit1 t)), va_up (I (κ.2.1 m 2)) 9 ((I (κ.2.1 m 2)) 9 ||| bit1 t), pushL past (I (κ.2.1 m 2))) := by
        unfold hushA
        rw [if_pos c5, nI_clamp (by omega), if_pos (show mayB _ _ = true from c19)]
      rw [e] at hq
      exact hq _ (hJ.now (wfs_hush hT hs hb9)) (ho.up (Or.inr (Or.inr (Or.inr (Or.inl rfl)))))
    · first | (rw [b2i_n0] at c19) | (rw [b2i_0] at c19)
      refine g_bipush (v := (-2)) hX dX6_hush_22 (by decide) ?_
      refine g_iret hM dX6_hush_24 rfl (rfl) ⟨Nat.le_of_ble_eq_true rfl, Nat.le_of_ble_eq_true rfl⟩ ?_
      have e : hushA (I (κ.2.1 m 2)) T past (nI t) = (-2, I (κ.2.1 m 2), past) := by unfold hushA; exact (if_pos c5).trans (if_neg (by rw [nI_clamp (by omega), show mayB _ _ = _ from c19]; decide))
      rw [e] at hq
      exact hq I hMR MOut.rf
  · first | (rw [b2i_n0, decide_eq_true_eq] at c5) | (rw [b2i_0, decide_eq_false_iff_not] at c5)
    refine g_iconst (v := (-1)) hX dX6_hush_8 (by decide) ?_
    refine g_iret hM dX6_hush_9 rfl (rfl) ⟨Nat.le_of_ble_eq_true rfl, Nat.le_of_ble_eq_true rfl⟩ ?_
    have e : hushA (I (κ.2.1 m 2)) T past x = (-1, I (κ.2.1 m 2), past) := by unfold hushA; exact if_neg c5
    rw [e] at hq
    exact hq I hMR MOut.rf
