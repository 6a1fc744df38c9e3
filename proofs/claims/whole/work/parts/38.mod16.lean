set_option maxHeartbeats 4000000 in
set_option maxRecDepth 100000 in
theorem lp_X6_remember_11 {Γ : Ga} {d : Nat} {κ : Kp} {Q : Option Value → Kp → Ip → Prop} {X : Cx} {I : Ip} {m : Nat} (hM : Mx Γ (d + 1) mX6_remember Q X) (hMo : MoK κ m) (hout : GW Γ mX6_remember X 38 [(1, .int (nI 126)), (0, .ref m)] [] κ (va_up I (κ.2.1 m 4) (fb_put (I (κ.2.1 m 4)) (fun q => I (κ.2.1 m 4) (q + 18)) 0 126)) 0 0) : ∀ (n : Nat) (k : Nat), n = 126 - k → k ≤ 126 → GW Γ mX6_remember X 11 [(1, .int (nI k)), (0, .ref (m))] [] κ (va_up I (κ.2.1 m 4) (fb_put (I (κ.2.1 m 4)) (fun q => I (κ.2.1 m 4) (q + 18)) 0 k)) 0 0 := by
  have hX := hM.std
  have hR := hM.room
  intro n
  induction n using Nat.strongRecOn with
  | ind n ih =>
    intro k hn hk
    obtain ⟨hm, hm0, ⟨k0, n0⟩, ⟨k1, n1⟩, ⟨k2, n2⟩, ⟨k3, n3⟩, ⟨k4, n4⟩, ⟨k6, n6⟩, ⟨k8, n8⟩, ⟨k14, n14⟩, ⟨k15, n15⟩, ⟨k16, n16⟩, d01, d23, d614, d1516⟩ := id hMo
    refine g_iload_n hX dX6_remember_11 rfl rfl ?_
    refine g_bipush (v := nI 126) hX dX6_remember_12 (by decide) ?_
    refine g_icmpge 38 hX dX6_remember_14 (by decide) (fun c14 => ?_) (fun c14 => ?_)
    · rw [nI_leI (by omega) (by omega)] at c14
      have e : k = 126 := by omega
      subst e
      exact g_pick [0, 1] rfl hout
    · rw [nI_leI (by omega) (by omega)] at c14
      refine g_aload_n hX dX6_remember_17 rfl rfl ?_
      refine g_getR hX dX6_remember_18 flX6_22 (by assumption) rfl (by first | assumption | rfl) (by assumption) ?_
      refine g_iload_n hX dX6_remember_21 rfl rfl ?_
      refine g_aload_n hX dX6_remember_22 rfl rfl ?_
      refine g_getR hX dX6_remember_23 flX6_22 (by assumption) rfl (by first | assumption | rfl) (by assumption) ?_
      refine g_iload_n hX dX6_remember_26 rfl rfl ?_
      refine g_bipush (v := nI 18) hX dX6_remember_27 (by decide) ?_
      refine g_iadd hX dX6_remember_29 ?_
      refine g_ialdN hX dX6_remember_30 (by assumption) (nI_add _ _) (by omega) (by first | decide | omega) ?_
      refine g_iastN hX dX6_remember_31 (by assumption) (rfl) (by omega) (by first | decide | omega) ?_
      refine g_iinc (lv' := [(1, .int _), (0, .ref _)]) hX dX6_remember_32 rfl (by first | exact nI_inc _ | rfl) (by decide) rfl ?_
      refine g_goto 11 hX dX6_remember_35 (by decide) ?_
      refine g_st ?_ (g_pick [0, 1] rfl (ih (126 - (k + 1)) (by omega) (k + 1) rfl (by omega)))
      rw [up_same, up_up, fb_put_out (Or.inr (by omega)), ← fb_put_succ, Nat.zero_add]
      rfl

set_option maxHeartbeats 4000000 in
set_option maxRecDepth 100000 in
theorem fr_X6_remember_48 {Γ : Ga} {d : Nat} {κ : Kp} {Q : Option Value → Kp → Ip → Prop} {X : Cx} {I : Ip} {m P T : Nat} {w s : Nat → Int32} {past kept : List (Nat → Int32)} {tx : Nat → Int32} {sz : Nat} (hM : Mx Γ (d + 1) mX6_remember Q X) (hMR : MR κ m I P T w s past kept tx sz) (hl : past.length ≤ 7) (hq : ∀ J : Ip, MR κ m J P T w s (past ++ [s]) kept tx sz → MOut κ m I J → Q none κ J) : GW Γ mX6_remember X 48 [(0, .ref (m))] [] κ (I) 0 0 := by
  have hX := hM.std
  have hR := hM.room
  obtain ⟨hMo, rfl, rfl, hw, hP1, hs, hpl, hp5, hpB, hkl, hk7, hkB, hsz, hs9, htx, hlt⟩ := id hMR
  obtain ⟨hm, hm0, ⟨k0, n0⟩, ⟨k1, n1⟩, ⟨k2, n2⟩, ⟨k3, n3⟩, ⟨k4, n4⟩, ⟨k6, n6⟩, ⟨k8, n8⟩, ⟨k14, n14⟩, ⟨k15, n15⟩, ⟨k16, n16⟩, d01, d23, d614, d1516⟩ := id hMo
  refine g_aload_n hX dX6_remember_48 rfl rfl ?_
  refine g_getR hX dX6_remember_49 flX6_16 (by assumption) rfl (by first | assumption | rfl) (by assumption) ?_
  refine g_iconst (v := nI 0) hX dX6_remember_52 (by decide) ?_
  refine g_aload_n hX dX6_remember_53 rfl rfl ?_
  refine g_getR hX dX6_remember_54 flX6_22 (by assumption) rfl (by first | assumption | rfl) (by assumption) ?_
  refine g_bipush (v := nI 18) hX dX6_remember_57 (by decide) ?_
  refine g_aload_n hX dX6_remember_59 rfl rfl ?_
  refine g_getI hX dX6_remember_60 flX6_62 (by assumption) rfl ?_
  rw [hp5]
  refine g_imul hX dX6_remember_63 ?_
  rw [nI_mul]
  refine g_bipush (v := nI 18) hX dX6_remember_64 (by decide) ?_
  refine g_callS (md' := mX6_copies) (As := [.ref _, .int _, .ref _, .int _, .int _]) hX hR dX6_remember_66 clX6_58 okX6_copies rfl rfl (Nat.le_of_ble_eq_true rfl) (Nat.le_of_ble_eq_true rfl) ⟨Nat.le_of_ble_eq_true rfl, Nat.le_of_ble_eq_true rfl⟩ ?_
  refine sp_X6_copies (i := 0) (j := 18 * past.length) (c := 18) k2 k4 (by decide) (by omega) (by decide) (by decide) (kd_ne k2 k4 (by decide)) ?_
  change GW _ _ _ 69 _ [] _ _ 0 0
  refine g_aload_n hX dX6_remember_69 rfl rfl ?_
  refine g_dup hX dX6_remember_70 rfl ?_
  refine g_getI hX dX6_remember_71 flX6_62 (by assumption) rfl ?_
  refine g_iconst (v := nI 1) hX dX6_remember_74 (by decide) ?_
  refine g_iadd hX dX6_remember_75 ?_
  refine g_putI hX dX6_remember_76 flX6_62 (by assumption) rfl rfl ?_
  refine g_vret hM dX6_remember_79 rfl ⟨Nat.le_of_ble_eq_true rfl, Nat.le_of_ble_eq_true rfl⟩ ?_
  rw [up_ne _ _ hMo.m4, hp5, nI_add]
  refine hq _ (hMR.pst (by rw [List.length_append]; simpa using hl) (by rw [List.length_append]; rfl) (Blk.app hpB hs)) ((MOut.rf.up (Or.inr (Or.inr (Or.inr (Or.inr (Or.inr (Or.inl rfl))))))).up (Or.inl rfl))

set_option maxHeartbeats 4000000 in
set_option maxRecDepth 100000 in
theorem sp_X6_remember {Γ : Ga} {d : Nat} {κ : Kp} {I : Ip} {Q : Option Value → Kp → Ip → Prop} {m P T : Nat} {w s : Nat → Int32} {past kept : List (Nat → Int32)} {tx : Nat → Int32} {sz : Nat}  (hMR : MR κ m I P T w s past kept tx sz)  (hq : ∀ J : Ip, MR κ m J P T w s (pushL past s) kept tx sz → MOut κ m I J → Q none κ J) : Sp Γ (d + 1) mX6_remember [.ref (m)] κ I Q := by
  obtain ⟨hMo, rfl, rfl, hw, hP1, hs, hpl, hp5, hpB, hkl, hk7, hkB, hsz, hs9, htx, hlt⟩ := id hMR
  obtain ⟨hm, hm0, ⟨k0, n0⟩, ⟨k1, n1⟩, ⟨k2, n2⟩, ⟨k3, n3⟩, ⟨k4, n4⟩, ⟨k6, n6⟩, ⟨k8, n8⟩, ⟨k14, n14⟩, ⟨k15, n15⟩, ⟨k16, n16⟩, d01, d23, d614, d1516⟩ := id hMo
  obtain ⟨hw0, hw1, hP, hT, -⟩ := id hw
  intro X hM
  have hX := hM.std
  have hR := hM.room
  show GW _ mX6_remember X 0 [(0, .ref (m))] [] _ _ 0 0
  refine g_aload_n hX dX6_remember_0 rfl rfl ?_
  refine g_getI hX dX6_remember_1 flX6_62 (by assumption) rfl ?_
  refine g_bipush (v := nI 8) hX dX6_remember_4 (by decide) ?_
  refine g_icmpne 48 hX dX6_remember_6 (by decide) (fun c6 => ?_) (fun c6 => ?_)
  · rw [hp5] at c6
    have hl8 : past.length ≠ 8 := fun e => c6 (by rw [e])
    refine fr_X6_remember_48 hM hMR (by omega) (fun J h1 h2 => hq J ?_ h2)
    rw [pushL, if_neg hl8]
    exact h1
  · rw [hp5] at c6
    refine g_iconst (v := nI 0) hX dX6_remember_9 (by decide) ?_
    refine g_istore_n (lv' := [(1, .int _), (0, .ref _)]) hX dX6_remember_10 rfl (by decide) rfl ?_
    have hl8 : past.length = 8 := nI_inj (by omega) (by omega) c6
    refine g_pick [0, 1] rfl (lp_X6_remember_11 hM hMo ?_ 126 0 rfl (by omega)) |> g_st (by rw [fb_put_0, up_self])
    refine g_aload_n hX dX6_remember_38 rfl rfl ?_
    refine g_dup hX dX6_remember_39 rfl ?_
    refine g_getI hX dX6_remember_40 flX6_62 (by assumption) rfl ?_
    refine g_iconst (v := nI 1) hX dX6_remember_43 (by decide) ?_
    refine g_isub hX dX6_remember_44 ?_
    refine g_putI hX dX6_remember_45 flX6_62 (by assumption) rfl rfl ?_
    rw [up_ne _ _ hMo.m4, hp5, hl8]
    have hm1 := hMR.pst (f := fb_put (I (κ.2.1 m 4)) (fun q => I (κ.2.1 m 4) (q + 18)) 0 126) (c := nI 8 - nI 1) (p2 := past.tail) (by rw [List.length_tail]; omega) (by rw [List.length_tail, hl8]; decide) (Blk.tail hpB hpl)
    refine g_pick [1] rfl (fr_X6_remember_48 hM hm1 (by rw [List.length_tail]; omega) (fun J h1 h2 => hq J ?_ (MOut.tr ((MOut.rf.up (Or.inr (Or.inr (Or.inr (Or.inr (Or.inr (Or.inl rfl))))))).up (Or.inl rfl)) h2)))
    rw [pushL, if_pos hl8]
    exact h1
