set_option maxHeartbeats 4000000 in
set_option maxRecDepth 100000 in
theorem lp_X6_empties_2 {Γ : Ga} {d : Nat} {κ : Kp} {Q : Option Value → Kp → Ip → Prop} {X : Cx} {I : Ip} {m : Nat} (hM : Mx Γ d mX6_empties Q X) (hm : κ.1 m = (6, 0)) (h1 : κ.1 (κ.2.1 m 1) = (8, 50)) (h10 : κ.2.1 m 1 ≠ 0) (hq : Q none κ (va_up I (κ.2.1 m 1) (fb_put (I (κ.2.1 m 1)) (fun _ => nI 0) 0 50))) : ∀ (n : Nat) (k : Nat), n = 50 - k → k ≤ 50 → GW Γ mX6_empties X 2 [(1, .int (nI k)), (0, .ref (m))] [] κ (va_up I (κ.2.1 m 1) (fb_put (I (κ.2.1 m 1)) (fun _ => nI 0) 0 k)) 0 0 := by
  have hX := hM.std
  intro n
  induction n using Nat.strongRecOn with
  | ind n ih =>
    intro k hn hk
    refine g_iload_n hX dX6_empties_2 rfl rfl ?_
    refine g_bipush (v := nI 50) hX dX6_empties_3 (by decide) ?_
    refine g_icmpge 21 hX dX6_empties_5 (by decide) (fun c5 => ?_) (fun c5 => ?_)
    · rw [nI_leI (by omega) (by omega)] at c5
      refine g_vret hM dX6_empties_21 rfl ⟨Nat.le_of_ble_eq_true rfl, Nat.le_of_ble_eq_true rfl⟩ ?_
      have e : k = 50 := by omega
      subst e
      exact hq
    · rw [nI_leI (by omega) (by omega)] at c5
      refine g_aload_n hX dX6_empties_8 rfl rfl ?_
      refine g_getR hX dX6_empties_9 flX6_13 (by assumption) rfl (by first | assumption | rfl) (by assumption) ?_
      refine g_iload_n hX dX6_empties_12 rfl rfl ?_
      refine g_iconst (v := nI 0) hX dX6_empties_13 (by decide) ?_
      refine g_iastN hX dX6_empties_14 (by assumption) (rfl) (by omega) (by first | decide | omega) ?_
      refine g_iinc (lv' := [(1, .int _), (0, .ref _)]) hX dX6_empties_15 rfl (by first | exact nI_inc _ | rfl) (by decide) rfl ?_
      refine g_goto 2 hX dX6_empties_18 (by decide) ?_
      refine g_st ?_ (g_pick [0, 1] rfl (ih (50 - (k + 1)) (by omega) (k + 1) rfl (by omega)))
      rw [up_same, up_up, ← fb_put_succ, Nat.zero_add]
      rfl

set_option maxHeartbeats 4000000 in
set_option maxRecDepth 100000 in
theorem sp_X6_empties {Γ : Ga} {d : Nat} {κ : Kp} {I : Ip} {Q : Option Value → Kp → Ip → Prop} {m : Nat} (hMo : MoK κ m) (hq : Q none κ (va_up I (κ.2.1 m 1) (fb_put (I (κ.2.1 m 1)) (fun _ => nI 0) 0 50))) : Sp Γ d mX6_empties [.ref (m)] κ I Q := by
  intro X hM
  have hX := hM.std
  show GW _ mX6_empties X 0 [(0, .ref (m))] [] _ _ 0 0
  refine g_iconst (v := nI 0) hX dX6_empties_0 (by decide) ?_
  refine g_istore_n (lv' := [(1, .int _), (0, .ref _)]) hX dX6_empties_1 rfl (by decide) rfl ?_
  obtain ⟨hm, hm0, ⟨k0, n0⟩, ⟨k1, n1⟩, ⟨k2, n2⟩, ⟨k3, n3⟩, ⟨k4, n4⟩, ⟨k6, n6⟩, ⟨k8, n8⟩, ⟨k14, n14⟩, ⟨k15, n15⟩, ⟨k16, n16⟩, d01, d23, d614, d1516⟩ := id hMo
  refine g_st ?_ (g_pick [0, 1] rfl (lp_X6_empties_2 hM hm k1 n1 hq 50 0 rfl (by omega)))
  rw [fb_put_0, up_self]

set_option maxHeartbeats 4000000 in
set_option maxRecDepth 100000 in
theorem sp_X6_copies {Γ : Ga} {d : Nat} {κ : Kp} {I : Ip} {Q : Option Value → Kp → Ip → Prop} {f t i j c N1 N2 : Nat} (hf : κ.1 f = (8, N1)) (ht : κ.1 t = (8, N2)) (h1 : i + c ≤ N1) (h2 : j + c ≤ N2) (h3 : N1 < 1000) (h4 : N2 < 1000) (hne : f ≠ t) (hq : Q none κ (va_up I t (fb_put (I t) (fun q => I f (i + q)) j c))) : Sp Γ d mX6_copies [.ref (f), .int (nI i), .ref (t), .int (nI j), .int (nI c)] κ I Q := by
  intro X hM
  have hX := hM.std
  show GW _ mX6_copies X 0 [(0, .ref (f)), (1, .int (nI i)), (2, .ref (t)), (3, .int (nI j)), (4, .int (nI c))] [] _ _ 0 0
  refine g_iconst (v := nI 0) hX dX6_copies_0 (by decide) ?_
  refine g_istore (lv' := [(5, .int _), (0, .ref _), (1, .int _), (2, .ref _), (3, .int _), (4, .int _)]) hX dX6_copies_1 (by decide) rfl ?_
  refine g_st ?_ (g_pick [0, 1, 2, 3, 4, 5] rfl (lp_X6_copies_3 hM hf ht h1 h2 h3 h4 hne hq c 0 rfl (by omega)))
  rw [fb_put_0, up_self]

set_option maxHeartbeats 4000000 in
set_option maxRecDepth 100000 in
theorem sp_X6_addsPerson {Γ : Ga} {d : Nat} {κ : Kp} {I : Ip} {Q : Option Value → Kp → Ip → Prop} {m p : Nat} {k : Int32} (hMo : MoK κ m) (hp : I (κ.2.1 m 1) 0 = nI p) (hp6 : p < 6) (hq : Q none κ (va_up I (κ.2.1 m 1) (adP (I (κ.2.1 m 1)) p k))) : Sp Γ d mX6_addsPerson [.ref (m), .int (k)] κ I Q := by
  obtain ⟨hm, hm0, ⟨k0, n0⟩, ⟨k1, n1⟩, ⟨k2, n2⟩, ⟨k3, n3⟩, ⟨k4, n4⟩, ⟨k6, n6⟩, ⟨k8, n8⟩, ⟨k14, n14⟩, ⟨k15, n15⟩, ⟨k16, n16⟩, d01, d23, d614, d1516⟩ := id hMo
  intro X hM
  have hX := hM.std
  show GW _ mX6_addsPerson X 0 [(0, .ref (m)), (1, .int (k))] [] _ _ 0 0
  refine g_aload_n hX dX6_addsPerson_0 rfl rfl ?_
  refine g_getR hX dX6_addsPerson_1 flX6_13 (by assumption) rfl (by first | assumption | rfl) (by assumption) ?_
  refine g_iconst (v := nI 2) hX dX6_addsPerson_4 (by decide) ?_
  refine g_aload_n hX dX6_addsPerson_5 rfl rfl ?_
  refine g_getR hX dX6_addsPerson_6 flX6_13 (by assumption) rfl (by first | assumption | rfl) (by assumption) ?_
  refine g_iconst (v := nI 0) hX dX6_addsPerson_9 (by decide) ?_
  refine g_ialdN hX dX6_addsPerson_10 (by assumption) (rfl) (by omega) (by first | decide | omega) ?_
  refine g_iadd hX dX6_addsPerson_11 ?_
  refine g_iload_n hX dX6_addsPerson_12 rfl rfl ?_
  refine g_iastN hX dX6_addsPerson_13 (by assumption) ((by rw [hp]; exact nI_add 2 p)) (by omega) (by first | decide | omega) ?_
  refine g_aload_n hX dX6_addsPerson_14 rfl rfl ?_
  refine g_getR hX dX6_addsPerson_15 flX6_13 (by assumption) rfl (by first | assumption | rfl) (by assumption) ?_
  refine g_iconst (v := nI 0) hX dX6_addsPerson_18 (by decide) ?_
  refine g_dup2 hX dX6_addsPerson_19 rfl rfl ?_
  refine g_ialdN hX dX6_addsPerson_20 (by assumption) (rfl) (by omega) (by first | decide | omega) ?_
  refine g_iconst (v := nI 1) hX dX6_addsPerson_21 (by decide) ?_
  refine g_iadd hX dX6_addsPerson_22 ?_
  refine g_iastN hX dX6_addsPerson_23 (by assumption) (rfl) (by omega) (by first | decide | omega) ?_
  refine g_vret hM dX6_addsPerson_24 rfl ⟨Nat.le_of_ble_eq_true rfl, Nat.le_of_ble_eq_true rfl⟩ ?_
  refine q_st ?_ hq
  rw [up_same, up_up, up_ne _ _ (show (0 : Nat) ≠ 2 + p by omega), hp, nI_add]
  rfl

set_option maxHeartbeats 4000000 in
set_option maxRecDepth 100000 in
theorem sp_X6_befriends {Γ : Ga} {d : Nat} {κ : Kp} {I : Ip} {Q : Option Value → Kp → Ip → Prop} {m i j : Nat} (hMo : MoK κ m) (hi : i < 6) (hj : j < 6) (hq : Q none κ (va_up I (κ.2.1 m 1) (adF (I (κ.2.1 m 1)) i j))) : Sp Γ d mX6_befriends [.ref (m), .int (nI i), .int (nI j)] κ I Q := by
  obtain ⟨hm, hm0, ⟨k0, n0⟩, ⟨k1, n1⟩, ⟨k2, n2⟩, ⟨k3, n3⟩, ⟨k4, n4⟩, ⟨k6, n6⟩, ⟨k8, n8⟩, ⟨k14, n14⟩, ⟨k15, n15⟩, ⟨k16, n16⟩, d01, d23, d614, d1516⟩ := id hMo
  intro X hM
  have hX := hM.std
  show GW _ mX6_befriends X 0 [(0, .ref (m)), (1, .int (nI i)), (2, .int (nI j))] [] _ _ 0 0
  refine g_aload_n hX dX6_befriends_0 rfl rfl ?_
  refine g_getR hX dX6_befriends_1 flX6_13 (by assumption) rfl (by first | assumption | rfl) (by assumption) ?_
  refine g_bipush (v := nI 8) hX dX6_befriends_4 (by decide) ?_
  refine g_iload_n hX dX6_befriends_6 rfl rfl ?_
  refine g_iadd hX dX6_befriends_7 ?_
  refine g_dup2 hX dX6_befriends_8 rfl rfl ?_
  refine g_ialdN hX dX6_befriends_9 (by assumption) (nI_add _ _) (by omega) (by first | decide | omega) ?_
  refine g_iconst (v := nI 1) hX dX6_befriends_10 (by decide) ?_
  refine g_iload_n hX dX6_befriends_11 rfl rfl ?_
  refine g_ishl hX dX6_befriends_12 ?_
  refine g_ior hX dX6_befriends_13 ?_
  refine g_iastN hX dX6_befriends_14 (by assumption) (nI_add _ _) (by omega) (by first | decide | omega) ?_
  refine g_aload_n hX dX6_befriends_15 rfl rfl ?_
  refine g_getR hX dX6_befriends_16 flX6_13 (by assumption) rfl (by first | assumption | rfl) (by assumption) ?_
  refine g_bipush (v := nI 8) hX dX6_befriends_19 (by decide) ?_
  refine g_iload_n hX dX6_befriends_21 rfl rfl ?_
  refine g_iadd hX dX6_befriends_22 ?_
  refine g_dup2 hX dX6_befriends_23 rfl rfl ?_
  refine g_ialdN hX dX6_befriends_24 (by assumption) (nI_add _ _) (by omega) (by first | decide | omega) ?_
  refine g_iconst (v := nI 1) hX dX6_befriends_25 (by decide) ?_
  refine g_iload_n hX dX6_befriends_26 rfl rfl ?_
  refine g_ishl hX dX6_befriends_27 ?_
  refine g_ior hX dX6_befriends_28 ?_
  refine g_iastN hX dX6_befriends_29 (by assumption) (nI_add _ _) (by omega) (by first | decide | omega) ?_
  refine g_vret hM dX6_befriends_30 rfl ⟨Nat.le_of_ble_eq_true rfl, Nat.le_of_ble_eq_true rfl⟩ ?_
  refine q_st ?_ hq
  rw [up_same, up_up]
  rfl

set_option maxHeartbeats 4000000 in
set_option maxRecDepth 100000 in
theorem sp_X6_addsTale {Γ : Ga} {d : Nat} {κ : Kp} {I : Ip} {Q : Option Value → Kp → Ip → Prop} {m p : Nat} {x y z w : Int32} (hMo : MoK κ m) (hp : I (κ.2.1 m 1) 1 = nI p) (hp9 : p < 9) (hq : Q none κ (va_up I (κ.2.1 m 1) (adT (I (κ.2.1 m 1)) p x y z w))) : Sp Γ d mX6_addsTale [.ref (m), .int (x), .int (y), .int (z), .int (w)] κ I Q := by
  obtain ⟨hm, hm0, ⟨k0, n0⟩, ⟨k1, n1⟩, ⟨k2, n2⟩, ⟨k3, n3⟩, ⟨k4, n4⟩, ⟨k6, n6⟩, ⟨k8, n8⟩, ⟨k14, n14⟩, ⟨k15, n15⟩, ⟨k16, n16⟩, d01, d23, d614, d1516⟩ := id hMo
  intro X hM
  have hX := hM.std
  show GW _ mX6_addsTale X 0 [(0, .ref (m)), (1, .int (x)), (2, .int (y)), (3, .int (z)), (4, .int (w))] [] _ _ 0 0
  refine g_aload_n hX dX6_addsTale_0 rfl rfl ?_
  refine g_getR hX dX6_addsTale_1 flX6_13 (by assumption) rfl (by first | assumption | rfl) (by assumption) ?_
  refine g_iconst (v := nI 1) hX dX6_addsTale_4 (by decide) ?_
  refine g_ialdN hX dX6_addsTale_5 (by assumption) (rfl) (by omega) (by first | decide | omega) ?_
  refine g_istore (lv' := [(5, .int _), (0, .ref _), (1, .int _), (2, .int _), (3, .int _), (4, .int _)]) hX dX6_addsTale_6 (by decide) rfl ?_
  refine g_aload_n hX dX6_addsTale_8 rfl rfl ?_
  refine g_getR hX dX6_addsTale_9 flX6_13 (by assumption) rfl (by first | assumption | rfl) (by assumption) ?_
  refine g_bipush (v := nI 14) hX dX6_addsTale_12 (by decide) ?_
  refine g_iload hX dX6_addsTale_14 rfl ?_
  refine g_iadd hX dX6_addsTale_16 ?_
  refine g_iload_n hX dX6_addsTale_17 rfl rfl ?_
  refine g_iastN hX dX6_addsTale_18 (by assumption) ((by rw [hp]; exact nI_add 14 p)) (by omega) (by first | decide | omega) ?_
  refine g_aload_n hX dX6_addsTale_19 rfl rfl ?_
  refine g_getR hX dX6_addsTale_20 flX6_13 (by assumption) rfl (by first | assumption | rfl) (by assumption) ?_
  refine g_bipush (v := nI 23) hX dX6_addsTale_23 (by decide) ?_
  refine g_iload hX dX6_addsTale_25 rfl ?_
  refine g_iadd hX dX6_addsTale_27 ?_
  refine g_iload_n hX dX6_addsTale_28 rfl rfl ?_
  refine g_iastN hX dX6_addsTale_29 (by assumption) ((by rw [hp]; exact nI_add 23 p)) (by omega) (by first | decide | omega) ?_
  refine g_aload_n hX dX6_addsTale_30 rfl rfl ?_
  refine g_getR hX dX6_addsTale_31 flX6_13 (by assumption) rfl (by first | assumption | rfl) (by assumption) ?_
  refine g_bipush (v := nI 32) hX dX6_addsTale_34 (by decide) ?_
  refine g_iload hX dX6_addsTale_36 rfl ?_
  refine g_iadd hX dX6_addsTale_38 ?_
  refine g_iload_n hX dX6_addsTale_39 rfl rfl ?_
  refine g_iastN hX dX6_addsTale_40 (by assumption) ((by rw [hp]; exact nI_add 32 p)) (by omega) (by first | decide | omega) ?_
  refine g_aload_n hX dX6_addsTale_41 rfl rfl ?_
  refine g_getR hX dX6_addsTale_42 flX6_13 (by assumption) rfl (by first | assumption | rfl) (by assumption) ?_
  refine g_bipush (v := nI 41) hX dX6_addsTale_45 (by decide) ?_
  refine g_iload hX dX6_addsTale_47 rfl ?_
  refine g_iadd hX dX6_addsTale_49 ?_
  refine g_iload hX dX6_addsTale_50 rfl ?_
  refine g_iastN hX dX6_addsTale_52 (by assumption) ((by rw [hp]; exact nI_add 41 p)) (by omega) (by first | decide | omega) ?_
  refine g_aload_n hX dX6_addsTale_53 rfl rfl ?_
  refine g_getR hX dX6_addsTale_54 flX6_13 (by assumption) rfl (by first | assumption | rfl) (by assumption) ?_
  refine g_iconst (v := nI 1) hX dX6_addsTale_57 (by decide) ?_
  refine g_dup2 hX dX6_addsTale_58 rfl rfl ?_
  refine g_ialdN hX dX6_addsTale_59 (by assumption) (rfl) (by omega) (by first | decide | omega) ?_
  refine g_iconst (v := nI 1) hX dX6_addsTale_60 (by decide) ?_
  refine g_iadd hX dX6_addsTale_61 ?_
  refine g_iastN hX dX6_addsTale_62 (by assumption) (rfl) (by omega) (by first | decide | omega) ?_
  refine g_vret hM dX6_addsTale_63 rfl ⟨Nat.le_of_ble_eq_true rfl, Nat.le_of_ble_eq_true rfl⟩ ?_
  refine q_st ?_ hq
  simp only [up_same, up_up]
  rw [up_ne _ _ (show (1 : Nat) ≠ 41 + p by omega), up_ne _ _ (show (1 : Nat) ≠ 32 + p by omega), up_ne _ _ (show (1 : Nat) ≠ 23 + p by omega), up_ne _ _ (show (1 : Nat) ≠ 14 + p by omega), hp, nI_add]
  rfl
