theorem om_sg36 (c i : Nat) : c + 37 + i = c + 36 + (i + 2 - 1) := by omega
theorem om_sg44 (c i : Nat) : c + 45 + i = c + 44 + (i + 2 - 1) := by omega
set_option maxHeartbeats 8000000 in
set_option maxRecDepth 100000 in
theorem sp_X5_init {Γ : Ga} {d : Nat} {κ : Kp} {I : Ip} {Q : Option Value → Kp → Ip → Prop} {c q v : Nat} (hc : c ≠ 0) (hkc : κ.1 c = (5, 0)) (hn0 : κ.2.2 = c + 1) (hq : ∀ (κ' : Kp) (J : Ip), CR κ' c J R0.2.1 R0.2.2.1 R0.1 (laidS R0.1) [] [] TXB 0 → κ'.2.2 = c + 52 → (∀ a, a < c → κ'.1 a = κ.1 a ∧ κ'.2.1 a = κ.2.1 a ∧ J a = I a) → Q none κ' J) : SpS Γ (d + 6) mX5_init [.ref c] κ I Q q v := by
  intro X hM hStr
  have hX := hM.std
  have hR := hM.room
  have kb_c0 := hkc
  have hj0 : ∀ j, j < 1 → κ.1 (c + j) = kdT j := by
    intro j hj
    obtain rfl : j = 0 := by omega
    exact hkc
  have hB0 : Bld κ I c 1 0 κ I := ⟨hn0, hj0, fun i hi => absurd hi (Nat.not_lt_zero _), fun i hi => absurd hi (Nat.not_lt_zero _), fun a _ => ⟨rfl, rfl, rfl⟩, fun h => absurd h (by decide)⟩
  show GW Γ mX5_init X 0 [(0, .ref c)] [] κ I 0 0
  refine g_aload_n hX dX5_init_0 rfl rfl ?_
  refine g_objInit hX hR dX5_init_1 oiX5_1 wg_oi wg_oc (Nat.le_of_ble_eq_true rfl) ?_
  refine g_aload_n hX dX5_init_4 rfl rfl ?_
  refine g_new (ci := 3) hX hR dX5_init_5 rfl nlX5_7 inX3 iiX3 ⟨Nat.le_of_ble_eq_true rfl, Nat.le_of_ble_eq_true rfl⟩ ?_
  refine g_dup hX dX5_init_8 rfl ?_
  refine g_callI (md' := mX3_init) (As := []) hX hR dX5_init_9 clX5_9 okX3_init rfl rfl (Nat.le_of_ble_eq_true rfl) (Nat.le_of_ble_eq_true rfl) ⟨Nat.le_of_ble_eq_true rfl, Nat.le_of_ble_eq_true rfl⟩ ?_
  refine sp_X3_init (x := κ.2.2) kNew_n (Nat.lt_succ_self _) (fun κs0 Js0 hG => ?_)
  have hN0 : (kNew κ (3, 0)).2.2 = c + 2 := by show κ.2.2 + 1 = _; omega
  have e1_0 : κs0.2.2 = c + 3 := by have h := hG.1; rw [hN0] at h; omega
  have e2_0 : ∀ a, a < (kNew κ (3, 0)).2.2 → κs0.1 a = (kNew κ (3, 0)).1 a ∧ (a ≠ κ.2.2 → Js0 a = iNew κ I a ∧ κs0.2.1 a = (kNew κ (3, 0)).2.1 a) := fun a ha => ⟨(hG.2.1 a ha).1, fun hax => ⟨(hG.2.1 a ha).2.1, (hG.2.1 a ha).2.2 hax⟩⟩
  have q0 := hG.2.2
  rw [hN0, hn0] at q0
  have e3_0 : ∀ j, 2 ≤ j → j < 3 → κs0.1 (c + j) = kdT j := fun j j1 j2 => by
    obtain ⟨i, rfl⟩ : ∃ i, j = 2 + i := ⟨j - 2, by omega⟩
    rw [← Nat.add_assoc, (q0 i (by omega)).1]
    exact (by decide : ∀ i, i < 1 → (fun _ => (7, 200)) i = kdT (2 + i)) i (by omega)
  have e4_0 : SegI 0 κs0 c := (q0 0 (by decide)).2
  have e5_0 : (0 : Nat) = 0 → Js0 (c + 1) 1 = nI 0 := fun _ => by
    rw [(hG.2.1 (c + 1) (by rw [hN0]; omega)).2.1, ← hn0, nI0]
    show va_up I κ.2.2 (fun _ => 0) κ.2.2 1 = 0
    rw [up_same]
  have kc1 : κs0.1 c = (5, 0) := by rw [(e2_0 c (by omega)).1, kNew_k (by omega)]; exact kb_c0
  have zz0 : κ.2.2 ≠ 0 := by omega
  change GW _ _ _ 12 _ [.ref _, .ref _] _ _ _ _
  refine g_putR hX dX5_init_12 flX5_10 (kc1) rfl (by first | assumption | omega) (Or.inr ⟨rfl, fun r0 h => by cases h; exact ⟨rfl, fwX5_10⟩⟩) ?_
  have hB1 := hB0.stage (K := (3, 0)) (κ2 := κs0) (J := Js0) (n := 1) (n' := 3) rfl rfl (by decide) (by decide) (by decide) rfl e1_0 e2_0 e3_0 e4_0 e5_0
  have kq1 : (κs0.1, va_up κs0.2.1 c (va_up (κs0.2.1 c) 0 κ.2.2), κs0.2.2).1 c = (5, 0) := kc1
  generalize (κs0.1, va_up κs0.2.1 c (va_up (κs0.2.1 c) 0 κ.2.2), κs0.2.2) = κb1 at hB1 kq1 ⊢
  generalize Js0 = Ib1 at hB1 ⊢
  have hn1 : κb1.2.2 = c + 3 := hB1.1
  have kb_c1 := kq1
  clear e1_0 e2_0 e3_0 e4_0 zz0 hN0 hn0 hB0 kc1 e5_0 hG q0
  refine g_aload_n hX dX5_init_15 rfl rfl ?_
  refine g_new (ci := 2) hX hR dX5_init_16 rfl nlX5_16 inX2 iiX2 ⟨Nat.le_of_ble_eq_true rfl, Nat.le_of_ble_eq_true rfl⟩ ?_
  refine g_dup hX dX5_init_19 rfl ?_
  refine g_callI (md' := mX2_init) (As := []) hX hR dX5_init_20 clX5_18 okX2_init rfl rfl (Nat.le_of_ble_eq_true rfl) (Nat.le_of_ble_eq_true rfl) ⟨Nat.le_of_ble_eq_true rfl, Nat.le_of_ble_eq_true rfl⟩ ?_
  refine sp_X2_init (x := κb1.2.2) kNew_n (Nat.lt_succ_self _) (fun κs1 Js1 e1_1 e2_1 e3_1 e4_1 => ?_)
  have hN1 : (kNew κb1 (2, 0)).2.2 = c + 4 := by show κb1.2.2 + 1 = _; omega
  rw [hN1] at e1_1 e3_1 e4_1
  replace e3_1 : ∀ j, 4 ≤ j → j < 5 → κs1.1 (c + j) = kdT j := fun j j1 j2 => by
    obtain rfl : j = 4 := by omega
    exact e3_1
  replace e4_1 : SegI 1 κs1 c := by rw [hn1] at e4_1; exact e4_1
  have kc2 : κs1.1 c = (5, 0) := by rw [(e2_1 c (by omega)).1, kNew_k (by omega)]; exact kb_c1
  have zz1 : κb1.2.2 ≠ 0 := by omega
  change GW _ _ _ 23 _ [.ref _, .ref _] _ _ _ _
  refine g_putR hX dX5_init_23 flX5_19 (kc2) rfl (by first | assumption | omega) (Or.inr ⟨rfl, fun r0 h => by cases h; exact ⟨rfl, fwX5_19⟩⟩) ?_
  have hB2 := hB1.stage (K := (2, 0)) (κ2 := κs1) (J := Js1) (n := 3) (n' := 5) rfl rfl (by decide) (by decide) (by decide) rfl e1_1 e2_1 e3_1 e4_1 (fun e => absurd e (by decide))
  have kq2 : (κs1.1, va_up κs1.2.1 c (va_up (κs1.2.1 c) 1 κb1.2.2), κs1.2.2).1 c = (5, 0) := kc2
  generalize (κs1.1, va_up κs1.2.1 c (va_up (κs1.2.1 c) 1 κb1.2.2), κs1.2.2) = κb2 at hB2 kq2 ⊢
  generalize Js1 = Ib2 at hB2 ⊢
  have hn2 : κb2.2.2 = c + 5 := hB2.1
  have kb_c2 := kq2
  clear e1_1 e2_1 e3_1 e4_1 zz1 hN1 hn1 hB1 kc2
  refine g_aload_n hX dX5_init_26 rfl rfl ?_
  refine g_new (ci := 2) hX hR dX5_init_27 rfl nlX5_16 inX2 iiX2 ⟨Nat.le_of_ble_eq_true rfl, Nat.le_of_ble_eq_true rfl⟩ ?_
  refine g_dup hX dX5_init_30 rfl ?_
  refine g_callI (md' := mX2_init) (As := []) hX hR dX5_init_31 clX5_18 okX2_init rfl rfl (Nat.le_of_ble_eq_true rfl) (Nat.le_of_ble_eq_true rfl) ⟨Nat.le_of_ble_eq_true rfl, Nat.le_of_ble_eq_true rfl⟩ ?_
  refine sp_X2_init (x := κb2.2.2) kNew_n (Nat.lt_succ_self _) (fun κs2 Js2 e1_2 e2_2 e3_2 e4_2 => ?_)
  have hN2 : (kNew κb2 (2, 0)).2.2 = c + 6 := by show κb2.2.2 + 1 = _; omega
  rw [hN2] at e1_2 e3_2 e4_2
  replace e3_2 : ∀ j, 6 ≤ j → j < 7 → κs2.1 (c + j) = kdT j := fun j j1 j2 => by
    obtain rfl : j = 6 := by omega
    exact e3_2
  replace e4_2 : SegI 2 κs2 c := by rw [hn2] at e4_2; exact e4_2
  have kc3 : κs2.1 c = (5, 0) := by rw [(e2_2 c (by omega)).1, kNew_k (by omega)]; exact kb_c2
  have zz2 : κb2.2.2 ≠ 0 := by omega
  change GW _ _ _ 34 _ [.ref _, .ref _] _ _ _ _
  refine g_putR hX dX5_init_34 flX5_23 (kc3) rfl (by first | assumption | omega) (Or.inr ⟨rfl, fun r0 h => by cases h; exact ⟨rfl, fwX5_23⟩⟩) ?_
  have hB3 := hB2.stage (K := (2, 0)) (κ2 := κs2) (J := Js2) (n := 5) (n' := 7) rfl rfl (by decide) (by decide) (by decide) rfl e1_2 e2_2 e3_2 e4_2 (fun e => absurd e (by decide))
  have kq3 : (κs2.1, va_up κs2.2.1 c (va_up (κs2.2.1 c) 2 κb2.2.2), κs2.2.2).1 c = (5, 0) := kc3
  generalize (κs2.1, va_up κs2.2.1 c (va_up (κs2.2.1 c) 2 κb2.2.2), κs2.2.2) = κb3 at hB3 kq3 ⊢
  generalize Js2 = Ib3 at hB3 ⊢
  have hn3 : κb3.2.2 = c + 7 := hB3.1
  have kb_c3 := kq3
  clear e1_2 e2_2 e3_2 e4_2 zz2 hN2 hn2 hB2 kc3
  refine g_aload_n hX dX5_init_37 rfl rfl ?_
  refine g_new (ci := 1) hX hR dX5_init_38 rfl nlX5_26 inX1 iiX1 ⟨Nat.le_of_ble_eq_true rfl, Nat.le_of_ble_eq_true rfl⟩ ?_
  refine g_dup hX dX5_init_41 rfl ?_
  refine g_bipush (v := nI 8) hX dX5_init_42 (by decide) ?_
  refine g_callI (md' := mX1_init) (As := [.int _]) hX hR dX5_init_44 clX5_28 okX1_init rfl rfl (Nat.le_of_ble_eq_true rfl) (Nat.le_of_ble_eq_true rfl) ⟨Nat.le_of_ble_eq_true rfl, Nat.le_of_ble_eq_true rfl⟩ ?_
  refine sp_X1_init (x := κb3.2.2) (n := 8) kNew_n (Nat.lt_succ_self _) (by decide) (by decide) (fun κs3 Js3 hG => ?_)
  have hN3 : (kNew κb3 (1, 0)).2.2 = c + 8 := by show κb3.2.2 + 1 = _; omega
  have e1_3 : κs3.2.2 = c + 25 := by have h := hG.1; rw [hN3] at h; omega
  have e2_3 : ∀ a, a < (kNew κb3 (1, 0)).2.2 → κs3.1 a = (kNew κb3 (1, 0)).1 a ∧ (a ≠ κb3.2.2 → Js3 a = iNew κb3 Ib3 a ∧ κs3.2.1 a = (kNew κb3 (1, 0)).2.1 a) := hG.2.1
  have q3 := hG.2.2
  rw [hN3, hn3] at q3
  obtain ⟨qa3, qb3, qc3⟩ := q3
  have e3_3 : ∀ j, 8 ≤ j → j < 25 → κs3.1 (c + j) = kdT j := fun j j1 j2 => by
    by_cases e : j = 8
    · subst e; exact qa3
    · obtain ⟨i, hi, hij⟩ : ∃ i, i < 8 ∧ (j = 8 + 1 + 2 * i ∨ j = 8 + 2 + 2 * i) := ⟨(j - 8 - 1) / 2, by omega, by omega⟩
      obtain ⟨w1, w2, -⟩ := qc3 i hi
      rcases hij with rfl | rfl
      · rw [show c + (8 + 1 + 2 * i) = c + 8 + 1 + 2 * i by omega, w1]
        exact ((by decide : ∀ i, i < 8 → (2, 0) = kdT (8 + 1 + 2 * i)) i hi)
      · rw [show c + (8 + 2 + 2 * i) = c + 8 + 2 + 2 * i by omega, w2]
        exact ((by decide : ∀ i, i < 8 → (8, 6) = kdT (8 + 2 + 2 * i)) i hi)
  have e4_3 : SegI 3 κs3 c := ⟨qb3, fun i hi => ⟨(qc3 i hi).2.2.1, (qc3 i hi).2.2.2⟩⟩
  have kc4 : κs3.1 c = (5, 0) := by rw [(e2_3 c (by omega)).1, kNew_k (by omega)]; exact kb_c3
  have zz3 : κb3.2.2 ≠ 0 := by omega
  change GW _ _ _ 47 _ [.ref _, .ref _] _ _ _ _
  refine g_putR hX dX5_init_47 flX5_31 (kc4) rfl (by first | assumption | omega) (Or.inr ⟨rfl, fun r0 h => by cases h; exact ⟨rfl, fwX5_31⟩⟩) ?_
  have hB4 := hB3.stage (K := (1, 0)) (κ2 := κs3) (J := Js3) (n := 7) (n' := 25) rfl rfl (by decide) (by decide) (by decide) rfl e1_3 e2_3 e3_3 e4_3 (fun e => absurd e (by decide))
  have kq4 : (κs3.1, va_up κs3.2.1 c (va_up (κs3.2.1 c) 3 κb3.2.2), κs3.2.2).1 c = (5, 0) := kc4
  generalize (κs3.1, va_up κs3.2.1 c (va_up (κs3.2.1 c) 3 κb3.2.2), κs3.2.2) = κb4 at hB4 kq4 ⊢
  generalize Js3 = Ib4 at hB4 ⊢
  have hn4 : κb4.2.2 = c + 25 := hB4.1
  have kb_c4 := kq4
  clear e1_3 e2_3 e3_3 e4_3 zz3 hN3 hn3 hB3 kc4 hG
  refine g_aload_n hX dX5_init_50 rfl rfl ?_
  refine g_new (ci := 1) hX hR dX5_init_51 rfl nlX5_26 inX1 iiX1 ⟨Nat.le_of_ble_eq_true rfl, Nat.le_of_ble_eq_true rfl⟩ ?_
  refine g_dup hX dX5_init_54 rfl ?_
  refine g_iconst (v := nI 2) hX dX5_init_55 (by decide) ?_
  refine g_callI (md' := mX1_init) (As := [.int _]) hX hR dX5_init_56 clX5_28 okX1_init rfl rfl (Nat.le_of_ble_eq_true rfl) (Nat.le_of_ble_eq_true rfl) ⟨Nat.le_of_ble_eq_true rfl, Nat.le_of_ble_eq_true rfl⟩ ?_
  refine sp_X1_init (x := κb4.2.2) (n := 2) kNew_n (Nat.lt_succ_self _) (by decide) (by decide) (fun κs4 Js4 hG => ?_)
  have hN4 : (kNew κb4 (1, 0)).2.2 = c + 26 := by show κb4.2.2 + 1 = _; omega
  have e1_4 : κs4.2.2 = c + 31 := by have h := hG.1; rw [hN4] at h; omega
  have e2_4 : ∀ a, a < (kNew κb4 (1, 0)).2.2 → κs4.1 a = (kNew κb4 (1, 0)).1 a ∧ (a ≠ κb4.2.2 → Js4 a = iNew κb4 Ib4 a ∧ κs4.2.1 a = (kNew κb4 (1, 0)).2.1 a) := hG.2.1
  have q4 := hG.2.2
  rw [hN4, hn4] at q4
  obtain ⟨qa4, qb4, qc4⟩ := q4
  have e3_4 : ∀ j, 26 ≤ j → j < 31 → κs4.1 (c + j) = kdT j := fun j j1 j2 => by
    by_cases e : j = 26
    · subst e; exact qa4
    · obtain ⟨i, hi, hij⟩ : ∃ i, i < 2 ∧ (j = 26 + 1 + 2 * i ∨ j = 26 + 2 + 2 * i) := ⟨(j - 26 - 1) / 2, by omega, by omega⟩
      obtain ⟨w1, w2, -⟩ := qc4 i hi
      rcases hij with rfl | rfl
      · rw [show c + (26 + 1 + 2 * i) = c + 26 + 1 + 2 * i by omega, w1]
        exact ((by decide : ∀ i, i < 2 → (2, 0) = kdT (26 + 1 + 2 * i)) i hi)
      · rw [show c + (26 + 2 + 2 * i) = c + 26 + 2 + 2 * i by omega, w2]
        exact ((by decide : ∀ i, i < 2 → (8, 6) = kdT (26 + 2 + 2 * i)) i hi)
  have e4_4 : SegI 4 κs4 c := ⟨qb4, fun i hi => ⟨(qc4 i hi).2.2.1, (qc4 i hi).2.2.2⟩⟩
  have kc5 : κs4.1 c = (5, 0) := by rw [(e2_4 c (by omega)).1, kNew_k (by omega)]; exact kb_c4
  have zz4 : κb4.2.2 ≠ 0 := by omega
  change GW _ _ _ 59 _ [.ref _, .ref _] _ _ _ _
  refine g_putR hX dX5_init_59 flX5_35 (kc5) rfl (by first | assumption | omega) (Or.inr ⟨rfl, fun r0 h => by cases h; exact ⟨rfl, fwX5_35⟩⟩) ?_
  have hB5 := hB4.stage (K := (1, 0)) (κ2 := κs4) (J := Js4) (n := 25) (n' := 31) rfl rfl (by decide) (by decide) (by decide) rfl e1_4 e2_4 e3_4 e4_4 (fun e => absurd e (by decide))
  have kq5 : (κs4.1, va_up κs4.2.1 c (va_up (κs4.2.1 c) 4 κb4.2.2), κs4.2.2).1 c = (5, 0) := kc5
  generalize (κs4.1, va_up κs4.2.1 c (va_up (κs4.2.1 c) 4 κb4.2.2), κs4.2.2) = κb5 at hB5 kq5 ⊢
  generalize Js4 = Ib5 at hB5 ⊢
  have hn5 : κb5.2.2 = c + 31 := hB5.1
  have kb_c5 := kq5
  clear e1_4 e2_4 e3_4 e4_4 zz4 hN4 hn4 hB4 kc5 hG
  refine g_aload_n hX dX5_init_62 rfl rfl ?_
  refine g_new (ci := 0) hX hR dX5_init_63 rfl nlX5_38 inX0 iiX0 ⟨Nat.le_of_ble_eq_true rfl, Nat.le_of_ble_eq_true rfl⟩ ?_
  refine g_dup hX dX5_init_66 rfl ?_
  refine g_callI (md' := mX0_init) (As := []) hX hR dX5_init_67 clX5_40 okX0_init rfl rfl (Nat.le_of_ble_eq_true rfl) (Nat.le_of_ble_eq_true rfl) ⟨Nat.le_of_ble_eq_true rfl, Nat.le_of_ble_eq_true rfl⟩ ?_
  refine sp_X0_init (x := κb5.2.2) kNew_n (Nat.lt_succ_self _) (fun κs5 Js5 hG => ?_)
  have hN5 : (kNew κb5 (0, 0)).2.2 = c + 32 := by show κb5.2.2 + 1 = _; omega
  have e1_5 : κs5.2.2 = c + 36 := by have h := hG.1; rw [hN5] at h; omega
  have e2_5 : ∀ a, a < (kNew κb5 (0, 0)).2.2 → κs5.1 a = (kNew κb5 (0, 0)).1 a ∧ (a ≠ κb5.2.2 → Js5 a = iNew κb5 Ib5 a ∧ κs5.2.1 a = (kNew κb5 (0, 0)).2.1 a) := fun a ha => ⟨(hG.2.1 a ha).1, fun hax => ⟨(hG.2.1 a ha).2.1, (hG.2.1 a ha).2.2 hax⟩⟩
  have q5 := hG.2.2
  rw [hN5, hn5] at q5
  have e3_5 : ∀ j, 32 ≤ j → j < 36 → κs5.1 (c + j) = kdT j := fun j j1 j2 => by
    obtain ⟨i, rfl⟩ : ∃ i, j = 32 + i := ⟨j - 32, by omega⟩
    rw [← Nat.add_assoc, (q5 i (by omega)).1]
    exact (by decide : ∀ i, i < 4 → kd0 i = kdT (32 + i)) i (by omega)
  have e4_5 : SegI 5 κs5 c := fun k hk => (q5 k hk).2
  have kc6 : κs5.1 c = (5, 0) := by rw [(e2_5 c (by omega)).1, kNew_k (by omega)]; exact kb_c5
  have zz5 : κb5.2.2 ≠ 0 := by omega
  change GW _ _ _ 70 _ [.ref _, .ref _] _ _ _ _
  refine g_putR hX dX5_init_70 flX5_41 (kc6) rfl (by first | assumption | omega) (Or.inr ⟨rfl, fun r0 h => by cases h; exact ⟨rfl, fwX5_41⟩⟩) ?_
  have hB6 := hB5.stage (K := (0, 0)) (κ2 := κs5) (J := Js5) (n := 31) (n' := 36) rfl rfl (by decide) (by decide) (by decide) rfl e1_5 e2_5 e3_5 e4_5 (fun e => absurd e (by decide))
  have kq6 : (κs5.1, va_up κs5.2.1 c (va_up (κs5.2.1 c) 5 κb5.2.2), κs5.2.2).1 c = (5, 0) := kc6
  generalize (κs5.1, va_up κs5.2.1 c (va_up (κs5.2.1 c) 5 κb5.2.2), κs5.2.2) = κb6 at hB6 kq6 ⊢
  generalize Js5 = Ib6 at hB6 ⊢
  have hn6 : κb6.2.2 = c + 36 := hB6.1
  have kb_c6 := kq6
  clear e1_5 e2_5 e3_5 e4_5 zz5 hN5 hn5 hB5 kc6 hG q5
  refine g_aload_n hX dX5_init_73 rfl rfl ?_
  refine g_new (ci := 4) hX hR dX5_init_74 rfl nlX5_45 inX4 iiX4 ⟨Nat.le_of_ble_eq_true rfl, Nat.le_of_ble_eq_true rfl⟩ ?_
  refine g_dup hX dX5_init_77 rfl ?_
  refine g_callI (md' := mX4_init) (As := []) hX hR dX5_init_78 clX5_47 okX4_init rfl rfl (Nat.le_of_ble_eq_true rfl) (Nat.le_of_ble_eq_true rfl) ⟨Nat.le_of_ble_eq_true rfl, Nat.le_of_ble_eq_true rfl⟩ ?_
  refine sp_X4_init (x := κb6.2.2) kNew_n (Nat.lt_succ_self _) (fun κs6 Js6 hG => ?_)
  have hN6 : (kNew κb6 (4, 0)).2.2 = c + 37 := by show κb6.2.2 + 1 = _; omega
  have e1_6 : κs6.2.2 = c + 44 := by have h := hG.1; rw [hN6] at h; omega
  have e2_6 : ∀ a, a < (kNew κb6 (4, 0)).2.2 → κs6.1 a = (kNew κb6 (4, 0)).1 a ∧ (a ≠ κb6.2.2 → Js6 a = iNew κb6 Ib6 a ∧ κs6.2.1 a = (kNew κb6 (4, 0)).2.1 a) := fun a ha => ⟨(hG.2.1 a ha).1, fun hax => ⟨(hG.2.1 a ha).2.1, (hG.2.1 a ha).2.2 hax⟩⟩
  have q6 := hG.2.2
  rw [hN6, hn6] at q6
  have e3_6 : ∀ j, 37 ≤ j → j < 44 → κs6.1 (c + j) = kdT j := fun j j1 j2 => by
    obtain ⟨i, rfl⟩ : ∃ i, j = 37 + i := ⟨j - 37, by omega⟩
    rw [← Nat.add_assoc, (q6 i (by omega)).1]
    exact (by decide : ∀ i, i < 7 → kd4 i = kdT (37 + i)) i (by omega)
  have e4_6 : SegI 6 κs6 c := by
    show ∀ k, 2 ≤ k → k ≤ 8 → κs6.2.1 (c + 36) k = c + 36 + (k - 1)
    intro k k1 k2
    obtain ⟨i, rfl⟩ : ∃ i, k = i + 2 := ⟨k - 2, (Nat.sub_add_cancel k1).symm⟩
    have h : κs6.2.1 (c + 36) (i + 2) = c + 37 + i := (q6 i (by omega)).2
    exact h.trans (om_sg36 c i)
  have kc7 : κs6.1 c = (5, 0) := by rw [(e2_6 c (by omega)).1, kNew_k (by omega)]; exact kb_c6
  have zz6 : κb6.2.2 ≠ 0 := by omega
  change GW _ _ _ 81 _ [.ref _, .ref _] _ _ _ _
  refine g_putR hX dX5_init_81 flX5_48 (kc7) rfl (by assumption) (Or.inl rfl) ?_
  have hB7 := hB6.stage (K := (4, 0)) (κ2 := κs6) (J := Js6) (n := 36) (n' := 44) rfl rfl (by decide) (by decide) (by decide) rfl e1_6 e2_6 e3_6 e4_6 (fun e => absurd e (by decide))
  have kq7 : (κs6.1, va_up κs6.2.1 c (va_up (κs6.2.1 c) 6 κb6.2.2), κs6.2.2).1 c = (5, 0) := kc7
  generalize (κs6.1, va_up κs6.2.1 c (va_up (κs6.2.1 c) 6 κb6.2.2), κs6.2.2) = κb7 at hB7 kq7 ⊢
  generalize Js6 = Ib7 at hB7 ⊢
  have hn7 : κb7.2.2 = c + 44 := hB7.1
  have kb_c7 := kq7
  clear e1_6 e2_6 e3_6 e4_6 zz6 hN6 hn6 hB6 kc7 hG q6
  refine g_aload_n hX dX5_init_84 rfl rfl ?_
  refine g_new (ci := 4) hX hR dX5_init_85 rfl nlX5_45 inX4 iiX4 ⟨Nat.le_of_ble_eq_true rfl, Nat.le_of_ble_eq_true rfl⟩ ?_
  refine g_dup hX dX5_init_88 rfl ?_
  refine g_callI (md' := mX4_init) (As := []) hX hR dX5_init_89 clX5_47 okX4_init rfl rfl (Nat.le_of_ble_eq_true rfl) (Nat.le_of_ble_eq_true rfl) ⟨Nat.le_of_ble_eq_true rfl, Nat.le_of_ble_eq_true rfl⟩ ?_
  refine sp_X4_init (x := κb7.2.2) kNew_n (Nat.lt_succ_self _) (fun κs7 Js7 hG => ?_)
  have hN7 : (kNew κb7 (4, 0)).2.2 = c + 45 := by show κb7.2.2 + 1 = _; omega
  have e1_7 : κs7.2.2 = c + 52 := by have h := hG.1; rw [hN7] at h; omega
  have e2_7 : ∀ a, a < (kNew κb7 (4, 0)).2.2 → κs7.1 a = (kNew κb7 (4, 0)).1 a ∧ (a ≠ κb7.2.2 → Js7 a = iNew κb7 Ib7 a ∧ κs7.2.1 a = (kNew κb7 (4, 0)).2.1 a) := fun a ha => ⟨(hG.2.1 a ha).1, fun hax => ⟨(hG.2.1 a ha).2.1, (hG.2.1 a ha).2.2 hax⟩⟩
  have q7 := hG.2.2
  rw [hN7, hn7] at q7
  have e3_7 : ∀ j, 45 ≤ j → j < 52 → κs7.1 (c + j) = kdT j := fun j j1 j2 => by
    obtain ⟨i, rfl⟩ : ∃ i, j = 45 + i := ⟨j - 45, by omega⟩
    rw [← Nat.add_assoc, (q7 i (by omega)).1]
    exact (by decide : ∀ i, i < 7 → kd4 i = kdT (45 + i)) i (by omega)
  have e4_7 : SegI 7 κs7 c := by
    show ∀ k, 2 ≤ k → k ≤ 8 → κs7.2.1 (c + 44) k = c + 44 + (k - 1)
    intro k k1 k2
    obtain ⟨i, rfl⟩ : ∃ i, k = i + 2 := ⟨k - 2, (Nat.sub_add_cancel k1).symm⟩
    have h : κs7.2.1 (c + 44) (i + 2) = c + 45 + i := (q7 i (by omega)).2
    exact h.trans (om_sg44 c i)
  have kc8 : κs7.1 c = (5, 0) := by rw [(e2_7 c (by omega)).1, kNew_k (by omega)]; exact kb_c7
  have zz7 : κb7.2.2 ≠ 0 := by omega
  change GW _ _ _ 92 _ [.ref _, .ref _] _ _ _ _
  refine g_putR hX dX5_init_92 flX5_52 (kc8) rfl (by assumption) (Or.inl rfl) ?_
  have hB8 := hB7.stage (K := (4, 0)) (κ2 := κs7) (J := Js7) (n := 44) (n' := 52) rfl rfl (by decide) (by decide) (by decide) rfl e1_7 e2_7 e3_7 e4_7 (fun e => absurd e (by decide))
  have kq8 : (κs7.1, va_up κs7.2.1 c (va_up (κs7.2.1 c) 7 κb7.2.2), κs7.2.2).1 c = (5, 0) := kc8
  generalize (κs7.1, va_up κs7.2.1 c (va_up (κs7.2.1 c) 7 κb7.2.2), κs7.2.2) = κb8 at hB8 kq8 ⊢
  generalize Js7 = Ib8 at hB8 ⊢
  have hn8 : κb8.2.2 = c + 52 := hB8.1
  have kb_c8 := kq8
  clear e1_7 e2_7 e3_7 e4_7 zz7 hN7 hn7 hB7 kc8 hG q7
  refine g_iconst (v := nI 0) hX dX5_init_95 (by decide) ?_
  refine g_istore_n (lv' := [(1, .int _), (0, .ref _)]) hX dX5_init_96 rfl (by decide) rfl ?_
  refine g_cs (a' := 63) (b' := 805) ⟨rfl, rfl⟩ ?_
  refine g_pick [0, 1] rfl (lp_X5_init_97 (I := Ib8) hM hStr (hB8.ck hc) (fun κ' J y1 y2 y3 => hq κ' J y1 ?_ (fun a ha => ?_)) 119 0 Ib8 rfl (by decide) (hB8.2.2.2.2.2 (by decide)) (fun k hk => absurd hk (Nat.not_lt_zero _)) (fun _ _ _ => rfl))
  · rw [y2.2.1]; exact hn8
  · obtain ⟨w1, w2, w3⟩ := hB8.2.2.2.2.1 a ha
    exact ⟨by rw [y2.1]; exact w1, (y2.2.2 a (Or.inl ha)).trans w2, (y3 a (Or.inl ha)).trans w3⟩
