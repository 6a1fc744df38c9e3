set_option maxHeartbeats 4000000 in
set_option maxRecDepth 100000 in
theorem sp_X6_in {Γ : Ga} {d : Nat} {κ : Kp} {I : Ip} {Q : Option Value → Kp → Ip → Prop} {v l m : Int64}  (hq : Q (some (.int (b2i (decide (l.toInt ≤ v.toInt ∧ v.toInt ≤ m.toInt))))) κ I) : Sp Γ d mX6_in [.long (v), .long (l), .long (m)] κ I Q := by
  intro X hM
  have hX := hM.std
  show GW _ mX6_in X 0 [(0, .long (v)), (2, .long (l)), (4, .long (m))] [] _ _ 0 0
  refine g_lload_n hX dX6_in_0 rfl rfl ?_
  refine g_lload_n hX dX6_in_1 rfl rfl ?_
  refine g_lcmp hX dX6_in_2 ?_
  refine g_iflt 17 hX dX6_in_3 (by decide) (fun c3 => ?_) (fun c3 => ?_)
  · refine g_iconst (v := nI 0) hX dX6_in_17 (by decide) ?_
    refine g_iret hM dX6_in_18 rfl (rfl) ⟨Nat.le_of_ble_eq_true rfl, Nat.le_of_ble_eq_true rfl⟩ ?_
    refine q_int ?_ hq
    simp only [lgc_lt, lgc_gt] at *
    simp [b2i, nI0, nI1]
    omega
  · refine g_lload_n hX dX6_in_6 rfl rfl ?_
    refine g_lload hX dX6_in_7 rfl ?_
    refine g_lcmp hX dX6_in_9 ?_
    refine g_ifgt 17 hX dX6_in_10 (by decide) (fun c10 => ?_) (fun c10 => ?_)
    · refine g_iconst (v := nI 0) hX dX6_in_17 (by decide) ?_
      refine g_iret hM dX6_in_18 rfl (rfl) ⟨Nat.le_of_ble_eq_true rfl, Nat.le_of_ble_eq_true rfl⟩ ?_
      refine q_int ?_ hq
      simp only [lgc_lt, lgc_gt] at *
      simp [b2i, nI0, nI1]
      omega
    · refine g_iconst (v := nI 1) hX dX6_in_13 (by decide) ?_
      refine g_goto 18 hX dX6_in_14 (by decide) ?_
      refine g_iret hM dX6_in_18 rfl (rfl) ⟨Nat.le_of_ble_eq_true rfl, Nat.le_of_ble_eq_true rfl⟩ ?_
      refine q_int ?_ hq
      simp only [lgc_lt, lgc_gt] at *
      simp [b2i, nI0, nI1]
      omega

set_option maxHeartbeats 4000000 in
set_option maxRecDepth 100000 in
theorem sp_X6_has {Γ : Ga} {d : Nat} {κ : Kp} {I : Ip} {Q : Option Value → Kp → Ip → Prop} {x : Int32} {j : Nat} (hj : j < 32) (hq : Q (some (.int (b2i (bt x j)))) κ I) : Sp Γ d mX6_has [.int (x), .int (nI j)] κ I Q := by
  intro X hM
  have hX := hM.std
  show GW _ mX6_has X 0 [(0, .int (x)), (1, .int (nI j))] [] _ _ 0 0
  refine g_iload_n hX dX6_has_0 rfl rfl ?_
  refine g_iload_n hX dX6_has_1 rfl rfl ?_
  refine g_ishr hX dX6_has_2 ?_
  refine g_iconst (v := nI 1) hX dX6_has_3 (by decide) ?_
  refine g_iand hX dX6_has_4 ?_
  refine g_iconst (v := nI 1) hX dX6_has_5 (by decide) ?_
  refine g_icmpne 13 hX dX6_has_6 (by decide) (fun c6 => ?_) (fun c6 => ?_)
  · refine g_iconst (v := nI 0) hX dX6_has_13 (by decide) ?_
    refine g_iret hM dX6_has_14 rfl (rfl) ⟨Nat.le_of_ble_eq_true rfl, Nat.le_of_ble_eq_true rfl⟩ ?_
    refine q_int ?_ hq
    rw [bt_shr hj] at *
    simp [b2i, nI0, nI1, *]
  · refine g_iconst (v := nI 1) hX dX6_has_9 (by decide) ?_
    refine g_goto 14 hX dX6_has_10 (by decide) ?_
    refine g_iret hM dX6_has_14 rfl (rfl) ⟨Nat.le_of_ble_eq_true rfl, Nat.le_of_ble_eq_true rfl⟩ ?_
    refine q_int ?_ hq
    rw [bt_shr hj] at *
    simp [b2i, nI0, nI1, *]

def pc9 (k : Nat) : Nat := fb_ct (fun i => k.testBit i) 9
theorem pc9_step : ∀ k, k < 512 → k ≠ 0 → nI k &&& (nI k - nI 1) = nI (k &&& (k - 1)) ∧ pc9 (k &&& (k - 1)) + 1 = pc9 k ∧ k &&& (k - 1) < k := by decide +kernel
theorem pc9_0 : pc9 0 = 0 := by decide +kernel

set_option maxHeartbeats 4000000 in
set_option maxRecDepth 100000 in
theorem lp_X6_bits_4 {Γ : Ga} {d : Nat} {κ : Kp} {Q : Option Value → Kp → Ip → Prop} {X : Cx} {x : Int32} {I : Ip} {t : Nat} (hM : Mx Γ d mX6_bits Q X)  (hq : Q (some (.int (nI t))) κ I) : ∀ (n : Nat) (k c : Nat), k = n → k < 512 → c + pc9 k = t → GW Γ mX6_bits X 4 [(2, .int (nI k)), (1, .int (nI c)), (0, .int (x))] [] κ (I) 0 0 := by
  have hX := hM.std
  intro n
  induction n using Nat.strongRecOn with
  | ind n ih =>
    intro k c hkn hk hc
    refine g_iload_n hX dX6_bits_4 rfl rfl ?_
    refine g_ifeq 20 hX dX6_bits_5 (by decide) (fun c5 => ?_) (fun c5 => ?_)
    · refine g_iload_n hX dX6_bits_20 rfl rfl ?_
      refine g_iret hM dX6_bits_21 rfl (rfl) ⟨Nat.le_of_ble_eq_true rfl, Nat.le_of_ble_eq_true rfl⟩ ?_
      have hk0 : k = 0 := by
        rcases Nat.eq_zero_or_pos k with h | h
        · exact h
        · exact absurd c5 (nI_ne0 h (by omega))
      subst hk0
      rw [pc9_0] at hc
      exact q_int (by rw [← hc]; rfl) hq
    · refine g_iinc (lv' := [(1, .int _), (2, .int _), (0, .int _)]) hX dX6_bits_8 rfl (by first | exact nI_inc _ | rfl) (by decide) rfl ?_
      refine g_iload_n hX dX6_bits_11 rfl rfl ?_
      refine g_iload_n hX dX6_bits_12 rfl rfl ?_
      refine g_iconst (v := nI 1) hX dX6_bits_13 (by decide) ?_
      refine g_isub hX dX6_bits_14 ?_
      refine g_iand hX dX6_bits_15 ?_
      refine g_istore_n (lv' := [(2, .int _), (1, .int _), (0, .int _)]) hX dX6_bits_16 rfl (by decide) rfl ?_
      refine g_goto 4 hX dX6_bits_17 (by decide) ?_
      obtain ⟨e1, e2, e3⟩ := pc9_step k hk (fun e => c5 (by rw [e]; exact nI0))
      rw [e1]
      exact g_pick [0, 1, 2] rfl (ih _ (by omega) (k &&& (k - 1)) (c + 1) rfl (by omega) (by omega))

set_option maxHeartbeats 4000000 in
set_option maxRecDepth 100000 in
theorem sp_X6_bits {Γ : Ga} {d : Nat} {κ : Kp} {I : Ip} {Q : Option Value → Kp → Ip → Prop} {k : Nat} (hk : k < 512) (hq : Q (some (.int (nI (pc9 k)))) κ I) : Sp Γ d mX6_bits [.int (nI k)] κ I Q := by
  intro X hM
  have hX := hM.std
  show GW _ mX6_bits X 0 [(0, .int (nI k))] [] _ _ 0 0
  refine g_iconst (v := nI 0) hX dX6_bits_0 (by decide) ?_
  refine g_istore_n (lv' := [(1, .int _), (0, .int _)]) hX dX6_bits_1 rfl (by decide) rfl ?_
  refine g_iload_n hX dX6_bits_2 rfl rfl ?_
  refine g_istore_n (lv' := [(2, .int _), (1, .int _), (0, .int _)]) hX dX6_bits_3 rfl (by decide) rfl ?_
  exact g_pick [0, 1, 2] rfl (lp_X6_bits_4 hM hq k k 0 rfl hk (by omega))

set_option maxHeartbeats 4000000 in
set_option maxRecDepth 100000 in
theorem lp_X6_copies_3 {Γ : Ga} {d : Nat} {κ : Kp} {Q : Option Value → Kp → Ip → Prop} {X : Cx} {I : Ip} {f t i j m N1 N2 : Nat} (hM : Mx Γ d mX6_copies Q X) (hf : κ.1 f = (8, N1)) (ht : κ.1 t = (8, N2)) (h1 : i + m ≤ N1) (h2 : j + m ≤ N2) (h3 : N1 < 1000) (h4 : N2 < 1000) (hne : f ≠ t) (hq : Q none κ (va_up I t (fb_put (I t) (fun q => I f (i + q)) j m))) : ∀ (n : Nat) (k : Nat), n = m - k → k ≤ m → GW Γ mX6_copies X 3 [(5, .int (nI k)), (0, .ref (f)), (1, .int (nI i)), (2, .ref (t)), (3, .int (nI j)), (4, .int (nI m))] [] κ (va_up I t (fb_put (I t) (fun q => I f (i + q)) j k)) 0 0 := by
  have hX := hM.std
  intro n
  induction n using Nat.strongRecOn with
  | ind n ih =>
    intro k hn hk
    refine g_iload hX dX6_copies_3 rfl ?_
    refine g_iload hX dX6_copies_5 rfl ?_
    refine g_icmpge 28 hX dX6_copies_7 (by decide) (fun c7 => ?_) (fun c7 => ?_)
    · rw [nI_leI (by omega) (by omega)] at c7
      refine g_vret hM dX6_copies_28 rfl ⟨Nat.le_of_ble_eq_true rfl, Nat.le_of_ble_eq_true rfl⟩ ?_
      have e : k = m := by omega
      subst e
      exact hq
    · rw [nI_leI (by omega) (by omega)] at c7
      refine g_aload_n hX dX6_copies_10 rfl rfl ?_
      refine g_iload_n hX dX6_copies_11 rfl rfl ?_
      refine g_iload hX dX6_copies_12 rfl ?_
      refine g_iadd hX dX6_copies_14 ?_
      refine g_aload_n hX dX6_copies_15 rfl rfl ?_
      refine g_iload_n hX dX6_copies_16 rfl rfl ?_
      refine g_iload hX dX6_copies_17 rfl ?_
      refine g_iadd hX dX6_copies_19 ?_
      refine g_ialdN hX dX6_copies_20 (by assumption) (nI_add _ _) (by omega) (by first | decide | omega) ?_
      refine g_iastN hX dX6_copies_21 (by assumption) (nI_add _ _) (by omega) (by first | decide | omega) ?_
      refine g_iinc (lv' := [(5, .int _), (0, .ref _), (1, .int _), (2, .ref _), (3, .int _), (4, .int _)]) hX dX6_copies_22 rfl (by first | exact nI_inc _ | rfl) (by decide) rfl ?_
      refine g_goto 3 hX dX6_copies_25 (by decide) ?_
      refine g_st ?_ (g_pick [0, 1, 2, 3, 4, 5] rfl (ih (m - (k + 1)) (by omega) (k + 1) rfl (by omega)))
      rw [up_same, up_up, up_ne _ _ hne, ← fb_put_succ]
      rfl
