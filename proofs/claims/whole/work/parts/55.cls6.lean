set_option maxHeartbeats 4000000 in
set_option maxRecDepth 100000 in
theorem sp_X1_isState {Γ : Ga} {d : Nat} {κ : Kp} {I : Ip} {Q : Option Value → Kp → Ip → Prop} {sh n : Nat} {i : Int32} (hK : ShK κ sh n) (hn : n < 1000) (hq : Q (some (.int (b2i (decide (inN n i))))) κ I) : Sp Γ d mX1_isState [.ref (sh), .int (i)] κ I Q := by
  obtain ⟨k1, z1, k9, z9, h5, h6⟩ := id hK
  intro X hM
  have hX := hM.std
  show GW _ mX1_isState X 0 [(0, .ref (sh)), (1, .int (i))] [] _ _ 0 0
  refine g_iload_n hX dX1_isState_0 rfl rfl ?_
  refine g_iflt 26 hX dX1_isState_1 (by decide) (fun c1 => ?_) (fun c1 => ?_)
  · rw [x_lt_0] at c1
    refine g_iconst (v := nI 0) hX dX1_isState_26 (by decide) ?_
    refine g_iret hM dX1_isState_27 rfl (rfl) ⟨Nat.le_of_ble_eq_true rfl, Nat.le_of_ble_eq_true rfl⟩ ?_
    exact q_f (decide_eq_false (inN_no1 c1)) hq
  · rw [x_lt_0] at c1
    refine g_iload_n hX dX1_isState_4 rfl rfl ?_
    refine g_aload_n hX dX1_isState_5 rfl rfl ?_
    refine g_getR hX dX1_isState_6 flX1_15 (by assumption) rfl (by first | assumption | rfl) (by assumption) ?_
    refine g_alen hX dX1_isState_9 (by assumption) (by decide) rfl ?_
    refine g_icmpge 26 hX dX1_isState_10 (by decide) (fun c10 => ?_) (fun c10 => ?_)
    · rw [show Int32.ofNat n = nI n from rfl, nI_le_x (by omega)] at c10
      refine g_iconst (v := nI 0) hX dX1_isState_26 (by decide) ?_
      refine g_iret hM dX1_isState_27 rfl (rfl) ⟨Nat.le_of_ble_eq_true rfl, Nat.le_of_ble_eq_true rfl⟩ ?_
      exact q_f (decide_eq_false (inN_no2 c10)) hq
    · rw [show Int32.ofNat n = nI n from rfl, nI_le_x (by omega)] at c10
      obtain ⟨j, hj, rfl⟩ := inN_of (n := n) (x := i) ⟨by omega, by omega⟩
      refine g_aload_n hX dX1_isState_13 rfl rfl ?_
      refine g_getR hX dX1_isState_14 flX1_15 (by assumption) rfl (by first | assumption | rfl) (by assumption) ?_
      refine g_iload_n hX dX1_isState_17 rfl rfl ?_
      refine g_aaldN (y := arS κ sh j) hX dX1_isState_18 (by assumption) (rfl) (by omega) (by omega) (rfl) ((h5 j hj).1.2.1) ?_
      refine g_ifnull hX dX1_isState_19 ?_
      refine g_iconst (v := nI 1) hX dX1_isState_22 (by decide) ?_
      refine g_goto 27 hX dX1_isState_23 (by decide) ?_
      refine g_iret hM dX1_isState_27 rfl (rfl) ⟨Nat.le_of_ble_eq_true rfl, Nat.le_of_ble_eq_true rfl⟩ ?_
      exact q_t (decide_eq_true (inN_nI hj (by omega))) hq

set_option maxHeartbeats 4000000 in
set_option maxRecDepth 100000 in
theorem sp_X1_isFull {Γ : Ga} {d : Nat} {κ : Kp} {I : Ip} {Q : Option Value → Kp → Ip → Prop} {sh n P T : Nat} {l : List (Nat → Int32)} (hK : ShK κ sh n) (hn : n < 1000) (hSh : ShR κ I sh P T l) (hl : l.length ≤ n) (hq : Q (some (.int (b2i (decide (l.length = n))))) κ I) : Sp Γ d mX1_isFull [.ref (sh)] κ I Q := by
  obtain ⟨k1, z1, k9, z9, h5, h6⟩ := id hK
  intro X hM
  have hX := hM.std
  show GW _ mX1_isFull X 0 [(0, .ref (sh))] [] _ _ 0 0
  refine g_aload_n hX dX1_isFull_0 rfl rfl ?_
  refine g_getI hX dX1_isFull_1 flX1_22 (by assumption) rfl ?_
  refine g_aload_n hX dX1_isFull_4 rfl rfl ?_
  refine g_getR hX dX1_isFull_5 flX1_15 (by assumption) rfl (by first | assumption | rfl) (by assumption) ?_
  refine g_alen hX dX1_isFull_8 (by assumption) (by decide) rfl ?_
  refine g_icmplt 16 hX dX1_isFull_9 (by decide) (fun c9 => ?_) (fun c9 => ?_)
  · rw [hSh.1, show Int32.ofNat n = nI n from rfl] at c9
    rw [Int32.lt_iff_toInt_lt, nI_toInt (by omega), nI_toInt (by omega)] at c9
    refine g_iconst (v := nI 0) hX dX1_isFull_16 (by decide) ?_
    refine g_iret hM dX1_isFull_17 rfl (rfl) ⟨Nat.le_of_ble_eq_true rfl, Nat.le_of_ble_eq_true rfl⟩ ?_
    exact q_f (decide_eq_false (by omega)) hq
  · rw [hSh.1, show Int32.ofNat n = nI n from rfl] at c9
    rw [Int32.lt_iff_toInt_lt, nI_toInt (by omega), nI_toInt (by omega)] at c9
    refine g_iconst (v := nI 1) hX dX1_isFull_12 (by decide) ?_
    refine g_goto 17 hX dX1_isFull_13 (by decide) ?_
    refine g_iret hM dX1_isFull_17 rfl (rfl) ⟨Nat.le_of_ble_eq_true rfl, Nat.le_of_ble_eq_true rfl⟩ ?_
    exact q_t (decide_eq_true (by omega)) hq

set_option maxHeartbeats 4000000 in
set_option maxRecDepth 100000 in
theorem sp_X1_size {Γ : Ga} {d : Nat} {κ : Kp} {I : Ip} {Q : Option Value → Kp → Ip → Prop} {sh n : Nat} (hK : ShK κ sh n) (hq : Q (some (.int (I sh 1))) κ I) : Sp Γ d mX1_size [.ref (sh)] κ I Q := by
  obtain ⟨k1, z1, k9, z9, h5, h6⟩ := id hK
  intro X hM
  have hX := hM.std
  show GW _ mX1_size X 0 [(0, .ref (sh))] [] _ _ 0 0
  refine g_aload_n hX dX1_size_0 rfl rfl ?_
  refine g_getI hX dX1_size_1 flX1_22 (by assumption) rfl ?_
  refine g_iret hM dX1_size_4 rfl (rfl) ⟨Nat.le_of_ble_eq_true rfl, Nat.le_of_ble_eq_true rfl⟩ ?_
  exact hq

set_option maxHeartbeats 4000000 in
set_option maxRecDepth 100000 in
theorem sp_X1_clear {Γ : Ga} {d : Nat} {κ : Kp} {I : Ip} {Q : Option Value → Kp → Ip → Prop} {sh n : Nat} (hK : ShK κ sh n) (hq : Q none κ (va_up I sh (va_up (I sh) 1 (nI 0)))) : Sp Γ d mX1_clear [.ref (sh)] κ I Q := by
  obtain ⟨k1, z1, k9, z9, h5, h6⟩ := id hK
  intro X hM
  have hX := hM.std
  show GW _ mX1_clear X 0 [(0, .ref (sh))] [] _ _ 0 0
  refine g_aload_n hX dX1_clear_0 rfl rfl ?_
  refine g_iconst (v := nI 0) hX dX1_clear_1 (by decide) ?_
  refine g_putI hX dX1_clear_2 flX1_22 (by assumption) rfl rfl ?_
  refine g_vret hM dX1_clear_5 rfl ⟨Nat.le_of_ble_eq_true rfl, Nat.le_of_ble_eq_true rfl⟩ ?_
  exact hq

set_option maxHeartbeats 4000000 in
set_option maxRecDepth 100000 in
theorem lp_X1_dropOldest_18 {Γ : Ga} {d : Nat} {κ : Kp} {Q : Option Value → Kp → Ip → Prop} {X : Cx} {I : Ip} {sh n : Nat} (hM : Mx Γ (d + 1) mX1_dropOldest Q X) (hK : ShK κ sh n) (hn : n < 1000) (hn1 : 1 ≤ n) (hq : Q none (kR κ (κ.2.1 sh 0) (rotF n (arS κ sh))) (va_up I sh (va_up (I sh) 1 (nI (n - 1))))) : ∀ (m : Nat) (k : Nat), m = n - k → 1 ≤ k → k ≤ n → GW Γ mX1_dropOldest X 18 [(2, .int (nI k)), (1, .ref (arS κ sh 0)), (0, .ref (sh))] [] (kR κ (κ.2.1 sh 0) (shfF k (arS κ sh))) (I) 0 0 := by
  have hX := hM.std
  have hR := hM.room
  intro m
  induction m using Nat.strongRecOn with
  | ind m ih =>
    intro k hm hk1 hk
    obtain ⟨k1, z1, k9, z9, h5, h6⟩ := id hK
    have e0 : ∀ g, (kR κ (κ.2.1 sh 0) g).2.1 sh 0 = (κ.2.1 sh 0) := fun g => congrFun (kR_ne hK.nA) 0
    have ek : ∀ g, (kR κ (κ.2.1 sh 0) g).1 (κ.2.1 sh 0) = (9, n) := fun g => k9
    have es : ∀ g, (kR κ (κ.2.1 sh 0) g).1 sh = (1, 0) := fun g => k1
    refine g_iload_n hX dX1_dropOldest_18 rfl rfl ?_
    refine g_aload_n hX dX1_dropOldest_19 rfl rfl ?_
    refine g_getR hX dX1_dropOldest_20 flX1_15 (es _) rfl (e0 _) (by assumption) ?_
    refine g_alen hX dX1_dropOldest_23 (ek _) (by decide) rfl ?_
    refine g_icmpge 47 hX dX1_dropOldest_24 (by decide) (fun c24 => ?_) (fun c24 => ?_)
    · rw [show Int32.ofNat n = nI n from rfl, nI_leI (by omega) (by omega)] at c24
      refine g_aload_n hX dX1_dropOldest_47 rfl rfl ?_
      refine g_getR hX dX1_dropOldest_48 flX1_15 (es _) rfl (e0 _) (by assumption) ?_
      refine g_aload_n hX dX1_dropOldest_51 rfl rfl ?_
      refine g_getR hX dX1_dropOldest_52 flX1_15 (es _) rfl (e0 _) (by assumption) ?_
      refine g_alen hX dX1_dropOldest_55 (ek _) (by decide) rfl ?_
      refine g_iconst (v := nI 1) hX dX1_dropOldest_56 (by decide) ?_
      refine g_isub hX dX1_dropOldest_57 ?_
      refine g_aload_n hX dX1_dropOldest_58 rfl rfl ?_
      refine g_aastN (y := _) hX dX1_dropOldest_59 (ek _) (nI_subE (k := n - 1) (by omega) (by omega)) (by omega) (by omega) ((h5 0 (by omega)).1.1) ((h5 0 (by omega)).1.2.1) ?_
      have e : k = n := by omega
      subst e
      rw [kR_up, shf_e hk1 (arS κ sh)]
      refine g_aload_n hX dX1_dropOldest_60 rfl rfl ?_
      refine g_aload_n hX dX1_dropOldest_61 rfl rfl ?_
      refine g_getR hX dX1_dropOldest_62 flX1_15 (es _) rfl (e0 _) (by assumption) ?_
      refine g_alen hX dX1_dropOldest_65 (ek _) (by decide) rfl ?_
      refine g_iconst (v := nI 1) hX dX1_dropOldest_66 (by decide) ?_
      refine g_isub hX dX1_dropOldest_67 ?_
      refine g_putI hX dX1_dropOldest_68 flX1_22 (es _) rfl rfl ?_
      refine g_vret hM dX1_dropOldest_71 rfl ⟨Nat.le_of_ble_eq_true rfl, Nat.le_of_ble_eq_true rfl⟩ ?_
      refine q_st ?_ hq
      rw [show Int32.ofNat k - nI 1 = nI (k - 1) from nI_subE (by omega) (by omega)]
    · rw [show Int32.ofNat n = nI n from rfl, nI_leI (by omega) (by omega)] at c24
      refine g_aload_n hX dX1_dropOldest_27 rfl rfl ?_
      refine g_getR hX dX1_dropOldest_28 flX1_15 (es _) rfl (e0 _) (by assumption) ?_
      refine g_iload_n hX dX1_dropOldest_31 rfl rfl ?_
      refine g_iconst (v := nI 1) hX dX1_dropOldest_32 (by decide) ?_
      refine g_isub hX dX1_dropOldest_33 ?_
      refine g_aload_n hX dX1_dropOldest_34 rfl rfl ?_
      refine g_getR hX dX1_dropOldest_35 flX1_15 (es _) rfl (e0 _) (by assumption) ?_
      refine g_iload_n hX dX1_dropOldest_38 rfl rfl ?_
      refine g_aaldN (y := arS κ sh k) hX dX1_dropOldest_39 (ek _) (rfl) (by omega) (by omega) (by rw [kR_A]; exact if_neg (by omega)) ((h5 k (by omega)).1.2.1) ?_
      refine g_aastN (y := _) hX dX1_dropOldest_40 (ek _) (nI_subE (k := k - 1) (by omega) (by omega)) (by omega) (by omega) ((h5 k (by omega)).1.1) ((h5 k (by omega)).1.2.1) ?_
      rw [kR_up, shf_s hk1 (arS κ sh)]
      refine g_iinc (lv' := [(2, .int _), (1, .ref _), (0, .ref _)]) hX dX1_dropOldest_41 rfl (by first | exact nI_inc _ | rfl) (by decide) rfl ?_
      refine g_goto 18 hX dX1_dropOldest_44 (by decide) ?_
      exact g_pick [0, 1, 2] rfl (ih (n - (k + 1)) (by omega) (k + 1) rfl (by omega) (by omega))

set_option maxHeartbeats 4000000 in
set_option maxRecDepth 100000 in
theorem sp_X1_dropOldest {Γ : Ga} {d : Nat} {κ : Kp} {I : Ip} {Q : Option Value → Kp → Ip → Prop} {sh n : Nat} (hK : ShK κ sh n) (hn : n < 1000) (hn1 : 1 ≤ n) (hq : Q none (kR κ (κ.2.1 sh 0) (rotF n (arS κ sh))) (va_up I sh (va_up (I sh) 1 (nI (n - 1))))) : Sp Γ (d + 1) mX1_dropOldest [.ref (sh)] κ I Q := by
  obtain ⟨k1, z1, k9, z9, h5, h6⟩ := id hK
  have e0 : ∀ g, (kR κ (κ.2.1 sh 0) g).2.1 sh 0 = (κ.2.1 sh 0) := fun g => congrFun (kR_ne hK.nA) 0
  have ek : ∀ g, (kR κ (κ.2.1 sh 0) g).1 (κ.2.1 sh 0) = (9, n) := fun g => k9
  have es : ∀ g, (kR κ (κ.2.1 sh 0) g).1 sh = (1, 0) := fun g => k1
  intro X hM
  have hX := hM.std
  have hR := hM.room
  show GW _ mX1_dropOldest X 0 [(0, .ref (sh))] [] _ _ 0 0
  refine g_aload_n hX dX1_dropOldest_0 rfl rfl ?_
  refine g_iconst (v := nI 0) hX dX1_dropOldest_1 (by decide) ?_
  refine g_callV (md' := mX1_isState) (ci := 1) (As := [.int _]) hX hR dX1_dropOldest_2 clX1_33 okX1_isState rfl (by assumption) rfl rfl (Nat.le_of_ble_eq_true rfl) (Nat.le_of_ble_eq_true rfl) ⟨Nat.le_of_ble_eq_true rfl, Nat.le_of_ble_eq_true rfl⟩ ?_
  refine sp_X1_isState hK hn ?_
  change GW _ _ _ 5 _ [.int _] _ _ 0 0
  refine g_ifne 9 hX dX1_dropOldest_5 (by decide) (fun c5 => ?_) (fun c5 => ?_)
  · refine g_aload_n hX dX1_dropOldest_9 rfl rfl ?_
    refine g_getR hX dX1_dropOldest_10 flX1_15 (by assumption) rfl (by first | assumption | rfl) (by assumption) ?_
    refine g_iconst (v := nI 0) hX dX1_dropOldest_13 (by decide) ?_
    refine g_aaldN (y := arS κ sh 0) hX dX1_dropOldest_14 (by assumption) (rfl) (by omega) (by omega) (rfl) ((h5 0 (by omega)).1.2.1) ?_
    refine g_astore_n (lv' := [(1, .ref _), (0, .ref _)]) hX dX1_dropOldest_15 rfl (by decide) rfl ?_
    refine g_iconst (v := nI 1) hX dX1_dropOldest_16 (by decide) ?_
    refine g_istore_n (lv' := [(2, .int _), (1, .ref _), (0, .ref _)]) hX dX1_dropOldest_17 rfl (by decide) rfl ?_
    have ee : κ = kR κ (κ.2.1 sh 0) (shfF 1 (arS κ sh)) := by
      rw [shf_1]
      exact kR_self.symm
    refine g_kp ee (g_pick [0, 1, 2] rfl (lp_X1_dropOldest_18 hM hK hn hn1 hq (n - 1) 1 rfl (Nat.le_refl _) hn1))
  · rw [b2i_0, decide_eq_false_iff_not] at c5
    exact absurd (show inN n (nI 0) from inN_nI (by omega) (by omega)) c5

set_option maxHeartbeats 4000000 in
set_option maxRecDepth 100000 in
theorem fr_X1_push_11 {Γ : Ga} {d : Nat} {κ : Kp} {Q : Option Value → Kp → Ip → Prop} {X : Cx} {I : Ip} {sh n x P T : Nat} {l : List (Nat → Int32)} {s : Nat → Int32} (hM : Mx Γ (d + 2) mX1_push Q X) (hK : ShK κ sh n) (hn : n < 1000) (hSh : ShR κ I sh P T l) (hx : Bes κ sh n x) (hs : WfS s P T) (hSR : SR (I (x + 1)) (I x) s T) (hl : l.length < n) (hq : ∀ J : Ip, ShR κ J sh P T (l ++ [s]) → ShF κ sh n I J → Q none κ J) : GW Γ mX1_push X 11 [(0, .ref (sh)), (1, .ref (x))] [] κ (I) 0 0 := by
  have hX := hM.std
  have hR := hM.room
  obtain ⟨k1, z1, k9, z9, h5, h6⟩ := id hK
  obtain ⟨x1, x2, x3⟩ := id hx
  obtain ⟨xk, xz, xr, xrz⟩ := id x1
  obtain ⟨y1, y2⟩ := h5 l.length hl
  obtain ⟨yk, yz, yr, yrz⟩ := id y1
  have n1 : sh ≠ arS κ sh l.length := Ne.symm (hK.nsh hl).1
  have n2 : sh ≠ κ.2.1 (arS κ sh l.length) 0 := by rw [y2]; exact Ne.symm (hK.nsh hl).2
  obtain ⟨hSh1, hSh2⟩ := id hSh
  refine g_aload_n hX dX1_push_11 rfl rfl ?_
  refine g_aload_n hX dX1_push_12 rfl rfl ?_
  refine g_getI hX dX1_push_13 flX1_22 (by assumption) rfl ?_
  refine g_callV (md' := mX1_isState) (ci := 1) (As := [.int _]) hX hR dX1_push_16 clX1_33 okX1_isState rfl (by assumption) rfl rfl (Nat.le_of_ble_eq_true rfl) (Nat.le_of_ble_eq_true rfl) ⟨Nat.le_of_ble_eq_true rfl, Nat.le_of_ble_eq_true rfl⟩ ?_
  refine sp_X1_isState hK hn ?_
  change GW _ _ _ 19 _ [.int _] _ _ 0 0
  refine g_ifeq 45 hX dX1_push_19 (by decide) (fun c19 => ?_) (fun c19 => ?_)
  · rw [hSh1, b2i_0, decide_eq_false_iff_not] at c19
    exact absurd (inN_nI hl (by omega)) c19
  · refine g_aload_n hX dX1_push_22 rfl rfl ?_
    refine g_getR hX dX1_push_23 flX1_15 (by assumption) rfl (by first | assumption | rfl) (by assumption) ?_
    refine g_aload_n hX dX1_push_26 rfl rfl ?_
    refine g_getI hX dX1_push_27 flX1_22 (by assumption) rfl ?_
    refine g_aaldN (y := arS κ sh l.length) hX dX1_push_30 (by assumption) (hSh1) (by omega) (by omega) (rfl) (yz) ?_
    refine g_aload_n hX dX1_push_31 rfl rfl ?_
    refine g_callV (md' := mX2_copyFrom) (ci := 2) (As := [.ref _]) hX hR dX1_push_32 clX1_37 okX2_copyFrom rfl (by assumption) rfl rfl (Nat.le_of_ble_eq_true rfl) (Nat.le_of_ble_eq_true rfl) ⟨Nat.le_of_ble_eq_true rfl, Nat.le_of_ble_eq_true rfl⟩ ?_
    refine sp_X2_copyFrom y1 x1 (Ne.symm (x3 _ hl)) (by rw [x2, y2]; exact fun e => x3 _ hl (by omega)) (fun K' f' hK' hf' => ?_)
    change GW _ _ _ 35 _ [] _ _ 0 0
    refine g_aload_n hX dX1_push_35 rfl rfl ?_
    refine g_dup hX dX1_push_36 rfl ?_
    refine g_getI hX dX1_push_37 flX1_22 (by assumption) rfl ?_
    rw [sst_ne n1 n2, hSh1]
    refine g_iconst (v := nI 1) hX dX1_push_40 (by decide) ?_
    refine g_iadd hX dX1_push_41 ?_
    rw [nI_add]
    refine g_putI hX dX1_push_42 flX1_22 (by assumption) rfl rfl ?_
    refine g_vret hM dX1_push_45 rfl ⟨Nat.le_of_ble_eq_true rfl, Nat.le_of_ble_eq_true rfl⟩ ?_
    have hz := ShR.app hK hSh hl hs (hSR.cg (K2 := K') (f2 := f') (fun p hp => by rw [hK' p hp, x2]) hf') (v := va_up (sst κ (arS κ sh l.length) I K' f' sh) 1 (nI (l.length + 1))) (up_same _ _ _)
    refine hq _ hz (fun a a1 a2 => ?_)
    rw [up_ne _ _ a1, sst_ne (a2 _ hl).1 (by rw [y2]; exact (a2 _ hl).2)]

set_option maxHeartbeats 4000000 in
set_option maxRecDepth 100000 in
theorem sp_X1_push {Γ : Ga} {d : Nat} {κ : Kp} {I : Ip} {Q : Option Value → Kp → Ip → Prop} {sh n x P T : Nat} {l : List (Nat → Int32)} {s : Nat → Int32} (hK : ShK κ sh n) (hn : n < 1000) (hSh : ShR κ I sh P T l) (hx : Bes κ sh n x) (hs : WfS s P T) (hSR : SR (I (x + 1)) (I x) s T) (hl : l.length ≤ n) (hn1 : 1 ≤ n) (hq : ∀ (g : Nat → Nat) (J : Ip), Prm n (arS κ sh) g → ShR (kR κ (κ.2.1 sh 0) g) J sh P T (pushN n l s) → ShF κ sh n I J → Q none (kR κ (κ.2.1 sh 0) g) J) : Sp Γ (d + 2) mX1_push [.ref (sh), .ref (x)] κ I Q := by
  obtain ⟨k1, z1, k9, z9, h5, h6⟩ := id hK
  obtain ⟨x1, x2, x3⟩ := id hx
  obtain ⟨xk, xz, xr, xrz⟩ := id x1
  intro X hM
  have hX := hM.std
  have hR := hM.room
  show GW _ mX1_push X 0 [(0, .ref (sh)), (1, .ref (x))] [] _ _ 0 0
  refine g_aload_n hX dX1_push_0 rfl rfl ?_
  refine g_callV (md' := mX1_isFull) (ci := 1) (As := []) hX hR dX1_push_1 clX1_26 okX1_isFull rfl (by assumption) rfl rfl (Nat.le_of_ble_eq_true rfl) (Nat.le_of_ble_eq_true rfl) ⟨Nat.le_of_ble_eq_true rfl, Nat.le_of_ble_eq_true rfl⟩ ?_
  refine sp_X1_isFull hK hn hSh hl ?_
  change GW _ _ _ 4 _ [.int _] _ _ 0 0
  refine g_ifeq 11 hX dX1_push_4 (by decide) (fun c4 => ?_) (fun c4 => ?_)
  · rw [b2i_0, decide_eq_false_iff_not] at c4
    refine g_pick [0, 1] rfl (fr_X1_push_11 hM hK hn hSh hx hs hSR (by omega) (fun J j1 j2 => ?_))
    have hz := hq (arS κ sh) J (prm_self h6)
    rw [show kR κ (κ.2.1 sh 0) (arS κ sh) = κ from kR_self, pushN, if_neg c4] at hz
    exact hz j1 j2
  · rw [b2i_n0, decide_eq_true_eq] at c4
    refine g_aload_n hX dX1_push_7 rfl rfl ?_
    refine g_callV (md' := mX1_dropOldest) (ci := 1) (As := []) hX hR dX1_push_8 clX1_30 okX1_dropOldest rfl (by assumption) rfl rfl (Nat.le_of_ble_eq_true rfl) (Nat.le_of_ble_eq_true rfl) ⟨Nat.le_of_ble_eq_true rfl, Nat.le_of_ble_eq_true rfl⟩ ?_
    refine sp_X1_dropOldest hK hn hn1 ?_
    change GW _ _ _ 11 _ [] _ _ 0 0
    have hp := prm_rot (n := n) hn1 h6
    have e1 := hK.nA
    have hxr := kR_ne (κ := κ) (g := rotF n (arS κ sh)) (x1.nA k9)
    refine g_pick [0, 1] rfl (fr_X1_push_11 (l := l.tail) hM (hK.prm hp) hn (hSh.rot hK c4 hn1 (up_same _ _ _)) ⟨x1.kR k9, by rw [hxr]; exact x2, fun i hi => ?_⟩ hs ?_ (by rw [List.length_tail]; omega) (fun J j1 j2 => ?_))
    · rw [arS_kR hK]
      obtain ⟨j, hj, e⟩ := hp.1 i hi
      rw [e]
      exact x3 j hj
    · rw [up_ne _ _ (kd_ne xk k1 (by decide)), up_ne _ _ (by rw [← x2]; exact kd_ne xr k1 (by decide))]
      exact hSR
    · refine hq _ J hp (by rw [pushN, if_pos c4]; exact j1) (fun a a1 a2 => ?_)
      rw [j2 a a1 (fun i hi => ?_), up_ne _ _ a1]
      rw [arS_kR hK]
      obtain ⟨j, hj, e⟩ := hp.1 i hi
      rw [e]
      exact a2 j hj

set_option maxHeartbeats 4000000 in
set_option maxRecDepth 100000 in
theorem sp_X1_popInto {Γ : Ga} {d : Nat} {κ : Kp} {I : Ip} {Q : Option Value → Kp → Ip → Prop} {sh n x P T : Nat} {l : List (Nat → Int32)} {s : Nat → Int32} (hK : ShK κ sh n) (hn : n < 1000) (hSh : ShR κ I sh P T l) (hx : Bes κ sh n x) (hl : l.length ≤ n) (hq0 : l.length = 0 → Q (some (.int (b2i false))) κ I) (hq : l.length ≠ 0 → ∀ J : Ip, ShR κ J sh P T l.dropLast → WfS (lastD l s) P T → SR (J (x + 1)) (J x) (lastD l s) T → (∀ a, a ≠ sh → a ≠ x → a ≠ x + 1 → J a = I a) → Q (some (.int (b2i true))) κ J) : Sp Γ (d + 2) mX1_popInto [.ref (sh), .ref (x)] κ I Q := by
  obtain ⟨k1, z1, k9, z9, h5, h6⟩ := id hK
  obtain ⟨x1, x2, x3⟩ := id hx
  obtain ⟨xk, xz, xr, xrz⟩ := id x1
  obtain ⟨hSh1, hSh2⟩ := id hSh
  intro X hM
  have hX := hM.std
  have hR := hM.room
  show GW _ mX1_popInto X 0 [(0, .ref (sh)), (1, .ref (x))] [] _ _ 0 0
  refine g_aload_n hX dX1_popInto_0 rfl rfl ?_
  refine g_aload_n hX dX1_popInto_1 rfl rfl ?_
  refine g_getI hX dX1_popInto_2 flX1_22 (by assumption) rfl ?_
  refine g_iconst (v := nI 1) hX dX1_popInto_5 (by decide) ?_
  refine g_isub hX dX1_popInto_6 ?_
  refine g_callV (md' := mX1_isState) (ci := 1) (As := [.int _]) hX hR dX1_popInto_7 clX1_33 okX1_isState rfl (by assumption) rfl rfl (Nat.le_of_ble_eq_true rfl) (Nat.le_of_ble_eq_true rfl) ⟨Nat.le_of_ble_eq_true rfl, Nat.le_of_ble_eq_true rfl⟩ ?_
  refine sp_X1_isState hK hn ?_
  change GW _ _ _ 10 _ [.int _] _ _ 0 0
  refine g_ifne 15 hX dX1_popInto_10 (by decide) (fun c10 => ?_) (fun c10 => ?_)
  · rw [hSh1, b2i_n0, decide_eq_true_eq] at c10
    refine g_aload_n hX dX1_popInto_15 rfl rfl ?_
    have hne : l.length ≠ 0 := fun e => by
      rw [e] at c10
      have := c10.1
      have h2 : (nI 0 - nI 1).toInt = -1 := by decide
      omega
    have hlt : l.length - 1 < n := by omega
    obtain ⟨y1, y2⟩ := h5 (l.length - 1) hlt
    obtain ⟨yk, yz, yr, yrz⟩ := id y1
    obtain ⟨m1, m2⟩ := hK.nsh hlt
    refine g_dup hX dX1_popInto_16 rfl ?_
    refine g_getI hX dX1_popInto_17 flX1_22 (by assumption) rfl ?_
    rw [hSh1]
    refine g_iconst (v := nI 1) hX dX1_popInto_20 (by decide) ?_
    refine g_isub hX dX1_popInto_21 ?_
    rw [nI_subE (k := l.length - 1) (by omega) (by omega)]
    refine g_putI hX dX1_popInto_22 flX1_22 (by assumption) rfl rfl ?_
    refine g_aload_n hX dX1_popInto_25 rfl rfl ?_
    refine g_aload_n hX dX1_popInto_26 rfl rfl ?_
    refine g_getR hX dX1_popInto_27 flX1_15 (by assumption) rfl (by first | assumption | rfl) (by assumption) ?_
    refine g_aload_n hX dX1_popInto_30 rfl rfl ?_
    refine g_getI hX dX1_popInto_31 flX1_22 (by assumption) rfl ?_
    rw [up_same, up_same]
    refine g_aaldN (y := arS κ sh (l.length - 1)) hX dX1_popInto_34 (by assumption) (rfl) (by omega) (by omega) (rfl) (yz) ?_
    refine g_callV (md' := mX2_copyFrom) (ci := 2) (As := [.ref _]) hX hR dX1_popInto_35 clX1_37 okX2_copyFrom rfl (by assumption) rfl rfl (Nat.le_of_ble_eq_true rfl) (Nat.le_of_ble_eq_true rfl) ⟨Nat.le_of_ble_eq_true rfl, Nat.le_of_ble_eq_true rfl⟩ ?_
    refine sp_X2_copyFrom (to := x) (fr := arS κ sh (l.length - 1)) x1 y1 (x3 _ hlt) (by rw [x2, y2]; exact fun e => x3 _ hlt (by omega)) (fun K' f' hK' hf' => ?_)
    change GW _ _ _ 38 _ [] _ _ 0 0
    refine g_iconst (v := nI 1) hX dX1_popInto_38 (by decide) ?_
    refine g_iret hM dX1_popInto_39 rfl (rfl) ⟨Nat.le_of_ble_eq_true rfl, Nat.le_of_ble_eq_true rfl⟩ ?_
    have hz := ShR.init hK hSh hl (v := va_up (I sh) 1 (nI (l.length - 1))) (up_same _ _ _)
    obtain ⟨w1, w2⟩ := hSh.last (s := s) hne
    refine hq hne _ (hz.fr (n := n) (by rw [List.length_dropLast]; omega) ?_ (fun i hi => ⟨?_, ?_⟩)) w1 ?_ (fun a a1 a2 a3 => ?_)
    · rw [sst_ne (Ne.symm (kd_ne xk k1 (by decide))) (Ne.symm (kd_ne xr k1 (by decide)))]
    · exact sst_ne (x3 i hi) (by rw [x2]; exact (h5 i hi).1.row_ne x1 x2)
    · exact sst_ne (Ne.symm (x1.row_ne (h5 i hi).1 (h5 i hi).2)) (by rw [x2]; exact fun e => x3 i hi (by omega))
    · rw [← x2, sst_kn x1, sst_st]
      refine w2.cg (fun p hp => ?_) (fun k h1 h2 => ?_)
      · rw [hK' p hp, y2, up_ne _ _ m2]
      · rw [hf' k h1 h2, up_ne _ _ m1]
    · rw [sst_ne a2 (by rw [x2]; exact a3), up_ne _ _ a1]
  · rw [hSh1, b2i_0, decide_eq_false_iff_not] at c10
    refine g_iconst (v := nI 0) hX dX1_popInto_13 (by decide) ?_
    refine g_iret hM dX1_popInto_14 rfl (rfl) ⟨Nat.le_of_ble_eq_true rfl, Nat.le_of_ble_eq_true rfl⟩ ?_
    refine q_f rfl (hq0 ?_)
    rcases Nat.eq_zero_or_pos l.length with e | e
    · exact e
    · exfalso
      apply c10
      rw [nI_subE (k := l.length - 1) (by omega) (by omega)]
      exact inN_nI (by omega) (by omega)
