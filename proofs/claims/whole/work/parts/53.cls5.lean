set_option maxHeartbeats 4000000 in
set_option maxRecDepth 100000 in
theorem lp_X2_copyFrom_2 {Γ : Ga} {d : Nat} {κ : Kp} {Q : Option Value → Kp → Ip → Prop} {X : Cx} {I : Ip} {to fr : Nat} (hM : Mx Γ (d + 1) mX2_copyFrom Q X) (hSt : StK κ to) (hFr : StK κ fr) (hne : fr ≠ to) (hrn : κ.2.1 fr 0 ≠ κ.2.1 to 0) (hq : ∀ K' f' : Nat → Int32, (∀ p, p < 6 → K' p = I (κ.2.1 fr 0) p) → (∀ k, 1 ≤ k → k ≤ 9 → f' k = I fr k) → Q none κ (sst κ to I K' f')) : ∀ (n : Nat) (k : Nat), n = 6 - k → k ≤ 6 → GW Γ mX2_copyFrom X 2 [(2, .int (nI k)), (0, .ref (to)), (1, .ref (fr))] [] κ (va_up I (κ.2.1 to 0) (fb_put (I (κ.2.1 to 0)) (I (κ.2.1 fr 0)) 0 k)) 0 0 := by
  have hX := hM.std
  have hR := hM.room
  intro n
  induction n using Nat.strongRecOn with
  | ind n ih =>
    intro k hn hk
    obtain ⟨hst, hst0, sk, sk0⟩ := id hSt
    obtain ⟨gst, gst0, gk, gk0⟩ := id hFr
    have n1 : to ≠ κ.2.1 to 0 := hSt.ne
    have n2 : fr ≠ κ.2.1 to 0 := kd_ne gst sk (by decide)
    have n3 : κ.2.1 fr 0 ≠ to := kd_ne gk hst (by decide)
    refine g_iload_n hX dX2_copyFrom_2 rfl rfl ?_
    refine g_aload_n hX dX2_copyFrom_3 rfl rfl ?_
    refine g_getR hX dX2_copyFrom_4 flX2_9 (by assumption) rfl (by first | assumption | rfl) (by assumption) ?_
    refine g_alen hX dX2_copyFrom_7 (by assumption) (by decide) rfl ?_
    refine g_icmpge 31 hX dX2_copyFrom_8 (by decide) (fun c8 => ?_) (fun c8 => ?_)
    · rw [show Int32.ofNat 6 = nI 6 from rfl, nI_leI (by omega) (by omega)] at c8
      refine g_aload_n hX dX2_copyFrom_31 rfl rfl ?_
      refine g_aload_n hX dX2_copyFrom_32 rfl rfl ?_
      refine g_getI hX dX2_copyFrom_33 flX2_40 (by assumption) rfl ?_
      try simp (disch := first | assumption | decide) only [up_same, up_up, up_neD]
      refine g_putI hX dX2_copyFrom_36 flX2_40 (by assumption) rfl rfl ?_
      try simp (disch := first | assumption | decide) only [up_same, up_up, up_neD]
      refine g_aload_n hX dX2_copyFrom_39 rfl rfl ?_
      refine g_aload_n hX dX2_copyFrom_40 rfl rfl ?_
      refine g_getI hX dX2_copyFrom_41 flX2_15 (by assumption) rfl ?_
      try simp (disch := first | assumption | decide) only [up_same, up_up, up_neD]
      refine g_putI hX dX2_copyFrom_44 flX2_15 (by assumption) rfl rfl ?_
      try simp (disch := first | assumption | decide) only [up_same, up_up, up_neD]
      refine g_aload_n hX dX2_copyFrom_47 rfl rfl ?_
      refine g_aload_n hX dX2_copyFrom_48 rfl rfl ?_
      refine g_getI hX dX2_copyFrom_49 flX2_19 (by assumption) rfl ?_
      try simp (disch := first | assumption | decide) only [up_same, up_up, up_neD]
      refine g_putI hX dX2_copyFrom_52 flX2_19 (by assumption) rfl rfl ?_
      try simp (disch := first | assumption | decide) only [up_same, up_up, up_neD]
      refine g_aload_n hX dX2_copyFrom_55 rfl rfl ?_
      refine g_aload_n hX dX2_copyFrom_56 rfl rfl ?_
      refine g_getI hX dX2_copyFrom_57 flX2_22 (by assumption) rfl ?_
      try simp (disch := first | assumption | decide) only [up_same, up_up, up_neD]
      refine g_putI hX dX2_copyFrom_60 flX2_22 (by assumption) rfl rfl ?_
      try simp (disch := first | assumption | decide) only [up_same, up_up, up_neD]
      refine g_aload_n hX dX2_copyFrom_63 rfl rfl ?_
      refine g_aload_n hX dX2_copyFrom_64 rfl rfl ?_
      refine g_getI hX dX2_copyFrom_65 flX2_25 (by assumption) rfl ?_
      try simp (disch := first | assumption | decide) only [up_same, up_up, up_neD]
      refine g_putI hX dX2_copyFrom_68 flX2_25 (by assumption) rfl rfl ?_
      try simp (disch := first | assumption | decide) only [up_same, up_up, up_neD]
      refine g_aload_n hX dX2_copyFrom_71 rfl rfl ?_
      refine g_aload_n hX dX2_copyFrom_72 rfl rfl ?_
      refine g_getI hX dX2_copyFrom_73 flX2_52 (by assumption) rfl ?_
      try simp (disch := first | assumption | decide) only [up_same, up_up, up_neD]
      refine g_putI hX dX2_copyFrom_76 flX2_52 (by assumption) rfl rfl ?_
      try simp (disch := first | assumption | decide) only [up_same, up_up, up_neD]
      refine g_aload_n hX dX2_copyFrom_79 rfl rfl ?_
      refine g_aload_n hX dX2_copyFrom_80 rfl rfl ?_
      refine g_getI hX dX2_copyFrom_81 flX2_55 (by assumption) rfl ?_
      try simp (disch := first | assumption | decide) only [up_same, up_up, up_neD]
      refine g_putI hX dX2_copyFrom_84 flX2_55 (by assumption) rfl rfl ?_
      try simp (disch := first | assumption | decide) only [up_same, up_up, up_neD]
      refine g_aload_n hX dX2_copyFrom_87 rfl rfl ?_
      refine g_aload_n hX dX2_copyFrom_88 rfl rfl ?_
      refine g_getI hX dX2_copyFrom_89 flX2_43 (by assumption) rfl ?_
      try simp (disch := first | assumption | decide) only [up_same, up_up, up_neD]
      refine g_putI hX dX2_copyFrom_92 flX2_43 (by assumption) rfl rfl ?_
      try simp (disch := first | assumption | decide) only [up_same, up_up, up_neD]
      refine g_aload_n hX dX2_copyFrom_95 rfl rfl ?_
      refine g_aload_n hX dX2_copyFrom_96 rfl rfl ?_
      refine g_getI hX dX2_copyFrom_97 flX2_46 (by assumption) rfl ?_
      try simp (disch := first | assumption | decide) only [up_same, up_up, up_neD]
      refine g_putI hX dX2_copyFrom_100 flX2_46 (by assumption) rfl rfl ?_
      try simp (disch := first | assumption | decide) only [up_same, up_up, up_neD]
      refine g_vret hM dX2_copyFrom_103 rfl ⟨Nat.le_of_ble_eq_true rfl, Nat.le_of_ble_eq_true rfl⟩ ?_
      have e : k = 6 := by omega
      subst e
      refine hq _ (va_up (va_up (va_up (va_up (va_up (va_up (va_up (va_up (va_up (I to) 1 (I fr 1)) 2 (I fr 2)) 3 (I fr 3)) 4 (I fr 4)) 5 (I fr 5)) 6 (I fr 6)) 7 (I fr 7)) 8 (I fr 8)) 9 (I fr 9)) (fun p hp => ?_) (fun q h1 h2 => ?_)
      · rw [fb_put_in (Nat.zero_le _) (by omega), Nat.sub_zero]
      rcases (show q = 1 ∨ q = 2 ∨ q = 3 ∨ q = 4 ∨ q = 5 ∨ q = 6 ∨ q = 7 ∨ q = 8 ∨ q = 9 by omega) with rfl | rfl | rfl | rfl | rfl | rfl | rfl | rfl | rfl <;> simp (disch := decide) only [up_same, up_neD]
    · rw [show Int32.ofNat 6 = nI 6 from rfl, nI_leI (by omega) (by omega)] at c8
      refine g_aload_n hX dX2_copyFrom_11 rfl rfl ?_
      refine g_getR hX dX2_copyFrom_12 flX2_9 (by assumption) rfl (by first | assumption | rfl) (by assumption) ?_
      refine g_iload_n hX dX2_copyFrom_15 rfl rfl ?_
      refine g_aload_n hX dX2_copyFrom_16 rfl rfl ?_
      refine g_getR hX dX2_copyFrom_17 flX2_9 (by assumption) rfl (by first | assumption | rfl) (by assumption) ?_
      refine g_iload_n hX dX2_copyFrom_20 rfl rfl ?_
      refine g_callS (md' := mX5_at) (As := [.ref _, .int _]) hX hR dX2_copyFrom_21 clX2_36 okX5_at rfl rfl (Nat.le_of_ble_eq_true rfl) (Nat.le_of_ble_eq_true rfl) ⟨Nat.le_of_ble_eq_true rfl, Nat.le_of_ble_eq_true rfl⟩ ?_
      refine sp_X5_at (x := κ.2.1 fr 0) (by assumption) (by decide) ?_
      rw [up_ne _ _ hrn, atV_in (by omega) (by decide)]
      change GW _ _ _ 24 _ [.int _, .int _, .ref _] _ _ 0 0
      refine g_iastN hX dX2_copyFrom_24 (by assumption) (rfl) (by omega) (by first | decide | omega) ?_
      try simp (disch := first | assumption | decide) only [up_same, up_up, up_neD]
      refine g_iinc (lv' := [(2, .int _), (0, .ref _), (1, .ref _)]) hX dX2_copyFrom_25 rfl (by first | exact nI_inc _ | rfl) (by decide) rfl ?_
      refine g_goto 2 hX dX2_copyFrom_28 (by decide) ?_
      refine g_st ?_ (g_pick [0, 1, 2] rfl (ih (6 - (k + 1)) (by omega) (k + 1) rfl (by omega)))
      rw [← fb_put_succ, Nat.zero_add]
      rfl

set_option maxHeartbeats 4000000 in
set_option maxRecDepth 100000 in
theorem sp_X2_copyFrom {Γ : Ga} {d : Nat} {κ : Kp} {I : Ip} {Q : Option Value → Kp → Ip → Prop} {to fr : Nat} (hSt : StK κ to) (hFr : StK κ fr) (hne : fr ≠ to) (hrn : κ.2.1 fr 0 ≠ κ.2.1 to 0) (hq : ∀ K' f' : Nat → Int32, (∀ p, p < 6 → K' p = I (κ.2.1 fr 0) p) → (∀ k, 1 ≤ k → k ≤ 9 → f' k = I fr k) → Q none κ (sst κ to I K' f')) : Sp Γ (d + 1) mX2_copyFrom [.ref (to), .ref (fr)] κ I Q := by
  obtain ⟨hst, hst0, sk, sk0⟩ := id hSt
  obtain ⟨gst, gst0, gk, gk0⟩ := id hFr
  have n1 : to ≠ κ.2.1 to 0 := hSt.ne
  have n2 : fr ≠ κ.2.1 to 0 := kd_ne gst sk (by decide)
  have n3 : κ.2.1 fr 0 ≠ to := kd_ne gk hst (by decide)
  intro X hM
  have hX := hM.std
  have hR := hM.room
  show GW _ mX2_copyFrom X 0 [(0, .ref (to)), (1, .ref (fr))] [] _ _ 0 0
  refine g_iconst (v := nI 0) hX dX2_copyFrom_0 (by decide) ?_
  refine g_istore_n (lv' := [(2, .int _), (0, .ref _), (1, .ref _)]) hX dX2_copyFrom_1 rfl (by decide) rfl ?_
  refine g_st ?_ (g_pick [0, 1, 2] rfl (lp_X2_copyFrom_2 hM hSt hFr hne hrn hq 6 0 rfl (Nat.zero_le _)))
  rw [fb_put_0, up_self]

set_option maxHeartbeats 4000000 in
set_option maxRecDepth 100000 in
theorem lp_X2_startIn_2 {Γ : Ga} {d : Nat} {κ : Kp} {Q : Option Value → Kp → Ip → Prop} {X : Cx} {I : Ip} {st tw P T : Nat} {w : Nat → Int32} (hM : Mx Γ (d + 2) mX2_startIn Q X) (hSt : StK κ st) (hTw : TwK κ tw) (hSep : Sep κ st tw) (hTR : TwR κ I tw w P T) (hw : WfT w P T) (hq : ∀ K' f' : Nat → Int32, SR K' f' (laidS w) T → Q none κ (sst κ st I K' f')) : ∀ (n : Nat) (k : Nat), n = 6 - k → k ≤ 6 → GW Γ mX2_startIn X 2 [(2, .int (nI k)), (0, .ref (st)), (1, .ref (tw))] [] κ (va_up I (κ.2.1 st 0) (fb_put (I (κ.2.1 st 0)) (fun p => if p < P then I (κ.2.1 tw 5) p else nI 0) 0 k)) 0 0 := by
  have hX := hM.std
  have hR := hM.room
  intro n
  induction n using Nat.strongRecOn with
  | ind n ih =>
    intro k hn hk
    obtain ⟨hst, hst0, sk, sk0⟩ := id hSt
    obtain ⟨ht, ht0, ⟨t2, u2⟩, ⟨t3, u3⟩, ⟨t4, u4⟩, ⟨t5, u5⟩, ⟨t6, u6⟩, ⟨t7, u7⟩, ⟨t8, u8⟩⟩ := id hTw
    obtain ⟨hw0, hw1, hP, hT, -⟩ := id hw
    obtain ⟨r0, r1, r2, r3, r4, r5, -⟩ := id hTR
    have n1 : st ≠ κ.2.1 st 0 := hSt.ne
    have n2 : tw ≠ κ.2.1 st 0 := kd_ne ht sk (by decide)
    have n3 : κ.2.1 tw 5 ≠ κ.2.1 st 0 := hSep 5 (by decide) (by decide)
    refine g_iload_n hX dX2_startIn_2 rfl rfl ?_
    refine g_aload_n hX dX2_startIn_3 rfl rfl ?_
    refine g_getR hX dX2_startIn_4 flX2_9 (by assumption) rfl (by first | assumption | rfl) (by assumption) ?_
    refine g_alen hX dX2_startIn_7 (by assumption) (by decide) rfl ?_
    refine g_icmpge 43 hX dX2_startIn_8 (by decide) (fun c8 => ?_) (fun c8 => ?_)
    · rw [show Int32.ofNat 6 = nI 6 from rfl, nI_leI (by omega) (by omega)] at c8
      refine g_aload_n hX dX2_startIn_43 rfl rfl ?_
      refine g_iconst (v := nI 0) hX dX2_startIn_44 (by decide) ?_
      refine g_putI hX dX2_startIn_45 flX2_40 (by assumption) rfl rfl ?_
      try simp (disch := first | assumption | decide) only [up_same, up_up, up_neD]
      refine g_aload_n hX dX2_startIn_48 rfl rfl ?_
      refine g_iconst (v := nI 0) hX dX2_startIn_49 (by decide) ?_
      refine g_putI hX dX2_startIn_50 flX2_43 (by assumption) rfl rfl ?_
      try simp (disch := first | assumption | decide) only [up_same, up_up, up_neD]
      refine g_aload_n hX dX2_startIn_53 rfl rfl ?_
      refine g_iconst (v := nI 0) hX dX2_startIn_54 (by decide) ?_
      refine g_putI hX dX2_startIn_55 flX2_46 (by assumption) rfl rfl ?_
      try simp (disch := first | assumption | decide) only [up_same, up_up, up_neD]
      refine g_aload_n hX dX2_startIn_58 rfl rfl ?_
      refine g_callV (md' := mX2_standUp) (ci := 2) (As := []) hX hR dX2_startIn_59 clX2_49 okX2_standUp rfl (by assumption) rfl rfl (Nat.le_of_ble_eq_true rfl) (Nat.le_of_ble_eq_true rfl) ⟨Nat.le_of_ble_eq_true rfl, Nat.le_of_ble_eq_true rfl⟩ ?_
      refine sp_X2_standUp hSt ?_
      simp (disch := first | assumption | decide) only [up_same, up_up, up_neD]
      change GW _ _ _ 62 _ [] _ _ 0 0
      refine g_vret hM dX2_startIn_62 rfl ⟨Nat.le_of_ble_eq_true rfl, Nat.le_of_ble_eq_true rfl⟩ ?_
      have e : k = 6 := by omega
      subst e
      refine hq _ _ (sr_start hw r5 (fun p hp => by rw [fb_put_in (Nat.zero_le _) (by omega), Nat.sub_zero]) ?_ ?_ ?_ ?_ ?_ ?_ ?_ ?_ ?_)
      all_goals unfold stdV endV
      all_goals simp (disch := decide) only [up_same, up_neD]
    · rw [show Int32.ofNat 6 = nI 6 from rfl, nI_leI (by omega) (by omega)] at c8
      refine g_aload_n hX dX2_startIn_11 rfl rfl ?_
      refine g_getR hX dX2_startIn_12 flX2_9 (by assumption) rfl (by first | assumption | rfl) (by assumption) ?_
      refine g_iload_n hX dX2_startIn_15 rfl rfl ?_
      refine g_iload_n hX dX2_startIn_16 rfl rfl ?_
      refine g_aload_n hX dX2_startIn_17 rfl rfl ?_
      refine g_getI hX dX2_startIn_18 flX2_28 (by assumption) rfl ?_
      try simp (disch := first | assumption | decide) only [up_same, up_up, up_neD]
      refine g_icmpge 35 hX dX2_startIn_21 (by decide) (fun c21 => ?_) (fun c21 => ?_)
      · rw [r0, nI_leI (by omega) (by omega)] at c21
        refine g_iconst (v := nI 0) hX dX2_startIn_35 (by decide) ?_
        refine g_iastN hX dX2_startIn_36 (by assumption) (rfl) (by omega) (by first | decide | omega) ?_
        try simp (disch := first | assumption | decide) only [up_same, up_up, up_neD]
        refine g_iinc (lv' := [(2, .int _), (0, .ref _), (1, .ref _)]) hX dX2_startIn_37 rfl (by first | exact nI_inc _ | rfl) (by decide) rfl ?_
        refine g_goto 2 hX dX2_startIn_40 (by decide) ?_
        refine g_st ?_ (g_pick [0, 1, 2] rfl (ih (6 - (k + 1)) (by omega) (k + 1) rfl (by omega)))
        rw [← fb_put_succ, Nat.zero_add]
        show _ = va_up I (κ.2.1 st 0) (va_up (fb_put (I (κ.2.1 st 0)) (fun p => if p < P then I (κ.2.1 tw 5) p else nI 0) 0 k) k (if k < P then I (κ.2.1 tw 5) k else nI 0))
        rw [if_neg (by omega)]
      · rw [r0, nI_leI (by omega) (by omega)] at c21
        refine g_aload_n hX dX2_startIn_24 rfl rfl ?_
        refine g_getR hX dX2_startIn_25 flX2_33 (by assumption) rfl (by first | assumption | rfl) (by assumption) ?_
        refine g_iload_n hX dX2_startIn_28 rfl rfl ?_
        refine g_callS (md' := mX5_at) (As := [.ref _, .int _]) hX hR dX2_startIn_29 clX2_36 okX5_at rfl rfl (Nat.le_of_ble_eq_true rfl) (Nat.le_of_ble_eq_true rfl) ⟨Nat.le_of_ble_eq_true rfl, Nat.le_of_ble_eq_true rfl⟩ ?_
        refine sp_X5_at (x := κ.2.1 tw 5) (by assumption) (by decide) ?_
        rw [up_ne _ _ n3, atV_in (by omega) (by decide)]
        change GW _ _ _ 32 _ [.int _, .int _, .ref _] _ _ 0 0
        refine g_goto 36 hX dX2_startIn_32 (by decide) ?_
        refine g_iastN hX dX2_startIn_36 (by assumption) (rfl) (by omega) (by first | decide | omega) ?_
        try simp (disch := first | assumption | decide) only [up_same, up_up, up_neD]
        refine g_iinc (lv' := [(2, .int _), (0, .ref _), (1, .ref _)]) hX dX2_startIn_37 rfl (by first | exact nI_inc _ | rfl) (by decide) rfl ?_
        refine g_goto 2 hX dX2_startIn_40 (by decide) ?_
        refine g_st ?_ (g_pick [0, 1, 2] rfl (ih (6 - (k + 1)) (by omega) (k + 1) rfl (by omega)))
        rw [← fb_put_succ, Nat.zero_add]
        show _ = va_up I (κ.2.1 st 0) (va_up (fb_put (I (κ.2.1 st 0)) (fun p => if p < P then I (κ.2.1 tw 5) p else nI 0) 0 k) k (if k < P then I (κ.2.1 tw 5) k else nI 0))
        rw [if_pos (by omega)]

set_option maxHeartbeats 4000000 in
set_option maxRecDepth 100000 in
theorem sp_X2_startIn {Γ : Ga} {d : Nat} {κ : Kp} {I : Ip} {Q : Option Value → Kp → Ip → Prop} {st tw P T : Nat} {w : Nat → Int32} (hSt : StK κ st) (hTw : TwK κ tw) (hSep : Sep κ st tw) (hTR : TwR κ I tw w P T) (hw : WfT w P T) (hq : ∀ K' f' : Nat → Int32, SR K' f' (laidS w) T → Q none κ (sst κ st I K' f')) : Sp Γ (d + 2) mX2_startIn [.ref (st), .ref (tw)] κ I Q := by
  intro X hM
  have hX := hM.std
  have hR := hM.room
  show GW _ mX2_startIn X 0 [(0, .ref (st)), (1, .ref (tw))] [] _ _ 0 0
  refine g_iconst (v := nI 0) hX dX2_startIn_0 (by decide) ?_
  refine g_istore_n (lv' := [(2, .int _), (0, .ref _), (1, .ref _)]) hX dX2_startIn_1 rfl (by decide) rfl ?_
  refine g_st ?_ (g_pick [0, 1, 2] rfl (lp_X2_startIn_2 hM hSt hTw hSep hTR hw hq 6 0 rfl (Nat.zero_le _)))
  rw [fb_put_0, up_self]

set_option maxHeartbeats 4000000 in
set_option maxRecDepth 100000 in
theorem lp_X2_knownByAll_4 {Γ : Ga} {d : Nat} {κ : Kp} {Q : Option Value → Kp → Ip → Prop} {X : Cx} {I : Ip} {st T : Nat} {s : Nat → Int32} (hM : Mx Γ (d + 1) mX2_knownByAll Q X) (hSt : StK κ st) (hT : T ≤ 9) (hSR : SR (I (κ.2.1 st 0)) (I st) s T) (hq : Q (some (.int (nI (fb_sm (fun p => pcI (I (κ.2.1 st 0) p)) 6)))) κ I) : ∀ (n : Nat) (k : Nat), n = 6 - k → k ≤ 6 → GW Γ mX2_knownByAll X 4 [(2, .int (nI k)), (1, .int (nI (fb_sm (fun p => pcI (I (κ.2.1 st 0) p)) k))), (0, .ref (st))] [] κ (I) 0 0 := by
  have hX := hM.std
  have hR := hM.room
  intro n
  induction n using Nat.strongRecOn with
  | ind n ih =>
    intro k hn hk
    obtain ⟨hst, hst0, sk, sk0⟩ := id hSt
    refine g_iload_n hX dX2_knownByAll_4 rfl rfl ?_
    refine g_aload_n hX dX2_knownByAll_5 rfl rfl ?_
    refine g_getR hX dX2_knownByAll_6 flX2_9 (by assumption) rfl (by first | assumption | rfl) (by assumption) ?_
    refine g_alen hX dX2_knownByAll_9 (by assumption) (by decide) rfl ?_
    refine g_icmpge 31 hX dX2_knownByAll_10 (by decide) (fun c10 => ?_) (fun c10 => ?_)
    · rw [show Int32.ofNat 6 = nI 6 from rfl, nI_leI (by omega) (by omega)] at c10
      refine g_iload_n hX dX2_knownByAll_31 rfl rfl ?_
      refine g_iret hM dX2_knownByAll_32 rfl (rfl) ⟨Nat.le_of_ble_eq_true rfl, Nat.le_of_ble_eq_true rfl⟩ ?_
      have e : k = 6 := by omega
      subst e
      exact hq
    · rw [show Int32.ofNat 6 = nI 6 from rfl, nI_leI (by omega) (by omega)] at c10
      refine g_iload_n hX dX2_knownByAll_13 rfl rfl ?_
      refine g_aload_n hX dX2_knownByAll_14 rfl rfl ?_
      refine g_getR hX dX2_knownByAll_15 flX2_9 (by assumption) rfl (by first | assumption | rfl) (by assumption) ?_
      refine g_iload_n hX dX2_knownByAll_18 rfl rfl ?_
      refine g_ialdN hX dX2_knownByAll_19 (by assumption) (rfl) (by omega) (by first | decide | omega) ?_
      refine g_callS (md' := mJ6_bitCount_0f7a4) (As := [.int _]) hX hR dX2_knownByAll_20 clX2_70 okJ6_bitCount_0f7a4 rfl rfl (Nat.le_of_ble_eq_true rfl) (Nat.le_of_ble_eq_true rfl) ⟨Nat.le_of_ble_eq_true rfl, Nat.le_of_ble_eq_true rfl⟩ ?_
      obtain ⟨kk, hkk, ekk⟩ := hSR.kn_small hT (show k < 6 by omega)
      rw [ekk]
      refine sp_J6_bitCount_0f7a4 hkk ?_
      rw [← pcI_nI hkk, ← ekk]
      change GW _ _ _ 23 _ [.int _, .int _] _ _ 0 0
      refine g_iadd hX dX2_knownByAll_23 ?_
      rw [nI_add]
      refine g_istore_n (lv' := [(1, .int _), (2, .int _), (0, .ref _)]) hX dX2_knownByAll_24 rfl (by decide) rfl ?_
      refine g_iinc (lv' := [(2, .int _), (1, .int _), (0, .ref _)]) hX dX2_knownByAll_25 rfl (by first | exact nI_inc _ | rfl) (by decide) rfl ?_
      refine g_goto 4 hX dX2_knownByAll_28 (by decide) ?_
      exact g_pick [0, 1, 2] rfl (ih (6 - (k + 1)) (by omega) (k + 1) rfl (by omega))

set_option maxHeartbeats 4000000 in
set_option maxRecDepth 100000 in
theorem sp_X2_knownByAll {Γ : Ga} {d : Nat} {κ : Kp} {I : Ip} {Q : Option Value → Kp → Ip → Prop} {st P T : Nat} {s : Nat → Int32} (hSt : StK κ st) (hP : P ≤ 6) (hT : T ≤ 9) (hs : WfS s P T) (hSR : SR (I (κ.2.1 st 0)) (I st) s T) (hq : Q (some (.int (nI (knownF s T)))) κ I) : Sp Γ (d + 1) mX2_knownByAll [.ref (st)] κ I Q := by
  obtain ⟨hst, hst0, sk, sk0⟩ := id hSt
  intro X hM
  have hX := hM.std
  have hR := hM.room
  show GW _ mX2_knownByAll X 0 [(0, .ref (st))] [] _ _ 0 0
  refine g_iconst (v := nI 0) hX dX2_knownByAll_0 (by decide) ?_
  refine g_istore_n (lv' := [(1, .int _), (0, .ref _)]) hX dX2_knownByAll_1 rfl (by decide) rfl ?_
  refine g_iconst (v := nI 0) hX dX2_knownByAll_2 (by decide) ?_
  refine g_istore_n (lv' := [(2, .int _), (1, .int _), (0, .ref _)]) hX dX2_knownByAll_3 rfl (by decide) rfl ?_
  refine g_pick [0, 1, 2] rfl (lp_X2_knownByAll_4 hM hSt hT hSR ?_ 6 0 rfl (Nat.zero_le _))
  rw [hSR.known hs hP hT]
  exact hq

set_option maxHeartbeats 4000000 in
set_option maxRecDepth 100000 in
theorem lp_X2_knowersOf_4 {Γ : Ga} {d : Nat} {κ : Kp} {Q : Option Value → Kp → Ip → Prop} {X : Cx} {I : Ip} {st t : Nat} (hM : Mx Γ (d + 1) mX2_knowersOf Q X) (hSt : StK κ st) (ht : t < 32) (hq : Q (some (.int (bsum 6 (fun p => bt (I (κ.2.1 st 0) p) t)))) κ I) : ∀ (n : Nat) (k : Nat), n = 6 - k → k ≤ 6 → GW Γ mX2_knowersOf X 4 [(3, .int (nI k)), (2, .int (bsum k (fun p => bt (I (κ.2.1 st 0) p) t))), (0, .ref (st)), (1, .int (nI t))] [] κ (I) 0 0 := by
  have hX := hM.std
  have hR := hM.room
  intro n
  induction n using Nat.strongRecOn with
  | ind n ih =>
    intro k hn hk
    obtain ⟨hst, hst0, sk, sk0⟩ := id hSt
    refine g_iload_n hX dX2_knowersOf_4 rfl rfl ?_
    refine g_aload_n hX dX2_knowersOf_5 rfl rfl ?_
    refine g_getR hX dX2_knowersOf_6 flX2_9 (by assumption) rfl (by first | assumption | rfl) (by assumption) ?_
    refine g_alen hX dX2_knowersOf_9 (by assumption) (by decide) rfl ?_
    refine g_icmpge 40 hX dX2_knowersOf_10 (by decide) (fun c10 => ?_) (fun c10 => ?_)
    · rw [show Int32.ofNat 6 = nI 6 from rfl, nI_leI (by omega) (by omega)] at c10
      refine g_iload_n hX dX2_knowersOf_40 rfl rfl ?_
      refine g_iret hM dX2_knowersOf_41 rfl (rfl) ⟨Nat.le_of_ble_eq_true rfl, Nat.le_of_ble_eq_true rfl⟩ ?_
      have e : k = 6 := by omega
      subst e
      exact hq
    · rw [show Int32.ofNat 6 = nI 6 from rfl, nI_leI (by omega) (by omega)] at c10
      refine g_aload_n hX dX2_knowersOf_13 rfl rfl ?_
      refine g_getR hX dX2_knowersOf_14 flX2_9 (by assumption) rfl (by first | assumption | rfl) (by assumption) ?_
      refine g_iload_n hX dX2_knowersOf_17 rfl rfl ?_
      refine g_ialdN hX dX2_knowersOf_18 (by assumption) (rfl) (by omega) (by first | decide | omega) ?_
      refine g_iload_n hX dX2_knowersOf_19 rfl rfl ?_
      refine g_callS (md' := mX5_bit) (As := [.int _]) hX hR dX2_knowersOf_20 clX2_62 okX5_bit rfl rfl (Nat.le_of_ble_eq_true rfl) (Nat.le_of_ble_eq_true rfl) ⟨Nat.le_of_ble_eq_true rfl, Nat.le_of_ble_eq_true rfl⟩ ?_
      refine sp_X5_bit ?_
      change GW _ _ _ 23 _ [.int _, .int _] _ _ 0 0
      refine g_iand hX dX2_knowersOf_23 ?_
      refine g_ifeq 34 hX dX2_knowersOf_24 (by decide) (fun c24 => ?_) (fun c24 => ?_)
      · rw [bitI_nI, and_bit0 ht] at c24
        refine g_iinc (lv' := [(3, .int _), (2, .int _), (0, .ref _), (1, .int _)]) hX dX2_knowersOf_34 rfl (by first | exact nI_inc _ | rfl) (by decide) rfl ?_
        refine g_goto 4 hX dX2_knowersOf_37 (by decide) ?_
        refine g_pick [0, 1, 2, 3] rfl ?_
        rw [← bsum_f (f := fun p => bt (I (κ.2.1 st 0) p) t) c24]
        exact ih (6 - (k + 1)) (by omega) (k + 1) rfl (by omega)
      · rw [bitI_nI, and_bit1 ht] at c24
        refine g_iload_n hX dX2_knowersOf_27 rfl rfl ?_
        refine g_iload_n hX dX2_knowersOf_28 rfl rfl ?_
        refine g_callS (md' := mX5_bit) (As := [.int _]) hX hR dX2_knowersOf_29 clX2_62 okX5_bit rfl rfl (Nat.le_of_ble_eq_true rfl) (Nat.le_of_ble_eq_true rfl) ⟨Nat.le_of_ble_eq_true rfl, Nat.le_of_ble_eq_true rfl⟩ ?_
        refine sp_X5_bit ?_
        change GW _ _ _ 32 _ [.int _, .int _] _ _ 0 0
        rw [bitI_nI]
        refine g_ior hX dX2_knowersOf_32 ?_
        refine g_istore_n (lv' := [(2, .int _), (3, .int _), (0, .ref _), (1, .int _)]) hX dX2_knowersOf_33 rfl (by decide) rfl ?_
        refine g_iinc (lv' := [(3, .int _), (2, .int _), (0, .ref _), (1, .int _)]) hX dX2_knowersOf_34 rfl (by first | exact nI_inc _ | rfl) (by decide) rfl ?_
        refine g_goto 4 hX dX2_knowersOf_37 (by decide) ?_
        refine g_pick [0, 1, 2, 3] rfl ?_
        rw [← bsum_t (f := fun p => bt (I (κ.2.1 st 0) p) t) c24]
        exact ih (6 - (k + 1)) (by omega) (k + 1) rfl (by omega)

set_option maxHeartbeats 4000000 in
set_option maxRecDepth 100000 in
theorem sp_X2_knowersOf {Γ : Ga} {d : Nat} {κ : Kp} {I : Ip} {Q : Option Value → Kp → Ip → Prop} {st t P T : Nat} {s : Nat → Int32} (hSt : StK κ st) (hP : P ≤ 6) (hT : T ≤ 9) (hs : WfS s P T) (hSR : SR (I (κ.2.1 st 0)) (I st) s T) (ht : t < T) (hq : Q (some (.int (s t))) κ I) : Sp Γ (d + 1) mX2_knowersOf [.ref (st), .int (nI t)] κ I Q := by
  obtain ⟨hst, hst0, sk, sk0⟩ := id hSt
  intro X hM
  have hX := hM.std
  have hR := hM.room
  show GW _ mX2_knowersOf X 0 [(0, .ref (st)), (1, .int (nI t))] [] _ _ 0 0
  refine g_iconst (v := nI 0) hX dX2_knowersOf_0 (by decide) ?_
  refine g_istore_n (lv' := [(2, .int _), (0, .ref _), (1, .int _)]) hX dX2_knowersOf_1 rfl (by decide) rfl ?_
  refine g_iconst (v := nI 0) hX dX2_knowersOf_2 (by decide) ?_
  refine g_istore_n (lv' := [(3, .int _), (2, .int _), (0, .ref _), (1, .int _)]) hX dX2_knowersOf_3 rfl (by decide) rfl ?_
  rw [show nI 0 = bsum 0 (fun p => bt (I (κ.2.1 st 0) p) t) from nI0]
  refine g_pick [0, 1, 2, 3] rfl (lp_X2_knowersOf_4 hM hSt (by omega) ?_ 6 0 rfl (Nat.zero_le _))
  rw [hSR.knowers hs hP ht]
  exact hq

set_option maxHeartbeats 4000000 in
set_option maxRecDepth 100000 in
theorem lp_X2_hearersOf_6 {Γ : Ga} {d : Nat} {κ : Kp} {Q : Option Value → Kp → Ip → Prop} {X : Cx} {I : Ip} {st tw t P T q : Nat} {w s : Nat → Int32} {kn : Int32} (hM : Mx Γ (d + 2) mX2_hearersOf Q X) (hSt : StK κ st) (hTw : TwK κ tw) (hTR : TwR κ I tw w P T) (hw : WfT w P T) (hSR : SR (I (κ.2.1 st 0)) (I st) s T) (htT : t < T) (hqt : w (14 + t) = nI q) (hq6 : q < 6) (hq : Q (some (.int (hrsF w s t kn P &&& (bit1 q ^^^ -1)))) κ I) : ∀ (n : Nat) (p : Nat), n = P - p → p ≤ P → GW Γ mX2_hearersOf X 6 [(5, .int (nI p)), (4, .int (hrsF w s t kn p)), (0, .ref (st)), (1, .ref (tw)), (2, .int (nI t)), (3, .int (kn))] [] κ (I) 0 0 := by
  have hX := hM.std
  have hR := hM.room
  intro n
  induction n using Nat.strongRecOn with
  | ind n ih =>
    intro p hn hp
    obtain ⟨hst, hst0, sk, sk0⟩ := id hSt
    obtain ⟨ht, ht0, ⟨t2, u2⟩, ⟨t3, u3⟩, ⟨t4, u4⟩, ⟨t5, u5⟩, ⟨t6, u6⟩, ⟨t7, u7⟩, ⟨t8, u8⟩⟩ := id hTw
    obtain ⟨hw0, hw1, hP, hT, -⟩ := id hw
    obtain ⟨r0, r1, r2, r3, r4, r5, r6, r7, r8⟩ := id hTR
    refine g_iload hX dX2_hearersOf_6 rfl ?_
    refine g_aload_n hX dX2_hearersOf_8 rfl rfl ?_
    refine g_getI hX dX2_hearersOf_9 flX2_28 (by assumption) rfl ?_
    refine g_icmpge 60 hX dX2_hearersOf_12 (by decide) (fun c12 => ?_) (fun c12 => ?_)
    · rw [r0, nI_leI (by omega) (by omega)] at c12
      refine g_iload hX dX2_hearersOf_60 rfl ?_
      refine g_aload_n hX dX2_hearersOf_62 rfl rfl ?_
      refine g_iload_n hX dX2_hearersOf_63 rfl rfl ?_
      refine g_callV (md' := mX4_personOf) (ci := 4) (As := [.int _]) hX hR dX2_hearersOf_64 clX2_81 okX4_personOf rfl (by assumption) rfl rfl (Nat.le_of_ble_eq_true rfl) (Nat.le_of_ble_eq_true rfl) ⟨Nat.le_of_ble_eq_true rfl, Nat.le_of_ble_eq_true rfl⟩ ?_
      refine sp_X4_personOf hTw ?_
      rw [atV_in (by omega) (by decide), r6 t htT, hqt]
      change GW _ _ _ 67 _ [.int _, .int _] _ _ 0 0
      refine g_callS (md' := mX5_bit) (As := [.int _]) hX hR dX2_hearersOf_67 clX2_62 okX5_bit rfl rfl (Nat.le_of_ble_eq_true rfl) (Nat.le_of_ble_eq_true rfl) ⟨Nat.le_of_ble_eq_true rfl, Nat.le_of_ble_eq_true rfl⟩ ?_
      refine sp_X5_bit ?_
      change GW _ _ _ 70 _ [.int _, .int _] _ _ 0 0
      rw [bitI_nI]
      refine g_iconst (v := (-1)) hX dX2_hearersOf_70 (by decide) ?_
      refine g_ixor hX dX2_hearersOf_71 ?_
      refine g_iand hX dX2_hearersOf_72 ?_
      refine g_iret hM dX2_hearersOf_73 rfl (rfl) ⟨Nat.le_of_ble_eq_true rfl, Nat.le_of_ble_eq_true rfl⟩ ?_
      have e : p = P := by omega
      subst e
      exact hq
    · rw [r0, nI_leI (by omega) (by omega)] at c12
      refine g_iload_n hX dX2_hearersOf_15 rfl rfl ?_
      refine g_iload hX dX2_hearersOf_16 rfl ?_
      refine g_callS (md' := mX5_bit) (As := [.int _]) hX hR dX2_hearersOf_18 clX2_62 okX5_bit rfl rfl (Nat.le_of_ble_eq_true rfl) (Nat.le_of_ble_eq_true rfl) ⟨Nat.le_of_ble_eq_true rfl, Nat.le_of_ble_eq_true rfl⟩ ?_
      refine sp_X5_bit ?_
      change GW _ _ _ 21 _ [.int _, .int _] _ _ 0 0
      refine g_iand hX dX2_hearersOf_21 ?_
      refine g_ifeq 54 hX dX2_hearersOf_22 (by decide) (fun c22 => ?_) (fun c22 => ?_)
      · rw [bitI_nI, and_bit0 (by omega)] at c22
        refine g_iinc (lv' := [(5, .int _), (4, .int _), (0, .ref _), (1, .ref _), (2, .int _), (3, .int _)]) hX dX2_hearersOf_54 rfl (by first | exact nI_inc _ | rfl) (by decide) rfl ?_
        refine g_goto 6 hX dX2_hearersOf_57 (by decide) ?_
        refine g_pick [0, 1, 2, 3, 4, 5] rfl ?_
        have e : hrsF w s t kn (p + 1) = hrsF w s t kn p := by rw [hrsF, if_neg (fun e => by rw [c22] at e; cases e.1)]
        rw [← e]
        exact ih (P - (p + 1)) (by omega) (p + 1) rfl (by omega)
      · rw [bitI_nI, and_bit1 (by omega)] at c22
        refine g_aload_n hX dX2_hearersOf_25 rfl rfl ?_
        refine g_iload hX dX2_hearersOf_26 rfl ?_
        refine g_callV (md' := mX4_kindOf) (ci := 4) (As := [.int _]) hX hR dX2_hearersOf_28 clX2_75 okX4_kindOf rfl (by assumption) rfl rfl (Nat.le_of_ble_eq_true rfl) (Nat.le_of_ble_eq_true rfl) ⟨Nat.le_of_ble_eq_true rfl, Nat.le_of_ble_eq_true rfl⟩ ?_
        refine sp_X4_kindOf hTw ?_
        change GW _ _ _ 31 _ [.int _] _ _ 0 0
        refine g_iconst (v := nI 1) hX dX2_hearersOf_31 (by decide) ?_
        refine g_icmpeq 54 hX dX2_hearersOf_32 (by decide) (fun c32 => ?_) (fun c32 => ?_)
        · rw [atV_in (by omega) (by decide), r2 p (by omega)] at c32
          refine g_iinc (lv' := [(5, .int _), (4, .int _), (0, .ref _), (1, .ref _), (2, .int _), (3, .int _)]) hX dX2_hearersOf_54 rfl (by first | exact nI_inc _ | rfl) (by decide) rfl ?_
          refine g_goto 6 hX dX2_hearersOf_57 (by decide) ?_
          refine g_pick [0, 1, 2, 3, 4, 5] rfl ?_
          have e : hrsF w s t kn (p + 1) = hrsF w s t kn p := by rw [hrsF, if_neg (fun e => e.2.1 c32)]
          rw [← e]
          exact ih (P - (p + 1)) (by omega) (p + 1) rfl (by omega)
        · rw [atV_in (by omega) (by decide), r2 p (by omega)] at c32
          refine g_aload_n hX dX2_hearersOf_35 rfl rfl ?_
          refine g_iload_n hX dX2_hearersOf_36 rfl rfl ?_
          refine g_callV (md' := mX2_isHushed) (ci := 2) (As := [.int _]) hX hR dX2_hearersOf_37 clX2_66 okX2_isHushed rfl (by assumption) rfl rfl (Nat.le_of_ble_eq_true rfl) (Nat.le_of_ble_eq_true rfl) ⟨Nat.le_of_ble_eq_true rfl, Nat.le_of_ble_eq_true rfl⟩ ?_
          refine sp_X2_isHushed hSt (by omega) ?_
          change GW _ _ _ 40 _ [.int _] _ _ 0 0
          refine g_ifne 54 hX dX2_hearersOf_40 (by decide) (fun c40 => ?_) (fun c40 => ?_)
          · rw [b2i_n0, hSR.2.1] at c40
            refine g_iinc (lv' := [(5, .int _), (4, .int _), (0, .ref _), (1, .ref _), (2, .int _), (3, .int _)]) hX dX2_hearersOf_54 rfl (by first | exact nI_inc _ | rfl) (by decide) rfl ?_
            refine g_goto 6 hX dX2_hearersOf_57 (by decide) ?_
            refine g_pick [0, 1, 2, 3, 4, 5] rfl ?_
            have e : hrsF w s t kn (p + 1) = hrsF w s t kn p := by rw [hrsF, if_neg (fun e => by rw [c40] at e; cases e.2.2)]
            rw [← e]
            exact ih (P - (p + 1)) (by omega) (p + 1) rfl (by omega)
          · rw [b2i_0, hSR.2.1] at c40
            refine g_iload hX dX2_hearersOf_43 rfl ?_
            refine g_aload_n hX dX2_hearersOf_45 rfl rfl ?_
            refine g_iload hX dX2_hearersOf_46 rfl ?_
            refine g_callV (md' := mX4_friendsOf) (ci := 4) (As := [.int _]) hX hR dX2_hearersOf_48 clX2_78 okX4_friendsOf rfl (by assumption) rfl rfl (Nat.le_of_ble_eq_true rfl) (Nat.le_of_ble_eq_true rfl) ⟨Nat.le_of_ble_eq_true rfl, Nat.le_of_ble_eq_true rfl⟩ ?_
            refine sp_X4_friendsOf hTw ?_
            rw [atV_in (by omega) (by decide), r3 p (by omega)]
            change GW _ _ _ 51 _ [.int _, .int _] _ _ 0 0
            refine g_ior hX dX2_hearersOf_51 ?_
            refine g_istore (lv' := [(4, .int _), (5, .int _), (0, .ref _), (1, .ref _), (2, .int _), (3, .int _)]) hX dX2_hearersOf_52 (by decide) rfl ?_
            refine g_iinc (lv' := [(5, .int _), (4, .int _), (0, .ref _), (1, .ref _), (2, .int _), (3, .int _)]) hX dX2_hearersOf_54 rfl (by first | exact nI_inc _ | rfl) (by decide) rfl ?_
            refine g_goto 6 hX dX2_hearersOf_57 (by decide) ?_
            refine g_pick [0, 1, 2, 3, 4, 5] rfl ?_
            have e : hrsF w s t kn (p + 1) = hrsF w s t kn p ||| w (8 + p) := by rw [hrsF, if_pos ⟨c22, c32, c40⟩]
            rw [← e]
            exact ih (P - (p + 1)) (by omega) (p + 1) rfl (by omega)

set_option maxHeartbeats 4000000 in
set_option maxRecDepth 100000 in
theorem sp_X2_hearersOf {Γ : Ga} {d : Nat} {κ : Kp} {I : Ip} {Q : Option Value → Kp → Ip → Prop} {st tw t P T q : Nat} {w s : Nat → Int32} {kn : Int32} (hSt : StK κ st) (hTw : TwK κ tw) (hTR : TwR κ I tw w P T) (hw : WfT w P T) (hSR : SR (I (κ.2.1 st 0)) (I st) s T) (htT : t < T) (hqt : w (14 + t) = nI q) (hq6 : q < 6) (hq : Q (some (.int (hrsF w s t kn P &&& (bit1 q ^^^ -1)))) κ I) : Sp Γ (d + 2) mX2_hearersOf [.ref (st), .ref (tw), .int (nI t), .int (kn)] κ I Q := by
  intro X hM
  have hX := hM.std
  have hR := hM.room
  show GW _ mX2_hearersOf X 0 [(0, .ref (st)), (1, .ref (tw)), (2, .int (nI t)), (3, .int (kn))] [] _ _ 0 0
  refine g_iconst (v := nI 0) hX dX2_hearersOf_0 (by decide) ?_
  refine g_istore (lv' := [(4, .int _), (0, .ref _), (1, .ref _), (2, .int _), (3, .int _)]) hX dX2_hearersOf_1 (by decide) rfl ?_
  refine g_iconst (v := nI 0) hX dX2_hearersOf_3 (by decide) ?_
  refine g_istore (lv' := [(5, .int _), (4, .int _), (0, .ref _), (1, .ref _), (2, .int _), (3, .int _)]) hX dX2_hearersOf_4 (by decide) rfl ?_
  refine g_pick [0, 1, 2, 3, 4, 5] rfl (lp_X2_hearersOf_6 hM hSt hTw hTR hw hSR htT hqt hq6 hq P 0 rfl (Nat.zero_le _))

set_option maxHeartbeats 4000000 in
set_option maxRecDepth 100000 in
theorem lp_X4_friendships_4 {Γ : Ga} {d : Nat} {κ : Kp} {Q : Option Value → Kp → Ip → Prop} {X : Cx} {I : Ip} {tw P T : Nat} {w : Nat → Int32} (hM : Mx Γ (d + 2) mX4_friendships Q X) (hTw : TwK κ tw) (hTR : TwR κ I tw w P T) (hw : WfT w P T) (hq : Q (some (.int (nI (pairsF w P / 2)))) κ I) : ∀ (n : Nat) (p : Nat), n = P - p → p ≤ P → GW Γ mX4_friendships X 4 [(2, .int (nI p)), (1, .int (nI (fb_sm (fun p => pcI (w (8 + p))) p))), (0, .ref (tw))] [] κ (I) 0 0 := by
  have hX := hM.std
  have hR := hM.room
  intro n
  induction n using Nat.strongRecOn with
  | ind n ih =>
    intro p hn hp
    obtain ⟨ht, ht0, ⟨t2, u2⟩, ⟨t3, u3⟩, ⟨t4, u4⟩, ⟨t5, u5⟩, ⟨t6, u6⟩, ⟨t7, u7⟩, ⟨t8, u8⟩⟩ := id hTw
    obtain ⟨hw0, hw1, hP, hT, -⟩ := id hw
    obtain ⟨r0, r1, r2, r3, r4, r5, r6, r7, r8⟩ := id hTR
    have hb : ∀ p, p ≤ P → fb_sm (fun p => pcI (w (8 + p))) p ≤ p * 9 := fun p _ => fb_sm_bound (fun k _ => fb_ct_le _ 9)
    refine g_iload_n hX dX4_friendships_4 rfl rfl ?_
    refine g_aload_n hX dX4_friendships_5 rfl rfl ?_
    refine g_getI hX dX4_friendships_6 flX4_33 (by assumption) rfl ?_
    refine g_icmpge 29 hX dX4_friendships_9 (by decide) (fun c9 => ?_) (fun c9 => ?_)
    · rw [r0, nI_leI (by omega) (by omega)] at c9
      refine g_iload_n hX dX4_friendships_29 rfl rfl ?_
      refine g_iconst (v := nI 2) hX dX4_friendships_30 (by decide) ?_
      refine g_idiv hX dX4_friendships_31 (by decide) ?_
      refine g_iret hM dX4_friendships_32 rfl (rfl) ⟨Nat.le_of_ble_eq_true rfl, Nat.le_of_ble_eq_true rfl⟩ ?_
      have e : p = P := by omega
      subst e
      have := hb p (Nat.le_refl _)
      exact q_int (nI_div (by omega) (by decide)).symm hq
    · rw [r0, nI_leI (by omega) (by omega)] at c9
      refine g_iload_n hX dX4_friendships_12 rfl rfl ?_
      refine g_aload_n hX dX4_friendships_13 rfl rfl ?_
      refine g_iload_n hX dX4_friendships_14 rfl rfl ?_
      refine g_callV (md' := mX4_friendsOf) (ci := 4) (As := [.int _]) hX hR dX4_friendships_15 clX4_52 okX4_friendsOf rfl (by assumption) rfl rfl (Nat.le_of_ble_eq_true rfl) (Nat.le_of_ble_eq_true rfl) ⟨Nat.le_of_ble_eq_true rfl, Nat.le_of_ble_eq_true rfl⟩ ?_
      refine sp_X4_friendsOf hTw ?_
      rw [atV_in (by omega) (by decide), r3 p (by omega)]
      change GW _ _ _ 18 _ [.int _, .int _] _ _ 0 0
      refine g_callS (md' := mJ6_bitCount_0f7a4) (As := [.int _]) hX hR dX4_friendships_18 clX4_63 okJ6_bitCount_0f7a4 rfl rfl (Nat.le_of_ble_eq_true rfl) (Nat.le_of_ble_eq_true rfl) ⟨Nat.le_of_ble_eq_true rfl, Nat.le_of_ble_eq_true rfl⟩ ?_
      obtain ⟨kk, hkk, ekk⟩ := small_nI (N := 9) (x := w (8 + p)) (by decide) (fun i hi => by have := hw.2.2.2.2.2.1 p (by omega) i hi; omega)
      rw [ekk]
      refine sp_J6_bitCount_0f7a4 hkk ?_
      rw [← pcI_nI hkk, ← ekk]
      change GW _ _ _ 21 _ [.int _, .int _] _ _ 0 0
      refine g_iadd hX dX4_friendships_21 ?_
      rw [nI_add]
      refine g_istore_n (lv' := [(1, .int _), (2, .int _), (0, .ref _)]) hX dX4_friendships_22 rfl (by decide) rfl ?_
      refine g_iinc (lv' := [(2, .int _), (1, .int _), (0, .ref _)]) hX dX4_friendships_23 rfl (by first | exact nI_inc _ | rfl) (by decide) rfl ?_
      refine g_goto 4 hX dX4_friendships_26 (by decide) ?_
      exact g_pick [0, 1, 2] rfl (ih (P - (p + 1)) (by omega) (p + 1) rfl (by omega))

set_option maxHeartbeats 4000000 in
set_option maxRecDepth 100000 in
theorem sp_X4_friendships {Γ : Ga} {d : Nat} {κ : Kp} {I : Ip} {Q : Option Value → Kp → Ip → Prop} {tw P T : Nat} {w : Nat → Int32} (hTw : TwK κ tw) (hTR : TwR κ I tw w P T) (hw : WfT w P T) (hq : Q (some (.int (nI (pairsF w P / 2)))) κ I) : Sp Γ (d + 2) mX4_friendships [.ref (tw)] κ I Q := by
  obtain ⟨ht, ht0, ⟨t2, u2⟩, ⟨t3, u3⟩, ⟨t4, u4⟩, ⟨t5, u5⟩, ⟨t6, u6⟩, ⟨t7, u7⟩, ⟨t8, u8⟩⟩ := id hTw
  intro X hM
  have hX := hM.std
  have hR := hM.room
  show GW _ mX4_friendships X 0 [(0, .ref (tw))] [] _ _ 0 0
  refine g_iconst (v := nI 0) hX dX4_friendships_0 (by decide) ?_
  refine g_istore_n (lv' := [(1, .int _), (0, .ref _)]) hX dX4_friendships_1 rfl (by decide) rfl ?_
  refine g_iconst (v := nI 0) hX dX4_friendships_2 (by decide) ?_
  refine g_istore_n (lv' := [(2, .int _), (1, .int _), (0, .ref _)]) hX dX4_friendships_3 rfl (by decide) rfl ?_
  exact g_pick [0, 1, 2] rfl (lp_X4_friendships_4 hM hTw hTR hw hq P 0 rfl (Nat.zero_le _))

set_option maxHeartbeats 4000000 in
set_option maxRecDepth 100000 in
theorem lp_X4_illOfAll_4 {Γ : Ga} {d : Nat} {κ : Kp} {Q : Option Value → Kp → Ip → Prop} {X : Cx} {I : Ip} {tw P T k : Nat} {w : Nat → Int32} (hM : Mx Γ (d + 2) mX4_illOfAll Q X) (hTw : TwK κ tw) (hTR : TwR κ I tw w P T) (hw : WfT w P T) (hk : k < 512) (hq : Q (some (.int (illF w k T))) κ I) : ∀ (n : Nat) (t : Nat), n = T - t → t ≤ T → GW Γ mX4_illOfAll X 4 [(3, .int (nI t)), (2, .int (illF w k t)), (0, .ref (tw)), (1, .int (nI k))] [] κ (I) 0 0 := by
  have hX := hM.std
  have hR := hM.room
  intro n
  induction n using Nat.strongRecOn with
  | ind n ih =>
    intro t hn ht
    obtain ⟨ht, ht0, ⟨t2, u2⟩, ⟨t3, u3⟩, ⟨t4, u4⟩, ⟨t5, u5⟩, ⟨t6, u6⟩, ⟨t7, u7⟩, ⟨t8, u8⟩⟩ := id hTw
    obtain ⟨hw0, hw1, hP, hT9, -⟩ := id hw
    obtain ⟨r0, r1, r2, r3, r4, r5, r6, r7, r8⟩ := id hTR
    refine g_iload_n hX dX4_illOfAll_4 rfl rfl ?_
    refine g_aload_n hX dX4_illOfAll_5 rfl rfl ?_
    refine g_getI hX dX4_illOfAll_6 flX4_37 (by assumption) rfl ?_
    refine g_icmpge 35 hX dX4_illOfAll_9 (by decide) (fun c9 => ?_) (fun c9 => ?_)
    · rw [r1, nI_leI (by omega) (by omega)] at c9
      refine g_iload_n hX dX4_illOfAll_35 rfl rfl ?_
      refine g_iret hM dX4_illOfAll_36 rfl (rfl) ⟨Nat.le_of_ble_eq_true rfl, Nat.le_of_ble_eq_true rfl⟩ ?_
      have e : t = T := by omega
      subst e
      exact hq
    · rw [r1, nI_leI (by omega) (by omega)] at c9
      refine g_iload_n hX dX4_illOfAll_12 rfl rfl ?_
      refine g_iload_n hX dX4_illOfAll_13 rfl rfl ?_
      refine g_callS (md' := mX5_bit) (As := [.int _]) hX hR dX4_illOfAll_14 clX4_56 okX5_bit rfl rfl (Nat.le_of_ble_eq_true rfl) (Nat.le_of_ble_eq_true rfl) ⟨Nat.le_of_ble_eq_true rfl, Nat.le_of_ble_eq_true rfl⟩ ?_
      refine sp_X5_bit ?_
      change GW _ _ _ 17 _ [.int _, .int _] _ _ 0 0
      refine g_iand hX dX4_illOfAll_17 ?_
      refine g_ifeq 29 hX dX4_illOfAll_18 (by decide) (fun c18 => ?_) (fun c18 => ?_)
      · rw [bitI_nI, and_bit0 (by omega), bt_nI (by omega) (by omega)] at c18
        refine g_iinc (lv' := [(3, .int _), (2, .int _), (0, .ref _), (1, .int _)]) hX dX4_illOfAll_29 rfl (by first | exact nI_inc _ | rfl) (by decide) rfl ?_
        refine g_goto 4 hX dX4_illOfAll_32 (by decide) ?_
        refine g_pick [0, 1, 2, 3] rfl ?_
        have e : illF w k (t + 1) = illF w k t := by rw [illF, if_neg (by rw [c18]; decide), add_nI0]
        rw [← e]
        exact ih (T - (t + 1)) (by omega) (t + 1) rfl (by omega)
      · rw [bitI_nI, and_bit1 (by omega), bt_nI (by omega) (by omega)] at c18
        refine g_iload_n hX dX4_illOfAll_21 rfl rfl ?_
        refine g_aload_n hX dX4_illOfAll_22 rfl rfl ?_
        refine g_iload_n hX dX4_illOfAll_23 rfl rfl ?_
        refine g_callV (md' := mX4_illOf) (ci := 4) (As := [.int _]) hX hR dX4_illOfAll_24 clX4_68 okX4_illOf rfl (by assumption) rfl rfl (Nat.le_of_ble_eq_true rfl) (Nat.le_of_ble_eq_true rfl) ⟨Nat.le_of_ble_eq_true rfl, Nat.le_of_ble_eq_true rfl⟩ ?_
        refine sp_X4_illOf hTw ?_
        rw [atV_in (by omega) (by decide), r7 t (by omega)]
        change GW _ _ _ 27 _ [.int _, .int _] _ _ 0 0
        refine g_iadd hX dX4_illOfAll_27 ?_
        refine g_istore_n (lv' := [(2, .int _), (3, .int _), (0, .ref _), (1, .int _)]) hX dX4_illOfAll_28 rfl (by decide) rfl ?_
        refine g_iinc (lv' := [(3, .int _), (2, .int _), (0, .ref _), (1, .int _)]) hX dX4_illOfAll_29 rfl (by first | exact nI_inc _ | rfl) (by decide) rfl ?_
        refine g_goto 4 hX dX4_illOfAll_32 (by decide) ?_
        refine g_pick [0, 1, 2, 3] rfl ?_
        have e : illF w k (t + 1) = illF w k t + w (23 + t) := by rw [illF, if_pos c18]
        rw [← e]
        exact ih (T - (t + 1)) (by omega) (t + 1) rfl (by omega)

set_option maxHeartbeats 4000000 in
set_option maxRecDepth 100000 in
theorem sp_X4_illOfAll {Γ : Ga} {d : Nat} {κ : Kp} {I : Ip} {Q : Option Value → Kp → Ip → Prop} {tw P T k : Nat} {w : Nat → Int32} (hTw : TwK κ tw) (hTR : TwR κ I tw w P T) (hw : WfT w P T) (hk : k < 512) (hq : Q (some (.int (illF w k T))) κ I) : Sp Γ (d + 2) mX4_illOfAll [.ref (tw), .int (nI k)] κ I Q := by
  obtain ⟨ht, ht0, ⟨t2, u2⟩, ⟨t3, u3⟩, ⟨t4, u4⟩, ⟨t5, u5⟩, ⟨t6, u6⟩, ⟨t7, u7⟩, ⟨t8, u8⟩⟩ := id hTw
  intro X hM
  have hX := hM.std
  have hR := hM.room
  show GW _ mX4_illOfAll X 0 [(0, .ref (tw)), (1, .int (nI k))] [] _ _ 0 0
  refine g_iconst (v := nI 0) hX dX4_illOfAll_0 (by decide) ?_
  refine g_istore_n (lv' := [(2, .int _), (0, .ref _), (1, .int _)]) hX dX4_illOfAll_1 rfl (by decide) rfl ?_
  refine g_iconst (v := nI 0) hX dX4_illOfAll_2 (by decide) ?_
  refine g_istore_n (lv' := [(3, .int _), (2, .int _), (0, .ref _), (1, .int _)]) hX dX4_illOfAll_3 rfl (by decide) rfl ?_
  exact g_pick [0, 1, 2, 3] rfl (lp_X4_illOfAll_4 hM hTw hTR hw hk hq T 0 rfl (Nat.zero_le _))
