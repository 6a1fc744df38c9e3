set_option maxHeartbeats 4000000 in
set_option maxRecDepth 100000 in
theorem sp_X2_tellOut {Γ : Ga} {d : Nat} {κ : Kp} {I : Ip} {Q : Option Value → Kp → Ip → Prop} {st t o : Nat} (hSt : StK κ st) (h5 : I st 5 = nI t) (ho : lisV (I st) = nI o) (ho6 : o < 6) (hq : Q none κ (va_up (va_up I (κ.2.1 st 0) (va_up (I (κ.2.1 st 0)) o (I (κ.2.1 st 0) o ||| bit1 t))) st (endV (va_up (va_up (I st) 7 (I st 7 ||| bit1 t)) 4 (nI o))))) : Sp Γ (d + 1) mX2_tellOut [.ref (st)] κ I Q := by
  obtain ⟨hst, hst0, sk, sk0⟩ := id hSt
  have hns : st ≠ κ.2.1 st 0 := kd_ne hst sk (by decide)
  have hnk : κ.2.1 st 0 ≠ st := Ne.symm hns
  intro X hM
  have hX := hM.std
  have hR := hM.room
  show GW _ mX2_tellOut X 0 [(0, .ref (st))] [] _ _ 0 0
  refine g_aload_n hX dX2_tellOut_0 rfl rfl ?_
  refine g_dup hX dX2_tellOut_1 rfl ?_
  refine g_getI hX dX2_tellOut_2 flX2_55 (by assumption) rfl ?_
  try simp (disch := decide) only [up_same, up_up, up_neD]
  refine g_aload_n hX dX2_tellOut_5 rfl rfl ?_
  refine g_getI hX dX2_tellOut_6 flX2_25 (by assumption) rfl ?_
  try simp (disch := decide) only [up_same, up_up, up_neD]
  rw [h5]
  refine g_callS (md' := mX5_bit) (As := [.int _]) hX hR dX2_tellOut_9 clX2_62 okX5_bit rfl rfl (Nat.le_of_ble_eq_true rfl) (Nat.le_of_ble_eq_true rfl) ⟨Nat.le_of_ble_eq_true rfl, Nat.le_of_ble_eq_true rfl⟩ ?_
  refine sp_X5_bit ?_
  change GW _ _ _ 12 _ [.int _, .int _, .ref _] _ _ 0 0
  rw [bitI_nI]
  refine g_ior hX dX2_tellOut_12 ?_
  refine g_putI hX dX2_tellOut_13 flX2_55 (by assumption) rfl rfl ?_
  try simp (disch := decide) only [up_same, up_up, up_neD]
  refine g_aload_n hX dX2_tellOut_16 rfl rfl ?_
  refine g_getR hX dX2_tellOut_17 flX2_9 (by assumption) rfl (by first | assumption | rfl) (by assumption) ?_
  refine g_aload_n hX dX2_tellOut_20 rfl rfl ?_
  refine g_callV (md' := mX2_listener) (ci := 2) (As := []) hX hR dX2_tellOut_21 clX2_117 okX2_listener rfl (by assumption) rfl rfl (Nat.le_of_ble_eq_true rfl) (Nat.le_of_ble_eq_true rfl) ⟨Nat.le_of_ble_eq_true rfl, Nat.le_of_ble_eq_true rfl⟩ ?_
  refine sp_X2_listener hSt ?_
  rw [up_same, lisV_up (by decide), ho]
  change GW _ _ _ 24 _ [.int _, .ref _] _ _ 0 0
  refine g_aload_n hX dX2_tellOut_24 rfl rfl ?_
  refine g_getR hX dX2_tellOut_25 flX2_9 (by assumption) rfl (by first | assumption | rfl) (by assumption) ?_
  refine g_aload_n hX dX2_tellOut_28 rfl rfl ?_
  refine g_callV (md' := mX2_listener) (ci := 2) (As := []) hX hR dX2_tellOut_29 clX2_117 okX2_listener rfl (by assumption) rfl rfl (Nat.le_of_ble_eq_true rfl) (Nat.le_of_ble_eq_true rfl) ⟨Nat.le_of_ble_eq_true rfl, Nat.le_of_ble_eq_true rfl⟩ ?_
  refine sp_X2_listener hSt ?_
  rw [up_same, lisV_up (by decide), ho]
  change GW _ _ _ 32 _ [.int _, .ref _, .int _, .ref _] _ _ 0 0
  refine g_callS (md' := mX5_at) (As := [.ref _, .int _]) hX hR dX2_tellOut_32 clX2_36 okX5_at rfl rfl (Nat.le_of_ble_eq_true rfl) (Nat.le_of_ble_eq_true rfl) ⟨Nat.le_of_ble_eq_true rfl, Nat.le_of_ble_eq_true rfl⟩ ?_
  refine sp_X5_at (by assumption) (by decide) ?_
  rw [up_ne _ _ hnk, atV_in ho6 (by decide)]
  change GW _ _ _ 35 _ [.int _, .int _, .ref _] _ _ 0 0
  refine g_aload_n hX dX2_tellOut_35 rfl rfl ?_
  refine g_getI hX dX2_tellOut_36 flX2_25 (by assumption) rfl ?_
  try simp (disch := decide) only [up_same, up_up, up_neD]
  rw [h5]
  refine g_callS (md' := mX5_bit) (As := [.int _]) hX hR dX2_tellOut_39 clX2_62 okX5_bit rfl rfl (Nat.le_of_ble_eq_true rfl) (Nat.le_of_ble_eq_true rfl) ⟨Nat.le_of_ble_eq_true rfl, Nat.le_of_ble_eq_true rfl⟩ ?_
  refine sp_X5_bit ?_
  change GW _ _ _ 42 _ [.int _, .int _, .int _, .ref _] _ _ 0 0
  rw [bitI_nI]
  refine g_ior hX dX2_tellOut_42 ?_
  refine g_callS (md' := mX5_put) (As := [.ref _, .int _, .int _]) hX hR dX2_tellOut_43 clX2_133 okX5_put rfl rfl (Nat.le_of_ble_eq_true rfl) (Nat.le_of_ble_eq_true rfl) ⟨Nat.le_of_ble_eq_true rfl, Nat.le_of_ble_eq_true rfl⟩ ?_
  refine sp_X5_put (by assumption) (by decide) ho6 ?_
  rw [up_ne _ _ hnk]
  change GW _ _ _ 46 _ [] _ _ 0 0
  refine g_aload_n hX dX2_tellOut_46 rfl rfl ?_
  refine g_aload_n hX dX2_tellOut_47 rfl rfl ?_
  refine g_callV (md' := mX2_listener) (ci := 2) (As := []) hX hR dX2_tellOut_48 clX2_117 okX2_listener rfl (by assumption) rfl rfl (Nat.le_of_ble_eq_true rfl) (Nat.le_of_ble_eq_true rfl) ⟨Nat.le_of_ble_eq_true rfl, Nat.le_of_ble_eq_true rfl⟩ ?_
  refine sp_X2_listener hSt ?_
  rw [up_ne _ _ hns, up_same, lisV_up (by decide), ho]
  change GW _ _ _ 51 _ [.int _, .ref _] _ _ 0 0
  refine g_putI hX dX2_tellOut_51 flX2_22 (by assumption) rfl rfl ?_
  try simp (disch := decide) only [up_same, up_up, up_neD]
  try simp only [up_ne _ _ hns, up_same]
  rw [up_mid hns]
  refine g_aload_n hX dX2_tellOut_54 rfl rfl ?_
  refine g_callV (md' := mX2_endTale) (ci := 2) (As := []) hX hR dX2_tellOut_55 clX2_90 okX2_endTale rfl (by assumption) rfl rfl (Nat.le_of_ble_eq_true rfl) (Nat.le_of_ble_eq_true rfl) ⟨Nat.le_of_ble_eq_true rfl, Nat.le_of_ble_eq_true rfl⟩ ?_
  refine sp_X2_endTale hSt ?_
  simp only [up_same, up_up]
  change GW _ _ _ 58 _ [] _ _ 0 0
  refine g_vret hM dX2_tellOut_58 rfl ⟨Nat.le_of_ble_eq_true rfl, Nat.le_of_ble_eq_true rfl⟩ ?_
  exact hq

set_option maxHeartbeats 4000000 in
set_option maxRecDepth 100000 in
theorem sp_X2_giveButter {Γ : Ga} {d : Nat} {κ : Kp} {I : Ip} {Q : Option Value → Kp → Ip → Prop} {st tw k : Nat} {P T : Nat} {w s : Nat → Int32} (hSt : StK κ st) (hTw : TwK κ tw) (hTR : TwR κ I tw w P T) (hw : WfT w P T) (hs : WfS s P T) (hSR : SR (I (κ.2.1 st 0)) (I st) s T) (hk1 : 1 ≤ k) (hk : k ≤ 60) (hleft : ∀ l, l ≤ 9 → ¬ s 13 = -4 → s 14 = nI l → k ≤ l) (hq : ∀ K' f' : Nat → Int32, SR K' f' (stepX w k s) T → Q none κ (va_up (va_up I (κ.2.1 st 0) K') st f')) : Sp Γ (d + 2) mX2_giveButter [.ref (st), .ref (tw), .int (nI k)] κ I Q := by
  obtain ⟨hst, hst0, sk, sk0⟩ := id hSt
  obtain ⟨ht, ht0, ⟨t2, u2⟩, ⟨t3, u3⟩, ⟨t4, u4⟩, ⟨t5, u5⟩, ⟨t6, u6⟩, ⟨t7, u7⟩, ⟨t8, u8⟩⟩ := id hTw
  obtain ⟨hw0, hw1, hP, hT, -⟩ := id hw
  have hns : st ≠ κ.2.1 st 0 := kd_ne hst sk (by decide)
  obtain ⟨-, -, r2, -, -, -, -, r7, -⟩ := id hTR
  intro X hM
  have hX := hM.std
  have hR := hM.room
  show GW _ mX2_giveButter X 0 [(0, .ref (st)), (1, .ref (tw)), (2, .int (nI k))] [] _ _ 0 0
  refine g_aload_n hX dX2_giveButter_0 rfl rfl ?_
  refine g_callV (md' := mX2_isTelling) (ci := 2) (As := []) hX hR dX2_giveButter_1 clX2_97 okX2_isTelling rfl (by assumption) rfl rfl (Nat.le_of_ble_eq_true rfl) (Nat.le_of_ble_eq_true rfl) ⟨Nat.le_of_ble_eq_true rfl, Nat.le_of_ble_eq_true rfl⟩ ?_
  refine sp_X2_isTelling hSt ?_
  change GW _ _ _ 4 _ [.int _] _ _ 0 0
  refine g_ifeq 70 hX dX2_giveButter_4 (by decide) (fun c4 => ?_) (fun c4 => ?_)
  · rw [b2i_0, decide_eq_false_iff_not, Decidable.not_not, hSR.tells hw hs] at c4
    refine g_aload_n hX dX2_giveButter_70 rfl rfl ?_
    refine g_callV (md' := mX2_anyoneSits) (ci := 2) (As := []) hX hR dX2_giveButter_71 clX2_58 okX2_anyoneSits rfl (by assumption) rfl rfl (Nat.le_of_ble_eq_true rfl) (Nat.le_of_ble_eq_true rfl) ⟨Nat.le_of_ble_eq_true rfl, Nat.le_of_ble_eq_true rfl⟩ ?_
    refine sp_X2_anyoneSits hSt ?_
    change GW _ _ _ 74 _ [.int _] _ _ 0 0
    refine g_ifeq 114 hX dX2_giveButter_74 (by decide) (fun c74 => ?_) (fun c74 => ?_)
    · rw [b2i_0, decide_eq_false_iff_not, Decidable.not_not, hSR.sits hw hs] at c74
      refine g_vret hM dX2_giveButter_114 rfl ⟨Nat.le_of_ble_eq_true rfl, Nat.le_of_ble_eq_true rfl⟩ ?_
      have hz := hq (I (κ.2.1 st 0)) (I st) (by unfold stepX; rw [if_pos c74]; exact hSR)
      rw [up_self, up_self] at hz
      exact hz
    · rw [b2i_n0, decide_eq_true_eq, hSR.sits hw hs] at c74
      obtain ⟨f2, f3, f4, f6, f5⟩ := hSR.s2 c74
      obtain ⟨a, b, c, hseat⟩ := hs.2.2.2.resolve_left (fun e => c74 e.1)
      obtain ⟨ha, hb, hab, h10, h11, -⟩ := id hseat
      refine g_aload_n hX dX2_giveButter_77 rfl rfl ?_
      refine g_aload_n hX dX2_giveButter_78 rfl rfl ?_
      refine g_getI hX dX2_giveButter_79 flX2_15 (by assumption) rfl ?_
      try simp (disch := decide) only [up_same, up_up, up_neD]
      refine g_callV (md' := mX4_kindOf) (ci := 4) (As := [.int _]) hX hR dX2_giveButter_82 clX2_75 okX4_kindOf rfl (by assumption) rfl rfl (Nat.le_of_ble_eq_true rfl) (Nat.le_of_ble_eq_true rfl) ⟨Nat.le_of_ble_eq_true rfl, Nat.le_of_ble_eq_true rfl⟩ ?_
      refine sp_X4_kindOf hTw ?_
      rw [f2, h10, atV_in (by omega) (by decide), r2 a ha]
      change GW _ _ _ 85 _ [.int _] _ _ 0 0
      refine g_iconst (v := nI 3) hX dX2_giveButter_85 (by decide) ?_
      refine g_icmpne 114 hX dX2_giveButter_86 (by decide) (fun c86 => ?_) (fun c86 => ?_)
      · refine g_vret hM dX2_giveButter_114 rfl ⟨Nat.le_of_ble_eq_true rfl, Nat.le_of_ble_eq_true rfl⟩ ?_
        have hh := hush_1 (w := w) h10 h11 (by omega) (by omega)
        rw [if_neg (fun e => c86 e.1)] at hh
        have hz := hq (I (κ.2.1 st 0)) (I st) (by unfold stepX; rw [if_neg c74, if_pos c4, hh, mul_nI0, nI0, Int32.add_zero, up_self]; exact hSR)
        rw [up_self, up_self] at hz
        exact hz
      · refine g_aload_n hX dX2_giveButter_89 rfl rfl ?_
        refine g_aload_n hX dX2_giveButter_90 rfl rfl ?_
        refine g_getI hX dX2_giveButter_91 flX2_19 (by assumption) rfl ?_
        try simp (disch := decide) only [up_same, up_up, up_neD]
        refine g_callV (md' := mX4_kindOf) (ci := 4) (As := [.int _]) hX hR dX2_giveButter_94 clX2_75 okX4_kindOf rfl (by assumption) rfl rfl (Nat.le_of_ble_eq_true rfl) (Nat.le_of_ble_eq_true rfl) ⟨Nat.le_of_ble_eq_true rfl, Nat.le_of_ble_eq_true rfl⟩ ?_
        refine sp_X4_kindOf hTw ?_
        rw [f3, h11, atV_in (by omega) (by decide), r2 b hb]
        change GW _ _ _ 97 _ [.int _] _ _ 0 0
        refine g_iconst (v := nI 3) hX dX2_giveButter_97 (by decide) ?_
        refine g_icmpne 114 hX dX2_giveButter_98 (by decide) (fun c98 => ?_) (fun c98 => ?_)
        · refine g_vret hM dX2_giveButter_114 rfl ⟨Nat.le_of_ble_eq_true rfl, Nat.le_of_ble_eq_true rfl⟩ ?_
          have hh := hush_1 (w := w) h10 h11 (by omega) (by omega)
          rw [if_neg (fun e => c98 e.2)] at hh
          have hz := hq (I (κ.2.1 st 0)) (I st) (by unfold stepX; rw [if_neg c74, if_pos c4, hh, mul_nI0, nI0, Int32.add_zero, up_self]; exact hSR)
          rw [up_self, up_self] at hz
          exact hz
        · refine g_aload_n hX dX2_giveButter_101 rfl rfl ?_
          refine g_dup hX dX2_giveButter_102 rfl ?_
          refine g_getI hX dX2_giveButter_103 flX2_46 (by assumption) rfl ?_
          try simp (disch := decide) only [up_same, up_up, up_neD]
          refine g_bipush (v := nI 10) hX dX2_giveButter_106 (by decide) ?_
          refine g_iload_n hX dX2_giveButter_108 rfl rfl ?_
          refine g_imul hX dX2_giveButter_109 ?_
          refine g_iadd hX dX2_giveButter_110 ?_
          refine g_putI hX dX2_giveButter_111 flX2_46 (by assumption) rfl rfl ?_
          try simp (disch := decide) only [up_same, up_up, up_neD]
          refine g_vret hM dX2_giveButter_114 rfl ⟨Nat.le_of_ble_eq_true rfl, Nat.le_of_ble_eq_true rfl⟩ ?_
          have hh := hush_1 (w := w) h10 h11 (by omega) (by omega)
          rw [if_pos ⟨c86, c98⟩] at hh
          have hz := hq (I (κ.2.1 st 0)) _ (by unfold stepX; rw [if_neg c74, if_pos c4, hh]; exact hSR.but hT)
          rw [up_self] at hz
          rw [nI_mul, Nat.mul_comm, ← nI_mul, hSR.2.2.2.2.1]
          exact hz
  · rw [b2i_n0, decide_eq_true_eq, hSR.tells hw hs] at c4
    obtain ⟨h10, a, b, c, o, t, l, hseat, hoth, hoP, hcP, h12, htT, hl1, hl9, h13, h14⟩ := seat_all hw hs c4
    obtain ⟨f2, f3, f4, f6, f5⟩ := hSR.s2 h10
    have hkl := hleft l hl9 c4 h14
    have hlis := (hSR.lis h10).trans hoth
    rw [h12] at f4
    rw [h14] at f6
    have h5 := (f5 c4).trans h13
    have hga := gain_1 (w := w) h12 h13 (by omega) (by omega)
    have hsx : ∀ g : Int32, gainF w s = g → stepX w k s = if s 14 - nI k = 0 then outF (va_up (va_up s 17 (s 17 + nI k * g)) 14 (s 14 - nI k)) else va_up (va_up s 17 (s 17 + nI k * g)) 14 (s 14 - nI k) := fun g hg => by unfold stepX; rw [if_neg h10, if_neg c4, hg]
    have hlk : nI l - nI k = nI (l - k) := nI_subE (by omega) (by omega)
    refine g_aload_n hX dX2_giveButter_7 rfl rfl ?_
    refine g_aload_n hX dX2_giveButter_8 rfl rfl ?_
    refine g_getI hX dX2_giveButter_9 flX2_25 (by assumption) rfl ?_
    try simp (disch := decide) only [up_same, up_up, up_neD]
    refine g_callV (md' := mX4_illOf) (ci := 4) (As := [.int _]) hX hR dX2_giveButter_12 clX2_127 okX4_illOf rfl (by assumption) rfl rfl (Nat.le_of_ble_eq_true rfl) (Nat.le_of_ble_eq_true rfl) ⟨Nat.le_of_ble_eq_true rfl, Nat.le_of_ble_eq_true rfl⟩ ?_
    refine sp_X4_illOf hTw ?_
    rw [h5, atV_in (by omega) (by decide), r7 t htT]
    change GW _ _ _ 15 _ [.int _] _ _ 0 0
    refine g_istore_n (lv' := [(3, .int _), (0, .ref _), (1, .ref _), (2, .int _)]) hX dX2_giveButter_15 rfl (by decide) rfl ?_
    refine g_aload_n hX dX2_giveButter_16 rfl rfl ?_
    refine g_dup hX dX2_giveButter_17 rfl ?_
    refine g_getI hX dX2_giveButter_18 flX2_46 (by assumption) rfl ?_
    try simp (disch := decide) only [up_same, up_up, up_neD]
    rw [hSR.2.2.2.2.1]
    refine g_iload_n hX dX2_giveButter_21 rfl rfl ?_
    refine g_aload_n hX dX2_giveButter_22 rfl rfl ?_
    refine g_aload_n hX dX2_giveButter_23 rfl rfl ?_
    refine g_getI hX dX2_giveButter_24 flX2_22 (by assumption) rfl ?_
    try simp (disch := decide) only [up_same, up_up, up_neD]
    refine g_callV (md' := mX4_kindOf) (ci := 4) (As := [.int _]) hX hR dX2_giveButter_27 clX2_75 okX4_kindOf rfl (by assumption) rfl rfl (Nat.le_of_ble_eq_true rfl) (Nat.le_of_ble_eq_true rfl) ⟨Nat.le_of_ble_eq_true rfl, Nat.le_of_ble_eq_true rfl⟩ ?_
    refine sp_X4_kindOf hTw ?_
    rw [f4, atV_in (by omega) (by decide), r2 c hcP]
    change GW _ _ _ 30 _ [.int _, .int _, .int _, .ref _] _ _ 0 0
    refine g_iconst (v := nI 2) hX dX2_giveButter_30 (by decide) ?_
    refine g_icmpne 40 hX dX2_giveButter_31 (by decide) (fun c31 => ?_) (fun c31 => ?_)
    · refine g_iload_n hX dX2_giveButter_40 rfl rfl ?_
      refine g_imul hX dX2_giveButter_41 ?_
      refine g_iadd hX dX2_giveButter_42 ?_
      refine g_putI hX dX2_giveButter_43 flX2_46 (by assumption) rfl rfl ?_
      try simp (disch := decide) only [up_same, up_up, up_neD]
      refine g_aload_n hX dX2_giveButter_46 rfl rfl ?_
      refine g_dup hX dX2_giveButter_47 rfl ?_
      refine g_getI hX dX2_giveButter_48 flX2_52 (by assumption) rfl ?_
      try simp (disch := decide) only [up_same, up_up, up_neD]
      rw [f6]
      refine g_iload_n hX dX2_giveButter_51 rfl rfl ?_
      refine g_isub hX dX2_giveButter_52 ?_
      rw [hlk]
      refine g_putI hX dX2_giveButter_53 flX2_52 (by assumption) rfl rfl ?_
      try simp (disch := decide) only [up_same, up_up, up_neD]
      refine g_aload_n hX dX2_giveButter_56 rfl rfl ?_
      refine g_getI hX dX2_giveButter_57 flX2_52 (by assumption) rfl ?_
      try simp (disch := decide) only [up_same, up_up, up_neD]
      refine g_ifgt 67 hX dX2_giveButter_60 (by decide) (fun c60 => ?_) (fun c60 => ?_)
      · rw [nI_gt0 (by omega)] at c60
        refine g_goto 114 hX dX2_giveButter_67 (by decide) ?_
        refine g_vret hM dX2_giveButter_114 rfl ⟨Nat.le_of_ble_eq_true rfl, Nat.le_of_ble_eq_true rfl⟩ ?_
        have hz := hSR.adv hT h10 (x := s 17 + nI k * (w (23 + t))) (y := nI (l - k))
        have e := hsx _ (hga.trans (if_neg c31))
        rw [h14, hlk, if_neg (fun e => by rw [nI_z0 (by omega)] at e; omega)] at e
        have hz2 := hq (I (κ.2.1 st 0)) _ (by rw [e]; exact hz)
        rw [up_self] at hz2
        exact hz2
      · rw [nI_gt0 (by omega)] at c60
        refine g_aload_n hX dX2_giveButter_63 rfl rfl ?_
        refine g_callV (md' := mX2_tellOut) (ci := 2) (As := []) hX hR dX2_giveButter_64 clX2_130 okX2_tellOut rfl (by assumption) rfl rfl (Nat.le_of_ble_eq_true rfl) (Nat.le_of_ble_eq_true rfl) ⟨Nat.le_of_ble_eq_true rfl, Nat.le_of_ble_eq_true rfl⟩ ?_
        refine sp_X2_tellOut (t := t) (o := o) hSt (by simp (disch := decide) only [up_same, up_neD]; exact h5) (by simp (disch := decide) only [up_same, lisV_up]; exact hlis) (by omega) ?_
        change GW _ _ _ 67 _ [] _ _ 0 0
        refine g_goto 114 hX dX2_giveButter_67 (by decide) ?_
        refine g_vret hM dX2_giveButter_114 rfl ⟨Nat.le_of_ble_eq_true rfl, Nat.le_of_ble_eq_true rfl⟩ ?_
        have hz := (hSR.adv hT h10 (x := s 17 + nI k * (w (23 + t))) (y := nI (l - k))).out hT (t := t) (o := o) (by simp (disch := decide) only [up_neD]; exact h10) (by simp (disch := decide) only [up_neD]; exact h13) (by rw [up_same, show l - k = 0 by omega]) (by rw [up_ne _ _ (by decide), up_ne _ _ (by decide), othD (by decide), othD (by decide)]; exact hoth) htT (by omega)
        have e := hsx _ (hga.trans (if_neg c31))
        rw [h14, hlk, if_pos ((nI_z0 (by omega)).mpr (by omega))] at e
        have hz2 := hq _ _ (by rw [e]; exact hz)
        simp (disch := decide) only [up_same, up_up, up_neD, up_mid hns, up_ne I _ (Ne.symm hns)] at hz2 ⊢
        exact hz2
    · refine g_iload_n hX dX2_giveButter_34 rfl rfl ?_
      refine g_iconst (v := nI 2) hX dX2_giveButter_35 (by decide) ?_
      refine g_idiv hX dX2_giveButter_36 (by decide) ?_
      refine g_goto 41 hX dX2_giveButter_37 (by decide) ?_
      refine g_imul hX dX2_giveButter_41 ?_
      refine g_iadd hX dX2_giveButter_42 ?_
      refine g_putI hX dX2_giveButter_43 flX2_46 (by assumption) rfl rfl ?_
      try simp (disch := decide) only [up_same, up_up, up_neD]
      refine g_aload_n hX dX2_giveButter_46 rfl rfl ?_
      refine g_dup hX dX2_giveButter_47 rfl ?_
      refine g_getI hX dX2_giveButter_48 flX2_52 (by assumption) rfl ?_
      try simp (disch := decide) only [up_same, up_up, up_neD]
      rw [f6]
      refine g_iload_n hX dX2_giveButter_51 rfl rfl ?_
      refine g_isub hX dX2_giveButter_52 ?_
      rw [hlk]
      refine g_putI hX dX2_giveButter_53 flX2_52 (by assumption) rfl rfl ?_
      try simp (disch := decide) only [up_same, up_up, up_neD]
      refine g_aload_n hX dX2_giveButter_56 rfl rfl ?_
      refine g_getI hX dX2_giveButter_57 flX2_52 (by assumption) rfl ?_
      try simp (disch := decide) only [up_same, up_up, up_neD]
      refine g_ifgt 67 hX dX2_giveButter_60 (by decide) (fun c60 => ?_) (fun c60 => ?_)
      · rw [nI_gt0 (by omega)] at c60
        refine g_goto 114 hX dX2_giveButter_67 (by decide) ?_
        refine g_vret hM dX2_giveButter_114 rfl ⟨Nat.le_of_ble_eq_true rfl, Nat.le_of_ble_eq_true rfl⟩ ?_
        have hz := hSR.adv hT h10 (x := s 17 + nI k * (w (23 + t) / nI 2)) (y := nI (l - k))
        have e := hsx _ (hga.trans (if_pos c31))
        rw [h14, hlk, if_neg (fun e => by rw [nI_z0 (by omega)] at e; omega)] at e
        have hz2 := hq (I (κ.2.1 st 0)) _ (by rw [e]; exact hz)
        rw [up_self] at hz2
        exact hz2
      · rw [nI_gt0 (by omega)] at c60
        refine g_aload_n hX dX2_giveButter_63 rfl rfl ?_
        refine g_callV (md' := mX2_tellOut) (ci := 2) (As := []) hX hR dX2_giveButter_64 clX2_130 okX2_tellOut rfl (by assumption) rfl rfl (Nat.le_of_ble_eq_true rfl) (Nat.le_of_ble_eq_true rfl) ⟨Nat.le_of_ble_eq_true rfl, Nat.le_of_ble_eq_true rfl⟩ ?_
        refine sp_X2_tellOut (t := t) (o := o) hSt (by simp (disch := decide) only [up_same, up_neD]; exact h5) (by simp (disch := decide) only [up_same, lisV_up]; exact hlis) (by omega) ?_
        change GW _ _ _ 67 _ [] _ _ 0 0
        refine g_goto 114 hX dX2_giveButter_67 (by decide) ?_
        refine g_vret hM dX2_giveButter_114 rfl ⟨Nat.le_of_ble_eq_true rfl, Nat.le_of_ble_eq_true rfl⟩ ?_
        have hz := (hSR.adv hT h10 (x := s 17 + nI k * (w (23 + t) / nI 2)) (y := nI (l - k))).out hT (t := t) (o := o) (by simp (disch := decide) only [up_neD]; exact h10) (by simp (disch := decide) only [up_neD]; exact h13) (by rw [up_same, show l - k = 0 by omega]) (by rw [up_ne _ _ (by decide), up_ne _ _ (by decide), othD (by decide), othD (by decide)]; exact hoth) htT (by omega)
        have e := hsx _ (hga.trans (if_pos c31))
        rw [h14, hlk, if_pos ((nI_z0 (by omega)).mpr (by omega))] at e
        have hz2 := hq _ _ (by rw [e]; exact hz)
        simp (disch := decide) only [up_same, up_up, up_neD, up_mid hns, up_ne I _ (Ne.symm hns)] at hz2 ⊢
        exact hz2
