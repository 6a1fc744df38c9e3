set_option maxHeartbeats 4000000 in
set_option maxRecDepth 100000 in
theorem lp_X4_addTale_117 {Γ : Ga} {d : Nat} {κ : Kp} {Q : Option Value → Kp → Ip → Prop} {X : Cx} {I : Ip} {tw P T q : Nat} {r : Nat → Int32} {i k kn : Int32} (hM : Mx Γ (d + 1) mX4_addTale Q X) (hL : TwL κ tw) (hTR : TwR κ I tw r P T) (hw : WfT r P T) (hT9 : T < 9) (hqP : q < P) (hq : ∀ J : Ip, TwR κ J tw (adT r T (nI q) i k kn) P (T + 1) → TwF κ tw I J → Q (some (.int (b2i true))) κ J) : ∀ (n : Nat) (p : Nat), n = P - p → p ≤ P → GW Γ mX4_addTale X 117 [(5, .int (nI p)), (0, .ref (tw)), (4, .int (kn))] [] κ (va_up (va_up (va_up (va_up (va_up I (κ.2.1 tw 6) (va_up (I (κ.2.1 tw 6)) T (nI q))) (κ.2.1 tw 7) (va_up (I (κ.2.1 tw 7)) T i)) (κ.2.1 tw 8) (va_up (I (κ.2.1 tw 8)) T k)) (κ.2.1 tw 4) (va_up (I (κ.2.1 tw 4)) q (I (κ.2.1 tw 4) q ||| bit1 T))) (κ.2.1 tw 5) (fb_put (I (κ.2.1 tw 5)) (fun p => if bt kn p = true then I (κ.2.1 tw 5) p ||| bit1 T else I (κ.2.1 tw 5) p) 0 (p))) 0 0 := by
  have hX := hM.std
  have hR := hM.room
  intro n
  induction n using Nat.strongRecOn with
  | ind n ih =>
    intro p hn hp
    have hTw := hL.1
    obtain ⟨ht, ht0, ⟨t2, u2⟩, ⟨t3, u3⟩, ⟨t4, u4⟩, ⟨t5, u5⟩, ⟨t6, u6⟩, ⟨t7, u7⟩, ⟨t8, u8⟩⟩ := id hTw
    obtain ⟨r0, r1, r2, r3, -⟩ := id hTR
    obtain ⟨hw0, hw1, hP, hT, -⟩ := id hw
    refine g_iload hX dX4_addTale_117 rfl ?_
    refine g_aload_n hX dX4_addTale_119 rfl rfl ?_
    refine g_getI hX dX4_addTale_120 flX4_33 (by assumption) rfl ?_
    try simp (disch := first | exact hL.ne (by decide) (by decide) (by decide) | exact hL.n0 (by decide) | exact (hL.n0 (by decide)).symm | decide) only [up_same, up_up, up_neD]
    refine g_icmpge 169 hX dX4_addTale_123 (by decide) (fun c123 => ?_) (fun c123 => ?_)
    · rw [r0, nI_leI (by omega) (by omega)] at c123
      refine g_aload_n hX dX4_addTale_169 rfl rfl ?_
      refine g_dup hX dX4_addTale_170 rfl ?_
      refine g_getI hX dX4_addTale_171 flX4_37 (by assumption) rfl ?_
      try simp (disch := first | exact hL.ne (by decide) (by decide) (by decide) | exact hL.n0 (by decide) | exact (hL.n0 (by decide)).symm | decide) only [up_same, up_up, up_neD]
      rw [r1]
      refine g_iconst (v := nI 1) hX dX4_addTale_174 (by decide) ?_
      refine g_iadd hX dX4_addTale_175 ?_
      rw [nI_add]
      refine g_putI hX dX4_addTale_176 flX4_37 (by assumption) rfl rfl ?_
      try simp (disch := first | exact hL.ne (by decide) (by decide) (by decide) | exact hL.n0 (by decide) | exact (hL.n0 (by decide)).symm | decide) only [up_same, up_up, up_neD]
      refine g_iconst (v := nI 1) hX dX4_addTale_179 (by decide) ?_
      refine g_iret hM dX4_addTale_180 rfl (rfl) ⟨Nat.le_of_ble_eq_true rfl, Nat.le_of_ble_eq_true rfl⟩ ?_
      have e : p = P := by omega
      subst e
      refine q_t rfl (hq _ (tw_adT hTR hw hT9 hqP ?_ ?_ ?_ ?_ ?_ (fun p hp => ?_) ?_ ?_ ?_) (fun a a1 a2 => ?_))
      iterate 5 (simp (disch := first | exact hL.ne (by decide) (by decide) (by decide) | exact hL.n0 (by decide) | exact (hL.n0 (by decide)).symm | decide) only [up_same, up_up, up_neD])
      · simp (disch := first | exact hL.ne (by decide) (by decide) (by decide) | exact hL.n0 (by decide) | exact (hL.n0 (by decide)).symm | decide) only [up_same, up_up, up_neD]
        rw [fb_put_in (Nat.zero_le _) (by omega), Nat.sub_zero]
      iterate 3 (simp (disch := first | exact hL.ne (by decide) (by decide) (by decide) | exact hL.n0 (by decide) | exact (hL.n0 (by decide)).symm | decide) only [up_same, up_up, up_neD])
      rw [up_ne _ _ a1, up_ne _ _ (a2 5 (by decide) (by decide)), up_ne _ _ (a2 4 (by decide) (by decide)), up_ne _ _ (a2 8 (by decide) (by decide)), up_ne _ _ (a2 7 (by decide) (by decide)), up_ne _ _ (a2 6 (by decide) (by decide))]
    · rw [r0, nI_leI (by omega) (by omega)] at c123
      refine g_iload hX dX4_addTale_126 rfl ?_
      refine g_iload hX dX4_addTale_128 rfl ?_
      refine g_callS (md' := mX5_bit) (As := [.int _]) hX hR dX4_addTale_130 clX4_56 okX5_bit rfl rfl (Nat.le_of_ble_eq_true rfl) (Nat.le_of_ble_eq_true rfl) ⟨Nat.le_of_ble_eq_true rfl, Nat.le_of_ble_eq_true rfl⟩ ?_
      refine sp_X5_bit ?_
      change GW _ _ _ 133 _ [.int _, .int _] _ _ 0 0
      refine g_iand hX dX4_addTale_133 ?_
      refine g_ifeq 163 hX dX4_addTale_134 (by decide) (fun c134 => ?_) (fun c134 => ?_)
      · rw [bitI_nI, and_bit0 (by omega)] at c134
        refine g_iinc (lv' := [(5, .int _), (0, .ref _), (4, .int _)]) hX dX4_addTale_163 rfl (by first | exact nI_inc _ | rfl) (by decide) rfl ?_
        refine g_goto 117 hX dX4_addTale_166 (by decide) ?_
        refine g_pick [0, 1, 2] rfl (g_st ?_ (ih (P - (p + 1)) (by omega) (p + 1) rfl (by omega)))
        have e : fb_put (I (κ.2.1 tw 5)) (fun p => if bt kn p = true then I (κ.2.1 tw 5) p ||| bit1 T else I (κ.2.1 tw 5) p) 0 (p + 1) = va_up (fb_put (I (κ.2.1 tw 5)) (fun p => if bt kn p = true then I (κ.2.1 tw 5) p ||| bit1 T else I (κ.2.1 tw 5) p) 0 (p)) p ((fun p => if bt kn p = true then I (κ.2.1 tw 5) p ||| bit1 T else I (κ.2.1 tw 5) p) p) := by rw [← fb_put_succ, Nat.zero_add]; rfl
        rw [e]
        simp only [c134, Bool.false_eq_true, if_false]
        rw [up_eq (f := fb_put (I (κ.2.1 tw 5)) (fun p => if bt kn p = true then I (κ.2.1 tw 5) p ||| bit1 T else I (κ.2.1 tw 5) p) 0 (p)) (g := fb_put (I (κ.2.1 tw 5)) (fun p => if bt kn p = true then I (κ.2.1 tw 5) p ||| bit1 T else I (κ.2.1 tw 5) p) 0 (p)) (fb_put_out (Or.inr (by omega))) (fun j hj => rfl)]
      · rw [bitI_nI, and_bit1 (by omega)] at c134
        refine g_aload_n hX dX4_addTale_137 rfl rfl ?_
        refine g_getR hX dX4_addTale_138 flX4_21 (by assumption) rfl (by first | assumption | rfl) (by assumption) ?_
        refine g_iload hX dX4_addTale_141 rfl ?_
        refine g_aload_n hX dX4_addTale_143 rfl rfl ?_
        refine g_getR hX dX4_addTale_144 flX4_21 (by assumption) rfl (by first | assumption | rfl) (by assumption) ?_
        refine g_iload hX dX4_addTale_147 rfl ?_
        refine g_callS (md' := mX5_at) (As := [.ref _, .int _]) hX hR dX4_addTale_149 clX4_59 okX5_at rfl rfl (Nat.le_of_ble_eq_true rfl) (Nat.le_of_ble_eq_true rfl) ⟨Nat.le_of_ble_eq_true rfl, Nat.le_of_ble_eq_true rfl⟩ ?_
        refine sp_X5_at (x := κ.2.1 tw 5) (by assumption) (by decide) ?_
        rw [up_same, atV_in (by omega) (by decide), fb_put_out (Or.inr (by omega))]
        change GW _ _ _ 152 _ [.int _, .int _, .ref _] _ _ 0 0
        refine g_aload_n hX dX4_addTale_152 rfl rfl ?_
        refine g_getI hX dX4_addTale_153 flX4_37 (by assumption) rfl ?_
        try simp (disch := first | exact hL.ne (by decide) (by decide) (by decide) | exact hL.n0 (by decide) | exact (hL.n0 (by decide)).symm | decide) only [up_same, up_up, up_neD]
        refine g_callS (md' := mX5_bit) (As := [.int _]) hX hR dX4_addTale_156 clX4_56 okX5_bit rfl rfl (Nat.le_of_ble_eq_true rfl) (Nat.le_of_ble_eq_true rfl) ⟨Nat.le_of_ble_eq_true rfl, Nat.le_of_ble_eq_true rfl⟩ ?_
        refine sp_X5_bit ?_
        change GW _ _ _ 159 _ [.int _, .int _, .int _, .ref _] _ _ 0 0
        refine g_ior hX dX4_addTale_159 ?_
        refine g_callS (md' := mX5_put) (As := [.ref _, .int _, .int _]) hX hR dX4_addTale_160 clX4_44 okX5_put rfl rfl (Nat.le_of_ble_eq_true rfl) (Nat.le_of_ble_eq_true rfl) ⟨Nat.le_of_ble_eq_true rfl, Nat.le_of_ble_eq_true rfl⟩ ?_
        rw [r1, bitI_nI]
        refine sp_X5_put (by assumption) (by decide) (by omega) ?_
        rw [up_same, up_up]
        change GW _ _ _ 163 _ [] _ _ 0 0
        refine g_iinc (lv' := [(5, .int _), (0, .ref _), (4, .int _)]) hX dX4_addTale_163 rfl (by first | exact nI_inc _ | rfl) (by decide) rfl ?_
        refine g_goto 117 hX dX4_addTale_166 (by decide) ?_
        refine g_pick [0, 1, 2] rfl (g_st ?_ (ih (P - (p + 1)) (by omega) (p + 1) rfl (by omega)))
        have e : fb_put (I (κ.2.1 tw 5)) (fun p => if bt kn p = true then I (κ.2.1 tw 5) p ||| bit1 T else I (κ.2.1 tw 5) p) 0 (p + 1) = va_up (fb_put (I (κ.2.1 tw 5)) (fun p => if bt kn p = true then I (κ.2.1 tw 5) p ||| bit1 T else I (κ.2.1 tw 5) p) 0 (p)) p ((fun p => if bt kn p = true then I (κ.2.1 tw 5) p ||| bit1 T else I (κ.2.1 tw 5) p) p) := by rw [← fb_put_succ, Nat.zero_add]; rfl
        rw [e]
        simp only [c134, if_true]

set_option maxHeartbeats 4000000 in
set_option maxRecDepth 100000 in
theorem sp_X4_addTale {Γ : Ga} {d : Nat} {κ : Kp} {I : Ip} {Q : Option Value → Kp → Ip → Prop} {tw P T : Nat} {r : Nat → Int32} {x i k kn : Int32} (hL : TwL κ tw) (hTR : TwR κ I tw r P T) (hw : WfT r P T) (hq0 : ¬ AdT P T x i k kn → Q (some (.int (b2i false))) κ I) (hq : AdT P T x i k kn → ∀ J : Ip, TwR κ J tw (adT r T x i k kn) P (T + 1) → TwF κ tw I J → Q (some (.int (b2i true))) κ J) : Sp Γ (d + 1) mX4_addTale [.ref (tw), .int (x), .int (i), .int (k), .int (kn)] κ I Q := by
  have hTw := hL.1
  obtain ⟨ht, ht0, ⟨t2, u2⟩, ⟨t3, u3⟩, ⟨t4, u4⟩, ⟨t5, u5⟩, ⟨t6, u6⟩, ⟨t7, u7⟩, ⟨t8, u8⟩⟩ := id hTw
  obtain ⟨r0, r1, r2, r3, -⟩ := id hTR
  obtain ⟨hw0, hw1, hP, hT, -⟩ := id hw
  intro X hM
  have hX := hM.std
  have hR := hM.room
  show GW _ mX4_addTale X 0 [(0, .ref (tw)), (1, .int (x)), (2, .int (i)), (3, .int (k)), (4, .int (kn))] [] _ _ 0 0
  refine g_aload_n hX dX4_addTale_0 rfl rfl ?_
  refine g_getI hX dX4_addTale_1 flX4_37 (by assumption) rfl ?_
  try simp (disch := first | exact hL.ne (by decide) (by decide) (by decide) | exact hL.n0 (by decide) | exact (hL.n0 (by decide)).symm | decide) only [up_same, up_up, up_neD]
  refine g_bipush (v := nI 9) hX dX4_addTale_4 (by decide) ?_
  refine g_icmpge 52 hX dX4_addTale_6 (by decide) (fun c6 => ?_) (fun c6 => ?_)
  · rw [r1, nI_leI (by omega) (by omega)] at c6
    refine g_iconst (v := nI 0) hX dX4_addTale_52 (by decide) ?_
    refine g_iret hM dX4_addTale_53 rfl (rfl) ⟨Nat.le_of_ble_eq_true rfl, Nat.le_of_ble_eq_true rfl⟩ ?_
    exact q_f rfl (hq0 (fun e => absurd e.1 (by omega)))
  · rw [r1, nI_leI (by omega) (by omega)] at c6
    refine g_aload_n hX dX4_addTale_9 rfl rfl ?_
    refine g_iload_n hX dX4_addTale_10 rfl rfl ?_
    refine g_callV (md' := mX4_hasPerson) (ci := 4) (As := [.int _]) hX hR dX4_addTale_11 clX4_48 okX4_hasPerson rfl (by assumption) rfl rfl (Nat.le_of_ble_eq_true rfl) (Nat.le_of_ble_eq_true rfl) ⟨Nat.le_of_ble_eq_true rfl, Nat.le_of_ble_eq_true rfl⟩ ?_
    refine sp_X4_hasPerson hTw r0 (by omega) ?_
    change GW _ _ _ 14 _ [.int _] _ _ 0 0
    refine g_ifeq 52 hX dX4_addTale_14 (by decide) (fun c14 => ?_) (fun c14 => ?_)
    · rw [b2i_0, decide_eq_false_iff_not] at c14
      refine g_iconst (v := nI 0) hX dX4_addTale_52 (by decide) ?_
      refine g_iret hM dX4_addTale_53 rfl (rfl) ⟨Nat.le_of_ble_eq_true rfl, Nat.le_of_ble_eq_true rfl⟩ ?_
      exact q_f rfl (hq0 (fun e => c14 e.2.1))
    · rw [b2i_n0, decide_eq_true_eq] at c14
      refine g_iload_n hX dX4_addTale_17 rfl rfl ?_
      refine g_iconst (v := nI 1) hX dX4_addTale_18 (by decide) ?_
      refine g_bipush (v := nI 20) hX dX4_addTale_19 (by decide) ?_
      refine g_callS (md' := mX5_isWithin) (As := [.int _, .int _, .int _]) hX hR dX4_addTale_21 clX4_40 okX5_isWithin rfl rfl (Nat.le_of_ble_eq_true rfl) (Nat.le_of_ble_eq_true rfl) ⟨Nat.le_of_ble_eq_true rfl, Nat.le_of_ble_eq_true rfl⟩ ?_
      refine sp_X5_isWithin (lo := 1) (hi := 20) (by decide) (by decide) ?_
      change GW _ _ _ 24 _ [.int _] _ _ 0 0
      refine g_ifeq 52 hX dX4_addTale_24 (by decide) (fun c24 => ?_) (fun c24 => ?_)
      · rw [b2i_0, decide_eq_false_iff_not] at c24
        refine g_iconst (v := nI 0) hX dX4_addTale_52 (by decide) ?_
        refine g_iret hM dX4_addTale_53 rfl (rfl) ⟨Nat.le_of_ble_eq_true rfl, Nat.le_of_ble_eq_true rfl⟩ ?_
        exact q_f rfl (hq0 (fun e => c24 e.2.2.1))
      · rw [b2i_n0, decide_eq_true_eq] at c24
        refine g_iload_n hX dX4_addTale_27 rfl rfl ?_
        refine g_iconst (v := nI 1) hX dX4_addTale_28 (by decide) ?_
        refine g_bipush (v := nI 9) hX dX4_addTale_29 (by decide) ?_
        refine g_callS (md' := mX5_isWithin) (As := [.int _, .int _, .int _]) hX hR dX4_addTale_31 clX4_40 okX5_isWithin rfl rfl (Nat.le_of_ble_eq_true rfl) (Nat.le_of_ble_eq_true rfl) ⟨Nat.le_of_ble_eq_true rfl, Nat.le_of_ble_eq_true rfl⟩ ?_
        refine sp_X5_isWithin (lo := 1) (hi := 9) (by decide) (by decide) ?_
        change GW _ _ _ 34 _ [.int _] _ _ 0 0
        refine g_ifeq 52 hX dX4_addTale_34 (by decide) (fun c34 => ?_) (fun c34 => ?_)
        · rw [b2i_0, decide_eq_false_iff_not] at c34
          refine g_iconst (v := nI 0) hX dX4_addTale_52 (by decide) ?_
          refine g_iret hM dX4_addTale_53 rfl (rfl) ⟨Nat.le_of_ble_eq_true rfl, Nat.le_of_ble_eq_true rfl⟩ ?_
          exact q_f rfl (hq0 (fun e => c34 e.2.2.2.1))
        · rw [b2i_n0, decide_eq_true_eq] at c34
          refine g_iload hX dX4_addTale_37 rfl ?_
          refine g_ifeq 52 hX dX4_addTale_39 (by decide) (fun c39 => ?_) (fun c39 => ?_)
          · refine g_iconst (v := nI 0) hX dX4_addTale_52 (by decide) ?_
            refine g_iret hM dX4_addTale_53 rfl (rfl) ⟨Nat.le_of_ble_eq_true rfl, Nat.le_of_ble_eq_true rfl⟩ ?_
            exact q_f rfl (hq0 (fun e => e.2.2.2.2.1 c39))
          · refine g_iload hX dX4_addTale_42 rfl ?_
            refine g_iload_n hX dX4_addTale_44 rfl rfl ?_
            refine g_callS (md' := mX5_bit) (As := [.int _]) hX hR dX4_addTale_45 clX4_56 okX5_bit rfl rfl (Nat.le_of_ble_eq_true rfl) (Nat.le_of_ble_eq_true rfl) ⟨Nat.le_of_ble_eq_true rfl, Nat.le_of_ble_eq_true rfl⟩ ?_
            refine sp_X5_bit ?_
            change GW _ _ _ 48 _ [.int _, .int _] _ _ 0 0
            refine g_iand hX dX4_addTale_48 ?_
            refine g_ifeq 54 hX dX4_addTale_49 (by decide) (fun c49 => ?_) (fun c49 => ?_)
            · obtain ⟨q, hqP, rfl⟩ := inN_of c14
              have hA : AdT P T (nI q) i k kn := ⟨by omega, c14, c24, c34, c39, c49⟩
              refine g_aload_n hX dX4_addTale_54 rfl rfl ?_
              refine g_getR hX dX4_addTale_55 flX4_24 (by assumption) rfl (by first | assumption | rfl) (by assumption) ?_
              refine g_aload_n hX dX4_addTale_58 rfl rfl ?_
              refine g_getI hX dX4_addTale_59 flX4_37 (by assumption) rfl ?_
              try simp (disch := first | exact hL.ne (by decide) (by decide) (by decide) | exact hL.n0 (by decide) | exact (hL.n0 (by decide)).symm | decide) only [up_same, up_up, up_neD]
              refine g_iload_n hX dX4_addTale_62 rfl rfl ?_
              refine g_callS (md' := mX5_put) (As := [.ref _, .int _, .int _]) hX hR dX4_addTale_63 clX4_44 okX5_put rfl rfl (Nat.le_of_ble_eq_true rfl) (Nat.le_of_ble_eq_true rfl) ⟨Nat.le_of_ble_eq_true rfl, Nat.le_of_ble_eq_true rfl⟩ ?_
              rw [r1]
              refine sp_X5_put (by assumption) (by decide) (by omega) ?_
              change GW _ _ _ 66 _ [] _ _ 0 0
              refine g_aload_n hX dX4_addTale_66 rfl rfl ?_
              refine g_getR hX dX4_addTale_67 flX4_27 (by assumption) rfl (by first | assumption | rfl) (by assumption) ?_
              refine g_aload_n hX dX4_addTale_70 rfl rfl ?_
              refine g_getI hX dX4_addTale_71 flX4_37 (by assumption) rfl ?_
              try simp (disch := first | exact hL.ne (by decide) (by decide) (by decide) | exact hL.n0 (by decide) | exact (hL.n0 (by decide)).symm | decide) only [up_same, up_up, up_neD]
              refine g_iload_n hX dX4_addTale_74 rfl rfl ?_
              refine g_callS (md' := mX5_put) (As := [.ref _, .int _, .int _]) hX hR dX4_addTale_75 clX4_44 okX5_put rfl rfl (Nat.le_of_ble_eq_true rfl) (Nat.le_of_ble_eq_true rfl) ⟨Nat.le_of_ble_eq_true rfl, Nat.le_of_ble_eq_true rfl⟩ ?_
              try simp (disch := first | exact hL.ne (by decide) (by decide) (by decide) | exact hL.n0 (by decide) | exact (hL.n0 (by decide)).symm | decide) only [up_same, up_up, up_neD]
              rw [r1]
              refine sp_X5_put (by assumption) (by decide) (by omega) ?_
              change GW _ _ _ 78 _ [] _ _ 0 0
              refine g_aload_n hX dX4_addTale_78 rfl rfl ?_
              refine g_getR hX dX4_addTale_79 flX4_30 (by assumption) rfl (by first | assumption | rfl) (by assumption) ?_
              refine g_aload_n hX dX4_addTale_82 rfl rfl ?_
              refine g_getI hX dX4_addTale_83 flX4_37 (by assumption) rfl ?_
              try simp (disch := first | exact hL.ne (by decide) (by decide) (by decide) | exact hL.n0 (by decide) | exact (hL.n0 (by decide)).symm | decide) only [up_same, up_up, up_neD]
              refine g_iload_n hX dX4_addTale_86 rfl rfl ?_
              refine g_callS (md' := mX5_put) (As := [.ref _, .int _, .int _]) hX hR dX4_addTale_87 clX4_44 okX5_put rfl rfl (Nat.le_of_ble_eq_true rfl) (Nat.le_of_ble_eq_true rfl) ⟨Nat.le_of_ble_eq_true rfl, Nat.le_of_ble_eq_true rfl⟩ ?_
              try simp (disch := first | exact hL.ne (by decide) (by decide) (by decide) | exact hL.n0 (by decide) | exact (hL.n0 (by decide)).symm | decide) only [up_same, up_up, up_neD]
              rw [r1]
              refine sp_X5_put (by assumption) (by decide) (by omega) ?_
              change GW _ _ _ 90 _ [] _ _ 0 0
              refine g_aload_n hX dX4_addTale_90 rfl rfl ?_
              refine g_getR hX dX4_addTale_91 flX4_18 (by assumption) rfl (by first | assumption | rfl) (by assumption) ?_
              refine g_iload_n hX dX4_addTale_94 rfl rfl ?_
              refine g_aload_n hX dX4_addTale_95 rfl rfl ?_
              refine g_getR hX dX4_addTale_96 flX4_18 (by assumption) rfl (by first | assumption | rfl) (by assumption) ?_
              refine g_iload_n hX dX4_addTale_99 rfl rfl ?_
              refine g_callS (md' := mX5_at) (As := [.ref _, .int _]) hX hR dX4_addTale_100 clX4_59 okX5_at rfl rfl (Nat.le_of_ble_eq_true rfl) (Nat.le_of_ble_eq_true rfl) ⟨Nat.le_of_ble_eq_true rfl, Nat.le_of_ble_eq_true rfl⟩ ?_
              try simp (disch := first | exact hL.ne (by decide) (by decide) (by decide) | exact hL.n0 (by decide) | exact (hL.n0 (by decide)).symm | decide) only [up_same, up_up, up_neD]
              refine sp_X5_at (by assumption) (by decide) ?_
              try simp (disch := first | exact hL.ne (by decide) (by decide) (by decide) | exact hL.n0 (by decide) | exact (hL.n0 (by decide)).symm | decide) only [up_same, up_up, up_neD]
              rw [atV_in (by omega) (by decide)]
              change GW _ _ _ 103 _ [.int _, .int _, .ref _] _ _ 0 0
              refine g_aload_n hX dX4_addTale_103 rfl rfl ?_
              refine g_getI hX dX4_addTale_104 flX4_37 (by assumption) rfl ?_
              try simp (disch := first | exact hL.ne (by decide) (by decide) (by decide) | exact hL.n0 (by decide) | exact (hL.n0 (by decide)).symm | decide) only [up_same, up_up, up_neD]
              refine g_callS (md' := mX5_bit) (As := [.int _]) hX hR dX4_addTale_107 clX4_56 okX5_bit rfl rfl (Nat.le_of_ble_eq_true rfl) (Nat.le_of_ble_eq_true rfl) ⟨Nat.le_of_ble_eq_true rfl, Nat.le_of_ble_eq_true rfl⟩ ?_
              refine sp_X5_bit ?_
              change GW _ _ _ 110 _ [.int _, .int _, .int _, .ref _] _ _ 0 0
              refine g_ior hX dX4_addTale_110 ?_
              refine g_callS (md' := mX5_put) (As := [.ref _, .int _, .int _]) hX hR dX4_addTale_111 clX4_44 okX5_put rfl rfl (Nat.le_of_ble_eq_true rfl) (Nat.le_of_ble_eq_true rfl) ⟨Nat.le_of_ble_eq_true rfl, Nat.le_of_ble_eq_true rfl⟩ ?_
              try simp (disch := first | exact hL.ne (by decide) (by decide) (by decide) | exact hL.n0 (by decide) | exact (hL.n0 (by decide)).symm | decide) only [up_same, up_up, up_neD]
              rw [r1, bitI_nI]
              refine sp_X5_put (by assumption) (by decide) (by omega) ?_
              try simp (disch := first | exact hL.ne (by decide) (by decide) (by decide) | exact hL.n0 (by decide) | exact (hL.n0 (by decide)).symm | decide) only [up_same, up_up, up_neD]
              change GW _ _ _ 114 _ [] _ _ 0 0
              refine g_iconst (v := nI 0) hX dX4_addTale_114 (by decide) ?_
              refine g_istore (lv' := [(5, .int _), (0, .ref _), (1, .int _), (2, .int _), (3, .int _), (4, .int _)]) hX dX4_addTale_115 (by decide) rfl ?_
              refine g_pick [0, 1, 5] rfl (g_st ?_ (lp_X4_addTale_117 hM hL hTR hw (by omega) hqP (i := i) (k := k) (kn := kn) (hq hA) P 0 rfl (Nat.zero_le _)))
              rw [fb_put_0, up_eq (f := (va_up (va_up (va_up (va_up I (κ.2.1 tw 6) (va_up (I (κ.2.1 tw 6)) T (nI q))) (κ.2.1 tw 7) (va_up (I (κ.2.1 tw 7)) T i)) (κ.2.1 tw 8) (va_up (I (κ.2.1 tw 8)) T k)) (κ.2.1 tw 4) (va_up (I (κ.2.1 tw 4)) q (I (κ.2.1 tw 4) q ||| bit1 T)))) (g := (va_up (va_up (va_up (va_up I (κ.2.1 tw 6) (va_up (I (κ.2.1 tw 6)) T (nI q))) (κ.2.1 tw 7) (va_up (I (κ.2.1 tw 7)) T i)) (κ.2.1 tw 8) (va_up (I (κ.2.1 tw 8)) T k)) (κ.2.1 tw 4) (va_up (I (κ.2.1 tw 4)) q (I (κ.2.1 tw 4) q ||| bit1 T)))) (by simp (disch := first | exact hL.ne (by decide) (by decide) (by decide) | exact hL.n0 (by decide) | exact (hL.n0 (by decide)).symm | decide) only [up_same, up_up, up_neD]) (fun j hj => rfl)]
            · refine g_iconst (v := nI 0) hX dX4_addTale_52 (by decide) ?_
              refine g_iret hM dX4_addTale_53 rfl (rfl) ⟨Nat.le_of_ble_eq_true rfl, Nat.le_of_ble_eq_true rfl⟩ ?_
              exact q_f rfl (hq0 (fun e => c49 e.2.2.2.2.2))
