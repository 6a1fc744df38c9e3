set_option maxHeartbeats 4000000 in
set_option maxRecDepth 100000 in
theorem lp_X6_said_86 {Γ : Ga} {d : Nat} {κ : Kp} {Q : Option Value → Kp → Ip → Prop} {X : Cx} {I : Ip} {m P T k yy : Nat} {fi ma may va vb what : Int32} (hM : Mx Γ (d + 3) mX6_said Q X) (hMo : MoK κ m) (hw : WfT (I (κ.2.1 m 0)) P T) (hk : k < 512) (hout : GW Γ mX6_said X 132 [(10, .int (nI T)), (9, .int (illF (I (κ.2.1 m 0)) k T)), (8, .int (nI k)), (7, .int fi), (6, .int ma), (5, .int may), (0, .ref m), (1, .int va), (2, .int vb), (3, .int (nI yy)), (4, .int what)] [] κ I 0 0) : ∀ (n : Nat) (t : Nat), n = T - t → t ≤ T → GW Γ mX6_said X 86 [(10, .int (nI t)), (9, .int (illF (I (κ.2.1 m 0)) k t)), (8, .int (nI k)), (7, .int (fi)), (6, .int (ma)), (5, .int (may)), (0, .ref (m)), (1, .int (va)), (2, .int (vb)), (3, .int (nI yy)), (4, .int (what))] [] κ (I) 0 0 := by
  have hX := hM.std
  have hR := hM.room
  intro n
  induction n using Nat.strongRecOn with
  | ind n ih =>
    intro t hn ht
    obtain ⟨hm, hm0, ⟨k0, n0⟩, ⟨k1, n1⟩, ⟨k2, n2⟩, ⟨k3, n3⟩, ⟨k4, n4⟩, ⟨k6, n6⟩, ⟨k8, n8⟩, ⟨k14, n14⟩, ⟨k15, n15⟩, ⟨k16, n16⟩, d01, d23, d614, d1516⟩ := id hMo
    obtain ⟨hw0, hw1, hP, hT, -⟩ := id hw
    refine g_iload hX dX6_said_86 rfl ?_
    refine g_aload_n hX dX6_said_88 rfl rfl ?_
    refine g_getR hX dX6_said_89 flX6_7 (by assumption) rfl (by first | assumption | rfl) (by assumption) ?_
    refine g_iconst (v := nI 1) hX dX6_said_92 (by decide) ?_
    refine g_ialdN hX dX6_said_93 (by assumption) (rfl) (by omega) (by first | decide | omega) ?_
    refine g_icmpge 132 hX dX6_said_94 (by decide) (fun c94 => ?_) (fun c94 => ?_)
    · rw [hw1, nI_leI (by omega) (by omega)] at c94
      have e : t = T := by omega
      subst e
      exact g_pick [0, 1, 2, 3, 4, 5, 6, 7, 8, 9, 10] rfl hout
    · rw [hw1, nI_leI (by omega) (by omega)] at c94
      refine g_iload hX dX6_said_97 rfl ?_
      refine g_iload hX dX6_said_99 rfl ?_
      refine g_iload hX dX6_said_101 rfl ?_
      refine g_callS (md' := mX6_has) (As := [.int _, .int _]) hX hR dX6_said_103 clX6_105 okX6_has rfl rfl (Nat.le_of_ble_eq_true rfl) (Nat.le_of_ble_eq_true rfl) ⟨Nat.le_of_ble_eq_true rfl, Nat.le_of_ble_eq_true rfl⟩ ?_
      refine sp_X6_has (by omega) ?_
      rw [bt_nI (by omega) (by omega)]
      change GW _ _ _ 106 _ [.int _, .int _] _ _ 0 0
      refine g_ifeq 122 hX dX6_said_106 (by decide) (fun c106 => ?_) (fun c106 => ?_)
      · first | (rw [b2i_n0] at c106) | (rw [b2i_0] at c106)
        refine g_iconst (v := nI 0) hX dX6_said_122 (by decide) ?_
        refine g_iadd hX dX6_said_123 ?_
        refine g_istore (lv' := [(9, .int _), (10, .int _), (8, .int _), (7, .int _), (6, .int _), (5, .int _), (0, .ref _), (1, .int _), (2, .int _), (3, .int _), (4, .int _)]) hX dX6_said_124 (by decide) rfl ?_
        refine g_iinc (lv' := [(10, .int _), (9, .int _), (8, .int _), (7, .int _), (6, .int _), (5, .int _), (0, .ref _), (1, .int _), (2, .int _), (3, .int _), (4, .int _)]) hX dX6_said_126 rfl (by first | exact nI_inc _ | rfl) (by decide) rfl ?_
        refine g_goto 86 hX dX6_said_129 (by decide) ?_
        refine g_pick [0, 1, 2, 3, 4, 5, 6, 7, 8, 9, 10] rfl ?_
        have := ih (T - (t + 1)) (by omega) (t + 1) rfl (by omega)
        rw [illF, if_neg (by rw [c106]; decide)] at this
        exact this
      · first | (rw [b2i_n0] at c106) | (rw [b2i_0] at c106)
        refine g_aload_n hX dX6_said_109 rfl rfl ?_
        refine g_getR hX dX6_said_110 flX6_7 (by assumption) rfl (by first | assumption | rfl) (by assumption) ?_
        refine g_bipush (v := nI 23) hX dX6_said_113 (by decide) ?_
        refine g_iload hX dX6_said_115 rfl ?_
        refine g_iadd hX dX6_said_117 ?_
        refine g_ialdN hX dX6_said_118 (by assumption) (nI_add _ _) (by omega) (by first | decide | omega) ?_
        refine g_goto 123 hX dX6_said_119 (by decide) ?_
        refine g_iadd hX dX6_said_123 ?_
        refine g_istore (lv' := [(9, .int _), (10, .int _), (8, .int _), (7, .int _), (6, .int _), (5, .int _), (0, .ref _), (1, .int _), (2, .int _), (3, .int _), (4, .int _)]) hX dX6_said_124 (by decide) rfl ?_
        refine g_iinc (lv' := [(10, .int _), (9, .int _), (8, .int _), (7, .int _), (6, .int _), (5, .int _), (0, .ref _), (1, .int _), (2, .int _), (3, .int _), (4, .int _)]) hX dX6_said_126 rfl (by first | exact nI_inc _ | rfl) (by decide) rfl ?_
        refine g_goto 86 hX dX6_said_129 (by decide) ?_
        refine g_pick [0, 1, 2, 3, 4, 5, 6, 7, 8, 9, 10] rfl ?_
        have := ih (T - (t + 1)) (by omega) (t + 1) rfl (by omega)
        rw [illF, if_pos c106] at this
        exact this

set_option maxHeartbeats 4000000 in
set_option maxRecDepth 100000 in
theorem lp_X6_said_57 {Γ : Ga} {d : Nat} {κ : Kp} {Q : Option Value → Kp → Ip → Prop} {X : Cx} {I : Ip} {m P T yy : Nat} {may va vb what : Int32} (hM : Mx Γ (d + 3) mX6_said Q X) (hMo : MoK κ m) (hw : WfT (I (κ.2.1 m 0)) P T) (hq : Q (some (.int (if what = 0 then nI (saidF (I (κ.2.1 m 0)) T may (nI yy) (2 ^ T)).1 else (saidF (I (κ.2.1 m 0)) T may (nI yy) (2 ^ T)).2))) κ I) : ∀ (n : Nat) (k : Nat), n = 2 ^ T - k → k ≤ 2 ^ T → GW Γ mX6_said X 57 [(8, .int (nI k)), (7, .int ((saidF (I (κ.2.1 m 0)) T may (nI yy) k).2)), (6, .int (nI (saidF (I (κ.2.1 m 0)) T may (nI yy) k).1)), (5, .int (may)), (0, .ref (m)), (1, .int (va)), (2, .int (vb)), (3, .int (nI yy)), (4, .int (what))] [] κ (I) 0 0 := by
  have hX := hM.std
  have hR := hM.room
  intro n
  induction n using Nat.strongRecOn with
  | ind n ih =>
    intro k hn hk
    obtain ⟨hm, hm0, ⟨k0, n0⟩, ⟨k1, n1⟩, ⟨k2, n2⟩, ⟨k3, n3⟩, ⟨k4, n4⟩, ⟨k6, n6⟩, ⟨k8, n8⟩, ⟨k14, n14⟩, ⟨k15, n15⟩, ⟨k16, n16⟩, d01, d23, d614, d1516⟩ := id hMo
    obtain ⟨hw0, hw1, hP, hT, -⟩ := id hw
    have hpT : 2 ^ T ≤ 2 ^ 9 := Nat.pow_le_pow_right (by decide) hT
    refine g_iload hX dX6_said_57 rfl ?_
    refine g_iconst (v := nI 1) hX dX6_said_59 (by decide) ?_
    refine g_aload_n hX dX6_said_60 rfl rfl ?_
    refine g_getR hX dX6_said_61 flX6_7 (by assumption) rfl (by first | assumption | rfl) (by assumption) ?_
    refine g_iconst (v := nI 1) hX dX6_said_64 (by decide) ?_
    refine g_ialdN hX dX6_said_65 (by assumption) (rfl) (by omega) (by first | decide | omega) ?_
    refine g_ishl hX dX6_said_66 ?_
    refine g_icmpge 176 hX dX6_said_67 (by decide) (fun c67 => ?_) (fun c67 => ?_)
    · rw [hw1, show nI 1 <<< (nI T &&& 31) = nI (2 ^ T) from bit1_pow (by omega), nI_leI (by omega) (by omega)] at c67
      refine g_iload hX dX6_said_176 rfl ?_
      refine g_ifne 186 hX dX6_said_178 (by decide) (fun c178 => ?_) (fun c178 => ?_)
      · refine g_iload hX dX6_said_186 rfl ?_
        refine g_iret hM dX6_said_188 rfl (rfl) ⟨Nat.le_of_ble_eq_true rfl, Nat.le_of_ble_eq_true rfl⟩ ?_
        have e : k = 2 ^ T := by omega
        subst e
        exact q_int (by rw [if_neg c178]) hq
      · refine g_iload hX dX6_said_181 rfl ?_
        refine g_goto 188 hX dX6_said_183 (by decide) ?_
        refine g_iret hM dX6_said_188 rfl (rfl) ⟨Nat.le_of_ble_eq_true rfl, Nat.le_of_ble_eq_true rfl⟩ ?_
        have e : k = 2 ^ T := by omega
        subst e
        exact q_int (by rw [if_pos c178]) hq
    · rw [hw1, show nI 1 <<< (nI T &&& 31) = nI (2 ^ T) from bit1_pow (by omega), nI_leI (by omega) (by omega)] at c67
      refine g_iload hX dX6_said_70 rfl ?_
      refine g_iload hX dX6_said_72 rfl ?_
      refine g_iconst (v := (-1)) hX dX6_said_74 (by decide) ?_
      refine g_ixor hX dX6_said_75 ?_
      refine g_iand hX dX6_said_76 ?_
      refine g_ifne 170 hX dX6_said_77 (by decide) (fun c77 => ?_) (fun c77 => ?_)
      · refine g_iinc (lv' := [(8, .int _), (7, .int _), (6, .int _), (5, .int _), (0, .ref _), (1, .int _), (2, .int _), (3, .int _), (4, .int _)]) hX dX6_said_170 rfl (by first | exact nI_inc _ | rfl) (by decide) rfl ?_
        refine g_goto 57 hX dX6_said_173 (by decide) ?_
        refine g_pick [0, 1, 2, 3, 4, 5, 6, 7, 8] rfl ?_
        have := ih (2 ^ T - (k + 1)) (by omega) (k + 1) rfl (by omega)
        rw [saidF, if_neg (fun e => c77 (of_decide_eq_true e.1))] at this
        exact this
      · refine g_iconst (v := nI 0) hX dX6_said_80 (by decide) ?_
        refine g_istore (lv' := [(9, .int _), (8, .int _), (7, .int _), (6, .int _), (5, .int _), (0, .ref _), (1, .int _), (2, .int _), (3, .int _), (4, .int _)]) hX dX6_said_81 (by decide) rfl ?_
        refine g_iconst (v := nI 0) hX dX6_said_83 (by decide) ?_
        refine g_istore (lv' := [(10, .int _), (9, .int _), (8, .int _), (7, .int _), (6, .int _), (5, .int _), (0, .ref _), (1, .int _), (2, .int _), (3, .int _), (4, .int _)]) hX dX6_said_84 (by decide) rfl ?_
        refine g_pick [0, 1, 2, 3, 4, 5, 6, 7, 8, 9, 10] rfl (lp_X6_said_86 (k := k) (yy := yy) hM hMo hw (by omega) ?_ T 0 (Nat.sub_zero T).symm (Nat.zero_le _))
        refine g_iload hX dX6_said_132 rfl ?_
        refine g_iload hX dX6_said_134 rfl ?_
        refine g_iload_n hX dX6_said_136 rfl rfl ?_
        refine g_icmpne 144 hX dX6_said_137 (by decide) (fun c137 => ?_) (fun c137 => ?_)
        · refine g_iconst (v := nI 0) hX dX6_said_144 (by decide) ?_
          refine g_iadd hX dX6_said_145 ?_
          refine g_istore (lv' := [(6, .int _), (10, .int _), (9, .int _), (8, .int _), (7, .int _), (5, .int _), (0, .ref _), (1, .int _), (2, .int _), (3, .int _), (4, .int _)]) hX dX6_said_146 (by decide) rfl ?_
          refine g_iload hX dX6_said_148 rfl ?_
          refine g_iload_n hX dX6_said_150 rfl rfl ?_
          refine g_icmpne 166 hX dX6_said_151 (by decide) (fun c151 => ?_) (fun c151 => ?_)
          · refine g_iload hX dX6_said_166 rfl ?_
            refine g_istore (lv' := [(7, .int _), (6, .int _), (10, .int _), (9, .int _), (8, .int _), (5, .int _), (0, .ref _), (1, .int _), (2, .int _), (3, .int _), (4, .int _)]) hX dX6_said_168 (by decide) rfl ?_
            refine g_iinc (lv' := [(8, .int _), (7, .int _), (6, .int _), (10, .int _), (9, .int _), (5, .int _), (0, .ref _), (1, .int _), (2, .int _), (3, .int _), (4, .int _)]) hX dX6_said_170 rfl (by first | exact nI_inc _ | rfl) (by decide) rfl ?_
            refine g_goto 57 hX dX6_said_173 (by decide) ?_
            rw [add_nI0]
            refine g_pick [0, 1, 2, 5, 6, 7, 8, 9, 10] rfl ?_
            have := ih (2 ^ T - (k + 1)) (by omega) (k + 1) rfl (by omega)
            rw [saidF, if_neg (fun e => c137 e.2)] at this
            exact this
          · exact absurd c151 c137
        · refine g_iconst (v := nI 1) hX dX6_said_140 (by decide) ?_
          refine g_goto 145 hX dX6_said_141 (by decide) ?_
          refine g_iadd hX dX6_said_145 ?_
          refine g_istore (lv' := [(6, .int _), (10, .int _), (9, .int _), (8, .int _), (7, .int _), (5, .int _), (0, .ref _), (1, .int _), (2, .int _), (3, .int _), (4, .int _)]) hX dX6_said_146 (by decide) rfl ?_
          refine g_iload hX dX6_said_148 rfl ?_
          refine g_iload_n hX dX6_said_150 rfl rfl ?_
          refine g_icmpne 166 hX dX6_said_151 (by decide) (fun c151 => ?_) (fun c151 => ?_)
          · exact absurd c137 c151
          · refine g_iload hX dX6_said_154 rfl ?_
            refine g_bipush (v := (-4)) hX dX6_said_156 (by decide) ?_
            refine g_icmpne 166 hX dX6_said_158 (by decide) (fun c158 => ?_) (fun c158 => ?_)
            · refine g_iload hX dX6_said_166 rfl ?_
              refine g_istore (lv' := [(7, .int _), (6, .int _), (10, .int _), (9, .int _), (8, .int _), (5, .int _), (0, .ref _), (1, .int _), (2, .int _), (3, .int _), (4, .int _)]) hX dX6_said_168 (by decide) rfl ?_
              refine g_iinc (lv' := [(8, .int _), (7, .int _), (6, .int _), (10, .int _), (9, .int _), (5, .int _), (0, .ref _), (1, .int _), (2, .int _), (3, .int _), (4, .int _)]) hX dX6_said_170 rfl (by first | exact nI_inc _ | rfl) (by decide) rfl ?_
              refine g_goto 57 hX dX6_said_173 (by decide) ?_
              rw [nI_add]
              refine g_pick [0, 1, 2, 5, 6, 7, 8, 9, 10] rfl ?_
              have := ih (2 ^ T - (k + 1)) (by omega) (k + 1) rfl (by omega)
              rw [saidF, if_pos ⟨decide_eq_true c77, c137⟩, if_neg c158] at this
              exact this
            · refine g_iload hX dX6_said_161 rfl ?_
              refine g_goto 168 hX dX6_said_163 (by decide) ?_
              refine g_istore (lv' := [(7, .int _), (6, .int _), (10, .int _), (9, .int _), (8, .int _), (5, .int _), (0, .ref _), (1, .int _), (2, .int _), (3, .int _), (4, .int _)]) hX dX6_said_168 (by decide) rfl ?_
              refine g_iinc (lv' := [(8, .int _), (7, .int _), (6, .int _), (10, .int _), (9, .int _), (5, .int _), (0, .ref _), (1, .int _), (2, .int _), (3, .int _), (4, .int _)]) hX dX6_said_170 rfl (by first | exact nI_inc _ | rfl) (by decide) rfl ?_
              refine g_goto 57 hX dX6_said_173 (by decide) ?_
              rw [nI_add]
              refine g_pick [0, 1, 2, 5, 6, 7, 8, 9, 10] rfl ?_
              have := ih (2 ^ T - (k + 1)) (by omega) (k + 1) rfl (by omega)
              rw [saidF, if_pos ⟨decide_eq_true c77, c137⟩, if_pos c158] at this
              exact this

set_option maxHeartbeats 4000000 in
set_option maxRecDepth 100000 in
theorem sp_X6_said {Γ : Ga} {d : Nat} {κ : Kp} {I : Ip} {Q : Option Value → Kp → Ip → Prop} {m P T : Nat} {x y z v : Int32} (hMo : MoK κ m) (hw : WfT (I (κ.2.1 m 0)) P T) (hs : WfS (I (κ.2.1 m 2)) P T) (hq : Q (some (.int (saidA (I (κ.2.1 m 0)) (I (κ.2.1 m 2)) P T x y z v))) κ I) : Sp Γ (d + 3) mX6_said [.ref (m), .int (x), .int (y), .int (z), .int (v)] κ I Q := by
  obtain ⟨hm, hm0, ⟨k0, n0⟩, ⟨k1, n1⟩, ⟨k2, n2⟩, ⟨k3, n3⟩, ⟨k4, n4⟩, ⟨k6, n6⟩, ⟨k8, n8⟩, ⟨k14, n14⟩, ⟨k15, n15⟩, ⟨k16, n16⟩, d01, d23, d614, d1516⟩ := id hMo
  obtain ⟨hw0, hw1, hP, hT, -⟩ := id hw
  intro X hM
  have hX := hM.std
  have hR := hM.room
  show GW _ mX6_said X 0 [(0, .ref (m)), (1, .int (x)), (2, .int (y)), (3, .int (z)), (4, .int (v))] [] _ _ 0 0
  refine g_aload_n hX dX6_said_0 rfl rfl ?_
  refine g_iload_n hX dX6_said_1 rfl rfl ?_
  refine g_iload_n hX dX6_said_2 rfl rfl ?_
  refine g_callV (md' := mX6_areTwo) (ci := 6) (As := [.int _, .int _]) hX hR dX6_said_3 clX6_165 okX6_areTwo rfl (by assumption) rfl rfl (Nat.le_of_ble_eq_true rfl) (Nat.le_of_ble_eq_true rfl) ⟨Nat.le_of_ble_eq_true rfl, Nat.le_of_ble_eq_true rfl⟩ ?_
  refine sp_X6_areTwo hMo hw0 (by omega) ?_
  change GW _ _ _ 6 _ [.int _] _ _ 0 0
  refine g_ifeq 32 hX dX6_said_6 (by decide) (fun c6 => ?_) (fun c6 => ?_)
  · first | (rw [b2i_n0, decide_eq_true_eq] at c6) | (rw [b2i_0, decide_eq_false_iff_not] at c6)
    refine g_iconst (v := (-1)) hX dX6_said_32 (by decide) ?_
    refine g_iret hM dX6_said_33 rfl (rfl) ⟨Nat.le_of_ble_eq_true rfl, Nat.le_of_ble_eq_true rfl⟩ ?_
    refine q_int ?_ hq
    rw [saidA, if_neg (fun e => c6 e.1)]
  · first | (rw [b2i_n0, decide_eq_true_eq] at c6) | (rw [b2i_0, decide_eq_false_iff_not] at c6)
    refine g_iload_n hX dX6_said_9 rfl rfl ?_
    refine g_i2l hX dX6_said_10 ?_
    refine g_lconst (v := 0) hX dX6_said_11 (by decide) ?_
    refine g_ldc2 hX dX6_said_12 kX6_230 ?_
    refine g_callS (md' := mX6_in) (As := [.long _, .long _, .long _]) hX hR dX6_said_15 clX6_73 okX6_in rfl rfl (Nat.le_of_ble_eq_true rfl) (Nat.le_of_ble_eq_true rfl) ⟨Nat.le_of_ble_eq_true rfl, Nat.le_of_ble_eq_true rfl⟩ ?_
    refine sp_X6_inR 0 180 rfl rfl ?_
    change GW _ _ _ 18 _ [.int _] _ _ 0 0
    refine g_ifeq 32 hX dX6_said_18 (by decide) (fun c18 => ?_) (fun c18 => ?_)
    · first | (rw [b2i_n0, decide_eq_true_eq] at c18) | (rw [b2i_0, decide_eq_false_iff_not] at c18)
      refine g_iconst (v := (-1)) hX dX6_said_32 (by decide) ?_
      refine g_iret hM dX6_said_33 rfl (rfl) ⟨Nat.le_of_ble_eq_true rfl, Nat.le_of_ble_eq_true rfl⟩ ?_
      refine q_int ?_ hq
      rw [saidA, if_neg (fun e => c18 e.2.1)]
    · first | (rw [b2i_n0, decide_eq_true_eq] at c18) | (rw [b2i_0, decide_eq_false_iff_not] at c18)
      refine g_iload hX dX6_said_21 rfl ?_
      refine g_i2l hX dX6_said_23 ?_
      refine g_lconst (v := 0) hX dX6_said_24 (by decide) ?_
      refine g_lconst (v := 1) hX dX6_said_25 (by decide) ?_
      refine g_callS (md' := mX6_in) (As := [.long _, .long _, .long _]) hX hR dX6_said_26 clX6_73 okX6_in rfl rfl (Nat.le_of_ble_eq_true rfl) (Nat.le_of_ble_eq_true rfl) ⟨Nat.le_of_ble_eq_true rfl, Nat.le_of_ble_eq_true rfl⟩ ?_
      refine sp_X6_inR 0 1 rfl rfl ?_
      change GW _ _ _ 29 _ [.int _] _ _ 0 0
      refine g_ifne 34 hX dX6_said_29 (by decide) (fun c29 => ?_) (fun c29 => ?_)
      · rw [b2i_n0, decide_eq_true_eq] at c29
        obtain ⟨j, hj1, hj2, rfl⟩ := inR_of c18
        obtain ⟨i1, hi1, rfl⟩ := inN_of c6.1
        obtain ⟨i2, hi2, rfl⟩ := inN_of c6.2.1
        refine g_aload_n hX dX6_said_34 rfl rfl ?_
        refine g_aload_n hX dX6_said_35 rfl rfl ?_
        refine g_getR hX dX6_said_36 flX6_16 (by assumption) rfl (by first | assumption | rfl) (by assumption) ?_
        refine g_iload_n hX dX6_said_39 rfl rfl ?_
        refine g_iload_n hX dX6_said_40 rfl rfl ?_
        refine g_iconst (v := nI 0) hX dX6_said_41 (by decide) ?_
        refine g_callV (md' := mX6_tellable) (ci := 6) (As := [.ref _, .int _, .int _, .int _]) hX hR dX6_said_42 clX6_150 okX6_tellable rfl (by assumption) rfl rfl (Nat.le_of_ble_eq_true rfl) (Nat.le_of_ble_eq_true rfl) ⟨Nat.le_of_ble_eq_true rfl, Nat.le_of_ble_eq_true rfl⟩ ?_
        refine sp_X6_tellable hMo k2 hw1 hT (by omega) ?_
        rw [tell0]
        change GW _ _ _ 45 _ [.int _] _ _ 0 0
        refine g_istore (lv' := [(5, .int _), (0, .ref _), (1, .int _), (2, .int _), (3, .int _), (4, .int _)]) hX dX6_said_45 (by decide) rfl ?_
        refine g_iconst (v := nI 0) hX dX6_said_47 (by decide) ?_
        refine g_istore (lv' := [(6, .int _), (5, .int _), (0, .ref _), (1, .int _), (2, .int _), (3, .int _), (4, .int _)]) hX dX6_said_48 (by decide) rfl ?_
        refine g_bipush (v := (-4)) hX dX6_said_50 (by decide) ?_
        refine g_istore (lv' := [(7, .int _), (6, .int _), (5, .int _), (0, .ref _), (1, .int _), (2, .int _), (3, .int _), (4, .int _)]) hX dX6_said_52 (by decide) rfl ?_
        refine g_iconst (v := nI 0) hX dX6_said_54 (by decide) ?_
        refine g_istore (lv' := [(8, .int _), (7, .int _), (6, .int _), (5, .int _), (0, .ref _), (1, .int _), (2, .int _), (3, .int _), (4, .int _)]) hX dX6_said_55 (by decide) rfl ?_
        refine g_pick [0, 1, 2, 3, 4, 5, 6, 7, 8] rfl (lp_X6_said_57 hM hMo hw (q_int ?_ hq) (2 ^ T) 0 (Nat.sub_zero _).symm (Nat.zero_le _))
        rw [saidA, if_pos ⟨c6, c18, c29⟩, nI_clamp (by omega)]
      · rw [b2i_0, decide_eq_false_iff_not] at c29
        refine g_iconst (v := (-1)) hX dX6_said_32 (by decide) ?_
        refine g_iret hM dX6_said_33 rfl (rfl) ⟨Nat.le_of_ble_eq_true rfl, Nat.le_of_ble_eq_true rfl⟩ ?_
        refine q_int ?_ hq
        rw [saidA, if_neg (fun e => c29 e.2.2)]

set_option maxHeartbeats 4000000 in
set_option maxRecDepth 100000 in
theorem lp_X6_known_4 {Γ : Ga} {d : Nat} {κ : Kp} {Q : Option Value → Kp → Ip → Prop} {X : Cx} {I : Ip} {m x P T : Nat} (hM : Mx Γ (d + 1) mX6_known Q X) (hMo : MoK κ m) (hw : WfT (I (κ.2.1 m 0)) P T) (hx : κ.1 x = (8, 18)) (hs : WfS (I x) P T) (hq : Q (some (.int (nI (knownF (I x) T)))) κ I) : ∀ (n : Nat) (t : Nat), n = T - t → t ≤ T → GW Γ mX6_known X 4 [(3, .int (nI t)), (2, .int (nI (fb_sm (fun t => pcI (I x t)) t))), (0, .ref (m)), (1, .ref (x))] [] κ (I) 0 0 := by
  have hX := hM.std
  have hR := hM.room
  intro n
  induction n using Nat.strongRecOn with
  | ind n ih =>
    intro t hn ht
    obtain ⟨hm, hm0, ⟨k0, n0⟩, ⟨k1, n1⟩, ⟨k2, n2⟩, ⟨k3, n3⟩, ⟨k4, n4⟩, ⟨k6, n6⟩, ⟨k8, n8⟩, ⟨k14, n14⟩, ⟨k15, n15⟩, ⟨k16, n16⟩, d01, d23, d614, d1516⟩ := id hMo
    obtain ⟨hw0, hw1, hP, hT, -⟩ := id hw
    refine g_iload_n hX dX6_known_4 rfl rfl ?_
    refine g_aload_n hX dX6_known_5 rfl rfl ?_
    refine g_getR hX dX6_known_6 flX6_7 (by assumption) rfl (by first | assumption | rfl) (by assumption) ?_
    refine g_iconst (v := nI 1) hX dX6_known_9 (by decide) ?_
    refine g_ialdN hX dX6_known_10 (by assumption) (rfl) (by omega) (by first | decide | omega) ?_
    refine g_icmpge 31 hX dX6_known_11 (by decide) (fun c11 => ?_) (fun c11 => ?_)
    · rw [hw1, nI_leI (by omega) (by omega)] at c11
      refine g_iload_n hX dX6_known_31 rfl rfl ?_
      refine g_iret hM dX6_known_32 rfl (rfl) ⟨Nat.le_of_ble_eq_true rfl, Nat.le_of_ble_eq_true rfl⟩ ?_
      have e : t = T := by omega
      subst e
      exact hq
    · rw [hw1, nI_leI (by omega) (by omega)] at c11
      refine g_iload_n hX dX6_known_14 rfl rfl ?_
      refine g_aload_n hX dX6_known_15 rfl rfl ?_
      refine g_iconst (v := nI 0) hX dX6_known_16 (by decide) ?_
      refine g_iload_n hX dX6_known_17 rfl rfl ?_
      refine g_iadd hX dX6_known_18 ?_
      refine g_ialdN hX dX6_known_19 (by assumption) (nI_z _) (by omega) (by first | decide | omega) ?_
      refine g_callS (md' := mX6_bits) (As := [.int _]) hX hR dX6_known_20 clX6_178 okX6_bits rfl rfl (Nat.le_of_ble_eq_true rfl) (Nat.le_of_ble_eq_true rfl) ⟨Nat.le_of_ble_eq_true rfl, Nat.le_of_ble_eq_true rfl⟩ ?_
      obtain ⟨kk, hkk, ekk⟩ := small_nI (N := 6) (by decide) (fun i hi => Nat.lt_of_lt_of_le (hs.1 t (by omega) i hi) hP)
      rw [ekk]
      refine sp_X6_bits (by omega) ?_
      rw [← pcI_nI (by omega), ← ekk]
      change GW _ _ _ 23 _ [.int _, .int _] _ _ 0 0
      refine g_iadd hX dX6_known_23 ?_
      refine g_istore_n (lv' := [(2, .int _), (3, .int _), (0, .ref _), (1, .ref _)]) hX dX6_known_24 rfl (by decide) rfl ?_
      refine g_iinc (lv' := [(3, .int _), (2, .int _), (0, .ref _), (1, .ref _)]) hX dX6_known_25 rfl (by first | exact nI_inc _ | rfl) (by decide) rfl ?_
      refine g_goto 4 hX dX6_known_28 (by decide) ?_
      rw [nI_add]
      exact g_pick [0, 1, 2, 3] rfl (ih (T - (t + 1)) (by omega) (t + 1) rfl (by omega))

set_option maxHeartbeats 4000000 in
set_option maxRecDepth 100000 in
theorem sp_X6_known {Γ : Ga} {d : Nat} {κ : Kp} {I : Ip} {Q : Option Value → Kp → Ip → Prop} {m x P T : Nat} (hMo : MoK κ m) (hw : WfT (I (κ.2.1 m 0)) P T) (hx : κ.1 x = (8, 18)) (hs : WfS (I x) P T) (hq : Q (some (.int (nI (knownF (I x) T)))) κ I) : Sp Γ (d + 1) mX6_known [.ref (m), .ref (x)] κ I Q := by
  obtain ⟨hm, hm0, ⟨k0, n0⟩, ⟨k1, n1⟩, ⟨k2, n2⟩, ⟨k3, n3⟩, ⟨k4, n4⟩, ⟨k6, n6⟩, ⟨k8, n8⟩, ⟨k14, n14⟩, ⟨k15, n15⟩, ⟨k16, n16⟩, d01, d23, d614, d1516⟩ := id hMo
  intro X hM
  have hX := hM.std
  have hR := hM.room
  show GW _ mX6_known X 0 [(0, .ref (m)), (1, .ref (x))] [] _ _ 0 0
  refine g_iconst (v := nI 0) hX dX6_known_0 (by decide) ?_
  refine g_istore_n (lv' := [(2, .int _), (0, .ref _), (1, .ref _)]) hX dX6_known_1 rfl (by decide) rfl ?_
  refine g_iconst (v := nI 0) hX dX6_known_2 (by decide) ?_
  refine g_istore_n (lv' := [(3, .int _), (2, .int _), (0, .ref _), (1, .ref _)]) hX dX6_known_3 rfl (by decide) rfl ?_
  exact g_pick [0, 1, 2, 3] rfl (lp_X6_known_4 hM hMo hw hx hs hq T 0 (Nat.sub_zero T).symm (Nat.zero_le _))

set_option maxHeartbeats 4000000 in
set_option maxRecDepth 100000 in
theorem sp_X6_draws {Γ : Ga} {d : Nat} {κ : Kp} {I : Ip} {Q : Option Value → Kp → Ip → Prop} {m P T dr : Nat} (hMo : MoK κ m) (hw : WfT (I (κ.2.1 m 0)) P T) (hP1 : 0 < P) (hdr : dr < 100000) (hq : Q none κ (va_up I (κ.2.1 m 3) (drawS (I (κ.2.1 m 0)) (I (κ.2.1 m 3)) P T dr))) : Sp Γ (d + 4) mX6_draws [.ref (m), .int (nI dr)] κ I Q := by
  obtain ⟨hm, hm0, ⟨k0, n0⟩, ⟨k1, n1⟩, ⟨k2, n2⟩, ⟨k3, n3⟩, ⟨k4, n4⟩, ⟨k6, n6⟩, ⟨k8, n8⟩, ⟨k14, n14⟩, ⟨k15, n15⟩, ⟨k16, n16⟩, d01, d23, d614, d1516⟩ := id hMo
  obtain ⟨hw0, hw1, hP, hT, -⟩ := id hw
  have h03 : κ.2.1 m 0 ≠ κ.2.1 m 3 := kd_ne k0 k3 (by decide)
  have hm1 : dr / 8 % P < P := Nat.mod_lt _ hP1
  have hm2 : dr / 64 % P < P := Nat.mod_lt _ hP1
  have hd8 : dr / 8 ≤ dr := Nat.div_le_self _ _
  have hd64 : dr / 64 ≤ dr := Nat.div_le_self _ _
  intro X hM
  have hX := hM.std
  have hR := hM.room
  show GW _ mX6_draws X 0 [(0, .ref (m)), (1, .int (nI dr))] [] _ _ 0 0
  refine g_aload_n hX dX6_draws_0 rfl rfl ?_
  refine g_getR hX dX6_draws_1 flX6_7 (by assumption) rfl (by first | assumption | rfl) (by assumption) ?_
  refine g_iconst (v := nI 0) hX dX6_draws_4 (by decide) ?_
  refine g_ialdN hX dX6_draws_5 (by assumption) (rfl) (by omega) (by first | decide | omega) ?_
  try simp (disch := decide) only [up_same, up_up, up_neD]
  rw [hw0]
  refine g_istore_n (lv' := [(2, .int _), (0, .ref _), (1, .int _)]) hX dX6_draws_6 rfl (by decide) rfl ?_
  refine g_aload_n hX dX6_draws_7 rfl rfl ?_
  refine g_getR hX dX6_draws_8 flX6_19 (by assumption) rfl (by first | assumption | rfl) (by assumption) ?_
  refine g_bipush (v := nI 10) hX dX6_draws_11 (by decide) ?_
  refine g_ialdN hX dX6_draws_13 (by assumption) (rfl) (by omega) (by first | decide | omega) ?_
  try simp (disch := decide) only [up_same, up_up, up_neD]
  refine g_bipush (v := (-4)) hX dX6_draws_14 (by decide) ?_
  refine g_icmpne 64 hX dX6_draws_16 (by decide) (fun c16 => ?_) (fun c16 => ?_)
  · refine g_iload_n hX dX6_draws_64 rfl rfl ?_
    refine g_bipush (v := nI 8) hX dX6_draws_65 (by decide) ?_
    refine g_irem hX dX6_draws_67 (by decide) ?_
    rw [nI_rem (by omega) (by omega)]
    refine g_ifne 90 hX dX6_draws_68 (by decide) (fun c68 => ?_) (fun c68 => ?_)
    · have c68 : ¬ dr % 8 = 0 := fun e => c68 (by rw [e]; exact nI0)
      refine g_iload_n hX dX6_draws_90 rfl rfl ?_
      refine g_bipush (v := nI 8) hX dX6_draws_91 (by decide) ?_
      refine g_irem hX dX6_draws_93 (by decide) ?_
      rw [nI_rem (by omega) (by omega)]
      refine g_iconst (v := nI 1) hX dX6_draws_94 (by decide) ?_
      refine g_icmpne 148 hX dX6_draws_95 (by decide) (fun c95 => ?_) (fun c95 => ?_)
      · rw [nI_eq (by omega) (by omega)] at c95
        refine g_vret hM dX6_draws_148 rfl ⟨Nat.le_of_ble_eq_true rfl, Nat.le_of_ble_eq_true rfl⟩ ?_
        refine q_st ?_ hq
        rw [drawS, if_neg c16, if_neg c68, if_neg (fun e => c95 e.1), up_self]
      · rw [nI_eq (by omega) (by omega)] at c95
        refine g_aload_n hX dX6_draws_98 rfl rfl ?_
        refine g_getR hX dX6_draws_99 flX6_7 (by assumption) rfl (by first | assumption | rfl) (by assumption) ?_
        refine g_iconst (v := nI 1) hX dX6_draws_102 (by decide) ?_
        refine g_ialdN hX dX6_draws_103 (by assumption) (rfl) (by omega) (by first | decide | omega) ?_
        try simp (disch := decide) only [up_same, up_up, up_neD]
        refine g_ifle 148 hX dX6_draws_104 (by decide) (fun c104 => ?_) (fun c104 => ?_)
        · rw [hw1] at c104
          have c104 : T = 0 := by
            rcases Nat.eq_zero_or_pos T with h | h
            · exact h
            · exact absurd c104 (nI_nle h (by omega))
          refine g_vret hM dX6_draws_148 rfl ⟨Nat.le_of_ble_eq_true rfl, Nat.le_of_ble_eq_true rfl⟩ ?_
          refine q_st ?_ hq
          rw [drawS, if_neg c16, if_neg c68, if_neg (fun e => by omega), up_self]
        · rw [hw1] at c104
          have c104 : 0 < T := by
            rcases Nat.eq_zero_or_pos T with h | h
            · exfalso; apply c104; rw [h]; decide
            · exact h
          refine g_iload_n hX dX6_draws_107 rfl rfl ?_
          refine g_bipush (v := nI 8) hX dX6_draws_108 (by decide) ?_
          refine g_idiv hX dX6_draws_110 (by decide) ?_
          rw [nI_div (by omega) (by omega)]
          refine g_aload_n hX dX6_draws_111 rfl rfl ?_
          refine g_getR hX dX6_draws_112 flX6_7 (by assumption) rfl (by first | assumption | rfl) (by assumption) ?_
          refine g_iconst (v := nI 1) hX dX6_draws_115 (by decide) ?_
          refine g_ialdN hX dX6_draws_116 (by assumption) (rfl) (by omega) (by first | decide | omega) ?_
          try simp (disch := decide) only [up_same, up_up, up_neD]
          rw [hw1]
          refine g_irem hX dX6_draws_117 (nI_ne0 (by omega) (by omega)) ?_
          rw [nI_rem (by omega) (by omega)]
          have hm3 : dr / 8 % T < T := Nat.mod_lt _ (by omega)
          refine g_istore_n (lv' := [(3, .int _), (2, .int _), (0, .ref _), (1, .int _)]) hX dX6_draws_118 rfl (by decide) rfl ?_
          refine g_aload_n hX dX6_draws_119 rfl rfl ?_
          refine g_getR hX dX6_draws_120 flX6_19 (by assumption) rfl (by first | assumption | rfl) (by assumption) ?_
          refine g_bipush (v := nI 9) hX dX6_draws_123 (by decide) ?_
          refine g_dup2 hX dX6_draws_125 rfl rfl ?_
          refine g_ialdN hX dX6_draws_126 (by assumption) (rfl) (by omega) (by first | decide | omega) ?_
          try simp (disch := decide) only [up_same, up_up, up_neD]
          refine g_aload_n hX dX6_draws_127 rfl rfl ?_
          refine g_aload_n hX dX6_draws_128 rfl rfl ?_
          refine g_getR hX dX6_draws_129 flX6_19 (by assumption) rfl (by first | assumption | rfl) (by assumption) ?_
          refine g_iload_n hX dX6_draws_132 rfl rfl ?_
          refine g_callV (md' := mX6_mayHush) (ci := 6) (As := [.ref _, .int _]) hX hR dX6_draws_133 clX6_186 okX6_mayHush rfl (by assumption) rfl rfl (Nat.le_of_ble_eq_true rfl) (Nat.le_of_ble_eq_true rfl) ⟨Nat.le_of_ble_eq_true rfl, Nat.le_of_ble_eq_true rfl⟩ ?_
          refine sp_X6_mayHush hMo k3 (by omega) ?_
          change GW _ _ _ 136 _ [.int _, .int _, .int _, .ref _] _ _ 0 0
          refine g_ifeq 145 hX dX6_draws_136 (by decide) (fun c136 => ?_) (fun c136 => ?_)
          · first | (rw [b2i_n0] at c136) | (rw [b2i_0] at c136)
            refine g_iconst (v := nI 0) hX dX6_draws_145 (by decide) ?_
            refine g_ior hX dX6_draws_146 ?_
            refine g_iastN hX dX6_draws_147 (by assumption) (rfl) (by omega) (by first | decide | omega) ?_
            try simp (disch := decide) only [up_same, up_up, up_neD]
            refine g_vret hM dX6_draws_148 rfl ⟨Nat.le_of_ble_eq_true rfl, Nat.le_of_ble_eq_true rfl⟩ ?_
            refine q_st ?_ hq
            rw [drawS, if_neg c16, if_neg c68, if_pos ⟨c95, by omega⟩, if_neg (by rw [show mayB _ _ = _ from c136]; decide)]
          · first | (rw [b2i_n0] at c136) | (rw [b2i_0] at c136)
            refine g_iconst (v := nI 1) hX dX6_draws_139 (by decide) ?_
            refine g_iload_n hX dX6_draws_140 rfl rfl ?_
            refine g_ishl hX dX6_draws_141 ?_
            refine g_goto 146 hX dX6_draws_142 (by decide) ?_
            refine g_ior hX dX6_draws_146 ?_
            refine g_iastN hX dX6_draws_147 (by assumption) (rfl) (by omega) (by first | decide | omega) ?_
            try simp (disch := decide) only [up_same, up_up, up_neD]
            refine g_vret hM dX6_draws_148 rfl ⟨Nat.le_of_ble_eq_true rfl, Nat.le_of_ble_eq_true rfl⟩ ?_
            refine q_st ?_ hq
            rw [drawS, if_neg c16, if_neg c68, if_pos ⟨c95, by omega⟩, if_pos (show mayB _ _ = true from c136)]
            rfl
    · have c68 : dr % 8 = 0 := nI_inj (by omega) (by omega) (c68.trans nI0.symm)
      refine g_aload_n hX dX6_draws_71 rfl rfl ?_
      refine g_getR hX dX6_draws_72 flX6_19 (by assumption) rfl (by first | assumption | rfl) (by assumption) ?_
      refine g_bipush (v := nI 10) hX dX6_draws_75 (by decide) ?_
      refine g_bipush (v := (-4)) hX dX6_draws_77 (by decide) ?_
      refine g_iastN hX dX6_draws_79 (by assumption) (rfl) (by omega) (by first | decide | omega) ?_
      try simp (disch := decide) only [up_same, up_up, up_neD]
      refine g_aload_n hX dX6_draws_80 rfl rfl ?_
      refine g_getR hX dX6_draws_81 flX6_19 (by assumption) rfl (by first | assumption | rfl) (by assumption) ?_
      refine g_callS (md' := mX6_standsAnew) (As := [.ref _]) hX hR dX6_draws_84 clX6_161 okX6_standsAnew rfl rfl (Nat.le_of_ble_eq_true rfl) (Nat.le_of_ble_eq_true rfl) ⟨Nat.le_of_ble_eq_true rfl, Nat.le_of_ble_eq_true rfl⟩ ?_
      refine sp_X6_standsAnew k3 ?_
      change GW _ _ _ 87 _ [] _ _ 0 0
      refine g_goto 148 hX dX6_draws_87 (by decide) ?_
      refine g_vret hM dX6_draws_148 rfl ⟨Nat.le_of_ble_eq_true rfl, Nat.le_of_ble_eq_true rfl⟩ ?_
      refine q_st ?_ hq
      rw [drawS, if_neg c16, if_pos c68]
      simp only [up_same, up_up]
      rfl
  · refine g_iload_n hX dX6_draws_19 rfl rfl ?_
    refine g_bipush (v := nI 8) hX dX6_draws_20 (by decide) ?_
    refine g_idiv hX dX6_draws_22 (by decide) ?_
    rw [nI_div (by omega) (by omega)]
    refine g_iload_n hX dX6_draws_23 rfl rfl ?_
    refine g_irem hX dX6_draws_24 (nI_ne0 hP1 (by omega)) ?_
    rw [nI_rem (by omega) (by omega)]
    refine g_istore_n (lv' := [(3, .int _), (2, .int _), (0, .ref _), (1, .int _)]) hX dX6_draws_25 rfl (by decide) rfl ?_
    refine g_iload_n hX dX6_draws_26 rfl rfl ?_
    refine g_bipush (v := nI 64) hX dX6_draws_27 (by decide) ?_
    refine g_idiv hX dX6_draws_29 (by decide) ?_
    rw [nI_div (by omega) (by omega)]
    refine g_iload_n hX dX6_draws_30 rfl rfl ?_
    refine g_irem hX dX6_draws_31 (nI_ne0 hP1 (by omega)) ?_
    rw [nI_rem (by omega) (by omega)]
    refine g_istore (lv' := [(4, .int _), (3, .int _), (2, .int _), (0, .ref _), (1, .int _)]) hX dX6_draws_32 (by decide) rfl ?_
    refine g_iload_n hX dX6_draws_34 rfl rfl ?_
    refine g_iload hX dX6_draws_35 rfl ?_
    refine g_icmpeq 61 hX dX6_draws_37 (by decide) (fun c37 => ?_) (fun c37 => ?_)
    · rw [nI_eq (by omega) (by omega)] at c37
      refine g_goto 148 hX dX6_draws_61 (by decide) ?_
      refine g_vret hM dX6_draws_148 rfl ⟨Nat.le_of_ble_eq_true rfl, Nat.le_of_ble_eq_true rfl⟩ ?_
      refine q_st ?_ hq
      rw [drawS, if_pos c16, if_neg (fun e => e.1 c37), up_self]
    · rw [nI_eq (by omega) (by omega)] at c37
      refine g_aload_n hX dX6_draws_40 rfl rfl ?_
      refine g_iload_n hX dX6_draws_41 rfl rfl ?_
      refine g_iload hX dX6_draws_42 rfl ?_
      refine g_callV (md' := mX6_likes) (ci := 6) (As := [.int _, .int _]) hX hR dX6_draws_44 clX6_168 okX6_likes rfl (by assumption) rfl rfl (Nat.le_of_ble_eq_true rfl) (Nat.le_of_ble_eq_true rfl) ⟨Nat.le_of_ble_eq_true rfl, Nat.le_of_ble_eq_true rfl⟩ ?_
      refine sp_X6_likes hMo (by omega) (by omega) ?_
      change GW _ _ _ 47 _ [.int _] _ _ 0 0
      refine g_ifeq 61 hX dX6_draws_47 (by decide) (fun c47 => ?_) (fun c47 => ?_)
      · first | (rw [b2i_n0] at c47) | (rw [b2i_0] at c47)
        refine g_goto 148 hX dX6_draws_61 (by decide) ?_
        refine g_vret hM dX6_draws_148 rfl ⟨Nat.le_of_ble_eq_true rfl, Nat.le_of_ble_eq_true rfl⟩ ?_
        refine q_st ?_ hq
        rw [drawS, if_pos c16, if_neg (fun e => by rw [show lkF _ _ _ = _ from c47] at e; cases e.2), up_self]
      · first | (rw [b2i_n0] at c47) | (rw [b2i_0] at c47)
        refine g_aload_n hX dX6_draws_50 rfl rfl ?_
        refine g_aload_n hX dX6_draws_51 rfl rfl ?_
        refine g_getR hX dX6_draws_52 flX6_19 (by assumption) rfl (by first | assumption | rfl) (by assumption) ?_
        refine g_iload_n hX dX6_draws_55 rfl rfl ?_
        refine g_iload hX dX6_draws_56 rfl ?_
        refine g_callV (md' := mX6_sitsDown) (ci := 6) (As := [.ref _, .int _, .int _]) hX hR dX6_draws_58 clX6_174 okX6_sitsDown rfl (by assumption) rfl rfl (Nat.le_of_ble_eq_true rfl) (Nat.le_of_ble_eq_true rfl) ⟨Nat.le_of_ble_eq_true rfl, Nat.le_of_ble_eq_true rfl⟩ ?_
        refine sp_X6_sitsDown hMo k3 ?_
        change GW _ _ _ 61 _ [] _ _ 0 0
        refine g_goto 148 hX dX6_draws_61 (by decide) ?_
        refine g_vret hM dX6_draws_148 rfl ⟨Nat.le_of_ble_eq_true rfl, Nat.le_of_ble_eq_true rfl⟩ ?_
        refine q_st ?_ hq
        rw [drawS, if_pos c16, if_pos ⟨c37, c47⟩]
