set_option maxHeartbeats 4000000 in
set_option maxRecDepth 100000 in
theorem lp_X6_who_60 {Γ : Ga} {d : Nat} {κ : Kp} {Q : Option Value → Kp → Ip → Prop} {X : Cx} {I : Ip} {m c P T : Nat} {yy what : Int32} {x : Nat} (hM : Mx Γ (d + 6) mX6_who Q X) (hMo : MoK κ m) (hw : WfT (I (κ.2.1 m 0)) P T) (hs : WfS (I (κ.2.1 m 2)) P T) (hc : c < 1000) (hx : x < P) (hout : ∀ J : Ip, MFr κ m I J → GW Γ mX6_who X 140 [(7, .int (nI P)), (6, .int (nI x)), (4, .int (nI (whoF (lkF (I (κ.2.1 m 0))) (fun a b => brF (I (κ.2.1 m 0)) (I (κ.2.1 m 2)) T a b c ((I (κ.2.1 m 2)) 9)) yy (rowsL P x ++ rowL x P)).1)), (5, .int (whoF (lkF (I (κ.2.1 m 0))) (fun a b => brF (I (κ.2.1 m 0)) (I (κ.2.1 m 2)) T a b c ((I (κ.2.1 m 2)) 9)) yy (rowsL P x ++ rowL x P)).2), (0, .ref m), (1, .int (nI c)), (2, .int yy), (3, .int what)] [] κ J 0 0) : ∀ (n : Nat) (y : Nat) (J : Ip), n = P - y → y ≤ P → MFr κ m I J → GW Γ mX6_who X 60 [(7, .int (nI y)), (6, .int (nI x)), (4, .int (nI (whoF (lkF (I (κ.2.1 m 0))) (fun a b => brF (I (κ.2.1 m 0)) (I (κ.2.1 m 2)) T a b c ((I (κ.2.1 m 2)) 9)) yy (rowsL P x ++ rowL x y)).1)), (5, .int ((whoF (lkF (I (κ.2.1 m 0))) (fun a b => brF (I (κ.2.1 m 0)) (I (κ.2.1 m 2)) T a b c ((I (κ.2.1 m 2)) 9)) yy (rowsL P x ++ rowL x y)).2)), (0, .ref (m)), (1, .int (nI c)), (2, .int (yy)), (3, .int (what))] [] κ (J) 0 0 := by
  have hX := hM.std
  have hR := hM.room
  intro n
  induction n using Nat.strongRecOn with
  | ind n ih =>
    intro y J hn hy hf
    obtain ⟨hm, hm0, ⟨k0, n0⟩, ⟨k1, n1⟩, ⟨k2, n2⟩, ⟨k3, n3⟩, ⟨k4, n4⟩, ⟨k6, n6⟩, ⟨k8, n8⟩, ⟨k14, n14⟩, ⟨k15, n15⟩, ⟨k16, n16⟩, d01, d23, d614, d1516⟩ := id hMo
    obtain ⟨hw0, hw1, hP, hT, -⟩ := id hw
    have ew := hf.w hMo
    have es := hf.s hMo
    have h1 : rowsL P x ++ rowL x (y + 1) = (rowsL P x ++ rowL x y) ++ [(x, y)] := by rw [rowL, List.append_assoc]
    refine g_iload hX dX6_who_60 rfl ?_
    refine g_aload_n hX dX6_who_62 rfl rfl ?_
    refine g_getR hX dX6_who_63 flX6_7 (by assumption) rfl (by first | assumption | rfl) (by assumption) ?_
    refine g_iconst (v := nI 0) hX dX6_who_66 (by decide) ?_
    refine g_ialdN hX dX6_who_67 (by assumption) (rfl) (by omega) (by first | decide | omega) ?_
    refine g_icmpge 140 hX dX6_who_68 (by decide) (fun c68 => ?_) (fun c68 => ?_)
    · rw [ew, hw0, nI_leI (by omega) (by omega)] at c68
      have e : y = P := by omega
      subst e
      exact g_pick [0, 1, 2, 3, 4, 5, 6, 7] rfl (hout J hf)
    · rw [ew, hw0, nI_leI (by omega) (by omega)] at c68
      refine g_iload hX dX6_who_71 rfl ?_
      refine g_iload hX dX6_who_73 rfl ?_
      refine g_icmpeq 134 hX dX6_who_75 (by decide) (fun c75 => ?_) (fun c75 => ?_)
      · rw [nI_eq (by omega) (by omega)] at c75
        refine g_iinc (lv' := [(7, .int _), (6, .int _), (4, .int _), (5, .int _), (0, .ref _), (1, .int _), (2, .int _), (3, .int _)]) hX dX6_who_134 rfl (by first | exact nI_inc _ | rfl) (by decide) rfl ?_
        refine g_goto 60 hX dX6_who_137 (by decide) ?_
        refine g_pick [0, 1, 2, 3, 4, 5, 6, 7] rfl ?_
        have := ih (P - (y + 1)) (by omega) (y + 1) J rfl (by omega) hf
        rw [h1, whoF_app, whoS, if_neg (by subst c75; exact fun e => (hw.2.2.2.2.2.1 x hx x e.1).2 rfl)] at this
        exact this
      · rw [nI_eq (by omega) (by omega)] at c75
        refine g_aload_n hX dX6_who_78 rfl rfl ?_
        refine g_iload hX dX6_who_79 rfl ?_
        refine g_iload hX dX6_who_81 rfl ?_
        refine g_callV (md' := mX6_likes) (ci := 6) (As := [.int _, .int _]) hX hR dX6_who_83 clX6_168 okX6_likes rfl (by assumption) rfl rfl (Nat.le_of_ble_eq_true rfl) (Nat.le_of_ble_eq_true rfl) ⟨Nat.le_of_ble_eq_true rfl, Nat.le_of_ble_eq_true rfl⟩ ?_
        refine sp_X6_likes hMo (by omega) (by omega) ?_
        change GW _ _ _ 86 _ [.int _] _ _ 0 0
        refine g_ifeq 134 hX dX6_who_86 (by decide) (fun c86 => ?_) (fun c86 => ?_)
        · first | (rw [b2i_n0] at c86) | (rw [b2i_0] at c86)
          refine g_iinc (lv' := [(7, .int _), (6, .int _), (4, .int _), (5, .int _), (0, .ref _), (1, .int _), (2, .int _), (3, .int _)]) hX dX6_who_134 rfl (by first | exact nI_inc _ | rfl) (by decide) rfl ?_
          refine g_goto 60 hX dX6_who_137 (by decide) ?_
          refine g_pick [0, 1, 2, 3, 4, 5, 6, 7] rfl ?_
          have := ih (P - (y + 1)) (by omega) (y + 1) J rfl (by omega) hf
          rw [h1, whoF_app, whoS, if_neg (by rw [← ew]; intro e; rw [show lkF _ _ _ = _ from c86] at e; cases e.1)] at this
          exact this
        · first | (rw [b2i_n0] at c86) | (rw [b2i_0] at c86)
          refine g_aload_n hX dX6_who_89 rfl rfl ?_
          refine g_iload hX dX6_who_90 rfl ?_
          refine g_iload hX dX6_who_92 rfl ?_
          refine g_iload_n hX dX6_who_94 rfl rfl ?_
          refine g_aload_n hX dX6_who_95 rfl rfl ?_
          refine g_getR hX dX6_who_96 flX6_16 (by assumption) rfl (by first | assumption | rfl) (by assumption) ?_
          refine g_bipush (v := nI 9) hX dX6_who_99 (by decide) ?_
          refine g_ialdN hX dX6_who_101 (by assumption) (rfl) (by omega) (by first | decide | omega) ?_
          refine g_callV (md' := mX6_bringsBy) (ci := 6) (As := [.int _, .int _, .int _, .int _]) hX hR dX6_who_102 clX6_198 okX6_bringsBy rfl (by assumption) rfl rfl (Nat.le_of_ble_eq_true rfl) (Nat.le_of_ble_eq_true rfl) ⟨Nat.le_of_ble_eq_true rfl, Nat.le_of_ble_eq_true rfl⟩ ?_
          refine sp_X6_bringsBy (P := P) (T := T) hMo (by rw [ew]; exact hw) (by rw [es]; exact hs) hc hx (by omega) (by omega) (by rw [es]; exact hs.2.1) ?_
          have hf2 := hf.row (f := itF (J (κ.2.1 m 0)) T c (brS (J (κ.2.1 m 2)) x y (J (κ.2.1 m 2) 9))) (Or.inr (Or.inl rfl)) hMo.m3
          generalize va_up J (κ.2.1 m 3) (itF (J (κ.2.1 m 0)) T c (brS (J (κ.2.1 m 2)) x y (J (κ.2.1 m 2) 9))) = K at hf2 ⊢
          rw [ew, es]
          change GW _ _ _ 105 _ [.int _] _ _ 0 0
          refine g_iload_n hX dX6_who_105 rfl rfl ?_
          refine g_icmpne 134 hX dX6_who_106 (by decide) (fun c106 => ?_) (fun c106 => ?_)
          · refine g_iinc (lv' := [(7, .int _), (6, .int _), (4, .int _), (5, .int _), (0, .ref _), (1, .int _), (2, .int _), (3, .int _)]) hX dX6_who_134 rfl (by first | exact nI_inc _ | rfl) (by decide) rfl ?_
            refine g_goto 60 hX dX6_who_137 (by decide) ?_
            refine g_pick [0, 1, 2, 3, 4, 5, 6, 7] rfl ?_
            have := ih (P - (y + 1)) (by omega) (y + 1) K rfl (by omega) hf2
            rw [h1, whoF_app, whoS, if_neg (fun e => c106 e.2)] at this
            exact this
          · refine g_iinc (lv' := [(4, .int _), (7, .int _), (6, .int _), (5, .int _), (0, .ref _), (1, .int _), (2, .int _), (3, .int _)]) hX dX6_who_109 rfl (by first | exact nI_inc _ | rfl) (by decide) rfl ?_
            refine g_iload hX dX6_who_112 rfl ?_
            refine g_bipush (v := (-4)) hX dX6_who_114 (by decide) ?_
            refine g_icmpne 130 hX dX6_who_116 (by decide) (fun c116 => ?_) (fun c116 => ?_)
            · refine g_iload hX dX6_who_130 rfl ?_
              refine g_istore (lv' := [(5, .int _), (4, .int _), (7, .int _), (6, .int _), (0, .ref _), (1, .int _), (2, .int _), (3, .int _)]) hX dX6_who_132 (by decide) rfl ?_
              refine g_iinc (lv' := [(7, .int _), (5, .int _), (4, .int _), (6, .int _), (0, .ref _), (1, .int _), (2, .int _), (3, .int _)]) hX dX6_who_134 rfl (by first | exact nI_inc _ | rfl) (by decide) rfl ?_
              refine g_goto 60 hX dX6_who_137 (by decide) ?_
              refine g_pick [0, 3, 2, 1, 4, 5, 6, 7] rfl ?_
              have := ih (P - (y + 1)) (by omega) (y + 1) K rfl (by omega) hf2
              rw [h1, whoF_app, whoS, if_pos ⟨by rw [← ew]; exact c86, c106⟩, if_neg c116] at this
              exact this
            · refine g_bipush (v := nI 10) hX dX6_who_119 (by decide) ?_
              refine g_iload hX dX6_who_121 rfl ?_
              refine g_imul hX dX6_who_123 ?_
              refine g_iload hX dX6_who_124 rfl ?_
              refine g_iadd hX dX6_who_126 ?_
              refine g_goto 132 hX dX6_who_127 (by decide) ?_
              refine g_istore (lv' := [(5, .int _), (4, .int _), (7, .int _), (6, .int _), (0, .ref _), (1, .int _), (2, .int _), (3, .int _)]) hX dX6_who_132 (by decide) rfl ?_
              refine g_iinc (lv' := [(7, .int _), (5, .int _), (4, .int _), (6, .int _), (0, .ref _), (1, .int _), (2, .int _), (3, .int _)]) hX dX6_who_134 rfl (by first | exact nI_inc _ | rfl) (by decide) rfl ?_
              refine g_goto 60 hX dX6_who_137 (by decide) ?_
              refine g_pick [0, 3, 2, 1, 4, 5, 6, 7] rfl ?_
              have := ih (P - (y + 1)) (by omega) (y + 1) K rfl (by omega) hf2
              rw [h1, whoF_app, whoS, if_pos ⟨by rw [← ew]; exact c86, c106⟩, if_pos c116] at this
              rw [nI_mul, nI_add]
              exact this

set_option maxHeartbeats 4000000 in
set_option maxRecDepth 100000 in
theorem lp_X6_who_46 {Γ : Ga} {d : Nat} {κ : Kp} {Q : Option Value → Kp → Ip → Prop} {X : Cx} {I : Ip} {m c P T : Nat} {yy what : Int32} (hM : Mx Γ (d + 6) mX6_who Q X) (hMo : MoK κ m) (hw : WfT (I (κ.2.1 m 0)) P T) (hs : WfS (I (κ.2.1 m 2)) P T) (hc : c < 1000) (hq : ∀ J : Ip, MFr κ m I J → Q (some (.int (if what = 0 then nI (whoF (lkF (I (κ.2.1 m 0))) (fun a b => brF (I (κ.2.1 m 0)) (I (κ.2.1 m 2)) T a b c ((I (κ.2.1 m 2)) 9)) yy (rowsL P P)).1 else (whoF (lkF (I (κ.2.1 m 0))) (fun a b => brF (I (κ.2.1 m 0)) (I (κ.2.1 m 2)) T a b c ((I (κ.2.1 m 2)) 9)) yy (rowsL P P)).2))) κ J) : ∀ (n : Nat) (x : Nat) (J : Ip), n = P - x → x ≤ P → MFr κ m I J → GW Γ mX6_who X 46 [(6, .int (nI x)), (4, .int (nI (whoF (lkF (I (κ.2.1 m 0))) (fun a b => brF (I (κ.2.1 m 0)) (I (κ.2.1 m 2)) T a b c ((I (κ.2.1 m 2)) 9)) yy (rowsL P x)).1)), (5, .int ((whoF (lkF (I (κ.2.1 m 0))) (fun a b => brF (I (κ.2.1 m 0)) (I (κ.2.1 m 2)) T a b c ((I (κ.2.1 m 2)) 9)) yy (rowsL P x)).2)), (0, .ref (m)), (1, .int (nI c)), (2, .int (yy)), (3, .int (what))] [] κ (J) 0 0 := by
  have hX := hM.std
  have hR := hM.room
  intro n
  induction n using Nat.strongRecOn with
  | ind n ih =>
    intro x J hn hx hf
    obtain ⟨hm, hm0, ⟨k0, n0⟩, ⟨k1, n1⟩, ⟨k2, n2⟩, ⟨k3, n3⟩, ⟨k4, n4⟩, ⟨k6, n6⟩, ⟨k8, n8⟩, ⟨k14, n14⟩, ⟨k15, n15⟩, ⟨k16, n16⟩, d01, d23, d614, d1516⟩ := id hMo
    obtain ⟨hw0, hw1, hP, hT, -⟩ := id hw
    have ew := hf.w hMo
    refine g_iload hX dX6_who_46 rfl ?_
    refine g_aload_n hX dX6_who_48 rfl rfl ?_
    refine g_getR hX dX6_who_49 flX6_7 (by assumption) rfl (by first | assumption | rfl) (by assumption) ?_
    refine g_iconst (v := nI 0) hX dX6_who_52 (by decide) ?_
    refine g_ialdN hX dX6_who_53 (by assumption) (rfl) (by omega) (by first | decide | omega) ?_
    refine g_icmpge 146 hX dX6_who_54 (by decide) (fun c54 => ?_) (fun c54 => ?_)
    · rw [ew, hw0, nI_leI (by omega) (by omega)] at c54
      refine g_iload_n hX dX6_who_146 rfl rfl ?_
      refine g_ifne 155 hX dX6_who_147 (by decide) (fun c147 => ?_) (fun c147 => ?_)
      · refine g_iload hX dX6_who_155 rfl ?_
        refine g_iret hM dX6_who_157 rfl (rfl) ⟨Nat.le_of_ble_eq_true rfl, Nat.le_of_ble_eq_true rfl⟩ ?_
        have e : x = P := by omega
        subst e
        exact q_int (by rw [if_neg c147]) (hq J hf)
      · refine g_iload hX dX6_who_150 rfl ?_
        refine g_goto 157 hX dX6_who_152 (by decide) ?_
        refine g_iret hM dX6_who_157 rfl (rfl) ⟨Nat.le_of_ble_eq_true rfl, Nat.le_of_ble_eq_true rfl⟩ ?_
        have e : x = P := by omega
        subst e
        exact q_int (by rw [if_pos c147]) (hq J hf)
    · rw [ew, hw0, nI_leI (by omega) (by omega)] at c54
      refine g_iconst (v := nI 0) hX dX6_who_57 (by decide) ?_
      refine g_istore (lv' := [(7, .int _), (6, .int _), (4, .int _), (5, .int _), (0, .ref _), (1, .int _), (2, .int _), (3, .int _)]) hX dX6_who_58 (by decide) rfl ?_
      refine g_pick [0, 1, 2, 3, 4, 5, 6, 7] rfl ?_
      have h2 : rowsL P x = rowsL P x ++ rowL x 0 := by rw [rowL, List.append_nil]
      have := lp_X6_who_60 (x := x) (c := c) (yy := yy) (what := what) hM hMo hw hs hc (by omega) (fun J' hf' => ?_) P 0 J (Nat.sub_zero P).symm (Nat.zero_le _) hf
      · rw [← h2] at this; exact this
      refine g_iinc (lv' := [(6, .int _), (7, .int _), (4, .int _), (5, .int _), (0, .ref _), (1, .int _), (2, .int _), (3, .int _)]) hX dX6_who_140 rfl (by first | exact nI_inc _ | rfl) (by decide) rfl ?_
      refine g_goto 46 hX dX6_who_143 (by decide) ?_
      refine g_pick [0, 2, 3, 4, 5, 6, 7] rfl (ih (P - (x + 1)) (by omega) (x + 1) J' rfl (by omega) hf')

set_option maxHeartbeats 4000000 in
set_option maxRecDepth 100000 in
theorem sp_X6_who {Γ : Ga} {d : Nat} {κ : Kp} {I : Ip} {Q : Option Value → Kp → Ip → Prop} {m P T : Nat} {n y x : Int32} (hMo : MoK κ m) (hw : WfT (I (κ.2.1 m 0)) P T) (hs : WfS (I (κ.2.1 m 2)) P T) (hq : ∀ J : Ip, MFr κ m I J → Q (some (.int (whoA (I (κ.2.1 m 0)) (I (κ.2.1 m 2)) P T n y x))) κ J) : Sp Γ (d + 6) mX6_who [.ref (m), .int (n), .int (y), .int (x)] κ I Q := by
  obtain ⟨hm, hm0, ⟨k0, n0⟩, ⟨k1, n1⟩, ⟨k2, n2⟩, ⟨k3, n3⟩, ⟨k4, n4⟩, ⟨k6, n6⟩, ⟨k8, n8⟩, ⟨k14, n14⟩, ⟨k15, n15⟩, ⟨k16, n16⟩, d01, d23, d614, d1516⟩ := id hMo
  obtain ⟨hw0, hw1, hP, hT, -⟩ := id hw
  intro X hM
  have hX := hM.std
  have hR := hM.room
  show GW _ mX6_who X 0 [(0, .ref (m)), (1, .int (n)), (2, .int (y)), (3, .int (x))] [] _ _ 0 0
  refine g_iload_n hX dX6_who_0 rfl rfl ?_
  refine g_i2l hX dX6_who_1 ?_
  refine g_lconst (v := 1) hX dX6_who_2 (by decide) ?_
  refine g_ldc2 hX dX6_who_3 kX6_181 ?_
  refine g_callS (md' := mX6_in) (As := [.long _, .long _, .long _]) hX hR dX6_who_6 clX6_73 okX6_in rfl rfl (Nat.le_of_ble_eq_true rfl) (Nat.le_of_ble_eq_true rfl) ⟨Nat.le_of_ble_eq_true rfl, Nat.le_of_ble_eq_true rfl⟩ ?_
  refine sp_X6_inR 1 60 rfl rfl ?_
  change GW _ _ _ 9 _ [.int _] _ _ 0 0
  refine g_ifeq 34 hX dX6_who_9 (by decide) (fun c9 => ?_) (fun c9 => ?_)
  · first | (rw [b2i_n0, decide_eq_true_eq] at c9) | (rw [b2i_0, decide_eq_false_iff_not] at c9)
    refine g_iconst (v := (-1)) hX dX6_who_34 (by decide) ?_
    refine g_iret hM dX6_who_35 rfl (rfl) ⟨Nat.le_of_ble_eq_true rfl, Nat.le_of_ble_eq_true rfl⟩ ?_
    refine q_int ?_ (hq I MFr.rf)
    rw [whoA, if_neg (fun e => c9 e.1)]
  · first | (rw [b2i_n0, decide_eq_true_eq] at c9) | (rw [b2i_0, decide_eq_false_iff_not] at c9)
    refine g_iload_n hX dX6_who_12 rfl rfl ?_
    refine g_i2l hX dX6_who_13 ?_
    refine g_lconst (v := 0) hX dX6_who_14 (by decide) ?_
    refine g_ldc2 hX dX6_who_15 kX6_190 ?_
    refine g_callS (md' := mX6_in) (As := [.long _, .long _, .long _]) hX hR dX6_who_18 clX6_73 okX6_in rfl rfl (Nat.le_of_ble_eq_true rfl) (Nat.le_of_ble_eq_true rfl) ⟨Nat.le_of_ble_eq_true rfl, Nat.le_of_ble_eq_true rfl⟩ ?_
    refine sp_X6_inR 0 999 rfl rfl ?_
    change GW _ _ _ 21 _ [.int _] _ _ 0 0
    refine g_ifeq 34 hX dX6_who_21 (by decide) (fun c21 => ?_) (fun c21 => ?_)
    · first | (rw [b2i_n0, decide_eq_true_eq] at c21) | (rw [b2i_0, decide_eq_false_iff_not] at c21)
      refine g_iconst (v := (-1)) hX dX6_who_34 (by decide) ?_
      refine g_iret hM dX6_who_35 rfl (rfl) ⟨Nat.le_of_ble_eq_true rfl, Nat.le_of_ble_eq_true rfl⟩ ?_
      refine q_int ?_ (hq I MFr.rf)
      rw [whoA, if_neg (fun e => c21 e.2.1)]
    · first | (rw [b2i_n0, decide_eq_true_eq] at c21) | (rw [b2i_0, decide_eq_false_iff_not] at c21)
      refine g_iload_n hX dX6_who_24 rfl rfl ?_
      refine g_i2l hX dX6_who_25 ?_
      refine g_lconst (v := 0) hX dX6_who_26 (by decide) ?_
      refine g_lconst (v := 1) hX dX6_who_27 (by decide) ?_
      refine g_callS (md' := mX6_in) (As := [.long _, .long _, .long _]) hX hR dX6_who_28 clX6_73 okX6_in rfl rfl (Nat.le_of_ble_eq_true rfl) (Nat.le_of_ble_eq_true rfl) ⟨Nat.le_of_ble_eq_true rfl, Nat.le_of_ble_eq_true rfl⟩ ?_
      refine sp_X6_inR 0 1 rfl rfl ?_
      change GW _ _ _ 31 _ [.int _] _ _ 0 0
      refine g_ifne 36 hX dX6_who_31 (by decide) (fun c31 => ?_) (fun c31 => ?_)
      · rw [b2i_n0, decide_eq_true_eq] at c31
        obtain ⟨j, hj1, hj2, rfl⟩ := inR_of c9
        refine g_iconst (v := nI 0) hX dX6_who_36 (by decide) ?_
        refine g_istore (lv' := [(4, .int _), (0, .ref _), (1, .int _), (2, .int _), (3, .int _)]) hX dX6_who_37 (by decide) rfl ?_
        refine g_bipush (v := (-4)) hX dX6_who_39 (by decide) ?_
        refine g_istore (lv' := [(5, .int _), (4, .int _), (0, .ref _), (1, .int _), (2, .int _), (3, .int _)]) hX dX6_who_41 (by decide) rfl ?_
        refine g_iconst (v := nI 0) hX dX6_who_43 (by decide) ?_
        refine g_istore (lv' := [(6, .int _), (5, .int _), (4, .int _), (0, .ref _), (1, .int _), (2, .int _), (3, .int _)]) hX dX6_who_44 (by decide) rfl ?_
        refine g_pick [0, 2, 1, 3, 4, 5, 6] rfl (lp_X6_who_46 hM hMo hw hs (by omega) (fun J hf => ?_) P 0 I (Nat.sub_zero P).symm (Nat.zero_le _) MFr.rf)
        refine q_int ?_ (hq J hf)
        rw [whoA, if_pos ⟨c9, c21, c31⟩, nI_clamp (by omega)]
      · rw [b2i_0, decide_eq_false_iff_not] at c31
        refine g_iconst (v := (-1)) hX dX6_who_34 (by decide) ?_
        refine g_iret hM dX6_who_35 rfl (rfl) ⟨Nat.le_of_ble_eq_true rfl, Nat.le_of_ble_eq_true rfl⟩ ?_
        refine q_int ?_ (hq I MFr.rf)
        rw [whoA, if_neg (fun e => c31 e.2.2)]
