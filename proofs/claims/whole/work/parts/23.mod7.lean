set_option maxHeartbeats 4000000 in
set_option maxRecDepth 100000 in
theorem lp_X6_finds_27 {Γ : Ga} {d : Nat} {κ : Kp} {Q : Option Value → Kp → Ip → Prop} {X : Cx} {I : Ip} {m c P T : Nat} {hh : Int32} {x : Nat} (hM : Mx Γ (d + 6) mX6_finds Q X) (hMo : MoK κ m) (hw : WfT (I (κ.2.1 m 0)) P T) (hs : WfS (I (κ.2.1 m 2)) P T) (hc : c < 1000) (hh9 : ∀ i, bt hh i = true → i < T) (hx : x < P) (hout : ∀ J : Ip, MFr κ m I J → J m 12 = (fndF (lkF (I (κ.2.1 m 0))) (fun x y => brF (I (κ.2.1 m 0)) (I (κ.2.1 m 2)) T x y c hh) (rowsL P x ++ rowL x P)).1 → J m 13 = (fndF (lkF (I (κ.2.1 m 0))) (fun x y => brF (I (κ.2.1 m 0)) (I (κ.2.1 m 2)) T x y c hh) (rowsL P x ++ rowL x P)).2 → GW Γ mX6_finds X 129 [(4, .int (nI P)), (3, .int (nI x)), (0, .ref m), (1, .int (nI c)), (2, .int hh)] [] κ J 0 0) : ∀ (n : Nat) (y : Nat) (J : Ip), n = P - y → y ≤ P → MFr κ m I J → J m 12 = (fndF (lkF (I (κ.2.1 m 0))) (fun x y => brF (I (κ.2.1 m 0)) (I (κ.2.1 m 2)) T x y c hh) (rowsL P x ++ rowL x y)).1 → J m 13 = (fndF (lkF (I (κ.2.1 m 0))) (fun x y => brF (I (κ.2.1 m 0)) (I (κ.2.1 m 2)) T x y c hh) (rowsL P x ++ rowL x y)).2 → GW Γ mX6_finds X 27 [(4, .int (nI y)), (3, .int (nI x)), (0, .ref (m)), (1, .int (nI c)), (2, .int (hh))] [] κ (J) 0 0 := by
  have hX := hM.std
  have hR := hM.room
  intro n
  induction n using Nat.strongRecOn with
  | ind n ih =>
    intro y J hn hy hf g12 g13
    obtain ⟨hm, hm0, ⟨k0, n0⟩, ⟨k1, n1⟩, ⟨k2, n2⟩, ⟨k3, n3⟩, ⟨k4, n4⟩, ⟨k6, n6⟩, ⟨k8, n8⟩, ⟨k14, n14⟩, ⟨k15, n15⟩, ⟨k16, n16⟩, d01, d23, d614, d1516⟩ := id hMo
    obtain ⟨hw0, hw1, hP, hT, -⟩ := id hw
    have ew := hf.w hMo
    have es := hf.s hMo
    have h1 : rowsL P x ++ rowL x (y + 1) = (rowsL P x ++ rowL x y) ++ [(x, y)] := by rw [rowL, List.append_assoc]
    have hbr : y < P → x ≠ y → brF (J (κ.2.1 m 0)) (J (κ.2.1 m 2)) T x y c hh = brF (I (κ.2.1 m 0)) (I (κ.2.1 m 2)) T x y c hh := fun _ _ => by rw [ew, es]
    refine g_iload hX dX6_finds_27 rfl ?_
    refine g_aload_n hX dX6_finds_29 rfl rfl ?_
    refine g_getR hX dX6_finds_30 flX6_7 (by assumption) rfl (by first | assumption | rfl) (by assumption) ?_
    refine g_iconst (v := nI 0) hX dX6_finds_33 (by decide) ?_
    refine g_ialdN hX dX6_finds_34 (by assumption) (rfl) (by omega) (by first | decide | omega) ?_
    try simp (disch := decide) only [up_same, up_up, up_neD]
    refine g_icmpge 129 hX dX6_finds_35 (by decide) (fun c35 => ?_) (fun c35 => ?_)
    · rw [ew, hw0, nI_leI (by omega) (by omega)] at c35
      have e : y = P := by omega
      subst e
      exact hout J hf g12 g13
    · rw [ew, hw0, nI_leI (by omega) (by omega)] at c35
      refine g_iload_n hX dX6_finds_38 rfl rfl ?_
      refine g_iload hX dX6_finds_39 rfl ?_
      refine g_icmpeq 123 hX dX6_finds_41 (by decide) (fun c41 => ?_) (fun c41 => ?_)
      · rw [nI_eq (by omega) (by omega)] at c41
        refine g_iinc (lv' := [(4, .int _), (3, .int _), (0, .ref _), (1, .int _), (2, .int _)]) hX dX6_finds_123 rfl (by first | exact nI_inc _ | rfl) (by decide) rfl ?_
        refine g_goto 27 hX dX6_finds_126 (by decide) ?_
        refine g_pick [0, 1, 2, 3, 4] rfl ?_
        refine ih (P - (y + 1)) (by omega) (y + 1) J rfl (by omega) hf ?_ ?_
        · rw [h1, fndF_app, fndS, if_neg (by subst c41; exact fun e => (hw.2.2.2.2.2.1 x hx x e).2 rfl)]; exact g12
        · rw [h1, fndF_app, fndS, if_neg (by subst c41; exact fun e => (hw.2.2.2.2.2.1 x hx x e).2 rfl)]; exact g13
      · rw [nI_eq (by omega) (by omega)] at c41
        refine g_aload_n hX dX6_finds_44 rfl rfl ?_
        refine g_iload_n hX dX6_finds_45 rfl rfl ?_
        refine g_iload hX dX6_finds_46 rfl ?_
        refine g_callV (md' := mX6_likes) (ci := 6) (As := [.int _, .int _]) hX hR dX6_finds_48 clX6_168 okX6_likes rfl (by assumption) rfl rfl (Nat.le_of_ble_eq_true rfl) (Nat.le_of_ble_eq_true rfl) ⟨Nat.le_of_ble_eq_true rfl, Nat.le_of_ble_eq_true rfl⟩ ?_
        refine sp_X6_likes hMo (by omega) (by omega) ?_
        change GW _ _ _ 51 _ (.int _ :: _) _ _ _ _
        refine g_ifeq 123 hX dX6_finds_51 (by decide) (fun c51 => ?_) (fun c51 => ?_)
        · first | (rw [b2i_n0] at c51) | (rw [b2i_0] at c51)
          refine g_iinc (lv' := [(4, .int _), (3, .int _), (0, .ref _), (1, .int _), (2, .int _)]) hX dX6_finds_123 rfl (by first | exact nI_inc _ | rfl) (by decide) rfl ?_
          refine g_goto 27 hX dX6_finds_126 (by decide) ?_
          refine g_pick [0, 1, 2, 3, 4] rfl ?_
          refine ih (P - (y + 1)) (by omega) (y + 1) J rfl (by omega) hf ?_ ?_
          · rw [h1, fndF_app, fndS, if_neg (by rw [← ew]; simpa [lkF] using c51)]; exact g12
          · rw [h1, fndF_app, fndS, if_neg (by rw [← ew]; simpa [lkF] using c51)]; exact g13
        · first | (rw [b2i_n0] at c51) | (rw [b2i_0] at c51)
          refine g_aload_n hX dX6_finds_54 rfl rfl ?_
          refine g_iload_n hX dX6_finds_55 rfl rfl ?_
          refine g_iload hX dX6_finds_56 rfl ?_
          refine g_iload_n hX dX6_finds_58 rfl rfl ?_
          refine g_iload_n hX dX6_finds_59 rfl rfl ?_
          refine g_callV (md' := mX6_bringsBy) (ci := 6) (As := [.int _, .int _, .int _, .int _]) hX hR dX6_finds_60 clX6_198 okX6_bringsBy rfl (by assumption) rfl rfl (Nat.le_of_ble_eq_true rfl) (Nat.le_of_ble_eq_true rfl) ⟨Nat.le_of_ble_eq_true rfl, Nat.le_of_ble_eq_true rfl⟩ ?_
          refine sp_X6_bringsBy (P := P) (T := T) hMo (by rw [ew]; exact hw) (by rw [es]; exact hs) hc hx (by omega) (by omega) hh9 ?_
          have hf2 := hf.row (f := itF (J (κ.2.1 m 0)) T c (brS (J (κ.2.1 m 2)) x y hh)) (Or.inr (Or.inl rfl)) hMo.m3
          rw [hbr (by omega) (by omega)]
          have f12 : va_up J (κ.2.1 m 3) (itF (J (κ.2.1 m 0)) T c (brS (J (κ.2.1 m 2)) x y hh)) m 12 = _ := (congrFun (up_ne _ _ hMo.m3) 12).trans g12
          have f13 : va_up J (κ.2.1 m 3) (itF (J (κ.2.1 m 0)) T c (brS (J (κ.2.1 m 2)) x y hh)) m 13 = _ := (congrFun (up_ne _ _ hMo.m3) 13).trans g13
          generalize va_up J (κ.2.1 m 3) (itF (J (κ.2.1 m 0)) T c (brS (J (κ.2.1 m 2)) x y hh)) = K at hf2 f12 f13 ⊢
          change GW _ _ _ 63 _ (.int _ :: _) _ _ _ _
          refine g_istore (lv' := [(5, .int _), (4, .int _), (3, .int _), (0, .ref _), (1, .int _), (2, .int _)]) hX dX6_finds_63 (by decide) rfl ?_
          refine g_aload_n hX dX6_finds_65 rfl rfl ?_
          refine g_aload_n hX dX6_finds_66 rfl rfl ?_
          refine g_getI hX dX6_finds_67 flX6_202 (by assumption) rfl ?_
          try simp (disch := decide) only [up_same, up_up, up_neD]
          refine g_bipush (v := (-4)) hX dX6_finds_70 (by decide) ?_
          refine g_icmpeq 84 hX dX6_finds_72 (by decide) (fun c72 => ?_) (fun c72 => ?_)
          · refine g_bipush (v := nI 10) hX dX6_finds_84 (by decide) ?_
            refine g_iload_n hX dX6_finds_86 rfl rfl ?_
            refine g_imul hX dX6_finds_87 ?_
            refine g_iload hX dX6_finds_88 rfl ?_
            refine g_iadd hX dX6_finds_90 ?_
            refine g_goto 98 hX dX6_finds_91 (by decide) ?_
            refine g_putI hX dX6_finds_98 flX6_202 (by assumption) rfl rfl ?_
            try simp (disch := decide) only [up_same, up_up, up_neD]
            refine g_aload_n hX dX6_finds_101 rfl rfl ?_
            refine g_iload hX dX6_finds_102 rfl ?_
            refine g_aload_n hX dX6_finds_104 rfl rfl ?_
            refine g_getI hX dX6_finds_105 flX6_205 (by assumption) rfl ?_
            try simp (disch := decide) only [up_same, up_up, up_neD]
            refine g_icmple 116 hX dX6_finds_108 (by decide) (fun c108 => ?_) (fun c108 => ?_)
            · refine g_aload_n hX dX6_finds_116 rfl rfl ?_
              refine g_getI hX dX6_finds_117 flX6_205 (by assumption) rfl ?_
              try simp (disch := decide) only [up_same, up_up, up_neD]
              refine g_putI hX dX6_finds_120 flX6_205 (by assumption) rfl rfl ?_
              try simp (disch := decide) only [up_same, up_up, up_neD]
              refine g_iinc (lv' := [(4, .int _), (5, .int _), (3, .int _), (0, .ref _), (1, .int _), (2, .int _)]) hX dX6_finds_123 rfl (by first | exact nI_inc _ | rfl) (by decide) rfl ?_
              refine g_goto 27 hX dX6_finds_126 (by decide) ?_
              refine g_pick [0, 2, 3, 4, 5] rfl ?_
              have hlk : lkF (I (κ.2.1 m 0)) x y = true := by rw [← ew]; exact c51
              refine ih (P - (y + 1)) (by omega) (y + 1) _ rfl (by omega) (hf2.fld2 (k := 12) (k' := 13) (by decide) (by decide)) ?_ ?_
              · rw [h1, fndF_app, fndS, if_pos hlk, ← f12, ← f13]
                simp (disch := decide) only [up_same, up_neD, ← Int32_nle, nI_mul, nI_add]
                simp [c72, c108]
              · rw [h1, fndF_app, fndS, if_pos hlk, ← f12, ← f13]
                simp (disch := decide) only [up_same, up_neD, ← Int32_nle]
                simp [c72, c108]
            · refine g_iload hX dX6_finds_111 rfl ?_
              refine g_goto 120 hX dX6_finds_113 (by decide) ?_
              refine g_putI hX dX6_finds_120 flX6_205 (by assumption) rfl rfl ?_
              try simp (disch := decide) only [up_same, up_up, up_neD]
              refine g_iinc (lv' := [(4, .int _), (5, .int _), (3, .int _), (0, .ref _), (1, .int _), (2, .int _)]) hX dX6_finds_123 rfl (by first | exact nI_inc _ | rfl) (by decide) rfl ?_
              refine g_goto 27 hX dX6_finds_126 (by decide) ?_
              refine g_pick [0, 2, 3, 4, 5] rfl ?_
              have hlk : lkF (I (κ.2.1 m 0)) x y = true := by rw [← ew]; exact c51
              refine ih (P - (y + 1)) (by omega) (y + 1) _ rfl (by omega) (hf2.fld2 (k := 12) (k' := 13) (by decide) (by decide)) ?_ ?_
              · rw [h1, fndF_app, fndS, if_pos hlk, ← f12, ← f13]
                simp (disch := decide) only [up_same, up_neD, ← Int32_nle, nI_mul, nI_add]
                simp [c72, c108]
              · rw [h1, fndF_app, fndS, if_pos hlk, ← f12, ← f13]
                simp (disch := decide) only [up_same, up_neD, ← Int32_nle]
                simp [c72, c108]
          · refine g_iload hX dX6_finds_75 rfl ?_
            refine g_aload_n hX dX6_finds_77 rfl rfl ?_
            refine g_getI hX dX6_finds_78 flX6_205 (by assumption) rfl ?_
            try simp (disch := decide) only [up_same, up_up, up_neD]
            refine g_icmple 94 hX dX6_finds_81 (by decide) (fun c81 => ?_) (fun c81 => ?_)
            · refine g_aload_n hX dX6_finds_94 rfl rfl ?_
              refine g_getI hX dX6_finds_95 flX6_202 (by assumption) rfl ?_
              try simp (disch := decide) only [up_same, up_up, up_neD]
              refine g_putI hX dX6_finds_98 flX6_202 (by assumption) rfl rfl ?_
              try simp (disch := decide) only [up_same, up_up, up_neD]
              refine g_aload_n hX dX6_finds_101 rfl rfl ?_
              refine g_iload hX dX6_finds_102 rfl ?_
              refine g_aload_n hX dX6_finds_104 rfl rfl ?_
              refine g_getI hX dX6_finds_105 flX6_205 (by assumption) rfl ?_
              try simp (disch := decide) only [up_same, up_up, up_neD]
              refine g_icmple 116 hX dX6_finds_108 (by decide) (fun c108 => ?_) (fun c108 => ?_)
              · refine g_aload_n hX dX6_finds_116 rfl rfl ?_
                refine g_getI hX dX6_finds_117 flX6_205 (by assumption) rfl ?_
                try simp (disch := decide) only [up_same, up_up, up_neD]
                refine g_putI hX dX6_finds_120 flX6_205 (by assumption) rfl rfl ?_
                try simp (disch := decide) only [up_same, up_up, up_neD]
                refine g_iinc (lv' := [(4, .int _), (5, .int _), (3, .int _), (0, .ref _), (1, .int _), (2, .int _)]) hX dX6_finds_123 rfl (by first | exact nI_inc _ | rfl) (by decide) rfl ?_
                refine g_goto 27 hX dX6_finds_126 (by decide) ?_
                refine g_pick [0, 2, 3, 4, 5] rfl ?_
                have hlk : lkF (I (κ.2.1 m 0)) x y = true := by rw [← ew]; exact c51
                refine ih (P - (y + 1)) (by omega) (y + 1) _ rfl (by omega) (hf2.fld2 (k := 12) (k' := 13) (by decide) (by decide)) ?_ ?_
                · rw [h1, fndF_app, fndS, if_pos hlk, ← f12, ← f13]
                  simp (disch := decide) only [up_same, up_neD, ← Int32_nle, nI_mul, nI_add]
                  simp [c72, c81, c108]
                · rw [h1, fndF_app, fndS, if_pos hlk, ← f12, ← f13]
                  simp (disch := decide) only [up_same, up_neD, ← Int32_nle]
                  simp [c72, c81, c108]
              · exact absurd c81 c108
            · refine g_bipush (v := nI 10) hX dX6_finds_84 (by decide) ?_
              refine g_iload_n hX dX6_finds_86 rfl rfl ?_
              refine g_imul hX dX6_finds_87 ?_
              refine g_iload hX dX6_finds_88 rfl ?_
              refine g_iadd hX dX6_finds_90 ?_
              refine g_goto 98 hX dX6_finds_91 (by decide) ?_
              refine g_putI hX dX6_finds_98 flX6_202 (by assumption) rfl rfl ?_
              try simp (disch := decide) only [up_same, up_up, up_neD]
              refine g_aload_n hX dX6_finds_101 rfl rfl ?_
              refine g_iload hX dX6_finds_102 rfl ?_
              refine g_aload_n hX dX6_finds_104 rfl rfl ?_
              refine g_getI hX dX6_finds_105 flX6_205 (by assumption) rfl ?_
              try simp (disch := decide) only [up_same, up_up, up_neD]
              refine g_icmple 116 hX dX6_finds_108 (by decide) (fun c108 => ?_) (fun c108 => ?_)
              · exact absurd c108 c81
              · refine g_iload hX dX6_finds_111 rfl ?_
                refine g_goto 120 hX dX6_finds_113 (by decide) ?_
                refine g_putI hX dX6_finds_120 flX6_205 (by assumption) rfl rfl ?_
                try simp (disch := decide) only [up_same, up_up, up_neD]
                refine g_iinc (lv' := [(4, .int _), (5, .int _), (3, .int _), (0, .ref _), (1, .int _), (2, .int _)]) hX dX6_finds_123 rfl (by first | exact nI_inc _ | rfl) (by decide) rfl ?_
                refine g_goto 27 hX dX6_finds_126 (by decide) ?_
                refine g_pick [0, 2, 3, 4, 5] rfl ?_
                have hlk : lkF (I (κ.2.1 m 0)) x y = true := by rw [← ew]; exact c51
                refine ih (P - (y + 1)) (by omega) (y + 1) _ rfl (by omega) (hf2.fld2 (k := 12) (k' := 13) (by decide) (by decide)) ?_ ?_
                · rw [h1, fndF_app, fndS, if_pos hlk, ← f12, ← f13]
                  simp (disch := decide) only [up_same, up_neD, ← Int32_nle, nI_mul, nI_add]
                  simp [c72, c81, c108]
                · rw [h1, fndF_app, fndS, if_pos hlk, ← f12, ← f13]
                  simp (disch := decide) only [up_same, up_neD, ← Int32_nle]
                  simp [c72, c81, c108]

set_option maxHeartbeats 4000000 in
set_option maxRecDepth 100000 in
theorem lp_X6_finds_14 {Γ : Ga} {d : Nat} {κ : Kp} {Q : Option Value → Kp → Ip → Prop} {X : Cx} {I : Ip} {m c P T : Nat} {hh : Int32} (hM : Mx Γ (d + 6) mX6_finds Q X) (hMo : MoK κ m) (hw : WfT (I (κ.2.1 m 0)) P T) (hs : WfS (I (κ.2.1 m 2)) P T) (hc : c < 1000) (hh9 : ∀ i, bt hh i = true → i < T) (hq : ∀ J : Ip, MFr κ m I J → J m 12 = (fndF (lkF (I (κ.2.1 m 0))) (fun x y => brF (I (κ.2.1 m 0)) (I (κ.2.1 m 2)) T x y c hh) (rowsL P P)).1 → J m 13 = (fndF (lkF (I (κ.2.1 m 0))) (fun x y => brF (I (κ.2.1 m 0)) (I (κ.2.1 m 2)) T x y c hh) (rowsL P P)).2 → Q none κ J) : ∀ (n : Nat) (x : Nat) (J : Ip), n = P - x → x ≤ P → MFr κ m I J → J m 12 = (fndF (lkF (I (κ.2.1 m 0))) (fun x y => brF (I (κ.2.1 m 0)) (I (κ.2.1 m 2)) T x y c hh) (rowsL P x)).1 → J m 13 = (fndF (lkF (I (κ.2.1 m 0))) (fun x y => brF (I (κ.2.1 m 0)) (I (κ.2.1 m 2)) T x y c hh) (rowsL P x)).2 → GW Γ mX6_finds X 14 [(3, .int (nI x)), (0, .ref (m)), (1, .int (nI c)), (2, .int (hh))] [] κ (J) 0 0 := by
  have hX := hM.std
  have hR := hM.room
  intro n
  induction n using Nat.strongRecOn with
  | ind n ih =>
    intro x J hn hx hf g12 g13
    obtain ⟨hm, hm0, ⟨k0, n0⟩, ⟨k1, n1⟩, ⟨k2, n2⟩, ⟨k3, n3⟩, ⟨k4, n4⟩, ⟨k6, n6⟩, ⟨k8, n8⟩, ⟨k14, n14⟩, ⟨k15, n15⟩, ⟨k16, n16⟩, d01, d23, d614, d1516⟩ := id hMo
    obtain ⟨hw0, hw1, hP, hT, -⟩ := id hw
    have ew := hf.w hMo
    refine g_iload_n hX dX6_finds_14 rfl rfl ?_
    refine g_aload_n hX dX6_finds_15 rfl rfl ?_
    refine g_getR hX dX6_finds_16 flX6_7 (by assumption) rfl (by first | assumption | rfl) (by assumption) ?_
    refine g_iconst (v := nI 0) hX dX6_finds_19 (by decide) ?_
    refine g_ialdN hX dX6_finds_20 (by assumption) (rfl) (by omega) (by first | decide | omega) ?_
    refine g_icmpge 135 hX dX6_finds_21 (by decide) (fun c21 => ?_) (fun c21 => ?_)
    · rw [ew, hw0, nI_leI (by omega) (by omega)] at c21
      refine g_vret hM dX6_finds_135 rfl ⟨Nat.le_of_ble_eq_true rfl, Nat.le_of_ble_eq_true rfl⟩ ?_
      have e : x = P := by omega
      subst e
      exact hq J hf g12 g13
    · rw [ew, hw0, nI_leI (by omega) (by omega)] at c21
      refine g_iconst (v := nI 0) hX dX6_finds_24 (by decide) ?_
      refine g_istore (lv' := [(4, .int _), (3, .int _), (0, .ref _), (1, .int _), (2, .int _)]) hX dX6_finds_25 (by decide) rfl ?_
      refine g_pick [0, 1, 2, 3, 4] rfl (lp_X6_finds_27 (x := x) hM hMo hw hs hc hh9 (by omega) (fun J' hf' g12' g13' => ?_) P 0 J (Nat.sub_zero P).symm (Nat.zero_le _) hf (by rw [rowL, List.append_nil]; exact g12) (by rw [rowL, List.append_nil]; exact g13))
      refine g_iinc (lv' := [(3, .int _), (4, .int _), (0, .ref _), (1, .int _), (2, .int _)]) hX dX6_finds_129 rfl (by first | exact nI_inc _ | rfl) (by decide) rfl ?_
      refine g_goto 14 hX dX6_finds_132 (by decide) ?_
      refine g_pick [0, 2, 3, 4] rfl (ih (P - (x + 1)) (by omega) (x + 1) J' rfl (by omega) hf' ?_ ?_)
      · rw [rowsL]; exact g12'
      · rw [rowsL]; exact g13'

set_option maxHeartbeats 4000000 in
set_option maxRecDepth 100000 in
theorem sp_X6_finds {Γ : Ga} {d : Nat} {κ : Kp} {I : Ip} {Q : Option Value → Kp → Ip → Prop} {m c P T : Nat} {hh : Int32} (hMo : MoK κ m) (hw : WfT (I (κ.2.1 m 0)) P T) (hs : WfS (I (κ.2.1 m 2)) P T) (hc : c < 1000) (hh9 : ∀ i, bt hh i = true → i < T) (hq : ∀ J : Ip, MFr κ m I J → J m 12 = (fndF (lkF (I (κ.2.1 m 0))) (fun x y => brF (I (κ.2.1 m 0)) (I (κ.2.1 m 2)) T x y c hh) (rowsL P P)).1 → J m 13 = (fndF (lkF (I (κ.2.1 m 0))) (fun x y => brF (I (κ.2.1 m 0)) (I (κ.2.1 m 2)) T x y c hh) (rowsL P P)).2 → Q none κ J) : Sp Γ (d + 6) mX6_finds [.ref (m), .int (nI c), .int (hh)] κ I Q := by
  obtain ⟨hm, hm0, ⟨k0, n0⟩, ⟨k1, n1⟩, ⟨k2, n2⟩, ⟨k3, n3⟩, ⟨k4, n4⟩, ⟨k6, n6⟩, ⟨k8, n8⟩, ⟨k14, n14⟩, ⟨k15, n15⟩, ⟨k16, n16⟩, d01, d23, d614, d1516⟩ := id hMo
  intro X hM
  have hX := hM.std
  have hR := hM.room
  show GW _ mX6_finds X 0 [(0, .ref (m)), (1, .int (nI c)), (2, .int (hh))] [] _ _ 0 0
  refine g_aload_n hX dX6_finds_0 rfl rfl ?_
  refine g_bipush (v := (-4)) hX dX6_finds_1 (by decide) ?_
  refine g_putI hX dX6_finds_3 flX6_202 (by assumption) rfl rfl ?_
  try simp (disch := decide) only [up_same, up_up, up_neD]
  refine g_aload_n hX dX6_finds_6 rfl rfl ?_
  refine g_bipush (v := (-4)) hX dX6_finds_7 (by decide) ?_
  refine g_putI hX dX6_finds_9 flX6_205 (by assumption) rfl rfl ?_
  try simp (disch := decide) only [up_same, up_up, up_neD]
  refine g_iconst (v := nI 0) hX dX6_finds_12 (by decide) ?_
  refine g_istore_n (lv' := [(3, .int _), (0, .ref _), (1, .int _), (2, .int _)]) hX dX6_finds_13 rfl (by decide) rfl ?_
  refine g_pick [0, 1, 2, 3] rfl (lp_X6_finds_14 hM hMo hw hs hc hh9 hq P 0 _ (Nat.sub_zero P).symm (Nat.zero_le _) (MFr.rf.fld2 (k := 12) (k' := 13) (by decide) (by decide)) ?_ ?_)
  · simp (disch := decide) only [up_same, up_neD]; rfl
  · simp (disch := decide) only [up_same, up_neD]; rfl
