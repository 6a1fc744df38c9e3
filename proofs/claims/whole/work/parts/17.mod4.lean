set_option maxHeartbeats 4000000 in
set_option maxRecDepth 100000 in
theorem sp_X6_isTold {Γ : Ga} {d : Nat} {κ : Kp} {I : Ip} {Q : Option Value → Kp → Ip → Prop} {m x c o T : Nat} (hMo : MoK κ m) (hx : κ.1 x = (8, 18)) (hw1 : I (κ.2.1 m 0) 1 = nI T) (hT : T ≤ 9) (h12 : I x 12 = nI c) (hoc : otherF (I x) (nI c) = nI o) (hco : otherF (I x) (nI o) = nI c) (hc : c < 6) (ho : o < 6) (hq : Q (some (.int (b2i (decide (¬ begF (I (κ.2.1 m 0)) (I x) T c o 13 = -4))))) κ (va_up I x (begF (I (κ.2.1 m 0)) (I x) T c o))) : Sp Γ (d + 3) mX6_isTold [.ref (m), .ref (x)] κ I Q := by
  obtain ⟨hm, hm0, ⟨k0, n0⟩, ⟨k1, n1⟩, ⟨k2, n2⟩, ⟨k3, n3⟩, ⟨k4, n4⟩, ⟨k6, n6⟩, ⟨k8, n8⟩, ⟨k14, n14⟩, ⟨k15, n15⟩, ⟨k16, n16⟩, d01, d23, d614, d1516⟩ := id hMo
  have hxt : κ.2.1 m 0 ≠ x := kd_ne k0 hx (by decide)
  intro X hM
  have hX := hM.std
  have hR := hM.room
  show GW _ mX6_isTold X 0 [(0, .ref (m)), (1, .ref (x))] [] _ _ 0 0
  refine g_iconst (v := nI 0) hX dX6_isTold_0 (by decide) ?_
  refine g_istore_n (lv' := [(2, .int _), (0, .ref _), (1, .ref _)]) hX dX6_isTold_1 rfl (by decide) rfl ?_
  refine g_iload_n hX dX6_isTold_2 rfl rfl ?_
  refine g_iconst (v := nI 2) hX dX6_isTold_3 (by decide) ?_
  refine g_icmpge 94 hX dX6_isTold_4 (by decide) (fun c4 => ?_) (fun c4 => ?_)
  · exact absurd c4 (by decide)
  · refine g_aload_n hX dX6_isTold_7 rfl rfl ?_
    refine g_bipush (v := nI 13) hX dX6_isTold_8 (by decide) ?_
    refine g_ialdN hX dX6_isTold_10 (by assumption) (rfl) (by omega) (by first | decide | omega) ?_
    try simp (disch := decide) only [up_same, up_up, up_neD, up_ne _ _ hxt]
    refine g_bipush (v := (-4)) hX dX6_isTold_11 (by decide) ?_
    refine g_icmpne 94 hX dX6_isTold_13 (by decide) (fun c13 => ?_) (fun c13 => ?_)
    · refine g_aload_n hX dX6_isTold_94 rfl rfl ?_
      refine g_bipush (v := nI 13) hX dX6_isTold_95 (by decide) ?_
      refine g_ialdN hX dX6_isTold_97 (by assumption) (rfl) (by omega) (by first | decide | omega) ?_
      try simp (disch := decide) only [up_same, up_up, up_neD, up_ne _ _ hxt]
      refine g_bipush (v := (-4)) hX dX6_isTold_98 (by decide) ?_
      refine g_icmpeq 107 hX dX6_isTold_100 (by decide) (fun c100 => ?_) (fun c100 => ?_)
      · refine g_iconst (v := nI 0) hX dX6_isTold_107 (by decide) ?_
        refine g_iret hM dX6_isTold_108 rfl (rfl) ⟨Nat.le_of_ble_eq_true rfl, Nat.le_of_ble_eq_true rfl⟩ ?_
        exact absurd c100 c13
      · refine g_iconst (v := nI 1) hX dX6_isTold_103 (by decide) ?_
        refine g_goto 108 hX dX6_isTold_104 (by decide) ?_
        refine g_iret hM dX6_isTold_108 rfl (rfl) ⟨Nat.le_of_ble_eq_true rfl, Nat.le_of_ble_eq_true rfl⟩ ?_
        rw [begF, if_neg c13, up_self] at hq
        exact q_t (by simp [*]) hq
    · refine g_iload_n hX dX6_isTold_16 rfl rfl ?_
      refine g_ifne 27 hX dX6_isTold_17 (by decide) (fun c17 => ?_) (fun c17 => ?_)
      · exact absurd (by decide) c17
      · refine g_aload_n hX dX6_isTold_20 rfl rfl ?_
        refine g_bipush (v := nI 12) hX dX6_isTold_21 (by decide) ?_
        refine g_ialdN hX dX6_isTold_23 (by assumption) (rfl) (by omega) (by first | decide | omega) ?_
        try simp (disch := decide) only [up_same, up_up, up_neD, up_ne _ _ hxt]
        rw [h12]
        refine g_goto 35 hX dX6_isTold_24 (by decide) ?_
        refine g_istore_n (lv' := [(3, .int _), (2, .int _), (0, .ref _), (1, .ref _)]) hX dX6_isTold_35 rfl (by decide) rfl ?_
        refine g_aload_n hX dX6_isTold_36 rfl rfl ?_
        refine g_aload_n hX dX6_isTold_37 rfl rfl ?_
        refine g_iload_n hX dX6_isTold_38 rfl rfl ?_
        refine g_aload_n hX dX6_isTold_39 rfl rfl ?_
        refine g_iload_n hX dX6_isTold_40 rfl rfl ?_
        refine g_callS (md' := mX6_otherOf) (As := [.ref _, .int _]) hX hR dX6_isTold_41 clX6_146 okX6_otherOf rfl rfl (Nat.le_of_ble_eq_true rfl) (Nat.le_of_ble_eq_true rfl) ⟨Nat.le_of_ble_eq_true rfl, Nat.le_of_ble_eq_true rfl⟩ ?_
        refine sp_X6_otherOf hx ?_
        change GW _ _ _ 44 _ (.int _ :: _) _ _ _ _
        first | rw [hoc] | rw [hco]
        refine g_aload_n hX dX6_isTold_44 rfl rfl ?_
        refine g_bipush (v := nI 15) hX dX6_isTold_45 (by decide) ?_
        refine g_ialdN hX dX6_isTold_47 (by assumption) (rfl) (by omega) (by first | decide | omega) ?_
        try simp (disch := decide) only [up_same, up_up, up_neD, up_ne _ _ hxt]
        refine g_callV (md' := mX6_tellable) (ci := 6) (As := [.ref _, .int _, .int _, .int _]) hX hR dX6_isTold_48 clX6_150 okX6_tellable rfl (by assumption) rfl rfl (Nat.le_of_ble_eq_true rfl) (Nat.le_of_ble_eq_true rfl) ⟨Nat.le_of_ble_eq_true rfl, Nat.le_of_ble_eq_true rfl⟩ ?_
        refine sp_X6_tellable hMo hx hw1 hT (by omega) ?_
        change GW _ _ _ 51 _ (.int _ :: _) _ _ _ _
        refine g_istore (lv' := [(4, .int _), (3, .int _), (2, .int _), (0, .ref _), (1, .ref _)]) hX dX6_isTold_51 (by decide) rfl ?_
        refine g_iload hX dX6_isTold_53 rfl ?_
        refine g_ifeq 88 hX dX6_isTold_55 (by decide) (fun c55 => ?_) (fun c55 => ?_)
        · refine g_iinc (lv' := [(2, .int _), (4, .int _), (3, .int _), (0, .ref _), (1, .ref _)]) hX dX6_isTold_88 rfl (by first | exact nI_inc _ | rfl) (by decide) rfl ?_
          refine g_goto 2 hX dX6_isTold_91 (by decide) ?_
          refine g_iload_n hX dX6_isTold_2 rfl rfl ?_
          refine g_iconst (v := nI 2) hX dX6_isTold_3 (by decide) ?_
          refine g_icmpge 94 hX dX6_isTold_4 (by decide) (fun c4_1 => ?_) (fun c4_1 => ?_)
          · exact absurd c4_1 (by decide)
          · refine g_aload_n hX dX6_isTold_7 rfl rfl ?_
            refine g_bipush (v := nI 13) hX dX6_isTold_8 (by decide) ?_
            refine g_ialdN hX dX6_isTold_10 (by assumption) (rfl) (by omega) (by first | decide | omega) ?_
            try simp (disch := decide) only [up_same, up_up, up_neD, up_ne _ _ hxt]
            refine g_bipush (v := (-4)) hX dX6_isTold_11 (by decide) ?_
            refine g_icmpne 94 hX dX6_isTold_13 (by decide) (fun c13_1 => ?_) (fun c13_1 => ?_)
            · exact absurd c13 c13_1
            · refine g_iload_n hX dX6_isTold_16 rfl rfl ?_
              refine g_ifne 27 hX dX6_isTold_17 (by decide) (fun c17_1 => ?_) (fun c17_1 => ?_)
              · refine g_aload_n hX dX6_isTold_27 rfl rfl ?_
                refine g_aload_n hX dX6_isTold_28 rfl rfl ?_
                refine g_bipush (v := nI 12) hX dX6_isTold_29 (by decide) ?_
                refine g_ialdN hX dX6_isTold_31 (by assumption) (rfl) (by omega) (by first | decide | omega) ?_
                try simp (disch := decide) only [up_same, up_up, up_neD, up_ne _ _ hxt]
                refine g_callS (md' := mX6_otherOf) (As := [.ref _, .int _]) hX hR dX6_isTold_32 clX6_146 okX6_otherOf rfl rfl (Nat.le_of_ble_eq_true rfl) (Nat.le_of_ble_eq_true rfl) ⟨Nat.le_of_ble_eq_true rfl, Nat.le_of_ble_eq_true rfl⟩ ?_
                refine sp_X6_otherOf hx ?_
                change GW _ _ _ 35 _ (.int _ :: _) _ _ _ _
                rw [h12, hoc]
                refine g_istore_n (lv' := [(3, .int _), (2, .int _), (4, .int _), (0, .ref _), (1, .ref _)]) hX dX6_isTold_35 rfl (by decide) rfl ?_
                refine g_aload_n hX dX6_isTold_36 rfl rfl ?_
                refine g_aload_n hX dX6_isTold_37 rfl rfl ?_
                refine g_iload_n hX dX6_isTold_38 rfl rfl ?_
                refine g_aload_n hX dX6_isTold_39 rfl rfl ?_
                refine g_iload_n hX dX6_isTold_40 rfl rfl ?_
                refine g_callS (md' := mX6_otherOf) (As := [.ref _, .int _]) hX hR dX6_isTold_41 clX6_146 okX6_otherOf rfl rfl (Nat.le_of_ble_eq_true rfl) (Nat.le_of_ble_eq_true rfl) ⟨Nat.le_of_ble_eq_true rfl, Nat.le_of_ble_eq_true rfl⟩ ?_
                refine sp_X6_otherOf hx ?_
                change GW _ _ _ 44 _ (.int _ :: _) _ _ _ _
                first | rw [hoc] | rw [hco]
                refine g_aload_n hX dX6_isTold_44 rfl rfl ?_
                refine g_bipush (v := nI 15) hX dX6_isTold_45 (by decide) ?_
                refine g_ialdN hX dX6_isTold_47 (by assumption) (rfl) (by omega) (by first | decide | omega) ?_
                try simp (disch := decide) only [up_same, up_up, up_neD, up_ne _ _ hxt]
                refine g_callV (md' := mX6_tellable) (ci := 6) (As := [.ref _, .int _, .int _, .int _]) hX hR dX6_isTold_48 clX6_150 okX6_tellable rfl (by assumption) rfl rfl (Nat.le_of_ble_eq_true rfl) (Nat.le_of_ble_eq_true rfl) ⟨Nat.le_of_ble_eq_true rfl, Nat.le_of_ble_eq_true rfl⟩ ?_
                refine sp_X6_tellable hMo hx hw1 hT (by omega) ?_
                change GW _ _ _ 51 _ (.int _ :: _) _ _ _ _
                refine g_istore (lv' := [(4, .int _), (3, .int _), (2, .int _), (0, .ref _), (1, .ref _)]) hX dX6_isTold_51 (by decide) rfl ?_
                refine g_iload hX dX6_isTold_53 rfl ?_
                refine g_ifeq 88 hX dX6_isTold_55 (by decide) (fun c55_1 => ?_) (fun c55_1 => ?_)
                · refine g_iinc (lv' := [(2, .int _), (4, .int _), (3, .int _), (0, .ref _), (1, .ref _)]) hX dX6_isTold_88 rfl (by first | exact nI_inc _ | rfl) (by decide) rfl ?_
                  refine g_goto 2 hX dX6_isTold_91 (by decide) ?_
                  refine g_iload_n hX dX6_isTold_2 rfl rfl ?_
                  refine g_iconst (v := nI 2) hX dX6_isTold_3 (by decide) ?_
                  refine g_icmpge 94 hX dX6_isTold_4 (by decide) (fun c4_2 => ?_) (fun c4_2 => ?_)
                  · refine g_aload_n hX dX6_isTold_94 rfl rfl ?_
                    refine g_bipush (v := nI 13) hX dX6_isTold_95 (by decide) ?_
                    refine g_ialdN hX dX6_isTold_97 (by assumption) (rfl) (by omega) (by first | decide | omega) ?_
                    try simp (disch := decide) only [up_same, up_up, up_neD, up_ne _ _ hxt]
                    refine g_bipush (v := (-4)) hX dX6_isTold_98 (by decide) ?_
                    refine g_icmpeq 107 hX dX6_isTold_100 (by decide) (fun c100 => ?_) (fun c100 => ?_)
                    · refine g_iconst (v := nI 0) hX dX6_isTold_107 (by decide) ?_
                      refine g_iret hM dX6_isTold_108 rfl (rfl) ⟨Nat.le_of_ble_eq_true rfl, Nat.le_of_ble_eq_true rfl⟩ ?_
                      rw [begF, if_pos c13, if_pos c55, if_pos c55_1, up_self] at hq
                      exact q_f (by simp [*]) hq
                    · refine g_iconst (v := nI 1) hX dX6_isTold_103 (by decide) ?_
                      refine g_goto 108 hX dX6_isTold_104 (by decide) ?_
                      refine g_iret hM dX6_isTold_108 rfl (rfl) ⟨Nat.le_of_ble_eq_true rfl, Nat.le_of_ble_eq_true rfl⟩ ?_
                      exact absurd c13 c100
                  · exact absurd (by decide) c4_2
                · refine g_aload_n hX dX6_isTold_58 rfl rfl ?_
                  refine g_bipush (v := nI 12) hX dX6_isTold_59 (by decide) ?_
                  refine g_iload_n hX dX6_isTold_61 rfl rfl ?_
                  refine g_iastN hX dX6_isTold_62 (by assumption) (rfl) (by omega) (by first | decide | omega) ?_
                  try simp (disch := decide) only [up_same, up_up, up_neD, up_ne _ _ hxt]
                  refine g_aload_n hX dX6_isTold_63 rfl rfl ?_
                  refine g_bipush (v := nI 13) hX dX6_isTold_64 (by decide) ?_
                  refine g_iload hX dX6_isTold_66 rfl ?_
                  refine g_callS (md' := mX6_lowest) (As := [.int _]) hX hR dX6_isTold_68 clX6_154 okX6_lowest rfl rfl (Nat.le_of_ble_eq_true rfl) (Nat.le_of_ble_eq_true rfl) ⟨Nat.le_of_ble_eq_true rfl, Nat.le_of_ble_eq_true rfl⟩ ?_
                  refine sp_X6_lowest (by assumption) ?_
                  change GW _ _ _ 71 _ (.int _ :: _) _ _ _ _
                  refine g_iastN hX dX6_isTold_71 (by assumption) (rfl) (by omega) (by first | decide | omega) ?_
                  try simp (disch := decide) only [up_same, up_up, up_neD, up_ne _ _ hxt]
                  refine g_aload_n hX dX6_isTold_72 rfl rfl ?_
                  refine g_bipush (v := nI 14) hX dX6_isTold_73 (by decide) ?_
                  refine g_aload_n hX dX6_isTold_75 rfl rfl ?_
                  refine g_getR hX dX6_isTold_76 flX6_7 (by assumption) rfl (by first | assumption | rfl) (by assumption) ?_
                  refine g_bipush (v := nI 32) hX dX6_isTold_79 (by decide) ?_
                  refine g_aload_n hX dX6_isTold_81 rfl rfl ?_
                  refine g_bipush (v := nI 13) hX dX6_isTold_82 (by decide) ?_
                  refine g_ialdN hX dX6_isTold_84 (by assumption) (rfl) (by omega) (by first | decide | omega) ?_
                  try simp (disch := decide) only [up_same, up_up, up_neD, up_ne _ _ hxt]
                  refine g_iadd hX dX6_isTold_85 ?_
                  refine g_ialdN hX dX6_isTold_86 (by assumption) (nI_add _ _) (by have := (tell_low hT (by assumption : ¬ tellF _ _ _ _ _ _ = 0)).1; omega) (by first | decide | omega) ?_
                  try simp (disch := decide) only [up_same, up_up, up_neD, up_ne _ _ hxt]
                  refine g_iastN hX dX6_isTold_87 (by assumption) (rfl) (by omega) (by first | decide | omega) ?_
                  try simp (disch := decide) only [up_same, up_up, up_neD, up_ne _ _ hxt]
                  refine g_iinc (lv' := [(2, .int _), (4, .int _), (3, .int _), (0, .ref _), (1, .ref _)]) hX dX6_isTold_88 rfl (by first | exact nI_inc _ | rfl) (by decide) rfl ?_
                  refine g_goto 2 hX dX6_isTold_91 (by decide) ?_
                  refine g_iload_n hX dX6_isTold_2 rfl rfl ?_
                  refine g_iconst (v := nI 2) hX dX6_isTold_3 (by decide) ?_
                  refine g_icmpge 94 hX dX6_isTold_4 (by decide) (fun c4_2 => ?_) (fun c4_2 => ?_)
                  · refine g_aload_n hX dX6_isTold_94 rfl rfl ?_
                    refine g_bipush (v := nI 13) hX dX6_isTold_95 (by decide) ?_
                    refine g_ialdN hX dX6_isTold_97 (by assumption) (rfl) (by omega) (by first | decide | omega) ?_
                    try simp (disch := decide) only [up_same, up_up, up_neD, up_ne _ _ hxt]
                    refine g_bipush (v := (-4)) hX dX6_isTold_98 (by decide) ?_
                    refine g_icmpeq 107 hX dX6_isTold_100 (by decide) (fun c100 => ?_) (fun c100 => ?_)
                    · refine g_iconst (v := nI 0) hX dX6_isTold_107 (by decide) ?_
                      refine g_iret hM dX6_isTold_108 rfl (rfl) ⟨Nat.le_of_ble_eq_true rfl, Nat.le_of_ble_eq_true rfl⟩ ?_
                      exact absurd c100 (nI_m4 (by have := (lowN_spec c55_1).1; omega))
                    · refine g_iconst (v := nI 1) hX dX6_isTold_103 (by decide) ?_
                      refine g_goto 108 hX dX6_isTold_104 (by decide) ?_
                      refine g_iret hM dX6_isTold_108 rfl (rfl) ⟨Nat.le_of_ble_eq_true rfl, Nat.le_of_ble_eq_true rfl⟩ ?_
                      rw [begF, if_pos c13, if_pos c55, if_neg c55_1] at hq
                      refine q_t ?_ hq
                      simp (disch := decide) only [up_same, up_neD]
                      simp [c100]
                  · exact absurd (by decide) c4_2
              · exact absurd c17_1 (by decide)
        · refine g_aload_n hX dX6_isTold_58 rfl rfl ?_
          refine g_bipush (v := nI 12) hX dX6_isTold_59 (by decide) ?_
          refine g_iload_n hX dX6_isTold_61 rfl rfl ?_
          refine g_iastN hX dX6_isTold_62 (by assumption) (rfl) (by omega) (by first | decide | omega) ?_
          try simp (disch := decide) only [up_same, up_up, up_neD, up_ne _ _ hxt]
          refine g_aload_n hX dX6_isTold_63 rfl rfl ?_
          refine g_bipush (v := nI 13) hX dX6_isTold_64 (by decide) ?_
          refine g_iload hX dX6_isTold_66 rfl ?_
          refine g_callS (md' := mX6_lowest) (As := [.int _]) hX hR dX6_isTold_68 clX6_154 okX6_lowest rfl rfl (Nat.le_of_ble_eq_true rfl) (Nat.le_of_ble_eq_true rfl) ⟨Nat.le_of_ble_eq_true rfl, Nat.le_of_ble_eq_true rfl⟩ ?_
          refine sp_X6_lowest (by assumption) ?_
          change GW _ _ _ 71 _ (.int _ :: _) _ _ _ _
          refine g_iastN hX dX6_isTold_71 (by assumption) (rfl) (by omega) (by first | decide | omega) ?_
          try simp (disch := decide) only [up_same, up_up, up_neD, up_ne _ _ hxt]
          refine g_aload_n hX dX6_isTold_72 rfl rfl ?_
          refine g_bipush (v := nI 14) hX dX6_isTold_73 (by decide) ?_
          refine g_aload_n hX dX6_isTold_75 rfl rfl ?_
          refine g_getR hX dX6_isTold_76 flX6_7 (by assumption) rfl (by first | assumption | rfl) (by assumption) ?_
          refine g_bipush (v := nI 32) hX dX6_isTold_79 (by decide) ?_
          refine g_aload_n hX dX6_isTold_81 rfl rfl ?_
          refine g_bipush (v := nI 13) hX dX6_isTold_82 (by decide) ?_
          refine g_ialdN hX dX6_isTold_84 (by assumption) (rfl) (by omega) (by first | decide | omega) ?_
          try simp (disch := decide) only [up_same, up_up, up_neD, up_ne _ _ hxt]
          refine g_iadd hX dX6_isTold_85 ?_
          refine g_ialdN hX dX6_isTold_86 (by assumption) (nI_add _ _) (by have := (tell_low hT (by assumption : ¬ tellF _ _ _ _ _ _ = 0)).1; omega) (by first | decide | omega) ?_
          try simp (disch := decide) only [up_same, up_up, up_neD, up_ne _ _ hxt]
          refine g_iastN hX dX6_isTold_87 (by assumption) (rfl) (by omega) (by first | decide | omega) ?_
          try simp (disch := decide) only [up_same, up_up, up_neD, up_ne _ _ hxt]
          refine g_iinc (lv' := [(2, .int _), (4, .int _), (3, .int _), (0, .ref _), (1, .ref _)]) hX dX6_isTold_88 rfl (by first | exact nI_inc _ | rfl) (by decide) rfl ?_
          refine g_goto 2 hX dX6_isTold_91 (by decide) ?_
          refine g_iload_n hX dX6_isTold_2 rfl rfl ?_
          refine g_iconst (v := nI 2) hX dX6_isTold_3 (by decide) ?_
          refine g_icmpge 94 hX dX6_isTold_4 (by decide) (fun c4_1 => ?_) (fun c4_1 => ?_)
          · exact absurd c4_1 (by decide)
          · refine g_aload_n hX dX6_isTold_7 rfl rfl ?_
            refine g_bipush (v := nI 13) hX dX6_isTold_8 (by decide) ?_
            refine g_ialdN hX dX6_isTold_10 (by assumption) (rfl) (by omega) (by first | decide | omega) ?_
            try simp (disch := decide) only [up_same, up_up, up_neD, up_ne _ _ hxt]
            refine g_bipush (v := (-4)) hX dX6_isTold_11 (by decide) ?_
            refine g_icmpne 94 hX dX6_isTold_13 (by decide) (fun c13_1 => ?_) (fun c13_1 => ?_)
            · refine g_aload_n hX dX6_isTold_94 rfl rfl ?_
              refine g_bipush (v := nI 13) hX dX6_isTold_95 (by decide) ?_
              refine g_ialdN hX dX6_isTold_97 (by assumption) (rfl) (by omega) (by first | decide | omega) ?_
              try simp (disch := decide) only [up_same, up_up, up_neD, up_ne _ _ hxt]
              refine g_bipush (v := (-4)) hX dX6_isTold_98 (by decide) ?_
              refine g_icmpeq 107 hX dX6_isTold_100 (by decide) (fun c100 => ?_) (fun c100 => ?_)
              · refine g_iconst (v := nI 0) hX dX6_isTold_107 (by decide) ?_
                refine g_iret hM dX6_isTold_108 rfl (rfl) ⟨Nat.le_of_ble_eq_true rfl, Nat.le_of_ble_eq_true rfl⟩ ?_
                exact absurd c100 (nI_m4 (by have := (lowN_spec c55).1; omega))
              · refine g_iconst (v := nI 1) hX dX6_isTold_103 (by decide) ?_
                refine g_goto 108 hX dX6_isTold_104 (by decide) ?_
                refine g_iret hM dX6_isTold_108 rfl (rfl) ⟨Nat.le_of_ble_eq_true rfl, Nat.le_of_ble_eq_true rfl⟩ ?_
                rw [begF, if_pos c13, if_neg c55] at hq
                refine q_t ?_ hq
                simp (disch := decide) only [up_same, up_neD]
                simp [c100]
            · exact absurd c13_1 (nI_m4 (by have := (lowN_spec (by assumption : ¬ tellF _ _ _ _ _ _ = 0)).1; omega))
