set_option maxHeartbeats 4000000 in
set_option maxRecDepth 100000 in
theorem sp_X6_standsAnew {Γ : Ga} {d : Nat} {κ : Kp} {I : Ip} {Q : Option Value → Kp → Ip → Prop} {x : Nat} (hx : κ.1 x = (8, 18)) (hq : Q none κ (va_up I x (va_up (va_up (va_up (I x) 13 (-4)) 14 (nI 0)) 15 (nI 0)))) : Sp Γ d mX6_standsAnew [.ref (x)] κ I Q := by
  intro X hM
  have hX := hM.std
  show GW _ mX6_standsAnew X 0 [(0, .ref (x))] [] _ _ 0 0
  refine g_aload_n hX dX6_standsAnew_0 rfl rfl ?_
  refine g_bipush (v := nI 13) hX dX6_standsAnew_1 (by decide) ?_
  refine g_bipush (v := (-4)) hX dX6_standsAnew_3 (by decide) ?_
  refine g_iastN hX dX6_standsAnew_5 (by assumption) (rfl) (by omega) (by first | decide | omega) ?_
  try simp (disch := decide) only [up_same, up_up]
  refine g_aload_n hX dX6_standsAnew_6 rfl rfl ?_
  refine g_bipush (v := nI 14) hX dX6_standsAnew_7 (by decide) ?_
  refine g_iconst (v := nI 0) hX dX6_standsAnew_9 (by decide) ?_
  refine g_iastN hX dX6_standsAnew_10 (by assumption) (rfl) (by omega) (by first | decide | omega) ?_
  try simp (disch := decide) only [up_same, up_up]
  refine g_aload_n hX dX6_standsAnew_11 rfl rfl ?_
  refine g_bipush (v := nI 15) hX dX6_standsAnew_12 (by decide) ?_
  refine g_iconst (v := nI 0) hX dX6_standsAnew_14 (by decide) ?_
  refine g_iastN hX dX6_standsAnew_15 (by assumption) (rfl) (by omega) (by first | decide | omega) ?_
  try simp (disch := decide) only [up_same, up_up]
  refine g_vret hM dX6_standsAnew_16 rfl ⟨Nat.le_of_ble_eq_true rfl, Nat.le_of_ble_eq_true rfl⟩ ?_
  exact hq

set_option maxHeartbeats 4000000 in
set_option maxRecDepth 100000 in
theorem sp_X6_sitsDown {Γ : Ga} {d : Nat} {κ : Kp} {I : Ip} {Q : Option Value → Kp → Ip → Prop} {m x : Nat} {p q : Int32} (hMo : MoK κ m) (hx : κ.1 x = (8, 18)) (hq : Q none κ (va_up I x (sitF (I x) p q))) : Sp Γ (d + 1) mX6_sitsDown [.ref (m), .ref (x), .int (p), .int (q)] κ I Q := by
  obtain ⟨hm, hm0, ⟨k0, n0⟩, ⟨k1, n1⟩, ⟨k2, n2⟩, ⟨k3, n3⟩, ⟨k4, n4⟩, ⟨k6, n6⟩, ⟨k8, n8⟩, ⟨k14, n14⟩, ⟨k15, n15⟩, ⟨k16, n16⟩, d01, d23, d614, d1516⟩ := id hMo
  intro X hM
  have hX := hM.std
  have hR := hM.room
  show GW _ mX6_sitsDown X 0 [(0, .ref (m)), (1, .ref (x)), (2, .int (p)), (3, .int (q))] [] _ _ 0 0
  refine g_aload_n hX dX6_sitsDown_0 rfl rfl ?_
  refine g_bipush (v := nI 10) hX dX6_sitsDown_1 (by decide) ?_
  refine g_iload_n hX dX6_sitsDown_3 rfl rfl ?_
  refine g_iastN hX dX6_sitsDown_4 (by assumption) (rfl) (by omega) (by first | decide | omega) ?_
  try simp (disch := decide) only [up_same, up_up]
  refine g_aload_n hX dX6_sitsDown_5 rfl rfl ?_
  refine g_bipush (v := nI 11) hX dX6_sitsDown_6 (by decide) ?_
  refine g_iload_n hX dX6_sitsDown_8 rfl rfl ?_
  refine g_iastN hX dX6_sitsDown_9 (by assumption) (rfl) (by omega) (by first | decide | omega) ?_
  try simp (disch := decide) only [up_same, up_up]
  refine g_aload_n hX dX6_sitsDown_10 rfl rfl ?_
  refine g_bipush (v := nI 12) hX dX6_sitsDown_11 (by decide) ?_
  refine g_iload_n hX dX6_sitsDown_13 rfl rfl ?_
  refine g_iastN hX dX6_sitsDown_14 (by assumption) (rfl) (by omega) (by first | decide | omega) ?_
  try simp (disch := decide) only [up_same, up_up]
  refine g_aload_n hX dX6_sitsDown_15 rfl rfl ?_
  refine g_callS (md' := mX6_standsAnew) (As := [.ref _]) hX hR dX6_sitsDown_16 clX6_161 okX6_standsAnew rfl rfl (Nat.le_of_ble_eq_true rfl) (Nat.le_of_ble_eq_true rfl) ⟨Nat.le_of_ble_eq_true rfl, Nat.le_of_ble_eq_true rfl⟩ ?_
  refine sp_X6_standsAnew hx ?_
  change GW _ _ _ 19 _ _ _ _ _ _
  refine g_vret hM dX6_sitsDown_19 rfl ⟨Nat.le_of_ble_eq_true rfl, Nat.le_of_ble_eq_true rfl⟩ ?_
  refine q_st ?_ hq
  simp only [up_same, up_up]
  rfl

set_option maxHeartbeats 4000000 in
set_option maxRecDepth 100000 in
theorem sp_X6_minuteGoes {Γ : Ga} {d : Nat} {κ : Kp} {I : Ip} {Q : Option Value → Kp → Ip → Prop} {m x T P : Nat} (hMo : MoK κ m) (hx : κ.1 x = (8, 18)) (hw : WfT (I (κ.2.1 m 0)) P T) (hs : WfS (I x) P T) (hq : Q none κ (va_up I x (minF (I (κ.2.1 m 0)) T (I x)))) : Sp Γ (d + 4) mX6_minuteGoes [.ref (m), .ref (x)] κ I Q := by
  obtain ⟨hm, hm0, ⟨k0, n0⟩, ⟨k1, n1⟩, ⟨k2, n2⟩, ⟨k3, n3⟩, ⟨k4, n4⟩, ⟨k6, n6⟩, ⟨k8, n8⟩, ⟨k14, n14⟩, ⟨k15, n15⟩, ⟨k16, n16⟩, d01, d23, d614, d1516⟩ := id hMo
  have hxt : κ.2.1 m 0 ≠ x := kd_ne k0 hx (by decide)
  obtain ⟨hw0, hw1, hP, hT, -⟩ := id hw
  have hse : ¬ I x 10 = -4 → ∃ a b c o, Seat (I x) P T a b c ∧ otherF (I x) (nI c) = nI o ∧ otherF (I x) (nI o) = nI c ∧ o < 6 ∧ c < 6 ∧ I x 12 = nI c := wfs_seat hw hs
  intro X hM
  have hX := hM.std
  have hR := hM.room
  show GW _ mX6_minuteGoes X 0 [(0, .ref (m)), (1, .ref (x))] [] _ _ 0 0
  refine g_aload_n hX dX6_minuteGoes_0 rfl rfl ?_
  refine g_bipush (v := nI 16) hX dX6_minuteGoes_1 (by decide) ?_
  refine g_dup2 hX dX6_minuteGoes_3 rfl rfl ?_
  refine g_ialdN hX dX6_minuteGoes_4 (by assumption) (rfl) (by omega) (by first | decide | omega) ?_
  try simp (disch := decide) only [up_same, up_up, up_neD, up_ne _ _ hxt]
  refine g_iconst (v := nI 1) hX dX6_minuteGoes_5 (by decide) ?_
  refine g_iadd hX dX6_minuteGoes_6 ?_
  refine g_iastN hX dX6_minuteGoes_7 (by assumption) (rfl) (by omega) (by first | decide | omega) ?_
  try simp (disch := decide) only [up_same, up_up, up_neD, up_ne _ _ hxt]
  refine g_aload_n hX dX6_minuteGoes_8 rfl rfl ?_
  refine g_bipush (v := nI 10) hX dX6_minuteGoes_9 (by decide) ?_
  refine g_ialdN hX dX6_minuteGoes_11 (by assumption) (rfl) (by omega) (by first | decide | omega) ?_
  try simp (disch := decide) only [up_same, up_up, up_neD, up_ne _ _ hxt]
  refine g_bipush (v := (-4)) hX dX6_minuteGoes_12 (by decide) ?_
  refine g_icmpne 18 hX dX6_minuteGoes_14 (by decide) (fun c14 => ?_) (fun c14 => ?_)
  · obtain ⟨a, b, c, o, hseat, hoc, hco, ho6, hc6, h12⟩ := hse c14
    refine g_aload_n hX dX6_minuteGoes_18 rfl rfl ?_
    refine g_aload_n hX dX6_minuteGoes_19 rfl rfl ?_
    refine g_callV (md' := mX6_isTold) (ci := 6) (As := [.ref _]) hX hR dX6_minuteGoes_20 clX6_157 okX6_isTold rfl (by assumption) rfl rfl (Nat.le_of_ble_eq_true rfl) (Nat.le_of_ble_eq_true rfl) ⟨Nat.le_of_ble_eq_true rfl, Nat.le_of_ble_eq_true rfl⟩ ?_
    refine sp_X6_isTold (c := c) (o := o) (T := T) hMo hx ?_ hT ?_ ?_ ?_ hc6 ho6 ?_
    · rw [up_ne _ _ hxt]; exact hw1
    · rw [up_same, up_neD (by decide)]; exact h12
    · rw [up_same, oth16]; exact hoc
    · rw [up_same, oth16]; exact hco
    rw [up_same, up_ne _ _ hxt, up_up]
    rw [min_1 c14 h12 hoc hc6 ho6] at hq
    obtain ⟨c2, hseat2⟩ := beg_seat hw (hseat.at16 (I x 16 + nI 1)) (o := o) (by rw [oth16]; exact hoc) ho6 hc6
    generalize begF (I (κ.2.1 m 0)) (va_up (I x) 16 (I x 16 + nI 1)) T c o = S2 at hq hseat2 ⊢
    obtain ⟨ha, hb, hab, g10, g11, gc, g12, -⟩ := id hseat2
    obtain ⟨o2, ho2, -, ho2P, -⟩ := seat_oth hseat2 hP
    change GW _ _ _ 23 _ (.int _ :: _) _ _ _ _
    refine g_ifne 70 hX dX6_minuteGoes_23 (by decide) (fun c23 => ?_) (fun c23 => ?_)
    · rw [b2i_n0, decide_eq_true_eq] at c23
      obtain ⟨ha, hb, hab, g10, g11, gc, g12, h1314⟩ := id hseat2
      obtain ⟨t, l, ht, hl1, hl9, g13, g14⟩ := h1314.resolve_left (fun e => c23 e.1)
      refine g_aload_n hX dX6_minuteGoes_70 rfl rfl ?_
      refine g_bipush (v := nI 13) hX dX6_minuteGoes_71 (by decide) ?_
      refine g_ialdN hX dX6_minuteGoes_73 (by assumption) (rfl) (by omega) (by first | decide | omega) ?_
      try simp (disch := decide) only [up_same, up_up, up_neD, up_ne _ _ hxt]
      rw [g13]
      refine g_istore_n (lv' := [(2, .int _), (0, .ref _), (1, .ref _)]) hX dX6_minuteGoes_74 rfl (by decide) rfl ?_
      refine g_aload_n hX dX6_minuteGoes_75 rfl rfl ?_
      refine g_bipush (v := nI 17) hX dX6_minuteGoes_76 (by decide) ?_
      refine g_dup2 hX dX6_minuteGoes_78 rfl rfl ?_
      refine g_ialdN hX dX6_minuteGoes_79 (by assumption) (rfl) (by omega) (by first | decide | omega) ?_
      try simp (disch := decide) only [up_same, up_up, up_neD, up_ne _ _ hxt]
      refine g_aload_n hX dX6_minuteGoes_80 rfl rfl ?_
      refine g_getR hX dX6_minuteGoes_81 flX6_7 (by assumption) rfl (by first | assumption | rfl) (by assumption) ?_
      refine g_iconst (v := nI 2) hX dX6_minuteGoes_84 (by decide) ?_
      refine g_aload_n hX dX6_minuteGoes_85 rfl rfl ?_
      refine g_bipush (v := nI 12) hX dX6_minuteGoes_86 (by decide) ?_
      refine g_ialdN hX dX6_minuteGoes_88 (by assumption) (rfl) (by omega) (by first | decide | omega) ?_
      try simp (disch := decide) only [up_same, up_up, up_neD, up_ne _ _ hxt]
      rw [g12]
      refine g_iadd hX dX6_minuteGoes_89 ?_
      refine g_ialdN hX dX6_minuteGoes_90 (by assumption) (nI_add _ _) (by omega) (by first | decide | omega) ?_
      try simp (disch := decide) only [up_same, up_up, up_neD, up_ne _ _ hxt]
      refine g_iconst (v := nI 2) hX dX6_minuteGoes_91 (by decide) ?_
      refine g_icmpne 109 hX dX6_minuteGoes_92 (by decide) (fun c92 => ?_) (fun c92 => ?_)
      · refine g_aload_n hX dX6_minuteGoes_109 rfl rfl ?_
        refine g_getR hX dX6_minuteGoes_110 flX6_7 (by assumption) rfl (by first | assumption | rfl) (by assumption) ?_
        refine g_bipush (v := nI 23) hX dX6_minuteGoes_113 (by decide) ?_
        refine g_iload_n hX dX6_minuteGoes_115 rfl rfl ?_
        refine g_iadd hX dX6_minuteGoes_116 ?_
        refine g_ialdN hX dX6_minuteGoes_117 (by assumption) (nI_add _ _) (by omega) (by first | decide | omega) ?_
        try simp (disch := decide) only [up_same, up_up, up_neD, up_ne _ _ hxt]
        refine g_iadd hX dX6_minuteGoes_118 ?_
        refine g_iastN hX dX6_minuteGoes_119 (by assumption) (rfl) (by omega) (by first | decide | omega) ?_
        try simp (disch := decide) only [up_same, up_up, up_neD, up_ne _ _ hxt]
        refine g_aload_n hX dX6_minuteGoes_120 rfl rfl ?_
        refine g_bipush (v := nI 14) hX dX6_minuteGoes_121 (by decide) ?_
        refine g_dup2 hX dX6_minuteGoes_123 rfl rfl ?_
        refine g_ialdN hX dX6_minuteGoes_124 (by assumption) (rfl) (by omega) (by first | decide | omega) ?_
        try simp (disch := decide) only [up_same, up_up, up_neD, up_ne _ _ hxt]
        refine g_iconst (v := nI 1) hX dX6_minuteGoes_125 (by decide) ?_
        refine g_isub hX dX6_minuteGoes_126 ?_
        refine g_iastN hX dX6_minuteGoes_127 (by assumption) (rfl) (by omega) (by first | decide | omega) ?_
        try simp (disch := decide) only [up_same, up_up, up_neD, up_ne _ _ hxt]
        refine g_aload_n hX dX6_minuteGoes_128 rfl rfl ?_
        refine g_bipush (v := nI 14) hX dX6_minuteGoes_129 (by decide) ?_
        refine g_ialdN hX dX6_minuteGoes_131 (by assumption) (rfl) (by omega) (by first | decide | omega) ?_
        try simp (disch := decide) only [up_same, up_up, up_neD, up_ne _ _ hxt]
        rw [g14]
        refine g_ifne 177 hX dX6_minuteGoes_132 (by decide) (fun c132 => ?_) (fun c132 => ?_)
        · refine g_vret hM dX6_minuteGoes_177 rfl ⟨Nat.le_of_ble_eq_true rfl, Nat.le_of_ble_eq_true rfl⟩ ?_
          rw [if_neg c23] at hq
          refine q_st ?_ hq
          rw [oneF, gainF, g12, g13, g14, nI_clamp (show c2 < 2 ^ 31 by omega), nI_clamp (show t < 2 ^ 31 by omega), if_neg c92, if_neg c132]
        · refine g_aload_n hX dX6_minuteGoes_135 rfl rfl ?_
          refine g_bipush (v := nI 15) hX dX6_minuteGoes_136 (by decide) ?_
          refine g_dup2 hX dX6_minuteGoes_138 rfl rfl ?_
          refine g_ialdN hX dX6_minuteGoes_139 (by assumption) (rfl) (by omega) (by first | decide | omega) ?_
          try simp (disch := decide) only [up_same, up_up, up_neD, up_ne _ _ hxt]
          refine g_iconst (v := nI 1) hX dX6_minuteGoes_140 (by decide) ?_
          refine g_iload_n hX dX6_minuteGoes_141 rfl rfl ?_
          refine g_ishl hX dX6_minuteGoes_142 ?_
          refine g_ior hX dX6_minuteGoes_143 ?_
          refine g_iastN hX dX6_minuteGoes_144 (by assumption) (rfl) (by omega) (by first | decide | omega) ?_
          try simp (disch := decide) only [up_same, up_up, up_neD, up_ne _ _ hxt]
          refine g_aload_n hX dX6_minuteGoes_145 rfl rfl ?_
          refine g_bipush (v := nI 12) hX dX6_minuteGoes_146 (by decide) ?_
          refine g_aload_n hX dX6_minuteGoes_148 rfl rfl ?_
          refine g_aload_n hX dX6_minuteGoes_149 rfl rfl ?_
          refine g_bipush (v := nI 12) hX dX6_minuteGoes_150 (by decide) ?_
          refine g_ialdN hX dX6_minuteGoes_152 (by assumption) (rfl) (by omega) (by first | decide | omega) ?_
          try simp (disch := decide) only [up_same, up_up, up_neD, up_ne _ _ hxt]
          rw [g12]
          refine g_callS (md' := mX6_otherOf) (As := [.ref _, .int _]) hX hR dX6_minuteGoes_153 clX6_146 okX6_otherOf rfl rfl (Nat.le_of_ble_eq_true rfl) (Nat.le_of_ble_eq_true rfl) ⟨Nat.le_of_ble_eq_true rfl, Nat.le_of_ble_eq_true rfl⟩ ?_
          refine sp_X6_otherOf hx ?_
          simp (disch := decide) only [up_same, othD, ho2]
          change GW _ _ _ 156 _ (.int _ :: _) _ _ _ _
          refine g_iastN hX dX6_minuteGoes_156 (by assumption) (rfl) (by omega) (by first | decide | omega) ?_
          try simp (disch := decide) only [up_same, up_up, up_neD, up_ne _ _ hxt]
          refine g_aload_n hX dX6_minuteGoes_157 rfl rfl ?_
          refine g_iconst (v := nI 0) hX dX6_minuteGoes_158 (by decide) ?_
          refine g_iload_n hX dX6_minuteGoes_159 rfl rfl ?_
          refine g_iadd hX dX6_minuteGoes_160 ?_
          refine g_dup2 hX dX6_minuteGoes_161 rfl rfl ?_
          refine g_ialdN hX dX6_minuteGoes_162 (by assumption) (nI_z _) (by omega) (by first | decide | omega) ?_
          try simp (disch := decide) only [up_same, up_up, up_neD, up_ne _ _ hxt]
          refine g_iconst (v := nI 1) hX dX6_minuteGoes_163 (by decide) ?_
          refine g_aload_n hX dX6_minuteGoes_164 rfl rfl ?_
          refine g_bipush (v := nI 12) hX dX6_minuteGoes_165 (by decide) ?_
          refine g_ialdN hX dX6_minuteGoes_167 (by assumption) (rfl) (by omega) (by first | decide | omega) ?_
          try simp (disch := decide) only [up_same, up_up, up_neD, up_ne _ _ hxt]
          refine g_ishl hX dX6_minuteGoes_168 ?_
          refine g_ior hX dX6_minuteGoes_169 ?_
          refine g_iastN hX dX6_minuteGoes_170 (by assumption) (nI_z _) (by omega) (by first | decide | omega) ?_
          try simp (disch := decide) only [up_same, up_up, up_neD, up_ne _ _ hxt]
          refine g_aload_n hX dX6_minuteGoes_171 rfl rfl ?_
          refine g_bipush (v := nI 13) hX dX6_minuteGoes_172 (by decide) ?_
          refine g_bipush (v := (-4)) hX dX6_minuteGoes_174 (by decide) ?_
          refine g_iastN hX dX6_minuteGoes_176 (by assumption) (rfl) (by omega) (by first | decide | omega) ?_
          try simp (disch := decide) only [up_same, up_up, up_neD, up_ne _ _ hxt]
          refine g_vret hM dX6_minuteGoes_177 rfl ⟨Nat.le_of_ble_eq_true rfl, Nat.le_of_ble_eq_true rfl⟩ ?_
          rw [if_neg c23] at hq
          refine q_st ?_ hq
          rw [oneF, gainF, g12, g13, g14, nI_clamp (show c2 < 2 ^ 31 by omega), nI_clamp (show t < 2 ^ 31 by omega), if_neg c92, if_pos c132]
          rw [outF]
          simp (disch := decide) only [up_same, up_neD, othD, g12, g13, ho2, nI_clamp (show t < 2 ^ 31 by omega), nI_clamp (show o2 < 2 ^ 31 by omega), up_ne _ _ (show t ≠ 12 by omega), up_ne _ _ (show t ≠ 15 by omega), up_ne _ _ (show t ≠ 14 by omega), up_ne _ _ (show t ≠ 17 by omega)]
          rfl
      · refine g_aload_n hX dX6_minuteGoes_95 rfl rfl ?_
        refine g_getR hX dX6_minuteGoes_96 flX6_7 (by assumption) rfl (by first | assumption | rfl) (by assumption) ?_
        refine g_bipush (v := nI 23) hX dX6_minuteGoes_99 (by decide) ?_
        refine g_iload_n hX dX6_minuteGoes_101 rfl rfl ?_
        refine g_iadd hX dX6_minuteGoes_102 ?_
        refine g_ialdN hX dX6_minuteGoes_103 (by assumption) (nI_add _ _) (by omega) (by first | decide | omega) ?_
        try simp (disch := decide) only [up_same, up_up, up_neD, up_ne _ _ hxt]
        refine g_iconst (v := nI 2) hX dX6_minuteGoes_104 (by decide) ?_
        refine g_idiv hX dX6_minuteGoes_105 (by decide) ?_
        refine g_goto 118 hX dX6_minuteGoes_106 (by decide) ?_
        refine g_iadd hX dX6_minuteGoes_118 ?_
        refine g_iastN hX dX6_minuteGoes_119 (by assumption) (rfl) (by omega) (by first | decide | omega) ?_
        try simp (disch := decide) only [up_same, up_up, up_neD, up_ne _ _ hxt]
        refine g_aload_n hX dX6_minuteGoes_120 rfl rfl ?_
        refine g_bipush (v := nI 14) hX dX6_minuteGoes_121 (by decide) ?_
        refine g_dup2 hX dX6_minuteGoes_123 rfl rfl ?_
        refine g_ialdN hX dX6_minuteGoes_124 (by assumption) (rfl) (by omega) (by first | decide | omega) ?_
        try simp (disch := decide) only [up_same, up_up, up_neD, up_ne _ _ hxt]
        refine g_iconst (v := nI 1) hX dX6_minuteGoes_125 (by decide) ?_
        refine g_isub hX dX6_minuteGoes_126 ?_
        refine g_iastN hX dX6_minuteGoes_127 (by assumption) (rfl) (by omega) (by first | decide | omega) ?_
        try simp (disch := decide) only [up_same, up_up, up_neD, up_ne _ _ hxt]
        refine g_aload_n hX dX6_minuteGoes_128 rfl rfl ?_
        refine g_bipush (v := nI 14) hX dX6_minuteGoes_129 (by decide) ?_
        refine g_ialdN hX dX6_minuteGoes_131 (by assumption) (rfl) (by omega) (by first | decide | omega) ?_
        try simp (disch := decide) only [up_same, up_up, up_neD, up_ne _ _ hxt]
        rw [g14]
        refine g_ifne 177 hX dX6_minuteGoes_132 (by decide) (fun c132 => ?_) (fun c132 => ?_)
        · refine g_vret hM dX6_minuteGoes_177 rfl ⟨Nat.le_of_ble_eq_true rfl, Nat.le_of_ble_eq_true rfl⟩ ?_
          rw [if_neg c23] at hq
          refine q_st ?_ hq
          rw [oneF, gainF, g12, g13, g14, nI_clamp (show c2 < 2 ^ 31 by omega), nI_clamp (show t < 2 ^ 31 by omega), if_pos c92, if_neg c132]
        · refine g_aload_n hX dX6_minuteGoes_135 rfl rfl ?_
          refine g_bipush (v := nI 15) hX dX6_minuteGoes_136 (by decide) ?_
          refine g_dup2 hX dX6_minuteGoes_138 rfl rfl ?_
          refine g_ialdN hX dX6_minuteGoes_139 (by assumption) (rfl) (by omega) (by first | decide | omega) ?_
          try simp (disch := decide) only [up_same, up_up, up_neD, up_ne _ _ hxt]
          refine g_iconst (v := nI 1) hX dX6_minuteGoes_140 (by decide) ?_
          refine g_iload_n hX dX6_minuteGoes_141 rfl rfl ?_
          refine g_ishl hX dX6_minuteGoes_142 ?_
          refine g_ior hX dX6_minuteGoes_143 ?_
          refine g_iastN hX dX6_minuteGoes_144 (by assumption) (rfl) (by omega) (by first | decide | omega) ?_
          try simp (disch := decide) only [up_same, up_up, up_neD, up_ne _ _ hxt]
          refine g_aload_n hX dX6_minuteGoes_145 rfl rfl ?_
          refine g_bipush (v := nI 12) hX dX6_minuteGoes_146 (by decide) ?_
          refine g_aload_n hX dX6_minuteGoes_148 rfl rfl ?_
          refine g_aload_n hX dX6_minuteGoes_149 rfl rfl ?_
          refine g_bipush (v := nI 12) hX dX6_minuteGoes_150 (by decide) ?_
          refine g_ialdN hX dX6_minuteGoes_152 (by assumption) (rfl) (by omega) (by first | decide | omega) ?_
          try simp (disch := decide) only [up_same, up_up, up_neD, up_ne _ _ hxt]
          rw [g12]
          refine g_callS (md' := mX6_otherOf) (As := [.ref _, .int _]) hX hR dX6_minuteGoes_153 clX6_146 okX6_otherOf rfl rfl (Nat.le_of_ble_eq_true rfl) (Nat.le_of_ble_eq_true rfl) ⟨Nat.le_of_ble_eq_true rfl, Nat.le_of_ble_eq_true rfl⟩ ?_
          refine sp_X6_otherOf hx ?_
          simp (disch := decide) only [up_same, othD, ho2]
          change GW _ _ _ 156 _ (.int _ :: _) _ _ _ _
          refine g_iastN hX dX6_minuteGoes_156 (by assumption) (rfl) (by omega) (by first | decide | omega) ?_
          try simp (disch := decide) only [up_same, up_up, up_neD, up_ne _ _ hxt]
          refine g_aload_n hX dX6_minuteGoes_157 rfl rfl ?_
          refine g_iconst (v := nI 0) hX dX6_minuteGoes_158 (by decide) ?_
          refine g_iload_n hX dX6_minuteGoes_159 rfl rfl ?_
          refine g_iadd hX dX6_minuteGoes_160 ?_
          refine g_dup2 hX dX6_minuteGoes_161 rfl rfl ?_
          refine g_ialdN hX dX6_minuteGoes_162 (by assumption) (nI_z _) (by omega) (by first | decide | omega) ?_
          try simp (disch := decide) only [up_same, up_up, up_neD, up_ne _ _ hxt]
          refine g_iconst (v := nI 1) hX dX6_minuteGoes_163 (by decide) ?_
          refine g_aload_n hX dX6_minuteGoes_164 rfl rfl ?_
          refine g_bipush (v := nI 12) hX dX6_minuteGoes_165 (by decide) ?_
          refine g_ialdN hX dX6_minuteGoes_167 (by assumption) (rfl) (by omega) (by first | decide | omega) ?_
          try simp (disch := decide) only [up_same, up_up, up_neD, up_ne _ _ hxt]
          refine g_ishl hX dX6_minuteGoes_168 ?_
          refine g_ior hX dX6_minuteGoes_169 ?_
          refine g_iastN hX dX6_minuteGoes_170 (by assumption) (nI_z _) (by omega) (by first | decide | omega) ?_
          try simp (disch := decide) only [up_same, up_up, up_neD, up_ne _ _ hxt]
          refine g_aload_n hX dX6_minuteGoes_171 rfl rfl ?_
          refine g_bipush (v := nI 13) hX dX6_minuteGoes_172 (by decide) ?_
          refine g_bipush (v := (-4)) hX dX6_minuteGoes_174 (by decide) ?_
          refine g_iastN hX dX6_minuteGoes_176 (by assumption) (rfl) (by omega) (by first | decide | omega) ?_
          try simp (disch := decide) only [up_same, up_up, up_neD, up_ne _ _ hxt]
          refine g_vret hM dX6_minuteGoes_177 rfl ⟨Nat.le_of_ble_eq_true rfl, Nat.le_of_ble_eq_true rfl⟩ ?_
          rw [if_neg c23] at hq
          refine q_st ?_ hq
          rw [oneF, gainF, g12, g13, g14, nI_clamp (show c2 < 2 ^ 31 by omega), nI_clamp (show t < 2 ^ 31 by omega), if_pos c92, if_pos c132]
          rw [outF]
          simp (disch := decide) only [up_same, up_neD, othD, g12, g13, ho2, nI_clamp (show t < 2 ^ 31 by omega), nI_clamp (show o2 < 2 ^ 31 by omega), up_ne _ _ (show t ≠ 12 by omega), up_ne _ _ (show t ≠ 15 by omega), up_ne _ _ (show t ≠ 14 by omega), up_ne _ _ (show t ≠ 17 by omega)]
          rfl
    · rw [b2i_0, decide_eq_false_iff_not, Classical.not_not] at c23
      refine g_aload_n hX dX6_minuteGoes_26 rfl rfl ?_
      refine g_bipush (v := nI 17) hX dX6_minuteGoes_27 (by decide) ?_
      refine g_dup2 hX dX6_minuteGoes_29 rfl rfl ?_
      refine g_ialdN hX dX6_minuteGoes_30 (by assumption) (rfl) (by omega) (by first | decide | omega) ?_
      try simp (disch := decide) only [up_same, up_up, up_neD, up_ne _ _ hxt]
      refine g_aload_n hX dX6_minuteGoes_31 rfl rfl ?_
      refine g_getR hX dX6_minuteGoes_32 flX6_7 (by assumption) rfl (by first | assumption | rfl) (by assumption) ?_
      refine g_iconst (v := nI 2) hX dX6_minuteGoes_35 (by decide) ?_
      refine g_aload_n hX dX6_minuteGoes_36 rfl rfl ?_
      refine g_bipush (v := nI 10) hX dX6_minuteGoes_37 (by decide) ?_
      refine g_ialdN hX dX6_minuteGoes_39 (by assumption) (rfl) (by omega) (by first | decide | omega) ?_
      try simp (disch := decide) only [up_same, up_up, up_neD, up_ne _ _ hxt]
      rw [g10]
      refine g_iadd hX dX6_minuteGoes_40 ?_
      refine g_ialdN hX dX6_minuteGoes_41 (by assumption) (nI_add _ _) (by omega) (by first | decide | omega) ?_
      try simp (disch := decide) only [up_same, up_up, up_neD, up_ne _ _ hxt]
      refine g_iconst (v := nI 3) hX dX6_minuteGoes_42 (by decide) ?_
      refine g_icmpne 66 hX dX6_minuteGoes_43 (by decide) (fun c43 => ?_) (fun c43 => ?_)
      · refine g_iconst (v := nI 0) hX dX6_minuteGoes_66 (by decide) ?_
        refine g_iadd hX dX6_minuteGoes_67 ?_
        refine g_iastN hX dX6_minuteGoes_68 (by assumption) (rfl) (by omega) (by first | decide | omega) ?_
        try simp (disch := decide) only [up_same, up_up, up_neD, up_ne _ _ hxt]
        refine g_vret hM dX6_minuteGoes_69 rfl ⟨Nat.le_of_ble_eq_true rfl, Nat.le_of_ble_eq_true rfl⟩ ?_
        rw [if_pos c23] at hq
        refine q_st ?_ hq
        rw [hushB, g10, g11, nI_clamp (show a < 2 ^ 31 by omega), nI_clamp (show b < 2 ^ 31 by omega), if_neg (fun e => c43 e.1)]
      · refine g_aload_n hX dX6_minuteGoes_46 rfl rfl ?_
        refine g_getR hX dX6_minuteGoes_47 flX6_7 (by assumption) rfl (by first | assumption | rfl) (by assumption) ?_
        refine g_iconst (v := nI 2) hX dX6_minuteGoes_50 (by decide) ?_
        refine g_aload_n hX dX6_minuteGoes_51 rfl rfl ?_
        refine g_bipush (v := nI 11) hX dX6_minuteGoes_52 (by decide) ?_
        refine g_ialdN hX dX6_minuteGoes_54 (by assumption) (rfl) (by omega) (by first | decide | omega) ?_
        try simp (disch := decide) only [up_same, up_up, up_neD, up_ne _ _ hxt]
        rw [g11]
        refine g_iadd hX dX6_minuteGoes_55 ?_
        refine g_ialdN hX dX6_minuteGoes_56 (by assumption) (nI_add _ _) (by omega) (by first | decide | omega) ?_
        try simp (disch := decide) only [up_same, up_up, up_neD, up_ne _ _ hxt]
        refine g_iconst (v := nI 3) hX dX6_minuteGoes_57 (by decide) ?_
        refine g_icmpne 66 hX dX6_minuteGoes_58 (by decide) (fun c58 => ?_) (fun c58 => ?_)
        · refine g_iconst (v := nI 0) hX dX6_minuteGoes_66 (by decide) ?_
          refine g_iadd hX dX6_minuteGoes_67 ?_
          refine g_iastN hX dX6_minuteGoes_68 (by assumption) (rfl) (by omega) (by first | decide | omega) ?_
          try simp (disch := decide) only [up_same, up_up, up_neD, up_ne _ _ hxt]
          refine g_vret hM dX6_minuteGoes_69 rfl ⟨Nat.le_of_ble_eq_true rfl, Nat.le_of_ble_eq_true rfl⟩ ?_
          rw [if_pos c23] at hq
          refine q_st ?_ hq
          rw [hushB, g10, g11, nI_clamp (show a < 2 ^ 31 by omega), nI_clamp (show b < 2 ^ 31 by omega), if_neg (fun e => c58 e.2)]
        · refine g_bipush (v := nI 10) hX dX6_minuteGoes_61 (by decide) ?_
          refine g_goto 67 hX dX6_minuteGoes_63 (by decide) ?_
          refine g_iadd hX dX6_minuteGoes_67 ?_
          refine g_iastN hX dX6_minuteGoes_68 (by assumption) (rfl) (by omega) (by first | decide | omega) ?_
          try simp (disch := decide) only [up_same, up_up, up_neD, up_ne _ _ hxt]
          refine g_vret hM dX6_minuteGoes_69 rfl ⟨Nat.le_of_ble_eq_true rfl, Nat.le_of_ble_eq_true rfl⟩ ?_
          rw [if_pos c23] at hq
          refine q_st ?_ hq
          rw [hushB, g10, g11, nI_clamp (show a < 2 ^ 31 by omega), nI_clamp (show b < 2 ^ 31 by omega), if_pos ⟨c43, c58⟩]
  · refine g_vret hM dX6_minuteGoes_17 rfl ⟨Nat.le_of_ble_eq_true rfl, Nat.le_of_ble_eq_true rfl⟩ ?_
    rw [min_0 c14] at hq
    exact hq
