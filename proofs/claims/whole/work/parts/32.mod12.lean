set_option maxHeartbeats 4000000 in
set_option maxRecDepth 100000 in
theorem lp_X6_hears_54 {Γ : Ga} {d : Nat} {κ : Kp} {Q : Option Value → Kp → Ip → Prop} {X : Cx} {I : Ip} {m P T t p : Nat} {had nn : Int32} (hM : Mx Γ (d + 1) mX6_hears Q X) (hMo : MoK κ m) (hw : WfT (I (κ.2.1 m 0)) P T) (hs : WfS (I (κ.2.1 m 2)) P T) (ht : t < T) (hp : p < P) (hout : GW Γ mX6_hears X 151 [(6, .int (nI P)), (3, .int (hacc (I (κ.2.1 m 0)) (I (κ.2.1 m 2)) t had P)), (4, .int nn), (5, .int had), (0, .ref m), (1, .int (nI t)), (2, .int (nI p))] [] κ I 0 0) : ∀ (n : Nat) (x : Nat), n = P - x → x ≤ P → GW Γ mX6_hears X 54 [(6, .int (nI x)), (3, .int (hacc (I (κ.2.1 m 0)) (I (κ.2.1 m 2)) t had x)), (4, .int (nn)), (5, .int (had)), (0, .ref (m)), (1, .int (nI t)), (2, .int (nI p))] [] κ (I) 0 0 := by
  have hX := hM.std
  have hR := hM.room
  intro n
  induction n using Nat.strongRecOn with
  | ind n ih =>
    intro x hn hx
    obtain ⟨hm, hm0, ⟨k0, n0⟩, ⟨k1, n1⟩, ⟨k2, n2⟩, ⟨k3, n3⟩, ⟨k4, n4⟩, ⟨k6, n6⟩, ⟨k8, n8⟩, ⟨k14, n14⟩, ⟨k15, n15⟩, ⟨k16, n16⟩, d01, d23, d614, d1516⟩ := id hMo
    obtain ⟨hw0, hw1, hP, hT, -⟩ := id hw
    obtain ⟨of, hof, eof⟩ := hw.2.2.2.2.2.2.2.1 t ht
    refine g_iload hX dX6_hears_54 rfl ?_
    refine g_aload_n hX dX6_hears_56 rfl rfl ?_
    refine g_getR hX dX6_hears_57 flX6_7 (by assumption) rfl (by first | assumption | rfl) (by assumption) ?_
    refine g_iconst (v := nI 0) hX dX6_hears_60 (by decide) ?_
    refine g_ialdN hX dX6_hears_61 (by assumption) (rfl) (by omega) (by first | decide | omega) ?_
    refine g_icmpge 151 hX dX6_hears_62 (by decide) (fun c62 => ?_) (fun c62 => ?_)
    · rw [hw0, nI_leI (by omega) (by omega)] at c62
      have e : x = P := by omega
      subst e
      exact g_pick [0, 1, 2, 3, 4, 5, 6] rfl hout
    · rw [hw0, nI_leI (by omega) (by omega)] at c62
      refine g_iload hX dX6_hears_65 rfl ?_
      refine g_iload hX dX6_hears_67 rfl ?_
      refine g_callS (md' := mX6_has) (As := [.int _, .int _]) hX hR dX6_hears_69 clX6_105 okX6_has rfl rfl (Nat.le_of_ble_eq_true rfl) (Nat.le_of_ble_eq_true rfl) ⟨Nat.le_of_ble_eq_true rfl, Nat.le_of_ble_eq_true rfl⟩ ?_
      refine sp_X6_has (by omega) ?_
      change GW _ _ _ 72 _ [.int _] _ _ 0 0
      refine g_ifeq 106 hX dX6_hears_72 (by decide) (fun c72 => ?_) (fun c72 => ?_)
      · first | (rw [b2i_n0] at c72) | (rw [b2i_0] at c72)
        refine g_iconst (v := nI 0) hX dX6_hears_106 (by decide) ?_
        refine g_istore (lv' := [(7, .int _), (6, .int _), (3, .int _), (4, .int _), (5, .int _), (0, .ref _), (1, .int _), (2, .int _)]) hX dX6_hears_107 (by decide) rfl ?_
        refine g_iload_n hX dX6_hears_109 rfl rfl ?_
        refine g_iload hX dX6_hears_110 rfl ?_
        refine g_ifeq 142 hX dX6_hears_112 (by decide) (fun c112 => ?_) (fun c112 => ?_)
        · refine g_iconst (v := nI 0) hX dX6_hears_142 (by decide) ?_
          refine g_ior hX dX6_hears_143 ?_
          refine g_istore_n (lv' := [(3, .int _), (7, .int _), (6, .int _), (4, .int _), (5, .int _), (0, .ref _), (1, .int _), (2, .int _)]) hX dX6_hears_144 rfl (by decide) rfl ?_
          refine g_iinc (lv' := [(6, .int _), (3, .int _), (7, .int _), (4, .int _), (5, .int _), (0, .ref _), (1, .int _), (2, .int _)]) hX dX6_hears_145 rfl (by first | exact nI_inc _ | rfl) (by decide) rfl ?_
          refine g_goto 54 hX dX6_hears_148 (by decide) ?_
          refine g_pick [0, 1, 3, 4, 5, 6, 7] rfl ?_
          have := ih (P - (x + 1)) (by omega) (x + 1) rfl (by omega)
          rw [hacc, if_neg (fun e => by rw [e.1] at c72; cases c72)] at this
          exact this
        · exact absurd (by decide) c112
      · first | (rw [b2i_n0] at c72) | (rw [b2i_0] at c72)
        refine g_aload_n hX dX6_hears_75 rfl rfl ?_
        refine g_getR hX dX6_hears_76 flX6_7 (by assumption) rfl (by first | assumption | rfl) (by assumption) ?_
        refine g_iconst (v := nI 2) hX dX6_hears_79 (by decide) ?_
        refine g_iload hX dX6_hears_80 rfl ?_
        refine g_iadd hX dX6_hears_82 ?_
        refine g_ialdN hX dX6_hears_83 (by assumption) (nI_add _ _) (by omega) (by first | decide | omega) ?_
        refine g_iconst (v := nI 1) hX dX6_hears_84 (by decide) ?_
        refine g_icmpeq 106 hX dX6_hears_85 (by decide) (fun c85 => ?_) (fun c85 => ?_)
        · refine g_iconst (v := nI 0) hX dX6_hears_106 (by decide) ?_
          refine g_istore (lv' := [(7, .int _), (6, .int _), (3, .int _), (4, .int _), (5, .int _), (0, .ref _), (1, .int _), (2, .int _)]) hX dX6_hears_107 (by decide) rfl ?_
          refine g_iload_n hX dX6_hears_109 rfl rfl ?_
          refine g_iload hX dX6_hears_110 rfl ?_
          refine g_ifeq 142 hX dX6_hears_112 (by decide) (fun c112 => ?_) (fun c112 => ?_)
          · refine g_iconst (v := nI 0) hX dX6_hears_142 (by decide) ?_
            refine g_ior hX dX6_hears_143 ?_
            refine g_istore_n (lv' := [(3, .int _), (7, .int _), (6, .int _), (4, .int _), (5, .int _), (0, .ref _), (1, .int _), (2, .int _)]) hX dX6_hears_144 rfl (by decide) rfl ?_
            refine g_iinc (lv' := [(6, .int _), (3, .int _), (7, .int _), (4, .int _), (5, .int _), (0, .ref _), (1, .int _), (2, .int _)]) hX dX6_hears_145 rfl (by first | exact nI_inc _ | rfl) (by decide) rfl ?_
            refine g_goto 54 hX dX6_hears_148 (by decide) ?_
            refine g_pick [0, 1, 3, 4, 5, 6, 7] rfl ?_
            have := ih (P - (x + 1)) (by omega) (x + 1) rfl (by omega)
            rw [hacc, if_neg (fun e => e.2.1 c85)] at this
            exact this
          · exact absurd (by decide) c112
        · refine g_aload_n hX dX6_hears_88 rfl rfl ?_
          refine g_getR hX dX6_hears_89 flX6_16 (by assumption) rfl (by first | assumption | rfl) (by assumption) ?_
          refine g_bipush (v := nI 9) hX dX6_hears_92 (by decide) ?_
          refine g_ialdN hX dX6_hears_94 (by assumption) (rfl) (by omega) (by first | decide | omega) ?_
          refine g_iload_n hX dX6_hears_95 rfl rfl ?_
          refine g_callS (md' := mX6_has) (As := [.int _, .int _]) hX hR dX6_hears_96 clX6_105 okX6_has rfl rfl (Nat.le_of_ble_eq_true rfl) (Nat.le_of_ble_eq_true rfl) ⟨Nat.le_of_ble_eq_true rfl, Nat.le_of_ble_eq_true rfl⟩ ?_
          refine sp_X6_has (by omega) ?_
          change GW _ _ _ 99 _ [.int _] _ _ 0 0
          refine g_ifne 106 hX dX6_hears_99 (by decide) (fun c99 => ?_) (fun c99 => ?_)
          · first | (rw [b2i_n0] at c99) | (rw [b2i_0] at c99)
            refine g_iconst (v := nI 0) hX dX6_hears_106 (by decide) ?_
            refine g_istore (lv' := [(7, .int _), (6, .int _), (3, .int _), (4, .int _), (5, .int _), (0, .ref _), (1, .int _), (2, .int _)]) hX dX6_hears_107 (by decide) rfl ?_
            refine g_iload_n hX dX6_hears_109 rfl rfl ?_
            refine g_iload hX dX6_hears_110 rfl ?_
            refine g_ifeq 142 hX dX6_hears_112 (by decide) (fun c112 => ?_) (fun c112 => ?_)
            · refine g_iconst (v := nI 0) hX dX6_hears_142 (by decide) ?_
              refine g_ior hX dX6_hears_143 ?_
              refine g_istore_n (lv' := [(3, .int _), (7, .int _), (6, .int _), (4, .int _), (5, .int _), (0, .ref _), (1, .int _), (2, .int _)]) hX dX6_hears_144 rfl (by decide) rfl ?_
              refine g_iinc (lv' := [(6, .int _), (3, .int _), (7, .int _), (4, .int _), (5, .int _), (0, .ref _), (1, .int _), (2, .int _)]) hX dX6_hears_145 rfl (by first | exact nI_inc _ | rfl) (by decide) rfl ?_
              refine g_goto 54 hX dX6_hears_148 (by decide) ?_
              refine g_pick [0, 1, 3, 4, 5, 6, 7] rfl ?_
              have := ih (P - (x + 1)) (by omega) (x + 1) rfl (by omega)
              rw [hacc, if_neg (fun e => by rw [e.2.2] at c99; cases c99)] at this
              exact this
            · exact absurd (by decide) c112
          · first | (rw [b2i_n0] at c99) | (rw [b2i_0] at c99)
            refine g_iconst (v := nI 1) hX dX6_hears_102 (by decide) ?_
            refine g_goto 107 hX dX6_hears_103 (by decide) ?_
            refine g_istore (lv' := [(7, .int _), (6, .int _), (3, .int _), (4, .int _), (5, .int _), (0, .ref _), (1, .int _), (2, .int _)]) hX dX6_hears_107 (by decide) rfl ?_
            refine g_iload_n hX dX6_hears_109 rfl rfl ?_
            refine g_iload hX dX6_hears_110 rfl ?_
            refine g_ifeq 142 hX dX6_hears_112 (by decide) (fun c112 => ?_) (fun c112 => ?_)
            · exact absurd c112 (by decide)
            · refine g_aload_n hX dX6_hears_115 rfl rfl ?_
              refine g_getR hX dX6_hears_116 flX6_7 (by assumption) rfl (by first | assumption | rfl) (by assumption) ?_
              refine g_bipush (v := nI 8) hX dX6_hears_119 (by decide) ?_
              refine g_iload hX dX6_hears_121 rfl ?_
              refine g_iadd hX dX6_hears_123 ?_
              refine g_ialdN hX dX6_hears_124 (by assumption) (nI_add _ _) (by omega) (by first | decide | omega) ?_
              refine g_iconst (v := nI 1) hX dX6_hears_125 (by decide) ?_
              refine g_aload_n hX dX6_hears_126 rfl rfl ?_
              refine g_getR hX dX6_hears_127 flX6_7 (by assumption) rfl (by first | assumption | rfl) (by assumption) ?_
              refine g_bipush (v := nI 14) hX dX6_hears_130 (by decide) ?_
              refine g_iload_n hX dX6_hears_132 rfl rfl ?_
              refine g_iadd hX dX6_hears_133 ?_
              refine g_ialdN hX dX6_hears_134 (by assumption) (nI_add _ _) (by omega) (by first | decide | omega) ?_
              refine g_ishl hX dX6_hears_135 ?_
              have eb : nI 1 <<< (I (κ.2.1 m 0) (14 + t) &&& 31) = bit1 (I (κ.2.1 m 0) (14 + t)).toNatClampNeg := by rw [eof, nI_clamp (by omega)]; rfl
              rw [eb]
              refine g_iconst (v := (-1)) hX dX6_hears_136 (by decide) ?_
              refine g_ixor hX dX6_hears_137 ?_
              refine g_iand hX dX6_hears_138 ?_
              refine g_goto 143 hX dX6_hears_139 (by decide) ?_
              refine g_ior hX dX6_hears_143 ?_
              refine g_istore_n (lv' := [(3, .int _), (7, .int _), (6, .int _), (4, .int _), (5, .int _), (0, .ref _), (1, .int _), (2, .int _)]) hX dX6_hears_144 rfl (by decide) rfl ?_
              refine g_iinc (lv' := [(6, .int _), (3, .int _), (7, .int _), (4, .int _), (5, .int _), (0, .ref _), (1, .int _), (2, .int _)]) hX dX6_hears_145 rfl (by first | exact nI_inc _ | rfl) (by decide) rfl ?_
              refine g_goto 54 hX dX6_hears_148 (by decide) ?_
              refine g_pick [0, 1, 3, 4, 5, 6, 7] rfl ?_
              have := ih (P - (x + 1)) (by omega) (x + 1) rfl (by omega)
              rw [hacc, if_pos ⟨c72, c85, c99⟩] at this
              exact this

set_option maxHeartbeats 4000000 in
set_option maxRecDepth 100000 in
theorem lp_X6_hears_30 {Γ : Ga} {d : Nat} {κ : Kp} {Q : Option Value → Kp → Ip → Prop} {X : Cx} {I : Ip} {m P T t p : Nat} (hM : Mx Γ (d + 1) mX6_hears Q X) (hMo : MoK κ m) (hw : WfT (I (κ.2.1 m 0)) P T) (hs : WfS (I (κ.2.1 m 2)) P T) (ht : t < T) (hp : p < P) (hq : Q (some (.int (firstI 7 (fun n => bt (hit (I (κ.2.1 m 0)) (I (κ.2.1 m 2)) t P n) p)))) κ I) : ∀ (n : Nat) (k : Nat), n = 7 - k → k ≤ 7 → (∀ i, i < k → bt (hit (I (κ.2.1 m 0)) (I (κ.2.1 m 2)) t P i) p = false) → GW Γ mX6_hears X 30 [(4, .int (nI k)), (3, .int (hit (I (κ.2.1 m 0)) (I (κ.2.1 m 2)) t P k)), (0, .ref (m)), (1, .int (nI t)), (2, .int (nI p))] [] κ (I) 0 0 := by
  have hX := hM.std
  have hR := hM.room
  intro n
  induction n using Nat.strongRecOn with
  | ind n ih =>
    intro k hn hk hno
    obtain ⟨hm, hm0, ⟨k0, n0⟩, ⟨k1, n1⟩, ⟨k2, n2⟩, ⟨k3, n3⟩, ⟨k4, n4⟩, ⟨k6, n6⟩, ⟨k8, n8⟩, ⟨k14, n14⟩, ⟨k15, n15⟩, ⟨k16, n16⟩, d01, d23, d614, d1516⟩ := id hMo
    obtain ⟨hw0, hw1, hP, hT, -⟩ := id hw
    refine g_iload hX dX6_hears_30 rfl ?_
    refine g_bipush (v := nI 7) hX dX6_hears_32 (by decide) ?_
    refine g_icmpge 157 hX dX6_hears_34 (by decide) (fun c34 => ?_) (fun c34 => ?_)
    · rw [nI_leI (by omega) (by omega)] at c34
      refine g_bipush (v := (-4)) hX dX6_hears_157 (by decide) ?_
      refine g_iret hM dX6_hears_159 rfl (rfl) ⟨Nat.le_of_ble_eq_true rfl, Nat.le_of_ble_eq_true rfl⟩ ?_
      have e : k = 7 := by omega
      subst e
      exact q_int (first_no hno) hq
    · rw [nI_leI (by omega) (by omega)] at c34
      refine g_iload_n hX dX6_hears_37 rfl rfl ?_
      refine g_iload_n hX dX6_hears_38 rfl rfl ?_
      refine g_callS (md' := mX6_has) (As := [.int _, .int _]) hX hR dX6_hears_39 clX6_105 okX6_has rfl rfl (Nat.le_of_ble_eq_true rfl) (Nat.le_of_ble_eq_true rfl) ⟨Nat.le_of_ble_eq_true rfl, Nat.le_of_ble_eq_true rfl⟩ ?_
      refine sp_X6_has (by omega) ?_
      change GW _ _ _ 42 _ [.int _] _ _ 0 0
      refine g_ifeq 48 hX dX6_hears_42 (by decide) (fun c42 => ?_) (fun c42 => ?_)
      · first | (rw [b2i_n0] at c42) | (rw [b2i_0] at c42)
        refine g_iload_n hX dX6_hears_48 rfl rfl ?_
        refine g_istore (lv' := [(5, .int _), (4, .int _), (3, .int _), (0, .ref _), (1, .int _), (2, .int _)]) hX dX6_hears_49 (by decide) rfl ?_
        refine g_iconst (v := nI 0) hX dX6_hears_51 (by decide) ?_
        refine g_istore (lv' := [(6, .int _), (5, .int _), (4, .int _), (3, .int _), (0, .ref _), (1, .int _), (2, .int _)]) hX dX6_hears_52 (by decide) rfl ?_
        refine g_pick [0, 3, 2, 1, 4, 5, 6] rfl ?_
        refine lp_X6_hears_54 (t := t) (p := p) hM hMo hw hs ht hp ?_ P 0 (Nat.sub_zero P).symm (Nat.zero_le _)
        refine g_iinc (lv' := [(4, .int _), (6, .int _), (3, .int _), (5, .int _), (0, .ref _), (1, .int _), (2, .int _)]) hX dX6_hears_151 rfl (by first | exact nI_inc _ | rfl) (by decide) rfl ?_
        refine g_goto 30 hX dX6_hears_154 (by decide) ?_
        refine g_pick [0, 2, 4, 5, 6] rfl (ih (7 - (k + 1)) (by omega) (k + 1) rfl (by omega) (fun i hi => ?_))
        by_cases e : i = k
        · subst e; exact c42
        · exact hno i (by omega)
      · first | (rw [b2i_n0] at c42) | (rw [b2i_0] at c42)
        refine g_iload hX dX6_hears_45 rfl ?_
        refine g_iret hM dX6_hears_47 rfl (rfl) ⟨Nat.le_of_ble_eq_true rfl, Nat.le_of_ble_eq_true rfl⟩ ?_
        exact q_int (first_at (by omega) c42 hno) hq

set_option maxHeartbeats 4000000 in
set_option maxRecDepth 100000 in
theorem sp_X6_hears {Γ : Ga} {d : Nat} {κ : Kp} {I : Ip} {Q : Option Value → Kp → Ip → Prop} {m P T : Nat} {x y : Int32} (hMo : MoK κ m) (hw : WfT (I (κ.2.1 m 0)) P T) (hs : WfS (I (κ.2.1 m 2)) P T) (hq : Q (some (.int (hearsA (I (κ.2.1 m 0)) (I (κ.2.1 m 2)) P T x y))) κ I) : Sp Γ (d + 3) mX6_hears [.ref (m), .int (x), .int (y)] κ I Q := by
  obtain ⟨hm, hm0, ⟨k0, n0⟩, ⟨k1, n1⟩, ⟨k2, n2⟩, ⟨k3, n3⟩, ⟨k4, n4⟩, ⟨k6, n6⟩, ⟨k8, n8⟩, ⟨k14, n14⟩, ⟨k15, n15⟩, ⟨k16, n16⟩, d01, d23, d614, d1516⟩ := id hMo
  obtain ⟨hw0, hw1, hP, hT, -⟩ := id hw
  intro X hM
  have hX := hM.std
  have hR := hM.room
  show GW _ mX6_hears X 0 [(0, .ref (m)), (1, .int (x)), (2, .int (y))] [] _ _ 0 0
  refine g_aload_n hX dX6_hears_0 rfl rfl ?_
  refine g_iload_n hX dX6_hears_1 rfl rfl ?_
  refine g_callV (md' := mX6_isTaleOf) (ci := 6) (As := [.int _]) hX hR dX6_hears_2 clX6_137 okX6_isTaleOf rfl (by assumption) rfl rfl (Nat.le_of_ble_eq_true rfl) (Nat.le_of_ble_eq_true rfl) ⟨Nat.le_of_ble_eq_true rfl, Nat.le_of_ble_eq_true rfl⟩ ?_
  refine sp_X6_isTaleOf hMo hw1 (by omega) ?_
  change GW _ _ _ 5 _ [.int _] _ _ 0 0
  refine g_ifeq 16 hX dX6_hears_5 (by decide) (fun c5 => ?_) (fun c5 => ?_)
  · first | (rw [b2i_n0, decide_eq_true_eq] at c5) | (rw [b2i_0, decide_eq_false_iff_not] at c5)
    refine g_iconst (v := (-1)) hX dX6_hears_16 (by decide) ?_
    refine g_iret hM dX6_hears_17 rfl (rfl) ⟨Nat.le_of_ble_eq_true rfl, Nat.le_of_ble_eq_true rfl⟩ ?_
    refine q_int ?_ hq
    rw [hearsA, if_neg (fun e => c5 e.1)]
  · first | (rw [b2i_n0, decide_eq_true_eq] at c5) | (rw [b2i_0, decide_eq_false_iff_not] at c5)
    refine g_aload_n hX dX6_hears_8 rfl rfl ?_
    refine g_iload_n hX dX6_hears_9 rfl rfl ?_
    refine g_callV (md' := mX6_isOne) (ci := 6) (As := [.int _]) hX hR dX6_hears_10 clX6_128 okX6_isOne rfl (by assumption) rfl rfl (Nat.le_of_ble_eq_true rfl) (Nat.le_of_ble_eq_true rfl) ⟨Nat.le_of_ble_eq_true rfl, Nat.le_of_ble_eq_true rfl⟩ ?_
    refine sp_X6_isOne hMo hw0 (by omega) ?_
    change GW _ _ _ 13 _ [.int _] _ _ 0 0
    refine g_ifne 18 hX dX6_hears_13 (by decide) (fun c13 => ?_) (fun c13 => ?_)
    · rw [b2i_n0, decide_eq_true_eq] at c13
      obtain ⟨t, ht, rfl⟩ := inN_of c5
      obtain ⟨p, hp, rfl⟩ := inN_of c13
      refine g_aload_n hX dX6_hears_18 rfl rfl ?_
      refine g_getR hX dX6_hears_19 flX6_16 (by assumption) rfl (by first | assumption | rfl) (by assumption) ?_
      refine g_iconst (v := nI 0) hX dX6_hears_22 (by decide) ?_
      refine g_iload_n hX dX6_hears_23 rfl rfl ?_
      refine g_iadd hX dX6_hears_24 ?_
      refine g_ialdN hX dX6_hears_25 (by assumption) (nI_z _) (by omega) (by first | decide | omega) ?_
      refine g_istore_n (lv' := [(3, .int _), (0, .ref _), (1, .int _), (2, .int _)]) hX dX6_hears_26 rfl (by decide) rfl ?_
      refine g_iconst (v := nI 0) hX dX6_hears_27 (by decide) ?_
      refine g_istore (lv' := [(4, .int _), (3, .int _), (0, .ref _), (1, .int _), (2, .int _)]) hX dX6_hears_28 (by decide) rfl ?_
      refine g_pick [0, 1, 2, 3, 4] rfl (lp_X6_hears_30 hM hMo hw hs ht hp (q_int ?_ hq) 7 0 rfl (by omega) (fun i hi => by omega))
      rw [hearsA, if_pos ⟨c5, c13⟩, nI_clamp (by omega), nI_clamp (by omega)]
    · rw [b2i_0, decide_eq_false_iff_not] at c13
      refine g_iconst (v := (-1)) hX dX6_hears_16 (by decide) ?_
      refine g_iret hM dX6_hears_17 rfl (rfl) ⟨Nat.le_of_ble_eq_true rfl, Nat.le_of_ble_eq_true rfl⟩ ?_
      refine q_int ?_ hq
      rw [hearsA, if_neg (fun e => c13 e.2)]

set_option maxHeartbeats 4000000 in
set_option maxRecDepth 100000 in
theorem lp_X6_cost_34 {Γ : Ga} {d : Nat} {κ : Kp} {Q : Option Value → Kp → Ip → Prop} {X : Cx} {I : Ip} {m P T c : Nat} {x : Int32} (hM : Mx Γ (d + 7) mX6_cost Q X) (hMo : MoK κ m) (hw : WfT (I (κ.2.1 m 0)) P T) (hs : WfS (I (κ.2.1 m 2)) P T) (hc : c < 1000) (hq : ∀ J : Ip, MFr κ m I J → Q (some (.int (if x = 0 then (costF (I (κ.2.1 m 0)) (I (κ.2.1 m 2)) P T c T).1 else (costF (I (κ.2.1 m 0)) (I (κ.2.1 m 2)) P T c T).2))) κ J) : ∀ (n : Nat) (k : Nat) (J : Ip), n = T - k → k ≤ T → MFr κ m I J → GW Γ mX6_cost X 34 [(5, .int (nI k)), (3, .int ((costF (I (κ.2.1 m 0)) (I (κ.2.1 m 2)) P T c k).1)), (4, .int ((costF (I (κ.2.1 m 0)) (I (κ.2.1 m 2)) P T c k).2)), (0, .ref (m)), (1, .int (nI c)), (2, .int (x))] [] κ (J) 0 0 := by
  have hX := hM.std
  have hR := hM.room
  intro n
  induction n using Nat.strongRecOn with
  | ind n ih =>
    intro k J hn hk hf
    obtain ⟨hm, hm0, ⟨k0, n0⟩, ⟨k1, n1⟩, ⟨k2, n2⟩, ⟨k3, n3⟩, ⟨k4, n4⟩, ⟨k6, n6⟩, ⟨k8, n8⟩, ⟨k14, n14⟩, ⟨k15, n15⟩, ⟨k16, n16⟩, d01, d23, d614, d1516⟩ := id hMo
    obtain ⟨hw0, hw1, hP, hT, -⟩ := id hw
    have ew := hf.w hMo
    have es := hf.s hMo
    refine g_iload hX dX6_cost_34 rfl ?_
    refine g_aload_n hX dX6_cost_36 rfl rfl ?_
    refine g_getR hX dX6_cost_37 flX6_7 (by assumption) rfl (by first | assumption | rfl) (by assumption) ?_
    refine g_iconst (v := nI 1) hX dX6_cost_40 (by decide) ?_
    refine g_ialdN hX dX6_cost_41 (by assumption) (rfl) (by omega) (by first | decide | omega) ?_
    refine g_icmpge 132 hX dX6_cost_42 (by decide) (fun c42 => ?_) (fun c42 => ?_)
    · rw [ew, hw1, nI_leI (by omega) (by omega)] at c42
      refine g_iload_n hX dX6_cost_132 rfl rfl ?_
      refine g_ifne 140 hX dX6_cost_133 (by decide) (fun c133 => ?_) (fun c133 => ?_)
      · refine g_iload hX dX6_cost_140 rfl ?_
        refine g_iret hM dX6_cost_142 rfl (rfl) ⟨Nat.le_of_ble_eq_true rfl, Nat.le_of_ble_eq_true rfl⟩ ?_
        have e : k = T := by omega
        subst e
        exact q_int (by rw [if_neg c133]) (hq J hf)
      · refine g_iload_n hX dX6_cost_136 rfl rfl ?_
        refine g_goto 142 hX dX6_cost_137 (by decide) ?_
        refine g_iret hM dX6_cost_142 rfl (rfl) ⟨Nat.le_of_ble_eq_true rfl, Nat.le_of_ble_eq_true rfl⟩ ?_
        have e : k = T := by omega
        subst e
        exact q_int (by rw [if_pos c133]) (hq J hf)
    · rw [ew, hw1, nI_leI (by omega) (by omega)] at c42
      refine g_aload_n hX dX6_cost_45 rfl rfl ?_
      refine g_getR hX dX6_cost_46 flX6_16 (by assumption) rfl (by first | assumption | rfl) (by assumption) ?_
      refine g_bipush (v := nI 9) hX dX6_cost_49 (by decide) ?_
      refine g_ialdN hX dX6_cost_51 (by assumption) (rfl) (by omega) (by first | decide | omega) ?_
      refine g_iload hX dX6_cost_52 rfl ?_
      refine g_callS (md' := mX6_has) (As := [.int _, .int _]) hX hR dX6_cost_54 clX6_105 okX6_has rfl rfl (Nat.le_of_ble_eq_true rfl) (Nat.le_of_ble_eq_true rfl) ⟨Nat.le_of_ble_eq_true rfl, Nat.le_of_ble_eq_true rfl⟩ ?_
      refine sp_X6_has (by omega) ?_
      change GW _ _ _ 57 _ [.int _] _ _ 0 0
      refine g_ifne 126 hX dX6_cost_57 (by decide) (fun c57 => ?_) (fun c57 => ?_)
      · first | (rw [b2i_n0] at c57) | (rw [b2i_0] at c57)
        refine g_iinc (lv' := [(5, .int _), (3, .int _), (4, .int _), (0, .ref _), (1, .int _), (2, .int _)]) hX dX6_cost_126 rfl (by first | exact nI_inc _ | rfl) (by decide) rfl ?_
        refine g_goto 34 hX dX6_cost_129 (by decide) ?_
        refine g_pick [0, 1, 2, 3, 4, 5] rfl ?_
        have := ih (T - (k + 1)) (by omega) (k + 1) J rfl (by omega) hf
        rw [costF, if_pos (by rw [← es]; exact c57)] at this
        exact this
      · first | (rw [b2i_n0] at c57) | (rw [b2i_0] at c57)
        refine g_aload_n hX dX6_cost_60 rfl rfl ?_
        refine g_iload_n hX dX6_cost_61 rfl rfl ?_
        refine g_aload_n hX dX6_cost_62 rfl rfl ?_
        refine g_getR hX dX6_cost_63 flX6_16 (by assumption) rfl (by first | assumption | rfl) (by assumption) ?_
        refine g_bipush (v := nI 9) hX dX6_cost_66 (by decide) ?_
        refine g_ialdN hX dX6_cost_68 (by assumption) (rfl) (by omega) (by first | decide | omega) ?_
        refine g_iconst (v := nI 1) hX dX6_cost_69 (by decide) ?_
        refine g_iload hX dX6_cost_70 rfl ?_
        refine g_ishl hX dX6_cost_72 ?_
        refine g_ior hX dX6_cost_73 ?_
        refine g_callV (md' := mX6_finds) (ci := 6) (As := [.int _, .int _]) hX hR dX6_cost_74 clX6_208 okX6_finds rfl (by assumption) rfl rfl (Nat.le_of_ble_eq_true rfl) (Nat.le_of_ble_eq_true rfl) ⟨Nat.le_of_ble_eq_true rfl, Nat.le_of_ble_eq_true rfl⟩ ?_
        refine sp_X6_finds (P := P) (T := T) hMo (by rw [ew]; exact hw) (by rw [es]; exact hs) hc (fun i hi => ?_) (fun K hf2 g12 g13 => ?_)
        · rw [b_or] at hi
          simp only [Bool.or_eq_true] at hi
          rcases hi with hi | hi
          · rw [es] at hi; exact hs.2.1 i hi
          · rw [show nI 1 <<< (nI k &&& 31) = bit1 k from rfl, bt_bit1 (by omega), decide_eq_true_eq] at hi; omega
        rw [ew, es] at g13
        change GW _ _ _ 77 _ [] _ _ 0 0
        refine g_aload_n hX dX6_cost_77 rfl rfl ?_
        refine g_getI hX dX6_cost_78 flX6_205 (by assumption) rfl ?_
        refine g_bipush (v := (-4)) hX dX6_cost_81 (by decide) ?_
        refine g_icmpne 90 hX dX6_cost_83 (by decide) (fun c83 => ?_) (fun c83 => ?_)
        · refine g_aload_n hX dX6_cost_90 rfl rfl ?_
          refine g_getI hX dX6_cost_91 flX6_205 (by assumption) rfl ?_
          have em : muchF (I (κ.2.1 m 0)) (I (κ.2.1 m 2)) P T c k = K m 13 := by unfold muchF; exact (if_neg (fun e => c83 (g13.trans e))).trans g13.symm
          rw [← em]
          refine g_istore (lv' := [(6, .int _), (5, .int _), (3, .int _), (4, .int _), (0, .ref _), (1, .int _), (2, .int _)]) hX dX6_cost_94 (by decide) rfl ?_
          refine g_iload hX dX6_cost_96 rfl ?_
          refine g_iload hX dX6_cost_98 rfl ?_
          refine g_icmple 108 hX dX6_cost_100 (by decide) (fun c100 => ?_) (fun c100 => ?_)
          · refine g_iload_n hX dX6_cost_108 rfl rfl ?_
            refine g_istore_n (lv' := [(3, .int _), (6, .int _), (5, .int _), (4, .int _), (0, .ref _), (1, .int _), (2, .int _)]) hX dX6_cost_109 rfl (by decide) rfl ?_
            refine g_iload hX dX6_cost_110 rfl ?_
            refine g_iload hX dX6_cost_112 rfl ?_
            refine g_icmple 122 hX dX6_cost_114 (by decide) (fun c114 => ?_) (fun c114 => ?_)
            · refine g_iload hX dX6_cost_122 rfl ?_
              refine g_istore (lv' := [(4, .int _), (3, .int _), (6, .int _), (5, .int _), (0, .ref _), (1, .int _), (2, .int _)]) hX dX6_cost_124 (by decide) rfl ?_
              refine g_iinc (lv' := [(5, .int _), (4, .int _), (3, .int _), (6, .int _), (0, .ref _), (1, .int _), (2, .int _)]) hX dX6_cost_126 rfl (by first | exact nI_inc _ | rfl) (by decide) rfl ?_
              refine g_goto 34 hX dX6_cost_129 (by decide) ?_
              refine g_pick [0, 2, 1, 4, 5, 6] rfl ?_
              have := ih (T - (k + 1)) (by omega) (k + 1) K rfl (by omega) (hf.tr hf2)
              rw [costF, if_neg (by rw [← es, c57]; decide), if_neg (fun e => Int32_nle.mpr e c100), if_neg (fun e => Int32_nle.mpr e c100)] at this
              exact this
            · exact absurd c100 c114
          · refine g_iload hX dX6_cost_103 rfl ?_
            refine g_goto 109 hX dX6_cost_105 (by decide) ?_
            refine g_istore_n (lv' := [(3, .int _), (6, .int _), (5, .int _), (4, .int _), (0, .ref _), (1, .int _), (2, .int _)]) hX dX6_cost_109 rfl (by decide) rfl ?_
            refine g_iload hX dX6_cost_110 rfl ?_
            refine g_iload hX dX6_cost_112 rfl ?_
            refine g_icmple 122 hX dX6_cost_114 (by decide) (fun c114 => ?_) (fun c114 => ?_)
            · exact absurd c114 c100
            · refine g_iload hX dX6_cost_117 rfl ?_
              refine g_goto 124 hX dX6_cost_119 (by decide) ?_
              refine g_istore (lv' := [(4, .int _), (3, .int _), (6, .int _), (5, .int _), (0, .ref _), (1, .int _), (2, .int _)]) hX dX6_cost_124 (by decide) rfl ?_
              refine g_iinc (lv' := [(5, .int _), (4, .int _), (3, .int _), (6, .int _), (0, .ref _), (1, .int _), (2, .int _)]) hX dX6_cost_126 rfl (by first | exact nI_inc _ | rfl) (by decide) rfl ?_
              refine g_goto 34 hX dX6_cost_129 (by decide) ?_
              refine g_pick [0, 2, 1, 4, 5, 6] rfl ?_
              have := ih (T - (k + 1)) (by omega) (k + 1) K rfl (by omega) (hf.tr hf2)
              rw [costF, if_neg (by rw [← es, c57]; decide), if_pos (Int32_nle.mp c100), if_pos (Int32_nle.mp c100)] at this
              exact this
        · refine g_iconst (v := nI 0) hX dX6_cost_86 (by decide) ?_
          refine g_goto 94 hX dX6_cost_87 (by decide) ?_
          have em : muchF (I (κ.2.1 m 0)) (I (κ.2.1 m 2)) P T c k = nI 0 := by unfold muchF; exact if_pos (g13.symm.trans c83)
          rw [← em]
          refine g_istore (lv' := [(6, .int _), (5, .int _), (3, .int _), (4, .int _), (0, .ref _), (1, .int _), (2, .int _)]) hX dX6_cost_94 (by decide) rfl ?_
          refine g_iload hX dX6_cost_96 rfl ?_
          refine g_iload hX dX6_cost_98 rfl ?_
          refine g_icmple 108 hX dX6_cost_100 (by decide) (fun c100 => ?_) (fun c100 => ?_)
          · refine g_iload_n hX dX6_cost_108 rfl rfl ?_
            refine g_istore_n (lv' := [(3, .int _), (6, .int _), (5, .int _), (4, .int _), (0, .ref _), (1, .int _), (2, .int _)]) hX dX6_cost_109 rfl (by decide) rfl ?_
            refine g_iload hX dX6_cost_110 rfl ?_
            refine g_iload hX dX6_cost_112 rfl ?_
            refine g_icmple 122 hX dX6_cost_114 (by decide) (fun c114 => ?_) (fun c114 => ?_)
            · refine g_iload hX dX6_cost_122 rfl ?_
              refine g_istore (lv' := [(4, .int _), (3, .int _), (6, .int _), (5, .int _), (0, .ref _), (1, .int _), (2, .int _)]) hX dX6_cost_124 (by decide) rfl ?_
              refine g_iinc (lv' := [(5, .int _), (4, .int _), (3, .int _), (6, .int _), (0, .ref _), (1, .int _), (2, .int _)]) hX dX6_cost_126 rfl (by first | exact nI_inc _ | rfl) (by decide) rfl ?_
              refine g_goto 34 hX dX6_cost_129 (by decide) ?_
              refine g_pick [0, 2, 1, 4, 5, 6] rfl ?_
              have := ih (T - (k + 1)) (by omega) (k + 1) K rfl (by omega) (hf.tr hf2)
              rw [costF, if_neg (by rw [← es, c57]; decide), if_neg (fun e => Int32_nle.mpr e c100), if_neg (fun e => Int32_nle.mpr e c100)] at this
              exact this
            · exact absurd c100 c114
          · refine g_iload hX dX6_cost_103 rfl ?_
            refine g_goto 109 hX dX6_cost_105 (by decide) ?_
            refine g_istore_n (lv' := [(3, .int _), (6, .int _), (5, .int _), (4, .int _), (0, .ref _), (1, .int _), (2, .int _)]) hX dX6_cost_109 rfl (by decide) rfl ?_
            refine g_iload hX dX6_cost_110 rfl ?_
            refine g_iload hX dX6_cost_112 rfl ?_
            refine g_icmple 122 hX dX6_cost_114 (by decide) (fun c114 => ?_) (fun c114 => ?_)
            · exact absurd c114 c100
            · refine g_iload hX dX6_cost_117 rfl ?_
              refine g_goto 124 hX dX6_cost_119 (by decide) ?_
              refine g_istore (lv' := [(4, .int _), (3, .int _), (6, .int _), (5, .int _), (0, .ref _), (1, .int _), (2, .int _)]) hX dX6_cost_124 (by decide) rfl ?_
              refine g_iinc (lv' := [(5, .int _), (4, .int _), (3, .int _), (6, .int _), (0, .ref _), (1, .int _), (2, .int _)]) hX dX6_cost_126 rfl (by first | exact nI_inc _ | rfl) (by decide) rfl ?_
              refine g_goto 34 hX dX6_cost_129 (by decide) ?_
              refine g_pick [0, 2, 1, 4, 5, 6] rfl ?_
              have := ih (T - (k + 1)) (by omega) (k + 1) K rfl (by omega) (hf.tr hf2)
              rw [costF, if_neg (by rw [← es, c57]; decide), if_pos (Int32_nle.mp c100), if_pos (Int32_nle.mp c100)] at this
              exact this

set_option maxHeartbeats 4000000 in
set_option maxRecDepth 100000 in
theorem sp_X6_cost {Γ : Ga} {d : Nat} {κ : Kp} {I : Ip} {Q : Option Value → Kp → Ip → Prop} {m P T : Nat} {n x : Int32} (hMo : MoK κ m) (hw : WfT (I (κ.2.1 m 0)) P T) (hs : WfS (I (κ.2.1 m 2)) P T) (hq : ∀ J : Ip, MFr κ m I J → Q (some (.int (costA (I (κ.2.1 m 0)) (I (κ.2.1 m 2)) P T n x))) κ J) : Sp Γ (d + 7) mX6_cost [.ref (m), .int (n), .int (x)] κ I Q := by
  obtain ⟨hm, hm0, ⟨k0, n0⟩, ⟨k1, n1⟩, ⟨k2, n2⟩, ⟨k3, n3⟩, ⟨k4, n4⟩, ⟨k6, n6⟩, ⟨k8, n8⟩, ⟨k14, n14⟩, ⟨k15, n15⟩, ⟨k16, n16⟩, d01, d23, d614, d1516⟩ := id hMo
  obtain ⟨hw0, hw1, hP, hT, -⟩ := id hw
  intro X hM
  have hX := hM.std
  have hR := hM.room
  show GW _ mX6_cost X 0 [(0, .ref (m)), (1, .int (n)), (2, .int (x))] [] _ _ 0 0
  refine g_iload_n hX dX6_cost_0 rfl rfl ?_
  refine g_i2l hX dX6_cost_1 ?_
  refine g_lconst (v := 1) hX dX6_cost_2 (by decide) ?_
  refine g_ldc2 hX dX6_cost_3 kX6_181 ?_
  refine g_callS (md' := mX6_in) (As := [.long _, .long _, .long _]) hX hR dX6_cost_6 clX6_73 okX6_in rfl rfl (Nat.le_of_ble_eq_true rfl) (Nat.le_of_ble_eq_true rfl) ⟨Nat.le_of_ble_eq_true rfl, Nat.le_of_ble_eq_true rfl⟩ ?_
  refine sp_X6_inR 1 60 rfl rfl ?_
  change GW _ _ _ 9 _ [.int _] _ _ 0 0
  refine g_ifeq 22 hX dX6_cost_9 (by decide) (fun c9 => ?_) (fun c9 => ?_)
  · first | (rw [b2i_n0, decide_eq_true_eq] at c9) | (rw [b2i_0, decide_eq_false_iff_not] at c9)
    refine g_iconst (v := (-1)) hX dX6_cost_22 (by decide) ?_
    refine g_iret hM dX6_cost_23 rfl (rfl) ⟨Nat.le_of_ble_eq_true rfl, Nat.le_of_ble_eq_true rfl⟩ ?_
    refine q_int ?_ (hq I MFr.rf)
    rw [costA, if_neg (fun e => c9 e.1)]
  · first | (rw [b2i_n0, decide_eq_true_eq] at c9) | (rw [b2i_0, decide_eq_false_iff_not] at c9)
    refine g_iload_n hX dX6_cost_12 rfl rfl ?_
    refine g_i2l hX dX6_cost_13 ?_
    refine g_lconst (v := 0) hX dX6_cost_14 (by decide) ?_
    refine g_lconst (v := 1) hX dX6_cost_15 (by decide) ?_
    refine g_callS (md' := mX6_in) (As := [.long _, .long _, .long _]) hX hR dX6_cost_16 clX6_73 okX6_in rfl rfl (Nat.le_of_ble_eq_true rfl) (Nat.le_of_ble_eq_true rfl) ⟨Nat.le_of_ble_eq_true rfl, Nat.le_of_ble_eq_true rfl⟩ ?_
    refine sp_X6_inR 0 1 rfl rfl ?_
    change GW _ _ _ 19 _ [.int _] _ _ 0 0
    refine g_ifne 24 hX dX6_cost_19 (by decide) (fun c19 => ?_) (fun c19 => ?_)
    · rw [b2i_n0, decide_eq_true_eq] at c19
      obtain ⟨j, hj1, hj2, rfl⟩ := inR_of c9
      refine g_bipush (v := (-4)) hX dX6_cost_24 (by decide) ?_
      refine g_istore_n (lv' := [(3, .int _), (0, .ref _), (1, .int _), (2, .int _)]) hX dX6_cost_26 rfl (by decide) rfl ?_
      refine g_bipush (v := (-4)) hX dX6_cost_27 (by decide) ?_
      refine g_istore (lv' := [(4, .int _), (3, .int _), (0, .ref _), (1, .int _), (2, .int _)]) hX dX6_cost_29 (by decide) rfl ?_
      refine g_iconst (v := nI 0) hX dX6_cost_31 (by decide) ?_
      refine g_istore (lv' := [(5, .int _), (4, .int _), (3, .int _), (0, .ref _), (1, .int _), (2, .int _)]) hX dX6_cost_32 (by decide) rfl ?_
      refine g_pick [0, 2, 1, 3, 4, 5] rfl (lp_X6_cost_34 hM hMo hw hs (by omega) (fun J hf => ?_) T 0 I (Nat.sub_zero T).symm (Nat.zero_le _) MFr.rf)
      refine q_int ?_ (hq J hf)
      rw [costA, if_pos ⟨c9, c19⟩, nI_clamp (by omega)]
    · rw [b2i_0, decide_eq_false_iff_not] at c19
      refine g_iconst (v := (-1)) hX dX6_cost_22 (by decide) ?_
      refine g_iret hM dX6_cost_23 rfl (rfl) ⟨Nat.le_of_ble_eq_true rfl, Nat.le_of_ble_eq_true rfl⟩ ?_
      refine q_int ?_ (hq I MFr.rf)
      rw [costA, if_neg (fun e => c19 e.2)]
