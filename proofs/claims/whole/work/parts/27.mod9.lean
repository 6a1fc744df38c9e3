set_option maxHeartbeats 4000000 in
set_option maxRecDepth 100000 in
theorem lp_X6_worth_14 {Γ : Ga} {d : Nat} {κ : Kp} {Q : Option Value → Kp → Ip → Prop} {X : Cx} {I : Ip} {m P T code : Nat} (hM : Mx Γ (d + 4) mX6_worth Q X) (hMo : MoK κ m) (hw : WfT (I (κ.2.1 m 0)) P T) (hcode : code < 117650) (hout : ∀ J : Ip, MFr κ m I J → J (κ.2.1 m 14) = I (κ.2.1 m 14) → J (κ.2.1 m 16) = I (κ.2.1 m 16) → (∀ p, p < P → J (κ.2.1 m 15) p = nI (dig P code p)) → GW Γ mX6_worth X 43 [(2, .int (nI P)), (0, .ref m), (1, .int (nI code))] [] κ J 0 0) : ∀ (n : Nat) (k : Nat) (J : Ip), n = P - k → k ≤ P → MFr κ m I J → J (κ.2.1 m 14) = I (κ.2.1 m 14) → J (κ.2.1 m 16) = I (κ.2.1 m 16) → (∀ p, p < P → P - k ≤ p → J (κ.2.1 m 15) p = nI (dig P code p)) → GW Γ mX6_worth X 14 [(4, .int (nI (P - k) - nI 1)), (3, .int (nI (code / (P + 1) ^ k))), (2, .int (nI P)), (0, .ref (m)), (1, .int (nI code))] [] κ (J) 0 0 := by
  have hX := hM.std
  have hR := hM.room
  intro n
  induction n using Nat.strongRecOn with
  | ind n ih =>
    intro k J hn hk hf e14 e16 hv
    obtain ⟨hm, hm0, ⟨k0, n0⟩, ⟨k1, n1⟩, ⟨k2, n2⟩, ⟨k3, n3⟩, ⟨k4, n4⟩, ⟨k6, n6⟩, ⟨k8, n8⟩, ⟨k14, n14⟩, ⟨k15, n15⟩, ⟨k16, n16⟩, d01, d23, d614, d1516⟩ := id hMo
    obtain ⟨hw0, hw1, hP, hT, -⟩ := id hw
    have hdl : code / (P + 1) ^ k ≤ code := Nat.div_le_self _ _
    have hdd : code / (P + 1) ^ k / (P + 1) = code / (P + 1) ^ (k + 1) := by rw [Nat.div_div_eq_div_mul, Nat.pow_succ]
    refine g_iload hX dX6_worth_14 rfl ?_
    refine g_iflt 43 hX dX6_worth_16 (by decide) (fun c16 => ?_) (fun c16 => ?_)
    · rw [dn_lt (by omega) hk] at c16
      subst c16
      exact g_pick [2, 3, 4] rfl (hout J hf e14 e16 (fun p hp => hv p hp (by omega)))
    · rw [dn_lt (by omega) hk] at c16
      refine g_aload_n hX dX6_worth_19 rfl rfl ?_
      refine g_getR hX dX6_worth_20 flX6_34 (by assumption) rfl (by first | assumption | rfl) (by assumption) ?_
      refine g_iload hX dX6_worth_23 rfl ?_
      refine g_iload_n hX dX6_worth_25 rfl rfl ?_
      refine g_iload_n hX dX6_worth_26 rfl rfl ?_
      refine g_iconst (v := nI 1) hX dX6_worth_27 (by decide) ?_
      refine g_iadd hX dX6_worth_28 ?_
      refine g_irem hX dX6_worth_29 (by rw [nI_add]; exact nI_ne0 (by omega) (by omega)) ?_
      rw [nI_add, nI_rem (by omega) (by omega)]
      refine g_iastN hX dX6_worth_30 (by assumption) ((dn_at (by omega) (by omega))) (by omega) (by first | decide | omega) ?_
      refine g_iload_n hX dX6_worth_31 rfl rfl ?_
      refine g_iload_n hX dX6_worth_32 rfl rfl ?_
      refine g_iconst (v := nI 1) hX dX6_worth_33 (by decide) ?_
      refine g_iadd hX dX6_worth_34 ?_
      refine g_idiv hX dX6_worth_35 (by rw [nI_add]; exact nI_ne0 (by omega) (by omega)) ?_
      rw [nI_add, nI_div (by omega) (by omega), hdd]
      refine g_istore_n (lv' := [(3, .int _), (4, .int _), (2, .int _), (0, .ref _), (1, .int _)]) hX dX6_worth_36 rfl (by decide) rfl ?_
      refine g_iinc (lv' := [(4, .int _), (3, .int _), (2, .int _), (0, .ref _), (1, .int _)]) hX dX6_worth_37 rfl (rfl) (by decide) rfl ?_
      refine g_goto 14 hX dX6_worth_40 (by decide) ?_
      rw [dn_step (by omega)]
      refine g_pick [0, 1, 2, 3, 4] rfl (ih (P - (k + 1)) (by omega) (k + 1) _ rfl (by omega) (hf.row (Or.inr (Or.inr (Or.inr (Or.inl rfl)))) hMo.m15) ?_ ?_ (fun p hp h => ?_))
      · rw [up_ne _ _ (kd_ne k14 k15 (by decide))]; exact e14
      · rw [up_ne _ _ (Ne.symm d1516)]; exact e16
      · rw [up_same]
        by_cases e : p = P - 1 - k
        · subst e
          rw [up_same, dig]
          congr 4
          omega
        · rw [up_ne _ _ e]
          exact hv p hp (by omega)

set_option maxHeartbeats 4000000 in
set_option maxRecDepth 100000 in
theorem lp_X6_worth_49 {Γ : Ga} {d : Nat} {κ : Kp} {Q : Option Value → Kp → Ip → Prop} {X : Cx} {I J : Ip} {m P T : Nat} {cc : Int32} {q : Nat → Nat} {V : Nat → Nat → Int32} (hM : Mx Γ (d + 4) mX6_worth Q X) (hMo : MoK κ m) (hw : WfT (I (κ.2.1 m 0)) P T) (hf : MFr κ m I J) (hv : ∀ p, p < P → J (κ.2.1 m 15) p = nI (q p)) (hqP : ∀ p, q p ≤ P) (hV : ∀ a b, a < b → b < P → J (κ.2.1 m 14) (6 * a + b) = V a b) (hq : Q (some (.int (worthF (lkF (I (κ.2.1 m 0))) V P q))) κ J) : ∀ (n : Nat) (x : Nat), n = P - x → x ≤ P → (∀ p, p < x → vldB (lkF (I (κ.2.1 m 0))) P q p = true) → GW Γ mX6_worth X 49 [(5, .int (nI x)), (4, .int (wsum V P q x)), (2, .int (nI P)), (0, .ref (m)), (1, .int (cc))] [] κ (J) 0 0 := by
  have hX := hM.std
  have hR := hM.room
  intro n
  induction n using Nat.strongRecOn with
  | ind n ih =>
    intro x hn hx hvd
    obtain ⟨hm, hm0, ⟨k0, n0⟩, ⟨k1, n1⟩, ⟨k2, n2⟩, ⟨k3, n3⟩, ⟨k4, n4⟩, ⟨k6, n6⟩, ⟨k8, n8⟩, ⟨k14, n14⟩, ⟨k15, n15⟩, ⟨k16, n16⟩, d01, d23, d614, d1516⟩ := id hMo
    obtain ⟨hw0, hw1, hP, hT, -⟩ := id hw
    have ew := hf.w hMo
    have hq9 := hqP x
    have hqx := hv x
    have hqq := hqP (q x)
    refine g_iload hX dX6_worth_49 rfl ?_
    refine g_iload_n hX dX6_worth_51 rfl rfl ?_
    refine g_icmpge 133 hX dX6_worth_52 (by decide) (fun c52 => ?_) (fun c52 => ?_)
    · rw [nI_leI (by omega) (by omega)] at c52
      refine g_iload hX dX6_worth_133 rfl ?_
      refine g_iret hM dX6_worth_135 rfl (rfl) ⟨Nat.le_of_ble_eq_true rfl, Nat.le_of_ble_eq_true rfl⟩ ?_
      have e : x = P := by omega
      subst e
      refine q_int ?_ hq
      rw [worthF, if_pos (List.all_eq_true.mpr (fun p hp => hvd p (List.mem_range.mp hp)))]
    · rw [nI_leI (by omega) (by omega)] at c52
      refine g_aload_n hX dX6_worth_55 rfl rfl ?_
      refine g_getR hX dX6_worth_56 flX6_34 (by assumption) rfl (by first | assumption | rfl) (by assumption) ?_
      refine g_iload hX dX6_worth_59 rfl ?_
      refine g_ialdN hX dX6_worth_61 (by assumption) (rfl) (by omega) (by first | decide | omega) ?_
      refine g_istore (lv' := [(6, .int _), (5, .int _), (4, .int _), (2, .int _), (0, .ref _), (1, .int _)]) hX dX6_worth_62 (by decide) rfl ?_
      refine g_iload hX dX6_worth_64 rfl ?_
      refine g_iload_n hX dX6_worth_66 rfl rfl ?_
      refine g_icmpge 127 hX dX6_worth_67 (by decide) (fun c67 => ?_) (fun c67 => ?_)
      · rw [hqx (by omega), nI_leI (by omega) (by omega)] at c67
        refine g_iinc (lv' := [(5, .int _), (6, .int _), (4, .int _), (2, .int _), (0, .ref _), (1, .int _)]) hX dX6_worth_127 rfl (by first | exact nI_inc _ | rfl) (by decide) rfl ?_
        refine g_goto 49 hX dX6_worth_130 (by decide) ?_
        refine g_pick [0, 2, 3, 4, 5] rfl ?_
        have := ih (P - (x + 1)) (by omega) (x + 1) rfl (by omega) (fun p hp => ?_)
        · rw [wsum, if_neg (by omega), add_nI0] at this; exact this
        · by_cases e : p = x
          · subst e
            simp [vldB, c67]
          · exact hvd p (by omega)
      · rw [hqx (by omega), nI_leI (by omega) (by omega)] at c67
        refine g_iload hX dX6_worth_70 rfl ?_
        refine g_iload hX dX6_worth_72 rfl ?_
        refine g_icmpeq 100 hX dX6_worth_74 (by decide) (fun c74 => ?_) (fun c74 => ?_)
        · try rw [hqx (by omega)] at c74
          rw [nI_eq (by omega) (by omega)] at c74
          refine g_bipush (v := (-4)) hX dX6_worth_100 (by decide) ?_
          refine g_iret hM dX6_worth_102 rfl (rfl) ⟨Nat.le_of_ble_eq_true rfl, Nat.le_of_ble_eq_true rfl⟩ ?_
          refine q_int ?_ hq
          rw [worthF, if_neg]
          · intro e
            have e1 := List.all_eq_true.mp e x (List.mem_range.mpr (by omega))
            simp only [vldB, Bool.or_eq_true, Bool.and_eq_true, decide_eq_true_eq] at e1
            rcases e1 with e1 | ⟨e1, e2, e3⟩
            · omega
            · exact e1 c74
        · try rw [hqx (by omega)] at c74
          rw [nI_eq (by omega) (by omega)] at c74
          refine g_aload_n hX dX6_worth_77 rfl rfl ?_
          refine g_getR hX dX6_worth_78 flX6_34 (by assumption) rfl (by first | assumption | rfl) (by assumption) ?_
          refine g_iload hX dX6_worth_81 rfl ?_
          refine g_ialdN hX dX6_worth_83 (by assumption) ((hqx (by omega))) (by omega) (by first | decide | omega) ?_
          refine g_iload hX dX6_worth_84 rfl ?_
          refine g_icmpne 100 hX dX6_worth_86 (by decide) (fun c86 => ?_) (fun c86 => ?_)
          · rw [hv (q x) (by omega), nI_eq (by omega) (by omega)] at c86
            refine g_bipush (v := (-4)) hX dX6_worth_100 (by decide) ?_
            refine g_iret hM dX6_worth_102 rfl (rfl) ⟨Nat.le_of_ble_eq_true rfl, Nat.le_of_ble_eq_true rfl⟩ ?_
            refine q_int ?_ hq
            rw [worthF, if_neg]
            · intro e
              have e1 := List.all_eq_true.mp e x (List.mem_range.mpr (by omega))
              simp only [vldB, Bool.or_eq_true, Bool.and_eq_true, decide_eq_true_eq] at e1
              rcases e1 with e1 | ⟨e1, e2, e3⟩
              · omega
              · exact c86 e2
          · rw [hv (q x) (by omega), nI_eq (by omega) (by omega)] at c86
            refine g_aload_n hX dX6_worth_89 rfl rfl ?_
            refine g_iload hX dX6_worth_90 rfl ?_
            refine g_iload hX dX6_worth_92 rfl ?_
            refine g_callV (md' := mX6_likes) (ci := 6) (As := [.int _, .int _]) hX hR dX6_worth_94 clX6_168 okX6_likes rfl (by assumption) rfl rfl (Nat.le_of_ble_eq_true rfl) (Nat.le_of_ble_eq_true rfl) ⟨Nat.le_of_ble_eq_true rfl, Nat.le_of_ble_eq_true rfl⟩ ?_
            rw [hqx (by omega)]
            refine sp_X6_likes hMo (by omega) (by omega) ?_
            rw [ew]
            change GW _ _ _ 97 _ [.int _] _ _ 0 0
            refine g_ifne 103 hX dX6_worth_97 (by decide) (fun c97 => ?_) (fun c97 => ?_)
            · first | (rw [b2i_n0] at c97) | (rw [b2i_0] at c97)
              refine g_iload hX dX6_worth_103 rfl ?_
              refine g_iload hX dX6_worth_105 rfl ?_
              refine g_iload hX dX6_worth_107 rfl ?_
              refine g_icmple 123 hX dX6_worth_109 (by decide) (fun c109 => ?_) (fun c109 => ?_)
              · rw [nI_leI (by omega) (by omega)] at c109
                refine g_iconst (v := nI 0) hX dX6_worth_123 (by decide) ?_
                refine g_iadd hX dX6_worth_124 ?_
                refine g_istore (lv' := [(4, .int _), (6, .int _), (5, .int _), (2, .int _), (0, .ref _), (1, .int _)]) hX dX6_worth_125 (by decide) rfl ?_
                refine g_iinc (lv' := [(5, .int _), (4, .int _), (6, .int _), (2, .int _), (0, .ref _), (1, .int _)]) hX dX6_worth_127 rfl (by first | exact nI_inc _ | rfl) (by decide) rfl ?_
                refine g_goto 49 hX dX6_worth_130 (by decide) ?_
                refine g_pick [0, 1, 3, 4, 5] rfl ?_
                have := ih (P - (x + 1)) (by omega) (x + 1) rfl (by omega) (fun p hp => ?_)
                · rw [wsum, if_neg (by omega)] at this; exact this
                · by_cases e : p = x
                  · subst e
                    simp only [vldB, Bool.or_eq_true, Bool.and_eq_true, decide_eq_true_eq]
                    exact Or.inr ⟨c74, c86, c97⟩
                  · exact hvd p (by omega)
              · rw [nI_leI (by omega) (by omega)] at c109
                refine g_aload_n hX dX6_worth_112 rfl rfl ?_
                refine g_iload hX dX6_worth_113 rfl ?_
                refine g_iload hX dX6_worth_115 rfl ?_
                refine g_callV (md' := mX6_bringOf) (ci := 6) (As := [.int _, .int _]) hX hR dX6_worth_117 clX6_215 okX6_bringOf rfl (by assumption) rfl rfl (Nat.le_of_ble_eq_true rfl) (Nat.le_of_ble_eq_true rfl) ⟨Nat.le_of_ble_eq_true rfl, Nat.le_of_ble_eq_true rfl⟩ ?_
                refine sp_X6_bringOf hMo (by omega) (by omega) (by omega) ?_
                rw [show 6 * min x (q x) + max x (q x) = 6 * x + q x by omega, hV x (q x) (by omega) (by omega)]
                change GW _ _ _ 120 _ [.int _, .int _] _ _ 0 0
                refine g_goto 124 hX dX6_worth_120 (by decide) ?_
                refine g_iadd hX dX6_worth_124 ?_
                refine g_istore (lv' := [(4, .int _), (6, .int _), (5, .int _), (2, .int _), (0, .ref _), (1, .int _)]) hX dX6_worth_125 (by decide) rfl ?_
                refine g_iinc (lv' := [(5, .int _), (4, .int _), (6, .int _), (2, .int _), (0, .ref _), (1, .int _)]) hX dX6_worth_127 rfl (by first | exact nI_inc _ | rfl) (by decide) rfl ?_
                refine g_goto 49 hX dX6_worth_130 (by decide) ?_
                refine g_pick [0, 1, 3, 4, 5] rfl ?_
                have := ih (P - (x + 1)) (by omega) (x + 1) rfl (by omega) (fun p hp => ?_)
                · rw [wsum, if_pos (by omega)] at this; exact this
                · by_cases e : p = x
                  · subst e
                    simp only [vldB, Bool.or_eq_true, Bool.and_eq_true, decide_eq_true_eq]
                    exact Or.inr ⟨c74, c86, c97⟩
                  · exact hvd p (by omega)
            · first | (rw [b2i_n0] at c97) | (rw [b2i_0] at c97)
              refine g_bipush (v := (-4)) hX dX6_worth_100 (by decide) ?_
              refine g_iret hM dX6_worth_102 rfl (rfl) ⟨Nat.le_of_ble_eq_true rfl, Nat.le_of_ble_eq_true rfl⟩ ?_
              refine q_int ?_ hq
              rw [worthF, if_neg]
              · intro e
                have e1 := List.all_eq_true.mp e x (List.mem_range.mpr (by omega))
                simp only [vldB, Bool.or_eq_true, Bool.and_eq_true, decide_eq_true_eq] at e1
                rcases e1 with e1 | ⟨e1, e2, e3⟩
                · omega
                · rw [show lkF (I (κ.2.1 m 0)) x (q x) = bt (I (κ.2.1 m 0) (8 + x)) (q x) from rfl, c97] at e3; cases e3

set_option maxHeartbeats 4000000 in
set_option maxRecDepth 100000 in
theorem sp_X6_worth {Γ : Ga} {d : Nat} {κ : Kp} {I : Ip} {Q : Option Value → Kp → Ip → Prop} {m P T code : Nat} {V : Nat → Nat → Int32} (hMo : MoK κ m) (hw : WfT (I (κ.2.1 m 0)) P T) (hcode : code < 117650) (hV : ∀ a b, a < b → b < P → I (κ.2.1 m 14) (6 * a + b) = V a b) (hq : ∀ J : Ip, MFr κ m I J → J (κ.2.1 m 14) = I (κ.2.1 m 14) → J (κ.2.1 m 16) = I (κ.2.1 m 16) → (∀ p, p < P → J (κ.2.1 m 15) p = nI (dig P code p)) → Q (some (.int (worthF (lkF (I (κ.2.1 m 0))) V P (dig P code)))) κ J) : Sp Γ (d + 4) mX6_worth [.ref (m), .int (nI code)] κ I Q := by
  obtain ⟨hm, hm0, ⟨k0, n0⟩, ⟨k1, n1⟩, ⟨k2, n2⟩, ⟨k3, n3⟩, ⟨k4, n4⟩, ⟨k6, n6⟩, ⟨k8, n8⟩, ⟨k14, n14⟩, ⟨k15, n15⟩, ⟨k16, n16⟩, d01, d23, d614, d1516⟩ := id hMo
  obtain ⟨hw0, hw1, hP, hT, -⟩ := id hw
  intro X hM
  have hX := hM.std
  have hR := hM.room
  show GW _ mX6_worth X 0 [(0, .ref (m)), (1, .int (nI code))] [] _ _ 0 0
  refine g_aload_n hX dX6_worth_0 rfl rfl ?_
  refine g_getR hX dX6_worth_1 flX6_7 (by assumption) rfl (by first | assumption | rfl) (by assumption) ?_
  refine g_iconst (v := nI 0) hX dX6_worth_4 (by decide) ?_
  refine g_ialdN hX dX6_worth_5 (by assumption) (rfl) (by omega) (by first | decide | omega) ?_
  rw [hw0]
  refine g_istore_n (lv' := [(2, .int _), (0, .ref _), (1, .int _)]) hX dX6_worth_6 rfl (by decide) rfl ?_
  refine g_iload_n hX dX6_worth_7 rfl rfl ?_
  refine g_istore_n (lv' := [(3, .int _), (2, .int _), (0, .ref _), (1, .int _)]) hX dX6_worth_8 rfl (by decide) rfl ?_
  refine g_iload_n hX dX6_worth_9 rfl rfl ?_
  refine g_iconst (v := nI 1) hX dX6_worth_10 (by decide) ?_
  refine g_isub hX dX6_worth_11 ?_
  refine g_istore (lv' := [(4, .int _), (3, .int _), (2, .int _), (0, .ref _), (1, .int _)]) hX dX6_worth_12 (by decide) rfl ?_
  refine g_pick [0, 1, 2, 3, 4] rfl ?_
  have := lp_X6_worth_14 (code := code) hM hMo hw hcode (fun J hf e14 e16 hv => ?_) P 0 I (Nat.sub_zero P).symm (Nat.zero_le _) MFr.rf rfl rfl (fun p hp h => by omega)
  · rw [Nat.pow_zero, Nat.div_one] at this; exact this
  refine g_iconst (v := nI 0) hX dX6_worth_43 (by decide) ?_
  refine g_istore (lv' := [(4, .int _), (2, .int _), (0, .ref _), (1, .int _)]) hX dX6_worth_44 (by decide) rfl ?_
  refine g_iconst (v := nI 0) hX dX6_worth_46 (by decide) ?_
  refine g_istore (lv' := [(5, .int _), (4, .int _), (2, .int _), (0, .ref _), (1, .int _)]) hX dX6_worth_47 (by decide) rfl ?_
  exact g_pick [0, 1, 2, 3, 4] rfl (lp_X6_worth_49 hM hMo hw hf hv (dig_le P code) (fun a b hab hb => by rw [e14]; exact hV a b hab hb) (hq J hf e14 e16 hv) P 0 (Nat.sub_zero P).symm (Nat.zero_le _) (fun p hp => by omega))
