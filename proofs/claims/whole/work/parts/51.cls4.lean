set_option maxHeartbeats 4000000 in
set_option maxRecDepth 100000 in
theorem lp_X2_goOn_2 {Γ : Ga} {d : Nat} {κ : Kp} {Q : Option Value → Kp → Ip → Prop} {X : Cx} {I : Ip} {st tw m : Nat} {P T : Nat} {w s : Nat → Int32} (hM : Mx Γ (d + 4) mX2_goOn Q X) (hSt : StK κ st) (hTw : TwK κ tw) (hSep : Sep κ st tw) (hTR : TwR κ I tw w P T) (hw : WfT w P T) (hs : WfS s P T) (hm : m ≤ 60) (hq : ∀ K' f' : Nat → Int32, SR K' f' (itF w T m s) T → Q none κ (sst κ st I K' f')) : ∀ (n : Nat) (g : Nat) (K f : Nat → Int32), n = m - g → g ≤ m → SR K f (itX w T g s) T → GW Γ mX2_goOn X 2 [(3, .int (nI g)), (0, .ref (st)), (1, .ref (tw)), (2, .int (nI m))] [] κ (sst κ st I K f) 0 0 := by
  have hX := hM.std
  have hR := hM.room
  intro n
  induction n using Nat.strongRecOn with
  | ind n ih =>
    intro g K f hn hg hSR
    obtain ⟨hst, hst0, sk, sk0⟩ := id hSt
    obtain ⟨ht, ht0, ⟨t2, u2⟩, ⟨t3, u3⟩, ⟨t4, u4⟩, ⟨t5, u5⟩, ⟨t6, u6⟩, ⟨t7, u7⟩, ⟨t8, u8⟩⟩ := id hTw
    obtain ⟨hw0, hw1, hP, hT, -⟩ := id hw
    have hwg := wfs_itX hw hs g
    have hwb := wfs_begX hw hwg
    refine g_iload_n hX dX2_goOn_2 rfl rfl ?_
    refine g_iload_n hX dX2_goOn_3 rfl rfl ?_
    refine g_icmpge 56 hX dX2_goOn_4 (by decide) (fun c4 => ?_) (fun c4 => ?_)
    · rw [nI_leI (by omega) (by omega)] at c4
      refine g_aload_n hX dX2_goOn_56 rfl rfl ?_
      refine g_dup hX dX2_goOn_57 rfl ?_
      refine g_getI hX dX2_goOn_58 flX2_43 (by assumption) rfl ?_
      try simp only [sst_st]
      refine g_iload_n hX dX2_goOn_61 rfl rfl ?_
      refine g_iadd hX dX2_goOn_62 ?_
      refine g_putI hX dX2_goOn_63 flX2_43 (by assumption) rfl rfl ?_
      try simp only [sst_st]
      refine g_vret hM dX2_goOn_66 rfl ⟨Nat.le_of_ble_eq_true rfl, Nat.le_of_ble_eq_true rfl⟩ ?_
      have e : g = m := by omega
      subst e
      have hz := hSR.mns hT (x := s 16 + nI g)
      rw [← it_itX hw hs g] at hz
      rw [sst_up]
      refine hq _ _ ?_
      have e8 : f 8 = s 16 := by
        rw [hSR.2.2.2.1]
        exact itX_16 hw hs g
      rw [e8]
      exact hz
    · rw [nI_leI (by omega) (by omega)] at c4
      refine g_aload_n hX dX2_goOn_7 rfl rfl ?_
      refine g_aload_n hX dX2_goOn_8 rfl rfl ?_
      refine g_callV (md' := mX2_beginTale) (ci := 2) (As := [.ref _]) hX hR dX2_goOn_9 clX2_100 okX2_beginTale rfl (by assumption) rfl rfl (Nat.le_of_ble_eq_true rfl) (Nat.le_of_ble_eq_true rfl) ⟨Nat.le_of_ble_eq_true rfl, Nat.le_of_ble_eq_true rfl⟩ ?_
      refine sp_X2_beginTale (P := P) (s := itX w T g s) hSt hTw (hTR.sst hSt hTw hSep) hw hwg (by rw [sst_st, sst_kn hSt]; exact hSR) (fun f1 h1 => ?_)
      rw [sst_kn hSt] at h1
      rw [sst_up]
      change GW _ _ _ 12 _ [] _ _ 0 0
      refine g_aload_n hX dX2_goOn_12 rfl rfl ?_
      refine g_callV (md' := mX2_isTelling) (ci := 2) (As := []) hX hR dX2_goOn_13 clX2_97 okX2_isTelling rfl (by assumption) rfl rfl (Nat.le_of_ble_eq_true rfl) (Nat.le_of_ble_eq_true rfl) ⟨Nat.le_of_ble_eq_true rfl, Nat.le_of_ble_eq_true rfl⟩ ?_
      refine sp_X2_isTelling hSt ?_
      rw [sst_st]
      change GW _ _ _ 16 _ [.int _] _ _ 0 0
      refine g_ifeq 36 hX dX2_goOn_16 (by decide) (fun c16 => ?_) (fun c16 => ?_)
      · rw [b2i_0, decide_eq_false_iff_not, Decidable.not_not, h1.tells hw hwb] at c16
        refine g_iload_n hX dX2_goOn_36 rfl rfl ?_
        refine g_iload_n hX dX2_goOn_37 rfl rfl ?_
        refine g_isub hX dX2_goOn_38 ?_
        rw [nI_subE (k := m - g) (by omega) (by omega)]
        refine g_istore (lv' := [(4, .int _), (3, .int _), (0, .ref _), (1, .ref _), (2, .int _)]) hX dX2_goOn_39 (by decide) rfl ?_
        refine g_aload_n hX dX2_goOn_41 rfl rfl ?_
        refine g_aload_n hX dX2_goOn_42 rfl rfl ?_
        refine g_iload hX dX2_goOn_43 rfl ?_
        refine g_callV (md' := mX2_giveButter) (ci := 2) (As := [.ref _, .int _]) hX hR dX2_goOn_45 clX2_113 okX2_giveButter rfl (by assumption) rfl rfl (Nat.le_of_ble_eq_true rfl) (Nat.le_of_ble_eq_true rfl) ⟨Nat.le_of_ble_eq_true rfl, Nat.le_of_ble_eq_true rfl⟩ ?_
        refine sp_X2_giveButter (P := P) (s := begX w (itX w T g s) T) (k := m - g) hSt hTw (hTR.sst hSt hTw hSep) hw hwb (by rw [sst_st, sst_kn hSt]; exact h1) (by omega) (by omega) (fun l' hl' h13' h14' => ?_) (fun K2 f2 h2 => ?_)
        · exact absurd c16 h13'
        obtain ⟨k2, hk2⟩ : ∃ k2, m - g = k2 + 1 := ⟨m - g - 1, by omega⟩
        have hst2 := step_it hw hwg k2 (fun l' hl' h13' h14' => by exact absurd c16 h13')
        rw [← hk2, ← itX_add] at hst2
        rw [← hst2] at h2
        rw [show va_up (va_up (sst κ st I K f1) (κ.2.1 st 0) K2) st f2 = sst κ st I K2 f2 from sst_sst hSt]
        change GW _ _ _ 48 _ [] _ _ 0 0
        refine g_iload_n hX dX2_goOn_48 rfl rfl ?_
        refine g_iload hX dX2_goOn_49 rfl ?_
        refine g_iadd hX dX2_goOn_51 ?_
        rw [nI_add]
        refine g_istore_n (lv' := [(3, .int _), (4, .int _), (0, .ref _), (1, .ref _), (2, .int _)]) hX dX2_goOn_52 rfl (by decide) rfl ?_
        refine g_goto 2 hX dX2_goOn_53 (by decide) ?_
        exact g_pick [0, 2, 3, 4] rfl (ih (m - (g + (m - g))) (by omega) (g + (m - g)) K2 f2 rfl (by omega) h2)
      · rw [b2i_n0, decide_eq_true_eq, h1.tells hw hwb] at c16
        obtain ⟨h10, a, b, c, o, t, l, -, -, -, -, -, ht', hl1, hl9, h13, h14⟩ := seat_all hw hwb c16
        have e6 := (h1.s2 h10).2.2.2.1
        rw [h14] at e6
        refine g_iload_n hX dX2_goOn_19 rfl rfl ?_
        refine g_iload_n hX dX2_goOn_20 rfl rfl ?_
        refine g_isub hX dX2_goOn_21 ?_
        rw [nI_subE (k := m - g) (by omega) (by omega)]
        refine g_iconst (v := nI 1) hX dX2_goOn_22 (by decide) ?_
        refine g_aload_n hX dX2_goOn_23 rfl rfl ?_
        refine g_getI hX dX2_goOn_24 flX2_52 (by assumption) rfl ?_
        try simp only [sst_st]
        rw [e6]
        refine g_max hX hR dX2_goOn_27 mmX2_104 mmax_st mmath_in mmax_co (Nat.le_of_ble_eq_true rfl) ⟨Nat.le_of_ble_eq_true rfl, Nat.le_of_ble_eq_true rfl⟩ ?_
        refine g_min hX hR dX2_goOn_30 mmX2_110 mmin_st mmath_in mmin_co (Nat.le_of_ble_eq_true rfl) ⟨Nat.le_of_ble_eq_true rfl, Nat.le_of_ble_eq_true rfl⟩ ?_
        refine g_goto 39 hX dX2_goOn_33 (by decide) ?_
        refine g_istore (lv' := [(4, .int _), (3, .int _), (0, .ref _), (1, .ref _), (2, .int _)]) hX dX2_goOn_39 (by decide) rfl ?_
        refine g_aload_n hX dX2_goOn_41 rfl rfl ?_
        refine g_aload_n hX dX2_goOn_42 rfl rfl ?_
        refine g_iload hX dX2_goOn_43 rfl ?_
        refine g_callV (md' := mX2_giveButter) (ci := 2) (As := [.ref _, .int _]) hX hR dX2_goOn_45 clX2_113 okX2_giveButter rfl (by assumption) rfl rfl (Nat.le_of_ble_eq_true rfl) (Nat.le_of_ble_eq_true rfl) ⟨Nat.le_of_ble_eq_true rfl, Nat.le_of_ble_eq_true rfl⟩ ?_
        rw [max1 hl1 (by omega), min1 (by omega) (by omega)]
        refine sp_X2_giveButter (P := P) (s := begX w (itX w T g s) T) (k := min (m - g) l) hSt hTw (hTR.sst hSt hTw hSep) hw hwb (by rw [sst_st, sst_kn hSt]; exact h1) (by omega) (by omega) (fun l' hl' h13' h14' => ?_) (fun K2 f2 h2 => ?_)
        · have := nI_inj (by omega) (by omega) (h14.symm.trans h14'); omega
        obtain ⟨k2, hk2⟩ : ∃ k2, min (m - g) l = k2 + 1 := ⟨min (m - g) l - 1, by omega⟩
        have hst2 := step_it hw hwg k2 (fun l' hl' h13' h14' => by have := nI_inj (by omega) (by omega) (h14.symm.trans h14'); omega)
        rw [← hk2, ← itX_add] at hst2
        rw [← hst2] at h2
        rw [show va_up (va_up (sst κ st I K f1) (κ.2.1 st 0) K2) st f2 = sst κ st I K2 f2 from sst_sst hSt]
        change GW _ _ _ 48 _ [] _ _ 0 0
        refine g_iload_n hX dX2_goOn_48 rfl rfl ?_
        refine g_iload hX dX2_goOn_49 rfl ?_
        refine g_iadd hX dX2_goOn_51 ?_
        rw [nI_add]
        refine g_istore_n (lv' := [(3, .int _), (4, .int _), (0, .ref _), (1, .ref _), (2, .int _)]) hX dX2_goOn_52 rfl (by decide) rfl ?_
        refine g_goto 2 hX dX2_goOn_53 (by decide) ?_
        exact g_pick [0, 2, 3, 4] rfl (ih (m - (g + min (m - g) l)) (by omega) (g + min (m - g) l) K2 f2 rfl (by omega) h2)

set_option maxHeartbeats 4000000 in
set_option maxRecDepth 100000 in
theorem sp_X2_goOn {Γ : Ga} {d : Nat} {κ : Kp} {I : Ip} {Q : Option Value → Kp → Ip → Prop} {st tw m : Nat} {P T : Nat} {w s : Nat → Int32} (hSt : StK κ st) (hTw : TwK κ tw) (hSep : Sep κ st tw) (hTR : TwR κ I tw w P T) (hw : WfT w P T) (hs : WfS s P T) (hSR : SR (I (κ.2.1 st 0)) (I st) s T) (hm : m ≤ 60) (hq : ∀ K' f' : Nat → Int32, SR K' f' (itF w T m s) T → Q none κ (sst κ st I K' f')) : Sp Γ (d + 4) mX2_goOn [.ref (st), .ref (tw), .int (nI m)] κ I Q := by
  obtain ⟨hst, hst0, sk, sk0⟩ := id hSt
  obtain ⟨ht, ht0, ⟨t2, u2⟩, ⟨t3, u3⟩, ⟨t4, u4⟩, ⟨t5, u5⟩, ⟨t6, u6⟩, ⟨t7, u7⟩, ⟨t8, u8⟩⟩ := id hTw
  intro X hM
  have hX := hM.std
  have hR := hM.room
  show GW _ mX2_goOn X 0 [(0, .ref (st)), (1, .ref (tw)), (2, .int (nI m))] [] _ _ 0 0
  refine g_iconst (v := nI 0) hX dX2_goOn_0 (by decide) ?_
  refine g_istore_n (lv' := [(3, .int _), (0, .ref _), (1, .ref _), (2, .int _)]) hX dX2_goOn_1 rfl (by decide) rfl ?_
  refine g_st (sst_self (κ := κ) (st := st)).symm (g_pick [0, 1, 2, 3] rfl (lp_X2_goOn_2 hM hSt hTw hSep hTR hw hs hm hq m 0 _ _ rfl (Nat.zero_le _) hSR))
