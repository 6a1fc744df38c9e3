set_option maxHeartbeats 4000000 in
set_option maxRecDepth 100000 in
theorem lp_X5_quiet_26 {Γ : Ga} {d : Nat} {κ : Kp} {Q : Option Value → Kp → Ip → Prop} {X : Cx} {c P T : Nat} {w s : Nat → Int32} {past kept : List (Nat → Int32)} {tx : Nat → Int32} {sz : Nat} {I : Ip} (hM : Mx Γ (d + 5) mX5_quiet Q X) (hCR : CR κ c I P T w s past kept tx sz) (h10 : ¬ s 10 = -4) (hq : ∀ J : Ip, CFr c (κ.2.1 c 7) I J → Q (some (.int (firstI 121 (fun n => silB w (itF w T n s) T)))) κ J) : ∀ (n : Nat) (k : Nat) (K f : Nat → Int32), n = 121 - k → k ≤ 121 → SR K f (itF w T k s) T → (∀ i, i < k → silB w (itF w T i s) T = false) → GW Γ mX5_quiet X 26 [(1, .int (nI k)), (0, .ref (c))] [] κ (sst κ (c + 5) I K f) 0 0 := by
  have hX := hM.std
  have hR := hM.room
  intro n
  induction n using Nat.strongRecOn with
  | ind n ih =>
    intro k K f hn hk hSK hno
    obtain ⟨hC, hTR, hw, hP1, hSR, hs, hpa, hpl, hke, hkl, htx⟩ := id hCR
    obtain ⟨hw0, hw1, hP, hT, -⟩ := id hw
    obtain ⟨cz, ckd, g0, g1, g2, g3, g4, g5, -⟩ := id hC
    have hk0 : κ.1 c = (5, 0) := ckd 0 (by decide)
    have hTx := hC.txo
    obtain ⟨hSt, e34⟩ := hC.now
    obtain ⟨hA, e56⟩ := hC.ahd
    have hS7 := hC.sh7
    have hS25 := hC.sh25
    have hPa := hC.pa
    have hTwL := hC.tw6
    have hSpL := hC.tw7
    have hTw := hTwL.1
    have k1 := hTx.1
    have k3 := hSt.1
    have k5 := hA.1
    have k7 := hS7.1
    have k25 := hS25.1
    have k31 := hPa.1
    have k6 := hTw.1
    have ks := hSpL.1.1
    have z6 := hTw.2.1
    have zs := hSpL.1.2.1
    have htt := hC.two
    rw [← e34] at hSR
    obtain ⟨r0, r1, r2, r3, r4, r5, r6, r7, r8⟩ := id hTR
    refine g_iload_n hX dX5_quiet_26 rfl rfl ?_
    refine g_bipush (v := nI 120) hX dX5_quiet_27 (by decide) ?_
    refine g_icmpgt 66 hX dX5_quiet_29 (by decide) (fun c29 => ?_) (fun c29 => ?_)
    · rw [lt_nI (by omega) (by omega)] at c29
      refine g_bipush (v := (-4)) hX dX5_quiet_66 (by decide) ?_
      refine g_iret hM dX5_quiet_68 rfl (rfl) ⟨Nat.le_of_ble_eq_true rfl, Nat.le_of_ble_eq_true rfl⟩ ?_
      exact q_int (first_no (f := fun n => silB w (itF w T n s) T) (fun i hi => hno i (by omega))) (hq _ ⟨fun a a1 a2 _ _ _ => sst_ne a1 (by rw [e56]; exact a2), fun k _ => by rw [sst_ne (by omega) (by omega)]⟩)
    · rw [lt_nI (by omega) (by omega)] at c29
      refine g_aload_n hX dX5_quiet_32 rfl rfl ?_
      refine g_getR hX dX5_quiet_33 flX5_23 (by assumption) rfl (by first | assumption | rfl) (by first | assumption | exact Nat.succ_ne_zero _) ?_
      refine g_aload_n hX dX5_quiet_36 rfl rfl ?_
      refine g_getR hX dX5_quiet_37 flX5_48 (by assumption) rfl (by first | assumption | rfl) (by first | assumption | exact Nat.succ_ne_zero _) ?_
      refine g_callV (md' := mX2_isSilent) (ci := 2) (As := [.ref _]) hX hR dX5_quiet_40 clX5_215 okX2_isSilent rfl (by assumption) rfl rfl (Nat.le_of_ble_eq_true rfl) (Nat.le_of_ble_eq_true rfl) ⟨Nat.le_of_ble_eq_true rfl, Nat.le_of_ble_eq_true rfl⟩ ?_
      refine sp_X2_isSilent hA hTw ?_
      rw [sst_kn hA, sst_st, sr_silB (hTR.sst hA hTw (Sep_of (c := c) hTwL (by have := htt.lo; omega) htt.lo.1)) hw (wfs_it hw hs k) hSK (by rw [it_keep hw hs (Or.inr (Or.inl rfl))]; exact h10)]
      change GW _ _ _ 43 _ [.int _] _ _ 0 0
      refine g_ifeq 48 hX dX5_quiet_43 (by decide) (fun c43 => ?_) (fun c43 => ?_)
      · rw [b2i_0] at c43
        refine g_aload_n hX dX5_quiet_48 rfl rfl ?_
        refine g_getR hX dX5_quiet_49 flX5_23 (by assumption) rfl (by first | assumption | rfl) (by first | assumption | exact Nat.succ_ne_zero _) ?_
        refine g_aload_n hX dX5_quiet_52 rfl rfl ?_
        refine g_getR hX dX5_quiet_53 flX5_48 (by assumption) rfl (by first | assumption | rfl) (by first | assumption | exact Nat.succ_ne_zero _) ?_
        refine g_iconst (v := nI 1) hX dX5_quiet_56 (by decide) ?_
        refine g_callV (md' := mX2_goOn) (ci := 2) (As := [.ref _, .int _]) hX hR dX5_quiet_57 clX5_188 okX2_goOn rfl (by assumption) rfl rfl (Nat.le_of_ble_eq_true rfl) (Nat.le_of_ble_eq_true rfl) ⟨Nat.le_of_ble_eq_true rfl, Nat.le_of_ble_eq_true rfl⟩ ?_
        refine sp_X2_goOn (s := itF w T k s) (m := 1) hA hTw (Sep_of (c := c) hTwL (by have := htt.lo; omega) htt.lo.1) (hTR.sst hA hTw (Sep_of (c := c) hTwL (by have := htt.lo; omega) htt.lo.1)) hw (wfs_it hw hs k) (by rw [sst_kn hA, sst_st]; exact hSK) (by decide) (fun K2 f2 h2 => ?_)
        rw [sst_sst hA]
        change GW _ _ _ 60 _ [] _ _ 0 0
        refine g_iinc (lv' := [(1, .int _), (0, .ref _)]) hX dX5_quiet_60 rfl (by first | exact nI_inc _ | rfl) (by decide) rfl ?_
        refine g_goto 26 hX dX5_quiet_63 (by decide) ?_
        exact g_pick [0, 1] rfl (ih (121 - (k + 1)) (by omega) (k + 1) K2 f2 rfl (by omega) h2 (fun i hi => by
          by_cases e : i = k
          · subst e; exact c43
          · exact hno i (by omega)))
      · rw [b2i_n0] at c43
        refine g_iload_n hX dX5_quiet_46 rfl rfl ?_
        refine g_iret hM dX5_quiet_47 rfl (rfl) ⟨Nat.le_of_ble_eq_true rfl, Nat.le_of_ble_eq_true rfl⟩ ?_
        exact q_int (first_at (f := fun n => silB w (itF w T n s) T) (show k < 121 by omega) c43 hno) (hq _ ⟨fun a a1 a2 _ _ _ => sst_ne a1 (by rw [e56]; exact a2), fun k _ => by rw [sst_ne (by omega) (by omega)]⟩)
