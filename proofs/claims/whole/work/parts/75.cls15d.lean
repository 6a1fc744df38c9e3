set_option maxHeartbeats 4000000 in
set_option maxRecDepth 100000 in
theorem lp_X5_comes_26 {Γ : Ga} {d : Nat} {κ : Kp} {Q : Option Value → Kp → Ip → Prop} {X : Cx} {c P T : Nat} {w s : Nat → Int32} {past kept : List (Nat → Int32)} {tx : Nat → Int32} {sz : Nat} {x : Int32} {I : Ip} (hM : Mx Γ (d + 5) mX5_comes Q X) (hCR : CR κ c I P T w s past kept tx sz) (hq : ∀ J : Ip, CFr c (κ.2.1 c 7) I J → Q (some (.int (firstI 121 (fun n => decide (x ≤ itF w T n s 17))))) κ J) : ∀ (n : Nat) (k : Nat) (K f : Nat → Int32), n = 121 - k → k ≤ 121 → SR K f (itF w T k s) T → (∀ i, i < k → decide (x ≤ itF w T i s 17) = false) → GW Γ mX5_comes X 26 [(2, .int (nI k)), (0, .ref (c)), (1, .int (x))] [] κ (sst κ (c + 5) I K f) 0 0 := by
  have hX := hM.std
  have hR := hM.room
  intro n
  induction n using Nat.strongRecOn with
  | ind n ih =>
    intro k K f hn hk hSK hno
    obtain ⟨hC, hTR, hw, hP1, hSR, hs, hpa, hpl, hke, hkl, htx⟩ := id hCR
    obtain ⟨hw0, hw1, hP, hT, -⟩ := id hw
    obtain ⟨cz, ckd, g0, g1, g2, g3, g4, g5, -⟩ := id hC
    have hk0 : κ.1 c = (5, 0) := ckd 0 (by decide)
    have hTx := hC.txo
    obtain ⟨hSt, e34⟩ := hC.now
    obtain ⟨hA, e56⟩ := hC.ahd
    have hS7 := hC.sh7
    have hS25 := hC.sh25
    have hPa := hC.pa
    have hTwL := hC.tw6
    have hSpL := hC.tw7
    have hTw := hTwL.1
    have k1 := hTx.1
    have k3 := hSt.1
    have k5 := hA.1
    have k7 := hS7.1
    have k25 := hS25.1
    have k31 := hPa.1
    have k6 := hTw.1
    have ks := hSpL.1.1
    have z6 := hTw.2.1
    have zs := hSpL.1.2.1
    have htt := hC.two
    rw [← e34] at hSR
    obtain ⟨r0, r1, r2, r3, r4, r5, r6, r7, r8⟩ := id hTR
    refine g_iload_n hX dX5_comes_26 rfl rfl ?_
    refine g_bipush (v := nI 120) hX dX5_comes_27 (by decide) ?_
    refine g_icmpgt 63 hX dX5_comes_29 (by decide) (fun c29 => ?_) (fun c29 => ?_)
    · rw [lt_nI (by omega) (by omega)] at c29
      refine g_bipush (v := (-4)) hX dX5_comes_63 (by decide) ?_
      refine g_iret hM dX5_comes_65 rfl (rfl) ⟨Nat.le_of_ble_eq_true rfl, Nat.le_of_ble_eq_true rfl⟩ ?_
      exact q_int (first_no (f := fun n => decide (x ≤ itF w T n s 17)) (fun i hi => hno i (by omega))) (hq _ ⟨fun a a1 a2 _ _ _ => sst_ne a1 (by rw [e56]; exact a2), fun k _ => by rw [sst_ne (by omega) (by omega)]⟩)
    · rw [lt_nI (by omega) (by omega)] at c29
      refine g_aload_n hX dX5_comes_32 rfl rfl ?_
      refine g_getR hX dX5_comes_33 flX5_23 (by assumption) rfl (by first | assumption | rfl) (by first | assumption | exact Nat.succ_ne_zero _) ?_
      refine g_getI hX dX5_comes_36 flX5_192 (by assumption) rfl ?_
      rw [sst_st, hSK.2.2.2.2.1]
      refine g_iload_n hX dX5_comes_39 rfl rfl ?_
      refine g_icmplt 45 hX dX5_comes_40 (by decide) (fun c40 => ?_) (fun c40 => ?_)
      · refine g_aload_n hX dX5_comes_45 rfl rfl ?_
        refine g_getR hX dX5_comes_46 flX5_23 (by assumption) rfl (by first | assumption | rfl) (by first | assumption | exact Nat.succ_ne_zero _) ?_
        refine g_aload_n hX dX5_comes_49 rfl rfl ?_
        refine g_getR hX dX5_comes_50 flX5_48 (by assumption) rfl (by first | assumption | rfl) (by first | assumption | exact Nat.succ_ne_zero _) ?_
        refine g_iconst (v := nI 1) hX dX5_comes_53 (by decide) ?_
        refine g_callV (md' := mX2_goOn) (ci := 2) (As := [.ref _, .int _]) hX hR dX5_comes_54 clX5_188 okX2_goOn rfl (by assumption) rfl rfl (Nat.le_of_ble_eq_true rfl) (Nat.le_of_ble_eq_true rfl) ⟨Nat.le_of_ble_eq_true rfl, Nat.le_of_ble_eq_true rfl⟩ ?_
        refine sp_X2_goOn (s := itF w T k s) (m := 1) hA hTw (Sep_of (c := c) hTwL (by have := htt.lo; omega) htt.lo.1) (hTR.sst hA hTw (Sep_of (c := c) hTwL (by have := htt.lo; omega) htt.lo.1)) hw (wfs_it hw hs k) (by rw [sst_kn hA, sst_st]; exact hSK) (by decide) (fun K2 f2 h2 => ?_)
        rw [sst_sst hA]
        change GW _ _ _ 57 _ [] _ _ 0 0
        refine g_iinc (lv' := [(2, .int _), (0, .ref _), (1, .int _)]) hX dX5_comes_57 rfl (by first | exact nI_inc _ | rfl) (by decide) rfl ?_
        refine g_goto 26 hX dX5_comes_60 (by decide) ?_
        exact g_pick [0, 1, 2] rfl (ih (121 - (k + 1)) (by omega) (k + 1) K2 f2 rfl (by omega) h2 (fun i hi => by
          by_cases e : i = k
          · subst e; exact decide_eq_false (Int32_nle.mpr c40)
          · exact hno i (by omega)))
      · refine g_iload_n hX dX5_comes_43 rfl rfl ?_
        refine g_iret hM dX5_comes_44 rfl (rfl) ⟨Nat.le_of_ble_eq_true rfl, Nat.le_of_ble_eq_true rfl⟩ ?_
        exact q_int (first_at (f := fun n => decide (x ≤ itF w T n s 17)) (show k < 121 by omega) (decide_eq_true (Decidable.of_not_not (fun e => c40 (Int32_nle.mp e)))) hno) (hq _ ⟨fun a a1 a2 _ _ _ => sst_ne a1 (by rw [e56]; exact a2), fun k _ => by rw [sst_ne (by omega) (by omega)]⟩)
