set_option maxHeartbeats 4000000 in
set_option maxRecDepth 100000 in
theorem lp_X5_day_43 {Γ : Ga} {d : Nat} {κ : Kp} {Q : Option Value → Kp → Ip → Prop} {X : Cx} {c P T : Nat} {w s : Nat → Int32} {past kept : List (Nat → Int32)} {tx : Nat → Int32} {sz : Nat} {z mn : Nat} {wh : Int32} {I : Ip} (hM : Mx Γ (d + 5) mX5_day Q X) (hCR : CR κ c I P T w s past kept tx sz) (hmn : mn ≤ 60) (hz : z ≤ 9999) (hq : ∀ K f : Nat → Int32, SR K f (dayS w s P T z mn) T → Q (some (.int (if wh = 0 then dayS w s P T z mn 17 else nI (knownF (dayS w s P T z mn) T)))) κ (sst κ (c + 5) I K f)) : ∀ (n : Nat) (k : Nat) (K f : Nat → Int32), n = mn - k → k ≤ mn → SR K f (dayS w s P T z k) T → GW Γ mX5_day X 43 [(4, .int (nI k)), (0, .ref (c)), (1, .int (nI z)), (2, .int (nI mn)), (3, .int (wh))] [] κ (sst κ (c + 5) I K f) 0 0 := by
  have hX := hM.std
  have hR := hM.room
  intro n
  induction n using Nat.strongRecOn with
  | ind n ih =>
    intro k K f hn hk hSK
    obtain ⟨hC, hTR, hw, hP1, hSR, hs, hpa, hpl, hke, hkl, htx⟩ := id hCR
    obtain ⟨hw0, hw1, hP, hT, -⟩ := id hw
    obtain ⟨cz, ckd, g0, g1, g2, g3, g4, g5, -⟩ := id hC
    have hk0 : κ.1 c = (5, 0) := ckd 0 (by decide)
    have hTx := hC.txo
    obtain ⟨hSt, e34⟩ := hC.now
    obtain ⟨hA, e56⟩ := hC.ahd
    have hS7 := hC.sh7
    have hS25 := hC.sh25
    have hPa := hC.pa
    have hTwL := hC.tw6
    have hSpL := hC.tw7
    have hTw := hTwL.1
    have k1 := hTx.1
    have k3 := hSt.1
    have k5 := hA.1
    have k7 := hS7.1
    have k25 := hS25.1
    have k31 := hPa.1
    have k6 := hTw.1
    have ks := hSpL.1.1
    have z6 := hTw.2.1
    have zs := hSpL.1.2.1
    have htt := hC.two
    rw [← e34] at hSR
    obtain ⟨r0, r1, r2, r3, r4, r5, r6, r7, r8⟩ := id hTR
    have hcrJ := (hCR.fr (J := sst κ (c + 5) I K f) ⟨fun a a1 a2 _ _ _ => sst_ne a1 (by rw [e56]; exact a2), fun k _ => by rw [sst_ne (by omega) (by omega)]⟩).1
    have hwd := wfs_day (z := z) hw hP1 hs k
    have hdl := draw_lt z k
    refine g_iload hX dX5_day_43 rfl ?_
    refine g_iload_n hX dX5_day_45 rfl rfl ?_
    refine g_icmpge 77 hX dX5_day_46 (by decide) (fun c46 => ?_) (fun c46 => ?_)
    · rw [nI_leI (by omega) (by omega)] at c46
      refine g_iload_n hX dX5_day_77 rfl rfl ?_
      refine g_ifne 91 hX dX5_day_78 (by decide) (fun c78 => ?_) (fun c78 => ?_)
      · refine g_aload_n hX dX5_day_91 rfl rfl ?_
        refine g_getR hX dX5_day_92 flX5_23 (by assumption) rfl (by first | assumption | rfl) (by first | assumption | exact Nat.succ_ne_zero _) ?_
        refine g_callV (md' := mX2_knownByAll) (ci := 2) (As := []) hX hR dX5_day_95 clX5_285 okX2_knownByAll rfl (by assumption) rfl rfl (Nat.le_of_ble_eq_true rfl) (Nat.le_of_ble_eq_true rfl) ⟨Nat.le_of_ble_eq_true rfl, Nat.le_of_ble_eq_true rfl⟩ ?_
        refine sp_X2_knownByAll (P := P) (T := T) (s := dayS w s P T z k) hA hP hT hwd (by rw [sst_kn hA, sst_st]; exact hSK) ?_
        change GW _ _ _ 98 _ [.int _] _ _ 0 0
        refine g_iret hM dX5_day_98 rfl (rfl) ⟨Nat.le_of_ble_eq_true rfl, Nat.le_of_ble_eq_true rfl⟩ ?_
        have e : k = mn := by omega
        subst e
        refine q_int ?_ (hq K f hSK)
        exact if_neg c78
      · refine g_aload_n hX dX5_day_81 rfl rfl ?_
        refine g_getR hX dX5_day_82 flX5_23 (by assumption) rfl (by first | assumption | rfl) (by first | assumption | exact Nat.succ_ne_zero _) ?_
        refine g_getI hX dX5_day_85 flX5_192 (by assumption) rfl ?_
        refine g_goto 98 hX dX5_day_88 (by decide) ?_
        refine g_iret hM dX5_day_98 rfl (rfl) ⟨Nat.le_of_ble_eq_true rfl, Nat.le_of_ble_eq_true rfl⟩ ?_
        have e : k = mn := by omega
        subst e
        rw [sst_st, hSK.2.2.2.2.1]
        refine q_int ?_ (hq K f hSK)
        exact if_pos c78
    · rw [nI_leI (by omega) (by omega)] at c46
      refine g_aload_n hX dX5_day_49 rfl rfl ?_
      refine g_iload_n hX dX5_day_50 rfl rfl ?_
      refine g_iload hX dX5_day_51 rfl ?_
      refine g_callS (md' := mX5_draw) (As := [.int _, .int _]) hX hR dX5_day_53 clX5_279 okX5_draw rfl rfl (Nat.le_of_ble_eq_true rfl) (Nat.le_of_ble_eq_true rfl) ⟨Nat.le_of_ble_eq_true rfl, Nat.le_of_ble_eq_true rfl⟩ ?_
      refine sp_X5_draw hz (by omega) ?_
      change GW _ _ _ 56 _ [.int _, .ref _] _ _ 0 0
      refine g_callV (md' := mX5_actByDraw) (ci := 5) (As := [.int _]) hX hR dX5_day_56 clX5_282 okX5_actByDraw rfl (by assumption) rfl rfl (Nat.le_of_ble_eq_true rfl) (Nat.le_of_ble_eq_true rfl) ⟨Nat.le_of_ble_eq_true rfl, Nat.le_of_ble_eq_true rfl⟩ ?_
      refine sp_X5_actByDraw (s2 := dayS w s P T z k) hcrJ (by rw [sst_kn hA, sst_st]; exact hSK) hwd (by omega) (fun K1 f1 h1 => ?_)
      rw [sst_sst hA]
      change GW _ _ _ 59 _ [] _ _ 0 0
      refine g_aload_n hX dX5_day_59 rfl rfl ?_
      refine g_getR hX dX5_day_60 flX5_23 (by assumption) rfl (by first | assumption | rfl) (by first | assumption | exact Nat.succ_ne_zero _) ?_
      refine g_aload_n hX dX5_day_63 rfl rfl ?_
      refine g_getR hX dX5_day_64 flX5_48 (by assumption) rfl (by first | assumption | rfl) (by first | assumption | exact Nat.succ_ne_zero _) ?_
      refine g_iconst (v := nI 1) hX dX5_day_67 (by decide) ?_
      refine g_callV (md' := mX2_goOn) (ci := 2) (As := [.ref _, .int _]) hX hR dX5_day_68 clX5_188 okX2_goOn rfl (by assumption) rfl rfl (Nat.le_of_ble_eq_true rfl) (Nat.le_of_ble_eq_true rfl) ⟨Nat.le_of_ble_eq_true rfl, Nat.le_of_ble_eq_true rfl⟩ ?_
      refine sp_X2_goOn (s := drawS w (dayS w s P T z k) P T (drawN z k)) (m := 1) hA hTw (Sep_of (c := c) hTwL (by have := htt.lo; omega) htt.lo.1) (hTR.sst hA hTw (Sep_of (c := c) hTwL (by have := htt.lo; omega) htt.lo.1)) hw (wfs_draw hw hP1 hwd) (by rw [sst_kn hA, sst_st]; exact h1) (by decide) (fun K2 f2 h2 => ?_)
      rw [sst_sst hA]
      change GW _ _ _ 71 _ [] _ _ 0 0
      refine g_iinc (lv' := [(4, .int _), (0, .ref _), (1, .int _), (2, .int _), (3, .int _)]) hX dX5_day_71 rfl (by first | exact nI_inc _ | rfl) (by decide) rfl ?_
      refine g_goto 43 hX dX5_day_74 (by decide) ?_
      exact g_pick [0, 1, 2, 3, 4] rfl (ih (mn - (k + 1)) (by omega) (k + 1) K2 f2 rfl (by omega) h2)
