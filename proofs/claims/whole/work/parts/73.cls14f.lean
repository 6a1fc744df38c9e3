set_option maxHeartbeats 4000000 in
set_option maxRecDepth 100000 in
theorem lp_X5_firstWho_16 {Γ : Ga} {d : Nat} {κ : Kp} {Q : Option Value → Kp → Ip → Prop} {X : Cx} {c P T : Nat} {w s : Nat → Int32} {past kept : List (Nat → Int32)} {tx : Nat → Int32} {sz : Nat} {mn : Nat} {y : Int32} {I : Ip} {a : Nat} (hM : Mx Γ (d + 6) mX5_firstWho Q X) (hCR : CR κ c I P T w s past kept tx sz) (hmn : mn ≤ 60) (ha : a < P) (hno : (rowsL P a).find? (fun p => decide ((wbX (lkF w) (fun x y => brF w s T x y mn (s 9))) p.1 p.2 = y)) = none) (hq : ∀ J : Ip, CFr c (κ.2.1 c 7) I J → Q (some (.int (fwF (wbX (lkF w) (fun x y => brF w s T x y mn (s 9))) y (rowsL P P)))) κ J) (hout : ∀ J : Ip, CFr c (κ.2.1 c 7) I J → (rowL a P).find? (fun p => decide ((wbX (lkF w) (fun x y => brF w s T x y mn (s 9))) p.1 p.2 = y)) = none → GW Γ mX5_firstWho X 61 [(4, .int (nI P)), (3, .int (nI a)), (0, .ref c), (1, .int (nI mn)), (2, .int y)] [] κ J 0 0) : ∀ (n : Nat) (b : Nat) (J : Ip), n = P - b → b ≤ P → CFr c (κ.2.1 c 7) I J → (rowL a b).find? (fun p => decide ((wbX (lkF w) (fun x y => brF w s T x y mn (s 9))) p.1 p.2 = y)) = none → GW Γ mX5_firstWho X 16 [(4, .int (nI b)), (3, .int (nI a)), (0, .ref (c)), (1, .int (nI mn)), (2, .int (y))] [] κ (J) 0 0 := by
  have hX := hM.std
  have hR := hM.room
  intro n
  induction n using Nat.strongRecOn with
  | ind n ih =>
    intro b J hn hb hF hr
    have hCRJ := (hCR.fr hF).1
    have esp : κ.2.1 c 7 = κ.2.1 c 7 := rfl
    obtain ⟨hC, hTR, hw, hP1, hSR, hs, hpa, hpl, hke, hkl, htx⟩ := id hCRJ
    obtain ⟨hw0, hw1, hP, hT, -⟩ := id hw
    obtain ⟨cz, ckd, g0, g1, g2, g3, g4, g5, -⟩ := id hC
    have hk0 : κ.1 c = (5, 0) := ckd 0 (by decide)
    have hTx := hC.txo
    obtain ⟨hSt, e34⟩ := hC.now
    obtain ⟨hA, e56⟩ := hC.ahd
    have hS7 := hC.sh7
    have hS25 := hC.sh25
    have hPa := hC.pa
    have hTwL := hC.tw6
    have hSpL := hC.tw7
    have hTw := hTwL.1
    have k1 := hTx.1
    have k3 := hSt.1
    have k5 := hA.1
    have k7 := hS7.1
    have k25 := hS25.1
    have k31 := hPa.1
    have k6 := hTw.1
    have ks := hSpL.1.1
    have z6 := hTw.2.1
    have zs := hSpL.1.2.1
    have htt := hC.two
    rw [← e34] at hSR
    obtain ⟨r0, r1, r2, r3, r4, r5, r6, r7, r8⟩ := id hTR
    refine g_iload hX dX5_firstWho_16 rfl ?_
    refine g_aload_n hX dX5_firstWho_18 rfl rfl ?_
    refine g_getR hX dX5_firstWho_19 flX5_48 (by assumption) rfl (by first | assumption | rfl) (by first | assumption | exact Nat.succ_ne_zero _) ?_
    refine g_getI hX dX5_firstWho_22 flX5_88 (by assumption) rfl ?_
    refine g_icmpge 61 hX dX5_firstWho_25 (by decide) (fun c25 => ?_) (fun c25 => ?_)
    · rw [r0, nI_leI (by omega) (by omega)] at c25
      have e : b = P := by omega
      subst e
      exact g_pick [0, 1, 2, 3, 4] rfl (hout J hF hr)
    · rw [r0, nI_leI (by omega) (by omega)] at c25
      refine g_aload_n hX dX5_firstWho_28 rfl rfl ?_
      refine g_iload_n hX dX5_firstWho_29 rfl rfl ?_
      refine g_iload hX dX5_firstWho_30 rfl ?_
      refine g_iload_n hX dX5_firstWho_32 rfl rfl ?_
      refine g_aload_n hX dX5_firstWho_33 rfl rfl ?_
      refine g_getR hX dX5_firstWho_34 flX5_19 (by assumption) rfl (by first | assumption | rfl) (by first | assumption | exact Nat.succ_ne_zero _) ?_
      refine g_getI hX dX5_firstWho_37 flX5_198 (by assumption) rfl ?_
      refine g_callV (md' := mX5_wouldBring) (ci := 5) (As := [.int _, .int _, .int _, .int _]) hX hR dX5_firstWho_40 clX5_219 okX5_wouldBring rfl (by assumption) rfl rfl (Nat.le_of_ble_eq_true rfl) (Nat.le_of_ble_eq_true rfl) ⟨Nat.le_of_ble_eq_true rfl, Nat.le_of_ble_eq_true rfl⟩ ?_
      rw [hSR.2.1]
      refine sp_X5_wouldBring hCRJ ha (show b < P by omega) hmn hs.2.1 (fun J2 hF2 => ?_)
      rw [wb_X]
      change GW _ _ _ 43 _ [.int _] _ _ 0 0
      refine g_iload_n hX dX5_firstWho_43 rfl rfl ?_
      refine g_icmpne 55 hX dX5_firstWho_44 (by decide) (fun c44 => ?_) (fun c44 => ?_)
      · refine g_iinc (lv' := [(4, .int _), (3, .int _), (0, .ref _), (1, .int _), (2, .int _)]) hX dX5_firstWho_55 rfl (by first | exact nI_inc _ | rfl) (by decide) rfl ?_
        refine g_goto 16 hX dX5_firstWho_58 (by decide) ?_
        exact g_pick [0, 1, 2, 3, 4] rfl (ih (P - (b + 1)) (by omega) (b + 1) J2 rfl (by omega) (hF.tr hF2) (by rw [rowL]; exact find_snoc_no hr (decide_eq_false c44)))
      · refine g_bipush (v := nI 10) hX dX5_firstWho_47 (by decide) ?_
        refine g_iload_n hX dX5_firstWho_49 rfl rfl ?_
        refine g_imul hX dX5_firstWho_50 ?_
        refine g_iload hX dX5_firstWho_51 rfl ?_
        refine g_iadd hX dX5_firstWho_53 ?_
        refine g_iret hM dX5_firstWho_54 rfl (rfl) ⟨Nat.le_of_ble_eq_true rfl, Nat.le_of_ble_eq_true rfl⟩ ?_
        refine q_int ?_ (hq J2 (hF.tr hF2))
        rw [fw_some (rows_find ha hno (by omega) hr (decide_eq_true c44)), nI_mul, nI_add]
