set_option maxHeartbeats 4000000 in
set_option maxRecDepth 100000 in
theorem lp_X5_howManyWho_20 {Γ : Ga} {d : Nat} {κ : Kp} {Q : Option Value → Kp → Ip → Prop} {X : Cx} {c P T : Nat} {w s : Nat → Int32} {past kept : List (Nat → Int32)} {tx : Nat → Int32} {sz : Nat} {mn : Nat} {y : Int32} {I : Ip} {a : Nat} (hM : Mx Γ (d + 6) mX5_howManyWho Q X) (hCR : CR κ c I P T w s past kept tx sz) (hmn : mn ≤ 60) (ha : a < P) (hout : ∀ J : Ip, CFr c (κ.2.1 c 7) I J → GW Γ mX5_howManyWho X 66 [(5, .int (nI P)), (4, .int (nI a)), (3, .int (nI (cwF (wbX (lkF w) (fun x y => brF w s T x y mn (s 9))) y (rowsL P a ++ rowL a P)))), (0, .ref c), (1, .int (nI mn)), (2, .int y)] [] κ J 0 0) : ∀ (n : Nat) (b : Nat) (J : Ip), n = P - b → b ≤ P → CFr c (κ.2.1 c 7) I J → GW Γ mX5_howManyWho X 20 [(5, .int (nI b)), (4, .int (nI a)), (3, .int (nI (cwF (wbX (lkF w) (fun x y => brF w s T x y mn (s 9))) y (rowsL P a ++ rowL a b)))), (0, .ref (c)), (1, .int (nI mn)), (2, .int (y))] [] κ (J) 0 0 := by
  have hX := hM.std
  have hR := hM.room
  intro n
  induction n using Nat.strongRecOn with
  | ind n ih =>
    intro b J hn hb hF
    have hCRJ := (hCR.fr hF).1
    have esp : κ.2.1 c 7 = κ.2.1 c 7 := rfl
    obtain ⟨hC, hTR, hw, hP1, hSR, hs, hpa, hpl, hke, hkl, htx⟩ := id hCRJ
    obtain ⟨hw0, hw1, hP, hT, -⟩ := id hw
    obtain ⟨cz, ckd, g0, g1, g2, g3, g4, g5, -⟩ := id hC
    have hk0 : κ.1 c = (5, 0) := ckd 0 (by decide)
    have hTx := hC.txo
    obtain ⟨hSt, e34⟩ := hC.now
    obtain ⟨hA, e56⟩ := hC.ahd
    have hS7 := hC.sh7
    have hS25 := hC.sh25
    have hPa := hC.pa
    have hTwL := hC.tw6
    have hSpL := hC.tw7
    have hTw := hTwL.1
    have k1 := hTx.1
    have k3 := hSt.1
    have k5 := hA.1
    have k7 := hS7.1
    have k25 := hS25.1
    have k31 := hPa.1
    have k6 := hTw.1
    have ks := hSpL.1.1
    have z6 := hTw.2.1
    have zs := hSpL.1.2.1
    have htt := hC.two
    rw [← e34] at hSR
    obtain ⟨r0, r1, r2, r3, r4, r5, r6, r7, r8⟩ := id hTR
    refine g_iload hX dX5_howManyWho_20 rfl ?_
    refine g_aload_n hX dX5_howManyWho_22 rfl rfl ?_
    refine g_getR hX dX5_howManyWho_23 flX5_48 (by assumption) rfl (by first | assumption | rfl) (by first | assumption | exact Nat.succ_ne_zero _) ?_
    refine g_getI hX dX5_howManyWho_26 flX5_88 (by assumption) rfl ?_
    refine g_icmpge 66 hX dX5_howManyWho_29 (by decide) (fun c29 => ?_) (fun c29 => ?_)
    · rw [r0, nI_leI (by omega) (by omega)] at c29
      have e : b = P := by omega
      subst e
      exact g_pick [0, 1, 2, 3, 4, 5] rfl (hout J hF)
    · rw [r0, nI_leI (by omega) (by omega)] at c29
      refine g_iload_n hX dX5_howManyWho_32 rfl rfl ?_
      refine g_aload_n hX dX5_howManyWho_33 rfl rfl ?_
      refine g_iload hX dX5_howManyWho_34 rfl ?_
      refine g_iload hX dX5_howManyWho_36 rfl ?_
      refine g_iload_n hX dX5_howManyWho_38 rfl rfl ?_
      refine g_aload_n hX dX5_howManyWho_39 rfl rfl ?_
      refine g_getR hX dX5_howManyWho_40 flX5_19 (by assumption) rfl (by first | assumption | rfl) (by first | assumption | exact Nat.succ_ne_zero _) ?_
      refine g_getI hX dX5_howManyWho_43 flX5_198 (by assumption) rfl ?_
      refine g_callV (md' := mX5_wouldBring) (ci := 5) (As := [.int _, .int _, .int _, .int _]) hX hR dX5_howManyWho_46 clX5_219 okX5_wouldBring rfl (by assumption) rfl rfl (Nat.le_of_ble_eq_true rfl) (Nat.le_of_ble_eq_true rfl) ⟨Nat.le_of_ble_eq_true rfl, Nat.le_of_ble_eq_true rfl⟩ ?_
      rw [hSR.2.1]
      refine sp_X5_wouldBring hCRJ ha (show b < P by omega) hmn hs.2.1 (fun J2 hF2 => ?_)
      rw [wb_X]
      change GW _ _ _ 49 _ [.int _, .int _] _ _ 0 0
      refine g_iload_n hX dX5_howManyWho_49 rfl rfl ?_
      refine g_icmpne 57 hX dX5_howManyWho_50 (by decide) (fun c50 => ?_) (fun c50 => ?_)
      · refine g_iconst (v := nI 0) hX dX5_howManyWho_57 (by decide) ?_
        refine g_iadd hX dX5_howManyWho_58 ?_
        rw [nI_add]
        refine g_istore_n (lv' := [(3, .int _), (5, .int _), (4, .int _), (0, .ref _), (1, .int _), (2, .int _)]) hX dX5_howManyWho_59 rfl (by decide) rfl ?_
        refine g_iinc (lv' := [(5, .int _), (3, .int _), (4, .int _), (0, .ref _), (1, .int _), (2, .int _)]) hX dX5_howManyWho_60 rfl (by first | exact nI_inc _ | rfl) (by decide) rfl ?_
        refine g_goto 20 hX dX5_howManyWho_63 (by decide) ?_
        have e : cwF (wbX (lkF w) (fun x y => brF w s T x y mn (s 9))) y (rowsL P a ++ rowL a (b + 1)) = cwF (wbX (lkF w) (fun x y => brF w s T x y mn (s 9))) y (rowsL P a ++ rowL a b) + 0 := by rw [rowL, ← List.append_assoc, cwF_app, if_neg c50, Nat.add_zero]
        have hz := ih (P - (b + 1)) (by omega) (b + 1) J2 rfl (by omega) (hF.tr hF2)
        rw [e] at hz
        exact g_pick [0, 2, 1, 3, 4, 5] rfl hz
      · refine g_iconst (v := nI 1) hX dX5_howManyWho_53 (by decide) ?_
        refine g_goto 58 hX dX5_howManyWho_54 (by decide) ?_
        refine g_iadd hX dX5_howManyWho_58 ?_
        rw [nI_add]
        refine g_istore_n (lv' := [(3, .int _), (5, .int _), (4, .int _), (0, .ref _), (1, .int _), (2, .int _)]) hX dX5_howManyWho_59 rfl (by decide) rfl ?_
        refine g_iinc (lv' := [(5, .int _), (3, .int _), (4, .int _), (0, .ref _), (1, .int _), (2, .int _)]) hX dX5_howManyWho_60 rfl (by first | exact nI_inc _ | rfl) (by decide) rfl ?_
        refine g_goto 20 hX dX5_howManyWho_63 (by decide) ?_
        have e : cwF (wbX (lkF w) (fun x y => brF w s T x y mn (s 9))) y (rowsL P a ++ rowL a (b + 1)) = cwF (wbX (lkF w) (fun x y => brF w s T x y mn (s 9))) y (rowsL P a ++ rowL a b) + 1 := by rw [rowL, ← List.append_assoc, cwF_app, if_pos c50]
        have hz := ih (P - (b + 1)) (by omega) (b + 1) J2 rfl (by omega) (hF.tr hF2)
        rw [e] at hz
        exact g_pick [0, 2, 1, 3, 4, 5] rfl hz
