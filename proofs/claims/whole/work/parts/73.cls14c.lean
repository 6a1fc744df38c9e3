set_option maxHeartbeats 4000000 in
set_option maxRecDepth 100000 in
theorem lp_X5_bestButter_20 {Γ : Ga} {d : Nat} {κ : Kp} {Q : Option Value → Kp → Ip → Prop} {X : Cx} {c P T : Nat} {w s : Nat → Int32} {past kept : List (Nat → Int32)} {tx : Nat → Int32} {sz : Nat} {mn : Nat} {hh : Int32} {I : Ip} {a : Nat} (hM : Mx Γ (d + 6) mX5_bestButter Q X) (hCR : CR κ c I P T w s past kept tx sz) (hmn : mn ≤ 60) (hh9 : ∀ i, bt hh i = true → i < T) (ha : a < P) (hout : ∀ J : Ip, CFr c (κ.2.1 c 7) I J → GW Γ mX5_bestButter X 53 [(5, .int (nI P)), (4, .int (nI a)), (3, .int (mxF (wbX (lkF w) (fun x y => brF w s T x y mn hh)) (rowsL P a ++ rowL a P))), (0, .ref c), (1, .int (nI mn)), (2, .int hh)] [] κ J 0 0) : ∀ (n : Nat) (b : Nat) (J : Ip), n = P - b → b ≤ P → CFr c (κ.2.1 c 7) I J → GW Γ mX5_bestButter X 20 [(5, .int (nI b)), (4, .int (nI a)), (3, .int (mxF (wbX (lkF w) (fun x y => brF w s T x y mn hh)) (rowsL P a ++ rowL a b))), (0, .ref (c)), (1, .int (nI mn)), (2, .int (hh))] [] κ (J) 0 0 := by
  have hX := hM.std
  have hR := hM.room
  intro n
  induction n using Nat.strongRecOn with
  | ind n ih =>
    intro b J hn hb hF
    have hCRJ := (hCR.fr hF).1
    have esp : κ.2.1 c 7 = κ.2.1 c 7 := rfl
    obtain ⟨hC, hTR, hw, hP1, hSR, hs, hpa, hpl, hke, hkl, htx⟩ := id hCRJ
    obtain ⟨hw0, hw1, hP, hT, -⟩ := id hw
    obtain ⟨cz, ckd, g0, g1, g2, g3, g4, g5, -⟩ := id hC
    have hk0 : κ.1 c = (5, 0) := ckd 0 (by decide)
    have hTx := hC.txo
    obtain ⟨hSt, e34⟩ := hC.now
    obtain ⟨hA, e56⟩ := hC.ahd
    have hS7 := hC.sh7
    have hS25 := hC.sh25
    have hPa := hC.pa
    have hTwL := hC.tw6
    have hSpL := hC.tw7
    have hTw := hTwL.1
    have k1 := hTx.1
    have k3 := hSt.1
    have k5 := hA.1
    have k7 := hS7.1
    have k25 := hS25.1
    have k31 := hPa.1
    have k6 := hTw.1
    have ks := hSpL.1.1
    have z6 := hTw.2.1
    have zs := hSpL.1.2.1
    have htt := hC.two
    rw [← e34] at hSR
    obtain ⟨r0, r1, r2, r3, r4, r5, r6, r7, r8⟩ := id hTR
    refine g_iload hX dX5_bestButter_20 rfl ?_
    refine g_aload_n hX dX5_bestButter_22 rfl rfl ?_
    refine g_getR hX dX5_bestButter_23 flX5_48 (by assumption) rfl (by first | assumption | rfl) (by first | assumption | exact Nat.succ_ne_zero _) ?_
    refine g_getI hX dX5_bestButter_26 flX5_88 (by assumption) rfl ?_
    refine g_icmpge 53 hX dX5_bestButter_29 (by decide) (fun c29 => ?_) (fun c29 => ?_)
    · rw [r0, nI_leI (by omega) (by omega)] at c29
      have e : b = P := by omega
      subst e
      exact g_pick [0, 1, 2, 3, 4, 5] rfl (hout J hF)
    · rw [r0, nI_leI (by omega) (by omega)] at c29
      refine g_iload_n hX dX5_bestButter_32 rfl rfl ?_
      refine g_aload_n hX dX5_bestButter_33 rfl rfl ?_
      refine g_iload hX dX5_bestButter_34 rfl ?_
      refine g_iload hX dX5_bestButter_36 rfl ?_
      refine g_iload_n hX dX5_bestButter_38 rfl rfl ?_
      refine g_iload_n hX dX5_bestButter_39 rfl rfl ?_
      refine g_callV (md' := mX5_wouldBring) (ci := 5) (As := [.int _, .int _, .int _, .int _]) hX hR dX5_bestButter_40 clX5_219 okX5_wouldBring rfl (by assumption) rfl rfl (Nat.le_of_ble_eq_true rfl) (Nat.le_of_ble_eq_true rfl) ⟨Nat.le_of_ble_eq_true rfl, Nat.le_of_ble_eq_true rfl⟩ ?_
      refine sp_X5_wouldBring hCRJ ha (show b < P by omega) hmn hh9 (fun J2 hF2 => ?_)
      change GW _ _ _ 43 _ [.int _, .int _] _ _ 0 0
      refine g_max hX hR dX5_bestButter_43 mmX5_230 mmax_st mmath_in mmax_co (Nat.le_of_ble_eq_true rfl) ⟨Nat.le_of_ble_eq_true rfl, Nat.le_of_ble_eq_true rfl⟩ ?_
      refine g_istore_n (lv' := [(3, .int _), (5, .int _), (4, .int _), (0, .ref _), (1, .int _), (2, .int _)]) hX dX5_bestButter_46 rfl (by decide) rfl ?_
      refine g_iinc (lv' := [(5, .int _), (3, .int _), (4, .int _), (0, .ref _), (1, .int _), (2, .int _)]) hX dX5_bestButter_47 rfl (by first | exact nI_inc _ | rfl) (by decide) rfl ?_
      refine g_goto 20 hX dX5_bestButter_50 (by decide) ?_
      have e : mxF (wbX (lkF w) (fun x y => brF w s T x y mn hh)) (rowsL P a ++ rowL a (b + 1)) = mxS (wbX (lkF w) (fun x y => brF w s T x y mn hh)) (mxF (wbX (lkF w) (fun x y => brF w s T x y mn hh)) (rowsL P a ++ rowL a b)) (a, b) := by rw [rowL, ← List.append_assoc, mxF_app]
      have hz := ih (P - (b + 1)) (by omega) (b + 1) J2 rfl (by omega) (hF.tr hF2)
      rw [e] at hz
      exact g_pick [0, 2, 1, 3, 4, 5] rfl hz
