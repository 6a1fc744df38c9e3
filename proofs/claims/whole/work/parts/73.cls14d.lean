set_option maxHeartbeats 4000000 in
set_option maxRecDepth 100000 in
theorem lp_X5_bestButter_5 {Γ : Ga} {d : Nat} {κ : Kp} {Q : Option Value → Kp → Ip → Prop} {X : Cx} {c P T : Nat} {w s : Nat → Int32} {past kept : List (Nat → Int32)} {tx : Nat → Int32} {sz : Nat} {mn : Nat} {hh : Int32} {I : Ip} (hM : Mx Γ (d + 6) mX5_bestButter Q X) (hCR : CR κ c I P T w s past kept tx sz) (hmn : mn ≤ 60) (hh9 : ∀ i, bt hh i = true → i < T) (hq : ∀ J : Ip, CFr c (κ.2.1 c 7) I J → Q (some (.int (mxF (wbX (lkF w) (fun x y => brF w s T x y mn hh)) (rowsL P P)))) κ J) : ∀ (n : Nat) (a : Nat) (J : Ip), n = P - a → a ≤ P → CFr c (κ.2.1 c 7) I J → GW Γ mX5_bestButter X 5 [(4, .int (nI a)), (3, .int (mxF (wbX (lkF w) (fun x y => brF w s T x y mn hh)) (rowsL P a))), (0, .ref (c)), (1, .int (nI mn)), (2, .int (hh))] [] κ (J) 0 0 := by
  have hX := hM.std
  have hR := hM.room
  intro n
  induction n using Nat.strongRecOn with
  | ind n ih =>
    intro a J hn ha hF
    have hCRJ := (hCR.fr hF).1
    have esp : κ.2.1 c 7 = κ.2.1 c 7 := rfl
    obtain ⟨hC, hTR, hw, hP1, hSR, hs, hpa, hpl, hke, hkl, htx⟩ := id hCRJ
    obtain ⟨hw0, hw1, hP, hT, -⟩ := id hw
    obtain ⟨cz, ckd, g0, g1, g2, g3, g4, g5, -⟩ := id hC
    have hk0 : κ.1 c = (5, 0) := ckd 0 (by decide)
    have hTx := hC.txo
    obtain ⟨hSt, e34⟩ := hC.now
    obtain ⟨hA, e56⟩ := hC.ahd
    have hS7 := hC.sh7
    have hS25 := hC.sh25
    have hPa := hC.pa
    have hTwL := hC.tw6
    have hSpL := hC.tw7
    have hTw := hTwL.1
    have k1 := hTx.1
    have k3 := hSt.1
    have k5 := hA.1
    have k7 := hS7.1
    have k25 := hS25.1
    have k31 := hPa.1
    have k6 := hTw.1
    have ks := hSpL.1.1
    have z6 := hTw.2.1
    have zs := hSpL.1.2.1
    have htt := hC.two
    rw [← e34] at hSR
    obtain ⟨r0, r1, r2, r3, r4, r5, r6, r7, r8⟩ := id hTR
    refine g_iload hX dX5_bestButter_5 rfl ?_
    refine g_aload_n hX dX5_bestButter_7 rfl rfl ?_
    refine g_getR hX dX5_bestButter_8 flX5_48 (by assumption) rfl (by first | assumption | rfl) (by first | assumption | exact Nat.succ_ne_zero _) ?_
    refine g_getI hX dX5_bestButter_11 flX5_88 (by assumption) rfl ?_
    refine g_icmpge 59 hX dX5_bestButter_14 (by decide) (fun c14 => ?_) (fun c14 => ?_)
    · rw [r0, nI_leI (by omega) (by omega)] at c14
      refine g_iload_n hX dX5_bestButter_59 rfl rfl ?_
      refine g_iret hM dX5_bestButter_60 rfl (rfl) ⟨Nat.le_of_ble_eq_true rfl, Nat.le_of_ble_eq_true rfl⟩ ?_
      have e : a = P := by omega
      subst e
      exact hq J hF
    · rw [r0, nI_leI (by omega) (by omega)] at c14
      refine g_iconst (v := nI 0) hX dX5_bestButter_17 (by decide) ?_
      refine g_istore (lv' := [(5, .int _), (4, .int _), (3, .int _), (0, .ref _), (1, .int _), (2, .int _)]) hX dX5_bestButter_18 (by decide) rfl ?_
      have hz := lp_X5_bestButter_20 (I := I) hM hCR hmn hh9 (show a < P by omega) (fun J2 hF2 => ?_) P 0 J (Nat.sub_zero P).symm (Nat.zero_le _) hF
      · rw [rowL, List.append_nil] at hz
        exact g_pick [0, 1, 2, 3, 4, 5] rfl hz
      refine g_iinc (lv' := [(4, .int _), (5, .int _), (3, .int _), (0, .ref _), (1, .int _), (2, .int _)]) hX dX5_bestButter_53 rfl (by first | exact nI_inc _ | rfl) (by decide) rfl ?_
      refine g_goto 5 hX dX5_bestButter_56 (by decide) ?_
      exact g_pick [0, 2, 3, 4, 5] rfl (ih (P - (a + 1)) (by omega) (a + 1) J2 rfl (by omega) hF2)
