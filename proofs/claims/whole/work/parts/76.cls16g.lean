set_option maxHeartbeats 4000000 in
set_option maxRecDepth 100000 in
theorem lp_X5_leave_16 {Γ : Ga} {d : Nat} {κ : Kp} {Q : Option Value → Kp → Ip → Prop} {X : Cx} {c P T : Nat} {w s : Nat → Int32} {past kept : List (Nat → Int32)} {tx : Nat → Int32} {sz : Nat} {mn : Nat} {I : Ip} (hM : Mx Γ (d + 7) mX5_leave Q X) (hCR : CR κ c I P T w s past kept tx sz) (hmn : mn ≤ 60) (hB : PaB κ I (c + 31) P (lkF w) (vN w s T mn)) (hm : ∀ p, p < P → I (κ.2.1 (c + 31) 3) p = eI P ((bwF (lkF w) (wbF w s T mn (s 9) (-4)) P) p)) (hq : ∀ v : Int32, (match (upL P P).find? (lvB (lkF w) (wbF w s T mn (s 9) (-4)) P (bwF (lkF w) (wbF w s T mn (s 9) (-4)) P)) with | some x => v = nI (10 * x.1 + x.2) | none => v = -4) → Q (some (.int v)) κ I) : ∀ (n : Nat) (a : Nat), n = P - a → a ≤ P → (upL P a).find? (lvB (lkF w) (wbF w s T mn (s 9) (-4)) P (bwF (lkF w) (wbF w s T mn (s 9) (-4)) P)) = none → GW Γ mX5_leave X 16 [(2, .int (nI a)), (0, .ref (c))] [] κ (I) 0 0 := by
  have hX := hM.std
  have hR := hM.room
  intro n
  induction n using Nat.strongRecOn with
  | ind n ih =>
    intro a hn ha hno
    obtain ⟨hC, hTR, hw, hP1, hSR, hs, hpa, hpl, hke, hkl, htx⟩ := id hCR
    obtain ⟨hw0, hw1, hP, hT, -⟩ := id hw
    obtain ⟨cz, ckd, g0, g1, g2, g3, g4, g5, -⟩ := id hC
    have hk0 : κ.1 c = (5, 0) := ckd 0 (by decide)
    have hTx := hC.txo
    obtain ⟨hSt, e34⟩ := hC.now
    obtain ⟨hA, e56⟩ := hC.ahd
    have hS7 := hC.sh7
    have hS25 := hC.sh25
    have hPa := hC.pa
    have hTwL := hC.tw6
    have hSpL := hC.tw7
    have hTw := hTwL.1
    have k1 := hTx.1
    have k3 := hSt.1
    have k5 := hA.1
    have k7 := hS7.1
    have k25 := hS25.1
    have k31 := hPa.1
    have k6 := hTw.1
    have ks := hSpL.1.1
    have z6 := hTw.2.1
    have zs := hSpL.1.2.1
    have htt := hC.two
    rw [← e34] at hSR
    obtain ⟨r0, r1, r2, r3, r4, r5, r6, r7, r8⟩ := id hTR
    refine g_iload_n hX dX5_leave_16 rfl rfl ?_
    refine g_aload_n hX dX5_leave_17 rfl rfl ?_
    refine g_getR hX dX5_leave_18 flX5_48 (by assumption) rfl (by first | assumption | rfl) (by first | assumption | exact Nat.succ_ne_zero _) ?_
    refine g_getI hX dX5_leave_21 flX5_88 (by assumption) rfl ?_
    refine g_icmpge 70 hX dX5_leave_24 (by decide) (fun c24 => ?_) (fun c24 => ?_)
    · rw [r0, nI_leI (by omega) (by omega)] at c24
      refine g_bipush (v := (-4)) hX dX5_leave_70 (by decide) ?_
      refine g_iret hM dX5_leave_72 rfl (rfl) ⟨Nat.le_of_ble_eq_true rfl, Nat.le_of_ble_eq_true rfl⟩ ?_
      have e : a = P := by omega
      subst e
      refine hq _ ?_
      rw [hno]
    · rw [r0, nI_leI (by omega) (by omega)] at c24
      refine g_iload_n hX dX5_leave_27 rfl rfl ?_
      refine g_iconst (v := nI 1) hX dX5_leave_28 (by decide) ?_
      refine g_iadd hX dX5_leave_29 ?_
      refine g_istore_n (lv' := [(3, .int _), (2, .int _), (0, .ref _)]) hX dX5_leave_30 rfl (by decide) rfl ?_
      refine g_pick [0, 1, 2] rfl ?_
      rw [nI_add]
      refine lp_X5_leave_31 hM hCR hmn hB hm (show a < P by omega) hno hq (fun hr2 => ?_) (P - (a + 1)) 0 (Nat.sub_zero _).symm (Nat.zero_le _) rfl
      refine g_iinc (lv' := [(2, .int _), (3, .int _), (0, .ref _)]) hX dX5_leave_64 rfl (by first | exact nI_inc _ | rfl) (by decide) rfl ?_
      refine g_goto 16 hX dX5_leave_67 (by decide) ?_
      exact g_pick [0, 2] rfl (ih (P - (a + 1)) (by omega) (a + 1) rfl (by omega) (by rw [upL, List.find?_append, hno, hr2]; rfl))
