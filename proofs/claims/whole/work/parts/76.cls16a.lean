set_option maxHeartbeats 4000000 in
set_option maxRecDepth 100000 in
theorem lp_X5_pairAll_17 {Γ : Ga} {d : Nat} {κ : Kp} {Q : Option Value → Kp → Ip → Prop} {X : Cx} {c P T : Nat} {w s : Nat → Int32} {past kept : List (Nat → Int32)} {tx : Nat → Int32} {sz : Nat} {mn : Nat} {I : Ip} {a : Nat} (hM : Mx Γ (d + 6) mX5_pairAll Q X) (hCR : CR κ c I P T w s past kept tx sz) (hmn : mn ≤ 60) (ha : a < P) (hout : ∀ J : Ip, CFr c (κ.2.1 c 7) I J → (∀ a' b', a' < b' → b' < P → (a' < a + 1) → J (κ.2.1 (c + 31) 0) (6 * a' + b') = if lkF w a' b' = true then nI ((vN w s T mn) a' b') else -2) → GW Γ mX5_pairAll X 57 [(3, .int (nI P)), (2, .int (nI a)), (0, .ref c), (1, .int (nI mn))] [] κ J 0 0) : ∀ (n : Nat) (b : Nat) (J : Ip), n = P - b → a < b → b ≤ P → CFr c (κ.2.1 c 7) I J → (∀ a' b', a' < b' → b' < P → (a' < a ∨ (a' = a ∧ b' < b)) → J (κ.2.1 (c + 31) 0) (6 * a' + b') = if lkF w a' b' = true then nI ((vN w s T mn) a' b') else -2) → GW Γ mX5_pairAll X 17 [(3, .int (nI b)), (2, .int (nI a)), (0, .ref (c)), (1, .int (nI mn))] [] κ (J) 0 0 := by
  have hX := hM.std
  have hR := hM.room
  intro n
  induction n using Nat.strongRecOn with
  | ind n ih =>
    intro b J hn hab hb hF hB
    have hCRJ := (hCR.fr hF).1
    have esp : κ.2.1 c 7 = κ.2.1 c 7 := rfl
    obtain ⟨hC, hTR, hw, hP1, hSR, hs, hpa, hpl, hke, hkl, htx⟩ := id hCRJ
    obtain ⟨hw0, hw1, hP, hT, -⟩ := id hw
    obtain ⟨cz, ckd, g0, g1, g2, g3, g4, g5, -⟩ := id hC
    have hk0 : κ.1 c = (5, 0) := ckd 0 (by decide)
    have hTx := hC.txo
    obtain ⟨hSt, e34⟩ := hC.now
    obtain ⟨hA, e56⟩ := hC.ahd
    have hS7 := hC.sh7
    have hS25 := hC.sh25
    have hPa := hC.pa
    have hTwL := hC.tw6
    have hSpL := hC.tw7
    have hTw := hTwL.1
    have k1 := hTx.1
    have k3 := hSt.1
    have k5 := hA.1
    have k7 := hS7.1
    have k25 := hS25.1
    have k31 := hPa.1
    have k6 := hTw.1
    have ks := hSpL.1.1
    have z6 := hTw.2.1
    have zs := hSpL.1.2.1
    have htt := hC.two
    rw [← e34] at hSR
    obtain ⟨r0, r1, r2, r3, r4, r5, r6, r7, r8⟩ := id hTR
    have hrow : ∀ k, k < 4 → κ.2.1 (c + 31) k = c + 32 + k := fun k hk => hC.2.2.2.2.2.2.2.2.2.2.2.2.1 k hk
    refine g_iload_n hX dX5_pairAll_17 rfl rfl ?_
    refine g_aload_n hX dX5_pairAll_18 rfl rfl ?_
    refine g_getR hX dX5_pairAll_19 flX5_48 (by assumption) rfl (by first | assumption | rfl) (by first | assumption | exact Nat.succ_ne_zero _) ?_
    refine g_getI hX dX5_pairAll_22 flX5_88 (by assumption) rfl ?_
    refine g_icmpge 57 hX dX5_pairAll_25 (by decide) (fun c25 => ?_) (fun c25 => ?_)
    · rw [r0, nI_leI (by omega) (by omega)] at c25
      have e : b = P := by omega
      subst e
      exact g_pick [0, 1, 2, 3] rfl (hout J hF (fun a' b' h1 h2 h3 => hB a' b' h1 h2 (by omega)))
    · rw [r0, nI_leI (by omega) (by omega)] at c25
      refine g_aload_n hX dX5_pairAll_28 rfl rfl ?_
      refine g_getR hX dX5_pairAll_29 flX5_41 (by assumption) rfl (by first | assumption | rfl) (by first | assumption | exact Nat.succ_ne_zero _) ?_
      refine g_iload_n hX dX5_pairAll_32 rfl rfl ?_
      refine g_iload_n hX dX5_pairAll_33 rfl rfl ?_
      refine g_aload_n hX dX5_pairAll_34 rfl rfl ?_
      refine g_iload_n hX dX5_pairAll_35 rfl rfl ?_
      refine g_iload_n hX dX5_pairAll_36 rfl rfl ?_
      refine g_iload_n hX dX5_pairAll_37 rfl rfl ?_
      refine g_aload_n hX dX5_pairAll_38 rfl rfl ?_
      refine g_getR hX dX5_pairAll_39 flX5_19 (by assumption) rfl (by first | assumption | rfl) (by first | assumption | exact Nat.succ_ne_zero _) ?_
      refine g_getI hX dX5_pairAll_42 flX5_198 (by assumption) rfl ?_
      refine g_callV (md' := mX5_wouldBring) (ci := 5) (As := [.int _, .int _, .int _, .int _]) hX hR dX5_pairAll_45 clX5_219 okX5_wouldBring rfl (by assumption) rfl rfl (Nat.le_of_ble_eq_true rfl) (Nat.le_of_ble_eq_true rfl) ⟨Nat.le_of_ble_eq_true rfl, Nat.le_of_ble_eq_true rfl⟩ ?_
      rw [hSR.2.1]
      refine sp_X5_wouldBringA hCRJ ha (show b < P by omega) hmn hs.2.1 (fun J2 hF2 => ?_)
      rw [wb_row hw hs hmn ha (by omega)]
      change GW _ _ _ 48 _ [.int _, .int _, .int _, .ref _] _ _ 0 0
      refine g_callV (md' := mX0_setButter) (ci := 0) (As := [.int _, .int _, .int _]) hX hR dX5_pairAll_48 clX5_244 okX0_setButter rfl (by assumption) rfl rfl (Nat.le_of_ble_eq_true rfl) (Nat.le_of_ble_eq_true rfl) ⟨Nat.le_of_ble_eq_true rfl, Nat.le_of_ble_eq_true rfl⟩ ?_
      refine sp_X0_setButter hPa (show a < 6 by omega) (show b < 6 by omega) ?_
      change GW _ _ _ 51 _ [] _ _ 0 0
      refine g_iinc (lv' := [(3, .int _), (2, .int _), (0, .ref _), (1, .int _)]) hX dX5_pairAll_51 rfl (by first | exact nI_inc _ | rfl) (by decide) rfl ?_
      refine g_goto 17 hX dX5_pairAll_54 (by decide) ?_
      refine g_pick [0, 1, 2, 3] rfl (ih (P - (b + 1)) (by omega) (b + 1) _ rfl (by omega) (by omega) ((hF.tr hF2.cfr).tr ⟨fun x x1 x2 x3 x4 x5 => ?_, fun k hk => ?_⟩) (fun a' b' h1 h2 h3 => ?_))
      · exact up_ne _ _ (by rw [hrow 0 (by decide)]; omega)
      · rw [up_ne _ _ (by rw [hrow 0 (by decide)]; omega)]
      · rw [up_same]
        by_cases e : 6 * a' + b' = 6 * a + b
        · obtain ⟨rfl, rfl⟩ : a' = a ∧ b' = b := by omega
          rw [up_same]
        · rw [up_ne _ _ e, hF2 _ (by rw [hrow 0 (by decide)]; omega) (by rw [hrow 0 (by decide)]; omega)]
          exact hB a' b' h1 h2 (by omega)
