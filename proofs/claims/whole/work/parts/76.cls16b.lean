set_option maxHeartbeats 4000000 in
set_option maxRecDepth 100000 in
theorem lp_X5_pairAll_2 {Γ : Ga} {d : Nat} {κ : Kp} {Q : Option Value → Kp → Ip → Prop} {X : Cx} {c P T : Nat} {w s : Nat → Int32} {past kept : List (Nat → Int32)} {tx : Nat → Int32} {sz : Nat} {mn : Nat} {I : Ip} (hM : Mx Γ (d + 6) mX5_pairAll Q X) (hCR : CR κ c I P T w s past kept tx sz) (hmn : mn ≤ 60) (hq : ∀ J : Ip, CFr c (κ.2.1 c 7) I J → PaB κ J (c + 31) P (lkF w) (vN w s T mn) → J (κ.2.1 (c + 31) 1) (2 ^ P - 1) = nI (DF (lkF w) (vN w s T mn) P (2 ^ P - 1)).1 → (∀ x, x < P → J (κ.2.1 (c + 31) 3) x = eI P (bmF (lkF w) (vN w s T mn) P 64 (2 ^ P - 1) x)) → Q none κ J) : ∀ (n : Nat) (a : Nat) (J : Ip), n = P - a → a ≤ P → CFr c (κ.2.1 c 7) I J → (∀ a' b', a' < b' → b' < P → (a' < a) → J (κ.2.1 (c + 31) 0) (6 * a' + b') = if lkF w a' b' = true then nI ((vN w s T mn) a' b') else -2) → GW Γ mX5_pairAll X 2 [(2, .int (nI a)), (0, .ref (c)), (1, .int (nI mn))] [] κ (J) 0 0 := by
  have hX := hM.std
  have hR := hM.room
  intro n
  induction n using Nat.strongRecOn with
  | ind n ih =>
    intro a J hn ha hF hB
    have hCRJ := (hCR.fr hF).1
    have esp : κ.2.1 c 7 = κ.2.1 c 7 := rfl
    obtain ⟨hC, hTR, hw, hP1, hSR, hs, hpa, hpl, hke, hkl, htx⟩ := id hCRJ
    obtain ⟨hw0, hw1, hP, hT, -⟩ := id hw
    obtain ⟨cz, ckd, g0, g1, g2, g3, g4, g5, -⟩ := id hC
    have hk0 : κ.1 c = (5, 0) := ckd 0 (by decide)
    have hTx := hC.txo
    obtain ⟨hSt, e34⟩ := hC.now
    obtain ⟨hA, e56⟩ := hC.ahd
    have hS7 := hC.sh7
    have hS25 := hC.sh25
    have hPa := hC.pa
    have hTwL := hC.tw6
    have hSpL := hC.tw7
    have hTw := hTwL.1
    have k1 := hTx.1
    have k3 := hSt.1
    have k5 := hA.1
    have k7 := hS7.1
    have k25 := hS25.1
    have k31 := hPa.1
    have k6 := hTw.1
    have ks := hSpL.1.1
    have z6 := hTw.2.1
    have zs := hSpL.1.2.1
    have htt := hC.two
    rw [← e34] at hSR
    obtain ⟨r0, r1, r2, r3, r4, r5, r6, r7, r8⟩ := id hTR
    have hrow : ∀ k, k < 4 → κ.2.1 (c + 31) k = c + 32 + k := fun k hk => hC.2.2.2.2.2.2.2.2.2.2.2.2.1 k hk
    refine g_iload_n hX dX5_pairAll_2 rfl rfl ?_
    refine g_aload_n hX dX5_pairAll_3 rfl rfl ?_
    refine g_getR hX dX5_pairAll_4 flX5_48 (by assumption) rfl (by first | assumption | rfl) (by first | assumption | exact Nat.succ_ne_zero _) ?_
    refine g_getI hX dX5_pairAll_7 flX5_88 (by assumption) rfl ?_
    refine g_icmpge 63 hX dX5_pairAll_10 (by decide) (fun c10 => ?_) (fun c10 => ?_)
    · rw [r0, nI_leI (by omega) (by omega)] at c10
      refine g_aload_n hX dX5_pairAll_63 rfl rfl ?_
      refine g_getR hX dX5_pairAll_64 flX5_41 (by assumption) rfl (by first | assumption | rfl) (by first | assumption | exact Nat.succ_ne_zero _) ?_
      refine g_aload_n hX dX5_pairAll_67 rfl rfl ?_
      refine g_getR hX dX5_pairAll_68 flX5_48 (by assumption) rfl (by first | assumption | rfl) (by first | assumption | exact Nat.succ_ne_zero _) ?_
      refine g_getI hX dX5_pairAll_71 flX5_88 (by assumption) rfl ?_
      refine g_callV (md' := mX0_solve) (ci := 0) (As := [.int _]) hX hR dX5_pairAll_74 clX5_248 okX0_solve rfl (by assumption) rfl rfl (Nat.le_of_ble_eq_true rfl) (Nat.le_of_ble_eq_true rfl) ⟨Nat.le_of_ble_eq_true rfl, Nat.le_of_ble_eq_true rfl⟩ ?_
      rw [r0]
      refine sp_X0_solve (v := (vN w s T mn)) hPa hP (fun a' b' h1 h2 => hB a' b' h1 h2 (by omega)) vN_le (fun J2 hF2 hD hm => ?_)
      change GW _ _ _ 77 _ [] _ _ 0 0
      refine g_vret hM dX5_pairAll_77 rfl ⟨Nat.le_of_ble_eq_true rfl, Nat.le_of_ble_eq_true rfl⟩ ?_
      refine hq J2 (hF.tr ⟨fun x x1 x2 x3 x4 x5 => hF2 x (by rw [hrow 1 (by decide)]; omega) (by rw [hrow 2 (by decide)]; omega) (by rw [hrow 3 (by decide)]; omega), fun k hk => by rw [hF2 (c + 1) (by rw [hrow 1 (by decide)]; omega) (by rw [hrow 2 (by decide)]; omega) (by rw [hrow 3 (by decide)]; omega)]⟩) (fun a' b' h1 h2 => ?_) hD hm
      rw [hF2 _ (by rw [hrow 0 (by decide), hrow 1 (by decide)]; omega) (by rw [hrow 0 (by decide), hrow 2 (by decide)]; omega) (by rw [hrow 0 (by decide), hrow 3 (by decide)]; omega)]
      exact hB a' b' h1 h2 (by omega)
    · rw [r0, nI_leI (by omega) (by omega)] at c10
      refine g_iload_n hX dX5_pairAll_13 rfl rfl ?_
      refine g_iconst (v := nI 1) hX dX5_pairAll_14 (by decide) ?_
      refine g_iadd hX dX5_pairAll_15 ?_
      rw [nI_add]
      refine g_istore_n (lv' := [(3, .int _), (2, .int _), (0, .ref _), (1, .int _)]) hX dX5_pairAll_16 rfl (by decide) rfl ?_
      refine g_pick [0, 1, 2, 3] rfl (lp_X5_pairAll_17 (I := I) hM hCR hmn (show a < P by omega) (fun J2 hF2 hB2 => ?_) (P - (a + 1)) (a + 1) J rfl (by omega) (by omega) hF (fun a' b' h1 h2 h3 => hB a' b' h1 h2 (by omega)))
      refine g_iinc (lv' := [(2, .int _), (3, .int _), (0, .ref _), (1, .int _)]) hX dX5_pairAll_57 rfl (by first | exact nI_inc _ | rfl) (by decide) rfl ?_
      refine g_goto 2 hX dX5_pairAll_60 (by decide) ?_
      exact g_pick [0, 2, 3] rfl (ih (P - (a + 1)) (by omega) (a + 1) J2 rfl (by omega) hF2 hB2)
