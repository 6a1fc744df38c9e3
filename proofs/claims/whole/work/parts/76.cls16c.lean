set_option maxHeartbeats 4000000 in
set_option maxRecDepth 100000 in
theorem sp_X5_pairAll {Γ : Ga} {d : Nat} {κ : Kp} {I : Ip} {Q : Option Value → Kp → Ip → Prop} {c P T : Nat} {w s : Nat → Int32} {past kept : List (Nat → Int32)} {tx : Nat → Int32} {sz : Nat} {mn : Nat} (hCR : CR κ c I P T w s past kept tx sz) (hmn : mn ≤ 60) (hq : ∀ J : Ip, CFr c (κ.2.1 c 7) I J → PaB κ J (c + 31) P (lkF w) (vN w s T mn) → J (κ.2.1 (c + 31) 1) (2 ^ P - 1) = nI (DF (lkF w) (vN w s T mn) P (2 ^ P - 1)).1 → (∀ x, x < P → J (κ.2.1 (c + 31) 3) x = eI P (bmF (lkF w) (vN w s T mn) P 64 (2 ^ P - 1) x)) → Q none κ J) : Sp Γ (d + 6) mX5_pairAll [.ref (c), .int (nI mn)] κ I Q := by
  obtain ⟨hC, hTR, hw, hP1, hSR, hs, hpa, hpl, hke, hkl, htx⟩ := id hCR
  obtain ⟨hw0, hw1, hP, hT, -⟩ := id hw
  obtain ⟨cz, ckd, g0, g1, g2, g3, g4, g5, -⟩ := id hC
  have hk0 : κ.1 c = (5, 0) := ckd 0 (by decide)
  have hTx := hC.txo
  obtain ⟨hSt, e34⟩ := hC.now
  obtain ⟨hA, e56⟩ := hC.ahd
  have hS7 := hC.sh7
  have hS25 := hC.sh25
  have hPa := hC.pa
  have hTwL := hC.tw6
  have hSpL := hC.tw7
  have hTw := hTwL.1
  have k1 := hTx.1
  have k3 := hSt.1
  have k5 := hA.1
  have k7 := hS7.1
  have k25 := hS25.1
  have k31 := hPa.1
  have k6 := hTw.1
  have ks := hSpL.1.1
  have z6 := hTw.2.1
  have zs := hSpL.1.2.1
  have htt := hC.two
  rw [← e34] at hSR
  obtain ⟨r0, r1, r2, r3, r4, r5, r6, r7, r8⟩ := id hTR
  intro X hM
  have hX := hM.std
  have hR := hM.room
  show GW _ mX5_pairAll X 0 [(0, .ref (c)), (1, .int (nI mn))] [] _ _ 0 0
  refine g_iconst (v := nI 0) hX dX5_pairAll_0 (by decide) ?_
  refine g_istore_n (lv' := [(2, .int _), (0, .ref _), (1, .int _)]) hX dX5_pairAll_1 rfl (by decide) rfl ?_
  exact g_pick [0, 1, 2] rfl (lp_X5_pairAll_2 hM hCR hmn hq P 0 I (Nat.sub_zero P).symm (Nat.zero_le _) CFr.rf (fun a' b' _ _ h => absurd h (Nat.not_lt_zero _)))
