set_option maxHeartbeats 4000000 in
set_option maxRecDepth 100000 in
theorem sp_X5_wouldLeave {Γ : Ga} {d : Nat} {κ : Kp} {I : Ip} {Q : Option Value → Kp → Ip → Prop} {c P T : Nat} {w s : Nat → Int32} {past kept : List (Nat → Int32)} {tx : Nat → Int32} {sz : Nat} {a b mn : Nat} (hCR : CR κ c I P T w s past kept tx sz) (hmn : mn ≤ 60) (hB : PaB κ I (c + 31) P (lkF w) (vN w s T mn)) (hm : ∀ p, p < P → I (κ.2.1 (c + 31) 3) p = eI P ((bwF (lkF w) (wbF w s T mn (s 9) (-4)) P) p)) (hab : a < b) (hb : b < P) (hq : Q (some (.int (b2i (lvB (lkF w) (wbF w s T mn (s 9) (-4)) P (bwF (lkF w) (wbF w s T mn (s 9) (-4)) P) (a, b))))) κ I) : Sp Γ (d + 3) mX5_wouldLeave [.ref (c), .int (nI a), .int (nI b)] κ I Q := by
  obtain ⟨hC, hTR, hw, hP1, hSR, hs, hpa, hpl, hke, hkl, htx⟩ := id hCR
  obtain ⟨hw0, hw1, hP, hT, -⟩ := id hw
  obtain ⟨cz, ckd, g0, g1, g2, g3, g4, g5, -⟩ := id hC
  have hk0 : κ.1 c = (5, 0) := ckd 0 (by decide)
  have hTx := hC.txo
  obtain ⟨hSt, e34⟩ := hC.now
  obtain ⟨hA, e56⟩ := hC.ahd
  have hS7 := hC.sh7
  have hS25 := hC.sh25
  have hPa := hC.pa
  have hTwL := hC.tw6
  have hSpL := hC.tw7
  have hTw := hTwL.1
  have k1 := hTx.1
  have k3 := hSt.1
  have k5 := hA.1
  have k7 := hS7.1
  have k25 := hS25.1
  have k31 := hPa.1
  have k6 := hTw.1
  have ks := hSpL.1.1
  have z6 := hTw.2.1
  have zs := hSpL.1.2.1
  have htt := hC.two
  rw [← e34] at hSR
  obtain ⟨r0, r1, r2, r3, r4, r5, r6, r7, r8⟩ := id hTR
  have hval : ∀ p, p < P → (bwF (lkF w) (wbF w s T mn (s 9) (-4)) P) p < P → (bwF (lkF w) (wbF w s T mn (s 9) (-4)) P) p ≠ p ∧ (bwF (lkF w) (wbF w s T mn (s 9) (-4)) P) ((bwF (lkF w) (wbF w s T mn (s 9) (-4)) P) p) = p ∧ lkF w p ((bwF (lkF w) (wbF w s T mn (s 9) (-4)) P) p) = true := fun p hp h => two_vld (by omega) hp h
  have hle : ∀ p, (bwF (lkF w) (wbF w s T mn (s 9) (-4)) P) p ≤ P := fun p => dig_le _ _ _
  have hsy := hw.2.2.2.2.2.2.1
  have hwV := wb_V (mn := mn) hw hs hmn
  generalize (bwF (lkF w) (wbF w s T mn (s 9) (-4)) P) = q at hm hq hval hle
  have hmat : ∀ p, p < P → I (κ.2.1 (c + 31) 3) p = -1 ∨ ∃ b, b < 6 ∧ b ≠ p ∧ I (κ.2.1 (c + 31) 3) p = nI b := fun p hp => by
    rw [hm p hp]
    by_cases e : q p = P
    · left; rw [e, eI_P]
    · right
      have := hle p
      exact ⟨q p, by omega, (hval p hp (by omega)).1, eI_n e⟩
  have hhas : ∀ p, p < P → (if I (κ.2.1 (c + 31) 3) p = -1 then nI 0 else I (κ.2.1 (c + 31) 0) (6 * min p (I (κ.2.1 (c + 31) 3) p).toNatClampNeg + max p (I (κ.2.1 (c + 31) 3) p).toNatClampNeg)) = hasF (wbF w s T mn (s 9) (-4)) P q p := fun p hp => by
    rw [hm p hp]
    have hl := hle p
    unfold hasF
    by_cases e : q p = P
    · rw [e, eI_P, if_pos rfl, if_neg (by omega)]
    · obtain ⟨v1, v2, v3⟩ := hval p hp (by omega)
      have hlk : lkF w (min p (q p)) (max p (q p)) = true := by
        rcases Nat.lt_or_ge p (q p) with z | z
        · rw [Nat.min_eq_left (by omega), Nat.max_eq_right (by omega)]; exact v3
        · rw [Nat.min_eq_right (by omega), Nat.max_eq_left (by omega)]
          have := hsy p (q p) hp (by omega)
          unfold lkF at v3 ⊢
          rw [← this]; exact v3
      rw [eI_n e, if_neg (nI_m1 (by omega)), if_pos (by omega), nI_clamp (by omega), hB _ _ (by omega) (by omega), if_pos hlk, hwV _ _ (by omega) (by omega) hlk]
  intro X hM
  have hX := hM.std
  have hR := hM.room
  show GW _ mX5_wouldLeave X 0 [(0, .ref (c)), (1, .int (nI a)), (2, .int (nI b))] [] _ _ 0 0
  refine g_aload_n hX dX5_wouldLeave_0 rfl rfl ?_
  refine g_getR hX dX5_wouldLeave_1 flX5_41 (by assumption) rfl (by first | assumption | rfl) (by first | assumption | exact Nat.succ_ne_zero _) ?_
  refine g_iload_n hX dX5_wouldLeave_4 rfl rfl ?_
  refine g_iload_n hX dX5_wouldLeave_5 rfl rfl ?_
  refine g_callV (md' := mX0_butterOf) (ci := 0) (As := [.int _, .int _]) hX hR dX5_wouldLeave_6 clX5_254 okX0_butterOf rfl (by assumption) rfl rfl (Nat.le_of_ble_eq_true rfl) (Nat.le_of_ble_eq_true rfl) ⟨Nat.le_of_ble_eq_true rfl, Nat.le_of_ble_eq_true rfl⟩ ?_
  refine sp_X0_butterOf hPa (by omega) (by omega) (by omega) ?_
  rw [show 6 * min a b + max a b = 6 * a + b by omega, hB a b hab hb]
  obtain ⟨x, ex⟩ : ∃ x : Int32, x = (if lkF w a b = true then nI (vN w s T mn a b) else -2) := ⟨_, rfl⟩
  rw [← ex]
  change GW _ _ _ 9 _ [.int _] _ _ 0 0
  refine g_istore_n (lv' := [(3, .int _), (0, .ref _), (1, .int _), (2, .int _)]) hX dX5_wouldLeave_9 rfl (by decide) rfl ?_
  refine g_iload_n hX dX5_wouldLeave_10 rfl rfl ?_
  refine g_aload_n hX dX5_wouldLeave_11 rfl rfl ?_
  refine g_getR hX dX5_wouldLeave_12 flX5_41 (by assumption) rfl (by first | assumption | rfl) (by first | assumption | exact Nat.succ_ne_zero _) ?_
  refine g_iload_n hX dX5_wouldLeave_15 rfl rfl ?_
  refine g_callV (md' := mX0_hasNow) (ci := 0) (As := [.int _]) hX hR dX5_wouldLeave_16 clX5_257 okX0_hasNow rfl (by assumption) rfl rfl (Nat.le_of_ble_eq_true rfl) (Nat.le_of_ble_eq_true rfl) ⟨Nat.le_of_ble_eq_true rfl, Nat.le_of_ble_eq_true rfl⟩ ?_
  refine sp_X0_hasNow hPa (by omega) (hmat a (by omega)) ?_
  rw [hhas a (by omega)]
  obtain ⟨za, ea⟩ : ∃ za : Int32, za = hasF (wbF w s T mn (s 9) (-4)) P q a := ⟨_, rfl⟩
  rw [← ea]
  change GW _ _ _ 19 _ [.int _, .int _] _ _ 0 0
  refine g_icmple 38 hX dX5_wouldLeave_19 (by decide) (fun c19 => ?_) (fun c19 => ?_)
  · refine g_iconst (v := nI 0) hX dX5_wouldLeave_38 (by decide) ?_
    refine g_iret hM dX5_wouldLeave_39 rfl (rfl) ⟨Nat.le_of_ble_eq_true rfl, Nat.le_of_ble_eq_true rfl⟩ ?_
    obtain ⟨zb, eb⟩ : ∃ zb : Int32, zb = hasF (wbF w s T mn (s 9) (-4)) P q b := ⟨_, rfl⟩
    refine q_f ?_ hq
    rw [← lv_eq hw hs hmn hab hb hval ex ea eb]
    exact decide_eq_false (fun z => Int32_nle.mpr z.1 c19)
  · refine g_iload_n hX dX5_wouldLeave_22 rfl rfl ?_
    refine g_aload_n hX dX5_wouldLeave_23 rfl rfl ?_
    refine g_getR hX dX5_wouldLeave_24 flX5_41 (by assumption) rfl (by first | assumption | rfl) (by first | assumption | exact Nat.succ_ne_zero _) ?_
    refine g_iload_n hX dX5_wouldLeave_27 rfl rfl ?_
    refine g_callV (md' := mX0_hasNow) (ci := 0) (As := [.int _]) hX hR dX5_wouldLeave_28 clX5_257 okX0_hasNow rfl (by assumption) rfl rfl (Nat.le_of_ble_eq_true rfl) (Nat.le_of_ble_eq_true rfl) ⟨Nat.le_of_ble_eq_true rfl, Nat.le_of_ble_eq_true rfl⟩ ?_
    refine sp_X0_hasNow hPa (by omega) (hmat b (by omega)) ?_
    rw [hhas b (by omega)]
    obtain ⟨zb, eb⟩ : ∃ zb : Int32, zb = hasF (wbF w s T mn (s 9) (-4)) P q b := ⟨_, rfl⟩
    rw [← eb]
    change GW _ _ _ 31 _ [.int _, .int _] _ _ 0 0
    refine g_icmple 38 hX dX5_wouldLeave_31 (by decide) (fun c31 => ?_) (fun c31 => ?_)
    · refine g_iconst (v := nI 0) hX dX5_wouldLeave_38 (by decide) ?_
      refine g_iret hM dX5_wouldLeave_39 rfl (rfl) ⟨Nat.le_of_ble_eq_true rfl, Nat.le_of_ble_eq_true rfl⟩ ?_
      refine q_f ?_ hq
      rw [← lv_eq hw hs hmn hab hb hval ex ea eb]
      exact decide_eq_false (fun z => Int32_nle.mpr z.2 c31)
    · refine g_iconst (v := nI 1) hX dX5_wouldLeave_34 (by decide) ?_
      refine g_goto 39 hX dX5_wouldLeave_35 (by decide) ?_
      refine g_iret hM dX5_wouldLeave_39 rfl (rfl) ⟨Nat.le_of_ble_eq_true rfl, Nat.le_of_ble_eq_true rfl⟩ ?_
      refine q_t ?_ hq
      rw [← lv_eq hw hs hmn hab hb hval ex ea eb]
      exact decide_eq_true ⟨Int32_nle.mp c19, Int32_nle.mp c31⟩
