set_option maxHeartbeats 4000000 in
set_option maxRecDepth 100000 in
theorem lp_X5_held_108 {Γ : Ga} {d : Nat} {κ : Kp} {Q : Option Value → Kp → Ip → Prop} {X : Cx} {c P T : Nat} {w s : Nat → Int32} {past kept : List (Nat → Int32)} {tx : Nat → Int32} {sz : Nat} {a b mn x tl l : Nat} {h part : Int32} {I : Ip} (hM : Mx Γ (d + 7) mX5_held Q X) (hCR : CR κ c I P T w s past kept tx sz) (ha : a < P) (hb : b < P) (hlk : lkF w a b = true) (hmn : mn ≤ 60) (hx : x ≤ 10) (htl : telF w s T a b = nI tl) (htl5 : tl < 512) (hl : l = pcI (telF w s T a b)) (hout : ∀ J : Ip, CFr c (κ.2.1 c 7) I J → GW Γ mX5_held X 205 [(9, .long (lN (fb_sm (clF (fun k => brF w s T a b mn (s 9 ||| nI k)) tl h x l) 512))), (0, .ref (c)), (1, .int (nI a)), (2, .int (nI b)), (3, .int (nI mn)), (4, .int (h)), (5, .int (nI x)), (6, .int (part)), (7, .int (nI tl)), (8, .int (nI l))] [] κ J 0 0) : ∀ (n : Nat) (k : Nat) (J : Ip), n = 512 - k → k ≤ 512 → CFr c (κ.2.1 c 7) I J → GW Γ mX5_held X 108 [(11, .int (nI k)), (9, .long (lN (fb_sm (clF (fun k => brF w s T a b mn (s 9 ||| nI k)) tl h x l) k))), (0, .ref (c)), (1, .int (nI a)), (2, .int (nI b)), (3, .int (nI mn)), (4, .int (h)), (5, .int (nI x)), (6, .int (part)), (7, .int (nI tl)), (8, .int (nI l))] [] κ (J) 0 0 := by
  have hX := hM.std
  have hR := hM.room
  intro n
  induction n using Nat.strongRecOn with
  | ind n ih =>
    intro k J hn hk hF
    have hCRJ := (hCR.fr hF).1
    have esp : κ.2.1 c 7 = κ.2.1 c 7 := rfl
    obtain ⟨hC, hTR, hw, hP1, hSR, hs, hpa, hpl, hke, hkl, htx⟩ := id hCRJ
    obtain ⟨hw0, hw1, hP, hT, -⟩ := id hw
    obtain ⟨cz, ckd, g0, g1, g2, g3, g4, g5, -⟩ := id hC
    have hk0 : κ.1 c = (5, 0) := ckd 0 (by decide)
    have hTx := hC.txo
    obtain ⟨hSt, e34⟩ := hC.now
    obtain ⟨hA, e56⟩ := hC.ahd
    have hS7 := hC.sh7
    have hS25 := hC.sh25
    have hPa := hC.pa
    have hTwL := hC.tw6
    have hSpL := hC.tw7
    have hTw := hTwL.1
    have k1 := hTx.1
    have k3 := hSt.1
    have k5 := hA.1
    have k7 := hS7.1
    have k25 := hS25.1
    have k31 := hPa.1
    have k6 := hTw.1
    have ks := hSpL.1.1
    have z6 := hTw.2.1
    have zs := hSpL.1.2.1
    have htt := hC.two
    rw [← e34] at hSR
    obtain ⟨r0, r1, r2, r3, r4, r5, r6, r7, r8⟩ := id hTR
    have hl9 : l ≤ 9 := by rw [hl]; exact fb_ct_le _ 9
    refine g_iload hX dX5_held_108 rfl ?_
    refine g_bipush (v := nI 9) hX dX5_held_110 (by decide) ?_
    refine g_callS (md' := mX5_bit) (As := [.int _]) hX hR dX5_held_112 clX5_201 okX5_bit rfl rfl (Nat.le_of_ble_eq_true rfl) (Nat.le_of_ble_eq_true rfl) ⟨Nat.le_of_ble_eq_true rfl, Nat.le_of_ble_eq_true rfl⟩ ?_
    refine sp_X5_bit ?_
    change GW _ _ _ 115 _ [.int _, .int _] _ _ 0 0
    refine g_icmpge 205 hX dX5_held_115 (by decide) (fun c115 => ?_) (fun c115 => ?_)
    · rw [bitI_nI, bit1_pow (by decide), nI_leI (by omega) (by omega)] at c115
      have e : k = 512 := by omega
      subst e
      exact g_pick [1, 2, 3, 4, 5, 6, 7, 8, 9, 10] rfl (hout J hF)
    · rw [bitI_nI, bit1_pow (by decide), nI_leI (by omega) (by omega)] at c115
      refine g_iload hX dX5_held_118 rfl ?_
      refine g_iload hX dX5_held_120 rfl ?_
      refine g_iconst (v := (-1)) hX dX5_held_122 (by decide) ?_
      refine g_ixor hX dX5_held_123 ?_
      refine g_iand hX dX5_held_124 ?_
      refine g_ifeq 131 hX dX5_held_125 (by decide) (fun c125 => ?_) (fun c125 => ?_)
      · refine g_iload hX dX5_held_131 rfl ?_
        refine g_callS (md' := mJ6_bitCount_0f7a4) (As := [.int _]) hX hR dX5_held_133 clX5_177 okJ6_bitCount_0f7a4 rfl rfl (Nat.le_of_ble_eq_true rfl) (Nat.le_of_ble_eq_true rfl) ⟨Nat.le_of_ble_eq_true rfl, Nat.le_of_ble_eq_true rfl⟩ ?_
        have hpc := sub_pc (w := w) (s := s) (T := T) (a := a) (b := b) (show k < 512 by omega) htl c125
        rw [← hl] at hpc
        have hcw := cwN_le hx hl9 hpc
        refine sp_J6_bitCount_0f7a4 (by omega) ?_
        change GW _ _ _ 136 _ [.int _] _ _ 0 0
        refine g_istore (lv' := [(12, .int _), (11, .int _), (9, .long _), (0, .ref _), (1, .int _), (2, .int _), (3, .int _), (4, .int _), (5, .int _), (6, .int _), (7, .int _), (8, .int _)]) hX dX5_held_136 (by decide) rfl ?_
        refine g_iload hX dX5_held_138 rfl ?_
        refine g_i2l hX dX5_held_140 ?_
        rw [nI_l (by omega)]
        refine g_iload hX dX5_held_141 rfl ?_
        refine g_callS (md' := mX5_power) (As := [.long _, .int _]) hX hR dX5_held_143 clX5_269 okX5_power rfl rfl (Nat.le_of_ble_eq_true rfl) (Nat.le_of_ble_eq_true rfl) ⟨Nat.le_of_ble_eq_true rfl, Nat.le_of_ble_eq_true rfl⟩ ?_
        refine sp_X5_power (by omega) ?_
        change GW _ _ _ 146 _ [.long _] _ _ 0 0
        refine g_bipush (v := nI 10) hX dX5_held_146 (by decide) ?_
        refine g_iload hX dX5_held_148 rfl ?_
        refine g_isub hX dX5_held_150 ?_
        rw [nI_subE (k := 10 - x) (by omega) (by decide)]
        refine g_i2l hX dX5_held_151 ?_
        rw [nI_l (by omega)]
        refine g_iload hX dX5_held_152 rfl ?_
        refine g_iload hX dX5_held_154 rfl ?_
        refine g_isub hX dX5_held_156 ?_
        rw [nI_subE (k := l - pc9 k) (by omega) (by omega)]
        refine g_callS (md' := mX5_power) (As := [.long _, .int _]) hX hR dX5_held_157 clX5_269 okX5_power rfl rfl (Nat.le_of_ble_eq_true rfl) (Nat.le_of_ble_eq_true rfl) ⟨Nat.le_of_ble_eq_true rfl, Nat.le_of_ble_eq_true rfl⟩ ?_
        refine sp_X5_power (by omega) ?_
        change GW _ _ _ 160 _ [.long _, .long _] _ _ 0 0
        refine g_lmul hX dX5_held_160 ?_
        rw [lN_mul, show x ^ pc9 k * (10 - x) ^ (l - pc9 k) = cwN x l k from rfl]
        refine g_lstore (lv' := [(13, .long _), (12, .int _), (11, .int _), (9, .long _), (0, .ref _), (1, .int _), (2, .int _), (3, .int _), (4, .int _), (5, .int _), (6, .int _), (7, .int _), (8, .int _)]) hX dX5_held_161 (by decide) rfl ?_
        refine g_lload hX dX5_held_163 rfl ?_
        refine g_lconst (v := 0) hX dX5_held_165 (by decide) ?_
        refine g_lcmp hX dX5_held_166 ?_
        refine g_ifle 199 hX dX5_held_167 (by decide) (fun c167 => ?_) (fun c167 => ?_)
        · rw [lcmp_le (by omega)] at c167
          refine g_iinc (lv' := [(11, .int _), (13, .long _), (12, .int _), (9, .long _), (0, .ref _), (1, .int _), (2, .int _), (3, .int _), (4, .int _), (5, .int _), (6, .int _), (7, .int _), (8, .int _)]) hX dX5_held_199 rfl (by first | exact nI_inc _ | rfl) (by decide) rfl ?_
          refine g_goto 108 hX dX5_held_202 (by decide) ?_
          have e : fb_sm (clF (fun k => brF w s T a b mn (s 9 ||| nI k)) tl h x l) (k + 1) = fb_sm (clF (fun k => brF w s T a b mn (s 9 ||| nI k)) tl h x l) k := by rw [fb_sm_succ, clF, if_neg (fun z => absurd z.2.1 (by rw [c167]; exact Nat.lt_irrefl _)), Nat.add_zero]
          rw [← e]
          exact g_pick [0, 3, 4, 5, 6, 7, 8, 9, 10, 11, 12] rfl (ih (512 - (k + 1)) (by omega) (k + 1) J rfl (by omega) hF)
        · rw [lcmp_le (by omega)] at c167
          refine g_aload_n hX dX5_held_170 rfl rfl ?_
          refine g_iload_n hX dX5_held_171 rfl rfl ?_
          refine g_iload_n hX dX5_held_172 rfl rfl ?_
          refine g_iload_n hX dX5_held_173 rfl rfl ?_
          refine g_aload_n hX dX5_held_174 rfl rfl ?_
          refine g_getR hX dX5_held_175 flX5_19 (by assumption) rfl (by first | assumption | rfl) (by first | assumption | exact Nat.succ_ne_zero _) ?_
          refine g_getI hX dX5_held_178 flX5_198 (by assumption) rfl ?_
          refine g_iload hX dX5_held_181 rfl ?_
          refine g_ior hX dX5_held_183 ?_
          refine g_callV (md' := mX5_wouldBring) (ci := 5) (As := [.int _, .int _, .int _, .int _]) hX hR dX5_held_184 clX5_219 okX5_wouldBring rfl (by assumption) rfl rfl (Nat.le_of_ble_eq_true rfl) (Nat.le_of_ble_eq_true rfl) ⟨Nat.le_of_ble_eq_true rfl, Nat.le_of_ble_eq_true rfl⟩ ?_
          rw [hSR.2.1]
          refine sp_X5_wouldBring hCRJ ha hb hmn (fun i hi => ?_) (fun J2 hF2 => ?_)
          · rw [b_or] at hi
            simp only [Bool.or_eq_true] at hi
            rcases hi with h | h
            · exact hs.2.1 i h
            · have hi32 : i < 32 := by
                rcases Nat.lt_or_ge i 32 with z | z
                · exact z
                · rw [b_big z] at h; cases h
              rw [bt_nI (by omega) hi32] at h
              have h2 := (sub_bt (show k < 512 by omega)).mp c125 i h
              rw [← htl, tel_bt hT] at h2
              simp only [Bool.and_eq_true, decide_eq_true_eq] at h2
              exact h2.1
          rw [wbF, if_pos hlk]
          change GW _ _ _ 187 _ [.int _] _ _ 0 0
          refine g_iload hX dX5_held_187 rfl ?_
          refine g_icmplt 199 hX dX5_held_189 (by decide) (fun c189 => ?_) (fun c189 => ?_)
          · refine g_iinc (lv' := [(11, .int _), (13, .long _), (12, .int _), (9, .long _), (0, .ref _), (1, .int _), (2, .int _), (3, .int _), (4, .int _), (5, .int _), (6, .int _), (7, .int _), (8, .int _)]) hX dX5_held_199 rfl (by first | exact nI_inc _ | rfl) (by decide) rfl ?_
            refine g_goto 108 hX dX5_held_202 (by decide) ?_
            have e : fb_sm (clF (fun k => brF w s T a b mn (s 9 ||| nI k)) tl h x l) (k + 1) = fb_sm (clF (fun k => brF w s T a b mn (s 9 ||| nI k)) tl h x l) k := by rw [fb_sm_succ, clF, if_neg (fun z => Int32_nle.mpr c189 z.2.2), Nat.add_zero]
            rw [← e]
            exact g_pick [0, 3, 4, 5, 6, 7, 8, 9, 10, 11, 12] rfl (ih (512 - (k + 1)) (by omega) (k + 1) J2 rfl (by omega) (hF.tr hF2))
          · refine g_lload hX dX5_held_192 rfl ?_
            refine g_lload hX dX5_held_194 rfl ?_
            refine g_ladd hX dX5_held_196 ?_
            rw [lN_add]
            refine g_lstore (lv' := [(9, .long _), (13, .long _), (12, .int _), (11, .int _), (0, .ref _), (1, .int _), (2, .int _), (3, .int _), (4, .int _), (5, .int _), (6, .int _), (7, .int _), (8, .int _)]) hX dX5_held_197 (by decide) rfl ?_
            refine g_iinc (lv' := [(11, .int _), (9, .long _), (13, .long _), (12, .int _), (0, .ref _), (1, .int _), (2, .int _), (3, .int _), (4, .int _), (5, .int _), (6, .int _), (7, .int _), (8, .int _)]) hX dX5_held_199 rfl (by first | exact nI_inc _ | rfl) (by decide) rfl ?_
            refine g_goto 108 hX dX5_held_202 (by decide) ?_
            have e : fb_sm (clF (fun k => brF w s T a b mn (s 9 ||| nI k)) tl h x l) (k + 1) = fb_sm (clF (fun k => brF w s T a b mn (s 9 ||| nI k)) tl h x l) k + cwN x l k := by rw [fb_sm_succ, clF, if_pos ⟨c125, by omega, Decidable.of_not_not (fun z => c189 (Int32_nle.mp z))⟩]
            rw [← e]
            exact g_pick [0, 1, 4, 5, 6, 7, 8, 9, 10, 11, 12] rfl (ih (512 - (k + 1)) (by omega) (k + 1) J2 rfl (by omega) (hF.tr hF2))
      · refine g_goto 199 hX dX5_held_128 (by decide) ?_
        refine g_iinc (lv' := [(11, .int _), (9, .long _), (0, .ref _), (1, .int _), (2, .int _), (3, .int _), (4, .int _), (5, .int _), (6, .int _), (7, .int _), (8, .int _)]) hX dX5_held_199 rfl (by first | exact nI_inc _ | rfl) (by decide) rfl ?_
        refine g_goto 108 hX dX5_held_202 (by decide) ?_
        have e : fb_sm (clF (fun k => brF w s T a b mn (s 9 ||| nI k)) tl h x l) (k + 1) = fb_sm (clF (fun k => brF w s T a b mn (s 9 ||| nI k)) tl h x l) k := by rw [fb_sm_succ, clF, if_neg (fun z => c125 z.1), Nat.add_zero]
        rw [← e]
        exact g_pick [0, 1, 2, 3, 4, 5, 6, 7, 8, 9, 10] rfl (ih (512 - (k + 1)) (by omega) (k + 1) J rfl (by omega) hF)
