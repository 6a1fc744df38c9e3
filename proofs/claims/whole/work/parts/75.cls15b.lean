set_option maxHeartbeats 4000000 in
set_option maxRecDepth 100000 in
theorem lp_X5_cost_26 {Γ : Ga} {d : Nat} {κ : Kp} {Q : Option Value → Kp → Ip → Prop} {X : Cx} {c P T : Nat} {w s : Nat → Int32} {past kept : List (Nat → Int32)} {tx : Nat → Int32} {sz : Nat} {mn : Nat} {wh : Int32} {I : Ip} (hM : Mx Γ (d + 7) mX5_cost Q X) (hCR : CR κ c I P T w s past kept tx sz) (hmn : mn ≤ 60) (hq : ∀ J : Ip, CFr c (κ.2.1 c 7) I J → Q (some (.int (if wh = 0 then (costF w s P T mn T).1 else (costF w s P T mn T).2))) κ J) : ∀ (n : Nat) (t : Nat) (J : Ip) (which mo : Int32), n = T - t → t ≤ T → CFr c (κ.2.1 c 7) I J → costR w s P T mn (t) (which) (mo) → GW Γ mX5_cost X 26 [(5, .int (nI t)), (4, .int (mo)), (3, .int (which)), (0, .ref (c)), (1, .int (nI mn)), (2, .int (wh))] [] κ (J) 0 0 := by
  have hX := hM.std
  have hR := hM.room
  intro n
  induction n using Nat.strongRecOn with
  | ind n ih =>
    intro t J which mo hn ht_ hF hR_
    have hCRJ := (hCR.fr hF).1
    have esp : κ.2.1 c 7 = κ.2.1 c 7 := rfl
    obtain ⟨hC, hTR, hw, hP1, hSR, hs, hpa, hpl, hke, hkl, htx⟩ := id hCRJ
    obtain ⟨hw0, hw1, hP, hT, -⟩ := id hw
    obtain ⟨cz, ckd, g0, g1, g2, g3, g4, g5, -⟩ := id hC
    have hk0 : κ.1 c = (5, 0) := ckd 0 (by decide)
    have hTx := hC.txo
    obtain ⟨hSt, e34⟩ := hC.now
    obtain ⟨hA, e56⟩ := hC.ahd
    have hS7 := hC.sh7
    have hS25 := hC.sh25
    have hPa := hC.pa
    have hTwL := hC.tw6
    have hSpL := hC.tw7
    have hTw := hTwL.1
    have k1 := hTx.1
    have k3 := hSt.1
    have k5 := hA.1
    have k7 := hS7.1
    have k25 := hS25.1
    have k31 := hPa.1
    have k6 := hTw.1
    have ks := hSpL.1.1
    have z6 := hTw.2.1
    have zs := hSpL.1.2.1
    have htt := hC.two
    rw [← e34] at hSR
    obtain ⟨r0, r1, r2, r3, r4, r5, r6, r7, r8⟩ := id hTR
    refine g_iload hX dX5_cost_26 rfl ?_
    refine g_aload_n hX dX5_cost_28 rfl rfl ?_
    refine g_getR hX dX5_cost_29 flX5_48 (by assumption) rfl (by first | assumption | rfl) (by first | assumption | exact Nat.succ_ne_zero _) ?_
    refine g_getI hX dX5_cost_32 flX5_204 (by assumption) rfl ?_
    refine g_icmpge 98 hX dX5_cost_35 (by decide) (fun c35 => ?_) (fun c35 => ?_)
    · rw [r1, nI_leI (by omega) (by omega)] at c35
      refine g_iload_n hX dX5_cost_98 rfl rfl ?_
      refine g_iconst (v := (-1)) hX dX5_cost_99 (by decide) ?_
      refine g_icmpne 106 hX dX5_cost_100 (by decide) (fun c100 => ?_) (fun c100 => ?_)
      · refine g_iload_n hX dX5_cost_106 rfl rfl ?_
        refine g_ifne 114 hX dX5_cost_107 (by decide) (fun c107 => ?_) (fun c107 => ?_)
        · refine g_iload hX dX5_cost_114 rfl ?_
          refine g_iret hM dX5_cost_116 rfl (rfl) ⟨Nat.le_of_ble_eq_true rfl, Nat.le_of_ble_eq_true rfl⟩ ?_
          obtain rfl : t = T := by omega
          rcases hR_ with ⟨g1, g2⟩ | ⟨j, k, g1, g2, g3, g4, g5⟩
          · exact absurd g1 c100
          · refine q_int ?_ (hq J hF)
            rw [g5, if_neg c107, g4]
        · refine g_iload_n hX dX5_cost_110 rfl rfl ?_
          refine g_goto 116 hX dX5_cost_111 (by decide) ?_
          refine g_iret hM dX5_cost_116 rfl (rfl) ⟨Nat.le_of_ble_eq_true rfl, Nat.le_of_ble_eq_true rfl⟩ ?_
          obtain rfl : t = T := by omega
          rcases hR_ with ⟨g1, g2⟩ | ⟨j, k, g1, g2, g3, g4, g5⟩
          · exact absurd g1 c100
          · refine q_int ?_ (hq J hF)
            rw [g5, if_pos c107, g3]
      · refine g_bipush (v := (-4)) hX dX5_cost_103 (by decide) ?_
        refine g_iret hM dX5_cost_105 rfl (rfl) ⟨Nat.le_of_ble_eq_true rfl, Nat.le_of_ble_eq_true rfl⟩ ?_
        obtain rfl : t = T := by omega
        rcases hR_ with ⟨g1, g2⟩ | ⟨j, k, g1, g2, g3, g4, g5⟩
        · refine q_int ?_ (hq J hF)
          rw [g2]
          exact ite_self _
        · rw [c100] at g3
          exact absurd g3.symm (nI_m1 (by omega))
    · rw [r1, nI_leI (by omega) (by omega)] at c35
      refine g_aload_n hX dX5_cost_38 rfl rfl ?_
      refine g_getR hX dX5_cost_39 flX5_19 (by assumption) rfl (by first | assumption | rfl) (by first | assumption | exact Nat.succ_ne_zero _) ?_
      refine g_iload hX dX5_cost_42 rfl ?_
      refine g_callV (md' := mX2_isHushed) (ci := 2) (As := [.int _]) hX hR dX5_cost_44 clX5_127 okX2_isHushed rfl (by assumption) rfl rfl (Nat.le_of_ble_eq_true rfl) (Nat.le_of_ble_eq_true rfl) ⟨Nat.le_of_ble_eq_true rfl, Nat.le_of_ble_eq_true rfl⟩ ?_
      refine sp_X2_isHushed hSt (by omega) ?_
      change GW _ _ _ 47 _ [.int _] _ _ 0 0
      refine g_ifeq 53 hX dX5_cost_47 (by decide) (fun c47 => ?_) (fun c47 => ?_)
      · rw [b2i_0, hSR.2.1] at c47
        have htT : t < T := by omega
        refine g_aload_n hX dX5_cost_53 rfl rfl ?_
        refine g_iload_n hX dX5_cost_54 rfl rfl ?_
        refine g_aload_n hX dX5_cost_55 rfl rfl ?_
        refine g_getR hX dX5_cost_56 flX5_19 (by assumption) rfl (by first | assumption | rfl) (by first | assumption | exact Nat.succ_ne_zero _) ?_
        refine g_getI hX dX5_cost_59 flX5_198 (by assumption) rfl ?_
        refine g_iload hX dX5_cost_62 rfl ?_
        refine g_callS (md' := mX5_bit) (As := [.int _]) hX hR dX5_cost_64 clX5_201 okX5_bit rfl rfl (Nat.le_of_ble_eq_true rfl) (Nat.le_of_ble_eq_true rfl) ⟨Nat.le_of_ble_eq_true rfl, Nat.le_of_ble_eq_true rfl⟩ ?_
        refine sp_X5_bit ?_
        change GW _ _ _ 67 _ [.int _, .int _, .int _, .ref _] _ _ 0 0
        refine g_ior hX dX5_cost_67 ?_
        refine g_callV (md' := mX5_bestButter) (ci := 5) (As := [.int _, .int _]) hX hR dX5_cost_68 clX5_223 okX5_bestButter rfl (by assumption) rfl rfl (Nat.le_of_ble_eq_true rfl) (Nat.le_of_ble_eq_true rfl) ⟨Nat.le_of_ble_eq_true rfl, Nat.le_of_ble_eq_true rfl⟩ ?_
        rw [hSR.2.1, bitI_nI]
        obtain ⟨k, hk, ek1, ek2⟩ := much_mx hw hs hmn htT
        refine sp_X5_bestButter hCRJ hmn (fun i hi => ?_) (fun J2 hF2 => ?_)
        · rw [b_or, bt_bit1 (by omega)] at hi
          simp only [Bool.or_eq_true, decide_eq_true_eq] at hi
          rcases hi with h | h
          · exact hs.2.1 i h
          · omega
        rw [ek2]
        change GW _ _ _ 71 _ [.int _] _ _ 0 0
        refine g_istore (lv' := [(6, .int _), (5, .int _), (4, .int _), (3, .int _), (0, .ref _), (1, .int _), (2, .int _)]) hX dX5_cost_71 (by decide) rfl ?_
        refine g_iload_n hX dX5_cost_73 rfl rfl ?_
        refine g_iconst (v := (-1)) hX dX5_cost_74 (by decide) ?_
        refine g_icmpeq 85 hX dX5_cost_75 (by decide) (fun c75 => ?_) (fun c75 => ?_)
        · refine g_iload hX dX5_cost_85 rfl ?_
          refine g_istore_n (lv' := [(3, .int _), (6, .int _), (5, .int _), (4, .int _), (0, .ref _), (1, .int _), (2, .int _)]) hX dX5_cost_87 rfl (by decide) rfl ?_
          refine g_iload hX dX5_cost_88 rfl ?_
          refine g_istore (lv' := [(4, .int _), (3, .int _), (6, .int _), (5, .int _), (0, .ref _), (1, .int _), (2, .int _)]) hX dX5_cost_90 (by decide) rfl ?_
          refine g_iinc (lv' := [(5, .int _), (4, .int _), (3, .int _), (6, .int _), (0, .ref _), (1, .int _), (2, .int _)]) hX dX5_cost_92 rfl (by first | exact nI_inc _ | rfl) (by decide) rfl ?_
          refine g_goto 26 hX dX5_cost_95 (by decide) ?_
          exact g_pick [0, 1, 2, 4, 5, 6] rfl (ih (T - (t + 1)) (by omega) (t + 1) J2 _ _ rfl (by omega) (hF.tr hF2) (hR_.first hT htT c47 c75 hk ek1))
        · refine g_iload hX dX5_cost_78 rfl ?_
          refine g_iload hX dX5_cost_80 rfl ?_
          refine g_icmple 92 hX dX5_cost_82 (by decide) (fun c82 => ?_) (fun c82 => ?_)
          · refine g_iinc (lv' := [(5, .int _), (6, .int _), (4, .int _), (3, .int _), (0, .ref _), (1, .int _), (2, .int _)]) hX dX5_cost_92 rfl (by first | exact nI_inc _ | rfl) (by decide) rfl ?_
            refine g_goto 26 hX dX5_cost_95 (by decide) ?_
            exact g_pick [0, 2, 3, 4, 5, 6] rfl (ih (T - (t + 1)) (by omega) (t + 1) J2 _ _ rfl (by omega) (hF.tr hF2) ((hR_.more c47 c75 hk ek1).2 c82))
          · refine g_iload hX dX5_cost_85 rfl ?_
            refine g_istore_n (lv' := [(3, .int _), (6, .int _), (5, .int _), (4, .int _), (0, .ref _), (1, .int _), (2, .int _)]) hX dX5_cost_87 rfl (by decide) rfl ?_
            refine g_iload hX dX5_cost_88 rfl ?_
            refine g_istore (lv' := [(4, .int _), (3, .int _), (6, .int _), (5, .int _), (0, .ref _), (1, .int _), (2, .int _)]) hX dX5_cost_90 (by decide) rfl ?_
            refine g_iinc (lv' := [(5, .int _), (4, .int _), (3, .int _), (6, .int _), (0, .ref _), (1, .int _), (2, .int _)]) hX dX5_cost_92 rfl (by first | exact nI_inc _ | rfl) (by decide) rfl ?_
            refine g_goto 26 hX dX5_cost_95 (by decide) ?_
            exact g_pick [0, 1, 2, 4, 5, 6] rfl (ih (T - (t + 1)) (by omega) (t + 1) J2 _ _ rfl (by omega) (hF.tr hF2) ((hR_.more c47 c75 hk ek1).1 c82))
      · rw [b2i_n0, hSR.2.1] at c47
        refine g_goto 92 hX dX5_cost_50 (by decide) ?_
        refine g_iinc (lv' := [(5, .int _), (4, .int _), (3, .int _), (0, .ref _), (1, .int _), (2, .int _)]) hX dX5_cost_92 rfl (by first | exact nI_inc _ | rfl) (by decide) rfl ?_
        refine g_goto 26 hX dX5_cost_95 (by decide) ?_
        exact g_pick [0, 1, 2, 3, 4, 5] rfl (ih (T - (t + 1)) (by omega) (t + 1) J _ _ rfl (by omega) hF (hR_.hush c47))
