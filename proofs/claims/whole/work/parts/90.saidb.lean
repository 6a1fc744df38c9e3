set_option maxHeartbeats 4000000 in
set_option maxRecDepth 100000 in
theorem lp_X5_said_57 {Γ : Ga} {d : Nat} {κ : Kp} {Q : Option Value → Kp → Ip → Prop} {X : Cx} {c P T : Nat} {w s : Nat → Int32} {past kept : List (Nat → Int32)} {tx : Nat → Int32} {sz : Nat} {yy : Nat} {may va vb what : Int32} {I : Ip} (hM : Mx Γ (d + 3) mX5_said Q X) (hCR : CR κ c I P T w s past kept tx sz) (hq : Q (some (.int (if what = 0 then nI (saidF w T may (nI yy) 512).1 else (saidF w T may (nI yy) 512).2))) κ I) : ∀ (n : Nat) (k : Nat), n = 512 - k → k ≤ 512 → GW Γ mX5_said X 57 [(8, .int (nI k)), (7, .int ((saidF w T may (nI yy) k).2)), (6, .int (nI (saidF w T may (nI yy) k).1)), (5, .int (may)), (0, .ref (c)), (1, .int (va)), (2, .int (vb)), (3, .int (nI yy)), (4, .int (what))] [] κ (I) 0 0 := by
  have hX := hM.std
  have hR := hM.room
  intro n
  induction n using Nat.strongRecOn with
  | ind n ih =>
    intro k hn hk
    obtain ⟨hC, hTR, hw, hP1, hSR, hs, hpa, hpl, hke, hkl, htx⟩ := id hCR
    obtain ⟨hw0, hw1, hP, hT, -⟩ := id hw
    obtain ⟨cz, ckd, g0, g1, g2, g3, g4, g5, -⟩ := id hC
    have hk0 : κ.1 c = (5, 0) := ckd 0 (by decide)
    have hTx := hC.txo
    obtain ⟨hSt, e34⟩ := hC.now
    obtain ⟨hA, e56⟩ := hC.ahd
    have hS7 := hC.sh7
    have hS25 := hC.sh25
    have hPa := hC.pa
    have hTwL := hC.tw6
    have hSpL := hC.tw7
    have hTw := hTwL.1
    have k1 := hTx.1
    have k3 := hSt.1
    have k5 := hA.1
    have k7 := hS7.1
    have k25 := hS25.1
    have k31 := hPa.1
    have k6 := hTw.1
    have ks := hSpL.1.1
    have z6 := hTw.2.1
    have zs := hSpL.1.2.1
    have htt := hC.two
    rw [← e34] at hSR
    obtain ⟨r0, r1, r2, r3, r4, r5, r6, r7, r8⟩ := id hTR
    refine g_iload hX dX5_said_57 rfl ?_
    refine g_bipush (v := nI 9) hX dX5_said_59 (by decide) ?_
    refine g_callS (md' := mX5_bit) (As := [.int _]) hX hR dX5_said_61 clX5_201 okX5_bit rfl rfl (Nat.le_of_ble_eq_true rfl) (Nat.le_of_ble_eq_true rfl) ⟨Nat.le_of_ble_eq_true rfl, Nat.le_of_ble_eq_true rfl⟩ ?_
    refine sp_X5_bit ?_
    change GW _ _ _ 64 _ [.int _, .int _] _ _ 0 0
    refine g_icmpge 115 hX dX5_said_64 (by decide) (fun c64 => ?_) (fun c64 => ?_)
    · rw [bitI_nI, bit1_pow (by decide), nI_leI (by omega) (by omega)] at c64
      refine g_iload hX dX5_said_115 rfl ?_
      refine g_ifne 125 hX dX5_said_117 (by decide) (fun c117 => ?_) (fun c117 => ?_)
      · refine g_iload hX dX5_said_125 rfl ?_
        refine g_iret hM dX5_said_127 rfl (rfl) ⟨Nat.le_of_ble_eq_true rfl, Nat.le_of_ble_eq_true rfl⟩ ?_
        have e : k = 512 := by omega
        subst e
        exact q_int (by rw [if_neg c117]) hq
      · refine g_iload hX dX5_said_120 rfl ?_
        refine g_goto 127 hX dX5_said_122 (by decide) ?_
        refine g_iret hM dX5_said_127 rfl (rfl) ⟨Nat.le_of_ble_eq_true rfl, Nat.le_of_ble_eq_true rfl⟩ ?_
        have e : k = 512 := by omega
        subst e
        exact q_int (by rw [if_pos c117]) hq
    · rw [bitI_nI, bit1_pow (by decide), nI_leI (by omega) (by omega)] at c64
      refine g_iload hX dX5_said_67 rfl ?_
      refine g_iload hX dX5_said_69 rfl ?_
      refine g_iconst (v := (-1)) hX dX5_said_71 (by decide) ?_
      refine g_ixor hX dX5_said_72 ?_
      refine g_iand hX dX5_said_73 ?_
      refine g_ifne 109 hX dX5_said_74 (by decide) (fun c74 => ?_) (fun c74 => ?_)
      · refine g_iinc (lv' := [(8, .int _), (7, .int _), (6, .int _), (5, .int _), (0, .ref _), (1, .int _), (2, .int _), (3, .int _), (4, .int _)]) hX dX5_said_109 rfl (by first | exact nI_inc _ | rfl) (by decide) rfl ?_
        refine g_goto 57 hX dX5_said_112 (by decide) ?_
        refine g_pick [0, 1, 2, 3, 4, 5, 6, 7, 8] rfl ?_
        have := ih (512 - (k + 1)) (by omega) (k + 1) rfl (by omega)
        rw [saidF, if_neg (fun e => c74 (of_decide_eq_true e.1))] at this
        exact this
      · refine g_aload_n hX dX5_said_77 rfl rfl ?_
        refine g_getR hX dX5_said_78 flX5_48 (by assumption) rfl (by first | assumption | rfl) (by first | assumption | exact Nat.succ_ne_zero _) ?_
        refine g_iload hX dX5_said_81 rfl ?_
        refine g_callV (md' := mX4_illOfAll) (ci := 4) (As := [.int _]) hX hR dX5_said_83 clX5_263 okX4_illOfAll rfl (by assumption) rfl rfl (Nat.le_of_ble_eq_true rfl) (Nat.le_of_ble_eq_true rfl) ⟨Nat.le_of_ble_eq_true rfl, Nat.le_of_ble_eq_true rfl⟩ ?_
        refine sp_X4_illOfAll (P := P) (T := T) (w := w) hTw hTR hw (by omega) ?_
        change GW _ _ _ 86 _ [.int _] _ _ 0 0
        refine g_iload_n hX dX5_said_86 rfl rfl ?_
        refine g_icmpne 109 hX dX5_said_87 (by decide) (fun c87 => ?_) (fun c87 => ?_)
        · refine g_iinc (lv' := [(8, .int _), (7, .int _), (6, .int _), (5, .int _), (0, .ref _), (1, .int _), (2, .int _), (3, .int _), (4, .int _)]) hX dX5_said_109 rfl (by first | exact nI_inc _ | rfl) (by decide) rfl ?_
          refine g_goto 57 hX dX5_said_112 (by decide) ?_
          refine g_pick [0, 1, 2, 3, 4, 5, 6, 7, 8] rfl ?_
          have := ih (512 - (k + 1)) (by omega) (k + 1) rfl (by omega)
          rw [saidF, if_neg (fun e => c87 e.2)] at this
          exact this
        · refine g_iinc (lv' := [(6, .int _), (8, .int _), (7, .int _), (5, .int _), (0, .ref _), (1, .int _), (2, .int _), (3, .int _), (4, .int _)]) hX dX5_said_90 rfl (by first | exact nI_inc _ | rfl) (by decide) rfl ?_
          refine g_iload hX dX5_said_93 rfl ?_
          refine g_bipush (v := (-4)) hX dX5_said_95 (by decide) ?_
          refine g_icmpne 105 hX dX5_said_97 (by decide) (fun c97 => ?_) (fun c97 => ?_)
          · refine g_iload hX dX5_said_105 rfl ?_
            refine g_istore (lv' := [(7, .int _), (6, .int _), (8, .int _), (5, .int _), (0, .ref _), (1, .int _), (2, .int _), (3, .int _), (4, .int _)]) hX dX5_said_107 (by decide) rfl ?_
            refine g_iinc (lv' := [(8, .int _), (7, .int _), (6, .int _), (5, .int _), (0, .ref _), (1, .int _), (2, .int _), (3, .int _), (4, .int _)]) hX dX5_said_109 rfl (by first | exact nI_inc _ | rfl) (by decide) rfl ?_
            refine g_goto 57 hX dX5_said_112 (by decide) ?_
            refine g_pick [0, 1, 2, 3, 4, 5, 6, 7, 8] rfl ?_
            have := ih (512 - (k + 1)) (by omega) (k + 1) rfl (by omega)
            rw [saidF, if_pos ⟨decide_eq_true c74, c87⟩, if_neg c97] at this
            exact this
          · refine g_iload hX dX5_said_100 rfl ?_
            refine g_goto 107 hX dX5_said_102 (by decide) ?_
            refine g_istore (lv' := [(7, .int _), (6, .int _), (8, .int _), (5, .int _), (0, .ref _), (1, .int _), (2, .int _), (3, .int _), (4, .int _)]) hX dX5_said_107 (by decide) rfl ?_
            refine g_iinc (lv' := [(8, .int _), (7, .int _), (6, .int _), (5, .int _), (0, .ref _), (1, .int _), (2, .int _), (3, .int _), (4, .int _)]) hX dX5_said_109 rfl (by first | exact nI_inc _ | rfl) (by decide) rfl ?_
            refine g_goto 57 hX dX5_said_112 (by decide) ?_
            refine g_pick [0, 1, 2, 3, 4, 5, 6, 7, 8] rfl ?_
            have := ih (512 - (k + 1)) (by omega) (k + 1) rfl (by omega)
            rw [saidF, if_pos ⟨decide_eq_true c74, c87⟩, if_pos c97] at this
            exact this
