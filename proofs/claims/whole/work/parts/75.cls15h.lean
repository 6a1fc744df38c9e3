set_option maxHeartbeats 4000000 in
set_option maxRecDepth 100000 in
theorem lp_X5_hears_36 {Γ : Ga} {d : Nat} {κ : Kp} {Q : Option Value → Kp → Ip → Prop} {X : Cx} {c P T : Nat} {w s : Nat → Int32} {past kept : List (Nat → Int32)} {tx : Nat → Int32} {sz : Nat} {t p : Nat} {I : Ip} (hM : Mx Γ (d + 3) mX5_hears Q X) (hCR : CR κ c I P T w s past kept tx sz) (htT : t < T) (hpP : p < P) (hq : Q (some (.int (firstI 7 (fun n => bt (hit w s t P n) p)))) κ I) : ∀ (n : Nat) (i : Nat), n = P + 1 - i → i ≤ P + 1 → (∀ k, k < i → bt (hit w s t P k) p = false) → GW Γ mX5_hears X 36 [(4, .int (nI i)), (3, .int (hit w s t P i)), (0, .ref (c)), (1, .int (nI t)), (2, .int (nI p))] [] κ (I) 0 0 := by
  have hX := hM.std
  have hR := hM.room
  intro n
  induction n using Nat.strongRecOn with
  | ind n ih =>
    intro i hn hi hno
    obtain ⟨hC, hTR, hw, hP1, hSR, hs, hpa, hpl, hke, hkl, htx⟩ := id hCR
    obtain ⟨hw0, hw1, hP, hT, -⟩ := id hw
    obtain ⟨cz, ckd, g0, g1, g2, g3, g4, g5, -⟩ := id hC
    have hk0 : κ.1 c = (5, 0) := ckd 0 (by decide)
    have hTx := hC.txo
    obtain ⟨hSt, e34⟩ := hC.now
    obtain ⟨hA, e56⟩ := hC.ahd
    have hS7 := hC.sh7
    have hS25 := hC.sh25
    have hPa := hC.pa
    have hTwL := hC.tw6
    have hSpL := hC.tw7
    have hTw := hTwL.1
    have k1 := hTx.1
    have k3 := hSt.1
    have k5 := hA.1
    have k7 := hS7.1
    have k25 := hS25.1
    have k31 := hPa.1
    have k6 := hTw.1
    have ks := hSpL.1.1
    have z6 := hTw.2.1
    have zs := hSpL.1.2.1
    have htt := hC.two
    rw [← e34] at hSR
    obtain ⟨r0, r1, r2, r3, r4, r5, r6, r7, r8⟩ := id hTR
    refine g_iload hX dX5_hears_36 rfl ?_
    refine g_aload_n hX dX5_hears_38 rfl rfl ?_
    refine g_getR hX dX5_hears_39 flX5_48 (by assumption) rfl (by first | assumption | rfl) (by first | assumption | exact Nat.succ_ne_zero _) ?_
    refine g_getI hX dX5_hears_42 flX5_88 (by assumption) rfl ?_
    refine g_icmpgt 82 hX dX5_hears_45 (by decide) (fun c45 => ?_) (fun c45 => ?_)
    · rw [r0, lt_nI (by omega) (by omega)] at c45
      refine g_bipush (v := (-4)) hX dX5_hears_82 (by decide) ?_
      refine g_iret hM dX5_hears_84 rfl (rfl) ⟨Nat.le_of_ble_eq_true rfl, Nat.le_of_ble_eq_true rfl⟩ ?_
      exact q_int (hears_first hw hs htT (fun k hk => hno k (by omega))) hq
    · rw [r0, lt_nI (by omega) (by omega)] at c45
      refine g_iload_n hX dX5_hears_48 rfl rfl ?_
      refine g_iload_n hX dX5_hears_49 rfl rfl ?_
      refine g_callS (md' := mX5_bit) (As := [.int _]) hX hR dX5_hears_50 clX5_201 okX5_bit rfl rfl (Nat.le_of_ble_eq_true rfl) (Nat.le_of_ble_eq_true rfl) ⟨Nat.le_of_ble_eq_true rfl, Nat.le_of_ble_eq_true rfl⟩ ?_
      refine sp_X5_bit ?_
      change GW _ _ _ 53 _ [.int _, .int _] _ _ 0 0
      refine g_iand hX dX5_hears_53 ?_
      refine g_ifeq 60 hX dX5_hears_54 (by decide) (fun c54 => ?_) (fun c54 => ?_)
      · rw [bitI_nI, and_bit0 (by omega)] at c54
        refine g_iload_n hX dX5_hears_60 rfl rfl ?_
        refine g_aload_n hX dX5_hears_61 rfl rfl ?_
        refine g_getR hX dX5_hears_62 flX5_19 (by assumption) rfl (by first | assumption | rfl) (by first | assumption | exact Nat.succ_ne_zero _) ?_
        refine g_aload_n hX dX5_hears_65 rfl rfl ?_
        refine g_getR hX dX5_hears_66 flX5_48 (by assumption) rfl (by first | assumption | rfl) (by first | assumption | exact Nat.succ_ne_zero _) ?_
        refine g_iload_n hX dX5_hears_69 rfl rfl ?_
        refine g_iload_n hX dX5_hears_70 rfl rfl ?_
        refine g_callV (md' := mX2_hearersOf) (ci := 2) (As := [.ref _, .int _, .int _]) hX hR dX5_hears_71 clX5_260 okX2_hearersOf rfl (by assumption) rfl rfl (Nat.le_of_ble_eq_true rfl) (Nat.le_of_ble_eq_true rfl) ⟨Nat.le_of_ble_eq_true rfl, Nat.le_of_ble_eq_true rfl⟩ ?_
        obtain ⟨q, hqP, eq_⟩ := hw.2.2.2.2.2.2.2.1 t htT
        refine sp_X2_hearersOf (P := P) (T := T) (w := w) (s := s) (q := q) hSt hTw hTR hw hSR htT eq_ (by omega) ?_
        change GW _ _ _ 74 _ [.int _, .int _] _ _ 0 0
        refine g_ior hX dX5_hears_74 ?_
        rw [hit_s eq_ (by omega)]
        refine g_istore_n (lv' := [(3, .int _), (4, .int _), (0, .ref _), (1, .int _), (2, .int _)]) hX dX5_hears_75 rfl (by decide) rfl ?_
        refine g_iinc (lv' := [(4, .int _), (3, .int _), (0, .ref _), (1, .int _), (2, .int _)]) hX dX5_hears_76 rfl (by first | exact nI_inc _ | rfl) (by decide) rfl ?_
        refine g_goto 36 hX dX5_hears_79 (by decide) ?_
        exact g_pick [0, 1, 2, 3, 4] rfl (ih (P + 1 - (i + 1)) (by omega) (i + 1) rfl (by omega) (fun k hk => by
          by_cases e : k = i
          · subst e; exact c54
          · exact hno k (by omega)))
      · rw [bitI_nI, and_bit1 (by omega)] at c54
        refine g_iload hX dX5_hears_57 rfl ?_
        refine g_iret hM dX5_hears_59 rfl (rfl) ⟨Nat.le_of_ble_eq_true rfl, Nat.le_of_ble_eq_true rfl⟩ ?_
        exact q_int (first_at (f := fun n => bt (hit w s t P n) p) (show i < 7 by omega) c54 hno) hq
