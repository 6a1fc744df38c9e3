set_option maxHeartbeats 4000000 in
set_option maxRecDepth 100000 in
theorem fr_X6_init_86 {Γ : Ga} {d : Nat} {κ : Kp} {Q : Option Value → Kp → Ip → Prop} {X : Cx} {I : Ip} {m b : Nat} (hM : Mx Γ (d + 2) mX6_init Q X) (h10 : ∀ i, i < 10 → κ.1 (b + i) = kd6 i ∧ κ.2.1 m (of6 i) = b + i) (hn : κ.2.2 = b + 10) (hkm : κ.1 m = (6, 0)) (hmb : m < b) (mz : m ≠ 0) (hq : ∀ J : Ip, J b = R0.1 → J (b + 2) = laidS R0.1 → J m 5 = nI 0 → J m 7 = nI 0 → J m 9 = I m 9 → (∀ a, a < b → a ≠ m → J a = I a) → MoK (kNew κ (8, 6)) m → Q none (kNew κ (8, 6)) J) : GW Γ mX6_init X 86 [(0, .ref (m))] [] κ (I) 10 564 := by
  have hX := hM.std
  have hR := hM.room
  have hMo : MoK κ m := MoK_of h10 hkm mz (by omega)
  have km := hkm
  have h11 : ∀ i, i < 10 → (kNew κ (8, 6)).1 (b + i) = kd6 i ∧ (kNew κ (8, 6)).2.1 m (of6 i) = b + i := fun i hi => by rw [kNew_k (by omega), kNew_r (by omega)]; exact h10 i hi
  have hMo2 : MoK (kNew κ (8, 6)) m := MoK_of h11 (by rw [kNew_k (by omega)]; exact hkm) mz (by omega)
  have r0 : (kNew κ (8, 6)).2.1 m 0 = b + 0 := (h11 0 (by decide)).2
  have r1 : (kNew κ (8, 6)).2.1 m 1 = b + 1 := (h11 1 (by decide)).2
  have r2 : (kNew κ (8, 6)).2.1 m 2 = b + 2 := (h11 2 (by decide)).2
  have q1 : κ.2.1 m 1 = b + 1 := (h10 1 (by decide)).2
  have kr : (kNew κ (8, 6)).1 ((kNew κ (8, 6)).2.1 m 1) = (8, 50) := hMo2.2.2.2.1.1
  have ke : (kNew κ (8, 6)).1 κ.2.2 = (8, 6) := kNew_n
  have re : (kNew κ (8, 6)).2.1 m 1 ≠ κ.2.2 := by omega
  have ez : κ.2.2 ≠ 0 := by omega
  refine g_aload_n hX dX6_init_86 rfl rfl ?_
  refine g_callV (md' := mX6_empties) (ci := 6) (As := []) hX hR dX6_init_87 clX6_40 okX6_empties rfl (by assumption) rfl rfl (Nat.le_of_ble_eq_true rfl) (Nat.le_of_ble_eq_true rfl) ⟨Nat.le_of_ble_eq_true rfl, Nat.le_of_ble_eq_true rfl⟩ ?_
  refine sp_X6_empties hMo ?_
  change GW _ _ _ 90 _ [] _ _ _ _
  refine g_bipush (v := nI 6) hX dX6_init_90 (by decide) ?_
  refine g_newI (N := 6) hX hR dX6_init_92 ac_int (by decide) (by decide) (by decide) ⟨Nat.le_of_ble_eq_true rfl, Nat.le_of_ble_eq_true rfl⟩ ?_
  refine g_astore_n (lv' := [(1, .ref _), (0, .ref _)]) hX dX6_init_94 rfl (by decide) rfl ?_
  refine g_aload_n hX dX6_init_95 rfl rfl ?_
  refine g_iconst (v := nI 1) hX dX6_init_96 (by decide) ?_
  refine g_iconst (v := nI 3) hX dX6_init_97 (by decide) ?_
  refine g_iastN hX dX6_init_98 (by assumption) (rfl) (by omega) (by first | decide | omega) ?_
  refine g_aload_n hX dX6_init_99 rfl rfl ?_
  refine g_iconst (v := nI 2) hX dX6_init_100 (by decide) ?_
  refine g_iconst (v := nI 1) hX dX6_init_101 (by decide) ?_
  refine g_iastN hX dX6_init_102 (by assumption) (rfl) (by omega) (by first | decide | omega) ?_
  refine g_aload_n hX dX6_init_103 rfl rfl ?_
  refine g_iconst (v := nI 3) hX dX6_init_104 (by decide) ?_
  refine g_iconst (v := nI 2) hX dX6_init_105 (by decide) ?_
  refine g_iastN hX dX6_init_106 (by assumption) (rfl) (by omega) (by first | decide | omega) ?_
  refine g_aload_n hX dX6_init_107 rfl rfl ?_
  refine g_iconst (v := nI 4) hX dX6_init_108 (by decide) ?_
  refine g_iconst (v := nI 3) hX dX6_init_109 (by decide) ?_
  refine g_iastN hX dX6_init_110 (by assumption) (rfl) (by omega) (by first | decide | omega) ?_
  refine g_iconst (v := nI 0) hX dX6_init_111 (by decide) ?_
  refine g_istore_n (lv' := [(2, .int _), (1, .ref _), (0, .ref _)]) hX dX6_init_112 rfl (by decide) rfl ?_
  refine g_ext (f := PB 0) kr (fun k hk => ?_) ?_
  · rw [up_ne _ _ re, up_ne _ _ re, up_ne _ _ re, up_ne _ _ re, iNew_a re, r1, q1, up_same, fb_put_in (by omega) (by omega)]; rfl
  refine g_cs (a' := 11) (b' := 570) ⟨rfl, rfl⟩ ?_
  refine g_pick [0, 1, 2] rfl (lp_X6_init_113 hM hMo2 ke ez re.symm (fun k hk => ?_) (fun J0 hJ0 => ?_) 6 0 rfl (by decide))
  · simp only [up_same, iNew_n]
    have hk' : k = 0 ∨ k = 1 ∨ k = 2 ∨ k = 3 ∨ k = 4 ∨ k = 5 := by omega
    rcases hk' with rfl | rfl | rfl | rfl | rfl | rfl <;> rfl
  · subst hJ0
    refine fr_X6_init_132 hM hMo2 (up_same _ _ _) (fun J y1 y2 y3 y4 y5 y6 => hq J ?_ ?_ y3 y4 ?_ (fun a ha ham => ?_) hMo2)
    · rw [r0] at y1; exact y1
    · rw [r2] at y2; exact y2
    · rw [y5, up_ne _ _ (by omega), up_ne _ _ (by omega), up_ne _ _ (by omega), up_ne _ _ (by omega), up_ne _ _ (by omega), iNew_a (by omega), up_ne _ _ (by omega)]
    · have g : ∀ i, i < 10 → a ≠ (kNew κ (8, 6)).2.1 m (of6 i) := fun i hi => by rw [(h11 i hi).2]; omega
      rw [y6 a ham (g 0 (by decide)) (g 1 (by decide)) (g 2 (by decide)) (g 3 (by decide)) (g 4 (by decide)) (g 5 (by decide)) (g 6 (by decide)) (g 7 (by decide)) (g 8 (by decide)) (g 9 (by decide)), up_ne _ _ (by omega), up_ne _ _ (by omega), up_ne _ _ (by omega), up_ne _ _ (by omega), up_ne _ _ (by omega), iNew_a (by omega), up_ne _ _ (by omega)]
