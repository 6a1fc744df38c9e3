theorem sp_X6_inR {Γ : Ga} {d : Nat} {κ : Kp} {I : Ip} {Q : Option Value → Kp → Ip → Prop} {x : Int32} {l m : Int64} (lo hi : Nat) (hl : l.toInt = (lo : Int)) (hm : m.toInt = (hi : Int)) (hq : Q (some (.int (b2i (decide (inR lo hi x))))) κ I) : Sp Γ d mX6_in [.long x.toInt64, .long l, .long m] κ I Q := by
  refine sp_X6_in ?_
  rw [hl, hm, l32]
  exact hq

set_option maxHeartbeats 4000000 in
set_option maxRecDepth 100000 in
theorem sp_X6_best {Γ : Ga} {d : Nat} {κ : Kp} {I : Ip} {Q : Option Value → Kp → Ip → Prop} {m P T : Nat} {n x : Int32} (hMo : MoK κ m) (hw : WfT (I (κ.2.1 m 0)) P T) (hs : WfS (I (κ.2.1 m 2)) P T) (hq : ∀ J : Ip, MFr κ m I J → Q (some (.int (bestA (I (κ.2.1 m 0)) (I (κ.2.1 m 2)) P T n x))) κ J) : Sp Γ (d + 7) mX6_best [.ref (m), .int (n), .int (x)] κ I Q := by
  obtain ⟨hm, hm0, ⟨k0, n0⟩, ⟨k1, n1⟩, ⟨k2, n2⟩, ⟨k3, n3⟩, ⟨k4, n4⟩, ⟨k6, n6⟩, ⟨k8, n8⟩, ⟨k14, n14⟩, ⟨k15, n15⟩, ⟨k16, n16⟩, d01, d23, d614, d1516⟩ := id hMo
  obtain ⟨hw0, hw1, hP, hT, -⟩ := id hw
  intro X hM
  have hX := hM.std
  have hR := hM.room
  show GW _ mX6_best X 0 [(0, .ref (m)), (1, .int (n)), (2, .int (x))] [] _ _ 0 0
  refine g_iload_n hX dX6_best_0 rfl rfl ?_
  refine g_i2l hX dX6_best_1 ?_
  refine g_lconst (v := 1) hX dX6_best_2 (by decide) ?_
  refine g_ldc2 hX dX6_best_3 kX6_181 ?_
  refine g_callS (md' := mX6_in) (As := [.long _, .long _, .long _]) hX hR dX6_best_6 clX6_73 okX6_in rfl rfl (Nat.le_of_ble_eq_true rfl) (Nat.le_of_ble_eq_true rfl) ⟨Nat.le_of_ble_eq_true rfl, Nat.le_of_ble_eq_true rfl⟩ ?_
  refine sp_X6_inR 1 60 rfl rfl ?_
  change GW _ _ _ 9 _ (.int _ :: _) _ _ _ _
  refine g_ifeq 22 hX dX6_best_9 (by decide) (fun c9 => ?_) (fun c9 => ?_)
  · first | (rw [b2i_n0, decide_eq_true_eq] at c9) | (rw [b2i_0, decide_eq_false_iff_not] at c9)
    refine g_iconst (v := (-1)) hX dX6_best_22 (by decide) ?_
    refine g_iret hM dX6_best_23 rfl (rfl) ⟨Nat.le_of_ble_eq_true rfl, Nat.le_of_ble_eq_true rfl⟩ ?_
    refine q_int ?_ (hq I MFr.rf)
    rw [bestA, if_neg (fun e => c9 e.1)]
  · first | (rw [b2i_n0, decide_eq_true_eq] at c9) | (rw [b2i_0, decide_eq_false_iff_not] at c9)
    refine g_iload_n hX dX6_best_12 rfl rfl ?_
    refine g_i2l hX dX6_best_13 ?_
    refine g_lconst (v := 0) hX dX6_best_14 (by decide) ?_
    refine g_lconst (v := 1) hX dX6_best_15 (by decide) ?_
    refine g_callS (md' := mX6_in) (As := [.long _, .long _, .long _]) hX hR dX6_best_16 clX6_73 okX6_in rfl rfl (Nat.le_of_ble_eq_true rfl) (Nat.le_of_ble_eq_true rfl) ⟨Nat.le_of_ble_eq_true rfl, Nat.le_of_ble_eq_true rfl⟩ ?_
    refine sp_X6_inR 0 1 rfl rfl ?_
    change GW _ _ _ 19 _ (.int _ :: _) _ _ _ _
    refine g_ifne 24 hX dX6_best_19 (by decide) (fun c19 => ?_) (fun c19 => ?_)
    · first | (rw [b2i_n0, decide_eq_true_eq] at c19) | (rw [b2i_0, decide_eq_false_iff_not] at c19)
      refine g_aload_n hX dX6_best_24 rfl rfl ?_
      refine g_iload_n hX dX6_best_25 rfl rfl ?_
      refine g_aload_n hX dX6_best_26 rfl rfl ?_
      refine g_getR hX dX6_best_27 flX6_16 (by assumption) rfl (by first | assumption | rfl) (by assumption) ?_
      refine g_bipush (v := nI 9) hX dX6_best_30 (by decide) ?_
      refine g_ialdN hX dX6_best_32 (by assumption) (rfl) (by omega) (by first | decide | omega) ?_
      refine g_callV (md' := mX6_finds) (ci := 6) (As := [.int _, .int _]) hX hR dX6_best_33 clX6_208 okX6_finds rfl (by assumption) rfl rfl (Nat.le_of_ble_eq_true rfl) (Nat.le_of_ble_eq_true rfl) ⟨Nat.le_of_ble_eq_true rfl, Nat.le_of_ble_eq_true rfl⟩ ?_
      obtain ⟨j, hj1, hj2, rfl⟩ := inR_of c9
      refine sp_X6_finds (P := P) (T := T) hMo hw hs (by omega) hs.2.1 (fun J hf g12 g13 => ?_)
      change GW _ _ _ 36 _ _ _ _ _ _
      refine g_iload_n hX dX6_best_36 rfl rfl ?_
      refine g_ifne 47 hX dX6_best_37 (by decide) (fun c37 => ?_) (fun c37 => ?_)
      · refine g_aload_n hX dX6_best_47 rfl rfl ?_
        refine g_getI hX dX6_best_48 flX6_205 (by assumption) rfl ?_
        refine g_iret hM dX6_best_51 rfl (rfl) ⟨Nat.le_of_ble_eq_true rfl, Nat.le_of_ble_eq_true rfl⟩ ?_
        refine q_int ?_ (hq J hf)
        rw [bestA, if_pos ⟨c9, c19⟩, nI_clamp (by omega), if_neg c37, ← g13]
      · refine g_aload_n hX dX6_best_40 rfl rfl ?_
        refine g_getI hX dX6_best_41 flX6_202 (by assumption) rfl ?_
        refine g_goto 51 hX dX6_best_44 (by decide) ?_
        refine g_iret hM dX6_best_51 rfl (rfl) ⟨Nat.le_of_ble_eq_true rfl, Nat.le_of_ble_eq_true rfl⟩ ?_
        refine q_int ?_ (hq J hf)
        rw [bestA, if_pos ⟨c9, c19⟩, nI_clamp (by omega), if_pos c37, ← g12]
    · first | (rw [b2i_n0, decide_eq_true_eq] at c19) | (rw [b2i_0, decide_eq_false_iff_not] at c19)
      refine g_iconst (v := (-1)) hX dX6_best_22 (by decide) ?_
      refine g_iret hM dX6_best_23 rfl (rfl) ⟨Nat.le_of_ble_eq_true rfl, Nat.le_of_ble_eq_true rfl⟩ ?_
      refine q_int ?_ (hq I MFr.rf)
      rw [bestA, if_neg (fun e => c19 e.2)]

set_option maxHeartbeats 4000000 in
set_option maxRecDepth 100000 in
theorem sp_X6_lower {Γ : Ga} {d : Nat} {κ : Kp} {I : Ip} {Q : Option Value → Kp → Ip → Prop} {x y : Nat} (hx : x < 100) (hy : y < 100) (hq : Q (some (.int (nI (min x y)))) κ I) : Sp Γ d mX6_lower [.int (nI x), .int (nI y)] κ I Q := by
  intro X hM
  have hX := hM.std
  show GW _ mX6_lower X 0 [(0, .int (nI x)), (1, .int (nI y))] [] _ _ 0 0
  refine g_iload_n hX dX6_lower_0 rfl rfl ?_
  refine g_iload_n hX dX6_lower_1 rfl rfl ?_
  refine g_icmpge 9 hX dX6_lower_2 (by decide) (fun c2 => ?_) (fun c2 => ?_)
  · rw [nI_leI (by omega) (by omega)] at c2
    refine g_iload_n hX dX6_lower_9 rfl rfl ?_
    refine g_iret hM dX6_lower_10 rfl (rfl) ⟨Nat.le_of_ble_eq_true rfl, Nat.le_of_ble_eq_true rfl⟩ ?_
    refine q_int ?_ hq
    congr 1
    omega
  · rw [nI_leI (by omega) (by omega)] at c2
    refine g_iload_n hX dX6_lower_5 rfl rfl ?_
    refine g_goto 10 hX dX6_lower_6 (by decide) ?_
    refine g_iret hM dX6_lower_10 rfl (rfl) ⟨Nat.le_of_ble_eq_true rfl, Nat.le_of_ble_eq_true rfl⟩ ?_
    refine q_int ?_ hq
    congr 1
    omega

set_option maxHeartbeats 4000000 in
set_option maxRecDepth 100000 in
theorem sp_X6_bringOf {Γ : Ga} {d : Nat} {κ : Kp} {I : Ip} {Q : Option Value → Kp → Ip → Prop} {m x y : Nat} (hMo : MoK κ m) (hx : x < 6) (hy : y < 6) (hxy : x ≠ y) (hq : Q (some (.int (I (κ.2.1 m 14) (6 * min x y + max x y)))) κ I) : Sp Γ (d + 1) mX6_bringOf [.ref (m), .int (nI x), .int (nI y)] κ I Q := by
  obtain ⟨hm, hm0, ⟨k0, n0⟩, ⟨k1, n1⟩, ⟨k2, n2⟩, ⟨k3, n3⟩, ⟨k4, n4⟩, ⟨k6, n6⟩, ⟨k8, n8⟩, ⟨k14, n14⟩, ⟨k15, n15⟩, ⟨k16, n16⟩, d01, d23, d614, d1516⟩ := id hMo
  intro X hM
  have hX := hM.std
  have hR := hM.room
  show GW _ mX6_bringOf X 0 [(0, .ref (m)), (1, .int (nI x)), (2, .int (nI y))] [] _ _ 0 0
  refine g_aload_n hX dX6_bringOf_0 rfl rfl ?_
  refine g_getR hX dX6_bringOf_1 flX6_31 (by assumption) rfl (by first | assumption | rfl) (by assumption) ?_
  refine g_bipush (v := nI 6) hX dX6_bringOf_4 (by decide) ?_
  refine g_iload_n hX dX6_bringOf_6 rfl rfl ?_
  refine g_iload_n hX dX6_bringOf_7 rfl rfl ?_
  refine g_callS (md' := mX6_lower) (As := [.int _, .int _]) hX hR dX6_bringOf_8 clX6_211 okX6_lower rfl rfl (Nat.le_of_ble_eq_true rfl) (Nat.le_of_ble_eq_true rfl) ⟨Nat.le_of_ble_eq_true rfl, Nat.le_of_ble_eq_true rfl⟩ ?_
  refine sp_X6_lower (by omega) (by omega) ?_
  change GW _ _ _ 11 _ (.int _ :: _) _ _ _ _
  refine g_imul hX dX6_bringOf_11 ?_
  refine g_iload_n hX dX6_bringOf_12 rfl rfl ?_
  refine g_iadd hX dX6_bringOf_13 ?_
  refine g_iload_n hX dX6_bringOf_14 rfl rfl ?_
  refine g_iadd hX dX6_bringOf_15 ?_
  refine g_iload_n hX dX6_bringOf_16 rfl rfl ?_
  refine g_iload_n hX dX6_bringOf_17 rfl rfl ?_
  refine g_callS (md' := mX6_lower) (As := [.int _, .int _]) hX hR dX6_bringOf_18 clX6_211 okX6_lower rfl rfl (Nat.le_of_ble_eq_true rfl) (Nat.le_of_ble_eq_true rfl) ⟨Nat.le_of_ble_eq_true rfl, Nat.le_of_ble_eq_true rfl⟩ ?_
  refine sp_X6_lower (by omega) (by omega) ?_
  change GW _ _ _ 21 _ (.int _ :: _) _ _ _ _
  refine g_isub hX dX6_bringOf_21 ?_
  refine g_ialdN hX dX6_bringOf_22 (by assumption) ((by rw [nI_mul, nI_add, nI_add]; exact nI_subE (k := 6 * min x y + max x y) (by omega) (by omega))) (by omega) (by first | decide | omega) ?_
  refine g_iret hM dX6_bringOf_23 rfl (rfl) ⟨Nat.le_of_ble_eq_true rfl, Nat.le_of_ble_eq_true rfl⟩ ?_
  exact hq

set_option maxHeartbeats 4000000 in
set_option maxRecDepth 100000 in
theorem lp_X6_lays_16 {Γ : Ga} {d : Nat} {κ : Kp} {Q : Option Value → Kp → Ip → Prop} {X : Cx} {I : Ip} {m c P T : Nat} {x : Nat} (hM : Mx Γ (d + 6) mX6_lays Q X) (hMo : MoK κ m) (hw : WfT (I (κ.2.1 m 0)) P T) (hs : WfS (I (κ.2.1 m 2)) P T) (hc : c < 1000) (hx : x < P) (hout : ∀ J : Ip, MFr κ m I J → (∀ a b, a < b → b < P → a < x ∨ (a = x ∧ b < P) → J (κ.2.1 m 14) (6 * a + b) = wbF (I (κ.2.1 m 0)) (I (κ.2.1 m 2)) T c (I (κ.2.1 m 2) 9) (-4) a b) → GW Γ mX6_lays X 71 [(3, .int (nI P)), (2, .int (nI x)), (0, .ref m), (1, .int (nI c))] [] κ J 0 0) : ∀ (n : Nat) (y : Nat) (J : Ip), n = P - y → x < y → y ≤ P → MFr κ m I J → (∀ a b, a < b → b < P → a < x ∨ (a = x ∧ b < y) → J (κ.2.1 m 14) (6 * a + b) = wbF (I (κ.2.1 m 0)) (I (κ.2.1 m 2)) T c (I (κ.2.1 m 2) 9) (-4) a b) → GW Γ mX6_lays X 16 [(3, .int (nI y)), (2, .int (nI x)), (0, .ref (m)), (1, .int (nI c))] [] κ (J) 0 0 := by
  have hX := hM.std
  have hR := hM.room
  intro n
  induction n using Nat.strongRecOn with
  | ind n ih =>
    intro y J hn hxy hy hf hv
    obtain ⟨hm, hm0, ⟨k0, n0⟩, ⟨k1, n1⟩, ⟨k2, n2⟩, ⟨k3, n3⟩, ⟨k4, n4⟩, ⟨k6, n6⟩, ⟨k8, n8⟩, ⟨k14, n14⟩, ⟨k15, n15⟩, ⟨k16, n16⟩, d01, d23, d614, d1516⟩ := id hMo
    obtain ⟨hw0, hw1, hP, hT, -⟩ := id hw
    have ew := hf.w hMo
    have es := hf.s hMo
    refine g_iload_n hX dX6_lays_16 rfl rfl ?_
    refine g_aload_n hX dX6_lays_17 rfl rfl ?_
    refine g_getR hX dX6_lays_18 flX6_7 (by assumption) rfl (by first | assumption | rfl) (by assumption) ?_
    refine g_iconst (v := nI 0) hX dX6_lays_21 (by decide) ?_
    refine g_ialdN hX dX6_lays_22 (by assumption) (rfl) (by omega) (by first | decide | omega) ?_
    refine g_icmpge 71 hX dX6_lays_23 (by decide) (fun c23 => ?_) (fun c23 => ?_)
    · rw [ew, hw0, nI_leI (by omega) (by omega)] at c23
      have e : y = P := by omega
      subst e
      exact hout J hf hv
    · rw [ew, hw0, nI_leI (by omega) (by omega)] at c23
      refine g_aload_n hX dX6_lays_26 rfl rfl ?_
      refine g_getR hX dX6_lays_27 flX6_31 (by assumption) rfl (by first | assumption | rfl) (by assumption) ?_
      refine g_bipush (v := nI 6) hX dX6_lays_30 (by decide) ?_
      refine g_iload_n hX dX6_lays_32 rfl rfl ?_
      refine g_imul hX dX6_lays_33 ?_
      refine g_iload_n hX dX6_lays_34 rfl rfl ?_
      refine g_iadd hX dX6_lays_35 ?_
      refine g_aload_n hX dX6_lays_36 rfl rfl ?_
      refine g_iload_n hX dX6_lays_37 rfl rfl ?_
      refine g_iload_n hX dX6_lays_38 rfl rfl ?_
      refine g_callV (md' := mX6_likes) (ci := 6) (As := [.int _, .int _]) hX hR dX6_lays_39 clX6_168 okX6_likes rfl (by assumption) rfl rfl (Nat.le_of_ble_eq_true rfl) (Nat.le_of_ble_eq_true rfl) ⟨Nat.le_of_ble_eq_true rfl, Nat.le_of_ble_eq_true rfl⟩ ?_
      refine sp_X6_likes hMo (by omega) (by omega) ?_
      change GW _ _ _ 42 _ (.int _ :: _) _ _ _ _
      refine g_ifeq 62 hX dX6_lays_42 (by decide) (fun c42 => ?_) (fun c42 => ?_)
      · first | (rw [b2i_n0] at c42) | (rw [b2i_0] at c42)
        refine g_bipush (v := (-4)) hX dX6_lays_62 (by decide) ?_
        refine g_iastN hX dX6_lays_64 (by assumption) ((by rw [nI_mul]; exact nI_add _ _)) (by omega) (by first | decide | omega) ?_
        refine g_iinc (lv' := [(3, .int _), (2, .int _), (0, .ref _), (1, .int _)]) hX dX6_lays_65 rfl (by first | exact nI_inc _ | rfl) (by decide) rfl ?_
        refine g_goto 16 hX dX6_lays_68 (by decide) ?_
        refine g_pick [0, 1, 2, 3] rfl ?_
        refine ih (P - (y + 1)) (by omega) (y + 1) _ rfl (by omega) (by omega) (hf.row (Or.inr (Or.inr (Or.inl rfl))) hMo.m14) (fun a b hab hbP h => ?_)
        rw [up_same]
        by_cases e : a = x ∧ b = y
        · obtain ⟨e1, e2⟩ := e
          subst e1; subst e2
          rw [up_same, wbF, if_neg (by rw [← ew]; simpa [lkF] using c42)]
        · rw [up_ne _ _ (by omega)]
          exact hv a b hab hbP (by omega)
      · first | (rw [b2i_n0] at c42) | (rw [b2i_0] at c42)
        refine g_aload_n hX dX6_lays_45 rfl rfl ?_
        refine g_iload_n hX dX6_lays_46 rfl rfl ?_
        refine g_iload_n hX dX6_lays_47 rfl rfl ?_
        refine g_iload_n hX dX6_lays_48 rfl rfl ?_
        refine g_aload_n hX dX6_lays_49 rfl rfl ?_
        refine g_getR hX dX6_lays_50 flX6_16 (by assumption) rfl (by first | assumption | rfl) (by assumption) ?_
        refine g_bipush (v := nI 9) hX dX6_lays_53 (by decide) ?_
        refine g_ialdN hX dX6_lays_55 (by assumption) (rfl) (by omega) (by first | decide | omega) ?_
        refine g_callV (md' := mX6_bringsBy) (ci := 6) (As := [.int _, .int _, .int _, .int _]) hX hR dX6_lays_56 clX6_198 okX6_bringsBy rfl (by assumption) rfl rfl (Nat.le_of_ble_eq_true rfl) (Nat.le_of_ble_eq_true rfl) ⟨Nat.le_of_ble_eq_true rfl, Nat.le_of_ble_eq_true rfl⟩ ?_
        refine sp_X6_bringsBy (P := P) (T := T) hMo (by rw [ew]; exact hw) (by rw [es]; exact hs) hc hx (by omega) (by omega) (by rw [es]; exact hs.2.1) ?_
        have hf2 := hf.row (f := itF (J (κ.2.1 m 0)) T c (brS (J (κ.2.1 m 2)) x y (J (κ.2.1 m 2) 9))) (Or.inr (Or.inl rfl)) hMo.m3
        have f14 : va_up J (κ.2.1 m 3) (itF (J (κ.2.1 m 0)) T c (brS (J (κ.2.1 m 2)) x y (J (κ.2.1 m 2) 9))) (κ.2.1 m 14) = J (κ.2.1 m 14) := up_ne _ _ (kd_ne k14 k3 (by decide))
        generalize va_up J (κ.2.1 m 3) (itF (J (κ.2.1 m 0)) T c (brS (J (κ.2.1 m 2)) x y (J (κ.2.1 m 2) 9))) = K at hf2 f14 ⊢
        rw [ew, es]
        change GW _ _ _ 59 _ (.int _ :: _) _ _ _ _
        refine g_goto 64 hX dX6_lays_59 (by decide) ?_
        refine g_iastN hX dX6_lays_64 (by assumption) ((by rw [nI_mul]; exact nI_add _ _)) (by omega) (by first | decide | omega) ?_
        refine g_iinc (lv' := [(3, .int _), (2, .int _), (0, .ref _), (1, .int _)]) hX dX6_lays_65 rfl (by first | exact nI_inc _ | rfl) (by decide) rfl ?_
        refine g_goto 16 hX dX6_lays_68 (by decide) ?_
        refine g_pick [0, 1, 2, 3] rfl ?_
        refine ih (P - (y + 1)) (by omega) (y + 1) _ rfl (by omega) (by omega) (hf2.row (Or.inr (Or.inr (Or.inl rfl))) hMo.m14) (fun a b hab hbP h => ?_)
        rw [up_same]
        by_cases e : a = x ∧ b = y
        · obtain ⟨e1, e2⟩ := e
          subst e1; subst e2
          rw [up_same, wbF, if_pos (by rw [← ew]; exact c42)]
        · rw [up_ne _ _ (by omega), f14]
          exact hv a b hab hbP (by omega)

set_option maxHeartbeats 4000000 in
set_option maxRecDepth 100000 in
theorem lp_X6_lays_2 {Γ : Ga} {d : Nat} {κ : Kp} {Q : Option Value → Kp → Ip → Prop} {X : Cx} {I : Ip} {m c P T : Nat} (hM : Mx Γ (d + 6) mX6_lays Q X) (hMo : MoK κ m) (hw : WfT (I (κ.2.1 m 0)) P T) (hs : WfS (I (κ.2.1 m 2)) P T) (hc : c < 1000) (hq : ∀ J : Ip, MFr κ m I J → (∀ a b, a < b → b < P → J (κ.2.1 m 14) (6 * a + b) = wbF (I (κ.2.1 m 0)) (I (κ.2.1 m 2)) T c (I (κ.2.1 m 2) 9) (-4) a b) → Q none κ J) : ∀ (n : Nat) (x : Nat) (J : Ip), n = P - x → x ≤ P → MFr κ m I J → (∀ a b, a < b → b < P → a < x ∨ (a = x ∧ b < 0) → J (κ.2.1 m 14) (6 * a + b) = wbF (I (κ.2.1 m 0)) (I (κ.2.1 m 2)) T c (I (κ.2.1 m 2) 9) (-4) a b) → GW Γ mX6_lays X 2 [(2, .int (nI x)), (0, .ref (m)), (1, .int (nI c))] [] κ (J) 0 0 := by
  have hX := hM.std
  have hR := hM.room
  intro n
  induction n using Nat.strongRecOn with
  | ind n ih =>
    intro x J hn hx hf hv
    obtain ⟨hm, hm0, ⟨k0, n0⟩, ⟨k1, n1⟩, ⟨k2, n2⟩, ⟨k3, n3⟩, ⟨k4, n4⟩, ⟨k6, n6⟩, ⟨k8, n8⟩, ⟨k14, n14⟩, ⟨k15, n15⟩, ⟨k16, n16⟩, d01, d23, d614, d1516⟩ := id hMo
    obtain ⟨hw0, hw1, hP, hT, -⟩ := id hw
    have ew := hf.w hMo
    refine g_iload_n hX dX6_lays_2 rfl rfl ?_
    refine g_aload_n hX dX6_lays_3 rfl rfl ?_
    refine g_getR hX dX6_lays_4 flX6_7 (by assumption) rfl (by first | assumption | rfl) (by assumption) ?_
    refine g_iconst (v := nI 0) hX dX6_lays_7 (by decide) ?_
    refine g_ialdN hX dX6_lays_8 (by assumption) (rfl) (by omega) (by first | decide | omega) ?_
    refine g_icmpge 77 hX dX6_lays_9 (by decide) (fun c9 => ?_) (fun c9 => ?_)
    · rw [ew, hw0, nI_leI (by omega) (by omega)] at c9
      refine g_vret hM dX6_lays_77 rfl ⟨Nat.le_of_ble_eq_true rfl, Nat.le_of_ble_eq_true rfl⟩ ?_
      have e : x = P := by omega
      subst e
      exact hq J hf (fun a b hab hbP => hv a b hab hbP (by omega))
    · rw [ew, hw0, nI_leI (by omega) (by omega)] at c9
      refine g_iload_n hX dX6_lays_12 rfl rfl ?_
      refine g_iconst (v := nI 1) hX dX6_lays_13 (by decide) ?_
      refine g_iadd hX dX6_lays_14 ?_
      refine g_istore_n (lv' := [(3, .int _), (2, .int _), (0, .ref _), (1, .int _)]) hX dX6_lays_15 rfl (by decide) rfl ?_
      refine g_pick [0, 1, 2, 3] rfl ?_
      rw [nI_add]
      refine lp_X6_lays_16 (x := x) hM hMo hw hs hc (by omega) (fun J' hf' hv' => ?_) (P - (x + 1)) (x + 1) J rfl (by omega) (by omega) hf (fun a b hab hbP h => hv a b hab hbP (by omega))
      refine g_iinc (lv' := [(2, .int _), (3, .int _), (0, .ref _), (1, .int _)]) hX dX6_lays_71 rfl (by first | exact nI_inc _ | rfl) (by decide) rfl ?_
      refine g_goto 2 hX dX6_lays_74 (by decide) ?_
      refine g_pick [0, 2, 3] rfl (ih (P - (x + 1)) (by omega) (x + 1) J' rfl (by omega) hf' (fun a b hab hbP h => hv' a b hab hbP (by omega)))

set_option maxHeartbeats 4000000 in
set_option maxRecDepth 100000 in
theorem sp_X6_lays {Γ : Ga} {d : Nat} {κ : Kp} {I : Ip} {Q : Option Value → Kp → Ip → Prop} {m c P T : Nat} (hMo : MoK κ m) (hw : WfT (I (κ.2.1 m 0)) P T) (hs : WfS (I (κ.2.1 m 2)) P T) (hc : c < 1000) (hq : ∀ J : Ip, MFr κ m I J → (∀ a b, a < b → b < P → J (κ.2.1 m 14) (6 * a + b) = wbF (I (κ.2.1 m 0)) (I (κ.2.1 m 2)) T c (I (κ.2.1 m 2) 9) (-4) a b) → Q none κ J) : Sp Γ (d + 6) mX6_lays [.ref (m), .int (nI c)] κ I Q := by
  obtain ⟨hm, hm0, ⟨k0, n0⟩, ⟨k1, n1⟩, ⟨k2, n2⟩, ⟨k3, n3⟩, ⟨k4, n4⟩, ⟨k6, n6⟩, ⟨k8, n8⟩, ⟨k14, n14⟩, ⟨k15, n15⟩, ⟨k16, n16⟩, d01, d23, d614, d1516⟩ := id hMo
  intro X hM
  have hX := hM.std
  have hR := hM.room
  show GW _ mX6_lays X 0 [(0, .ref (m)), (1, .int (nI c))] [] _ _ 0 0
  refine g_iconst (v := nI 0) hX dX6_lays_0 (by decide) ?_
  refine g_istore_n (lv' := [(2, .int _), (0, .ref _), (1, .int _)]) hX dX6_lays_1 rfl (by decide) rfl ?_
  refine g_pick [0, 1, 2] rfl (lp_X6_lays_2 hM hMo hw hs hc hq P 0 I (Nat.sub_zero P).symm (Nat.zero_le _) MFr.rf (fun a b hab hbP h => by omega))
