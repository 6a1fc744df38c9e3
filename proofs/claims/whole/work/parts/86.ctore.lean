set_option maxHeartbeats 4000000 in
set_option maxRecDepth 100000 in
theorem lp_X1_init_18 {Γ : Ga} {d : Nat} {κ : Kp} {Q : Option Value → Kp → Ip → Prop} {X : Cx} {I : Ip} {x n : Nat} (hM : Mx Γ (d + 2) mX1_init Q X) (hkx : κ.1 x = (1, 0)) (hx : x < κ.2.2) (hn1 : 1 ≤ n) (hn8 : n ≤ 8) (hq : ∀ (κ' : Kp) (J : Ip), ShB κ κ' x n n I J → Q none κ' J) : ∀ (m : Nat) (i : Nat) (κ' : Kp) (J : Ip), m = n - i → i ≤ n → ShB κ κ' x n i I J → GW Γ mX1_init X 18 [(2, .int (nI i)), (0, .ref (x)), (1, .int (nI n))] [] κ' (J) (1 + 2 * i) (n + 16 * i) := by
  have hX := hM.std
  have hR := hM.room
  intro m
  induction m using Nat.strongRecOn with
  | ind m ih =>
    intro i κ' J hm hi hB
    have kx : κ'.1 x = (1, 0) := ((hB.2.1 x hx).1).trans hkx
    have kA := hB.2.2.1
    have kr := hB.2.2.2.1
    have hN := hB.1
    have hA0 : κ.2.2 ≠ 0 := by omega
    refine g_iload_n hX dX1_init_18 rfl rfl ?_
    refine g_aload_n hX dX1_init_19 rfl rfl ?_
    refine g_getR hX dX1_init_20 flX1_15 (by assumption) rfl (by first | assumption | rfl) (by assumption) ?_
    refine g_alen hX dX1_init_23 (by assumption) (by decide) rfl ?_
    refine g_icmpge 46 hX dX1_init_24 (by decide) (fun c24 => ?_) (fun c24 => ?_)
    · rw [show Int32.ofNat n = nI n from rfl, nI_leI (by omega) (by omega)] at c24
      refine g_vret hM dX1_init_46 rfl ⟨by show 1 + 2 * i ≤ 17; omega, by show n + 16 * i ≤ 136; omega⟩ ?_
      have e : i = n := by omega
      subst e
      exact hq _ _ hB
    · rw [show Int32.ofNat n = nI n from rfl, nI_leI (by omega) (by omega)] at c24
      refine g_aload_n hX dX1_init_27 rfl rfl ?_
      refine g_getR hX dX1_init_28 flX1_15 (by assumption) rfl (by first | assumption | rfl) (by assumption) ?_
      refine g_iload_n hX dX1_init_31 rfl rfl ?_
      refine g_new (ci := 2) hX hR dX1_init_32 rfl nlX1_13 inX2 iiX2 ⟨by show 1 + 2 * i + 1 ≤ 17; omega, by show n + 16 * i + 10 ≤ 136; omega⟩ ?_
      refine g_dup hX dX1_init_35 rfl ?_
      refine g_callI (md' := mX2_init) (As := []) hX hR dX1_init_36 clX1_21 okX2_init rfl rfl (Nat.le_of_ble_eq_true rfl) (Nat.le_of_ble_eq_true rfl) ⟨by show 1 + 2 * i + 1 + 1 ≤ 17; omega, by show n + 16 * i + 10 + 6 ≤ 136; omega⟩ ?_
      refine sp_X2_init (x := κ'.2.2) kNew_n (Nat.lt_succ_self _) (fun κ2 J2 e1 e2 e3 e4 => ?_)
      have hB2 := hB.step hx e1 e2 e3 e4
      have kA2 : κ2.1 κ.2.2 = (9, n) := by rw [(e2 κ.2.2 (by show _ < κ'.2.2 + 1; omega)).1, kNew_k (by omega)]; exact kA
      change GW _ _ _ 39 _ [.ref _, .int _, .ref _] _ _ _ _
      refine g_aastN (y := _) hX dX1_init_39 (by assumption) (rfl) (by omega) (by omega) (by rw [(e2 κ'.2.2 (Nat.lt_succ_self _)).1]; exact kNew_n) (by omega) ?_
      refine g_iinc (lv' := [(2, .int _), (0, .ref _), (1, .int _)]) hX dX1_init_40 rfl (by first | exact nI_inc _ | rfl) (by decide) rfl ?_
      refine g_goto 18 hX dX1_init_43 (by decide) ?_
      refine g_cs (a' := 1 + 2 * (i + 1)) (b' := n + 16 * (i + 1)) ⟨by show 1 + 2 * i + 1 + 1 = _; omega, by show n + 16 * i + 10 + 6 = _; omega⟩ ?_
      exact g_pick [0, 1, 2] rfl (ih (n - (i + 1)) (by omega) (i + 1) _ J2 rfl (by omega) hB2)

set_option maxHeartbeats 4000000 in
set_option maxRecDepth 100000 in
theorem sp_X1_init {Γ : Ga} {d : Nat} {κ : Kp} {I : Ip} {Q : Option Value → Kp → Ip → Prop} {x n : Nat} (hkx : κ.1 x = (1, 0)) (hx : x < κ.2.2) (hn1 : 1 ≤ n) (hn8 : n ≤ 8) (hq : ∀ (κ' : Kp) (J : Ip), ShB κ κ' x n n I J → Q none κ' J) : Sp Γ (d + 2) mX1_init [.ref (x), .int (nI n)] κ I Q := by
  intro X hM
  have hX := hM.std
  have hR := hM.room
  show GW _ mX1_init X 0 [(0, .ref (x)), (1, .int (nI n))] [] _ _ 0 0
  refine g_aload_n hX dX1_init_0 rfl rfl ?_
  refine g_objInit hX hR dX1_init_1 oiX1_1 wg_oi wg_oc (Nat.le_of_ble_eq_true rfl) ?_
  refine g_aload_n hX dX1_init_4 rfl rfl ?_
  refine g_iconst (v := nI 1) hX dX1_init_5 (by decide) ?_
  refine g_iload_n hX dX1_init_6 rfl rfl ?_
  refine g_max hX hR dX1_init_7 mmX1_7 mmax_st mmath_in mmax_co (Nat.le_of_ble_eq_true rfl) ⟨Nat.le_of_ble_eq_true rfl, Nat.le_of_ble_eq_true rfl⟩ ?_
  rw [max1 hn1 (by omega)]
  refine g_newQ (N := n) hX hR dX1_init_10 nlX1_13 (by rw [Int32.lt_iff_toInt_lt, nI_toInt (by omega), Int32.toInt_zero]; omega) (nI_clamp (by omega)) (by omega) ⟨by show 0 + 1 ≤ 17; omega, by show 0 + n ≤ 136; omega⟩ ?_
  refine g_putR hX dX1_init_13 flX1_15 (by rw [kNew_k (by omega)]; exact hkx) rfl (by first | assumption | omega) (Or.inr ⟨rfl, fun r0 h => by cases h; exact ⟨rfl, fwX1_15⟩⟩) ?_
  refine g_iconst (v := nI 0) hX dX1_init_16 (by decide) ?_
  refine g_istore_n (lv' := [(2, .int _), (0, .ref _), (1, .int _)]) hX dX1_init_17 rfl (by decide) rfl ?_
  refine g_cs (a' := 1 + 2 * 0) (b' := n + 16 * 0) ⟨rfl, by omega⟩ ?_
  refine g_pick [0, 1, 2] rfl (lp_X1_init_18 (κ := κ) hM hkx hx hn1 hn8 hq n 0 _ _ rfl (Nat.zero_le _) ⟨rfl, fun a ha => ⟨?_, fun hax => ⟨?_, ?_⟩⟩, ?_, ?_, fun j hj => absurd hj (Nat.not_lt_zero _)⟩)
  · exact kNew_k (by omega)
  · exact iNew_a (by omega)
  · show va_up (kNew κ (9, n)).2.1 x _ a = _
    rw [up_ne _ _ hax, kNew_r (by omega)]
  · exact kNew_n
  · show va_up (kNew κ (9, n)).2.1 x _ x 0 = _
    rw [up_same, up_same]
