set_option maxHeartbeats 4000000 in
set_option maxRecDepth 100000 in
theorem fr_X5_held_205 {Γ : Ga} {d : Nat} {κ : Kp} {Q : Option Value → Kp → Ip → Prop} {X : Cx} {I : Ip} {c B l : Nat} {part : Int32} (hM : Mx Γ (d + 7) mX5_held Q X) (hl9 : l ≤ 9) (hB : B ≤ 10 ^ l) (hq : Q (some (.int (nI ((if part = 0 then B else 10 ^ l) / Nat.gcd B (10 ^ l))))) κ I) : GW Γ mX5_held X 205 [(0, .ref (c)), (6, .int (part)), (8, .int (nI l)), (9, .long (lN B))] [] κ (I) 0 0 := by
  have hX := hM.std
  have hR := hM.room
  have h10 := pow10_9 hl9
  have hg0 : 0 < 10 ^ l := Nat.pow_pos (by decide)
  have hgp : 0 < Nat.gcd B (10 ^ l) := Nat.gcd_pos_of_pos_right _ hg0
  have hgl : Nat.gcd B (10 ^ l) ≤ 10 ^ l := Nat.gcd_le_right _ hg0
  refine g_ldc2 hX dX5_held_205 kX5_273 ?_
  refine g_iload hX dX5_held_208 rfl ?_
  refine g_callS (md' := mX5_power) (As := [.long _, .int _]) hX hR dX5_held_210 clX5_269 okX5_power rfl rfl (Nat.le_of_ble_eq_true rfl) (Nat.le_of_ble_eq_true rfl) ⟨Nat.le_of_ble_eq_true rfl, Nat.le_of_ble_eq_true rfl⟩ ?_
  rw [show (10 : Int64) = lN 10 from rfl]
  refine sp_X5_power (by omega) ?_
  change GW _ _ _ 213 _ [.long _] _ _ 0 0
  refine g_lstore (lv' := [(11, .long _), (0, .ref _), (6, .int _), (8, .int _), (9, .long _)]) hX dX5_held_213 (by decide) rfl ?_
  refine g_lload hX dX5_held_215 rfl ?_
  refine g_lload hX dX5_held_217 rfl ?_
  refine g_callS (md' := mX5_commonDivisor) (As := [.long _, .long _]) hX hR dX5_held_219 clX5_275 okX5_commonDivisor rfl rfl (Nat.le_of_ble_eq_true rfl) (Nat.le_of_ble_eq_true rfl) ⟨Nat.le_of_ble_eq_true rfl, Nat.le_of_ble_eq_true rfl⟩ ?_
  refine sp_X5_commonDivisor (by omega) (by omega) ?_
  change GW _ _ _ 222 _ [.long _] _ _ 0 0
  refine g_lstore (lv' := [(13, .long _), (11, .long _), (0, .ref _), (6, .int _), (8, .int _), (9, .long _)]) hX dX5_held_222 (by decide) rfl ?_
  refine g_lload hX dX5_held_224 rfl ?_
  refine g_lconst (v := 0) hX dX5_held_226 (by decide) ?_
  refine g_lcmp hX dX5_held_227 ?_
  refine g_ifne 235 hX dX5_held_228 (by decide) (fun c228 => ?_) (fun c228 => ?_)
  · rw [lgc_eq] at c228
    refine g_iload hX dX5_held_235 rfl ?_
    refine g_ifne 245 hX dX5_held_237 (by decide) (fun c237 => ?_) (fun c237 => ?_)
    · refine g_lload hX dX5_held_245 rfl ?_
      refine g_lload hX dX5_held_247 rfl ?_
      refine g_ldiv hX dX5_held_249 (lN_ne0 hgp (by omega)) ?_
      rw [lN_div (by omega) (by omega)]
      refine g_l2i hX dX5_held_250 ?_
      rw [lN_i]
      refine g_iret hM dX5_held_251 rfl (rfl) ⟨Nat.le_of_ble_eq_true rfl, Nat.le_of_ble_eq_true rfl⟩ ?_
      rw [if_neg c237] at hq
      exact hq
    · refine g_lload hX dX5_held_240 rfl ?_
      refine g_goto 247 hX dX5_held_242 (by decide) ?_
      refine g_lload hX dX5_held_247 rfl ?_
      refine g_ldiv hX dX5_held_249 (lN_ne0 hgp (by omega)) ?_
      rw [lN_div (by omega) (by omega)]
      refine g_l2i hX dX5_held_250 ?_
      rw [lN_i]
      refine g_iret hM dX5_held_251 rfl (rfl) ⟨Nat.le_of_ble_eq_true rfl, Nat.le_of_ble_eq_true rfl⟩ ?_
      rw [if_pos c237] at hq
      exact hq
  · rw [lgc_eq] at c228
    exact absurd c228 (lN_ne0 hgp (by omega))
