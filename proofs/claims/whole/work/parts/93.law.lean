set_option maxHeartbeats 4000000 in
set_option maxRecDepth 100000 in
/-- one turn: the call that the script spells -/
theorem law_turn {Γ : Ga} {X : Cx} {nm : String} {κ : Kp} {I : Ip} {c m b L i : Nat} {xs : Nat → Int32} (hX : Std Γ (mL nm) X) (hR : RmOK (mL nm) X 9) (hSc : ScX Γ b L xs X) (hL : L ≤ 448) (hi : i + 7 ≤ L) (hI : Inv κ I c m) (hq : ∀ (κ2 : Kp) (J : Ip), Inv κ2 J c m → GW Γ (mL nm) X 909 [(3, .int (nI i)), (0, .ref b), (1, .ref c), (2, .ref m)] [] κ2 J 76 1400) : GW Γ (mL nm) X 27 [(3, .int (nI i)), (0, .ref b), (1, .ref c), (2, .ref m)] [] κ I 76 1400 := by
  refine g_aload_n hX dL_law_27 rfl rfl ?_
  refine g_iload_n hX dL_law_28 rfl rfl ?_
  refine g_sld hX hSc dL_law_29 rfl (by omega) (by omega) ?_
  refine g_bipush (v := nI 31) hX dL_law_30 (by decide) ?_
  refine g_iand hX dL_law_32 ?_
  obtain ⟨k, hk, e⟩ := and31 (xs i)
  rw [e]
  clear e
  rcases (show k = 0 ∨ k = 1 ∨ k = 2 ∨ k = 3 ∨ k = 4 ∨ k = 5 ∨ k = 6 ∨ k = 7 ∨ k = 8 ∨ k = 9 ∨ k = 10 ∨ k = 11 ∨ k = 12 ∨ k = 13 ∨ k = 14 ∨ k = 15 ∨ k = 16 ∨ k = 17 ∨ k = 18 ∨ k = 19 ∨ k = 20 ∨ k = 21 ∨ k = 22 ∨ k = 23 ∨ k = 24 ∨ k = 25 ∨ k = 26 ∨ 27 ≤ k by omega) with rfl | rfl | rfl | rfl | rfl | rfl | rfl | rfl | rfl | rfl | rfl | rfl | rfl | rfl | rfl | rfl | rfl | rfl | rfl | rfl | rfl | rfl | rfl | rfl | rfl | rfl | rfl | h27
  · exact g_tableIn 156 hX dL_law_33 (by decide +kernel) (by decide +kernel) (off := 123) (by decide +kernel) (by decide) (lc_0 hX hR hSc hL hi hI hq)
  · exact g_tableIn 179 hX dL_law_33 (by decide +kernel) (by decide +kernel) (off := 146) (by decide +kernel) (by decide) (lc_1 hX hR hSc hL hi hI hq)
  · exact g_tableIn 192 hX dL_law_33 (by decide +kernel) (by decide +kernel) (off := 159) (by decide +kernel) (by decide) (lc_2 hX hR hSc hL hi hI hq)
  · exact g_tableIn 205 hX dL_law_33 (by decide +kernel) (by decide +kernel) (off := 172) (by decide +kernel) (by decide) (lc_3 hX hR hSc hL hi hI hq)
  · exact g_tableIn 218 hX dL_law_33 (by decide +kernel) (by decide +kernel) (off := 185) (by decide +kernel) (by decide) (lc_4 hX hR hSc hL hi hI hq)
  · exact g_tableIn 251 hX dL_law_33 (by decide +kernel) (by decide +kernel) (off := 218) (by decide +kernel) (by decide) (lc_5 hX hR hSc hL hi hI hq)
  · exact g_tableIn 284 hX dL_law_33 (by decide +kernel) (by decide +kernel) (off := 251) (by decide +kernel) (by decide) (lc_6 hX hR hSc hL hi hI hq)
  · exact g_tableIn 307 hX dL_law_33 (by decide +kernel) (by decide +kernel) (off := 274) (by decide +kernel) (by decide) (lc_7 hX hR hSc hL hi hI hq)
  · exact g_tableIn 340 hX dL_law_33 (by decide +kernel) (by decide +kernel) (off := 307) (by decide +kernel) (by decide) (lc_8 hX hR hSc hL hi hI hq)
  · exact g_tableIn 353 hX dL_law_33 (by decide +kernel) (by decide +kernel) (off := 320) (by decide +kernel) (by decide) (lc_9 hX hR hSc hL hi hI hq)
  · exact g_tableIn 376 hX dL_law_33 (by decide +kernel) (by decide +kernel) (off := 343) (by decide +kernel) (by decide) (lc_10 hX hR hSc hL hi hI hq)
  · exact g_tableIn 399 hX dL_law_33 (by decide +kernel) (by decide +kernel) (off := 366) (by decide +kernel) (by decide) (lc_11 hX hR hSc hL hi hI hq)
  · exact g_tableIn 412 hX dL_law_33 (by decide +kernel) (by decide +kernel) (off := 379) (by decide +kernel) (by decide) (lc_12 hX hR hSc hL hi hI hq)
  · exact g_tableIn 435 hX dL_law_33 (by decide +kernel) (by decide +kernel) (off := 402) (by decide +kernel) (by decide) (lc_13 hX hR hSc hL hi hI hq)
  · exact g_tableIn 448 hX dL_law_33 (by decide +kernel) (by decide +kernel) (off := 415) (by decide +kernel) (by decide) (lc_14 hX hR hSc hL hi hI hq)
  · exact g_tableIn 491 hX dL_law_33 (by decide +kernel) (by decide +kernel) (off := 458) (by decide +kernel) (by decide) (lc_15 hX hR hSc hL hi hI hq)
  · exact g_tableIn 524 hX dL_law_33 (by decide +kernel) (by decide +kernel) (off := 491) (by decide +kernel) (by decide) (lc_16 hX hR hSc hL hi hI hq)
  · exact g_tableIn 557 hX dL_law_33 (by decide +kernel) (by decide +kernel) (off := 524) (by decide +kernel) (by decide) (lc_17 hX hR hSc hL hi hI hq)
  · exact g_tableIn 580 hX dL_law_33 (by decide +kernel) (by decide +kernel) (off := 547) (by decide +kernel) (by decide) (lc_18 hX hR hSc hL hi hI hq)
  · exact g_tableIn 613 hX dL_law_33 (by decide +kernel) (by decide +kernel) (off := 580) (by decide +kernel) (by decide) (lc_19 hX hR hSc hL hi hI hq)
  · exact g_tableIn 646 hX dL_law_33 (by decide +kernel) (by decide +kernel) (off := 613) (by decide +kernel) (by decide) (lc_20 hX hR hSc hL hi hI hq)
  · exact g_tableIn 699 hX dL_law_33 (by decide +kernel) (by decide +kernel) (off := 666) (by decide +kernel) (by decide) (lc_21 hX hR hSc hL hi hI hq)
  · exact g_tableIn 742 hX dL_law_33 (by decide +kernel) (by decide +kernel) (off := 709) (by decide +kernel) (by decide) (lc_22 hX hR hSc hL hi hI hq)
  · exact g_tableIn 817 hX dL_law_33 (by decide +kernel) (by decide +kernel) (off := 784) (by decide +kernel) (by decide) (lc_23 hX hR hSc hL hi hI hq)
  · exact g_tableIn 860 hX dL_law_33 (by decide +kernel) (by decide +kernel) (off := 827) (by decide +kernel) (by decide) (lc_24 hX hR hSc hL hi hI hq)
  · exact g_tableIn 873 hX dL_law_33 (by decide +kernel) (by decide +kernel) (off := 840) (by decide +kernel) (by decide) (lc_25 hX hR hSc hL hi hI hq)
  · exact g_tableIn 886 hX dL_law_33 (by decide +kernel) (by decide +kernel) (off := 853) (by decide +kernel) (by decide) (lc_26 hX hR hSc hL hi hI hq)
  · exact g_tableOut 909 hX dL_law_33 (Or.inr (by rw [nI_toInt (by omega)]; omega)) (by decide) (hq _ _ hI)
set_option maxHeartbeats 4000000 in
set_option maxRecDepth 100000 in
/-- the law's loop -/
theorem law_loop {Γ : Ga} {X : Cx} {nm : String} {c m b L : Nat} {xs : Nat → Int32} (hX : Std Γ (mL nm) X) (hR : RmOK (mL nm) X 9) (hSc : ScX Γ b L xs X) (hL : L ≤ 448) (hout : ∀ (lv : List (Nat × Value)) (κ : Kp) (I : Ip), GW Γ (mL nm) X 916 lv [.int 1] κ I 76 1400) : ∀ (n i : Nat) (κ : Kp) (I : Ip), L + 1 ≤ i + n → i ≤ 900 → Inv κ I c m → GW Γ (mL nm) X 18 [(3, .int (nI i)), (0, .ref b), (1, .ref c), (2, .ref m)] [] κ I 76 1400 := by
  intro n
  induction n with
  | zero =>
    intro i κ I hn hi9 hI
    refine g_iload_n hX dL_law_18 rfl rfl ?_
    refine g_aload_n hX dL_law_19 rfl rfl ?_
    refine g_slen hX hSc dL_law_20 ?_
    refine g_bipush (v := nI 7) hX dL_law_21 (by decide) ?_
    refine g_isub hX dL_law_23 ?_
    refine g_icmpgt 915 hX dL_law_24 (by decide) (fun c24 => ?_) (fun c24 => ?_)
    · exact g_iconst (v := 1) hX dL_law_915 (by decide) (hout _ _ _)
    · exact absurd ((sub7 hL (by omega)).mpr (by omega)) c24
  | succ n ih =>
    intro i κ I hn hi9 hI
    refine g_iload_n hX dL_law_18 rfl rfl ?_
    refine g_aload_n hX dL_law_19 rfl rfl ?_
    refine g_slen hX hSc dL_law_20 ?_
    refine g_bipush (v := nI 7) hX dL_law_21 (by decide) ?_
    refine g_isub hX dL_law_23 ?_
    refine g_icmpgt 915 hX dL_law_24 (by decide) (fun c24 => ?_) (fun c24 => ?_)
    · exact g_iconst (v := 1) hX dL_law_915 (by decide) (hout _ _ _)
    · rw [sub7 hL (by omega)] at c24
      refine law_turn hX hR hSc hL (by omega) hI (fun κ2 J hI2 => ?_)
      refine g_iinc (v := nI (i + 7)) (lv' := [(3, .int (nI (i + 7))), (0, .ref b), (1, .ref c), (2, .ref m)]) hX dL_law_909 rfl (by rw [show Int32.ofInt 7 = nI 7 from by decide +kernel]; exact nI_add i 7) (show 3 < 4 by decide) rfl ?_
      refine g_goto 18 hX dL_law_912 (by decide) ?_
      exact ih (i + 7) κ2 J (by omega) (by omega) hI2
