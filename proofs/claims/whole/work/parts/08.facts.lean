section GL
variable {Γ : Ga} {md : Md} {X : Cx} {pc : Nat} {lv : List (Nat × Value)} {r : List Value} {κ : Kp} {I : Ip} {a b : Nat}
theorem g_ldc2 {idx : Nat} {v : Int64} (hX : Std Γ md X) (hd : decode md.2.1 pc = .ok (.ldc2_w idx, 3)) (hc : Cond.constantLong md.1.cls idx v ∈ wg) (k : GW Γ md X (pc + 3) lv (.long v :: r) κ I a b) : GW Γ md X pc lv r κ I a b := by
  obtain ⟨p, l, e, R, s, m, args, below, meth, c, Q⟩ := X
  obtain ⟨hx, hb, hml, hown, hts, -⟩ := hX
  intro H locs ls hR hS hl
  exact lv_ldc2 hx hb hown (hts _ hc) hd (k H locs ls hR hS hl)
theorem g_ldcw {idx : Nat} {v : Int32} (hX : Std Γ md X) (hd : decode md.2.1 pc = .ok (.ldc_w idx, 3)) (hc : Cond.constant md.1.cls idx v ∈ wg) (k : GW Γ md X (pc + 3) lv (.int v :: r) κ I a b) : GW Γ md X pc lv r κ I a b := by
  obtain ⟨p, l, e, R, s, m, args, below, meth, c, Q⟩ := X
  obtain ⟨hx, hb, hml, hown, hts, -⟩ := hX
  intro H locs ls hR hS hl
  exact lv_ldcw hx hb hown (hts _ hc) hd (k H locs ls hR hS hl)
end GL
theorem wg_oi : Cond.instanceMethod Lib.objectInit ∈ wg := wg_mem (i := 20) (by decide +kernel) (by decide +kernel)
theorem wg_oc : Cond.code Lib.objectInit ⟨#[0xb1]⟩ 1 none ∈ wg := wg_mem (i := 21) (by decide +kernel) (by decide +kernel)
theorem flX3_9 : FL RX3 3 0 9 := ⟨(RX3, TX3, 3), rfl, by decide, Or.inl (wg_mem (i := 28) (by decide +kernel) (by decide +kernel))⟩
theorem flX3_15 : FL RX3 3 1 15 := ⟨(RX3, TX3, 3), rfl, by decide, Or.inl (wg_mem (i := 29) (by decide +kernel) (by decide +kernel))⟩
theorem flX3_24 : FL RX3 3 2 24 := ⟨(RX3, TX3, 3), rfl, by decide, Or.inl (wg_mem (i := 30) (by decide +kernel) (by decide +kernel))⟩
theorem flX2_9 : FL RX2 2 0 9 := ⟨(RX2, TX2, 10), rfl, by decide, Or.inl (wg_mem (i := 45) (by decide +kernel) (by decide +kernel))⟩
theorem flX2_40 : FL RX2 2 1 40 := ⟨(RX2, TX2, 10), rfl, by decide, Or.inl (wg_mem (i := 46) (by decide +kernel) (by decide +kernel))⟩
theorem flX5_198 : FL RX5 2 1 198 := ⟨(RX2, TX2, 10), rfl, by decide, Or.inr ⟨"ChurnTalk", nw_mem (i := 47) (by decide +kernel) (by decide +kernel)⟩⟩
theorem flX2_15 : FL RX2 2 2 15 := ⟨(RX2, TX2, 10), rfl, by decide, Or.inl (wg_mem (i := 48) (by decide +kernel) (by decide +kernel))⟩
theorem flX5_137 : FL RX5 2 2 137 := ⟨(RX2, TX2, 10), rfl, by decide, Or.inr ⟨"ChurnTalk", nw_mem (i := 49) (by decide +kernel) (by decide +kernel)⟩⟩
theorem flX2_19 : FL RX2 2 3 19 := ⟨(RX2, TX2, 10), rfl, by decide, Or.inl (wg_mem (i := 50) (by decide +kernel) (by decide +kernel))⟩
theorem flX5_140 : FL RX5 2 3 140 := ⟨(RX2, TX2, 10), rfl, by decide, Or.inr ⟨"ChurnTalk", nw_mem (i := 51) (by decide +kernel) (by decide +kernel)⟩⟩
theorem flX2_22 : FL RX2 2 4 22 := ⟨(RX2, TX2, 10), rfl, by decide, Or.inl (wg_mem (i := 52) (by decide +kernel) (by decide +kernel))⟩
theorem flX5_143 : FL RX5 2 4 143 := ⟨(RX2, TX2, 10), rfl, by decide, Or.inr ⟨"ChurnTalk", nw_mem (i := 53) (by decide +kernel) (by decide +kernel)⟩⟩
theorem flX2_25 : FL RX2 2 5 25 := ⟨(RX2, TX2, 10), rfl, by decide, Or.inl (wg_mem (i := 54) (by decide +kernel) (by decide +kernel))⟩
theorem flX5_149 : FL RX5 2 5 149 := ⟨(RX2, TX2, 10), rfl, by decide, Or.inr ⟨"ChurnTalk", nw_mem (i := 55) (by decide +kernel) (by decide +kernel)⟩⟩
theorem flX2_52 : FL RX2 2 6 52 := ⟨(RX2, TX2, 10), rfl, by decide, Or.inl (wg_mem (i := 56) (by decide +kernel) (by decide +kernel))⟩
theorem flX5_152 : FL RX5 2 6 152 := ⟨(RX2, TX2, 10), rfl, by decide, Or.inr ⟨"ChurnTalk", nw_mem (i := 57) (by decide +kernel) (by decide +kernel)⟩⟩
theorem flX2_55 : FL RX2 2 7 55 := ⟨(RX2, TX2, 10), rfl, by decide, Or.inl (wg_mem (i := 58) (by decide +kernel) (by decide +kernel))⟩
theorem flX5_155 : FL RX5 2 7 155 := ⟨(RX2, TX2, 10), rfl, by decide, Or.inr ⟨"ChurnTalk", nw_mem (i := 59) (by decide +kernel) (by decide +kernel)⟩⟩
theorem flX2_43 : FL RX2 2 8 43 := ⟨(RX2, TX2, 10), rfl, by decide, Or.inl (wg_mem (i := 60) (by decide +kernel) (by decide +kernel))⟩
theorem flX5_303 : FL RX5 2 8 303 := ⟨(RX2, TX2, 10), rfl, by decide, Or.inr ⟨"ChurnTalk", nw_mem (i := 61) (by decide +kernel) (by decide +kernel)⟩⟩
theorem flX2_46 : FL RX2 2 9 46 := ⟨(RX2, TX2, 10), rfl, by decide, Or.inl (wg_mem (i := 62) (by decide +kernel) (by decide +kernel))⟩
theorem flX5_192 : FL RX5 2 9 192 := ⟨(RX2, TX2, 10), rfl, by decide, Or.inr ⟨"ChurnTalk", nw_mem (i := 63) (by decide +kernel) (by decide +kernel)⟩⟩
theorem flX1_15 : FL RX1 1 0 15 := ⟨(RX1, TX1, 2), rfl, by decide, Or.inl (wg_mem (i := 98) (by decide +kernel) (by decide +kernel))⟩
theorem flX1_22 : FL RX1 1 1 22 := ⟨(RX1, TX1, 2), rfl, by decide, Or.inl (wg_mem (i := 99) (by decide +kernel) (by decide +kernel))⟩
theorem flX0_9 : FL RX0 0 0 9 := ⟨(RX0, TX0, 4), rfl, by decide, Or.inl (wg_mem (i := 111) (by decide +kernel) (by decide +kernel))⟩
theorem flX0_15 : FL RX0 0 1 15 := ⟨(RX0, TX0, 4), rfl, by decide, Or.inl (wg_mem (i := 112) (by decide +kernel) (by decide +kernel))⟩
theorem flX0_18 : FL RX0 0 2 18 := ⟨(RX0, TX0, 4), rfl, by decide, Or.inl (wg_mem (i := 113) (by decide +kernel) (by decide +kernel))⟩
theorem flX0_21 : FL RX0 0 3 21 := ⟨(RX0, TX0, 4), rfl, by decide, Or.inl (wg_mem (i := 114) (by decide +kernel) (by decide +kernel))⟩
theorem flX4_33 : FL RX4 4 0 33 := ⟨(RX4, TX4, 9), rfl, by decide, Or.inl (wg_mem (i := 130) (by decide +kernel) (by decide +kernel))⟩
theorem flX2_28 : FL RX2 4 0 28 := ⟨(RX4, TX4, 9), rfl, by decide, Or.inr ⟨"ChurnTalk", nw_mem (i := 131) (by decide +kernel) (by decide +kernel)⟩⟩
theorem flX5_88 : FL RX5 4 0 88 := ⟨(RX4, TX4, 9), rfl, by decide, Or.inr ⟨"ChurnTalk", nw_mem (i := 132) (by decide +kernel) (by decide +kernel)⟩⟩
theorem flX4_37 : FL RX4 4 1 37 := ⟨(RX4, TX4, 9), rfl, by decide, Or.inl (wg_mem (i := 133) (by decide +kernel) (by decide +kernel))⟩
theorem flX5_204 : FL RX5 4 1 204 := ⟨(RX4, TX4, 9), rfl, by decide, Or.inr ⟨"ChurnTalk", nw_mem (i := 134) (by decide +kernel) (by decide +kernel)⟩⟩
theorem flX4_9 : FL RX4 4 2 9 := ⟨(RX4, TX4, 9), rfl, by decide, Or.inl (wg_mem (i := 135) (by decide +kernel) (by decide +kernel))⟩
theorem flX2_84 : FL RX2 4 2 84 := ⟨(RX4, TX4, 9), rfl, by decide, Or.inr ⟨"ChurnTalk", nw_mem (i := 136) (by decide +kernel) (by decide +kernel)⟩⟩
theorem flX4_15 : FL RX4 4 3 15 := ⟨(RX4, TX4, 9), rfl, by decide, Or.inl (wg_mem (i := 137) (by decide +kernel) (by decide +kernel))⟩
theorem flX4_18 : FL RX4 4 4 18 := ⟨(RX4, TX4, 9), rfl, by decide, Or.inl (wg_mem (i := 138) (by decide +kernel) (by decide +kernel))⟩
theorem flX2_87 : FL RX2 4 4 87 := ⟨(RX4, TX4, 9), rfl, by decide, Or.inr ⟨"ChurnTalk", nw_mem (i := 139) (by decide +kernel) (by decide +kernel)⟩⟩
theorem flX4_21 : FL RX4 4 5 21 := ⟨(RX4, TX4, 9), rfl, by decide, Or.inl (wg_mem (i := 140) (by decide +kernel) (by decide +kernel))⟩
theorem flX2_33 : FL RX2 4 5 33 := ⟨(RX4, TX4, 9), rfl, by decide, Or.inr ⟨"ChurnTalk", nw_mem (i := 141) (by decide +kernel) (by decide +kernel)⟩⟩
theorem flX4_24 : FL RX4 4 6 24 := ⟨(RX4, TX4, 9), rfl, by decide, Or.inl (wg_mem (i := 142) (by decide +kernel) (by decide +kernel))⟩
theorem flX4_27 : FL RX4 4 7 27 := ⟨(RX4, TX4, 9), rfl, by decide, Or.inl (wg_mem (i := 143) (by decide +kernel) (by decide +kernel))⟩
theorem flX4_30 : FL RX4 4 8 30 := ⟨(RX4, TX4, 9), rfl, by decide, Or.inl (wg_mem (i := 144) (by decide +kernel) (by decide +kernel))⟩
theorem flX5_10 : FL RX5 5 0 10 := ⟨(RX5, TX5, 8), rfl, by decide, Or.inl (wg_mem (i := 320) (by decide +kernel) (by decide +kernel))⟩
theorem flX5_19 : FL RX5 5 1 19 := ⟨(RX5, TX5, 8), rfl, by decide, Or.inl (wg_mem (i := 321) (by decide +kernel) (by decide +kernel))⟩
theorem flX5_23 : FL RX5 5 2 23 := ⟨(RX5, TX5, 8), rfl, by decide, Or.inl (wg_mem (i := 322) (by decide +kernel) (by decide +kernel))⟩
theorem flX5_31 : FL RX5 5 3 31 := ⟨(RX5, TX5, 8), rfl, by decide, Or.inl (wg_mem (i := 323) (by decide +kernel) (by decide +kernel))⟩
theorem flX5_35 : FL RX5 5 4 35 := ⟨(RX5, TX5, 8), rfl, by decide, Or.inl (wg_mem (i := 324) (by decide +kernel) (by decide +kernel))⟩
theorem flX5_41 : FL RX5 5 5 41 := ⟨(RX5, TX5, 8), rfl, by decide, Or.inl (wg_mem (i := 325) (by decide +kernel) (by decide +kernel))⟩
theorem flX5_48 : FL RX5 5 6 48 := ⟨(RX5, TX5, 8), rfl, by decide, Or.inl (wg_mem (i := 326) (by decide +kernel) (by decide +kernel))⟩
theorem flX5_52 : FL RX5 5 7 52 := ⟨(RX5, TX5, 8), rfl, by decide, Or.inl (wg_mem (i := 327) (by decide +kernel) (by decide +kernel))⟩
theorem flX6_7 : FL RX6 6 0 7 := ⟨(RX6, TX6, 17), rfl, by decide, Or.inl (wg_mem (i := 742) (by decide +kernel) (by decide +kernel))⟩
theorem flX6_13 : FL RX6 6 1 13 := ⟨(RX6, TX6, 17), rfl, by decide, Or.inl (wg_mem (i := 743) (by decide +kernel) (by decide +kernel))⟩
theorem flX6_16 : FL RX6 6 2 16 := ⟨(RX6, TX6, 17), rfl, by decide, Or.inl (wg_mem (i := 744) (by decide +kernel) (by decide +kernel))⟩
theorem flX6_19 : FL RX6 6 3 19 := ⟨(RX6, TX6, 17), rfl, by decide, Or.inl (wg_mem (i := 745) (by decide +kernel) (by decide +kernel))⟩
theorem flX6_22 : FL RX6 6 4 22 := ⟨(RX6, TX6, 17), rfl, by decide, Or.inl (wg_mem (i := 746) (by decide +kernel) (by decide +kernel))⟩
theorem flX6_62 : FL RX6 6 5 62 := ⟨(RX6, TX6, 17), rfl, by decide, Or.inl (wg_mem (i := 747) (by decide +kernel) (by decide +kernel))⟩
theorem flX6_25 : FL RX6 6 6 25 := ⟨(RX6, TX6, 17), rfl, by decide, Or.inl (wg_mem (i := 748) (by decide +kernel) (by decide +kernel))⟩
theorem flX6_66 : FL RX6 6 7 66 := ⟨(RX6, TX6, 17), rfl, by decide, Or.inl (wg_mem (i := 749) (by decide +kernel) (by decide +kernel))⟩
theorem flX6_28 : FL RX6 6 8 28 := ⟨(RX6, TX6, 17), rfl, by decide, Or.inl (wg_mem (i := 750) (by decide +kernel) (by decide +kernel))⟩
theorem flX6_77 : FL RX6 6 9 77 := ⟨(RX6, TX6, 17), rfl, by decide, Or.inl (wg_mem (i := 751) (by decide +kernel) (by decide +kernel))⟩
theorem flX6_80 : FL RX6 6 10 80 := ⟨(RX6, TX6, 17), rfl, by decide, Or.inl (wg_mem (i := 752) (by decide +kernel) (by decide +kernel))⟩
theorem flX6_95 : FL RX6 6 11 95 := ⟨(RX6, TX6, 17), rfl, by decide, Or.inl (wg_mem (i := 753) (by decide +kernel) (by decide +kernel))⟩
theorem flX6_202 : FL RX6 6 12 202 := ⟨(RX6, TX6, 17), rfl, by decide, Or.inl (wg_mem (i := 754) (by decide +kernel) (by decide +kernel))⟩
theorem flX6_205 : FL RX6 6 13 205 := ⟨(RX6, TX6, 17), rfl, by decide, Or.inl (wg_mem (i := 755) (by decide +kernel) (by decide +kernel))⟩
theorem flX6_31 : FL RX6 6 14 31 := ⟨(RX6, TX6, 17), rfl, by decide, Or.inl (wg_mem (i := 756) (by decide +kernel) (by decide +kernel))⟩
theorem flX6_34 : FL RX6 6 15 34 := ⟨(RX6, TX6, 17), rfl, by decide, Or.inl (wg_mem (i := 757) (by decide +kernel) (by decide +kernel))⟩
theorem flX6_37 : FL RX6 6 16 37 := ⟨(RX6, TX6, 17), rfl, by decide, Or.inl (wg_mem (i := 758) (by decide +kernel) (by decide +kernel))⟩
abbrev mX0_init : Md := (yX0_init, cX0_init, 1, none, 4, 170)
theorem okX0_init : okI mX0_init 0 := ⟨⟨wg_mem (i := 109) (by decide +kernel) (by decide +kernel), wg_mem (i := 6) (by decide +kernel) (by decide +kernel), ⟨by decide +kernel, by decide +kernel⟩, by decide +kernel, by decide, by decide +kernel⟩, wg_mem (i := 108) (by decide +kernel) (by decide +kernel), rfl, rfl⟩
abbrev mX0_setButter : Md := (yX0_setButter, cX0_setButter, 4, none, 0, 0)
theorem okX0_setButter : okV mX0_setButter 3 := ⟨⟨wg_mem (i := 585) (by decide +kernel) (by decide +kernel), wg_mem (i := 6) (by decide +kernel) (by decide +kernel), ⟨by decide +kernel, by decide +kernel⟩, by decide +kernel, by decide, by decide +kernel⟩, wg_mem (i := 584) (by decide +kernel) (by decide +kernel), wg_memp (i := 57) (by decide +kernel) (by decide +kernel)⟩
abbrev mX0_butterOf : Md := (yX0_butterOf, cX0_butterOf, 3, (some .int), 0, 0)
theorem okX0_butterOf : okV mX0_butterOf 2 := ⟨⟨wg_mem (i := 600) (by decide +kernel) (by decide +kernel), wg_mem (i := 6) (by decide +kernel) (by decide +kernel), ⟨by decide +kernel, by decide +kernel⟩, by decide +kernel, by decide, by decide +kernel⟩, wg_mem (i := 599) (by decide +kernel) (by decide +kernel), wg_memp (i := 60) (by decide +kernel) (by decide +kernel)⟩
abbrev mX0_mateOf : Md := (yX0_mateOf, cX0_mateOf, 2, (some .int), 0, 0)
theorem okX0_mateOf : okV mX0_mateOf 1 := ⟨⟨wg_mem (i := 615) (by decide +kernel) (by decide +kernel), wg_mem (i := 6) (by decide +kernel) (by decide +kernel), ⟨by decide +kernel, by decide +kernel⟩, by decide +kernel, by decide, by decide +kernel⟩, wg_mem (i := 614) (by decide +kernel) (by decide +kernel), wg_memp (i := 63) (by decide +kernel) (by decide +kernel)⟩
abbrev mX0_hasNow : Md := (yX0_hasNow, cX0_hasNow, 2, (some .int), 0, 0)
theorem okX0_hasNow : okV mX0_hasNow 1 := ⟨⟨wg_mem (i := 628) (by decide +kernel) (by decide +kernel), wg_mem (i := 6) (by decide +kernel) (by decide +kernel), ⟨by decide +kernel, by decide +kernel⟩, by decide +kernel, by decide, by decide +kernel⟩, wg_mem (i := 627) (by decide +kernel) (by decide +kernel), wg_memp (i := 65) (by decide +kernel) (by decide +kernel)⟩
abbrev mX0_sum : Md := (yX0_sum, cX0_sum, 2, (some .int), 0, 0)
theorem okX0_sum : okV mX0_sum 1 := ⟨⟨wg_mem (i := 611) (by decide +kernel) (by decide +kernel), wg_mem (i := 6) (by decide +kernel) (by decide +kernel), ⟨by decide +kernel, by decide +kernel⟩, by decide +kernel, by decide, by decide +kernel⟩, wg_mem (i := 610) (by decide +kernel) (by decide +kernel), wg_memp (i := 62) (by decide +kernel) (by decide +kernel)⟩
abbrev mX0_solve : Md := (yX0_solve, cX0_solve, 3, none, 0, 0)
theorem okX0_solve : okV mX0_solve 1 := ⟨⟨wg_mem (i := 590) (by decide +kernel) (by decide +kernel), wg_mem (i := 6) (by decide +kernel) (by decide +kernel), ⟨by decide +kernel, by decide +kernel⟩, by decide +kernel, by decide, by decide +kernel⟩, wg_mem (i := 589) (by decide +kernel) (by decide +kernel), wg_memp (i := 58) (by decide +kernel) (by decide +kernel)⟩
abbrev mX0_seatLowest : Md := (yX0_seatLowest, cX0_seatLowest, 8, none, 0, 0)
theorem okX0_seatLowest : okV mX0_seatLowest 1 := ⟨⟨wg_mem (i := 595) (by decide +kernel) (by decide +kernel), wg_mem (i := 6) (by decide +kernel) (by decide +kernel), ⟨by decide +kernel, by decide +kernel⟩, by decide +kernel, by decide, by decide +kernel⟩, wg_mem (i := 594) (by decide +kernel) (by decide +kernel), wg_memp (i := 59) (by decide +kernel) (by decide +kernel)⟩
abbrev mX0_readMates : Md := (yX0_readMates, cX0_readMates, 5, none, 0, 0)
theorem okX0_readMates : okV mX0_readMates 1 := ⟨⟨wg_mem (i := 607) (by decide +kernel) (by decide +kernel), wg_mem (i := 6) (by decide +kernel) (by decide +kernel), ⟨by decide +kernel, by decide +kernel⟩, by decide +kernel, by decide, by decide +kernel⟩, wg_mem (i := 606) (by decide +kernel) (by decide +kernel), wg_memp (i := 61) (by decide +kernel) (by decide +kernel)⟩
abbrev mX1_init : Md := (yX1_init, cX1_init, 3, none, 17, 136)
theorem okX1_init : okI mX1_init 1 := ⟨⟨wg_mem (i := 90) (by decide +kernel) (by decide +kernel), wg_mem (i := 4) (by decide +kernel) (by decide +kernel), ⟨by decide +kernel, by decide +kernel⟩, by decide +kernel, by decide, by decide +kernel⟩, wg_mem (i := 89) (by decide +kernel) (by decide +kernel), rfl, rfl⟩
abbrev mX1_size : Md := (yX1_size, cX1_size, 1, (some .int), 0, 0)
theorem okX1_size : okV mX1_size 0 := ⟨⟨wg_mem (i := 539) (by decide +kernel) (by decide +kernel), wg_mem (i := 4) (by decide +kernel) (by decide +kernel), ⟨by decide +kernel, by decide +kernel⟩, by decide +kernel, by decide, by decide +kernel⟩, wg_mem (i := 538) (by decide +kernel) (by decide +kernel), wg_memp (i := 51) (by decide +kernel) (by decide +kernel)⟩
abbrev mX1_isFull : Md := (yX1_isFull, cX1_isFull, 1, (some .boolean), 0, 0)
theorem okX1_isFull : okV mX1_isFull 0 := ⟨⟨wg_mem (i := 446) (by decide +kernel) (by decide +kernel), wg_mem (i := 4) (by decide +kernel) (by decide +kernel), ⟨by decide +kernel, by decide +kernel⟩, by decide +kernel, by decide, by decide +kernel⟩, wg_mem (i := 445) (by decide +kernel) (by decide +kernel), wg_memp (i := 38) (by decide +kernel) (by decide +kernel)⟩
abbrev mX1_clear : Md := (yX1_clear, cX1_clear, 1, none, 0, 0)
theorem okX1_clear : okV mX1_clear 0 := ⟨⟨wg_mem (i := 315) (by decide +kernel) (by decide +kernel), wg_mem (i := 4) (by decide +kernel) (by decide +kernel), ⟨by decide +kernel, by decide +kernel⟩, by decide +kernel, by decide, by decide +kernel⟩, wg_mem (i := 314) (by decide +kernel) (by decide +kernel), wg_memp (i := 21) (by decide +kernel) (by decide +kernel)⟩
abbrev mX1_push : Md := (yX1_push, cX1_push, 2, none, 0, 0)
theorem okX1_push : okV mX1_push 1 := ⟨⟨wg_mem (i := 442) (by decide +kernel) (by decide +kernel), wg_mem (i := 4) (by decide +kernel) (by decide +kernel), ⟨by decide +kernel, by decide +kernel⟩, by decide +kernel, by decide, by decide +kernel⟩, wg_mem (i := 441) (by decide +kernel) (by decide +kernel), wg_memp (i := 37) (by decide +kernel) (by decide +kernel)⟩
abbrev mX1_popInto : Md := (yX1_popInto, cX1_popInto, 2, (some .boolean), 0, 0)
theorem okX1_popInto : okV mX1_popInto 1 := ⟨⟨wg_mem (i := 535) (by decide +kernel) (by decide +kernel), wg_mem (i := 4) (by decide +kernel) (by decide +kernel), ⟨by decide +kernel, by decide +kernel⟩, by decide +kernel, by decide, by decide +kernel⟩, wg_mem (i := 534) (by decide +kernel) (by decide +kernel), wg_memp (i := 50) (by decide +kernel) (by decide +kernel)⟩
abbrev mX1_dropOldest : Md := (yX1_dropOldest, cX1_dropOldest, 3, none, 0, 0)
theorem okX1_dropOldest : okV mX1_dropOldest 0 := ⟨⟨wg_mem (i := 450) (by decide +kernel) (by decide +kernel), wg_mem (i := 4) (by decide +kernel) (by decide +kernel), ⟨by decide +kernel, by decide +kernel⟩, by decide +kernel, by decide, by decide +kernel⟩, wg_mem (i := 449) (by decide +kernel) (by decide +kernel), wg_memp (i := 39) (by decide +kernel) (by decide +kernel)⟩
abbrev mX1_isState : Md := (yX1_isState, cX1_isState, 2, (some .boolean), 0, 0)
theorem okX1_isState : okV mX1_isState 1 := ⟨⟨wg_mem (i := 454) (by decide +kernel) (by decide +kernel), wg_mem (i := 4) (by decide +kernel) (by decide +kernel), ⟨by decide +kernel, by decide +kernel⟩, by decide +kernel, by decide, by decide +kernel⟩, wg_mem (i := 453) (by decide +kernel) (by decide +kernel), wg_memp (i := 40) (by decide +kernel) (by decide +kernel)⟩
abbrev mX2_init : Md := (yX2_init, cX2_init, 1, none, 1, 6)
theorem okX2_init : okI mX2_init 0 := ⟨⟨wg_mem (i := 43) (by decide +kernel) (by decide +kernel), wg_mem (i := 3) (by decide +kernel) (by decide +kernel), ⟨by decide +kernel, by decide +kernel⟩, by decide +kernel, by decide, by decide +kernel⟩, wg_mem (i := 42) (by decide +kernel) (by decide +kernel), rfl, rfl⟩
abbrev mX2_startIn : Md := (yX2_startIn, cX2_startIn, 3, none, 0, 0)
theorem okX2_startIn : okV mX2_startIn 1 := ⟨⟨wg_mem (i := 302) (by decide +kernel) (by decide +kernel), wg_mem (i := 3) (by decide +kernel) (by decide +kernel), ⟨by decide +kernel, by decide +kernel⟩, by decide +kernel, by decide, by decide +kernel⟩, wg_mem (i := 301) (by decide +kernel) (by decide +kernel), wg_memp (i := 18) (by decide +kernel) (by decide +kernel)⟩
abbrev mX2_copyFrom : Md := (yX2_copyFrom, cX2_copyFrom, 3, none, 0, 0)
theorem okX2_copyFrom : okV mX2_copyFrom 1 := ⟨⟨wg_mem (i := 458) (by decide +kernel) (by decide +kernel), wg_mem (i := 3) (by decide +kernel) (by decide +kernel), ⟨by decide +kernel, by decide +kernel⟩, by decide +kernel, by decide, by decide +kernel⟩, wg_mem (i := 457) (by decide +kernel) (by decide +kernel), wg_memp (i := 41) (by decide +kernel) (by decide +kernel)⟩
abbrev mX2_anyoneSits : Md := (yX2_anyoneSits, cX2_anyoneSits, 1, (some .boolean), 0, 0)
theorem okX2_anyoneSits : okV mX2_anyoneSits 0 := ⟨⟨wg_mem (i := 388) (by decide +kernel) (by decide +kernel), wg_mem (i := 3) (by decide +kernel) (by decide +kernel), ⟨by decide +kernel, by decide +kernel⟩, by decide +kernel, by decide, by decide +kernel⟩, wg_mem (i := 387) (by decide +kernel) (by decide +kernel), wg_memp (i := 27) (by decide +kernel) (by decide +kernel)⟩
abbrev mX2_isSeated : Md := (yX2_isSeated, cX2_isSeated, 2, (some .boolean), 0, 0)
theorem okX2_isSeated : okV mX2_isSeated 1 := ⟨⟨wg_mem (i := 384) (by decide +kernel) (by decide +kernel), wg_mem (i := 3) (by decide +kernel) (by decide +kernel), ⟨by decide +kernel, by decide +kernel⟩, by decide +kernel, by decide, by decide +kernel⟩, wg_mem (i := 383) (by decide +kernel) (by decide +kernel), wg_memp (i := 26) (by decide +kernel) (by decide +kernel)⟩
abbrev mX2_isTelling : Md := (yX2_isTelling, cX2_isTelling, 1, (some .boolean), 0, 0)
theorem okX2_isTelling : okV mX2_isTelling 0 := ⟨⟨wg_mem (i := 426) (by decide +kernel) (by decide +kernel), wg_mem (i := 3) (by decide +kernel) (by decide +kernel), ⟨by decide +kernel, by decide +kernel⟩, by decide +kernel, by decide, by decide +kernel⟩, wg_mem (i := 425) (by decide +kernel) (by decide +kernel), wg_memp (i := 34) (by decide +kernel) (by decide +kernel)⟩
abbrev mX2_isHushed : Md := (yX2_isHushed, cX2_isHushed, 2, (some .boolean), 0, 0)
theorem okX2_isHushed : okV mX2_isHushed 1 := ⟨⟨wg_mem (i := 412) (by decide +kernel) (by decide +kernel), wg_mem (i := 3) (by decide +kernel) (by decide +kernel), ⟨by decide +kernel, by decide +kernel⟩, by decide +kernel, by decide, by decide +kernel⟩, wg_mem (i := 411) (by decide +kernel) (by decide +kernel), wg_memp (i := 32) (by decide +kernel) (by decide +kernel)⟩
abbrev mX2_canHush : Md := (yX2_canHush, cX2_canHush, 2, (some .boolean), 0, 0)
theorem okX2_canHush : okV mX2_canHush 1 := ⟨⟨wg_mem (i := 525) (by decide +kernel) (by decide +kernel), wg_mem (i := 3) (by decide +kernel) (by decide +kernel), ⟨by decide +kernel, by decide +kernel⟩, by decide +kernel, by decide, by decide +kernel⟩, wg_mem (i := 524) (by decide +kernel) (by decide +kernel), wg_memp (i := 49) (by decide +kernel) (by decide +kernel)⟩
abbrev mX2_knownBy : Md := (yX2_knownBy, cX2_knownBy, 2, (some .int), 0, 0)
theorem okX2_knownBy : okV mX2_knownBy 1 := ⟨⟨wg_mem (i := 380) (by decide +kernel) (by decide +kernel), wg_mem (i := 3) (by decide +kernel) (by decide +kernel), ⟨by decide +kernel, by decide +kernel⟩, by decide +kernel, by decide, by decide +kernel⟩, wg_mem (i := 379) (by decide +kernel) (by decide +kernel), wg_memp (i := 25) (by decide +kernel) (by decide +kernel)⟩
abbrev mX2_knownByAll : Md := (yX2_knownByAll, cX2_knownByAll, 3, (some .int), 0, 0)
theorem okX2_knownByAll : okV mX2_knownByAll 0 := ⟨⟨wg_mem (i := 693) (by decide +kernel) (by decide +kernel), wg_mem (i := 3) (by decide +kernel) (by decide +kernel), ⟨by decide +kernel, by decide +kernel⟩, by decide +kernel, by decide, by decide +kernel⟩, wg_mem (i := 692) (by decide +kernel) (by decide +kernel), wg_memp (i := 71) (by decide +kernel) (by decide +kernel)⟩
abbrev mX2_knowersOf : Md := (yX2_knowersOf, cX2_knowersOf, 4, (some .int), 0, 0)
theorem okX2_knowersOf : okV mX2_knowersOf 1 := ⟨⟨wg_mem (i := 417) (by decide +kernel) (by decide +kernel), wg_mem (i := 3) (by decide +kernel) (by decide +kernel), ⟨by decide +kernel, by decide +kernel⟩, by decide +kernel, by decide, by decide +kernel⟩, wg_mem (i := 416) (by decide +kernel) (by decide +kernel), wg_memp (i := 33) (by decide +kernel) (by decide +kernel)⟩
abbrev mX2_hearersOf : Md := (yX2_hearersOf, cX2_hearersOf, 6, (some .int), 0, 0)
theorem okX2_hearersOf : okV mX2_hearersOf 3 := ⟨⟨wg_mem (i := 637) (by decide +kernel) (by decide +kernel), wg_mem (i := 3) (by decide +kernel) (by decide +kernel), ⟨by decide +kernel, by decide +kernel⟩, by decide +kernel, by decide, by decide +kernel⟩, wg_mem (i := 636) (by decide +kernel) (by decide +kernel), wg_memp (i := 66) (by decide +kernel) (by decide +kernel)⟩
abbrev mX2_mayTell : Md := (yX2_mayTell, cX2_mayTell, 4, (some .int), 0, 0)
theorem okX2_mayTell : okV mX2_mayTell 3 := ⟨⟨wg_mem (i := 466) (by decide +kernel) (by decide +kernel), wg_mem (i := 3) (by decide +kernel) (by decide +kernel), ⟨by decide +kernel, by decide +kernel⟩, by decide +kernel, by decide, by decide +kernel⟩, wg_mem (i := 465) (by decide +kernel) (by decide +kernel), wg_memp (i := 43) (by decide +kernel) (by decide +kernel)⟩
abbrev mX2_seat : Md := (yX2_seat, cX2_seat, 3, none, 0, 0)
theorem okX2_seat : okV mX2_seat 2 := ⟨⟨wg_mem (i := 462) (by decide +kernel) (by decide +kernel), wg_mem (i := 3) (by decide +kernel) (by decide +kernel), ⟨by decide +kernel, by decide +kernel⟩, by decide +kernel, by decide, by decide +kernel⟩, wg_mem (i := 461) (by decide +kernel) (by decide +kernel), wg_memp (i := 42) (by decide +kernel) (by decide +kernel)⟩
abbrev mX2_standUp : Md := (yX2_standUp, cX2_standUp, 1, none, 0, 0)
theorem okX2_standUp : okV mX2_standUp 0 := ⟨⟨wg_mem (i := 307) (by decide +kernel) (by decide +kernel), wg_mem (i := 3) (by decide +kernel) (by decide +kernel), ⟨by decide +kernel, by decide +kernel⟩, by decide +kernel, by decide, by decide +kernel⟩, wg_mem (i := 306) (by decide +kernel) (by decide +kernel), wg_memp (i := 19) (by decide +kernel) (by decide +kernel)⟩
abbrev mX2_endTale : Md := (yX2_endTale, cX2_endTale, 1, none, 0, 0)
theorem okX2_endTale : okV mX2_endTale 0 := ⟨⟨wg_mem (i := 311) (by decide +kernel) (by decide +kernel), wg_mem (i := 3) (by decide +kernel) (by decide +kernel), ⟨by decide +kernel, by decide +kernel⟩, by decide +kernel, by decide, by decide +kernel⟩, wg_mem (i := 310) (by decide +kernel) (by decide +kernel), wg_memp (i := 20) (by decide +kernel) (by decide +kernel)⟩
abbrev mX2_listener : Md := (yX2_listener, cX2_listener, 1, (some .int), 0, 0)
theorem okX2_listener : okV mX2_listener 0 := ⟨⟨wg_mem (i := 497) (by decide +kernel) (by decide +kernel), wg_mem (i := 3) (by decide +kernel) (by decide +kernel), ⟨by decide +kernel, by decide +kernel⟩, by decide +kernel, by decide, by decide +kernel⟩, wg_mem (i := 496) (by decide +kernel) (by decide +kernel), wg_memp (i := 46) (by decide +kernel) (by decide +kernel)⟩
abbrev mX2_isSilent : Md := (yX2_isSilent, cX2_isSilent, 3, (some .boolean), 0, 0)
theorem okX2_isSilent : okV mX2_isSilent 1 := ⟨⟨wg_mem (i := 552) (by decide +kernel) (by decide +kernel), wg_mem (i := 3) (by decide +kernel) (by decide +kernel), ⟨by decide +kernel, by decide +kernel⟩, by decide +kernel, by decide, by decide +kernel⟩, wg_mem (i := 551) (by decide +kernel) (by decide +kernel), wg_memp (i := 52) (by decide +kernel) (by decide +kernel)⟩
abbrev mX2_goOn : Md := (yX2_goOn, cX2_goOn, 5, none, 0, 0)
theorem okX2_goOn : okV mX2_goOn 2 := ⟨⟨wg_mem (i := 488) (by decide +kernel) (by decide +kernel), wg_mem (i := 3) (by decide +kernel) (by decide +kernel), ⟨by decide +kernel, by decide +kernel⟩, by decide +kernel, by decide, by decide +kernel⟩, wg_mem (i := 487) (by decide +kernel) (by decide +kernel), wg_memp (i := 44) (by decide +kernel) (by decide +kernel)⟩
abbrev mX2_beginTale : Md := (yX2_beginTale, cX2_beginTale, 3, none, 0, 0)
theorem okX2_beginTale : okV mX2_beginTale 1 := ⟨⟨wg_mem (i := 492) (by decide +kernel) (by decide +kernel), wg_mem (i := 3) (by decide +kernel) (by decide +kernel), ⟨by decide +kernel, by decide +kernel⟩, by decide +kernel, by decide, by decide +kernel⟩, wg_mem (i := 491) (by decide +kernel) (by decide +kernel), wg_memp (i := 45) (by decide +kernel) (by decide +kernel)⟩
abbrev mX2_giveButter : Md := (yX2_giveButter, cX2_giveButter, 4, none, 0, 0)
theorem okX2_giveButter : okV mX2_giveButter 2 := ⟨⟨wg_mem (i := 510) (by decide +kernel) (by decide +kernel), wg_mem (i := 3) (by decide +kernel) (by decide +kernel), ⟨by decide +kernel, by decide +kernel⟩, by decide +kernel, by decide, by decide +kernel⟩, wg_mem (i := 509) (by decide +kernel) (by decide +kernel), wg_memp (i := 47) (by decide +kernel) (by decide +kernel)⟩
abbrev mX2_tellOut : Md := (yX2_tellOut, cX2_tellOut, 1, none, 0, 0)
theorem okX2_tellOut : okV mX2_tellOut 0 := ⟨⟨wg_mem (i := 516) (by decide +kernel) (by decide +kernel), wg_mem (i := 3) (by decide +kernel) (by decide +kernel), ⟨by decide +kernel, by decide +kernel⟩, by decide +kernel, by decide, by decide +kernel⟩, wg_mem (i := 515) (by decide +kernel) (by decide +kernel), wg_memp (i := 48) (by decide +kernel) (by decide +kernel)⟩
abbrev mX3_init : Md := (yX3_init, cX3_init, 1, none, 1, 200)
theorem okX3_init : okI mX3_init 0 := ⟨⟨wg_mem (i := 26) (by decide +kernel) (by decide +kernel), wg_mem (i := 2) (by decide +kernel) (by decide +kernel), ⟨by decide +kernel, by decide +kernel⟩, by decide +kernel, by decide, by decide +kernel⟩, wg_mem (i := 25) (by decide +kernel) (by decide +kernel), rfl, rfl⟩
abbrev mX3_size : Md := (yX3_size, cX3_size, 1, (some .int), 0, 0)
theorem okX3_size : okV mX3_size 0 := ⟨⟨wg_mem (i := 354) (by decide +kernel) (by decide +kernel), wg_mem (i := 2) (by decide +kernel) (by decide +kernel), ⟨by decide +kernel, by decide +kernel⟩, by decide +kernel, by decide, by decide +kernel⟩, wg_mem (i := 353) (by decide +kernel) (by decide +kernel), wg_memp (i := 23) (by decide +kernel) (by decide +kernel)⟩
abbrev mX3_empty : Md := (yX3_empty, cX3_empty, 1, none, 0, 0)
theorem okX3_empty : okV mX3_empty 0 := ⟨⟨wg_mem (i := 319) (by decide +kernel) (by decide +kernel), wg_mem (i := 2) (by decide +kernel) (by decide +kernel), ⟨by decide +kernel, by decide +kernel⟩, by decide +kernel, by decide, by decide +kernel⟩, wg_mem (i := 318) (by decide +kernel) (by decide +kernel), wg_memp (i := 22) (by decide +kernel) (by decide +kernel)⟩
abbrev mX3_add : Md := (yX3_add, cX3_add, 2, (some .boolean), 0, 0)
theorem okX3_add : okV mX3_add 1 := ⟨⟨wg_mem (i := 216) (by decide +kernel) (by decide +kernel), wg_mem (i := 2) (by decide +kernel) (by decide +kernel), ⟨by decide +kernel, by decide +kernel⟩, by decide +kernel, by decide, by decide +kernel⟩, wg_mem (i := 215) (by decide +kernel) (by decide +kernel), wg_memp (i := 0) (by decide +kernel) (by decide +kernel)⟩
abbrev mX3_readInto : Md := (yX3_readInto, cX3_readInto, 4, (some .int), 0, 0)
theorem okX3_readInto : okV mX3_readInto 1 := ⟨⟨wg_mem (i := 220) (by decide +kernel) (by decide +kernel), wg_mem (i := 2) (by decide +kernel) (by decide +kernel), ⟨by decide +kernel, by decide +kernel⟩, by decide +kernel, by decide, by decide +kernel⟩, wg_mem (i := 219) (by decide +kernel) (by decide +kernel), wg_memp (i := 1) (by decide +kernel) (by decide +kernel)⟩
abbrev mX3_readItem : Md := (yX3_readItem, cX3_readItem, 3, (some .boolean), 0, 0)
theorem okX3_readItem : okV mX3_readItem 1 := ⟨⟨wg_mem (i := 228) (by decide +kernel) (by decide +kernel), wg_mem (i := 2) (by decide +kernel) (by decide +kernel), ⟨by decide +kernel, by decide +kernel⟩, by decide +kernel, by decide, by decide +kernel⟩, wg_mem (i := 227) (by decide +kernel) (by decide +kernel), wg_memp (i := 3) (by decide +kernel) (by decide +kernel)⟩
abbrev mX3_readPerson : Md := (yX3_readPerson, cX3_readPerson, 3, (some .boolean), 0, 0)
theorem okX3_readPerson : okV mX3_readPerson 1 := ⟨⟨wg_mem (i := 236) (by decide +kernel) (by decide +kernel), wg_mem (i := 2) (by decide +kernel) (by decide +kernel), ⟨by decide +kernel, by decide +kernel⟩, by decide +kernel, by decide, by decide +kernel⟩, wg_mem (i := 235) (by decide +kernel) (by decide +kernel), wg_memp (i := 5) (by decide +kernel) (by decide +kernel)⟩
abbrev mX3_readFriends : Md := (yX3_readFriends, cX3_readFriends, 5, (some .boolean), 0, 0)
theorem okX3_readFriends : okV mX3_readFriends 1 := ⟨⟨wg_mem (i := 262) (by decide +kernel) (by decide +kernel), wg_mem (i := 2) (by decide +kernel) (by decide +kernel), ⟨by decide +kernel, by decide +kernel⟩, by decide +kernel, by decide, by decide +kernel⟩, wg_mem (i := 261) (by decide +kernel) (by decide +kernel), wg_memp (i := 10) (by decide +kernel) (by decide +kernel)⟩
abbrev mX3_readTale : Md := (yX3_readTale, cX3_readTale, 7, (some .boolean), 0, 0)
theorem okX3_readTale : okV mX3_readTale 1 := ⟨⟨wg_mem (i := 284) (by decide +kernel) (by decide +kernel), wg_mem (i := 2) (by decide +kernel) (by decide +kernel), ⟨by decide +kernel, by decide +kernel⟩, by decide +kernel, by decide, by decide +kernel⟩, wg_mem (i := 283) (by decide +kernel) (by decide +kernel), wg_memp (i := 14) (by decide +kernel) (by decide +kernel)⟩
abbrev mX3_readRow : Md := (yX3_readRow, cX3_readRow, 5, (some .int), 0, 0)
theorem okX3_readRow : okV mX3_readRow 1 := ⟨⟨wg_mem (i := 288) (by decide +kernel) (by decide +kernel), wg_mem (i := 2) (by decide +kernel) (by decide +kernel), ⟨by decide +kernel, by decide +kernel⟩, by decide +kernel, by decide, by decide +kernel⟩, wg_mem (i := 287) (by decide +kernel) (by decide +kernel), wg_memp (i := 15) (by decide +kernel) (by decide +kernel)⟩
abbrev mX3_readNumber : Md := (yX3_readNumber, cX3_readNumber, 3, (some .int), 0, 0)
theorem okX3_readNumber : okV mX3_readNumber 0 := ⟨⟨wg_mem (i := 240) (by decide +kernel) (by decide +kernel), wg_mem (i := 2) (by decide +kernel) (by decide +kernel), ⟨by decide +kernel, by decide +kernel⟩, by decide +kernel, by decide, by decide +kernel⟩, wg_mem (i := 239) (by decide +kernel) (by decide +kernel), wg_memp (i := 6) (by decide +kernel) (by decide +kernel)⟩
abbrev mX3_readFigure : Md := (yX3_readFigure, cX3_readFigure, 2, (some .int), 0, 0)
theorem okX3_readFigure : okV mX3_readFigure 0 := ⟨⟨wg_mem (i := 244) (by decide +kernel) (by decide +kernel), wg_mem (i := 2) (by decide +kernel) (by decide +kernel), ⟨by decide +kernel, by decide +kernel⟩, by decide +kernel, by decide, by decide +kernel⟩, wg_mem (i := 243) (by decide +kernel) (by decide +kernel), wg_memp (i := 7) (by decide +kernel) (by decide +kernel)⟩
abbrev mX3_accept : Md := (yX3_accept, cX3_accept, 2, (some .boolean), 0, 0)
theorem okX3_accept : okV mX3_accept 1 := ⟨⟨wg_mem (i := 248) (by decide +kernel) (by decide +kernel), wg_mem (i := 2) (by decide +kernel) (by decide +kernel), ⟨by decide +kernel, by decide +kernel⟩, by decide +kernel, by decide, by decide +kernel⟩, wg_mem (i := 247) (by decide +kernel) (by decide +kernel), wg_memp (i := 8) (by decide +kernel) (by decide +kernel)⟩
abbrev mX3_peek : Md := (yX3_peek, cX3_peek, 1, (some .int), 0, 0)
theorem okX3_peek : okV mX3_peek 0 := ⟨⟨wg_mem (i := 232) (by decide +kernel) (by decide +kernel), wg_mem (i := 2) (by decide +kernel) (by decide +kernel), ⟨by decide +kernel, by decide +kernel⟩, by decide +kernel, by decide, by decide +kernel⟩, wg_mem (i := 231) (by decide +kernel) (by decide +kernel), wg_memp (i := 4) (by decide +kernel) (by decide +kernel)⟩
abbrev mX4_init : Md := (yX4_init, cX4_init, 1, none, 7, 51)
theorem okX4_init : okI mX4_init 0 := ⟨⟨wg_mem (i := 128) (by decide +kernel) (by decide +kernel), wg_mem (i := 7) (by decide +kernel) (by decide +kernel), ⟨by decide +kernel, by decide +kernel⟩, by decide +kernel, by decide, by decide +kernel⟩, wg_mem (i := 127) (by decide +kernel) (by decide +kernel), rfl, rfl⟩
abbrev mX4_clear : Md := (yX4_clear, cX4_clear, 1, none, 0, 0)
theorem okX4_clear : okV mX4_clear 0 := ⟨⟨wg_mem (i := 224) (by decide +kernel) (by decide +kernel), wg_mem (i := 7) (by decide +kernel) (by decide +kernel), ⟨by decide +kernel, by decide +kernel⟩, by decide +kernel, by decide, by decide +kernel⟩, wg_mem (i := 223) (by decide +kernel) (by decide +kernel), wg_memp (i := 2) (by decide +kernel) (by decide +kernel)⟩
abbrev mX4_addPerson : Md := (yX4_addPerson, cX4_addPerson, 2, (some .boolean), 0, 0)
theorem okX4_addPerson : okV mX4_addPerson 1 := ⟨⟨wg_mem (i := 252) (by decide +kernel) (by decide +kernel), wg_mem (i := 7) (by decide +kernel) (by decide +kernel), ⟨by decide +kernel, by decide +kernel⟩, by decide +kernel, by decide, by decide +kernel⟩, wg_mem (i := 251) (by decide +kernel) (by decide +kernel), wg_memp (i := 9) (by decide +kernel) (by decide +kernel)⟩
abbrev mX4_addFriends : Md := (yX4_addFriends, cX4_addFriends, 3, (some .boolean), 0, 0)
theorem okX4_addFriends : okV mX4_addFriends 2 := ⟨⟨wg_mem (i := 266) (by decide +kernel) (by decide +kernel), wg_mem (i := 7) (by decide +kernel) (by decide +kernel), ⟨by decide +kernel, by decide +kernel⟩, by decide +kernel, by decide, by decide +kernel⟩, wg_mem (i := 265) (by decide +kernel) (by decide +kernel), wg_memp (i := 11) (by decide +kernel) (by decide +kernel)⟩
abbrev mX4_addTale : Md := (yX4_addTale, cX4_addTale, 6, (some .boolean), 0, 0)
theorem okX4_addTale : okV mX4_addTale 4 := ⟨⟨wg_mem (i := 294) (by decide +kernel) (by decide +kernel), wg_mem (i := 7) (by decide +kernel) (by decide +kernel), ⟨by decide +kernel, by decide +kernel⟩, by decide +kernel, by decide, by decide +kernel⟩, wg_mem (i := 293) (by decide +kernel) (by decide +kernel), wg_memp (i := 16) (by decide +kernel) (by decide +kernel)⟩
abbrev mX4_hasPerson : Md := (yX4_hasPerson, cX4_hasPerson, 2, (some .boolean), 0, 0)
theorem okX4_hasPerson : okV mX4_hasPerson 1 := ⟨⟨wg_mem (i := 270) (by decide +kernel) (by decide +kernel), wg_mem (i := 7) (by decide +kernel) (by decide +kernel), ⟨by decide +kernel, by decide +kernel⟩, by decide +kernel, by decide, by decide +kernel⟩, wg_mem (i := 269) (by decide +kernel) (by decide +kernel), wg_memp (i := 12) (by decide +kernel) (by decide +kernel)⟩
abbrev mX4_hasTale : Md := (yX4_hasTale, cX4_hasTale, 2, (some .boolean), 0, 0)
theorem okX4_hasTale : okV mX4_hasTale 1 := ⟨⟨wg_mem (i := 396) (by decide +kernel) (by decide +kernel), wg_mem (i := 7) (by decide +kernel) (by decide +kernel), ⟨by decide +kernel, by decide +kernel⟩, by decide +kernel, by decide, by decide +kernel⟩, wg_mem (i := 395) (by decide +kernel) (by decide +kernel), wg_memp (i := 28) (by decide +kernel) (by decide +kernel)⟩
abbrev mX4_kindOf : Md := (yX4_kindOf, cX4_kindOf, 2, (some .int), 0, 0)
theorem okX4_kindOf : okV mX4_kindOf 1 := ⟨⟨wg_mem (i := 375) (by decide +kernel) (by decide +kernel), wg_mem (i := 7) (by decide +kernel) (by decide +kernel), ⟨by decide +kernel, by decide +kernel⟩, by decide +kernel, by decide, by decide +kernel⟩, wg_mem (i := 374) (by decide +kernel) (by decide +kernel), wg_memp (i := 24) (by decide +kernel) (by decide +kernel)⟩
abbrev mX4_friendsOf : Md := (yX4_friendsOf, cX4_friendsOf, 2, (some .int), 0, 0)
theorem okX4_friendsOf : okV mX4_friendsOf 1 := ⟨⟨wg_mem (i := 274) (by decide +kernel) (by decide +kernel), wg_mem (i := 7) (by decide +kernel) (by decide +kernel), ⟨by decide +kernel, by decide +kernel⟩, by decide +kernel, by decide, by decide +kernel⟩, wg_mem (i := 273) (by decide +kernel) (by decide +kernel), wg_memp (i := 13) (by decide +kernel) (by decide +kernel)⟩
abbrev mX4_areFriends : Md := (yX4_areFriends, cX4_areFriends, 3, (some .boolean), 0, 0)
theorem okX4_areFriends : okV mX4_areFriends 2 := ⟨⟨wg_mem (i := 438) (by decide +kernel) (by decide +kernel), wg_mem (i := 7) (by decide +kernel) (by decide +kernel), ⟨by decide +kernel, by decide +kernel⟩, by decide +kernel, by decide, by decide +kernel⟩, wg_mem (i := 437) (by decide +kernel) (by decide +kernel), wg_memp (i := 36) (by decide +kernel) (by decide +kernel)⟩
abbrev mX4_friendships : Md := (yX4_friendships, cX4_friendships, 3, (some .int), 0, 0)
theorem okX4_friendships : okV mX4_friendships 0 := ⟨⟨wg_mem (i := 711) (by decide +kernel) (by decide +kernel), wg_mem (i := 7) (by decide +kernel) (by decide +kernel), ⟨by decide +kernel, by decide +kernel⟩, by decide +kernel, by decide, by decide +kernel⟩, wg_mem (i := 710) (by decide +kernel) (by decide +kernel), wg_memp (i := 72) (by decide +kernel) (by decide +kernel)⟩
abbrev mX4_personOf : Md := (yX4_personOf, cX4_personOf, 2, (some .int), 0, 0)
theorem okX4_personOf : okV mX4_personOf 1 := ⟨⟨wg_mem (i := 400) (by decide +kernel) (by decide +kernel), wg_mem (i := 7) (by decide +kernel) (by decide +kernel), ⟨by decide +kernel, by decide +kernel⟩, by decide +kernel, by decide, by decide +kernel⟩, wg_mem (i := 399) (by decide +kernel) (by decide +kernel), wg_memp (i := 29) (by decide +kernel) (by decide +kernel)⟩
abbrev mX4_illOf : Md := (yX4_illOf, cX4_illOf, 2, (some .int), 0, 0)
theorem okX4_illOf : okV mX4_illOf 1 := ⟨⟨wg_mem (i := 404) (by decide +kernel) (by decide +kernel), wg_mem (i := 7) (by decide +kernel) (by decide +kernel), ⟨by decide +kernel, by decide +kernel⟩, by decide +kernel, by decide, by decide +kernel⟩, wg_mem (i := 403) (by decide +kernel) (by decide +kernel), wg_memp (i := 30) (by decide +kernel) (by decide +kernel)⟩
abbrev mX4_minutesOf : Md := (yX4_minutesOf, cX4_minutesOf, 2, (some .int), 0, 0)
theorem okX4_minutesOf : okV mX4_minutesOf 1 := ⟨⟨wg_mem (i := 408) (by decide +kernel) (by decide +kernel), wg_mem (i := 7) (by decide +kernel) (by decide +kernel), ⟨by decide +kernel, by decide +kernel⟩, by decide +kernel, by decide, by decide +kernel⟩, wg_mem (i := 407) (by decide +kernel) (by decide +kernel), wg_memp (i := 31) (by decide +kernel) (by decide +kernel)⟩
abbrev mX4_illOfAll : Md := (yX4_illOfAll, cX4_illOfAll, 4, (some .int), 0, 0)
theorem okX4_illOfAll : okV mX4_illOfAll 1 := ⟨⟨wg_mem (i := 651) (by decide +kernel) (by decide +kernel), wg_mem (i := 7) (by decide +kernel) (by decide +kernel), ⟨by decide +kernel, by decide +kernel⟩, by decide +kernel, by decide, by decide +kernel⟩, wg_mem (i := 650) (by decide +kernel) (by decide +kernel), wg_memp (i := 67) (by decide +kernel) (by decide +kernel)⟩
abbrev mX5_init : Md := (yX5_init, cX5_init, 2, none, 63, 805)
theorem okX5_init : okI mX5_init 0 := ⟨⟨wg_mem (i := 18) (by decide +kernel) (by decide +kernel), wg_mem (i := 1) (by decide +kernel) (by decide +kernel), ⟨by decide +kernel, by decide +kernel⟩, by decide +kernel, by decide, by decide +kernel⟩, wg_mem (i := 17) (by decide +kernel) (by decide +kernel), rfl, rfl⟩
abbrev mX5_write : Md := (yX5_write, cX5_write, 2, (some .int), 0, 0)
theorem okX5_write : okV mX5_write 1 := ⟨⟨wg_mem (i := 349) (by decide +kernel) (by decide +kernel), wg_mem (i := 1) (by decide +kernel) (by decide +kernel), ⟨by decide +kernel, by decide +kernel⟩, by decide +kernel, by decide, by decide +kernel⟩, wg_mem (i := 347) (by decide +kernel) (by decide +kernel), wg_mem (i := 348) (by decide +kernel) (by decide +kernel)⟩
abbrev mX5_wipe : Md := (yX5_wipe, cX5_wipe, 2, (some .int), 0, 0)
theorem okX5_wipe : okV mX5_wipe 0 := ⟨⟨wg_mem (i := 358) (by decide +kernel) (by decide +kernel), wg_mem (i := 1) (by decide +kernel) (by decide +kernel), ⟨by decide +kernel, by decide +kernel⟩, by decide +kernel, by decide, by decide +kernel⟩, wg_mem (i := 356) (by decide +kernel) (by decide +kernel), wg_mem (i := 357) (by decide +kernel) (by decide +kernel)⟩
abbrev mX5_fault : Md := (yX5_fault, cX5_fault, 2, (some .int), 0, 0)
theorem okX5_fault : okV mX5_fault 0 := ⟨⟨wg_mem (i := 362) (by decide +kernel) (by decide +kernel), wg_mem (i := 1) (by decide +kernel) (by decide +kernel), ⟨by decide +kernel, by decide +kernel⟩, by decide +kernel, by decide, by decide +kernel⟩, wg_mem (i := 360) (by decide +kernel) (by decide +kernel), wg_mem (i := 361) (by decide +kernel) (by decide +kernel)⟩
abbrev mX5_lay : Md := (yX5_lay, cX5_lay, 1, (some .int), 0, 0)
theorem okX5_lay : okV mX5_lay 0 := ⟨⟨wg_mem (i := 366) (by decide +kernel) (by decide +kernel), wg_mem (i := 1) (by decide +kernel) (by decide +kernel), ⟨by decide +kernel, by decide +kernel⟩, by decide +kernel, by decide, by decide +kernel⟩, wg_mem (i := 364) (by decide +kernel) (by decide +kernel), wg_mem (i := 365) (by decide +kernel) (by decide +kernel)⟩
abbrev mX5_moveIn : Md := (yX5_moveIn, cX5_moveIn, 2, none, 0, 0)
theorem okX5_moveIn : okV mX5_moveIn 0 := ⟨⟨wg_mem (i := 298) (by decide +kernel) (by decide +kernel), wg_mem (i := 1) (by decide +kernel) (by decide +kernel), ⟨by decide +kernel, by decide +kernel⟩, by decide +kernel, by decide, by decide +kernel⟩, wg_mem (i := 297) (by decide +kernel) (by decide +kernel), wg_memp (i := 17) (by decide +kernel) (by decide +kernel)⟩
abbrev mX5_person : Md := (yX5_person, cX5_person, 3, (some .int), 0, 0)
theorem okX5_person : okV mX5_person 2 := ⟨⟨wg_mem (i := 370) (by decide +kernel) (by decide +kernel), wg_mem (i := 1) (by decide +kernel) (by decide +kernel), ⟨by decide +kernel, by decide +kernel⟩, by decide +kernel, by decide, by decide +kernel⟩, wg_mem (i := 368) (by decide +kernel) (by decide +kernel), wg_mem (i := 369) (by decide +kernel) (by decide +kernel)⟩
abbrev mX5_tale : Md := (yX5_tale, cX5_tale, 3, (some .int), 0, 0)
theorem okX5_tale : okV mX5_tale 2 := ⟨⟨wg_mem (i := 392) (by decide +kernel) (by decide +kernel), wg_mem (i := 1) (by decide +kernel) (by decide +kernel), ⟨by decide +kernel, by decide +kernel⟩, by decide +kernel, by decide, by decide +kernel⟩, wg_mem (i := 390) (by decide +kernel) (by decide +kernel), wg_mem (i := 391) (by decide +kernel) (by decide +kernel)⟩
abbrev mX5_churn : Md := (yX5_churn, cX5_churn, 2, (some .int), 0, 0)
theorem okX5_churn : okV mX5_churn 1 := ⟨⟨wg_mem (i := 421) (by decide +kernel) (by decide +kernel), wg_mem (i := 1) (by decide +kernel) (by decide +kernel), ⟨by decide +kernel, by decide +kernel⟩, by decide +kernel, by decide, by decide +kernel⟩, wg_mem (i := 419) (by decide +kernel) (by decide +kernel), wg_mem (i := 420) (by decide +kernel) (by decide +kernel)⟩
abbrev mX5_sit : Md := (yX5_sit, cX5_sit, 3, (some .int), 0, 0)
theorem okX5_sit : okV mX5_sit 2 := ⟨⟨wg_mem (i := 430) (by decide +kernel) (by decide +kernel), wg_mem (i := 1) (by decide +kernel) (by decide +kernel), ⟨by decide +kernel, by decide +kernel⟩, by decide +kernel, by decide, by decide +kernel⟩, wg_mem (i := 428) (by decide +kernel) (by decide +kernel), wg_mem (i := 429) (by decide +kernel) (by decide +kernel)⟩
abbrev mX5_stand : Md := (yX5_stand, cX5_stand, 2, (some .int), 0, 0)
theorem okX5_stand : okV mX5_stand 0 := ⟨⟨wg_mem (i := 470) (by decide +kernel) (by decide +kernel), wg_mem (i := 1) (by decide +kernel) (by decide +kernel), ⟨by decide +kernel, by decide +kernel⟩, by decide +kernel, by decide, by decide +kernel⟩, wg_mem (i := 468) (by decide +kernel) (by decide +kernel), wg_mem (i := 469) (by decide +kernel) (by decide +kernel)⟩
abbrev mX5_pass : Md := (yX5_pass, cX5_pass, 2, (some .int), 0, 0)
theorem okX5_pass : okV mX5_pass 1 := ⟨⟨wg_mem (i := 481) (by decide +kernel) (by decide +kernel), wg_mem (i := 1) (by decide +kernel) (by decide +kernel), ⟨by decide +kernel, by decide +kernel⟩, by decide +kernel, by decide, by decide +kernel⟩, wg_mem (i := 479) (by decide +kernel) (by decide +kernel), wg_mem (i := 480) (by decide +kernel) (by decide +kernel)⟩
abbrev mX5_hush : Md := (yX5_hush, cX5_hush, 2, (some .int), 0, 0)
theorem okX5_hush : okV mX5_hush 1 := ⟨⟨wg_mem (i := 521) (by decide +kernel) (by decide +kernel), wg_mem (i := 1) (by decide +kernel) (by decide +kernel), ⟨by decide +kernel, by decide +kernel⟩, by decide +kernel, by decide, by decide +kernel⟩, wg_mem (i := 519) (by decide +kernel) (by decide +kernel), wg_mem (i := 520) (by decide +kernel) (by decide +kernel)⟩
abbrev mX5_undo : Md := (yX5_undo, cX5_undo, 1, (some .int), 0, 0)
theorem okX5_undo : okV mX5_undo 0 := ⟨⟨wg_mem (i := 531) (by decide +kernel) (by decide +kernel), wg_mem (i := 1) (by decide +kernel) (by decide +kernel), ⟨by decide +kernel, by decide +kernel⟩, by decide +kernel, by decide, by decide +kernel⟩, wg_mem (i := 529) (by decide +kernel) (by decide +kernel), wg_mem (i := 530) (by decide +kernel) (by decide +kernel)⟩
abbrev mX5_comes : Md := (yX5_comes, cX5_comes, 3, (some .int), 0, 0)
theorem okX5_comes : okV mX5_comes 1 := ⟨⟨wg_mem (i := 543) (by decide +kernel) (by decide +kernel), wg_mem (i := 1) (by decide +kernel) (by decide +kernel), ⟨by decide +kernel, by decide +kernel⟩, by decide +kernel, by decide, by decide +kernel⟩, wg_mem (i := 541) (by decide +kernel) (by decide +kernel), wg_mem (i := 542) (by decide +kernel) (by decide +kernel)⟩
abbrev mX5_quiet : Md := (yX5_quiet, cX5_quiet, 2, (some .int), 0, 0)
theorem okX5_quiet : okV mX5_quiet 0 := ⟨⟨wg_mem (i := 548) (by decide +kernel) (by decide +kernel), wg_mem (i := 1) (by decide +kernel) (by decide +kernel), ⟨by decide +kernel, by decide +kernel⟩, by decide +kernel, by decide, by decide +kernel⟩, wg_mem (i := 546) (by decide +kernel) (by decide +kernel), wg_mem (i := 547) (by decide +kernel) (by decide +kernel)⟩
abbrev mX5_brings : Md := (yX5_brings, cX5_brings, 4, (some .int), 0, 0)
theorem okX5_brings : okV mX5_brings 3 := ⟨⟨wg_mem (i := 556) (by decide +kernel) (by decide +kernel), wg_mem (i := 1) (by decide +kernel) (by decide +kernel), ⟨by decide +kernel, by decide +kernel⟩, by decide +kernel, by decide, by decide +kernel⟩, wg_mem (i := 554) (by decide +kernel) (by decide +kernel), wg_mem (i := 555) (by decide +kernel) (by decide +kernel)⟩
abbrev mX5_wouldBring : Md := (yX5_wouldBring, cX5_wouldBring, 5, (some .int), 0, 0)
theorem okX5_wouldBring : okV mX5_wouldBring 4 := ⟨⟨wg_mem (i := 560) (by decide +kernel) (by decide +kernel), wg_mem (i := 1) (by decide +kernel) (by decide +kernel), ⟨by decide +kernel, by decide +kernel⟩, by decide +kernel, by decide, by decide +kernel⟩, wg_mem (i := 559) (by decide +kernel) (by decide +kernel), wg_memp (i := 53) (by decide +kernel) (by decide +kernel)⟩
abbrev mX5_best : Md := (yX5_best, cX5_best, 5, (some .int), 0, 0)
theorem okX5_best : okV mX5_best 2 := ⟨⟨wg_mem (i := 564) (by decide +kernel) (by decide +kernel), wg_mem (i := 1) (by decide +kernel) (by decide +kernel), ⟨by decide +kernel, by decide +kernel⟩, by decide +kernel, by decide, by decide +kernel⟩, wg_mem (i := 562) (by decide +kernel) (by decide +kernel), wg_mem (i := 563) (by decide +kernel) (by decide +kernel)⟩
abbrev mX5_bestButter : Md := (yX5_bestButter, cX5_bestButter, 6, (some .int), 0, 0)
theorem okX5_bestButter : okV mX5_bestButter 2 := ⟨⟨wg_mem (i := 568) (by decide +kernel) (by decide +kernel), wg_mem (i := 1) (by decide +kernel) (by decide +kernel), ⟨by decide +kernel, by decide +kernel⟩, by decide +kernel, by decide, by decide +kernel⟩, wg_mem (i := 567) (by decide +kernel) (by decide +kernel), wg_memp (i := 54) (by decide +kernel) (by decide +kernel)⟩
abbrev mX5_firstWho : Md := (yX5_firstWho, cX5_firstWho, 5, (some .int), 0, 0)
theorem okX5_firstWho : okV mX5_firstWho 2 := ⟨⟨wg_mem (i := 573) (by decide +kernel) (by decide +kernel), wg_mem (i := 1) (by decide +kernel) (by decide +kernel), ⟨by decide +kernel, by decide +kernel⟩, by decide +kernel, by decide, by decide +kernel⟩, wg_mem (i := 572) (by decide +kernel) (by decide +kernel), wg_memp (i := 55) (by decide +kernel) (by decide +kernel)⟩
abbrev mX5_howManyWho : Md := (yX5_howManyWho, cX5_howManyWho, 6, (some .int), 0, 0)
theorem okX5_howManyWho : okV mX5_howManyWho 2 := ⟨⟨wg_mem (i := 660) (by decide +kernel) (by decide +kernel), wg_mem (i := 1) (by decide +kernel) (by decide +kernel), ⟨by decide +kernel, by decide +kernel⟩, by decide +kernel, by decide, by decide +kernel⟩, wg_mem (i := 659) (by decide +kernel) (by decide +kernel), wg_memp (i := 68) (by decide +kernel) (by decide +kernel)⟩
abbrev mX5_twos : Md := (yX5_twos, cX5_twos, 4, (some .int), 0, 0)
theorem okX5_twos : okV mX5_twos 2 := ⟨⟨wg_mem (i := 577) (by decide +kernel) (by decide +kernel), wg_mem (i := 1) (by decide +kernel) (by decide +kernel), ⟨by decide +kernel, by decide +kernel⟩, by decide +kernel, by decide, by decide +kernel⟩, wg_mem (i := 575) (by decide +kernel) (by decide +kernel), wg_mem (i := 576) (by decide +kernel) (by decide +kernel)⟩
abbrev mX5_pairAll : Md := (yX5_pairAll, cX5_pairAll, 4, none, 0, 0)
theorem okX5_pairAll : okV mX5_pairAll 1 := ⟨⟨wg_mem (i := 581) (by decide +kernel) (by decide +kernel), wg_mem (i := 1) (by decide +kernel) (by decide +kernel), ⟨by decide +kernel, by decide +kernel⟩, by decide +kernel, by decide, by decide +kernel⟩, wg_mem (i := 580) (by decide +kernel) (by decide +kernel), wg_memp (i := 56) (by decide +kernel) (by decide +kernel)⟩
abbrev mX5_leave : Md := (yX5_leave, cX5_leave, 4, (some .int), 0, 0)
theorem okX5_leave : okV mX5_leave 1 := ⟨⟨wg_mem (i := 619) (by decide +kernel) (by decide +kernel), wg_mem (i := 1) (by decide +kernel) (by decide +kernel), ⟨by decide +kernel, by decide +kernel⟩, by decide +kernel, by decide, by decide +kernel⟩, wg_mem (i := 617) (by decide +kernel) (by decide +kernel), wg_mem (i := 618) (by decide +kernel) (by decide +kernel)⟩
abbrev mX5_wouldLeave : Md := (yX5_wouldLeave, cX5_wouldLeave, 4, (some .boolean), 0, 0)
theorem okX5_wouldLeave : okV mX5_wouldLeave 2 := ⟨⟨wg_mem (i := 623) (by decide +kernel) (by decide +kernel), wg_mem (i := 1) (by decide +kernel) (by decide +kernel), ⟨by decide +kernel, by decide +kernel⟩, by decide +kernel, by decide, by decide +kernel⟩, wg_mem (i := 622) (by decide +kernel) (by decide +kernel), wg_memp (i := 64) (by decide +kernel) (by decide +kernel)⟩
abbrev mX5_hears : Md := (yX5_hears, cX5_hears, 5, (some .int), 0, 0)
theorem okX5_hears : okV mX5_hears 2 := ⟨⟨wg_mem (i := 633) (by decide +kernel) (by decide +kernel), wg_mem (i := 1) (by decide +kernel) (by decide +kernel), ⟨by decide +kernel, by decide +kernel⟩, by decide +kernel, by decide, by decide +kernel⟩, wg_mem (i := 631) (by decide +kernel) (by decide +kernel), wg_mem (i := 632) (by decide +kernel) (by decide +kernel)⟩
abbrev mX5_cost : Md := (yX5_cost, cX5_cost, 7, (some .int), 0, 0)
theorem okX5_cost : okV mX5_cost 2 := ⟨⟨wg_mem (i := 643) (by decide +kernel) (by decide +kernel), wg_mem (i := 1) (by decide +kernel) (by decide +kernel), ⟨by decide +kernel, by decide +kernel⟩, by decide +kernel, by decide, by decide +kernel⟩, wg_mem (i := 641) (by decide +kernel) (by decide +kernel), wg_mem (i := 642) (by decide +kernel) (by decide +kernel)⟩
abbrev mX5_said : Md := (yX5_said, cX5_said, 9, (some .int), 0, 0)
theorem okX5_said : okV mX5_said 4 := ⟨⟨wg_mem (i := 647) (by decide +kernel) (by decide +kernel), wg_mem (i := 1) (by decide +kernel) (by decide +kernel), ⟨by decide +kernel, by decide +kernel⟩, by decide +kernel, by decide, by decide +kernel⟩, wg_mem (i := 645) (by decide +kernel) (by decide +kernel), wg_mem (i := 646) (by decide +kernel) (by decide +kernel)⟩
abbrev mX5_who : Md := (yX5_who, cX5_who, 4, (some .int), 0, 0)
theorem okX5_who : okV mX5_who 3 := ⟨⟨wg_mem (i := 656) (by decide +kernel) (by decide +kernel), wg_mem (i := 1) (by decide +kernel) (by decide +kernel), ⟨by decide +kernel, by decide +kernel⟩, by decide +kernel, by decide, by decide +kernel⟩, wg_mem (i := 654) (by decide +kernel) (by decide +kernel), wg_mem (i := 655) (by decide +kernel) (by decide +kernel)⟩
abbrev mX5_held : Md := (yX5_held, cX5_held, 15, (some .int), 0, 0)
theorem okX5_held : okV mX5_held 6 := ⟨⟨wg_mem (i := 664) (by decide +kernel) (by decide +kernel), wg_mem (i := 1) (by decide +kernel) (by decide +kernel), ⟨by decide +kernel, by decide +kernel⟩, by decide +kernel, by decide, by decide +kernel⟩, wg_mem (i := 662) (by decide +kernel) (by decide +kernel), wg_mem (i := 663) (by decide +kernel) (by decide +kernel)⟩
abbrev mX5_day : Md := (yX5_day, cX5_day, 5, (some .int), 0, 0)
theorem okX5_day : okV mX5_day 3 := ⟨⟨wg_mem (i := 675) (by decide +kernel) (by decide +kernel), wg_mem (i := 1) (by decide +kernel) (by decide +kernel), ⟨by decide +kernel, by decide +kernel⟩, by decide +kernel, by decide, by decide +kernel⟩, wg_mem (i := 673) (by decide +kernel) (by decide +kernel), wg_mem (i := 674) (by decide +kernel) (by decide +kernel)⟩
abbrev mX5_draw : Md := (yX5_draw, cX5_draw, 4, (some .int), 0, 0)
theorem okX5_draw : okS mX5_draw 2 := ⟨⟨wg_mem (i := 678) (by decide +kernel) (by decide +kernel), wg_mem (i := 1) (by decide +kernel) (by decide +kernel), ⟨by decide +kernel, by decide +kernel⟩, by decide +kernel, by decide, by decide +kernel⟩, wg_mem (i := 677) (by decide +kernel) (by decide +kernel)⟩
abbrev mX5_actByDraw : Md := (yX5_actByDraw, cX5_actByDraw, 3, none, 0, 0)
theorem okX5_actByDraw : okV mX5_actByDraw 1 := ⟨⟨wg_mem (i := 685) (by decide +kernel) (by decide +kernel), wg_mem (i := 1) (by decide +kernel) (by decide +kernel), ⟨by decide +kernel, by decide +kernel⟩, by decide +kernel, by decide, by decide +kernel⟩, wg_mem (i := 684) (by decide +kernel) (by decide +kernel), wg_memp (i := 69) (by decide +kernel) (by decide +kernel)⟩
abbrev mX5_seatByDraw : Md := (yX5_seatByDraw, cX5_seatByDraw, 4, none, 0, 0)
theorem okX5_seatByDraw : okV mX5_seatByDraw 1 := ⟨⟨wg_mem (i := 689) (by decide +kernel) (by decide +kernel), wg_mem (i := 1) (by decide +kernel) (by decide +kernel), ⟨by decide +kernel, by decide +kernel⟩, by decide +kernel, by decide, by decide +kernel⟩, wg_mem (i := 688) (by decide +kernel) (by decide +kernel), wg_memp (i := 70) (by decide +kernel) (by decide +kernel)⟩
abbrev mX5_keep : Md := (yX5_keep, cX5_keep, 1, (some .int), 0, 0)
theorem okX5_keep : okV mX5_keep 0 := ⟨⟨wg_mem (i := 698) (by decide +kernel) (by decide +kernel), wg_mem (i := 1) (by decide +kernel) (by decide +kernel), ⟨by decide +kernel, by decide +kernel⟩, by decide +kernel, by decide, by decide +kernel⟩, wg_mem (i := 696) (by decide +kernel) (by decide +kernel), wg_mem (i := 697) (by decide +kernel) (by decide +kernel)⟩
abbrev mX5_back : Md := (yX5_back, cX5_back, 1, (some .int), 0, 0)
theorem okX5_back : okV mX5_back 0 := ⟨⟨wg_mem (i := 703) (by decide +kernel) (by decide +kernel), wg_mem (i := 1) (by decide +kernel) (by decide +kernel), ⟨by decide +kernel, by decide +kernel⟩, by decide +kernel, by decide, by decide +kernel⟩, wg_mem (i := 701) (by decide +kernel) (by decide +kernel), wg_mem (i := 702) (by decide +kernel) (by decide +kernel)⟩
abbrev mX5_count : Md := (yX5_count, cX5_count, 2, (some .int), 0, 0)
theorem okX5_count : okV mX5_count 1 := ⟨⟨wg_mem (i := 707) (by decide +kernel) (by decide +kernel), wg_mem (i := 1) (by decide +kernel) (by decide +kernel), ⟨by decide +kernel, by decide +kernel⟩, by decide +kernel, by decide, by decide +kernel⟩, wg_mem (i := 705) (by decide +kernel) (by decide +kernel), wg_mem (i := 706) (by decide +kernel) (by decide +kernel)⟩
abbrev mX5_areTwo : Md := (yX5_areTwo, cX5_areTwo, 3, (some .boolean), 0, 0)
theorem okX5_areTwo : okV mX5_areTwo 2 := ⟨⟨wg_mem (i := 434) (by decide +kernel) (by decide +kernel), wg_mem (i := 1) (by decide +kernel) (by decide +kernel), ⟨by decide +kernel, by decide +kernel⟩, by decide +kernel, by decide, by decide +kernel⟩, wg_mem (i := 433) (by decide +kernel) (by decide +kernel), wg_memp (i := 35) (by decide +kernel) (by decide +kernel)⟩
abbrev mX5_isSpan : Md := (yX5_isSpan, cX5_isSpan, 1, (some .boolean), 0, 0)
theorem okX5_isSpan : okS mX5_isSpan 1 := ⟨⟨wg_mem (i := 484) (by decide +kernel) (by decide +kernel), wg_mem (i := 1) (by decide +kernel) (by decide +kernel), ⟨by decide +kernel, by decide +kernel⟩, by decide +kernel, by decide, by decide +kernel⟩, wg_mem (i := 483) (by decide +kernel) (by decide +kernel)⟩
abbrev mX5_isWithin : Md := (yX5_isWithin, cX5_isWithin, 3, (some .boolean), 0, 0)
theorem okX5_isWithin : okS mX5_isWithin 3 := ⟨⟨wg_mem (i := 255) (by decide +kernel) (by decide +kernel), wg_mem (i := 1) (by decide +kernel) (by decide +kernel), ⟨by decide +kernel, by decide +kernel⟩, by decide +kernel, by decide, by decide +kernel⟩, wg_mem (i := 254) (by decide +kernel) (by decide +kernel)⟩
abbrev mX5_at : Md := (yX5_at, cX5_at, 2, (some .int), 0, 0)
theorem okX5_at : okS mX5_at 2 := ⟨⟨wg_mem (i := 277) (by decide +kernel) (by decide +kernel), wg_mem (i := 1) (by decide +kernel) (by decide +kernel), ⟨by decide +kernel, by decide +kernel⟩, by decide +kernel, by decide, by decide +kernel⟩, wg_mem (i := 276) (by decide +kernel) (by decide +kernel)⟩
abbrev mX5_put : Md := (yX5_put, cX5_put, 3, none, 0, 0)
theorem okX5_put : okS mX5_put 3 := ⟨⟨wg_mem (i := 258) (by decide +kernel) (by decide +kernel), wg_mem (i := 1) (by decide +kernel) (by decide +kernel), ⟨by decide +kernel, by decide +kernel⟩, by decide +kernel, by decide, by decide +kernel⟩, wg_mem (i := 257) (by decide +kernel) (by decide +kernel)⟩
abbrev mX5_bit : Md := (yX5_bit, cX5_bit, 1, (some .int), 0, 0)
theorem okX5_bit : okS mX5_bit 1 := ⟨⟨wg_mem (i := 280) (by decide +kernel) (by decide +kernel), wg_mem (i := 1) (by decide +kernel) (by decide +kernel), ⟨by decide +kernel, by decide +kernel⟩, by decide +kernel, by decide, by decide +kernel⟩, wg_mem (i := 279) (by decide +kernel) (by decide +kernel)⟩
abbrev mX5_lowestOf : Md := (yX5_lowestOf, cX5_lowestOf, 1, (some .int), 0, 0)
theorem okX5_lowestOf : okS mX5_lowestOf 1 := ⟨⟨wg_mem (i := 501) (by decide +kernel) (by decide +kernel), wg_mem (i := 1) (by decide +kernel) (by decide +kernel), ⟨by decide +kernel, by decide +kernel⟩, by decide +kernel, by decide, by decide +kernel⟩, wg_mem (i := 500) (by decide +kernel) (by decide +kernel)⟩
abbrev mX5_power : Md := (yX5_power, cX5_power, 6, (some .long), 0, 0)
theorem okX5_power : okS mX5_power 2 := ⟨⟨wg_mem (i := 667) (by decide +kernel) (by decide +kernel), wg_mem (i := 1) (by decide +kernel) (by decide +kernel), ⟨by decide +kernel, by decide +kernel⟩, by decide +kernel, by decide, by decide +kernel⟩, wg_mem (i := 666) (by decide +kernel) (by decide +kernel)⟩
abbrev mX5_commonDivisor : Md := (yX5_commonDivisor, cX5_commonDivisor, 7, (some .long), 0, 0)
theorem okX5_commonDivisor : okS mX5_commonDivisor 2 := ⟨⟨wg_mem (i := 671) (by decide +kernel) (by decide +kernel), wg_mem (i := 1) (by decide +kernel) (by decide +kernel), ⟨by decide +kernel, by decide +kernel⟩, by decide +kernel, by decide, by decide +kernel⟩, wg_mem (i := 670) (by decide +kernel) (by decide +kernel)⟩
abbrev mX6_init : Md := (yX6_init, cX6_init, 3, none, 11, 570)
theorem okX6_init : okI mX6_init 0 := ⟨⟨wg_mem (i := 717) (by decide +kernel) (by decide +kernel), wg_mem (i := 12) (by decide +kernel) (by decide +kernel), ⟨by decide +kernel, by decide +kernel⟩, by decide +kernel, by decide, by decide +kernel⟩, wg_mem (i := 716) (by decide +kernel) (by decide +kernel), rfl, rfl⟩
abbrev mX6_in : Md := (yX6_in, cX6_in, 6, (some .boolean), 0, 0)
theorem okX6_in : okS mX6_in 3 := ⟨⟨wg_mem (i := 802) (by decide +kernel) (by decide +kernel), wg_mem (i := 12) (by decide +kernel) (by decide +kernel), ⟨by decide +kernel, by decide +kernel⟩, by decide +kernel, by decide, by decide +kernel⟩, wg_mem (i := 801) (by decide +kernel) (by decide +kernel)⟩
abbrev mX6_has : Md := (yX6_has, cX6_has, 2, (some .boolean), 0, 0)
theorem okX6_has : okS mX6_has 2 := ⟨⟨wg_mem (i := 850) (by decide +kernel) (by decide +kernel), wg_mem (i := 12) (by decide +kernel) (by decide +kernel), ⟨by decide +kernel, by decide +kernel⟩, by decide +kernel, by decide, by decide +kernel⟩, wg_mem (i := 849) (by decide +kernel) (by decide +kernel)⟩
abbrev mX6_bits : Md := (yX6_bits, cX6_bits, 3, (some .int), 0, 0)
theorem okX6_bits : okS mX6_bits 1 := ⟨⟨wg_mem (i := 922) (by decide +kernel) (by decide +kernel), wg_mem (i := 12) (by decide +kernel) (by decide +kernel), ⟨by decide +kernel, by decide +kernel⟩, by decide +kernel, by decide, by decide +kernel⟩, wg_mem (i := 921) (by decide +kernel) (by decide +kernel)⟩
abbrev mX6_copies : Md := (yX6_copies, cX6_copies, 6, none, 0, 0)
theorem okX6_copies : okS mX6_copies 5 := ⟨⟨wg_mem (i := 741) (by decide +kernel) (by decide +kernel), wg_mem (i := 12) (by decide +kernel) (by decide +kernel), ⟨by decide +kernel, by decide +kernel⟩, by decide +kernel, by decide, by decide +kernel⟩, wg_mem (i := 740) (by decide +kernel) (by decide +kernel)⟩
abbrev mX6_empties : Md := (yX6_empties, cX6_empties, 2, none, 0, 0)
theorem okX6_empties : okV mX6_empties 0 := ⟨⟨wg_mem (i := 722) (by decide +kernel) (by decide +kernel), wg_mem (i := 12) (by decide +kernel) (by decide +kernel), ⟨by decide +kernel, by decide +kernel⟩, by decide +kernel, by decide, by decide +kernel⟩, wg_mem (i := 721) (by decide +kernel) (by decide +kernel), wg_memp (i := 73) (by decide +kernel) (by decide +kernel)⟩
abbrev mX6_addsPerson : Md := (yX6_addsPerson, cX6_addsPerson, 2, none, 0, 0)
theorem okX6_addsPerson : okV mX6_addsPerson 1 := ⟨⟨wg_mem (i := 726) (by decide +kernel) (by decide +kernel), wg_mem (i := 12) (by decide +kernel) (by decide +kernel), ⟨by decide +kernel, by decide +kernel⟩, by decide +kernel, by decide, by decide +kernel⟩, wg_mem (i := 725) (by decide +kernel) (by decide +kernel), wg_memp (i := 74) (by decide +kernel) (by decide +kernel)⟩
abbrev mX6_befriends : Md := (yX6_befriends, cX6_befriends, 3, none, 0, 0)
theorem okX6_befriends : okV mX6_befriends 2 := ⟨⟨wg_mem (i := 730) (by decide +kernel) (by decide +kernel), wg_mem (i := 12) (by decide +kernel) (by decide +kernel), ⟨by decide +kernel, by decide +kernel⟩, by decide +kernel, by decide, by decide +kernel⟩, wg_mem (i := 729) (by decide +kernel) (by decide +kernel), wg_memp (i := 75) (by decide +kernel) (by decide +kernel)⟩
abbrev mX6_addsTale : Md := (yX6_addsTale, cX6_addsTale, 6, none, 0, 0)
theorem okX6_addsTale : okV mX6_addsTale 4 := ⟨⟨wg_mem (i := 734) (by decide +kernel) (by decide +kernel), wg_mem (i := 12) (by decide +kernel) (by decide +kernel), ⟨by decide +kernel, by decide +kernel⟩, by decide +kernel, by decide, by decide +kernel⟩, wg_mem (i := 733) (by decide +kernel) (by decide +kernel), wg_memp (i := 76) (by decide +kernel) (by decide +kernel)⟩
abbrev mX6_begins : Md := (yX6_begins, cX6_begins, 2, none, 0, 0)
theorem okX6_begins : okV mX6_begins 0 := ⟨⟨wg_mem (i := 738) (by decide +kernel) (by decide +kernel), wg_mem (i := 12) (by decide +kernel) (by decide +kernel), ⟨by decide +kernel, by decide +kernel⟩, by decide +kernel, by decide, by decide +kernel⟩, wg_mem (i := 737) (by decide +kernel) (by decide +kernel), wg_memp (i := 77) (by decide +kernel) (by decide +kernel)⟩
abbrev mX6_write : Md := (yX6_write, cX6_write, 2, (some .int), 0, 0)
theorem okX6_write : okV mX6_write 1 := ⟨⟨wg_mem (i := 797) (by decide +kernel) (by decide +kernel), wg_mem (i := 12) (by decide +kernel) (by decide +kernel), ⟨by decide +kernel, by decide +kernel⟩, by decide +kernel, by decide, by decide +kernel⟩, wg_mem (i := 795) (by decide +kernel) (by decide +kernel), wg_mem (i := 796) (by decide +kernel) (by decide +kernel)⟩
abbrev mX6_wipe : Md := (yX6_wipe, cX6_wipe, 2, (some .int), 0, 0)
theorem okX6_wipe : okV mX6_wipe 0 := ⟨⟨wg_mem (i := 806) (by decide +kernel) (by decide +kernel), wg_mem (i := 12) (by decide +kernel) (by decide +kernel), ⟨by decide +kernel, by decide +kernel⟩, by decide +kernel, by decide, by decide +kernel⟩, wg_mem (i := 804) (by decide +kernel) (by decide +kernel), wg_mem (i := 805) (by decide +kernel) (by decide +kernel)⟩
abbrev mX6_here : Md := (yX6_here, cX6_here, 1, (some .int), 0, 0)
theorem okX6_here : okV mX6_here 0 := ⟨⟨wg_mem (i := 822) (by decide +kernel) (by decide +kernel), wg_mem (i := 12) (by decide +kernel) (by decide +kernel), ⟨by decide +kernel, by decide +kernel⟩, by decide +kernel, by decide, by decide +kernel⟩, wg_mem (i := 821) (by decide +kernel) (by decide +kernel), wg_memp (i := 80) (by decide +kernel) (by decide +kernel)⟩
abbrev mX6_takes : Md := (yX6_takes, cX6_takes, 3, (some .boolean), 0, 0)
theorem okX6_takes : okV mX6_takes 1 := ⟨⟨wg_mem (i := 818) (by decide +kernel) (by decide +kernel), wg_mem (i := 12) (by decide +kernel) (by decide +kernel), ⟨by decide +kernel, by decide +kernel⟩, by decide +kernel, by decide, by decide +kernel⟩, wg_mem (i := 817) (by decide +kernel) (by decide +kernel), wg_memp (i := 79) (by decide +kernel) (by decide +kernel)⟩
abbrev mX6_isFigure : Md := (yX6_isFigure, cX6_isFigure, 1, (some .boolean), 0, 0)
theorem okX6_isFigure : okS mX6_isFigure 1 := ⟨⟨wg_mem (i := 833) (by decide +kernel) (by decide +kernel), wg_mem (i := 12) (by decide +kernel) (by decide +kernel), ⟨by decide +kernel, by decide +kernel⟩, by decide +kernel, by decide, by decide +kernel⟩, wg_mem (i := 832) (by decide +kernel) (by decide +kernel)⟩
abbrev mX6_number : Md := (yX6_number, cX6_number, 3, (some .boolean), 0, 0)
theorem okX6_number : okV mX6_number 2 := ⟨⟨wg_mem (i := 830) (by decide +kernel) (by decide +kernel), wg_mem (i := 12) (by decide +kernel) (by decide +kernel), ⟨by decide +kernel, by decide +kernel⟩, by decide +kernel, by decide, by decide +kernel⟩, wg_mem (i := 829) (by decide +kernel) (by decide +kernel), wg_memp (i := 82) (by decide +kernel) (by decide +kernel)⟩
abbrev mX6_isPerson : Md := (yX6_isPerson, cX6_isPerson, 1, (some .boolean), 0, 0)
theorem okX6_isPerson : okV mX6_isPerson 0 := ⟨⟨wg_mem (i := 826) (by decide +kernel) (by decide +kernel), wg_mem (i := 12) (by decide +kernel) (by decide +kernel), ⟨by decide +kernel, by decide +kernel⟩, by decide +kernel, by decide, by decide +kernel⟩, wg_mem (i := 825) (by decide +kernel) (by decide +kernel), wg_memp (i := 81) (by decide +kernel) (by decide +kernel)⟩
abbrev mX6_areFriends : Md := (yX6_areFriends, cX6_areFriends, 3, (some .boolean), 0, 0)
theorem okX6_areFriends : okV mX6_areFriends 0 := ⟨⟨wg_mem (i := 839) (by decide +kernel) (by decide +kernel), wg_mem (i := 12) (by decide +kernel) (by decide +kernel), ⟨by decide +kernel, by decide +kernel⟩, by decide +kernel, by decide, by decide +kernel⟩, wg_mem (i := 838) (by decide +kernel) (by decide +kernel), wg_memp (i := 83) (by decide +kernel) (by decide +kernel)⟩
abbrev mX6_row : Md := (yX6_row, cX6_row, 4, (some .int), 0, 0)
theorem okX6_row : okV mX6_row 1 := ⟨⟨wg_mem (i := 847) (by decide +kernel) (by decide +kernel), wg_mem (i := 12) (by decide +kernel) (by decide +kernel), ⟨by decide +kernel, by decide +kernel⟩, by decide +kernel, by decide, by decide +kernel⟩, wg_mem (i := 846) (by decide +kernel) (by decide +kernel), wg_memp (i := 85) (by decide +kernel) (by decide +kernel)⟩
abbrev mX6_isTale : Md := (yX6_isTale, cX6_isTale, 5, (some .boolean), 0, 0)
theorem okX6_isTale : okV mX6_isTale 0 := ⟨⟨wg_mem (i := 843) (by decide +kernel) (by decide +kernel), wg_mem (i := 12) (by decide +kernel) (by decide +kernel), ⟨by decide +kernel, by decide +kernel⟩, by decide +kernel, by decide, by decide +kernel⟩, wg_mem (i := 842) (by decide +kernel) (by decide +kernel), wg_memp (i := 84) (by decide +kernel) (by decide +kernel)⟩
abbrev mX6_isItem : Md := (yX6_isItem, cX6_isItem, 1, (some .boolean), 0, 0)
theorem okX6_isItem : okV mX6_isItem 0 := ⟨⟨wg_mem (i := 814) (by decide +kernel) (by decide +kernel), wg_mem (i := 12) (by decide +kernel) (by decide +kernel), ⟨by decide +kernel, by decide +kernel⟩, by decide +kernel, by decide, by decide +kernel⟩, wg_mem (i := 813) (by decide +kernel) (by decide +kernel), wg_memp (i := 78) (by decide +kernel) (by decide +kernel)⟩
abbrev mX6_fault : Md := (yX6_fault, cX6_fault, 2, (some .int), 0, 0)
theorem okX6_fault : okV mX6_fault 0 := ⟨⟨wg_mem (i := 810) (by decide +kernel) (by decide +kernel), wg_mem (i := 12) (by decide +kernel) (by decide +kernel), ⟨by decide +kernel, by decide +kernel⟩, by decide +kernel, by decide, by decide +kernel⟩, wg_mem (i := 808) (by decide +kernel) (by decide +kernel), wg_mem (i := 809) (by decide +kernel) (by decide +kernel)⟩
abbrev mX6_lay : Md := (yX6_lay, cX6_lay, 1, (some .int), 0, 0)
theorem okX6_lay : okV mX6_lay 0 := ⟨⟨wg_mem (i := 854) (by decide +kernel) (by decide +kernel), wg_mem (i := 12) (by decide +kernel) (by decide +kernel), ⟨by decide +kernel, by decide +kernel⟩, by decide +kernel, by decide, by decide +kernel⟩, wg_mem (i := 852) (by decide +kernel) (by decide +kernel), wg_mem (i := 853) (by decide +kernel) (by decide +kernel)⟩
abbrev mX6_isOne : Md := (yX6_isOne, cX6_isOne, 2, (some .boolean), 0, 0)
theorem okX6_isOne : okV mX6_isOne 1 := ⟨⟨wg_mem (i := 863) (by decide +kernel) (by decide +kernel), wg_mem (i := 12) (by decide +kernel) (by decide +kernel), ⟨by decide +kernel, by decide +kernel⟩, by decide +kernel, by decide, by decide +kernel⟩, wg_mem (i := 862) (by decide +kernel) (by decide +kernel), wg_memp (i := 86) (by decide +kernel) (by decide +kernel)⟩
abbrev mX6_isTaleOf : Md := (yX6_isTaleOf, cX6_isTaleOf, 2, (some .boolean), 0, 0)
theorem okX6_isTaleOf : okV mX6_isTaleOf 1 := ⟨⟨wg_mem (i := 879) (by decide +kernel) (by decide +kernel), wg_mem (i := 12) (by decide +kernel) (by decide +kernel), ⟨by decide +kernel, by decide +kernel⟩, by decide +kernel, by decide, by decide +kernel⟩, wg_mem (i := 878) (by decide +kernel) (by decide +kernel), wg_memp (i := 89) (by decide +kernel) (by decide +kernel)⟩
abbrev mX6_areTwo : Md := (yX6_areTwo, cX6_areTwo, 3, (some .boolean), 0, 0)
theorem okX6_areTwo : okV mX6_areTwo 2 := ⟨⟨wg_mem (i := 892) (by decide +kernel) (by decide +kernel), wg_mem (i := 12) (by decide +kernel) (by decide +kernel), ⟨by decide +kernel, by decide +kernel⟩, by decide +kernel, by decide, by decide +kernel⟩, wg_mem (i := 891) (by decide +kernel) (by decide +kernel), wg_memp (i := 90) (by decide +kernel) (by decide +kernel)⟩
abbrev mX6_likes : Md := (yX6_likes, cX6_likes, 3, (some .boolean), 0, 0)
theorem okX6_likes : okV mX6_likes 2 := ⟨⟨wg_mem (i := 896) (by decide +kernel) (by decide +kernel), wg_mem (i := 12) (by decide +kernel) (by decide +kernel), ⟨by decide +kernel, by decide +kernel⟩, by decide +kernel, by decide, by decide +kernel⟩, wg_mem (i := 895) (by decide +kernel) (by decide +kernel), wg_memp (i := 91) (by decide +kernel) (by decide +kernel)⟩
abbrev mX6_sits : Md := (yX6_sits, cX6_sits, 2, (some .boolean), 0, 0)
theorem okX6_sits : okV mX6_sits 1 := ⟨⟨wg_mem (i := 871) (by decide +kernel) (by decide +kernel), wg_mem (i := 12) (by decide +kernel) (by decide +kernel), ⟨by decide +kernel, by decide +kernel⟩, by decide +kernel, by decide, by decide +kernel⟩, wg_mem (i := 870) (by decide +kernel) (by decide +kernel), wg_memp (i := 88) (by decide +kernel) (by decide +kernel)⟩
abbrev mX6_knownBy : Md := (yX6_knownBy, cX6_knownBy, 4, (some .int), 0, 0)
theorem okX6_knownBy : okV mX6_knownBy 1 := ⟨⟨wg_mem (i := 867) (by decide +kernel) (by decide +kernel), wg_mem (i := 12) (by decide +kernel) (by decide +kernel), ⟨by decide +kernel, by decide +kernel⟩, by decide +kernel, by decide, by decide +kernel⟩, wg_mem (i := 866) (by decide +kernel) (by decide +kernel), wg_memp (i := 87) (by decide +kernel) (by decide +kernel)⟩
abbrev mX6_person : Md := (yX6_person, cX6_person, 3, (some .int), 0, 0)
theorem okX6_person : okV mX6_person 2 := ⟨⟨wg_mem (i := 859) (by decide +kernel) (by decide +kernel), wg_mem (i := 12) (by decide +kernel) (by decide +kernel), ⟨by decide +kernel, by decide +kernel⟩, by decide +kernel, by decide, by decide +kernel⟩, wg_mem (i := 857) (by decide +kernel) (by decide +kernel), wg_mem (i := 858) (by decide +kernel) (by decide +kernel)⟩
abbrev mX6_tale : Md := (yX6_tale, cX6_tale, 3, (some .int), 0, 0)
theorem okX6_tale : okV mX6_tale 2 := ⟨⟨wg_mem (i := 875) (by decide +kernel) (by decide +kernel), wg_mem (i := 12) (by decide +kernel) (by decide +kernel), ⟨by decide +kernel, by decide +kernel⟩, by decide +kernel, by decide, by decide +kernel⟩, wg_mem (i := 873) (by decide +kernel) (by decide +kernel), wg_mem (i := 874) (by decide +kernel) (by decide +kernel)⟩
abbrev mX6_churn : Md := (yX6_churn, cX6_churn, 2, (some .int), 0, 0)
theorem okX6_churn : okV mX6_churn 1 := ⟨⟨wg_mem (i := 883) (by decide +kernel) (by decide +kernel), wg_mem (i := 12) (by decide +kernel) (by decide +kernel), ⟨by decide +kernel, by decide +kernel⟩, by decide +kernel, by decide, by decide +kernel⟩, wg_mem (i := 881) (by decide +kernel) (by decide +kernel), wg_mem (i := 882) (by decide +kernel) (by decide +kernel)⟩
abbrev mX6_canTell : Md := (yX6_canTell, cX6_canTell, 5, (some .boolean), 0, 0)
theorem okX6_canTell : okV mX6_canTell 4 := ⟨⟨wg_mem (i := 915) (by decide +kernel) (by decide +kernel), wg_mem (i := 12) (by decide +kernel) (by decide +kernel), ⟨by decide +kernel, by decide +kernel⟩, by decide +kernel, by decide, by decide +kernel⟩, wg_mem (i := 914) (by decide +kernel) (by decide +kernel), wg_memp (i := 95) (by decide +kernel) (by decide +kernel)⟩
abbrev mX6_tellable : Md := (yX6_tellable, cX6_tellable, 7, (some .int), 0, 0)
theorem okX6_tellable : okV mX6_tellable 4 := ⟨⟨wg_mem (i := 911) (by decide +kernel) (by decide +kernel), wg_mem (i := 12) (by decide +kernel) (by decide +kernel), ⟨by decide +kernel, by decide +kernel⟩, by decide +kernel, by decide, by decide +kernel⟩, wg_mem (i := 910) (by decide +kernel) (by decide +kernel), wg_memp (i := 94) (by decide +kernel) (by decide +kernel)⟩
abbrev mX6_lowest : Md := (yX6_lowest, cX6_lowest, 2, (some .int), 0, 0)
theorem okX6_lowest : okS mX6_lowest 1 := ⟨⟨wg_mem (i := 941) (by decide +kernel) (by decide +kernel), wg_mem (i := 12) (by decide +kernel) (by decide +kernel), ⟨by decide +kernel, by decide +kernel⟩, by decide +kernel, by decide, by decide +kernel⟩, wg_mem (i := 940) (by decide +kernel) (by decide +kernel)⟩
abbrev mX6_otherOf : Md := (yX6_otherOf, cX6_otherOf, 2, (some .int), 0, 0)
theorem okX6_otherOf : okS mX6_otherOf 2 := ⟨⟨wg_mem (i := 938) (by decide +kernel) (by decide +kernel), wg_mem (i := 12) (by decide +kernel) (by decide +kernel), ⟨by decide +kernel, by decide +kernel⟩, by decide +kernel, by decide, by decide +kernel⟩, wg_mem (i := 937) (by decide +kernel) (by decide +kernel)⟩
abbrev mX6_isTold : Md := (yX6_isTold, cX6_isTold, 5, (some .boolean), 0, 0)
theorem okX6_isTold : okV mX6_isTold 1 := ⟨⟨wg_mem (i := 935) (by decide +kernel) (by decide +kernel), wg_mem (i := 12) (by decide +kernel) (by decide +kernel), ⟨by decide +kernel, by decide +kernel⟩, by decide +kernel, by decide, by decide +kernel⟩, wg_mem (i := 934) (by decide +kernel) (by decide +kernel), wg_memp (i := 97) (by decide +kernel) (by decide +kernel)⟩
abbrev mX6_minuteGoes : Md := (yX6_minuteGoes, cX6_minuteGoes, 3, none, 0, 0)
theorem okX6_minuteGoes : okV mX6_minuteGoes 1 := ⟨⟨wg_mem (i := 931) (by decide +kernel) (by decide +kernel), wg_mem (i := 12) (by decide +kernel) (by decide +kernel), ⟨by decide +kernel, by decide +kernel⟩, by decide +kernel, by decide, by decide +kernel⟩, wg_mem (i := 930) (by decide +kernel) (by decide +kernel), wg_memp (i := 96) (by decide +kernel) (by decide +kernel)⟩
abbrev mX6_sitsDown : Md := (yX6_sitsDown, cX6_sitsDown, 4, none, 0, 0)
theorem okX6_sitsDown : okV mX6_sitsDown 3 := ⟨⟨wg_mem (i := 904) (by decide +kernel) (by decide +kernel), wg_mem (i := 12) (by decide +kernel) (by decide +kernel), ⟨by decide +kernel, by decide +kernel⟩, by decide +kernel, by decide, by decide +kernel⟩, wg_mem (i := 903) (by decide +kernel) (by decide +kernel), wg_memp (i := 93) (by decide +kernel) (by decide +kernel)⟩
abbrev mX6_standsAnew : Md := (yX6_standsAnew, cX6_standsAnew, 1, none, 0, 0)
theorem okX6_standsAnew : okS mX6_standsAnew 1 := ⟨⟨wg_mem (i := 907) (by decide +kernel) (by decide +kernel), wg_mem (i := 12) (by decide +kernel) (by decide +kernel), ⟨by decide +kernel, by decide +kernel⟩, by decide +kernel, by decide, by decide +kernel⟩, wg_mem (i := 906) (by decide +kernel) (by decide +kernel)⟩
abbrev mX6_remember : Md := (yX6_remember, cX6_remember, 2, none, 0, 0)
theorem okX6_remember : okV mX6_remember 0 := ⟨⟨wg_mem (i := 900) (by decide +kernel) (by decide +kernel), wg_mem (i := 12) (by decide +kernel) (by decide +kernel), ⟨by decide +kernel, by decide +kernel⟩, by decide +kernel, by decide, by decide +kernel⟩, wg_mem (i := 899) (by decide +kernel) (by decide +kernel), wg_memp (i := 92) (by decide +kernel) (by decide +kernel)⟩
abbrev mX6_sit : Md := (yX6_sit, cX6_sit, 3, (some .int), 0, 0)
theorem okX6_sit : okV mX6_sit 2 := ⟨⟨wg_mem (i := 888) (by decide +kernel) (by decide +kernel), wg_mem (i := 12) (by decide +kernel) (by decide +kernel), ⟨by decide +kernel, by decide +kernel⟩, by decide +kernel, by decide, by decide +kernel⟩, wg_mem (i := 886) (by decide +kernel) (by decide +kernel), wg_mem (i := 887) (by decide +kernel) (by decide +kernel)⟩
abbrev mX6_stand : Md := (yX6_stand, cX6_stand, 2, (some .int), 0, 0)
theorem okX6_stand : okV mX6_stand 0 := ⟨⟨wg_mem (i := 919) (by decide +kernel) (by decide +kernel), wg_mem (i := 12) (by decide +kernel) (by decide +kernel), ⟨by decide +kernel, by decide +kernel⟩, by decide +kernel, by decide, by decide +kernel⟩, wg_mem (i := 917) (by decide +kernel) (by decide +kernel), wg_mem (i := 918) (by decide +kernel) (by decide +kernel)⟩
abbrev mX6_pass : Md := (yX6_pass, cX6_pass, 3, (some .int), 0, 0)
theorem okX6_pass : okV mX6_pass 1 := ⟨⟨wg_mem (i := 926) (by decide +kernel) (by decide +kernel), wg_mem (i := 12) (by decide +kernel) (by decide +kernel), ⟨by decide +kernel, by decide +kernel⟩, by decide +kernel, by decide, by decide +kernel⟩, wg_mem (i := 924) (by decide +kernel) (by decide +kernel), wg_mem (i := 925) (by decide +kernel) (by decide +kernel)⟩
abbrev mX6_mayHush : Md := (yX6_mayHush, cX6_mayHush, 3, (some .boolean), 0, 0)
theorem okX6_mayHush : okV mX6_mayHush 2 := ⟨⟨wg_mem (i := 949) (by decide +kernel) (by decide +kernel), wg_mem (i := 12) (by decide +kernel) (by decide +kernel), ⟨by decide +kernel, by decide +kernel⟩, by decide +kernel, by decide, by decide +kernel⟩, wg_mem (i := 948) (by decide +kernel) (by decide +kernel), wg_memp (i := 98) (by decide +kernel) (by decide +kernel)⟩
abbrev mX6_hush : Md := (yX6_hush, cX6_hush, 2, (some .int), 0, 0)
theorem okX6_hush : okV mX6_hush 1 := ⟨⟨wg_mem (i := 945) (by decide +kernel) (by decide +kernel), wg_mem (i := 12) (by decide +kernel) (by decide +kernel), ⟨by decide +kernel, by decide +kernel⟩, by decide +kernel, by decide, by decide +kernel⟩, wg_mem (i := 943) (by decide +kernel) (by decide +kernel), wg_mem (i := 944) (by decide +kernel) (by decide +kernel)⟩
abbrev mX6_undo : Md := (yX6_undo, cX6_undo, 1, (some .int), 0, 0)
theorem okX6_undo : okV mX6_undo 0 := ⟨⟨wg_mem (i := 953) (by decide +kernel) (by decide +kernel), wg_mem (i := 12) (by decide +kernel) (by decide +kernel), ⟨by decide +kernel, by decide +kernel⟩, by decide +kernel, by decide, by decide +kernel⟩, wg_mem (i := 951) (by decide +kernel) (by decide +kernel), wg_mem (i := 952) (by decide +kernel) (by decide +kernel)⟩
abbrev mX6_layAside : Md := (yX6_layAside, cX6_layAside, 1, none, 0, 0)
theorem okX6_layAside : okV mX6_layAside 0 := ⟨⟨wg_mem (i := 962) (by decide +kernel) (by decide +kernel), wg_mem (i := 12) (by decide +kernel) (by decide +kernel), ⟨by decide +kernel, by decide +kernel⟩, by decide +kernel, by decide, by decide +kernel⟩, wg_mem (i := 961) (by decide +kernel) (by decide +kernel), wg_memp (i := 99) (by decide +kernel) (by decide +kernel)⟩
abbrev mX6_comes : Md := (yX6_comes, cX6_comes, 3, (some .int), 0, 0)
theorem okX6_comes : okV mX6_comes 1 := ⟨⟨wg_mem (i := 957) (by decide +kernel) (by decide +kernel), wg_mem (i := 12) (by decide +kernel) (by decide +kernel), ⟨by decide +kernel, by decide +kernel⟩, by decide +kernel, by decide, by decide +kernel⟩, wg_mem (i := 955) (by decide +kernel) (by decide +kernel), wg_mem (i := 956) (by decide +kernel) (by decide +kernel)⟩
abbrev mX6_isSilent : Md := (yX6_isSilent, cX6_isSilent, 2, (some .boolean), 0, 0)
theorem okX6_isSilent : okV mX6_isSilent 1 := ⟨⟨wg_mem (i := 970) (by decide +kernel) (by decide +kernel), wg_mem (i := 12) (by decide +kernel) (by decide +kernel), ⟨by decide +kernel, by decide +kernel⟩, by decide +kernel, by decide, by decide +kernel⟩, wg_mem (i := 969) (by decide +kernel) (by decide +kernel), wg_memp (i := 100) (by decide +kernel) (by decide +kernel)⟩
abbrev mX6_quiet : Md := (yX6_quiet, cX6_quiet, 2, (some .int), 0, 0)
theorem okX6_quiet : okV mX6_quiet 0 := ⟨⟨wg_mem (i := 966) (by decide +kernel) (by decide +kernel), wg_mem (i := 12) (by decide +kernel) (by decide +kernel), ⟨by decide +kernel, by decide +kernel⟩, by decide +kernel, by decide, by decide +kernel⟩, wg_mem (i := 964) (by decide +kernel) (by decide +kernel), wg_mem (i := 965) (by decide +kernel) (by decide +kernel)⟩
abbrev mX6_bringsBy : Md := (yX6_bringsBy, cX6_bringsBy, 6, (some .int), 0, 0)
theorem okX6_bringsBy : okV mX6_bringsBy 4 := ⟨⟨wg_mem (i := 978) (by decide +kernel) (by decide +kernel), wg_mem (i := 12) (by decide +kernel) (by decide +kernel), ⟨by decide +kernel, by decide +kernel⟩, by decide +kernel, by decide, by decide +kernel⟩, wg_mem (i := 977) (by decide +kernel) (by decide +kernel), wg_memp (i := 101) (by decide +kernel) (by decide +kernel)⟩
abbrev mX6_brings : Md := (yX6_brings, cX6_brings, 4, (some .int), 0, 0)
theorem okX6_brings : okV mX6_brings 3 := ⟨⟨wg_mem (i := 974) (by decide +kernel) (by decide +kernel), wg_mem (i := 12) (by decide +kernel) (by decide +kernel), ⟨by decide +kernel, by decide +kernel⟩, by decide +kernel, by decide, by decide +kernel⟩, wg_mem (i := 972) (by decide +kernel) (by decide +kernel), wg_mem (i := 973) (by decide +kernel) (by decide +kernel)⟩
abbrev mX6_finds : Md := (yX6_finds, cX6_finds, 6, none, 0, 0)
theorem okX6_finds : okV mX6_finds 2 := ⟨⟨wg_mem (i := 986) (by decide +kernel) (by decide +kernel), wg_mem (i := 12) (by decide +kernel) (by decide +kernel), ⟨by decide +kernel, by decide +kernel⟩, by decide +kernel, by decide, by decide +kernel⟩, wg_mem (i := 985) (by decide +kernel) (by decide +kernel), wg_memp (i := 102) (by decide +kernel) (by decide +kernel)⟩
abbrev mX6_best : Md := (yX6_best, cX6_best, 3, (some .int), 0, 0)
theorem okX6_best : okV mX6_best 2 := ⟨⟨wg_mem (i := 982) (by decide +kernel) (by decide +kernel), wg_mem (i := 12) (by decide +kernel) (by decide +kernel), ⟨by decide +kernel, by decide +kernel⟩, by decide +kernel, by decide, by decide +kernel⟩, wg_mem (i := 980) (by decide +kernel) (by decide +kernel), wg_mem (i := 981) (by decide +kernel) (by decide +kernel)⟩
abbrev mX6_lays : Md := (yX6_lays, cX6_lays, 4, none, 0, 0)
theorem okX6_lays : okV mX6_lays 1 := ⟨⟨wg_mem (i := 998) (by decide +kernel) (by decide +kernel), wg_mem (i := 12) (by decide +kernel) (by decide +kernel), ⟨by decide +kernel, by decide +kernel⟩, by decide +kernel, by decide, by decide +kernel⟩, wg_mem (i := 997) (by decide +kernel) (by decide +kernel), wg_memp (i := 104) (by decide +kernel) (by decide +kernel)⟩
abbrev mX6_lower : Md := (yX6_lower, cX6_lower, 2, (some .int), 0, 0)
theorem okX6_lower : okS mX6_lower 2 := ⟨⟨wg_mem (i := 1009) (by decide +kernel) (by decide +kernel), wg_mem (i := 12) (by decide +kernel) (by decide +kernel), ⟨by decide +kernel, by decide +kernel⟩, by decide +kernel, by decide, by decide +kernel⟩, wg_mem (i := 1008) (by decide +kernel) (by decide +kernel)⟩
abbrev mX6_bringOf : Md := (yX6_bringOf, cX6_bringOf, 3, (some .int), 0, 0)
theorem okX6_bringOf : okV mX6_bringOf 2 := ⟨⟨wg_mem (i := 1006) (by decide +kernel) (by decide +kernel), wg_mem (i := 12) (by decide +kernel) (by decide +kernel), ⟨by decide +kernel, by decide +kernel⟩, by decide +kernel, by decide, by decide +kernel⟩, wg_mem (i := 1005) (by decide +kernel) (by decide +kernel), wg_memp (i := 106) (by decide +kernel) (by decide +kernel)⟩
abbrev mX6_worth : Md := (yX6_worth, cX6_worth, 7, (some .int), 0, 0)
theorem okX6_worth : okV mX6_worth 1 := ⟨⟨wg_mem (i := 1002) (by decide +kernel) (by decide +kernel), wg_mem (i := 12) (by decide +kernel) (by decide +kernel), ⟨by decide +kernel, by decide +kernel⟩, by decide +kernel, by decide, by decide +kernel⟩, wg_mem (i := 1001) (by decide +kernel) (by decide +kernel), wg_memp (i := 105) (by decide +kernel) (by decide +kernel)⟩
abbrev mX6_findsTwos : Md := (yX6_findsTwos, cX6_findsTwos, 6, (some .int), 0, 0)
theorem okX6_findsTwos : okV mX6_findsTwos 1 := ⟨⟨wg_mem (i := 994) (by decide +kernel) (by decide +kernel), wg_mem (i := 12) (by decide +kernel) (by decide +kernel), ⟨by decide +kernel, by decide +kernel⟩, by decide +kernel, by decide, by decide +kernel⟩, wg_mem (i := 993) (by decide +kernel) (by decide +kernel), wg_memp (i := 103) (by decide +kernel) (by decide +kernel)⟩
abbrev mX6_twos : Md := (yX6_twos, cX6_twos, 4, (some .int), 0, 0)
theorem okX6_twos : okV mX6_twos 2 := ⟨⟨wg_mem (i := 990) (by decide +kernel) (by decide +kernel), wg_mem (i := 12) (by decide +kernel) (by decide +kernel), ⟨by decide +kernel, by decide +kernel⟩, by decide +kernel, by decide, by decide +kernel⟩, wg_mem (i := 988) (by decide +kernel) (by decide +kernel), wg_mem (i := 989) (by decide +kernel) (by decide +kernel)⟩
abbrev mX6_hasBy : Md := (yX6_hasBy, cX6_hasBy, 2, (some .int), 0, 0)
theorem okX6_hasBy : okV mX6_hasBy 1 := ⟨⟨wg_mem (i := 1017) (by decide +kernel) (by decide +kernel), wg_mem (i := 12) (by decide +kernel) (by decide +kernel), ⟨by decide +kernel, by decide +kernel⟩, by decide +kernel, by decide, by decide +kernel⟩, wg_mem (i := 1016) (by decide +kernel) (by decide +kernel), wg_memp (i := 107) (by decide +kernel) (by decide +kernel)⟩
abbrev mX6_leave : Md := (yX6_leave, cX6_leave, 5, (some .int), 0, 0)
theorem okX6_leave : okV mX6_leave 1 := ⟨⟨wg_mem (i := 1013) (by decide +kernel) (by decide +kernel), wg_mem (i := 12) (by decide +kernel) (by decide +kernel), ⟨by decide +kernel, by decide +kernel⟩, by decide +kernel, by decide, by decide +kernel⟩, wg_mem (i := 1011) (by decide +kernel) (by decide +kernel), wg_mem (i := 1012) (by decide +kernel) (by decide +kernel)⟩
abbrev mX6_hears : Md := (yX6_hears, cX6_hears, 8, (some .int), 0, 0)
theorem okX6_hears : okV mX6_hears 2 := ⟨⟨wg_mem (i := 1021) (by decide +kernel) (by decide +kernel), wg_mem (i := 12) (by decide +kernel) (by decide +kernel), ⟨by decide +kernel, by decide +kernel⟩, by decide +kernel, by decide, by decide +kernel⟩, wg_mem (i := 1019) (by decide +kernel) (by decide +kernel), wg_mem (i := 1020) (by decide +kernel) (by decide +kernel)⟩
abbrev mX6_cost : Md := (yX6_cost, cX6_cost, 7, (some .int), 0, 0)
theorem okX6_cost : okV mX6_cost 2 := ⟨⟨wg_mem (i := 1025) (by decide +kernel) (by decide +kernel), wg_mem (i := 12) (by decide +kernel) (by decide +kernel), ⟨by decide +kernel, by decide +kernel⟩, by decide +kernel, by decide, by decide +kernel⟩, wg_mem (i := 1023) (by decide +kernel) (by decide +kernel), wg_mem (i := 1024) (by decide +kernel) (by decide +kernel)⟩
abbrev mX6_said : Md := (yX6_said, cX6_said, 11, (some .int), 0, 0)
theorem okX6_said : okV mX6_said 4 := ⟨⟨wg_mem (i := 1029) (by decide +kernel) (by decide +kernel), wg_mem (i := 12) (by decide +kernel) (by decide +kernel), ⟨by decide +kernel, by decide +kernel⟩, by decide +kernel, by decide, by decide +kernel⟩, wg_mem (i := 1027) (by decide +kernel) (by decide +kernel), wg_mem (i := 1028) (by decide +kernel) (by decide +kernel)⟩
abbrev mX6_who : Md := (yX6_who, cX6_who, 8, (some .int), 0, 0)
theorem okX6_who : okV mX6_who 3 := ⟨⟨wg_mem (i := 1034) (by decide +kernel) (by decide +kernel), wg_mem (i := 12) (by decide +kernel) (by decide +kernel), ⟨by decide +kernel, by decide +kernel⟩, by decide +kernel, by decide, by decide +kernel⟩, wg_mem (i := 1032) (by decide +kernel) (by decide +kernel), wg_mem (i := 1033) (by decide +kernel) (by decide +kernel)⟩
abbrev mX6_held : Md := (yX6_held, cX6_held, 17, (some .int), 0, 0)
theorem okX6_held : okV mX6_held 6 := ⟨⟨wg_mem (i := 1038) (by decide +kernel) (by decide +kernel), wg_mem (i := 12) (by decide +kernel) (by decide +kernel), ⟨by decide +kernel, by decide +kernel⟩, by decide +kernel, by decide, by decide +kernel⟩, wg_mem (i := 1036) (by decide +kernel) (by decide +kernel), wg_mem (i := 1037) (by decide +kernel) (by decide +kernel)⟩
abbrev mX6_draws : Md := (yX6_draws, cX6_draws, 5, none, 0, 0)
theorem okX6_draws : okV mX6_draws 1 := ⟨⟨wg_mem (i := 1051) (by decide +kernel) (by decide +kernel), wg_mem (i := 12) (by decide +kernel) (by decide +kernel), ⟨by decide +kernel, by decide +kernel⟩, by decide +kernel, by decide, by decide +kernel⟩, wg_mem (i := 1050) (by decide +kernel) (by decide +kernel), wg_memp (i := 108) (by decide +kernel) (by decide +kernel)⟩
abbrev mX6_known : Md := (yX6_known, cX6_known, 4, (some .int), 0, 0)
theorem okX6_known : okV mX6_known 1 := ⟨⟨wg_mem (i := 1055) (by decide +kernel) (by decide +kernel), wg_mem (i := 12) (by decide +kernel) (by decide +kernel), ⟨by decide +kernel, by decide +kernel⟩, by decide +kernel, by decide, by decide +kernel⟩, wg_mem (i := 1054) (by decide +kernel) (by decide +kernel), wg_memp (i := 109) (by decide +kernel) (by decide +kernel)⟩
abbrev mX6_day : Md := (yX6_day, cX6_day, 7, (some .int), 0, 0)
theorem okX6_day : okV mX6_day 3 := ⟨⟨wg_mem (i := 1043) (by decide +kernel) (by decide +kernel), wg_mem (i := 12) (by decide +kernel) (by decide +kernel), ⟨by decide +kernel, by decide +kernel⟩, by decide +kernel, by decide, by decide +kernel⟩, wg_mem (i := 1041) (by decide +kernel) (by decide +kernel), wg_mem (i := 1042) (by decide +kernel) (by decide +kernel)⟩
abbrev mX6_keep : Md := (yX6_keep, cX6_keep, 1, (some .int), 0, 0)
theorem okX6_keep : okV mX6_keep 0 := ⟨⟨wg_mem (i := 1059) (by decide +kernel) (by decide +kernel), wg_mem (i := 12) (by decide +kernel) (by decide +kernel), ⟨by decide +kernel, by decide +kernel⟩, by decide +kernel, by decide, by decide +kernel⟩, wg_mem (i := 1057) (by decide +kernel) (by decide +kernel), wg_mem (i := 1058) (by decide +kernel) (by decide +kernel)⟩
abbrev mX6_back : Md := (yX6_back, cX6_back, 1, (some .int), 0, 0)
theorem okX6_back : okV mX6_back 0 := ⟨⟨wg_mem (i := 1063) (by decide +kernel) (by decide +kernel), wg_mem (i := 12) (by decide +kernel) (by decide +kernel), ⟨by decide +kernel, by decide +kernel⟩, by decide +kernel, by decide, by decide +kernel⟩, wg_mem (i := 1061) (by decide +kernel) (by decide +kernel), wg_mem (i := 1062) (by decide +kernel) (by decide +kernel)⟩
abbrev mX6_count : Md := (yX6_count, cX6_count, 4, (some .int), 0, 0)
theorem okX6_count : okV mX6_count 1 := ⟨⟨wg_mem (i := 1067) (by decide +kernel) (by decide +kernel), wg_mem (i := 12) (by decide +kernel) (by decide +kernel), ⟨by decide +kernel, by decide +kernel⟩, by decide +kernel, by decide, by decide +kernel⟩, wg_mem (i := 1065) (by decide +kernel) (by decide +kernel), wg_mem (i := 1066) (by decide +kernel) (by decide +kernel)⟩
abbrev mJ6_bitCount_0f7a4 : Md := (yJ6_bitCount_0f7a4, cJ6_bitCount_0f7a4, 1, (some .int), 0, 0)
theorem okJ6_bitCount_0f7a4 : okS mJ6_bitCount_0f7a4 1 := ⟨⟨wg_mem (i := 473) (by decide +kernel) (by decide +kernel), wg_mem (i := 13) (by decide +kernel) (by decide +kernel), ⟨by decide +kernel, by decide +kernel⟩, by decide +kernel, by decide, by decide +kernel⟩, wg_mem (i := 472) (by decide +kernel) (by decide +kernel)⟩
theorem clL_9 : CL RL 9 yX5_init := Or.inl (wg_mem (i := 16) (by decide +kernel) (by decide +kernel))
theorem oiX5_1 : Cond.methodLink RX5 1 Lib.objectInit ∈ wg := wg_mem (i := 19) (by decide +kernel) (by decide +kernel)
theorem clX5_9 : CL RX5 9 yX3_init := Or.inr ⟨"ChurnTalk", nw_mem (i := 24) (by decide +kernel) (by decide +kernel)⟩
theorem oiX3_3 : Cond.methodLink RX3 3 Lib.objectInit ∈ wg := wg_mem (i := 27) (by decide +kernel) (by decide +kernel)
theorem clX5_18 : CL RX5 18 yX2_init := Or.inr ⟨"ChurnTalk", nw_mem (i := 41) (by decide +kernel) (by decide +kernel)⟩
theorem oiX2_3 : Cond.methodLink RX2 3 Lib.objectInit ∈ wg := wg_mem (i := 44) (by decide +kernel) (by decide +kernel)
theorem clX5_28 : CL RX5 28 yX1_init := Or.inr ⟨"ChurnTalk", nw_mem (i := 88) (by decide +kernel) (by decide +kernel)⟩
theorem oiX1_1 : Cond.methodLink RX1 1 Lib.objectInit ∈ wg := wg_mem (i := 91) (by decide +kernel) (by decide +kernel)
theorem mmX1_7 : Cond.methodLink RX1 7 Lib.Math.max.name ∈ wg := wg_mem (i := 92) (by decide +kernel) (by decide +kernel)
theorem clX1_21 : CL RX1 21 yX2_init := Or.inr ⟨"ChurnTalk", nw_mem (i := 97) (by decide +kernel) (by decide +kernel)⟩
theorem clX5_40 : CL RX5 40 yX0_init := Or.inr ⟨"ChurnTalk", nw_mem (i := 107) (by decide +kernel) (by decide +kernel)⟩
theorem oiX0_3 : Cond.methodLink RX0 3 Lib.objectInit ∈ wg := wg_mem (i := 110) (by decide +kernel) (by decide +kernel)
theorem clX5_47 : CL RX5 47 yX4_init := Or.inr ⟨"ChurnTalk", nw_mem (i := 126) (by decide +kernel) (by decide +kernel)⟩
theorem oiX4_3 : Cond.methodLink RX4 3 Lib.objectInit ∈ wg := wg_mem (i := 129) (by decide +kernel) (by decide +kernel)
theorem clX5_67 : CL RX5 67 yX3_add := Or.inr ⟨"ChurnTalk", nw_mem (i := 213) (by decide +kernel) (by decide +kernel)⟩
theorem clX5_71 : CL RX5 71 yX3_readInto := Or.inr ⟨"ChurnTalk", nw_mem (i := 217) (by decide +kernel) (by decide +kernel)⟩
theorem clX3_19 : CL RX3 19 yX4_clear := Or.inr ⟨"ChurnTalk", nw_mem (i := 221) (by decide +kernel) (by decide +kernel)⟩
theorem clX3_27 : CL RX3 27 yX3_readItem := Or.inl (wg_mem (i := 225) (by decide +kernel) (by decide +kernel))
theorem clX3_31 : CL RX3 31 yX3_peek := Or.inl (wg_mem (i := 229) (by decide +kernel) (by decide +kernel))
theorem clX3_35 : CL RX3 35 yX3_readPerson := Or.inl (wg_mem (i := 233) (by decide +kernel) (by decide +kernel))
theorem clX3_44 : CL RX3 44 yX3_readNumber := Or.inl (wg_mem (i := 237) (by decide +kernel) (by decide +kernel))
theorem clX3_67 : CL RX3 67 yX3_readFigure := Or.inl (wg_mem (i := 241) (by decide +kernel) (by decide +kernel))
theorem clX3_47 : CL RX3 47 yX3_accept := Or.inl (wg_mem (i := 245) (by decide +kernel) (by decide +kernel))
theorem clX3_51 : CL RX3 51 yX4_addPerson := Or.inr ⟨"ChurnTalk", nw_mem (i := 249) (by decide +kernel) (by decide +kernel)⟩
theorem clX4_40 : CL RX4 40 yX5_isWithin := Or.inr ⟨"ChurnTalk", nw_mem (i := 253) (by decide +kernel) (by decide +kernel)⟩
theorem clX4_44 : CL RX4 44 yX5_put := Or.inr ⟨"ChurnTalk", nw_mem (i := 256) (by decide +kernel) (by decide +kernel)⟩
theorem clX3_38 : CL RX3 38 yX3_readFriends := Or.inl (wg_mem (i := 259) (by decide +kernel) (by decide +kernel))
theorem clX3_55 : CL RX3 55 yX4_addFriends := Or.inr ⟨"ChurnTalk", nw_mem (i := 263) (by decide +kernel) (by decide +kernel)⟩
theorem clX4_48 : CL RX4 48 yX4_hasPerson := Or.inl (wg_mem (i := 267) (by decide +kernel) (by decide +kernel))
theorem clX4_52 : CL RX4 52 yX4_friendsOf := Or.inl (wg_mem (i := 271) (by decide +kernel) (by decide +kernel))
theorem clX4_59 : CL RX4 59 yX5_at := Or.inr ⟨"ChurnTalk", nw_mem (i := 275) (by decide +kernel) (by decide +kernel)⟩
theorem clX4_56 : CL RX4 56 yX5_bit := Or.inr ⟨"ChurnTalk", nw_mem (i := 278) (by decide +kernel) (by decide +kernel)⟩
theorem clX3_41 : CL RX3 41 yX3_readTale := Or.inl (wg_mem (i := 281) (by decide +kernel) (by decide +kernel))
theorem clX3_59 : CL RX3 59 yX3_readRow := Or.inl (wg_mem (i := 285) (by decide +kernel) (by decide +kernel))
theorem clX3_70 : CL RX3 70 yX4_hasPerson := Or.inr ⟨"ChurnTalk", nw_mem (i := 289) (by decide +kernel) (by decide +kernel)⟩
theorem clX3_73 : CL RX3 73 yX5_bit := Or.inr ⟨"ChurnTalk", nw_mem (i := 290) (by decide +kernel) (by decide +kernel)⟩
theorem clX3_63 : CL RX3 63 yX4_addTale := Or.inr ⟨"ChurnTalk", nw_mem (i := 291) (by decide +kernel) (by decide +kernel)⟩
theorem clX5_75 : CL RX5 75 yX5_moveIn := Or.inl (wg_mem (i := 295) (by decide +kernel) (by decide +kernel))
theorem clX5_92 : CL RX5 92 yX2_startIn := Or.inr ⟨"ChurnTalk", nw_mem (i := 299) (by decide +kernel) (by decide +kernel)⟩
theorem clX2_36 : CL RX2 36 yX5_at := Or.inr ⟨"ChurnTalk", nw_mem (i := 303) (by decide +kernel) (by decide +kernel)⟩
theorem clX2_49 : CL RX2 49 yX2_standUp := Or.inl (wg_mem (i := 304) (by decide +kernel) (by decide +kernel))
theorem clX2_90 : CL RX2 90 yX2_endTale := Or.inl (wg_mem (i := 308) (by decide +kernel) (by decide +kernel))
theorem clX5_96 : CL RX5 96 yX1_clear := Or.inr ⟨"ChurnTalk", nw_mem (i := 312) (by decide +kernel) (by decide +kernel)⟩
theorem clX5_78 : CL RX5 78 yX3_empty := Or.inr ⟨"ChurnTalk", nw_mem (i := 316) (by decide +kernel) (by decide +kernel)⟩
theorem clL_13 : CL RL 13 yX5_write := Or.inl (wg_mem (i := 346) (by decide +kernel) (by decide +kernel))
theorem clX5_81 : CL RX5 81 yX5_isWithin := Or.inl (wg_mem (i := 350) (by decide +kernel) (by decide +kernel))
theorem clX5_85 : CL RX5 85 yX3_size := Or.inr ⟨"ChurnTalk", nw_mem (i := 351) (by decide +kernel) (by decide +kernel)⟩
theorem clL_18 : CL RL 18 yX5_wipe := Or.inl (wg_mem (i := 355) (by decide +kernel) (by decide +kernel))
theorem clL_23 : CL RL 23 yX5_fault := Or.inl (wg_mem (i := 359) (by decide +kernel) (by decide +kernel))
theorem clL_27 : CL RL 27 yX5_lay := Or.inl (wg_mem (i := 363) (by decide +kernel) (by decide +kernel))
theorem clL_31 : CL RL 31 yX5_person := Or.inl (wg_mem (i := 367) (by decide +kernel) (by decide +kernel))
theorem clX5_99 : CL RX5 99 yX4_hasPerson := Or.inr ⟨"ChurnTalk", nw_mem (i := 371) (by decide +kernel) (by decide +kernel)⟩
theorem clX5_102 : CL RX5 102 yX4_kindOf := Or.inr ⟨"ChurnTalk", nw_mem (i := 372) (by decide +kernel) (by decide +kernel)⟩
theorem clX5_106 : CL RX5 106 yX4_friendsOf := Or.inr ⟨"ChurnTalk", nw_mem (i := 376) (by decide +kernel) (by decide +kernel)⟩
theorem clX5_109 : CL RX5 109 yX2_knownBy := Or.inr ⟨"ChurnTalk", nw_mem (i := 377) (by decide +kernel) (by decide +kernel)⟩
theorem clX5_112 : CL RX5 112 yX2_isSeated := Or.inr ⟨"ChurnTalk", nw_mem (i := 381) (by decide +kernel) (by decide +kernel)⟩
theorem clX2_58 : CL RX2 58 yX2_anyoneSits := Or.inl (wg_mem (i := 385) (by decide +kernel) (by decide +kernel))
theorem clL_36 : CL RL 36 yX5_tale := Or.inl (wg_mem (i := 389) (by decide +kernel) (by decide +kernel))
theorem clX5_115 : CL RX5 115 yX4_hasTale := Or.inr ⟨"ChurnTalk", nw_mem (i := 393) (by decide +kernel) (by decide +kernel)⟩
theorem clX5_118 : CL RX5 118 yX4_personOf := Or.inr ⟨"ChurnTalk", nw_mem (i := 397) (by decide +kernel) (by decide +kernel)⟩
theorem clX5_121 : CL RX5 121 yX4_illOf := Or.inr ⟨"ChurnTalk", nw_mem (i := 401) (by decide +kernel) (by decide +kernel)⟩
theorem clX5_124 : CL RX5 124 yX4_minutesOf := Or.inr ⟨"ChurnTalk", nw_mem (i := 405) (by decide +kernel) (by decide +kernel)⟩
theorem clX5_127 : CL RX5 127 yX2_isHushed := Or.inr ⟨"ChurnTalk", nw_mem (i := 409) (by decide +kernel) (by decide +kernel)⟩
theorem clX2_62 : CL RX2 62 yX5_bit := Or.inr ⟨"ChurnTalk", nw_mem (i := 413) (by decide +kernel) (by decide +kernel)⟩
theorem clX5_130 : CL RX5 130 yX2_knowersOf := Or.inr ⟨"ChurnTalk", nw_mem (i := 414) (by decide +kernel) (by decide +kernel)⟩
theorem clL_40 : CL RL 40 yX5_churn := Or.inl (wg_mem (i := 418) (by decide +kernel) (by decide +kernel))
theorem clX5_133 : CL RX5 133 yX2_anyoneSits := Or.inr ⟨"ChurnTalk", nw_mem (i := 422) (by decide +kernel) (by decide +kernel)⟩
theorem clX5_146 : CL RX5 146 yX2_isTelling := Or.inr ⟨"ChurnTalk", nw_mem (i := 423) (by decide +kernel) (by decide +kernel)⟩
theorem clL_44 : CL RL 44 yX5_sit := Or.inl (wg_mem (i := 427) (by decide +kernel) (by decide +kernel))
theorem clX5_158 : CL RX5 158 yX5_areTwo := Or.inl (wg_mem (i := 431) (by decide +kernel) (by decide +kernel))
theorem clX5_162 : CL RX5 162 yX4_areFriends := Or.inr ⟨"ChurnTalk", nw_mem (i := 435) (by decide +kernel) (by decide +kernel)⟩
theorem clX5_165 : CL RX5 165 yX1_push := Or.inr ⟨"ChurnTalk", nw_mem (i := 439) (by decide +kernel) (by decide +kernel)⟩
theorem clX1_26 : CL RX1 26 yX1_isFull := Or.inl (wg_mem (i := 443) (by decide +kernel) (by decide +kernel))
theorem clX1_30 : CL RX1 30 yX1_dropOldest := Or.inl (wg_mem (i := 447) (by decide +kernel) (by decide +kernel))
theorem clX1_33 : CL RX1 33 yX1_isState := Or.inl (wg_mem (i := 451) (by decide +kernel) (by decide +kernel))
theorem clX1_37 : CL RX1 37 yX2_copyFrom := Or.inr ⟨"ChurnTalk", nw_mem (i := 455) (by decide +kernel) (by decide +kernel)⟩
theorem clX5_169 : CL RX5 169 yX2_seat := Or.inr ⟨"ChurnTalk", nw_mem (i := 459) (by decide +kernel) (by decide +kernel)⟩
theorem clX5_173 : CL RX5 173 yX2_mayTell := Or.inr ⟨"ChurnTalk", nw_mem (i := 463) (by decide +kernel) (by decide +kernel)⟩
theorem clL_48 : CL RL 48 yX5_stand := Or.inl (wg_mem (i := 467) (by decide +kernel) (by decide +kernel))
theorem clX5_177 : CL RX5 177 yJ6_bitCount_0f7a4 := Or.inl (wg_mem (i := 471) (by decide +kernel) (by decide +kernel))
theorem clX5_182 : CL RX5 182 yX2_standUp := Or.inr ⟨"ChurnTalk", nw_mem (i := 477) (by decide +kernel) (by decide +kernel)⟩
theorem clL_52 : CL RL 52 yX5_pass := Or.inl (wg_mem (i := 478) (by decide +kernel) (by decide +kernel))
theorem clX5_185 : CL RX5 185 yX5_isSpan := Or.inl (wg_mem (i := 482) (by decide +kernel) (by decide +kernel))
theorem clX5_188 : CL RX5 188 yX2_goOn := Or.inr ⟨"ChurnTalk", nw_mem (i := 485) (by decide +kernel) (by decide +kernel)⟩
theorem clX2_100 : CL RX2 100 yX2_beginTale := Or.inl (wg_mem (i := 489) (by decide +kernel) (by decide +kernel))
theorem clX2_97 : CL RX2 97 yX2_isTelling := Or.inl (wg_mem (i := 493) (by decide +kernel) (by decide +kernel))
theorem clX2_117 : CL RX2 117 yX2_listener := Or.inl (wg_mem (i := 494) (by decide +kernel) (by decide +kernel))
theorem clX2_93 : CL RX2 93 yX2_mayTell := Or.inl (wg_mem (i := 498) (by decide +kernel) (by decide +kernel))
theorem clX2_121 : CL RX2 121 yX5_lowestOf := Or.inr ⟨"ChurnTalk", nw_mem (i := 499) (by decide +kernel) (by decide +kernel)⟩
theorem clX2_124 : CL RX2 124 yX4_minutesOf := Or.inr ⟨"ChurnTalk", nw_mem (i := 502) (by decide +kernel) (by decide +kernel)⟩
theorem mmX2_104 : Cond.methodLink RX2 104 Lib.Math.max.name ∈ wg := wg_mem (i := 503) (by decide +kernel) (by decide +kernel)
theorem mmX2_110 : Cond.methodLink RX2 110 Lib.Math.min.name ∈ wg := wg_mem (i := 504) (by decide +kernel) (by decide +kernel)
theorem clX2_113 : CL RX2 113 yX2_giveButter := Or.inl (wg_mem (i := 507) (by decide +kernel) (by decide +kernel))
theorem clX2_127 : CL RX2 127 yX4_illOf := Or.inr ⟨"ChurnTalk", nw_mem (i := 511) (by decide +kernel) (by decide +kernel)⟩
theorem clX2_75 : CL RX2 75 yX4_kindOf := Or.inr ⟨"ChurnTalk", nw_mem (i := 512) (by decide +kernel) (by decide +kernel)⟩
theorem clX2_130 : CL RX2 130 yX2_tellOut := Or.inl (wg_mem (i := 513) (by decide +kernel) (by decide +kernel))
theorem clX2_133 : CL RX2 133 yX5_put := Or.inr ⟨"ChurnTalk", nw_mem (i := 517) (by decide +kernel) (by decide +kernel)⟩
theorem clL_56 : CL RL 56 yX5_hush := Or.inl (wg_mem (i := 518) (by decide +kernel) (by decide +kernel))
theorem clX5_195 : CL RX5 195 yX2_canHush := Or.inr ⟨"ChurnTalk", nw_mem (i := 522) (by decide +kernel) (by decide +kernel)⟩
theorem clX2_66 : CL RX2 66 yX2_isHushed := Or.inl (wg_mem (i := 526) (by decide +kernel) (by decide +kernel))
theorem clX5_201 : CL RX5 201 yX5_bit := Or.inl (wg_mem (i := 527) (by decide +kernel) (by decide +kernel))
theorem clL_60 : CL RL 60 yX5_undo := Or.inl (wg_mem (i := 528) (by decide +kernel) (by decide +kernel))
theorem clX5_207 : CL RX5 207 yX1_popInto := Or.inr ⟨"ChurnTalk", nw_mem (i := 532) (by decide +kernel) (by decide +kernel)⟩
theorem clX5_211 : CL RX5 211 yX1_size := Or.inr ⟨"ChurnTalk", nw_mem (i := 536) (by decide +kernel) (by decide +kernel)⟩
theorem clL_64 : CL RL 64 yX5_comes := Or.inl (wg_mem (i := 540) (by decide +kernel) (by decide +kernel))
theorem clX5_212 : CL RX5 212 yX2_copyFrom := Or.inr ⟨"ChurnTalk", nw_mem (i := 544) (by decide +kernel) (by decide +kernel)⟩
theorem clL_68 : CL RL 68 yX5_quiet := Or.inl (wg_mem (i := 545) (by decide +kernel) (by decide +kernel))
theorem clX5_215 : CL RX5 215 yX2_isSilent := Or.inr ⟨"ChurnTalk", nw_mem (i := 549) (by decide +kernel) (by decide +kernel)⟩
theorem clL_72 : CL RL 72 yX5_brings := Or.inl (wg_mem (i := 553) (by decide +kernel) (by decide +kernel))
theorem clX5_219 : CL RX5 219 yX5_wouldBring := Or.inl (wg_mem (i := 557) (by decide +kernel) (by decide +kernel))
theorem clL_77 : CL RL 77 yX5_best := Or.inl (wg_mem (i := 561) (by decide +kernel) (by decide +kernel))
theorem clX5_223 : CL RX5 223 yX5_bestButter := Or.inl (wg_mem (i := 565) (by decide +kernel) (by decide +kernel))
theorem mmX5_230 : Cond.methodLink RX5 230 Lib.Math.max.name ∈ wg := wg_mem (i := 569) (by decide +kernel) (by decide +kernel)
theorem clX5_227 : CL RX5 227 yX5_firstWho := Or.inl (wg_mem (i := 570) (by decide +kernel) (by decide +kernel))
theorem clL_81 : CL RL 81 yX5_twos := Or.inl (wg_mem (i := 574) (by decide +kernel) (by decide +kernel))
theorem clX5_235 : CL RX5 235 yX5_pairAll := Or.inl (wg_mem (i := 578) (by decide +kernel) (by decide +kernel))
theorem clX5_244 : CL RX5 244 yX0_setButter := Or.inr ⟨"ChurnTalk", nw_mem (i := 582) (by decide +kernel) (by decide +kernel)⟩
theorem clX0_24 : CL RX0 24 yX5_put := Or.inr ⟨"ChurnTalk", nw_mem (i := 586) (by decide +kernel) (by decide +kernel)⟩
theorem clX5_248 : CL RX5 248 yX0_solve := Or.inr ⟨"ChurnTalk", nw_mem (i := 587) (by decide +kernel) (by decide +kernel)⟩
theorem clX0_48 : CL RX0 48 yX5_bit := Or.inr ⟨"ChurnTalk", nw_mem (i := 591) (by decide +kernel) (by decide +kernel)⟩
theorem clX0_51 : CL RX0 51 yX0_seatLowest := Or.inl (wg_mem (i := 592) (by decide +kernel) (by decide +kernel))
theorem clX0_58 : CL RX0 58 yX5_lowestOf := Or.inr ⟨"ChurnTalk", nw_mem (i := 596) (by decide +kernel) (by decide +kernel)⟩
theorem clX0_45 : CL RX0 45 yX0_butterOf := Or.inl (wg_mem (i := 597) (by decide +kernel) (by decide +kernel))
theorem mmX0_28 : Cond.methodLink RX0 28 Lib.Math.min.name ∈ wg := wg_mem (i := 601) (by decide +kernel) (by decide +kernel)
theorem mmX0_34 : Cond.methodLink RX0 34 Lib.Math.max.name ∈ wg := wg_mem (i := 602) (by decide +kernel) (by decide +kernel)
theorem clX0_37 : CL RX0 37 yX5_at := Or.inr ⟨"ChurnTalk", nw_mem (i := 603) (by decide +kernel) (by decide +kernel)⟩
theorem clX0_55 : CL RX0 55 yX0_readMates := Or.inl (wg_mem (i := 604) (by decide +kernel) (by decide +kernel))
theorem clX5_238 : CL RX5 238 yX0_sum := Or.inr ⟨"ChurnTalk", nw_mem (i := 608) (by decide +kernel) (by decide +kernel)⟩
theorem clX5_241 : CL RX5 241 yX0_mateOf := Or.inr ⟨"ChurnTalk", nw_mem (i := 612) (by decide +kernel) (by decide +kernel)⟩
theorem clL_85 : CL RL 85 yX5_leave := Or.inl (wg_mem (i := 616) (by decide +kernel) (by decide +kernel))
theorem clX5_251 : CL RX5 251 yX5_wouldLeave := Or.inl (wg_mem (i := 620) (by decide +kernel) (by decide +kernel))
theorem clX5_254 : CL RX5 254 yX0_butterOf := Or.inr ⟨"ChurnTalk", nw_mem (i := 624) (by decide +kernel) (by decide +kernel)⟩
theorem clX5_257 : CL RX5 257 yX0_hasNow := Or.inr ⟨"ChurnTalk", nw_mem (i := 625) (by decide +kernel) (by decide +kernel)⟩
theorem clX0_41 : CL RX0 41 yX0_mateOf := Or.inl (wg_mem (i := 629) (by decide +kernel) (by decide +kernel))
theorem clL_89 : CL RL 89 yX5_hears := Or.inl (wg_mem (i := 630) (by decide +kernel) (by decide +kernel))
theorem clX5_260 : CL RX5 260 yX2_hearersOf := Or.inr ⟨"ChurnTalk", nw_mem (i := 634) (by decide +kernel) (by decide +kernel)⟩
theorem clX2_78 : CL RX2 78 yX4_friendsOf := Or.inr ⟨"ChurnTalk", nw_mem (i := 638) (by decide +kernel) (by decide +kernel)⟩
theorem clX2_81 : CL RX2 81 yX4_personOf := Or.inr ⟨"ChurnTalk", nw_mem (i := 639) (by decide +kernel) (by decide +kernel)⟩
theorem clL_93 : CL RL 93 yX5_cost := Or.inl (wg_mem (i := 640) (by decide +kernel) (by decide +kernel))
theorem clL_97 : CL RL 97 yX5_said := Or.inl (wg_mem (i := 644) (by decide +kernel) (by decide +kernel))
theorem clX5_263 : CL RX5 263 yX4_illOfAll := Or.inr ⟨"ChurnTalk", nw_mem (i := 648) (by decide +kernel) (by decide +kernel)⟩
theorem clX4_68 : CL RX4 68 yX4_illOf := Or.inl (wg_mem (i := 652) (by decide +kernel) (by decide +kernel))
theorem clL_102 : CL RL 102 yX5_who := Or.inl (wg_mem (i := 653) (by decide +kernel) (by decide +kernel))
theorem clX5_266 : CL RX5 266 yX5_howManyWho := Or.inl (wg_mem (i := 657) (by decide +kernel) (by decide +kernel))
theorem clL_106 : CL RL 106 yX5_held := Or.inl (wg_mem (i := 661) (by decide +kernel) (by decide +kernel))
theorem clX5_269 : CL RX5 269 yX5_power := Or.inl (wg_mem (i := 665) (by decide +kernel) (by decide +kernel))
theorem clX5_275 : CL RX5 275 yX5_commonDivisor := Or.inl (wg_mem (i := 669) (by decide +kernel) (by decide +kernel))
theorem clL_111 : CL RL 111 yX5_day := Or.inl (wg_mem (i := 672) (by decide +kernel) (by decide +kernel))
theorem clX5_279 : CL RX5 279 yX5_draw := Or.inl (wg_mem (i := 676) (by decide +kernel) (by decide +kernel))
theorem clX5_282 : CL RX5 282 yX5_actByDraw := Or.inl (wg_mem (i := 682) (by decide +kernel) (by decide +kernel))
theorem clX5_294 : CL RX5 294 yX5_seatByDraw := Or.inl (wg_mem (i := 686) (by decide +kernel) (by decide +kernel))
theorem clX5_285 : CL RX5 285 yX2_knownByAll := Or.inr ⟨"ChurnTalk", nw_mem (i := 690) (by decide +kernel) (by decide +kernel)⟩
theorem clX2_70 : CL RX2 70 yJ6_bitCount_0f7a4 := Or.inl (wg_mem (i := 694) (by decide +kernel) (by decide +kernel))
theorem clL_115 : CL RL 115 yX5_keep := Or.inl (wg_mem (i := 695) (by decide +kernel) (by decide +kernel))
theorem clX5_297 : CL RX5 297 yX1_isFull := Or.inr ⟨"ChurnTalk", nw_mem (i := 699) (by decide +kernel) (by decide +kernel)⟩
theorem clL_119 : CL RL 119 yX5_back := Or.inl (wg_mem (i := 700) (by decide +kernel) (by decide +kernel))
theorem clL_123 : CL RL 123 yX5_count := Or.inl (wg_mem (i := 704) (by decide +kernel) (by decide +kernel))
theorem clX5_300 : CL RX5 300 yX4_friendships := Or.inr ⟨"ChurnTalk", nw_mem (i := 708) (by decide +kernel) (by decide +kernel)⟩
theorem clX4_63 : CL RX4 63 yJ6_bitCount_0f7a4 := Or.inl (wg_mem (i := 712) (by decide +kernel) (by decide +kernel))
theorem clL_12 : CL RL 12 yX6_init := Or.inl (wg_mem (i := 715) (by decide +kernel) (by decide +kernel))
theorem oiX6_1 : Cond.methodLink RX6 1 Lib.objectInit ∈ wg := wg_mem (i := 718) (by decide +kernel) (by decide +kernel)
theorem clX6_40 : CL RX6 40 yX6_empties := Or.inl (wg_mem (i := 719) (by decide +kernel) (by decide +kernel))
theorem clX6_43 : CL RX6 43 yX6_addsPerson := Or.inl (wg_mem (i := 723) (by decide +kernel) (by decide +kernel))
theorem clX6_47 : CL RX6 47 yX6_befriends := Or.inl (wg_mem (i := 727) (by decide +kernel) (by decide +kernel))
theorem clX6_51 : CL RX6 51 yX6_addsTale := Or.inl (wg_mem (i := 731) (by decide +kernel) (by decide +kernel))
theorem clX6_55 : CL RX6 55 yX6_begins := Or.inl (wg_mem (i := 735) (by decide +kernel) (by decide +kernel))
theorem clX6_58 : CL RX6 58 yX6_copies := Or.inl (wg_mem (i := 739) (by decide +kernel) (by decide +kernel))
theorem clL_17 : CL RL 17 yX6_write := Or.inl (wg_mem (i := 794) (by decide +kernel) (by decide +kernel))
theorem clX6_73 : CL RX6 73 yX6_in := Or.inl (wg_mem (i := 800) (by decide +kernel) (by decide +kernel))
theorem clL_22 : CL RL 22 yX6_wipe := Or.inl (wg_mem (i := 803) (by decide +kernel) (by decide +kernel))
theorem clL_26 : CL RL 26 yX6_fault := Or.inl (wg_mem (i := 807) (by decide +kernel) (by decide +kernel))
theorem clX6_122 : CL RX6 122 yX6_isItem := Or.inl (wg_mem (i := 811) (by decide +kernel) (by decide +kernel))
theorem clX6_102 : CL RX6 102 yX6_takes := Or.inl (wg_mem (i := 815) (by decide +kernel) (by decide +kernel))
theorem clX6_83 : CL RX6 83 yX6_here := Or.inl (wg_mem (i := 819) (by decide +kernel) (by decide +kernel))
theorem clX6_112 : CL RX6 112 yX6_isPerson := Or.inl (wg_mem (i := 823) (by decide +kernel) (by decide +kernel))
theorem clX6_98 : CL RX6 98 yX6_number := Or.inl (wg_mem (i := 827) (by decide +kernel) (by decide +kernel))
theorem clX6_91 : CL RX6 91 yX6_isFigure := Or.inl (wg_mem (i := 831) (by decide +kernel) (by decide +kernel))
theorem clX6_116 : CL RX6 116 yX6_areFriends := Or.inl (wg_mem (i := 836) (by decide +kernel) (by decide +kernel))
theorem clX6_119 : CL RX6 119 yX6_isTale := Or.inl (wg_mem (i := 840) (by decide +kernel) (by decide +kernel))
theorem clX6_108 : CL RX6 108 yX6_row := Or.inl (wg_mem (i := 844) (by decide +kernel) (by decide +kernel))
theorem clX6_105 : CL RX6 105 yX6_has := Or.inl (wg_mem (i := 848) (by decide +kernel) (by decide +kernel))
theorem clL_30 : CL RL 30 yX6_lay := Or.inl (wg_mem (i := 851) (by decide +kernel) (by decide +kernel))
theorem clX6_125 : CL RX6 125 yX6_fault := Or.inl (wg_mem (i := 855) (by decide +kernel) (by decide +kernel))
theorem clL_35 : CL RL 35 yX6_person := Or.inl (wg_mem (i := 856) (by decide +kernel) (by decide +kernel))
theorem clX6_128 : CL RX6 128 yX6_isOne := Or.inl (wg_mem (i := 860) (by decide +kernel) (by decide +kernel))
theorem clX6_131 : CL RX6 131 yX6_knownBy := Or.inl (wg_mem (i := 864) (by decide +kernel) (by decide +kernel))
theorem clX6_134 : CL RX6 134 yX6_sits := Or.inl (wg_mem (i := 868) (by decide +kernel) (by decide +kernel))
theorem clL_39 : CL RL 39 yX6_tale := Or.inl (wg_mem (i := 872) (by decide +kernel) (by decide +kernel))
theorem clX6_137 : CL RX6 137 yX6_isTaleOf := Or.inl (wg_mem (i := 876) (by decide +kernel) (by decide +kernel))
theorem clL_43 : CL RL 43 yX6_churn := Or.inl (wg_mem (i := 880) (by decide +kernel) (by decide +kernel))
theorem clL_47 : CL RL 47 yX6_sit := Or.inl (wg_mem (i := 885) (by decide +kernel) (by decide +kernel))
theorem clX6_165 : CL RX6 165 yX6_areTwo := Or.inl (wg_mem (i := 889) (by decide +kernel) (by decide +kernel))
theorem clX6_168 : CL RX6 168 yX6_likes := Or.inl (wg_mem (i := 893) (by decide +kernel) (by decide +kernel))
theorem clX6_171 : CL RX6 171 yX6_remember := Or.inl (wg_mem (i := 897) (by decide +kernel) (by decide +kernel))
theorem clX6_174 : CL RX6 174 yX6_sitsDown := Or.inl (wg_mem (i := 901) (by decide +kernel) (by decide +kernel))
theorem clX6_161 : CL RX6 161 yX6_standsAnew := Or.inl (wg_mem (i := 905) (by decide +kernel) (by decide +kernel))
theorem clX6_150 : CL RX6 150 yX6_tellable := Or.inl (wg_mem (i := 908) (by decide +kernel) (by decide +kernel))
theorem clX6_142 : CL RX6 142 yX6_canTell := Or.inl (wg_mem (i := 912) (by decide +kernel) (by decide +kernel))
theorem clL_51 : CL RL 51 yX6_stand := Or.inl (wg_mem (i := 916) (by decide +kernel) (by decide +kernel))
theorem clX6_178 : CL RX6 178 yX6_bits := Or.inl (wg_mem (i := 920) (by decide +kernel) (by decide +kernel))
theorem clL_55 : CL RL 55 yX6_pass := Or.inl (wg_mem (i := 923) (by decide +kernel) (by decide +kernel))
theorem clX6_183 : CL RX6 183 yX6_minuteGoes := Or.inl (wg_mem (i := 928) (by decide +kernel) (by decide +kernel))
theorem clX6_157 : CL RX6 157 yX6_isTold := Or.inl (wg_mem (i := 932) (by decide +kernel) (by decide +kernel))
theorem clX6_146 : CL RX6 146 yX6_otherOf := Or.inl (wg_mem (i := 936) (by decide +kernel) (by decide +kernel))
theorem clX6_154 : CL RX6 154 yX6_lowest := Or.inl (wg_mem (i := 939) (by decide +kernel) (by decide +kernel))
theorem clL_59 : CL RL 59 yX6_hush := Or.inl (wg_mem (i := 942) (by decide +kernel) (by decide +kernel))
theorem clX6_186 : CL RX6 186 yX6_mayHush := Or.inl (wg_mem (i := 946) (by decide +kernel) (by decide +kernel))
theorem clL_63 : CL RL 63 yX6_undo := Or.inl (wg_mem (i := 950) (by decide +kernel) (by decide +kernel))
theorem clL_67 : CL RL 67 yX6_comes := Or.inl (wg_mem (i := 954) (by decide +kernel) (by decide +kernel))
theorem clX6_192 : CL RX6 192 yX6_layAside := Or.inl (wg_mem (i := 959) (by decide +kernel) (by decide +kernel))
theorem clL_71 : CL RL 71 yX6_quiet := Or.inl (wg_mem (i := 963) (by decide +kernel) (by decide +kernel))
theorem clX6_195 : CL RX6 195 yX6_isSilent := Or.inl (wg_mem (i := 967) (by decide +kernel) (by decide +kernel))
theorem clL_76 : CL RL 76 yX6_brings := Or.inl (wg_mem (i := 971) (by decide +kernel) (by decide +kernel))
theorem clX6_198 : CL RX6 198 yX6_bringsBy := Or.inl (wg_mem (i := 975) (by decide +kernel) (by decide +kernel))
theorem clL_80 : CL RL 80 yX6_best := Or.inl (wg_mem (i := 979) (by decide +kernel) (by decide +kernel))
theorem clX6_208 : CL RX6 208 yX6_finds := Or.inl (wg_mem (i := 983) (by decide +kernel) (by decide +kernel))
theorem clL_84 : CL RL 84 yX6_twos := Or.inl (wg_mem (i := 987) (by decide +kernel) (by decide +kernel))
theorem clX6_224 : CL RX6 224 yX6_findsTwos := Or.inl (wg_mem (i := 991) (by decide +kernel) (by decide +kernel))
theorem clX6_218 : CL RX6 218 yX6_lays := Or.inl (wg_mem (i := 995) (by decide +kernel) (by decide +kernel))
theorem clX6_221 : CL RX6 221 yX6_worth := Or.inl (wg_mem (i := 999) (by decide +kernel) (by decide +kernel))
theorem clX6_215 : CL RX6 215 yX6_bringOf := Or.inl (wg_mem (i := 1003) (by decide +kernel) (by decide +kernel))
theorem clX6_211 : CL RX6 211 yX6_lower := Or.inl (wg_mem (i := 1007) (by decide +kernel) (by decide +kernel))
theorem clL_88 : CL RL 88 yX6_leave := Or.inl (wg_mem (i := 1010) (by decide +kernel) (by decide +kernel))
theorem clX6_227 : CL RX6 227 yX6_hasBy := Or.inl (wg_mem (i := 1014) (by decide +kernel) (by decide +kernel))
theorem clL_92 : CL RL 92 yX6_hears := Or.inl (wg_mem (i := 1018) (by decide +kernel) (by decide +kernel))
theorem clL_96 : CL RL 96 yX6_cost := Or.inl (wg_mem (i := 1022) (by decide +kernel) (by decide +kernel))
theorem clL_101 : CL RL 101 yX6_said := Or.inl (wg_mem (i := 1026) (by decide +kernel) (by decide +kernel))
theorem clL_105 : CL RL 105 yX6_who := Or.inl (wg_mem (i := 1031) (by decide +kernel) (by decide +kernel))
theorem clL_110 : CL RL 110 yX6_held := Or.inl (wg_mem (i := 1035) (by decide +kernel) (by decide +kernel))
theorem clL_114 : CL RL 114 yX6_day := Or.inl (wg_mem (i := 1040) (by decide +kernel) (by decide +kernel))
theorem clX6_242 : CL RX6 242 yX6_draws := Or.inl (wg_mem (i := 1048) (by decide +kernel) (by decide +kernel))
theorem clX6_245 : CL RX6 245 yX6_known := Or.inl (wg_mem (i := 1052) (by decide +kernel) (by decide +kernel))
theorem clL_118 : CL RL 118 yX6_keep := Or.inl (wg_mem (i := 1056) (by decide +kernel) (by decide +kernel))
theorem clL_122 : CL RL 122 yX6_back := Or.inl (wg_mem (i := 1060) (by decide +kernel) (by decide +kernel))
theorem clL_126 : CL RL 126 yX6_count := Or.inl (wg_mem (i := 1064) (by decide +kernel) (by decide +kernel))
theorem iiX5 : Cond.initialized RX5 ∈ wg := wg_mem (i := 1) (by decide +kernel) (by decide +kernel)
theorem iiX3 : Cond.initialized RX3 ∈ wg := wg_mem (i := 2) (by decide +kernel) (by decide +kernel)
theorem iiX2 : Cond.initialized RX2 ∈ wg := wg_mem (i := 3) (by decide +kernel) (by decide +kernel)
theorem iiX1 : Cond.initialized RX1 ∈ wg := wg_mem (i := 4) (by decide +kernel) (by decide +kernel)
theorem iiX0 : Cond.initialized RX0 ∈ wg := wg_mem (i := 6) (by decide +kernel) (by decide +kernel)
theorem iiX4 : Cond.initialized RX4 ∈ wg := wg_mem (i := 7) (by decide +kernel) (by decide +kernel)
theorem iiX6 : Cond.initialized RX6 ∈ wg := wg_mem (i := 12) (by decide +kernel) (by decide +kernel)
theorem nlL_7 : Cond.classLink RL 7 RX5 ∈ wg := wg_mem (i := 14) (by decide +kernel) (by decide +kernel)
theorem inX5 : Cond.instantiable RX5 8 ∈ wg := wg_mem (i := 15) (by decide +kernel) (by decide +kernel)
theorem nlX5_7 : Cond.classLink RX5 7 RX3 ∈ wg := wg_mem (i := 22) (by decide +kernel) (by decide +kernel)
theorem inX3 : Cond.instantiable RX3 3 ∈ wg := wg_mem (i := 23) (by decide +kernel) (by decide +kernel)
theorem nlX5_16 : Cond.classLink RX5 16 RX2 ∈ wg := wg_mem (i := 39) (by decide +kernel) (by decide +kernel)
theorem inX2 : Cond.instantiable RX2 10 ∈ wg := wg_mem (i := 40) (by decide +kernel) (by decide +kernel)
theorem nlX5_26 : Cond.classLink RX5 26 RX1 ∈ wg := wg_mem (i := 86) (by decide +kernel) (by decide +kernel)
theorem inX1 : Cond.instantiable RX1 2 ∈ wg := wg_mem (i := 87) (by decide +kernel) (by decide +kernel)
theorem nlX1_13 : Cond.classLink RX1 13 RX2 ∈ wg := wg_mem (i := 95) (by decide +kernel) (by decide +kernel)
theorem nlX5_38 : Cond.classLink RX5 38 RX0 ∈ wg := wg_mem (i := 105) (by decide +kernel) (by decide +kernel)
theorem inX0 : Cond.instantiable RX0 4 ∈ wg := wg_mem (i := 106) (by decide +kernel) (by decide +kernel)
theorem nlX5_45 : Cond.classLink RX5 45 RX4 ∈ wg := wg_mem (i := 124) (by decide +kernel) (by decide +kernel)
theorem inX4 : Cond.instantiable RX4 9 ∈ wg := wg_mem (i := 125) (by decide +kernel) (by decide +kernel)
theorem kJ6_265 : Cond.constant RJ6 265 (1431655765 : Int32) ∈ wg := wg_mem (i := 474) (by decide +kernel) (by decide +kernel)
theorem kJ6_266 : Cond.constant RJ6 266 (858993459 : Int32) ∈ wg := wg_mem (i := 475) (by decide +kernel) (by decide +kernel)
theorem kJ6_267 : Cond.constant RJ6 267 (252645135 : Int32) ∈ wg := wg_mem (i := 476) (by decide +kernel) (by decide +kernel)
theorem kX5_273 : Cond.constantLong RX5 273 (10) ∈ wg := wg_mem (i := 668) (by decide +kernel) (by decide +kernel)
theorem kX5_288 : Cond.constantLong RX5 288 (7919) ∈ wg := wg_mem (i := 679) (by decide +kernel) (by decide +kernel)
theorem kX5_290 : Cond.constantLong RX5 290 (6151) ∈ wg := wg_mem (i := 680) (by decide +kernel) (by decide +kernel)
theorem kX5_292 : Cond.constantLong RX5 292 (65521) ∈ wg := wg_mem (i := 681) (by decide +kernel) (by decide +kernel)
theorem nlL_10 : Cond.classLink RL 10 RX6 ∈ wg := wg_mem (i := 713) (by decide +kernel) (by decide +kernel)
theorem inX6 : Cond.instantiable RX6 17 ∈ wg := wg_mem (i := 714) (by decide +kernel) (by decide +kernel)
theorem kX6_69 : Cond.constantLong RX6 69 (32) ∈ wg := wg_mem (i := 798) (by decide +kernel) (by decide +kernel)
theorem kX6_71 : Cond.constantLong RX6 71 (126) ∈ wg := wg_mem (i := 799) (by decide +kernel) (by decide +kernel)
theorem kX6_87 : Cond.constantLong RX6 87 (48) ∈ wg := wg_mem (i := 834) (by decide +kernel) (by decide +kernel)
theorem kX6_89 : Cond.constantLong RX6 89 (57) ∈ wg := wg_mem (i := 835) (by decide +kernel) (by decide +kernel)
theorem kX6_140 : Cond.constantLong RX6 140 (5) ∈ wg := wg_mem (i := 884) (by decide +kernel) (by decide +kernel)
theorem kX6_181 : Cond.constantLong RX6 181 (60) ∈ wg := wg_mem (i := 927) (by decide +kernel) (by decide +kernel)
theorem kX6_190 : Cond.constantLong RX6 190 (999) ∈ wg := wg_mem (i := 958) (by decide +kernel) (by decide +kernel)
theorem kX6_230 : Cond.constantLong RX6 230 (180) ∈ wg := wg_mem (i := 1030) (by decide +kernel) (by decide +kernel)
theorem kX6_232 : Cond.constantLong RX6 232 (10) ∈ wg := wg_mem (i := 1039) (by decide +kernel) (by decide +kernel)
theorem kX6_234 : Cond.constantLong RX6 234 (9999) ∈ wg := wg_mem (i := 1044) (by decide +kernel) (by decide +kernel)
theorem kX6_236 : Cond.constantLong RX6 236 (7919) ∈ wg := wg_mem (i := 1045) (by decide +kernel) (by decide +kernel)
theorem kX6_238 : Cond.constantLong RX6 238 (6151) ∈ wg := wg_mem (i := 1046) (by decide +kernel) (by decide +kernel)
theorem kX6_240 : Cond.constantLong RX6 240 (65521) ∈ wg := wg_mem (i := 1047) (by decide +kernel) (by decide +kernel)
theorem ac_int : Cond.arrayClass .int ∈ wg := wg_mem (i := 85) (by decide +kernel) (by decide +kernel)
theorem ac_char : Cond.arrayClass .char ∈ wg := wg_mem (i := 38) (by decide +kernel) (by decide +kernel)
theorem mmax_st : Cond.static Lib.Math.max.name ∈ wg := wg_mem (i := 93) (by decide +kernel) (by decide +kernel)
theorem mmax_co : Cond.code Lib.Math.max.name Lib.Math.max.code 2 (some .int) ∈ wg := wg_mem (i := 94) (by decide +kernel) (by decide +kernel)
theorem mmin_st : Cond.static Lib.Math.min.name ∈ wg := wg_mem (i := 505) (by decide +kernel) (by decide +kernel)
theorem mmin_co : Cond.code Lib.Math.min.name Lib.Math.min.code 2 (some .int) ∈ wg := wg_mem (i := 506) (by decide +kernel) (by decide +kernel)
theorem mmath_in : Cond.initialized "java/lang/Math" ∈ wg := wg_mem (i := 5) (by decide +kernel) (by decide +kernel)
