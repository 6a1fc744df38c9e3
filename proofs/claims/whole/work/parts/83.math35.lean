/-! what makes cells: rows of an object, one behind the other -/
theorem fwX3_9 : Cond.fieldLink RX3 9 RX3 "letters" "[C" ∈ wg := wg_mem (i := 28) (by decide +kernel) (by decide +kernel)
theorem fwX2_9 : Cond.fieldLink RX2 9 RX2 "knows" "[I" ∈ wg := wg_mem (i := 45) (by decide +kernel) (by decide +kernel)
theorem fwX1_15 : Cond.fieldLink RX1 15 RX1 "states" "[LChurnTalk$State;" ∈ wg := wg_mem (i := 98) (by decide +kernel) (by decide +kernel)
theorem fwX0_9 : Cond.fieldLink RX0 9 RX0 "butter" "[I" ∈ wg := wg_mem (i := 111) (by decide +kernel) (by decide +kernel)
theorem fwX0_15 : Cond.fieldLink RX0 15 RX0 "mostOf" "[I" ∈ wg := wg_mem (i := 112) (by decide +kernel) (by decide +kernel)
theorem fwX0_18 : Cond.fieldLink RX0 18 RX0 "mateOfLowest" "[I" ∈ wg := wg_mem (i := 113) (by decide +kernel) (by decide +kernel)
theorem fwX0_21 : Cond.fieldLink RX0 21 RX0 "mates" "[I" ∈ wg := wg_mem (i := 114) (by decide +kernel) (by decide +kernel)
theorem fwX4_9 : Cond.fieldLink RX4 9 RX4 "kinds" "[I" ∈ wg := wg_mem (i := 135) (by decide +kernel) (by decide +kernel)
theorem fwX4_15 : Cond.fieldLink RX4 15 RX4 "friends" "[I" ∈ wg := wg_mem (i := 137) (by decide +kernel) (by decide +kernel)
theorem fwX4_18 : Cond.fieldLink RX4 18 RX4 "talesAbout" "[I" ∈ wg := wg_mem (i := 138) (by decide +kernel) (by decide +kernel)
theorem fwX4_21 : Cond.fieldLink RX4 21 RX4 "knownAtFirst" "[I" ∈ wg := wg_mem (i := 140) (by decide +kernel) (by decide +kernel)
theorem fwX4_24 : Cond.fieldLink RX4 24 RX4 "subjects" "[I" ∈ wg := wg_mem (i := 142) (by decide +kernel) (by decide +kernel)
theorem fwX4_27 : Cond.fieldLink RX4 27 RX4 "ills" "[I" ∈ wg := wg_mem (i := 143) (by decide +kernel) (by decide +kernel)
theorem fwX4_30 : Cond.fieldLink RX4 30 RX4 "minutes" "[I" ∈ wg := wg_mem (i := 144) (by decide +kernel) (by decide +kernel)
theorem fwX5_10 : Cond.fieldLink RX5 10 RX5 "text" "LChurnTalk$Text;" ∈ wg := wg_mem (i := 320) (by decide +kernel) (by decide +kernel)
theorem fwX5_19 : Cond.fieldLink RX5 19 RX5 "now" "LChurnTalk$State;" ∈ wg := wg_mem (i := 321) (by decide +kernel) (by decide +kernel)
theorem fwX5_23 : Cond.fieldLink RX5 23 RX5 "ahead" "LChurnTalk$State;" ∈ wg := wg_mem (i := 322) (by decide +kernel) (by decide +kernel)
theorem fwX5_31 : Cond.fieldLink RX5 31 RX5 "past" "LChurnTalk$Shelf;" ∈ wg := wg_mem (i := 323) (by decide +kernel) (by decide +kernel)
theorem fwX5_35 : Cond.fieldLink RX5 35 RX5 "kept" "LChurnTalk$Shelf;" ∈ wg := wg_mem (i := 324) (by decide +kernel) (by decide +kernel)
theorem fwX5_41 : Cond.fieldLink RX5 41 RX5 "pairing" "LChurnTalk$Pairing;" ∈ wg := wg_mem (i := 325) (by decide +kernel) (by decide +kernel)
theorem fwX5_48 : Cond.fieldLink RX5 48 RX5 "town" "LChurnTalk$Town;" ∈ wg := wg_mem (i := 326) (by decide +kernel) (by decide +kernel)
theorem fwX5_52 : Cond.fieldLink RX5 52 RX5 "spare" "LChurnTalk$Town;" ∈ wg := wg_mem (i := 327) (by decide +kernel) (by decide +kernel)
theorem fwX6_7 : Cond.fieldLink RX6 7 RX6 "town" "[I" ∈ wg := wg_mem (i := 742) (by decide +kernel) (by decide +kernel)
theorem fwX6_13 : Cond.fieldLink RX6 13 RX6 "read" "[I" ∈ wg := wg_mem (i := 743) (by decide +kernel) (by decide +kernel)
theorem fwX6_16 : Cond.fieldLink RX6 16 RX6 "now" "[I" ∈ wg := wg_mem (i := 744) (by decide +kernel) (by decide +kernel)
theorem fwX6_19 : Cond.fieldLink RX6 19 RX6 "aside" "[I" ∈ wg := wg_mem (i := 745) (by decide +kernel) (by decide +kernel)
theorem fwX6_22 : Cond.fieldLink RX6 22 RX6 "past" "[I" ∈ wg := wg_mem (i := 746) (by decide +kernel) (by decide +kernel)
theorem fwX6_25 : Cond.fieldLink RX6 25 RX6 "kept" "[I" ∈ wg := wg_mem (i := 748) (by decide +kernel) (by decide +kernel)
theorem fwX6_28 : Cond.fieldLink RX6 28 RX6 "text" "[I" ∈ wg := wg_mem (i := 750) (by decide +kernel) (by decide +kernel)
theorem fwX6_31 : Cond.fieldLink RX6 31 RX6 "bring" "[I" ∈ wg := wg_mem (i := 756) (by decide +kernel) (by decide +kernel)
theorem fwX6_34 : Cond.fieldLink RX6 34 RX6 "with" "[I" ∈ wg := wg_mem (i := 757) (by decide +kernel) (by decide +kernel)
theorem fwX6_37 : Cond.fieldLink RX6 37 RX6 "bestWith" "[I" ∈ wg := wg_mem (i := 758) (by decide +kernel) (by decide +kernel)
section KN
variable {κ : Kp} {I : Ip} {kd : Nat × Nat} {a : Nat}
theorem kNew_k (h : a ≠ κ.2.2) : (kNew κ kd).1 a = κ.1 a := up_ne _ _ h
theorem kNew_n : (kNew κ kd).1 κ.2.2 = kd := up_same _ _ _
theorem kNew_r (h : a ≠ κ.2.2) : (kNew κ kd).2.1 a = κ.2.1 a := up_ne _ _ h
theorem iNew_a (h : a ≠ κ.2.2) : iNew κ I a = I a := up_ne _ _ h
end KN
def kRow (κ : Kp) (x j : Nat) (kd : Nat × Nat) : Kp := ((kNew κ kd).1, va_up (kNew κ kd).2.1 x (va_up ((kNew κ kd).2.1 x) j κ.2.2), (kNew κ kd).2.2)
/-- x has got m rows -/
def GrP (κ0 κ : Kp) (x m : Nat) (kd : Nat → Nat × Nat) (off : Nat → Nat) (I0 I : Ip) : Prop := κ.2.2 = κ0.2.2 + m ∧ (∀ a, a < κ0.2.2 → κ.1 a = κ0.1 a ∧ I a = I0 a ∧ (a ≠ x → κ.2.1 a = κ0.2.1 a)) ∧ ∀ i, i < m → κ.1 (κ0.2.2 + i) = kd i ∧ κ.2.1 x (off i) = κ0.2.2 + i
theorem GrP.rf {κ : Kp} {x : Nat} {kd : Nat → Nat × Nat} {off : Nat → Nat} {I : Ip} : GrP κ κ x 0 kd off I I := ⟨rfl, fun _ _ => ⟨rfl, rfl, fun _ => rfl⟩, fun i hi => absurd hi (Nat.not_lt_zero _)⟩
theorem GrP.step {κ0 κ : Kp} {x m : Nat} {kd : Nat → Nat × Nat} {off : Nat → Nat} {I0 I : Ip} {K : Nat × Nat} {o : Nat} (h : GrP κ0 κ x m kd off I0 I) (hx : x < κ0.2.2) (ho : off m = o) (hof : ∀ i, i < m → off i ≠ o) (hk : kd m = K) : GrP κ0 (kRow κ x o K) x (m + 1) kd off I0 (iNew κ I) := by
  obtain ⟨h1, h2, h3⟩ := h
  refine ⟨by show κ.2.2 + 1 = _; omega, fun a ha => ⟨?_, ?_, fun hax => ?_⟩, fun i hi => ?_⟩
  · show (kNew κ K).1 a = _
    rw [kNew_k (by omega)]; exact (h2 a ha).1
  · rw [iNew_a (by omega)]; exact (h2 a ha).2.1
  · show va_up (kNew κ K).2.1 x _ a = _
    rw [up_ne _ _ hax, kNew_r (by omega)]; exact (h2 a ha).2.2 hax
  · show (kNew κ K).1 _ = _ ∧ va_up (kNew κ K).2.1 x (va_up ((kNew κ K).2.1 x) o κ.2.2) x (off i) = _
    rw [up_same]
    by_cases e : i = m
    · subst e
      rw [← h1, kNew_n, ho, up_same]
      exact ⟨hk.symm, rfl⟩
    · obtain ⟨g1, g2⟩ := h3 i (by omega)
      rw [kNew_k (by omega), up_ne _ _ (hof i (by omega)), kNew_r (by omega)]
      exact ⟨g1, g2⟩
theorem GrP.k {κ0 κ : Kp} {x m : Nat} {kd : Nat → Nat × Nat} {off : Nat → Nat} {I0 I : Ip} {K : Nat × Nat} (h : GrP κ0 κ x m kd off I0 I) (hx : x < κ0.2.2) (hk : κ0.1 x = K) : κ.1 x = K := ((h.2.1 x hx).1).trans hk
def kd0 (i : Nat) : Nat × Nat := if i = 0 then (8, 36) else if i = 3 then (8, 6) else (8, 64)
def kd4 (i : Nat) : Nat × Nat := if i < 4 then (8, 6) else (8, 9)
def kd6 (i : Nat) : Nat × Nat := if i < 2 then (8, 50) else if i < 4 then (8, 18) else if i = 4 then (8, 144) else if i = 5 then (8, 36) else if i = 6 then (8, 200) else if i = 7 then (8, 36) else (8, 6)
def of6 (i : Nat) : Nat := if i < 5 then i else if i = 5 then 6 else if i = 6 then 8 else i + 7