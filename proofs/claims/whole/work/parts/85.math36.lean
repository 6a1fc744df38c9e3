/-! the Shelf as it is made -/
def ShB (κ0 κ : Kp) (x n i : Nat) (I0 I : Ip) : Prop := κ.2.2 = κ0.2.2 + 1 + 2 * i ∧ (∀ a, a < κ0.2.2 → κ.1 a = κ0.1 a ∧ (a ≠ x → I a = I0 a ∧ κ.2.1 a = κ0.2.1 a)) ∧ κ.1 κ0.2.2 = (9, n) ∧ κ.2.1 x 0 = κ0.2.2 ∧ ∀ j, j < i → κ.1 (κ0.2.2 + 1 + 2 * j) = (2, 0) ∧ κ.1 (κ0.2.2 + 2 + 2 * j) = (8, 6) ∧ κ.2.1 κ0.2.2 j = κ0.2.2 + 1 + 2 * j ∧ κ.2.1 (κ0.2.2 + 1 + 2 * j) 0 = κ0.2.2 + 2 + 2 * j
theorem ShB.step {κ0 κ κ2 : Kp} {x n i : Nat} {I0 I J : Ip} (h : ShB κ0 κ x n i I0 I) (hx : x < κ0.2.2) (e1 : κ2.2.2 = (kNew κ (2, 0)).2.2 + 1) (e2 : ∀ a, a < (kNew κ (2, 0)).2.2 → κ2.1 a = (kNew κ (2, 0)).1 a ∧ (a ≠ κ.2.2 → J a = iNew κ I a ∧ κ2.2.1 a = (kNew κ (2, 0)).2.1 a)) (e3 : κ2.1 (kNew κ (2, 0)).2.2 = (8, 6)) (e4 : κ2.2.1 κ.2.2 0 = (kNew κ (2, 0)).2.2) : ShB κ0 (κ2.1, va_up κ2.2.1 κ0.2.2 (va_up (κ2.2.1 κ0.2.2) i κ.2.2), κ2.2.2) x n (i + 1) I0 J := by
  obtain ⟨h1, h2, h3, h4, h5⟩ := h
  have en : (kNew κ (2, 0)).2.2 = κ.2.2 + 1 := rfl
  rw [en] at e1 e2 e3 e4
  have ek : ∀ a, a < κ.2.2 → κ2.1 a = κ.1 a := fun a ha => by rw [(e2 a (by omega)).1, kNew_k (by omega)]
  have er : ∀ a, a < κ.2.2 → κ2.2.1 a = κ.2.1 a := fun a ha => by rw [((e2 a (by omega)).2 (by omega)).2, kNew_r (by omega)]
  have ei : ∀ a, a < κ.2.2 → J a = I a := fun a ha => by rw [((e2 a (by omega)).2 (by omega)).1, iNew_a (by omega)]
  have eA : ∀ a, a ≠ κ0.2.2 → va_up κ2.2.1 κ0.2.2 (va_up (κ2.2.1 κ0.2.2) i κ.2.2) a = κ2.2.1 a := fun a ha => up_ne _ _ ha
  refine ⟨by show κ2.2.2 = _; omega, fun a ha => ⟨?_, fun hax => ⟨?_, ?_⟩⟩, ?_, ?_, fun j hj => ?_⟩
  · show κ2.1 a = _
    rw [ek a (by omega)]; exact (h2 a ha).1
  · rw [ei a (by omega)]; exact ((h2 a ha).2 hax).1
  · show va_up κ2.2.1 κ0.2.2 _ a = _
    rw [eA a (by omega), er a (by omega)]; exact ((h2 a ha).2 hax).2
  · show κ2.1 _ = _
    rw [ek _ (by omega)]; exact h3
  · show va_up κ2.2.1 κ0.2.2 _ x 0 = _
    rw [eA x (by omega), er x (by omega)]; exact h4
  · show κ2.1 _ = _ ∧ κ2.1 _ = _ ∧ va_up κ2.2.1 κ0.2.2 _ κ0.2.2 j = _ ∧ va_up κ2.2.1 κ0.2.2 _ _ 0 = _
    rw [up_same, eA (κ0.2.2 + 1 + 2 * j) (by omega)]
    by_cases e : j = i
    · subst e
      rw [up_same, show κ0.2.2 + 1 + 2 * j = κ.2.2 by omega, show κ0.2.2 + 2 + 2 * j = κ.2.2 + 1 by omega]
      exact ⟨by rw [(e2 _ (by omega)).1, kNew_n], e3, rfl, e4⟩
    · obtain ⟨g1, g2, g3, g4⟩ := h5 j (by omega)
      rw [up_ne _ _ e, ek _ (by omega), ek _ (by omega), er _ (by omega), er _ (by omega)]
      exact ⟨g1, g2, g3, g4⟩
