/-! what was said: the class asks all sets of nine, the reference those of the town's tales -/
theorem tell_lt {w s : Nat → Int32} {T a : Nat} {b told : Int32} (hT : T ≤ 9) {i : Nat} (h : bt (tellF w s T a b told) i = true) : i < T := by
  unfold tellF at h
  rw [bt_bsum (by omega)] at h
  simp only [Bool.and_eq_true, decide_eq_true_eq] at h
  omega
theorem said_stay {w s : Nat → Int32} {T a : Nat} {b told y : Int32} (hT : T ≤ 9) : ∀ j, 2 ^ T + j ≤ 512 → saidF w T (tellF w s T a b told) y (2 ^ T + j) = saidF w T (tellF w s T a b told) y (2 ^ T)
  | 0, _ => rfl
  | j + 1, h => by
    have ih := said_stay (w := w) (s := s) (a := a) (b := b) (told := told) (y := y) hT j (by omega)
    have hno : ¬ subB (2 ^ T + j) (tellF w s T a b told) = true := by
      intro e
      have e2 := (sub_bt (by omega)).mp (of_decide_eq_true e)
      have h3 : 2 ^ T + j < 2 ^ T := Nat.lt_pow_two_of_testBit _ (fun i hi => by
        cases hb : (2 ^ T + j).testBit i with
        | false => rfl
        | true =>
          have := tell_lt hT (e2 i hb)
          omega)
      omega
    show saidF w T (tellF w s T a b told) y ((2 ^ T + j) + 1) = _
    rw [saidF, if_neg (fun e => hno e.1)]
    exact ih
theorem said_512 {w s : Nat → Int32} {T a : Nat} {b told y : Int32} (hT : T ≤ 9) : saidF w T (tellF w s T a b told) y 512 = saidF w T (tellF w s T a b told) y (2 ^ T) := by
  have h512 : 2 ^ T ≤ 512 := Nat.pow_le_pow_right (n := 2) (j := 9) (by decide) hT
  obtain ⟨j, hj⟩ : ∃ j, 512 = 2 ^ T + j := ⟨512 - 2 ^ T, by omega⟩
  rw [hj]
  exact said_stay hT j (by omega)
