/-- k minutes of one tale, or of silence, or with nobody there -/
def stepX (w : Nat → Int32) (k : Nat) (s : Nat → Int32) : Nat → Int32 :=
  if s 10 = -4 then s
  else if s 13 = -4 then va_up s 17 (s 17 + nI k * hushB w s)
  else if s 14 - nI k = 0 then outF (va_up (va_up s 17 (s 17 + nI k * gainF w s)) 14 (s 14 - nI k))
  else va_up (va_up s 17 (s 17 + nI k * gainF w s)) 14 (s 14 - nI k)
theorem lisV_up {f : Nat → Int32} {k : Nat} {v : Int32} (h : k ≠ 2 ∧ k ≠ 3 ∧ k ≠ 4) : lisV (va_up f k v) = lisV f := by
  unfold lisV
  rw [up_ne _ _ (Ne.symm h.1), up_ne _ _ (Ne.symm h.2.1), up_ne _ _ (Ne.symm h.2.2)]
theorem outF_1 {s : Nat → Int32} {t o : Nat} (h13 : s 13 = nI t) (ho : otherF s (s 12) = nI o) (ht : t < 9) (ho6 : o < 6) : outF s = va_up (va_up (va_up (va_up s 15 (s 15 ||| bit1 t)) 12 (nI o)) t (s t ||| bit1 o)) 13 (-4) := by
  unfold outF
  rw [h13, ho, nI_clamp (by omega), nI_clamp (by omega)]
theorem SR.adv {K f s : Nat → Int32} {T : Nat} (h : SR K f s T) (hT : T ≤ 9) (h10 : ¬ s 10 = -4) {x y : Int32} : SR K (va_up (va_up f 9 x) 6 y) (va_up (va_up s 17 x) 14 y) T := by
  obtain ⟨h2, h3, h4, h6, h5⟩ := h.s2 h10
  obtain ⟨g0, g1, g7, g8, g9, g⟩ := h
  rcases g with ⟨g, -⟩ | ⟨-, -, -, -, -, g⟩
  · exact absurd g h10
  refine ⟨fun p hp i => ?_, ?_, ?_, ?_, ?_, Or.inr ⟨?_, ?_, ?_, ?_, ?_, ?_⟩⟩
  · rw [g0 p hp i]
    by_cases e : i < T
    · rw [up_ne _ _ (by omega), up_ne _ _ (by omega)]
    · simp [e]
  all_goals simp (disch := decide) only [up_same, up_neD] <;> assumption
theorem SR.but {K f s : Nat → Int32} {T : Nat} (h : SR K f s T) (hT : T ≤ 9) {x : Int32} : SR K (va_up f 9 x) (va_up s 17 x) T := by
  obtain ⟨g0, g1, g7, g8, g9, g⟩ := h
  refine ⟨fun p hp i => ?_, ?_, ?_, ?_, ?_, ?_⟩
  · rw [g0 p hp i]
    by_cases e : i < T
    · rw [up_ne _ _ (by omega)]
    · simp [e]
  all_goals simp (disch := decide) only [up_same, up_neD] <;> assumption
theorem SR.mns {K f s : Nat → Int32} {T : Nat} (h : SR K f s T) (hT : T ≤ 9) {x : Int32} : SR K (va_up f 8 x) (va_up s 16 x) T := by
  obtain ⟨g0, g1, g7, g8, g9, g⟩ := h
  refine ⟨fun p hp i => ?_, ?_, ?_, ?_, ?_, ?_⟩
  · rw [g0 p hp i]
    by_cases e : i < T
    · rw [up_ne _ _ (by omega)]
    · simp [e]
  all_goals simp (disch := decide) only [up_same, up_neD] <;> assumption
theorem SR.out {K f s : Nat → Int32} {T t o : Nat} (h : SR K f s T) (hT : T ≤ 9) (h10 : ¬ s 10 = -4) (h13 : s 13 = nI t) (h14 : s 14 = nI 0) (ho : otherF s (s 12) = nI o) (ht : t < T) (ho6 : o < 6) : SR (va_up K o (K o ||| bit1 t)) (endV (va_up (va_up f 7 (f 7 ||| bit1 t)) 4 (nI o))) (outF s) T := by
  obtain ⟨h2, h3, h4, h6, h5⟩ := h.s2 h10
  obtain ⟨g0, g1, g7, g8, g9, g⟩ := h
  rw [outF_1 h13 ho (by omega) ho6]
  unfold endV
  refine ⟨fun p hp i => ?_, ?_, ?_, ?_, ?_, Or.inr ⟨?_, ?_, ?_, ?_, ?_, Or.inl ⟨?_, ?_⟩⟩⟩
  · by_cases hi : i < T
    · rw [up_ne _ _ (show i ≠ 13 by omega)]
      have e12 : va_up (va_up (va_up s 15 (s 15 ||| bit1 t)) 12 (nI o)) t (s t ||| bit1 o) i = if i = t then s t ||| bit1 o else s i := by
        by_cases e : i = t
        · subst e; rw [up_same, if_pos rfl]
        · rw [up_ne _ _ e, up_ne _ _ (by omega), up_ne _ _ (by omega), if_neg e]
      rw [e12]
      by_cases e1 : p = o
      · subst e1
        rw [up_same, b_or, g0 p hp i, bt_bit1 (by omega)]
        by_cases e2 : i = t
        · subst e2
          rw [if_pos rfl, b_or, bt_bit1 (by omega)]
          simp [hi]
        · rw [if_neg e2]
          simp [e2]
      · rw [up_ne _ _ e1, g0 p hp i]
        by_cases e2 : i = t
        · subst e2
          rw [if_pos rfl, b_or, bt_bit1 (by omega)]
          simp [e1]
        · rw [if_neg e2]
    · rw [decide_eq_false hi]
      by_cases e1 : p = o
      · subst e1
        rw [up_same, b_or, g0 p hp i, bt_bit1 (by omega), decide_eq_false hi]
        have : ¬ i = t := by omega
        simp [this]
      · rw [up_ne _ _ e1, g0 p hp i, decide_eq_false hi]
        simp
  · rw [up_ne _ _ (by decide), up_ne _ _ (by decide), up_ne _ _ (by decide), up_ne _ _ (by decide), up_ne _ _ (by decide), up_ne _ _ (by omega), up_ne _ _ (by decide), up_ne _ _ (by decide)]; exact g1
  · rw [up_ne _ _ (by decide), up_ne _ _ (by decide), up_ne _ _ (by decide), up_same, up_ne _ _ (by decide), up_ne _ _ (by omega), up_ne _ _ (by decide), up_same, g7]
  · rw [up_ne _ _ (by decide), up_ne _ _ (by decide), up_ne _ _ (by decide), up_ne _ _ (by decide), up_ne _ _ (by decide), up_ne _ _ (by omega), up_ne _ _ (by decide), up_ne _ _ (by decide)]; exact g8
  · rw [up_ne _ _ (by decide), up_ne _ _ (by decide), up_ne _ _ (by decide), up_ne _ _ (by decide), up_ne _ _ (by decide), up_ne _ _ (by omega), up_ne _ _ (by decide), up_ne _ _ (by decide)]; exact g9
  · rw [up_ne _ _ (by decide), up_ne _ _ (by omega), up_ne _ _ (by decide), up_ne _ _ (by decide)]; exact h10
  · rw [up_ne _ _ (by decide), up_ne _ _ (by decide), up_ne _ _ (by decide), up_ne _ _ (by decide), up_ne _ _ (by decide), up_ne _ _ (by omega), up_ne _ _ (by decide), up_ne _ _ (by decide)]; exact h2
  · rw [up_ne _ _ (by decide), up_ne _ _ (by decide), up_ne _ _ (by decide), up_ne _ _ (by decide), up_ne _ _ (by decide), up_ne _ _ (by omega), up_ne _ _ (by decide), up_ne _ _ (by decide)]; exact h3
  · rw [up_ne _ _ (by decide), up_ne _ _ (by decide), up_same, up_ne _ _ (by decide), up_ne _ _ (by omega), up_same]
  · rw [up_same, up_ne _ _ (by decide), up_ne _ _ (by omega), up_ne _ _ (by decide), up_ne _ _ (by decide)]; exact h14.symm
  · rw [up_same]
  · rw [up_ne _ _ (by decide), up_same]
/-- of who sits and what is told -/
theorem seat_all {w s : Nat → Int32} {P T : Nat} (hw : WfT w P T) (hs : WfS s P T) (h13 : ¬ s 13 = -4) : ¬ s 10 = -4 ∧ ∃ a b c o t l, Seat s P T a b c ∧ otherF s (s 12) = nI o ∧ o < P ∧ c < P ∧ s 12 = nI c ∧ t < T ∧ 1 ≤ l ∧ l ≤ 9 ∧ s 13 = nI t ∧ s 14 = nI l := by
  have hP := hw.2.2.1
  have h10 : ¬ s 10 = -4 := fun e => by
    rcases hs.2.2.2 with ⟨-, g, -⟩ | ⟨a, b, c, ha, hb, hab, h10, -⟩
    · exact h13 g
    · rw [h10] at e; exact nI_m4 (by omega) e
  refine ⟨h10, ?_⟩
  rcases hs.2.2.2 with ⟨g, -⟩ | ⟨a, b, c, hseat⟩
  · exact absurd g h10
  obtain ⟨o, ho, -, hoP, -⟩ := seat_oth hseat hP
  obtain ⟨ha, hb, hab, g10, g11, gc, g12, g13⟩ := id hseat
  obtain ⟨t, l, ht, hl1, hl9, e13, e14⟩ := g13.resolve_left (fun e => h13 e.1)
  exact ⟨a, b, c, o, t, l, hseat, by rw [g12]; exact ho, hoP, by rcases gc with rfl | rfl <;> assumption, g12, ht, hl1, hl9, e13, e14⟩
theorem gain_1 {w s : Nat → Int32} {c t : Nat} (h12 : s 12 = nI c) (h13 : s 13 = nI t) (hc : c < 6) (ht : t < 9) : gainF w s = if w (2 + c) = nI 2 then w (23 + t) / nI 2 else w (23 + t) := by
  unfold gainF
  rw [h12, h13, nI_clamp (by omega), nI_clamp (by omega)]
theorem hush_1 {w s : Nat → Int32} {a b : Nat} (h10 : s 10 = nI a) (h11 : s 11 = nI b) (ha : a < 6) (hb : b < 6) : hushB w s = if w (2 + a) = nI 3 ∧ w (2 + b) = nI 3 then nI 10 else nI 0 := by
  unfold hushB
  rw [h10, h11, nI_clamp (by omega), nI_clamp (by omega)]
theorem mul_nI0 (k : Nat) : nI k * nI 0 = nI 0 := by rw [nI_mul, Nat.mul_zero]
theorem up_mid {α : Type} {I : Nat → α} {a b : Nat} {f g h : α} (hab : a ≠ b) : va_up (va_up (va_up I a f) b g) a h = va_up (va_up I b g) a h := by
  rw [up_comm _ _ _ hab, up_up, up_comm _ _ _ (Ne.symm hab)]
theorem nI_gt0 {n : Nat} (h : n < 2 ^ 31) : 0 < nI n ↔ 0 < n := by
  rw [Int32.lt_iff_toInt_lt, nI_toInt h, Int32.toInt_zero]
  omega
