theorem nI_z (t : Nat) : nI 0 + nI t = nI t := by rw [nI_add, Nat.zero_add]
theorem nI_m4 {k : Nat} (h : k < 2 ^ 31) : ¬ nI k = -4 := by
  intro e
  have h1 := nI_toInt h
  rw [e] at h1
  have h2 : (-4 : Int32).toInt = -4 := by decide
  omega
theorem nI_m1 {k : Nat} (h : k < 2 ^ 31) : ¬ nI k = -1 := by
  intro e
  have h1 := nI_toInt h
  rw [e] at h1
  have h2 : (-1 : Int32).toInt = -1 := by decide
  omega
/-- a town's row that is so: P persons, T tales -/
def WfT (w : Nat → Int32) (P T : Nat) : Prop := w 0 = nI P ∧ w 1 = nI T ∧ P ≤ 6 ∧ T ≤ 9 ∧ (∀ p, p < P → ∃ k, k < 4 ∧ w (2 + p) = nI k) ∧ (∀ p, p < P → ∀ i, bt (w (8 + p)) i = true → i < P ∧ i ≠ p) ∧ (∀ p q, p < P → q < P → bt (w (8 + p)) q = bt (w (8 + q)) p) ∧ (∀ t, t < T → ∃ q, q < P ∧ w (14 + t) = nI q) ∧ (∀ t, t < T → ∃ k, 1 ≤ k ∧ k ≤ 20 ∧ w (23 + t) = nI k) ∧ (∀ t, t < T → ∃ k, 1 ≤ k ∧ k ≤ 9 ∧ w (32 + t) = nI k) ∧ (∀ t, t < T → ∀ i, bt (w (41 + t)) i = true → i < P)
/-- two sit: a the first one, b the other, c is to tell -/
def Seat (s : Nat → Int32) (P T a b c : Nat) : Prop := a < P ∧ b < P ∧ a ≠ b ∧ s 10 = nI a ∧ s 11 = nI b ∧ (c = a ∨ c = b) ∧ s 12 = nI c ∧ ((s 13 = -4 ∧ s 14 = 0) ∨ ∃ t l, t < T ∧ 1 ≤ l ∧ l ≤ 9 ∧ s 13 = nI t ∧ s 14 = nI l)
def WfS (s : Nat → Int32) (P T : Nat) : Prop := (∀ t, t < T → ∀ i, bt (s t) i = true → i < P) ∧ (∀ i, bt (s 9) i = true → i < T) ∧ (∀ i, bt (s 15) i = true → i < T) ∧ ((s 10 = -4 ∧ s 13 = -4 ∧ s 14 = 0 ∧ s 15 = 0) ∨ ∃ a b c, Seat s P T a b c)
/-- the bits i below n of which f holds -/
def bsum : Nat → (Nat → Bool) → Int32
  | 0, _ => 0
  | n + 1, f => bsum n f ||| (if f n then bit1 n else 0)
theorem bt_bsum {f : Nat → Bool} : ∀ {n : Nat}, n ≤ 32 → ∀ i, bt (bsum n f) i = (decide (i < n) && f i)
  | 0, _, i => by simp [bsum, b_0]
  | n + 1, h, i => by
    rw [bsum, b_or, bt_bsum (by omega) i]
    by_cases hf : f n = true
    · rw [if_pos hf, bt_bit1 (by omega)]
      by_cases e : i = n
      · subst e; simp [hf]
      · have e1 : decide (i < n + 1) = decide (i < n) := by
          by_cases h2 : i < n
          · rw [decide_eq_true h2, decide_eq_true (by omega)]
          · rw [decide_eq_false h2, decide_eq_false (by omega)]
        rw [e1]; simp [e]
    · rw [if_neg hf, b_0]
      by_cases e : i = n
      · subst e
        have : f i = false := by simpa using hf
        simp [this]
      · have e1 : decide (i < n + 1) = decide (i < n) := by
          by_cases h2 : i < n
          · rw [decide_eq_true h2, decide_eq_true (by omega)]
          · rw [decide_eq_false h2, decide_eq_false (by omega)]
        rw [e1]; simp
theorem bsum_0 {f : Nat → Bool} {n : Nat} (hn : n ≤ 32) : bsum n f = 0 ↔ ∀ i, i < n → f i = false := by
  constructor
  · intro h i hi
    have h1 := bt_bsum (f := f) hn i
    rw [h, b_0, decide_eq_true hi] at h1
    simpa using h1.symm
  · intro h
    refine b_ext (fun i _ => ?_)
    rw [bt_bsum hn, b_0]
    by_cases hi : i < n
    · simp [h i hi]
    · simp [hi]
def canF (w s : Nat → Int32) (t a : Nat) (b : Int32) : Bool := bt (s t) a && (decide (¬ w (2 + a) = nI 1) && (!bt (s 9) t && decide (¬ w (14 + t) = b)))
def tellF (w s : Nat → Int32) (T a : Nat) (b told : Int32) : Int32 := bsum T (fun t => canF w s t a b && !bt told t)
def otherF (s : Nat → Int32) (p : Int32) : Int32 := if s 10 = p then s 11 else s 10
/-- the lowest bit of x -/
def lowN (x : Int32) : Nat := fa_first (fun i => bt x i) 32
theorem lowN_spec {x : Int32} (h : ¬ x = 0) : lowN x < 32 ∧ bt x (lowN x) = true ∧ ∀ i, i < lowN x → bt x i = false := by
  have h1 : lowN x < 32 := by
    rcases Nat.lt_or_ge (lowN x) 32 with q | q
    · exact q
    · exfalso
      apply h
      refine b_ext (fun i hi => ?_)
      rw [b_0]
      exact fa_first_no (fun i => bt x i) 32 i (by show i < lowN x; omega)
  exact ⟨h1, fa_first_yes (fun i => bt x i) 32 h1, fun i hi => fa_first_no (fun i => bt x i) 32 i hi⟩
/-- who is to tell begins, else the other one, else nobody -/
def begF (w s : Nat → Int32) (T c o : Nat) : Nat → Int32 :=
  if s 13 = -4 then
    if tellF w s T c (nI o) (s 15) = 0 then
      if tellF w s T o (nI c) (s 15) = 0 then s
      else va_up (va_up (va_up s 12 (nI o)) 13 (nI (lowN (tellF w s T o (nI c) (s 15))))) 14 (w (32 + lowN (tellF w s T o (nI c) (s 15))))
    else va_up (va_up (va_up s 12 (nI c)) 13 (nI (lowN (tellF w s T c (nI o) (s 15))))) 14 (w (32 + lowN (tellF w s T c (nI o) (s 15))))
  else s
