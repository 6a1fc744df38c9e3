/-! what the reference's object is: its rows, apart from each other -/
def MoK (κ : Kp) (m : Nat) : Prop := κ.1 m = (6, 0) ∧ m ≠ 0 ∧ (κ.1 (κ.2.1 m 0) = (8, 50) ∧ κ.2.1 m 0 ≠ 0) ∧ (κ.1 (κ.2.1 m 1) = (8, 50) ∧ κ.2.1 m 1 ≠ 0) ∧ (κ.1 (κ.2.1 m 2) = (8, 18) ∧ κ.2.1 m 2 ≠ 0) ∧ (κ.1 (κ.2.1 m 3) = (8, 18) ∧ κ.2.1 m 3 ≠ 0) ∧ (κ.1 (κ.2.1 m 4) = (8, 144) ∧ κ.2.1 m 4 ≠ 0) ∧ (κ.1 (κ.2.1 m 6) = (8, 36) ∧ κ.2.1 m 6 ≠ 0) ∧ (κ.1 (κ.2.1 m 8) = (8, 200) ∧ κ.2.1 m 8 ≠ 0) ∧ (κ.1 (κ.2.1 m 14) = (8, 36) ∧ κ.2.1 m 14 ≠ 0) ∧ (κ.1 (κ.2.1 m 15) = (8, 6) ∧ κ.2.1 m 15 ≠ 0) ∧ (κ.1 (κ.2.1 m 16) = (8, 6) ∧ κ.2.1 m 16 ≠ 0) ∧
  κ.2.1 m 0 ≠ κ.2.1 m 1 ∧ κ.2.1 m 2 ≠ κ.2.1 m 3 ∧ κ.2.1 m 6 ≠ κ.2.1 m 14 ∧ κ.2.1 m 15 ≠ κ.2.1 m 16
theorem kd_ne {κ : Kp} {a b : Nat} {x y : Nat × Nat} (h1 : κ.1 a = x) (h2 : κ.1 b = y) (h : x ≠ y) : a ≠ b := fun e => h (by rw [← h1, ← h2, e])
/-- a town's row: a person more, friends more, a tale more -/
def adP (r : Nat → Int32) (p : Nat) (k : Int32) : Nat → Int32 := va_up (va_up r (2 + p) k) 0 (nI (p + 1))
def bit1 (j : Nat) : Int32 := nI 1 <<< (nI j &&& 31)
theorem bt_bit1 {j : Nat} (hj : j < 32) (i : Nat) : bt (bit1 j) i = decide (i = j) := bt_bit hj i
def adF (r : Nat → Int32) (a b : Nat) : Nat → Int32 := va_up (va_up r (8 + a) (r (8 + a) ||| bit1 b)) (8 + b) (va_up r (8 + a) (r (8 + a) ||| bit1 b) (8 + b) ||| bit1 a)
def adT (r : Nat → Int32) (t : Nat) (of ill tk who : Int32) : Nat → Int32 := va_up (va_up (va_up (va_up (va_up r (14 + t) of) (23 + t) ill) (32 + t) tk) (41 + t) who) 1 (nI (t + 1))
