/-! the reference's object, made -/
theorem iNew_n {κ : Kp} {I : Ip} : iNew κ I κ.2.2 = fun _ => 0 := up_same _ _ _
theorem MoK_of {κ : Kp} {m b : Nat} (h : ∀ i, i < 10 → κ.1 (b + i) = kd6 i ∧ κ.2.1 m (of6 i) = b + i) (hm : κ.1 m = (6, 0)) (mz : m ≠ 0) (hb : b ≠ 0) : MoK κ m := by
  have s0 : κ.2.1 m 0 = b + 0 := (h 0 (by decide)).2
  have s1 : κ.2.1 m 1 = b + 1 := (h 1 (by decide)).2
  have s2 : κ.2.1 m 2 = b + 2 := (h 2 (by decide)).2
  have s3 : κ.2.1 m 3 = b + 3 := (h 3 (by decide)).2
  have s4 : κ.2.1 m 4 = b + 4 := (h 4 (by decide)).2
  have s5 : κ.2.1 m 6 = b + 5 := (h 5 (by decide)).2
  have s6 : κ.2.1 m 8 = b + 6 := (h 6 (by decide)).2
  have s7 : κ.2.1 m 14 = b + 7 := (h 7 (by decide)).2
  have s8 : κ.2.1 m 15 = b + 8 := (h 8 (by decide)).2
  have s9 : κ.2.1 m 16 = b + 9 := (h 9 (by decide)).2
  have w : ∀ {j i : Nat}, κ.2.1 m j = b + i → i < 10 → κ.1 (κ.2.1 m j) = kd6 i ∧ κ.2.1 m j ≠ 0 := fun hj hi => ⟨by rw [hj]; exact (h _ hi).1, by omega⟩
  exact ⟨hm, mz, w s0 (by decide), w s1 (by decide), w s2 (by decide), w s3 (by decide), w s4 (by decide), w s5 (by decide), w s6 (by decide), w s7 (by decide), w s8 (by decide), w s9 (by decide), by omega, by omega, by omega, by omega⟩
def KN (k : Nat) : Int32 := if k = 1 then nI 3 else if k = 2 then nI 1 else if k = 3 then nI 2 else if k = 4 then nI 3 else nI 0
def PB : Nat → Nat → Int32
  | 0 => fun _ => nI 0
  | i + 1 => adP (PB i) i (KN i)
theorem PB0 : ∀ i, PB i 0 = nI i
  | 0 => rfl
  | i + 1 => up_same (va_up (PB i) (2 + i) (KN i)) 0 (nI (i + 1))
def FB : Nat → Int32 := adF (adF (adF (adF (adF (adF (adF (PB 6) 0 1) 1 4) 0 2) 2 3) 3 4) 4 5) 0 5
theorem FB1 : FB 1 = nI 0 := by decide +kernel
theorem adT1 {r : Nat → Int32} {t : Nat} {x y z w : Int32} : adT r t x y z w 1 = nI (t + 1) := by show va_up _ 1 _ 1 = _; exact up_same _ _ _
def RB : Nat → Int32 := adT (adT (adT (adT (adT (adT (adT FB 0 (nI 3) (nI 6) (nI 2) (nI 1)) 1 (nI 5) (nI 9) (nI 3) (nI 3)) 2 (nI 0) (nI 4) (nI 1) (nI 16)) 3 (nI 2) (nI 12) (nI 4) (nI 2)) 4 (nI 1) (nI 3) (nI 2) (nI 40)) 5 (nI 4) (nI 7) (nI 1) (nI 1)) 6 (nI 0) (nI 8) (nI 3) (nI 8)
theorem RB_R0 : ∀ k, k < 50 → RB k = R0.1 k := by decide +kernel
