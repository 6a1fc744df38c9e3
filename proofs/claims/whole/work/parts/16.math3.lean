theorem up_neD {α : Type} {f : Nat → α} {k j : Nat} {v : α} (h : j ≠ k) : va_up f k v j = f j := up_ne f v h
theorem tell_low {w s : Nat → Int32} {T a : Nat} {b told : Int32} (hT : T ≤ 9) (h : ¬ tellF w s T a b told = 0) : lowN (tellF w s T a b told) < T ∧ canF w s (lowN (tellF w s T a b told)) a b = true ∧ bt told (lowN (tellF w s T a b told)) = false := by
  have h1 := (lowN_spec h).2.1
  generalize lowN (tellF w s T a b told) = j at h1 ⊢
  unfold tellF at h1
  rw [bt_bsum (by omega)] at h1
  simp only [Bool.and_eq_true, decide_eq_true_eq, Bool.not_eq_true'] at h1
  exact ⟨h1.1, h1.2.1, h1.2.2⟩
/-- what a minute of the tale that is being told brings -/
def gainF (w s : Nat → Int32) : Int32 := if w (2 + (s 12).toNatClampNeg) = nI 2 then w (23 + (s 13).toNatClampNeg) / nI 2 else w (23 + (s 13).toNatClampNeg)
def outF (s : Nat → Int32) : Nat → Int32 :=
  va_up (va_up (va_up (va_up s 15 (s 15 ||| bit1 (s 13).toNatClampNeg)) 12 (otherF s (s 12))) (s 13).toNatClampNeg (s (s 13).toNatClampNeg ||| bit1 (otherF s (s 12)).toNatClampNeg)) 13 (-4)
def oneF (w s : Nat → Int32) : Nat → Int32 :=
  if s 14 - nI 1 = 0 then outF (va_up (va_up s 17 (s 17 + gainF w s)) 14 (s 14 - nI 1)) else va_up (va_up s 17 (s 17 + gainF w s)) 14 (s 14 - nI 1)
def hushB (w s : Nat → Int32) : Int32 := if w (2 + (s 10).toNatClampNeg) = nI 3 ∧ w (2 + (s 11).toNatClampNeg) = nI 3 then nI 10 else nI 0
/-- a minute -/
def minF (w : Nat → Int32) (T : Nat) (s0 : Nat → Int32) : Nat → Int32 :=
  let s := va_up s0 16 (s0 16 + nI 1)
  if s0 10 = -4 then s
  else
    let s2 := begF w s T (s 12).toNatClampNeg (otherF s (s 12)).toNatClampNeg
    if s2 13 = -4 then va_up s2 17 (s2 17 + hushB w s2) else oneF w s2
def sitF (s : Nat → Int32) (p q : Int32) : Nat → Int32 := va_up (va_up (va_up (va_up (va_up (va_up s 10 p) 11 q) 12 p) 13 (-4)) 14 (nI 0)) 15 (nI 0)
theorem nI_inj {a b : Nat} (ha : a < 2 ^ 31) (hb : b < 2 ^ 31) (h : nI a = nI b) : a = b := (nI_eq ha hb).mp h
theorem wfs_seat {w s : Nat → Int32} {P T : Nat} (hw : WfT w P T) (hs : WfS s P T) (h : ¬ s 10 = -4) : ∃ a b c o, Seat s P T a b c ∧ otherF s (nI c) = nI o ∧ otherF s (nI o) = nI c ∧ o < 6 ∧ c < 6 ∧ s 12 = nI c := by
  obtain ⟨-, -, hP, -⟩ := hw
  rcases hs.2.2.2 with ⟨e, -⟩ | ⟨a, b, c, hseat⟩
  · exact absurd e h
  obtain ⟨ha, hb, hab, h10, h11, hc, h12, -⟩ := id hseat
  have hba : ¬ nI a = nI b := fun e => hab (nI_inj (by omega) (by omega) e)
  rcases hc with rfl | rfl
  · refine ⟨c, b, c, b, hseat, ?_, ?_, by omega, by omega, h12⟩
    · simp [otherF, h10, h11]
    · simp [otherF, h10, h11, hba]
  · refine ⟨a, c, c, a, hseat, ?_, ?_, by omega, by omega, h12⟩
    · simp [otherF, h10, h11, hba]
    · simp [otherF, h10, h11]
