abbrev inN (n : Nat) (x : Int32) : Prop := 0 ≤ x.toInt ∧ x.toInt < (n : Int)
theorem inN_of {n : Nat} {x : Int32} (h : inN n x) : ∃ j, j < n ∧ x = nI j := by
  obtain ⟨h1, h2⟩ := h
  obtain ⟨j, hj, rfl⟩ := nI_of (x := x) (fun q => by rw [Int32.lt_iff_toInt_lt, Int32.toInt_zero] at q; omega)
  rw [nI_toInt hj] at h2
  exact ⟨j, by omega, rfl⟩
theorem inN_nI {n j : Nat} (hj : j < n) (h : j < 2 ^ 31) : inN n (nI j) := by
  show 0 ≤ (nI j).toInt ∧ (nI j).toInt < (n : Int)
  rw [nI_toInt h]
  omega
abbrev inR (lo hi : Nat) (x : Int32) : Prop := (lo : Int) ≤ x.toInt ∧ x.toInt ≤ (hi : Int)
theorem inR_of {lo hi : Nat} {x : Int32} (h : inR lo hi x) : ∃ j, lo ≤ j ∧ j ≤ hi ∧ x = nI j := by
  obtain ⟨h1, h2⟩ := h
  obtain ⟨j, hj, rfl⟩ := nI_of (x := x) (fun q => by rw [Int32.lt_iff_toInt_lt, Int32.toInt_zero] at q; omega)
  rw [nI_toInt hj] at h1 h2
  exact ⟨j, by omega, by omega, rfl⟩
theorem l32 (x : Int32) : x.toInt64.toInt = x.toInt := Int32.toInt_toInt64 x
theorem nI_p1 {P : Nat} (hP : P < 100) : (nI P - nI 1).toInt = (P : Int) - 1 := by
  have h1 := nI_toInt (show P < 2 ^ 31 by omega)
  have h2 := nI_toInt (show 1 < 2 ^ 31 by omega)
  rw [fb_subI (by rw [h1, h2]; omega) (by rw [h1, h2]; omega), h1, h2]
  rfl
theorem dec_iff {a b : Prop} [Decidable a] [Decidable b] (h : a ↔ b) : b2i (decide a) = b2i (decide b) := congrArg b2i (decide_eq_decide.mpr h)
theorem nI_subE {a b k : Nat} (h : a = k + b) (_ : a < 2 ^ 31) : nI a - nI b = nI k := by
  subst h
  rw [← nI_add]
  exact Int32.add_sub_cancel _ _
