/-! the class's object and the reference's beside one another -/
def Ap (κ : Kp) (c m : Nat) : Prop := m = c + 52 ∧ ∀ i, i < 10 → κ.2.1 m (of6 i) = m + 1 + i
section LWA
variable {κ κ' : Kp} {c m : Nat} {I J : Ip} {P T : Nat} {w s : Nat → Int32} {past kept : List (Nat → Int32)} {tx : Nat → Int32} {sz : Nat}
theorem CR.cg (h : CR κ c I P T w s past kept tx sz) (hJ : ∀ a, c ≤ a → a < c + 52 → J a = I a) : CR κ c J P T w s past kept tx sz := by
  obtain ⟨hC, h1, h2, h3, h4, h5, h6, h7, h8, h9, h10⟩ := h
  have ht := hC.two
  refine ⟨hC, ?_, h2, h3, ?_, h5, ?_, h7, ?_, h9, ?_⟩
  · exact hC.twfr hC.tw6 h1 (fun a a1 a2 => hJ a (by rcases ht with ⟨e, -⟩ | ⟨e, -⟩ <;> omega) (by rcases ht with ⟨e, -⟩ | ⟨e, -⟩ <;> omega))
  · rw [hJ (c + 4) (by omega) (by omega), hJ (c + 3) (by omega) (by omega)]; exact h4
  · exact hC.pfr h6 h7 (by rw [hJ (c + 7) (by omega) (by omega)]) (fun a a1 a2 => hJ a (by omega) (by omega))
  · exact hC.kfr h8 h9 (by rw [hJ (c + 25) (by omega) (by omega)]) (fun a a1 a2 => hJ a (by omega) (by omega))
  · exact hC.tfr h10 (by rw [hJ (c + 1) (by omega) (by omega)]) (hJ (c + 2) (by omega) (by omega))
theorem Ap.rows (h : Ap κ c m) : κ.2.1 m 0 = m + 1 ∧ κ.2.1 m 1 = m + 2 ∧ κ.2.1 m 2 = m + 3 ∧ κ.2.1 m 3 = m + 4 ∧ κ.2.1 m 4 = m + 5 ∧ κ.2.1 m 6 = m + 6 ∧ κ.2.1 m 8 = m + 7 ∧ κ.2.1 m 14 = m + 8 ∧ κ.2.1 m 15 = m + 9 ∧ κ.2.1 m 16 = m + 10 :=
  ⟨h.2 0 (by decide), h.2 1 (by decide), h.2 2 (by decide), h.2 3 (by decide), h.2 4 (by decide), h.2 5 (by decide), h.2 6 (by decide), h.2 7 (by decide), h.2 8 (by decide), h.2 9 (by decide)⟩
theorem MOut.lo (h : MOut κ m I J) (hA : Ap κ c m) : ∀ a, c ≤ a → a < c + 52 → J a = I a := by
  obtain ⟨e0, e1, e2, e3, e4, e5, e6, e7, e8, e9⟩ := hA.rows
  have hm := hA.1
  intro a _ ha
  exact h a (by omega) (by omega) (by omega) (by omega) (by omega) (by omega) (by omega) (by omega) (by omega) (by omega) (by omega)
theorem Ap.kf (hA : Ap κ c m) (hk : KF c κ κ') : Ap κ' c m := by
  have e := hk.2.2 m (Or.inr (by have := hA.1; omega))
  refine ⟨hA.1, fun i hi => ?_⟩
  rw [e]
  exact hA.2 i hi
theorem MR.kf (h : MR κ m I P T w s past kept tx sz) (hA : Ap κ c m) (hk : KF c κ κ') (hJ : COut c I J) : MR κ' m J P T w s past kept tx sz := by
  have e := hk.2.2 m (Or.inr (by have := hA.1; omega))
  have e1 := hk.1
  obtain ⟨r0, r1, r2, r3, r4, r5, r6, r7, r8, r9⟩ := hA.rows
  have hm := hA.1
  have hj : ∀ a, m ≤ a → J a = I a := fun a ha => hJ a (Or.inr (by omega))
  obtain ⟨h0, h1, h2, h3, h4, h5, h6, h7, h8, h9, h10, h11, h12, h13, h14, h15⟩ := h
  refine ⟨?_, ?_, ?_, h3, h4, h5, h6, ?_, ?_, h9, ?_, ?_, h12, ?_, ?_, h15⟩
  · unfold MoK at h0 ⊢
    rw [e1, e]
    exact h0
  · rw [e, hj _ (by omega)]; exact h1
  · rw [e, hj _ (by omega)]; exact h2
  · rw [hj m (Nat.le_refl _)]; exact h7
  · rw [e, hj _ (by omega)]; exact h8
  · rw [hj m (Nat.le_refl _)]; exact h10
  · rw [e, hj _ (by omega)]; exact h11
  · rw [hj m (Nat.le_refl _)]; exact h13
  · rw [e, hj _ (by omega)]; exact h14
end LWA
/-- the two objects hold the same -/
def Inv (κ : Kp) (I : Ip) (c m : Nat) : Prop := Ap κ c m ∧ ∃ (P T : Nat) (w s : Nat → Int32) (past kept : List (Nat → Int32)) (tx : Nat → Int32) (sz : Nat), CR κ c I P T w s past kept tx sz ∧ MR κ m I P T w s past kept tx sz
theorem and31 (x : Int32) : ∃ k, k < 32 ∧ x &&& nI 31 = nI k := by
  obtain ⟨k, hk, e⟩ := small_nI (N := 5) (x := x &&& nI 31) (by decide) (fun i hi => by
    rw [b_and] at hi
    simp only [Bool.and_eq_true] at hi
    rcases Nat.lt_or_ge i 32 with h | h
    · rw [bt_nI (by decide) h] at hi
      rcases Nat.lt_or_ge i 5 with h5 | h5
      · exact h5
      · rw [Nat.testBit_lt_two_pow (Nat.lt_of_lt_of_le (show 31 < 2 ^ 5 by decide) (Nat.pow_le_pow_right (by decide) h5))] at hi
        exact absurd hi.2 (by decide)
    · rw [b_big h] at hi
      exact absurd hi.1 (by decide))
  exact ⟨k, hk, e⟩
theorem sub7 {L i : Nat} (hL : L ≤ 448) (hi : i ≤ 1000) : nI L - nI 7 < nI i ↔ L < i + 7 := by
  have e1 : (nI L).toInt = (L : Int) := nI_toInt (by omega)
  have e2 : (nI 7).toInt = ((7 : Nat) : Int) := nI_toInt (by decide)
  have e3 : (nI i).toInt = (i : Int) := nI_toInt (by omega)
  rw [Int32.lt_iff_toInt_lt, fb_subI (by omega) (by omega), e1, e2, e3]
  omega
