theorem Seat.at16 {s : Nat → Int32} {P T a b c : Nat} (h : Seat s P T a b c) (v : Int32) : Seat (va_up s 16 v) P T a b c := by
  unfold Seat at h ⊢
  simp (disch := decide) only [up_neD]
  exact h
theorem oth16 {s : Nat → Int32} {v p : Int32} : otherF (va_up s 16 v) p = otherF s p := by
  unfold otherF
  simp (disch := decide) only [up_neD]
theorem beg_seat {w s : Nat → Int32} {P T a b c o : Nat} (hw : WfT w P T) (hs : Seat s P T a b c) (hoc : otherF s (nI c) = nI o) (ho6 : o < 6) (hc6 : c < 6) : ∃ c', Seat (begF w s T c o) P T a b c' := by
  obtain ⟨ha, hb, hab, h10, h11, hc, h12, h13⟩ := id hs
  obtain ⟨-, -, hP, hT, -, -, -, -, -, hlg, -⟩ := id hw
  have ho : o = a ∨ o = b := by
    unfold otherF at hoc
    by_cases e : s 10 = nI c
    · rw [if_pos e, h11] at hoc
      exact Or.inr (nI_inj (by omega) (by omega) hoc).symm
    · rw [if_neg e, h10] at hoc
      exact Or.inl (nI_inj (by omega) (by omega) hoc).symm
  unfold begF
  by_cases e1 : s 13 = -4
  · rw [if_pos e1]
    by_cases e2 : tellF w s T c (nI o) (s 15) = 0
    · rw [if_pos e2]
      by_cases e3 : tellF w s T o (nI c) (s 15) = 0
      · rw [if_pos e3]
        exact ⟨c, hs⟩
      · rw [if_neg e3]
        have hl := (tell_low hT e3).1
        obtain ⟨k, k1, k2, k3⟩ := hlg _ hl
        refine ⟨o, ha, hb, hab, ?_, ?_, ho, ?_, Or.inr ⟨_, k, hl, k1, k2, ?_, ?_⟩⟩ <;> simp (disch := decide) only [up_same, up_neD, h10, h11, k3]
    · rw [if_neg e2]
      have hl := (tell_low hT e2).1
      obtain ⟨k, k1, k2, k3⟩ := hlg _ hl
      refine ⟨c, ha, hb, hab, ?_, ?_, hc, ?_, Or.inr ⟨_, k, hl, k1, k2, ?_, ?_⟩⟩ <;> simp (disch := decide) only [up_same, up_neD, h10, h11, k3]
  · rw [if_neg e1]
    exact ⟨c, hs⟩
theorem min_0 {w s : Nat → Int32} {T : Nat} (h : s 10 = -4) : minF w T s = va_up s 16 (s 16 + nI 1) := by
  unfold minF
  simp only [h, if_true]
theorem min_1 {w s : Nat → Int32} {T c o : Nat} (h : ¬ s 10 = -4) (h12 : s 12 = nI c) (hoc : otherF s (nI c) = nI o) (hc : c < 6) (ho : o < 6) : minF w T s = (if begF w (va_up s 16 (s 16 + nI 1)) T c o 13 = -4 then va_up (begF w (va_up s 16 (s 16 + nI 1)) T c o) 17 (begF w (va_up s 16 (s 16 + nI 1)) T c o 17 + hushB w (begF w (va_up s 16 (s 16 + nI 1)) T c o)) else oneF w (begF w (va_up s 16 (s 16 + nI 1)) T c o)) := by
  unfold minF
  simp (disch := decide) only [up_neD, oth16, h12, hoc]
  rw [nI_clamp (show c < 2 ^ 31 by omega), nI_clamp (show o < 2 ^ 31 by omega), if_neg h]
theorem othD {s : Nat → Int32} {k : Nat} {v p : Int32} (h : k ≠ 10 ∧ k ≠ 11) : otherF (va_up s k v) p = otherF s p := by
  unfold otherF
  rw [up_ne _ _ (Ne.symm h.1), up_ne _ _ (Ne.symm h.2)]
theorem seat_oth {s : Nat → Int32} {P T a b c : Nat} (h : Seat s P T a b c) (hP : P ≤ 6) : ∃ o, otherF s (nI c) = nI o ∧ otherF s (nI o) = nI c ∧ o < P ∧ (o = a ∨ o = b) ∧ o ≠ c := by
  obtain ⟨ha, hb, hab, h10, h11, hc, h12, -⟩ := h
  have hba : ¬ nI a = nI b := fun e => hab (nI_inj (by omega) (by omega) e)
  rcases hc with rfl | rfl
  · exact ⟨b, by simp [otherF, h10, h11], by simp [otherF, h10, h11, hba], hb, Or.inr rfl, Ne.symm hab⟩
  · exact ⟨a, by simp [otherF, h10, h11, hba], by simp [otherF, h10, h11], ha, Or.inl rfl, hab⟩
