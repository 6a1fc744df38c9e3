section MRT
variable {κ : Kp} {m : Nat} {I J : Ip} {P T : Nat} {w s : Nat → Int32} {past kept : List (Nat → Int32)} {tx : Nat → Int32} {sz : Nat}
theorem MR.cnt5 {c : Int32} {p2 : List (Nat → Int32)} (h : MR κ m I P T w s past kept tx sz) (hl : p2.length ≤ 8) (hc : c = nI p2.length) (hB : Blk P T p2 (I (κ.2.1 m 4))) : MR κ m (va_up I m (va_up (I m) 5 c)) P T w s p2 kept tx sz := by
  have := h.pst (f := I (κ.2.1 m 4)) hl hc hB
  rw [up_self] at this
  exact this
theorem MR.cnt7 {c : Int32} {p2 : List (Nat → Int32)} (h : MR κ m I P T w s past kept tx sz) (hl : p2.length ≤ 2) (hc : c = nI p2.length) (hB : Blk P T p2 (I (κ.2.1 m 6))) : MR κ m (va_up I m (va_up (I m) 7 c)) P T w s past p2 tx sz := by
  have := h.kpt (f := I (κ.2.1 m 6)) hl hc hB
  rw [up_self] at this
  exact this
/-- the text's row and length written anew -/
theorem MR.txt {f : Nat → Int32} {c : Int32} {t2 : Nat → Int32} {z2 : Nat} (h : MR κ m I P T w s past kept tx sz) (hl : z2 ≤ 200) (hc : c = nI z2) (hf : ∀ k, k < z2 → f k = t2 k) (ht : ∀ k, k < z2 → ∃ c, 32 ≤ c ∧ c ≤ 126 ∧ t2 k = nI c) : MR κ m (va_up (va_up I (κ.2.1 m 8) f) m (va_up (I m) 9 c)) P T w s past kept t2 z2 := by
  obtain ⟨hMo, h1, h2, h3, h4, h5, h6, h7, h8, h9, h10, h11, h12, h13, h14, h15⟩ := h
  obtain ⟨hm, hm0, ⟨k0, n0⟩, ⟨k1, n1⟩, ⟨k2, n2⟩, ⟨k3, n3⟩, ⟨k4, n4⟩, ⟨k6, n6⟩, ⟨k8, n8⟩, ⟨k14, n14⟩, ⟨k15, n15⟩, ⟨k16, n16⟩, d01, d23, d614, d1516⟩ := id hMo
  have e0 : κ.2.1 m 0 ≠ m := kd_ne k0 hm (by decide)
  have e2 : κ.2.1 m 2 ≠ m := kd_ne k2 hm (by decide)
  have e4 : κ.2.1 m 4 ≠ m := kd_ne k4 hm (by decide)
  have e6 : κ.2.1 m 6 ≠ m := kd_ne k6 hm (by decide)
  have e8 : κ.2.1 m 8 ≠ m := kd_ne k8 hm (by decide)
  refine ⟨hMo, ?_, ?_, h3, h4, h5, h6, ?_, ?_, h9, ?_, ?_, hl, ?_, ?_, ht⟩
  · rw [up_ne _ _ e0, up_ne _ _ (kd_ne k0 k8 (by decide))]; exact h1
  · rw [up_ne _ _ e2, up_ne _ _ (kd_ne k2 k8 (by decide))]; exact h2
  · rw [up_same, up_ne _ _ (by decide)]; exact h7
  · rw [up_ne _ _ e4, up_ne _ _ (kd_ne k4 k8 (by decide))]; exact h8
  · rw [up_same, up_ne _ _ (by decide)]; exact h10
  · rw [up_ne _ _ e6, up_ne _ _ (kd_ne k6 k8 (by decide))]; exact h11
  · rw [up_same, up_same]; exact hc
  · rw [up_ne _ _ e8, up_same]; exact hf
theorem MR.wfp (h : MR κ m I P T w s past kept tx sz) (hl : past.length ≠ 0) : WfS (lastD past s) P T ∧ ∀ q, q < 18 → I (κ.2.1 m 4) (18 * (past.length - 1) + q) = lastD past s q := by
  obtain ⟨hMo, h1, h2, h3, h4, h5, h6, h7, h8, -⟩ := h
  have hne : past ≠ [] := fun e => hl (by rw [e]; rfl)
  have e : lastD past s = past.getLast hne := by
    unfold lastD
    rw [List.getLastD_eq_getLast?, List.getLast?_eq_some_getLast hne]
    rfl
  rw [e]
  exact h8.last hne
theorem MR.wfk (h : MR κ m I P T w s past kept tx sz) (hl : kept.length ≠ 0) : WfS (lastD kept s) P T ∧ ∀ q, q < 18 → I (κ.2.1 m 6) (18 * (kept.length - 1) + q) = lastD kept s q := by
  obtain ⟨hMo, h1, h2, h3, h4, h5, h6, h7, h8, h9, h10, h11, -⟩ := h
  have hne : kept ≠ [] := fun e => hl (by rw [e]; rfl)
  have e : lastD kept s = kept.getLast hne := by
    unfold lastD
    rw [List.getLastD_eq_getLast?, List.getLast?_eq_some_getLast hne]
    rfl
  rw [e]
  exact h11.last hne
end MRT
theorem nI_z0 {n : Nat} (hn : n < 2 ^ 31) : nI n = 0 ↔ n = 0 := by
  constructor
  · intro h
    rcases Nat.eq_zero_or_pos n with e | e
    · exact e
    · exact absurd h (nI_ne0 e hn)
  · intro h; rw [h]; exact nI0
def writeA (tx : Nat → Int32) (sz : Nat) (x : Int32) : Int32 × (Nat → Int32) × Nat :=
  if inR 32 126 x then (if sz = 200 then (-3, tx, sz) else (nI (sz + 1), va_up tx sz x, sz + 1)) else (-1, tx, sz)
