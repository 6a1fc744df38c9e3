/-! the law's own rules -/
abbrev mL (nm : String) : Md := (⟨RL, nm, "([I)Z"⟩, cL_law, 4, ret, 600000, 7302250)
def ScX (Γ : Ga) (b L : Nat) (xs : Nat → Int32) (X : Cx) : Prop := match X with
  | (_, _, _, _, s, _, _, _, _, _, _) => va_X b L xs s s.heap ∧ b < s.heap.size ∧ b < Γ.2.2
section LWR
variable {Γ : Ga} {md : Md} {X : Cx} {pc : Nat} {lv : List (Nat × Value)} {r : List Value} {κ : Kp} {I : Ip} {a a2 : Nat} {b L : Nat} {xs : Nat → Int32}
theorem g_sld {i : Nat} {x : Int32} (hX : Std Γ md X) (hSc : ScX Γ b L xs X) (hd : decode md.2.1 pc = .ok (.iaload, 1)) (hx : x = nI i) (hi : i < L) (hL : L < 2 ^ 31) (k : GW Γ md X (pc + 1) lv (.int (xs i) :: r) κ I a a2) : GW Γ md X pc lv (.int x :: .ref b :: r) κ I a a2 := by
  subst hx
  obtain ⟨p, l, e, R, s, m, args, below, meth, c, Q⟩ := X
  obtain ⟨hx, hb, -⟩ := hX
  obtain ⟨h1, h2, h3⟩ := hSc
  intro H locs ls hR hS hl
  exact va_sld hx hb h1 h2 (Nat.not_le.mpr h3) hS (vp_in_nI hi hL) hd (by rw [nI_clamp (by omega)]; exact k H locs ls hR hS hl)
theorem g_slen (hX : Std Γ md X) (hSc : ScX Γ b L xs X) (hd : decode md.2.1 pc = .ok (.arraylength, 1)) (k : GW Γ md X (pc + 1) lv (.int (nI L) :: r) κ I a a2) : GW Γ md X pc lv (.ref b :: r) κ I a a2 := by
  obtain ⟨p, l, e, R, s, m, args, below, meth, c, Q⟩ := X
  obtain ⟨hx, hb, -⟩ := hX
  obtain ⟨h1, h2, h3⟩ := hSc
  intro H locs ls hR hS hl
  exact va_slen hx hb h1 h2 (Nat.not_le.mpr h3) hS hd (k H locs ls hR hS hl)
end LWR
