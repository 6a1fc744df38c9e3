/-! the class's object: towns swapped, small words -/
theorem sp_X3_addB {Γ : Ga} {d : Nat} {κ : Kp} {I : Ip} {Q : Option Value → Kp → Ip → Prop} {x sz c : Nat} (hO : TxO κ x) (h1 : I x 1 = nI sz) (hsz : sz ≤ 200) (hc : c ≤ 126) (hq : ∀ (t : Bool) (J : Ip), (t = true → sz < 200 ∧ J = va_up (va_up I (κ.2.1 x 0) (va_up (I (κ.2.1 x 0)) sz (nI c))) x (va_up (I x) 1 (nI (sz + 1)))) → (t = false → sz = 200 ∧ J = I) → Q (some (.int (b2i t))) κ J) : Sp Γ d mX3_add [.ref x, .int (nI c)] κ I Q :=
  sp_X3_add hO h1 hsz hc (fun h => hq false I (fun e => (by cases e)) (fun _ => ⟨h, rfl⟩)) (fun h => hq true _ (fun _ => ⟨h, rfl⟩) (fun e => (by cases e)))
def fltA (o : Option Nat) : Int32 := match o with | none => -1 | some a => nI a
theorem flt_m1 {tx : Nat → Int32} {sz : Nat} (hsz : sz ≤ 200) : fltA (flt0 tx sz).1 = -1 ↔ (flt0 tx sz).1 = none := by
  cases h : (flt0 tx sz).1 with
  | none => exact ⟨fun _ => rfl, fun _ => rfl⟩
  | some a => exact ⟨fun e => absurd e (nI_m1 (flt_lt hsz h)), fun e => by cases e⟩
theorem faultA_no {tx : Nat → Int32} {sz : Nat} (h : (flt0 tx sz).1 = none) : faultA tx sz = -4 := by unfold faultA; rw [h]
theorem faultA_yes {tx : Nat → Int32} {sz : Nat} (h : ¬ (flt0 tx sz).1 = none) : faultA tx sz = fltA (flt0 tx sz).1 := by
  unfold faultA fltA
  cases h2 : (flt0 tx sz).1 with
  | none => exact absurd h2 h
  | some a => rfl
theorem rd_cfr {κ : Kp} {c sp : Nat} {I J : Ip} (hL : TwL κ sp) (h : RdF κ (c + 1) sp I J) : CFr c sp I J :=
  ⟨fun a _ _ _ a4 a5 => h.1 a a5 (by omega) (fun k k1 k2 => by rw [hL.2 k k1 k2]; omega), h.2⟩
theorem CK.swap {κ : Kp} {c : Nat} (h : CK κ c) : CK (kR κ c (va_up (va_up (κ.2.1 c) 6 (κ.2.1 c 7)) 7 (κ.2.1 c 6))) c := by
  obtain ⟨h0, h1, a0, a1, a2, a3, a4, a5, a6, b1, b7, b25, b31, btw, bst, p8, p26⟩ := h
  have e : ∀ a g, a ≠ c → (kR κ c g).2.1 a = κ.2.1 a := fun a g ha => kR_ne ha
  refine ⟨h0, h1, ?_, ?_, ?_, ?_, ?_, ?_, ?_, ?_, ?_, ?_, fun k hk => ?_, fun k k1 k2 => ?_, fun j hj hk => ?_, ?_, ?_⟩
  · rw [kR_A]; exact a0
  · rw [kR_A]; exact a1
  · rw [kR_A]; exact a2
  · rw [kR_A]; exact a3
  · rw [kR_A]; exact a4
  · rw [kR_A]; exact a5
  · rw [kR_A]
    show TwoT c (κ.2.1 c 7) (κ.2.1 c 6)
    rcases a6 with ⟨x, y⟩ | ⟨x, y⟩
    · exact Or.inr ⟨y, x⟩
    · exact Or.inl ⟨y, x⟩
  · rw [e (c + 1) _ (by omega)]; exact b1
  · rw [e (c + 7) _ (by omega)]; exact b7
  · rw [e (c + 25) _ (by omega)]; exact b25
  · rw [e (c + 31) _ (by omega)]; exact b31 k hk
  · rw [e (c + 36) _ (by omega), e (c + 44) _ (by omega)]; exact btw k k1 k2
  · have hj8 : j ≠ 0 := fun e => by subst e; exact absurd hk (by decide)
    rw [e (c + j) _ (by omega)]; exact bst j hj hk
  · rw [e (c + 8) _ (by omega)]; exact p8
  · rw [e (c + 26) _ (by omega)]; exact p26
theorem SR.seated {K f s : Nat → Int32} {P T : Nat} {x : Int32} (h : SR K f s T) {w : Nat → Int32} (hw : WfT w P T) (hs : WfS s P T) : decide (¬ f 2 = -1 ∧ (x = f 2 ∨ x = f 3)) = decide (¬ s 10 = -4 ∧ (s 10 = x ∨ s 11 = x)) := by
  refine decide_eq_decide.mpr ?_
  rw [h.sits hw hs]
  constructor
  · rintro ⟨h1, h2⟩
    obtain ⟨f2, f3, -⟩ := h.s2 h1
    rw [f2, f3] at h2
    exact ⟨h1, h2.elim (fun e => Or.inl e.symm) (fun e => Or.inr e.symm)⟩
  · rintro ⟨h1, h2⟩
    obtain ⟨f2, f3, -⟩ := h.s2 h1
    rw [f2, f3]
    exact ⟨h1, h2.elim (fun e => Or.inl e.symm) (fun e => Or.inr e.symm)⟩
theorem Sep_of {κ : Kp} {c st tw : Nat} (hL : TwL κ tw) (h : κ.2.1 st 0 < c + 36) (ht : c + 36 ≤ tw) : Sep κ st tw := fun k k1 k2 => by
  rw [hL.2 k k1 k2]
  omega
theorem TwoT.lo {c tw sp : Nat} (h : TwoT c tw sp) : c + 36 ≤ tw ∧ c + 36 ≤ sp ∧ tw + 7 < c + 52 ∧ sp + 7 < c + 52 := by
  rcases h with ⟨a, b⟩ | ⟨a, b⟩ <;> omega
