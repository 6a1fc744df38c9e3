/-! the class's State: what its parts say -/
theorem b_not (x : Int32) {i : Nat} (hi : i < 32) : bt (x ^^^ -1) i = !bt x i := by
  rw [b_xor, b_m1 i hi]
  cases bt x i <;> rfl
def mtV (kd ab kn : Nat → Int32) (hu x y : Int32) : Int32 := if atV kd 6 x = nI 1 then nI 0 else atV kn 6 x &&& (hu ^^^ -1) &&& (atV ab 6 y ^^^ -1)
theorem mt_tell {κ : Kp} {J : Ip} {tw P T a b : Nat} {w s K f : Nat → Int32} (hR : TwR κ J tw w P T) (hw : WfT w P T) (hS : SR K f s T) (ha : a < P) (hb : b < P) (told : Int32) : mtV (J (κ.2.1 tw 2)) (J (κ.2.1 tw 4)) K (f 1) (nI a) (nI b) &&& (told ^^^ -1) = tellF w s T a (nI b) told := by
  obtain ⟨-, -, hP, hT, -⟩ := id hw
  obtain ⟨-, -, r2, -, r4, -⟩ := hR
  obtain ⟨s0, s1, -⟩ := hS
  unfold mtV
  rw [atV_in (by omega) (by decide), atV_in (by omega) (by decide), atV_in (by omega) (by decide), r2 a ha]
  refine b_ext (fun i hi => ?_)
  unfold tellF
  rw [bt_bsum (by omega)]
  by_cases h1 : w (2 + a) = nI 1
  · rw [if_pos h1, b_and, bt_0]
    simp [canF, h1]
  · rw [if_neg h1, b_and, b_and, b_and, b_not _ hi, b_not _ hi, b_not _ hi, s0 a (by omega), s1, r4 b hb]
    unfold canF
    rw [decide_eq_true h1]
    by_cases hiT : i < T
    · rw [decide_eq_true hiT]
      by_cases e : w (14 + i) = nI b
      · simp [e]
      · simp [e, Bool.and_assoc]
    · rw [decide_eq_false hiT]
      simp
theorem mt_tell0 {κ : Kp} {J : Ip} {tw P T a b : Nat} {w s K f : Nat → Int32} (hR : TwR κ J tw w P T) (hw : WfT w P T) (hS : SR K f s T) (ha : a < P) (hb : b < P) : mtV (J (κ.2.1 tw 2)) (J (κ.2.1 tw 4)) K (f 1) (nI a) (nI b) = tellF w s T a (nI b) (nI 0) := by
  rw [← mt_tell hR hw hS ha hb]
  refine b_ext (fun i hi => ?_)
  rw [b_and, b_not _ hi, bt_0]
  simp
def lisV (f : Nat → Int32) : Int32 := if f 4 = f 2 then f 3 else f 2
def endV (f : Nat → Int32) : Nat → Int32 := va_up (va_up f 5 (-1)) 6 (nI 0)
def stdV (f : Nat → Int32) : Nat → Int32 := endV (va_up (va_up (va_up (va_up f 2 (-1)) 3 (-1)) 4 (-1)) 7 (nI 0))
/-- who is to tell begins -/
def begX (w s : Nat → Int32) (T : Nat) : Nat → Int32 := if s 10 = -4 then s else begF w s T (s 12).toNatClampNeg (otherF s (s 12)).toNatClampNeg
theorem begX_1 {w s : Nat → Int32} {T c o : Nat} (h : ¬ s 10 = -4) (h12 : s 12 = nI c) (hoc : otherF s (nI c) = nI o) (hc : c < 6) (ho : o < 6) : begX w s T = begF w s T c o := by
  unfold begX
  rw [if_neg h, h12, hoc, nI_clamp (by omega), nI_clamp (by omega)]
theorem m1_nI {k : Nat} (hk : k < 2 ^ 31) : ¬ nI k = -1 := nI_m1 hk
section SRS
variable {K f s : Nat → Int32} {P T : Nat}
theorem SR.sits (h : SR K f s T) {w : Nat → Int32} (hw : WfT w P T) (hs : WfS s P T) : f 2 = -1 ↔ s 10 = -4 := by
  obtain ⟨-, -, -, -, -, h⟩ := h
  have hP := hw.2.2.1
  rcases h with ⟨h1, h2, -⟩ | ⟨h1, h2, -⟩
  · exact ⟨fun _ => h1, fun _ => h2⟩
  · constructor
    · intro e
      rcases hs.2.2.2 with ⟨g, -⟩ | ⟨a, b, c, ha, hb, hab, h10, -⟩
      · exact g
      · rw [h2, h10] at e
        exact absurd e (nI_m1 (by omega))
    · intro e; exact absurd e h1
theorem SR.tells (h : SR K f s T) {w : Nat → Int32} (hw : WfT w P T) (hs : WfS s P T) : f 5 = -1 ↔ s 13 = -4 := by
  obtain ⟨-, -, -, -, -, h⟩ := h
  have hT := hw.2.2.2.1
  rcases h with ⟨h1, -, -, -, h5, -⟩ | ⟨h1, -, -, -, -, h5⟩
  · rcases hs.2.2.2 with ⟨-, g, -⟩ | ⟨a, b, c, ha, hb, hab, h10, -⟩
    · exact ⟨fun _ => g, fun _ => h5⟩
    · exfalso
      have := hw.2.2.1
      rw [h10] at h1
      exact nI_m4 (by omega) h1
  · rcases h5 with ⟨g, h5⟩ | ⟨g, h5⟩
    · exact ⟨fun _ => g, fun _ => h5⟩
    · constructor
      · intro e
        rcases hs.2.2.2 with ⟨-, g2, -⟩ | ⟨a, b, c, ha, hb, hab, -, -, -, -, h13⟩
        · exact g2
        · rcases h13 with ⟨g2, -⟩ | ⟨t, l, ht, -, -, g3, -⟩
          · exact g2
          · rw [h5, g3] at e
            exact absurd e (nI_m1 (by omega))
      · intro e; exact absurd e g
theorem SR.s2 (h : SR K f s T) (h10 : ¬ s 10 = -4) : f 2 = s 10 ∧ f 3 = s 11 ∧ f 4 = s 12 ∧ f 6 = s 14 ∧ (¬ s 13 = -4 → f 5 = s 13) := by
  obtain ⟨-, -, -, -, -, h⟩ := h
  rcases h with ⟨h1, -⟩ | ⟨-, h2, h3, h4, h6, h5⟩
  · exact absurd h1 h10
  · refine ⟨h2, h3, h4, h6, fun g => ?_⟩
    rcases h5 with ⟨g2, -⟩ | ⟨-, h5⟩
    · exact absurd g2 g
    · exact h5
theorem SR.lis (h : SR K f s T) (h10 : ¬ s 10 = -4) : lisV f = otherF s (s 12) := by
  obtain ⟨h2, h3, h4, -⟩ := h.s2 h10
  unfold lisV otherF
  rw [h2, h3, h4]
  by_cases e : s 12 = s 10
  · rw [if_pos e, if_pos e.symm]
  · rw [if_neg e, if_neg (fun q => e q.symm)]
/-- a tale begins -/
theorem SR.beg (h : SR K f s T) (hT : T ≤ 9) (h10 : ¬ s 10 = -4) {x y z : Int32} (hy : ¬ y = -4) : SR K (va_up (va_up (va_up f 4 x) 5 y) 6 z) (va_up (va_up (va_up s 12 x) 13 y) 14 z) T := by
  obtain ⟨h2, h3, h4, h6, h5⟩ := h.s2 h10
  obtain ⟨g0, g1, g7, g8, g9, -⟩ := h
  refine ⟨fun p hp i => ?_, ?_, ?_, ?_, ?_, Or.inr ⟨?_, ?_, ?_, ?_, ?_, Or.inr ⟨?_, ?_⟩⟩⟩
  · rw [g0 p hp i]
    by_cases e : i < T
    · rw [up_ne _ _ (by omega), up_ne _ _ (by omega), up_ne _ _ (by omega)]
    · simp [e]
  all_goals simp (disch := decide) only [up_same, up_neD] <;> assumption
theorem SR.sil (h : SR K f s T) (h10 : ¬ s 10 = -4) (h13 : s 13 = -4) (h14 : s 14 = nI 0) : SR K (va_up (va_up (va_up f 4 (f 4)) 5 (-1)) 6 (nI 0)) s T := by
  obtain ⟨h2, h3, h4, h6, h5⟩ := h.s2 h10
  obtain ⟨g0, g1, g7, g8, g9, -⟩ := h
  refine ⟨g0, ?_, ?_, ?_, ?_, Or.inr ⟨h10, ?_, ?_, ?_, ?_, Or.inl ⟨h13, ?_⟩⟩⟩
  all_goals simp (disch := decide) only [up_same, up_neD] <;> first | assumption | exact h14.symm
end SRS
theorem tell_small {w s : Nat → Int32} {T a : Nat} {b told : Int32} (hT : T ≤ 9) : ∃ k, k < 512 ∧ tellF w s T a b told = nI k := by
  obtain ⟨k, hk, e⟩ := small_nI (N := 9) (x := tellF w s T a b told) (by decide) (fun i hi => by
    unfold tellF at hi
    rw [bt_bsum (by omega)] at hi
    simp only [Bool.and_eq_true, decide_eq_true_eq] at hi
    omega)
  exact ⟨k, hk, e⟩
theorem seat_14 {s : Nat → Int32} {P T a b c : Nat} (h : Seat s P T a b c) (hT : T ≤ 9) (h13 : s 13 = -4) : s 14 = nI 0 := by
  obtain ⟨-, -, -, -, -, -, -, h⟩ := h
  rcases h with ⟨-, h⟩ | ⟨t, l, ht, -, -, g, -⟩
  · rw [h]; exact nI0.symm
  · rw [h13] at g
    exact absurd g.symm (nI_m4 (by omega))
