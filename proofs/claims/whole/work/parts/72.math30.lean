theorem or_and0 {x y z : Int32} : (x ||| y) &&& z = 0 ↔ x &&& z = 0 ∧ y &&& z = 0 := by
  constructor
  · intro h
    have hb : ∀ i, bt ((x ||| y) &&& z) i = false := fun i => by rw [h, b_0]
    refine ⟨b_ext (fun i _ => ?_), b_ext (fun i _ => ?_)⟩
    · have := hb i
      rw [b_and, b_or] at this
      rw [b_and, b_0]
      cases h1 : bt x i <;> cases h2 : bt y i <;> cases h3 : bt z i <;> simp_all
    · have := hb i
      rw [b_and, b_or] at this
      rw [b_and, b_0]
      cases h1 : bt x i <;> cases h2 : bt y i <;> cases h3 : bt z i <;> simp_all
  · rintro ⟨h1, h2⟩
    refine b_ext (fun i _ => ?_)
    have a1 : bt (x &&& z) i = false := by rw [h1, b_0]
    have a2 : bt (y &&& z) i = false := by rw [h2, b_0]
    rw [b_and] at a1 a2
    rw [b_and, b_or, b_0]
    cases h1 : bt x i <;> cases h2 : bt y i <;> cases h3 : bt z i <;> simp_all
/-- silence, as the State says it -/
theorem sr_silB {κ : Kp} {J : Ip} {tw P T : Nat} {w s K f : Nat → Int32} (hR : TwR κ J tw w P T) (hw : WfT w P T) (hs : WfS s P T) (hS : SR K f s T) (h10 : ¬ s 10 = -4) : decide (¬ f 2 = -1 ∧ f 5 = -1 ∧ (mtV (J (κ.2.1 tw 2)) (J (κ.2.1 tw 4)) K (f 1) (f 2) (f 3) ||| mtV (J (κ.2.1 tw 2)) (J (κ.2.1 tw 4)) K (f 1) (f 3) (f 2)) &&& (f 7 ^^^ -1) = 0) = silB w s T := by
  have hP := hw.2.2.1
  obtain ⟨a, b, c, hseat⟩ := hs.2.2.2.resolve_left (fun e => h10 e.1)
  obtain ⟨ha, hb, hab, e10, e11, -⟩ := id hseat
  obtain ⟨f2, f3, -⟩ := hS.s2 h10
  unfold silB
  refine decide_eq_decide.mpr ?_
  rw [hS.tells hw hs, or_and0, f2, f3, hS.2.2.1, e10, e11, mt_tell hR hw hS ha hb, mt_tell hR hw hS hb ha, nI_clamp (by omega), nI_clamp (by omega)]
  exact ⟨fun h => h.2, fun h => ⟨nI_m1 (by omega), h⟩⟩
theorem much_mx {w s : Nat → Int32} {P T n t : Nat} (hw : WfT w P T) (hs : WfS s P T) (hn : n ≤ 60) (ht : t < T) : ∃ k, k ≤ 1200 ∧ muchF w s P T n t = nI k ∧ mxF (wbX (lkF w) (fun x y => brF w s T x y n (s 9 ||| bit1 t))) (rowsL P P) = nI k := by
  have hP := hw.2.2.1
  have hT := hw.2.2.2.1
  have hh : ∀ i, bt (s 9 ||| bit1 t) i = true → i < T := fun i hi => by
    rw [b_or, bt_bit1 (by omega)] at hi
    simp only [Bool.or_eq_true, decide_eq_true_eq] at hi
    rcases hi with h | h
    · exact hs.2.1 i h
    · omega
  have hb := br_B hw hs hn hh
  unfold muchF
  rcases mx_fnd hP hb (rowsL P P) (fun p hp => mem_rowsL P hp) with ⟨-, e1, e2, -⟩ | ⟨k, x, hk, -, e1, e2, -⟩
  · exact ⟨0, by decide, by rw [e1]; rfl, e2⟩
  · exact ⟨k, hk, by rw [e2]; exact if_neg (nI_m4 (by omega)), e1⟩
/-- the class's answer to best -/
theorem best_fw {w s : Nat → Int32} {P T n : Nat} (hw : WfT w P T) (hs : WfS s P T) (hn : n ≤ 60) : ∃ k, k ≤ 1200 ∧ mxF (wbX (lkF w) (fun x y => brF w s T x y n (s 9))) (rowsL P P) = nI k ∧ ((fndF (lkF w) (fun x y => brF w s T x y n (s 9)) (rowsL P P) = (-4, -4) ∧ fwF (wbX (lkF w) (fun x y => brF w s T x y n (s 9))) (nI k) (rowsL P P) = -4) ∨ (fndF (lkF w) (fun x y => brF w s T x y n (s 9)) (rowsL P P) = (fwF (wbX (lkF w) (fun x y => brF w s T x y n (s 9))) (nI k) (rowsL P P), nI k) ∧ ¬ fwF (wbX (lkF w) (fun x y => brF w s T x y n (s 9))) (nI k) (rowsL P P) = -4)) := by
  have hP := hw.2.2.1
  have hb := br_B hw hs hn hs.2.1
  rcases mx_fnd hP hb (rowsL P P) (fun p hp => mem_rowsL P hp) with ⟨-, e1, e2, e3⟩ | ⟨k, x, hk, hx, e1, e2, e3, -⟩
  · exact ⟨0, by decide, e2, Or.inl ⟨e1, fw_none e3⟩⟩
  · have hxP := mem_rowsL P hx
    refine ⟨k, hk, e1, Or.inr ?_⟩
    rw [fw_some e3]
    exact ⟨e2, nI_m4 (by omega)⟩
