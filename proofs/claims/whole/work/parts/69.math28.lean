/-! acts of the class: small words -/
theorem sp_X1_popIntoB {Γ : Ga} {d : Nat} {κ : Kp} {I : Ip} {Q : Option Value → Kp → Ip → Prop} {sh n x P T : Nat} {l : List (Nat → Int32)} {s : Nat → Int32} (hK : ShK κ sh n) (hn : n < 1000) (hSh : ShR κ I sh P T l) (hx : Bes κ sh n x) (hl : l.length ≤ n) (hq : ∀ (t : Bool) (J : Ip), (t = false → l.length = 0 ∧ J = I) → (t = true → l.length ≠ 0 ∧ ShR κ J sh P T l.dropLast ∧ WfS (lastD l s) P T ∧ SR (J (x + 1)) (J x) (lastD l s) T ∧ (∀ a, a ≠ sh → a ≠ x → a ≠ x + 1 → J a = I a)) → Q (some (.int (b2i t))) κ J) : Sp Γ (d + 2) mX1_popInto [.ref sh, .ref x] κ I Q :=
  sp_X1_popInto (s := s) hK hn hSh hx hl (fun h => hq false I (fun _ => ⟨h, rfl⟩) (fun e => (by cases e))) (fun h J h1 h2 h3 h4 => hq true J (fun e => (by cases e)) (fun _ => ⟨h, h1, h2, h3, h4⟩))
theorem pushN_len {n : Nat} {l : List (Nat → Int32)} {s : Nat → Int32} (h : l.length ≤ n) (hn : 1 ≤ n) : (pushN n l s).length ≤ n := by
  unfold pushN
  rw [List.length_append]
  split
  · next e => rw [List.length_tail]; show _ + 1 ≤ n; omega
  · next e => show _ + 1 ≤ n; omega
theorem sst_f {κ : Kp} {st : Nat} {I : Ip} {f : Nat → Int32} : va_up I st f = sst κ st I (I (κ.2.1 st 0)) f := by unfold sst; rw [up_self]
theorem SR.tale {K f s : Nat → Int32} {P T t : Nat} (h : SR K f s T) {w : Nat → Int32} (hw : WfT w P T) (hs : WfS s P T) (ht : t < T) : (!bt (f 1) t && decide (¬ f 5 = nI t)) = mayB s t := by
  have hT := hw.2.2.2.1
  unfold mayB
  rw [h.2.1]
  congr 1
  refine decide_eq_decide.mpr ?_
  by_cases h13 : s 13 = -4
  · have e := (h.tells hw hs).mpr h13
    rw [e, h13]
    exact ⟨fun _ => Or.inr (fun e => nI_m4 (by omega) e.symm), fun _ e => nI_m1 (by omega) e.symm⟩
  · obtain ⟨h10, -⟩ := seat_all hw hs h13
    have e := (h.s2 h10).2.2.2.2 h13
    rw [e]
    exact ⟨fun z => Or.inr z, fun z => z.resolve_left h10⟩
