theorem wfs_up {s : Nat → Int32} {P T k : Nat} {v : Int32} (hT : T ≤ 9) (h : WfS s P T) (hk : k = 16 ∨ k = 17) : WfS (va_up s k v) P T := by
  obtain ⟨h1, h2, h3, h4⟩ := h
  have e : ∀ j, j < 16 → va_up s k v j = s j := fun j hj => up_ne _ _ (by omega)
  refine ⟨fun t ht i hi => h1 t ht i (by rw [e t (by omega)] at hi; exact hi), fun i hi => h2 i (by rw [e 9 (by omega)] at hi; exact hi), fun i hi => h3 i (by rw [e 15 (by omega)] at hi; exact hi), ?_⟩
  unfold Seat at h4 ⊢
  rw [e 10 (by omega), e 11 (by omega), e 12 (by omega), e 13 (by omega), e 14 (by omega), e 15 (by omega)]
  exact h4
theorem beg_keep {w s : Nat → Int32} {T c o k : Nat} (hk : k ≠ 12 ∧ k ≠ 13 ∧ k ≠ 14) : begF w s T c o k = s k := by
  unfold begF
  by_cases e1 : s 13 = -4
  · rw [if_pos e1]
    by_cases e2 : tellF w s T c (nI o) (s 15) = 0
    · rw [if_pos e2]
      by_cases e3 : tellF w s T o (nI c) (s 15) = 0
      · rw [if_pos e3]
      · rw [if_neg e3, up_ne _ _ hk.2.2, up_ne _ _ hk.2.1, up_ne _ _ hk.1]
    · rw [if_neg e2, up_ne _ _ hk.2.2, up_ne _ _ hk.2.1, up_ne _ _ hk.1]
  · rw [if_neg e1]
theorem wfs_beg {w s : Nat → Int32} {P T a b c o : Nat} (hw : WfT w P T) (h : WfS s P T) (hs : Seat s P T a b c) (hoc : otherF s (nI c) = nI o) (ho6 : o < 6) (hc6 : c < 6) : WfS (begF w s T c o) P T := by
  obtain ⟨c', h'⟩ := beg_seat hw hs hoc ho6 hc6
  have hT := hw.2.2.2.1
  obtain ⟨h1, h2, h3, -⟩ := h
  exact ⟨fun t ht i hi => h1 t ht i (by rw [beg_keep (by omega)] at hi; exact hi), fun i hi => h2 i (by rw [beg_keep (by omega)] at hi; exact hi), fun i hi => h3 i (by rw [beg_keep (by omega)] at hi; exact hi), Or.inr ⟨a, b, c', h'⟩⟩
theorem wfs_min {w s : Nat → Int32} {P T : Nat} (hw : WfT w P T) (h : WfS s P T) : WfS (minF w T s) P T := by
  obtain ⟨-, -, hP, hT, -⟩ := id hw
  by_cases h10 : s 10 = -4
  · rw [min_0 h10]
    exact wfs_up hT h (Or.inl rfl)
  · obtain ⟨a, b, c, o, hseat, hoc, hco, ho6, hc6, h12⟩ := wfs_seat hw h h10
    rw [min_1 h10 h12 hoc hc6 ho6]
    have hb := wfs_beg hw (wfs_up (k := 16) (v := s 16 + nI 1) hT h (Or.inl rfl)) (hseat.at16 _) (by rw [oth16]; exact hoc) ho6 hc6
    obtain ⟨c2, hseat2⟩ := beg_seat hw (hseat.at16 (s 16 + nI 1)) (o := o) (by rw [oth16]; exact hoc) ho6 hc6
    generalize begF w (va_up s 16 (s 16 + nI 1)) T c o = S2 at hb hseat2 ⊢
    by_cases h13 : S2 13 = -4
    · rw [if_pos h13]
      exact wfs_up hT hb (Or.inr rfl)
    · rw [if_neg h13]
      obtain ⟨o2, ho2, hco2, ho2P, hoab, hoc2⟩ := seat_oth hseat2 hP
      obtain ⟨ha, hb', hab, g10, g11, gc, g12, h1314⟩ := id hseat2
      obtain ⟨t, l, ht, hl1, hl9, g13, g14⟩ := h1314.resolve_left (fun e => h13 e.1)
      obtain ⟨b1, b2, b3, -⟩ := hb
      unfold oneF
      rw [g14]
      by_cases hl : nI l - nI 1 = 0
      · rw [if_pos hl, outF]
        simp (disch := decide) only [up_same, up_neD, othD, g12, g13, ho2]
        rw [nI_clamp (show t < 2 ^ 31 by omega), nI_clamp (show o2 < 2 ^ 31 by omega)]
        have l1 : l = 1 := by
          have e : nI l - nI 1 = nI (l - 1) := by
            rw [show l = (l - 1) + 1 by omega, nI1]; exact nI_pred _
          rw [e] at hl
          rcases Nat.eq_zero_or_pos (l - 1) with q | q
          · omega
          · exact absurd hl (nI_ne0 q (by omega))
        subst l1
        refine ⟨fun t' ht' i hi => ?_, fun i hi => ?_, fun i hi => ?_, Or.inr ⟨a, b, o2, ha, hb', hab, ?_, ?_, hoab, ?_, Or.inl ⟨?_, ?_⟩⟩⟩
        · rw [up_ne _ _ (by omega)] at hi
          by_cases e : t' = t
          · subst e
            rw [up_same, b_or] at hi
            try simp (disch := omega) only [up_neD] at hi
            simp only [Bool.or_eq_true] at hi
            rcases hi with hi | hi
            · exact b1 t' ht' i hi
            · rw [bt_bit1 (by omega), decide_eq_true_eq] at hi
              omega
          · rw [up_ne _ _ e, up_ne _ _ (by omega), up_ne _ _ (by omega), up_ne _ _ (by omega), up_ne _ _ (by omega)] at hi
            exact b1 t' ht' i hi
        · rw [up_ne _ _ (by omega), up_ne _ _ (by omega), up_ne _ _ (by omega), up_ne _ _ (by omega), up_ne _ _ (by omega), up_ne _ _ (by omega)] at hi
          exact b2 i hi
        · rw [up_ne _ _ (by omega), up_ne _ _ (by omega), up_ne _ _ (by omega), up_same, b_or] at hi
          simp only [Bool.or_eq_true] at hi
          rcases hi with hi | hi
          · exact b3 i hi
          · rw [bt_bit1 (by omega), decide_eq_true_eq] at hi
            omega
        · rw [up_ne _ _ (by omega), up_ne _ _ (by omega), up_ne _ _ (by omega), up_ne _ _ (by omega), up_ne _ _ (by omega), up_ne _ _ (by omega)]; exact g10
        · rw [up_ne _ _ (by omega), up_ne _ _ (by omega), up_ne _ _ (by omega), up_ne _ _ (by omega), up_ne _ _ (by omega), up_ne _ _ (by omega)]; exact g11
        · rw [up_ne _ _ (by omega), up_ne _ _ (by omega), up_same]
        · rw [up_same]
        · rw [up_ne _ _ (by omega), up_ne _ _ (by omega), up_ne _ _ (by omega), up_ne _ _ (by omega), up_same]; exact hl
      · rw [if_neg hl]
        have e : nI l - nI 1 = nI (l - 1) := by
          rw [show l = (l - 1) + 1 by omega, nI1]; exact nI_pred _
        have l2 : 2 ≤ l := by
          rcases Nat.lt_or_ge l 2 with q | q
          · exfalso; apply hl; rw [e, show l - 1 = 0 by omega, nI0]
          · exact q
        rw [e]
        refine ⟨fun t' ht' i hi => b1 t' ht' i ?_, fun i hi => b2 i ?_, fun i hi => b3 i ?_, Or.inr ⟨a, b, c2, ha, hb', hab, ?_, ?_, gc, ?_, Or.inr ⟨t, l - 1, ht, by omega, by omega, ?_, ?_⟩⟩⟩
        · rw [up_ne _ _ (by omega), up_ne _ _ (by omega)] at hi; exact hi
        · rw [up_ne _ _ (by omega), up_ne _ _ (by omega)] at hi; exact hi
        · rw [up_ne _ _ (by omega), up_ne _ _ (by omega)] at hi; exact hi
        · rw [up_ne _ _ (by omega), up_ne _ _ (by omega)]; exact g10
        · rw [up_ne _ _ (by omega), up_ne _ _ (by omega)]; exact g11
        · rw [up_ne _ _ (by omega), up_ne _ _ (by omega)]; exact g12
        · rw [up_ne _ _ (by omega), up_ne _ _ (by omega)]; exact g13
        · rw [up_same]
def itF (w : Nat → Int32) (T : Nat) : Nat → (Nat → Int32) → (Nat → Int32)
  | 0, s => s
  | n + 1, s => minF w T (itF w T n s)
theorem wfs_it {w s : Nat → Int32} {P T : Nat} (hw : WfT w P T) (h : WfS s P T) : ∀ n, WfS (itF w T n s) P T
  | 0 => h
  | n + 1 => wfs_min hw (wfs_it hw h n)
theorem itF_add {w s : Nat → Int32} {T : Nat} (m : Nat) : ∀ n, itF w T (m + n) s = itF w T n (itF w T m s)
  | 0 => rfl
  | n + 1 => by rw [← Nat.add_assoc, itF, itF, itF_add m n]
/-- what two who sit down now bring in n minutes -/
def brS (s : Nat → Int32) (a b : Nat) (h : Int32) : Nat → Int32 := va_up (va_up (sitF s (nI a) (nI b)) 9 h) 17 (nI 0)
theorem wfs_brS {w s : Nat → Int32} {P T a b : Nat} {h : Int32} (hw : WfT w P T) (hs : WfS s P T) (ha : a < P) (hb : b < P) (hab : a ≠ b) (hh : ∀ i, bt h i = true → i < T) : WfS (brS s a b h) P T := by
  obtain ⟨-, -, hP, hT, -⟩ := id hw
  obtain ⟨h1, h2, h3, -⟩ := hs
  unfold brS sitF
  refine ⟨fun t ht i hi => h1 t ht i ?_, fun i hi => hh i ?_, fun i hi => ?_, Or.inr ⟨a, b, a, ha, hb, hab, ?_, ?_, Or.inl rfl, ?_, Or.inl ⟨?_, ?_⟩⟩⟩
  · rw [up_ne _ _ (by omega), up_ne _ _ (by omega), up_ne _ _ (by omega), up_ne _ _ (by omega), up_ne _ _ (by omega), up_ne _ _ (by omega), up_ne _ _ (by omega), up_ne _ _ (by omega)] at hi; exact hi
  · rw [up_ne _ _ (by omega), up_same] at hi; exact hi
  · simp (disch := decide) only [up_same, up_neD] at hi
    rw [nI0, b_0] at hi
    cases hi
  · simp (disch := decide) only [up_same, up_neD]
  · simp (disch := decide) only [up_same, up_neD]
  · simp (disch := decide) only [up_same, up_neD]
  · simp (disch := decide) only [up_same, up_neD]
  · simp (disch := decide) only [up_same, up_neD]; exact nI0
def brF (w s : Nat → Int32) (T a b n : Nat) (h : Int32) : Int32 := itF w T n (brS s a b h) 17
section GX
variable {Γ : Ga} {md : Md} {X : Cx} {pc : Nat} {lv lv' : List (Nat × Value)} {r : List Value} {κ : Kp} {I : Ip} {a b : Nat}
/-- a row's places beyond its length say nothing -/
theorem g_ext {x n : Nat} {f : Nat → Int32} (hk : κ.1 x = (8, n)) (h : ∀ k, k < n → I x k = f k) (K : GW Γ md X pc lv r κ (va_up I x f) a b) : GW Γ md X pc lv r κ I a b := by
  obtain ⟨p, l, e, R, s, m, args, below, meth, c, Q⟩ := X
  intro H locs ls hR hS hl
  refine K H locs ls (hR.upI rfl (fun _ _ => rfl) ?_) hS hl
  have hc := hR.2.2 x
  rw [hk] at hc ⊢
  refine ⟨fun r1 hr1 => (by simp [vwCl] at hr1), fun e => (by cases e), fun _ => ?_, fun e => (by cases e)⟩
  rw [hc.2.2.1 rfl]
  simp only [arrV]
  congr 2
  exact congrArg Array.ofFn (funext fun j => by rw [h j.val j.isLt])
theorem g_extC {x n : Nat} {f : Nat → Int32} (hk : κ.1 x = (7, n)) (h : ∀ k, k < n → I x k = f k) (K : GW Γ md X pc lv r κ (va_up I x f) a b) : GW Γ md X pc lv r κ I a b := by
  obtain ⟨p, l, e, R, s, m, args, below, meth, c, Q⟩ := X
  intro H locs ls hR hS hl
  refine K H locs ls (hR.upI rfl (fun _ _ => rfl) ?_) hS hl
  have hc := hR.2.2 x
  rw [hk] at hc ⊢
  refine ⟨fun r1 hr1 => (by simp [vwCl] at hr1), fun _ => ?_, fun e => (by cases e), fun e => (by cases e)⟩
  rw [hc.2.1 rfl]
  simp only [arrV]
  congr 2
  exact congrArg Array.ofFn (funext fun j => by rw [h j.val j.isLt])
end GX
