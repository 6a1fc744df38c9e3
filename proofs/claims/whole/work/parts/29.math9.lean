def firstI (N : Nat) (f : Nat → Bool) : Int32 := if fa_first f N < N then nI (fa_first f N) else -4
theorem first_at {N k : Nat} {f : Nat → Bool} (hk : k < N) (h : f k = true) (hb : ∀ i, i < k → f i = false) : firstI N f = nI k := by
  have h1 : fa_first f N ≤ k := by
    rcases Nat.lt_or_ge k (fa_first f N) with q | q
    · have := fa_first_no f N k q
      rw [h] at this
      cases this
    · exact q
  have h2 := fa_first_yes f N (by omega)
  have h3 : fa_first f N = k := by
    rcases Nat.lt_or_ge (fa_first f N) k with q | q
    · rw [hb _ q] at h2
      cases h2
    · omega
  rw [firstI, h3, if_pos hk]
theorem first_no {N : Nat} {f : Nat → Bool} (hb : ∀ i, i < N → f i = false) : firstI N f = -4 := by
  rw [firstI, if_neg]
  intro h
  have h2 := fa_first_yes f N h
  rw [hb _ h] at h2
  cases h2
theorem min_keep {w s : Nat → Int32} {P T k : Nat} (hw : WfT w P T) (hs : WfS s P T) (hk : k = 9 ∨ k = 10 ∨ k = 11) : minF w T s k = s k := by
  obtain ⟨-, -, hP, hT, -⟩ := id hw
  by_cases h10 : s 10 = -4
  · rw [min_0 h10, up_ne _ _ (by omega)]
  · obtain ⟨a, b, c, o, hseat, hoc, hco, ho6, hc6, h12⟩ := wfs_seat hw hs h10
    rw [min_1 h10 h12 hoc hc6 ho6]
    obtain ⟨c2, hseat2⟩ := beg_seat hw (hseat.at16 (s 16 + nI 1)) (o := o) (by rw [oth16]; exact hoc) ho6 hc6
    have hkp : begF w (va_up s 16 (s 16 + nI 1)) T c o k = s k := by rw [beg_keep (by omega), up_ne _ _ (by omega)]
    generalize begF w (va_up s 16 (s 16 + nI 1)) T c o = S2 at hseat2 hkp ⊢
    by_cases h13 : S2 13 = -4
    · rw [if_pos h13, up_ne _ _ (by omega)]
      exact hkp
    · rw [if_neg h13]
      obtain ⟨ha, hb', hab, g10, g11, gc, g12, h1314⟩ := id hseat2
      obtain ⟨t, l, ht, hl1, hl9, g13, g14⟩ := h1314.resolve_left (fun e => h13 e.1)
      unfold oneF
      by_cases hl : S2 14 - nI 1 = 0
      · rw [if_pos hl, outF, up_ne _ _ (by omega)]
        simp (disch := decide) only [up_neD, g13]
        rw [nI_clamp (show t < 2 ^ 31 by omega), up_ne _ _ (by omega), up_ne _ _ (by omega), up_ne _ _ (by omega), up_ne _ _ (by omega), up_ne _ _ (by omega)]
        exact hkp
      · rw [if_neg hl, up_ne _ _ (by omega), up_ne _ _ (by omega)]
        exact hkp
theorem it_keep {w s : Nat → Int32} {P T k : Nat} (hw : WfT w P T) (hs : WfS s P T) (hk : k = 9 ∨ k = 10 ∨ k = 11) : ∀ n, itF w T n s k = s k
  | 0 => rfl
  | n + 1 => by rw [itF, min_keep hw (wfs_it hw hs n) hk, it_keep hw hs hk n]
def comesA (w s : Nat → Int32) (T : Nat) (h : Int32) : Int32 := if inR 0 999 h then firstI 121 (fun n => decide (h ≤ itF w T n s 17)) else -1
def silB (w s : Nat → Int32) (T : Nat) : Bool := decide (s 13 = -4 ∧ tellF w s T (s 10).toNatClampNeg (s 11) (s 15) = 0 ∧ tellF w s T (s 11).toNatClampNeg (s 10) (s 15) = 0)
def quietA (w s : Nat → Int32) (T : Nat) : Int32 := if s 10 = -4 then -2 else firstI 121 (fun n => silB w (itF w T n s) T)
abbrev two (P : Nat) (a b : Int32) : Prop := inN P a ∧ inN P b ∧ ¬ a = b
def bringsA (w s : Nat → Int32) (P T : Nat) (a b n : Int32) : Int32 :=
  if two P a b ∧ inR 1 60 n then
    if lkF w a.toNatClampNeg b.toNatClampNeg = true then brF w s T a.toNatClampNeg b.toNatClampNeg n.toNatClampNeg (s 9) else -2
  else -1
/-- who hears it in a sitting more -/
def hacc (w s : Nat → Int32) (t : Nat) (had : Int32) : Nat → Int32
  | 0 => had
  | a + 1 => hacc w s t had a ||| (if bt had a = true ∧ ¬ w (2 + a) = nI 1 ∧ bt (s 9) t = false then w (8 + a) &&& (bit1 (w (14 + t)).toNatClampNeg ^^^ (-1)) else nI 0)
def hit (w s : Nat → Int32) (t P : Nat) : Nat → Int32
  | 0 => s t
  | n + 1 => hacc w s t (hit w s t P n) P
def hearsA (w s : Nat → Int32) (P T : Nat) (t p : Int32) : Int32 := if inN T t ∧ inN P p then firstI 7 (fun n => bt (hit w s t.toNatClampNeg P n) p.toNatClampNeg) else -1
/-- the best that would come, were the tale t hushed -/
def muchF (w s : Nat → Int32) (P T n t : Nat) : Int32 :=
  if (fndF (lkF w) (fun x y => brF w s T x y n (s 9 ||| bit1 t)) (rowsL P P)).2 = -4 then nI 0 else (fndF (lkF w) (fun x y => brF w s T x y n (s 9 ||| bit1 t)) (rowsL P P)).2
def costF (w s : Nat → Int32) (P T n : Nat) : Nat → Int32 × Int32
  | 0 => (-4, -4)
  | t + 1 => if bt (s 9) t = true then costF w s P T n t else (if (costF w s P T n t).2 < muchF w s P T n t then nI t else (costF w s P T n t).1, if (costF w s P T n t).2 < muchF w s P T n t then muchF w s P T n t else (costF w s P T n t).2)
def costA (w s : Nat → Int32) (P T : Nat) (n what : Int32) : Int32 := if inR 1 60 n ∧ inR 0 1 what then (if what = 0 then (costF w s P T n.toNatClampNeg T).1 else (costF w s P T n.toNatClampNeg T).2) else -1
