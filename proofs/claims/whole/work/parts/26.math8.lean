theorem nI_div {a b : Nat} (ha : a < 2 ^ 31) (hb : b < 2 ^ 31) : nI a / nI b = nI (a / b) := by
  have h1 : a / b ≤ a := Nat.div_le_self a b
  apply Int32.toInt_inj.mp
  rw [Int32.toInt_div_of_ne_left, nI_toInt ha, nI_toInt hb, nI_toInt (by omega)]
  · rfl
  · intro e
    have h2 := nI_toInt ha
    rw [e] at h2
    have h3 : (Int32.minValue).toInt = -2147483648 := by decide
    omega
theorem nI_rem {a b : Nat} (ha : a < 2 ^ 31) (hb : b < 2 ^ 31) : nI a - nI a / nI b * nI b = nI (a % b) := by
  rw [nI_div ha hb, nI_mul]
  have h := Nat.div_add_mod a b
  rw [Nat.mul_comm] at h
  exact nI_subE (by omega) ha
/-- the place p of a code: with whom p sits, P: aside -/
def dig (P code p : Nat) : Nat := code / (P + 1) ^ (P - 1 - p) % (P + 1)
theorem dig_le (P code p : Nat) : dig P code p ≤ P := Nat.le_of_lt_succ (Nat.mod_lt _ (Nat.succ_pos P))
def vldB (lk : Nat → Nat → Bool) (P : Nat) (q : Nat → Nat) (p : Nat) : Bool := decide (P ≤ q p) || (decide (q p ≠ p) && (decide (q (q p) = p) && lk p (q p)))
def wsum (V : Nat → Nat → Int32) (P : Nat) (q : Nat → Nat) : Nat → Int32
  | 0 => nI 0
  | n + 1 => wsum V P q n + (if n < q n ∧ q n < P then V n (q n) else nI 0)
def worthF (lk : Nat → Nat → Bool) (V : Nat → Nat → Int32) (P : Nat) (q : Nat → Nat) : Int32 := if (List.range P).all (vldB lk P q) = true then wsum V P q P else -4
def twoF (lk : Nat → Nat → Bool) (V : Nat → Nat → Int32) (P : Nat) : Nat → Int32 × Nat
  | 0 => (-1, 0)
  | k + 1 => if (twoF lk V P k).1 < worthF lk V P (dig P k) then (worthF lk V P (dig P k), k) else twoF lk V P k
def hasF (V : Nat → Nat → Int32) (P : Nat) (q : Nat → Nat) (p : Nat) : Int32 := if q p < P then V (min p (q p)) (max p (q p)) else nI 0
theorem add_nI0 (x : Int32) : x + nI 0 = x := by rw [nI0]; exact Int32.add_zero x
theorem dn_lt {P k : Nat} (hP : P < 100) (hk : k ≤ P) : nI (P - k) - nI 1 < 0 ↔ k = P := by
  rw [Int32.lt_iff_toInt_lt, nI_p1 (by omega), Int32.toInt_zero]
  omega
theorem dn_at {P k : Nat} (hP : P < 100) (hk : k < P) : nI (P - k) - nI 1 = nI (P - 1 - k) := nI_subE (by omega) (by omega)
theorem dn_step {P k : Nat} (hk : k < P) : nI (P - k) - nI 1 + Int32.ofInt (-1) = nI (P - (k + 1)) - nI 1 := by
  have e : nI (P - k) = nI (P - (k + 1)) + nI 1 := by rw [nI_add]; congr 1; omega
  rw [e]
  have e2 : (Int32.ofInt (-1) : Int32) = - nI 1 := by decide
  rw [e2, Int32.add_sub_cancel, ← Int32.sub_eq_add_neg]
theorem pw_pos (P k : Nat) : 0 < (P + 1) ^ k := Nat.pow_pos (Nat.succ_pos P)
theorem pw_le {P k : Nat} (hP : P ≤ 6) (hk : k ≤ 6) : (P + 1) ^ k ≤ 117649 := by
  have h1 : (P + 1) ^ k ≤ 7 ^ k := Nat.pow_le_pow_left (by omega) k
  have h2 : 7 ^ k ≤ 7 ^ 6 := Nat.pow_le_pow_right (by decide) hk
  have h3 : (7 : Nat) ^ 6 = 117649 := by decide
  omega
theorem dig_full : ∀ P, P < 7 → ∀ p, p < P → dig P ((P + 1) ^ P - 1) p = P := by decide +kernel
theorem wsum_full {V : Nat → Nat → Int32} {P : Nat} {q : Nat → Nat} (h : ∀ p, p < P → q p = P) : ∀ n, n ≤ P → wsum V P q n = nI 0
  | 0, _ => rfl
  | n + 1, hn => by
    rw [wsum, wsum_full h n (by omega), if_neg (by have := h n (by omega); omega)]
    rfl
theorem worth_full {lk : Nat → Nat → Bool} {V : Nat → Nat → Int32} {P : Nat} (hP : P < 7) : worthF lk V P (dig P ((P + 1) ^ P - 1)) = nI 0 := by
  have h := dig_full P hP
  rw [worthF, if_pos, wsum_full h P (Nat.le_refl _)]
  refine List.all_eq_true.mpr (fun p hp => ?_)
  have h2 := h p (List.mem_range.mp hp)
  simp [vldB, h2]
theorem two_mono {lk : Nat → Nat → Bool} {V : Nat → Nat → Int32} {P : Nat} : ∀ k, (twoF lk V P k).1.toInt ≤ (twoF lk V P (k + 1)).1.toInt := by
  intro k
  rw [twoF]
  by_cases h : (twoF lk V P k).1 < worthF lk V P (dig P k)
  · rw [if_pos h]
    exact Int.le_of_lt (Int32.lt_iff_toInt_lt.mp h)
  · rw [if_neg h]
    exact Int.le_refl _
theorem two_end {lk : Nat → Nat → Bool} {V : Nat → Nat → Int32} {P : Nat} (hP : P < 7) : 0 ≤ (twoF lk V P ((P + 1) ^ P)).1.toInt := by
  have hp := pw_pos P P
  rw [show (P + 1) ^ P = ((P + 1) ^ P - 1) + 1 by omega, twoF, worth_full hP]
  by_cases h : (twoF lk V P ((P + 1) ^ P - 1)).1 < nI 0
  · rw [if_pos h]
    show 0 ≤ (nI 0).toInt
    decide
  · rw [if_neg h]
    rw [Int32.lt_iff_toInt_lt] at h
    have h0 : (nI 0).toInt = 0 := by decide
    omega
theorem two_best {lk : Nat → Nat → Bool} {V : Nat → Nat → Int32} {P : Nat} : ∀ k, (twoF lk V P k).1 = -1 ∨ ((twoF lk V P k).2 < k ∧ (twoF lk V P k).1 = worthF lk V P (dig P (twoF lk V P k).2))
  | 0 => Or.inl rfl
  | k + 1 => by
    rw [twoF]
    by_cases h : (twoF lk V P k).1 < worthF lk V P (dig P k)
    · rw [if_pos h]
      exact Or.inr ⟨Nat.lt_succ_self k, rfl⟩
    · rw [if_neg h]
      rcases two_best k with e | ⟨e1, e2⟩
      · exact Or.inl e
      · exact Or.inr ⟨Nat.lt_succ_of_lt e1, e2⟩
/-- the best row of with whom one sits -/
def bwF (lk : Nat → Nat → Bool) (V : Nat → Nat → Int32) (P p : Nat) : Nat := dig P (twoF lk V P ((P + 1) ^ P)).2 p
def twosM (lk : Nat → Nat → Bool) (V : Nat → Nat → Int32) (P : Nat) : Int32 := (twoF lk V P ((P + 1) ^ P)).1
theorem two_vld {lk : Nat → Nat → Bool} {V : Nat → Nat → Int32} {P : Nat} (hP : P < 7) {p : Nat} (hp : p < P) (h : bwF lk V P p < P) : bwF lk V P p ≠ p ∧ bwF lk V P (bwF lk V P p) = p ∧ lk p (bwF lk V P p) = true := by
  have he := two_end (lk := lk) (V := V) hP
  rcases two_best (lk := lk) (V := V) (P := P) ((P + 1) ^ P) with e | ⟨-, e⟩
  · rw [e] at he
    exact absurd he (by decide)
  · rw [e, worthF] at he
    by_cases hall : (List.range P).all (vldB lk P (dig P (twoF lk V P ((P + 1) ^ P)).2)) = true
    · have h2 := List.all_eq_true.mp hall p (List.mem_range.mpr hp)
      simp only [vldB, Bool.or_eq_true, Bool.and_eq_true, decide_eq_true_eq] at h2
      rcases h2 with h2 | h2
      · exact absurd h2 (by unfold bwF at h; omega)
      · exact h2
    · rw [if_neg hall] at he
      exact absurd he (by decide)
def twosA (w s : Nat → Int32) (P T : Nat) (n p : Int32) : Int32 :=
  if inR 1 60 n ∧ (p = -1 ∨ inN P p) then
    if p = -1 then twosM (lkF w) (wbF w s T n.toNatClampNeg (s 9) (-4)) P
    else if bwF (lkF w) (wbF w s T n.toNatClampNeg (s 9) (-4)) P p.toNatClampNeg < P then nI (bwF (lkF w) (wbF w s T n.toNatClampNeg (s 9) (-4)) P p.toNatClampNeg) else -4
  else -1
/-- pairs of a lower one and a higher one, in order -/
def upRow (a : Nat) : Nat → List (Nat × Nat)
  | 0 => []
  | k + 1 => upRow a k ++ [(a, a + 1 + k)]
def upL (P : Nat) : Nat → List (Nat × Nat)
  | 0 => []
  | a + 1 => upL P a ++ upRow a (P - (a + 1))
def lvB (lk : Nat → Nat → Bool) (V : Nat → Nat → Int32) (P : Nat) (q : Nat → Nat) (x : Nat × Nat) : Bool := lk x.1 x.2 && (decide (¬ q x.1 = x.2) && (decide (hasF V P q x.1 < V x.1 x.2) && decide (hasF V P q x.2 < V x.1 x.2)))
def leaveA (w s : Nat → Int32) (P T : Nat) (n : Int32) : Int32 :=
  if inR 1 60 n then
    match (upL P P).find? (lvB (lkF w) (wbF w s T n.toNatClampNeg (s 9) (-4)) P (bwF (lkF w) (wbF w s T n.toNatClampNeg (s 9) (-4)) P)) with
    | some x => nI (10 * x.1 + x.2)
    | none => -4
  else -1
theorem up_pre {f : Nat × Nat → Bool} {P x : Nat} {r : Nat × Nat} (h : (upL P (x + 1)).find? f = some r) : ∀ k, (upL P (x + 1 + k)).find? f = some r
  | 0 => h
  | k + 1 => by
    rw [← Nat.add_assoc, upL, List.find?_append, up_pre h k]
    rfl
theorem upR_pre {f : Nat × Nat → Bool} {x y : Nat} {r : Nat × Nat} (h : (upRow x (y + 1)).find? f = some r) : ∀ k, (upRow x (y + 1 + k)).find? f = some r
  | 0 => h
  | k + 1 => by
    rw [← Nat.add_assoc, upRow, List.find?_append, upR_pre h k]
    rfl
theorem up_find {f : Nat × Nat → Bool} {P x y : Nat} (hx : x < P) (hno : (upL P x).find? f = none) (hy : y < P - (x + 1)) (hr : (upRow x y).find? f = none) (h : f (x, x + 1 + y) = true) : (upL P P).find? f = some (x, x + 1 + y) := by
  have h1 : (upRow x (y + 1)).find? f = some (x, x + 1 + y) := by
    rw [upRow, List.find?_append, hr]
    simp [List.find?_cons, h]
  have h2 := upR_pre h1 (P - (x + 1) - (y + 1))
  rw [show y + 1 + (P - (x + 1) - (y + 1)) = P - (x + 1) by omega] at h2
  have h3 : (upL P (x + 1)).find? f = some (x, x + 1 + y) := by
    rw [upL, List.find?_append, hno, h2]
    rfl
  have h4 := up_pre h3 (P - (x + 1))
  rw [show x + 1 + (P - (x + 1)) = P by omega] at h4
  exact h4
theorem lvB_a {lk : Nat → Nat → Bool} {V : Nat → Nat → Int32} {P : Nat} {q : Nat → Nat} {x : Nat × Nat} (h : V x.1 x.2 ≤ hasF V P q x.1) : lvB lk V P q x = false := by
  unfold lvB
  rw [decide_eq_false (p := hasF V P q x.1 < V x.1 x.2) (fun e => Int32_nle.mpr e h)]
  simp
theorem lvB_b {lk : Nat → Nat → Bool} {V : Nat → Nat → Int32} {P : Nat} {q : Nat → Nat} {x : Nat × Nat} (h : V x.1 x.2 ≤ hasF V P q x.2) : lvB lk V P q x = false := by
  unfold lvB
  rw [decide_eq_false (p := hasF V P q x.2 < V x.1 x.2) (fun e => Int32_nle.mpr e h)]
  simp
