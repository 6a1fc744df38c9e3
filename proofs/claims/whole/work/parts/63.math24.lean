/-! the best of all codes is the way found from set to set; butter is never below 0 -/
theorem full_bitL : ∀ P, P < 7 → ∀ i, i < 6 → (2 ^ P - 1).testBit i = decide (i < P) := by decide +kernel
theorem full_64 : ∀ P, P < 7 → 2 ^ P - 1 < 64 := by decide +kernel
theorem full_bit {P i : Nat} (hP : P ≤ 6) : (2 ^ P - 1).testBit i = decide (i < P) := by
  rcases Nat.lt_or_ge i 6 with q | q
  · exact full_bitL P (by omega) i q
  · rw [decide_eq_false (by omega)]
    cases h : (2 ^ P - 1).testBit i with
    | false => rfl
    | true => have := bit64 (full_64 P (by omega)) h; omega
theorem sm_tr {f : Nat → Nat} {m n : Nat} (hm : m ≤ n) (h : ∀ k, m ≤ k → k < n → f k = 0) : fb_sm f n = fb_sm f m := by
  obtain ⟨j, rfl⟩ : ∃ j, n = m + j := ⟨n - m, by omega⟩
  rw [fb_sm_split, fb_sm_cong (g := fun _ => 0) (fun k hk => h (m + k) (by omega) (by omega)), fb_sm_const]
  omega
def cdF (P : Nat) (q : Nat → Nat) : Nat → Nat
  | 0 => 0
  | n + 1 => cdF P q n * (P + 1) + q n
theorem cd_lt {P : Nat} {q : Nat → Nat} : ∀ n, (∀ i, i < n → q i ≤ P) → cdF P q n < (P + 1) ^ n
  | 0, _ => by rw [cdF, Nat.pow_zero]; exact Nat.one_pos
  | n + 1, h => by
    rw [cdF, Nat.pow_succ]
    have h1 := cd_lt (P := P) (q := q) n (fun i hi => h i (by omega))
    have h2 := h n (by omega)
    have h3 : (cdF P q n + 1) * (P + 1) ≤ (P + 1) ^ n * (P + 1) := Nat.mul_le_mul_right _ h1
    rw [Nat.succ_mul] at h3
    omega
theorem cd_dig {P : Nat} {q : Nat → Nat} : ∀ n, (∀ i, i < n → q i ≤ P) → ∀ p, p < n → cdF P q n / (P + 1) ^ (n - 1 - p) % (P + 1) = q p
  | 0, _, p, hp => absurd hp (Nat.not_lt_zero _)
  | n + 1, h, p, hp => by
    have h2 := h n (by omega)
    rw [cdF]
    rcases Nat.lt_or_ge p n with e | e
    · rw [show n + 1 - 1 - p = (n - 1 - p) + 1 by omega, Nat.pow_succ, Nat.mul_comm ((P + 1) ^ (n - 1 - p)), ← Nat.div_div_eq_div_mul]
      rw [show (cdF P q n * (P + 1) + q n) / (P + 1) = cdF P q n by
        rw [Nat.mul_comm, Nat.mul_add_div (Nat.succ_pos P), Nat.div_eq_of_lt (by omega), Nat.add_zero]]
      exact cd_dig n (fun i hi => h i (by omega)) p e
    · have e2 : p = n := by omega
      subst e2
      rw [show p + 1 - 1 - p = 0 by omega, Nat.pow_zero, Nat.div_one, Nat.mul_comm, Nat.mul_add_mod, Nat.mod_eq_of_lt (by omega)]
theorem dig_pre {P a b : Nat} (ha : a < (P + 1) ^ P) (hb : b < (P + 1) ^ P) : ∀ p, p ≤ P → (∀ i, i < p → dig P a i = dig P b i) → a / (P + 1) ^ (P - p) = b / (P + 1) ^ (P - p)
  | 0, _, _ => by rw [Nat.sub_zero, Nat.div_eq_of_lt ha, Nat.div_eq_of_lt hb]
  | p + 1, hp, h => by
    have ih := dig_pre ha hb p (by omega) (fun i hi => h i (by omega))
    have hd := h p (by omega)
    unfold dig at hd
    rw [show P - p = (P - 1 - p) + 1 by omega, Nat.pow_succ, ← Nat.div_div_eq_div_mul, ← Nat.div_div_eq_div_mul] at ih
    rw [show P - (p + 1) = P - 1 - p by omega]
    have h1 := Nat.div_add_mod (a / (P + 1) ^ (P - 1 - p)) (P + 1)
    have h2 := Nat.div_add_mod (b / (P + 1) ^ (P - 1 - p)) (P + 1)
    rw [ih, hd] at h1
    omega
theorem dig_mono {P a b p : Nat} (ha : a < (P + 1) ^ P) (hb : b < (P + 1) ^ P) (hab : a ≤ b) (hp : p < P) (h : ∀ i, i < p → dig P a i = dig P b i) : dig P a p ≤ dig P b p := by
  have ih := dig_pre ha hb p (by omega) h
  rw [show P - p = (P - 1 - p) + 1 by omega, Nat.pow_succ, ← Nat.div_div_eq_div_mul, ← Nat.div_div_eq_div_mul] at ih
  have h1 := Nat.div_add_mod (a / (P + 1) ^ (P - 1 - p)) (P + 1)
  have h2 := Nat.div_add_mod (b / (P + 1) ^ (P - 1 - p)) (P + 1)
  have h3 : a / (P + 1) ^ (P - 1 - p) ≤ b / (P + 1) ^ (P - 1 - p) := Nat.div_le_div_right hab
  unfold dig
  rw [ih] at h1
  omega
theorem two_le {lk : Nat → Nat → Bool} {V : Nat → Nat → Int32} {P : Nat} : ∀ k, (twoF lk V P k).2 ≤ k
  | 0 => Nat.le_refl _
  | k + 1 => by
    rw [twoF]
    by_cases h : (twoF lk V P k).1 < worthF lk V P (dig P k)
    · rw [if_pos h]; exact Nat.le_succ k
    · rw [if_neg h]; exact Nat.le_succ_of_le (two_le k)
theorem two_allK {lk : Nat → Nat → Bool} {V : Nat → Nat → Int32} {P : Nat} : ∀ k j, j < k → (worthF lk V P (dig P j)).toInt ≤ (twoF lk V P k).1.toInt ∧ (j < (twoF lk V P k).2 → (worthF lk V P (dig P j)).toInt < (twoF lk V P k).1.toInt)
  | 0, j, h => absurd h (Nat.not_lt_zero _)
  | k + 1, j, h => by
    rw [twoF]
    by_cases hc : (twoF lk V P k).1 < worthF lk V P (dig P k)
    · rw [if_pos hc]
      dsimp only
      rw [Int32.lt_iff_toInt_lt] at hc
      rcases Nat.lt_or_ge j k with q | q
      · have := (two_allK (lk := lk) (V := V) (P := P) k j q).1
        exact ⟨by omega, fun _ => by omega⟩
      · have e : j = k := by omega
        subst e
        exact ⟨Int.le_refl _, fun h => absurd h (Nat.lt_irrefl _)⟩
    · rw [if_neg hc]
      rw [Int32.lt_iff_toInt_lt] at hc
      rcases Nat.lt_or_ge j k with q | q
      · exact two_allK k j q
      · have e : j = k := by omega
        subst e
        have := two_le (lk := lk) (V := V) (P := P) j
        exact ⟨by omega, fun h => by omega⟩
section TD
variable {lk : Nat → Nat → Bool} {v : Nat → Nat → Nat} {V : Nat → Nat → Int32} {P : Nat} {q : Nat → Nat}
theorem vld_all (hP : P ≤ 6) (hq : ∀ p, p < P → q p ≤ P) : (List.range P).all (vldB lk P q) = true ↔ VldS lk P (2 ^ P - 1) q := by
  rw [List.all_eq_true]
  constructor
  · intro h p hp
    rw [full_bit hP, decide_eq_true_eq] at hp
    have h2 := h p (List.mem_range.mpr hp)
    simp only [vldB, Bool.or_eq_true, Bool.and_eq_true, decide_eq_true_eq] at h2
    have h3 := hq p hp
    rcases h2 with h2 | ⟨h4, h5, h6⟩
    · exact Or.inl (by omega)
    · by_cases e : q p = P
      · exact Or.inl e
      · exact Or.inr ⟨by omega, by rw [full_bit hP, decide_eq_true (by omega)], h4, h5, h6⟩
  · intro h p hp
    have hp := List.mem_range.mp hp
    simp only [vldB, Bool.or_eq_true, Bool.and_eq_true, decide_eq_true_eq]
    rcases h p (by rw [full_bit hP, decide_eq_true hp]) with e | ⟨e1, e2, e3, e4, e5⟩
    · exact Or.inl (by omega)
    · exact Or.inr ⟨e3, e4, e5⟩
theorem wsum_n (hP : P ≤ 6) (hV : ∀ a b, a < b → b < P → lk a b = true → V a b = nI (v a b)) (hq : VldS lk P (2 ^ P - 1) q) : ∀ n, n ≤ P → wsum V P q n = nI (fb_sm (wtS v P (2 ^ P - 1) q) n)
  | 0, _ => rfl
  | n + 1, hn => by
    rw [wsum, wsum_n hP hV hq n (by omega), fb_sm_succ, ← nI_add]
    have hb : (2 ^ P - 1).testBit n = true := by rw [full_bit hP, decide_eq_true (by omega)]
    unfold wtS
    by_cases e : n < q n ∧ q n < P
    · rw [if_pos e, if_pos ⟨hb, e⟩]
      obtain ⟨-, -, -, -, h5⟩ := (hq n hb).resolve_left (by omega)
      rw [hV n (q n) e.1 e.2 h5]
    · rw [if_neg e, if_neg (fun h => e h.2)]
theorem worth_n (hP : P ≤ 6) (hV : ∀ a b, a < b → b < P → lk a b = true → V a b = nI (v a b)) (hq1 : ∀ p, p < P → q p ≤ P) (hq : VldS lk P (2 ^ P - 1) q) : worthF lk V P q = nI (WS v P (2 ^ P - 1) q) := by
  rw [worthF, if_pos ((vld_all hP hq1).mpr hq), wsum_n hP hV hq P (Nat.le_refl _)]
  congr 1
  refine (sm_tr hP (fun k h1 h2 => ?_)).symm
  unfold wtS
  rw [if_neg]
  rintro ⟨h, -⟩
  rw [full_bit hP, decide_eq_true_eq] at h
  omega
theorem WS_cong {S : Nat} {r : Nat → Nat} (h : ∀ p, S.testBit p = true → q p = r p) : WS v P S q = WS v P S r := by
  refine fb_sm_cong (fun k _ => ?_)
  unfold wtS
  by_cases e : S.testBit k = true
  · rw [h k e]
  · rw [if_neg (fun z => e z.1), if_neg (fun z => e z.1)]
theorem bm_le {n S : Nat} (hS : S < 64) (hP : ∀ i, S.testBit i = true → i < P) (h : VldS lk P S q) {p : Nat} (hp : S.testBit p = true) : q p ≤ P := by
  rcases h p hp with e | ⟨e, -⟩ <;> omega
theorem two_dp (hP : P ≤ 6) (hsym : ∀ a b, a < P → b < P → lk a b = lk b a) (hv : ∀ a b, lk a b = true → v a b ≤ 1200) (hV : ∀ a b, a < b → b < P → lk a b = true → V a b = nI (v a b)) : twosM lk V P = nI (DF lk v P (2 ^ P - 1)).1 ∧ (DF lk v P (2 ^ P - 1)).1 ≤ 1200 * 64 ∧ ∀ p, p < P → bwF lk V P p = bmF lk v P 64 (2 ^ P - 1) p := by
  have h64 := full_64 P (by omega)
  have hb : ∀ i, (2 ^ P - 1).testBit i = true → i < P := fun i hi => by rw [full_bit hP, decide_eq_true_eq] at hi; exact hi
  have hbt : ∀ i, i < P → (2 ^ P - 1).testBit i = true := fun i hi => by rw [full_bit hP, decide_eq_true hi]
  obtain ⟨m1, m2, m3⟩ := bm_ok (lk := lk) (v := v) hsym 64 (2 ^ P - 1) h64 h64 hb
  have hmax := DF_max (lk := lk) (v := v) (P := P) 64 (2 ^ P - 1) h64 h64 hb
  have hbnd := DF_bnd (lk := lk) (v := v) (P := P) hv 64 (2 ^ P - 1) h64 h64 hb
  have hbnd : (DF lk v P (2 ^ P - 1)).1 ≤ 1200 * 64 := by omega
  have hend := two_end (lk := lk) (V := V) (show P < 7 by omega)
  have hall := two_allK (lk := lk) (V := V) (P := P) ((P + 1) ^ P)
  have hbest := two_best (lk := lk) (V := V) (P := P) ((P + 1) ^ P)
  unfold twosM bwF
  generalize twoF lk V P ((P + 1) ^ P) = tw at hend hall hbest ⊢
  rcases hbest with e | ⟨hK, hw⟩
  · rw [e] at hend; exact absurd hend (by decide)
  have hvK : VldS lk P (2 ^ P - 1) (dig P tw.2) := by
    rw [← vld_all (q := dig P tw.2) hP (fun p _ => dig_le P _ p)]
    cases ha : (List.range P).all (vldB lk P (dig P tw.2)) with
    | true => rfl
    | false =>
      rw [hw, worthF, ha, if_neg (by decide)] at hend
      exact absurd hend (by decide)
  have hwK := worth_n (v := v) (q := dig P tw.2) hP hV (fun p _ => dig_le P _ p) hvK
  have hle := hmax _ hvK
  -- the code of the way found
  have hq1 : ∀ p, p < P → bmF lk v P 64 (2 ^ P - 1) p ≤ P := fun p hp => by
    rcases m1 p (hbt p hp) with e | ⟨e, -⟩ <;> omega
  have hcl := cd_lt (P := P) (q := bmF lk v P 64 (2 ^ P - 1)) P hq1
  have hcd : ∀ p, p < P → dig P (cdF P (bmF lk v P 64 (2 ^ P - 1)) P) p = bmF lk v P 64 (2 ^ P - 1) p := cd_dig P hq1
  generalize cdF P (bmF lk v P 64 (2 ^ P - 1)) P = kb at hcl hcd
  have hvb : VldS lk P (2 ^ P - 1) (dig P kb) := by
    intro p hp
    rw [hcd p (hb p hp)]
    rcases m1 p hp with e | ⟨e1, e2, e3, e4, e5⟩
    · exact Or.inl e
    · exact Or.inr ⟨e1, e2, e3, by rw [hcd _ e1]; exact e4, e5⟩
  have hwb := worth_n (v := v) (q := dig P kb) hP hV (fun p _ => dig_le P _ p) hvb
  rw [WS_cong (fun p hp => hcd p (hb p hp)), m2] at hwb
  obtain ⟨a1, a2⟩ := hall kb hcl
  rw [hw, hwK, hwb, nI_toInt (by omega), nI_toInt (by omega)] at a1 a2
  have hWS : WS v P (2 ^ P - 1) (dig P tw.2) = (DF lk v P (2 ^ P - 1)).1 := by omega
  have hKk : tw.2 ≤ kb := by
    rcases Nat.lt_or_ge kb tw.2 with z | z
    · have := a2 z; omega
    · exact z
  refine ⟨by rw [hw, hwK, hWS], hbnd, ?_⟩
  have hlex := m3 _ hvK hWS
  intro p
  induction p using Nat.strongRecOn with
  | ind p ih =>
    intro hp
    have h1 := hlex p (hbt p hp) (fun i hi hib => (ih i hi (by omega)).symm)
    have h2 := dig_mono hK hcl hKk hp (fun i hi => by rw [ih i hi (by omega), hcd i (by omega)])
    rw [hcd p hp] at h2
    omega
end TD
theorem min17 {w s : Nat → Int32} {P T : Nat} (hw : WfT w P T) (hs : WfS s P T) : ∃ j, j ≤ 20 ∧ minF w T s 17 = s 17 + nI j := by
  have hT := hw.2.2.2.1
  have hP := hw.2.2.1
  have hS := wfs_up (k := 16) (v := s 16 + nI 1) hT hs (Or.inl rfl)
  have e : va_up s 16 (s 16 + nI 1) 17 = s 17 := up_ne _ _ (by decide)
  rw [min_X]
  generalize va_up s 16 (s 16 + nI 1) = S at hS e ⊢
  unfold minX
  by_cases h10 : S 10 = -4
  · exact ⟨0, by decide, by rw [if_pos h10, add_nI0, e]⟩
  · rw [if_neg h10]
    have hb := wfs_begX hw hS
    have e17 : begX w S T 17 = S 17 := begX_10 (by decide)
    by_cases h13 : begX w S T 13 = -4
    · rw [if_pos h13, up_same, e17, e]
      unfold hushB
      split
      · exact ⟨10, by decide, rfl⟩
      · exact ⟨0, by decide, rfl⟩
    · rw [if_neg h13]
      obtain ⟨-, a, b, c, o, t, l, hseat, ho, hoP, hcP, h12, ht, hl1, hl9, e13, e14⟩ := seat_all hw hb h13
      have hg := gain_1 (w := w) h12 e13 (by omega) (by omega)
      obtain ⟨k, k1, k2, ek⟩ := hw.2.2.2.2.2.2.2.2.1 t ht
      have hj : ∃ j, j ≤ 20 ∧ gainF w (begX w S T) = nI j := by
        rw [hg, ek]
        split
        · exact ⟨k / 2, by omega, nI_div (by omega) (by decide)⟩
        · exact ⟨k, k2, rfl⟩
      obtain ⟨j, hj1, hj2⟩ := hj
      refine ⟨j, hj1, ?_⟩
      rw [← hj2, ← e, ← e17]
      generalize begX w S T = B at e13 ⊢
      unfold oneF
      split
      · unfold outF
        simp (disch := decide) only [up_neD, e13]
        rw [nI_clamp (show t < 2 ^ 31 by omega), up_ne _ _ (show 17 ≠ t by omega)]
        simp (disch := decide) only [up_same, up_neD]
      · simp (disch := decide) only [up_same, up_neD]
theorem it17 {w s : Nat → Int32} {P T : Nat} (hw : WfT w P T) (hs : WfS s P T) : ∀ n, ∃ j, j ≤ 20 * n ∧ itF w T n s 17 = s 17 + nI j
  | 0 => ⟨0, Nat.le_refl _, by rw [itF, add_nI0]⟩
  | n + 1 => by
    obtain ⟨j, h1, h2⟩ := it17 hw hs n
    obtain ⟨k, h3, h4⟩ := min17 hw (wfs_it hw hs n)
    exact ⟨j + k, by omega, by rw [itF, h4, h2, Int32.add_assoc, nI_add]⟩
theorem br_nI {w s : Nat → Int32} {P T a b n : Nat} {h : Int32} (hw : WfT w P T) (hs : WfS s P T) (ha : a < P) (hb : b < P) (hab : a ≠ b) (hh : ∀ i, bt h i = true → i < T) : ∃ k, k ≤ 20 * n ∧ brF w s T a b n h = nI k := by
  obtain ⟨j, h1, h2⟩ := it17 hw (wfs_brS hw hs ha hb hab hh) n
  refine ⟨j, h1, ?_⟩
  unfold brF
  rw [h2]
  unfold brS
  rw [up_same, nI_z]
