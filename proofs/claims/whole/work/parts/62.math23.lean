/-! by twos: the best way to sit, from set to set -/
def clr (S i : Nat) : Nat := S &&& (63 ^^^ 2 ^ i)
def lwS (S : Nat) : Nat := fa_first (fun i => S.testBit i) 6
theorem clr_bitL : ∀ S, S < 64 → ∀ i, i < 6 → ∀ j, j < 6 → (clr S i).testBit j = (S.testBit j && decide (j ≠ i)) := by decide +kernel
theorem clr_lt64 : ∀ S, S < 64 → ∀ i, i < 6 → clr S i < 64 ∧ clr S i ≤ S ∧ (S.testBit i = true → clr S i < S) := by decide +kernel
theorem clr_I : ∀ S, S < 64 → ∀ i, i < 6 → nI S &&& (bit1 i ^^^ -1) = nI (clr S i) := by decide +kernel
theorem lwS_ok : ∀ S, S < 64 → S ≠ 0 → lwS S < 6 ∧ S.testBit (lwS S) = true ∧ lowN (nI S) = lwS S := by decide +kernel
theorem lwS_no {S j : Nat} (h : j < lwS S) : S.testBit j = false := fa_first_no (fun i => S.testBit i) 6 j h
theorem lwS_le {S j : Nat} (h : S.testBit j = true) : lwS S ≤ j := by
  rcases Nat.lt_or_ge j (lwS S) with q | q
  · rw [lwS_no q] at h; cases h
  · exact q
theorem bit64 {S j : Nat} (hS : S < 64) (h : S.testBit j = true) : j < 6 := by
  rcases Nat.lt_or_ge j 6 with q | q
  · exact q
  · have h2 : S < 2 ^ j := Nat.lt_of_lt_of_le (show S < 2 ^ 6 from hS) (Nat.pow_le_pow_right (show 0 < 2 by decide) q)
    rw [Nat.testBit_lt_two_pow h2] at h
    cases h
theorem clr_bit {S i j : Nat} (hS : S < 64) (hi : i < 6) : (clr S i).testBit j = (S.testBit j && decide (j ≠ i)) := by
  rcases Nat.lt_or_ge j 6 with q | q
  · exact clr_bitL S hS i hi j q
  · have h1 := bit64 (clr_lt64 S hS i hi).1 (j := j)
    have h2 := bit64 hS (j := j)
    cases h3 : (clr S i).testBit j with
    | true => have := h1 h3; omega
    | false =>
      cases h4 : S.testBit j with
      | true => have := h2 h4; omega
      | false => rfl
section DP
variable (lk : Nat → Nat → Bool) (v : Nat → Nat → Nat) (P : Nat)
/-- the mates of low tried from the next one on: most and one, with whom -/
def scF (f : Nat → Nat) (low o : Nat) : Nat → Nat × Nat
  | 0 => (0, P)
  | k + 1 => if o.testBit (low + 1 + k) = true ∧ lk low (low + 1 + k) = true ∧ (scF f low o k).1 < v low (low + 1 + k) + f (clr o (low + 1 + k)) + 1 then (v low (low + 1 + k) + f (clr o (low + 1 + k)) + 1, low + 1 + k) else scF f low o k
def stF (f : Nat → Nat) (S : Nat) : Nat × Nat :=
  if (scF lk v P f (lwS S) (clr S (lwS S)) (5 - lwS S)).1 < f (clr S (lwS S)) + 1 then (f (clr S (lwS S)), P)
  else ((scF lk v P f (lwS S) (clr S (lwS S)) (5 - lwS S)).1 - 1, (scF lk v P f (lwS S) (clr S (lwS S)) (5 - lwS S)).2)
def dpF : Nat → Nat → Nat × Nat
  | 0, _ => (0, P)
  | n + 1, S => if S = 0 then (0, P) else stF lk v P (fun Z => (dpF n Z).1) S
def DF (S : Nat) : Nat × Nat := dpF lk v P 64 S
end DP
section DPS
variable {lk : Nat → Nat → Bool} {v : Nat → Nat → Nat} {P : Nat}
theorem sc_cong {f g : Nat → Nat} {low o : Nat} (h : ∀ i, i < 6 → o.testBit i = true → f (clr o i) = g (clr o i)) : ∀ k, k ≤ 5 - low → scF lk v P f low o k = scF lk v P g low o k
  | 0, _ => rfl
  | k + 1, hk => by
    rw [scF, scF, sc_cong h k (by omega)]
    by_cases h1 : o.testBit (low + 1 + k) = true
    · rw [h _ (by omega) h1]
    · rw [if_neg (fun e => h1 e.1), if_neg (fun e => h1 e.1)]
theorem st_cong {f g : Nat → Nat} {S : Nat} (hS : S < 64) (h0 : S ≠ 0) (h : ∀ Z, Z < S → f Z = g Z) : stF lk v P f S = stF lk v P g S := by
  obtain ⟨l1, l2, -⟩ := lwS_ok S hS h0
  obtain ⟨c1, c2, c3⟩ := clr_lt64 S hS _ l1
  have c4 := c3 l2
  unfold stF
  rw [sc_cong (f := f) (g := g) (fun i hi hb => h _ ?_) _ (Nat.le_refl _), h _ c4]
  have := (clr_lt64 _ c1 i hi).2.1
  omega
theorem dp_cong : ∀ n S m, S < n → S < m → S < 64 → dpF lk v P n S = dpF lk v P m S
  | 0, _, _, h, _, _ => absurd h (Nat.not_lt_zero _)
  | n + 1, S, m, h1, h2, h3 => by
    obtain ⟨k, rfl⟩ : ∃ k, m = k + 1 := ⟨m - 1, by omega⟩
    rw [dpF, dpF]
    by_cases e : S = 0
    · rw [if_pos e, if_pos e]
    · rw [if_neg e, if_neg e]
      exact st_cong h3 e (fun Z hZ => by rw [dp_cong n Z k (by omega) (by omega) (by omega)])
theorem DF_0 : DF lk v P 0 = (0, P) := rfl
theorem DF_s {S : Nat} (hS : S < 64) (h0 : S ≠ 0) : DF lk v P S = stF lk v P (fun Z => (DF lk v P Z).1) S := by
  unfold DF
  rw [dpF, if_neg h0]
  exact st_cong hS h0 (fun Z hZ => by rw [dp_cong 63 Z 64 (by omega) (by omega) (by omega)])
theorem sc_ok {f : Nat → Nat} {low o : Nat} : ∀ k, (∀ h, low < h → h < low + 1 + k → o.testBit h = true → lk low h = true → v low h + f (clr o h) + 1 ≤ (scF lk v P f low o k).1 ∧ (h < (scF lk v P f low o k).2 → v low h + f (clr o h) + 1 < (scF lk v P f low o k).1)) ∧ (scF lk v P f low o k = (0, P) ∨ (low < (scF lk v P f low o k).2 ∧ (scF lk v P f low o k).2 < low + 1 + k ∧ o.testBit (scF lk v P f low o k).2 = true ∧ lk low (scF lk v P f low o k).2 = true ∧ (scF lk v P f low o k).1 = v low (scF lk v P f low o k).2 + f (clr o (scF lk v P f low o k).2) + 1))
  | 0 => ⟨fun h h1 h2 => by omega, Or.inl rfl⟩
  | k + 1 => by
    obtain ⟨g1, g2⟩ := sc_ok (f := f) (low := low) (o := o) k
    rw [scF]
    by_cases e : o.testBit (low + 1 + k) = true ∧ lk low (low + 1 + k) = true ∧ (scF lk v P f low o k).1 < v low (low + 1 + k) + f (clr o (low + 1 + k)) + 1
    · rw [if_pos e]
      refine ⟨fun h h1 h2 h3 h4 => ?_, Or.inr ⟨by show low < low + 1 + k; omega, by show low + 1 + k < low + 1 + (k + 1); omega, e.1, e.2.1, rfl⟩⟩
      dsimp only
      rcases Nat.lt_or_ge h (low + 1 + k) with q | q
      · have := (g1 h h1 q h3 h4).1
        have := e.2.2
        exact ⟨by omega, fun _ => by omega⟩
      · have e2 : h = low + 1 + k := by omega
        subst e2
        exact ⟨Nat.le_refl _, fun h => absurd h (Nat.lt_irrefl _)⟩
    · rw [if_neg e]
      refine ⟨fun h h1 h2 h3 h4 => ?_, ?_⟩
      · rcases Nat.lt_or_ge h (low + 1 + k) with q | q
        · exact g1 h h1 q h3 h4
        · have e2 : h = low + 1 + k := by omega
          subst e2
          have hle : v low (low + 1 + k) + f (clr o (low + 1 + k)) + 1 ≤ (scF lk v P f low o k).1 := by
            rcases Nat.lt_or_ge (scF lk v P f low o k).1 (v low (low + 1 + k) + f (clr o (low + 1 + k)) + 1) with q2 | q2
            · exact absurd ⟨h3, h4, q2⟩ e
            · exact q2
          refine ⟨hle, fun hm => ?_⟩
          rcases g2 with g2 | g2
          · rw [g2] at hle; exact absurd hle (by show ¬ _ ≤ 0; omega)
          · omega
      · rcases g2 with g2 | ⟨a1, a2, a3⟩
        · exact Or.inl g2
        · exact Or.inr ⟨a1, by omega, a3⟩
/-- what a set's best says -/
theorem DF_ok {S : Nat} (hS : S < 64) (h0 : S ≠ 0) (hP : ∀ i, S.testBit i = true → i < P) : (∀ h, lwS S < h → S.testBit h = true → lk (lwS S) h = true → v (lwS S) h + (DF lk v P (clr (clr S (lwS S)) h)).1 ≤ (DF lk v P S).1 ∧ (h < (DF lk v P S).2 → v (lwS S) h + (DF lk v P (clr (clr S (lwS S)) h)).1 < (DF lk v P S).1)) ∧ (DF lk v P (clr S (lwS S))).1 ≤ (DF lk v P S).1 ∧ (((DF lk v P S).2 = P ∧ (DF lk v P S).1 = (DF lk v P (clr S (lwS S))).1) ∨ (lwS S < (DF lk v P S).2 ∧ S.testBit (DF lk v P S).2 = true ∧ lk (lwS S) (DF lk v P S).2 = true ∧ (DF lk v P S).1 = v (lwS S) (DF lk v P S).2 + (DF lk v P (clr (clr S (lwS S)) (DF lk v P S).2)).1)) := by
  obtain ⟨l1, l2, -⟩ := lwS_ok S hS h0
  obtain ⟨g1, g2⟩ := sc_ok (lk := lk) (v := v) (P := P) (f := fun Z => (DF lk v P Z).1) (low := lwS S) (o := clr S (lwS S)) (5 - lwS S)
  have hb : ∀ h, lwS S < h → S.testBit h = true → (clr S (lwS S)).testBit h = true := fun h h1 h2 => by
    rw [clr_bit hS l1, h2, decide_eq_true (by omega)]; rfl
  have hb2 : ∀ h, (clr S (lwS S)).testBit h = true → S.testBit h = true := fun h h2 => by
    rw [clr_bit hS l1] at h2
    simp only [Bool.and_eq_true] at h2
    exact h2.1
  rw [DF_s hS h0]
  unfold stF
  generalize scF lk v P (fun Z => (DF lk v P Z).1) (lwS S) (clr S (lwS S)) (5 - lwS S) = sc at g1 g2 ⊢
  by_cases e : sc.1 < (DF lk v P (clr S (lwS S))).1 + 1
  · rw [if_pos e]
    dsimp only
    refine ⟨fun h h1 h2 h3 => ?_, Nat.le_refl _, Or.inl ⟨rfl, rfl⟩⟩
    have h6 := bit64 hS h2
    obtain ⟨a1, a2⟩ := g1 h h1 (by omega) (hb h h1 h2) h3
    refine ⟨by omega, fun hh => ?_⟩
    rcases g2 with g2 | ⟨-, b2, b3, -, b5⟩
    · rw [g2] at a1; exact absurd a1 (by show ¬ _ ≤ 0; omega)
    · omega
  · rw [if_neg e]
    dsimp only
    have hne : sc ≠ (0, P) := fun q => e (by rw [q]; show 0 < _; omega)
    obtain ⟨b1, b2, b3, b4, b5⟩ := g2.resolve_left hne
    refine ⟨fun h h1 h2 h3 => ?_, by omega, Or.inr ⟨b1, hb2 _ b3, b4, by omega⟩⟩
    have h6 := bit64 hS h2
    obtain ⟨a1, a2⟩ := g1 h h1 (by omega) (hb h h1 h2) h3
    exact ⟨by omega, fun hh => by have := a2 hh; omega⟩
/-- who sits with whom in a set; P: aside -/
def VldS (lk : Nat → Nat → Bool) (P S : Nat) (q : Nat → Nat) : Prop := ∀ p, S.testBit p = true → q p = P ∨ (q p < P ∧ S.testBit (q p) = true ∧ q p ≠ p ∧ q (q p) = p ∧ lk p (q p) = true)
def wtS (v : Nat → Nat → Nat) (P S : Nat) (q : Nat → Nat) (p : Nat) : Nat := if S.testBit p = true ∧ p < q p ∧ q p < P then v p (q p) else 0
def WS (v : Nat → Nat → Nat) (P S : Nat) (q : Nat → Nat) : Nat := fb_sm (wtS v P S q) 6
theorem WS_clr {S i : Nat} {q : Nat → Nat} (hS : S < 64) (hi : i < 6) : WS v P S q = WS v P (clr S i) q + wtS v P S q i := by
  have h1 := fb_sm_upd (wtS v P S q) 0 (i := i) (n := 6) hi
  have h2 : fb_sm (fun k => if k = i then 0 else wtS v P S q k) 6 = WS v P (clr S i) q := by
    refine fb_sm_cong (fun k hk => ?_)
    unfold wtS
    rw [clr_bit hS hi]
    by_cases e : k = i
    · rw [if_pos e, if_neg]
      rintro ⟨h, -⟩
      simp [e] at h
    · rw [if_neg e, decide_eq_true e, Bool.and_true]
  unfold WS at h2 ⊢
  omega
theorem VldS.aside {S : Nat} {q : Nat → Nat} (h : VldS lk P S q) (hS : S < 64) (hm : ∀ j, S.testBit j = true → j < P) {i : Nat} (hi : i < 6) (hq : q i = P) : VldS lk P (clr S i) q := by
  intro p hp
  rw [clr_bit hS hi] at hp
  simp only [Bool.and_eq_true, decide_eq_true_eq] at hp
  rcases h p hp.1 with e | ⟨e1, e2, e3, e4, e5⟩
  · exact Or.inl e
  · refine Or.inr ⟨e1, ?_, e3, e4, e5⟩
    rw [clr_bit hS hi, e2, decide_eq_true]
    · rfl
    · intro e
      rw [e, hq] at e4
      have := hm p hp.1
      omega
theorem VldS.pair {S : Nat} {q : Nat → Nat} (h : VldS lk P S q) (hS : S < 64) {i : Nat} (hi : i < 6) (hb : S.testBit i = true) (hq : q i < P) : VldS lk P (clr (clr S i) (q i)) q := by
  obtain ⟨a1, a2, a3, a4, a5⟩ := (h i hb).resolve_left (by omega)
  have hq6 := bit64 hS a2
  have h64 := (clr_lt64 S hS i hi).1
  have hbt : ∀ p, (clr (clr S i) (q i)).testBit p = (S.testBit p && decide (p ≠ i) && decide (p ≠ q i)) := fun p => by rw [clr_bit h64 hq6, clr_bit hS hi]
  intro p hp
  rw [hbt] at hp
  simp only [Bool.and_eq_true, decide_eq_true_eq] at hp
  rcases h p hp.1.1 with e | ⟨e1, e2, e3, e4, e5⟩
  · exact Or.inl e
  · refine Or.inr ⟨e1, ?_, e3, e4, e5⟩
    rw [hbt, e2, decide_eq_true, decide_eq_true]
    · rfl
    · intro e
      apply hp.1.2
      rw [← e4, e, a4]
    · intro e
      apply hp.2
      rw [← e4, e]
/-- no way brings more -/
theorem DF_max : ∀ n S, S < n → S < 64 → (∀ i, S.testBit i = true → i < P) → ∀ q, VldS lk P S q → WS v P S q ≤ (DF lk v P S).1
  | 0, S, h, _, _, _, _ => absurd h (Nat.not_lt_zero _)
  | n + 1, S, hn, hS, hP, q, hq => by
    by_cases h0 : S = 0
    · subst h0
      have e : WS v P 0 q = 0 := by
        unfold WS
        rw [fb_sm_cong (g := fun _ => 0) (fun k _ => by unfold wtS; rw [if_neg (fun e => by rw [Nat.zero_testBit] at e; cases e.1)]), fb_sm_const]
      rw [e]
      exact Nat.zero_le _
    · obtain ⟨l1, l2, -⟩ := lwS_ok S hS h0
      obtain ⟨c1, c2, c3⟩ := clr_lt64 S hS _ l1
      have c4 := c3 l2
      obtain ⟨d1, d2, -⟩ := DF_ok (lk := lk) (v := v) hS h0 hP
      have hbo : ∀ i, (clr S (lwS S)).testBit i = true → i < P := fun i hi => by
        rw [clr_bit hS l1] at hi
        simp only [Bool.and_eq_true] at hi
        exact hP i hi.1
      rw [WS_clr hS l1]
      rcases hq _ l2 with e | ⟨e1, e2, e3, e4, e5⟩
      · have h1 := DF_max n _ (by omega) c1 hbo q (hq.aside hS hP l1 e)
        have h2 : wtS v P S q (lwS S) = 0 := by unfold wtS; rw [if_neg]; rintro ⟨-, -, h⟩; omega
        omega
      · have hlt : lwS S < q (lwS S) := by have := lwS_le e2; omega
        have h6 := bit64 hS e2
        have h1 := DF_max n (clr (clr S (lwS S)) (q (lwS S))) (by have := (clr_lt64 _ c1 _ h6).2.1; omega) (clr_lt64 _ c1 _ h6).1 (fun i hi => by
          rw [clr_bit c1 h6] at hi
          simp only [Bool.and_eq_true] at hi
          exact hbo i hi.1) q (hq.pair hS l1 l2 e1)
        have h2 : wtS v P S q (lwS S) = v (lwS S) (q (lwS S)) := by unfold wtS; rw [if_pos ⟨l2, hlt, e1⟩]
        have h3 := WS_clr (v := v) (P := P) (q := q) c1 h6
        have h4 : wtS v P (clr S (lwS S)) q (q (lwS S)) = 0 := by unfold wtS; rw [if_neg]; rintro ⟨-, h, -⟩; rw [e4] at h; omega
        have h5 := (d1 _ hlt e2 e5).1
        omega
theorem DF_bnd {B : Nat} (hv : ∀ a b, lk a b = true → v a b ≤ B) : ∀ n S, S < n → S < 64 → (∀ i, S.testBit i = true → i < P) → (DF lk v P S).1 ≤ B * S
  | 0, S, h, _, _ => absurd h (Nat.not_lt_zero _)
  | n + 1, S, hn, hS, hP => by
    by_cases h0 : S = 0
    · subst h0
      rw [DF_0]
      exact Nat.zero_le _
    · obtain ⟨l1, l2, -⟩ := lwS_ok S hS h0
      obtain ⟨c1, c2, c3⟩ := clr_lt64 S hS _ l1
      have c4 := c3 l2
      have hbo : ∀ i, (clr S (lwS S)).testBit i = true → i < P := fun i hi => by
        rw [clr_bit hS l1] at hi
        simp only [Bool.and_eq_true] at hi
        exact hP i hi.1
      obtain ⟨-, -, d3⟩ := DF_ok (lk := lk) (v := v) hS h0 hP
      rcases d3 with ⟨-, e⟩ | ⟨e1, e2, e3, e4⟩
      · rw [e]
        have h1 := DF_bnd hv n _ (by omega) c1 hbo
        exact Nat.le_trans h1 (Nat.mul_le_mul_left B c2)
      · rw [e4]
        have h6 := bit64 hS e2
        have h7 := (clr_lt64 _ c1 _ h6).2.1
        have h1 := DF_bnd hv n (clr (clr S (lwS S)) (DF lk v P S).2) (by omega) (clr_lt64 _ c1 _ h6).1 (fun i hi => by
          rw [clr_bit c1 h6] at hi
          simp only [Bool.and_eq_true] at hi
          exact hbo i hi.1)
        have h2 := hv _ _ e3
        have h3 : B * (clr (clr S (lwS S)) (DF lk v P S).2 + 1) ≤ B * S := Nat.mul_le_mul_left B (by omega)
        rw [Nat.mul_succ] at h3
        omega
/-- the way that is found -/
def bmF (lk : Nat → Nat → Bool) (v : Nat → Nat → Nat) (P : Nat) : Nat → Nat → (Nat → Nat)
  | 0, _ => fun _ => P
  | n + 1, S => if S = 0 then fun _ => P else if (DF lk v P S).2 = P then va_up (bmF lk v P n (clr S (lwS S))) (lwS S) P else va_up (va_up (bmF lk v P n (clr (clr S (lwS S)) (DF lk v P S).2)) (lwS S) (DF lk v P S).2) (DF lk v P S).2 (lwS S)
/-- at the first place where they differ the first has the lower one -/
def LexS (S : Nat) (q r : Nat → Nat) : Prop := ∀ p, S.testBit p = true → (∀ i, i < p → S.testBit i = true → q i = r i) → q p ≤ r p
theorem bm_ok (hsym : ∀ a b, a < P → b < P → lk a b = lk b a) : ∀ n S, S < n → S < 64 → (∀ i, S.testBit i = true → i < P) → VldS lk P S (bmF lk v P n S) ∧ WS v P S (bmF lk v P n S) = (DF lk v P S).1 ∧ (∀ q, VldS lk P S q → WS v P S q = (DF lk v P S).1 → LexS S (bmF lk v P n S) q)
  | 0, S, h, _, _ => absurd h (Nat.not_lt_zero _)
  | n + 1, S, hn, hS, hP => by
    by_cases h0 : S = 0
    · subst h0
      refine ⟨fun p hp => (by rw [Nat.zero_testBit] at hp; cases hp), ?_, fun q _ _ p hp => (by rw [Nat.zero_testBit] at hp; cases hp)⟩
      unfold WS
      rw [fb_sm_cong (g := fun _ => 0) (fun k _ => by unfold wtS; rw [if_neg (fun e => by rw [Nat.zero_testBit] at e; cases e.1)]), fb_sm_const]
      rfl
    · obtain ⟨l1, l2, -⟩ := lwS_ok S hS h0
      obtain ⟨c1, c2, c3⟩ := clr_lt64 S hS _ l1
      have c4 := c3 l2
      have hlP := hP _ l2
      have hb1 : ∀ p, (clr S (lwS S)).testBit p = (S.testBit p && decide (p ≠ lwS S)) := fun p => clr_bit hS l1
      have hbo : ∀ i, (clr S (lwS S)).testBit i = true → i < P := fun i hi => by
        rw [hb1] at hi
        simp only [Bool.and_eq_true] at hi
        exact hP i hi.1
      obtain ⟨d1, d2, d3⟩ := DF_ok (lk := lk) (v := v) hS h0 hP
      have hmx := DF_max (lk := lk) (v := v) (P := P) 64
      rcases d3 with ⟨m1, m2⟩ | ⟨m1, m2, m3, m4⟩
      · -- aside
        obtain ⟨i1, i2, i3⟩ := bm_ok hsym n (clr S (lwS S)) (by omega) c1 hbo
        have eb : bmF lk v P (n + 1) S = va_up (bmF lk v P n (clr S (lwS S))) (lwS S) P := by rw [bmF, if_neg h0, if_pos m1]
        rw [eb]
        generalize bmF lk v P n (clr S (lwS S)) = q' at i1 i2 i3
        have hbt : ∀ p, (clr S (lwS S)).testBit p = true → p ≠ lwS S := fun p hp => by
          rw [hb1] at hp
          simp only [Bool.and_eq_true, decide_eq_true_eq] at hp
          exact hp.2
        have hV : VldS lk P S (va_up q' (lwS S) P) := by
          intro p hp
          by_cases e : p = lwS S
          · subst e; rw [up_same]; exact Or.inl rfl
          · have hp2 : (clr S (lwS S)).testBit p = true := by rw [hb1, hp, decide_eq_true e]; rfl
            rw [up_ne _ _ e]
            rcases i1 p hp2 with g | ⟨g1, g2, g3, g4, g5⟩
            · exact Or.inl g
            · refine Or.inr ⟨g1, ?_, g3, by rw [up_ne _ _ (hbt _ g2)]; exact g4, g5⟩
              rw [hb1] at g2
              simp only [Bool.and_eq_true] at g2
              exact g2.1
        refine ⟨hV, ?_, fun q hq hw p hp hag => ?_⟩
        · rw [WS_clr hS l1, m2, ← i2]
          have e1 : wtS v P S (va_up q' (lwS S) P) (lwS S) = 0 := by unfold wtS; rw [up_same, if_neg]; rintro ⟨-, -, h⟩; omega
          rw [e1]
          refine fb_sm_cong (fun k _ => ?_)
          unfold wtS
          by_cases e : k = lwS S
          · subst e
            rw [if_neg (fun h => hbt _ h.1 rfl), if_neg (fun h => hbt _ h.1 rfl)]
          · rw [up_ne _ _ e]
        · by_cases e : p = lwS S
          · subst e
            rw [up_same]
            rcases hq _ hp with g | ⟨g1, g2, g3, g4, g5⟩
            · rw [g]; exact Nat.le_refl _
            · exfalso
              have hlt : lwS S < q (lwS S) := by have := lwS_le g2; omega
              have h6 := bit64 hS g2
              have hh := (d1 _ hlt g2 g5).2 (by rw [m1]; exact g1)
              have h1 := hmx (clr (clr S (lwS S)) (q (lwS S))) (clr_lt64 _ c1 _ h6).1 (clr_lt64 _ c1 _ h6).1 (fun i hi => by
                rw [clr_bit c1 h6] at hi
                simp only [Bool.and_eq_true] at hi
                exact hbo i hi.1) q (hq.pair hS l1 l2 g1)
              have h2 : wtS v P S q (lwS S) = v (lwS S) (q (lwS S)) := by unfold wtS; rw [if_pos ⟨l2, hlt, g1⟩]
              have h3 := WS_clr (v := v) (P := P) (q := q) c1 h6
              have h4 : wtS v P (clr S (lwS S)) q (q (lwS S)) = 0 := by unfold wtS; rw [if_neg]; rintro ⟨-, h, -⟩; rw [g4] at h; omega
              have h5 := WS_clr (v := v) (P := P) (q := q) hS l1
              omega
          · rw [up_ne _ _ e]
            have hlp : lwS S < p := by have := lwS_le hp; omega
            have hql := hag (lwS S) hlp l2
            rw [up_same] at hql
            have hp2 : (clr S (lwS S)).testBit p = true := by rw [hb1, hp, decide_eq_true e]; rfl
            have h5 := WS_clr (v := v) (P := P) (q := q) hS l1
            have h2 : wtS v P S q (lwS S) = 0 := by unfold wtS; rw [if_neg]; rintro ⟨-, -, h⟩; omega
            refine i3 q (hq.aside hS hP l1 hql.symm) (by omega) p hp2 (fun i hi hib => ?_)
            have h7 := hag i hi (by rw [hb1] at hib; simp only [Bool.and_eq_true] at hib; exact hib.1)
            rw [up_ne _ _ (hbt i hib)] at h7
            exact h7
      · -- with m
        have hm : (DF lk v P S).2 ≠ P := by have := hP _ m2; omega
        have hmP := hP _ m2
        have h6 := bit64 hS m2
        have c5 := (clr_lt64 _ c1 _ h6).1
        have c6 := (clr_lt64 _ c1 _ h6).2.1
        have eb : bmF lk v P (n + 1) S = va_up (va_up (bmF lk v P n (clr (clr S (lwS S)) (DF lk v P S).2)) (lwS S) (DF lk v P S).2) (DF lk v P S).2 (lwS S) := by rw [bmF, if_neg h0, if_neg hm]
        rw [eb]
        have hb2 : ∀ p, (clr (clr S (lwS S)) (DF lk v P S).2).testBit p = (S.testBit p && decide (p ≠ lwS S) && decide (p ≠ (DF lk v P S).2)) := fun p => by rw [clr_bit c1 h6, hb1]
        have hbo2 : ∀ i, (clr (clr S (lwS S)) (DF lk v P S).2).testBit i = true → i < P := fun i hi => by
          rw [hb2] at hi
          simp only [Bool.and_eq_true] at hi
          exact hP i hi.1.1
        obtain ⟨i1, i2, i3⟩ := bm_ok hsym n (clr (clr S (lwS S)) (DF lk v P S).2) (by omega) c5 hbo2
        generalize hmd : (DF lk v P S).2 = md at *
        generalize bmF lk v P n (clr (clr S (lwS S)) md) = q' at i1 i2 i3
        have hbt : ∀ p, (clr (clr S (lwS S)) md).testBit p = true → S.testBit p = true ∧ p ≠ lwS S ∧ p ≠ md := fun p hp => by
          rw [hb2] at hp
          simp only [Bool.and_eq_true, decide_eq_true_eq] at hp
          exact ⟨hp.1.1, hp.1.2, hp.2⟩
        have hbt2 : ∀ p, S.testBit p = true → p ≠ lwS S → p ≠ md → (clr (clr S (lwS S)) md).testBit p = true := fun p h1 h2 h3 => by
          rw [hb2, h1, decide_eq_true h2, decide_eq_true h3]; rfl
        have hne : lwS S ≠ md := by omega
        have u1 : va_up (va_up q' (lwS S) md) md (lwS S) (lwS S) = md := by rw [up_ne _ _ hne, up_same]
        have u2 : va_up (va_up q' (lwS S) md) md (lwS S) md = lwS S := up_same _ _ _
        have u3 : ∀ p, p ≠ lwS S → p ≠ md → va_up (va_up q' (lwS S) md) md (lwS S) p = q' p := fun p h1 h2 => by rw [up_ne _ _ h2, up_ne _ _ h1]
        have hV : VldS lk P S (va_up (va_up q' (lwS S) md) md (lwS S)) := by
          intro p hp
          by_cases e : p = lwS S
          · subst e
            rw [u1]
            exact Or.inr ⟨hmP, m2, Ne.symm hne, u2, m3⟩
          · by_cases e2 : p = md
            · subst e2
              rw [u2]
              exact Or.inr ⟨hlP, l2, hne, u1, by rw [hsym _ _ hmP hlP]; exact m3⟩
            · rw [u3 p e e2]
              rcases i1 p (hbt2 p hp e e2) with g | ⟨g1, g2, g3, g4, g5⟩
              · exact Or.inl g
              · obtain ⟨z1, z2, z3⟩ := hbt _ g2
                exact Or.inr ⟨g1, z1, g3, by rw [u3 _ z2 z3]; exact g4, g5⟩
        refine ⟨hV, ?_, fun q hq hw p hp hag => ?_⟩
        · rw [WS_clr hS l1, WS_clr c1 h6, m4, ← i2]
          have e1 : wtS v P S (va_up (va_up q' (lwS S) md) md (lwS S)) (lwS S) = v (lwS S) md := by unfold wtS; rw [u1, if_pos ⟨l2, m1, hmP⟩]
          have e2 : wtS v P (clr S (lwS S)) (va_up (va_up q' (lwS S) md) md (lwS S)) md = 0 := by unfold wtS; rw [u2, if_neg]; rintro ⟨-, h, -⟩; omega
          have e3 : WS v P (clr (clr S (lwS S)) md) (va_up (va_up q' (lwS S) md) md (lwS S)) = WS v P (clr (clr S (lwS S)) md) q' := by
            refine fb_sm_cong (fun k _ => ?_)
            unfold wtS
            by_cases e : (clr (clr S (lwS S)) md).testBit k = true
            · obtain ⟨z1, z2, z3⟩ := hbt _ e
              rw [u3 _ z2 z3]
            · rw [if_neg (fun h => e h.1), if_neg (fun h => e h.1)]
          rw [e1, e2, e3]
          omega
        · by_cases e : p = lwS S
          · subst e
            rw [u1]
            rcases hq _ hp with g | ⟨g1, g2, g3, g4, g5⟩
            · rw [g]; omega
            · rcases Nat.lt_or_ge (q (lwS S)) md with z | z
              · exfalso
                have hlt : lwS S < q (lwS S) := by have := lwS_le g2; omega
                have h6' := bit64 hS g2
                have hh := (d1 _ hlt g2 g5).2 z
                have h1 := hmx (clr (clr S (lwS S)) (q (lwS S))) (clr_lt64 _ c1 _ h6').1 (clr_lt64 _ c1 _ h6').1 (fun i hi => by
                  rw [clr_bit c1 h6'] at hi
                  simp only [Bool.and_eq_true] at hi
                  exact hbo i hi.1) q (hq.pair hS l1 l2 g1)
                have h2 : wtS v P S q (lwS S) = v (lwS S) (q (lwS S)) := by unfold wtS; rw [if_pos ⟨l2, hlt, g1⟩]
                have h3 := WS_clr (v := v) (P := P) (q := q) c1 h6'
                have h4 : wtS v P (clr S (lwS S)) q (q (lwS S)) = 0 := by unfold wtS; rw [if_neg]; rintro ⟨-, h, -⟩; rw [g4] at h; omega
                have h5 := WS_clr (v := v) (P := P) (q := q) hS l1
                omega
              · exact z
          · have hlp : lwS S < p := by have := lwS_le hp; omega
            have hql := hag (lwS S) hlp l2
            rw [u1] at hql
            obtain ⟨g1, g2, g3, g4, g5⟩ := (hq _ l2).resolve_left (by omega)
            rw [← hql] at g4
            by_cases e2 : p = md
            · subst e2
              rw [u2, g4]
              exact Nat.le_refl _
            · rw [u3 p e e2]
              have hpr := hq.pair hS l1 l2 (by omega)
              rw [← hql] at hpr
              have h2 : wtS v P S q (lwS S) = v (lwS S) md := by unfold wtS; rw [← hql, if_pos ⟨l2, m1, hmP⟩]
              have h3 := WS_clr (v := v) (P := P) (q := q) c1 h6
              have h4 : wtS v P (clr S (lwS S)) q md = 0 := by unfold wtS; rw [if_neg]; rintro ⟨-, h, -⟩; rw [g4] at h; omega
              have h5 := WS_clr (v := v) (P := P) (q := q) hS l1
              refine i3 q hpr (by omega) p (hbt2 p hp e e2) (fun i hi hib => ?_)
              obtain ⟨z1, z2, z3⟩ := hbt _ hib
              have h7 := hag i hi z1
              rw [u3 _ z2 z3] at h7
              exact h7
end DPS
