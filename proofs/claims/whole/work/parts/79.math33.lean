/-! held back: the chance -/
theorem sm_mul (c : Nat) (f : Nat → Nat) : ∀ n, fb_sm (fun k => c * f k) n = c * fb_sm f n
  | 0 => rfl
  | n + 1 => by rw [fb_sm_succ, fb_sm_succ, sm_mul c f n, Nat.mul_add]
theorem tb_hi (n k : Nat) (hk : k < 2 ^ n) : (2 ^ n + k).testBit n = true := by
  rw [Nat.testBit_two_pow_add_eq, Nat.testBit_lt_two_pow hk]
  rfl
theorem tb_lo (n k i : Nat) (hi : i < n) : (2 ^ n + k).testBit i = k.testBit i := Nat.testBit_two_pow_add_gt hi k
section CH
variable (H L : Nat → Bool) (x : Nat)
/-- the weight of a set: 0 if it holds what is hushed -/
def wtA (k : Nat) : Nat → Nat
  | 0 => 1
  | n + 1 => wtA k n * (if H n = true then (if k.testBit n = true then 0 else 1) else (if k.testBit n = true then x else 10 - x))
def wtB (k : Nat) : Nat → Nat
  | 0 => 1
  | n + 1 => wtB k n * (if L n = true then (if k.testBit n = true then x else 10 - x) else (if k.testBit n = true then 0 else 1))
def prj (k : Nat) : Nat → Nat
  | 0 => 0
  | n + 1 => prj k n + (if L n = true ∧ k.testBit n = true then 2 ^ n else 0)
end CH
section CHS
variable {H L : Nat → Bool} {x : Nat}
theorem wtA_cong {k k2 : Nat} : ∀ n, (∀ i, i < n → k.testBit i = k2.testBit i) → wtA H x k n = wtA H x k2 n
  | 0, _ => rfl
  | n + 1, h => by rw [wtA, wtA, wtA_cong n (fun i hi => h i (by omega)), h n (by omega)]
theorem wtB_cong {k k2 : Nat} : ∀ n, (∀ i, i < n → k.testBit i = k2.testBit i) → wtB L x k n = wtB L x k2 n
  | 0, _ => rfl
  | n + 1, h => by rw [wtB, wtB, wtB_cong n (fun i hi => h i (by omega)), h n (by omega)]
theorem prj_cong {k k2 : Nat} : ∀ n, (∀ i, i < n → k.testBit i = k2.testBit i) → prj L k n = prj L k2 n
  | 0, _ => rfl
  | n + 1, h => by rw [prj, prj, prj_cong n (fun i hi => h i (by omega)), h n (by omega)]
def smA (H L : Nat → Bool) (x n : Nat) (G : Nat → Nat) : Nat := fb_sm (fun k => wtA H x k n * G (prj L k n)) (2 ^ n)
def smB (L : Nat → Bool) (x n : Nat) (G : Nat → Nat) : Nat := fb_sm (fun k => wtB L x k n * G k) (2 ^ n)
theorem smA_s {n : Nat} {G : Nat → Nat} : smA H L x (n + 1) G = (if H n = true then 1 else 10 - x) * smA H L x n G + (if H n = true then 0 else x) * smA H L x n (fun S => G (S + if L n = true then 2 ^ n else 0)) := by
  unfold smA
  rw [Nat.pow_succ, Nat.mul_two, fb_sm_split, ← sm_mul, ← sm_mul]
  congr 1
  · refine fb_sm_cong (fun k hk => ?_)
    have hb : k.testBit n = false := Nat.testBit_lt_two_pow hk
    rw [wtA, prj, hb, if_neg (show ¬ (L n = true ∧ false = true) from fun e => by cases e.2), Nat.add_zero]
    by_cases h : H n = true
    · rw [if_pos h, if_pos h, if_neg (by decide), Nat.mul_one, Nat.one_mul]
    · rw [if_neg h, if_neg h, if_neg (by decide), Nat.mul_comm (wtA H x k n), Nat.mul_assoc]
  · refine fb_sm_cong (fun k hk => ?_)
    have hb : (2 ^ n + k).testBit n = true := tb_hi n k hk
    have hc : ∀ i, i < n → (2 ^ n + k).testBit i = k.testBit i := fun i hi => tb_lo n k i hi
    rw [wtA, prj, hb, wtA_cong n hc, prj_cong n hc]
    by_cases h : H n = true
    · rw [if_pos h, if_pos h, if_pos rfl, Nat.mul_zero, Nat.zero_mul, Nat.zero_mul]
    · rw [if_neg h, if_neg h, if_pos rfl, Nat.mul_comm (wtA H x k n), Nat.mul_assoc]
      by_cases hl : L n = true
      · rw [if_pos ⟨hl, rfl⟩, if_pos hl]
      · rw [if_neg (fun e => hl e.1), if_neg hl]
theorem smB_s {n : Nat} {G : Nat → Nat} : smB L x (n + 1) G = (if L n = true then 10 - x else 1) * smB L x n G + (if L n = true then x else 0) * smB L x n (fun S => G (2 ^ n + S)) := by
  unfold smB
  rw [Nat.pow_succ, Nat.mul_two, fb_sm_split, ← sm_mul, ← sm_mul]
  congr 1
  · refine fb_sm_cong (fun k hk => ?_)
    have hb : k.testBit n = false := Nat.testBit_lt_two_pow hk
    rw [wtB, hb]
    by_cases h : L n = true
    · rw [if_pos h, if_pos h, if_neg (by decide), Nat.mul_comm (wtB L x k n), Nat.mul_assoc]
    · rw [if_neg h, if_neg h, if_neg (by decide), Nat.mul_one, Nat.one_mul]
  · refine fb_sm_cong (fun k hk => ?_)
    have hb : (2 ^ n + k).testBit n = true := tb_hi n k hk
    have hc : ∀ i, i < n → (2 ^ n + k).testBit i = k.testBit i := fun i hi => tb_lo n k i hi
    rw [wtB, hb, wtB_cong n hc]
    by_cases h : L n = true
    · rw [if_pos h, if_pos h, if_pos rfl, Nat.mul_comm (wtB L x k n), Nat.mul_assoc]
    · rw [if_neg h, if_neg h, if_pos rfl, Nat.mul_zero, Nat.zero_mul, Nat.zero_mul]
theorem sm_AB (hx : x ≤ 10) (hHL : ∀ t, L t = true → H t = false) : ∀ n G, smA H L x n G = 10 ^ fb_ct (fun t => !H t && !L t) n * smB L x n G
  | 0, G => by
    show 0 + 1 * G 0 = 1 * (0 + 1 * G 0)
    omega
  | n + 1, G => by
    rw [smA_s, smB_s, fb_ct_succ]
    by_cases hl : L n = true
    · have hh := hHL n hl
      rw [hh, hl]
      simp only [Bool.false_eq_true, if_false, if_true, Bool.not_false, Bool.not_true, Bool.and_false, Nat.add_zero]
      rw [sm_AB hx hHL n G, sm_AB hx hHL n (fun S => G (S + 2 ^ n)), Nat.mul_add, Nat.mul_left_comm, Nat.mul_left_comm x]
      simp only [Nat.add_comm _ (2 ^ n)]
    · have hl : L n = false := by simpa using hl
      rw [hl]
      by_cases hh : H n = true
      · rw [hh]
        simp only [Bool.false_eq_true, if_false, if_true, Bool.not_true, Bool.false_and, Nat.add_zero, Nat.one_mul, Nat.zero_mul]
        exact sm_AB hx hHL n G
      · have hh : H n = false := by simpa using hh
        rw [hh]
        simp only [Bool.false_eq_true, if_false, if_true, Bool.not_false, Bool.and_true, Nat.add_zero, Nat.one_mul, Nat.zero_mul]
        rw [sm_AB hx hHL n G, ← Nat.add_mul, show 10 - x + x = 10 by omega, Nat.pow_succ, Nat.mul_comm _ 10, Nat.mul_assoc]
theorem smB_no {n : Nat} {G : Nat → Nat} (h : L n = false) : smB L x (n + 1) G = smB L x n G := by
  rw [smB_s, h]
  simp only [Bool.false_eq_true, if_false, Nat.zero_mul, Nat.add_zero, Nat.one_mul]
theorem smB_ext {T : Nat} (h : ∀ t, T ≤ t → L t = false) {G : Nat → Nat} : ∀ k, smB L x (T + k) G = smB L x T G
  | 0 => rfl
  | k + 1 => by rw [← Nat.add_assoc, smB_no (h _ (by omega)), smB_ext h k]
theorem smB_le (hx : x ≤ 10) : ∀ n G, (∀ S, G S ≤ 1) → smB L x n G ≤ 10 ^ fb_ct L n
  | 0, G, h => by
    show 0 + 1 * G 0 ≤ 1
    have := h 0
    omega
  | n + 1, G, h => by
    rw [smB_s, fb_ct_succ]
    have h1 := smB_le hx n G h
    have h2 := smB_le hx n (fun S => G (2 ^ n + S)) (fun S => h _)
    by_cases hl : L n = true
    · rw [hl]
      simp only [if_true]
      have h3 := Nat.mul_le_mul_left (10 - x) h1
      have h4 := Nat.mul_le_mul_left x h2
      rw [Nat.pow_succ]
      have h5 : (10 - x) * 10 ^ fb_ct L n + x * 10 ^ fb_ct L n = 10 ^ fb_ct L n * 10 := by rw [← Nat.add_mul, show 10 - x + x = 10 by omega, Nat.mul_comm]
      omega
    · have hl : L n = false := by simpa using hl
      rw [hl]
      simp only [Bool.false_eq_true, if_false, Nat.zero_mul, Nat.add_zero, Nat.one_mul]
      exact h1
/-- the weight of a set of what can be told -/
theorem wtB_pw {k : Nat} (hk : ∀ t, k.testBit t = true → L t = true) : ∀ n, wtB L x k n = x ^ fb_ct (fun t => k.testBit t) n * (10 - x) ^ (fb_ct L n - fb_ct (fun t => k.testBit t) n) ∧ fb_ct (fun t => k.testBit t) n ≤ fb_ct L n
  | 0 => ⟨rfl, Nat.le_refl _⟩
  | n + 1 => by
    obtain ⟨i1, i2⟩ := wtB_pw hk n
    rw [wtB, fb_ct_succ, fb_ct_succ, i1]
    by_cases hb : k.testBit n = true
    · rw [hk n hb, hb]
      simp only [if_true]
      refine ⟨?_, by omega⟩
      rw [show fb_ct L n + 1 - (fb_ct (fun t => k.testBit t) n + 1) = fb_ct L n - fb_ct (fun t => k.testBit t) n by omega, Nat.pow_succ, Nat.mul_assoc, Nat.mul_comm _ x, ← Nat.mul_assoc]
    · have hb : k.testBit n = false := by simpa using hb
      rw [hb]
      by_cases hl : L n = true
      · rw [hl]
        simp only [Bool.false_eq_true, if_false, if_true, Nat.add_zero]
        refine ⟨?_, by omega⟩
        rw [show fb_ct L n + 1 - fb_ct (fun t => k.testBit t) n = fb_ct L n - fb_ct (fun t => k.testBit t) n + 1 by omega, Nat.pow_succ, Nat.mul_assoc]
      · have hl : L n = false := by simpa using hl
        rw [hl]
        simp only [Bool.false_eq_true, if_false, Nat.add_zero, Nat.mul_one]
        exact ⟨trivial, i2⟩
theorem wtB_no {k : Nat} : ∀ n, (∃ t, t < n ∧ k.testBit t = true ∧ L t = false) → wtB L x k n = 0
  | 0, h => by obtain ⟨t, h, -⟩ := h; omega
  | n + 1, ⟨t, h1, h2, h3⟩ => by
    rw [wtB]
    by_cases e : t = n
    · subst e
      rw [h2, h3]
      simp only [Bool.false_eq_true, if_false, if_true, Nat.mul_zero]
    · rw [wtB_no n ⟨t, by omega, h2, h3⟩, Nat.zero_mul]
theorem wtA_no {k : Nat} : ∀ n, (∃ t, t < n ∧ k.testBit t = true ∧ H t = true) → wtA H x k n = 0
  | 0, h => by obtain ⟨t, h, -⟩ := h; omega
  | n + 1, ⟨t, h1, h2, h3⟩ => by
    rw [wtA]
    by_cases e : t = n
    · subst e
      rw [h2, h3]
      simp only [if_true, Nat.mul_zero]
    · rw [wtA_no n ⟨t, by omega, h2, h3⟩, Nat.zero_mul]
theorem wtA_ways {hu : Int32} {k : Nat} : ∀ n, (∀ t, t < n → k.testBit t = true → bt hu t = false) → wtA (fun t => bt hu t) x k n = waysF hu x k n
  | 0, _ => rfl
  | n + 1, h => by
    rw [wtA, waysF, wtA_ways n (fun t ht => h t (by omega))]
    congr 1
    by_cases hb : bt hu n = true
    · rw [if_pos hb, if_pos hb]
      cases hk : k.testBit n with
      | false => rfl
      | true => rw [h n (by omega) hk] at hb; cases hb
    · rw [if_neg hb, if_neg hb]
theorem prj_bt {k : Nat} : ∀ n, prj L k n < 2 ^ n ∧ ∀ i, i < n → (prj L k n).testBit i = (L i && k.testBit i)
  | 0 => ⟨Nat.one_pos, fun i hi => absurd hi (Nat.not_lt_zero _)⟩
  | n + 1 => by
    obtain ⟨i1, i2⟩ := prj_bt (k := k) n
    rw [prj, Nat.pow_succ]
    by_cases h : L n = true ∧ k.testBit n = true
    · rw [if_pos h, Nat.add_comm]
      refine ⟨by omega, fun i hi => ?_⟩
      by_cases e : i = n
      · subst e; rw [tb_hi _ _ i1, h.1, h.2]; rfl
      · rw [tb_lo _ _ _ (by omega)]; exact i2 i (by omega)
    · rw [if_neg h, Nat.add_zero]
      refine ⟨by omega, fun i hi => ?_⟩
      by_cases e : i = n
      · subst e
        rw [Nat.testBit_lt_two_pow i1]
        cases h1 : L i <;> cases h2 : k.testBit i <;> simp_all
      · exact i2 i (by omega)
end CHS
theorem bel_ct {hu : Int32} : ∀ n, belF hu n = 10 ^ fb_ct (fun t => !bt hu t) n
  | 0 => rfl
  | n + 1 => by
    rw [belF, bel_ct n, fb_ct_succ]
    cases bt hu n with
    | true => simp
    | false =>
      simp only [Bool.false_eq_true, if_false, Bool.not_false, if_true]
      rw [Nat.pow_succ]
theorem ct_HL {H L : Nat → Bool} (hHL : ∀ t, L t = true → H t = false) : ∀ n, fb_ct (fun t => !H t) n = fb_ct (fun t => !H t && !L t) n + fb_ct L n
  | 0 => rfl
  | n + 1 => by
    rw [fb_ct_succ, fb_ct_succ, fb_ct_succ, ct_HL hHL n]
    cases hl : L n with
    | true => rw [hHL n hl]; simp; omega
    | false => cases H n <;> simp <;> omega
theorem and0_nI {k : Nat} {v : Int32} {T : Nat} (hT : T ≤ 9) (hk : k < 2 ^ T) : nI k &&& v = 0 ↔ ∀ t, t < T → k.testBit t = true → bt v t = false := by
  have hk31 : k < 2 ^ 31 := Nat.lt_of_lt_of_le hk (Nat.pow_le_pow_right (by decide) (by omega))
  constructor
  · intro h t ht hb
    have h1 : bt (nI k &&& v) t = false := by rw [h, b_0]
    rw [b_and, bt_nI hk31 (by omega), hb] at h1
    simpa using h1
  · intro h
    refine b_ext (fun i hi => ?_)
    rw [b_and, bt_nI hk31 hi, b_0]
    cases hb : k.testBit i with
    | false => rfl
    | true =>
      rcases Nat.lt_or_ge i T with z | z
      · rw [h i z hb]; rfl
      · rw [Nat.testBit_lt_two_pow (Nat.lt_of_lt_of_le hk (Nat.pow_le_pow_right (by decide) z))] at hb
        cases hb
theorem abv_sm {br : Nat → Int32} {hu h : Int32} {x T : Nat} : ∀ k, abvF br hu h x T k = fb_sm (fun k => if nI k &&& hu = 0 ∧ 0 < waysF hu x k T ∧ h ≤ br k then waysF hu x k T else 0) k
  | 0 => rfl
  | k + 1 => by rw [abvF, abv_sm k, fb_sm_succ]
