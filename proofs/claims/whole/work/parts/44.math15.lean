/-! the class: small words -/
def atV (f : Nat → Int32) (n : Nat) (i : Int32) : Int32 := if inN n i then f i.toNatClampNeg else nI 0
theorem atV_in {f : Nat → Int32} {n j : Nat} (h : j < n) (hn : n < 2 ^ 31) : atV f n (nI j) = f j := by
  rw [atV, if_pos (inN_nI h (by omega)), nI_clamp (by omega)]
theorem atV_out {f : Nat → Int32} {n : Nat} {i : Int32} (h : ¬ inN n i) : atV f n i = nI 0 := if_neg h
def bitI (i : Int32) : Int32 := nI 1 <<< (i &&& 31)
theorem bitI_nI (j : Nat) : bitI (nI j) = bit1 j := rfl
theorem inR_lt {x : Int32} {lo : Nat} (h : lo < 2 ^ 31) : x < nI lo ↔ x.toInt < (lo : Int) := by rw [Int32.lt_iff_toInt_lt, nI_toInt h]
theorem inR_gt {x : Int32} {hi : Nat} (h : hi < 2 ^ 31) : nI hi < x ↔ (hi : Int) < x.toInt := by rw [Int32.lt_iff_toInt_lt, nI_toInt h]
theorem nI_le_x {x : Int32} {n : Nat} (h : n < 2 ^ 31) : nI n ≤ x ↔ (n : Int) ≤ x.toInt := by rw [Int32.le_iff_toInt_le, nI_toInt h]
theorem x_lt_0 {x : Int32} : x < 0 ↔ x.toInt < 0 := by rw [Int32.lt_iff_toInt_lt, Int32.toInt_zero]
theorem inN_no1 {n : Nat} {x : Int32} (h : x.toInt < 0) : ¬ inN n x := fun e => by have := e.1; omega
theorem inN_no2 {n : Nat} {x : Int32} (h : (n : Int) ≤ x.toInt) : ¬ inN n x := fun e => by have := e.2; omega
theorem inN_m1 {n : Nat} : ¬ inN n (-1) := inN_no1 (by decide)
-- commonDivisor
theorem gcd_step {u v i : Nat} (h : i = 0 ∨ v < u) (hu : u < 2 ^ 31) (hv : v < 2 ^ 31) (hv0 : 0 < v) (hp : u * v * 2 ^ i < 2 ^ 64) : v * (u % v) * 2 ^ (i + 1) < 2 ^ 64 := by
  have hm := Nat.mod_lt u hv0
  rcases Nat.lt_or_ge u v with q | q
  · rcases h with h | h
    · subst h
      rw [Nat.mod_eq_of_lt q]
      have h1 : v * u ≤ 2 ^ 31 * 2 ^ 31 := Nat.mul_le_mul (by omega) (by omega)
      have h2 : (2 : Nat) ^ 31 * 2 ^ 31 = 2 ^ 62 := by decide
      omega
    · omega
  · have h1 : u % v + v ≤ u := by
      have h2 := Nat.div_add_mod u v
      have h3 : 1 ≤ u / v := (Nat.le_div_iff_mul_le hv0).mpr (by omega)
      have h4 : v * 1 ≤ v * (u / v) := Nat.mul_le_mul_left v h3
      omega
    have h2 : v * (u % v) * 2 ≤ u * v := by
      have h3 : v * (u % v * 2) ≤ v * u := Nat.mul_le_mul_left v (by omega)
      rw [Nat.mul_assoc, Nat.mul_comm u v]
      exact h3
    have h3 : v * (u % v) * 2 ^ (i + 1) ≤ u * v * 2 ^ i := by
      rw [Nat.pow_succ, Nat.mul_comm (2 ^ i) 2, ← Nat.mul_assoc]
      exact Nat.mul_le_mul_right _ h2
    omega
theorem gcd_end {u v : Nat} (h : v < u) (hp : u * v * 2 ^ 200 < 2 ^ 64) : v = 0 := by
  rcases Nat.eq_zero_or_pos v with e | e
  · exact e
  · exfalso
    have h1 : 1 * 1 ≤ u * v := Nat.mul_le_mul (by omega) e
    have h2 : 1 * 2 ^ 200 ≤ u * v * 2 ^ 200 := Nat.mul_le_mul_right _ (by omega)
    have h3 : (2 : Nat) ^ 64 ≤ 1 * 2 ^ 200 := by decide
    omega
-- bits counted
def bA (x : Int32) : Int32 := x - ((x.toUInt32 >>> ((nI 1).toUInt32 &&& Int32.toUInt32 31)).toInt32 &&& 1431655765)
def bB (a : Int32) : Int32 := (a &&& 858993459) + ((a.toUInt32 >>> ((nI 2).toUInt32 &&& Int32.toUInt32 31)).toInt32 &&& 858993459)
def bC (b : Int32) : Int32 := b + (b.toUInt32 >>> ((nI 4).toUInt32 &&& Int32.toUInt32 31)).toInt32 &&& 252645135
def bD (c : Int32) : Int32 := c + (c.toUInt32 >>> ((nI 8).toUInt32 &&& Int32.toUInt32 31)).toInt32
def bE (d : Int32) : Int32 := d + (d.toUInt32 >>> ((nI 16).toUInt32 &&& Int32.toUInt32 31)).toInt32
def bcX (x : Int32) : Int32 :=
  let a := x - ((x.toUInt32 >>> ((nI 1).toUInt32 &&& Int32.toUInt32 31)).toInt32 &&& 1431655765)
  let b := (a &&& 858993459) + ((a.toUInt32 >>> ((nI 2).toUInt32 &&& Int32.toUInt32 31)).toInt32 &&& 858993459)
  let c := b + (b.toUInt32 >>> ((nI 4).toUInt32 &&& Int32.toUInt32 31)).toInt32 &&& 252645135
  let d := c + (c.toUInt32 >>> ((nI 8).toUInt32 &&& Int32.toUInt32 31)).toInt32
  let e := d + (d.toUInt32 >>> ((nI 16).toUInt32 &&& Int32.toUInt32 31)).toInt32
  e &&& nI 63
theorem bcX_okL : ∀ k, k < 512 → bcX (nI k) = nI (pc9 k) := by decide +kernel
theorem bcX_ok (k : Nat) (hk : k < 512) : bE (bD (bC (bB (bA (nI k))))) &&& nI 63 = nI (pc9 k) := bcX_okL k hk
theorem low_ok : ∀ k, k < 512 → k ≠ 0 → (nI k &&& -(nI k)) - nI 1 = nI (2 ^ lowN (nI k) - 1) ∧ lowN (nI k) < 9 := by decide +kernel
theorem low_pc : ∀ l, l < 9 → 2 ^ l - 1 < 512 ∧ pc9 (2 ^ l - 1) = l := by decide +kernel
/-- what the class's objects are -/
def TwK (κ : Kp) (tw : Nat) : Prop := κ.1 tw = (4, 0) ∧ tw ≠ 0 ∧ (κ.1 (κ.2.1 tw 2) = (8, 6) ∧ κ.2.1 tw 2 ≠ 0) ∧ (κ.1 (κ.2.1 tw 3) = (8, 6) ∧ κ.2.1 tw 3 ≠ 0) ∧ (κ.1 (κ.2.1 tw 4) = (8, 6) ∧ κ.2.1 tw 4 ≠ 0) ∧ (κ.1 (κ.2.1 tw 5) = (8, 6) ∧ κ.2.1 tw 5 ≠ 0) ∧ (κ.1 (κ.2.1 tw 6) = (8, 9) ∧ κ.2.1 tw 6 ≠ 0) ∧ (κ.1 (κ.2.1 tw 7) = (8, 9) ∧ κ.2.1 tw 7 ≠ 0) ∧ (κ.1 (κ.2.1 tw 8) = (8, 9) ∧ κ.2.1 tw 8 ≠ 0)
def StK (κ : Kp) (st : Nat) : Prop := κ.1 st = (2, 0) ∧ st ≠ 0 ∧ κ.1 (κ.2.1 st 0) = (8, 6) ∧ κ.2.1 st 0 ≠ 0
/-- a Town object holds the town's row w -/
def TwR (κ : Kp) (J : Ip) (tw : Nat) (w : Nat → Int32) (P T : Nat) : Prop := J tw 0 = nI P ∧ J tw 1 = nI T ∧ (∀ p, p < P → J (κ.2.1 tw 2) p = w (2 + p)) ∧ (∀ p, p < P → J (κ.2.1 tw 3) p = w (8 + p)) ∧ (∀ p, p < P → ∀ i, bt (J (κ.2.1 tw 4) p) i = (decide (i < T) && decide (w (14 + i) = nI p))) ∧ (∀ p, p < P → ∀ i, bt (J (κ.2.1 tw 5) p) i = (decide (i < T) && bt (w (41 + i)) p)) ∧ (∀ t, t < T → J (κ.2.1 tw 6) t = w (14 + t)) ∧ (∀ t, t < T → J (κ.2.1 tw 7) t = w (23 + t)) ∧ (∀ t, t < T → J (κ.2.1 tw 8) t = w (32 + t))
/-- what stands in a State's row and fields is how all stands -/
def SR (K f s : Nat → Int32) (T : Nat) : Prop := (∀ p, p < 6 → ∀ i, bt (K p) i = (decide (i < T) && bt (s i) p)) ∧ f 1 = s 9 ∧ f 7 = s 15 ∧ f 8 = s 16 ∧ f 9 = s 17 ∧ ((s 10 = -4 ∧ f 2 = -1 ∧ f 3 = -1 ∧ f 4 = -1 ∧ f 5 = -1 ∧ f 6 = nI 0) ∨ (¬ s 10 = -4 ∧ f 2 = s 10 ∧ f 3 = s 11 ∧ f 4 = s 12 ∧ f 6 = s 14 ∧ ((s 13 = -4 ∧ f 5 = -1) ∨ (¬ s 13 = -4 ∧ f 5 = s 13))))
theorem and_bit0 {x : Int32} {j : Nat} (hj : j < 32) : x &&& bit1 j = 0 ↔ bt x j = false := by
  constructor
  · intro h
    have h1 : bt (x &&& bit1 j) j = bt 0 j := by rw [h]
    rw [b_and, bt_bit1 hj, b_0] at h1
    simpa using h1
  · intro h
    refine b_ext (fun i _ => ?_)
    rw [b_and, bt_bit1 hj, b_0]
    by_cases e : i = j
    · subst e; rw [h]; rfl
    · simp [e]
theorem and_bit1 {x : Int32} {j : Nat} (hj : j < 32) : ¬ x &&& bit1 j = 0 ↔ bt x j = true := by
  rw [and_bit0 hj]
  simp
