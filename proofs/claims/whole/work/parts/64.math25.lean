/-! the class's Pairing: its rows -/
def eI (P x : Nat) : Int32 := if x = P then -1 else nI x
def mI (m : Nat) : Int32 := if m = 0 then -1 else nI (m - 1)
theorem eI_P (P : Nat) : eI P P = -1 := if_pos rfl
theorem eI_n {P x : Nat} (h : x ≠ P) : eI P x = nI x := if_neg h
theorem eI_m1 {P x : Nat} (hx : x < 100) : eI P x = -1 ↔ x = P := by
  unfold eI
  by_cases e : x = P
  · rw [if_pos e]; exact ⟨fun _ => e, fun _ => rfl⟩
  · rw [if_neg e]; exact ⟨fun h => absurd h (nI_m1 (by omega)), fun h => absurd h e⟩
theorem mI_s (m : Nat) : mI (m + 1) = nI m := by unfold mI; rw [if_neg (Nat.succ_ne_zero m)]; rfl
theorem mI_le {a m : Nat} (ha : a < 2 ^ 30) (hm : m < 2 ^ 30) : nI a ≤ mI m ↔ a + 1 ≤ m := by
  rw [Int32.le_iff_toInt_le, nI_toInt (by omega)]
  unfold mI
  by_cases e : m = 0
  · rw [if_pos e, show (-1 : Int32).toInt = -1 by decide]; omega
  · rw [if_neg e, nI_toInt (by omega)]; omega
theorem max2 {a b : Nat} (ha : a < 100) (hb : b < 100) : (if nI a < nI b then nI b else nI a) = nI (max a b) := by
  by_cases e : nI a < nI b
  · rw [if_pos e]
    rw [lt_nI (by omega) (by omega)] at e
    rw [Nat.max_eq_right (by omega)]
  · rw [if_neg e]
    rw [lt_nI (by omega) (by omega)] at e
    rw [Nat.max_eq_left (by omega)]
def PaK (κ : Kp) (p : Nat) : Prop := κ.1 p = (0, 0) ∧ p ≠ 0 ∧ (κ.1 (κ.2.1 p 0) = (8, 36) ∧ κ.2.1 p 0 ≠ 0) ∧ (κ.1 (κ.2.1 p 1) = (8, 64) ∧ κ.2.1 p 1 ≠ 0) ∧ (κ.1 (κ.2.1 p 2) = (8, 64) ∧ κ.2.1 p 2 ≠ 0) ∧ (κ.1 (κ.2.1 p 3) = (8, 6) ∧ κ.2.1 p 3 ≠ 0) ∧ κ.2.1 p 1 ≠ κ.2.1 p 2
/-- what two bring lies in the Pairing's row -/
def PaB (κ : Kp) (I : Ip) (p P : Nat) (lk : Nat → Nat → Bool) (v : Nat → Nat → Nat) : Prop := ∀ a b, a < b → b < P → I (κ.2.1 p 0) (6 * a + b) = if lk a b = true then nI (v a b) else -2
def PaF (κ : Kp) (p : Nat) (I J : Ip) : Prop := ∀ a, a ≠ κ.2.1 p 1 → a ≠ κ.2.1 p 2 → a ≠ κ.2.1 p 3 → J a = I a
/-- the sets before S are done -/
def PaM (κ : Kp) (I : Ip) (p P S : Nat) (lk : Nat → Nat → Bool) (v : Nat → Nat → Nat) : Prop := ∀ Z, Z < S → I (κ.2.1 p 1) Z = nI (DF lk v P Z).1 ∧ (Z ≠ 0 → I (κ.2.1 p 2) Z = eI P (DF lk v P Z).2)
section PAI
variable {lk : Nat → Nat → Bool} {v : Nat → Nat → Nat} {P : Nat}
theorem bm_cong : ∀ n S m, S < n → S < m → S < 64 → bmF lk v P n S = bmF lk v P m S
  | 0, _, _, h, _, _ => absurd h (Nat.not_lt_zero _)
  | n + 1, S, m, h1, h2, h3 => by
    obtain ⟨k, rfl⟩ : ∃ k, m = k + 1 := ⟨m - 1, by omega⟩
    rw [bmF, bmF]
    by_cases e : S = 0
    · rw [if_pos e, if_pos e]
    · rw [if_neg e, if_neg e]
      obtain ⟨l1, l2, -⟩ := lwS_ok S h3 e
      obtain ⟨c1, c2, c3⟩ := clr_lt64 S h3 _ l1
      have c4 := c3 l2
      by_cases em : (DF lk v P S).2 = P
      · rw [if_pos em, if_pos em, bm_cong n _ k (by omega) (by omega) c1]
      · rw [if_neg em, if_neg em]
        rcases Nat.lt_or_ge (DF lk v P S).2 6 with z | z
        · obtain ⟨c5, c6, -⟩ := clr_lt64 _ c1 _ z
          rw [bm_cong n _ k (by omega) (by omega) c5]
        · have e7 : clr (clr S (lwS S)) (DF lk v P S).2 ≤ clr S (lwS S) := Nat.and_le_left
          rw [bm_cong n _ k (by omega) (by omega) (by omega)]
theorem bm_s {S : Nat} (hS : S < 64) (h0 : S ≠ 0) : bmF lk v P 64 S = if (DF lk v P S).2 = P then va_up (bmF lk v P 64 (clr S (lwS S))) (lwS S) P else va_up (va_up (bmF lk v P 64 (clr (clr S (lwS S)) (DF lk v P S).2)) (lwS S) (DF lk v P S).2) (DF lk v P S).2 (lwS S) := by
  obtain ⟨l1, l2, -⟩ := lwS_ok S hS h0
  obtain ⟨c1, c2, c3⟩ := clr_lt64 S hS _ l1
  have c4 := c3 l2
  have e7 : clr (clr S (lwS S)) (DF lk v P S).2 ≤ clr S (lwS S) := Nat.and_le_left
  rw [bmF, if_neg h0, bm_cong 63 (clr S (lwS S)) 64 (by omega) (by omega) c1, bm_cong 63 (clr (clr S (lwS S)) (DF lk v P S).2) 64 (by omega) (by omega) (by omega)]
/-- a best row is within bounds -/
theorem DF_two {S : Nat} (hS : S < 64) (h0 : S ≠ 0) (hP : ∀ i, S.testBit i = true → i < P) : (DF lk v P S).2 ≤ P := by
  obtain ⟨-, -, d⟩ := DF_ok (lk := lk) (v := v) hS h0 hP
  rcases d with ⟨e, -⟩ | ⟨-, e, -⟩
  · omega
  · have := hP _ e; omega
/-- with whom one sits, as far as it is read -/
def PaT (lk : Nat → Nat → Bool) (v : Nat → Nat → Nat) (P S p : Nat) (row : Nat → Int32) : Prop := S < 64 ∧ (∀ i, S.testBit i = true → i < P ∧ p ≤ i) ∧ (∀ x, x < P → S.testBit x = false → row x = eI P (bmF lk v P 64 (2 ^ P - 1) x)) ∧ ∀ x, S.testBit x = true → bmF lk v P 64 (2 ^ P - 1) x = bmF lk v P 64 S x
theorem PaT.no {S p : Nat} {row : Nat → Int32} (h : PaT lk v P S p row) (hp : S.testBit p = false) : PaT lk v P S (p + 1) row := by
  obtain ⟨h1, h2, h3, h4⟩ := h
  refine ⟨h1, fun i hi => ⟨(h2 i hi).1, ?_⟩, h3, h4⟩
  have := (h2 i hi).2
  by_cases e : i = p
  · subst e; rw [hp] at hi; cases hi
  · omega
theorem PaT.low {S p : Nat} {row : Nat → Int32} (h : PaT lk v P S p row) (hp : S.testBit p = true) : S ≠ 0 ∧ lwS S = p := by
  have h0 : S ≠ 0 := fun e => by rw [e, Nat.zero_testBit] at hp; cases hp
  obtain ⟨l1, l2, -⟩ := lwS_ok S h.1 h0
  have h5 := lwS_le hp
  have h6 := (h.2.1 _ l2).2
  exact ⟨h0, by omega⟩
theorem PaT.aside {S p : Nat} {row : Nat → Int32} (h : PaT lk v P S p row) (hp : S.testBit p = true) (hm : (DF lk v P S).2 = P) : PaT lk v P (clr S p) (p + 1) (va_up row p (-1)) := by
  obtain ⟨h0, hl⟩ := h.low hp
  obtain ⟨h1, h2, h3, h4⟩ := h
  have hp6 := bit64 h1 hp
  have hb : ∀ x, (clr S p).testBit x = (S.testBit x && decide (x ≠ p)) := fun x => clr_bit h1 hp6
  have hs := bm_s (lk := lk) (v := v) (P := P) h1 h0
  rw [if_pos hm, hl] at hs
  refine ⟨(clr_lt64 S h1 p hp6).1, fun i hi => ?_, fun x hx hxb => ?_, fun x hxb => ?_⟩
  · rw [hb] at hi
    simp only [Bool.and_eq_true, decide_eq_true_eq] at hi
    have := h2 i hi.1
    have := hi.2
    omega
  · by_cases e : x = p
    · subst e
      rw [up_same, h4 x hp, hs, up_same, eI_P]
    · rw [up_ne _ _ e]
      refine h3 x hx ?_
      rw [hb, decide_eq_true e, Bool.and_true] at hxb
      exact hxb
  · rw [hb] at hxb
    simp only [Bool.and_eq_true, decide_eq_true_eq] at hxb
    rw [h4 x hxb.1, hs, up_ne _ _ hxb.2]
theorem PaT.pair {S p : Nat} {row : Nat → Int32} (h : PaT lk v P S p row) (hp : S.testBit p = true) (hm : (DF lk v P S).2 ≠ P) : p < (DF lk v P S).2 ∧ (DF lk v P S).2 < P ∧ S.testBit (DF lk v P S).2 = true ∧ PaT lk v P (clr (clr S p) (DF lk v P S).2) (p + 1) (va_up (va_up row p (nI (DF lk v P S).2)) (DF lk v P S).2 (nI p)) := by
  obtain ⟨h0, hl⟩ := h.low hp
  obtain ⟨h1, h2, h3, h4⟩ := h
  have hp6 := bit64 h1 hp
  obtain ⟨-, -, d⟩ := DF_ok (lk := lk) (v := v) h1 h0 (fun i hi => (h2 i hi).1)
  have hs := bm_s (lk := lk) (v := v) (P := P) h1 h0
  rw [if_neg hm, hl] at hs
  rw [hl] at d
  generalize (DF lk v P S).2 = md at hm d hs ⊢
  obtain ⟨m1, m2, -⟩ := d.resolve_left (fun e => hm e.1)
  have hmP := (h2 md m2).1
  have hpP := (h2 p hp).1
  have hm6 := bit64 h1 m2
  have c1 := (clr_lt64 S h1 p hp6).1
  have hb : ∀ x, (clr (clr S p) md).testBit x = (S.testBit x && decide (x ≠ p) && decide (x ≠ md)) := fun x => by rw [clr_bit c1 hm6, clr_bit h1 hp6]
  refine ⟨m1, hmP, m2, (clr_lt64 _ c1 md hm6).1, fun i hi => ?_, fun x hx hxb => ?_, fun x hxb => ?_⟩
  · rw [hb] at hi
    simp only [Bool.and_eq_true, decide_eq_true_eq] at hi
    have := h2 i hi.1.1
    have := hi.1.2
    omega
  · by_cases e2 : x = md
    · subst e2
      rw [up_same, h4 x m2, hs, up_same, eI_n (by omega)]
    · rw [up_ne _ _ e2]
      by_cases e : x = p
      · subst e
        rw [up_same, h4 x hp, hs, up_ne _ _ e2, up_same, eI_n (by omega)]
      · rw [up_ne _ _ e]
        refine h3 x hx ?_
        rw [hb, decide_eq_true e, decide_eq_true e2, Bool.and_true, Bool.and_true] at hxb
        exact hxb
  · rw [hb] at hxb
    simp only [Bool.and_eq_true, decide_eq_true_eq] at hxb
    rw [h4 x hxb.1.1, hs, up_ne _ _ hxb.2, up_ne _ _ hxb.1.2]
end PAI
theorem bmI {P : Nat} (hP : P ≤ 6) : nI (2 ^ P) - nI 1 = nI (2 ^ P - 1) := nI_subE (by have := Nat.pow_pos (n := P) (show 0 < 2 by decide); omega) (by have : 2 ^ P ≤ 2 ^ 6 := Nat.pow_le_pow_right (by decide) hP; omega)
theorem pow6 {P : Nat} (hP : P ≤ 6) : 1 ≤ 2 ^ P ∧ 2 ^ P ≤ 64 := ⟨Nat.pow_pos (by decide), Nat.pow_le_pow_right (n := 2) (j := 6) (by decide) hP⟩
theorem clr_mem {P S i : Nat} (hS : S < 64) (hi : i < 6) (h : ∀ j, S.testBit j = true → j < P) : ∀ j, (clr S i).testBit j = true → j < P := fun j hj => by
  rw [clr_bit hS hi] at hj
  simp only [Bool.and_eq_true] at hj
  exact h j hj.1
theorem DF_b {lk : Nat → Nat → Bool} {v : Nat → Nat → Nat} {P Z : Nat} (hv : ∀ a b, lk a b = true → v a b ≤ 1200) (hZ : Z < 64) (h : ∀ j, Z.testBit j = true → j < P) : (DF lk v P Z).1 ≤ 76800 := by
  have := DF_bnd (P := P) hv 64 Z hZ hZ h
  omega
theorem DF_E {lk : Nat → Nat → Bool} {v : Nat → Nat → Nat} {P S : Nat} (hv : ∀ a b, lk a b = true → v a b ≤ 1200) (hS : S < 64) (h0 : S ≠ 0) (h : ∀ j, S.testBit j = true → j < P) : ∀ i, i < 6 → (clr S (lwS S)).testBit i = true → i < P ∧ ∃ z, clr (clr S (lwS S)) i = z ∧ z < S ∧ nI (clr S (lwS S)) &&& (bit1 i ^^^ -1) = nI z ∧ (DF lk v P z).1 ≤ 76800 := fun i hi hb => by
  obtain ⟨l1, l2, l3⟩ := lwS_ok S hS h0
  obtain ⟨c1, c2, c3⟩ := clr_lt64 S hS _ l1
  have c4 := c3 l2
  have hbo := clr_mem hS l1 h
  obtain ⟨c5, c6, -⟩ := clr_lt64 _ c1 i hi
  exact ⟨hbo i hb, _, rfl, Nat.lt_of_le_of_lt c6 c4, clr_I _ c1 i hi, DF_b hv c5 (clr_mem c1 hi hbo)⟩
