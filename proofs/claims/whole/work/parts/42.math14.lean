/-! the text's letters, and how they are read -/
def Lc (tx : Nat → Int32) (sz a : Nat) : Nat := if a < sz then (tx a).toNatClampNeg else 0
def hV (c : Nat) : Int32 := if c = 0 then -1 else nI c
abbrev isD (c : Nat) : Prop := 48 ≤ c ∧ c ≤ 57
def TxK (κ : Kp) (m : Nat) (I : Ip) (tx : Nat → Int32) (sz : Nat) : Prop := I m 9 = nI sz ∧ sz ≤ 200 ∧ (∀ k, k < sz → I (κ.2.1 m 8) k = tx k) ∧ ∀ k, k < sz → ∃ c, 32 ≤ c ∧ c ≤ 126 ∧ tx k = nI c
theorem Lc_lt {tx : Nat → Int32} {sz a : Nat} (h : Lc tx sz a ≠ 0) : a < sz := by
  unfold Lc at h
  split at h
  · assumption
  · exact absurd rfl h
theorem Lc_0 {tx : Nat → Int32} {sz a : Nat} (h : sz ≤ a) : Lc tx sz a = 0 := by
  unfold Lc
  rw [if_neg (by omega)]
theorem TxK.at {κ : Kp} {m : Nat} {I : Ip} {tx : Nat → Int32} {sz a : Nat} (h : TxK κ m I tx sz) (ha : a < sz) : I (κ.2.1 m 8) a = nI (Lc tx sz a) ∧ 32 ≤ Lc tx sz a ∧ Lc tx sz a ≤ 126 := by
  obtain ⟨-, -, h1, h2⟩ := h
  obtain ⟨c, c1, c2, e⟩ := h2 a ha
  have e2 : Lc tx sz a = c := by
    unfold Lc
    rw [if_pos ha, e, nI_clamp (by omega)]
  rw [h1 a ha, e, e2]
  exact ⟨rfl, c1, c2⟩
theorem TxK.le {κ : Kp} {m : Nat} {I : Ip} {tx : Nat → Int32} {sz : Nat} (h : TxK κ m I tx sz) (a : Nat) : Lc tx sz a ≤ 126 := by
  rcases Nat.lt_or_ge a sz with q | q
  · exact (h.at q).2.2
  · rw [Lc_0 q]; exact Nat.zero_le _
def numF (L : Nat → Nat) (a : Nat) : Option (Nat × Nat) :=
  if isD (L a) then (if isD (L (a + 1)) then some (10 * (L a - 48) + (L (a + 1) - 48), a + 2) else some (L a - 48, a + 1)) else none
def numB (lo hi : Nat) (L : Nat → Nat) (a : Nat) : Option (Nat × Nat) :=
  match numF L a with
  | none => none
  | some r => if lo ≤ r.1 ∧ r.1 < hi then some r else none
theorem numB_some {lo hi : Nat} {L : Nat → Nat} {a v b : Nat} (h : numB lo hi L a = some (v, b)) : lo ≤ v ∧ v < hi ∧ numF L a = some (v, b) := by
  unfold numB at h
  cases hn : numF L a with
  | none => rw [hn] at h; cases h
  | some r =>
    rw [hn] at h
    by_cases hc : lo ≤ r.1 ∧ r.1 < hi
    · rw [show (match some r with | none => none | some r => if lo ≤ r.1 ∧ r.1 < hi then some r else none) = if lo ≤ r.1 ∧ r.1 < hi then some r else none from rfl, if_pos hc] at h
      cases h
      exact ⟨hc.1, hc.2, rfl⟩
    · rw [show (match some r with | none => none | some r => if lo ≤ r.1 ∧ r.1 < hi then some r else none) = if lo ≤ r.1 ∧ r.1 < hi then some r else none from rfl, if_neg hc] at h
      cases h
theorem numB_of {lo hi : Nat} {L : Nat → Nat} {a v b : Nat} (h : numF L a = some (v, b)) : numB lo hi L a = if lo ≤ v ∧ v < hi then some (v, b) else none := by
  unfold numB
  rw [h]
theorem numF_lt {L : Nat → Nat} {a v b : Nat} (h : numF L a = some (v, b)) : a < b ∧ isD (L (b - 1)) ∧ v < 100 := by
  unfold numF at h
  by_cases h1 : isD (L a)
  · rw [if_pos h1] at h
    by_cases h2 : isD (L (a + 1))
    · rw [if_pos h2] at h
      cases h
      exact ⟨by omega, h2, by omega⟩
    · rw [if_neg h2] at h
      cases h
      exact ⟨by omega, h1, by omega⟩
  · rw [if_neg h1] at h
    cases h
theorem numF_le {tx : Nat → Int32} {sz a v b : Nat} (h : numF (Lc tx sz) a = some (v, b)) : a < b ∧ b ≤ sz ∧ v < 100 := by
  obtain ⟨h1, h2, h3⟩ := numF_lt h
  have := Lc_lt (tx := tx) (sz := sz) (a := b - 1) (by omega)
  exact ⟨h1, by omega, h3⟩
/-- a row of figures, as bits; 0 if it is not so -/
def rowF (L : Nat → Nat) (P q : Nat) : Nat → Nat → Int32 → Int32 × Nat
  | 0, a, x => (x, a)
  | n + 1, a, x => if isD (L a) then (if L a - 48 < P ∧ L a - 48 ≠ q ∧ bt x (L a - 48) = false then rowF L P q n (a + 1) (x ||| bit1 (L a - 48)) else (0, a)) else (x, a)
abbrev PsT := (Nat → Int32) × Nat × Nat × Nat
def perF (L : Nat → Nat) (r : Nat → Int32) (P T a : Nat) : Option PsT :=
  if P = 6 then none else
  match numB 0 4 L a with
  | none => none
  | some x => if L x.2 = 59 then some (adP r P (nI x.1), P + 1, T, x.2 + 1) else none
def friF (L : Nat → Nat) (r : Nat → Int32) (P T a : Nat) : Option PsT :=
  match numB 0 P L a with
  | none => none
  | some x => if L x.2 = 44 then
      match numB 0 P L (x.2 + 1) with
      | none => none
      | some y => if y.1 ≠ x.1 ∧ L y.2 = 59 then some (adF r x.1 y.1, P, T, y.2 + 1) else none
    else none
def talF (L : Nat → Nat) (r : Nat → Int32) (P T a : Nat) : Option PsT :=
  if T = 9 then none else
  match numB 0 P L a with
  | none => none
  | some q => if L q.2 = 44 then
      match numB 1 21 L (q.2 + 1) with
      | none => none
      | some i => if L i.2 = 44 then
          match numB 1 10 L (i.2 + 1) with
          | none => none
          | some k => if L k.2 = 44 then
              if ¬ (rowF L P q.1 200 (k.2 + 1) 0).1 = 0 ∧ L (rowF L P q.1 200 (k.2 + 1) 0).2 = 59 then some (adT r T (nI q.1) (nI i.1) (nI k.1) (rowF L P q.1 200 (k.2 + 1) 0).1, P, T + 1, (rowF L P q.1 200 (k.2 + 1) 0).2 + 1) else none
            else none
        else none
    else none
def itemF (L : Nat → Nat) (s : PsT) : Option PsT :=
  if L s.2.2.2 = 112 then perF L s.1 s.2.1 s.2.2.1 (s.2.2.2 + 1) else if L s.2.2.2 = 102 then friF L s.1 s.2.1 s.2.2.1 (s.2.2.2 + 1) else if L s.2.2.2 = 116 then talF L s.1 s.2.1 s.2.2.1 (s.2.2.2 + 1) else none
def fltF (L : Nat → Nat) (sz : Nat) : Nat → PsT → Option Nat × PsT
  | 0, s => (none, s)
  | n + 1, s => if s.2.2.2 < sz then (match itemF L s with | none => (some s.2.2.2, s) | some s2 => fltF L sz n s2) else (none, s)
def flt0 (tx : Nat → Int32) (sz : Nat) : Option Nat × PsT := fltF (Lc tx sz) sz 200 (fun _ => nI 0, 0, 0, 0)
def faultA (tx : Nat → Int32) (sz : Nat) : Int32 := match (flt0 tx sz).1 with | none => -4 | some a => nI a
/-- a row is so as far as it is read -/
def OkR (s : PsT) (sz : Nat) : Prop := WfT s.1 s.2.1 s.2.2.1 ∧ (∀ p, s.2.1 ≤ p → p < 6 → s.1 (8 + p) = 0) ∧ s.2.2.2 ≤ sz
theorem adP_at (r : Nat → Int32) (P : Nat) (k : Int32) (j : Nat) : adP r P k j = if j = 0 then nI (P + 1) else if j = 2 + P then k else r j := rfl
theorem adF_at (r : Nat → Int32) {a b : Nat} (hab : a ≠ b) (j : Nat) : adF r a b j = if j = 8 + b then r (8 + b) ||| bit1 a else if j = 8 + a then r (8 + a) ||| bit1 b else r j := by
  have e : va_up r (8 + a) (r (8 + a) ||| bit1 b) (8 + b) = r (8 + b) := up_ne _ _ (by omega)
  show (if j = 8 + b then va_up r (8 + a) (r (8 + a) ||| bit1 b) (8 + b) ||| bit1 a else if j = 8 + a then r (8 + a) ||| bit1 b else r j) = _
  rw [e]
theorem adT_at (r : Nat → Int32) (T : Nat) (q i k w : Int32) (j : Nat) : adT r T q i k w j = if j = 1 then nI (T + 1) else if j = 41 + T then w else if j = 32 + T then k else if j = 23 + T then i else if j = 14 + T then q else r j := rfl
theorem ok_per {r : Nat → Int32} {P T k : Nat} (h : WfT r P T) (h8 : ∀ p, P ≤ p → p < 6 → r (8 + p) = 0) (hP : P < 6) (hk : k < 4) : WfT (adP r P (nI k)) (P + 1) T ∧ ∀ p, P + 1 ≤ p → p < 6 → adP r P (nI k) (8 + p) = 0 := by
  obtain ⟨h0, h1, h2, h3, hk4, hf, hs, ho, hi, hl, hn⟩ := h
  have e8 : ∀ p, p < 6 → adP r P (nI k) (8 + p) = r (8 + p) := fun p hp => by rw [adP_at, if_neg (by omega), if_neg (by omega)]
  have e14 : ∀ j, 14 ≤ j → adP r P (nI k) j = r j := fun j hj => by rw [adP_at, if_neg (by omega), if_neg (by omega)]
  refine ⟨⟨?_, ?_, by omega, h3, ?_, ?_, ?_, ?_, ?_, ?_, ?_⟩, ?_⟩
  · rw [adP_at, if_pos rfl]
  · rw [adP_at, if_neg (by decide), if_neg (by omega)]; exact h1
  · intro p hp
    rw [adP_at, if_neg (by omega)]
    by_cases e : p = P
    · subst e; rw [if_pos rfl]; exact ⟨k, hk, rfl⟩
    · rw [if_neg (by omega)]; exact hk4 p (by omega)
  · intro p hp i
    rw [e8 p (by omega)]
    intro hb
    by_cases e : p = P
    · subst e; rw [h8 p (Nat.le_refl _) (by omega), b_0] at hb; cases hb
    · have := hf p (by omega) i hb; omega
  · intro p q hp hq
    rw [e8 p (by omega), e8 q (by omega)]
    by_cases e : p = P
    · subst e
      rw [h8 p (Nat.le_refl _) (by omega), b_0]
      by_cases e2 : q = p
      · subst e2; rw [h8 q (Nat.le_refl _) (by omega), b_0]
      · cases hb : bt (r (8 + q)) p with
        | false => rfl
        | true => have := hf q (by omega) p hb; omega
    · by_cases e2 : q = P
      · subst e2
        rw [h8 q (Nat.le_refl _) (by omega), b_0]
        cases hb : bt (r (8 + p)) q with
        | false => rfl
        | true => have := hf p (by omega) q hb; omega
      · exact hs p q (by omega) (by omega)
  · intro t ht
    obtain ⟨q, hq, e⟩ := ho t ht
    exact ⟨q, by omega, by rw [e14 _ (by omega)]; exact e⟩
  · intro t ht; rw [e14 _ (by omega)]; exact hi t ht
  · intro t ht; rw [e14 _ (by omega)]; exact hl t ht
  · intro t ht i hb
    rw [e14 _ (by omega)] at hb
    have := hn t ht i hb; omega
  · intro p hp hp6; rw [e8 p hp6]; exact h8 p (by omega) hp6
theorem ok_fri {r : Nat → Int32} {P T a b : Nat} (h : WfT r P T) (h8 : ∀ p, P ≤ p → p < 6 → r (8 + p) = 0) (ha : a < P) (hb : b < P) (hab : a ≠ b) : WfT (adF r a b) P T ∧ ∀ p, P ≤ p → p < 6 → adF r a b (8 + p) = 0 := by
  obtain ⟨h0, h1, h2, h3, hk4, hf, hs, ho, hi, hl, hn⟩ := h
  have el : ∀ j, j < 8 → adF r a b j = r j := fun j hj => by rw [adF_at _ hab, if_neg (by omega), if_neg (by omega)]
  have e14 : ∀ j, 14 ≤ j → adF r a b j = r j := fun j hj => by rw [adF_at _ hab, if_neg (by omega), if_neg (by omega)]
  have eb : ∀ p, p < 6 → ∀ i, bt (adF r a b (8 + p)) i = (bt (r (8 + p)) i || ((decide (p = a) && decide (i = b)) || (decide (p = b) && decide (i = a)))) := by
    intro p hp i
    rw [adF_at _ hab]
    by_cases e1 : p = b
    · subst e1
      rw [if_pos rfl, b_or, bt_bit1 (by omega)]
      have : ¬ p = a := fun e => hab e.symm
      simp [this]
    · rw [if_neg (by omega)]
      by_cases e2 : p = a
      · subst e2
        rw [if_pos rfl, b_or, bt_bit1 (by omega)]
        simp [e1]
      · rw [if_neg (by omega)]
        simp [e1, e2]
  refine ⟨⟨?_, ?_, h2, h3, ?_, ?_, ?_, ?_, ?_, ?_, ?_⟩, ?_⟩
  · rw [el _ (by decide)]; exact h0
  · rw [el _ (by decide)]; exact h1
  · intro p hp; rw [el _ (by omega)]; exact hk4 p hp
  · intro p hp i hbt
    rw [eb p (by omega)] at hbt
    simp only [Bool.or_eq_true, Bool.and_eq_true, decide_eq_true_eq] at hbt
    rcases hbt with h | h | h
    · exact hf p hp i h
    · omega
    · omega
  · intro p q hp hq
    rw [eb p (by omega), eb q (by omega), hs p q hp hq]
    congr 1
    rw [Bool.or_comm]
    congr 1 <;> rw [Bool.and_comm]
  · intro t ht; rw [e14 _ (by omega)]; exact ho t ht
  · intro t ht; rw [e14 _ (by omega)]; exact hi t ht
  · intro t ht; rw [e14 _ (by omega)]; exact hl t ht
  · intro t ht; rw [e14 _ (by omega)]; exact hn t ht
  · intro p hp hp6
    rw [adF_at _ hab, if_neg (by omega), if_neg (by omega)]; exact h8 p hp hp6
theorem ok_tal {r : Nat → Int32} {P T q i k : Nat} {x : Int32} (h : WfT r P T) (h8 : ∀ p, P ≤ p → p < 6 → r (8 + p) = 0) (hT : T < 9) (hq : q < P) (hi1 : 1 ≤ i) (hi2 : i < 21) (hk1 : 1 ≤ k) (hk2 : k < 10) (hx : ∀ j, bt x j = true → j < P) : WfT (adT r T (nI q) (nI i) (nI k) x) P (T + 1) ∧ ∀ p, P ≤ p → p < 6 → adT r T (nI q) (nI i) (nI k) x (8 + p) = 0 := by
  obtain ⟨h0, h1, h2, h3, hk4, hf, hs, ho, hi, hl, hn⟩ := h
  have el : ∀ j, j < 14 → j ≠ 1 → adT r T (nI q) (nI i) (nI k) x j = r j := fun j hj h => by rw [adT_at, if_neg (by omega), if_neg (by omega), if_neg (by omega), if_neg (by omega), if_neg (by omega)]
  refine ⟨⟨?_, ?_, h2, by omega, ?_, ?_, ?_, ?_, ?_, ?_, ?_⟩, ?_⟩
  · rw [el _ (by decide) (by decide)]; exact h0
  · rw [adT_at, if_pos rfl]
  · intro p hp; rw [el _ (by omega) (by omega)]; exact hk4 p hp
  · intro p hp; rw [el _ (by omega) (by omega)]; exact hf p hp
  · intro p q hp hq; rw [el _ (by omega) (by omega), el _ (by omega) (by omega)]; exact hs p q hp hq
  · intro t ht
    by_cases e : t = T
    · subst e; exact ⟨q, hq, by rw [adT_at, if_neg (by omega), if_neg (by omega), if_neg (by omega), if_neg (by omega), if_pos rfl]⟩
    · rw [adT_at, if_neg (by omega), if_neg (by omega), if_neg (by omega), if_neg (by omega), if_neg (by omega)]; exact ho t (by omega)
  · intro t ht
    by_cases e : t = T
    · subst e; exact ⟨i, hi1, by omega, by rw [adT_at, if_neg (by omega), if_neg (by omega), if_neg (by omega), if_pos rfl]⟩
    · rw [adT_at, if_neg (by omega), if_neg (by omega), if_neg (by omega), if_neg (by omega), if_neg (by omega)]; exact hi t (by omega)
  · intro t ht
    by_cases e : t = T
    · subst e; exact ⟨k, hk1, by omega, by rw [adT_at, if_neg (by omega), if_neg (by omega), if_pos rfl]⟩
    · rw [adT_at, if_neg (by omega), if_neg (by omega), if_neg (by omega), if_neg (by omega), if_neg (by omega)]; exact hl t (by omega)
  · intro t ht j hb
    by_cases e : t = T
    · subst e
      rw [adT_at, if_neg (by omega), if_pos rfl] at hb
      exact hx j hb
    · rw [adT_at, if_neg (by omega), if_neg (by omega), if_neg (by omega), if_neg (by omega), if_neg (by omega)] at hb
      exact hn t (by omega) j hb
  · intro p hp hp6; rw [el _ (by omega) (by omega)]; exact h8 p hp hp6
theorem rowF_ok {tx : Nat → Int32} {sz P q : Nat} (hP : P ≤ 6) : ∀ (n a : Nat) (x : Int32), a ≤ sz → (∀ j, bt x j = true → j < P) → (∀ j, bt (rowF (Lc tx sz) P q n a x).1 j = true → j < P) ∧ (rowF (Lc tx sz) P q n a x).2 ≤ sz ∧ a ≤ (rowF (Lc tx sz) P q n a x).2
  | 0, a, x, ha, hx => ⟨hx, ha, Nat.le_refl _⟩
  | n + 1, a, x, ha, hx => by
    unfold rowF
    by_cases h1 : isD (Lc tx sz a)
    · rw [if_pos h1]
      have hlt := Lc_lt (tx := tx) (sz := sz) (a := a) (by omega)
      by_cases h2 : Lc tx sz a - 48 < P ∧ Lc tx sz a - 48 ≠ q ∧ bt x (Lc tx sz a - 48) = false
      · rw [if_pos h2]
        obtain ⟨g1, g2, g3⟩ := rowF_ok (tx := tx) (sz := sz) (q := q) hP n (a + 1) (x ||| bit1 (Lc tx sz a - 48)) (by omega) (fun j hj => by
          rw [b_or, bt_bit1 (by omega)] at hj
          simp only [Bool.or_eq_true, decide_eq_true_eq] at hj
          rcases hj with h | h
          · exact hx j h
          · rw [h]; exact h2.1)
        exact ⟨g1, g2, by omega⟩
      · rw [if_neg h2]
        exact ⟨fun j hj => (by rw [b_0] at hj; cases hj), ha, Nat.le_refl _⟩
    · rw [if_neg h1]
      exact ⟨hx, ha, Nat.le_refl _⟩
theorem item_ok {tx : Nat → Int32} {sz : Nat} {s s2 : PsT} (hs : OkR s sz) (h : itemF (Lc tx sz) s = some s2) : OkR s2 sz ∧ s.2.2.2 < s2.2.2.2 := by
  obtain ⟨r, P, T, a⟩ := s
  obtain ⟨hw, h8, ha⟩ := hs
  change WfT r P T at hw
  change ∀ p, P ≤ p → p < 6 → r (8 + p) = 0 at h8
  have hP := hw.2.2.1
  have hT := hw.2.2.2.1
  unfold itemF at h
  dsimp only at h ha ⊢
  split at h
  · next hc =>
    unfold perF at h
    split at h
    · cases h
    · next hP6 =>
      split at h
      · cases h
      · next x hx =>
        obtain ⟨v, b⟩ := x
        dsimp only at h
        split at h
        · next h59 =>
          obtain ⟨n1, n2, n3⟩ := numB_some hx
          obtain ⟨m1, m2, -⟩ := numF_le n3
          have := Lc_lt (tx := tx) (sz := sz) (a := b) (by omega)
          cases h
          obtain ⟨g1, g2⟩ := ok_per hw h8 (by omega) n2
          exact ⟨⟨g1, g2, by show b + 1 ≤ sz; omega⟩, by show a < b + 1; omega⟩
        · cases h
  · split at h
    · next hc =>
      unfold friF at h
      split at h
      · cases h
      · next x hx =>
        obtain ⟨v, b⟩ := x
        dsimp only at h
        split at h
        · next h44 =>
          split at h
          · cases h
          · next y hy =>
            obtain ⟨v2, b2⟩ := y
            dsimp only at h
            split at h
            · next h59 =>
              obtain ⟨n1, n2, n3⟩ := numB_some hx
              obtain ⟨m1, m2, -⟩ := numF_le n3
              obtain ⟨n4, n5, n6⟩ := numB_some hy
              obtain ⟨m4, m5, -⟩ := numF_le n6
              have := Lc_lt (tx := tx) (sz := sz) (a := b2) (by omega)
              cases h
              obtain ⟨g1, g2⟩ := ok_fri hw h8 n2 n5 (fun e => h59.1 e.symm)
              exact ⟨⟨g1, g2, by show b2 + 1 ≤ sz; omega⟩, by show a < b2 + 1; omega⟩
            · cases h
        · cases h
    · split at h
      · next hc =>
        unfold talF at h
        split at h
        · cases h
        · next hT9 =>
          split at h
          · cases h
          · next x hx =>
            obtain ⟨v, b⟩ := x
            dsimp only at h
            split at h
            · split at h
              · cases h
              · next y hy =>
                obtain ⟨v2, b2⟩ := y
                dsimp only at h
                split at h
                · split at h
                  · cases h
                  · next z hz =>
                    obtain ⟨v3, b3⟩ := z
                    dsimp only at h
                    split at h
                    · next h44 =>
                      split at h
                      · next h59 =>
                        obtain ⟨n1, n2, n3⟩ := numB_some hx
                        obtain ⟨m1, m2, -⟩ := numF_le n3
                        obtain ⟨n4, n5, n6⟩ := numB_some hy
                        obtain ⟨m4, m5, -⟩ := numF_le n6
                        obtain ⟨n7, n8, n9⟩ := numB_some hz
                        obtain ⟨m7, m8, -⟩ := numF_le n9
                        have hl3 := Lc_lt (tx := tx) (sz := sz) (a := b3) (by omega)
                        obtain ⟨r1, r2, r3⟩ := rowF_ok (tx := tx) (sz := sz) (q := v) hP 200 (b3 + 1) 0 (by omega) (fun j hj => by rw [b_0] at hj; cases hj)
                        have := Lc_lt (tx := tx) (sz := sz) (a := (rowF (Lc tx sz) P v 200 (b3 + 1) 0).2) (by omega)
                        cases h
                        obtain ⟨g1, g2⟩ := ok_tal hw h8 (by omega) n2 n4 n5 n7 n8 r1
                        exact ⟨⟨g1, g2, by show (rowF (Lc tx sz) P v 200 (b3 + 1) 0).2 + 1 ≤ sz; omega⟩, by show a < (rowF (Lc tx sz) P v 200 (b3 + 1) 0).2 + 1; omega⟩
                      · cases h
                    · cases h
                · cases h
            · cases h
      · cases h
theorem flt_ok {tx : Nat → Int32} {sz : Nat} : ∀ (n : Nat) (s : PsT), OkR s sz → OkR (fltF (Lc tx sz) sz n s).2 sz
  | 0, s, h => h
  | n + 1, s, h => by
    unfold fltF
    split
    · split
      · exact h
      · next s2 h2 => exact flt_ok n s2 (item_ok h h2).1
    · exact h
theorem ok_0 (sz : Nat) : OkR (fun _ => nI 0, 0, 0, 0) sz := by
  have hn : ∀ {p : Nat} {Z : Prop}, p < 0 → Z := fun h => absurd h (Nat.not_lt_zero _)
  exact ⟨⟨rfl, rfl, by decide, by decide, fun p h => hn h, fun p h => hn h, fun p q h => hn h, fun t h => hn h, fun t h => hn h, fun t h => hn h, fun t h => hn h⟩, fun p _ _ => nI0, Nat.zero_le _⟩
/-- how all stands behind a town laid -/
def laidS (r : Nat → Int32) : Nat → Int32 := fun k => if k < 9 then r (41 + k) else if k = 10 ∨ k = 13 then -4 else nI 0
theorem wfs_laid {r : Nat → Int32} {P T : Nat} (h : WfT r P T) : WfS (laidS r) P T := by
  obtain ⟨h0, h1, h2, h3, hk4, hf, hs, ho, hi, hl, hn⟩ := h
  refine ⟨fun t ht i hb => ?_, fun i hb => ?_, fun i hb => ?_, Or.inl ⟨rfl, rfl, rfl, rfl⟩⟩
  · rw [show laidS r t = r (41 + t) by unfold laidS; rw [if_pos (by omega)]] at hb
    exact hn t ht i hb
  · rw [show laidS r 9 = nI 0 from rfl, bt_0] at hb; cases hb
  · rw [show laidS r 15 = nI 0 from rfl, bt_0] at hb; cases hb
/-- the reading's state -/
def pst (κ : Kp) (m : Nat) (I : Ip) (a v : Int32) (r : Nat → Int32) : Ip := va_up (va_up I m (va_up (va_up (I m) 10 a) 11 v)) (κ.2.1 m 1) r
section PST
variable {κ : Kp} {m : Nat} {I : Ip} {a v a' v' : Int32} {r r' : Nat → Int32}
theorem pst_rd : pst κ m I a v r (κ.2.1 m 1) = r := up_same _ _ _
theorem pst_m (h : m ≠ κ.2.1 m 1) : pst κ m I a v r m = va_up (va_up (I m) 10 a) 11 v := by unfold pst; rw [up_ne _ _ h, up_same]
theorem pst_at (h : m ≠ κ.2.1 m 1) : pst κ m I a v r m 10 = a := by rw [pst_m h, up_ne _ _ (by decide), up_same]
theorem pst_vl (h : m ≠ κ.2.1 m 1) : pst κ m I a v r m 11 = v := by rw [pst_m h, up_same]
theorem pst_k (h : m ≠ κ.2.1 m 1) {k : Nat} (h1 : k ≠ 10) (h2 : k ≠ 11) : pst κ m I a v r m k = I m k := by rw [pst_m h, up_ne _ _ h2, up_ne _ _ h1]
theorem pst_ne {x : Nat} (h1 : x ≠ m) (h2 : x ≠ κ.2.1 m 1) : pst κ m I a v r x = I x := by unfold pst; rw [up_ne _ _ h2, up_ne _ _ h1]
theorem pst_sa (h : m ≠ κ.2.1 m 1) : va_up (pst κ m I a v r) m (va_up (pst κ m I a v r m) 10 a') = pst κ m I a' v r := by
  rw [pst_m h]
  unfold pst
  rw [up_comm _ _ _ h, up_up, up_comm _ _ _ (show (10 : Nat) ≠ 11 by decide), up_up]
theorem pst_sv (h : m ≠ κ.2.1 m 1) : va_up (pst κ m I a v r) m (va_up (pst κ m I a v r m) 11 v') = pst κ m I a v' r := by
  rw [pst_m h]
  unfold pst
  rw [up_comm _ _ _ h, up_up, up_up]
theorem pst_sr : va_up (pst κ m I a v r) (κ.2.1 m 1) r' = pst κ m I a v r' := up_up _ _ _ _
theorem pst_self : pst κ m I (I m 10) (I m 11) (I (κ.2.1 m 1)) = I := by
  unfold pst
  rw [up_self, up_self, up_self, up_self]
end PST
theorem hV_eq {l c : Nat} (h : l ≤ 126) (h1 : 1 ≤ c) (h2 : c ≤ 126) : hV l = nI c ↔ l = c := by
  unfold hV
  by_cases e : l = 0
  · rw [if_pos e]
    constructor
    · intro h3; exact absurd h3.symm (nI_m1 (by omega))
    · intro h3; omega
  · rw [if_neg e, nI_eq (by omega) (by omega)]
theorem hV_D {l : Nat} (h : l ≤ 126) : inR 48 57 (hV l) ↔ isD l := by
  unfold hV
  by_cases e : l = 0
  · rw [if_pos e]
    constructor
    · intro h3
      have h4 := h3.1
      have h2 : (-1 : Int32).toInt = -1 := by decide
      omega
    · intro h3; omega
  · rw [if_neg e]
    unfold inR
    rw [nI_toInt (by omega)]
    constructor <;> intro h3 <;> constructor <;> omega
theorem hV_D1 {l : Nat} (h : isD l) : hV l = nI l := by
  unfold hV
  rw [if_neg (by omega)]
theorem hV_sub {l : Nat} (h : isD l) : hV l - nI 48 = nI (l - 48) := by
  rw [hV_D1 h]
  exact nI_subE (by omega) (by omega)
theorem opt_no {α : Type} {o : Option α} (h : o.isSome = false) : o = none := by
  cases o with
  | none => rfl
  | some x => cases h
theorem opt_yes {α : Type} {o : Option α} (h : o.isSome = true) : ∃ x, o = some x := by
  cases o with
  | none => cases h
  | some x => exact ⟨x, rfl⟩
theorem numB_b {lo hi : Nat} {L : Nat → Nat} {a v b : Nat} {l h : Int32} (e : numF L a = some (v, b)) (hv : v < 100) (hl : l.toInt = (lo : Int)) (hh : h.toInt = (hi : Int) - 1) : b2i (decide (l.toInt64.toInt ≤ (nI v).toInt64.toInt ∧ (nI v).toInt64.toInt ≤ h.toInt64.toInt)) = b2i (numB lo hi L a).isSome := by
  rw [Int32.toInt_toInt64, Int32.toInt_toInt64, Int32.toInt_toInt64, hl, hh, nI_toInt (by omega), numB_of e]
  by_cases hc : lo ≤ v ∧ v < hi
  · rw [if_pos hc, decide_eq_true (by omega)]
    rfl
  · rw [if_neg hc, decide_eq_false (by omega)]
    rfl
theorem numB_eq {lo hi : Nat} {L : Nat → Nat} {a v b : Nat} {x : Nat × Nat} (e : numF L a = some (v, b)) (hx : numB lo hi L a = some x) : nI b = nI x.2 ∧ nI v = nI x.1 := by
  obtain ⟨p, q⟩ := x
  have := (numB_some hx).2.2
  rw [e] at this
  cases this
  exact ⟨rfl, rfl⟩
theorem numB_le {lo hi : Nat} {tx : Nat → Int32} {sz a : Nat} {x : Nat × Nat} (hx : numB lo hi (Lc tx sz) a = some x) : lo ≤ x.1 ∧ x.1 < hi ∧ a < x.2 ∧ x.2 ≤ sz ∧ x.1 < 100 := by
  obtain ⟨p, q⟩ := x
  obtain ⟨h1, h2, h3⟩ := numB_some hx
  obtain ⟨h4, h5, h6⟩ := numF_le h3
  exact ⟨h1, h2, h4, h5, h6⟩
theorem laid_row {r h : Nat → Int32} (k : Nat) (hk : k < 18) : va_up (va_up (fb_put (fb_put h (fun _ => nI 0) 0 18) (fun q => r (41 + q)) 0 9) 10 (-4)) 13 (-4) k = laidS r k := by
  unfold laidS
  by_cases h1 : k < 9
  · rw [if_pos h1, up_ne _ _ (by omega), up_ne _ _ (by omega), fb_put_in (by omega) (by omega)]
    rfl
  · rw [if_neg h1]
    by_cases h2 : k = 13
    · subst h2; rfl
    · rw [up_ne _ _ h2]
      by_cases h3 : k = 10
      · subst h3; rfl
      · rw [up_ne _ _ h3, fb_put_out (by omega), fb_put_in (by omega) (by omega), if_neg (by omega)]
theorem mr_pstK {κ : Kp} {m : Nat} {I : Ip} {P T : Nat} {w s : Nat → Int32} {past kept : List (Nat → Int32)} {tx : Nat → Int32} {sz : Nat} (h : MR κ m I P T w s past kept tx sz) (a v : Int32) (r : Nat → Int32) : MR κ m (pst κ m I a v r) P T w s past kept tx sz ∧ MOut κ m I (pst κ m I a v r) := by
  have hf : MFr κ m I (pst κ m I a v r) := by
    unfold pst
    exact (MFr.rf.fld2 (k := 10) (k' := 11) (by decide) (by decide)).row (Or.inl rfl) h.1.m1
  exact ⟨h.fr hf, hf.out⟩
theorem flt_lt' {L : Nat → Nat} {sz : Nat} : ∀ (n : Nat) (s : PsT) (x : Nat), (fltF L sz n s).1 = some x → x < sz
  | 0, s, x, h => by cases h
  | n + 1, s, x, h => by
    unfold fltF at h
    split at h
    · next hlt =>
      split at h
      · cases h; exact hlt
      · next s2 h2 => exact flt_lt' n s2 x h
    · cases h
theorem flt_lt {tx : Nat → Int32} {sz x : Nat} (hsz : sz ≤ 200) (h : (flt0 tx sz).1 = some x) : x < 2 ^ 31 := by
  have := flt_lt' _ _ _ h
  omega
