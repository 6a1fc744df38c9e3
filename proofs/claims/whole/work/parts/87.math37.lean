/-! the class's object as it is made -/
def SegI (i : Nat) (κ : Kp) (c : Nat) : Prop := match i with
  | 0 => κ.2.1 (c + 1) 0 = c + 2
  | 1 => κ.2.1 (c + 3) 0 = c + 4
  | 2 => κ.2.1 (c + 5) 0 = c + 6
  | 3 => κ.2.1 (c + 7) 0 = c + 8 ∧ ∀ i, i < 8 → κ.2.1 (c + 8) i = c + 9 + 2 * i ∧ κ.2.1 (c + 9 + 2 * i) 0 = c + 10 + 2 * i
  | 4 => κ.2.1 (c + 25) 0 = c + 26 ∧ ∀ i, i < 2 → κ.2.1 (c + 26) i = c + 27 + 2 * i ∧ κ.2.1 (c + 27 + 2 * i) 0 = c + 28 + 2 * i
  | 5 => ∀ k, k < 4 → κ.2.1 (c + 31) k = c + 32 + k
  | 6 => ∀ k, 2 ≤ k → k ≤ 8 → κ.2.1 (c + 36) k = c + 36 + (k - 1)
  | _ => ∀ k, 2 ≤ k → k ≤ 8 → κ.2.1 (c + 44) k = c + 44 + (k - 1)
def stT (m : Nat) : Nat := match m with
  | 0 => 1
  | 1 => 3
  | 2 => 5
  | 3 => 7
  | 4 => 25
  | 5 => 31
  | 6 => 36
  | 7 => 44
  | _ => 52
theorem SegI.tr {i : Nat} {κ κ' : Kp} {c : Nat} (hi : i < 8) (h : SegI i κ c) (hf : ∀ a, c < a → a < c + stT (i + 1) → κ'.2.1 a = κ.2.1 a) : SegI i κ' c := by
  rcases (show i = 0 ∨ i = 1 ∨ i = 2 ∨ i = 3 ∨ i = 4 ∨ i = 5 ∨ i = 6 ∨ i = 7 by omega) with rfl | rfl | rfl | rfl | rfl | rfl | rfl | rfl
  · change ∀ a, c < a → a < c + 3 → _ at hf
    show κ'.2.1 (c + 1) 0 = _
    rw [hf _ (by omega) (by omega)]; exact h
  · change ∀ a, c < a → a < c + 5 → _ at hf
    show κ'.2.1 (c + 3) 0 = _
    rw [hf _ (by omega) (by omega)]; exact h
  · change ∀ a, c < a → a < c + 7 → _ at hf
    show κ'.2.1 (c + 5) 0 = _
    rw [hf _ (by omega) (by omega)]; exact h
  · change ∀ a, c < a → a < c + 25 → _ at hf
    show κ'.2.1 (c + 7) 0 = _ ∧ ∀ i, i < 8 → κ'.2.1 (c + 8) i = _ ∧ κ'.2.1 (c + 9 + 2 * i) 0 = _
    rw [hf (c + 7) (by omega) (by omega), hf (c + 8) (by omega) (by omega)]
    exact ⟨h.1, fun i hi => by rw [hf _ (by omega) (by omega)]; exact h.2 i hi⟩
  · change ∀ a, c < a → a < c + 31 → _ at hf
    show κ'.2.1 (c + 25) 0 = _ ∧ ∀ i, i < 2 → κ'.2.1 (c + 26) i = _ ∧ κ'.2.1 (c + 27 + 2 * i) 0 = _
    rw [hf (c + 25) (by omega) (by omega), hf (c + 26) (by omega) (by omega)]
    exact ⟨h.1, fun i hi => by rw [hf _ (by omega) (by omega)]; exact h.2 i hi⟩
  · change ∀ a, c < a → a < c + 36 → _ at hf
    show ∀ k, k < 4 → κ'.2.1 (c + 31) k = _
    rw [hf (c + 31) (by omega) (by omega)]; exact h
  · change ∀ a, c < a → a < c + 44 → _ at hf
    show ∀ k, 2 ≤ k → k ≤ 8 → κ'.2.1 (c + 36) k = _
    rw [hf (c + 36) (by omega) (by omega)]; exact h
  · change ∀ a, c < a → a < c + 52 → _ at hf
    show ∀ k, 2 ≤ k → k ≤ 8 → κ'.2.1 (c + 44) k = _
    rw [hf (c + 44) (by omega) (by omega)]; exact h
theorem stT_mono : ∀ i, i < 8 → ∀ j, j < 8 → i ≤ j → stT (i + 1) ≤ stT (j + 1) := by decide
/-- m fields of c are made, n cells -/
def Bld (κ0 : Kp) (I0 : Ip) (c n m : Nat) (κ : Kp) (I : Ip) : Prop := κ.2.2 = c + n ∧ (∀ j, j < n → κ.1 (c + j) = kdT j) ∧ (∀ i, i < m → SegI i κ c) ∧ (∀ k, k < m → κ.2.1 c k = c + stT k) ∧ (∀ a, a < c → κ.1 a = κ0.1 a ∧ κ.2.1 a = κ0.2.1 a ∧ I a = I0 a) ∧ (1 ≤ m → I (c + 1) 1 = nI 0)
theorem Bld.stage {κ0 κ κ2 : Kp} {I0 I J : Ip} {c n n' m : Nat} {K : Nat × Nat} (h : Bld κ0 I0 c n m κ I) (hst : stT m = n) (hst' : stT (m + 1) = n') (hm : m < 8) (hn : 1 ≤ n) (hn' : n < n') (hK : kdT n = K) (e1 : κ2.2.2 = c + n') (e2 : ∀ a, a < (kNew κ K).2.2 → κ2.1 a = (kNew κ K).1 a ∧ (a ≠ κ.2.2 → J a = iNew κ I a ∧ κ2.2.1 a = (kNew κ K).2.1 a)) (e3 : ∀ j, n + 1 ≤ j → j < n' → κ2.1 (c + j) = kdT j) (e4 : SegI m κ2 c) (e5 : m = 0 → J (c + 1) 1 = nI 0) : Bld κ0 I0 c n' (m + 1) (κ2.1, va_up κ2.2.1 c (va_up (κ2.2.1 c) m κ.2.2), κ2.2.2) J := by
  obtain ⟨h1, h2, h3, h4, h5, h6⟩ := h
  have en : (kNew κ K).2.2 = κ.2.2 + 1 := rfl
  rw [en] at e2
  have ek : ∀ a, a < κ.2.2 → κ2.1 a = κ.1 a := fun a ha => by rw [(e2 a (by omega)).1, kNew_k (by omega)]
  have er : ∀ a, a < κ.2.2 → κ2.2.1 a = κ.2.1 a := fun a ha => by rw [((e2 a (by omega)).2 (by omega)).2, kNew_r (by omega)]
  have ei : ∀ a, a < κ.2.2 → J a = I a := fun a ha => by rw [((e2 a (by omega)).2 (by omega)).1, iNew_a (by omega)]
  refine ⟨e1, fun j hj => ?_, fun i hi => ?_, fun k hk => ?_, fun a ha => ?_, fun _ => ?_⟩
  · show κ2.1 (c + j) = _
    rcases Nat.lt_trichotomy j n with z | z | z
    · rw [ek _ (by omega)]; exact h2 j z
    · subst z
      rw [(e2 _ (by omega)).1, ← h1, kNew_n, hK]
    · exact e3 j (by omega) hj
  · have hfr : ∀ a, c < a → va_up κ2.2.1 c (va_up (κ2.2.1 c) m κ.2.2) a = κ2.2.1 a := fun a ha => up_ne _ _ (by omega)
    by_cases e : i = m
    · subst e
      exact e4.tr hm (fun a a1 _ => hfr a a1)
    · have hmn := stT_mono i (by omega) (m - 1) (by omega) (by omega)
      rw [show m - 1 + 1 = m by omega, hst] at hmn
      exact (h3 i (by omega)).tr (by omega) (fun a a1 a2 => (hfr a a1).trans (er a (by omega)))
  · show va_up κ2.2.1 c (va_up (κ2.2.1 c) m κ.2.2) c k = _
    rw [up_same]
    by_cases e : k = m
    · subst e
      rw [up_same, h1, hst]
    · rw [up_ne _ _ e, er c (by omega)]; exact h4 k (by omega)
  · obtain ⟨g1, g2, g3⟩ := h5 a ha
    refine ⟨?_, ?_, ?_⟩
    · show κ2.1 a = _
      rw [ek a (by omega)]; exact g1
    · show va_up κ2.2.1 c _ a = _
      rw [up_ne _ _ (by omega), er a (by omega)]; exact g2
    · rw [ei a (by omega)]; exact g3
  · by_cases e : m = 0
    · exact e5 e
    · have hn3 : 3 ≤ n := by
        have := stT_mono 0 (by decide) (m - 1) (by omega) (by omega)
        rw [show m - 1 + 1 = m by omega, hst] at this
        exact this
      rw [ei (c + 1) (by omega)]; exact h6 (by omega)
theorem Bld.ck {κ0 κ : Kp} {I0 I : Ip} {c : Nat} (hc : c ≠ 0) (h : Bld κ0 I0 c 52 8 κ I) : CK κ c := by
  obtain ⟨h1, h2, h3, h4, h5, h6⟩ := h
  have s0 : κ.2.1 (c + 1) 0 = c + 2 := h3 0 (by decide)
  have s1 : κ.2.1 (c + 3) 0 = c + 4 := h3 1 (by decide)
  have s2 : κ.2.1 (c + 5) 0 = c + 6 := h3 2 (by decide)
  have s3 : κ.2.1 (c + 7) 0 = c + 8 ∧ ∀ i, i < 8 → κ.2.1 (c + 8) i = c + 9 + 2 * i ∧ κ.2.1 (c + 9 + 2 * i) 0 = c + 10 + 2 * i := h3 3 (by decide)
  have s4 : κ.2.1 (c + 25) 0 = c + 26 ∧ ∀ i, i < 2 → κ.2.1 (c + 26) i = c + 27 + 2 * i ∧ κ.2.1 (c + 27 + 2 * i) 0 = c + 28 + 2 * i := h3 4 (by decide)
  have s5 : ∀ k, k < 4 → κ.2.1 (c + 31) k = c + 32 + k := h3 5 (by decide)
  have s6 : ∀ k, 2 ≤ k → k ≤ 8 → κ.2.1 (c + 36) k = c + 36 + (k - 1) := h3 6 (by decide)
  have s7 : ∀ k, 2 ≤ k → k ≤ 8 → κ.2.1 (c + 44) k = c + 44 + (k - 1) := h3 7 (by decide)
  have hst : ∀ j, j < 36 → kdT j = (2, 0) → (j = 3 ∨ j = 5 ∨ (∃ i, i < 8 ∧ j = 9 + 2 * i) ∨ ∃ i, i < 2 ∧ j = 27 + 2 * i) := by decide
  refine ⟨hc, h2, h4 0 (by decide), h4 1 (by decide), h4 2 (by decide), h4 3 (by decide), h4 4 (by decide), h4 5 (by decide), Or.inl ⟨h4 6 (by decide), h4 7 (by decide)⟩, s0, s3.1, s4.1, s5, fun k k1 k2 => ⟨s6 k k1 k2, s7 k k1 k2⟩, fun j hj hk => ?_, ⟨fun i hi => ⟨i, hi, (s3.2 i hi).1⟩, fun i j hi hj he => ?_⟩, ⟨fun i hi => ⟨i, hi, (s4.2 i hi).1⟩, fun i j hi hj he => ?_⟩⟩
  · rcases hst j hj hk with rfl | rfl | ⟨i, hi, rfl⟩ | ⟨i, hi, rfl⟩
    · exact s1
    · exact s2
    · rw [← Nat.add_assoc]
      have := (s3.2 i hi).2
      omega
    · rw [← Nat.add_assoc]
      have := (s4.2 i hi).2
      omega
  · rw [(s3.2 i hi).1, (s3.2 j hj).1] at he; omega
  · rw [(s4.2 i hi).1, (s4.2 j hj).1] at he; omega
/-- the first town -/
def TXB (k : Nat) : Int32 := nI (BYF k)
def R0 : PsT := (flt0 TXB 119).2
theorem first_ok : (flt0 TXB 119).1 = none := by decide +kernel
theorem first_P : R0.2.1 = 6 ∧ R0.2.2.1 = 7 := by decide +kernel
