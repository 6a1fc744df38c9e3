/-! held back: tales that are never told may as well be hushed -/
theorem bsum_cong {f g : Nat → Bool} : ∀ n, (∀ t, t < n → f t = g t) → bsum n f = bsum n g
  | 0, _ => rfl
  | n + 1, h => by rw [bsum, bsum, bsum_cong n (fun t ht => h t (by omega)), h n (by omega)]
def Sm9 (w s : Nat → Int32) (T : Nat) (v told : Int32) (a : Nat) (b : Int32) : Prop := ∀ t, t < T → bt told t = true ∨ bt v t = bt (s 9) t ∨ bt (s t) a = false ∨ w (2 + a) = nI 1 ∨ w (14 + t) = b
theorem tell_9 {w s : Nat → Int32} {T a : Nat} {b told v : Int32} (hT : T ≤ 9) (h : Sm9 w s T v told a b) : tellF w (va_up s 9 v) T a b told = tellF w s T a b told := by
  refine bsum_cong T (fun t ht => ?_)
  unfold canF
  rw [up_same, up_ne _ _ (show t ≠ 9 by omega)]
  rcases h t ht with e | e | e | e | e
  · rw [e]; simp
  · rw [e]
  · rw [e]; simp
  · rw [decide_eq_false (fun z => z e)]; simp
  · rw [decide_eq_false (p := ¬ w (14 + t) = b) (fun z => z e)]; simp
theorem begF_9 {w s : Nat → Int32} {T c o : Nat} {v : Int32} (hT : T ≤ 9) (h1 : Sm9 w s T v (s 15) c (nI o)) (h2 : Sm9 w s T v (s 15) o (nI c)) : begF w (va_up s 9 v) T c o = va_up (begF w s T c o) 9 v := by
  unfold begF
  rw [up_ne _ _ (show 13 ≠ 9 by decide), up_ne _ _ (show 15 ≠ 9 by decide), tell_9 hT h1, tell_9 hT h2]
  by_cases h1 : s 13 = -4
  · rw [if_pos h1, if_pos h1]
    by_cases h2 : tellF w s T c (nI o) (s 15) = 0
    · rw [if_pos h2, if_pos h2]
      by_cases h3 : tellF w s T o (nI c) (s 15) = 0
      · rw [if_pos h3, if_pos h3]
      · rw [if_neg h3, if_neg h3, up_comm _ _ _ (show 12 ≠ 9 by decide), up_comm _ _ _ (show 13 ≠ 9 by decide), up_comm _ _ _ (show 14 ≠ 9 by decide)]
    · rw [if_neg h2, if_neg h2, up_comm _ _ _ (show 12 ≠ 9 by decide), up_comm _ _ _ (show 13 ≠ 9 by decide), up_comm _ _ _ (show 14 ≠ 9 by decide)]
  · rw [if_neg h1, if_neg h1]
theorem outF_9 {s : Nat → Int32} {v : Int32} (h : (s 13).toNatClampNeg < 9) : outF (va_up s 9 v) = va_up (outF s) 9 v := by
  unfold outF
  rw [up_ne _ _ (show 15 ≠ 9 by decide), up_ne _ _ (show 13 ≠ 9 by decide), up_ne _ _ (show 12 ≠ 9 by decide), othD (by decide), up_ne _ _ (show (s 13).toNatClampNeg ≠ 9 by omega)]
  rw [up_comm _ _ _ (show 15 ≠ 9 by decide), up_comm _ _ _ (show 12 ≠ 9 by decide), up_comm _ _ _ (show (s 13).toNatClampNeg ≠ 9 by omega), up_comm _ _ _ (show 13 ≠ 9 by decide)]
theorem oneF_9 {w s : Nat → Int32} {v : Int32} (h : (s 13).toNatClampNeg < 9) : oneF w (va_up s 9 v) = va_up (oneF w s) 9 v := by
  unfold oneF
  rw [gain_k (by decide), up_ne _ _ (show 14 ≠ 9 by decide), up_ne _ _ (show 17 ≠ 9 by decide), up_comm _ _ _ (show 17 ≠ 9 by decide), up_comm _ _ _ (show 14 ≠ 9 by decide)]
  by_cases e : s 14 - nI 1 = 0
  · rw [if_pos e, if_pos e, outF_9 (by rw [up_ne _ _ (by decide), up_ne _ _ (by decide)]; exact h)]
  · rw [if_neg e, if_neg e]
/-- two sit, and what is hushed more is none that either could tell -/
def HInv (w s : Nat → Int32) (T : Nat) (v : Int32) (a b : Nat) : Prop := s 10 = nI a ∧ s 11 = nI b ∧ Sm9 w s T v (s 15) a (nI b) ∧ Sm9 w s T v (s 15) b (nI a)
theorem min_told {w s : Nat → Int32} {P T : Nat} (hw : WfT w P T) (hs : WfS s P T) : ∀ t, t < T → (bt (s 15) t = true → bt (minF w T s 15) t = true) ∧ (bt (minF w T s 15) t = true ∨ minF w T s t = s t) := by
  have hT := hw.2.2.2.1
  have hP := hw.2.2.1
  have hS := wfs_up (k := 16) (v := s 16 + nI 1) hT hs (Or.inl rfl)
  have e : ∀ k, k ≠ 16 → va_up s 16 (s 16 + nI 1) k = s k := fun k hk => up_ne _ _ hk
  rw [min_X]
  generalize va_up s 16 (s 16 + nI 1) = S at hS e ⊢
  intro t ht
  rw [← e 15 (by decide), ← e t (by omega)]
  unfold minX
  by_cases h10 : S 10 = -4
  · rw [if_pos h10]; exact ⟨fun h => h, Or.inr rfl⟩
  · rw [if_neg h10]
    have hb := wfs_begX hw hS
    have e15 : begX w S T 15 = S 15 := begX_10 (by decide)
    have et : begX w S T t = S t := begX_10 (by omega)
    rw [← e15, ← et]
    by_cases h13 : begX w S T 13 = -4
    · rw [if_pos h13, up_ne _ _ (by decide), up_ne _ _ (by omega)]; exact ⟨fun h => h, Or.inr rfl⟩
    · rw [if_neg h13]
      obtain ⟨-, a, b, c, o, t0, l, hseat, ho, hoP, hcP, h12, ht0, hl1, hl9, e13, e14⟩ := seat_all hw hb h13
      generalize begX w S T = B at e13 ho h12 ⊢
      unfold oneF
      split
      · have ho2 : otherF (va_up (va_up B 17 (B 17 + gainF w B)) 14 (B 14 - nI 1)) ((va_up (va_up B 17 (B 17 + gainF w B)) 14 (B 14 - nI 1)) 12) = nI o := by
          rw [othD (by decide), othD (by decide), up_ne _ _ (by decide), up_ne _ _ (by decide)]
          exact ho
        have h13' : (va_up (va_up B 17 (B 17 + gainF w B)) 14 (B 14 - nI 1)) 13 = nI t0 := by rw [up_ne _ _ (by decide), up_ne _ _ (by decide)]; exact e13
        rw [outF_1 h13' ho2 (by omega) (by omega)]
        have f15 : ∀ z : Nat → Int32, va_up (va_up (va_up (va_up z 15 (z 15 ||| bit1 t0)) 12 (nI o)) t0 (z t0 ||| bit1 o)) 13 (-4) 15 = z 15 ||| bit1 t0 := fun z => by
          rw [up_ne _ _ (by decide), up_ne _ _ (by omega), up_ne _ _ (by decide), up_same]
        rw [f15, b_or, up_ne _ _ (show 15 ≠ 14 by decide), up_ne _ _ (show 15 ≠ 17 by decide), bt_bit1 (by omega)]
        refine ⟨fun h => by rw [h]; rfl, ?_⟩
        by_cases e0 : t = t0
        · left
          rw [decide_eq_true e0]
          exact Bool.or_true _
        · right
          rw [up_ne _ _ (show t ≠ 13 by omega), up_ne _ _ e0, up_ne _ _ (show t ≠ 12 by omega), up_ne _ _ (show t ≠ 15 by omega), up_ne _ _ (show t ≠ 14 by omega), up_ne _ _ (show t ≠ 17 by omega)]
      · rw [up_ne _ _ (by decide), up_ne _ _ (by decide), up_ne _ _ (by omega), up_ne _ _ (by omega)]
        exact ⟨fun h => h, Or.inr rfl⟩
theorem Sm9.step {w s : Nat → Int32} {P T : Nat} {v : Int32} {a : Nat} {b : Int32} (hw : WfT w P T) (hs : WfS s P T) (h : Sm9 w s T v (s 15) a b) : Sm9 w (minF w T s) T v (minF w T s 15) a b := by
  intro t ht
  obtain ⟨m1, m2⟩ := min_told hw hs t ht
  rcases m2 with m2 | m2
  · exact Or.inl m2
  · rw [min_keep hw hs (Or.inl rfl), m2]
    rcases h t ht with e | e
    · exact Or.inl (m1 e)
    · exact Or.inr e
theorem HInv.step {w s : Nat → Int32} {P T : Nat} {v : Int32} {a b : Nat} (hw : WfT w P T) (hs : WfS s P T) (h : HInv w s T v a b) : HInv w (minF w T s) T v a b :=
  ⟨(min_keep hw hs (Or.inr (Or.inl rfl))).trans h.1, (min_keep hw hs (Or.inr (Or.inr rfl))).trans h.2.1, h.2.2.1.step hw hs, h.2.2.2.step hw hs⟩
theorem minX_9 {w s : Nat → Int32} {P T a b : Nat} {v : Int32} (hw : WfT w P T) (hs : WfS s P T) (ha : a < P) (hb : b < P) (h : HInv w s T v a b) : minX w T (va_up s 9 v) = va_up (minX w T s) 9 v := by
  have hT := hw.2.2.2.1
  have hP := hw.2.2.1
  obtain ⟨e10, e11, g1, g2⟩ := h
  have h10 : ¬ s 10 = -4 := by rw [e10]; exact nI_m4 (by omega)
  obtain ⟨a', b', c, o, hseat, hoc, hco, ho6, hc6, h12⟩ := wfs_seat hw hs h10
  have hbeg : begX w (va_up s 9 v) T = va_up (begX w s T) 9 v := by
    rw [begX_1 h10 h12 hoc hc6 ho6, begX_1 (c := c) (o := o) (by rw [up_ne _ _ (by decide)]; exact h10) (by rw [up_ne _ _ (by decide)]; exact h12) (by rw [othD (by decide)]; exact hoc) hc6 ho6]
    obtain ⟨s1, s2, s3, s10, s11, sc, -⟩ := id hseat
    have ea : a' = a := nI_inj (by omega) (by omega) (s10.symm.trans e10)
    have eb : b' = b := nI_inj (by omega) (by omega) (s11.symm.trans e11)
    subst ea; subst eb
    have hoe : otherF s (nI c) = if c = a' then nI b' else nI a' := by
      unfold otherF
      rw [e10, e11]
      by_cases e : c = a'
      · subst e; rw [if_pos rfl, if_pos rfl]
      · rw [if_neg e, if_neg (fun z => e (nI_inj (by omega) (by omega) z).symm)]
    rw [hoe] at hoc
    rcases sc with rfl | rfl
    · rw [if_pos rfl] at hoc
      have := nI_inj (by omega) (by omega) hoc
      subst this
      exact begF_9 hT g1 g2
    · rw [if_neg (Ne.symm s3)] at hoc
      have := nI_inj (by omega) (by omega) hoc
      subst this
      exact begF_9 hT g2 g1
  unfold minX
  rw [hbeg, up_ne _ _ (show 10 ≠ 9 by decide), if_neg h10, if_neg h10, up_ne _ _ (show 13 ≠ 9 by decide), up_ne _ _ (show 17 ≠ 9 by decide), hush_k (by decide), oneF_9 (clamp13 hw (wfs_begX hw hs)), up_comm _ _ _ (show 17 ≠ 9 by decide)]
  by_cases h2 : begX w s T 13 = -4
  · rw [if_pos h2, if_pos h2]
  · rw [if_neg h2, if_neg h2]
theorem min_9 {w s : Nat → Int32} {P T a b : Nat} {v : Int32} (hw : WfT w P T) (hs : WfS s P T) (ha : a < P) (hb : b < P) (h : HInv w s T v a b) : minF w T (va_up s 9 v) = va_up (minF w T s) 9 v := by
  have hT := hw.2.2.2.1
  rw [min_X, min_X, up_ne _ _ (show 16 ≠ 9 by decide), up_comm _ _ _ (show 16 ≠ 9 by decide)]
  refine minX_9 hw (wfs_up hT hs (Or.inl rfl)) ha hb ?_
  obtain ⟨e10, e11, g1, g2⟩ := h
  have hg : ∀ a b, Sm9 w s T v (s 15) a b → Sm9 w (va_up s 16 (s 16 + nI 1)) T v (s 15) a b := fun a b g t ht => by
    rw [up_ne _ _ (show 9 ≠ 16 by decide), up_ne _ _ (show t ≠ 16 by omega)]
    exact g t ht
  exact ⟨by rw [up_ne _ _ (by decide)]; exact e10, by rw [up_ne _ _ (by decide)]; exact e11, by rw [up_ne _ _ (show 15 ≠ 16 by decide)]; exact hg _ _ g1, by rw [up_ne _ _ (show 15 ≠ 16 by decide)]; exact hg _ _ g2⟩
theorem it_9 {w s : Nat → Int32} {P T a b : Nat} {v : Int32} (hw : WfT w P T) (hs : WfS s P T) (ha : a < P) (hb : b < P) (h : HInv w s T v a b) : ∀ n, itF w T n (va_up s 9 v) = va_up (itF w T n s) 9 v ∧ HInv w (itF w T n s) T v a b
  | 0 => ⟨rfl, h⟩
  | n + 1 => by
    obtain ⟨i1, i2⟩ := it_9 hw hs ha hb h n
    have hwn := wfs_it hw hs n
    exact ⟨by rw [itF, itF, i1, min_9 hw hwn ha hb i2], i2.step hw hwn⟩
/-- the tales that one of two could tell the other -/
def telF (w s : Nat → Int32) (T a b : Nat) : Int32 := tellF w s T a (nI b) (nI 0) ||| tellF w s T b (nI a) (nI 0)
theorem tel_bt {w s : Nat → Int32} {T a b : Nat} (hT : T ≤ 9) (t : Nat) : bt (telF w s T a b) t = (decide (t < T) && (canF w s t a (nI b) || canF w s t b (nI a))) := by
  unfold telF tellF
  rw [b_or, bt_bsum (by omega), bt_bsum (by omega), bt_0]
  cases decide (t < T) <;> simp
theorem can_no {w s : Nat → Int32} {t a : Nat} {b : Int32} (h : canF w s t a b = false) (h9 : bt (s 9) t = false) : bt (s t) a = false ∨ w (2 + a) = nI 1 ∨ w (14 + t) = b := by
  unfold canF at h
  rw [h9] at h
  by_cases h1 : bt (s t) a = true
  · by_cases h2 : w (2 + a) = nI 1
    · exact Or.inr (Or.inl h2)
    · by_cases h3 : w (14 + t) = b
      · exact Or.inr (Or.inr h3)
      · rw [h1, decide_eq_true h2, decide_eq_true h3] at h
        cases h
  · exact Or.inl (by simpa using h1)
theorem br_tel {w s : Nat → Int32} {P T a b n : Nat} {x y : Int32} (hw : WfT w P T) (hs : WfS s P T) (ha : a < P) (hb : b < P) (hab : a ≠ b) (hx : ∀ t, bt x t = true → t < T) (hxy : ∀ t, t < T → bt (telF w s T a b) t = true → bt x t = bt y t) : brF w s T a b n (s 9 ||| y) = brF w s T a b n (s 9 ||| x) := by
  have hT := hw.2.2.2.1
  have hxh : ∀ i, bt (s 9 ||| x) i = true → i < T := fun i hi => by
    rw [b_or] at hi
    simp only [Bool.or_eq_true] at hi
    rcases hi with h | h
    · exact hs.2.1 i h
    · exact hx i h
  have e : brS s a b (s 9 ||| y) = va_up (brS s a b (s 9 ||| x)) 9 (s 9 ||| y) := by
    unfold brS
    rw [up_mid (show 9 ≠ 17 by decide)]
    exact up_comm _ _ _ (by decide)
  have ek : ∀ k, k < 9 → brS s a b (s 9 ||| x) k = s k := fun k hk => by
    unfold brS
    rw [up_ne _ _ (by omega), up_ne _ _ (by omega), sitF_lo (Or.inl (by omega))]
  have e9 : brS s a b (s 9 ||| x) 9 = s 9 ||| x := by unfold brS; rw [up_ne _ _ (by decide), up_same]
  have hS : ∀ p q, ((p = a ∧ q = b) ∨ (p = b ∧ q = a)) → Sm9 w (brS s a b (s 9 ||| x)) T (s 9 ||| y) (brS s a b (s 9 ||| x) 15) p (nI q) := fun p q hpq t ht => by
    rw [e9, ek t (by omega), b_or, b_or]
    by_cases h9 : bt (s 9) t = true
    · right; left; rw [h9]; rfl
    · have h9 : bt (s 9) t = false := by simpa using h9
      by_cases ht2 : bt (telF w s T a b) t = true
      · right; left; rw [hxy t ht ht2]
      · right; right
        rw [tel_bt hT, decide_eq_true ht] at ht2
        simp only [Bool.true_and, Bool.or_eq_true, not_or] at ht2
        rcases hpq with ⟨rfl, rfl⟩ | ⟨rfl, rfl⟩
        · exact can_no (by simpa using ht2.1) h9
        · exact can_no (by simpa using ht2.2) h9
  have hI : HInv w (brS s a b (s 9 ||| x)) T (s 9 ||| y) a b := by
    refine ⟨?_, ?_, hS a b (Or.inl ⟨rfl, rfl⟩), hS b a (Or.inr ⟨rfl, rfl⟩)⟩
    · unfold brS sitF; simp (disch := decide) only [up_same, up_neD]
    · unfold brS sitF; simp (disch := decide) only [up_same, up_neD]
  unfold brF
  rw [e, (it_9 hw (wfs_brS hw hs ha hb hab hxh) ha hb hI n).1, up_ne _ _ (by decide)]
