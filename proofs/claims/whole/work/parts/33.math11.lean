theorem lL_I {a : Nat} (h : a < 2 ^ 63) : (lN a).toInt = (a : Int) := lg_ofNat_toInt h
theorem lL_sub {a b k : Nat} (h : a = k + b) : lN a - lN b = lN k := by
  subst h
  rw [show lN (k + b) = lN k + lN b from Int64.ofNat_add k b]
  exact Int64.add_sub_cancel _ _
theorem lN_div {a b : Nat} (ha : a < 2 ^ 63) (hb : b < 2 ^ 63) : lN a / lN b = lN (a / b) := by
  have h1 : a / b ≤ a := Nat.div_le_self a b
  apply Int64.toInt_inj.mp
  rw [Int64.toInt_div_of_ne_left, lL_I ha, lL_I hb, lL_I (by omega)]
  · rfl
  · intro e
    have h2 := lL_I ha
    rw [e] at h2
    have h3 : (Int64.minValue).toInt = -9223372036854775808 := by decide
    omega
theorem lN_rem {a b : Nat} (ha : a < 2 ^ 63) (hb : b < 2 ^ 63) : lN a - lN a / lN b * lN b = lN (a % b) := by
  rw [lN_div ha hb, lN_mul]
  have h := Nat.div_add_mod a b
  rw [Nat.mul_comm] at h
  exact lL_sub (by omega)
theorem lN_ne0 {n : Nat} (h0 : 0 < n) (h : n < 2 ^ 63) : ¬ lN n = 0 := by
  intro q
  have a := lL_I h
  rw [q] at a
  have h3 : (0 : Int64).toInt = 0 := rfl
  omega
theorem lN0 : lN 0 = 0 := rfl
theorem lN1 : lN 1 = 1 := rfl
theorem small_nI {x : Int32} {N : Nat} (hN : N ≤ 30) (h : ∀ i, bt x i = true → i < N) : ∃ k, k < 2 ^ N ∧ x = nI k := by
  refine ⟨x.toBitVec.toNat, ?_, ?_⟩
  · apply Nat.lt_pow_two_of_testBit
    intro i hi
    cases hb : x.toBitVec.toNat.testBit i with
    | false => rfl
    | true =>
      have : bt x i = true := hb
      have := h i this
      omega
  · apply Int32.toBitVec_inj.mp
    show x.toBitVec = BitVec.ofNat 32 x.toBitVec.toNat
    simp
/-- how many bits of the first nine -/
def pcI (x : Int32) : Nat := fb_ct (fun i => bt x i) 9
theorem pcI_nI {k : Nat} (hk : k < 512) : pcI (nI k) = pc9 k := fb_ct_cong (fun i hi => bt_nI (by omega) (by omega))
def knownF (s : Nat → Int32) (T : Nat) : Nat := fb_sm (fun t => pcI (s t)) T
def standF (s : Nat → Int32) : Nat → Int32 := va_up (va_up (va_up (va_up s 10 (-4)) 13 (-4)) 14 (nI 0)) 15 (nI 0)
def mayB (s : Nat → Int32) (t : Nat) : Bool := !bt (s 9) t && decide (s 10 = -4 ∨ ¬ s 13 = nI t)
def drawS (w s : Nat → Int32) (P T dr : Nat) : Nat → Int32 :=
  if s 10 = -4 then (if ¬ dr / 8 % P = dr / 64 % P ∧ lkF w (dr / 8 % P) (dr / 64 % P) = true then sitF s (nI (dr / 8 % P)) (nI (dr / 64 % P)) else s)
  else if dr % 8 = 0 then standF s
  else if dr % 8 = 1 ∧ 0 < T then va_up s 9 (s 9 ||| (if mayB s (dr / 8 % T) = true then bit1 (dr / 8 % T) else nI 0))
  else s
def drawN (z k : Nat) : Nat := (7919 * z + 6151 * k + 1) * (7919 * z + 6151 * k + 1) % 65521
def dayS (w s : Nat → Int32) (P T z : Nat) : Nat → (Nat → Int32)
  | 0 => s
  | k + 1 => minF w T (drawS w (dayS w s P T z k) P T (drawN z k))
def dayA (w s : Nat → Int32) (P T : Nat) (z n what : Int32) : Int32 :=
  if inR 0 9999 z ∧ inR 1 60 n ∧ inR 0 1 what then
    if what = 0 then dayS w s P T z.toNatClampNeg n.toNatClampNeg 17 else nI (knownF (dayS w s P T z.toNatClampNeg n.toNatClampNeg) T)
  else -1
theorem wfs_stand {s : Nat → Int32} {P T : Nat} (hT : T ≤ 9) (hs : WfS s P T) : WfS (standF s) P T := by
  obtain ⟨h1, h2, h3, -⟩ := hs
  unfold standF
  refine ⟨fun t ht i hi => h1 t ht i ?_, fun i hi => h2 i ?_, fun i hi => ?_, Or.inl ⟨?_, ?_, ?_, ?_⟩⟩
  · rw [up_ne _ _ (by omega), up_ne _ _ (by omega), up_ne _ _ (by omega), up_ne _ _ (by omega)] at hi; exact hi
  · simp (disch := decide) only [up_neD] at hi; exact hi
  · simp (disch := decide) only [up_same] at hi; rw [bt_0] at hi; cases hi
  · simp (disch := decide) only [up_same, up_neD]
  · simp (disch := decide) only [up_same, up_neD]
  · simp (disch := decide) only [up_same, up_neD]; exact nI0
  · simp (disch := decide) only [up_same, up_neD]; exact nI0
theorem wfs_sit {w s : Nat → Int32} {P T a b : Nat} (hw : WfT w P T) (hs : WfS s P T) (ha : a < P) (hb : b < P) (hab : a ≠ b) : WfS (sitF s (nI a) (nI b)) P T := by
  have hT := hw.2.2.2.1
  obtain ⟨h1, h2, h3, -⟩ := hs
  unfold sitF
  refine ⟨fun t ht i hi => h1 t ht i ?_, fun i hi => h2 i ?_, fun i hi => ?_, Or.inr ⟨a, b, a, ha, hb, hab, ?_, ?_, Or.inl rfl, ?_, Or.inl ⟨?_, ?_⟩⟩⟩
  · rw [up_ne _ _ (by omega), up_ne _ _ (by omega), up_ne _ _ (by omega), up_ne _ _ (by omega), up_ne _ _ (by omega), up_ne _ _ (by omega)] at hi; exact hi
  · simp (disch := decide) only [up_neD] at hi; exact hi
  · simp (disch := decide) only [up_same] at hi; rw [bt_0] at hi; cases hi
  · simp (disch := decide) only [up_same, up_neD]
  · simp (disch := decide) only [up_same, up_neD]
  · simp (disch := decide) only [up_same, up_neD]
  · simp (disch := decide) only [up_same, up_neD]
  · simp (disch := decide) only [up_same, up_neD]; exact nI0
theorem wfs_hush {s : Nat → Int32} {P T : Nat} {v : Int32} (hT : T ≤ 9) (hs : WfS s P T) (hv : ∀ i, bt v i = true → i < T) : WfS (va_up s 9 v) P T := by
  obtain ⟨h1, h2, h3, h4⟩ := hs
  refine ⟨fun t ht i hi => ?_, fun i hi => ?_, fun i hi => h3 i ?_, ?_⟩
  · by_cases e : t = 9
    · omega
    · rw [up_ne _ _ e] at hi; exact h1 t ht i hi
  · rw [up_same] at hi; exact hv i hi
  · simp (disch := decide) only [up_neD] at hi; exact hi
  · unfold Seat at h4 ⊢
    simp (disch := decide) only [up_neD]
    exact h4
theorem wfs_draw {w s : Nat → Int32} {P T dr : Nat} (hw : WfT w P T) (hP1 : 0 < P) (hs : WfS s P T) : WfS (drawS w s P T dr) P T := by
  have hT := hw.2.2.2.1
  unfold drawS
  by_cases h1 : s 10 = -4
  · rw [if_pos h1]
    by_cases h2 : ¬ dr / 8 % P = dr / 64 % P ∧ lkF w (dr / 8 % P) (dr / 64 % P) = true
    · rw [if_pos h2]
      exact wfs_sit hw hs (Nat.mod_lt _ hP1) (Nat.mod_lt _ hP1) h2.1
    · rw [if_neg h2]; exact hs
  · rw [if_neg h1]
    by_cases h2 : dr % 8 = 0
    · rw [if_pos h2]; exact wfs_stand hT hs
    · rw [if_neg h2]
      by_cases h3 : dr % 8 = 1 ∧ 0 < T
      · rw [if_pos h3]
        refine wfs_hush hT hs (fun i hi => ?_)
        rw [b_or] at hi
        simp only [Bool.or_eq_true] at hi
        rcases hi with hi | hi
        · exact hs.2.1 i hi
        · have hm : dr / 8 % T < T := Nat.mod_lt _ h3.2
          by_cases h4 : mayB s (dr / 8 % T) = true
          · rw [if_pos h4, bt_bit1 (by omega), decide_eq_true_eq] at hi
            omega
          · rw [if_neg h4, bt_0] at hi; cases hi
      · rw [if_neg h3]; exact hs
theorem wfs_day {w s : Nat → Int32} {P T z : Nat} (hw : WfT w P T) (hP1 : 0 < P) (hs : WfS s P T) : ∀ k, WfS (dayS w s P T z k) P T
  | 0 => hs
  | k + 1 => wfs_min hw (wfs_draw hw hP1 (wfs_day hw hP1 hs k))
/-- held back: the ways of a set of tales, the sum, all -/
def waysF (hu : Int32) (x set : Nat) : Nat → Nat
  | 0 => 1
  | t + 1 => waysF hu x set t * (if bt hu t = true then 1 else if set.testBit t = true then x else 10 - x)
def belF (hu : Int32) : Nat → Nat
  | 0 => 1
  | t + 1 => belF hu t * (if bt hu t = true then 1 else 10)
def abvF (br : Nat → Int32) (hu h : Int32) (x T : Nat) : Nat → Nat
  | 0 => 0
  | k + 1 => abvF br hu h x T k + (if nI k &&& hu = 0 ∧ 0 < waysF hu x k T ∧ h ≤ br k then waysF hu x k T else 0)
theorem ways_le {hu : Int32} {x set : Nat} (hx : x ≤ 10) : ∀ T, waysF hu x set T ≤ 10 ^ T
  | 0 => Nat.le_refl _
  | T + 1 => by
    rw [waysF, Nat.pow_succ]
    refine Nat.mul_le_mul (ways_le hx T) ?_
    split
    · decide
    · split <;> omega
theorem bel_le {hu : Int32} : ∀ T, belF hu T ≤ 10 ^ T
  | 0 => Nat.le_refl _
  | T + 1 => by
    rw [belF, Nat.pow_succ]
    refine Nat.mul_le_mul (bel_le T) ?_
    split <;> decide
theorem bel_pos {hu : Int32} : ∀ T, 0 < belF hu T
  | 0 => Nat.one_pos
  | T + 1 => by
    rw [belF]
    refine Nat.mul_pos (bel_pos T) ?_
    split <;> decide
theorem abv_le {br : Nat → Int32} {hu h : Int32} {x T : Nat} (hx : x ≤ 10) : ∀ k, abvF br hu h x T k ≤ k * 10 ^ T
  | 0 => Nat.zero_le _
  | k + 1 => by
    rw [abvF, Nat.succ_mul]
    have h1 := abv_le (br := br) (hu := hu) (h := h) (T := T) hx k
    have h2 := ways_le (hu := hu) (set := k) hx T
    split <;> omega
def heldA (w s : Nat → Int32) (P T : Nat) (a b n h x part : Int32) : Int32 :=
  if two P a b ∧ inR 1 60 n ∧ inR 0 999 h ∧ inR 0 10 x ∧ inR 0 1 part then
    if lkF w a.toNatClampNeg b.toNatClampNeg = true then
      nI ((if part = 0 then abvF (fun k => brF w s T a.toNatClampNeg b.toNatClampNeg n.toNatClampNeg (s 9 ||| nI k)) (s 9) h x.toNatClampNeg T (2 ^ T) else belF (s 9) T) / Nat.gcd (abvF (fun k => brF w s T a.toNatClampNeg b.toNatClampNeg n.toNatClampNeg (s 9 ||| nI k)) (s 9) h x.toNatClampNeg T (2 ^ T)) (belF (s 9) T))
    else -2
  else -1
