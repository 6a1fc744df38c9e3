/-! cost; twos, leave; what is tried on the other State alone -/
def AFr (c : Nat) (I J : Ip) : Prop := ∀ a, a ≠ c + 5 → a ≠ c + 6 → J a = I a
theorem AFr.cfr {c sp : Nat} {I J : Ip} (h : AFr c I J) : CFr c sp I J := ⟨fun a a1 a2 _ _ _ => h a a1 a2, fun k _ => by rw [h (c + 1) (by omega) (by omega)]⟩
def costR (w s : Nat → Int32) (P T mn t : Nat) (which mo : Int32) : Prop := (which = -1 ∧ costF w s P T mn t = (-4, -4)) ∨ ∃ j k, j < t ∧ k ≤ 1200 ∧ which = nI j ∧ mo = nI k ∧ costF w s P T mn t = (nI j, nI k)
theorem costR.hush {w s : Nat → Int32} {P T mn t : Nat} {which mo : Int32} (h : costR w s P T mn t which mo) (hb : bt (s 9) t = true) : costR w s P T mn (t + 1) which mo := by
  have e : costF w s P T mn (t + 1) = costF w s P T mn t := by rw [costF, if_pos hb]
  unfold costR
  rw [e]
  rcases h with h | ⟨j, k, h1, h2⟩
  · exact Or.inl h
  · exact Or.inr ⟨j, k, by omega, h2⟩
theorem costR.first {w s : Nat → Int32} {P T mn t k : Nat} {which mo : Int32} (h : costR w s P T mn t which mo) (hT : T ≤ 9) (htT : t < T) (hb : bt (s 9) t = false) (hw1 : which = -1) (hk : k ≤ 1200) (hm : muchF w s P T mn t = nI k) : costR w s P T mn (t + 1) (nI t) (nI k) := by
  rcases h with ⟨-, h⟩ | ⟨j, k2, h1, h2, h3, -⟩
  · refine Or.inr ⟨t, k, Nat.lt_succ_self t, hk, rfl, rfl, ?_⟩
    rw [costF, if_neg (by rw [hb]; decide), h, hm, if_pos (m4_lt (by omega)), if_pos (m4_lt (by omega))]
  · rw [hw1] at h3
    exact absurd h3.symm (nI_m1 (by omega))
theorem costR.more {w s : Nat → Int32} {P T mn t k : Nat} {which mo : Int32} (h : costR w s P T mn t which mo) (hb : bt (s 9) t = false) (hw1 : ¬ which = -1) (hk : k ≤ 1200) (hm : muchF w s P T mn t = nI k) : (¬ nI k ≤ mo → costR w s P T mn (t + 1) (nI t) (nI k)) ∧ (nI k ≤ mo → costR w s P T mn (t + 1) which mo) := by
  rcases h with ⟨h, -⟩ | ⟨j, k2, h1, h2, rfl, rfl, h5⟩
  · exact absurd h hw1
  · have e : costF w s P T mn (t + 1) = (if nI k2 < nI k then nI t else nI j, if nI k2 < nI k then nI k else nI k2) := by rw [costF, if_neg (by rw [hb]; decide), h5, hm]
    have hlt : nI k2 < nI k ↔ k2 < k := lt_nI (by omega) (by omega)
    have hle : nI k ≤ nI k2 ↔ k ≤ k2 := nI_leI (by omega) (by omega)
    refine ⟨fun hn => Or.inr ⟨t, k, Nat.lt_succ_self t, hk, rfl, rfl, ?_⟩, fun hn => Or.inr ⟨j, k2, by omega, h2, rfl, rfl, ?_⟩⟩
    · rw [hle] at hn
      rw [e, if_pos (hlt.mpr (by omega)), if_pos (hlt.mpr (by omega))]
    · rw [hle] at hn
      rw [e, if_neg (fun z => by rw [hlt] at z; omega), if_neg (fun z => by rw [hlt] at z; omega)]
/-- what two bring, as a number -/
def vN (w s : Nat → Int32) (T mn : Nat) (a b : Nat) : Nat := min 1200 (brF w s T a b mn (s 9)).toNatClampNeg
theorem vN_le {w s : Nat → Int32} {T mn : Nat} : ∀ a b, lkF w a b = true → vN w s T mn a b ≤ 1200 := fun a b _ => Nat.min_le_left _ _
theorem vN_eq {w s : Nat → Int32} {P T mn : Nat} (hw : WfT w P T) (hs : WfS s P T) (hn : mn ≤ 60) {a b : Nat} (ha : a < P) (hb : b < P) (h : lkF w a b = true) : brF w s T a b mn (s 9) = nI (vN w s T mn a b) := by
  obtain ⟨k, hk, e⟩ := br_B hw hs hn hs.2.1 a b ha hb h
  unfold vN
  rw [e, nI_clamp (by omega), Nat.min_eq_right hk]
theorem wb_row {w s : Nat → Int32} {P T mn : Nat} (hw : WfT w P T) (hs : WfS s P T) (hn : mn ≤ 60) {a b : Nat} (ha : a < P) (hb : b < P) : wbF w s T mn (s 9) (-2) a b = if lkF w a b = true then nI (vN w s T mn a b) else -2 := by
  unfold wbF
  by_cases h : lkF w a b = true
  · rw [if_pos h, if_pos h, vN_eq hw hs hn ha hb h]
  · rw [if_neg h, if_neg h]
theorem wb_V {w s : Nat → Int32} {P T mn : Nat} (hw : WfT w P T) (hs : WfS s P T) (hn : mn ≤ 60) : ∀ a b, a < b → b < P → lkF w a b = true → wbF w s T mn (s 9) (-4) a b = nI (vN w s T mn a b) := fun a b hab hb h => by
  unfold wbF
  rw [if_pos h, vN_eq hw hs hn (by omega) hb h]
theorem two_all2 {w s : Nat → Int32} {P T mn : Nat} (hw : WfT w P T) (hs : WfS s P T) (hn : mn ≤ 60) : twosM (lkF w) (wbF w s T mn (s 9) (-4)) P = nI (DF (lkF w) (vN w s T mn) P (2 ^ P - 1)).1 ∧ ∀ p, p < P → bwF (lkF w) (wbF w s T mn (s 9) (-4)) P p = bmF (lkF w) (vN w s T mn) P 64 (2 ^ P - 1) p := by
  obtain ⟨h1, -, h3⟩ := two_dp hw.2.2.1 (fun a b ha hb => hw.2.2.2.2.2.2.1 a b ha hb) (vN_le (w := w) (s := s) (T := T) (mn := mn)) (wb_V hw hs hn)
  exact ⟨h1, h3⟩
/-- who would leave: the row's words -/
theorem lv_eq {w s : Nat → Int32} {P T mn a b : Nat} {q : Nat → Nat} (hw : WfT w P T) (hs : WfS s P T) (hn : mn ≤ 60) (hab : a < b) (hb : b < P) (hq : ∀ p, p < P → q p < P → q p ≠ p ∧ q (q p) = p ∧ lkF w p (q p) = true) {x ha hb' : Int32} (ex : x = if lkF w a b = true then nI (vN w s T mn a b) else -2) (ea : ha = hasF (wbF w s T mn (s 9) (-4)) P q a) (eb : hb' = hasF (wbF w s T mn (s 9) (-4)) P q b) : decide (ha < x ∧ hb' < x) = lvB (lkF w) (wbF w s T mn (s 9) (-4)) P q (a, b) := by
  have hnn : ∀ p, p < P → ∃ k, k < 2 ^ 31 ∧ hasF (wbF w s T mn (s 9) (-4)) P q p = nI k := fun p hp => by
    unfold hasF
    by_cases e : q p < P
    · obtain ⟨g1, g2, g3⟩ := hq p hp e
      rw [if_pos e]
      have hl : lkF w (min p (q p)) (max p (q p)) = true := by
        rcases Nat.lt_or_ge p (q p) with z | z
        · rw [Nat.min_eq_left (by omega), Nat.max_eq_right (by omega)]; exact g3
        · rw [Nat.min_eq_right (by omega), Nat.max_eq_left (by omega)]
          have := hw.2.2.2.2.2.2.1 p (q p) hp e
          unfold lkF at g3 ⊢
          rw [← this]; exact g3
      rw [wb_V hw hs hn _ _ (by omega) (by omega) hl]
      exact ⟨_, Nat.lt_of_le_of_lt (vN_le _ _ hl) (by decide), rfl⟩
    · rw [if_neg e]; exact ⟨0, by decide, rfl⟩
  unfold lvB
  dsimp only
  rw [← ea, ← eb]
  by_cases hl : lkF w a b = true
  · rw [hl]
    have e2 : wbF w s T mn (s 9) (-4) a b = x := by rw [ex, if_pos hl, wb_V hw hs hn a b hab hb hl]
    rw [e2]
    by_cases h1 : ha < x
    · by_cases h2 : hb' < x
      · rw [decide_eq_true (⟨h1, h2⟩ : ha < x ∧ hb' < x), decide_eq_true h1, decide_eq_true h2]
        have hne : ¬ q a = b := fun e => by
          have e3 : ha = x := by
            rw [ea, hasF, if_pos (by omega), e, Nat.min_eq_left (by omega), Nat.max_eq_right (by omega)]
            exact e2
          rw [e3] at h1
          exact absurd h1 (by rw [Int32.lt_iff_toInt_lt]; omega)
        rw [decide_eq_true hne]
        rfl
      · rw [decide_eq_false (fun z => h2 z.2), decide_eq_false h2]
        simp
    · rw [decide_eq_false (fun z => h1 z.1), decide_eq_false h1]
      simp
  · have hl2 : lkF w a b = false := by simpa using hl
    rw [hl2, Bool.false_and]
    rw [if_neg hl] at ex
    obtain ⟨k, hk, e⟩ := hnn a (by omega)
    rw [← ea] at e
    refine decide_eq_false (fun z => ?_)
    rw [e, ex] at z
    exact lt_m2 hk z.1
theorem hit_s {w s : Nat → Int32} {t P n q : Nat} (hq : w (14 + t) = nI q) (hq6 : q < 6) : hit w s t P n ||| (hrsF w s t (hit w s t P n) P &&& (bit1 q ^^^ -1)) = hit w s t P (n + 1) := hrs_hacc hq hq6 P
/-- the class looks as far as there are persons -/
theorem hears_first {w s : Nat → Int32} {t P T p : Nat} (hw : WfT w P T) (hs : WfS s P T) (ht : t < T) (hno : ∀ i, i ≤ P → bt (hit w s t P i) p = false) : firstI 7 (fun n => bt (hit w s t P n) p) = -4 := by
  refine first_no (fun i hi => ?_)
  rcases Nat.lt_or_ge i P with z | z
  · exact hno i (by omega)
  · have e := hit_end hw hs ht (i - P)
    rw [show P + (i - P) = i by omega] at e
    rw [e]
    exact hno P (Nat.le_refl _)
theorem draw_lt (z k : Nat) : drawN z k < 65521 := Nat.mod_lt _ (by decide)
theorem or_nI0 (x : Int32) : x ||| nI 0 = x := by rw [nI0]; exact Int32.or_zero
