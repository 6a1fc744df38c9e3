/-! questions: of several the first, the most, how many -/
theorem snoc_ind {α : Type} {motive : List α → Prop} (h0 : motive []) (h1 : ∀ l x, motive l → motive (l ++ [x])) : ∀ l, motive l := by
  have key : ∀ r : List α, motive r.reverse := by
    intro r
    induction r with
    | nil => exact h0
    | cons x r ih => rw [List.reverse_cons]; exact h1 _ _ ih
  intro l
  have := key l.reverse
  rw [List.reverse_reverse] at this
  exact this
def mxS (f : Nat → Nat → Int32) (m : Int32) (p : Nat × Nat) : Int32 := if m < f p.1 p.2 then f p.1 p.2 else m
def mxF (f : Nat → Nat → Int32) (l : List (Nat × Nat)) : Int32 := l.foldl (mxS f) (nI 0)
theorem mxF_app {f : Nat → Nat → Int32} {l : List (Nat × Nat)} {p : Nat × Nat} : mxF f (l ++ [p]) = mxS f (mxF f l) p := by simp [mxF]
def fwF (f : Nat → Nat → Int32) (y : Int32) (l : List (Nat × Nat)) : Int32 := match l.find? (fun p => decide (f p.1 p.2 = y)) with | some x => nI (10 * x.1 + x.2) | none => -4
def cwF (f : Nat → Nat → Int32) (y : Int32) (l : List (Nat × Nat)) : Nat := l.foldl (fun n p => if f p.1 p.2 = y then n + 1 else n) 0
theorem cwF_app {f : Nat → Nat → Int32} {y : Int32} {l : List (Nat × Nat)} {p : Nat × Nat} : cwF f y (l ++ [p]) = if f p.1 p.2 = y then cwF f y l + 1 else cwF f y l := by simp [cwF]
theorem fw_some {f : Nat → Nat → Int32} {y : Int32} {l : List (Nat × Nat)} {x : Nat × Nat} (h : l.find? (fun p => decide (f p.1 p.2 = y)) = some x) : fwF f y l = nI (10 * x.1 + x.2) := by unfold fwF; rw [h]
theorem fw_none {f : Nat → Nat → Int32} {y : Int32} {l : List (Nat × Nat)} (h : l.find? (fun p => decide (f p.1 p.2 = y)) = none) : fwF f y l = -4 := by unfold fwF; rw [h]
theorem rows_pre {f : Nat × Nat → Bool} {P x : Nat} {r : Nat × Nat} (h : (rowsL P (x + 1)).find? f = some r) : ∀ k, (rowsL P (x + 1 + k)).find? f = some r
  | 0 => h
  | k + 1 => by
    rw [← Nat.add_assoc, rowsL, List.find?_append, rows_pre h k]
    rfl
theorem row_pre {f : Nat × Nat → Bool} {x y : Nat} {r : Nat × Nat} (h : (rowL x (y + 1)).find? f = some r) : ∀ k, (rowL x (y + 1 + k)).find? f = some r
  | 0 => h
  | k + 1 => by
    rw [← Nat.add_assoc, rowL, List.find?_append, row_pre h k]
    rfl
theorem rows_find {f : Nat × Nat → Bool} {P x y : Nat} (hx : x < P) (hno : (rowsL P x).find? f = none) (hy : y < P) (hr : (rowL x y).find? f = none) (h : f (x, y) = true) : (rowsL P P).find? f = some (x, y) := by
  have h1 : (rowL x (y + 1)).find? f = some (x, y) := by
    rw [rowL, List.find?_append, hr]
    simp [List.find?_cons, h]
  have h2 := row_pre h1 (P - (y + 1))
  rw [show y + 1 + (P - (y + 1)) = P by omega] at h2
  have h3 : (rowsL P (x + 1)).find? f = some (x, y) := by
    rw [rowsL, List.find?_append, hno, h2]
    rfl
  have h4 := rows_pre h3 (P - (x + 1))
  rw [show x + 1 + (P - (x + 1)) = P by omega] at h4
  exact h4
theorem find_snoc_no {f : Nat × Nat → Bool} {l : List (Nat × Nat)} {p : Nat × Nat} (h : l.find? f = none) (hp : f p = false) : (l ++ [p]).find? f = none := by
  rw [List.find?_append, h]
  simp [List.find?_cons, hp]
theorem find_snoc_yes {f : Nat × Nat → Bool} {l : List (Nat × Nat)} {p : Nat × Nat} (h : l.find? f = none) (hp : f p = true) : (l ++ [p]).find? f = some p := by
  rw [List.find?_append, h]
  simp [List.find?_cons, hp]
theorem find_snoc_old {f : Nat × Nat → Bool} {l : List (Nat × Nat)} {p x : Nat × Nat} (h : l.find? f = some x) : (l ++ [p]).find? f = some x := by
  rw [List.find?_append, h]
  rfl
theorem mem_rowL {a : Nat} {p : Nat × Nat} : ∀ n, p ∈ rowL a n → p.1 = a ∧ p.2 < n
  | 0, h => by cases h
  | n + 1, h => by
    rw [rowL, List.mem_append] at h
    rcases h with h | h
    · have := mem_rowL n h; omega
    · rw [List.mem_singleton] at h
      subst h
      exact ⟨rfl, Nat.lt_succ_self n⟩
theorem mem_rowsL {P : Nat} {p : Nat × Nat} : ∀ n, p ∈ rowsL P n → p.1 < n ∧ p.2 < P
  | 0, h => by cases h
  | n + 1, h => by
    rw [rowsL, List.mem_append] at h
    rcases h with h | h
    · have := mem_rowsL n h; omega
    · have := mem_rowL P h; omega
/-- what two bring; less than 0: they are no friends -/
def wbX (lk : Nat → Nat → Bool) (br : Nat → Nat → Int32) (a b : Nat) : Int32 := if lk a b = true then br a b else -2
theorem m2_nI {k : Nat} (h : k < 2 ^ 31) : ¬ (-2 : Int32) = nI k := fun e => by
  have h1 := nI_toInt h
  rw [← e] at h1
  have h2 : (-2 : Int32).toInt = -2 := by decide
  omega
theorem lt_m2 {k : Nat} (h : k < 2 ^ 31) : ¬ nI k < (-2 : Int32) := fun e => by
  rw [Int32.lt_iff_toInt_lt, nI_toInt h, show (-2 : Int32).toInt = -2 by decide] at e
  omega
theorem m4_lt {k : Nat} (h : k < 2 ^ 31) : (-4 : Int32) < nI k := by
  rw [Int32.lt_iff_toInt_lt, nI_toInt h, show (-4 : Int32).toInt = -4 by decide]
  omega
/-- the first of those who bring most -/
theorem mx_fnd {lk : Nat → Nat → Bool} {br : Nat → Nat → Int32} {P : Nat} (hP : P ≤ 6) (hb : ∀ a b, a < P → b < P → lk a b = true → ∃ k, k ≤ 1200 ∧ br a b = nI k) : ∀ l : List (Nat × Nat), (∀ p ∈ l, p.1 < P ∧ p.2 < P) → ((∀ p ∈ l, lk p.1 p.2 = false) ∧ fndF lk br l = (-4, -4) ∧ mxF (wbX lk br) l = nI 0 ∧ l.find? (fun p => decide (wbX lk br p.1 p.2 = nI 0)) = none) ∨ (∃ k x, k ≤ 1200 ∧ x ∈ l ∧ mxF (wbX lk br) l = nI k ∧ fndF lk br l = (nI (10 * x.1 + x.2), nI k) ∧ l.find? (fun p => decide (wbX lk br p.1 p.2 = nI k)) = some x ∧ ∀ j, k < j → j ≤ 1200 → l.find? (fun p => decide (wbX lk br p.1 p.2 = nI j)) = none) := by
  refine snoc_ind (fun _ => Or.inl ⟨fun p hp => (by cases hp), rfl, rfl, rfl⟩) (fun l p ih hm => ?_)
  have hp := hm p (List.mem_append_right _ (List.mem_singleton.mpr rfl))
  have hml : ∀ q ∈ l, q.1 < P ∧ q.2 < P := fun q hq => hm q (List.mem_append_left _ hq)
  rw [fndF_app, mxF_app]
  by_cases hl : lk p.1 p.2 = true
  · obtain ⟨j, hj, ej⟩ := hb p.1 p.2 hp.1 hp.2 hl
    have ew : wbX lk br p.1 p.2 = nI j := by rw [wbX, if_pos hl, ej]
    rcases ih hml with ⟨i1, i2, i3, i4⟩ | ⟨k, x, hk, hx, i1, i2, i3, i4⟩
    · refine Or.inr ⟨j, p, hj, List.mem_append_right _ (List.mem_singleton.mpr rfl), ?_, ?_, ?_, fun j2 h2 h3 => ?_⟩
      · rw [i3, mxS, ew]
        by_cases e : nI 0 < nI j
        · rw [if_pos e]
        · rw [if_neg e]
          rw [lt_nI (by omega) (by omega)] at e
          rw [show j = 0 by omega]
      · rw [i2, fndS, if_pos hl, if_pos (Or.inl rfl), ej, if_pos (m4_lt (by omega))]
      · refine find_snoc_yes (List.find?_eq_none.mpr (fun q hq => ?_)) (decide_eq_true ew)
        rw [wbX, i1 q hq, if_neg (by decide)]
        simp [m2_nI (show j < 2 ^ 31 by omega)]
      · refine find_snoc_no (List.find?_eq_none.mpr (fun q hq => ?_)) (decide_eq_false (fun e => ?_))
        · rw [wbX, i1 q hq, if_neg (by decide)]
          simp [m2_nI (show j2 < 2 ^ 31 by omega)]
        · rw [ew] at e
          have := nI_inj (by omega) (by omega) e; omega
    · have hxP := hml x hx
      rw [i1, i2, mxS, fndS, if_pos hl, ew, ej]
      dsimp only
      have hlt : nI k < nI j ↔ k < j := lt_nI (by omega) (by omega)
      by_cases e : k < j
      · refine Or.inr ⟨j, p, hj, List.mem_append_right _ (List.mem_singleton.mpr rfl), by rw [if_pos (hlt.mpr e)], by rw [if_pos (Or.inr (hlt.mpr e)), if_pos (hlt.mpr e)], find_snoc_yes (i4 j e hj) (decide_eq_true ew), fun j2 h2 h3 => ?_⟩
        refine find_snoc_no (i4 j2 (by omega) h3) (decide_eq_false (fun e => ?_))
        rw [ew] at e
        have := nI_inj (by omega) (by omega) e; omega
      · refine Or.inr ⟨k, x, hk, List.mem_append_left _ hx, by rw [if_neg (fun h => e (hlt.mp h))], ?_, find_snoc_old i3, fun j2 h2 h3 => ?_⟩
        · rw [if_neg (fun h => h.elim (fun h => nI_m4 (by omega) h) (fun h => e (hlt.mp h))), if_neg (fun h => e (hlt.mp h))]
        · refine find_snoc_no (i4 j2 h2 h3) (decide_eq_false (fun e2 => ?_))
          rw [ew] at e2
          have := nI_inj (by omega) (by omega) e2; omega
  · have hl2 : lk p.1 p.2 = false := by simpa using hl
    have ew : wbX lk br p.1 p.2 = -2 := by rw [wbX, if_neg hl]
    have e1 : ∀ st, fndS lk br st p = st := fun st => by rw [fndS, if_neg hl]
    rw [e1]
    rcases ih hml with ⟨i1, i2, i3, i4⟩ | ⟨k, x, hk, hx, i1, i2, i3, i4⟩
    · refine Or.inl ⟨fun q hq => ?_, i2, ?_, find_snoc_no i4 (decide_eq_false (by rw [ew]; exact m2_nI (by decide)))⟩
      · rcases List.mem_append.mp hq with h | h
        · exact i1 q h
        · rw [List.mem_singleton] at h
          subst h; exact hl2
      · rw [i3, mxS, ew, if_neg (lt_m2 (by decide))]
    · refine Or.inr ⟨k, x, hk, List.mem_append_left _ hx, ?_, i2, find_snoc_old i3, fun j2 h2 h3 => find_snoc_no (i4 j2 h2 h3) (decide_eq_false (by rw [ew]; exact m2_nI (by omega)))⟩
      rw [i1, mxS, ew, if_neg (lt_m2 (by omega))]
/-- who bring just y -/
theorem who_cw {lk : Nat → Nat → Bool} {br : Nat → Nat → Int32} {j P : Nat} (hj : j < 2 ^ 31) (hP : P ≤ 6) : ∀ l : List (Nat × Nat), (∀ p ∈ l, p.1 < P ∧ p.2 < P) → whoF lk br (nI j) l = (cwF (wbX lk br) (nI j) l, fwF (wbX lk br) (nI j) l) := by
  refine snoc_ind (fun _ => rfl) (fun l p ih hm => ?_)
  have hml : ∀ q ∈ l, q.1 < P ∧ q.2 < P := fun q hq => hm q (List.mem_append_left _ hq)
  have hp := hm p (List.mem_append_right _ (List.mem_singleton.mpr rfl))
  rw [whoF_app, ih hml, cwF_app, whoS]
  have hiff : (lk p.1 p.2 = true ∧ br p.1 p.2 = nI j) ↔ wbX lk br p.1 p.2 = nI j := by
    unfold wbX
    by_cases e : lk p.1 p.2 = true
    · rw [if_pos e]; exact ⟨fun h => h.2, fun h => ⟨e, h⟩⟩
    · rw [if_neg e]; exact ⟨fun h => absurd h.1 e, fun h => absurd h (m2_nI hj)⟩
  by_cases hc : wbX lk br p.1 p.2 = nI j
  · rw [if_pos (hiff.mpr hc), if_pos hc]
    dsimp only
    cases hf : l.find? (fun p => decide (wbX lk br p.1 p.2 = nI j)) with
    | none => rw [fw_none hf, if_pos rfl, fw_some (find_snoc_yes hf (decide_eq_true hc))]
    | some x =>
      have hx := hml x (List.mem_of_find?_eq_some hf)
      rw [fw_some hf, if_neg (nI_m4 (by omega)), fw_some (find_snoc_old hf)]
  · rw [if_neg (fun h => hc (hiff.mp h)), if_neg hc]
    cases hf : l.find? (fun p => decide (wbX lk br p.1 p.2 = nI j)) with
    | none => rw [fw_none hf, fw_none (find_snoc_no hf (decide_eq_false hc))]
    | some x => rw [fw_some hf, fw_some (find_snoc_old hf)]
/-- nobody more hears it behind as many sittings as there are persons -/
theorem ct_lt {p q : Nat → Bool} {n i : Nat} (h : ∀ k, k < n → p k = true → q k = true) (hi : i < n) (hq : q i = true) (hp : p i = false) : fb_ct p n < fb_ct q n := by
  have h1 := fb_ct_upd p true hi
  have h2 : fb_ct (fun k => if k = i then true else p k) n ≤ fb_ct q n := fb_ct_sub (fun k hk hb => by
    by_cases e : k = i
    · subst e; exact hq
    · rw [if_neg e] at hb; exact h k hk hb)
  rw [hp, if_neg (by decide), if_pos rfl] at h1
  omega
theorem hacc_old {w s : Nat → Int32} {t i : Nat} {had : Int32} (h : bt had i = true) : ∀ n, bt (hacc w s t had n) i = true
  | 0 => h
  | n + 1 => by rw [hacc, b_or, hacc_old h n]; rfl
theorem hacc_lt {w s : Nat → Int32} {t i P T : Nat} {had : Int32} (hw : WfT w P T) (hh : ∀ i, bt had i = true → i < P) : ∀ n, n ≤ P → bt (hacc w s t had n) i = true → i < P
  | 0, _, h => hh i h
  | n + 1, hn, h => by
    rw [hacc, b_or] at h
    simp only [Bool.or_eq_true] at h
    rcases h with h | h
    · exact hacc_lt hw hh n (by omega) h
    · split at h
      · rw [b_and] at h
        simp only [Bool.and_eq_true] at h
        exact (hw.2.2.2.2.2.1 n (by omega) i h.1).1
      · rw [bt_0] at h; cases h
theorem hit_lt {w s : Nat → Int32} {t P T : Nat} (hw : WfT w P T) (hs : WfS s P T) (ht : t < T) : ∀ n i, bt (hit w s t P n) i = true → i < P
  | 0, i, h => hs.1 t ht i h
  | n + 1, i, h => hacc_lt hw (fun j hj => hit_lt hw hs ht n j hj) P (Nat.le_refl _) h
theorem hit_grow {w s : Nat → Int32} {t P T : Nat} (hw : WfT w P T) (hs : WfS s P T) (ht : t < T) : ∀ n, hit w s t P (n + 1) = hit w s t P n ∨ n + 1 ≤ fb_ct (fun i => bt (hit w s t P (n + 1)) i) P := by
  have hP := hw.2.2.1
  have step : ∀ n, ¬ hit w s t P (n + 1) = hit w s t P n → fb_ct (fun i => bt (hit w s t P n) i) P < fb_ct (fun i => bt (hit w s t P (n + 1)) i) P := by
    intro n hne
    have hex : ∃ i, bt (hit w s t P (n + 1)) i = true ∧ bt (hit w s t P n) i = false := by
      apply Classical.byContradiction
      intro hno
      apply hne
      refine b_ext (fun i hi => ?_)
      cases h1 : bt (hit w s t P n) i with
      | true => exact hacc_old h1 P
      | false =>
        cases h2 : bt (hit w s t P (n + 1)) i with
        | false => rfl
        | true => exact absurd ⟨i, h2, h1⟩ hno
    obtain ⟨i, h1, h2⟩ := hex
    exact ct_lt (fun k _ hk => hacc_old hk P) (hit_lt hw hs ht (n + 1) i h1) h1 h2
  intro n
  induction n with
  | zero =>
    by_cases e : hit w s t P 1 = hit w s t P 0
    · exact Or.inl e
    · exact Or.inr (by have := step 0 e; omega)
  | succ n ih =>
    rcases ih with e | e
    · refine Or.inl ?_
      show hacc w s t (hit w s t P (n + 1)) P = hit w s t P (n + 1)
      rw [e]
      exact e
    · by_cases e2 : hit w s t P (n + 1 + 1) = hit w s t P (n + 1)
      · exact Or.inl e2
      · exact Or.inr (by have := step (n + 1) e2; omega)
theorem hit_end {w s : Nat → Int32} {t P T : Nat} (hw : WfT w P T) (hs : WfS s P T) (ht : t < T) : ∀ k, hit w s t P (P + k) = hit w s t P P
  | 0 => rfl
  | k + 1 => by
    have h1 : hit w s t P (P + 1) = hit w s t P P := by
      rcases hit_grow hw hs ht P with e | e
      · exact e
      · have := fb_ct_le (fun i => bt (hit w s t P (P + 1)) i) P
        omega
    rw [← Nat.add_assoc]
    show hacc w s t (hit w s t P (P + k)) P = _
    rw [hit_end hw hs ht k]
    exact h1
theorem lk_ne {w : Nat → Int32} {P T a b : Nat} (hw : WfT w P T) (ha : a < P) (h : lkF w a b = true) : a ≠ b := fun e => (hw.2.2.2.2.2.1 a ha b h).2 e.symm
theorem wb_X {w s : Nat → Int32} {T n : Nat} {hh : Int32} : wbF w s T n hh (-2) = wbX (lkF w) (fun a b => brF w s T a b n hh) := rfl
theorem br_B {w s : Nat → Int32} {P T n : Nat} {hh : Int32} (hw : WfT w P T) (hs : WfS s P T) (hn : n ≤ 60) (hh9 : ∀ i, bt hh i = true → i < T) : ∀ a b, a < P → b < P → lkF w a b = true → ∃ k, k ≤ 1200 ∧ brF w s T a b n hh = nI k := fun a b ha hb h => by
  obtain ⟨k, h1, h2⟩ := br_nI (n := n) hw hs ha hb (lk_ne hw ha h) hh9
  exact ⟨k, by omega, h2⟩
