/-! the class's State and Town: copies, counts -/
theorem SR.cg {K f K2 f2 s : Nat → Int32} {T : Nat} (h : SR K f s T) (hK : ∀ p, p < 6 → K2 p = K p) (hf : ∀ k, 1 ≤ k → k ≤ 9 → f2 k = f k) : SR K2 f2 s T := by
  obtain ⟨g0, g1, g7, g8, g9, g⟩ := h
  refine ⟨fun p hp i => by rw [hK p hp]; exact g0 p hp i, ?_, ?_, ?_, ?_, ?_⟩
  · rw [hf 1 (by decide) (by decide)]; exact g1
  · rw [hf 7 (by decide) (by decide)]; exact g7
  · rw [hf 8 (by decide) (by decide)]; exact g8
  · rw [hf 9 (by decide) (by decide)]; exact g9
  · rw [hf 2 (by decide) (by decide), hf 3 (by decide) (by decide), hf 4 (by decide) (by decide), hf 5 (by decide) (by decide), hf 6 (by decide) (by decide)]; exact g
def seatV (f : Nat → Int32) (x y : Int32) : Nat → Int32 := va_up (va_up (va_up (stdV f) 2 x) 3 y) 4 x
theorem sitF_lo {s : Nat → Int32} {p q : Int32} {k : Nat} (h : k < 10 ∨ 15 < k) : sitF s p q k = s k := by
  unfold sitF
  rw [up_ne _ _ (by omega), up_ne _ _ (by omega), up_ne _ _ (by omega), up_ne _ _ (by omega), up_ne _ _ (by omega), up_ne _ _ (by omega)]
theorem SR.seat {K f s : Nat → Int32} {T a : Nat} {y : Int32} (h : SR K f s T) (hT : T ≤ 9) (ha : a < 100) : SR K (seatV f (nI a) y) (sitF s (nI a) y) T := by
  obtain ⟨g0, g1, g7, g8, g9, g⟩ := h
  refine ⟨fun p hp i => ?_, ?_, ?_, ?_, ?_, Or.inr ⟨?_, ?_, ?_, ?_, ?_, Or.inl ⟨?_, ?_⟩⟩⟩
  · rw [g0 p hp i]
    by_cases e : i < T
    · rw [sitF_lo (Or.inl (by omega))]
    · simp [e]
  · rw [sitF_lo (by decide)]; unfold seatV stdV endV; simp (disch := decide) only [up_same, up_neD]; exact g1
  · unfold seatV stdV endV sitF; simp (disch := decide) only [up_same, up_neD]
  · rw [sitF_lo (by decide)]; unfold seatV stdV endV; simp (disch := decide) only [up_same, up_neD]; exact g8
  · rw [sitF_lo (by decide)]; unfold seatV stdV endV; simp (disch := decide) only [up_same, up_neD]; exact g9
  · unfold sitF; simp (disch := decide) only [up_same, up_neD]; exact nI_m4 (by omega)
  · unfold seatV stdV endV sitF; simp (disch := decide) only [up_same, up_neD]
  · unfold seatV stdV endV sitF; simp (disch := decide) only [up_same, up_neD]
  · unfold seatV stdV endV sitF; simp (disch := decide) only [up_same, up_neD]
  · unfold seatV stdV endV sitF; simp (disch := decide) only [up_same, up_neD]
  · unfold sitF; simp (disch := decide) only [up_same, up_neD]
  · unfold seatV stdV endV; simp (disch := decide) only [up_same, up_neD]
theorem SR.hush {K f s : Nat → Int32} {T : Nat} {v : Int32} (h : SR K f s T) (hT : T ≤ 9) : SR K (va_up f 1 v) (va_up s 9 v) T := by
  obtain ⟨g0, g1, g7, g8, g9, g⟩ := h
  refine ⟨fun p hp i => ?_, ?_, ?_, ?_, ?_, ?_⟩
  · rw [g0 p hp i]
    by_cases e : i < T
    · rw [up_ne _ _ (by omega)]
    · simp [e]
  all_goals simp (disch := decide) only [up_same, up_neD] <;> assumption
theorem SR.std {K f s : Nat → Int32} {T : Nat} (h : SR K f s T) (hT : T ≤ 9) : SR K (stdV f) (standF s) T := by
  obtain ⟨g0, g1, g7, g8, g9, g⟩ := h
  unfold stdV endV standF
  refine ⟨fun p hp i => ?_, ?_, ?_, ?_, ?_, Or.inl ⟨?_, ?_, ?_, ?_, ?_, ?_⟩⟩
  · rw [g0 p hp i]
    by_cases e : i < T
    · rw [up_ne _ _ (by omega), up_ne _ _ (by omega), up_ne _ _ (by omega), up_ne _ _ (by omega)]
    · simp [e]
  all_goals simp (disch := decide) only [up_same, up_neD] <;> assumption
/-- a State begun anew with the tales h hushed and no butter, then seated -/
theorem SR.seatB {K f s : Nat → Int32} {T a b : Nat} {h : Int32} (hS : SR K f s T) (hT : T ≤ 9) (ha : a < 100) : SR K (seatV (va_up (va_up f 1 h) 9 (nI 0)) (nI a) (nI b)) (brS s a b h) T := by
  have e := (((hS.hush (v := h) hT).but (x := nI 0) hT).seat (a := a) (y := nI b) hT ha)
  have e2 : sitF (va_up (va_up s 9 h) 17 (nI 0)) (nI a) (nI b) = brS s a b h := by
    unfold brS sitF
    rw [up_comm _ _ _ (show 10 ≠ 17 by decide), up_comm _ _ _ (show 11 ≠ 17 by decide), up_comm _ _ _ (show 12 ≠ 17 by decide), up_comm _ _ _ (show 13 ≠ 17 by decide), up_comm _ _ _ (show 14 ≠ 17 by decide), up_comm _ _ _ (show 15 ≠ 17 by decide)]
    rw [up_comm _ _ _ (show 10 ≠ 9 by decide), up_comm _ _ _ (show 11 ≠ 9 by decide), up_comm _ _ _ (show 12 ≠ 9 by decide), up_comm _ _ _ (show 13 ≠ 9 by decide), up_comm _ _ _ (show 14 ≠ 9 by decide), up_comm _ _ _ (show 15 ≠ 9 by decide)]
  rw [e2] at e
  exact e
theorem bsum_t {f : Nat → Bool} {n : Nat} (h : f n = true) : bsum (n + 1) f = bsum n f ||| bit1 n := by rw [bsum, if_pos h]
theorem bsum_f {f : Nat → Bool} {n : Nat} (h : f n = false) : bsum (n + 1) f = bsum n f := by
  rw [bsum, if_neg (by rw [h]; decide)]
  exact Int32.or_zero
theorem ct_tr {p : Nat → Bool} {m n : Nat} (hm : m ≤ n) (h : ∀ k, m ≤ k → k < n → p k = false) : fb_ct p n = fb_ct p m := by
  obtain ⟨j, rfl⟩ : ∃ j, n = m + j := ⟨n - m, by omega⟩
  rw [fb_ct_split, fb_ct_zero.mpr (fun k hk => h (m + k) (by omega) (by omega))]
  rfl
theorem sm_ct (p : Nat → Bool) : ∀ n, fb_sm (fun k => if p k = true then 1 else 0) n = fb_ct p n
  | 0 => rfl
  | n + 1 => by rw [fb_sm_succ, fb_ct_succ, sm_ct p n]
theorem ct_swap (R : Nat → Nat → Bool) (n : Nat) : ∀ T, fb_sm (fun p => fb_ct (fun t => R t p) T) n = fb_sm (fun t => fb_ct (fun p => R t p) n) T
  | 0 => by
    show fb_sm (fun _ => 0) n = 0
    rw [fb_sm_const]
    exact Nat.mul_zero n
  | T + 1 => by
    rw [fb_sm_succ, ← ct_swap R n T, ← sm_ct (fun p => R T p), ← fb_sm_add]
    rfl
theorem SR.kn_small {K f s : Nat → Int32} {T p : Nat} (h : SR K f s T) (hT : T ≤ 9) (hp : p < 6) : ∃ k, k < 512 ∧ K p = nI k := by
  obtain ⟨k, hk, e⟩ := small_nI (N := 9) (x := K p) (by decide) (fun i hi => by
    rw [h.1 p hp i] at hi
    simp only [Bool.and_eq_true, decide_eq_true_eq] at hi
    omega)
  exact ⟨k, hk, e⟩
theorem SR.known {K f s : Nat → Int32} {P T : Nat} (h : SR K f s T) (hs : WfS s P T) (hP : P ≤ 6) (hT : T ≤ 9) : fb_sm (fun p => pcI (K p)) 6 = knownF s T := by
  have e1 : fb_sm (fun p => pcI (K p)) 6 = fb_sm (fun p => fb_ct (fun t => bt (s t) p) T) 6 := by
    refine fb_sm_cong (fun p hp => ?_)
    show fb_ct (fun i => bt (K p) i) 9 = _
    rw [ct_tr hT (fun k h1 h2 => by rw [h.1 p hp k, decide_eq_false (by omega)]; rfl)]
    exact fb_ct_cong (fun t ht => by rw [h.1 p hp t, decide_eq_true ht]; rfl)
  rw [e1, ct_swap (fun t p => bt (s t) p) 6 T]
  refine fb_sm_cong (fun t ht => ?_)
  show _ = fb_ct (fun i => bt (s t) i) 9
  refine (ct_tr (by decide) (fun k h1 h2 => ?_)).symm
  cases hb : bt (s t) k with
  | false => rfl
  | true => have := hs.1 t ht k hb; omega
theorem SR.knowers {K f s : Nat → Int32} {P T t : Nat} (h : SR K f s T) (hs : WfS s P T) (hP : P ≤ 6) (ht : t < T) : bsum 6 (fun p => bt (K p) t) = s t := by
  refine b_ext (fun i hi => ?_)
  rw [bt_bsum (by decide)]
  by_cases e : i < 6
  · rw [decide_eq_true e, h.1 i e t, decide_eq_true ht]
    rfl
  · rw [decide_eq_false e]
    cases hb : bt (s t) i with
    | false => rfl
    | true => have := hs.1 t ht i hb; omega
theorem SR.knp {K f s : Nat → Int32} {T p : Nat} (h : SR K f s T) (hT : T ≤ 32) (hp : p < 6) : K p = bsum T (fun t => bt (s t) p) := by
  refine b_ext (fun i hi => ?_)
  rw [bt_bsum hT, h.1 p hp i]
/-- who is told it by those who know it -/
def hrsF (w s : Nat → Int32) (t : Nat) (kn : Int32) : Nat → Int32
  | 0 => nI 0
  | p + 1 => if bt kn p = true ∧ ¬ w (2 + p) = nI 1 ∧ bt (s 9) t = false then hrsF w s t kn p ||| w (8 + p) else hrsF w s t kn p
theorem hrs_hacc {w s : Nat → Int32} {t q : Nat} {kn : Int32} (hq : w (14 + t) = nI q) (hq6 : q < 6) : ∀ n, kn ||| (hrsF w s t kn n &&& (bit1 q ^^^ (-1))) = hacc w s t kn n
  | 0 => by
    refine b_ext (fun i hi => ?_)
    rw [b_or, b_and, hrsF, bt_0, hacc]
    simp
  | n + 1 => by
    rw [hacc, ← hrs_hacc hq hq6 n, hq, nI_clamp (by omega), hrsF]
    by_cases h : bt kn n = true ∧ ¬ w (2 + n) = nI 1 ∧ bt (s 9) t = false
    · rw [if_pos h, if_pos h]
      refine b_ext (fun i hi => ?_)
      rw [b_or, b_and, b_or, b_or, b_or, b_and, b_and]
      cases bt kn i <;> cases bt (hrsF w s t kn n) i <;> cases bt (w (8 + n)) i <;> simp
    · rw [if_neg h, if_neg h]
      refine b_ext (fun i hi => ?_)
      rw [b_or _ (nI 0), bt_0]
      simp
/-- a State as a town is begun -/
theorem sr_start {r K f : Nat → Int32} {P T : Nat} {kf : Nat → Int32} (hw : WfT r P T) (hk : ∀ p, p < P → ∀ i, bt (kf p) i = (decide (i < T) && bt (r (41 + i)) p)) (hK : ∀ p, p < 6 → K p = if p < P then kf p else nI 0) (h1 : f 1 = nI 0) (h2 : f 2 = -1) (h3 : f 3 = -1) (h4 : f 4 = -1) (h5 : f 5 = -1) (h6 : f 6 = nI 0) (h7 : f 7 = nI 0) (h8 : f 8 = nI 0) (h9 : f 9 = nI 0) : SR K f (laidS r) T := by
  have hT := hw.2.2.2.1
  refine ⟨fun p hp i => ?_, h1, h7, h8, h9, Or.inl ⟨rfl, h2, h3, h4, h5, h6⟩⟩
  rw [hK p hp]
  by_cases e : i < T
  · have e2 : laidS r i = r (41 + i) := by unfold laidS; rw [if_pos (by omega)]
    rw [e2]
    by_cases hpP : p < P
    · rw [if_pos hpP, hk p hpP i]
    · rw [if_neg hpP, bt_0, decide_eq_true e]
      cases hb : bt (r (41 + i)) p with
      | false => rfl
      | true => have := hw.2.2.2.2.2.2.2.2.2.2 i e p hb; omega
  · rw [decide_eq_false e]
    by_cases hpP : p < P
    · rw [if_pos hpP, hk p hpP i, decide_eq_false e]
      rfl
    · rw [if_neg hpP, bt_0]
      rfl
