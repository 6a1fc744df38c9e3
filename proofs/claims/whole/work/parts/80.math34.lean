/-! held back: the class's sum and the reference's -/
def cwN (x l k : Nat) : Nat := x ^ pc9 k * (10 - x) ^ (l - pc9 k)
def clF (br : Nat → Int32) (tl : Nat) (h : Int32) (x l : Nat) (k : Nat) : Nat := if nI k &&& (nI tl ^^^ -1) = 0 ∧ 0 < cwN x l k ∧ h ≤ br k then cwN x l k else 0
theorem sub_bt {k : Nat} {v : Int32} (hk : k < 512) : nI k &&& (v ^^^ -1) = 0 ↔ ∀ t, k.testBit t = true → bt v t = true := by
  rw [and0_nI (T := 9) (by decide) hk]
  constructor
  · intro h t hb
    rcases Nat.lt_or_ge t 9 with z | z
    · have := h t z hb
      rw [b_not _ (by omega)] at this
      simpa using this
    · rw [Nat.testBit_lt_two_pow (Nat.lt_of_lt_of_le (show k < 2 ^ 9 from hk) (Nat.pow_le_pow_right (by decide) z))] at hb
      cases hb
  · intro h t ht hb
    rw [b_not _ (by omega), h t hb]
    rfl
theorem held_A {w s : Nat → Int32} {P T a b n x : Nat} {h : Int32} (hw : WfT w P T) (hs : WfS s P T) (ha : a < P) (hb : b < P) (hab : a ≠ b) (hx : x ≤ 10) : abvF (fun k => brF w s T a b n (s 9 ||| nI k)) (s 9) h x T (2 ^ T) = 10 ^ fb_ct (fun t => !bt (s 9) t && !bt (telF w s T a b) t) T * smB (fun t => bt (telF w s T a b) t) x T (fun S => if h ≤ brF w s T a b n (s 9 ||| nI S) then 1 else 0) := by
  have hT := hw.2.2.2.1
  have h512 : 2 ^ T ≤ 512 := Nat.pow_le_pow_right (n := 2) (j := 9) (by decide) hT
  have hHL : ∀ t, bt (telF w s T a b) t = true → bt (s 9) t = false := fun t ht => by
    rw [tel_bt hT] at ht
    simp only [Bool.and_eq_true, Bool.or_eq_true] at ht
    unfold canF at ht
    cases hc : bt (s 9) t with
    | false => rfl
    | true => rw [hc] at ht; simp at ht
  rw [abv_sm, ← sm_AB hx hHL T]
  refine fb_sm_cong (fun k hk => ?_)
  dsimp only
  by_cases hd : nI k &&& s 9 = 0
  · have hd2 := (and0_nI hT hk).mp hd
    obtain ⟨p1, p2⟩ := prj_bt (L := fun t => bt (telF w s T a b) t) (k := k) T
    have e : brF w s T a b n (s 9 ||| nI k) = brF w s T a b n (s 9 ||| nI (prj (fun t => bt (telF w s T a b) t) k T)) := by
      refine br_tel hw hs ha hb hab (fun t ht => ?_) (fun t ht htl => ?_)
      · rcases Nat.lt_or_ge t T with z | z
        · exact z
        · exfalso
          rcases Nat.lt_or_ge t 32 with z2 | z2
          · rw [bt_nI (by omega) z2, Nat.testBit_lt_two_pow (Nat.lt_of_lt_of_le p1 (Nat.pow_le_pow_right (by decide) z))] at ht
            cases ht
          · rw [b_big z2] at ht; cases ht
      · rw [bt_nI (by omega) (by omega), bt_nI (by omega) (by omega), p2 t ht, htl]
        rfl
    rw [wtA_ways T (fun t ht hb => hd2 t ht hb), ← e]
    by_cases hg : h ≤ brF w s T a b n (s 9 ||| nI k)
    · rw [if_pos hg, Nat.mul_one]
      by_cases hp : 0 < waysF (s 9) x k T
      · rw [if_pos ⟨hd, hp, hg⟩]
      · rw [if_neg (fun z => hp z.2.1)]; omega
    · rw [if_neg hg, if_neg (fun z => hg z.2.2), Nat.mul_zero]
  · rw [if_neg (fun z => hd z.1)]
    have hex : ∃ t, t < T ∧ k.testBit t = true ∧ bt (s 9) t = true := by
      apply Classical.byContradiction
      intro hno
      apply hd
      refine (and0_nI hT hk).mpr (fun t ht hb => ?_)
      cases hc : bt (s 9) t with
      | false => rfl
      | true => exact absurd ⟨t, ht, hb, hc⟩ hno
    rw [wtA_no T hex, Nat.zero_mul]
theorem held_C {w s : Nat → Int32} {P T a b tl x : Nat} {h : Int32} {br : Nat → Int32} (hw : WfT w P T) (htl : telF w s T a b = nI tl) : fb_sm (clF br tl h x (pcI (telF w s T a b))) 512 = smB (fun t => bt (telF w s T a b) t) x T (fun S => if h ≤ br S then 1 else 0) := by
  have hT := hw.2.2.2.1
  have hLT : ∀ t, T ≤ t → bt (telF w s T a b) t = false := fun t ht => by rw [tel_bt hT, decide_eq_false (by omega)]; rfl
  have e9 := smB_ext (L := fun t => bt (telF w s T a b) t) (x := x) (T := T) hLT (G := fun S => if h ≤ br S then 1 else 0) (9 - T)
  rw [show T + (9 - T) = 9 by omega] at e9
  rw [← e9]
  refine fb_sm_cong (fun k hk => ?_)
  have hk : k < 512 := hk
  dsimp only
  unfold clF
  rw [← htl]
  by_cases hd : nI k &&& (telF w s T a b ^^^ -1) = 0
  · have hd2 := (sub_bt hk).mp hd
    obtain ⟨g1, g2⟩ := wtB_pw (L := fun t => bt (telF w s T a b) t) (x := x) hd2 9
    have ec : wtB (fun t => bt (telF w s T a b) t) x k 9 = cwN x (pcI (telF w s T a b)) k := g1
    rw [ec]
    by_cases hg : h ≤ br k
    · rw [if_pos hg, Nat.mul_one]
      by_cases hp : 0 < cwN x (pcI (telF w s T a b)) k
      · rw [if_pos ⟨hd, hp, hg⟩]
      · rw [if_neg (fun z => hp z.2.1)]; omega
    · rw [if_neg hg, if_neg (fun z => hg z.2.2), Nat.mul_zero]
  · rw [if_neg (fun z => hd z.1)]
    have hex : ∃ t, t < 9 ∧ k.testBit t = true ∧ bt (telF w s T a b) t = false := by
      apply Classical.byContradiction
      intro hno
      apply hd
      refine (sub_bt hk).mpr (fun t hb => ?_)
      have h9 : t < 9 := by
        rcases Nat.lt_or_ge t 9 with z | z
        · exact z
        · rw [Nat.testBit_lt_two_pow (Nat.lt_of_lt_of_le (show k < 2 ^ 9 from hk) (Nat.pow_le_pow_right (by decide) z))] at hb
          cases hb
      cases hc : bt (telF w s T a b) t with
      | true => rfl
      | false => exact absurd ⟨t, h9, hb, hc⟩ hno
    rw [wtB_no 9 hex, Nat.zero_mul]
/-- the class's answer is the reference's -/
theorem held_eq {w s : Nat → Int32} {P T a b n x tl : Nat} {h : Int32} (hw : WfT w P T) (hs : WfS s P T) (ha : a < P) (hb : b < P) (hab : a ≠ b) (hx : x ≤ 10) (htl : telF w s T a b = nI tl) : ∃ B l m, B = fb_sm (clF (fun k => brF w s T a b n (s 9 ||| nI k)) tl h x (pcI (telF w s T a b))) 512 ∧ l = pcI (telF w s T a b) ∧ l ≤ 9 ∧ B ≤ 10 ^ l ∧ abvF (fun k => brF w s T a b n (s 9 ||| nI k)) (s 9) h x T (2 ^ T) = 10 ^ m * B ∧ belF (s 9) T = 10 ^ m * 10 ^ l := by
  have hT := hw.2.2.2.1
  have hLT : ∀ t, T ≤ t → bt (telF w s T a b) t = false := fun t ht => by rw [tel_bt hT, decide_eq_false (by omega)]; rfl
  have hHL : ∀ t, bt (telF w s T a b) t = true → bt (s 9) t = false := fun t ht => by
    rw [tel_bt hT] at ht
    simp only [Bool.and_eq_true, Bool.or_eq_true] at ht
    unfold canF at ht
    cases hc : bt (s 9) t with
    | false => rfl
    | true => rw [hc] at ht; simp at ht
  have hl : pcI (telF w s T a b) = fb_ct (fun t => bt (telF w s T a b) t) T := ct_tr hT (fun k h1 _ => hLT k h1)
  refine ⟨_, _, fb_ct (fun t => !bt (s 9) t && !bt (telF w s T a b) t) T, rfl, rfl, fb_ct_le _ 9, ?_, ?_, ?_⟩
  · rw [held_C hw htl, hl]
    exact smB_le hx T _ (fun S => by split <;> omega)
  · rw [held_C hw htl]
    exact held_A hw hs ha hb hab hx
  · rw [bel_ct, ct_HL hHL T, Nat.pow_add, hl]
theorem red_eq {m B l : Nat} {part : Int32} : (if part = 0 then 10 ^ m * B else 10 ^ m * 10 ^ l) / Nat.gcd (10 ^ m * B) (10 ^ m * 10 ^ l) = (if part = 0 then B else 10 ^ l) / Nat.gcd B (10 ^ l) := by
  rw [Nat.gcd_mul_left]
  have hp : 0 < 10 ^ m := Nat.pow_pos (by decide)
  by_cases h : part = 0
  · rw [if_pos h, if_pos h, Nat.mul_div_mul_left _ _ hp]
  · rw [if_neg h, if_neg h, Nat.mul_div_mul_left _ _ hp]
theorem lcmp_le {a : Nat} (ha : a < 2 ^ 63) : lg_cmp (lN a) 0 ≤ 0 ↔ a = 0 := by
  have h := lgc_gt (lN a) 0
  rw [lL_I ha, show (0 : Int64).toInt = 0 from rfl] at h
  rw [Int32.lt_iff_toInt_lt, Int32.toInt_zero] at h
  rw [Int32.le_iff_toInt_le, Int32.toInt_zero]
  omega
theorem pow10_9 {l : Nat} (h : l ≤ 9) : 10 ^ l ≤ 1000000000 := Nat.pow_le_pow_right (n := 10) (j := 9) (by decide) h
theorem cwN_le {x l k : Nat} (hx : x ≤ 10) (hl : l ≤ 9) (hk : pc9 k ≤ l) : cwN x l k ≤ 1000000000 := by
  unfold cwN
  have h1 : x ^ pc9 k ≤ 10 ^ pc9 k := Nat.pow_le_pow_left hx _
  have h2 : (10 - x) ^ (l - pc9 k) ≤ 10 ^ (l - pc9 k) := Nat.pow_le_pow_left (by omega) _
  have h3 := Nat.mul_le_mul h1 h2
  rw [← Nat.pow_add, show pc9 k + (l - pc9 k) = l by omega] at h3
  exact Nat.le_trans h3 (pow10_9 hl)
theorem sub_pc {w s : Nat → Int32} {T a b tl k : Nat} (hk : k < 512) (htl : telF w s T a b = nI tl) (h : nI k &&& (nI tl ^^^ -1) = 0) : pc9 k ≤ pcI (telF w s T a b) := by
  rw [← htl] at h
  exact fb_ct_sub (fun t _ hb => (sub_bt hk).mp h t hb)
