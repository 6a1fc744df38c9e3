/-! small words: booleans as ints, rows as functions -/
def b2i (c : Bool) : Int32 := if c then 1 else 0
theorem b2i_t : b2i true = 1 := rfl
theorem b2i_f : b2i false = 0 := rfl
theorem b2i_0 {c : Bool} : b2i c = 0 ↔ c = false := by cases c <;> decide
theorem b2i_n0 {c : Bool} : ¬ b2i c = 0 ↔ c = true := by cases c <;> decide
theorem b2i_nar (c : Bool) : narrow .boolean (.int (b2i c)) = .int (b2i c) := by cases c <;> rfl
theorem nI0 : nI 0 = 0 := nI_0
theorem nI1 : nI 1 = 1 := by decide
theorem nI_inc (k : Nat) : nI k + Int32.ofInt 1 = nI (k + 1) := nI_1 k
theorem nar0 : narrow .boolean (.int (nI 0)) = .int (nI 0) := rfl
theorem nar1 : narrow .boolean (.int (nI 1)) = .int (nI 1) := rfl
theorem up_same {α : Type} (f : Nat → α) (k : Nat) (v : α) : va_up f k v k = v := by simp [va_up]
theorem up_ne {α : Type} (f : Nat → α) {k j : Nat} (v : α) (h : j ≠ k) : va_up f k v j = f j := by simp [va_up, h]
theorem up_up {α : Type} (f : Nat → α) (k : Nat) (v w : α) : va_up (va_up f k v) k w = va_up f k w := by
  funext j
  by_cases h : j = k <;> simp [va_up, h]
theorem up_self {α : Type} (f : Nat → α) (k : Nat) : va_up f k (f k) = f := by
  funext j
  by_cases h : j = k <;> simp [va_up, h]
theorem up_comm {α : Type} (f : Nat → α) {k j : Nat} (v w : α) (h : j ≠ k) : va_up (va_up f k v) j w = va_up (va_up f j w) k v := by
  funext i
  by_cases h1 : i = k
  · subst h1
    have h2 : ¬ i = j := fun e => h e.symm
    simp [va_up, h2]
  · by_cases h2 : i = j
    · subst h2
      simp [va_up, h]
    · simp [va_up, h1, h2]
theorem up_eq {α : Type} {f g : Nat → α} {k : Nat} {v : α} (h1 : g k = v) (h2 : ∀ j, j ≠ k → g j = f j) : va_up f k v = g := by
  funext j
  by_cases h : j = k
  · subst h; simp [va_up, h1]
  · simp [va_up, h, h2 j h]
theorem q_int {Q : Option Value → Kp → Ip → Prop} {κ : Kp} {I : Ip} {v w : Int32} (h : v = w) (hq : Q (some (.int v)) κ I) : Q (some (.int w)) κ I := h ▸ hq
theorem q_st {Q : Option Value → Kp → Ip → Prop} {κ : Kp} {I J : Ip} {v : Option Value} (h : I = J) (hq : Q v κ I) : Q v κ J := h ▸ hq
theorem q_is {Q : Option Value → Kp → Ip → Prop} {κ : Kp} {I J : Ip} {v w : Int32} (hv : v = w) (h : I = J) (hq : Q (some (.int v)) κ I) : Q (some (.int w)) κ J := by subst hv; subst h; exact hq
theorem q_t {Q : Option Value → Kp → Ip → Prop} {κ : Kp} {I : Ip} {c : Bool} (h : c = true) (hq : Q (some (.int (b2i c))) κ I) : Q (some (.int (nI 1))) κ I := by subst h; exact hq
theorem q_f {Q : Option Value → Kp → Ip → Prop} {κ : Kp} {I : Ip} {c : Bool} (h : c = false) (hq : Q (some (.int (b2i c))) κ I) : Q (some (.int (nI 0))) κ I := by subst h; rw [nI0]; exact hq
section GN
variable {Γ : Ga} {md : Md} {X : Cx} {pc : Nat} {lv lv' : List (Nat × Value)} {r : List Value} {κ : Kp} {I : Ip} {a b : Nat}
theorem g_ialdN {x n j : Nat} {i : Int32} (hX : Std Γ md X) (hd : decode md.2.1 pc = .ok (.iaload, 1)) (hk : κ.1 x = (8, n)) (hi : i = nI j) (hj : j < n) (hn : n < 2 ^ 31) (k : GW Γ md X (pc + 1) lv (.int (I x j) :: r) κ I a b) : GW Γ md X pc lv (.int i :: .ref x :: r) κ I a b := by
  subst hi
  exact g_iald hX hd hk (vp_in_nI hj hn) (by rw [nI_clamp (by omega)]; exact k)
theorem g_caldN {x n j : Nat} {i : Int32} (hX : Std Γ md X) (hd : decode md.2.1 pc = .ok (.caload, 1)) (hk : κ.1 x = (7, n)) (hi : i = nI j) (hj : j < n) (hn : n < 2 ^ 31) (k : GW Γ md X (pc + 1) lv (.int (I x j) :: r) κ I a b) : GW Γ md X pc lv (.int i :: .ref x :: r) κ I a b := by
  subst hi
  exact g_cald hX hd hk (vp_in_nI hj hn) (by rw [nI_clamp (by omega)]; exact k)
theorem g_iastN {x n j : Nat} {i v : Int32} (hX : Std Γ md X) (hd : decode md.2.1 pc = .ok (.iastore, 1)) (hk : κ.1 x = (8, n)) (hi : i = nI j) (hj : j < n) (hn : n < 2 ^ 31) (k : GW Γ md X (pc + 1) lv r κ (va_up I x (va_up (I x) j v)) a b) : GW Γ md X pc lv (.int v :: .int i :: .ref x :: r) κ I a b := by
  subst hi
  exact g_iast hX hd hk (vp_in_nI hj hn) (by rw [nI_clamp (by omega)]; exact k)
theorem g_pick (ks : List Nat) (h : lv_pick lv ks = lv') (k : GW Γ md X pc lv' r κ I a b) : GW Γ md X pc lv r κ I a b := by
  refine g_sub (fun q hq => ?_) k
  rw [← h] at hq
  obtain ⟨i, -, hi⟩ := List.mem_filterMap.mp hq
  exact List.mem_of_getElem? hi
theorem g_st {J : Ip} (h : I = J) (k : GW Γ md X pc lv r κ J a b) : GW Γ md X pc lv r κ I a b := by subst h; exact k
theorem g_cs {a' b' : Nat} (h : a = a' ∧ b = b') (k : GW Γ md X pc lv r κ I a' b') : GW Γ md X pc lv r κ I a b := by
  obtain ⟨h1, h2⟩ := h
  subst h1; subst h2; exact k
end GN
-- bits
theorem bt_1 (i : Nat) : bt 1 i = decide (i = 0) := by
  rcases Nat.lt_or_ge i 32 with h | h
  · exact (by decide +kernel : ∀ i, i < 32 → bt 1 i = decide (i = 0)) i h
  · rw [b_big h, decide_eq_false (by omega)]
theorem bt_bit {j : Nat} (hj : j < 32) (i : Nat) : bt (nI 1 <<< (nI j &&& 31)) i = decide (i = j) := by
  rcases Nat.lt_or_ge i 32 with h | h
  · rw [b_shl j hj _ h, nI1, bt_1]
    by_cases e : i = j
    · subst e; simp
    · have : ¬ (j ≤ i ∧ i - j = 0) := by omega
      simp [e]; omega
  · rw [b_big h, decide_eq_false (by omega)]
theorem bt_and1 (x : Int32) : (x &&& nI 1 = nI 1) ↔ bt x 0 = true := by
  rw [nI1]
  constructor
  · intro h
    have h2 : bt (x &&& 1) 0 = true := by rw [h]; decide
    rw [b_and] at h2
    simp at h2
    exact h2.1
  · intro h
    refine b_ext (fun i hi => ?_)
    rw [b_and, bt_1]
    by_cases e : i = 0
    · subst e; simp [h]
    · simp [e]
theorem bt_shr {x : Int32} {j : Nat} (hj : j < 32) : (x >>> (nI j &&& 31) &&& nI 1 = nI 1) ↔ bt x j = true := by
  rw [bt_and1, b_sshr j hj x (by decide)]
  simp [hj]
theorem bt_nI {k i : Nat} (hk : k < 2 ^ 31) (hi : i < 32) : bt (nI k) i = k.testBit i := by
  unfold bt nI
  rw [show (Int32.ofNat k).toBitVec = BitVec.ofNat 32 k from rfl]
  rw [BitVec.getLsbD_ofNat]
  simp [hi]
theorem lgc_lt (x y : Int64) : lg_cmp x y < 0 ↔ x.toInt < y.toInt := by
  unfold lg_cmp
  by_cases h1 : x > y
  · have h2 : y.toInt < x.toInt := Int64.lt_iff_toInt_lt.mp h1
    rw [if_pos h1]
    constructor
    · intro h; exact absurd h (by decide)
    · intro h; omega
  · rw [if_neg h1]
    have h2 : ¬ y.toInt < x.toInt := fun h => h1 (Int64.lt_iff_toInt_lt.mpr h)
    by_cases h3 : x = y
    · subst h3
      simp
    · rw [if_neg h3]
      have h4 : x.toInt ≠ y.toInt := fun h => h3 (Int64.toInt_inj.mp h)
      constructor
      · intro _; omega
      · intro _; decide
theorem lgc_gt (x y : Int64) : 0 < lg_cmp x y ↔ y.toInt < x.toInt := by
  unfold lg_cmp
  by_cases h1 : x > y
  · have h2 : y.toInt < x.toInt := Int64.lt_iff_toInt_lt.mp h1
    rw [if_pos h1]
    simp [h2]
  · rw [if_neg h1]
    have h2 : ¬ y.toInt < x.toInt := fun h => h1 (Int64.lt_iff_toInt_lt.mpr h)
    by_cases h3 : x = y
    · subst h3
      simp
    · rw [if_neg h3]
      simp [h2]
theorem lgc_eq (x y : Int64) : lg_cmp x y = 0 ↔ x = y := by
  unfold lg_cmp
  by_cases h1 : x > y
  · rw [if_pos h1]
    constructor
    · intro h; exact absurd h (by decide)
    · intro h; subst h; exact absurd h1 (Int64.lt_irrefl)
  · rw [if_neg h1]
    by_cases h3 : x = y
    · simp [h3]
    · rw [if_neg h3]
      simp [h3]
