/-! the class's Town written, and its Text read -/
def TwL (κ : Kp) (tw : Nat) : Prop := TwK κ tw ∧ ∀ k, 2 ≤ k → k ≤ 8 → κ.2.1 tw k = tw + (k - 1)
theorem TwL.ne {κ : Kp} {tw i j : Nat} (h : TwL κ tw) (hi : 2 ≤ i ∧ i ≤ 8) (hj : 2 ≤ j ∧ j ≤ 8) (hij : i ≠ j) : κ.2.1 tw i ≠ κ.2.1 tw j := by
  rw [h.2 i hi.1 hi.2, h.2 j hj.1 hj.2]
  omega
theorem TwL.n0 {κ : Kp} {tw i : Nat} (h : TwL κ tw) (hi : 2 ≤ i ∧ i ≤ 8) : tw ≠ κ.2.1 tw i := by
  rw [h.2 i hi.1 hi.2]
  omega
/-- but for a Town's cells all is as it was -/
def TwF (κ : Kp) (tw : Nat) (I J : Ip) : Prop := ∀ a, a ≠ tw → (∀ k, 2 ≤ k → k ≤ 8 → a ≠ κ.2.1 tw k) → J a = I a
theorem tw_adP {κ : Kp} {I J : Ip} {tw P T : Nat} {r : Nat → Int32} {x : Int32} (h : TwR κ I tw r P T) (hw : WfT r P T) (h8 : ∀ p, P ≤ p → p < 6 → r (8 + p) = 0) (hP : P < 6) (j0 : J tw 0 = nI (P + 1)) (j1 : J tw 1 = I tw 1) (j2 : J (κ.2.1 tw 2) = va_up (I (κ.2.1 tw 2)) P x) (j3 : J (κ.2.1 tw 3) = va_up (I (κ.2.1 tw 3)) P (nI 0)) (j4 : J (κ.2.1 tw 4) = va_up (I (κ.2.1 tw 4)) P (nI 0)) (j5 : J (κ.2.1 tw 5) = va_up (I (κ.2.1 tw 5)) P (nI 0)) (j6 : J (κ.2.1 tw 6) = I (κ.2.1 tw 6)) (j7 : J (κ.2.1 tw 7) = I (κ.2.1 tw 7)) (j8 : J (κ.2.1 tw 8) = I (κ.2.1 tw 8)) : TwR κ J tw (adP r P x) (P + 1) T := by
  obtain ⟨r0, r1, r2, r3, r4, r5, r6, r7, r8⟩ := h
  obtain ⟨w0, w1, w2, w3, wk, wf, ws, wo, wi, wl, wn⟩ := hw
  have e14 : ∀ j, 14 ≤ j → adP r P x j = r j := fun j hj => by rw [adP_at, if_neg (by omega), if_neg (by omega)]
  unfold TwR
  rw [j2, j3, j4, j5, j6, j7, j8]
  refine ⟨j0, j1.trans r1, fun p hp => ?_, fun p hp => ?_, fun p hp i => ?_, fun p hp i => ?_, fun t ht => ?_, fun t ht => ?_, fun t ht => ?_⟩
  · rw [adP_at, if_neg (by omega)]
    by_cases e : p = P
    · subst e; rw [up_same, if_pos rfl]
    · rw [up_ne _ _ e, if_neg (by omega)]; exact r2 p (by omega)
  · rw [adP_at, if_neg (by omega), if_neg (by omega)]
    by_cases e : p = P
    · subst e; rw [up_same, h8 p (Nat.le_refl _) hP]; exact nI0
    · rw [up_ne _ _ e]; exact r3 p (by omega)
  · rw [e14 _ (by omega)]
    by_cases e : p = P
    · subst e
      rw [up_same, bt_0]
      by_cases hi : i < T
      · obtain ⟨q, hq, e2⟩ := wo i hi
        rw [e2, decide_eq_false (p := nI q = nI p) (fun e => by have := nI_inj (by omega) (by omega) e; omega)]
        simp
      · rw [decide_eq_false hi]; rfl
    · rw [up_ne _ _ e]; exact r4 p (by omega) i
  · rw [e14 _ (by omega)]
    by_cases e : p = P
    · subst e
      rw [up_same, bt_0]
      by_cases hi : i < T
      · cases hb : bt (r (41 + i)) p with
        | false => simp
        | true => have := wn i hi p hb; omega
      · rw [decide_eq_false hi]; rfl
    · rw [up_ne _ _ e]; exact r5 p (by omega) i
  · rw [e14 _ (by omega)]; exact r6 t ht
  · rw [e14 _ (by omega)]; exact r7 t ht
  · rw [e14 _ (by omega)]; exact r8 t ht
theorem tw_adF {κ : Kp} {I J : Ip} {tw P T a b : Nat} {r : Nat → Int32} (h : TwR κ I tw r P T) (hP : P ≤ 6) (ha : a < P) (hb : b < P) (hab : a ≠ b) (j0 : J tw = I tw) (j2 : J (κ.2.1 tw 2) = I (κ.2.1 tw 2)) (j3 : J (κ.2.1 tw 3) = va_up (va_up (I (κ.2.1 tw 3)) a (r (8 + a) ||| bit1 b)) b (r (8 + b) ||| bit1 a)) (j4 : J (κ.2.1 tw 4) = I (κ.2.1 tw 4)) (j5 : J (κ.2.1 tw 5) = I (κ.2.1 tw 5)) (j6 : J (κ.2.1 tw 6) = I (κ.2.1 tw 6)) (j7 : J (κ.2.1 tw 7) = I (κ.2.1 tw 7)) (j8 : J (κ.2.1 tw 8) = I (κ.2.1 tw 8)) : TwR κ J tw (adF r a b) P T := by
  obtain ⟨r0, r1, r2, r3, r4, r5, r6, r7, r8⟩ := h
  have el : ∀ j, j < 8 → adF r a b j = r j := fun j hj => by rw [adF_at _ hab, if_neg (by omega), if_neg (by omega)]
  have e14 : ∀ j, 14 ≤ j → adF r a b j = r j := fun j hj => by rw [adF_at _ hab, if_neg (by omega), if_neg (by omega)]
  unfold TwR
  rw [j0, j2, j3, j4, j5, j6, j7, j8]
  refine ⟨r0, r1, fun p hp => ?_, fun p hp => ?_, fun p hp i => ?_, fun p hp i => ?_, fun t ht => ?_, fun t ht => ?_, fun t ht => ?_⟩
  · rw [el _ (by omega)]; exact r2 p hp
  · rw [adF_at _ hab]
    by_cases e : p = b
    · subst e; rw [up_same, if_pos rfl]
    · rw [up_ne _ _ e, if_neg (by omega)]
      by_cases e2 : p = a
      · subst e2; rw [up_same, if_pos rfl]
      · rw [up_ne _ _ e2, if_neg (by omega)]; exact r3 p hp
  · rw [e14 _ (by omega)]; exact r4 p hp i
  · rw [e14 _ (by omega)]; exact r5 p hp i
  · rw [e14 _ (by omega)]; exact r6 t ht
  · rw [e14 _ (by omega)]; exact r7 t ht
  · rw [e14 _ (by omega)]; exact r8 t ht
theorem tw_adT {κ : Kp} {I J : Ip} {tw P T q : Nat} {i k kn : Int32} {r : Nat → Int32} (h : TwR κ I tw r P T) (hw : WfT r P T) (hT : T < 9) (hq : q < P) (j0 : J tw 0 = I tw 0) (j1 : J tw 1 = nI (T + 1)) (j2 : J (κ.2.1 tw 2) = I (κ.2.1 tw 2)) (j3 : J (κ.2.1 tw 3) = I (κ.2.1 tw 3)) (j4 : J (κ.2.1 tw 4) = va_up (I (κ.2.1 tw 4)) q (I (κ.2.1 tw 4) q ||| bit1 T)) (j5 : ∀ p, p < P → J (κ.2.1 tw 5) p = if bt kn p = true then I (κ.2.1 tw 5) p ||| bit1 T else I (κ.2.1 tw 5) p) (j6 : J (κ.2.1 tw 6) = va_up (I (κ.2.1 tw 6)) T (nI q)) (j7 : J (κ.2.1 tw 7) = va_up (I (κ.2.1 tw 7)) T i) (j8 : J (κ.2.1 tw 8) = va_up (I (κ.2.1 tw 8)) T k) : TwR κ J tw (adT r T (nI q) i k kn) P (T + 1) := by
  obtain ⟨r0, r1, r2, r3, r4, r5, r6, r7, r8⟩ := h
  have hP := hw.2.2.1
  have wo := hw.2.2.2.2.2.2.2.1
  have el : ∀ j, j < 14 → j ≠ 1 → adT r T (nI q) i k kn j = r j := fun j hj h => by rw [adT_at, if_neg (by omega), if_neg (by omega), if_neg (by omega), if_neg (by omega), if_neg (by omega)]
  have eo : ∀ t, t < T + 1 → adT r T (nI q) i k kn (14 + t) = if t = T then nI q else r (14 + t) := fun t ht => by
    rw [adT_at, if_neg (by omega), if_neg (by omega), if_neg (by omega), if_neg (by omega)]
    by_cases e : t = T
    · rw [if_pos (by omega), if_pos e]
    · rw [if_neg (by omega), if_neg e]
  have en : ∀ t, t < T + 1 → adT r T (nI q) i k kn (41 + t) = if t = T then kn else r (41 + t) := fun t ht => by
    rw [adT_at, if_neg (by omega)]
    by_cases e : t = T
    · rw [if_pos (by omega), if_pos e]
    · rw [if_neg (by omega), if_neg (by omega), if_neg (by omega), if_neg (by omega), if_neg e]
  unfold TwR
  rw [j2, j3, j4, j6, j7, j8]
  refine ⟨j0.trans r0, j1, fun p hp => ?_, fun p hp => ?_, fun p hp x => ?_, fun p hp x => ?_, fun t ht => ?_, fun t ht => ?_, fun t ht => ?_⟩
  · rw [el _ (by omega) (by omega)]; exact r2 p hp
  · rw [el _ (by omega) (by omega)]; exact r3 p hp
  · have hx : ¬ x < T + 1 → ¬ x < T := fun h => by omega
    by_cases ex : x < T + 1
    · rw [decide_eq_true ex, eo x ex]
      by_cases eT : x = T
      · subst eT
        rw [if_pos rfl]
        by_cases e : p = q
        · subst e
          rw [up_same, b_or, bt_bit1 (by omega)]
          simp
        · rw [up_ne _ _ e, r4 p hp x, decide_eq_false (Nat.lt_irrefl x), decide_eq_false (p := nI q = nI p) (fun e2 => by have := nI_inj (by omega) (by omega) e2; omega)]
          rfl
      · rw [if_neg eT]
        have hxT : x < T := by omega
        by_cases e : p = q
        · subst e
          rw [up_same, b_or, bt_bit1 (by omega), decide_eq_false eT, Bool.or_false, r4 p hp x, decide_eq_true hxT]
        · rw [up_ne _ _ e, r4 p hp x, decide_eq_true hxT]
    · rw [decide_eq_false ex]
      by_cases e : p = q
      · subst e
        rw [up_same, b_or, bt_bit1 (by omega), decide_eq_false (by omega), Bool.or_false, r4 p hp x, decide_eq_false (hx ex)]
        rfl
      · rw [up_ne _ _ e, r4 p hp x, decide_eq_false (hx ex)]
        rfl
  · rw [j5 p hp]
    have hx : ¬ x < T + 1 → ¬ x < T := fun h => by omega
    by_cases ex : x < T + 1
    · rw [decide_eq_true ex, en x ex]
      by_cases eT : x = T
      · subst eT
        rw [if_pos rfl]
        by_cases hb : bt kn p = true
        · rw [if_pos hb, b_or, bt_bit1 (by omega), hb]
          simp
        · rw [if_neg hb, r5 p hp x, decide_eq_false (Nat.lt_irrefl x)]
          simpa using hb
      · rw [if_neg eT]
        have hxT : x < T := by omega
        by_cases hb : bt kn p = true
        · rw [if_pos hb, b_or, bt_bit1 (by omega), decide_eq_false eT, Bool.or_false, r5 p hp x, decide_eq_true hxT]
        · rw [if_neg hb, r5 p hp x, decide_eq_true hxT]
    · rw [decide_eq_false ex]
      by_cases hb : bt kn p = true
      · rw [if_pos hb, b_or, bt_bit1 (by omega), decide_eq_false (by omega), Bool.or_false, r5 p hp x, decide_eq_false (hx ex)]
        rfl
      · rw [if_neg hb, r5 p hp x, decide_eq_false (hx ex)]
        rfl
  · rw [eo t ht]
    by_cases e : t = T
    · subst e; rw [up_same, if_pos rfl]
    · rw [up_ne _ _ e, if_neg e]; exact r6 t (by omega)
  · rw [adT_at, if_neg (by omega), if_neg (by omega), if_neg (by omega)]
    by_cases e : t = T
    · subst e; rw [up_same, if_pos rfl]
    · rw [up_ne _ _ e, if_neg (by omega), if_neg (by omega)]; exact r7 t (by omega)
  · rw [adT_at, if_neg (by omega), if_neg (by omega)]
    by_cases e : t = T
    · subst e; rw [up_same, if_pos rfl]
    · rw [up_ne _ _ e, if_neg (by omega), if_neg (by omega), if_neg (by omega)]; exact r8 t (by omega)
/-- the tale that may be told ahead -/
def AdT (P T : Nat) (q i k kn : Int32) : Prop := T < 9 ∧ inN P q ∧ inR 1 20 i ∧ inR 1 9 k ∧ ¬ kn = 0 ∧ kn &&& bitI q = 0
def TxO (κ : Kp) (x : Nat) : Prop := κ.1 x = (3, 0) ∧ x ≠ 0 ∧ κ.1 (κ.2.1 x 0) = (7, 200) ∧ κ.2.1 x 0 ≠ 0
def TxC (κ : Kp) (x : Nat) (I : Ip) (tx : Nat → Int32) (sz : Nat) : Prop := I x 1 = nI sz ∧ sz ≤ 200 ∧ (∀ k, k < sz → I (κ.2.1 x 0) k = tx k) ∧ ∀ k, k < sz → ∃ c, 32 ≤ c ∧ c ≤ 126 ∧ tx k = nI c
theorem TxC.at {κ : Kp} {x : Nat} {I : Ip} {tx : Nat → Int32} {sz a : Nat} (h : TxC κ x I tx sz) (ha : a < sz) : I (κ.2.1 x 0) a = nI (Lc tx sz a) ∧ 32 ≤ Lc tx sz a ∧ Lc tx sz a ≤ 126 := by
  obtain ⟨-, -, h1, h2⟩ := h
  obtain ⟨c, c1, c2, e⟩ := h2 a ha
  have e2 : Lc tx sz a = c := by
    unfold Lc
    rw [if_pos ha, e, nI_clamp (by omega)]
  rw [h1 a ha, e, e2]
  exact ⟨rfl, c1, c2⟩
theorem TxC.le {κ : Kp} {x : Nat} {I : Ip} {tx : Nat → Int32} {sz : Nat} (h : TxC κ x I tx sz) (a : Nat) : Lc tx sz a ≤ 126 := by
  rcases Nat.lt_or_ge a sz with q | q
  · exact (h.at q).2.2
  · rw [Lc_0 q]; exact Nat.zero_le _
/-- the place that is read next -/
def plc (x : Nat) (I : Ip) (a : Nat) : Ip := va_up I x (va_up (I x) 2 (nI a))
section PLC
variable {κ : Kp} {x : Nat} {I : Ip} {a b : Nat} {tx : Nat → Int32} {sz : Nat}
theorem plc_2 : plc x I a x 2 = nI a := by unfold plc; rw [up_same, up_same]
theorem plc_k {k : Nat} (h : k ≠ 2) : plc x I a x k = I x k := by unfold plc; rw [up_same, up_ne _ _ h]
theorem plc_ne {y : Nat} (h : y ≠ x) : plc x I a y = I y := up_ne _ _ h
theorem plc_self (h : I x 2 = nI a) : plc x I a = I := by unfold plc; rw [← h, up_self, up_self]
theorem plc_up : va_up (plc x I a) x (va_up (plc x I a x) 2 (nI b)) = plc x I b := by
  unfold plc
  rw [up_same, up_up, up_up]
theorem plc_plc : plc x (plc x I a) b = plc x I b := plc_up
theorem TxO.nl (h : TxO κ x) : κ.2.1 x 0 ≠ x := kd_ne h.2.2.1 h.1 (by decide)
theorem TxC.plc (h : TxC κ x I tx sz) (hO : TxO κ x) : TxC κ x (plc x I a) tx sz := by
  obtain ⟨h1, h2, h3, h4⟩ := h
  exact ⟨(plc_k (by decide)).trans h1, h2, fun k hk => by rw [plc_ne hO.nl]; exact h3 k hk, h4⟩
end PLC
def NumR (L : Nat → Nat) (a : Nat) (v : Int32) (b : Nat) : Prop := (numF L a = none ∧ v = -1 ∧ b = a) ∨ ∃ n, numF L a = some (n, b) ∧ v = nI n
def AccR (L : Nat → Nat) (a c : Nat) (t : Bool) (b : Nat) : Prop := (t = true → L a = c ∧ b = a + 1) ∧ (t = false → ¬ L a = c)
theorem NumR.some {L : Nat → Nat} {a b n b' : Nat} {v : Int32} (h : NumR L a v b) (e : numF L a = some (n, b')) : v = nI n ∧ b = b' := by
  rcases h with ⟨h1, -⟩ | ⟨m, h1, h2⟩
  · rw [e] at h1; cases h1
  · rw [e] at h1
    cases h1
    exact ⟨h2, rfl⟩
theorem NumR.pos {L : Nat → Nat} {a b : Nat} {v : Int32} (h : NumR L a v b) (e : 0 ≤ v.toInt) : ∃ n, numF L a = Option.some (n, b) ∧ v = nI n ∧ n < 100 := by
  rcases h with ⟨-, h1, -⟩ | ⟨m, h1, h2⟩
  · rw [h1] at e
    exact absurd e (by decide)
  · exact ⟨m, h1, h2, (numF_lt h1).2.2⟩
theorem AccR.yes {L : Nat → Nat} {a c b : Nat} {t : Bool} (h : AccR L a c t b) (e : L a = c) : t = true ∧ b = a + 1 := by
  cases t with
  | false => exact absurd e (h.2 rfl)
  | true => exact ⟨rfl, (h.1 rfl).2⟩
def rowC (L : Nat → Nat) (P : Nat) : Nat → Nat → Int32 → Int32 × Nat
  | 0, a, x => (x, a)
  | n + 1, a, x => if isD (L a) then (if L a - 48 < P ∧ bt x (L a - 48) = false then rowC L P n (a + 1) (x ||| bit1 (L a - 48)) else (0, a)) else (x, a)
theorem rowC_mono {L : Nat → Nat} {P q : Nat} (hP : P ≤ 6) : ∀ (n a : Nat) (x : Int32), bt x q = true → (rowC L P n a x).1 = 0 ∨ bt (rowC L P n a x).1 q = true
  | 0, a, x, h => Or.inr h
  | n + 1, a, x, h => by
    rw [rowC]
    by_cases h1 : isD (L a)
    · rw [if_pos h1]
      by_cases h2 : L a - 48 < P ∧ bt x (L a - 48) = false
      · rw [if_pos h2]
        exact rowC_mono hP n (a + 1) _ (by rw [b_or, h]; rfl)
      · rw [if_neg h2]; exact Or.inl rfl
    · rw [if_neg h1]; exact Or.inr h
theorem rowF_C {L : Nat → Nat} {P q : Nat} (hP : P ≤ 6) (hq : q < 32) : ∀ (n a : Nat) (x : Int32), bt x q = false → (¬ (rowF L P q n a x).1 = 0 → rowF L P q n a x = rowC L P n a x ∧ bt (rowC L P n a x).1 q = false) ∧ (¬ (rowC L P n a x).1 = 0 → bt (rowC L P n a x).1 q = false → rowF L P q n a x = rowC L P n a x)
  | 0, a, x, h => ⟨fun _ => ⟨rfl, h⟩, fun _ _ => rfl⟩
  | n + 1, a, x, h => by
    rw [rowC, rowF]
    by_cases h1 : isD (L a)
    · rw [if_pos h1, if_pos h1]
      by_cases h2 : L a - 48 < P ∧ bt x (L a - 48) = false
      · rw [if_pos h2]
        by_cases h3 : L a - 48 = q
        · rw [if_neg (fun e => e.2.1 h3)]
          refine ⟨fun e => absurd rfl e, fun e1 e2 => ?_⟩
          rcases rowC_mono (L := L) (q := q) hP n (a + 1) (x ||| bit1 (L a - 48)) (by rw [b_or, h3, bt_bit1 hq, decide_eq_true rfl]; exact Bool.or_true _) with g | g
          · exact absurd g e1
          · rw [g] at e2; cases e2
        · rw [if_pos ⟨h2.1, h3, h2.2⟩]
          exact rowF_C hP hq n (a + 1) _ (by rw [b_or, h, bt_bit1 (by omega), decide_eq_false (fun e => h3 e.symm)]; rfl)
      · rw [if_neg h2, if_neg (fun e => h2 ⟨e.1, e.2.2⟩)]
        exact ⟨fun e => absurd rfl e, fun e => absurd rfl e⟩
    · rw [if_neg h1, if_neg h1]
      exact ⟨fun _ => ⟨rfl, h⟩, fun _ _ => rfl⟩
theorem tal_inv {L : Nat → Nat} {r : Nat → Int32} {P T a : Nat} {y : PsT} (h : talF L r P T a = some y) : ∃ v1 b1 v2 b2 v3 b3, T ≠ 9 ∧ numF L a = some (v1, b1) ∧ v1 < P ∧ L b1 = 44 ∧ numF L (b1 + 1) = some (v2, b2) ∧ 1 ≤ v2 ∧ v2 < 21 ∧ L b2 = 44 ∧ numF L (b2 + 1) = some (v3, b3) ∧ 1 ≤ v3 ∧ v3 < 10 ∧ L b3 = 44 ∧ ¬ (rowF L P v1 200 (b3 + 1) 0).1 = 0 ∧ L (rowF L P v1 200 (b3 + 1) 0).2 = 59 := by
  unfold talF at h
  split at h
  · cases h
  · next hT9 =>
    split at h
    · cases h
    · next x hx =>
      obtain ⟨v, b⟩ := x
      dsimp only at h
      split at h
      · next h1 =>
        split at h
        · cases h
        · next y hy =>
          obtain ⟨v2, b2⟩ := y
          dsimp only at h
          split at h
          · next h2 =>
            split at h
            · cases h
            · next z hz =>
              obtain ⟨v3, b3⟩ := z
              dsimp only at h
              split at h
              · next h3 =>
                split at h
                · next h4 =>
                  obtain ⟨n1, n2, n3⟩ := numB_some hx
                  obtain ⟨n4, n5, n6⟩ := numB_some hy
                  obtain ⟨n7, n8, n9⟩ := numB_some hz
                  exact ⟨v, b, v2, b2, v3, b3, hT9, n3, n2, h1, n6, n4, n5, h2, n9, n7, n8, h3, h4.1, h4.2⟩
                · cases h
              · cases h
          · cases h
      · cases h
theorem tal_of {L : Nat → Nat} {r : Nat → Int32} {P T a v1 b1 v2 b2 v3 b3 : Nat} (hT : T ≠ 9) (h1 : numF L a = some (v1, b1)) (h2 : v1 < P) (h3 : L b1 = 44) (h4 : numF L (b1 + 1) = some (v2, b2)) (h5 : 1 ≤ v2) (h6 : v2 < 21) (h7 : L b2 = 44) (h8 : numF L (b2 + 1) = some (v3, b3)) (h9 : 1 ≤ v3) (h10 : v3 < 10) (h11 : L b3 = 44) (h12 : ¬ (rowF L P v1 200 (b3 + 1) 0).1 = 0) (h13 : L (rowF L P v1 200 (b3 + 1) 0).2 = 59) : talF L r P T a = some (adT r T (nI v1) (nI v2) (nI v3) (rowF L P v1 200 (b3 + 1) 0).1, P, T + 1, (rowF L P v1 200 (b3 + 1) 0).2 + 1) := by
  have e1 : numB 0 P L a = some (v1, b1) := by rw [numB_of h1, if_pos ⟨Nat.zero_le _, h2⟩]
  have e2 : numB 1 21 L (b1 + 1) = some (v2, b2) := by rw [numB_of h4, if_pos ⟨h5, h6⟩]
  have e3 : numB 1 10 L (b2 + 1) = some (v3, b3) := by rw [numB_of h8, if_pos ⟨h9, h10⟩]
  unfold talF
  rw [if_neg hT, e1]
  dsimp only
  rw [if_pos h3, e2]
  dsimp only
  rw [if_pos h7, e3]
  dsimp only
  rw [if_pos h11, if_pos ⟨h12, h13⟩]
/-- all of a tale's reading at once -/
theorem tal_all {L : Nat → Nat} {r : Nat → Int32} {P T a b1 b1' b2 b2' b3 b3' b : Nat} {q i k kn : Int32} {t1 t2 t3 : Bool} (hP : P ≤ 6) (hT : T ≤ 9) (n1 : NumR L a q b1) (a1 : AccR L b1 44 t1 b1') (n2 : NumR L b1' i b2) (a2 : AccR L b2 44 t2 b2') (n3 : NumR L b2' k b3) (a3 : AccR L b3 44 t3 b3') (hkn : kn = (rowC L P 200 b3' 0).1) (hb : ¬ kn = 0 → b = (rowC L P 200 b3' 0).2) : ((t1 && (t2 && t3)) = true → L b = 59 → AdT P T q i k kn → talF L r P T a = some (adT r T q i k kn, P, T + 1, b + 1)) ∧ ((talF L r P T a).isSome = true → (t1 && (t2 && t3)) = true ∧ L b = 59 ∧ AdT P T q i k kn) := by
  constructor
  · intro ht h59 hA
    simp only [Bool.and_eq_true] at ht
    obtain ⟨rfl, rfl, rfl⟩ := ht
    obtain ⟨c1, rfl⟩ := a1.1 rfl
    obtain ⟨c2, rfl⟩ := a2.1 rfl
    obtain ⟨c3, rfl⟩ := a3.1 rfl
    obtain ⟨g1, g2, g3, g4, g5, g6⟩ := hA
    obtain ⟨v1, m1, rfl, l1⟩ := n1.pos g2.1
    obtain ⟨v2, m2, rfl, l2⟩ := n2.pos (by have := g3.1; omega)
    obtain ⟨v3, m3, rfl, l3⟩ := n3.pos (by have := g4.1; omega)
    have r1 := g2.2
    have r2 := g3.1
    have r3 := g3.2
    have r4 := g4.1
    have r5 := g4.2
    rw [nI_toInt (by omega)] at r1 r2 r3 r4 r5
    rw [bitI_nI, and_bit0 (by omega)] at g6
    have e := (rowF_C (L := L) (q := v1) hP (by omega) 200 (b3 + 1) 0 (b_0 _)).2 (by rw [← hkn]; exact g5) (by rw [← hkn]; exact g6)
    have hb2 := hb g5
    rw [← e] at hkn hb2
    subst hkn
    subst hb2
    exact tal_of (by omega) m1 (by omega) c1 m2 (by omega) (by omega) c2 m3 (by omega) (by omega) c3 g5 h59
  · intro hs
    obtain ⟨y, hy⟩ := opt_yes hs
    obtain ⟨v1, c1, v2, c2, v3, c3, hT9, m1, m2, m3, m4, m5, m6, m7, m8, m9, m10, m11, m12, m13⟩ := tal_inv hy
    obtain ⟨rfl, rfl⟩ := n1.some m1
    obtain ⟨rfl, rfl⟩ := a1.yes m3
    obtain ⟨rfl, rfl⟩ := n2.some m4
    obtain ⟨rfl, rfl⟩ := a2.yes m7
    obtain ⟨rfl, rfl⟩ := n3.some m8
    obtain ⟨rfl, rfl⟩ := a3.yes m11
    obtain ⟨e1, e2⟩ := (rowF_C (L := L) (q := v1) hP (by omega) 200 (b3 + 1) 0 (b_0 _)).1 m12
    rw [e1] at m12 m13
    rw [← hkn] at m12 e2
    rw [← hb m12] at m13
    refine ⟨rfl, m13, by omega, inN_nI m2 (by omega), ?_, ?_, m12, by rw [bitI_nI, and_bit0 (by omega)]; exact e2⟩
    · rw [inR, nI_toInt (by omega)]; omega
    · rw [inR, nI_toInt (by omega)]; omega
theorem per_all {L : Nat → Nat} {r : Nat → Int32} {P T a b1 b : Nat} {k : Int32} {t : Bool} (hP : P ≤ 6) (n1 : NumR L a k b1) (a1 : AccR L b1 59 t b) : (t = true → (P < 6 ∧ inR 0 3 k) → perF L r P T a = some (adP r P k, P + 1, T, b)) ∧ ((perF L r P T a).isSome = true → t = true ∧ P < 6 ∧ inR 0 3 k) := by
  constructor
  · intro ht hA
    subst ht
    obtain ⟨c1, rfl⟩ := a1.1 rfl
    obtain ⟨v1, m1, rfl, l1⟩ := n1.pos hA.2.1
    have r1 := hA.2.2
    rw [nI_toInt (by omega)] at r1
    unfold perF
    rw [if_neg (by omega), numB_of m1, if_pos ⟨Nat.zero_le _, by omega⟩]
    dsimp only
    rw [if_pos c1]
  · intro hs
    obtain ⟨y, hy⟩ := opt_yes hs
    unfold perF at hy
    split at hy
    · cases hy
    · next hP6 =>
      split at hy
      · cases hy
      · next x hx =>
        obtain ⟨v, c⟩ := x
        dsimp only at hy
        split at hy
        · next h59 =>
          obtain ⟨m1, m2, m3⟩ := numB_some hx
          obtain ⟨rfl, rfl⟩ := n1.some m3
          exact ⟨(a1.yes h59).1, by omega, by rw [inR, nI_toInt (by omega)]; omega⟩
        · cases hy
theorem fri_all {L : Nat → Nat} {r : Nat → Int32} {P T a b1 b1' b2 b : Nat} {p q : Int32} {t1 t2 : Bool} (hP : P ≤ 6) (n1 : NumR L a p b1) (a1 : AccR L b1 44 t1 b1') (n2 : NumR L b1' q b2) (a2 : AccR L b2 59 t2 b) : ((t1 && t2) = true → (inN P p ∧ inN P q ∧ ¬ p = q) → friF L r P T a = some (adF r p.toNatClampNeg q.toNatClampNeg, P, T, b)) ∧ ((friF L r P T a).isSome = true → (t1 && t2) = true ∧ inN P p ∧ inN P q ∧ ¬ p = q) := by
  constructor
  · intro ht hA
    simp only [Bool.and_eq_true] at ht
    obtain ⟨rfl, rfl⟩ := ht
    obtain ⟨c1, rfl⟩ := a1.1 rfl
    obtain ⟨c2, rfl⟩ := a2.1 rfl
    obtain ⟨g1, g2, g3⟩ := hA
    obtain ⟨v1, m1, rfl, l1⟩ := n1.pos g1.1
    obtain ⟨v2, m2, rfl, l2⟩ := n2.pos g2.1
    have r1 := g1.2
    have r2 := g2.2
    rw [nI_toInt (by omega)] at r1 r2
    rw [nI_clamp (by omega), nI_clamp (by omega)]
    unfold friF
    rw [numB_of m1, if_pos ⟨Nat.zero_le _, by omega⟩]
    dsimp only
    rw [if_pos c1, numB_of m2, if_pos ⟨Nat.zero_le _, by omega⟩]
    dsimp only
    rw [if_pos ⟨fun e => g3 (by rw [e]), c2⟩]
  · intro hs
    obtain ⟨y, hy⟩ := opt_yes hs
    unfold friF at hy
    split at hy
    · cases hy
    · next x hx =>
      obtain ⟨v, c⟩ := x
      dsimp only at hy
      split at hy
      · next h44 =>
        split at hy
        · cases hy
        · next z hz =>
          obtain ⟨v2, c2⟩ := z
          dsimp only at hy
          split at hy
          · next h59 =>
            obtain ⟨m1, m2, m3⟩ := numB_some hx
            obtain ⟨m4, m5, m6⟩ := numB_some hz
            obtain ⟨rfl, rfl⟩ := n1.some m3
            obtain ⟨rfl, rfl⟩ := a1.yes h44
            obtain ⟨rfl, rfl⟩ := n2.some m6
            exact ⟨by rw [(a2.yes h59.2).1]; rfl, inN_nI m2 (by omega), inN_nI m5 (by omega), fun e => h59.1 (nI_inj (by omega) (by omega) e).symm⟩
          · cases hy
      · cases hy
/-- but for the text's place and a town's cells all is as it was -/
def RdF (κ : Kp) (x tw : Nat) (I J : Ip) : Prop := (∀ a, a ≠ x → a ≠ tw → (∀ k, 2 ≤ k → k ≤ 8 → a ≠ κ.2.1 tw k) → J a = I a) ∧ ∀ k, k ≠ 2 → J x k = I x k
theorem RdF.rf {κ : Kp} {x tw : Nat} {I : Ip} : RdF κ x tw I I := ⟨fun _ _ _ _ => rfl, fun _ _ => rfl⟩
theorem RdF.tr {κ : Kp} {x tw : Nat} {I J K : Ip} (h1 : RdF κ x tw I J) (h2 : RdF κ x tw J K) : RdF κ x tw I K :=
  ⟨fun a g1 g2 g3 => (h2.1 a g1 g2 g3).trans (h1.1 a g1 g2 g3), fun k hk => (h2.2 k hk).trans (h1.2 k hk)⟩
theorem RdF.plc {κ : Kp} {x tw a : Nat} {I J : Ip} (h : RdF κ x tw I J) : RdF κ x tw I (plc x J a) :=
  h.tr ⟨fun b g1 _ _ => plc_ne g1, fun k hk => plc_k hk⟩
theorem RdF.tw {κ : Kp} {x tw : Nat} {I J : Ip} (hO : TxO κ x) (hT : TwK κ tw) (h : TwF κ tw I J) : RdF κ x tw I J := by
  obtain ⟨ht, ht0, ⟨t2, u2⟩, ⟨t3, u3⟩, ⟨t4, u4⟩, ⟨t5, u5⟩, ⟨t6, u6⟩, ⟨t7, u7⟩, ⟨t8, u8⟩⟩ := id hT
  refine ⟨fun a _ g2 g3 => h a g2 g3, fun k _ => ?_⟩
  rw [h x (kd_ne hO.1 ht (by decide)) (fun k k1 k2 => ?_)]
  rcases (show k = 2 ∨ k = 3 ∨ k = 4 ∨ k = 5 ∨ k = 6 ∨ k = 7 ∨ k = 8 by omega) with rfl | rfl | rfl | rfl | rfl | rfl | rfl
  · exact kd_ne hO.1 t2 (by decide)
  · exact kd_ne hO.1 t3 (by decide)
  · exact kd_ne hO.1 t4 (by decide)
  · exact kd_ne hO.1 t5 (by decide)
  · exact kd_ne hO.1 t6 (by decide)
  · exact kd_ne hO.1 t7 (by decide)
  · exact kd_ne hO.1 t8 (by decide)
theorem RdF.txc {κ : Kp} {x tw : Nat} {I J : Ip} {tx : Nat → Int32} {sz : Nat} (hO : TxO κ x) (hT : TwK κ tw) (h : RdF κ x tw I J) (hx : TxC κ x I tx sz) : TxC κ x J tx sz := by
  obtain ⟨ht, ht0, ⟨t2, u2⟩, ⟨t3, u3⟩, ⟨t4, u4⟩, ⟨t5, u5⟩, ⟨t6, u6⟩, ⟨t7, u7⟩, ⟨t8, u8⟩⟩ := id hT
  obtain ⟨h1, h2, h3, h4⟩ := hx
  refine ⟨(h.2 1 (by decide)).trans h1, h2, fun k hk => ?_, h4⟩
  rw [h.1 (κ.2.1 x 0) hO.nl (kd_ne hO.2.2.1 ht (by decide)) (fun k k1 k2 => ?_)]
  · exact h3 k hk
  rcases (show k = 2 ∨ k = 3 ∨ k = 4 ∨ k = 5 ∨ k = 6 ∨ k = 7 ∨ k = 8 by omega) with rfl | rfl | rfl | rfl | rfl | rfl | rfl
  · exact kd_ne hO.2.2.1 t2 (by decide)
  · exact kd_ne hO.2.2.1 t3 (by decide)
  · exact kd_ne hO.2.2.1 t4 (by decide)
  · exact kd_ne hO.2.2.1 t5 (by decide)
  · exact kd_ne hO.2.2.1 t6 (by decide)
  · exact kd_ne hO.2.2.1 t7 (by decide)
  · exact kd_ne hO.2.2.1 t8 (by decide)
theorem TwR.plc {κ : Kp} {x tw a : Nat} {I : Ip} {w : Nat → Int32} {P T : Nat} (h : TwR κ I tw w P T) (hO : TxO κ x) (hT : TwK κ tw) : TwR κ (plc x I a) tw w P T := by
  obtain ⟨ht, ht0, ⟨t2, u2⟩, ⟨t3, u3⟩, ⟨t4, u4⟩, ⟨t5, u5⟩, ⟨t6, u6⟩, ⟨t7, u7⟩, ⟨t8, u8⟩⟩ := id hT
  refine h.fr (plc_ne (kd_ne ht hO.1 (by decide))) (fun k k1 k2 => plc_ne ?_)
  rcases (show k = 2 ∨ k = 3 ∨ k = 4 ∨ k = 5 ∨ k = 6 ∨ k = 7 ∨ k = 8 by omega) with rfl | rfl | rfl | rfl | rfl | rfl | rfl
  · exact kd_ne t2 hO.1 (by decide)
  · exact kd_ne t3 hO.1 (by decide)
  · exact kd_ne t4 hO.1 (by decide)
  · exact kd_ne t5 hO.1 (by decide)
  · exact kd_ne t6 hO.1 (by decide)
  · exact kd_ne t7 hO.1 (by decide)
  · exact kd_ne t8 hO.1 (by decide)
theorem rowC_ok {tx : Nat → Int32} {sz P : Nat} : ∀ (n a : Nat) (x : Int32), a ≤ sz → a ≤ (rowC (Lc tx sz) P n a x).2 ∧ (rowC (Lc tx sz) P n a x).2 ≤ sz
  | 0, a, x, h => ⟨Nat.le_refl _, h⟩
  | n + 1, a, x, h => by
    rw [rowC]
    by_cases h1 : isD (Lc tx sz a)
    · rw [if_pos h1]
      have := Lc_lt (tx := tx) (sz := sz) (a := a) (by omega)
      by_cases h2 : Lc tx sz a - 48 < P ∧ bt x (Lc tx sz a - 48) = false
      · rw [if_pos h2]
        have := rowC_ok (tx := tx) (sz := sz) (P := P) n (a + 1) (x ||| bit1 (Lc tx sz a - 48)) (by omega)
        omega
      · rw [if_neg h2]; exact ⟨Nat.le_refl _, h⟩
    · rw [if_neg h1]; exact ⟨Nat.le_refl _, h⟩
def figV (c : Nat) : Int32 := if isD c then nI (c - 48) else -1
theorem figV_m1 {c : Nat} (h : c ≤ 126) : figV c = -1 ↔ ¬ isD c := by
  unfold figV
  by_cases e : isD c
  · rw [if_pos e]
    exact ⟨fun q => absurd q (nI_m1 (by omega)), fun q => absurd e q⟩
  · rw [if_neg e]
    exact ⟨fun _ => e, fun _ => rfl⟩
theorem lsw_no : ∀ c, c < 127 → c ≠ 102 → c ≠ 112 → c ≠ 116 → Op.lookupswitch.offset [(102, 42), (112, 36), (116, 48)] 54 (nI c).toInt = 54 := by decide +kernel
theorem lt_nI {a b : Nat} (ha : a < 2 ^ 31) (hb : b < 2 ^ 31) : nI a < nI b ↔ a < b := by
  rw [Int32.lt_iff_toInt_lt, nI_toInt ha, nI_toInt hb]
  omega
theorem tw_0 {κ : Kp} {J : Ip} {tw : Nat} (h0 : J tw 0 = nI 0) (h1 : J tw 1 = nI 0) : TwR κ J tw (fun _ => nI 0) 0 0 := by
  have hn : ∀ {p : Nat} {Z : Prop}, p < 0 → Z := fun h => absurd h (Nat.not_lt_zero _)
  exact ⟨h0, h1, fun p h => hn h, fun p h => hn h, fun p h => hn h, fun p h => hn h, fun p h => hn h, fun p h => hn h, fun p h => hn h⟩
