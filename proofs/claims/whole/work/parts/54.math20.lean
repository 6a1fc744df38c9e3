/-! the class's Shelf: states in a row -/
section GA
variable {Γ : Ga} {md : Md} {X : Cx} {pc : Nat} {lv lv' : List (Nat × Value)} {r : List Value} {κ : Kp} {I : Ip} {a b : Nat}
theorem g_aaldN {x n j y : Nat} {i : Int32} (hX : Std Γ md X) (hd : decode md.2.1 pc = .ok (.aaload, 1)) (hk : κ.1 x = (9, n)) (hi : i = nI j) (hj : j < n) (hn : n < 2 ^ 31) (hy : κ.2.1 x j = y) (h0 : y ≠ 0) (k : GW Γ md X (pc + 1) lv (.ref y :: r) κ I a b) : GW Γ md X pc lv (.int i :: .ref x :: r) κ I a b := by
  subst hi
  exact g_aald hX hd hk (vp_in_nI hj hn) (by rw [nI_clamp (by omega)]; exact hy) h0 k
theorem g_aastN {x n j y : Nat} {i : Int32} (hX : Std Γ md X) (hd : decode md.2.1 pc = .ok (.aastore, 1)) (hk : κ.1 x = (9, n)) (hi : i = nI j) (hj : j < n) (hn : n < 2 ^ 31) (hy : κ.1 y = (2, 0)) (h0 : y ≠ 0) (k : GW Γ md X (pc + 1) lv r (κ.1, va_up κ.2.1 x (va_up (κ.2.1 x) j y), κ.2.2) I a b) : GW Γ md X pc lv (.ref y :: .int i :: .ref x :: r) κ I a b := by
  subst hi
  exact g_aast hX hd hk (vp_in_nI hj hn) hy h0 (by rw [nI_clamp (by omega)]; exact k)
end GA
def kR (κ : Kp) (A : Nat) (g : Nat → Nat) : Kp := (κ.1, va_up κ.2.1 A g, κ.2.2)
theorem kR_A {κ : Kp} {A : Nat} {g : Nat → Nat} : (kR κ A g).2.1 A = g := up_same _ _ _
theorem kR_ne {κ : Kp} {A x : Nat} {g : Nat → Nat} (h : x ≠ A) : (kR κ A g).2.1 x = κ.2.1 x := up_ne _ _ h
theorem kR_up {κ : Kp} {A j y : Nat} {g : Nat → Nat} : ((kR κ A g).1, va_up (kR κ A g).2.1 A (va_up ((kR κ A g).2.1 A) j y), (kR κ A g).2.2) = kR κ A (va_up g j y) := by
  rw [kR_A]
  unfold kR
  rw [up_up]
theorem kR_self {κ : Kp} {A : Nat} : kR κ A (κ.2.1 A) = κ := by unfold kR; rw [up_self]
def arS (κ : Kp) (sh i : Nat) : Nat := κ.2.1 (κ.2.1 sh 0) i
def ShK (κ : Kp) (sh n : Nat) : Prop := κ.1 sh = (1, 0) ∧ sh ≠ 0 ∧ κ.1 (κ.2.1 sh 0) = (9, n) ∧ κ.2.1 sh 0 ≠ 0 ∧ (∀ i, i < n → StK κ (arS κ sh i) ∧ κ.2.1 (arS κ sh i) 0 = arS κ sh i + 1) ∧ ∀ i j, i < n → j < n → arS κ sh i = arS κ sh j → i = j
def ShR (κ : Kp) (I : Ip) (sh P T : Nat) (l : List (Nat → Int32)) : Prop := I sh 1 = nI l.length ∧ ∀ i g, l[i]? = some g → WfS g P T ∧ SR (I (arS κ sh i + 1)) (I (arS κ sh i)) g T
def Prm (n : Nat) (f g : Nat → Nat) : Prop := (∀ i, i < n → ∃ j, j < n ∧ g i = f j) ∧ ∀ i j, i < n → j < n → g i = g j → i = j
def rotF (n : Nat) (f : Nat → Nat) : Nat → Nat := fun i => if i + 1 < n then f (i + 1) else if i + 1 = n then f 0 else f i
def shfF (k : Nat) (f : Nat → Nat) : Nat → Nat := fun i => if i + 1 < k then f (i + 1) else f i
theorem shf_1 (f : Nat → Nat) : shfF 1 f = f := funext fun i => if_neg (by omega)
theorem shf_s {k : Nat} (hk : 1 ≤ k) (f : Nat → Nat) : va_up (shfF k f) (k - 1) (f k) = shfF (k + 1) f := by
  funext i
  unfold shfF
  by_cases e : i = k - 1
  · subst e
    rw [up_same, if_pos (by omega), show k - 1 + 1 = k by omega]
  · rw [up_ne _ _ e]
    by_cases h : i + 1 < k
    · rw [if_pos h, if_pos (by omega)]
    · rw [if_neg h, if_neg (by omega)]
theorem shf_e {n : Nat} (hn : 1 ≤ n) (f : Nat → Nat) : va_up (shfF n f) (n - 1) (f 0) = rotF n f := by
  funext i
  unfold shfF rotF
  by_cases e : i = n - 1
  · subst e
    rw [up_same, if_neg (by omega), if_pos (by omega)]
  · rw [up_ne _ _ e]
    by_cases h : i + 1 < n
    · rw [if_pos h, if_pos h]
    · rw [if_neg h, if_neg h, if_neg (by omega)]
theorem prm_self {n : Nat} {f : Nat → Nat} (h : ∀ i j, i < n → j < n → f i = f j → i = j) : Prm n f f := ⟨fun i hi => ⟨i, hi, rfl⟩, h⟩
theorem prm_rot {n : Nat} {f : Nat → Nat} (hn : 1 ≤ n) (h : ∀ i j, i < n → j < n → f i = f j → i = j) : Prm n f (rotF n f) := by
  have e1 : ∀ i, i + 1 < n → rotF n f i = f (i + 1) := fun i hi => if_pos hi
  have e2 : ∀ i, i + 1 = n → rotF n f i = f 0 := fun i hi => by unfold rotF; rw [if_neg (by omega), if_pos hi]
  refine ⟨fun i hi => ?_, fun i j hi hj he => ?_⟩
  · by_cases q : i + 1 < n
    · exact ⟨i + 1, q, e1 i q⟩
    · exact ⟨0, by omega, e2 i (by omega)⟩
  · by_cases q : i + 1 < n
    · rw [e1 i q] at he
      by_cases q2 : j + 1 < n
      · rw [e1 j q2] at he
        have := h _ _ q q2 he; omega
      · rw [e2 j (by omega)] at he
        have := h _ _ q (by omega) he; omega
    · rw [e2 i (by omega)] at he
      by_cases q2 : j + 1 < n
      · rw [e1 j q2] at he
        have := h _ _ (by omega) q2 he; omega
      · omega
section SHS
variable {κ : Kp} {sh n : Nat} {I J : Ip} {P T : Nat} {l : List (Nat → Int32)} {s : Nat → Int32} {g : Nat → Nat}
theorem ShK.nA (h : ShK κ sh n) : sh ≠ κ.2.1 sh 0 := kd_ne h.1 h.2.2.1 (fun e => by injection e with e1 e2; cases e1)
theorem StK.nA {x A m : Nat} (h : StK κ x) (hA : κ.1 A = (9, m)) : x ≠ A := kd_ne h.1 hA (fun e => by injection e with e1 e2; cases e1)
theorem StK.kR {x A m : Nat} (h : StK κ x) (hA : κ.1 A = (9, m)) : StK (kR κ A g) x := by
  have e := kR_ne (g := g) (κ := κ) (h.nA hA)
  unfold StK at h ⊢
  rw [e]
  exact h
theorem arS_kR (h : ShK κ sh n) (i : Nat) : arS (kR κ (κ.2.1 sh 0) g) sh i = g i := by
  show (kR κ (κ.2.1 sh 0) g).2.1 ((kR κ (κ.2.1 sh 0) g).2.1 sh 0) i = g i
  rw [kR_ne h.nA, kR_A]
theorem ShK.prm (h : ShK κ sh n) (hp : Prm n (arS κ sh) g) : ShK (kR κ (κ.2.1 sh 0) g) sh n := by
  have ea := arS_kR (g := g) h
  have e0 : (kR κ (κ.2.1 sh 0) g).2.1 sh = κ.2.1 sh := kR_ne h.nA
  obtain ⟨h1, h2, h3, h4, h5, h6⟩ := id h
  refine ⟨h1, h2, by rw [e0]; exact h3, by rw [e0]; exact h4, fun i hi => ?_, fun i j hi hj he => ?_⟩
  · rw [ea i]
    obtain ⟨j, hj, e⟩ := hp.1 i hi
    obtain ⟨g1, g2⟩ := h5 j hj
    rw [e]
    exact ⟨g1.kR h3, by rw [kR_ne (g1.nA h3)]; exact g2⟩
  · rw [ea i, ea j] at he
    exact hp.2 i j hi hj he
theorem ShK.nsh (h : ShK κ sh n) {i : Nat} (hi : i < n) : arS κ sh i ≠ sh ∧ arS κ sh i + 1 ≠ sh := by
  obtain ⟨g1, g2⟩ := h.2.2.2.2.1 i hi
  rw [← g2]
  exact ⟨kd_ne g1.1 h.1 (by decide), kd_ne g1.2.2.1 h.1 (by decide)⟩
theorem StK.row_ne {x y : Nat} (hx : StK κ x) (hy : StK κ y) (ey : κ.2.1 y 0 = y + 1) : x ≠ y + 1 := by
  rw [← ey]
  exact kd_ne hx.1 hy.2.2.1 (by decide)
theorem ShR.fr (h : ShR κ I sh P T l) (hl : l.length ≤ n) (h1 : J sh 1 = I sh 1) (ha : ∀ i, i < n → J (arS κ sh i) = I (arS κ sh i) ∧ J (arS κ sh i + 1) = I (arS κ sh i + 1)) : ShR κ J sh P T l := by
  obtain ⟨g1, g2⟩ := h
  refine ⟨h1.trans g1, fun i g hg => ?_⟩
  have hi := (List.getElem?_eq_some_iff.mp hg).1
  obtain ⟨e1, e2⟩ := ha i (by omega)
  rw [e1, e2]
  exact g2 i g hg
/-- the state behind the last one written -/
theorem ShR.app {K f v : Nat → Int32} (hK : ShK κ sh n) (h : ShR κ I sh P T l) (hl : l.length < n) (hs : WfS s P T) (hSR : SR K f s T) (hv : v 1 = nI (l.length + 1)) : ShR κ (va_up (sst κ (arS κ sh l.length) I K f) sh v) sh P T (l ++ [s]) := by
  obtain ⟨g1, g2⟩ := h
  obtain ⟨-, -, -, -, h5, h6⟩ := id hK
  obtain ⟨y1, y2⟩ := h5 _ hl
  refine ⟨by rw [up_same, hv, List.length_append]; rfl, fun i g hg => ?_⟩
  have hil := (List.getElem?_eq_some_iff.mp hg).1
  rw [List.length_append] at hil
  have hil : i < l.length + 1 := hil
  obtain ⟨x1, x2⟩ := h5 i (by omega)
  rw [up_ne _ _ (hK.nsh (by omega)).2, up_ne _ _ (hK.nsh (by omega)).1]
  rcases Nat.lt_or_ge i l.length with hi | hi
  · rw [List.getElem?_append_left hi] at hg
    have hne : arS κ sh i ≠ arS κ sh l.length := fun e => by have := h6 _ _ (by omega) hl e; omega
    have e1 : sst κ (arS κ sh l.length) I K f (arS κ sh i) = I (arS κ sh i) := sst_ne hne (by rw [y2]; exact x1.row_ne y1 y2)
    have e2 : sst κ (arS κ sh l.length) I K f (arS κ sh i + 1) = I (arS κ sh i + 1) := sst_ne (Ne.symm (y1.row_ne x1 x2)) (by rw [y2]; omega)
    rw [e1, e2]
    exact g2 i g hg
  · have e : i = l.length := by omega
    subst e
    rw [List.getElem?_append_right (Nat.le_refl _), Nat.sub_self] at hg
    cases hg
    rw [sst_st, ← y2, sst_kn y1]
    exact ⟨hs, hSR⟩
/-- the oldest one's object comes last -/
theorem ShR.rot {v : Nat → Int32} (hK : ShK κ sh n) (h : ShR κ I sh P T l) (hl : l.length = n) (hn : 1 ≤ n) (hv : v 1 = nI (n - 1)) : ShR (kR κ (κ.2.1 sh 0) (rotF n (arS κ sh))) (va_up I sh v) sh P T l.tail := by
  obtain ⟨g1, g2⟩ := h
  obtain ⟨-, -, -, -, h5, h6⟩ := id hK
  refine ⟨by rw [up_same, hv, List.length_tail, hl], fun i g hg => ?_⟩
  rw [List.getElem?_tail] at hg
  have hi := (List.getElem?_eq_some_iff.mp hg).1
  rw [arS_kR hK, show rotF n (arS κ sh) i = arS κ sh (i + 1) from if_pos (by omega)]
  obtain ⟨e1, e2⟩ := hK.nsh (i := i + 1) (by omega)
  rw [up_ne _ _ e1, up_ne _ _ e2]
  exact g2 (i + 1) g hg
theorem ShR.last (h : ShR κ I sh P T l) (hl : l.length ≠ 0) : WfS (lastD l s) P T ∧ SR (I (arS κ sh (l.length - 1) + 1)) (I (arS κ sh (l.length - 1))) (lastD l s) T := by
  have hne : l ≠ [] := fun e => hl (by rw [e]; rfl)
  have e : lastD l s = l.getLast hne := by
    unfold lastD
    rw [List.getLastD_eq_getLast?, List.getLast?_eq_some_getLast hne]
    rfl
  refine h.2 (l.length - 1) _ ?_
  rw [e, List.getLast_eq_getElem]
  exact List.getElem?_eq_getElem _
theorem ShR.init {v : Nat → Int32} (hK : ShK κ sh n) (h : ShR κ I sh P T l) (hl : l.length ≤ n) (hv : v 1 = nI (l.length - 1)) : ShR κ (va_up I sh v) sh P T l.dropLast := by
  obtain ⟨g1, g2⟩ := h
  refine ⟨by rw [up_same, hv, List.length_dropLast], fun i g hg => ?_⟩
  rw [List.getElem?_dropLast] at hg
  by_cases hi : i < l.length - 1
  · rw [if_pos hi] at hg
    obtain ⟨e1, e2⟩ := hK.nsh (i := i) (by omega)
    rw [up_ne _ _ e1, up_ne _ _ e2]
    exact g2 i g hg
  · rw [if_neg hi] at hg
    cases hg
end SHS
def pushN (n : Nat) (l : List (Nat → Int32)) (s : Nat → Int32) : List (Nat → Int32) := (if l.length = n then l.tail else l) ++ [s]
/-- x is a State beside the shelf's -/
def Bes (κ : Kp) (sh n x : Nat) : Prop := StK κ x ∧ κ.2.1 x 0 = x + 1 ∧ ∀ i, i < n → arS κ sh i ≠ x
/-- but for the shelf and its states all is as it was -/
def ShF (κ : Kp) (sh n : Nat) (I J : Ip) : Prop := ∀ a, a ≠ sh → (∀ i, i < n → a ≠ arS κ sh i ∧ a ≠ arS κ sh i + 1) → J a = I a
theorem g_kp {Γ : Ga} {md : Md} {X : Cx} {pc : Nat} {lv : List (Nat × Value)} {r : List Value} {κ κ' : Kp} {I : Ip} {a b : Nat} (h : κ = κ') (k : GW Γ md X pc lv r κ' I a b) : GW Γ md X pc lv r κ I a b := by subst h; exact k
