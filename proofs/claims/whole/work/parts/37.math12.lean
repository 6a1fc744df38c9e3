def pushL (l : List (Nat → Int32)) (s : Nat → Int32) : List (Nat → Int32) := (if l.length = 8 then l.tail else l) ++ [s]
/-- rows of 18 one behind the other in a row -/
def Blk (P T : Nat) (l : List (Nat → Int32)) (f : Nat → Int32) : Prop := ∀ i g, l[i]? = some g → WfS g P T ∧ ∀ q, q < 18 → f (18 * i + q) = g q
/-- what the reference's object holds -/
def MR (κ : Kp) (m : Nat) (I : Ip) (P T : Nat) (w s : Nat → Int32) (past kept : List (Nat → Int32)) (tx : Nat → Int32) (sz : Nat) : Prop :=
  MoK κ m ∧ I (κ.2.1 m 0) = w ∧ I (κ.2.1 m 2) = s ∧ WfT w P T ∧ 0 < P ∧ WfS s P T ∧ past.length ≤ 8 ∧ I m 5 = nI past.length ∧ Blk P T past (I (κ.2.1 m 4)) ∧ kept.length ≤ 2 ∧ I m 7 = nI kept.length ∧ Blk P T kept (I (κ.2.1 m 6)) ∧ sz ≤ 200 ∧ I m 9 = nI sz ∧ (∀ k, k < sz → I (κ.2.1 m 8) k = tx k) ∧ ∀ k, k < sz → ∃ c, 32 ≤ c ∧ c ≤ 126 ∧ tx k = nI c
/-- outside the reference's own cells nothing has changed -/
def MOut (κ : Kp) (m : Nat) (I J : Ip) : Prop := ∀ a, a ≠ m → a ≠ κ.2.1 m 0 → a ≠ κ.2.1 m 1 → a ≠ κ.2.1 m 2 → a ≠ κ.2.1 m 3 → a ≠ κ.2.1 m 4 → a ≠ κ.2.1 m 6 → a ≠ κ.2.1 m 8 → a ≠ κ.2.1 m 14 → a ≠ κ.2.1 m 15 → a ≠ κ.2.1 m 16 → J a = I a
theorem MOut.rf {κ : Kp} {m : Nat} {I : Ip} : MOut κ m I I := fun _ _ _ _ _ _ _ _ _ _ _ _ => rfl
theorem MOut.tr {κ : Kp} {m : Nat} {I J K : Ip} (h1 : MOut κ m I J) (h2 : MOut κ m J K) : MOut κ m I K :=
  fun a g0 g1 g2 g3 g4 g5 g6 g7 g8 g9 g10 => (h2 a g0 g1 g2 g3 g4 g5 g6 g7 g8 g9 g10).trans (h1 a g0 g1 g2 g3 g4 g5 g6 g7 g8 g9 g10)
theorem MOut.up {κ : Kp} {m : Nat} {I J : Ip} {a : Nat} {f : Nat → Int32} (h : MOut κ m I J) (ha : a = m ∨ a = κ.2.1 m 0 ∨ a = κ.2.1 m 1 ∨ a = κ.2.1 m 2 ∨ a = κ.2.1 m 3 ∨ a = κ.2.1 m 4 ∨ a = κ.2.1 m 6 ∨ a = κ.2.1 m 8 ∨ a = κ.2.1 m 14 ∨ a = κ.2.1 m 15 ∨ a = κ.2.1 m 16) : MOut κ m I (va_up J a f) := by
  intro b g0 g1 g2 g3 g4 g5 g6 g7 g8 g9 g10
  have hb : b ≠ a := by rcases ha with e | e | e | e | e | e | e | e | e | e | e <;> rw [e] <;> assumption
  rw [up_ne _ _ hb]
  exact h b g0 g1 g2 g3 g4 g5 g6 g7 g8 g9 g10
theorem MFr.out {κ : Kp} {m : Nat} {I J : Ip} (h : MFr κ m I J) : MOut κ m I J := fun a g0 _ g2 _ g4 _ _ _ g8 g9 g10 => h.1 a g0 g2 g4 g8 g9 g10
section MRS
variable {κ : Kp} {m : Nat} {I J : Ip} {P T : Nat} {w s : Nat → Int32} {past kept : List (Nat → Int32)} {tx : Nat → Int32} {sz : Nat}
theorem MFr.p4 (h : MFr κ m I J) (hMo : MoK κ m) : J (κ.2.1 m 4) = I (κ.2.1 m 4) ∧ J (κ.2.1 m 6) = I (κ.2.1 m 6) ∧ J (κ.2.1 m 8) = I (κ.2.1 m 8) := by
  obtain ⟨hm, hm0, ⟨k0, n0⟩, ⟨k1, n1⟩, ⟨k2, n2⟩, ⟨k3, n3⟩, ⟨k4, n4⟩, ⟨k6, n6⟩, ⟨k8, n8⟩, ⟨k14, n14⟩, ⟨k15, n15⟩, ⟨k16, n16⟩, d01, d23, d614, d1516⟩ := id hMo
  exact ⟨h.1 _ (kd_ne k4 hm (by decide)) (kd_ne k4 k1 (by decide)) (kd_ne k4 k3 (by decide)) (kd_ne k4 k14 (by decide)) (kd_ne k4 k15 (by decide)) (kd_ne k4 k16 (by decide)),
    h.1 _ (kd_ne k6 hm (by decide)) (kd_ne k6 k1 (by decide)) (kd_ne k6 k3 (by decide)) d614 (kd_ne k6 k15 (by decide)) (kd_ne k6 k16 (by decide)),
    h.1 _ (kd_ne k8 hm (by decide)) (kd_ne k8 k1 (by decide)) (kd_ne k8 k3 (by decide)) (kd_ne k8 k14 (by decide)) (kd_ne k8 k15 (by decide)) (kd_ne k8 k16 (by decide))⟩
theorem MR.fr (h : MR κ m I P T w s past kept tx sz) (hf : MFr κ m I J) : MR κ m J P T w s past kept tx sz := by
  obtain ⟨hMo, h1, h2, h3, h4, h5, h6, h7, h8, h9, h10, h11, h12, h13, h14, h15⟩ := h
  obtain ⟨e4, e6, e8⟩ := hf.p4 hMo
  exact ⟨hMo, (hf.w hMo).trans h1, (hf.s hMo).trans h2, h3, h4, h5, h6, (hf.2 5 (by omega)).trans h7, by rw [e4]; exact h8, h9, (hf.2 7 (by omega)).trans h10, by rw [e6]; exact h11, h12, (hf.2 9 (by omega)).trans h13, fun k hk => by rw [e8]; exact h14 k hk, h15⟩
theorem MR.now {f : Nat → Int32} (h : MR κ m I P T w s past kept tx sz) (hs : WfS f P T) : MR κ m (va_up I (κ.2.1 m 2) f) P T w f past kept tx sz := by
  obtain ⟨hMo, h1, h2, h3, h4, h5, h6, h7, h8, h9, h10, h11, h12, h13, h14, h15⟩ := h
  obtain ⟨hm, hm0, ⟨k0, n0⟩, ⟨k1, n1⟩, ⟨k2, n2⟩, ⟨k3, n3⟩, ⟨k4, n4⟩, ⟨k6, n6⟩, ⟨k8, n8⟩, ⟨k14, n14⟩, ⟨k15, n15⟩, ⟨k16, n16⟩, d01, d23, d614, d1516⟩ := id hMo
  refine ⟨hMo, ?_, up_same _ _ _, h3, h4, hs, h6, ?_, ?_, h9, ?_, ?_, h12, ?_, ?_, h15⟩
  · rw [up_ne _ _ (kd_ne k0 k2 (by decide))]; exact h1
  · rw [up_ne _ _ hMo.m2]; exact h7
  · rw [up_ne _ _ (kd_ne k4 k2 (by decide))]; exact h8
  · rw [up_ne _ _ hMo.m2]; exact h10
  · rw [up_ne _ _ (kd_ne k6 k2 (by decide))]; exact h11
  · rw [up_ne _ _ hMo.m2]; exact h13
  · rw [up_ne _ _ (kd_ne k8 k2 (by decide))]; exact h14
/-- the past's row and count written anew -/
theorem MR.pst {f : Nat → Int32} {c : Int32} {p2 : List (Nat → Int32)} (h : MR κ m I P T w s past kept tx sz) (hl : p2.length ≤ 8) (hc : c = nI p2.length) (hB : Blk P T p2 f) : MR κ m (va_up (va_up I (κ.2.1 m 4) f) m (va_up (I m) 5 c)) P T w s p2 kept tx sz := by
  obtain ⟨hMo, h1, h2, h3, h4, h5, h6, h7, h8, h9, h10, h11, h12, h13, h14, h15⟩ := h
  obtain ⟨hm, hm0, ⟨k0, n0⟩, ⟨k1, n1⟩, ⟨k2, n2⟩, ⟨k3, n3⟩, ⟨k4, n4⟩, ⟨k6, n6⟩, ⟨k8, n8⟩, ⟨k14, n14⟩, ⟨k15, n15⟩, ⟨k16, n16⟩, d01, d23, d614, d1516⟩ := id hMo
  have e0 : κ.2.1 m 0 ≠ m := kd_ne k0 hm (by decide)
  have e2 : κ.2.1 m 2 ≠ m := kd_ne k2 hm (by decide)
  have e4 : κ.2.1 m 4 ≠ m := kd_ne k4 hm (by decide)
  have e6 : κ.2.1 m 6 ≠ m := kd_ne k6 hm (by decide)
  have e8 : κ.2.1 m 8 ≠ m := kd_ne k8 hm (by decide)
  refine ⟨hMo, ?_, ?_, h3, h4, h5, hl, ?_, ?_, h9, ?_, ?_, h12, ?_, ?_, h15⟩
  · rw [up_ne _ _ e0, up_ne _ _ (kd_ne k0 k4 (by decide))]; exact h1
  · rw [up_ne _ _ e2, up_ne _ _ (kd_ne k2 k4 (by decide))]; exact h2
  · rw [up_same, up_same]; exact hc
  · rw [up_ne _ _ e4, up_same]; exact hB
  · rw [up_same, up_ne _ _ (by decide)]; exact h10
  · rw [up_ne _ _ e6, up_ne _ _ (kd_ne k6 k4 (by decide))]; exact h11
  · rw [up_same, up_ne _ _ (by decide)]; exact h13
  · rw [up_ne _ _ e8, up_ne _ _ (kd_ne k8 k4 (by decide))]; exact h14
/-- what is kept and its count written anew -/
theorem MR.kpt {f : Nat → Int32} {c : Int32} {p2 : List (Nat → Int32)} (h : MR κ m I P T w s past kept tx sz) (hl : p2.length ≤ 2) (hc : c = nI p2.length) (hB : Blk P T p2 f) : MR κ m (va_up (va_up I (κ.2.1 m 6) f) m (va_up (I m) 7 c)) P T w s past p2 tx sz := by
  obtain ⟨hMo, h1, h2, h3, h4, h5, h6, h7, h8, h9, h10, h11, h12, h13, h14, h15⟩ := h
  obtain ⟨hm, hm0, ⟨k0, n0⟩, ⟨k1, n1⟩, ⟨k2, n2⟩, ⟨k3, n3⟩, ⟨k4, n4⟩, ⟨k6, n6⟩, ⟨k8, n8⟩, ⟨k14, n14⟩, ⟨k15, n15⟩, ⟨k16, n16⟩, d01, d23, d614, d1516⟩ := id hMo
  have e0 : κ.2.1 m 0 ≠ m := kd_ne k0 hm (by decide)
  have e2 : κ.2.1 m 2 ≠ m := kd_ne k2 hm (by decide)
  have e4 : κ.2.1 m 4 ≠ m := kd_ne k4 hm (by decide)
  have e6 : κ.2.1 m 6 ≠ m := kd_ne k6 hm (by decide)
  have e8 : κ.2.1 m 8 ≠ m := kd_ne k8 hm (by decide)
  refine ⟨hMo, ?_, ?_, h3, h4, h5, h6, ?_, ?_, hl, ?_, ?_, h12, ?_, ?_, h15⟩
  · rw [up_ne _ _ e0, up_ne _ _ (kd_ne k0 k6 (by decide))]; exact h1
  · rw [up_ne _ _ e2, up_ne _ _ (kd_ne k2 k6 (by decide))]; exact h2
  · rw [up_same, up_ne _ _ (by decide)]; exact h7
  · rw [up_ne _ _ e4, up_ne _ _ (kd_ne k4 k6 (by decide))]; exact h8
  · rw [up_same, up_same]; exact hc
  · rw [up_ne _ _ e6, up_same]; exact hB
  · rw [up_same, up_ne _ _ (by decide)]; exact h13
  · rw [up_ne _ _ e8, up_ne _ _ (kd_ne k8 k6 (by decide))]; exact h14
end MRS
theorem Blk.app {P T : Nat} {l : List (Nat → Int32)} {f g : Nat → Int32} (h : Blk P T l f) (hg : WfS g P T) : Blk P T (l ++ [g]) (fb_put f (fun q => g (0 + q)) (18 * l.length) 18) := by
  intro i x hx
  rcases Nat.lt_or_ge i l.length with hi | hi
  · rw [List.getElem?_append_left hi] at hx
    refine ⟨(h i x hx).1, fun q hq => ?_⟩
    rw [fb_put_out (Or.inl (by omega))]
    exact (h i x hx).2 q hq
  · rw [List.getElem?_append_right hi] at hx
    have hz : i - l.length < 1 := (List.getElem?_eq_some_iff.mp hx).1
    have e : i = l.length := by omega
    subst e
    rw [Nat.sub_self] at hx
    cases hx
    refine ⟨hg, fun q hq => ?_⟩
    rw [fb_put_in (by omega) (by omega), Nat.add_sub_cancel_left, Nat.zero_add]
theorem Blk.tail {P T : Nat} {l : List (Nat → Int32)} {f : Nat → Int32} (h : Blk P T l f) (hl : l.length ≤ 8) : Blk P T l.tail (fb_put f (fun q => f (q + 18)) 0 126) := by
  intro i x hx
  rw [List.getElem?_tail] at hx
  have hlt := (List.getElem?_eq_some_iff.mp hx).1
  obtain ⟨h1, h2⟩ := h (i + 1) x hx
  refine ⟨h1, fun q hq => ?_⟩
  rw [fb_put_in (Nat.zero_le _) (by omega), Nat.sub_zero, ← h2 q hq]
  congr 1
  omega
theorem Blk.init {P T : Nat} {l : List (Nat → Int32)} {f : Nat → Int32} (h : Blk P T l f) : Blk P T l.dropLast f := by
  intro i x hx
  rw [List.getElem?_dropLast] at hx
  by_cases hi : i < l.length - 1
  · rw [if_pos hi] at hx
    exact h i x hx
  · rw [if_neg hi] at hx
    cases hx
theorem Blk.last {P T : Nat} {l : List (Nat → Int32)} {f : Nat → Int32} (h : Blk P T l f) (hl : l ≠ []) : WfS (l.getLast hl) P T ∧ ∀ q, q < 18 → f (18 * (l.length - 1) + q) = l.getLast hl q := by
  refine h (l.length - 1) (l.getLast hl) ?_
  rw [List.getLast_eq_getElem]
  exact List.getElem?_eq_getElem _
section MoKm
variable {κ : Kp} {m : Nat}
theorem MoK.m0 (hMo : MoK κ m) : m ≠ κ.2.1 m 0 := by
  obtain ⟨hm, hm0, ⟨k0, n0⟩, -⟩ := hMo
  exact kd_ne hm k0 (by decide)
theorem MoK.m4 (hMo : MoK κ m) : m ≠ κ.2.1 m 4 := by
  obtain ⟨hm, hm0, ⟨k0, n0⟩, ⟨k1, n1⟩, ⟨k2, n2⟩, ⟨k3, n3⟩, ⟨k4, n4⟩, -⟩ := hMo
  exact kd_ne hm k4 (by decide)
theorem MoK.m6 (hMo : MoK κ m) : m ≠ κ.2.1 m 6 := by
  obtain ⟨hm, hm0, ⟨k0, n0⟩, ⟨k1, n1⟩, ⟨k2, n2⟩, ⟨k3, n3⟩, ⟨k4, n4⟩, ⟨k6, n6⟩, -⟩ := hMo
  exact kd_ne hm k6 (by decide)
theorem MoK.m8 (hMo : MoK κ m) : m ≠ κ.2.1 m 8 := by
  obtain ⟨hm, hm0, ⟨k0, n0⟩, ⟨k1, n1⟩, ⟨k2, n2⟩, ⟨k3, n3⟩, ⟨k4, n4⟩, ⟨k6, n6⟩, ⟨k8, n8⟩, -⟩ := hMo
  exact kd_ne hm k8 (by decide)
end MoKm
/-- what comes of an act: the answer, how all stands, what can be undone -/
def sitA (w s : Nat → Int32) (P T : Nat) (past : List (Nat → Int32)) (a b : Int32) : Int32 × (Nat → Int32) × List (Nat → Int32) :=
  if two P a b then
    if s 10 = -4 ∧ lkF w a.toNatClampNeg b.toNatClampNeg = true then (tellF w s T a.toNatClampNeg b (nI 0), sitF s a b, pushL past s) else (-2, s, past)
  else (-1, s, past)
def standA (s : Nat → Int32) (past : List (Nat → Int32)) : Int32 × (Nat → Int32) × List (Nat → Int32) :=
  if s 10 = -4 then (-2, s, past) else (nI (pcI (s 15)), standF s, pushL past s)
def passA (w s : Nat → Int32) (T : Nat) (past : List (Nat → Int32)) (n : Int32) : Int32 × (Nat → Int32) × List (Nat → Int32) :=
  if inR 1 60 n then (itF w T n.toNatClampNeg s 17, itF w T n.toNatClampNeg s, pushL past s) else (-1, s, past)
def hushA (s : Nat → Int32) (T : Nat) (past : List (Nat → Int32)) (t : Int32) : Int32 × (Nat → Int32) × List (Nat → Int32) :=
  if inN T t then
    if mayB s t.toNatClampNeg = true then (nI T - nI (pcI (s 9 ||| bit1 t.toNatClampNeg)), va_up s 9 (s 9 ||| bit1 t.toNatClampNeg), pushL past s) else (-2, s, past)
  else (-1, s, past)
def lastD (l : List (Nat → Int32)) (s : Nat → Int32) : Nat → Int32 := l.getLastD s
def undoA (s : Nat → Int32) (past : List (Nat → Int32)) : Int32 × (Nat → Int32) × List (Nat → Int32) :=
  if past.length = 0 then (-2, s, past) else (nI (past.length - 1), lastD past s, past.dropLast)
theorem tell_sit {w s : Nat → Int32} {T a : Nat} {b p q : Int32} (hT : T ≤ 9) : tellF w (sitF s p q) T a b (nI 0) = tellF w s T a b (nI 0) := by
  have h : ∀ n, n ≤ T → bsum n (fun t => canF w (sitF s p q) t a b && !bt (nI 0) t) = bsum n (fun t => canF w s t a b && !bt (nI 0) t) := by
    intro n
    induction n with
    | zero => intro _; rfl
    | succ n ih =>
      intro hn
      have e1 : sitF s p q n = s n := by
        unfold sitF
        rw [up_ne _ _ (by omega), up_ne _ _ (by omega), up_ne _ _ (by omega), up_ne _ _ (by omega), up_ne _ _ (by omega), up_ne _ _ (by omega)]
      have e2 : sitF s p q 9 = s 9 := by
        unfold sitF
        simp (disch := decide) only [up_neD]
      rw [bsum, bsum, ih (by omega)]
      have e3 : canF w (sitF s p q) n a b = canF w s n a b := by unfold canF; rw [e1, e2]
      simp only [e3]
  exact h T (Nat.le_refl _)
theorem tbl_of {x : Int32} {hi : Nat} (h : ¬ (x.toInt < 0 ∨ (hi : Int) < x.toInt)) : ∃ j, j ≤ hi ∧ x = nI j := by
  obtain ⟨j, h1, h2, h3⟩ := inR_of (lo := 0) (hi := hi) (x := x) ⟨by omega, by omega⟩
  exact ⟨j, h2, h3⟩
def keepA (kept : List (Nat → Int32)) (s : Nat → Int32) : Int32 × List (Nat → Int32) := if kept.length = 2 then (-3, kept) else (nI (kept.length + 1), kept ++ [s])
def backA (s : Nat → Int32) (past kept : List (Nat → Int32)) : Int32 × (Nat → Int32) × List (Nat → Int32) × List (Nat → Int32) :=
  if kept.length = 0 then (-2, s, past, kept) else (nI (kept.length - 1), lastD kept s, [], kept.dropLast)
def pairsF (w : Nat → Int32) (P : Nat) : Nat := fb_sm (fun p => pcI (w (8 + p))) P
def countA (w s : Nat → Int32) (P T : Nat) (past kept : List (Nat → Int32)) (sz : Nat) (what : Int32) : Int32 :=
  if what = nI 0 then nI P else if what = nI 1 then nI T else if what = nI 2 then nI (pairsF w P / 2) else if what = nI 3 then s 16 else if what = nI 4 then s 17 else if what = nI 5 then nI (pcI (s 9)) else if what = nI 6 then nI (knownF s T) else if what = nI 7 then nI past.length else if what = nI 8 then nI kept.length else if what = nI 9 then nI sz else -1
def personA (w s : Nat → Int32) (P T : Nat) (p what : Int32) : Int32 :=
  if inN P p then
    if what = nI 0 then w (2 + p.toNatClampNeg) else if what = nI 1 then w (8 + p.toNatClampNeg) else if what = nI 2 then bsum T (fun t => bt (s t) p.toNatClampNeg) else if what = nI 3 then b2i (decide (¬ s 10 = -4 ∧ (s 10 = p ∨ s 11 = p))) else -1
  else -1
def taleA (w s : Nat → Int32) (T : Nat) (t what : Int32) : Int32 :=
  if inN T t then
    if what = nI 0 then w (14 + t.toNatClampNeg) else if what = nI 1 then w (23 + t.toNatClampNeg) else if what = nI 2 then w (32 + t.toNatClampNeg) else if what = nI 3 then b2i (bt (s 9) t.toNatClampNeg) else if what = nI 4 then s t.toNatClampNeg else -1
  else -1
def churnA (s : Nat → Int32) (what : Int32) : Int32 := if inR 0 5 what then (if s 10 = -4 then -4 else s (10 + what.toNatClampNeg)) else -1
theorem out_ne {x : Int32} {hi k : Nat} (h : x.toInt < 0 ∨ (hi : Int) < x.toInt) (hk : k ≤ hi) (h2 : hi < 1000) : ¬ x = nI k := by
  intro e
  rw [e, nI_toInt (by omega)] at h
  omega
theorem bt_and1v (x : Int32) (j : Nat) (hj : j < 32) : x >>> (nI j &&& 31) &&& nI 1 = b2i (bt x j) := by
  cases h : bt x j with
  | true => exact (bt_shr hj).mpr h
  | false =>
    refine b_ext (fun i hi => ?_)
    rw [nI1, b_and, bt_1, b_sshr j hj x hi]
    by_cases e : i = 0
    · subst e
      have h2 := h
      simp [hj, h2, b2i, b_0]
    · simp [e, b2i, b_0]
