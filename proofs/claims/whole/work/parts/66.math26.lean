/-! the class's object: what its cells are, what it holds -/
def kdT (j : Nat) : Nat × Nat :=
  if j = 0 then (5, 0) else if j = 1 then (3, 0) else if j = 2 then (7, 200) else if j = 7 ∨ j = 25 then (1, 0) else if j = 8 then (9, 8) else if j = 26 then (9, 2) else if j = 31 then (0, 0) else if j = 32 then (8, 36) else if j = 33 ∨ j = 34 then (8, 64) else if j = 35 then (8, 6) else if j = 36 ∨ j = 44 then (4, 0) else if j < 36 then (if j % 2 = 1 then (2, 0) else (8, 6)) else if j ≤ 40 ∨ (44 < j ∧ j ≤ 48) then (8, 6) else (8, 9)
def TwoT (c tw sp : Nat) : Prop := (tw = c + 36 ∧ sp = c + 44) ∨ (tw = c + 44 ∧ sp = c + 36)
def CK (κ : Kp) (c : Nat) : Prop := c ≠ 0 ∧ (∀ j, j < 52 → κ.1 (c + j) = kdT j) ∧ κ.2.1 c 0 = c + 1 ∧ κ.2.1 c 1 = c + 3 ∧ κ.2.1 c 2 = c + 5 ∧ κ.2.1 c 3 = c + 7 ∧ κ.2.1 c 4 = c + 25 ∧ κ.2.1 c 5 = c + 31 ∧ TwoT c (κ.2.1 c 6) (κ.2.1 c 7) ∧ κ.2.1 (c + 1) 0 = c + 2 ∧ κ.2.1 (c + 7) 0 = c + 8 ∧ κ.2.1 (c + 25) 0 = c + 26 ∧ (∀ k, k < 4 → κ.2.1 (c + 31) k = c + 32 + k) ∧ (∀ k, 2 ≤ k → k ≤ 8 → κ.2.1 (c + 36) k = c + 36 + (k - 1) ∧ κ.2.1 (c + 44) k = c + 44 + (k - 1)) ∧ (∀ j, j < 36 → kdT j = (2, 0) → κ.2.1 (c + j) 0 = c + j + 1) ∧ Prm 8 (fun i => c + 9 + 2 * i) (κ.2.1 (c + 8)) ∧ Prm 2 (fun i => c + 27 + 2 * i) (κ.2.1 (c + 26))
theorem kd9 : ∀ j, j < 8 → kdT (9 + 2 * j) = (2, 0) ∧ kdT (9 + 2 * j + 1) = (8, 6) := by decide +kernel
theorem kd27 : ∀ j, j < 2 → kdT (27 + 2 * j) = (2, 0) ∧ kdT (27 + 2 * j + 1) = (8, 6) := by decide +kernel
section CKS
variable {κ : Kp} {c : Nat}
theorem CK.st (h : CK κ c) {j : Nat} (hj : j < 36) (hk : kdT j = (2, 0)) (hk2 : kdT (j + 1) = (8, 6)) : StK κ (c + j) ∧ κ.2.1 (c + j) 0 = c + j + 1 := by
  obtain ⟨h0, h1, -, -, -, -, -, -, -, -, -, -, -, -, h14, -⟩ := h
  have e := h14 j hj hk
  refine ⟨⟨(h1 j (by omega)).trans hk, by omega, ?_, by omega⟩, e⟩
  rw [e]
  exact (h1 (j + 1) (by omega)).trans hk2
theorem CK.now (h : CK κ c) : StK κ (c + 3) ∧ κ.2.1 (c + 3) 0 = c + 4 := h.st (j := 3) (by decide) rfl rfl
theorem CK.ahd (h : CK κ c) : StK κ (c + 5) ∧ κ.2.1 (c + 5) 0 = c + 6 := h.st (j := 5) (by decide) rfl rfl
theorem CK.txo (h : CK κ c) : TxO κ (c + 1) := by
  obtain ⟨h0, h1, -, -, -, -, -, -, -, e, -⟩ := h
  refine ⟨h1 1 (by decide), by omega, ?_, by omega⟩
  rw [e]
  exact h1 2 (by decide)
theorem CK.ar7 (h : CK κ c) : ∀ i, i < 8 → ∃ j, j < 8 ∧ arS κ (c + 7) i = c + 9 + 2 * j := by
  obtain ⟨h0, h1, -, -, -, -, -, -, -, -, e7, -, -, -, h14, h15, -⟩ := h
  intro i hi
  unfold arS
  rw [e7]
  exact h15.1 i hi
theorem CK.ar25 (h : CK κ c) : ∀ i, i < 2 → ∃ j, j < 2 ∧ arS κ (c + 25) i = c + 27 + 2 * j := by
  obtain ⟨h0, h1, -, -, -, -, -, -, -, -, -, e25, -, -, h14, -, h16⟩ := h
  intro i hi
  unfold arS
  rw [e25]
  exact h16.1 i hi
theorem CK.sh7 (h : CK κ c) : ShK κ (c + 7) 8 := by
  have ha := h.ar7
  obtain ⟨h0, h1, -, -, -, -, -, -, -, -, e7, -, -, -, h14, h15, -⟩ := id h
  refine ⟨h1 7 (by decide), by omega, by rw [e7]; exact h1 8 (by decide), by omega, fun i hi => ?_, fun i j hi hj he => ?_⟩
  · obtain ⟨j, hj, e⟩ := ha i hi
    rw [e, Nat.add_assoc c 9]
    have hk := kd9 j hj
    exact h.st (j := 9 + 2 * j) (by omega) hk.1 hk.2
  · unfold arS at he
    rw [e7] at he
    exact h15.2 i j hi hj he
theorem CK.sh25 (h : CK κ c) : ShK κ (c + 25) 2 := by
  have ha := h.ar25
  obtain ⟨h0, h1, -, -, -, -, -, -, -, -, -, e25, -, -, h14, -, h16⟩ := id h
  refine ⟨h1 25 (by decide), by omega, by rw [e25]; exact h1 26 (by decide), by omega, fun i hi => ?_, fun i j hi hj he => ?_⟩
  · obtain ⟨j, hj, e⟩ := ha i hi
    rw [e, Nat.add_assoc c 27]
    have hk := kd27 j hj
    exact h.st (j := 27 + 2 * j) (by omega) hk.1 hk.2
  · unfold arS at he
    rw [e25] at he
    exact h16.2 i j hi hj he
theorem CK.bes7 (h : CK κ c) : Bes κ (c + 7) 8 (c + 3) := ⟨h.now.1, h.now.2, fun i hi e => by
  obtain ⟨j, hj, e2⟩ := h.ar7 i hi
  omega⟩
theorem CK.bes25 (h : CK κ c) : Bes κ (c + 25) 2 (c + 3) := ⟨h.now.1, h.now.2, fun i hi e => by
  obtain ⟨j, hj, e2⟩ := h.ar25 i hi
  omega⟩
theorem CK.pa (h : CK κ c) : PaK κ (c + 31) := by
  obtain ⟨h0, h1, -, -, -, -, -, -, -, -, -, -, h12, -⟩ := h
  have a0 := h12 0 (by decide)
  have a1 := h12 1 (by decide)
  have a2 := h12 2 (by decide)
  have a3 := h12 3 (by decide)
  refine ⟨h1 31 (by decide), by omega, ⟨?_, by omega⟩, ⟨?_, by omega⟩, ⟨?_, by omega⟩, ⟨?_, by omega⟩, by omega⟩
  · rw [a0]; exact h1 32 (by decide)
  · rw [a1]; exact h1 33 (by decide)
  · rw [a2]; exact h1 34 (by decide)
  · rw [a3]; exact h1 35 (by decide)
theorem CK.two (h : CK κ c) : TwoT c (κ.2.1 c 6) (κ.2.1 c 7) := h.2.2.2.2.2.2.2.2.1
theorem CK.twl (h : CK κ c) {x : Nat} (hx : x = c + 36 ∨ x = c + 44) : TwL κ x := by
  obtain ⟨h0, h1, -, -, -, -, -, -, -, -, -, -, -, h13, -⟩ := h
  have hb : ∀ b, (b = 36 ∨ b = 44) → ∀ k, 2 ≤ k → k ≤ 8 → κ.2.1 (c + b) k = c + b + (k - 1) := fun b hb k k1 k2 => by
    rcases hb with rfl | rfl
    · exact (h13 k k1 k2).1
    · exact (h13 k k1 k2).2
  have hkd : ∀ b, (b = 36 ∨ b = 44) → ∀ k, 2 ≤ k → k ≤ 8 → κ.1 (κ.2.1 (c + b) k) = (8, if k < 6 then 6 else 9) := fun b hbb k k1 k2 => by
    rw [hb b hbb k k1 k2, show c + b + (k - 1) = c + (b + (k - 1)) by omega, h1 (b + (k - 1)) (by omega)]
    rcases hbb with rfl | rfl <;> rcases (show k = 2 ∨ k = 3 ∨ k = 4 ∨ k = 5 ∨ k = 6 ∨ k = 7 ∨ k = 8 by omega) with rfl | rfl | rfl | rfl | rfl | rfl | rfl <;> rfl
  have key : ∀ b, (b = 36 ∨ b = 44) → TwL κ (c + b) := fun b hbb => by
    have hk := hkd b hbb
    have hn := hb b hbb
    refine ⟨⟨?_, by omega, ⟨hk 2 (by decide) (by decide), ?_⟩, ⟨hk 3 (by decide) (by decide), ?_⟩, ⟨hk 4 (by decide) (by decide), ?_⟩, ⟨hk 5 (by decide) (by decide), ?_⟩, ⟨hk 6 (by decide) (by decide), ?_⟩, ⟨hk 7 (by decide) (by decide), ?_⟩, ⟨hk 8 (by decide) (by decide), ?_⟩⟩, hn⟩
    · rw [h1 b (by omega)]; rcases hbb with rfl | rfl <;> rfl
    · have := hn 2 (by decide) (by decide); omega
    · have := hn 3 (by decide) (by decide); omega
    · have := hn 4 (by decide) (by decide); omega
    · have := hn 5 (by decide) (by decide); omega
    · have := hn 6 (by decide) (by decide); omega
    · have := hn 7 (by decide) (by decide); omega
    · have := hn 8 (by decide) (by decide); omega
  rcases hx with rfl | rfl
  · exact key 36 (Or.inl rfl)
  · exact key 44 (Or.inr rfl)
theorem CK.tw6 (h : CK κ c) : TwL κ (κ.2.1 c 6) := h.twl (by rcases h.two with ⟨e, -⟩ | ⟨e, -⟩ <;> omega)
theorem CK.tw7 (h : CK κ c) : TwL κ (κ.2.1 c 7) := h.twl (by rcases h.two with ⟨-, e⟩ | ⟨-, e⟩ <;> omega)
end CKS
def CR (κ : Kp) (c : Nat) (I : Ip) (P T : Nat) (w s : Nat → Int32) (past kept : List (Nat → Int32)) (tx : Nat → Int32) (sz : Nat) : Prop :=
  CK κ c ∧ TwR κ I (κ.2.1 c 6) w P T ∧ WfT w P T ∧ 0 < P ∧ SR (I (c + 4)) (I (c + 3)) s T ∧ WfS s P T ∧ ShR κ I (c + 7) P T past ∧ past.length ≤ 8 ∧ ShR κ I (c + 25) P T kept ∧ kept.length ≤ 2 ∧ TxC κ (c + 1) I tx sz
def COut (c : Nat) (I J : Ip) : Prop := ∀ a, (a < c ∨ c + 52 ≤ a) → J a = I a
def KF (c : Nat) (κ κ' : Kp) : Prop := κ'.1 = κ.1 ∧ κ'.2.2 = κ.2.2 ∧ ∀ a, (a < c ∨ c + 52 ≤ a) → κ'.2.1 a = κ.2.1 a
/-- but for what questions are tried on, all is as it was -/
def CFr (c sp : Nat) (I J : Ip) : Prop := (∀ a, a ≠ c + 5 → a ≠ c + 6 → ¬ (c + 32 ≤ a ∧ a ≤ c + 35) → ¬ (sp ≤ a ∧ a ≤ sp + 7) → a ≠ c + 1 → J a = I a) ∧ ∀ k, k ≠ 2 → J (c + 1) k = I (c + 1) k
theorem COut.rf {c : Nat} {I : Ip} : COut c I I := fun _ _ => rfl
theorem COut.tr {c : Nat} {I J K : Ip} (h1 : COut c I J) (h2 : COut c J K) : COut c I K := fun a ha => (h2 a ha).trans (h1 a ha)
theorem KF.rf {c : Nat} {κ : Kp} : KF c κ κ := ⟨rfl, rfl, fun _ _ => rfl⟩
theorem CFr.rf {c sp : Nat} {I : Ip} : CFr c sp I I := ⟨fun _ _ _ _ _ _ => rfl, fun _ _ => rfl⟩
theorem CFr.tr {c sp : Nat} {I J K : Ip} (h1 : CFr c sp I J) (h2 : CFr c sp J K) : CFr c sp I K :=
  ⟨fun a g1 g2 g3 g4 g5 => (h2.1 a g1 g2 g3 g4 g5).trans (h1.1 a g1 g2 g3 g4 g5), fun k hk => (h2.2 k hk).trans (h1.2 k hk)⟩
section CRS
variable {κ : Kp} {c : Nat} {I J : Ip} {P T : Nat} {w s : Nat → Int32} {past kept : List (Nat → Int32)} {tx : Nat → Int32} {sz : Nat}
theorem CK.twfr (hC : CK κ c) {x : Nat} (hx : TwL κ x) (h : TwR κ I x w P T) (hj : ∀ a, x ≤ a → a ≤ x + 7 → J a = I a) : TwR κ J x w P T := by
  refine h.fr (hj x (by omega) (by omega)) (fun k k1 k2 => ?_)
  rw [hx.2 k k1 k2]
  exact hj _ (by omega) (by omega)
theorem CK.pfr (hC : CK κ c) {l : List (Nat → Int32)} (h : ShR κ I (c + 7) P T l) (hl : l.length ≤ 8) (h1 : J (c + 7) 1 = I (c + 7) 1) (hj : ∀ a, c + 9 ≤ a → a ≤ c + 24 → J a = I a) : ShR κ J (c + 7) P T l := by
  refine h.fr hl h1 (fun i hi => ?_)
  obtain ⟨j, hj8, e⟩ := hC.ar7 i hi
  rw [e]
  exact ⟨hj _ (by omega) (by omega), hj _ (by omega) (by omega)⟩
theorem CK.kfr (hC : CK κ c) {l : List (Nat → Int32)} (h : ShR κ I (c + 25) P T l) (hl : l.length ≤ 2) (h1 : J (c + 25) 1 = I (c + 25) 1) (hj : ∀ a, c + 27 ≤ a → a ≤ c + 30 → J a = I a) : ShR κ J (c + 25) P T l := by
  refine h.fr hl h1 (fun i hi => ?_)
  obtain ⟨j, hj8, e⟩ := hC.ar25 i hi
  rw [e]
  exact ⟨hj _ (by omega) (by omega), hj _ (by omega) (by omega)⟩
theorem CK.tfr (hC : CK κ c) (h : TxC κ (c + 1) I tx sz) (h1 : J (c + 1) 1 = I (c + 1) 1) (h2 : J (c + 2) = I (c + 2)) : TxC κ (c + 1) J tx sz := by
  obtain ⟨g1, g2, g3, g4⟩ := h
  have e : κ.2.1 (c + 1) 0 = c + 2 := hC.2.2.2.2.2.2.2.2.2.1
  refine ⟨h1.trans g1, g2, fun k hk => ?_, g4⟩
  rw [e, h2, ← e]
  exact g3 k hk
theorem CR.fr (h : CR κ c I P T w s past kept tx sz) (hf : CFr c (κ.2.1 c 7) I J) : CR κ c J P T w s past kept tx sz ∧ COut c I J := by
  obtain ⟨hC, h1, h2, h3, h4, h5, h6, h7, h8, h9, h10⟩ := h
  have ht := hC.two
  have h6x := hC.tw6
  obtain ⟨f1, f2⟩ := hf
  have hsp : κ.2.1 c 7 = c + 36 ∨ κ.2.1 c 7 = c + 44 := by rcases ht with ⟨-, e⟩ | ⟨-, e⟩ <;> omega
  have hs : ∀ a, a ≠ c + 5 → a ≠ c + 6 → ¬ (c + 32 ≤ a ∧ a ≤ c + 35) → a < c + 36 → a ≠ c + 1 → J a = I a := fun a a1 a2 a3 a4 a5 => f1 a a1 a2 a3 (by omega) a5
  refine ⟨⟨hC, ?_, h2, h3, ?_, h5, ?_, h7, ?_, h9, ?_⟩, fun a ha => f1 a (by omega) (by omega) (by omega) (by omega) (by omega)⟩
  · exact hC.twfr h6x h1 (fun a a1 a2 => f1 a (by rcases ht with ⟨e, -⟩ | ⟨e, -⟩ <;> omega) (by rcases ht with ⟨e, -⟩ | ⟨e, -⟩ <;> omega) (by rcases ht with ⟨e, -⟩ | ⟨e, -⟩ <;> omega) (by rcases ht with ⟨e, e2⟩ | ⟨e, e2⟩ <;> omega) (by rcases ht with ⟨e, -⟩ | ⟨e, -⟩ <;> omega))
  · rw [hs (c + 4) (by omega) (by omega) (by omega) (by omega) (by omega), hs (c + 3) (by omega) (by omega) (by omega) (by omega) (by omega)]; exact h4
  · exact hC.pfr h6 h7 (by rw [hs (c + 7) (by omega) (by omega) (by omega) (by omega) (by omega)]) (fun a a1 a2 => hs a (by omega) (by omega) (by omega) (by omega) (by omega))
  · exact hC.kfr h8 h9 (by rw [hs (c + 25) (by omega) (by omega) (by omega) (by omega) (by omega)]) (fun a a1 a2 => hs a (by omega) (by omega) (by omega) (by omega) (by omega))
  · exact hC.tfr h10 (f2 1 (by decide)) (hs (c + 2) (by omega) (by omega) (by omega) (by omega) (by omega))
theorem CR.nowS {K f s2 : Nat → Int32} (h : CR κ c I P T w s past kept tx sz) (hs : WfS s2 P T) (hSR : SR K f s2 T) : CR κ c (sst κ (c + 3) I K f) P T w s2 past kept tx sz ∧ COut c I (sst κ (c + 3) I K f) := by
  obtain ⟨hC, h1, h2, h3, h4, h5, h6, h7, h8, h9, h10⟩ := h
  have ht := hC.two
  obtain ⟨n1, n2⟩ := hC.now
  have hne : ∀ a, a ≠ c + 3 → a ≠ c + 4 → sst κ (c + 3) I K f a = I a := fun a a1 a2 => sst_ne a1 (by rw [n2]; exact a2)
  have hk : sst κ (c + 3) I K f (c + 4) = K := by rw [← n2]; exact sst_kn n1
  refine ⟨⟨hC, ?_, h2, h3, ?_, hs, ?_, h7, ?_, h9, ?_⟩, fun a ha => hne a (by omega) (by omega)⟩
  · exact hC.twfr hC.tw6 h1 (fun a a1 a2 => hne a (by rcases ht with ⟨e, -⟩ | ⟨e, -⟩ <;> omega) (by rcases ht with ⟨e, -⟩ | ⟨e, -⟩ <;> omega))
  · rw [hk, sst_st]; exact hSR
  · exact hC.pfr h6 h7 (by rw [hne (c + 7) (by omega) (by omega)]) (fun a a1 a2 => hne a (by omega) (by omega))
  · exact hC.kfr h8 h9 (by rw [hne (c + 25) (by omega) (by omega)]) (fun a a1 a2 => hne a (by omega) (by omega))
  · exact hC.tfr h10 (by rw [hne (c + 1) (by omega) (by omega)]) (hne (c + 2) (by omega) (by omega))
theorem prm_tr {n : Nat} {f g h : Nat → Nat} (h1 : Prm n f g) (h2 : Prm n g h) : Prm n f h := ⟨fun i hi => by
  obtain ⟨j, hj, e⟩ := h2.1 i hi
  obtain ⟨k, hk, e2⟩ := h1.1 j hj
  exact ⟨k, hk, e.trans e2⟩, h2.2⟩
theorem CK.kR8 {g : Nat → Nat} (h : CK κ c) (hp : Prm 8 (κ.2.1 (c + 8)) g) : CK (kR κ (c + 8) g) c := by
  obtain ⟨h0, h1, a0, a1, a2, a3, a4, a5, a6, b1, b7, b25, b31, btw, bst, p8, p26⟩ := h
  have e : ∀ a, a ≠ c + 8 → (kR κ (c + 8) g).2.1 a = κ.2.1 a := fun a ha => kR_ne ha
  refine ⟨h0, h1, ?_, ?_, ?_, ?_, ?_, ?_, ?_, ?_, ?_, ?_, fun k hk => ?_, fun k k1 k2 => ?_, fun j hj hk => ?_, ?_, ?_⟩
  · rw [e c (by omega)]; exact a0
  · rw [e c (by omega)]; exact a1
  · rw [e c (by omega)]; exact a2
  · rw [e c (by omega)]; exact a3
  · rw [e c (by omega)]; exact a4
  · rw [e c (by omega)]; exact a5
  · rw [e c (by omega)]; exact a6
  · rw [e (c + 1) (by omega)]; exact b1
  · rw [e (c + 7) (by omega)]; exact b7
  · rw [e (c + 25) (by omega)]; exact b25
  · rw [e (c + 31) (by omega)]; exact b31 k hk
  · rw [e (c + 36) (by omega), e (c + 44) (by omega)]; exact btw k k1 k2
  · have hj8 : j ≠ 8 := fun e => by subst e; exact absurd hk (by decide)
    rw [e (c + j) (by omega)]; exact bst j hj hk
  · rw [kR_A]; exact prm_tr p8 hp
  · rw [e (c + 26) (by omega)]; exact p26
theorem CK.kR26 {g : Nat → Nat} (h : CK κ c) (hp : Prm 2 (κ.2.1 (c + 26)) g) : CK (kR κ (c + 26) g) c := by
  obtain ⟨h0, h1, a0, a1, a2, a3, a4, a5, a6, b1, b7, b25, b31, btw, bst, p8, p26⟩ := h
  have e : ∀ a, a ≠ c + 26 → (kR κ (c + 26) g).2.1 a = κ.2.1 a := fun a ha => kR_ne ha
  refine ⟨h0, h1, ?_, ?_, ?_, ?_, ?_, ?_, ?_, ?_, ?_, ?_, fun k hk => ?_, fun k k1 k2 => ?_, fun j hj hk => ?_, ?_, ?_⟩
  · rw [e c (by omega)]; exact a0
  · rw [e c (by omega)]; exact a1
  · rw [e c (by omega)]; exact a2
  · rw [e c (by omega)]; exact a3
  · rw [e c (by omega)]; exact a4
  · rw [e c (by omega)]; exact a5
  · rw [e c (by omega)]; exact a6
  · rw [e (c + 1) (by omega)]; exact b1
  · rw [e (c + 7) (by omega)]; exact b7
  · rw [e (c + 25) (by omega)]; exact b25
  · rw [e (c + 31) (by omega)]; exact b31 k hk
  · rw [e (c + 36) (by omega), e (c + 44) (by omega)]; exact btw k k1 k2
  · have hj8 : j ≠ 26 := fun e => by subst e; exact absurd hk (by decide)
    rw [e (c + j) (by omega)]; exact bst j hj hk
  · rw [e (c + 8) (by omega)]; exact p8
  · rw [kR_A]; exact prm_tr p26 hp
theorem TwR.kR {A : Nat} {g : Nat → Nat} {x : Nat} (hx : x ≠ A) (h : TwR κ I x w P T) : TwR (kR κ A g) I x w P T := by
  unfold TwR at h ⊢
  rw [kR_ne hx]
  exact h
theorem TxC.kR {A : Nat} {g : Nat → Nat} {x : Nat} (hx : x ≠ A) (h : TxC κ x I tx sz) : TxC (kR κ A g) x I tx sz := by
  unfold TxC at h ⊢
  rw [kR_ne hx]
  exact h
theorem ShR.kR {A : Nat} {g : Nat → Nat} {x : Nat} {l : List (Nat → Int32)} (hx : x ≠ A) (hx2 : κ.2.1 x 0 ≠ A) (h : ShR κ I x P T l) : ShR (kR κ A g) I x P T l := by
  unfold ShR arS at h ⊢
  rw [kR_ne hx, kR_ne hx2]
  exact h
theorem CR.push {g : Nat → Nat} {l : List (Nat → Int32)} (h : CR κ c I P T w s past kept tx sz) (hp : Prm 8 (arS κ (c + 7)) g) (hS : ShR (kR κ (κ.2.1 (c + 7) 0) g) J (c + 7) P T l) (hl : l.length ≤ 8) (hF : ShF κ (c + 7) 8 I J) : CR (kR κ (κ.2.1 (c + 7) 0) g) c J P T w s l kept tx sz ∧ COut c I J ∧ KF c κ (kR κ (κ.2.1 (c + 7) 0) g) := by
  obtain ⟨hC, h1, h2, h3, h4, h5, h6, h7, h8, h9, h10⟩ := h
  have ht := hC.two
  have har := hC.ar7
  obtain ⟨h0, -, a0, a1, a2, a3, a4, a5, a6, b1, b7, b25, -⟩ := id hC
  have hJ : ∀ a, a ≠ c + 7 → (a < c + 9 ∨ c + 24 < a) → J a = I a := fun a e1 e2 => hF a e1 (fun i hi => by
    obtain ⟨j, hj, e⟩ := har i hi
    omega)
  have hp2 : Prm 8 (κ.2.1 (c + 8)) g := by
    unfold arS at hp
    rw [b7] at hp
    exact hp
  rw [b7] at hS ⊢
  have e6 : (kR κ (c + 8) g).2.1 c = κ.2.1 c := kR_ne (by omega)
  refine ⟨⟨hC.kR8 hp2, ?_, h2, h3, ?_, h5, hS, hl, ?_, h9, ?_⟩, fun a ha => hJ a (by omega) (by omega), rfl, rfl, fun a ha => kR_ne (by omega)⟩
  · rw [e6]
    exact (hC.twfr hC.tw6 h1 (fun a a1 a2 => hJ a (by rcases ht with ⟨e, -⟩ | ⟨e, -⟩ <;> omega) (by rcases ht with ⟨e, -⟩ | ⟨e, -⟩ <;> omega))).kR (by rcases ht with ⟨e, -⟩ | ⟨e, -⟩ <;> omega)
  · rw [hJ (c + 4) (by omega) (by omega), hJ (c + 3) (by omega) (by omega)]; exact h4
  · exact (hC.kfr h8 h9 (by rw [hJ (c + 25) (by omega) (by omega)]) (fun a a1 a2 => hJ a (by omega) (by omega))).kR (by omega) (by omega)
  · exact (hC.tfr h10 (by rw [hJ (c + 1) (by omega) (by omega)]) (hJ (c + 2) (by omega) (by omega))).kR (by omega)
theorem CR.pushK {g : Nat → Nat} {l : List (Nat → Int32)} (h : CR κ c I P T w s past kept tx sz) (hp : Prm 2 (arS κ (c + 25)) g) (hS : ShR (kR κ (κ.2.1 (c + 25) 0) g) J (c + 25) P T l) (hl : l.length ≤ 2) (hF : ShF κ (c + 25) 2 I J) : CR (kR κ (κ.2.1 (c + 25) 0) g) c J P T w s past l tx sz ∧ COut c I J ∧ KF c κ (kR κ (κ.2.1 (c + 25) 0) g) := by
  obtain ⟨hC, h1, h2, h3, h4, h5, h6, h7, h8, h9, h10⟩ := h
  have ht := hC.two
  have har := hC.ar25
  obtain ⟨h0, -, a0, a1, a2, a3, a4, a5, a6, b1, b7, b25, -⟩ := id hC
  have hJ : ∀ a, a ≠ c + 25 → (a < c + 27 ∨ c + 30 < a) → J a = I a := fun a e1 e2 => hF a e1 (fun i hi => by
    obtain ⟨j, hj, e⟩ := har i hi
    omega)
  have hp2 : Prm 2 (κ.2.1 (c + 26)) g := by
    unfold arS at hp
    rw [b25] at hp
    exact hp
  rw [b25] at hS ⊢
  have e6 : (kR κ (c + 26) g).2.1 c = κ.2.1 c := kR_ne (by omega)
  refine ⟨⟨hC.kR26 hp2, ?_, h2, h3, ?_, h5, ?_, h7, hS, hl, ?_⟩, fun a ha => hJ a (by omega) (by omega), rfl, rfl, fun a ha => kR_ne (by omega)⟩
  · rw [e6]
    exact (hC.twfr hC.tw6 h1 (fun a a1 a2 => hJ a (by rcases ht with ⟨e, -⟩ | ⟨e, -⟩ <;> omega) (by rcases ht with ⟨e, -⟩ | ⟨e, -⟩ <;> omega))).kR (by rcases ht with ⟨e, -⟩ | ⟨e, -⟩ <;> omega)
  · rw [hJ (c + 4) (by omega) (by omega), hJ (c + 3) (by omega) (by omega)]; exact h4
  · exact (hC.pfr h6 h7 (by rw [hJ (c + 7) (by omega) (by omega)]) (fun a a1 a2 => hJ a (by omega) (by omega))).kR (by omega) (by omega)
  · exact (hC.tfr h10 (by rw [hJ (c + 1) (by omega) (by omega)]) (hJ (c + 2) (by omega) (by omega))).kR (by omega)
theorem CR.pop7 {s2 : Nat → Int32} {l : List (Nat → Int32)} (h : CR κ c I P T w s past kept tx sz) (hS : ShR κ J (c + 7) P T l) (hl : l.length ≤ 8) (hs : WfS s2 P T) (hSR : SR (J (c + 4)) (J (c + 3)) s2 T) (hF : ∀ a, a ≠ c + 7 → a ≠ c + 3 → a ≠ c + 4 → J a = I a) : CR κ c J P T w s2 l kept tx sz ∧ COut c I J := by
  obtain ⟨hC, h1, h2, h3, h4, h5, h6, h7, h8, h9, h10⟩ := h
  have ht := hC.two
  refine ⟨⟨hC, ?_, h2, h3, hSR, hs, hS, hl, ?_, h9, ?_⟩, fun a ha => hF a (by omega) (by omega) (by omega)⟩
  · exact hC.twfr hC.tw6 h1 (fun a a1 a2 => hF a (by rcases ht with ⟨e, -⟩ | ⟨e, -⟩ <;> omega) (by rcases ht with ⟨e, -⟩ | ⟨e, -⟩ <;> omega) (by rcases ht with ⟨e, -⟩ | ⟨e, -⟩ <;> omega))
  · exact hC.kfr h8 h9 (by rw [hF (c + 25) (by omega) (by omega) (by omega)]) (fun a a1 a2 => hF a (by omega) (by omega) (by omega))
  · exact hC.tfr h10 (by rw [hF (c + 1) (by omega) (by omega) (by omega)]) (hF (c + 2) (by omega) (by omega) (by omega))
theorem CR.pop25 {s2 : Nat → Int32} {l : List (Nat → Int32)} (h : CR κ c I P T w s past kept tx sz) (hS : ShR κ J (c + 25) P T l) (hl : l.length ≤ 2) (hs : WfS s2 P T) (hSR : SR (J (c + 4)) (J (c + 3)) s2 T) (hF : ∀ a, a ≠ c + 25 → a ≠ c + 3 → a ≠ c + 4 → J a = I a) : CR κ c J P T w s2 past l tx sz ∧ COut c I J := by
  obtain ⟨hC, h1, h2, h3, h4, h5, h6, h7, h8, h9, h10⟩ := h
  have ht := hC.two
  refine ⟨⟨hC, ?_, h2, h3, hSR, hs, ?_, h7, hS, hl, ?_⟩, fun a ha => hF a (by omega) (by omega) (by omega)⟩
  · exact hC.twfr hC.tw6 h1 (fun a a1 a2 => hF a (by rcases ht with ⟨e, -⟩ | ⟨e, -⟩ <;> omega) (by rcases ht with ⟨e, -⟩ | ⟨e, -⟩ <;> omega) (by rcases ht with ⟨e, -⟩ | ⟨e, -⟩ <;> omega))
  · exact hC.pfr h6 h7 (by rw [hF (c + 7) (by omega) (by omega) (by omega)]) (fun a a1 a2 => hF a (by omega) (by omega) (by omega))
  · exact hC.tfr h10 (by rw [hF (c + 1) (by omega) (by omega) (by omega)]) (hF (c + 2) (by omega) (by omega) (by omega))
theorem CR.clr7 (h : CR κ c I P T w s past kept tx sz) : CR κ c (va_up I (c + 7) (va_up (I (c + 7)) 1 (nI 0))) P T w s [] kept tx sz ∧ COut c I (va_up I (c + 7) (va_up (I (c + 7)) 1 (nI 0))) := by
  have hne : ∀ a, a ≠ c + 7 → va_up I (c + 7) (va_up (I (c + 7)) 1 (nI 0)) a = I a := fun a ha => up_ne _ _ ha
  refine h.pop7 ⟨by rw [up_same, up_same]; rfl, fun i g hg => by simp at hg⟩ (Nat.zero_le _) h.2.2.2.2.2.1 ?_ (fun a a1 _ _ => hne a a1)
  rw [hne (c + 4) (by omega), hne (c + 3) (by omega)]
  exact h.2.2.2.2.1
theorem CR.txtS {t2 : Nat → Int32} {z2 : Nat} {f v : Nat → Int32} (h : CR κ c I P T w s past kept tx sz) (hv : v 1 = nI z2) (hz : z2 ≤ 200) (hf : ∀ k, k < z2 → f k = t2 k) (ht2 : ∀ k, k < z2 → ∃ c, 32 ≤ c ∧ c ≤ 126 ∧ t2 k = nI c) : CR κ c (va_up (va_up I (c + 2) f) (c + 1) v) P T w s past kept t2 z2 ∧ COut c I (va_up (va_up I (c + 2) f) (c + 1) v) := by
  obtain ⟨hC, h1, h2, h3, h4, h5, h6, h7, h8, h9, h10⟩ := h
  have ht := hC.two
  have e1 : κ.2.1 (c + 1) 0 = c + 2 := hC.2.2.2.2.2.2.2.2.2.1
  have hF : ∀ a, a ≠ c + 1 → a ≠ c + 2 → va_up (va_up I (c + 2) f) (c + 1) v a = I a := fun a a1 a2 => by rw [up_ne _ _ a1, up_ne _ _ a2]
  refine ⟨⟨hC, ?_, h2, h3, ?_, h5, ?_, h7, ?_, h9, ?_, hz, fun k hk => ?_, ht2⟩, fun a ha => hF a (by omega) (by omega)⟩
  · exact hC.twfr hC.tw6 h1 (fun a a1 a2 => hF a (by rcases ht with ⟨e, -⟩ | ⟨e, -⟩ <;> omega) (by rcases ht with ⟨e, -⟩ | ⟨e, -⟩ <;> omega))
  · rw [hF (c + 4) (by omega) (by omega), hF (c + 3) (by omega) (by omega)]; exact h4
  · exact hC.pfr h6 h7 (by rw [hF (c + 7) (by omega) (by omega)]) (fun a a1 a2 => hF a (by omega) (by omega))
  · exact hC.kfr h8 h9 (by rw [hF (c + 25) (by omega) (by omega)]) (fun a a1 a2 => hF a (by omega) (by omega))
  · rw [up_same]; exact hv
  · rw [e1, up_ne _ _ (by omega), up_same]; exact hf k hk
end CRS
