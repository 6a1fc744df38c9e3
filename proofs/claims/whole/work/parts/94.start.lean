/-! the law's start: both objects are made -/
section CKF
variable {κ κ' : Kp} {c : Nat} {I : Ip} {P T : Nat} {w s : Nat → Int32} {past kept : List (Nat → Int32)} {tx : Nat → Int32} {sz : Nat}
theorem CK.ck (h : CK κ c) (hk : ∀ a, c ≤ a → a < c + 52 → κ'.1 a = κ.1 a ∧ κ'.2.1 a = κ.2.1 a) : CK κ' c := by
  have hr : ∀ j, j < 52 → κ'.2.1 (c + j) = κ.2.1 (c + j) := fun j hj => (hk _ (by omega) (by omega)).2
  have hr0 : κ'.2.1 c = κ.2.1 c := hr 0 (by decide)
  obtain ⟨c0, c1, c2, c3, c4, c5, c6, c7, c8, c9, c10, c11, c12, c13, c14, c15, c16⟩ := h
  unfold CK
  rw [hr0, hr 1 (by decide), hr 7 (by decide), hr 25 (by decide), hr 31 (by decide), hr 36 (by decide), hr 44 (by decide), hr 8 (by decide), hr 26 (by decide)]
  exact ⟨c0, fun j hj => by rw [(hk _ (by omega) (by omega)).1]; exact c1 j hj, c2, c3, c4, c5, c6, c7, c8, c9, c10, c11, c12, c13, fun j hj e => by rw [hr j (by omega)]; exact c14 j hj e, c15, c16⟩
theorem CR.ck (h : CR κ c I P T w s past kept tx sz) (hk : ∀ a, c ≤ a → a < c + 52 → κ'.1 a = κ.1 a ∧ κ'.2.1 a = κ.2.1 a) : CR κ' c I P T w s past kept tx sz := by
  obtain ⟨hC, h1, h2, h3, h4, h5, h6, h7, h8, h9, h10⟩ := h
  have hr : ∀ a, c ≤ a → a < c + 52 → κ'.2.1 a = κ.2.1 a := fun a a1 a2 => (hk a a1 a2).2
  have ht := hC.two
  have e0 : κ'.2.1 c = κ.2.1 c := hr c (by omega) (by omega)
  have e8 : κ.2.1 (c + 7) 0 = c + 8 := hC.2.2.2.2.2.2.2.2.2.2.1
  have e26 : κ.2.1 (c + 25) 0 = c + 26 := hC.2.2.2.2.2.2.2.2.2.2.2.1
  have a7 : arS κ' (c + 7) = arS κ (c + 7) := by
    funext i
    unfold arS
    rw [hr (c + 7) (by omega) (by omega), e8, hr (c + 8) (by omega) (by omega)]
  have a25 : arS κ' (c + 25) = arS κ (c + 25) := by
    funext i
    unfold arS
    rw [hr (c + 25) (by omega) (by omega), e26, hr (c + 26) (by omega) (by omega)]
  refine ⟨hC.ck hk, ?_, h2, h3, h4, h5, ?_, h7, ?_, h9, ?_⟩
  · have et : κ'.2.1 (κ.2.1 c 6) = κ.2.1 (κ.2.1 c 6) := hr _ (by rcases ht with ⟨e, -⟩ | ⟨e, -⟩ <;> omega) (by rcases ht with ⟨e, -⟩ | ⟨e, -⟩ <;> omega)
    rw [e0]
    unfold TwR at h1 ⊢
    rw [et]
    exact h1
  · unfold ShR at h6 ⊢
    rw [a7]
    exact h6
  · unfold ShR at h8 ⊢
    rw [a25]
    exact h8
  · unfold TxC at h10 ⊢
    rw [hr (c + 1) (by omega) (by omega)]
    exact h10
end CKF
/-- nothing of ours yet -/
def kap0 (n : Nat) : Kp := (fun _ => (10, 0), fun _ _ => 0, n)
theorem inv_start {κ' κ3 : Kp} {J J3 : Ip} {n : Nat} (hCR : CR κ' n J R0.2.1 R0.2.2.1 R0.1 (laidS R0.1) [] [] TXB 0) (hn : κ'.2.2 = n + 52) (g1 : MoK κ3 κ'.2.2) (g2 : J3 (κ3.2.1 κ'.2.2 0) = R0.1) (g3 : J3 (κ3.2.1 κ'.2.2 2) = laidS R0.1) (g4 : J3 κ'.2.2 5 = nI 0) (g5 : J3 κ'.2.2 7 = nI 0) (g6 : J3 κ'.2.2 9 = iNew κ' J κ'.2.2 9) (g7 : ∀ i, i < 10 → κ3.2.1 κ'.2.2 (of6 i) = (kNew κ' (6, 0)).2.2 + i)
    (g8 : ∀ a, a < (kNew κ' (6, 0)).2.2 → κ3.1 a = (kNew κ' (6, 0)).1 a ∧ (a ≠ κ'.2.2 → κ3.2.1 a = (kNew κ' (6, 0)).2.1 a ∧ J3 a = iNew κ' J a)) : Inv κ3 J3 n κ'.2.2 := by
  have en : (kNew κ' (6, 0)).2.2 = κ'.2.2 + 1 := rfl
  have hm : ∀ a, n ≤ a → a < n + 52 → a ≠ κ'.2.2 ∧ a < κ'.2.2 + 1 := fun a _ a2 => ⟨by omega, by omega⟩
  have q1 : ∀ a, n ≤ a → a < n + 52 → κ3.1 a = κ'.1 a ∧ κ3.2.1 a = κ'.2.1 a := fun a a1 a2 => by
    obtain ⟨m1, m2⟩ := hm a a1 a2
    obtain ⟨b1, b2⟩ := g8 a (by rw [en]; exact m2)
    rw [b1, (b2 m1).1, kNew_k m1, kNew_r m1]
    exact ⟨rfl, rfl⟩
  have q2 : ∀ a, n ≤ a → a < n + 52 → J3 a = J a := fun a a1 a2 => by
    obtain ⟨m1, m2⟩ := hm a a1 a2
    rw [((g8 a (by rw [en]; exact m2)).2 m1).2, iNew_a m1]
  have hC3 := (hCR.ck q1).cg q2
  obtain ⟨-, -, hw, hP, -, hs, -⟩ := id hCR
  refine ⟨⟨hn, fun i hi => by rw [g7 i hi, en]⟩, _, _, _, _, _, _, _, _, hC3, g1, g2, g3, hw, hP, hs, Nat.zero_le _, g4, fun i g h => by simp at h, Nat.zero_le _, g5, fun i g h => by simp at h, Nat.zero_le _, ?_, fun k hk => absurd hk (Nat.not_lt_zero _), fun k hk => absurd hk (Nat.not_lt_zero _)⟩
  rw [g6, iNew_n, nI0]
set_option maxHeartbeats 4000000 in
set_option maxRecDepth 100000 in
/-- the law's body, from its first instruction -/
theorem law_body {Γ : Ga} {X : Cx} {nm : String} {b L n q v : Nat} {xs : Nat → Int32} (hX : Std Γ (mL nm) X) (hR : RmOK (mL nm) X 9) (hSc : ScX Γ b L xs X) (hStr : StrX Γ q v X) (hL : L ≤ 448) (hn : n ≠ 0) (hout : ∀ (lv : List (Nat × Value)) (κ : Kp) (I : Ip), GW Γ (mL nm) X 916 lv [.int 1] κ I 76 1400) : GW Γ (mL nm) X 0 [(0, .ref b)] [] (kap0 n) (fun _ _ => 0) 0 0 := by
  refine g_new (ci := 5) hX hR dL_law_0 rfl nlL_7 inX5 iiX5 ⟨Nat.le_of_ble_eq_true rfl, Nat.le_of_ble_eq_true rfl⟩ ?_
  refine g_dup hX dL_law_3 rfl ?_
  refine g_callIS (md' := mX5_init) (As := []) hX hStr hR dL_law_4 clL_9 okX5_init rfl rfl (Nat.le_of_ble_eq_true rfl) (Nat.le_of_ble_eq_true rfl) ⟨Nat.le_of_ble_eq_true rfl, Nat.le_of_ble_eq_true rfl⟩ ?_
  refine sp_X5_init (d := 3) (c := n) hn kNew_n rfl (fun κ' J y1 y2 y3 => ?_)
  change GW _ _ _ 7 _ [.ref _] _ _ 64 813
  refine g_astore_n (lv' := [(1, .ref n), (0, .ref b)]) hX dL_law_7 rfl (show 1 < 4 by decide) rfl ?_
  refine g_new (ci := 6) hX hR dL_law_8 rfl nlL_10 inX6 iiX6 ⟨Nat.le_of_ble_eq_true rfl, Nat.le_of_ble_eq_true rfl⟩ ?_
  refine g_dup hX dL_law_11 rfl ?_
  refine g_callI (md' := mX6_init) (As := []) hX hR dL_law_12 clL_12 okX6_init rfl rfl (Nat.le_of_ble_eq_true rfl) (Nat.le_of_ble_eq_true rfl) ⟨Nat.le_of_ble_eq_true rfl, Nat.le_of_ble_eq_true rfl⟩ ?_
  refine sp_X6_init (d := 7) (x := κ'.2.2) kNew_n (Nat.lt_succ_self _) (by omega) (fun κ3 J3 g1 g2 g3 g4 g5 g6 g7 g8 => ?_)
  change GW _ _ _ 15 _ [.ref _] _ _ 76 1400
  have hI := inv_start y1 y2 g1 g2 g3 g4 g5 g6 g7 g8
  refine g_astore_n (lv' := [(2, .ref κ'.2.2), (1, .ref n), (0, .ref b)]) hX dL_law_15 rfl (show 2 < 4 by decide) rfl ?_
  refine g_iconst (v := nI 0) hX dL_law_16 (by decide) ?_
  refine g_istore_n (lv' := [(3, .int (nI 0)), (2, .ref κ'.2.2), (1, .ref n), (0, .ref b)]) hX dL_law_17 rfl (show 3 < 4 by decide) rfl ?_
  exact g_pick [0, 3, 2, 1] rfl (law_loop hX hR hSc hL hout (L + 1) 0 κ3 J3 (by omega) (by decide) hI)
