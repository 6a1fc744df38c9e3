/-! the Town's writing, with one way on -/
theorem nx_tw {κ : Kp} {x tw : Nat} (hO : TxO κ x) (hT : TwK κ tw) : x ≠ tw ∧ ∀ k, 2 ≤ k → k ≤ 8 → x ≠ κ.2.1 tw k := by
  obtain ⟨ht, ht0, ⟨t2, u2⟩, ⟨t3, u3⟩, ⟨t4, u4⟩, ⟨t5, u5⟩, ⟨t6, u6⟩, ⟨t7, u7⟩, ⟨t8, u8⟩⟩ := id hT
  refine ⟨kd_ne hO.1 ht (by decide), fun k k1 k2 => ?_⟩
  rcases (show k = 2 ∨ k = 3 ∨ k = 4 ∨ k = 5 ∨ k = 6 ∨ k = 7 ∨ k = 8 by omega) with rfl | rfl | rfl | rfl | rfl | rfl | rfl
  · exact kd_ne hO.1 t2 (by decide)
  · exact kd_ne hO.1 t3 (by decide)
  · exact kd_ne hO.1 t4 (by decide)
  · exact kd_ne hO.1 t5 (by decide)
  · exact kd_ne hO.1 t6 (by decide)
  · exact kd_ne hO.1 t7 (by decide)
  · exact kd_ne hO.1 t8 (by decide)
theorem sp_X4_addPersonB {Γ : Ga} {d : Nat} {κ : Kp} {I : Ip} {Q : Option Value → Kp → Ip → Prop} {tw P T : Nat} {r : Nat → Int32} {x : Int32} (hL : TwL κ tw) (hTR : TwR κ I tw r P T) (hw : WfT r P T) (h8 : ∀ p, P ≤ p → p < 6 → r (8 + p) = 0) (hq : ∀ (t : Bool) (J : Ip), (t = true → (P < 6 ∧ inR 0 3 x) ∧ TwR κ J tw (adP r P x) (P + 1) T) → (t = false → ¬ (P < 6 ∧ inR 0 3 x)) → TwF κ tw I J → Q (some (.int (b2i t))) κ J) : Sp Γ (d + 1) mX4_addPerson [.ref tw, .int x] κ I Q :=
  sp_X4_addPerson hL hTR hw h8 (fun h => hq false I (fun e => (by cases e)) (fun _ => h) (fun _ _ _ => rfl)) (fun hA J hJ hF => hq true J (fun _ => ⟨hA, hJ⟩) (fun e => (by cases e)) hF)
theorem sp_X4_addFriendsB {Γ : Ga} {d : Nat} {κ : Kp} {I : Ip} {Q : Option Value → Kp → Ip → Prop} {tw P T : Nat} {r : Nat → Int32} {x y : Int32} (hL : TwL κ tw) (hTR : TwR κ I tw r P T) (hw : WfT r P T) (hq : ∀ (t : Bool) (J : Ip), (t = true → (inN P x ∧ inN P y ∧ ¬ x = y) ∧ TwR κ J tw (adF r x.toNatClampNeg y.toNatClampNeg) P T) → (t = false → ¬ (inN P x ∧ inN P y ∧ ¬ x = y)) → TwF κ tw I J → Q (some (.int (b2i t))) κ J) : Sp Γ (d + 2) mX4_addFriends [.ref tw, .int x, .int y] κ I Q :=
  sp_X4_addFriends hL hTR hw (fun h => hq false I (fun e => (by cases e)) (fun _ => h) (fun _ _ _ => rfl)) (fun hA J hJ hF => hq true J (fun _ => ⟨hA, hJ⟩) (fun e => (by cases e)) hF)
theorem sp_X4_addTaleB {Γ : Ga} {d : Nat} {κ : Kp} {I : Ip} {Q : Option Value → Kp → Ip → Prop} {tw P T : Nat} {r : Nat → Int32} {x i k kn : Int32} (hL : TwL κ tw) (hTR : TwR κ I tw r P T) (hw : WfT r P T) (hq : ∀ (t : Bool) (J : Ip), (t = true → AdT P T x i k kn ∧ TwR κ J tw (adT r T x i k kn) P (T + 1)) → (t = false → ¬ AdT P T x i k kn) → TwF κ tw I J → Q (some (.int (b2i t))) κ J) : Sp Γ (d + 1) mX4_addTale [.ref tw, .int x, .int i, .int k, .int kn] κ I Q :=
  sp_X4_addTale hL hTR hw (fun h => hq false I (fun e => (by cases e)) (fun _ => h) (fun _ _ _ => rfl)) (fun hA J hJ hF => hq true J (fun _ => ⟨hA, hJ⟩) (fun e => (by cases e)) hF)
theorem accR_d (L : Nat → Nat) (a c : Nat) : AccR L a c (decide (L a = c)) (a + 1) := ⟨fun e => ⟨of_decide_eq_true e, rfl⟩, fun e => of_decide_eq_false e⟩
theorem item_p {L : Nat → Nat} {r : Nat → Int32} {P T a : Nat} (h : L a = 112) : itemF L (r, P, T, a) = perF L r P T (a + 1) := by unfold itemF; exact if_pos h
theorem item_f {L : Nat → Nat} {r : Nat → Int32} {P T a : Nat} (h : L a = 102) : itemF L (r, P, T, a) = friF L r P T (a + 1) := by
  unfold itemF
  dsimp only
  rw [if_neg (by omega), if_pos h]
theorem item_t {L : Nat → Nat} {r : Nat → Int32} {P T a : Nat} (h : L a = 116) : itemF L (r, P, T, a) = talF L r P T (a + 1) := by
  unfold itemF
  dsimp only
  rw [if_neg (by omega), if_neg (by omega), if_pos h]
theorem item_n {L : Nat → Nat} {r : Nat → Int32} {P T a : Nat} (h1 : L a ≠ 112) (h2 : L a ≠ 102) (h3 : L a ≠ 116) : itemF L (r, P, T, a) = none := by
  unfold itemF
  dsimp only
  rw [if_neg h1, if_neg h2, if_neg h3]
theorem i2c_nI : ∀ c, c < 127 → ((nI c).toUInt32 % 65536).toInt32 = nI c := by decide +kernel
theorem g_castN {Γ : Ga} {md : Md} {X : Cx} {pc : Nat} {lv : List (Nat × Value)} {r : List Value} {κ : Kp} {I : Ip} {a b x n j : Nat} {i v : Int32} (hX : Std Γ md X) (hd : decode md.2.1 pc = .ok (.castore, 1)) (hk : κ.1 x = (7, n)) (hi : i = nI j) (hj : j < n) (hn : n < 2 ^ 31) (hv : narrow .char (.int v) = .int v) (k : GW Γ md X (pc + 1) lv r κ (va_up I x (va_up (I x) j v)) a b) : GW Γ md X pc lv (.int v :: .int i :: .ref x :: r) κ I a b := by
  subst hi
  exact g_cast hX hd hk (vp_in_nI hj hn) hv (by rw [nI_clamp (by omega)]; exact k)
