set_option maxHeartbeats 4000000 in
set_option maxRecDepth 100000 in
theorem sp_X3_readPerson {Γ : Ga} {d : Nat} {κ : Kp} {I : Ip} {Q : Option Value → Kp → Ip → Prop} {x tw a sz P T : Nat} {tx r : Nat → Int32} (hO : TxO κ x) (hL : TwL κ tw) (ht : TxC κ x I tx sz) (h2 : I x 2 = nI a) (ha : a ≤ sz) (hTR : TwR κ I tw r P T) (hw : WfT r P T) (h8 : ∀ p, P ≤ p → p < 6 → r (8 + p) = 0) (hq : ∀ J : Ip, RdF κ x tw I J → (∀ y, perF (Lc tx sz) r P T a = some y → TwR κ J tw y.1 y.2.1 y.2.2.1 ∧ J x 2 = nI y.2.2.2) → Q (some (.int (b2i (perF (Lc tx sz) r P T a).isSome))) κ J) : Sp Γ (d + 3) mX3_readPerson [.ref (x), .ref (tw)] κ I Q := by
  have hTw := hL.1
  obtain ⟨ht4, ht0, -⟩ := id hTw
  obtain ⟨xk, xz, lk, lz⟩ := id hO
  obtain ⟨r0, r1, -⟩ := id hTR
  obtain ⟨hw0, hw1, hP, hT, -⟩ := id hw
  obtain ⟨hxt, hxk⟩ := nx_tw hO hTw
  have hnx := Ne.symm hxt
  intro X hM
  have hX := hM.std
  have hR := hM.room
  show GW _ mX3_readPerson X 0 [(0, .ref (x)), (1, .ref (tw))] [] _ _ 0 0
  refine g_aload_n hX dX3_readPerson_0 rfl rfl ?_
  refine g_callV (md' := mX3_readNumber) (ci := 3) (As := []) hX hR dX3_readPerson_1 clX3_44 okX3_readNumber rfl (by assumption) rfl rfl (Nat.le_of_ble_eq_true rfl) (Nat.le_of_ble_eq_true rfl) ⟨Nat.le_of_ble_eq_true rfl, Nat.le_of_ble_eq_true rfl⟩ ?_
  refine sp_X3_readNumber (a := a) hO ht h2 (by assumption) (fun v1 b1 lb1 nb1 => ?_)
  change GW _ _ _ 4 _ [.int _] _ _ 0 0
  refine g_istore_n (lv' := [(2, .int _), (0, .ref _), (1, .ref _)]) hX dX3_readPerson_4 rfl (by decide) rfl ?_
  refine g_aload_n hX dX3_readPerson_5 rfl rfl ?_
  refine g_bipush (v := nI 59) hX dX3_readPerson_6 (by decide) ?_
  refine g_callV (md' := mX3_accept) (ci := 3) (As := [.int _]) hX hR dX3_readPerson_8 clX3_47 okX3_accept rfl (by assumption) rfl rfl (Nat.le_of_ble_eq_true rfl) (Nat.le_of_ble_eq_true rfl) ⟨Nat.le_of_ble_eq_true rfl, Nat.le_of_ble_eq_true rfl⟩ ?_
  refine sp_X3_accept (a := b1) (c := 59) hO (ht.plc hO) plc_2 (by assumption) (by decide) (by decide) (fun t1 b2 lb2 nb2 => ?_)
  rw [plc_plc]
  change GW _ _ _ 11 _ [.int _] _ _ 0 0
  refine g_ifeq 26 hX dX3_readPerson_11 (by decide) (fun c11 => ?_) (fun c11 => ?_)
  · rw [b2i_0] at c11
    refine g_iconst (v := nI 0) hX dX3_readPerson_26 (by decide) ?_
    refine g_iret hM dX3_readPerson_27 rfl (rfl) ⟨Nat.le_of_ble_eq_true rfl, Nat.le_of_ble_eq_true rfl⟩ ?_
    have hn : (perF (Lc tx sz) r P T a).isSome = false := by
      cases hs : (perF (Lc tx sz) r P T a).isSome with
      | false => rfl
      | true =>
        exfalso
        have hh := (per_all (L := Lc tx sz) (r := r) (T := T) hP nb1 nb2).2 hs
        rw [c11] at hh
        cases hh.1
    exact q_f hn (hq _ (RdF.rf.plc) (fun y hy => by rw [hy] at hn; cases hn))
  · rw [b2i_n0] at c11
    refine g_aload_n hX dX3_readPerson_14 rfl rfl ?_
    refine g_iload_n hX dX3_readPerson_15 rfl rfl ?_
    refine g_callV (md' := mX4_addPerson) (ci := 4) (As := [.int _]) hX hR dX3_readPerson_16 clX3_51 okX4_addPerson rfl (by assumption) rfl rfl (Nat.le_of_ble_eq_true rfl) (Nat.le_of_ble_eq_true rfl) ⟨Nat.le_of_ble_eq_true rfl, Nat.le_of_ble_eq_true rfl⟩ ?_
    refine sp_X4_addPersonB hL (hTR.plc hO hTw) hw h8 (fun t2 J hy2 hn2 hF => ?_)
    change GW _ _ _ 19 _ [.int _] _ _ 0 0
    refine g_ifeq 26 hX dX3_readPerson_19 (by decide) (fun c19 => ?_) (fun c19 => ?_)
    · rw [b2i_0] at c19
      refine g_iconst (v := nI 0) hX dX3_readPerson_26 (by decide) ?_
      refine g_iret hM dX3_readPerson_27 rfl (rfl) ⟨Nat.le_of_ble_eq_true rfl, Nat.le_of_ble_eq_true rfl⟩ ?_
      have hn : (perF (Lc tx sz) r P T a).isSome = false := by
        cases hs : (perF (Lc tx sz) r P T a).isSome with
        | false => rfl
        | true =>
          exfalso
          exact hn2 c19 ((per_all (L := Lc tx sz) (r := r) (T := T) hP nb1 nb2).2 hs).2
      exact q_f hn (hq _ (RdF.rf.plc.tr (RdF.tw hO hTw hF)) (fun y hy => by rw [hy] at hn; cases hn))
    · rw [b2i_n0] at c19
      refine g_iconst (v := nI 1) hX dX3_readPerson_22 (by decide) ?_
      refine g_goto 27 hX dX3_readPerson_23 (by decide) ?_
      refine g_iret hM dX3_readPerson_27 rfl (rfl) ⟨Nat.le_of_ble_eq_true rfl, Nat.le_of_ble_eq_true rfl⟩ ?_
      obtain ⟨hA, hJ⟩ := hy2 c19
      have e := (per_all (L := Lc tx sz) (r := r) (T := T) hP nb1 nb2).1 c11 hA
      have hs : (perF (Lc tx sz) r P T a).isSome = true := by rw [e]; rfl
      refine q_t hs (hq J (RdF.rf.plc.tr (RdF.tw hO hTw hF)) (fun y hy => ?_))
      rw [e] at hy
      cases hy
      refine ⟨hJ, ?_⟩
      rw [hF x hxt hxk, plc_2]

set_option maxHeartbeats 4000000 in
set_option maxRecDepth 100000 in
theorem sp_X3_readFriends {Γ : Ga} {d : Nat} {κ : Kp} {I : Ip} {Q : Option Value → Kp → Ip → Prop} {x tw a sz P T : Nat} {tx r : Nat → Int32} (hO : TxO κ x) (hL : TwL κ tw) (ht : TxC κ x I tx sz) (h2 : I x 2 = nI a) (ha : a ≤ sz) (hTR : TwR κ I tw r P T) (hw : WfT r P T) (h8 : ∀ p, P ≤ p → p < 6 → r (8 + p) = 0) (hq : ∀ J : Ip, RdF κ x tw I J → (∀ y, friF (Lc tx sz) r P T a = some y → TwR κ J tw y.1 y.2.1 y.2.2.1 ∧ J x 2 = nI y.2.2.2) → Q (some (.int (b2i (friF (Lc tx sz) r P T a).isSome))) κ J) : Sp Γ (d + 3) mX3_readFriends [.ref (x), .ref (tw)] κ I Q := by
  have hTw := hL.1
  obtain ⟨ht4, ht0, -⟩ := id hTw
  obtain ⟨xk, xz, lk, lz⟩ := id hO
  obtain ⟨r0, r1, -⟩ := id hTR
  obtain ⟨hw0, hw1, hP, hT, -⟩ := id hw
  obtain ⟨hxt, hxk⟩ := nx_tw hO hTw
  have hnx := Ne.symm hxt
  intro X hM
  have hX := hM.std
  have hR := hM.room
  show GW _ mX3_readFriends X 0 [(0, .ref (x)), (1, .ref (tw))] [] _ _ 0 0
  refine g_aload_n hX dX3_readFriends_0 rfl rfl ?_
  refine g_callV (md' := mX3_readNumber) (ci := 3) (As := []) hX hR dX3_readFriends_1 clX3_44 okX3_readNumber rfl (by assumption) rfl rfl (Nat.le_of_ble_eq_true rfl) (Nat.le_of_ble_eq_true rfl) ⟨Nat.le_of_ble_eq_true rfl, Nat.le_of_ble_eq_true rfl⟩ ?_
  refine sp_X3_readNumber (a := a) hO ht h2 (by assumption) (fun v1 b1 lb1 nb1 => ?_)
  change GW _ _ _ 4 _ [.int _] _ _ 0 0
  refine g_istore_n (lv' := [(2, .int _), (0, .ref _), (1, .ref _)]) hX dX3_readFriends_4 rfl (by decide) rfl ?_
  refine g_aload_n hX dX3_readFriends_5 rfl rfl ?_
  refine g_bipush (v := nI 44) hX dX3_readFriends_6 (by decide) ?_
  refine g_callV (md' := mX3_accept) (ci := 3) (As := [.int _]) hX hR dX3_readFriends_8 clX3_47 okX3_accept rfl (by assumption) rfl rfl (Nat.le_of_ble_eq_true rfl) (Nat.le_of_ble_eq_true rfl) ⟨Nat.le_of_ble_eq_true rfl, Nat.le_of_ble_eq_true rfl⟩ ?_
  refine sp_X3_accept (a := b1) (c := 44) hO (ht.plc hO) plc_2 (by assumption) (by decide) (by decide) (fun t1 b2 lb2 nb2 => ?_)
  rw [plc_plc]
  change GW _ _ _ 11 _ [.int _] _ _ 0 0
  refine g_istore_n (lv' := [(3, .int _), (2, .int _), (0, .ref _), (1, .ref _)]) hX dX3_readFriends_11 rfl (by decide) rfl ?_
  refine g_aload_n hX dX3_readFriends_12 rfl rfl ?_
  refine g_callV (md' := mX3_readNumber) (ci := 3) (As := []) hX hR dX3_readFriends_13 clX3_44 okX3_readNumber rfl (by assumption) rfl rfl (Nat.le_of_ble_eq_true rfl) (Nat.le_of_ble_eq_true rfl) ⟨Nat.le_of_ble_eq_true rfl, Nat.le_of_ble_eq_true rfl⟩ ?_
  refine sp_X3_readNumber (a := b2) hO (ht.plc hO) plc_2 (by assumption) (fun v2 b3 lb3 nb3 => ?_)
  rw [plc_plc]
  change GW _ _ _ 16 _ [.int _] _ _ 0 0
  refine g_istore (lv' := [(4, .int _), (3, .int _), (2, .int _), (0, .ref _), (1, .ref _)]) hX dX3_readFriends_16 (by decide) rfl ?_
  refine g_iload_n hX dX3_readFriends_18 rfl rfl ?_
  refine g_ifeq 45 hX dX3_readFriends_19 (by decide) (fun c19 => ?_) (fun c19 => ?_)
  · rw [b2i_0] at c19
    refine g_iconst (v := nI 0) hX dX3_readFriends_45 (by decide) ?_
    refine g_iret hM dX3_readFriends_46 rfl (rfl) ⟨Nat.le_of_ble_eq_true rfl, Nat.le_of_ble_eq_true rfl⟩ ?_
    have hn : (friF (Lc tx sz) r P T a).isSome = false := by
      cases hs : (friF (Lc tx sz) r P T a).isSome with
      | false => rfl
      | true =>
        exfalso
        have hh := ((fri_all (L := Lc tx sz) (r := r) (T := T) hP nb1 nb2 nb3 (accR_d _ _ _)).2 hs).1
        rw [c19] at hh
        cases hh
    exact q_f hn (hq _ (RdF.rf.plc) (fun y hy => by rw [hy] at hn; cases hn))
  · rw [b2i_n0] at c19
    refine g_aload_n hX dX3_readFriends_22 rfl rfl ?_
    refine g_bipush (v := nI 59) hX dX3_readFriends_23 (by decide) ?_
    refine g_callV (md' := mX3_accept) (ci := 3) (As := [.int _]) hX hR dX3_readFriends_25 clX3_47 okX3_accept rfl (by assumption) rfl rfl (Nat.le_of_ble_eq_true rfl) (Nat.le_of_ble_eq_true rfl) ⟨Nat.le_of_ble_eq_true rfl, Nat.le_of_ble_eq_true rfl⟩ ?_
    refine sp_X3_accept (a := b3) (c := 59) hO (ht.plc hO) plc_2 (by assumption) (by decide) (by decide) (fun t2 b4 lb4 nb4 => ?_)
    rw [plc_plc]
    change GW _ _ _ 28 _ [.int _] _ _ 0 0
    refine g_ifeq 45 hX dX3_readFriends_28 (by decide) (fun c28 => ?_) (fun c28 => ?_)
    · rw [b2i_0] at c28
      refine g_iconst (v := nI 0) hX dX3_readFriends_45 (by decide) ?_
      refine g_iret hM dX3_readFriends_46 rfl (rfl) ⟨Nat.le_of_ble_eq_true rfl, Nat.le_of_ble_eq_true rfl⟩ ?_
      have hn : (friF (Lc tx sz) r P T a).isSome = false := by
        cases hs : (friF (Lc tx sz) r P T a).isSome with
        | false => rfl
        | true =>
          exfalso
          have hh := ((fri_all (L := Lc tx sz) (r := r) (T := T) hP nb1 nb2 nb3 nb4).2 hs).1
          rw [c19, c28] at hh
          cases hh
      exact q_f hn (hq _ (RdF.rf.plc) (fun y hy => by rw [hy] at hn; cases hn))
    · rw [b2i_n0] at c28
      refine g_aload_n hX dX3_readFriends_31 rfl rfl ?_
      refine g_iload_n hX dX3_readFriends_32 rfl rfl ?_
      refine g_iload hX dX3_readFriends_33 rfl ?_
      refine g_callV (md' := mX4_addFriends) (ci := 4) (As := [.int _, .int _]) hX hR dX3_readFriends_35 clX3_55 okX4_addFriends rfl (by assumption) rfl rfl (Nat.le_of_ble_eq_true rfl) (Nat.le_of_ble_eq_true rfl) ⟨Nat.le_of_ble_eq_true rfl, Nat.le_of_ble_eq_true rfl⟩ ?_
      refine sp_X4_addFriendsB hL (hTR.plc hO hTw) hw (fun t3 J hy3 hn3 hF => ?_)
      change GW _ _ _ 38 _ [.int _] _ _ 0 0
      refine g_ifeq 45 hX dX3_readFriends_38 (by decide) (fun c38 => ?_) (fun c38 => ?_)
      · rw [b2i_0] at c38
        refine g_iconst (v := nI 0) hX dX3_readFriends_45 (by decide) ?_
        refine g_iret hM dX3_readFriends_46 rfl (rfl) ⟨Nat.le_of_ble_eq_true rfl, Nat.le_of_ble_eq_true rfl⟩ ?_
        have hn : (friF (Lc tx sz) r P T a).isSome = false := by
          cases hs : (friF (Lc tx sz) r P T a).isSome with
          | false => rfl
          | true =>
            exfalso
            exact hn3 c38 ((fri_all (L := Lc tx sz) (r := r) (T := T) hP nb1 nb2 nb3 nb4).2 hs).2
        exact q_f hn (hq _ (RdF.rf.plc.tr (RdF.tw hO hTw hF)) (fun y hy => by rw [hy] at hn; cases hn))
      · rw [b2i_n0] at c38
        refine g_iconst (v := nI 1) hX dX3_readFriends_41 (by decide) ?_
        refine g_goto 46 hX dX3_readFriends_42 (by decide) ?_
        refine g_iret hM dX3_readFriends_46 rfl (rfl) ⟨Nat.le_of_ble_eq_true rfl, Nat.le_of_ble_eq_true rfl⟩ ?_
        obtain ⟨hA, hJ⟩ := hy3 c38
        have e := (fri_all (L := Lc tx sz) (r := r) (T := T) hP nb1 nb2 nb3 nb4).1 (by rw [c19, c28]; rfl) hA
        have hs : (friF (Lc tx sz) r P T a).isSome = true := by rw [e]; rfl
        refine q_t hs (hq J (RdF.rf.plc.tr (RdF.tw hO hTw hF)) (fun y hy => ?_))
        rw [e] at hy
        cases hy
        refine ⟨hJ, ?_⟩
        rw [hF x hxt hxk, plc_2]

set_option maxHeartbeats 4000000 in
set_option maxRecDepth 100000 in
theorem fr_X3_readTale_62 {Γ : Ga} {d : Nat} {κ : Kp} {Q : Option Value → Kp → Ip → Prop} {X : Cx} {I : Ip} {x tw a sz P T : Nat} {tx r : Nat → Int32} {b1 b2 b3 b4 b5 b6 : Nat} {v1 v2 v3 : Int32} {t1 t2 t3 c : Bool} (hM : Mx Γ (d + 3) mX3_readTale Q X) (hO : TxO κ x) (hL : TwL κ tw) (ht : TxC κ x I tx sz) (h2 : I x 2 = nI a) (ha : a ≤ sz) (hTR : TwR κ I tw r P T) (hw : WfT r P T) (h8 : ∀ p, P ≤ p → p < 6 → r (8 + p) = 0) (nb1 : NumR (Lc tx sz) a v1 b1) (nb2 : AccR (Lc tx sz) b1 44 t1 b2) (nb3 : NumR (Lc tx sz) b2 v2 b3) (nb4 : AccR (Lc tx sz) b3 44 t2 b4) (nb5 : NumR (Lc tx sz) b4 v3 b5) (nb6 : AccR (Lc tx sz) b5 44 t3 b6) (lb6 : b6 ≤ sz) (hc : c = (t1 && (t2 && t3))) (hq : ∀ J : Ip, RdF κ x tw I J → (∀ y, talF (Lc tx sz) r P T a = some y → TwR κ J tw y.1 y.2.1 y.2.2.1 ∧ J x 2 = nI y.2.2.2) → Q (some (.int (b2i (talF (Lc tx sz) r P T a).isSome))) κ J) : GW Γ mX3_readTale X 62 [(0, .ref (x)), (1, .ref (tw)), (2, .int (v1)), (4, .int (v2)), (5, .int (v3)), (3, .int (b2i c))] [] κ (plc x I b6) 0 0 := by
  have hX := hM.std
  have hR := hM.room
  have hTw := hL.1
  obtain ⟨ht4, ht0, -⟩ := id hTw
  obtain ⟨xk, xz, lk, lz⟩ := id hO
  obtain ⟨r0, r1, -⟩ := id hTR
  obtain ⟨hw0, hw1, hP, hT, -⟩ := id hw
  obtain ⟨hxt, hxk⟩ := nx_tw hO hTw
  have hnx := Ne.symm hxt
  refine g_aload_n hX dX3_readTale_62 rfl rfl ?_
  refine g_aload_n hX dX3_readTale_63 rfl rfl ?_
  refine g_callV (md' := mX3_readRow) (ci := 3) (As := [.ref _]) hX hR dX3_readTale_64 clX3_59 okX3_readRow rfl (by assumption) rfl rfl (Nat.le_of_ble_eq_true rfl) (Nat.le_of_ble_eq_true rfl) ⟨Nat.le_of_ble_eq_true rfl, Nat.le_of_ble_eq_true rfl⟩ ?_
  refine sp_X3_readRow (P := P) (a := b6) hO hTw (ht.plc hO) (by rw [plc_ne hnx]; exact r0) hP plc_2 lb6 (fun b7 lb7 hb7 => ?_)
  rw [plc_plc]
  obtain ⟨kn, hkn⟩ : ∃ kn, kn = (rowC (Lc tx sz) P 200 b6 0).1 := ⟨_, rfl⟩
  rw [← hkn] at hb7 ⊢
  change GW _ _ _ 67 _ [.int _] _ _ 0 0
  refine g_istore (lv' := [(6, .int _), (0, .ref _), (1, .ref _), (2, .int _), (4, .int _), (5, .int _), (3, .int _)]) hX dX3_readTale_67 (by decide) rfl ?_
  refine g_iload_n hX dX3_readTale_69 rfl rfl ?_
  refine g_ifeq 100 hX dX3_readTale_70 (by decide) (fun c70 => ?_) (fun c70 => ?_)
  · rw [b2i_0] at c70
    refine g_iconst (v := nI 0) hX dX3_readTale_100 (by decide) ?_
    refine g_iret hM dX3_readTale_101 rfl (rfl) ⟨Nat.le_of_ble_eq_true rfl, Nat.le_of_ble_eq_true rfl⟩ ?_
    have hn : (talF (Lc tx sz) r P T a).isSome = false := by
      cases hs : (talF (Lc tx sz) r P T a).isSome with
      | false => rfl
      | true =>
        exfalso
        have hh := ((tal_all (L := Lc tx sz) (r := r) hP hT nb1 nb2 nb3 nb4 nb5 nb6 hkn hb7).2 hs).1
        rw [← hc, c70] at hh
        cases hh
    exact q_f hn (hq _ (RdF.rf.plc) (fun y hy => by rw [hy] at hn; cases hn))
  · rw [b2i_n0] at c70
    refine g_aload_n hX dX3_readTale_73 rfl rfl ?_
    refine g_bipush (v := nI 59) hX dX3_readTale_74 (by decide) ?_
    refine g_callV (md' := mX3_accept) (ci := 3) (As := [.int _]) hX hR dX3_readTale_76 clX3_47 okX3_accept rfl (by assumption) rfl rfl (Nat.le_of_ble_eq_true rfl) (Nat.le_of_ble_eq_true rfl) ⟨Nat.le_of_ble_eq_true rfl, Nat.le_of_ble_eq_true rfl⟩ ?_
    refine sp_X3_accept (a := b7) (c := 59) hO (ht.plc hO) plc_2 (by assumption) (by decide) (by decide) (fun t4 b8 lb8 nb8 => ?_)
    rw [plc_plc]
    change GW _ _ _ 79 _ [.int _] _ _ 0 0
    refine g_ifeq 100 hX dX3_readTale_79 (by decide) (fun c79 => ?_) (fun c79 => ?_)
    · rw [b2i_0] at c79
      refine g_iconst (v := nI 0) hX dX3_readTale_100 (by decide) ?_
      refine g_iret hM dX3_readTale_101 rfl (rfl) ⟨Nat.le_of_ble_eq_true rfl, Nat.le_of_ble_eq_true rfl⟩ ?_
      have hn : (talF (Lc tx sz) r P T a).isSome = false := by
        cases hs : (talF (Lc tx sz) r P T a).isSome with
        | false => rfl
        | true =>
          exfalso
          exact nb8.2 c79 ((tal_all (L := Lc tx sz) (r := r) hP hT nb1 nb2 nb3 nb4 nb5 nb6 hkn hb7).2 hs).2.1
      exact q_f hn (hq _ (RdF.rf.plc) (fun y hy => by rw [hy] at hn; cases hn))
    · rw [b2i_n0] at c79
      refine g_aload_n hX dX3_readTale_82 rfl rfl ?_
      refine g_iload_n hX dX3_readTale_83 rfl rfl ?_
      refine g_iload hX dX3_readTale_84 rfl ?_
      refine g_iload hX dX3_readTale_86 rfl ?_
      refine g_iload hX dX3_readTale_88 rfl ?_
      refine g_callV (md' := mX4_addTale) (ci := 4) (As := [.int _, .int _, .int _, .int _]) hX hR dX3_readTale_90 clX3_63 okX4_addTale rfl (by assumption) rfl rfl (Nat.le_of_ble_eq_true rfl) (Nat.le_of_ble_eq_true rfl) ⟨Nat.le_of_ble_eq_true rfl, Nat.le_of_ble_eq_true rfl⟩ ?_
      refine sp_X4_addTaleB hL (hTR.plc hO hTw) hw (fun t5 J hy5 hn5 hF => ?_)
      change GW _ _ _ 93 _ [.int _] _ _ 0 0
      refine g_ifeq 100 hX dX3_readTale_93 (by decide) (fun c93 => ?_) (fun c93 => ?_)
      · rw [b2i_0] at c93
        refine g_iconst (v := nI 0) hX dX3_readTale_100 (by decide) ?_
        refine g_iret hM dX3_readTale_101 rfl (rfl) ⟨Nat.le_of_ble_eq_true rfl, Nat.le_of_ble_eq_true rfl⟩ ?_
        have hn : (talF (Lc tx sz) r P T a).isSome = false := by
          cases hs : (talF (Lc tx sz) r P T a).isSome with
          | false => rfl
          | true =>
            exfalso
            exact hn5 c93 ((tal_all (L := Lc tx sz) (r := r) hP hT nb1 nb2 nb3 nb4 nb5 nb6 hkn hb7).2 hs).2.2
        exact q_f hn (hq _ (RdF.rf.plc.tr (RdF.tw hO hTw hF)) (fun y hy => by rw [hy] at hn; cases hn))
      · rw [b2i_n0] at c93
        refine g_iconst (v := nI 1) hX dX3_readTale_96 (by decide) ?_
        refine g_goto 101 hX dX3_readTale_97 (by decide) ?_
        refine g_iret hM dX3_readTale_101 rfl (rfl) ⟨Nat.le_of_ble_eq_true rfl, Nat.le_of_ble_eq_true rfl⟩ ?_
        obtain ⟨hA, hJ⟩ := hy5 c93
        obtain ⟨e59, e8⟩ := nb8.1 c79
        subst e8
        have e := (tal_all (L := Lc tx sz) (r := r) hP hT nb1 nb2 nb3 nb4 nb5 nb6 hkn hb7).1 (by rw [← hc]; exact c70) e59 hA
        have hs : (talF (Lc tx sz) r P T a).isSome = true := by rw [e]; rfl
        refine q_t hs (hq J (RdF.rf.plc.tr (RdF.tw hO hTw hF)) (fun y hy => ?_))
        rw [e] at hy
        cases hy
        refine ⟨hJ, ?_⟩
        rw [hF x hxt hxk, plc_2]

set_option maxHeartbeats 4000000 in
set_option maxRecDepth 100000 in
theorem sp_X3_readTale {Γ : Ga} {d : Nat} {κ : Kp} {I : Ip} {Q : Option Value → Kp → Ip → Prop} {x tw a sz P T : Nat} {tx r : Nat → Int32} (hO : TxO κ x) (hL : TwL κ tw) (ht : TxC κ x I tx sz) (h2 : I x 2 = nI a) (ha : a ≤ sz) (hTR : TwR κ I tw r P T) (hw : WfT r P T) (h8 : ∀ p, P ≤ p → p < 6 → r (8 + p) = 0) (hq : ∀ J : Ip, RdF κ x tw I J → (∀ y, talF (Lc tx sz) r P T a = some y → TwR κ J tw y.1 y.2.1 y.2.2.1 ∧ J x 2 = nI y.2.2.2) → Q (some (.int (b2i (talF (Lc tx sz) r P T a).isSome))) κ J) : Sp Γ (d + 3) mX3_readTale [.ref (x), .ref (tw)] κ I Q := by
  have hTw := hL.1
  obtain ⟨ht4, ht0, -⟩ := id hTw
  obtain ⟨xk, xz, lk, lz⟩ := id hO
  obtain ⟨r0, r1, -⟩ := id hTR
  obtain ⟨hw0, hw1, hP, hT, -⟩ := id hw
  obtain ⟨hxt, hxk⟩ := nx_tw hO hTw
  have hnx := Ne.symm hxt
  intro X hM
  have hX := hM.std
  have hR := hM.room
  show GW _ mX3_readTale X 0 [(0, .ref (x)), (1, .ref (tw))] [] _ _ 0 0
  refine g_aload_n hX dX3_readTale_0 rfl rfl ?_
  refine g_callV (md' := mX3_readNumber) (ci := 3) (As := []) hX hR dX3_readTale_1 clX3_44 okX3_readNumber rfl (by assumption) rfl rfl (Nat.le_of_ble_eq_true rfl) (Nat.le_of_ble_eq_true rfl) ⟨Nat.le_of_ble_eq_true rfl, Nat.le_of_ble_eq_true rfl⟩ ?_
  refine sp_X3_readNumber (a := a) hO ht h2 (by assumption) (fun v1 b1 lb1 nb1 => ?_)
  change GW _ _ _ 4 _ [.int _] _ _ 0 0
  refine g_istore_n (lv' := [(2, .int _), (0, .ref _), (1, .ref _)]) hX dX3_readTale_4 rfl (by decide) rfl ?_
  refine g_aload_n hX dX3_readTale_5 rfl rfl ?_
  refine g_bipush (v := nI 44) hX dX3_readTale_6 (by decide) ?_
  refine g_callV (md' := mX3_accept) (ci := 3) (As := [.int _]) hX hR dX3_readTale_8 clX3_47 okX3_accept rfl (by assumption) rfl rfl (Nat.le_of_ble_eq_true rfl) (Nat.le_of_ble_eq_true rfl) ⟨Nat.le_of_ble_eq_true rfl, Nat.le_of_ble_eq_true rfl⟩ ?_
  refine sp_X3_accept (a := b1) (c := 44) hO (ht.plc hO) plc_2 (by assumption) (by decide) (by decide) (fun t1 b2 lb2 nb2 => ?_)
  rw [plc_plc]
  change GW _ _ _ 11 _ [.int _] _ _ 0 0
  refine g_istore_n (lv' := [(3, .int _), (2, .int _), (0, .ref _), (1, .ref _)]) hX dX3_readTale_11 rfl (by decide) rfl ?_
  refine g_aload_n hX dX3_readTale_12 rfl rfl ?_
  refine g_callV (md' := mX3_readNumber) (ci := 3) (As := []) hX hR dX3_readTale_13 clX3_44 okX3_readNumber rfl (by assumption) rfl rfl (Nat.le_of_ble_eq_true rfl) (Nat.le_of_ble_eq_true rfl) ⟨Nat.le_of_ble_eq_true rfl, Nat.le_of_ble_eq_true rfl⟩ ?_
  refine sp_X3_readNumber (a := b2) hO (ht.plc hO) plc_2 (by assumption) (fun v2 b3 lb3 nb3 => ?_)
  rw [plc_plc]
  change GW _ _ _ 16 _ [.int _] _ _ 0 0
  refine g_istore (lv' := [(4, .int _), (3, .int _), (2, .int _), (0, .ref _), (1, .ref _)]) hX dX3_readTale_16 (by decide) rfl ?_
  refine g_aload_n hX dX3_readTale_18 rfl rfl ?_
  refine g_bipush (v := nI 44) hX dX3_readTale_19 (by decide) ?_
  refine g_callV (md' := mX3_accept) (ci := 3) (As := [.int _]) hX hR dX3_readTale_21 clX3_47 okX3_accept rfl (by assumption) rfl rfl (Nat.le_of_ble_eq_true rfl) (Nat.le_of_ble_eq_true rfl) ⟨Nat.le_of_ble_eq_true rfl, Nat.le_of_ble_eq_true rfl⟩ ?_
  refine sp_X3_accept (a := b3) (c := 44) hO (ht.plc hO) plc_2 (by assumption) (by decide) (by decide) (fun t2 b4 lb4 nb4 => ?_)
  rw [plc_plc]
  change GW _ _ _ 24 _ [.int _] _ _ 0 0
  refine g_ifeq 35 hX dX3_readTale_24 (by decide) (fun c24 => ?_) (fun c24 => ?_)
  · rw [b2i_0] at c24
    refine g_iconst (v := nI 0) hX dX3_readTale_35 (by decide) ?_
    refine g_istore_n (lv' := [(3, .int _), (4, .int _), (2, .int _), (0, .ref _), (1, .ref _)]) hX dX3_readTale_36 rfl (by decide) rfl ?_
    refine g_aload_n hX dX3_readTale_37 rfl rfl ?_
    refine g_callV (md' := mX3_readNumber) (ci := 3) (As := []) hX hR dX3_readTale_38 clX3_44 okX3_readNumber rfl (by assumption) rfl rfl (Nat.le_of_ble_eq_true rfl) (Nat.le_of_ble_eq_true rfl) ⟨Nat.le_of_ble_eq_true rfl, Nat.le_of_ble_eq_true rfl⟩ ?_
    refine sp_X3_readNumber (a := b4) hO (ht.plc hO) plc_2 (by assumption) (fun v3 b5 lb5 nb5 => ?_)
    rw [plc_plc]
    change GW _ _ _ 41 _ [.int _] _ _ 0 0
    refine g_istore (lv' := [(5, .int _), (3, .int _), (4, .int _), (2, .int _), (0, .ref _), (1, .ref _)]) hX dX3_readTale_41 (by decide) rfl ?_
    refine g_aload_n hX dX3_readTale_43 rfl rfl ?_
    refine g_bipush (v := nI 44) hX dX3_readTale_44 (by decide) ?_
    refine g_callV (md' := mX3_accept) (ci := 3) (As := [.int _]) hX hR dX3_readTale_46 clX3_47 okX3_accept rfl (by assumption) rfl rfl (Nat.le_of_ble_eq_true rfl) (Nat.le_of_ble_eq_true rfl) ⟨Nat.le_of_ble_eq_true rfl, Nat.le_of_ble_eq_true rfl⟩ ?_
    refine sp_X3_accept (a := b5) (c := 44) hO (ht.plc hO) plc_2 (by assumption) (by decide) (by decide) (fun t3 b6 lb6 nb6 => ?_)
    rw [plc_plc]
    change GW _ _ _ 49 _ [.int _] _ _ 0 0
    refine g_ifeq 60 hX dX3_readTale_49 (by decide) (fun c49 => ?_) (fun c49 => ?_)
    · rw [b2i_0] at c49
      refine g_iconst (v := nI 0) hX dX3_readTale_60 (by decide) ?_
      refine g_istore_n (lv' := [(3, .int _), (5, .int _), (4, .int _), (2, .int _), (0, .ref _), (1, .ref _)]) hX dX3_readTale_61 rfl (by decide) rfl ?_
      exact g_pick [4, 5, 3, 2, 1, 0] rfl (fr_X3_readTale_62 (c := false) hM hO hL ht h2 ha hTR hw h8 nb1 nb2 nb3 nb4 nb5 nb6 lb6 (by rw [c49, Bool.and_false, Bool.and_false]) hq)
    · rw [b2i_n0] at c49
      refine g_iload_n hX dX3_readTale_52 rfl rfl ?_
      refine g_ifeq 60 hX dX3_readTale_53 (by decide) (fun c53 => ?_) (fun c53 => ?_)
      · refine g_iconst (v := nI 0) hX dX3_readTale_60 (by decide) ?_
        refine g_istore_n (lv' := [(3, .int _), (5, .int _), (4, .int _), (2, .int _), (0, .ref _), (1, .ref _)]) hX dX3_readTale_61 rfl (by decide) rfl ?_
        exact g_pick [4, 5, 3, 2, 1, 0] rfl (fr_X3_readTale_62 (c := false) hM hO hL ht h2 ha hTR hw h8 nb1 nb2 nb3 nb4 nb5 nb6 lb6 (by rw [c24, Bool.false_and, Bool.and_false]) hq)
      · exact absurd nI0 c53
  · rw [b2i_n0] at c24
    refine g_iload_n hX dX3_readTale_27 rfl rfl ?_
    refine g_ifeq 35 hX dX3_readTale_28 (by decide) (fun c28 => ?_) (fun c28 => ?_)
    · rw [b2i_0] at c28
      refine g_iconst (v := nI 0) hX dX3_readTale_35 (by decide) ?_
      refine g_istore_n (lv' := [(3, .int _), (4, .int _), (2, .int _), (0, .ref _), (1, .ref _)]) hX dX3_readTale_36 rfl (by decide) rfl ?_
      refine g_aload_n hX dX3_readTale_37 rfl rfl ?_
      refine g_callV (md' := mX3_readNumber) (ci := 3) (As := []) hX hR dX3_readTale_38 clX3_44 okX3_readNumber rfl (by assumption) rfl rfl (Nat.le_of_ble_eq_true rfl) (Nat.le_of_ble_eq_true rfl) ⟨Nat.le_of_ble_eq_true rfl, Nat.le_of_ble_eq_true rfl⟩ ?_
      refine sp_X3_readNumber (a := b4) hO (ht.plc hO) plc_2 (by assumption) (fun v3 b5 lb5 nb5 => ?_)
      rw [plc_plc]
      change GW _ _ _ 41 _ [.int _] _ _ 0 0
      refine g_istore (lv' := [(5, .int _), (3, .int _), (4, .int _), (2, .int _), (0, .ref _), (1, .ref _)]) hX dX3_readTale_41 (by decide) rfl ?_
      refine g_aload_n hX dX3_readTale_43 rfl rfl ?_
      refine g_bipush (v := nI 44) hX dX3_readTale_44 (by decide) ?_
      refine g_callV (md' := mX3_accept) (ci := 3) (As := [.int _]) hX hR dX3_readTale_46 clX3_47 okX3_accept rfl (by assumption) rfl rfl (Nat.le_of_ble_eq_true rfl) (Nat.le_of_ble_eq_true rfl) ⟨Nat.le_of_ble_eq_true rfl, Nat.le_of_ble_eq_true rfl⟩ ?_
      refine sp_X3_accept (a := b5) (c := 44) hO (ht.plc hO) plc_2 (by assumption) (by decide) (by decide) (fun t3 b6 lb6 nb6 => ?_)
      rw [plc_plc]
      change GW _ _ _ 49 _ [.int _] _ _ 0 0
      refine g_ifeq 60 hX dX3_readTale_49 (by decide) (fun c49 => ?_) (fun c49 => ?_)
      · rw [b2i_0] at c49
        refine g_iconst (v := nI 0) hX dX3_readTale_60 (by decide) ?_
        refine g_istore_n (lv' := [(3, .int _), (5, .int _), (4, .int _), (2, .int _), (0, .ref _), (1, .ref _)]) hX dX3_readTale_61 rfl (by decide) rfl ?_
        exact g_pick [4, 5, 3, 2, 1, 0] rfl (fr_X3_readTale_62 (c := false) hM hO hL ht h2 ha hTR hw h8 nb1 nb2 nb3 nb4 nb5 nb6 lb6 (by rw [c49, Bool.and_false, Bool.and_false]) hq)
      · rw [b2i_n0] at c49
        refine g_iload_n hX dX3_readTale_52 rfl rfl ?_
        refine g_ifeq 60 hX dX3_readTale_53 (by decide) (fun c53 => ?_) (fun c53 => ?_)
        · refine g_iconst (v := nI 0) hX dX3_readTale_60 (by decide) ?_
          refine g_istore_n (lv' := [(3, .int _), (5, .int _), (4, .int _), (2, .int _), (0, .ref _), (1, .ref _)]) hX dX3_readTale_61 rfl (by decide) rfl ?_
          exact g_pick [4, 5, 3, 2, 1, 0] rfl (fr_X3_readTale_62 (c := false) hM hO hL ht h2 ha hTR hw h8 nb1 nb2 nb3 nb4 nb5 nb6 lb6 (by rw [c28, Bool.false_and]) hq)
        · exact absurd nI0 c53
    · rw [b2i_n0] at c28
      refine g_iconst (v := nI 1) hX dX3_readTale_31 (by decide) ?_
      refine g_goto 36 hX dX3_readTale_32 (by decide) ?_
      refine g_istore_n (lv' := [(3, .int _), (4, .int _), (2, .int _), (0, .ref _), (1, .ref _)]) hX dX3_readTale_36 rfl (by decide) rfl ?_
      refine g_aload_n hX dX3_readTale_37 rfl rfl ?_
      refine g_callV (md' := mX3_readNumber) (ci := 3) (As := []) hX hR dX3_readTale_38 clX3_44 okX3_readNumber rfl (by assumption) rfl rfl (Nat.le_of_ble_eq_true rfl) (Nat.le_of_ble_eq_true rfl) ⟨Nat.le_of_ble_eq_true rfl, Nat.le_of_ble_eq_true rfl⟩ ?_
      refine sp_X3_readNumber (a := b4) hO (ht.plc hO) plc_2 (by assumption) (fun v3 b5 lb5 nb5 => ?_)
      rw [plc_plc]
      change GW _ _ _ 41 _ [.int _] _ _ 0 0
      refine g_istore (lv' := [(5, .int _), (3, .int _), (4, .int _), (2, .int _), (0, .ref _), (1, .ref _)]) hX dX3_readTale_41 (by decide) rfl ?_
      refine g_aload_n hX dX3_readTale_43 rfl rfl ?_
      refine g_bipush (v := nI 44) hX dX3_readTale_44 (by decide) ?_
      refine g_callV (md' := mX3_accept) (ci := 3) (As := [.int _]) hX hR dX3_readTale_46 clX3_47 okX3_accept rfl (by assumption) rfl rfl (Nat.le_of_ble_eq_true rfl) (Nat.le_of_ble_eq_true rfl) ⟨Nat.le_of_ble_eq_true rfl, Nat.le_of_ble_eq_true rfl⟩ ?_
      refine sp_X3_accept (a := b5) (c := 44) hO (ht.plc hO) plc_2 (by assumption) (by decide) (by decide) (fun t3 b6 lb6 nb6 => ?_)
      rw [plc_plc]
      change GW _ _ _ 49 _ [.int _] _ _ 0 0
      refine g_ifeq 60 hX dX3_readTale_49 (by decide) (fun c49 => ?_) (fun c49 => ?_)
      · rw [b2i_0] at c49
        refine g_iconst (v := nI 0) hX dX3_readTale_60 (by decide) ?_
        refine g_istore_n (lv' := [(3, .int _), (5, .int _), (4, .int _), (2, .int _), (0, .ref _), (1, .ref _)]) hX dX3_readTale_61 rfl (by decide) rfl ?_
        exact g_pick [4, 5, 3, 2, 1, 0] rfl (fr_X3_readTale_62 (c := false) hM hO hL ht h2 ha hTR hw h8 nb1 nb2 nb3 nb4 nb5 nb6 lb6 (by rw [c49, Bool.and_false, Bool.and_false]) hq)
      · rw [b2i_n0] at c49
        refine g_iload_n hX dX3_readTale_52 rfl rfl ?_
        refine g_ifeq 60 hX dX3_readTale_53 (by decide) (fun c53 => ?_) (fun c53 => ?_)
        · exact absurd c53 (by decide)
        · refine g_iconst (v := nI 1) hX dX3_readTale_56 (by decide) ?_
          refine g_goto 61 hX dX3_readTale_57 (by decide) ?_
          refine g_istore_n (lv' := [(3, .int _), (5, .int _), (4, .int _), (2, .int _), (0, .ref _), (1, .ref _)]) hX dX3_readTale_61 rfl (by decide) rfl ?_
          exact g_pick [4, 5, 3, 2, 1, 0] rfl (fr_X3_readTale_62 (c := true) hM hO hL ht h2 ha hTR hw h8 nb1 nb2 nb3 nb4 nb5 nb6 lb6 (by rw [c24, c28, c49]; rfl) hq)

set_option maxHeartbeats 4000000 in
set_option maxRecDepth 100000 in
theorem sp_X3_readItem {Γ : Ga} {d : Nat} {κ : Kp} {I : Ip} {Q : Option Value → Kp → Ip → Prop} {x tw a sz P T : Nat} {tx r : Nat → Int32} (hO : TxO κ x) (hL : TwL κ tw) (ht : TxC κ x I tx sz) (h2 : I x 2 = nI a) (ha : a < sz) (hTR : TwR κ I tw r P T) (hw : WfT r P T) (h8 : ∀ p, P ≤ p → p < 6 → r (8 + p) = 0) (hq : ∀ J : Ip, RdF κ x tw I J → (∀ y, itemF (Lc tx sz) (r, P, T, a) = some y → TwR κ J tw y.1 y.2.1 y.2.2.1 ∧ J x 2 = nI y.2.2.2) → Q (some (.int (b2i (itemF (Lc tx sz) (r, P, T, a)).isSome))) κ J) : Sp Γ (d + 4) mX3_readItem [.ref (x), .ref (tw)] κ I Q := by
  have hTw := hL.1
  obtain ⟨ht4, ht0, -⟩ := id hTw
  obtain ⟨xk, xz, lk, lz⟩ := id hO
  obtain ⟨r0, r1, -⟩ := id hTR
  obtain ⟨hw0, hw1, hP, hT, -⟩ := id hw
  obtain ⟨hxt, hxk⟩ := nx_tw hO hTw
  have hnx := Ne.symm hxt
  have hle := ht.le a
  intro X hM
  have hX := hM.std
  have hR := hM.room
  show GW _ mX3_readItem X 0 [(0, .ref (x)), (1, .ref (tw))] [] _ _ 0 0
  refine g_aload_n hX dX3_readItem_0 rfl rfl ?_
  refine g_callV (md' := mX3_peek) (ci := 3) (As := []) hX hR dX3_readItem_1 clX3_31 okX3_peek rfl (by assumption) rfl rfl (Nat.le_of_ble_eq_true rfl) (Nat.le_of_ble_eq_true rfl) ⟨Nat.le_of_ble_eq_true rfl, Nat.le_of_ble_eq_true rfl⟩ ?_
  refine sp_X3_peek hO ht h2 (by omega) ?_
  change GW _ _ _ 4 _ [.int _] _ _ 0 0
  refine g_istore_n (lv' := [(2, .int _), (0, .ref _), (1, .ref _)]) hX dX3_readItem_4 rfl (by decide) rfl ?_
  refine g_aload_n hX dX3_readItem_5 rfl rfl ?_
  refine g_dup hX dX3_readItem_6 rfl ?_
  refine g_getI hX dX3_readItem_7 flX3_24 (by assumption) rfl ?_
  rw [h2]
  refine g_iconst (v := nI 1) hX dX3_readItem_10 (by decide) ?_
  refine g_iadd hX dX3_readItem_11 ?_
  rw [nI_add]
  refine g_putI hX dX3_readItem_12 flX3_24 (by assumption) rfl rfl ?_
  refine g_iload_n hX dX3_readItem_15 rfl rfl ?_
  by_cases g1 : Lc tx sz a = 112
  · skip
    rw [item_p g1] at hq
    refine g_lookup 52 hX dX3_readItem_16 (by decide) (off := 36) (by rw [g1]; decide) (by decide) ?_
    refine g_aload_n hX dX3_readItem_52 rfl rfl ?_
    refine g_aload_n hX dX3_readItem_53 rfl rfl ?_
    refine g_callV (md' := mX3_readPerson) (ci := 3) (As := [.ref _]) hX hR dX3_readItem_54 clX3_35 okX3_readPerson rfl (by assumption) rfl rfl (Nat.le_of_ble_eq_true rfl) (Nat.le_of_ble_eq_true rfl) ⟨Nat.le_of_ble_eq_true rfl, Nat.le_of_ble_eq_true rfl⟩ ?_
    refine sp_X3_readPerson (a := a + 1) hO hL (ht.plc hO) plc_2 (by omega) (hTR.plc hO hTw) hw h8 (fun J hF hy => ?_)
    change GW _ _ _ 57 _ [.int _] _ _ 0 0
    refine g_iret hM dX3_readItem_57 rfl (b2i_nar _) ⟨Nat.le_of_ble_eq_true rfl, Nat.le_of_ble_eq_true rfl⟩ ?_
    exact hq J (RdF.rf.plc.tr hF) hy
  by_cases g2 : Lc tx sz a = 102
  · skip
    rw [item_f g2] at hq
    refine g_lookup 58 hX dX3_readItem_16 (by decide) (off := 42) (by rw [g2]; decide) (by decide) ?_
    refine g_aload_n hX dX3_readItem_58 rfl rfl ?_
    refine g_aload_n hX dX3_readItem_59 rfl rfl ?_
    refine g_callV (md' := mX3_readFriends) (ci := 3) (As := [.ref _]) hX hR dX3_readItem_60 clX3_38 okX3_readFriends rfl (by assumption) rfl rfl (Nat.le_of_ble_eq_true rfl) (Nat.le_of_ble_eq_true rfl) ⟨Nat.le_of_ble_eq_true rfl, Nat.le_of_ble_eq_true rfl⟩ ?_
    refine sp_X3_readFriends (a := a + 1) hO hL (ht.plc hO) plc_2 (by omega) (hTR.plc hO hTw) hw h8 (fun J hF hy => ?_)
    change GW _ _ _ 63 _ [.int _] _ _ 0 0
    refine g_iret hM dX3_readItem_63 rfl (b2i_nar _) ⟨Nat.le_of_ble_eq_true rfl, Nat.le_of_ble_eq_true rfl⟩ ?_
    exact hq J (RdF.rf.plc.tr hF) hy
  by_cases g3 : Lc tx sz a = 116
  · skip
    rw [item_t g3] at hq
    refine g_lookup 64 hX dX3_readItem_16 (by decide) (off := 48) (by rw [g3]; decide) (by decide) ?_
    refine g_aload_n hX dX3_readItem_64 rfl rfl ?_
    refine g_aload_n hX dX3_readItem_65 rfl rfl ?_
    refine g_callV (md' := mX3_readTale) (ci := 3) (As := [.ref _]) hX hR dX3_readItem_66 clX3_41 okX3_readTale rfl (by assumption) rfl rfl (Nat.le_of_ble_eq_true rfl) (Nat.le_of_ble_eq_true rfl) ⟨Nat.le_of_ble_eq_true rfl, Nat.le_of_ble_eq_true rfl⟩ ?_
    refine sp_X3_readTale (a := a + 1) hO hL (ht.plc hO) plc_2 (by omega) (hTR.plc hO hTw) hw h8 (fun J hF hy => ?_)
    change GW _ _ _ 69 _ [.int _] _ _ 0 0
    refine g_iret hM dX3_readItem_69 rfl (b2i_nar _) ⟨Nat.le_of_ble_eq_true rfl, Nat.le_of_ble_eq_true rfl⟩ ?_
    exact hq J (RdF.rf.plc.tr hF) hy
  rw [item_n g1 g2 g3] at hq
  refine g_lookup 70 hX dX3_readItem_16 (by decide) (off := 54) (lsw_no _ (by omega) g2 g1 g3) (by decide) ?_
  refine g_iconst (v := nI 0) hX dX3_readItem_70 (by decide) ?_
  refine g_iret hM dX3_readItem_71 rfl (rfl) ⟨Nat.le_of_ble_eq_true rfl, Nat.le_of_ble_eq_true rfl⟩ ?_
  exact q_f rfl (hq _ (RdF.rf.plc (a := a + 1)) (fun y hy => by cases hy))

set_option maxHeartbeats 4000000 in
set_option maxRecDepth 100000 in
theorem lp_X3_readInto_11 {Γ : Ga} {d : Nat} {κ : Kp} {Q : Option Value → Kp → Ip → Prop} {X : Cx} {I : Ip} {x tw sz : Nat} {tx : Nat → Int32} {RR : Option Nat × PsT} (hM : Mx Γ (d + 5) mX3_readInto Q X) (hO : TxO κ x) (hL : TwL κ tw) (ht : TxC κ x I tx sz) (hq : ∀ J : Ip, RdF κ x tw I J → (RR.1 = none → TwR κ J tw RR.2.1 RR.2.2.1 RR.2.2.2.1) → Q (some (.int (match RR.1 with | none => -1 | some a => nI a))) κ J) : ∀ (n : Nat) (s : PsT) (i : Nat) (J : Ip), i + n = 200 → RdF κ x tw I J → J x 2 = nI s.2.2.2 → TwR κ J tw s.1 s.2.1 s.2.2.1 → OkR s sz → fltF (Lc tx sz) sz n s = RR → GW Γ mX3_readInto X 11 [(2, .int (nI i)), (0, .ref (x)), (1, .ref (tw))] [] κ (J) 0 0 := by
  have hX := hM.std
  have hR := hM.room
  intro n
  induction n using Nat.strongRecOn with
  | ind n ih =>
    intro s i J hn hF h2 hTR hs hRF
    have hTw := hL.1
    obtain ⟨xk, xz, lk, lz⟩ := id hO
    have htJ := hF.txc hO hTw ht
    obtain ⟨s1, s2, s3, s4⟩ := id htJ
    obtain ⟨r, P, T, a⟩ := s
    obtain ⟨hw, h8, ha⟩ := id hs
    dsimp only at hw h8 ha h2 hTR ⊢
    refine g_iload_n hX dX3_readInto_11 rfl rfl ?_
    refine g_aload_n hX dX3_readInto_12 rfl rfl ?_
    refine g_getR hX dX3_readInto_13 flX3_9 (by assumption) rfl (by first | assumption | rfl) (by assumption) ?_
    refine g_alen hX dX3_readInto_16 (by assumption) (by decide) rfl ?_
    refine g_icmpge 52 hX dX3_readInto_17 (by decide) (fun c17 => ?_) (fun c17 => ?_)
    · rw [show Int32.ofNat 200 = nI 200 from rfl, nI_leI (by omega) (by omega)] at c17
      refine g_iconst (v := (-1)) hX dX3_readInto_52 (by decide) ?_
      refine g_iret hM dX3_readInto_53 rfl (rfl) ⟨Nat.le_of_ble_eq_true rfl, Nat.le_of_ble_eq_true rfl⟩ ?_
      obtain rfl : n = 0 := by omega
      have e : RR = (none, r, P, T, a) := hRF.symm
      subst e
      exact hq _ hF (fun _ => hTR)
    · rw [show Int32.ofNat 200 = nI 200 from rfl, nI_leI (by omega) (by omega)] at c17
      obtain ⟨k, rfl⟩ : ∃ k, n = k + 1 := ⟨n - 1, by omega⟩
      refine g_aload_n hX dX3_readInto_20 rfl rfl ?_
      refine g_getI hX dX3_readInto_21 flX3_24 (by assumption) rfl ?_
      rw [h2]
      refine g_aload_n hX dX3_readInto_24 rfl rfl ?_
      refine g_getI hX dX3_readInto_25 flX3_15 (by assumption) rfl ?_
      rw [s1]
      refine g_icmpge 52 hX dX3_readInto_28 (by decide) (fun c28 => ?_) (fun c28 => ?_)
      · rw [nI_leI (by omega) (by omega)] at c28
        refine g_iconst (v := (-1)) hX dX3_readInto_52 (by decide) ?_
        refine g_iret hM dX3_readInto_53 rfl (rfl) ⟨Nat.le_of_ble_eq_true rfl, Nat.le_of_ble_eq_true rfl⟩ ?_
        have e : RR = (none, r, P, T, a) := by rw [← hRF, fltF, if_neg (show ¬ a < sz by omega)]
        subst e
        exact hq _ hF (fun _ => hTR)
      · rw [nI_leI (by omega) (by omega)] at c28
        refine g_aload_n hX dX3_readInto_31 rfl rfl ?_
        refine g_getI hX dX3_readInto_32 flX3_24 (by assumption) rfl ?_
        rw [h2]
        refine g_istore_n (lv' := [(3, .int _), (2, .int _), (0, .ref _), (1, .ref _)]) hX dX3_readInto_35 rfl (by decide) rfl ?_
        refine g_aload_n hX dX3_readInto_36 rfl rfl ?_
        refine g_aload_n hX dX3_readInto_37 rfl rfl ?_
        refine g_callV (md' := mX3_readItem) (ci := 3) (As := [.ref _]) hX hR dX3_readInto_38 clX3_27 okX3_readItem rfl (by assumption) rfl rfl (Nat.le_of_ble_eq_true rfl) (Nat.le_of_ble_eq_true rfl) ⟨Nat.le_of_ble_eq_true rfl, Nat.le_of_ble_eq_true rfl⟩ ?_
        refine sp_X3_readItem (P := P) (T := T) hO hL htJ h2 (by omega) hTR hw h8 (fun J2 hF2 hy => ?_)
        change GW _ _ _ 41 _ [.int _] _ _ 0 0
        refine g_ifne 46 hX dX3_readInto_41 (by decide) (fun c41 => ?_) (fun c41 => ?_)
        · rw [b2i_n0] at c41
          obtain ⟨s2, g2⟩ := opt_yes c41
          obtain ⟨o1, o2⟩ := item_ok hs g2
          obtain ⟨y1, y2⟩ := hy s2 g2
          rw [fltF, if_pos (show a < sz by omega), g2] at hRF
          refine g_iinc (lv' := [(2, .int _), (3, .int _), (0, .ref _), (1, .ref _)]) hX dX3_readInto_46 rfl (by first | exact nI_inc _ | rfl) (by decide) rfl ?_
          refine g_goto 11 hX dX3_readInto_49 (by decide) ?_
          exact g_pick [0, 2, 3] rfl (ih k (by omega) s2 (i + 1) J2 (by omega) (hF.tr hF2) y2 y1 o1 hRF)
        · rw [b2i_0] at c41
          replace c41 := opt_no c41
          rw [fltF, if_pos (show a < sz by omega), c41] at hRF
          refine g_iload_n hX dX3_readInto_44 rfl rfl ?_
          refine g_iret hM dX3_readInto_45 rfl (rfl) ⟨Nat.le_of_ble_eq_true rfl, Nat.le_of_ble_eq_true rfl⟩ ?_
          subst hRF
          exact hq _ (hF.tr hF2) (fun h => by cases h)

set_option maxHeartbeats 4000000 in
set_option maxRecDepth 100000 in
theorem sp_X3_readInto {Γ : Ga} {d : Nat} {κ : Kp} {I : Ip} {Q : Option Value → Kp → Ip → Prop} {x tw sz : Nat} {tx : Nat → Int32} (hO : TxO κ x) (hL : TwL κ tw) (ht : TxC κ x I tx sz) (hq : ∀ J : Ip, RdF κ x tw I J → ((flt0 tx sz).1 = none → TwR κ J tw (flt0 tx sz).2.1 (flt0 tx sz).2.2.1 (flt0 tx sz).2.2.2.1) → Q (some (.int (match (flt0 tx sz).1 with | none => -1 | some a => nI a))) κ J) : Sp Γ (d + 5) mX3_readInto [.ref (x), .ref (tw)] κ I Q := by
  have hTw := hL.1
  obtain ⟨ht4, ht0, -⟩ := id hTw
  obtain ⟨xk, xz, lk, lz⟩ := id hO
  obtain ⟨hxt, hxk⟩ := nx_tw hO hTw
  have hnx := Ne.symm hxt
  intro X hM
  have hX := hM.std
  have hR := hM.room
  show GW _ mX3_readInto X 0 [(0, .ref (x)), (1, .ref (tw))] [] _ _ 0 0
  refine g_aload_n hX dX3_readInto_0 rfl rfl ?_
  refine g_callV (md' := mX4_clear) (ci := 4) (As := []) hX hR dX3_readInto_1 clX3_19 okX4_clear rfl (by assumption) rfl rfl (Nat.le_of_ble_eq_true rfl) (Nat.le_of_ble_eq_true rfl) ⟨Nat.le_of_ble_eq_true rfl, Nat.le_of_ble_eq_true rfl⟩ ?_
  refine sp_X4_clear hTw ?_
  change GW _ _ _ 4 _ [] _ _ 0 0
  refine g_aload_n hX dX3_readInto_4 rfl rfl ?_
  refine g_iconst (v := nI 0) hX dX3_readInto_5 (by decide) ?_
  refine g_putI hX dX3_readInto_6 flX3_24 (by assumption) rfl rfl ?_
  refine g_iconst (v := nI 0) hX dX3_readInto_9 (by decide) ?_
  refine g_istore_n (lv' := [(2, .int _), (0, .ref _), (1, .ref _)]) hX dX3_readInto_10 rfl (by decide) rfl ?_
  refine g_pick [0, 1, 2] rfl (lp_X3_readInto_11 (RR := flt0 tx sz) hM hO hL ht hq 200 (fun _ => nI 0, 0, 0, 0) 0 _ rfl ?_ ?_ ?_ (ok_0 sz) rfl)
  · refine ⟨fun b g1 g2 g3 => by rw [up_ne _ _ g1, up_ne _ _ g2], fun k hk => by rw [up_same, up_ne _ _ hk, up_ne _ _ hxt]⟩
  · rw [up_same, up_same]
  · refine tw_0 ?_ ?_
    · rw [up_ne _ _ hnx, up_same, up_ne _ _ (by decide), up_same]
    · rw [up_ne _ _ hnx, up_same, up_same]

set_option maxHeartbeats 4000000 in
set_option maxRecDepth 100000 in
theorem sp_X3_size {Γ : Ga} {d : Nat} {κ : Kp} {I : Ip} {Q : Option Value → Kp → Ip → Prop} {x : Nat} (hO : TxO κ x) (hq : Q (some (.int (I x 1))) κ I) : Sp Γ d mX3_size [.ref (x)] κ I Q := by
  obtain ⟨xk, xz, lk, lz⟩ := id hO
  intro X hM
  have hX := hM.std
  show GW _ mX3_size X 0 [(0, .ref (x))] [] _ _ 0 0
  refine g_aload_n hX dX3_size_0 rfl rfl ?_
  refine g_getI hX dX3_size_1 flX3_15 (by assumption) rfl ?_
  refine g_iret hM dX3_size_4 rfl (rfl) ⟨Nat.le_of_ble_eq_true rfl, Nat.le_of_ble_eq_true rfl⟩ ?_
  exact hq

set_option maxHeartbeats 4000000 in
set_option maxRecDepth 100000 in
theorem sp_X3_empty {Γ : Ga} {d : Nat} {κ : Kp} {I : Ip} {Q : Option Value → Kp → Ip → Prop} {x : Nat} (hO : TxO κ x) (hq : Q none κ (va_up I x (va_up (I x) 1 (nI 0)))) : Sp Γ d mX3_empty [.ref (x)] κ I Q := by
  obtain ⟨xk, xz, lk, lz⟩ := id hO
  intro X hM
  have hX := hM.std
  show GW _ mX3_empty X 0 [(0, .ref (x))] [] _ _ 0 0
  refine g_aload_n hX dX3_empty_0 rfl rfl ?_
  refine g_iconst (v := nI 0) hX dX3_empty_1 (by decide) ?_
  refine g_putI hX dX3_empty_2 flX3_15 (by assumption) rfl rfl ?_
  refine g_vret hM dX3_empty_5 rfl ⟨Nat.le_of_ble_eq_true rfl, Nat.le_of_ble_eq_true rfl⟩ ?_
  exact hq

set_option maxHeartbeats 4000000 in
set_option maxRecDepth 100000 in
theorem sp_X3_add {Γ : Ga} {d : Nat} {κ : Kp} {I : Ip} {Q : Option Value → Kp → Ip → Prop} {x sz c : Nat} (hO : TxO κ x) (h1 : I x 1 = nI sz) (hsz : sz ≤ 200) (hc : c ≤ 126) (hq0 : sz = 200 → Q (some (.int (b2i false))) κ I) (hq : sz < 200 → Q (some (.int (b2i true))) κ (va_up (va_up I (κ.2.1 x 0) (va_up (I (κ.2.1 x 0)) sz (nI c))) x (va_up (I x) 1 (nI (sz + 1))))) : Sp Γ d mX3_add [.ref (x), .int (nI c)] κ I Q := by
  obtain ⟨xk, xz, lk, lz⟩ := id hO
  have hnl := hO.nl
  intro X hM
  have hX := hM.std
  show GW _ mX3_add X 0 [(0, .ref (x)), (1, .int (nI c))] [] _ _ 0 0
  refine g_aload_n hX dX3_add_0 rfl rfl ?_
  refine g_getI hX dX3_add_1 flX3_15 (by assumption) rfl ?_
  refine g_iflt 19 hX dX3_add_4 (by decide) (fun c4 => ?_) (fun c4 => ?_)
  · rw [h1, x_lt_0, nI_toInt (by omega)] at c4
    exfalso; omega
  · rw [h1, x_lt_0, nI_toInt (by omega)] at c4
    refine g_aload_n hX dX3_add_7 rfl rfl ?_
    refine g_getI hX dX3_add_8 flX3_15 (by assumption) rfl ?_
    refine g_aload_n hX dX3_add_11 rfl rfl ?_
    refine g_getR hX dX3_add_12 flX3_9 (by assumption) rfl (by first | assumption | rfl) (by assumption) ?_
    refine g_alen hX dX3_add_15 (by assumption) (by decide) rfl ?_
    refine g_icmplt 21 hX dX3_add_16 (by decide) (fun c16 => ?_) (fun c16 => ?_)
    · rw [h1, show Int32.ofNat 200 = nI 200 from rfl, lt_nI (by omega) (by omega)] at c16
      refine g_aload_n hX dX3_add_21 rfl rfl ?_
      refine g_getR hX dX3_add_22 flX3_9 (by assumption) rfl (by first | assumption | rfl) (by assumption) ?_
      refine g_aload_n hX dX3_add_25 rfl rfl ?_
      refine g_getI hX dX3_add_26 flX3_15 (by assumption) rfl ?_
      refine g_iload_n hX dX3_add_29 rfl rfl ?_
      refine g_i2c hX dX3_add_30 ?_
      rw [i2c_nI c (by omega)]
      refine g_castN hX dX3_add_31 (by assumption) (h1) (by omega) (by omega) (by show Value.int ((nI c).toUInt32 % 65536).toInt32 = _; rw [i2c_nI c (by omega)]) ?_
      refine g_aload_n hX dX3_add_32 rfl rfl ?_
      refine g_dup hX dX3_add_33 rfl ?_
      refine g_getI hX dX3_add_34 flX3_15 (by assumption) rfl ?_
      rw [up_ne _ _ (Ne.symm hnl), h1]
      refine g_iconst (v := nI 1) hX dX3_add_37 (by decide) ?_
      refine g_iadd hX dX3_add_38 ?_
      rw [nI_add]
      refine g_putI hX dX3_add_39 flX3_15 (by assumption) rfl rfl ?_
      refine g_iconst (v := nI 1) hX dX3_add_42 (by decide) ?_
      refine g_iret hM dX3_add_43 rfl (rfl) ⟨Nat.le_of_ble_eq_true rfl, Nat.le_of_ble_eq_true rfl⟩ ?_
      have hz := hq (by omega)
      rw [up_ne I _ (Ne.symm hnl)]
      exact q_t rfl hz
    · rw [h1, show Int32.ofNat 200 = nI 200 from rfl, lt_nI (by omega) (by omega)] at c16
      refine g_iconst (v := nI 0) hX dX3_add_19 (by decide) ?_
      refine g_iret hM dX3_add_20 rfl (rfl) ⟨Nat.le_of_ble_eq_true rfl, Nat.le_of_ble_eq_true rfl⟩ ?_
      exact q_f rfl (hq0 (by omega))
