theorem tyX_kind (ci k : Nat) : tyO ci k = .int ∨ (∃ n, tyO ci k = .object n) ∨ ∃ t, tyO ci k = .array t := by
  unfold tyO
  split <;> first | (unfold tyX0; split <;> simp; done) | (unfold tyX1; split <;> simp; done) | (unfold tyX2; split <;> simp; done) | (unfold tyX3; split <;> simp; done) | (unfold tyX4; split <;> simp; done) | (unfold tyX5; split <;> simp; done) | (unfold tyX6; split <;> simp; done)
theorem fvl_dflt (ci k : Nat) : defaultValue (tyO ci k) = fvl (tyO ci k) 0 0 := by
  rcases tyX_kind ci k with h | ⟨n, h⟩ | ⟨t, h⟩ <;> rw [h] <;> rfl
theorem wg_of {w : Cond} (h : w ∈ lw_tbl) (hg : goodWord w = true) : w ∈ wg := List.mem_filter.mpr ⟨h, hg⟩
theorem wg_all {ws : List Cond} (h : ws.all (fun w => decide (w ∈ lw_tbl) && goodWord w) = true) : ∀ w ∈ ws, w ∈ wg := by
  intro w hw
  have h1 := List.all_eq_true.mp h w hw
  simp only [Bool.and_eq_true, decide_eq_true_eq] at h1
  exact wg_of h1.1 h1.2
def ClOK (ci : Nat) (r : vw_C) : Prop := (∀ w ∈ u_ws r.1 r.2.1 r.2.2, w ∈ wg) ∧ (∀ k, k < r.2.2 → parseFieldDescriptor (r.2.1 k).2.2.1 = some (tyO ci k)) ∧ ∀ a, a < r.2.2 → ∀ b, b < r.2.2 → a ≠ b → (r.2.1 a).2.1 ≠ (r.2.1 b).2.1
theorem cl_ok {ci : Nat} {r : vw_C} (h : vwCl[ci]? = some r) : ClOK ci r := by
  match ci, h with
  | 0, h => cases h; exact ⟨wg_all (by decide +kernel), tyX0_ok, nmX0⟩
  | 1, h => cases h; exact ⟨wg_all (by decide +kernel), tyX1_ok, nmX1⟩
  | 2, h => cases h; exact ⟨wg_all (by decide +kernel), tyX2_ok, nmX2⟩
  | 3, h => cases h; exact ⟨wg_all (by decide +kernel), tyX3_ok, nmX3⟩
  | 4, h => cases h; exact ⟨wg_all (by decide +kernel), tyX4_ok, nmX4⟩
  | 5, h => cases h; exact ⟨wg_all (by decide +kernel), tyX5_ok, nmX5⟩
  | 6, h => cases h; exact ⟨wg_all (by decide +kernel), tyX6_ok, nmX6⟩
  | n + 7, h => simp [vwCl] at h
/-- the entry idx of class own's pool is the field k of the class ci -/
def FL (own : String) (ci k idx : Nat) : Prop := ∃ r : vw_C, vwCl[ci]? = some r ∧ k < r.2.2 ∧ (Cond.fieldLink own idx (r.2.1 k).1 (r.2.1 k).2.1 (r.2.1 k).2.2.1 ∈ wg ∨ ∃ host, Cond.fieldLinkNest own idx (r.2.1 k).1 (r.2.1 k).2.1 (r.2.1 k).2.2.1 host ∈ nw)
def finO (ci k : Nat) : Bool := match vwCl[ci]? with
  | some r => (r.2.1 k).2.2.2
  | none => true
section GM
variable {Γ : Ga} {md : Md} {X : Cx} {pc : Nat} {lv lv' : List (Nat × Value)} {r : List Value} {κ : Kp} {I : Ip} {a b : Nat}
theorem g_get {x ci j idx : Nat} {v : Value} (hX : Std Γ md X) (hd : decode md.2.1 pc = .ok (.getfield idx, 3)) (hf : FL md.1.cls ci j idx) (hk : κ.1 x = (ci, 0)) (hv : fvl (tyO ci j) (κ.2.1 x j) (I x j) = v) (k : GW Γ md X (pc + 3) lv (v :: r) κ I a b) : GW Γ md X pc lv (.ref x :: r) κ I a b := by
  obtain ⟨p, l, e, R, s, m, args, below, meth, c, Q⟩ := X
  obtain ⟨hx, hb, hml, hown, hts, hnw, hK, -⟩ := hX
  intro H locs ls hR hS hl
  obtain ⟨r0, h1, h2, h3⟩ := hf
  have hcell := (hR.2.2 x).1
  rw [hk] at hcell
  obtain ⟨cell, q1, q2, q3, q4⟩ := hcell r0 h1
  obtain ⟨hSl, hfc, kC, hkC, hkind⟩ := hK.1 ci r0 h1
  obtain ⟨cf, kf, fi, f, hi, hsl⟩ := hSl j h2
  have hst := (u_facts hfc hkC (u_lays hts (cl_ok h1).1 h2) hi).1
  have hu : cell.slots[f.slot]? = some v := by rw [hsl, q4 j h2, ← hv]
  rcases h3 with h3 | ⟨host, h3⟩
  · exact W.getf hx hb hown (hts _ h3) hi hst q1 (by rw [q3]; exact fun h => by cases h) hu rfl rfl hd (k H locs ls hR hS hl)
  · exact va_Wgetf hx hb hown (va_Nw.use (nw_tab h3) (hnw _ h3)) hi hst q1 (by rw [q3]; exact fun h => by cases h) hu rfl rfl hd (k H locs ls hR hS hl)
theorem g_getI {x ci j idx : Nat} (hX : Std Γ md X) (hd : decode md.2.1 pc = .ok (.getfield idx, 3)) (hf : FL md.1.cls ci j idx) (hk : κ.1 x = (ci, 0)) (ht : tyO ci j = .int) (k : GW Γ md X (pc + 3) lv (.int (I x j) :: r) κ I a b) : GW Γ md X pc lv (.ref x :: r) κ I a b :=
  g_get hX hd hf hk (by rw [ht]; rfl) k
theorem g_getR {x ci j idx y : Nat} (hX : Std Γ md X) (hd : decode md.2.1 pc = .ok (.getfield idx, 3)) (hf : FL md.1.cls ci j idx) (hk : κ.1 x = (ci, 0)) (ht : fvl (tyO ci j) y 0 = rv y) (hy : κ.2.1 x j = y) (h0 : y ≠ 0) (k : GW Γ md X (pc + 3) lv (.ref y :: r) κ I a b) : GW Γ md X pc lv (.ref x :: r) κ I a b := by
  refine g_get hX hd hf hk ?_ k
  rw [hy, ← rv_ne h0]
  rcases tyX_kind ci j with h | ⟨n, h⟩ | ⟨t, h⟩
  · rw [h] at ht
    exfalso
    rw [rv_ne h0] at ht
    cases ht
  · rw [h]; rfl
  · rw [h]; rfl
theorem ob_put {D : va_G} {s : State} {args : Array Value} {ci j : Nat} {r0 : vw_C} {x : Nat} {H' : Heap} {V : Nat → Value} {v : Value} {tys : List (ClassId × FieldType)} {cell : Cell} (hts : ∀ w ∈ wg, w.before args s = true) (hK : va_K D vwCl tys s) (h1 : vwCl[ci]? = some r0) (h2 : j < r0.2.2) (q2 : cell.cls = D.1 ci) (q3 : cell.vm = .none) (q4 : ∀ k, k < r0.2.2 → cell.slots[D.2 ci k]? = some (V k)) (e1 : H'[x]? = some (cell.setSlot (D.2 ci j) v)) : t_OB x (D.1 ci) r0.2.2 (D.2 ci) H' (updV V j v) := by
  have hap := va_apart (own := r0.1) hts (cl_ok h1).1 _ (cl_ok h1).2.1 (cl_ok h1).2.2 hK h1
  exact ⟨_, e1, q2, q3, t_set q4 hap h2 v⟩
theorem g_putI {x ci j idx : Nat} {v : Int32} (hX : Std Γ md X) (hd : decode md.2.1 pc = .ok (.putfield idx, 3)) (hf : FL md.1.cls ci j idx) (hk : κ.1 x = (ci, 0)) (ht : tyO ci j = .int) (hnf : finO ci j = false) (k : GW Γ md X (pc + 3) lv r κ (va_up I x (va_up (I x) j v)) a b) : GW Γ md X pc lv (.int v :: .ref x :: r) κ I a b := by
  obtain ⟨p, l, e, R, s, m, args, below, meth, c, Q⟩ := X
  obtain ⟨hx, hb, hml, hown, hts, hnw, hK, -⟩ := hX
  intro H locs ls hR hS hl
  obtain ⟨r0, h1, h2, h3⟩ := hf
  have hcell := (hR.2.2 x).1
  rw [hk] at hcell
  obtain ⟨cell, q1, q2, q3, q4⟩ := hcell r0 h1
  obtain ⟨hSl, hfc, kC, hkC, hkind⟩ := hK.1 ci r0 h1
  obtain ⟨cf, kf, fi, f, hi, hsl⟩ := hSl j h2
  have hst := (u_facts hfc hkC (u_lays hts (cl_ok h1).1 h2) hi).1
  have hnf2 : (r0.2.1 j).2.2.2 = false := by
    unfold finO at hnf
    rw [h1] at hnf
    exact hnf
  have hlay := hts _ ((cl_ok h1).1 _ (u_in_lay h2))
  unfold u_lay at hlay
  rw [if_neg (by rw [hnf2]; decide)] at hlay
  have h6 := u_store (v := .int v) hfc hkC hkind hlay hi ((cl_ok h1).2.1 j h2) (by rw [ht]; rfl) (by rw [ht]; rfl)
  have hA : Γ.2.2 ≤ x := (hR.2.1 x (by rw [hk]; have := (List.getElem?_eq_some_iff.mp h1).1; have h7 : vwCl.length = 7 := rfl; show ci < 10; omega)).1
  have done : ∀ H' : Heap, H'[x]? = some (cell.setSlot f.slot (.int v)) → H'.size = H.size → (∀ q : Nat, q ≠ x → H'[q]? = H[q]?) → W p l e R s m args below meth c H' (locs ++ [⟨x, f.slot⟩]) a b Q (F0 m (pc + 3) ls r) := by
    intro H' e1 e2 e3
    refine k H' _ ls (hR.upI e2 e3 ?_) (hS.put e2 e3 hA) hl
    rw [hk]
    refine ⟨fun r1 hr1 => ?_, fun e => ?_, fun e => ?_, fun e => ?_⟩
    · cases h1.symm.trans hr1
      rw [hsl] at e1
      refine (ob_put hts hK h1 h2 q2 q3 q4 e1).to (fun k2 _ => ?_)
      by_cases hkj : k2 = j
      · subst hkj
        rw [show tyO ci k2 = .int from ht]
        simp [updV, va_up, fvl]
      · simp [updV, va_up, hkj]
    all_goals
      exfalso
      have h7 : vwCl.length = 7 := rfl
      have := (List.getElem?_eq_some_iff.mp h1).1
      have e' : ci = _ := e
      omega
  rcases h3 with h3 | ⟨host, h3⟩
  · exact W.putK hx hb (f := f) ⟨hown, hts _ h3, ⟨_, _, _, hi⟩, hst⟩ (by rw [q2]; exact h6) q1 q3 (by rw [hsl]; exact k2_hasslot (q4 j h2)) rfl rfl hd done
  · exact va_WputK hx hb (f := f) hown (va_Nw.use (nw_tab h3) (hnw _ h3)) hi hst (by rw [q2]; exact h6) q1 q3 (by rw [hsl]; exact k2_hasslot (q4 j h2)) rfl rfl hd done
theorem g_putR {x ci j idx y : Nat} (hX : Std Γ md X) (hd : decode md.2.1 pc = .ok (.putfield idx, 3)) (hf : FL md.1.cls ci j idx) (hk : κ.1 x = (ci, 0)) (ht : fvl (tyO ci j) 1 0 = rv 1) (hy : y ≠ 0) (hnf : finO ci j = false ∨ (md.1.name = "<init>" ∧ ∀ r0 : vw_C, vwCl[ci]? = some r0 → (r0.2.1 j).1 = md.1.cls ∧ Cond.fieldLink md.1.cls idx (r0.2.1 j).1 (r0.2.1 j).2.1 (r0.2.1 j).2.2.1 ∈ wg)) (k : GW Γ md X (pc + 3) lv r (κ.1, va_up κ.2.1 x (va_up (κ.2.1 x) j y), κ.2.2) I a b) : GW Γ md X pc lv (.ref y :: .ref x :: r) κ I a b := by
  obtain ⟨p, l, e, R, s, m, args, below, meth, c, Q⟩ := X
  obtain ⟨hx, hb, hml, hown, hts, hnw, hK, -, -, -, hname, -⟩ := hX
  intro H locs ls hR hS hl
  obtain ⟨r0, h1, h2, h3⟩ := hf
  have hcell := (hR.2.2 x).1
  rw [hk] at hcell
  obtain ⟨cell, q1, q2, q3, q4⟩ := hcell r0 h1
  obtain ⟨hSl, hfc, kC, hkC, hkind⟩ := hK.1 ci r0 h1
  obtain ⟨cf, kf, fi, f, hi, hsl⟩ := hSl j h2
  have hst := (u_facts hfc hkC (u_lays hts (cl_ok h1).1 h2) hi).1
  have hfit : narrow (tyO ci j) (.ref y) = .ref y ∧ fits (tyO ci j) (.ref y) = true := by
    rcases tyX_kind ci j with h | ⟨n, h⟩ | ⟨t, h⟩
    · rw [h] at ht
      cases ht
    · rw [h]; exact ⟨rfl, rfl⟩
    · rw [h]; exact ⟨rfl, rfl⟩
  have hval : fvl (tyO ci j) y (I x j) = .ref y := by
    rcases tyX_kind ci j with h | ⟨n, h⟩ | ⟨t, h⟩
    · rw [h] at ht
      cases ht
    · rw [h]; exact rv_ne hy
    · rw [h]; exact rv_ne hy
  have hA : Γ.2.2 ≤ x := (hR.2.1 x (by rw [hk]; have := (List.getElem?_eq_some_iff.mp h1).1; have h7 : vwCl.length = 7 := rfl; show ci < 10; omega)).1
  have done : ∀ H' : Heap, H'[x]? = some (cell.setSlot f.slot (.ref y)) → H'.size = H.size → (∀ q : Nat, q ≠ x → H'[q]? = H[q]?) → W p l e R s m args below meth c H' (locs ++ [⟨x, f.slot⟩]) a b Q (F0 m (pc + 3) ls r) := by
    intro H' e1 e2 e3
    refine k H' _ ls (hR.upR e2 e3 ?_) (hS.put e2 e3 hA) hl
    rw [hk]
    refine ⟨fun r1 hr1 => ?_, fun e => ?_, fun e => ?_, fun e => ?_⟩
    · cases h1.symm.trans hr1
      rw [hsl] at e1
      refine (ob_put hts hK h1 h2 q2 q3 q4 e1).to (fun k2 _ => ?_)
      by_cases hkj : k2 = j
      · subst hkj
        simp only [updV, va_up, if_true]
        exact hval.symm
      · simp [updV, va_up, hkj]
    all_goals
      exfalso
      have h7 : vwCl.length = 7 := rfl
      have := (List.getElem?_eq_some_iff.mp h1).1
      have e' : ci = _ := e
      omega
  rcases hnf with hnf | ⟨hin, hnf⟩
  · have hnf2 : (r0.2.1 j).2.2.2 = false := by
      unfold finO at hnf
      rw [h1] at hnf
      exact hnf
    have hlay := hts _ ((cl_ok h1).1 _ (u_in_lay h2))
    unfold u_lay at hlay
    rw [if_neg (by rw [hnf2]; decide)] at hlay
    have h6 := u_store (v := .ref y) hfc hkC hkind hlay hi ((cl_ok h1).2.1 j h2) hfit.1 hfit.2
    rcases h3 with h3 | ⟨host, h3⟩
    · exact W.putK hx hb (f := f) ⟨hown, hts _ h3, ⟨_, _, _, hi⟩, hst⟩ (by rw [q2]; exact h6) q1 q3 (by rw [hsl]; exact k2_hasslot (q4 j h2)) rfl rfl hd done
    · exact va_WputK hx hb (f := f) hown (va_Nw.use (nw_tab h3) (hnw _ h3)) hi hst (by rw [q2]; exact h6) q1 q3 (by rw [hsl]; exact k2_hasslot (q4 j h2)) rfl rfl hd done
  · obtain ⟨hdecl, hlk⟩ := hnf r0 h1
    have h6 := u_fits (v := .ref y) hfc hkC hkind (u_lays hts (cl_ok h1).1 h2) hi ((cl_ok h1).2.1 j h2) hfit.1 hfit.2
    by_cases hfin : (r0.2.1 j).2.2.2 = true
    · have hlay := hts _ ((cl_ok h1).1 _ (u_in_lay h2))
      unfold u_lay at hlay
      rw [if_pos hfin] at hlay
      have hcf : m.cls = cf := by
        obtain ⟨_, _, c', _, _, _, -, -, hf', -, -, -, hown2, -⟩ := Cond.laysFinal_spec hlay
        have e1 : c' = cf := by have := hi.symm.trans hf'; simp at this; exact this.1.symm
        rw [hdecl] at hown2
        rw [← e1]; exact Option.some.inj (hown.symm.trans hown2)
      exact W.putFinK hx hb hown (hts _ hlk) hi hst hcf (hname.trans hin) (by rw [q2]; exact h6) q1 q3 (by rw [hsl]; exact k2_hasslot (q4 j h2)) rfl rfl hd done
    · have hlay := hts _ ((cl_ok h1).1 _ (u_in_lay h2))
      unfold u_lay at hlay
      rw [if_neg hfin] at hlay
      have h7 := u_store (v := .ref y) hfc hkC hkind hlay hi ((cl_ok h1).2.1 j h2) hfit.1 hfit.2
      exact W.putK hx hb (f := f) ⟨hown, hts _ hlk, ⟨_, _, _, hi⟩, hst⟩ (by rw [q2]; exact h7) q1 q3 (by rw [hsl]; exact k2_hasslot (q4 j h2)) rfl rfl hd done
-- rows
theorem cell_7 {H : Heap} {x n : Nat} (hR : Rep Γ κ I H) (hk : κ.1 x = (7, n)) : H[x]? = some (arrV Γ.2.1.1 n (fun j => .int (I x j))) := by
  have h := (hR.2.2 x).2.1
  rw [hk] at h
  exact h rfl
theorem cell_8 {H : Heap} {x n : Nat} (hR : Rep Γ κ I H) (hk : κ.1 x = (8, n)) : H[x]? = some (arrV Γ.2.1.2.1 n (fun j => .int (I x j))) := by
  have h := (hR.2.2 x).2.2.1
  rw [hk] at h
  exact h rfl
theorem cell_9 {H : Heap} {x n : Nat} (hR : Rep Γ κ I H) (hk : κ.1 x = (9, n)) : H[x]? = some (arrV Γ.2.1.2.2 n (fun j => rv (κ.2.1 x j))) := by
  have h := (hR.2.2 x).2.2.2
  rw [hk] at h
  exact h rfl
theorem arr_upd {cA : ClassId} {n : Nat} {f : Nat → Int32} {i : Nat} {v : Int32} : (arrV cA n (fun j => .int (f j))).setSlot i (.int v) = arrV cA n (fun j => .int (va_up f i v j)) := by
  rw [arrV_store]
  congr 1
  funext q
  by_cases hq : q = i
  · subst hq; simp [updV, va_up]
  · simp [updV, va_up, hq]
theorem g_iald {x n : Nat} {i : Int32} (hX : Std Γ md X) (hd : decode md.2.1 pc = .ok (.iaload, 1)) (hk : κ.1 x = (8, n)) (hi : vp_in i n) (k : GW Γ md X (pc + 1) lv (.int (I x i.toNatClampNeg) :: r) κ I a b) : GW Γ md X pc lv (.int i :: .ref x :: r) κ I a b := by
  obtain ⟨p, l, e, R, s, m, args, below, meth, c, Q⟩ := X
  obtain ⟨hx, hb, hml, hown, hts, hnw, hK, -⟩ := hX
  intro H locs ls hR hS hl
  have hlt : i.toNatClampNeg < n := Nat.not_le.mp fun q => hi (Or.inr q)
  exact W.iald (v := .int (I x i.toNatClampNeg)) hx hb (cell_8 hR hk) ((hK.2 1 _ rfl).1 n (fun j => .int (I x j))) (fun q => by cases q) (by rw [arrV_size]; exact hi) (by rw [arrV_read _ _ hlt]) rfl rfl hd (k H locs ls hR hS hl)
theorem g_cald {x n : Nat} {i : Int32} (hX : Std Γ md X) (hd : decode md.2.1 pc = .ok (.caload, 1)) (hk : κ.1 x = (7, n)) (hi : vp_in i n) (k : GW Γ md X (pc + 1) lv (.int (I x i.toNatClampNeg) :: r) κ I a b) : GW Γ md X pc lv (.int i :: .ref x :: r) κ I a b := by
  obtain ⟨p, l, e, R, s, m, args, below, meth, c, Q⟩ := X
  obtain ⟨hx, hb, hml, hown, hts, hnw, hK, -⟩ := hX
  intro H locs ls hR hS hl
  have hlt : i.toNatClampNeg < n := Nat.not_le.mp fun q => hi (Or.inr q)
  exact W.cald (v := .int (I x i.toNatClampNeg)) hx hb (cell_7 hR hk) ((hK.2 0 _ rfl).1 n (fun j => .int (I x j))) (fun q => by cases q) (by rw [arrV_size]; exact hi) (by rw [arrV_read _ _ hlt]) rfl rfl hd (k H locs ls hR hS hl)
theorem g_aald {x n y : Nat} {i : Int32} (hX : Std Γ md X) (hd : decode md.2.1 pc = .ok (.aaload, 1)) (hk : κ.1 x = (9, n)) (hi : vp_in i n) (hy : κ.2.1 x i.toNatClampNeg = y) (h0 : y ≠ 0) (k : GW Γ md X (pc + 1) lv (.ref y :: r) κ I a b) : GW Γ md X pc lv (.int i :: .ref x :: r) κ I a b := by
  obtain ⟨p, l, e, R, s, m, args, below, meth, c, Q⟩ := X
  obtain ⟨hx, hb, hml, hown, hts, hnw, hK, -⟩ := hX
  intro H locs ls hR hS hl
  have hlt : i.toNatClampNeg < n := Nat.not_le.mp fun q => hi (Or.inr q)
  exact W.aald (v := .ref y) (ty := .object "ChurnTalk$State") hx hb (cell_9 hR hk) ((hK.2 2 _ rfl).1 n (fun j => rv (κ.2.1 x j))) rfl (fun q => by cases q) (by rw [arrV_size]; exact hi) (by rw [arrV_read _ _ hlt, hy, rv_ne h0]) rfl rfl hd (k H locs ls hR hS hl)
theorem in_ours {H : Heap} {x ci n : Nat} (hR : Rep Γ κ I H) (hk : κ.1 x = (ci, n)) (hc : ci < 10) : Γ.2.2 ≤ x := (hR.2.1 x (by rw [hk]; exact hc)).1
theorem g_iast {x n : Nat} {i v : Int32} (hX : Std Γ md X) (hd : decode md.2.1 pc = .ok (.iastore, 1)) (hk : κ.1 x = (8, n)) (hi : vp_in i n) (k : GW Γ md X (pc + 1) lv r κ (va_up I x (va_up (I x) i.toNatClampNeg v)) a b) : GW Γ md X pc lv (.int v :: .int i :: .ref x :: r) κ I a b := by
  obtain ⟨p, l, e, R, s, m, args, below, meth, c, Q⟩ := X
  obtain ⟨hx, hb, hml, hown, hts, hnw, hK, -⟩ := hX
  intro H locs ls hR hS hl
  refine W.iast hx hb (cell_8 hR hk) ((hK.2 1 _ rfl).1 n (fun j => .int (I x j))) (fun q => by cases q) (by rw [arrV_size]; exact hi) rfl rfl hd fun H' e1 e2 e3 => ?_
  refine k H' _ ls (hR.upI e2 e3 ?_) (hS.put e2 e3 (in_ours hR hk (by decide))) hl
  rw [hk]
  refine ⟨fun r1 hr1 => (by simp [vwCl] at hr1), fun e => (by cases e), fun _ => ?_, fun e => (by cases e)⟩
  rw [e1, arr_upd]
theorem g_cast {x n : Nat} {i v : Int32} (hX : Std Γ md X) (hd : decode md.2.1 pc = .ok (.castore, 1)) (hk : κ.1 x = (7, n)) (hi : vp_in i n) (hv : narrow .char (.int v) = .int v) (k : GW Γ md X (pc + 1) lv r κ (va_up I x (va_up (I x) i.toNatClampNeg v)) a b) : GW Γ md X pc lv (.int v :: .int i :: .ref x :: r) κ I a b := by
  obtain ⟨p, l, e, R, s, m, args, below, meth, c, Q⟩ := X
  obtain ⟨hx, hb, hml, hown, hts, hnw, hK, -⟩ := hX
  intro H locs ls hR hS hl
  refine W.cast hx hb (cell_7 hR hk) ((hK.2 0 _ rfl).1 n (fun j => .int (I x j))) (fun q => by cases q) (by rw [arrV_size]; exact hi) rfl rfl hd fun H' e1 e2 e3 => ?_
  refine k H' _ ls (hR.upI e2 e3 ?_) (hS.put e2 e3 (in_ours hR hk (by decide))) hl
  rw [hk]
  refine ⟨fun r1 hr1 => (by simp [vwCl] at hr1), fun _ => ?_, fun e => (by cases e), fun e => (by cases e)⟩
  rw [e1, hv, arr_upd]
theorem g_aast {x n y : Nat} {i : Int32} (hX : Std Γ md X) (hd : decode md.2.1 pc = .ok (.aastore, 1)) (hk : κ.1 x = (9, n)) (hi : vp_in i n) (hy : κ.1 y = (2, 0)) (h0 : y ≠ 0) (k : GW Γ md X (pc + 1) lv r (κ.1, va_up κ.2.1 x (va_up (κ.2.1 x) i.toNatClampNeg y), κ.2.2) I a b) : GW Γ md X pc lv (.ref y :: .int i :: .ref x :: r) κ I a b := by
  obtain ⟨p, l, e, R, s, m, args, below, meth, c, Q⟩ := X
  obtain ⟨hx, hb, hml, hown, hts, hnw, hK, -⟩ := hX
  intro H locs ls hR hS hl
  have hlt : i.toNatClampNeg < n := Nat.not_le.mp fun q => hi (Or.inr q)
  have hi0 : ¬ i < 0 := fun q => hi (Or.inl q)
  have hcell := (hR.2.2 y).1
  rw [hy] at hcell
  obtain ⟨cellV, g1, g2, g3, -⟩ := hcell (RX2, TX2, 10) rfl
  have hcls := (hK.1 2 (RX2, TX2, 10) rfl).2
  obtain ⟨kA, comp, k1, k2, k3, -⟩ := (hK.2 2 _ rfl).2
  have hcomp : comp = Γ.1.1 2 := Option.some.inj (k3.symm.trans hcls.1)
  subst hcomp
  obtain ⟨kC, hkC, -⟩ := hcls.2
  refine W.aast hx hb (cell_9 hR hk) (fun q h => by cases h) (fun h => by cases h) k1 k2 rfl hkC ⟨hi0, by rw [arrV_size]; exact hlt⟩ g1 (fun q h => by rw [g3] at h; cases h) (by rw [g2]; exact hkC) (by rw [g2]; exact va_assign hcls) rfl rfl hd fun H' e1 e2 e3 => ?_
  refine k H' _ ls (hR.upR e2 e3 ?_) (hS.put e2 e3 (in_ours hR hk (by decide))) hl
  rw [hk]
  refine ⟨fun r1 hr1 => (by simp [vwCl] at hr1), fun e => (by cases e), fun e => (by cases e), fun _ => ?_⟩
  rw [e1, arrV_store]
  congr 2
  funext q
  by_cases hq : q = i.toNatClampNeg
  · subst hq; simp [updV, va_up, rv, h0]
  · simp [updV, va_up, hq]
theorem g_alen {x n : Nat} {ci : Nat} {v : Int32} (hX : Std Γ md X) (hd : decode md.2.1 pc = .ok (.arraylength, 1)) (hk : κ.1 x = (ci, n)) (hc : ci = 7 ∨ ci = 8 ∨ ci = 9) (hv : Int32.ofNat n = v) (k : GW Γ md X (pc + 1) lv (.int v :: r) κ I a b) : GW Γ md X pc lv (.ref x :: r) κ I a b := by
  obtain ⟨p, l, e, R, s, m, args, below, meth, c, Q⟩ := X
  obtain ⟨hx, hb, hml, hown, hts, hnw, hK, -⟩ := hX
  intro H locs ls hR hS hl
  subst hv
  rcases hc with rfl | rfl | rfl
  · exact W.alen (n := Int32.ofNat n) hx hb (cell_7 hR hk) ((hK.2 0 _ rfl).1 n (fun j => .int (I x j))) (by rw [arrV_size] <;> rfl) rfl rfl hd (k H locs ls hR hS hl)
  · exact W.alen (n := Int32.ofNat n) hx hb (cell_8 hR hk) ((hK.2 1 _ rfl).1 n (fun j => .int (I x j))) (by rw [arrV_size] <;> rfl) rfl rfl hd (k H locs ls hR hS hl)
  · exact W.alen (n := Int32.ofNat n) hx hb (cell_9 hR hk) ((hK.2 2 _ rfl).1 n (fun j => rv (κ.2.1 x j))) (by rw [arrV_size] <;> rfl) rfl rfl hd (k H locs ls hR hS hl)
end GM
