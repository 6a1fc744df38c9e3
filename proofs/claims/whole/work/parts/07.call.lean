def wsOf (md : Md) : List Cond := .code md.1 md.2.1 md.2.2.1 md.2.2.2.1 :: wg
def okB (md : Md) (n : Nat) : Prop := Cond.code md.1 md.2.1 md.2.2.1 md.2.2.2.1 ∈ wg ∧ Cond.initialized md.1.cls ∈ wg ∧ (md.1.cls ≠ "java/lang/invoke/MethodHandle" ∧ md.1.cls ≠ "java/lang/invoke/VarHandle") ∧ (parseMethodDescriptor md.1.desc).map (fun d => d.parameters.length) = some n ∧ md.2.2.1 ≤ 21 ∧ plainName md.1.cls = true
/-- how a method is called: 0 its own object's, 1 static, 2 a constructor -/
def okV (md : Md) (n : Nat) : Prop := okB md n ∧ Cond.instanceMethod md.1 ∈ wg ∧ Cond.selects md.1.cls md.1 md.1 ∈ wg
def okS (md : Md) (n : Nat) : Prop := okB md n ∧ Cond.static md.1 ∈ wg
def okI (md : Md) (n : Nat) : Prop := okB md n ∧ Cond.instanceMethod md.1 ∈ wg ∧ md.1.name = "<init>" ∧ md.2.2.2.1 = none
def CL (own : String) (idx : Nat) (y : MethodName) : Prop := Cond.methodLink own idx y ∈ wg ∨ ∃ host, Cond.methodLinkNest own idx y host ∈ nw
theorem wg_goodIn {ws : List Cond} (h : ∀ w ∈ ws, w ∈ wg) : GoodIn wg ws := fun w hw => ⟨h w hw, good_of_word (wg_good w (h w hw))⟩
def PcOf (Γ : Ga) (as : List Value) (κ : Kp) (I : Ip) : Array Value → State → Prop := va_Pc as (fun U => Rep Γ κ I U.heap ∧ va_K Γ.1 vwCl (tysG Γ) U ∧ (∀ w ∈ nw, va_Nw w U) ∧ Γ.2.2 ≤ U.heap.size ∧ va_AO "ChurnTalk$State" U)
theorem PcOf.blind {Γ : Ga} {as : List Value} {κ : Kp} {I : Ip} : FrameBlind (PcOf Γ as κ I) := by
  intro a U g mk q
  obtain ⟨q1, q2, q3, q4, q5, q6⟩ := q
  exact ⟨q1, q2, va_K.moved (u := U) (U := U.calling g mk a) (Vm.Alike.refl U.vm) q3, fun w hw => va_Nw.same (u := U) (U := U.calling g mk a) (nw_tab hw) rfl (q4 w hw), q5, va_AO.moved (u := U) (U := U.calling g mk a) (Vm.Alike.refl U.vm) q6⟩
theorem PcOf.of {Γ : Ga} {as : List Value} {κ : Kp} {I : Ip} {s U : State} {H : Heap} (hR : Rep Γ κ I H) (hK : va_K Γ.1 vwCl (tysG Γ) s) (hnw : ∀ w ∈ nw, va_Nw w s) (hbs : Γ.2.2 ≤ s.heap.size) (hao : va_AO "ChurnTalk$State" s) {locs : List Loc} (hS : va_S (fun q : Nat => Γ.2.2 ≤ q) s.heap H locs) (hU : U.heap = H) (hW : s.WarmedH U.vm) : PcOf Γ as κ I as.toArray U :=
  ⟨rfl, by rw [hU]; exact hR, va_K.moved hW.alike hK, fun w hw => nw_warm hw hW (hnw w hw), by rw [hU]; exact Nat.le_trans hbs hS.1, va_AO.moved hW.alike hao⟩
theorem Sp.met {Γ : Ga} {d n : Nat} {md : Md} {as : List Value} {κ : Kp} {I : Ip} {Q : Option Value → Kp → Ip → Prop} (l : Launch) (h : Sp Γ d md as κ I Q) (hok : okB md n) (hlen : (lg_sl as).length ≤ md.2.2.1) : Met l md.1 (wsOf md) (rm d md) (PcOf Γ as κ I) (QcOf Γ Q) md.2.2.2.2.1 md.2.2.2.2.2 (fun q : Nat => Γ.2.2 ≤ q) := by
  refine Met.ofW (cc := md.2.1) (maxL := md.2.2.1) (ret := md.2.2.2.1) hok.2.2.2.2.2 rfl ?_
  intro p e s m args below meth c s₁ B hml hv
  obtain ⟨rfl, hRep, hK, hnw, hbs, hao⟩ := hv
  have hl := lv_entry as (n := md.2.2.1) hlen
  rw [lg_entry_eq]
  generalize (lg_sl as ++ List.replicate (md.2.2.1 - (lg_sl as).length) Slot.unset).toArray = ls at hl ⊢
  have hts : ∀ w ∈ wg, w.before as.toArray s = true := fun w hw => atoms_spec (ws := wsOf md) B.pre w (List.mem_cons_of_mem _ hw)
  exact h (p, l, e, rm d md, s, m, as.toArray, below, meth, c, _) ⟨⟨B.exec, B.bytes, hml, findClass_of_methodNamed B.named, hts, hnw, hK, B.notSynchronized, hbs, B.returns, (name_of_methodNamed B.named B.method).1, hao⟩, rfl, rfl⟩ s.heap [] ls hRep va_S.rf hl
section GC
variable {Γ : Ga} {md md' : Md} {X : Cx} {pc d idx : Nat} {lv lv' : List (Nat × Value)} {r st As : List Value} {κ : Kp} {I : Ip} {a b mc ms : Nat}
/-- behind a call -/
theorem g_back {p : Program} {l : Launch} {e : Env} {R : Room} {s : State} {m : MethodId} {args : Array Value} {below : List Frame} {meth : Method} {c : Code} {Z : State → Prop} {H : Heap} {locs : List Loc} {ls : Array Slot} {aa : Array Value} {Q : Option Value → Kp → Ip → Prop} (hl : lv_has ls md.2.2.1 lv) (hS : va_S (fun q : Nat => Γ.2.2 ≤ q) s.heap H locs)
    (hr : va_Run p l e R s m args below meth c H locs a b mc ms (F0 m pc ls st) r (QcOf Γ Q aa) (fun q : Nat => Γ.2.2 ≤ q))
    (hq : ∀ v κ' I', Q v κ' I' → GW Γ md (p, l, e, R, s, m, args, below, meth, c, Z) (pc + 3) lv (v.toList ++ r) κ' I' (a + mc) (b + ms)) : W p l e R s m args below meth c H locs a b Z (F0 m pc ls st) := by
  intro T hT X
  obtain ⟨v, st₀, t, T', L, h0, X', hL, e1, e2, ⟨v', κ', I', hv, hQ, hRep, hF⟩, stp⟩ := hr T hT X
  cases hv
  obtain ⟨hz, hkp⟩ := hF
  rw [h0] at hz hkp
  have hS' : va_S (fun q : Nat => Γ.2.2 ≤ q) s.heap T'.heap (locs ++ L) := ⟨Nat.le_trans hS.1 (by rw [e1]; exact hz), fun q g1 g2 => by rw [e1, hkp q (Nat.lt_of_lt_of_le g1 hS.1) g2]; exact hS.2.1 q g1 g2, fun q hq => by
      rcases List.mem_append.mp hq with g | g
      · exact hS.2.2 q g
      · exact hL q g⟩
  obtain ⟨t2, a1, b1⟩ := hq v κ' I' hQ T'.heap (locs ++ L) ls (by rw [e1]; exact hRep) hS' hl T' rfl X'
  exact ⟨t2, stp t2 a1, b1⟩
theorem g_callV {ci x n : Nat} (hX : Std Γ md X) (hR : RmOK md X d) (hd : decode md.2.1 pc = .ok (.invokevirtual idx, 3)) (hc : CL md.1.cls idx md'.1) (hok : okV md' n) (hci : (vwCl[ci]?).map (fun q => q.1) = some md'.1.cls) (hk : κ.1 x = (ci, 0)) (hst : st = As.reverse ++ .ref x :: r) (hn : As.length = n) (hlen : (lg_sl (.ref x :: As)).length ≤ md'.2.2.1) (hw : (r.map fun v => v.category).sum ≤ 8) (hcs : a + md'.2.2.2.2.1 ≤ md.2.2.2.2.1 ∧ b + md'.2.2.2.2.2 ≤ md.2.2.2.2.2)
    (hsp : Sp Γ d md' (.ref x :: As) κ I (fun v κ' I' => GW Γ md X (pc + 3) lv (v.toList ++ r) κ' I' (a + md'.2.2.2.2.1) (b + md'.2.2.2.2.2))) : GW Γ md X pc lv st κ I a b := by
  obtain ⟨p, l, e, R, s, m, args, below, meth, c, Q⟩ := X
  obtain ⟨hx, hb, hml, hown, hts, hnw, hK, -, hbs, -, -, hao⟩ := hX
  obtain ⟨r1, r2, r3, r4⟩ := hR
  intro H locs ls hRp hS hl
  have hM := hsp.met l hok.1 hlen
  obtain ⟨⟨o1, o2, o3, o4, o5, o6⟩, o7, o8⟩ := hok
  have hcallee : (d : Nat) + 1 ≤ R.frames ∧ 8 + (md'.2.2.1 + 11) + (rm d md').locals ≤ R.locals := ⟨r1, by show 8 + (md'.2.2.1 + 11) + 40 * d ≤ _; omega⟩
  have hG : GoodIn wg (wsOf md') := wg_goodIn (fun w hw => by
    rcases List.mem_cons.mp hw with e | e
    · rw [e]; exact o1
    · exact e)
  have hpar : ∀ sig, parseMethodDescriptor md'.1.desc = some sig → n = sig.parameters.length := fun sig h => by
    rw [h] at o4
    exact (Option.some.inj o4).symm
  obtain ⟨q, hq, hqc⟩ := Option.map_eq_some_iff.mp hci
  have hrec : ∃ cellB : Cell, H[x]? = some cellB ∧ cellB.vm.isStatics = false ∧ s.vm.findClass md'.1.cls = some cellB.cls := by
    have hcell := (hRp.2.2 x).1
    rw [hk] at hcell
    obtain ⟨cell, q1, q2, q3, -⟩ := hcell q hq
    exact ⟨cell, q1, by rw [q3]; rfl, by rw [q2, ← hqc]; exact (hK.1 ci q hq).2.1⟩
  have hPre : PreV s H md'.1.cls x (PcOf Γ (.ref x :: As) κ I) As := ⟨PcOf.blind, hrec, fun U hU hW => PcOf.of hRp hK hnw hbs hao hS hU hW⟩
  have hfit : a + md'.2.2.2.2.1 ≤ R.cells ∧ b + md'.2.2.2.2.2 ≤ R.slots := by rw [r3, r4]; exact hcs
  have hcode := hts _ o1
  have hini := hts _ o2
  have hrest : 2 * (F0 m pc ls st).monitorRoom + (r.map fun v => v.category).sum ≤ 8 := by show 2 * 0 + _ ≤ 8; omega
  rcases hc with hc | ⟨host, hc⟩
  · exact g_back hl hS (va_runV (C := md'.1.cls) (As := As) (rest := r) ⟨hx, hb, hml, hown, hts⟩ hM ⟨⟨rfl, rfl, hcallee.1, hcallee.2, pay_in hts hG, List.mem_cons_self, hcode, hini, o3, hpar, hts _ hc⟩, hts _ o7, hts _ o8⟩ hPre rfl hn hl.1 hst hrest hd hfit) (fun _ _ _ h => h)
  · exact g_back hl hS (va_runVN (C := md'.1.cls) (As := As) (rest := r) ⟨hx, hb, hml, hown, hts⟩ hM ⟨⟨⟨rfl, rfl, hcallee.1, hcallee.2, pay_in hts hG, List.mem_cons_self⟩, hcode, hini, o3, hpar, va_Nw.use (nw_tab hc) (hnw _ hc)⟩, hts _ o7, hts _ o8⟩ hPre rfl hn hl.1 hst hrest hd hfit) (fun _ _ _ h => h)
theorem g_callS {n : Nat} (hX : Std Γ md X) (hR : RmOK md X d) (hd : decode md.2.1 pc = .ok (.invokestatic idx, 3)) (hc : CL md.1.cls idx md'.1) (hok : okS md' n) (hst : st = As.reverse ++ r) (hn : As.length = n) (hlen : (lg_sl As).length ≤ md'.2.2.1) (hw : (r.map fun v => v.category).sum ≤ 8) (hcs : a + md'.2.2.2.2.1 ≤ md.2.2.2.2.1 ∧ b + md'.2.2.2.2.2 ≤ md.2.2.2.2.2)
    (hsp : Sp Γ d md' As κ I (fun v κ' I' => GW Γ md X (pc + 3) lv (v.toList ++ r) κ' I' (a + md'.2.2.2.2.1) (b + md'.2.2.2.2.2))) : GW Γ md X pc lv st κ I a b := by
  obtain ⟨p, l, e, R, s, m, args, below, meth, c, Q⟩ := X
  obtain ⟨hx, hb, hml, hown, hts, hnw, hK, -, hbs, -, -, hao⟩ := hX
  obtain ⟨r1, r2, r3, r4⟩ := hR
  intro H locs ls hRp hS hl
  have hM := hsp.met l hok.1 hlen
  obtain ⟨⟨o1, o2, o3, o4, o5, o6⟩, o7⟩ := hok
  have hcallee : (d : Nat) + 1 ≤ R.frames ∧ 8 + (md'.2.2.1 + 11) + (rm d md').locals ≤ R.locals := ⟨r1, by show 8 + (md'.2.2.1 + 11) + 40 * d ≤ _; omega⟩
  have hG : GoodIn wg (wsOf md') := wg_goodIn (fun w hw => by
    rcases List.mem_cons.mp hw with e | e
    · rw [e]; exact o1
    · exact e)
  have hpar : ∀ sig, parseMethodDescriptor md'.1.desc = some sig → n = sig.parameters.length := fun sig h => by
    rw [h] at o4
    exact (Option.some.inj o4).symm
  have hPre : PreS s H (PcOf Γ As κ I) As := ⟨PcOf.blind, fun U hU hW => PcOf.of hRp hK hnw hbs hao hS hU hW⟩
  have hfit : a + md'.2.2.2.2.1 ≤ R.cells ∧ b + md'.2.2.2.2.2 ≤ R.slots := by rw [r3, r4]; exact hcs
  have hcode := hts _ o1
  have hini := hts _ o2
  have hrest : 2 * (F0 m pc ls st).monitorRoom + (r.map fun v => v.category).sum ≤ 8 := by show 2 * 0 + _ ≤ 8; omega
  rcases hc with hc | ⟨host, hc⟩
  · exact g_back hl hS (va_runS (As := As) (rest := r) ⟨hx, hb, hml, hown, hts⟩ hM ⟨⟨rfl, rfl, hcallee.1, hcallee.2, pay_in hts hG, List.mem_cons_self, hcode, hini, o3, hpar, hts _ hc⟩, hts _ o7⟩ hPre rfl hn hl.1 hst hrest hd hfit) (fun _ _ _ h => h)
  · exact g_back hl hS (va_runSN (As := As) (rest := r) ⟨hx, hb, hml, hown, hts⟩ hM ⟨⟨⟨rfl, rfl, hcallee.1, hcallee.2, pay_in hts hG, List.mem_cons_self⟩, hcode, hini, o3, hpar, va_Nw.use (nw_tab hc) (hnw _ hc)⟩, hts _ o7, trivial⟩ hPre rfl hn hl.1 hst hrest hd hfit) (fun _ _ _ h => h)
theorem g_callI {x n : Nat} (hX : Std Γ md X) (hR : RmOK md X d) (hd : decode md.2.1 pc = .ok (.invokespecial idx, 3)) (hc : CL md.1.cls idx md'.1) (hok : okI md' n) (hst : st = As.reverse ++ .ref x :: r) (hn : As.length = n) (hlen : (lg_sl (.ref x :: As)).length ≤ md'.2.2.1) (hw : (r.map fun v => v.category).sum ≤ 8) (hcs : a + md'.2.2.2.2.1 ≤ md.2.2.2.2.1 ∧ b + md'.2.2.2.2.2 ≤ md.2.2.2.2.2)
    (hsp : Sp Γ d md' (.ref x :: As) κ I (fun v κ' I' => GW Γ md X (pc + 3) lv (v.toList ++ r) κ' I' (a + md'.2.2.2.2.1) (b + md'.2.2.2.2.2))) : GW Γ md X pc lv st κ I a b := by
  obtain ⟨p, l, e, R, s, m, args, below, meth, c, Q⟩ := X
  obtain ⟨hx, hb, hml, hown, hts, hnw, hK, -, hbs, -, -, hao⟩ := hX
  obtain ⟨r1, r2, r3, r4⟩ := hR
  intro H locs ls hRp hS hl
  have hM := hsp.met l hok.1 hlen
  obtain ⟨⟨o1, o2, o3, o4, o5, o6⟩, o7, o8, o9⟩ := hok
  have hcallee : (d : Nat) + 1 ≤ R.frames ∧ 8 + (md'.2.2.1 + 11) + (rm d md').locals ≤ R.locals := ⟨r1, by show 8 + (md'.2.2.1 + 11) + 40 * d ≤ _; omega⟩
  have hG : GoodIn wg (wsOf md') := wg_goodIn (fun w hw => by
    rcases List.mem_cons.mp hw with e | e
    · rw [e]; exact o1
    · exact e)
  have hpar : ∀ sig, parseMethodDescriptor md'.1.desc = some sig → n = sig.parameters.length := fun sig h => by
    rw [h] at o4
    exact (Option.some.inj o4).symm
  have hPre : PreS s H (PcOf Γ (.ref x :: As) κ I) (.ref x :: As) := ⟨PcOf.blind, fun U hU hW => PcOf.of hRp hK hnw hbs hao hS hU hW⟩
  have hfit : a + md'.2.2.2.2.1 ≤ R.cells ∧ b + md'.2.2.2.2.2 ≤ R.slots := by rw [r3, r4]; exact hcs
  rw [o9] at o1
  have hcode := hts _ o1
  have hini := hts _ o2
  have hcw : Cond.code md'.1 md'.2.1 md'.2.2.1 none ∈ wsOf md' := by unfold wsOf; rw [o9]; exact List.mem_cons_self
  have hrest : 2 * (F0 m pc ls st).monitorRoom + (r.map fun v => v.category).sum ≤ 8 := by show 2 * 0 + _ ≤ 8; omega
  rcases hc with hc | ⟨host, hc⟩
  · exact g_back hl hS (va_runI (As := As) (rest := r) ⟨hx, hb, hml, hown, hts⟩ hM ⟨⟨rfl, rfl, hcallee.1, hcallee.2, pay_in hts hG, hcw, hcode, hini, o3, hpar, hts _ hc⟩, o8, hts _ o7⟩ hPre rfl hn hl.1 hst hrest hd hfit) (fun _ _ _ h => h)
  · exact g_back hl hS (va_runIN (As := As) (rest := r) ⟨hx, hb, hml, hown, hts⟩ hM ⟨⟨⟨rfl, rfl, hcallee.1, hcallee.2, pay_in hts hG, hcw⟩, hcode, hini, o3, hpar, va_Nw.use (nw_tab hc) (hnw _ hc)⟩, o8, hts _ o7⟩ hPre rfl hn hl.1 hst hrest hd hfit) (fun _ _ _ h => h)
-- returns
variable {Q : Option Value → Kp → Ip → Prop}
theorem g_iret {v : Int32} {ty : FieldType} (hX : Mx Γ d md Q X) (hd : decode md.2.1 pc = .ok (.ireturn, 1)) (hr : md.2.2.2.1 = some ty) (hn : narrow ty (.int v) = .int v) (hk : a ≤ md.2.2.2.2.1 ∧ b ≤ md.2.2.2.2.2) (hq : Q (some (.int v)) κ I) : GW Γ md X pc lv [.int v] κ I a b := by
  obtain ⟨p, l, e, R, s, m, args, below, meth, c, Z⟩ := X
  obtain ⟨⟨hx, hb, hml, hown, hts, hnw, hK, hlk, hbs, hret, -, -⟩, hR, hZ⟩ := hX
  subst hZ
  intro H locs ls hRp hS hl
  refine W.widen hk.1 hk.2 ?_
  exact W.zret hx hb (hret.trans hr) hn (fun t ht hW => ⟨_, κ, I, rfl, hq, by rw [ht]; exact hRp, hS.F ht⟩) hS.2.2 hd hlk
theorem g_lret {v : Int64} (hX : Mx Γ d md Q X) (hd : decode md.2.1 pc = .ok (.lreturn, 1)) (hr : md.2.2.2.1 = some .long) (hk : a ≤ md.2.2.2.2.1 ∧ b ≤ md.2.2.2.2.2) (hq : Q (some (.long v)) κ I) : GW Γ md X pc lv [.long v] κ I a b := by
  obtain ⟨p, l, e, R, s, m, args, below, meth, c, Z⟩ := X
  obtain ⟨⟨hx, hb, hml, hown, hts, hnw, hK, hlk, hbs, hret, -, -⟩, hR, hZ⟩ := hX
  subst hZ
  intro H locs ls hRp hS hl
  refine W.widen hk.1 hk.2 ?_
  exact W.lret hx hb (hret.trans hr) (fun t ht hW => ⟨_, κ, I, rfl, hq, by rw [ht]; exact hRp, hS.F ht⟩) hS.2.2 hd hlk
theorem g_vret (hX : Mx Γ d md Q X) (hd : decode md.2.1 pc = .ok (.return_, 1)) (hr : md.2.2.2.1 = none) (hk : a ≤ md.2.2.2.2.1 ∧ b ≤ md.2.2.2.2.2) (hq : Q none κ I) : GW Γ md X pc lv [] κ I a b := by
  obtain ⟨p, l, e, R, s, m, args, below, meth, c, Z⟩ := X
  obtain ⟨⟨hx, hb, hml, hown, hts, hnw, hK, hlk, hbs, hret, -, -⟩, hR, hZ⟩ := hX
  subst hZ
  intro H locs ls hRp hS hl
  refine W.widen hk.1 hk.2 ?_
  exact W.vret hx hb (hret.trans hr) (fun t ht hW => ⟨_, κ, I, rfl, hq, by rw [ht]; exact hRp, hS.F ht⟩) hS.2.2 hd hlk
-- what makes cells
theorem g_objInit {x : Nat} (hX : Std Γ md X) (hR : RmOK md X d) (hd : decode md.2.1 pc = .ok (.invokespecial idx, 3)) (h1 : Cond.methodLink md.1.cls idx Lib.objectInit ∈ wg) (h2 : Cond.instanceMethod Lib.objectInit ∈ wg) (h3 : Cond.code Lib.objectInit ⟨#[0xb1]⟩ 1 none ∈ wg) (hw : (r.map fun v => v.category).sum ≤ 8) (k : GW Γ md X (pc + 3) lv r κ I a b) : GW Γ md X pc lv (.ref x :: r) κ I a b := by
  obtain ⟨p, l, e, R, s, m, args, below, meth, c, Z⟩ := X
  obtain ⟨hx, hb, hml, hown, hts, hnw, hK, -⟩ := hX
  obtain ⟨r1, r2, r3, r4⟩ := hR
  intro H locs ls hRp hS hl
  exact W.objInit hx hb hown (hts _ h1) (hts _ h2) (hts _ h3) rfl (by rw [hml]; exact hl.1) rfl hd (by omega) (by show 2 * 0 + _ + 12 ≤ _; omega) (k H locs ls hRp hS hl)
theorem g_new {ci N : Nat} {C : String} {T : u_T} (hX : Std Γ md X) (hR : RmOK md X d) (hd : decode md.2.1 pc = .ok (.new idx, 3)) (hci : vwCl[ci]? = some (C, T, N)) (h1 : Cond.classLink md.1.cls idx C ∈ wg) (h2 : Cond.instantiable C N ∈ wg) (h3 : Cond.initialized C ∈ wg) (hcs : a + 1 ≤ md.2.2.2.2.1 ∧ b + N ≤ md.2.2.2.2.2) (k : GW Γ md X (pc + 3) lv (.ref κ.2.2 :: r) (kNew κ (ci, 0)) (iNew κ I) (a + 1) (b + N)) : GW Γ md X pc lv r κ I a b := by
  obtain ⟨p, l, e, R, s, m, args, below, meth, c, Z⟩ := X
  obtain ⟨hx, hb, hml, hown, hts, hnw, hK, -, hbs, -⟩ := hX
  obtain ⟨r1, r2, r3, r4⟩ := hR
  intro H locs ls hRp hS hl
  have hKn := hK.1 ci _ hci
  have hbH : Γ.2.2 ≤ H.size := Nat.le_trans hbs hS.1
  refine W.newcK hx hb hown (hts _ h1) (hts _ h2) (hts _ h3) rfl hd (by rw [r3]; exact hcs.1) (by rw [r4]; exact hcs.2) hKn.2.1 rfl fun H' kC hkC e1 z1 o1 => ?_
  have hrep : Rep Γ (kNew κ (ci, 0)) (iNew κ I) H' := by
    refine hRp.new z1 o1 hbH ⟨fun r1' hr1 => ?_, fun e => ?_, fun e => ?_, fun e => ?_⟩
    · cases hci.symm.trans hr1
      rw [← hRp.1]
      exact (u_born _ hts (cl_ok hci).1 hKn hkC e1 (cl_ok hci).2.1).to (fun k2 _ => fvl_dflt ci k2)
    all_goals
      exfalso
      have h7 : vwCl.length = 7 := rfl
      have := (List.getElem?_eq_some_iff.mp hci).1
      have e' : ci = _ := e
      omega
  have := k H' locs ls hrep ⟨Nat.le_trans hS.1 (by omega), fun q g1 g2 => (o1 q (Nat.lt_of_lt_of_le g1 hS.1)).trans (hS.2.1 q g1 g2), hS.2.2⟩ hl
  rw [← hRp.1] at this
  exact this
theorem g_newI {n : Int32} {N : Nat} (hX : Std Γ md X) (hR : RmOK md X d) (hd : decode md.2.1 pc = .ok (.newarray .int, 2)) (h1 : Cond.arrayClass .int ∈ wg) (hn : ¬ n < 0) (hN : n.toNatClampNeg = N) (hb2 : N ≤ 10000) (hcs : a + 1 ≤ md.2.2.2.2.1 ∧ b + N ≤ md.2.2.2.2.2) (k : GW Γ md X (pc + 2) lv (.ref κ.2.2 :: r) (kNew κ (8, N)) (iNew κ I) (a + 1) (b + N)) : GW Γ md X pc lv (.int n :: r) κ I a b := by
  obtain ⟨p, l, e, R, s, m, args, below, meth, c, Z⟩ := X
  obtain ⟨hx, hb, hml, hown, hts, hnw, hK, -, hbs, -⟩ := hX
  obtain ⟨r1, r2, r3, r4⟩ := hR
  intro H locs ls hRp hS hl
  have hbH : Γ.2.2 ≤ H.size := Nat.le_trans hbs hS.1
  refine va_newaK (atype := .int) hx hb (hts _ h1) rfl hd rfl hn hN (by show N * 4 ≤ _; omega) (by rw [r3]; exact hcs.1) (by rw [r4]; exact hcs.2) rfl fun H' cA e1 z1 o1 hAr hNm => ?_
  have hcA : cA = Γ.2.1.2.1 := Option.some.inj (hNm.symm.trans (hK.2 1 _ rfl).2)
  subst hcA
  have hrep : Rep Γ (kNew κ (8, N)) (iNew κ I) H' := by
    refine hRp.new z1 o1 hbH ⟨fun r1' hr1 => (by simp [vwCl] at hr1), fun e => (by cases e), fun e => ?_, fun e => (by cases e)⟩
    rw [← hRp.1]
    exact e1
  have := k H' locs ls hrep ⟨Nat.le_trans hS.1 (by omega), fun q g1 g2 => (o1 q (Nat.lt_of_lt_of_le g1 hS.1)).trans (hS.2.1 q g1 g2), hS.2.2⟩ hl
  rw [← hRp.1] at this
  exact this
theorem g_newC {n : Int32} {N : Nat} (hX : Std Γ md X) (hR : RmOK md X d) (hd : decode md.2.1 pc = .ok (.newarray .char, 2)) (h1 : Cond.arrayClass .char ∈ wg) (hn : ¬ n < 0) (hN : n.toNatClampNeg = N) (hb2 : N ≤ 10000) (hcs : a + 1 ≤ md.2.2.2.2.1 ∧ b + N ≤ md.2.2.2.2.2) (k : GW Γ md X (pc + 2) lv (.ref κ.2.2 :: r) (kNew κ (7, N)) (iNew κ I) (a + 1) (b + N)) : GW Γ md X pc lv (.int n :: r) κ I a b := by
  obtain ⟨p, l, e, R, s, m, args, below, meth, c, Z⟩ := X
  obtain ⟨hx, hb, hml, hown, hts, hnw, hK, -, hbs, -⟩ := hX
  obtain ⟨r1, r2, r3, r4⟩ := hR
  intro H locs ls hRp hS hl
  have hbH : Γ.2.2 ≤ H.size := Nat.le_trans hbs hS.1
  refine va_newaK (atype := .char) hx hb (hts _ h1) rfl hd rfl hn hN (by show N * 2 ≤ _; omega) (by rw [r3]; exact hcs.1) (by rw [r4]; exact hcs.2) rfl fun H' cA e1 z1 o1 hAr hNm => ?_
  have hcA : cA = Γ.2.1.1 := Option.some.inj (hNm.symm.trans (hK.2 0 _ rfl).2)
  subst hcA
  have hrep : Rep Γ (kNew κ (7, N)) (iNew κ I) H' := by
    refine hRp.new z1 o1 hbH ⟨fun r1' hr1 => (by simp [vwCl] at hr1), fun e => ?_, fun e => (by cases e), fun e => (by cases e)⟩
    rw [← hRp.1]
    exact e1
  have := k H' locs ls hrep ⟨Nat.le_trans hS.1 (by omega), fun q g1 g2 => (o1 q (Nat.lt_of_lt_of_le g1 hS.1)).trans (hS.2.1 q g1 g2), hS.2.2⟩ hl
  rw [← hRp.1] at this
  exact this
theorem g_newQ {n : Int32} {N : Nat} (hX : Std Γ md X) (hR : RmOK md X d) (hd : decode md.2.1 pc = .ok (.anewarray idx, 3)) (h1 : Cond.classLink md.1.cls idx "ChurnTalk$State" ∈ wg) (hn : ¬ n < 0) (hN : n.toNatClampNeg = N) (hb2 : N ≤ 10000) (hcs : a + 1 ≤ md.2.2.2.2.1 ∧ b + N ≤ md.2.2.2.2.2) (k : GW Γ md X (pc + 3) lv (.ref κ.2.2 :: r) (kNew κ (9, N)) (iNew κ I) (a + 1) (b + N)) : GW Γ md X pc lv (.int n :: r) κ I a b := by
  obtain ⟨p, l, e, R, s, m, args, below, meth, c, Z⟩ := X
  obtain ⟨hx, hb, hml, hown, hts, hnw, hK, -, hbs, -, -, hao⟩ := hX
  obtain ⟨r1, r2, r3, r4⟩ := hR
  intro H locs ls hRp hS hl
  have hbH : Γ.2.2 ≤ H.size := Nat.le_trans hbs hS.1
  subst hN
  refine W.anew hx hb hown (hts _ h1) (va_AO.use hao) rfl hd rfl hn (by omega) (by rw [r3]; exact hcs.1) (by rw [r4]; exact hcs.2) fun cA kA comp f1 f2 f3 f4 => ?_
  generalize hH1 : H.push ({ cls := cA, slots := Array.replicate n.toNatClampNeg .null, vm := .none } : Cell) = H1
  have z1 : H1.size = H.size + 1 := by rw [← hH1, Array.size_push]
  have e1 : H1[H.size]? = some (arrV cA n.toNatClampNeg (fun _ => .null)) := by rw [← hH1, Array.getElem?_push_size, ← arrV_new]
  have o1 : ∀ q : Nat, q < H.size → H1[q]? = H[q]? := fun q hq => by rw [← hH1, Array.getElem?_push, if_neg (Nat.ne_of_lt hq)]
  obtain ⟨_, _, -, -, -, hcn⟩ := (hK.2 2 _ rfl).2
  have hcA : cA = Γ.2.1.2.2 := Option.some.inj (f1.symm.trans hcn)
  subst hcA
  have hrep : Rep Γ (kNew κ (9, n.toNatClampNeg)) (iNew κ I) H1 := by
    refine hRp.new z1 o1 hbH ⟨fun r1' hr1 => (by simp [vwCl] at hr1), fun e => (by cases e), fun e => (by cases e), fun e => ?_⟩
    rw [← hRp.1]
    exact e1
  have := k H1 locs ls hrep ⟨Nat.le_trans hS.1 (by omega), fun q g1 g2 => (o1 q (Nat.lt_of_lt_of_le g1 hS.1)).trans (hS.2.1 q g1 g2), hS.2.2⟩ hl
  rw [← hRp.1] at this
  exact this
-- Math.max, Math.min
theorem g_max {x y : Int32} (hX : Std Γ md X) (hR : RmOK md X d) (hd : decode md.2.1 pc = .ok (.invokestatic idx, 3)) (h1 : Cond.methodLink md.1.cls idx Lib.Math.max.name ∈ wg) (h2 : Cond.static Lib.Math.max.name ∈ wg) (h3 : Cond.initialized "java/lang/Math" ∈ wg) (h4 : Cond.code Lib.Math.max.name Lib.Math.max.code 2 (some .int) ∈ wg) (hw : (r.map fun v => v.category).sum ≤ 8) (hk : a ≤ md.2.2.2.2.1 ∧ b ≤ md.2.2.2.2.2) (k : GW Γ md X (pc + 3) lv (.int (if x < y then y else x) :: r) κ I a b) : GW Γ md X pc lv (.int y :: .int x :: r) κ I a b := by
  obtain ⟨p, l, e, R, s, m, args, below, meth, c, Z⟩ := X
  obtain ⟨hx, hb, hml, hown, hts, hnw, hK, -⟩ := hX
  obtain ⟨r1, r2, r3, r4⟩ := hR
  intro H locs ls hRp hS hl
  exact va_mmax hx hb (hml.trans hl.1.symm) hown (hts _ h1) (hts _ h2) (hts _ h3) (hts _ h4) (by omega) (by omega) (by rw [r3]; exact hk.1) (by rw [r4]; exact hk.2) hd (k H locs ls hRp hS hl)
theorem g_min {x y : Int32} (hX : Std Γ md X) (hR : RmOK md X d) (hd : decode md.2.1 pc = .ok (.invokestatic idx, 3)) (h1 : Cond.methodLink md.1.cls idx Lib.Math.min.name ∈ wg) (h2 : Cond.static Lib.Math.min.name ∈ wg) (h3 : Cond.initialized "java/lang/Math" ∈ wg) (h4 : Cond.code Lib.Math.min.name Lib.Math.min.code 2 (some .int) ∈ wg) (hw : (r.map fun v => v.category).sum ≤ 8) (hk : a ≤ md.2.2.2.2.1 ∧ b ≤ md.2.2.2.2.2) (k : GW Γ md X (pc + 3) lv (.int (if y < x then y else x) :: r) κ I a b) : GW Γ md X pc lv (.int y :: .int x :: r) κ I a b := by
  obtain ⟨p, l, e, R, s, m, args, below, meth, c, Z⟩ := X
  obtain ⟨hx, hb, hml, hown, hts, hnw, hK, -⟩ := hX
  obtain ⟨r1, r2, r3, r4⟩ := hR
  intro H locs ls hRp hS hl
  exact va_mmin hx hb (hml.trans hl.1.symm) hown (hts _ h1) (hts _ h2) (hts _ h3) (hts _ h4) (by omega) (by omega) (by rw [r3]; exact hk.1) (by rw [r4]; exact hk.2) hd (k H locs ls hRp hS hl)
end GC
