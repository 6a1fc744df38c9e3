/-! the String constant of the class: what holds of it; the methods that read it -/
def BYL : List Nat := [112, 48, 59, 112, 51, 59, 112, 49, 59, 112, 50, 59, 112, 51, 59, 112, 48, 59, 102, 48, 44, 49, 59, 102, 49, 44, 52, 59, 102, 48, 44, 50, 59, 102, 50, 44, 51, 59, 102, 51, 44, 52, 59, 102, 52, 44, 53, 59, 102, 48, 44, 53, 59, 116, 51, 44, 54, 44, 50, 44, 48, 59, 116, 53, 44, 57, 44, 51, 44, 48, 49, 59, 116, 48, 44, 52, 44, 49, 44, 52, 59, 116, 50, 44, 49, 50, 44, 52, 44, 49, 59, 116, 49, 44, 51, 44, 50, 44, 51, 53, 59, 116, 52, 44, 55, 44, 49, 44, 48, 59, 116, 48, 44, 56, 44, 51, 44, 51, 59]
def BYF (j : Nat) : Nat := BYL.getD j 0
theorem BY_ok : ∀ j, j < 119 → 32 ≤ BYF j ∧ BYF j ≤ 126 := by decide +kernel
def TXS : String := "p0;p3;p1;p2;p3;p0;f0,1;f1,4;f0,2;f2,3;f3,4;f4,5;f0,5;t3,6,2,0;t5,9,3,01;t0,4,1,4;t2,12,4,1;t1,3,2,35;t4,7,1,0;t0,8,3,3;"
def StrK (q v : Nat) (A : Nat → Prop) (U : State) : Prop := vk_R "ChurnTalk" 55 TXS q U ∧ va_O "java/lang/String" q A U U.heap ∧ va_OF "java/lang/String" "coder" "B" (.int 0) q A U U.heap ∧ va_OF "java/lang/String" "value" "[B" (.ref v) q A U U.heap ∧ va_T .byte v 119 (fun j => .int (nI (BYF j))) A U U.heap ∧ va_Z "java/lang/String" "COMPACT_STRINGS" "Z" (.int 1) A U U.heap ∧ va_Zq "jdk/internal/util/Preconditions" "SIOOBE_FORMATTER" "Ljava/util/function/BiFunction;" A U U.heap
theorem StrK.to {q v : Nat} {A : Nat → Prop} {s U : State} {H : Heap} {locs : List Loc} (h : StrK q v A s) (hS : va_S A s.heap H locs) (hU : U.heap = H) (hW : s.WarmedH U.vm) : StrK q v A U := by
  obtain ⟨h1, h2, h3, h4, h5, h6, h7⟩ := h
  unfold StrK
  rw [hU]
  exact ⟨vk_R.warm hW h1, (va_O.moved hW.alike h2).kept hS.2.1, (va_OF.moved hW.alike h3).kept hS.2.1, (va_OF.moved hW.alike h4).kept hS.2.1, (va_T.moved hW.alike h5).kept hS.2.1, (va_Z.moved hW.alike h6).kept hS.2.1, (va_Zq.moved hW.alike h7).kept hS.2.1⟩
theorem StrK.call {q v : Nat} {A : Nat → Prop} {s U : State} (h : StrK q v A s) (hv : U.vm = s.vm) (hh : U.heap = s.heap) : StrK q v A U := by
  obtain ⟨h1, h2, h3, h4, h5, h6, h7⟩ := h
  have ha : s.vm.Alike U.vm := by rw [hv]; exact Vm.Alike.refl _
  unfold StrK
  rw [hh]
  exact ⟨vk_R.same hv h1, va_O.moved ha h2, va_OF.moved ha h3, va_OF.moved ha h4, va_T.moved ha h5, va_Z.moved ha h6, va_Zq.moved ha h7⟩
def AΓ (Γ : Ga) : Nat → Prop := fun q => Γ.2.2 ≤ q
def StrX (Γ : Ga) (q v : Nat) (X : Cx) : Prop := match X with
  | (_, _, _, _, s, _, _, _, _, _, _) => StrK q v (AΓ Γ) s
def SpS (Γ : Ga) (d : Nat) (md : Md) (as : List Value) (κ : Kp) (I : Ip) (Q : Option Value → Kp → Ip → Prop) (q v : Nat) : Prop := ∀ X : Cx, Mx Γ d md Q X → StrX Γ q v X → GW Γ md X 0 (lv_args 0 as) [] κ I 0 0
def PcS (Γ : Ga) (as : List Value) (κ : Kp) (I : Ip) (q v : Nat) : Array Value → State → Prop := fun a U => PcOf Γ as κ I a U ∧ StrK q v (AΓ Γ) U
theorem PcS.blind {Γ : Ga} {as : List Value} {κ : Kp} {I : Ip} {q v : Nat} : FrameBlind (PcS Γ as κ I q v) := by
  intro a U g mk h
  exact ⟨PcOf.blind a U g mk h.1, h.2.call rfl rfl⟩
theorem SpS.met {Γ : Ga} {d n : Nat} {md : Md} {as : List Value} {κ : Kp} {I : Ip} {Q : Option Value → Kp → Ip → Prop} {q v : Nat} (l : Launch) (h : SpS Γ d md as κ I Q q v) (hok : okB md n) (hlen : (lg_sl as).length ≤ md.2.2.1) : Met l md.1 (wsOf md) (rm d md) (PcS Γ as κ I q v) (QcOf Γ Q) md.2.2.2.2.1 md.2.2.2.2.2 (fun q : Nat => Γ.2.2 ≤ q) := by
  refine Met.ofW (cc := md.2.1) (maxL := md.2.2.1) (ret := md.2.2.2.1) hok.2.2.2.2.2 rfl ?_
  intro p e s m args below meth c s₁ B hml hv
  obtain ⟨⟨rfl, hRep, hK, hnw, hbs, hao⟩, hstr⟩ := hv
  have hl := lv_entry as (n := md.2.2.1) hlen
  rw [lg_entry_eq]
  generalize (lg_sl as ++ List.replicate (md.2.2.1 - (lg_sl as).length) Slot.unset).toArray = ls at hl ⊢
  have hts : ∀ w ∈ wg, w.before as.toArray s = true := fun w hw => atoms_spec (ws := wsOf md) B.pre w (List.mem_cons_of_mem _ hw)
  exact h (p, l, e, rm d md, s, m, as.toArray, below, meth, c, _) ⟨⟨B.exec, B.bytes, hml, findClass_of_methodNamed B.named, hts, hnw, hK, B.notSynchronized, hbs, B.returns, (name_of_methodNamed B.named B.method).1, hao⟩, rfl, rfl⟩ hstr s.heap [] ls hRep va_S.rf hl
section GCS
variable {Γ : Ga} {md md' : Md} {X : Cx} {pc d idx q v : Nat} {lv lv' : List (Nat × Value)} {r st As : List Value} {κ : Kp} {I : Ip} {a b mc ms : Nat}
theorem g_callSS {n : Nat} (hX : Std Γ md X) (hStr : StrX Γ q v X) (hR : RmOK md X d) (hd : decode md.2.1 pc = .ok (.invokestatic idx, 3)) (hc : CL md.1.cls idx md'.1) (hok : okS md' n) (hst : st = As.reverse ++ r) (hn : As.length = n) (hlen : (lg_sl As).length ≤ md'.2.2.1) (hw : (r.map fun v => v.category).sum ≤ 8) (hcs : a + md'.2.2.2.2.1 ≤ md.2.2.2.2.1 ∧ b + md'.2.2.2.2.2 ≤ md.2.2.2.2.2)
    (hsp : SpS Γ d md' As κ I (fun v κ' I' => GW Γ md X (pc + 3) lv (v.toList ++ r) κ' I' (a + md'.2.2.2.2.1) (b + md'.2.2.2.2.2)) q v) : GW Γ md X pc lv st κ I a b := by
  obtain ⟨p, l, e, R, s, m, args, below, meth, c, Q⟩ := X
  obtain ⟨hx, hb, hml, hown, hts, hnw, hK, -, hbs, -, -, hao⟩ := hX
  obtain ⟨r1, r2, r3, r4⟩ := hR
  intro H locs ls hRp hS hl
  have hM := hsp.met l hok.1 hlen
  obtain ⟨⟨o1, o2, o3, o4, o5, o6⟩, o7⟩ := hok
  have hcallee : (d : Nat) + 1 ≤ R.frames ∧ 8 + (md'.2.2.1 + 11) + (rm d md').locals ≤ R.locals := ⟨r1, by show 8 + (md'.2.2.1 + 11) + 40 * d ≤ _; omega⟩
  have hG : GoodIn wg (wsOf md') := wg_goodIn (fun w hw => by
    rcases List.mem_cons.mp hw with e | e
    · rw [e]; exact o1
    · exact e)
  have hpar : ∀ sig, parseMethodDescriptor md'.1.desc = some sig → n = sig.parameters.length := fun sig h => by
    rw [h] at o4
    exact (Option.some.inj o4).symm
  have hPre : PreS s H (PcS Γ As κ I q v) As := ⟨PcS.blind, fun U hU hW => ⟨PcOf.of hRp hK hnw hbs hao hS hU hW, hStr.to hS hU hW⟩⟩
  have hfit : a + md'.2.2.2.2.1 ≤ R.cells ∧ b + md'.2.2.2.2.2 ≤ R.slots := by rw [r3, r4]; exact hcs
  have hcode := hts _ o1
  have hini := hts _ o2
  have hrest : 2 * (F0 m pc ls st).monitorRoom + (r.map fun v => v.category).sum ≤ 8 := by show 2 * 0 + _ ≤ 8; omega
  rcases hc with hc | ⟨host, hc⟩
  · exact g_back hl hS (va_runS (As := As) (rest := r) ⟨hx, hb, hml, hown, hts⟩ hM ⟨⟨rfl, rfl, hcallee.1, hcallee.2, pay_in hts hG, List.mem_cons_self, hcode, hini, o3, hpar, hts _ hc⟩, hts _ o7⟩ hPre rfl hn hl.1 hst hrest hd hfit) (fun _ _ _ h => h)
  · exact g_back hl hS (va_runSN (As := As) (rest := r) ⟨hx, hb, hml, hown, hts⟩ hM ⟨⟨⟨rfl, rfl, hcallee.1, hcallee.2, pay_in hts hG, List.mem_cons_self⟩, hcode, hini, o3, hpar, va_Nw.use (nw_tab hc) (hnw _ hc)⟩, hts _ o7, trivial⟩ hPre rfl hn hl.1 hst hrest hd hfit) (fun _ _ _ h => h)
theorem g_callIS {x n : Nat} (hX : Std Γ md X) (hStr : StrX Γ q v X) (hR : RmOK md X d) (hd : decode md.2.1 pc = .ok (.invokespecial idx, 3)) (hc : CL md.1.cls idx md'.1) (hok : okI md' n) (hst : st = As.reverse ++ .ref x :: r) (hn : As.length = n) (hlen : (lg_sl (.ref x :: As)).length ≤ md'.2.2.1) (hw : (r.map fun v => v.category).sum ≤ 8) (hcs : a + md'.2.2.2.2.1 ≤ md.2.2.2.2.1 ∧ b + md'.2.2.2.2.2 ≤ md.2.2.2.2.2)
    (hsp : SpS Γ d md' (.ref x :: As) κ I (fun v κ' I' => GW Γ md X (pc + 3) lv (v.toList ++ r) κ' I' (a + md'.2.2.2.2.1) (b + md'.2.2.2.2.2)) q v) : GW Γ md X pc lv st κ I a b := by
  obtain ⟨p, l, e, R, s, m, args, below, meth, c, Q⟩ := X
  obtain ⟨hx, hb, hml, hown, hts, hnw, hK, -, hbs, -, -, hao⟩ := hX
  obtain ⟨r1, r2, r3, r4⟩ := hR
  intro H locs ls hRp hS hl
  have hM := hsp.met l hok.1 hlen
  obtain ⟨⟨o1, o2, o3, o4, o5, o6⟩, o7, o8, o9⟩ := hok
  have hcallee : (d : Nat) + 1 ≤ R.frames ∧ 8 + (md'.2.2.1 + 11) + (rm d md').locals ≤ R.locals := ⟨r1, by show 8 + (md'.2.2.1 + 11) + 40 * d ≤ _; omega⟩
  have hG : GoodIn wg (wsOf md') := wg_goodIn (fun w hw => by
    rcases List.mem_cons.mp hw with e | e
    · rw [e]; exact o1
    · exact e)
  have hpar : ∀ sig, parseMethodDescriptor md'.1.desc = some sig → n = sig.parameters.length := fun sig h => by
    rw [h] at o4
    exact (Option.some.inj o4).symm
  have hPre : PreS s H (PcS Γ (.ref x :: As) κ I q v) (.ref x :: As) := ⟨PcS.blind, fun U hU hW => ⟨PcOf.of hRp hK hnw hbs hao hS hU hW, hStr.to hS hU hW⟩⟩
  have hfit : a + md'.2.2.2.2.1 ≤ R.cells ∧ b + md'.2.2.2.2.2 ≤ R.slots := by rw [r3, r4]; exact hcs
  rw [o9] at o1
  have hcode := hts _ o1
  have hini := hts _ o2
  have hcw : Cond.code md'.1 md'.2.1 md'.2.2.1 none ∈ wsOf md' := by unfold wsOf; rw [o9]; exact List.mem_cons_self
  have hrest : 2 * (F0 m pc ls st).monitorRoom + (r.map fun v => v.category).sum ≤ 8 := by show 2 * 0 + _ ≤ 8; omega
  rcases hc with hc | ⟨host, hc⟩
  · exact g_back hl hS (va_runI (As := As) (rest := r) ⟨hx, hb, hml, hown, hts⟩ hM ⟨⟨rfl, rfl, hcallee.1, hcallee.2, pay_in hts hG, hcw, hcode, hini, o3, hpar, hts _ hc⟩, o8, hts _ o7⟩ hPre rfl hn hl.1 hst hrest hd hfit) (fun _ _ _ h => h)
  · exact g_back hl hS (va_runIN (As := As) (rest := r) ⟨hx, hb, hml, hown, hts⟩ hM ⟨⟨⟨rfl, rfl, hcallee.1, hcallee.2, pay_in hts hG, hcw⟩, hcode, hini, o3, hpar, va_Nw.use (nw_tab hc) (hnw _ hc)⟩, o8, hts _ o7⟩ hPre rfl hn hl.1 hst hrest hd hfit) (fun _ _ _ h => h)
theorem g_callVS {n : Nat} (hX : Std Γ md X) (hStr : StrX Γ q v X) (hR : RmOK md X d) (hd : decode md.2.1 pc = .ok (.invokevirtual idx, 3)) (hc : CL md.1.cls idx md'.1) (hok : okV md' n) (hcls : md'.1.cls = "java/lang/String") (hst : st = As.reverse ++ .ref q :: r) (hn : As.length = n) (hlen : (lg_sl (.ref q :: As)).length ≤ md'.2.2.1) (hw : (r.map fun v => v.category).sum ≤ 8) (hcs : a + md'.2.2.2.2.1 ≤ md.2.2.2.2.1 ∧ b + md'.2.2.2.2.2 ≤ md.2.2.2.2.2)
    (hsp : SpS Γ d md' (.ref q :: As) κ I (fun v κ' I' => GW Γ md X (pc + 3) lv (v.toList ++ r) κ' I' (a + md'.2.2.2.2.1) (b + md'.2.2.2.2.2)) q v) : GW Γ md X pc lv st κ I a b := by
  obtain ⟨p, l, e, R, s, m, args, below, meth, c, Q⟩ := X
  obtain ⟨hx, hb, hml, hown, hts, hnw, hK, -, hbs, -, -, hao⟩ := hX
  obtain ⟨r1, r2, r3, r4⟩ := hR
  intro H locs ls hRp hS hl
  have hM := hsp.met l hok.1 hlen
  obtain ⟨⟨o1, o2, o3, o4, o5, o6⟩, o7, o8⟩ := hok
  have hcallee : (d : Nat) + 1 ≤ R.frames ∧ 8 + (md'.2.2.1 + 11) + (rm d md').locals ≤ R.locals := ⟨r1, by show 8 + (md'.2.2.1 + 11) + 40 * d ≤ _; omega⟩
  have hG : GoodIn wg (wsOf md') := wg_goodIn (fun w hw => by
    rcases List.mem_cons.mp hw with e | e
    · rw [e]; exact o1
    · exact e)
  have hpar : ∀ sig, parseMethodDescriptor md'.1.desc = some sig → n = sig.parameters.length := fun sig h => by
    rw [h] at o4
    exact (Option.some.inj o4).symm
  have hrec : ∃ cellB : Cell, H[q]? = some cellB ∧ cellB.vm.isStatics = false ∧ s.vm.findClass md'.1.cls = some cellB.cls := by
    obtain ⟨cell, q1, q2, q3, -⟩ := (show StrK q v (AΓ Γ) s from hStr).2.1.kept hS.2.1
    exact ⟨cell, q1, q2, by rw [hcls]; exact q3⟩
  have hPre : PreV s H md'.1.cls q (PcS Γ (.ref q :: As) κ I q v) As := ⟨PcS.blind, hrec, fun U hU hW => ⟨PcOf.of hRp hK hnw hbs hao hS hU hW, hStr.to hS hU hW⟩⟩
  have hfit : a + md'.2.2.2.2.1 ≤ R.cells ∧ b + md'.2.2.2.2.2 ≤ R.slots := by rw [r3, r4]; exact hcs
  have hcode := hts _ o1
  have hini := hts _ o2
  have hrest : 2 * (F0 m pc ls st).monitorRoom + (r.map fun v => v.category).sum ≤ 8 := by show 2 * 0 + _ ≤ 8; omega
  rcases hc with hc | ⟨host, hc⟩
  · exact g_back hl hS (va_runV (C := md'.1.cls) (As := As) (rest := r) ⟨hx, hb, hml, hown, hts⟩ hM ⟨⟨rfl, rfl, hcallee.1, hcallee.2, pay_in hts hG, List.mem_cons_self, hcode, hini, o3, hpar, hts _ hc⟩, hts _ o7, hts _ o8⟩ hPre rfl hn hl.1 hst hrest hd hfit) (fun _ _ _ h => h)
  · exact g_back hl hS (va_runVN (C := md'.1.cls) (As := As) (rest := r) ⟨hx, hb, hml, hown, hts⟩ hM ⟨⟨⟨rfl, rfl, hcallee.1, hcallee.2, pay_in hts hG, List.mem_cons_self⟩, hcode, hini, o3, hpar, va_Nw.use (nw_tab hc) (hnw _ hc)⟩, hts _ o7, hts _ o8⟩ hPre rfl hn hl.1 hst hrest hd hfit) (fun _ _ _ h => h)
theorem g_ldcS (hX : Std Γ md X) (hStr : StrX Γ q v X) (hmd : md.1.cls = "ChurnTalk") (hd : decode md.2.1 pc = .ok (.ldc 55, 2)) (k : GW Γ md X (pc + 2) lv (.ref q :: r) κ I a b) : GW Γ md X pc lv r κ I a b := by
  obtain ⟨p, l, e, R, s, m, args, below, meth, c, Q⟩ := X
  obtain ⟨hx, hb, hml, hown, -⟩ := hX
  intro H locs ls hR hS hl
  rw [hmd] at hown
  exact va_ldcS hx hb hown (show StrK q v (AΓ Γ) s from hStr).1 hd (k H locs ls hR hS hl)
theorem g_strF {fn fd : String} {w : Value} (hX : Std Γ md X) (hF : ∀ s : State, StrK q v (AΓ Γ) s → va_OF "java/lang/String" fn fd w q (AΓ Γ) s s.heap) (hStr : StrX Γ q v X) (hd : decode md.2.1 pc = .ok (.getfield idx, 3)) (hl : Cond.fieldLink md.1.cls idx "java/lang/String" fn fd ∈ wg) (k : GW Γ md X (pc + 3) lv (w :: r) κ I a b) : GW Γ md X pc lv (.ref q :: r) κ I a b := by
  obtain ⟨p, l, e, R, s, m, args, below, meth, c, Q⟩ := X
  obtain ⟨hx, hb, hml, hown, hts, -⟩ := hX
  intro H locs ls hR hS hl2
  exact vk_getf hx hb (hF s hStr) hS hown (hts _ hl) (fun _ h => h) hd (k H locs ls hR hS hl2)
theorem g_gets {C fn fd : String} {w : Value} (hX : Std Γ md X) (hZ : ∀ s : State, StrK q v (AΓ Γ) s → va_Z C fn fd w (AΓ Γ) s s.heap) (hStr : StrX Γ q v X) (hd : decode md.2.1 pc = .ok (.getstatic idx, 3)) (hl : Cond.fieldLink md.1.cls idx C fn fd ∈ wg) (k : GW Γ md X (pc + 3) lv (w :: r) κ I a b) : GW Γ md X pc lv r κ I a b := by
  obtain ⟨p, l, e, R, s, m, args, below, meth, c, Q⟩ := X
  obtain ⟨hx, hb, hml, hown, hts, -⟩ := hX
  intro H locs ls hR hS hl2
  exact va_gets hx hb (hZ s hStr) hS hown (hts _ hl) (fun _ h => h) hd (k H locs ls hR hS hl2)
theorem g_getq {C fn fd : String} (hX : Std Γ md X) (hZ : ∀ s : State, StrK q v (AΓ Γ) s → va_Zq C fn fd (AΓ Γ) s s.heap) (hStr : StrX Γ q v X) (hd : decode md.2.1 pc = .ok (.getstatic idx, 3)) (hl : Cond.fieldLink md.1.cls idx C fn fd ∈ wg) (k0 : GW Γ md X (pc + 3) lv (.null :: r) κ I a b) (k1 : ∀ t : Nat, GW Γ md X (pc + 3) lv (.ref t :: r) κ I a b) : GW Γ md X pc lv r κ I a b := by
  obtain ⟨p, l, e, R, s, m, args, below, meth, c, Q⟩ := X
  obtain ⟨hx, hb, hml, hown, hts, -⟩ := hX
  intro H locs ls hR hS hl2
  rcases hZ s hStr with h | ⟨t, h⟩
  · exact va_gets hx hb h hS hown (hts _ hl) (fun _ h => h) hd (k0 H locs ls hR hS hl2)
  · exact va_gets hx hb h hS hown (hts _ hl) (fun _ h => h) hd (k1 t H locs ls hR hS hl2)
theorem g_tlen (hX : Std Γ md X) (hStr : StrX Γ q v X) (hd : decode md.2.1 pc = .ok (.arraylength, 1)) (k : GW Γ md X (pc + 1) lv (.int (nI 119) :: r) κ I a b) : GW Γ md X pc lv (.ref v :: r) κ I a b := by
  obtain ⟨p, l, e, R, s, m, args, below, meth, c, Q⟩ := X
  obtain ⟨hx, hb, hml, hown, hts, -⟩ := hX
  intro H locs ls hR hS hl2
  exact va_tlen hx hb (show StrK q v (AΓ Γ) s from hStr).2.2.2.2.1 hS rfl hd (k H locs ls hR hS hl2)
theorem g_tbld {j : Nat} (hX : Std Γ md X) (hStr : StrX Γ q v X) (hd : decode md.2.1 pc = .ok (.baload, 1)) (hj : j < 119) (k : GW Γ md X (pc + 1) lv (.int (nI (BYF j)) :: r) κ I a b) : GW Γ md X pc lv (.int (nI j) :: .ref v :: r) κ I a b := by
  obtain ⟨p, l, e, R, s, m, args, below, meth, c, Q⟩ := X
  obtain ⟨hx, hb, hml, hown, hts, -⟩ := hX
  intro H locs ls hR hS hl2
  exact va_tb hx hb (show StrK q v (AΓ Γ) s from hStr).2.2.2.2.1 hS (vp_in_nI hj (by decide)) (by rw [nI_clamp (by omega)]) hd (k H locs ls hR hS hl2)
end GCS
abbrev mJ0_length_8abf5 : Md := (yJ0_length_8abf5, cJ0_length_8abf5, 1, (some .int), 0, 0)
theorem okJ0_length_8abf5 : okV mJ0_length_8abf5 0 := ⟨⟨wg_mem (i := 168) (by decide +kernel) (by decide +kernel), wg_mem (i := 8) (by decide +kernel) (by decide +kernel), ⟨by decide +kernel, by decide +kernel⟩, by decide +kernel, by decide, by decide +kernel⟩, wg_mem (i := 166) (by decide +kernel) (by decide +kernel), wg_mem (i := 167) (by decide +kernel) (by decide +kernel)⟩
abbrev mJ0_charAt_5068e : Md := (yJ0_charAt_5068e, cJ0_charAt_5068e, 2, (some .char), 0, 0)
theorem okJ0_charAt_5068e : okV mJ0_charAt_5068e 1 := ⟨⟨wg_mem (i := 178) (by decide +kernel) (by decide +kernel), wg_mem (i := 8) (by decide +kernel) (by decide +kernel), ⟨by decide +kernel, by decide +kernel⟩, by decide +kernel, by decide, by decide +kernel⟩, wg_mem (i := 176) (by decide +kernel) (by decide +kernel), wg_mem (i := 177) (by decide +kernel) (by decide +kernel)⟩
abbrev mJ0_coder_7d493 : Md := (yJ0_coder_7d493, cJ0_coder_7d493, 1, (some .byte), 0, 0)
theorem okJ0_coder_7d493 : okV mJ0_coder_7d493 0 := ⟨⟨wg_mem (i := 172) (by decide +kernel) (by decide +kernel), wg_mem (i := 8) (by decide +kernel) (by decide +kernel), ⟨by decide +kernel, by decide +kernel⟩, by decide +kernel, by decide, by decide +kernel⟩, wg_mem (i := 170) (by decide +kernel) (by decide +kernel), wg_mem (i := 171) (by decide +kernel) (by decide +kernel)⟩
abbrev mJ0_isLatin1_aae02 : Md := (yJ0_isLatin1_aae02, cJ0_isLatin1_aae02, 1, (some .boolean), 0, 0)
theorem okJ0_isLatin1_aae02 : okV mJ0_isLatin1_aae02 0 := ⟨⟨wg_mem (i := 182) (by decide +kernel) (by decide +kernel), wg_mem (i := 8) (by decide +kernel) (by decide +kernel), ⟨by decide +kernel, by decide +kernel⟩, by decide +kernel, by decide, by decide +kernel⟩, wg_mem (i := 180) (by decide +kernel) (by decide +kernel), wg_mem (i := 181) (by decide +kernel) (by decide +kernel)⟩
abbrev mJ0_checkIndex_df160 : Md := (yJ0_checkIndex_df160, cJ0_checkIndex_df160, 2, none, 0, 0)
theorem okJ0_checkIndex_df160 : okS mJ0_checkIndex_df160 2 := ⟨⟨wg_mem (i := 188) (by decide +kernel) (by decide +kernel), wg_mem (i := 8) (by decide +kernel) (by decide +kernel), ⟨by decide +kernel, by decide +kernel⟩, by decide +kernel, by decide, by decide +kernel⟩, wg_mem (i := 187) (by decide +kernel) (by decide +kernel)⟩
abbrev mJ1_charAt_3b067 : Md := (yJ1_charAt_3b067, cJ1_charAt_3b067, 2, (some .char), 0, 0)
theorem okJ1_charAt_3b067 : okS mJ1_charAt_3b067 2 := ⟨⟨wg_mem (i := 185) (by decide +kernel) (by decide +kernel), wg_mem (i := 9) (by decide +kernel) (by decide +kernel), ⟨by decide +kernel, by decide +kernel⟩, by decide +kernel, by decide, by decide +kernel⟩, wg_mem (i := 184) (by decide +kernel) (by decide +kernel)⟩
abbrev mJ3_checkIndex_8e157 : Md := (yJ3_checkIndex_8e157, cJ3_checkIndex_8e157, 3, (some .int), 0, 0)
theorem okJ3_checkIndex_8e157 : okS mJ3_checkIndex_8e157 3 := ⟨⟨wg_mem (i := 193) (by decide +kernel) (by decide +kernel), wg_mem (i := 10) (by decide +kernel) (by decide +kernel), ⟨by decide +kernel, by decide +kernel⟩, by decide +kernel, by decide, by decide +kernel⟩, wg_mem (i := 192) (by decide +kernel) (by decide +kernel)⟩
theorem clX5_57 : CL RX5 57 yJ0_length_8abf5 := Or.inl (wg_mem (i := 165) (by decide +kernel) (by decide +kernel))
theorem clX5_63 : CL RX5 63 yJ0_charAt_5068e := Or.inl (wg_mem (i := 175) (by decide +kernel) (by decide +kernel))
theorem clJ0_335 : CL RJ0 335 yJ0_coder_7d493 := Or.inl (wg_mem (i := 169) (by decide +kernel) (by decide +kernel))
theorem clJ0_492 : CL RJ0 492 yJ0_isLatin1_aae02 := Or.inl (wg_mem (i := 179) (by decide +kernel) (by decide +kernel))
theorem clJ0_495 : CL RJ0 495 yJ1_charAt_3b067 := Or.inl (wg_mem (i := 183) (by decide +kernel) (by decide +kernel))
theorem clJ1_9 : CL RJ1 9 yJ0_checkIndex_df160 := Or.inl (wg_mem (i := 186) (by decide +kernel) (by decide +kernel))
theorem clJ0_1059 : CL RJ0 1059 yJ3_checkIndex_8e157 := Or.inl (wg_mem (i := 191) (by decide +kernel) (by decide +kernel))
theorem flJ0_9 : Cond.fieldLink RJ0 9 "java/lang/String" "value" "[B" ∈ wg := wg_mem (i := 1068) (by decide +kernel) (by decide +kernel)
theorem flJ0_15 : Cond.fieldLink RJ0 15 "java/lang/String" "coder" "B" ∈ wg := wg_mem (i := 1069) (by decide +kernel) (by decide +kernel)
theorem flJ0_38 : Cond.fieldLink RJ0 38 "java/lang/String" "COMPACT_STRINGS" "Z" ∈ wg := wg_mem (i := 173) (by decide +kernel) (by decide +kernel)
theorem flJ0_1053 : Cond.fieldLink RJ0 1053 "jdk/internal/util/Preconditions" "SIOOBE_FORMATTER" "Ljava/util/function/BiFunction;" ∈ wg := wg_mem (i := 189) (by decide +kernel) (by decide +kernel)
set_option maxHeartbeats 4000000 in
theorem sp_J0_coder_7d493 {Γ : Ga} {d : Nat} {κ : Kp} {I : Ip} {Q : Option Value → Kp → Ip → Prop} {q v : Nat}   (hq : Q (some (.int 0)) κ I) : SpS Γ d mJ0_coder_7d493 [.ref q] κ I Q q v := by
  intro X hM hStr
  have hX := hM.std
  show GW Γ mJ0_coder_7d493 X 0 [(0, .ref q)] [] κ I 0 0
  refine g_gets (w := .int 1) hX (fun s h => h.2.2.2.2.2.1) hStr dJ0_coder_7d493_0 flJ0_38 ?_
  refine g_ifeq 13 hX dJ0_coder_7d493_3 (by decide) (fun c3 => absurd c3 (by decide)) (fun c3 => ?_)
  refine g_aload_n hX dJ0_coder_7d493_6 rfl rfl ?_
  refine g_strF (w := .int 0) hX (fun s h => h.2.2.1) hStr dJ0_coder_7d493_7 flJ0_15 ?_
  refine g_goto 14 hX dJ0_coder_7d493_10 (by decide) ?_
  exact g_iret hM dJ0_coder_7d493_14 rfl rfl ⟨Nat.le_of_ble_eq_true rfl, Nat.le_of_ble_eq_true rfl⟩ hq
set_option maxHeartbeats 4000000 in
theorem sp_J0_length_8abf5 {Γ : Ga} {d : Nat} {κ : Kp} {I : Ip} {Q : Option Value → Kp → Ip → Prop} {q v : Nat}   (hq : Q (some (.int (nI 119))) κ I) : SpS Γ (d + 1) mJ0_length_8abf5 [.ref q] κ I Q q v := by
  intro X hM hStr
  have hX := hM.std
  have hR := hM.room
  show GW Γ mJ0_length_8abf5 X 0 [(0, .ref q)] [] κ I 0 0
  refine g_aload_n hX dJ0_length_8abf5_0 rfl rfl ?_
  refine g_strF (w := .ref v) hX (fun s h => h.2.2.2.1) hStr dJ0_length_8abf5_1 flJ0_9 ?_
  refine g_tlen hX hStr dJ0_length_8abf5_4 ?_
  refine g_aload_n hX dJ0_length_8abf5_5 rfl rfl ?_
  refine g_callVS (md' := mJ0_coder_7d493) (As := []) hX hStr hR dJ0_length_8abf5_6 clJ0_335 okJ0_coder_7d493 rfl rfl rfl (Nat.le_of_ble_eq_true rfl) (Nat.le_of_ble_eq_true rfl) ⟨Nat.le_of_ble_eq_true rfl, Nat.le_of_ble_eq_true rfl⟩ ?_
  refine sp_J0_coder_7d493 ?_
  change GW _ _ _ 9 _ [.int _, .int _] _ _ 0 0
  refine g_ishr hX dJ0_length_8abf5_9 ?_
  exact g_iret hM dJ0_length_8abf5_10 rfl rfl ⟨Nat.le_of_ble_eq_true rfl, Nat.le_of_ble_eq_true rfl⟩ (q_int (by decide) hq)
set_option maxHeartbeats 4000000 in
theorem sp_J0_isLatin1_aae02 {Γ : Ga} {d : Nat} {κ : Kp} {I : Ip} {Q : Option Value → Kp → Ip → Prop} {q v : Nat}   (hq : Q (some (.int 1)) κ I) : SpS Γ d mJ0_isLatin1_aae02 [.ref q] κ I Q q v := by
  intro X hM hStr
  have hX := hM.std
  show GW Γ mJ0_isLatin1_aae02 X 0 [(0, .ref q)] [] κ I 0 0
  refine g_gets (w := .int 1) hX (fun s h => h.2.2.2.2.2.1) hStr dJ0_isLatin1_aae02_0 flJ0_38 ?_
  refine g_ifeq 17 hX dJ0_isLatin1_aae02_3 (by decide) (fun c3 => absurd c3 (by decide)) (fun c3 => ?_)
  refine g_aload_n hX dJ0_isLatin1_aae02_6 rfl rfl ?_
  refine g_strF (w := .int 0) hX (fun s h => h.2.2.1) hStr dJ0_isLatin1_aae02_7 flJ0_15 ?_
  refine g_ifne 17 hX dJ0_isLatin1_aae02_10 (by decide) (fun c10 => absurd rfl c10) (fun c10 => ?_)
  refine g_iconst (v := nI 1) hX dJ0_isLatin1_aae02_13 (by decide) ?_
  refine g_goto 18 hX dJ0_isLatin1_aae02_14 (by decide) ?_
  exact g_iret hM dJ0_isLatin1_aae02_18 rfl rfl ⟨Nat.le_of_ble_eq_true rfl, Nat.le_of_ble_eq_true rfl⟩ (q_int (by decide) hq)
set_option maxHeartbeats 4000000 in
theorem sp_J3_checkIndex_8e157 {Γ : Ga} {d : Nat} {κ : Kp} {I : Ip} {Q : Option Value → Kp → Ip → Prop} {q v : Nat} {k : Nat} {w : Value} (hk : k < 119) (hw : w = .null ∨ ∃ t, w = .ref t) (hq : Q (some (.int (nI k))) κ I) : SpS Γ d mJ3_checkIndex_8e157 [.int (nI k), .int (nI 119), w] κ I Q q v := by
  intro X hM hStr
  have hX := hM.std
  have hc : GW Γ mJ3_checkIndex_8e157 X 0 [(0, .int (nI k)), (1, .int (nI 119))] [] κ I 0 0 := by
    refine g_iload_n hX dJ3_checkIndex_8e157_0 rfl rfl ?_
    refine g_iflt 9 hX dJ3_checkIndex_8e157_1 (by decide) (fun c1 => ?_) (fun c1 => ?_)
    · rw [x_lt_0, nI_toInt (by omega)] at c1
      exfalso; omega
    refine g_iload_n hX dJ3_checkIndex_8e157_4 rfl rfl ?_
    refine g_iload_n hX dJ3_checkIndex_8e157_5 rfl rfl ?_
    refine g_icmplt 16 hX dJ3_checkIndex_8e157_6 (by decide) (fun c6 => ?_) (fun c6 => ?_)
    · refine g_iload_n hX dJ3_checkIndex_8e157_16 rfl rfl ?_
      exact g_iret hM dJ3_checkIndex_8e157_17 rfl rfl ⟨Nat.le_of_ble_eq_true rfl, Nat.le_of_ble_eq_true rfl⟩ hq
    · rw [lt_nI (by omega) (by omega)] at c6
      exfalso; omega
  rcases hw with rfl | ⟨t, rfl⟩
  · exact g_sub (lv := [(0, .int (nI k)), (1, .int (nI 119)), (2, .null)]) (fun z hz => by simp at hz ⊢; rcases hz with h | h <;> simp [h]) hc
  · exact g_sub (lv := [(0, .int (nI k)), (1, .int (nI 119)), (2, .ref t)]) (fun z hz => by simp at hz ⊢; rcases hz with h | h <;> simp [h]) hc
set_option maxHeartbeats 4000000 in
theorem sp_J0_checkIndex_df160 {Γ : Ga} {d : Nat} {κ : Kp} {I : Ip} {Q : Option Value → Kp → Ip → Prop} {q v : Nat} {k : Nat} (hk : k < 119) (hq : Q none κ I) : SpS Γ (d + 1) mJ0_checkIndex_df160 [.int (nI k), .int (nI 119)] κ I Q q v := by
  intro X hM hStr
  have hX := hM.std
  have hR := hM.room
  show GW Γ mJ0_checkIndex_df160 X 0 [(0, .int (nI k)), (1, .int (nI 119))] [] κ I 0 0
  refine g_iload_n hX dJ0_checkIndex_df160_0 rfl rfl ?_
  refine g_iload_n hX dJ0_checkIndex_df160_1 rfl rfl ?_
  refine g_getq hX (fun s h => h.2.2.2.2.2.2) hStr dJ0_checkIndex_df160_2 flJ0_1053 ?_ (fun t => ?_)
  · refine g_callSS (md' := mJ3_checkIndex_8e157) (As := [.int (nI k), .int (nI 119), .null]) hX hStr hR dJ0_checkIndex_df160_5 clJ0_1059 okJ3_checkIndex_8e157 rfl rfl (Nat.le_of_ble_eq_true rfl) (Nat.le_of_ble_eq_true rfl) ⟨Nat.le_of_ble_eq_true rfl, Nat.le_of_ble_eq_true rfl⟩ ?_
    refine sp_J3_checkIndex_8e157 hk (Or.inl rfl) ?_
    change GW _ _ _ 8 _ [.int _] _ _ 0 0
    refine g_pop hX dJ0_checkIndex_df160_8 rfl ?_
    exact g_vret hM dJ0_checkIndex_df160_9 rfl ⟨Nat.le_of_ble_eq_true rfl, Nat.le_of_ble_eq_true rfl⟩ hq
  · refine g_callSS (md' := mJ3_checkIndex_8e157) (As := [.int (nI k), .int (nI 119), .ref t]) hX hStr hR dJ0_checkIndex_df160_5 clJ0_1059 okJ3_checkIndex_8e157 rfl rfl (Nat.le_of_ble_eq_true rfl) (Nat.le_of_ble_eq_true rfl) ⟨Nat.le_of_ble_eq_true rfl, Nat.le_of_ble_eq_true rfl⟩ ?_
    refine sp_J3_checkIndex_8e157 hk (Or.inr ⟨t, rfl⟩) ?_
    change GW _ _ _ 8 _ [.int _] _ _ 0 0
    refine g_pop hX dJ0_checkIndex_df160_8 rfl ?_
    exact g_vret hM dJ0_checkIndex_df160_9 rfl ⟨Nat.le_of_ble_eq_true rfl, Nat.le_of_ble_eq_true rfl⟩ hq
theorem by_and : ∀ c, c < 127 → nI c &&& nI 255 = nI c := by decide +kernel
theorem by_nar (c : Nat) (h : c < 127) : narrow .char (.int (nI c)) = .int (nI c) := by
  show Value.int ((nI c).toUInt32 % 65536).toInt32 = _
  rw [i2c_nI c h]
set_option maxHeartbeats 4000000 in
theorem sp_J1_charAt_3b067 {Γ : Ga} {d : Nat} {κ : Kp} {I : Ip} {Q : Option Value → Kp → Ip → Prop} {q v : Nat} {k : Nat} (hk : k < 119) (hq : Q (some (.int (nI (BYF k)))) κ I) : SpS Γ (d + 2) mJ1_charAt_3b067 [.ref v, .int (nI k)] κ I Q q v := by
  intro X hM hStr
  have hX := hM.std
  have hR := hM.room
  have hb := BY_ok k hk
  show GW Γ mJ1_charAt_3b067 X 0 [(0, .ref v), (1, .int (nI k))] [] κ I 0 0
  refine g_iload_n hX dJ1_charAt_3b067_0 rfl rfl ?_
  refine g_aload_n hX dJ1_charAt_3b067_1 rfl rfl ?_
  refine g_tlen hX hStr dJ1_charAt_3b067_2 ?_
  refine g_callSS (md' := mJ0_checkIndex_df160) (As := [.int (nI k), .int (nI 119)]) hX hStr hR dJ1_charAt_3b067_3 clJ1_9 okJ0_checkIndex_df160 rfl rfl (Nat.le_of_ble_eq_true rfl) (Nat.le_of_ble_eq_true rfl) ⟨Nat.le_of_ble_eq_true rfl, Nat.le_of_ble_eq_true rfl⟩ ?_
  refine sp_J0_checkIndex_df160 hk ?_
  change GW _ _ _ 6 _ [] _ _ 0 0
  refine g_aload_n hX dJ1_charAt_3b067_6 rfl rfl ?_
  refine g_iload_n hX dJ1_charAt_3b067_7 rfl rfl ?_
  refine g_tbld hX hStr dJ1_charAt_3b067_8 hk ?_
  refine g_sipush (v := nI 255) hX dJ1_charAt_3b067_9 (by decide) ?_
  refine g_iand hX dJ1_charAt_3b067_12 ?_
  rw [by_and _ (by omega)]
  refine g_i2c hX dJ1_charAt_3b067_13 ?_
  rw [i2c_nI _ (by omega)]
  exact g_iret hM dJ1_charAt_3b067_14 rfl (by_nar _ (by omega)) ⟨Nat.le_of_ble_eq_true rfl, Nat.le_of_ble_eq_true rfl⟩ hq
set_option maxHeartbeats 4000000 in
theorem sp_J0_charAt_5068e {Γ : Ga} {d : Nat} {κ : Kp} {I : Ip} {Q : Option Value → Kp → Ip → Prop} {q v : Nat} {k : Nat} (hk : k < 119) (hq : Q (some (.int (nI (BYF k)))) κ I) : SpS Γ (d + 3) mJ0_charAt_5068e [.ref q, .int (nI k)] κ I Q q v := by
  intro X hM hStr
  have hX := hM.std
  have hR := hM.room
  have hb := BY_ok k hk
  show GW Γ mJ0_charAt_5068e X 0 [(0, .ref q), (1, .int (nI k))] [] κ I 0 0
  refine g_aload_n hX dJ0_charAt_5068e_0 rfl rfl ?_
  refine g_callVS (md' := mJ0_isLatin1_aae02) (As := []) hX hStr hR dJ0_charAt_5068e_1 clJ0_492 okJ0_isLatin1_aae02 rfl rfl rfl (Nat.le_of_ble_eq_true rfl) (Nat.le_of_ble_eq_true rfl) ⟨Nat.le_of_ble_eq_true rfl, Nat.le_of_ble_eq_true rfl⟩ ?_
  refine sp_J0_isLatin1_aae02 ?_
  change GW _ _ _ 4 _ [.int _] _ _ 0 0
  refine g_ifeq 16 hX dJ0_charAt_5068e_4 (by decide) (fun c4 => absurd c4 (by decide)) (fun c4 => ?_)
  refine g_aload_n hX dJ0_charAt_5068e_7 rfl rfl ?_
  refine g_strF (w := .ref v) hX (fun s h => h.2.2.2.1) hStr dJ0_charAt_5068e_8 flJ0_9 ?_
  refine g_iload_n hX dJ0_charAt_5068e_11 rfl rfl ?_
  refine g_callSS (md' := mJ1_charAt_3b067) (As := [.ref v, .int (nI k)]) hX hStr hR dJ0_charAt_5068e_12 clJ0_495 okJ1_charAt_3b067 rfl rfl (Nat.le_of_ble_eq_true rfl) (Nat.le_of_ble_eq_true rfl) ⟨Nat.le_of_ble_eq_true rfl, Nat.le_of_ble_eq_true rfl⟩ ?_
  refine sp_J1_charAt_3b067 hk ?_
  change GW _ _ _ 15 _ [.int _] _ _ 0 0
  exact g_iret hM dJ0_charAt_5068e_15 rfl (by_nar _ (by omega)) ⟨Nat.le_of_ble_eq_true rfl, Nat.le_of_ble_eq_true rfl⟩ hq
