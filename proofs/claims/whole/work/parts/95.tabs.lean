/-! what the Statement gives of the String constant, of the classes -/
def STm : Term := .string "ChurnTalk" 55
def VTm : Term := .field STm "java/lang/String" "value" "[B"
def FLN : List Cond := flatC (Jvm.Cond.and given_1 narrow_1)
theorem fl_len : ∀ j, j < 119 → FLN[13 + j]? = some (.eq (.elem VTm (.int (Int32.ofNat j))) (.int (nI (BYF j)))) := by decide +kernel
theorem fl_ex : FLN[9]? = some (.exactly STm "java/lang/String") := by decide +kernel
theorem fl_co : FLN[10]? = some (.eq (.field STm "java/lang/String" "coder" "B") (.int 0)) := by decide +kernel
theorem fl_ar : FLN[11]? = some (.arrayOf VTm .byte) := by decide +kernel
theorem fl_le : FLN[12]? = some (.eq (.length VTm) (.int (Int32.ofNat 119))) := by decide +kernel
theorem fl_cs : FLN[4]? = some (.eq (.static "java/lang/String" "COMPACT_STRINGS" "Z") (.int 1)) := by decide +kernel
theorem fl_sf : FLN[5]? = some (.isRef (.static "jdk/internal/util/Preconditions" "SIOOBE_FORMATTER" "Ljava/util/function/BiFunction;")) := by decide +kernel
theorem str_start {args : Array Value} {s : State} {A : Nat → Prop} (hts : ∀ w ∈ lw_tbl, w.before args s = true) (hgv : (Jvm.Cond.and given_1 narrow_1).before args s = true) (hA : ∀ a : Nat, a < s.heap.size → ¬ A a) : ∃ q v, StrK q v A s := by
  have hs : ∀ {k : Nat} {w : Cond}, FLN[k]? = some w → w.before args s = true := fun h => flat_of_before _ hgv _ (List.mem_of_getElem? h)
  have ht : ∀ {k : Nat} {w : Cond}, tables_1[k]? = some w → w.before args s = true := fun h => hts _ (List.mem_append_right _ (List.mem_of_getElem? h))
  obtain ⟨a, c, cA, kA, q1, q2, q3, q4, q5, q6, -⟩ := Cond.exactly_spec (args := args) (first := s) (o := none) (s := s) (idx := []) (t := STm) (cls := "java/lang/String") (hs fl_ex)
  obtain ⟨t, e, hT⟩ := va_Tof (N := 119) (f := fun j => .int (nI (BYF j))) (A := A) (by decide) (hs fl_ar) (va_eqt (hs fl_le)) (fun j hj => va_eqt (hs (fl_len j hj))) hA
  exact ⟨a, t, vk_R.of (ht (k := 164) (by decide +kernel)) q1, ⟨cA, q3, q5, by rw [q6]; exact q2, hA a (Array.getElem?_eq_some_iff.mp q3).1⟩, vk_OFof q1 (va_eqt (hs fl_co)) hA, vk_OFof q1 e hA, hT, va_Zof (ht (k := 174) (by decide +kernel)) (ht (k := 8) (by decide +kernel)) (va_eqi (hs fl_cs)) hA, va_Zqof (ht (k := 190) (by decide +kernel)) (ht (k := 10) (by decide +kernel)) (hs fl_sf) hA⟩
theorem known_all {args : Array Value} {s : State} (hts : ∀ w ∈ wg, w.before args s = true) {ci : Nat} {r : vw_C} (h : vwCl[ci]? = some r) : ∃ (cC : ClassId) (iS : Nat → Nat), u_Kn s r.1 r.2.1 r.2.2 cC iS := by
  match ci, h with
  | 0, h => have h2 := (cl_ok h).1; cases h; exact u_known hts h2 (hts _ inX0)
  | 1, h => have h2 := (cl_ok h).1; cases h; exact u_known hts h2 (hts _ inX1)
  | 2, h => have h2 := (cl_ok h).1; cases h; exact u_known hts h2 (hts _ inX2)
  | 3, h => have h2 := (cl_ok h).1; cases h; exact u_known hts h2 (hts _ inX3)
  | 4, h => have h2 := (cl_ok h).1; cases h; exact u_known hts h2 (hts _ inX4)
  | 5, h => have h2 := (cl_ok h).1; cases h; exact u_known hts h2 (hts _ inX5)
  | 6, h => have h2 := (cl_ok h).1; cases h; exact u_known hts h2 (hts _ inX6)
  | n + 7, h => simp [vwCl] at h
theorem arr_of {s : State} {cA : ClassId} {kA : Class} {comp : ClassId} {ty : FieldType} (h2 : s.vm.classes[cA]? = some kA) (h3 : kA.kind = .array comp ty) : ArrOfT s cA ty := fun n z => ⟨fun k h => (by cases h), kA, h2, comp, h3⟩
theorem know_start {args : Array Value} {s : State} (hts : ∀ w ∈ wg, w.before args s = true) (hao : va_AO "ChurnTalk$State" s) (n : Nat) : ∃ Γ : Ga, Γ.2.2 = n ∧ va_K Γ.1 vwCl (tysG Γ) s := by
  have h0 : ∀ k : Nat, ∃ q : ClassId × (Nat → Nat), ∀ r : vw_C, vwCl[k]? = some r → u_Kn s r.1 r.2.1 r.2.2 q.1 q.2 := by
    intro k
    cases e : vwCl[k]? with
    | none => exact ⟨(0, fun _ => 0), fun r h => by cases h⟩
    | some r =>
      obtain ⟨cC, iS, h⟩ := known_all hts e
      exact ⟨(cC, iS), fun r2 h2 => by cases h2; exact h⟩
  obtain ⟨f, hf⟩ : ∃ f : Nat → ClassId × (Nat → Nat), ∀ k : Nat, ∀ r : vw_C, vwCl[k]? = some r → u_Kn s r.1 r.2.1 r.2.2 (f k).1 (f k).2 := ⟨fun k => Classical.choose (h0 k), fun k => Classical.choose_spec (h0 k)⟩
  obtain ⟨c1, k1, p1, a1, a2, a3⟩ := Cond.arrayClass_spec (hts _ ac_char)
  obtain ⟨c2, k2, p2, b1, b2, b3⟩ := Cond.arrayClass_spec (hts _ ac_int)
  obtain ⟨p3, c3, k3, d1, -, d2, d3, d4⟩ := Cond.arrayOver_spec (va_AO.use (A := args) hao)
  refine ⟨((fun k => (f k).1, fun k => (f k).2), (c1, c2, c3), n), rfl, fun k q h => hf k q h, fun k q h => ?_⟩
  match k, h with
  | 0, h => cases h; exact ⟨arr_of a2 a3, a1⟩
  | 1, h => cases h; exact ⟨arr_of b2 b3, b1⟩
  | 2, h => cases h; exact ⟨arr_of d2 d3, k3, p3, d2, d3, d1, d4⟩
  | k + 3, h => simp [tysG] at h
