/-! the law's end and its start, out of the kit's rows -/
theorem g_lwend {Γ : Ga} {p : Program} {l : Launch} {e : Env} {s : State} {m : MethodId} {meth : Method} {c : Code} {below : List Frame} {b : Nat} {nm : String} (hx : p.tables.exec = Jvm.exec) (hb : c.code = code) (hr : meth.sig.returnType = ret) (hlocks : meth.locks = false) (hn : s.heap.size ≤ Γ.2.2) (lv : List (Nat × Value)) (κ : Kp) (I : Ip) : GW Γ (mL nm) (p, l, e, room_1, s, m, #[.ref b], below, meth, c, lw_Z below #[.ref b] s) 916 lv [.int 1] κ I 76 1400 := by
  intro H locs ls hR hS hl
  refine va_forget (fun q hq => Nat.le_trans hn (hS.2.2 q hq)) ?_
  refine W.widen (k := 600000) (n := 7302250) (Nat.le_of_ble_eq_true rfl) (Nat.le_of_ble_eq_true rfl) ?_
  exact lw_ret hx hb hr hlocks dL_law_916
theorem rep_start {Γ : Ga} {H : Heap} (h : Γ.2.2 = H.size) : Rep Γ (kap0 Γ.2.2) (fun _ _ => 0) H :=
  ⟨h.symm, fun a ha => absurd ha (by show ¬ 10 < 10; decide), fun a => CellIs.no (by show ¬ 10 < 10; decide)⟩
theorem whole_start {p : Program} {e : Env} {s : State} {m : MethodId} {below : List Frame} {meth : Method} {c : Code} (l : Launch) (_hflags : l.flags = flags0) {b L : Nat} {xs : Nat → Int32} (hL : L ≤ 448) (C0 : lw_At p s m meth c b L xs) : W p l e room_1 s m #[Value.ref b] below meth c s.heap [] 0 0 (lw_Z below #[Value.ref b] s) (entryFrame m ([Value.ref b] : List Value).toArray 4) := by
  obtain ⟨hx, hb, hr, hml, hown, hts, hX, hbl, hlocks, hgv⟩ := C0
  have hwg : ∀ w ∈ wg, w.before #[Value.ref b] s = true := fun w hw => hts w (List.mem_filter.mp hw).1
  have hnw : ∀ w ∈ nw, va_Nw w s := fun w hw => va_Nw.of (nw_tab hw) (hts w (List.mem_filter.mp hw).1)
  have hao : va_AO "ChurnTalk$State" s := va_AO.of (hts (.arrayOver (.object "ChurnTalk$State")) (List.mem_append_right _ (List.mem_of_getElem? (i := 96) (by decide +kernel))))
  obtain ⟨Γ, hΓ, hK⟩ := know_start hwg hao s.heap.size
  obtain ⟨q, v, hStr⟩ := str_start (A := AΓ Γ) hts hgv (fun a ha => by show ¬ Γ.2.2 ≤ a; omega)
  have hStd : Std Γ (mL meth.name) (p, l, e, room_1, s, m, #[.ref b], below, meth, c, lw_Z below #[.ref b] s) := ⟨hx, hb, hml, hown, hwg, hnw, hK, hlocks, by rw [hΓ]; exact Nat.le_refl _, hr, rfl, hao⟩
  have hRm : RmOK (mL meth.name) (p, l, e, room_1, s, m, #[.ref b], below, meth, c, lw_Z below #[.ref b] s) 9 := ⟨by decide, by decide, rfl, rfl⟩
  have hSc : ScX Γ b L xs (p, l, e, room_1, s, m, #[.ref b], below, meth, c, lw_Z below #[.ref b] s) := ⟨hX, hbl, by rw [hΓ]; exact hbl⟩
  have hG := law_body hStd hRm hSc hStr hL (n := Γ.2.2) (by rw [hΓ]; omega) (g_lwend hx hb hr hlocks (by rw [hΓ]; exact Nat.le_refl _))
  have hl := lv_entry ([.ref b]) (n := 4) (Nat.le_of_ble_eq_true rfl)
  rw [lg_entry_eq]
  generalize (lg_sl ([.ref b]) ++ List.replicate (4 - (lg_sl ([.ref b])).length) Slot.unset).toArray = ls at hl ⊢
  exact hG s.heap [] ls (rep_start hΓ) va_S.rf hl
