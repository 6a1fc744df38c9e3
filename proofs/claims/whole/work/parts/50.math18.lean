/-! many minutes at a time -/
def minX (w : Nat → Int32) (T : Nat) (s : Nat → Int32) : Nat → Int32 :=
  if s 10 = -4 then s
  else if begX w s T 13 = -4 then va_up (begX w s T) 17 (begX w s T 17 + hushB w (begX w s T)) else oneF w (begX w s T)
theorem min_X (w : Nat → Int32) (T : Nat) (s : Nat → Int32) : minF w T s = minX w T (va_up s 16 (s 16 + nI 1)) := by
  unfold minF minX begX
  by_cases h : s 10 = -4
  · simp (disch := decide) only [up_neD, h, if_true]
  · simp (disch := decide) only [up_neD, h, if_false]
theorem tell_at {w s s' : Nat → Int32} {T a : Nat} {b told : Int32} (h : ∀ t, t < T → s' t = s t) (h9 : s' 9 = s 9) : tellF w s' T a b told = tellF w s T a b told := by
  have h : ∀ n, n ≤ T → bsum n (fun t => canF w s' t a b && !bt told t) = bsum n (fun t => canF w s t a b && !bt told t) := by
    intro n
    induction n with
    | zero => intro _; rfl
    | succ n ih =>
      intro hn
      rw [bsum, bsum, ih (by omega)]
      have e3 : canF w s' n a b = canF w s n a b := by unfold canF; rw [h n (by omega), h9]
      simp only [e3]
  exact h T (Nat.le_refl _)
theorem tell_k {w s : Nat → Int32} {T a k : Nat} {b told v : Int32} (hT : T ≤ 9) (hk : k = 16 ∨ k = 17) : tellF w (va_up s k v) T a b told = tellF w s T a b told :=
  tell_at (fun t ht => up_ne _ _ (by omega)) (up_ne _ _ (by omega))
theorem begF_k {w s : Nat → Int32} {T c o k : Nat} {v : Int32} (hT : T ≤ 9) (hk : k = 16 ∨ k = 17) : begF w (va_up s k v) T c o = va_up (begF w s T c o) k v := by
  unfold begF
  rw [up_ne _ _ (show 13 ≠ k by omega), up_ne _ _ (show 15 ≠ k by omega), tell_k hT hk, tell_k hT hk]
  by_cases h1 : s 13 = -4
  · rw [if_pos h1, if_pos h1]
    by_cases h2 : tellF w s T c (nI o) (s 15) = 0
    · rw [if_pos h2, if_pos h2]
      by_cases h3 : tellF w s T o (nI c) (s 15) = 0
      · rw [if_pos h3, if_pos h3]
      · rw [if_neg h3, if_neg h3, up_comm _ _ _ (show 12 ≠ k by omega), up_comm _ _ _ (show 13 ≠ k by omega), up_comm _ _ _ (show 14 ≠ k by omega)]
    · rw [if_neg h2, if_neg h2, up_comm _ _ _ (show 12 ≠ k by omega), up_comm _ _ _ (show 13 ≠ k by omega), up_comm _ _ _ (show 14 ≠ k by omega)]
  · rw [if_neg h1, if_neg h1]
theorem begX_k {w s : Nat → Int32} {T k : Nat} {v : Int32} (hT : T ≤ 9) (hk : k = 16 ∨ k = 17) : begX w (va_up s k v) T = va_up (begX w s T) k v := by
  unfold begX
  rw [up_ne _ _ (show 10 ≠ k by omega), up_ne _ _ (show 12 ≠ k by omega), othD (by omega), begF_k hT hk]
  by_cases h : s 10 = -4
  · rw [if_pos h, if_pos h]
  · rw [if_neg h, if_neg h]
theorem outF_16 {s : Nat → Int32} {v : Int32} (h : (s 13).toNatClampNeg < 9) : outF (va_up s 16 v) = va_up (outF s) 16 v := by
  unfold outF
  rw [up_ne _ _ (show 15 ≠ 16 by decide), up_ne _ _ (show 13 ≠ 16 by decide), up_ne _ _ (show 12 ≠ 16 by decide), othD (by decide), up_ne _ _ (show (s 13).toNatClampNeg ≠ 16 by omega)]
  rw [up_comm _ _ _ (show 15 ≠ 16 by decide), up_comm _ _ _ (show 12 ≠ 16 by decide), up_comm _ _ _ (show (s 13).toNatClampNeg ≠ 16 by omega), up_comm _ _ _ (show 13 ≠ 16 by decide)]
theorem gain_k {w s : Nat → Int32} {k : Nat} {v : Int32} (hk : k ≠ 12 ∧ k ≠ 13) : gainF w (va_up s k v) = gainF w s := by
  unfold gainF
  rw [up_ne _ _ (Ne.symm hk.1), up_ne _ _ (Ne.symm hk.2)]
theorem hush_k {w s : Nat → Int32} {k : Nat} {v : Int32} (hk : k ≠ 10 ∧ k ≠ 11) : hushB w (va_up s k v) = hushB w s := by
  unfold hushB
  rw [up_ne _ _ (Ne.symm hk.1), up_ne _ _ (Ne.symm hk.2)]
theorem oneF_16 {w s : Nat → Int32} {v : Int32} (h : (s 13).toNatClampNeg < 9) : oneF w (va_up s 16 v) = va_up (oneF w s) 16 v := by
  unfold oneF
  rw [gain_k (by decide), up_ne _ _ (show 14 ≠ 16 by decide), up_ne _ _ (show 17 ≠ 16 by decide), up_comm _ _ _ (show 17 ≠ 16 by decide), up_comm _ _ _ (show 14 ≠ 16 by decide)]
  by_cases e : s 14 - nI 1 = 0
  · rw [if_pos e, if_pos e, outF_16 (by rw [up_ne _ _ (by decide), up_ne _ _ (by decide)]; exact h)]
  · rw [if_neg e, if_neg e]
theorem wfs_begX {w s : Nat → Int32} {P T : Nat} (hw : WfT w P T) (h : WfS s P T) : WfS (begX w s T) P T := by
  by_cases h10 : s 10 = -4
  · rw [begX, if_pos h10]; exact h
  · obtain ⟨a, b, c, o, hseat, hoc, hco, ho6, hc6, h12⟩ := wfs_seat hw h h10
    rw [begX_1 h10 h12 hoc hc6 ho6]
    exact wfs_beg hw h hseat hoc ho6 hc6
theorem begX_10 {w s : Nat → Int32} {T k : Nat} (hk : k ≠ 12 ∧ k ≠ 13 ∧ k ≠ 14) : begX w s T k = s k := by
  unfold begX
  by_cases h : s 10 = -4
  · rw [if_pos h]
  · rw [if_neg h, beg_keep hk]
theorem clamp13 {w s : Nat → Int32} {P T : Nat} (hw : WfT w P T) (h : WfS s P T) : (s 13).toNatClampNeg < 9 := by
  have hT := hw.2.2.2.1
  by_cases h13 : s 13 = -4
  · rw [h13]; decide
  · obtain ⟨-, a, b, c, o, t, l, -, -, -, -, -, ht, -, -, e, -⟩ := seat_all hw h h13
    rw [e, nI_clamp (by omega)]; omega
theorem minX_16 {w s : Nat → Int32} {P T : Nat} {v : Int32} (hw : WfT w P T) (h : WfS s P T) : minX w T (va_up s 16 v) = va_up (minX w T s) 16 v := by
  have hT := hw.2.2.2.1
  unfold minX
  rw [up_ne _ _ (show 10 ≠ 16 by decide), begX_k hT (Or.inl rfl), up_ne _ _ (show 13 ≠ 16 by decide), up_ne _ _ (show 17 ≠ 16 by decide), hush_k (by decide), oneF_16 (clamp13 hw (wfs_begX hw h)), up_comm _ _ _ (show 17 ≠ 16 by decide)]
  by_cases h1 : s 10 = -4
  · rw [if_pos h1, if_pos h1]
  · rw [if_neg h1, if_neg h1]
    by_cases h2 : begX w s T 13 = -4
    · rw [if_pos h2, if_pos h2]
    · rw [if_neg h2, if_neg h2]
theorem wfs_minX {w s : Nat → Int32} {P T : Nat} (hw : WfT w P T) (h : WfS s P T) : WfS (minX w T s) P T := by
  have h1 := wfs_min hw h
  rw [min_X, minX_16 hw h] at h1
  have h2 := wfs_up (k := 16) (v := minX w T s 16) hw.2.2.2.1 h1 (Or.inl rfl)
  rw [up_up, up_self] at h2
  exact h2
def itX (w : Nat → Int32) (T : Nat) : Nat → (Nat → Int32) → (Nat → Int32)
  | 0, s => s
  | n + 1, s => minX w T (itX w T n s)
theorem wfs_itX {w s : Nat → Int32} {P T : Nat} (hw : WfT w P T) (h : WfS s P T) : ∀ n, WfS (itX w T n s) P T
  | 0 => h
  | n + 1 => wfs_minX hw (wfs_itX hw h n)
theorem itX_add {w s : Nat → Int32} {T : Nat} (m : Nat) : ∀ n, itX w T (m + n) s = itX w T n (itX w T m s)
  | 0 => rfl
  | n + 1 => by rw [← Nat.add_assoc, itX, itX, itX_add m n]
theorem minX_at16 {w s : Nat → Int32} {P T : Nat} (hw : WfT w P T) (h : WfS s P T) : minX w T s 16 = s 16 := by
  have e := minX_16 (v := s 16) hw h
  rw [up_self] at e
  rw [e, up_same]
theorem it_itX {w s : Nat → Int32} {P T : Nat} (hw : WfT w P T) (h : WfS s P T) : ∀ n, itF w T n s = va_up (itX w T n s) 16 (s 16 + nI n)
  | 0 => by rw [itF, itX, add_nI0, up_self]
  | n + 1 => by
    rw [itF, itX, it_itX hw h n, min_X, up_same, up_up, minX_16 hw (wfs_itX hw h n)]
    rw [Int32.add_assoc, nI_add]
theorem begX_tell {w s : Nat → Int32} {T : Nat} (h : ¬ s 13 = -4) : begX w s T = s := by
  unfold begX begF
  by_cases h1 : s 10 = -4
  · rw [if_pos h1]
  · rw [if_neg h1, if_neg h]
theorem begX_idem {w s : Nat → Int32} {P T : Nat} (hw : WfT w P T) (h : WfS s P T) : begX w (begX w s T) T = begX w s T := by
  by_cases h10 : s 10 = -4
  · have e : begX w s T = s := by rw [begX, if_pos h10]
    rw [e, e]
  · by_cases h13 : begX w s T 13 = -4
    · obtain ⟨a, b, c, o, hseat, hoc, hco, ho6, hc6, h12⟩ := wfs_seat hw h h10
      have e := begX_1 (w := w) (T := T) h10 h12 hoc hc6 ho6
      have hT := hw.2.2.2.1
      have e2 : begX w s T = s := by
        rw [e] at h13 ⊢
        unfold begF at h13 ⊢
        by_cases e1 : s 13 = -4
        · rw [if_pos e1] at h13 ⊢
          by_cases e2 : tellF w s T c (nI o) (s 15) = 0
          · rw [if_pos e2] at h13 ⊢
            by_cases e3 : tellF w s T o (nI c) (s 15) = 0
            · rw [if_pos e3]
            · rw [if_neg e3, up_ne _ _ (by decide), up_same] at h13
              exact absurd h13 (nI_m4 (by have := (tell_low hT e3).1; omega))
          · rw [if_neg e2, up_ne _ _ (by decide), up_same] at h13
            exact absurd h13 (nI_m4 (by have := (tell_low hT e2).1; omega))
        · rw [if_neg e1]
      rw [e2, e2]
    · exact begX_tell h13
theorem mulS (k : Nat) (x : Int32) : nI (k + 1) * x = nI k * x + x := by
  rw [← nI_add, Int32.add_mul, nI1, Int32.one_mul]
/-- k minutes are k times one -/
theorem step_it {w s : Nat → Int32} {P T : Nat} (hw : WfT w P T) (h : WfS s P T) : ∀ k, (∀ l, l ≤ 9 → ¬ begX w s T 13 = -4 → begX w s T 14 = nI l → k + 1 ≤ l) → itX w T (k + 1) s = stepX w (k + 1) (begX w s T)
  | 0, _ => by
    show minX w T s = _
    unfold minX stepX oneF
    rw [begX_10 (k := 10) (by decide)]
    by_cases h10 : s 10 = -4
    · rw [if_pos h10, if_pos h10, begX, if_pos h10]
    · rw [if_neg h10, if_neg h10, show nI (0 + 1) = 1 from nI1, Int32.one_mul, Int32.one_mul]
  | k + 1, hl => by
    have hT := hw.2.2.2.1
    have ih := step_it hw h k (fun l h0 h1 h2 => Nat.le_of_succ_le (hl l h0 h1 h2))
    have hwb := wfs_begX hw h
    have hid := begX_idem hw h
    rw [itX, ih]
    generalize begX w s T = b at hl hwb hid ⊢
    by_cases h10 : b 10 = -4
    · unfold stepX
      rw [if_pos h10, if_pos h10, minX, if_pos h10]
    · by_cases h13 : b 13 = -4
      · unfold stepX
        rw [if_neg h10, if_pos h13, if_neg h10, if_pos h13, minX, up_ne _ _ (by decide), if_neg h10, begX_k hT (Or.inr rfl), hid, up_ne _ _ (by decide), if_pos h13, up_same, up_up, hush_k (by decide), mulS (k + 1), Int32.add_assoc]
      · obtain ⟨-, a, b1, c, o, t, l, -, -, -, -, -, ht, hl1, hl9, e13, e14⟩ := seat_all hw hwb h13
        have hkl := hl l hl9 h13 e14
        have e1 : nI l - nI (k + 1) = nI (l - (k + 1)) := nI_subE (by omega) (by omega)
        have e2 : nI l - nI (k + 1 + 1) = nI (l - (k + 1 + 1)) := nI_subE (by omega) (by omega)
        have e3 : nI (l - (k + 1)) - nI 1 = nI (l - (k + 1 + 1)) := nI_subE (by omega) (by omega)
        unfold stepX
        rw [if_neg h10, if_neg h13, if_neg h10, if_neg h13, e14, e1, e2, if_neg (fun e => by rw [nI_z0 (by omega)] at e; omega)]
        rw [minX, up_ne _ _ (show 10 ≠ 14 by decide), up_ne _ _ (show 10 ≠ 17 by decide), if_neg h10, begX_tell (by rw [up_ne _ _ (by decide), up_ne _ _ (by decide)]; exact h13), up_ne _ _ (show 13 ≠ 14 by decide), up_ne _ _ (show 13 ≠ 17 by decide), if_neg h13, oneF, up_same, e3, gain_k (by decide), gain_k (by decide), up_ne _ _ (show 17 ≠ 14 by decide), up_same, mulS (k + 1), ← Int32.add_assoc]
        rw [up_comm _ _ _ (show 17 ≠ 14 by decide), up_up, up_up]
/-- a State's row and fields written anew -/
def sst (κ : Kp) (st : Nat) (I : Ip) (K f : Nat → Int32) : Ip := va_up (va_up I (κ.2.1 st 0) K) st f
def Sep (κ : Kp) (st tw : Nat) : Prop := ∀ k, 2 ≤ k → k ≤ 8 → κ.2.1 tw k ≠ κ.2.1 st 0
section SST
variable {κ : Kp} {st tw : Nat} {I : Ip} {K f K2 f2 : Nat → Int32}
theorem StK.ne (h : StK κ st) : st ≠ κ.2.1 st 0 := kd_ne h.1 h.2.2.1 (by decide)
theorem sst_st : sst κ st I K f st = f := up_same _ _ _
theorem sst_kn (h : StK κ st) : sst κ st I K f (κ.2.1 st 0) = K := by unfold sst; rw [up_ne _ _ (Ne.symm h.ne), up_same]
theorem sst_ne {x : Nat} (h1 : x ≠ st) (h2 : x ≠ κ.2.1 st 0) : sst κ st I K f x = I x := by unfold sst; rw [up_ne _ _ h1, up_ne _ _ h2]
theorem sst_up : va_up (sst κ st I K f) st f2 = sst κ st I K f2 := up_up _ _ _ _
theorem sst_kup (h : StK κ st) : va_up (sst κ st I K f) (κ.2.1 st 0) K2 = sst κ st I K2 f := by
  unfold sst
  rw [up_comm _ _ _ (Ne.symm h.ne), up_up]
theorem sst_sst (h : StK κ st) : sst κ st (sst κ st I K f) K2 f2 = sst κ st I K2 f2 := by
  show va_up (va_up (sst κ st I K f) (κ.2.1 st 0) K2) st f2 = _
  rw [sst_kup h, sst_up]
theorem sst_self : sst κ st I (I (κ.2.1 st 0)) (I st) = I := by
  unfold sst
  rw [up_self, up_self]
theorem TwR.fr {J : Ip} {w : Nat → Int32} {P T : Nat} (h : TwR κ I tw w P T) (h0 : J tw = I tw) (hk : ∀ k, 2 ≤ k → k ≤ 8 → J (κ.2.1 tw k) = I (κ.2.1 tw k)) : TwR κ J tw w P T := by
  unfold TwR at h ⊢
  rw [h0, hk 2 (by decide) (by decide), hk 3 (by decide) (by decide), hk 4 (by decide) (by decide), hk 5 (by decide) (by decide), hk 6 (by decide) (by decide), hk 7 (by decide) (by decide), hk 8 (by decide) (by decide)]
  exact h
theorem TwR.sst {w : Nat → Int32} {P T : Nat} (h : TwR κ I tw w P T) (hS : StK κ st) (hT : TwK κ tw) (hs : Sep κ st tw) : TwR κ (sst κ st I K f) tw w P T := by
  obtain ⟨ht, ht0, ⟨t2, u2⟩, ⟨t3, u3⟩, ⟨t4, u4⟩, ⟨t5, u5⟩, ⟨t6, u6⟩, ⟨t7, u7⟩, ⟨t8, u8⟩⟩ := id hT
  refine h.fr (sst_ne (kd_ne ht hS.1 (by decide)) (kd_ne ht hS.2.2.1 (by decide))) (fun k k1 k2 => sst_ne ?_ (hs k k1 k2))
  rcases (show k = 2 ∨ k = 3 ∨ k = 4 ∨ k = 5 ∨ k = 6 ∨ k = 7 ∨ k = 8 by omega) with rfl | rfl | rfl | rfl | rfl | rfl | rfl
  · exact kd_ne t2 hS.1 (by decide)
  · exact kd_ne t3 hS.1 (by decide)
  · exact kd_ne t4 hS.1 (by decide)
  · exact kd_ne t5 hS.1 (by decide)
  · exact kd_ne t6 hS.1 (by decide)
  · exact kd_ne t7 hS.1 (by decide)
  · exact kd_ne t8 hS.1 (by decide)
end SST
theorem max1 {l : Nat} (h : 1 ≤ l) (h2 : l < 100) : (if nI 1 < nI l then nI l else nI 1) = nI l := by
  by_cases e : nI 1 < nI l
  · rw [if_pos e]
  · rw [if_neg e]
    rw [Int32.lt_iff_toInt_lt, nI_toInt (by omega), nI_toInt (by omega)] at e
    rw [show l = 1 by omega]
theorem min1 {l m : Nat} (h : l < 100) (h2 : m < 100) : (if nI l < nI m then nI l else nI m) = nI (min m l) := by
  by_cases e : nI l < nI m
  · rw [if_pos e]
    rw [Int32.lt_iff_toInt_lt, nI_toInt (by omega), nI_toInt (by omega)] at e
    rw [Nat.min_eq_right (by omega)]
  · rw [if_neg e]
    rw [Int32.lt_iff_toInt_lt, nI_toInt (by omega), nI_toInt (by omega)] at e
    rw [Nat.min_eq_left (by omega)]
theorem itX_16 {w s : Nat → Int32} {P T : Nat} (hw : WfT w P T) (h : WfS s P T) : ∀ n, itX w T n s 16 = s 16
  | 0 => rfl
  | n + 1 => by rw [itX, minX_at16 hw (wfs_itX hw h n), itX_16 hw h n]
