theorem nI_mul (a b : Nat) : nI a * nI b = nI (a * b) := (Int32.ofNat_mul a b).symm
/-- but for what the reference tries things on, all is as it was -/
def MFr (κ : Kp) (m : Nat) (I J : Ip) : Prop := (∀ a, a ≠ m → a ≠ κ.2.1 m 1 → a ≠ κ.2.1 m 3 → a ≠ κ.2.1 m 14 → a ≠ κ.2.1 m 15 → a ≠ κ.2.1 m 16 → J a = I a) ∧ ∀ k, k < 10 ∨ 13 < k → J m k = I m k
theorem MFr.rf {κ : Kp} {m : Nat} {I : Ip} : MFr κ m I I := ⟨fun _ _ _ _ _ _ _ => rfl, fun _ _ => rfl⟩
theorem MFr.tr {κ : Kp} {m : Nat} {I J K : Ip} (h1 : MFr κ m I J) (h2 : MFr κ m J K) : MFr κ m I K :=
  ⟨fun a g1 g2 g3 g4 g5 g6 => (h2.1 a g1 g2 g3 g4 g5 g6).trans (h1.1 a g1 g2 g3 g4 g5 g6), fun k hk => (h2.2 k hk).trans (h1.2 k hk)⟩
theorem MFr.row {κ : Kp} {m : Nat} {I J : Ip} {a : Nat} {f : Nat → Int32} (h : MFr κ m I J) (ha : a = κ.2.1 m 1 ∨ a = κ.2.1 m 3 ∨ a = κ.2.1 m 14 ∨ a = κ.2.1 m 15 ∨ a = κ.2.1 m 16) (hm : m ≠ a) : MFr κ m I (va_up J a f) := by
  refine ⟨fun b g1 g2 g3 g4 g5 g6 => ?_, fun k hk => ?_⟩
  · have hb : b ≠ a := by rcases ha with e | e | e | e | e <;> rw [e] <;> assumption
    rw [up_ne _ _ hb]
    exact h.1 b g1 g2 g3 g4 g5 g6
  · rw [up_ne _ _ hm]
    exact h.2 k hk
theorem MFr.fld {κ : Kp} {m : Nat} {I J : Ip} {k : Nat} {v : Int32} (h : MFr κ m I J) (hk : 10 ≤ k ∧ k ≤ 13) : MFr κ m I (va_up J m (va_up (J m) k v)) := by
  refine ⟨fun b g1 g2 g3 g4 g5 g6 => ?_, fun j hj => ?_⟩
  · rw [up_ne _ _ g1]
    exact h.1 b g1 g2 g3 g4 g5 g6
  · rw [up_same, up_ne _ _ (by omega)]
    exact h.2 j hj
section MF
variable {κ : Kp} {m : Nat} {I J : Ip}
theorem MFr.w (h : MFr κ m I J) (hMo : MoK κ m) : J (κ.2.1 m 0) = I (κ.2.1 m 0) := by
  obtain ⟨hm, hm0, ⟨k0, n0⟩, ⟨k1, n1⟩, ⟨k2, n2⟩, ⟨k3, n3⟩, ⟨k4, n4⟩, ⟨k6, n6⟩, ⟨k8, n8⟩, ⟨k14, n14⟩, ⟨k15, n15⟩, ⟨k16, n16⟩, d01, d23, d614, d1516⟩ := id hMo
  exact h.1 _ (kd_ne k0 hm (by decide)) d01 (kd_ne k0 k3 (by decide)) (kd_ne k0 k14 (by decide)) (kd_ne k0 k15 (by decide)) (kd_ne k0 k16 (by decide))
theorem MFr.s (h : MFr κ m I J) (hMo : MoK κ m) : J (κ.2.1 m 2) = I (κ.2.1 m 2) := by
  obtain ⟨hm, hm0, ⟨k0, n0⟩, ⟨k1, n1⟩, ⟨k2, n2⟩, ⟨k3, n3⟩, ⟨k4, n4⟩, ⟨k6, n6⟩, ⟨k8, n8⟩, ⟨k14, n14⟩, ⟨k15, n15⟩, ⟨k16, n16⟩, d01, d23, d614, d1516⟩ := id hMo
  exact h.1 _ (kd_ne k2 hm (by decide)) (kd_ne k2 k1 (by decide)) d23 (kd_ne k2 k14 (by decide)) (kd_ne k2 k15 (by decide)) (kd_ne k2 k16 (by decide))
theorem MoK.m1 (hMo : MoK κ m) : m ≠ κ.2.1 m 1 := kd_ne hMo.1 hMo.2.2.2.1.1 (by decide)
theorem MoK.m2 (hMo : MoK κ m) : m ≠ κ.2.1 m 2 := kd_ne hMo.1 hMo.2.2.2.2.1.1 (by decide)
theorem MoK.m3 (hMo : MoK κ m) : m ≠ κ.2.1 m 3 := kd_ne hMo.1 hMo.2.2.2.2.2.1.1 (by decide)
theorem MoK.m14 (hMo : MoK κ m) : m ≠ κ.2.1 m 14 := kd_ne hMo.1 hMo.2.2.2.2.2.2.2.2.2.1.1 (by decide)
theorem MoK.m15 (hMo : MoK κ m) : m ≠ κ.2.1 m 15 := kd_ne hMo.1 hMo.2.2.2.2.2.2.2.2.2.2.1.1 (by decide)
theorem MoK.m16 (hMo : MoK κ m) : m ≠ κ.2.1 m 16 := kd_ne hMo.1 hMo.2.2.2.2.2.2.2.2.2.2.2.1.1 (by decide)
end MF
def lkF (w : Nat → Int32) (a b : Nat) : Bool := bt (w (8 + a)) b
def rowL (a : Nat) : Nat → List (Nat × Nat)
  | 0 => []
  | b + 1 => rowL a b ++ [(a, b)]
def rowsL (P : Nat) : Nat → List (Nat × Nat)
  | 0 => []
  | a + 1 => rowsL P a ++ rowL a P
def fndS (lk : Nat → Nat → Bool) (br : Nat → Nat → Int32) (st : Int32 × Int32) (p : Nat × Nat) : Int32 × Int32 :=
  if lk p.1 p.2 = true then (if st.1 = -4 ∨ st.2 < br p.1 p.2 then nI (10 * p.1 + p.2) else st.1, if st.2 < br p.1 p.2 then br p.1 p.2 else st.2) else st
def fndF (lk : Nat → Nat → Bool) (br : Nat → Nat → Int32) (l : List (Nat × Nat)) : Int32 × Int32 := l.foldl (fndS lk br) (-4, -4)
theorem fndF_app {lk : Nat → Nat → Bool} {br : Nat → Nat → Int32} {l : List (Nat × Nat)} {p : Nat × Nat} : fndF lk br (l ++ [p]) = fndS lk br (fndF lk br l) p := by simp [fndF]
theorem Int32_nle {x y : Int32} : ¬ x ≤ y ↔ y < x := by rw [Int32.le_iff_toInt_le, Int32.lt_iff_toInt_lt]; omega
theorem MFr.fld2 {κ : Kp} {m : Nat} {I J : Ip} {k k' : Nat} {v v' : Int32} (h : MFr κ m I J) (hk : 10 ≤ k ∧ k ≤ 13) (hk' : 10 ≤ k' ∧ k' ≤ 13) : MFr κ m I (va_up J m (va_up (va_up (J m) k v) k' v')) := by
  have h1 := (h.fld (v := v) hk).fld (v := v') hk'
  rw [up_same, up_up] at h1
  exact h1
/-- what two bring, or v if they are no friends -/
def wbF (w s : Nat → Int32) (T c : Nat) (hh v : Int32) (a b : Nat) : Int32 := if lkF w a b = true then brF w s T a b c hh else v
def bestA (w s : Nat → Int32) (P T : Nat) (n what : Int32) : Int32 :=
  if inR 1 60 n ∧ inR 0 1 what then
    if what = 0 then (fndF (lkF w) (fun x y => brF w s T x y n.toNatClampNeg (s 9)) (rowsL P P)).1 else (fndF (lkF w) (fun x y => brF w s T x y n.toNatClampNeg (s 9)) (rowsL P P)).2
  else -1
theorem l64 : Int64.toInt 0 = 0 ∧ Int64.toInt 1 = 1 := ⟨rfl, rfl⟩
theorem MFr.br {κ : Kp} {m : Nat} {I J : Ip} (h : MFr κ m I J) : J (κ.2.1 m 14) = J (κ.2.1 m 14) := rfl
