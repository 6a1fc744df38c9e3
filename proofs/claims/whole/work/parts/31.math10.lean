theorem fndF_nil {lk : Nat → Nat → Bool} {br : Nat → Nat → Int32} : fndF lk br [] = (-4, -4) := rfl
/-- how many bring just y, and the first of them -/
def whoS (lk : Nat → Nat → Bool) (br : Nat → Nat → Int32) (y : Int32) (st : Nat × Int32) (p : Nat × Nat) : Nat × Int32 :=
  if lk p.1 p.2 = true ∧ br p.1 p.2 = y then (st.1 + 1, if st.2 = -4 then nI (10 * p.1 + p.2) else st.2) else st
def whoF (lk : Nat → Nat → Bool) (br : Nat → Nat → Int32) (y : Int32) (l : List (Nat × Nat)) : Nat × Int32 := l.foldl (whoS lk br y) (0, -4)
theorem whoF_app {lk : Nat → Nat → Bool} {br : Nat → Nat → Int32} {y : Int32} {l : List (Nat × Nat)} {p : Nat × Nat} : whoF lk br y (l ++ [p]) = whoS lk br y (whoF lk br y l) p := by simp [whoF]
def whoA (w s : Nat → Int32) (P T : Nat) (n y what : Int32) : Int32 :=
  if inR 1 60 n ∧ inR 0 999 y ∧ inR 0 1 what then
    if what = 0 then nI (whoF (lkF w) (fun a b => brF w s T a b n.toNatClampNeg (s 9)) y (rowsL P P)).1 else (whoF (lkF w) (fun a b => brF w s T a b n.toNatClampNeg (s 9)) y (rowsL P P)).2
  else -1
/-- what the tales of a set are ill in sum, up to the tale n -/
def illF (w : Nat → Int32) (k : Nat) : Nat → Int32
  | 0 => nI 0
  | n + 1 => illF w k n + (if k.testBit n = true then w (23 + n) else nI 0)
def subB (k : Nat) (may : Int32) : Bool := decide (nI k &&& (may ^^^ -1) = 0)
def saidF (w : Nat → Int32) (T : Nat) (may y : Int32) : Nat → Nat × Int32
  | 0 => (0, -4)
  | k + 1 => if subB k may = true ∧ illF w k T = y then ((saidF w T may y k).1 + 1, if (saidF w T may y k).2 = -4 then nI k else (saidF w T may y k).2) else saidF w T may y k
def saidA (w s : Nat → Int32) (P T : Nat) (a b y what : Int32) : Int32 :=
  if two P a b ∧ inR 0 180 y ∧ inR 0 1 what then
    if what = 0 then nI (saidF w T (tellF w s T a.toNatClampNeg b 0) y (2 ^ T)).1 else (saidF w T (tellF w s T a.toNatClampNeg b 0) y (2 ^ T)).2
  else -1
theorem bt_0 (i : Nat) : bt (nI 0) i = false := by rw [nI0]; exact b_0 i
theorem tell0 {w s : Nat → Int32} {T a : Nat} {b : Int32} : tellF w s T a b (nI 0) = tellF w s T a b 0 := by rw [nI0]
theorem bit1_pow {j : Nat} (hj : j < 31) : bit1 j = nI (2 ^ j) := by
  have : ∀ j, j < 31 → nI 1 <<< (nI j &&& 31) = nI (2 ^ j) := by decide +kernel
  exact this j hj
