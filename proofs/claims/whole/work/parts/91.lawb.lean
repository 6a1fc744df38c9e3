/-! the questions of the reference, of what its object holds -/
theorem sq_X6_comes {Γ : Ga} {d : Nat} {κ : Kp} {I : Ip} {Q : Option Value → Kp → Ip → Prop} {m P T : Nat} {w s : Nat → Int32} {past kept : List (Nat → Int32)} {tx : Nat → Int32} {sz : Nat} {x : Int32} (hMR : MR κ m I P T w s past kept tx sz) (hq : ∀ J : Ip, MR κ m J P T w s past kept tx sz → MOut κ m I J → Q (some (.int (comesA w s T x))) κ J) : Sp Γ (d + 5) mX6_comes [.ref (m), .int (x)] κ I Q := by
  obtain ⟨hMo, e0, e2, hw, hP1, hs, -⟩ := id hMR
  subst e0
  subst e2
  exact sp_X6_comes hMo hw hs (fun J hF => hq J (hMR.fr hF) hF.out)
theorem sq_X6_quiet {Γ : Ga} {d : Nat} {κ : Kp} {I : Ip} {Q : Option Value → Kp → Ip → Prop} {m P T : Nat} {w s : Nat → Int32} {past kept : List (Nat → Int32)} {tx : Nat → Int32} {sz : Nat} (hMR : MR κ m I P T w s past kept tx sz) (hq : ∀ J : Ip, MR κ m J P T w s past kept tx sz → MOut κ m I J → Q (some (.int (quietA w s T))) κ J) : Sp Γ (d + 5) mX6_quiet [.ref (m)] κ I Q := by
  obtain ⟨hMo, e0, e2, hw, hP1, hs, -⟩ := id hMR
  subst e0
  subst e2
  exact sp_X6_quiet hMo hw hs (fun J hF => hq J (hMR.fr hF) hF.out)
theorem sq_X6_brings {Γ : Ga} {d : Nat} {κ : Kp} {I : Ip} {Q : Option Value → Kp → Ip → Prop} {m P T : Nat} {w s : Nat → Int32} {past kept : List (Nat → Int32)} {tx : Nat → Int32} {sz : Nat} {x y n : Int32} (hMR : MR κ m I P T w s past kept tx sz) (hq : ∀ J : Ip, MR κ m J P T w s past kept tx sz → MOut κ m I J → Q (some (.int (bringsA w s P T x y n))) κ J) : Sp Γ (d + 6) mX6_brings [.ref (m), .int (x), .int (y), .int (n)] κ I Q := by
  obtain ⟨hMo, e0, e2, hw, hP1, hs, -⟩ := id hMR
  subst e0
  subst e2
  exact sp_X6_brings hMo hw hs (fun J hF => hq J (hMR.fr hF) hF.out)
theorem sq_X6_best {Γ : Ga} {d : Nat} {κ : Kp} {I : Ip} {Q : Option Value → Kp → Ip → Prop} {m P T : Nat} {w s : Nat → Int32} {past kept : List (Nat → Int32)} {tx : Nat → Int32} {sz : Nat} {n x : Int32} (hMR : MR κ m I P T w s past kept tx sz) (hq : ∀ J : Ip, MR κ m J P T w s past kept tx sz → MOut κ m I J → Q (some (.int (bestA w s P T n x))) κ J) : Sp Γ (d + 7) mX6_best [.ref (m), .int (n), .int (x)] κ I Q := by
  obtain ⟨hMo, e0, e2, hw, hP1, hs, -⟩ := id hMR
  subst e0
  subst e2
  exact sp_X6_best hMo hw hs (fun J hF => hq J (hMR.fr hF) hF.out)
theorem sq_X6_twos {Γ : Ga} {d : Nat} {κ : Kp} {I : Ip} {Q : Option Value → Kp → Ip → Prop} {m P T : Nat} {w s : Nat → Int32} {past kept : List (Nat → Int32)} {tx : Nat → Int32} {sz : Nat} {n x : Int32} (hMR : MR κ m I P T w s past kept tx sz) (hq : ∀ J : Ip, MR κ m J P T w s past kept tx sz → MOut κ m I J → Q (some (.int (twosA w s P T n x))) κ J) : Sp Γ (d + 8) mX6_twos [.ref (m), .int (n), .int (x)] κ I Q := by
  obtain ⟨hMo, e0, e2, hw, hP1, hs, -⟩ := id hMR
  subst e0
  subst e2
  exact sp_X6_twos hMo hw hs (fun J hF => hq J (hMR.fr hF) hF.out)
theorem sq_X6_leave {Γ : Ga} {d : Nat} {κ : Kp} {I : Ip} {Q : Option Value → Kp → Ip → Prop} {m P T : Nat} {w s : Nat → Int32} {past kept : List (Nat → Int32)} {tx : Nat → Int32} {sz : Nat} {n : Int32} (hMR : MR κ m I P T w s past kept tx sz) (hq : ∀ J : Ip, MR κ m J P T w s past kept tx sz → MOut κ m I J → Q (some (.int (leaveA w s P T n))) κ J) : Sp Γ (d + 8) mX6_leave [.ref (m), .int (n)] κ I Q := by
  obtain ⟨hMo, e0, e2, hw, hP1, hs, -⟩ := id hMR
  subst e0
  subst e2
  exact sp_X6_leave hMo hw hs (fun J hF => hq J (hMR.fr hF) hF.out)
theorem sq_X6_hears {Γ : Ga} {d : Nat} {κ : Kp} {I : Ip} {Q : Option Value → Kp → Ip → Prop} {m P T : Nat} {w s : Nat → Int32} {past kept : List (Nat → Int32)} {tx : Nat → Int32} {sz : Nat} {x y : Int32} (hMR : MR κ m I P T w s past kept tx sz) (hq : ∀ J : Ip, MR κ m J P T w s past kept tx sz → MOut κ m I J → Q (some (.int (hearsA w s P T x y))) κ J) : Sp Γ (d + 3) mX6_hears [.ref (m), .int (x), .int (y)] κ I Q := by
  obtain ⟨hMo, e0, e2, hw, hP1, hs, -⟩ := id hMR
  subst e0
  subst e2
  exact sp_X6_hears hMo hw hs (hq I hMR MOut.rf)
theorem sq_X6_cost {Γ : Ga} {d : Nat} {κ : Kp} {I : Ip} {Q : Option Value → Kp → Ip → Prop} {m P T : Nat} {w s : Nat → Int32} {past kept : List (Nat → Int32)} {tx : Nat → Int32} {sz : Nat} {n x : Int32} (hMR : MR κ m I P T w s past kept tx sz) (hq : ∀ J : Ip, MR κ m J P T w s past kept tx sz → MOut κ m I J → Q (some (.int (costA w s P T n x))) κ J) : Sp Γ (d + 7) mX6_cost [.ref (m), .int (n), .int (x)] κ I Q := by
  obtain ⟨hMo, e0, e2, hw, hP1, hs, -⟩ := id hMR
  subst e0
  subst e2
  exact sp_X6_cost hMo hw hs (fun J hF => hq J (hMR.fr hF) hF.out)
theorem sq_X6_said {Γ : Ga} {d : Nat} {κ : Kp} {I : Ip} {Q : Option Value → Kp → Ip → Prop} {m P T : Nat} {w s : Nat → Int32} {past kept : List (Nat → Int32)} {tx : Nat → Int32} {sz : Nat} {x y z v : Int32} (hMR : MR κ m I P T w s past kept tx sz) (hq : ∀ J : Ip, MR κ m J P T w s past kept tx sz → MOut κ m I J → Q (some (.int (saidA w s P T x y z v))) κ J) : Sp Γ (d + 3) mX6_said [.ref (m), .int (x), .int (y), .int (z), .int (v)] κ I Q := by
  obtain ⟨hMo, e0, e2, hw, hP1, hs, -⟩ := id hMR
  subst e0
  subst e2
  exact sp_X6_said hMo hw hs (hq I hMR MOut.rf)
theorem sq_X6_who {Γ : Ga} {d : Nat} {κ : Kp} {I : Ip} {Q : Option Value → Kp → Ip → Prop} {m P T : Nat} {w s : Nat → Int32} {past kept : List (Nat → Int32)} {tx : Nat → Int32} {sz : Nat} {n y x : Int32} (hMR : MR κ m I P T w s past kept tx sz) (hq : ∀ J : Ip, MR κ m J P T w s past kept tx sz → MOut κ m I J → Q (some (.int (whoA w s P T n y x))) κ J) : Sp Γ (d + 6) mX6_who [.ref (m), .int (n), .int (y), .int (x)] κ I Q := by
  obtain ⟨hMo, e0, e2, hw, hP1, hs, -⟩ := id hMR
  subst e0
  subst e2
  exact sp_X6_who hMo hw hs (fun J hF => hq J (hMR.fr hF) hF.out)
theorem sq_X6_held {Γ : Ga} {d : Nat} {κ : Kp} {I : Ip} {Q : Option Value → Kp → Ip → Prop} {m P T : Nat} {w s : Nat → Int32} {past kept : List (Nat → Int32)} {tx : Nat → Int32} {sz : Nat} {x y n h v part : Int32} (hMR : MR κ m I P T w s past kept tx sz) (hq : ∀ J : Ip, MR κ m J P T w s past kept tx sz → MOut κ m I J → Q (some (.int (heldA w s P T x y n h v part))) κ J) : Sp Γ (d + 6) mX6_held [.ref (m), .int (x), .int (y), .int (n), .int (h), .int (v), .int (part)] κ I Q := by
  obtain ⟨hMo, e0, e2, hw, hP1, hs, -⟩ := id hMR
  subst e0
  subst e2
  exact sp_X6_held hMo hw hs (fun J hF => hq J (hMR.fr hF) hF.out)
theorem sq_X6_day {Γ : Ga} {d : Nat} {κ : Kp} {I : Ip} {Q : Option Value → Kp → Ip → Prop} {m P T : Nat} {w s : Nat → Int32} {past kept : List (Nat → Int32)} {tx : Nat → Int32} {sz : Nat} {x y v : Int32} (hMR : MR κ m I P T w s past kept tx sz) (hq : ∀ J : Ip, MR κ m J P T w s past kept tx sz → MOut κ m I J → Q (some (.int (dayA w s P T x y v))) κ J) : Sp Γ (d + 5) mX6_day [.ref (m), .int (x), .int (y), .int (v)] κ I Q := by
  obtain ⟨hMo, e0, e2, hw, hP1, hs, -⟩ := id hMR
  subst e0
  subst e2
  exact sp_X6_day hMo hw hs hP1 (fun J hF => hq J (hMR.fr hF) hF.out)
theorem sq_X6_fault {Γ : Ga} {d : Nat} {κ : Kp} {I : Ip} {Q : Option Value → Kp → Ip → Prop} {m P T : Nat} {w s : Nat → Int32} {past kept : List (Nat → Int32)} {tx : Nat → Int32} {sz : Nat} (hMR : MR κ m I P T w s past kept tx sz) (hq : ∀ J : Ip, MR κ m J P T w s past kept tx sz → MOut κ m I J → Q (some (.int (faultA tx sz))) κ J) : Sp Γ (d + 5) mX6_fault [.ref (m)] κ I Q := by
  obtain ⟨hMo, -, -, -, -, -, -, -, -, -, -, -, t1, t2, t3, t4⟩ := id hMR
  refine sp_X6_fault hMo ⟨t2, t1, t3, t4⟩ (fun a1 v1 r1 _ => ?_)
  have hm1 : m ≠ κ.2.1 m 1 := kd_ne hMo.1 hMo.2.2.2.1.1 (by decide)
  have hF : MFr κ m I (pst κ m I a1 v1 r1) := (MFr.fld2 MFr.rf (by decide) (by decide)).row (Or.inl rfl) hm1
  exact hq _ (hMR.fr hF) hF.out
