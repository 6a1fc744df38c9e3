-- ===== PART A: goes FIRST, ahead of the names: the tables' words, and 'selects' of the private methods out of them =====
/-- a private method of a class that the tables say can be made, by its rows of tables_1 -/
def lw_okq (q : MethodName × Nat) : Prop := (q.1.cls ≠ "java/lang/invoke/MethodHandle" ∧ q.1.cls ≠ "java/lang/invoke/VarHandle") ∧ Cond.instantiable q.1.cls q.2 ∈ tables_1 ∧ Cond.privateMethod q.1 ∈ tables_1 ∧ Cond.instanceMethod q.1 ∈ tables_1
theorem lw_p0 : lw_okq (⟨"ChurnTalk$Text", "add", "(I)Z"⟩, 3) := ⟨⟨by decide +kernel, by decide +kernel⟩, List.mem_of_getElem? (i := 23) (by decide +kernel), List.mem_of_getElem? (i := 214) (by decide +kernel), List.mem_of_getElem? (i := 215) (by decide +kernel)⟩
theorem lw_p1 : lw_okq (⟨"ChurnTalk$Text", "readInto", "(LChurnTalk$Town;)I"⟩, 3) := ⟨⟨by decide +kernel, by decide +kernel⟩, List.mem_of_getElem? (i := 23) (by decide +kernel), List.mem_of_getElem? (i := 218) (by decide +kernel), List.mem_of_getElem? (i := 219) (by decide +kernel)⟩
theorem lw_p2 : lw_okq (⟨"ChurnTalk$Town", "clear", "()V"⟩, 9) := ⟨⟨by decide +kernel, by decide +kernel⟩, List.mem_of_getElem? (i := 125) (by decide +kernel), List.mem_of_getElem? (i := 222) (by decide +kernel), List.mem_of_getElem? (i := 223) (by decide +kernel)⟩
theorem lw_p3 : lw_okq (⟨"ChurnTalk$Text", "readItem", "(LChurnTalk$Town;)Z"⟩, 3) := ⟨⟨by decide +kernel, by decide +kernel⟩, List.mem_of_getElem? (i := 23) (by decide +kernel), List.mem_of_getElem? (i := 226) (by decide +kernel), List.mem_of_getElem? (i := 227) (by decide +kernel)⟩
theorem lw_p4 : lw_okq (⟨"ChurnTalk$Text", "peek", "()I"⟩, 3) := ⟨⟨by decide +kernel, by decide +kernel⟩, List.mem_of_getElem? (i := 23) (by decide +kernel), List.mem_of_getElem? (i := 230) (by decide +kernel), List.mem_of_getElem? (i := 231) (by decide +kernel)⟩
theorem lw_p5 : lw_okq (⟨"ChurnTalk$Text", "readPerson", "(LChurnTalk$Town;)Z"⟩, 3) := ⟨⟨by decide +kernel, by decide +kernel⟩, List.mem_of_getElem? (i := 23) (by decide +kernel), List.mem_of_getElem? (i := 234) (by decide +kernel), List.mem_of_getElem? (i := 235) (by decide +kernel)⟩
theorem lw_p6 : lw_okq (⟨"ChurnTalk$Text", "readNumber", "()I"⟩, 3) := ⟨⟨by decide +kernel, by decide +kernel⟩, List.mem_of_getElem? (i := 23) (by decide +kernel), List.mem_of_getElem? (i := 238) (by decide +kernel), List.mem_of_getElem? (i := 239) (by decide +kernel)⟩
theorem lw_p7 : lw_okq (⟨"ChurnTalk$Text", "readFigure", "()I"⟩, 3) := ⟨⟨by decide +kernel, by decide +kernel⟩, List.mem_of_getElem? (i := 23) (by decide +kernel), List.mem_of_getElem? (i := 242) (by decide +kernel), List.mem_of_getElem? (i := 243) (by decide +kernel)⟩
theorem lw_p8 : lw_okq (⟨"ChurnTalk$Text", "accept", "(C)Z"⟩, 3) := ⟨⟨by decide +kernel, by decide +kernel⟩, List.mem_of_getElem? (i := 23) (by decide +kernel), List.mem_of_getElem? (i := 246) (by decide +kernel), List.mem_of_getElem? (i := 247) (by decide +kernel)⟩
theorem lw_p9 : lw_okq (⟨"ChurnTalk$Town", "addPerson", "(I)Z"⟩, 9) := ⟨⟨by decide +kernel, by decide +kernel⟩, List.mem_of_getElem? (i := 125) (by decide +kernel), List.mem_of_getElem? (i := 250) (by decide +kernel), List.mem_of_getElem? (i := 251) (by decide +kernel)⟩
theorem lw_p10 : lw_okq (⟨"ChurnTalk$Text", "readFriends", "(LChurnTalk$Town;)Z"⟩, 3) := ⟨⟨by decide +kernel, by decide +kernel⟩, List.mem_of_getElem? (i := 23) (by decide +kernel), List.mem_of_getElem? (i := 260) (by decide +kernel), List.mem_of_getElem? (i := 261) (by decide +kernel)⟩
theorem lw_p11 : lw_okq (⟨"ChurnTalk$Town", "addFriends", "(II)Z"⟩, 9) := ⟨⟨by decide +kernel, by decide +kernel⟩, List.mem_of_getElem? (i := 125) (by decide +kernel), List.mem_of_getElem? (i := 264) (by decide +kernel), List.mem_of_getElem? (i := 265) (by decide +kernel)⟩
theorem lw_p12 : lw_okq (⟨"ChurnTalk$Town", "hasPerson", "(I)Z"⟩, 9) := ⟨⟨by decide +kernel, by decide +kernel⟩, List.mem_of_getElem? (i := 125) (by decide +kernel), List.mem_of_getElem? (i := 268) (by decide +kernel), List.mem_of_getElem? (i := 269) (by decide +kernel)⟩
theorem lw_p13 : lw_okq (⟨"ChurnTalk$Town", "friendsOf", "(I)I"⟩, 9) := ⟨⟨by decide +kernel, by decide +kernel⟩, List.mem_of_getElem? (i := 125) (by decide +kernel), List.mem_of_getElem? (i := 272) (by decide +kernel), List.mem_of_getElem? (i := 273) (by decide +kernel)⟩
theorem lw_p14 : lw_okq (⟨"ChurnTalk$Text", "readTale", "(LChurnTalk$Town;)Z"⟩, 3) := ⟨⟨by decide +kernel, by decide +kernel⟩, List.mem_of_getElem? (i := 23) (by decide +kernel), List.mem_of_getElem? (i := 282) (by decide +kernel), List.mem_of_getElem? (i := 283) (by decide +kernel)⟩
theorem lw_p15 : lw_okq (⟨"ChurnTalk$Text", "readRow", "(LChurnTalk$Town;)I"⟩, 3) := ⟨⟨by decide +kernel, by decide +kernel⟩, List.mem_of_getElem? (i := 23) (by decide +kernel), List.mem_of_getElem? (i := 286) (by decide +kernel), List.mem_of_getElem? (i := 287) (by decide +kernel)⟩
def lw_privs_1 : List (MethodName × Nat) := [(⟨"ChurnTalk$Text", "add", "(I)Z"⟩, 3), (⟨"ChurnTalk$Text", "readInto", "(LChurnTalk$Town;)I"⟩, 3), (⟨"ChurnTalk$Town", "clear", "()V"⟩, 9), (⟨"ChurnTalk$Text", "readItem", "(LChurnTalk$Town;)Z"⟩, 3), (⟨"ChurnTalk$Text", "peek", "()I"⟩, 3), (⟨"ChurnTalk$Text", "readPerson", "(LChurnTalk$Town;)Z"⟩, 3), (⟨"ChurnTalk$Text", "readNumber", "()I"⟩, 3), (⟨"ChurnTalk$Text", "readFigure", "()I"⟩, 3), (⟨"ChurnTalk$Text", "accept", "(C)Z"⟩, 3), (⟨"ChurnTalk$Town", "addPerson", "(I)Z"⟩, 9), (⟨"ChurnTalk$Text", "readFriends", "(LChurnTalk$Town;)Z"⟩, 3), (⟨"ChurnTalk$Town", "addFriends", "(II)Z"⟩, 9), (⟨"ChurnTalk$Town", "hasPerson", "(I)Z"⟩, 9), (⟨"ChurnTalk$Town", "friendsOf", "(I)I"⟩, 9), (⟨"ChurnTalk$Text", "readTale", "(LChurnTalk$Town;)Z"⟩, 3), (⟨"ChurnTalk$Text", "readRow", "(LChurnTalk$Town;)I"⟩, 3)]
theorem lw_r1 : ∀ q ∈ lw_privs_1, lw_okq q := List.forall_mem_cons.mpr ⟨lw_p0, List.forall_mem_cons.mpr ⟨lw_p1, List.forall_mem_cons.mpr ⟨lw_p2, List.forall_mem_cons.mpr ⟨lw_p3, List.forall_mem_cons.mpr ⟨lw_p4, List.forall_mem_cons.mpr ⟨lw_p5, List.forall_mem_cons.mpr ⟨lw_p6, List.forall_mem_cons.mpr ⟨lw_p7, List.forall_mem_cons.mpr ⟨lw_p8, List.forall_mem_cons.mpr ⟨lw_p9, List.forall_mem_cons.mpr ⟨lw_p10, List.forall_mem_cons.mpr ⟨lw_p11, List.forall_mem_cons.mpr ⟨lw_p12, List.forall_mem_cons.mpr ⟨lw_p13, List.forall_mem_cons.mpr ⟨lw_p14, List.forall_mem_cons.mpr ⟨lw_p15, fun _ h => absurd h List.not_mem_nil⟩⟩⟩⟩⟩⟩⟩⟩⟩⟩⟩⟩⟩⟩⟩⟩
theorem lw_p16 : lw_okq (⟨"ChurnTalk$Town", "addTale", "(IIII)Z"⟩, 9) := ⟨⟨by decide +kernel, by decide +kernel⟩, List.mem_of_getElem? (i := 125) (by decide +kernel), List.mem_of_getElem? (i := 292) (by decide +kernel), List.mem_of_getElem? (i := 293) (by decide +kernel)⟩
theorem lw_p17 : lw_okq (⟨"ChurnTalk", "moveIn", "()V"⟩, 8) := ⟨⟨by decide +kernel, by decide +kernel⟩, List.mem_of_getElem? (i := 15) (by decide +kernel), List.mem_of_getElem? (i := 296) (by decide +kernel), List.mem_of_getElem? (i := 297) (by decide +kernel)⟩
theorem lw_p18 : lw_okq (⟨"ChurnTalk$State", "startIn", "(LChurnTalk$Town;)V"⟩, 10) := ⟨⟨by decide +kernel, by decide +kernel⟩, List.mem_of_getElem? (i := 40) (by decide +kernel), List.mem_of_getElem? (i := 300) (by decide +kernel), List.mem_of_getElem? (i := 301) (by decide +kernel)⟩
theorem lw_p19 : lw_okq (⟨"ChurnTalk$State", "standUp", "()V"⟩, 10) := ⟨⟨by decide +kernel, by decide +kernel⟩, List.mem_of_getElem? (i := 40) (by decide +kernel), List.mem_of_getElem? (i := 305) (by decide +kernel), List.mem_of_getElem? (i := 306) (by decide +kernel)⟩
theorem lw_p20 : lw_okq (⟨"ChurnTalk$State", "endTale", "()V"⟩, 10) := ⟨⟨by decide +kernel, by decide +kernel⟩, List.mem_of_getElem? (i := 40) (by decide +kernel), List.mem_of_getElem? (i := 309) (by decide +kernel), List.mem_of_getElem? (i := 310) (by decide +kernel)⟩
theorem lw_p21 : lw_okq (⟨"ChurnTalk$Shelf", "clear", "()V"⟩, 2) := ⟨⟨by decide +kernel, by decide +kernel⟩, List.mem_of_getElem? (i := 87) (by decide +kernel), List.mem_of_getElem? (i := 313) (by decide +kernel), List.mem_of_getElem? (i := 314) (by decide +kernel)⟩
theorem lw_p22 : lw_okq (⟨"ChurnTalk$Text", "empty", "()V"⟩, 3) := ⟨⟨by decide +kernel, by decide +kernel⟩, List.mem_of_getElem? (i := 23) (by decide +kernel), List.mem_of_getElem? (i := 317) (by decide +kernel), List.mem_of_getElem? (i := 318) (by decide +kernel)⟩
theorem lw_p23 : lw_okq (⟨"ChurnTalk$Text", "size", "()I"⟩, 3) := ⟨⟨by decide +kernel, by decide +kernel⟩, List.mem_of_getElem? (i := 23) (by decide +kernel), List.mem_of_getElem? (i := 352) (by decide +kernel), List.mem_of_getElem? (i := 353) (by decide +kernel)⟩
theorem lw_p24 : lw_okq (⟨"ChurnTalk$Town", "kindOf", "(I)I"⟩, 9) := ⟨⟨by decide +kernel, by decide +kernel⟩, List.mem_of_getElem? (i := 125) (by decide +kernel), List.mem_of_getElem? (i := 373) (by decide +kernel), List.mem_of_getElem? (i := 374) (by decide +kernel)⟩
theorem lw_p25 : lw_okq (⟨"ChurnTalk$State", "knownBy", "(I)I"⟩, 10) := ⟨⟨by decide +kernel, by decide +kernel⟩, List.mem_of_getElem? (i := 40) (by decide +kernel), List.mem_of_getElem? (i := 378) (by decide +kernel), List.mem_of_getElem? (i := 379) (by decide +kernel)⟩
theorem lw_p26 : lw_okq (⟨"ChurnTalk$State", "isSeated", "(I)Z"⟩, 10) := ⟨⟨by decide +kernel, by decide +kernel⟩, List.mem_of_getElem? (i := 40) (by decide +kernel), List.mem_of_getElem? (i := 382) (by decide +kernel), List.mem_of_getElem? (i := 383) (by decide +kernel)⟩
theorem lw_p27 : lw_okq (⟨"ChurnTalk$State", "anyoneSits", "()Z"⟩, 10) := ⟨⟨by decide +kernel, by decide +kernel⟩, List.mem_of_getElem? (i := 40) (by decide +kernel), List.mem_of_getElem? (i := 386) (by decide +kernel), List.mem_of_getElem? (i := 387) (by decide +kernel)⟩
theorem lw_p28 : lw_okq (⟨"ChurnTalk$Town", "hasTale", "(I)Z"⟩, 9) := ⟨⟨by decide +kernel, by decide +kernel⟩, List.mem_of_getElem? (i := 125) (by decide +kernel), List.mem_of_getElem? (i := 394) (by decide +kernel), List.mem_of_getElem? (i := 395) (by decide +kernel)⟩
theorem lw_p29 : lw_okq (⟨"ChurnTalk$Town", "personOf", "(I)I"⟩, 9) := ⟨⟨by decide +kernel, by decide +kernel⟩, List.mem_of_getElem? (i := 125) (by decide +kernel), List.mem_of_getElem? (i := 398) (by decide +kernel), List.mem_of_getElem? (i := 399) (by decide +kernel)⟩
theorem lw_p30 : lw_okq (⟨"ChurnTalk$Town", "illOf", "(I)I"⟩, 9) := ⟨⟨by decide +kernel, by decide +kernel⟩, List.mem_of_getElem? (i := 125) (by decide +kernel), List.mem_of_getElem? (i := 402) (by decide +kernel), List.mem_of_getElem? (i := 403) (by decide +kernel)⟩
theorem lw_p31 : lw_okq (⟨"ChurnTalk$Town", "minutesOf", "(I)I"⟩, 9) := ⟨⟨by decide +kernel, by decide +kernel⟩, List.mem_of_getElem? (i := 125) (by decide +kernel), List.mem_of_getElem? (i := 406) (by decide +kernel), List.mem_of_getElem? (i := 407) (by decide +kernel)⟩
def lw_privs_2 : List (MethodName × Nat) := [(⟨"ChurnTalk$Town", "addTale", "(IIII)Z"⟩, 9), (⟨"ChurnTalk", "moveIn", "()V"⟩, 8), (⟨"ChurnTalk$State", "startIn", "(LChurnTalk$Town;)V"⟩, 10), (⟨"ChurnTalk$State", "standUp", "()V"⟩, 10), (⟨"ChurnTalk$State", "endTale", "()V"⟩, 10), (⟨"ChurnTalk$Shelf", "clear", "()V"⟩, 2), (⟨"ChurnTalk$Text", "empty", "()V"⟩, 3), (⟨"ChurnTalk$Text", "size", "()I"⟩, 3), (⟨"ChurnTalk$Town", "kindOf", "(I)I"⟩, 9), (⟨"ChurnTalk$State", "knownBy", "(I)I"⟩, 10), (⟨"ChurnTalk$State", "isSeated", "(I)Z"⟩, 10), (⟨"ChurnTalk$State", "anyoneSits", "()Z"⟩, 10), (⟨"ChurnTalk$Town", "hasTale", "(I)Z"⟩, 9), (⟨"ChurnTalk$Town", "personOf", "(I)I"⟩, 9), (⟨"ChurnTalk$Town", "illOf", "(I)I"⟩, 9), (⟨"ChurnTalk$Town", "minutesOf", "(I)I"⟩, 9)]
theorem lw_r2 : ∀ q ∈ lw_privs_2, lw_okq q := List.forall_mem_cons.mpr ⟨lw_p16, List.forall_mem_cons.mpr ⟨lw_p17, List.forall_mem_cons.mpr ⟨lw_p18, List.forall_mem_cons.mpr ⟨lw_p19, List.forall_mem_cons.mpr ⟨lw_p20, List.forall_mem_cons.mpr ⟨lw_p21, List.forall_mem_cons.mpr ⟨lw_p22, List.forall_mem_cons.mpr ⟨lw_p23, List.forall_mem_cons.mpr ⟨lw_p24, List.forall_mem_cons.mpr ⟨lw_p25, List.forall_mem_cons.mpr ⟨lw_p26, List.forall_mem_cons.mpr ⟨lw_p27, List.forall_mem_cons.mpr ⟨lw_p28, List.forall_mem_cons.mpr ⟨lw_p29, List.forall_mem_cons.mpr ⟨lw_p30, List.forall_mem_cons.mpr ⟨lw_p31, fun _ h => absurd h List.not_mem_nil⟩⟩⟩⟩⟩⟩⟩⟩⟩⟩⟩⟩⟩⟩⟩⟩
theorem lw_p32 : lw_okq (⟨"ChurnTalk$State", "isHushed", "(I)Z"⟩, 10) := ⟨⟨by decide +kernel, by decide +kernel⟩, List.mem_of_getElem? (i := 40) (by decide +kernel), List.mem_of_getElem? (i := 410) (by decide +kernel), List.mem_of_getElem? (i := 411) (by decide +kernel)⟩
theorem lw_p33 : lw_okq (⟨"ChurnTalk$State", "knowersOf", "(I)I"⟩, 10) := ⟨⟨by decide +kernel, by decide +kernel⟩, List.mem_of_getElem? (i := 40) (by decide +kernel), List.mem_of_getElem? (i := 415) (by decide +kernel), List.mem_of_getElem? (i := 416) (by decide +kernel)⟩
theorem lw_p34 : lw_okq (⟨"ChurnTalk$State", "isTelling", "()Z"⟩, 10) := ⟨⟨by decide +kernel, by decide +kernel⟩, List.mem_of_getElem? (i := 40) (by decide +kernel), List.mem_of_getElem? (i := 424) (by decide +kernel), List.mem_of_getElem? (i := 425) (by decide +kernel)⟩
theorem lw_p35 : lw_okq (⟨"ChurnTalk", "areTwo", "(II)Z"⟩, 8) := ⟨⟨by decide +kernel, by decide +kernel⟩, List.mem_of_getElem? (i := 15) (by decide +kernel), List.mem_of_getElem? (i := 432) (by decide +kernel), List.mem_of_getElem? (i := 433) (by decide +kernel)⟩
theorem lw_p36 : lw_okq (⟨"ChurnTalk$Town", "areFriends", "(II)Z"⟩, 9) := ⟨⟨by decide +kernel, by decide +kernel⟩, List.mem_of_getElem? (i := 125) (by decide +kernel), List.mem_of_getElem? (i := 436) (by decide +kernel), List.mem_of_getElem? (i := 437) (by decide +kernel)⟩
theorem lw_p37 : lw_okq (⟨"ChurnTalk$Shelf", "push", "(LChurnTalk$State;)V"⟩, 2) := ⟨⟨by decide +kernel, by decide +kernel⟩, List.mem_of_getElem? (i := 87) (by decide +kernel), List.mem_of_getElem? (i := 440) (by decide +kernel), List.mem_of_getElem? (i := 441) (by decide +kernel)⟩
theorem lw_p38 : lw_okq (⟨"ChurnTalk$Shelf", "isFull", "()Z"⟩, 2) := ⟨⟨by decide +kernel, by decide +kernel⟩, List.mem_of_getElem? (i := 87) (by decide +kernel), List.mem_of_getElem? (i := 444) (by decide +kernel), List.mem_of_getElem? (i := 445) (by decide +kernel)⟩
theorem lw_p39 : lw_okq (⟨"ChurnTalk$Shelf", "dropOldest", "()V"⟩, 2) := ⟨⟨by decide +kernel, by decide +kernel⟩, List.mem_of_getElem? (i := 87) (by decide +kernel), List.mem_of_getElem? (i := 448) (by decide +kernel), List.mem_of_getElem? (i := 449) (by decide +kernel)⟩
theorem lw_p40 : lw_okq (⟨"ChurnTalk$Shelf", "isState", "(I)Z"⟩, 2) := ⟨⟨by decide +kernel, by decide +kernel⟩, List.mem_of_getElem? (i := 87) (by decide +kernel), List.mem_of_getElem? (i := 452) (by decide +kernel), List.mem_of_getElem? (i := 453) (by decide +kernel)⟩
theorem lw_p41 : lw_okq (⟨"ChurnTalk$State", "copyFrom", "(LChurnTalk$State;)V"⟩, 10) := ⟨⟨by decide +kernel, by decide +kernel⟩, List.mem_of_getElem? (i := 40) (by decide +kernel), List.mem_of_getElem? (i := 456) (by decide +kernel), List.mem_of_getElem? (i := 457) (by decide +kernel)⟩
theorem lw_p42 : lw_okq (⟨"ChurnTalk$State", "seat", "(II)V"⟩, 10) := ⟨⟨by decide +kernel, by decide +kernel⟩, List.mem_of_getElem? (i := 40) (by decide +kernel), List.mem_of_getElem? (i := 460) (by decide +kernel), List.mem_of_getElem? (i := 461) (by decide +kernel)⟩
theorem lw_p43 : lw_okq (⟨"ChurnTalk$State", "mayTell", "(LChurnTalk$Town;II)I"⟩, 10) := ⟨⟨by decide +kernel, by decide +kernel⟩, List.mem_of_getElem? (i := 40) (by decide +kernel), List.mem_of_getElem? (i := 464) (by decide +kernel), List.mem_of_getElem? (i := 465) (by decide +kernel)⟩
theorem lw_p44 : lw_okq (⟨"ChurnTalk$State", "goOn", "(LChurnTalk$Town;I)V"⟩, 10) := ⟨⟨by decide +kernel, by decide +kernel⟩, List.mem_of_getElem? (i := 40) (by decide +kernel), List.mem_of_getElem? (i := 486) (by decide +kernel), List.mem_of_getElem? (i := 487) (by decide +kernel)⟩
theorem lw_p45 : lw_okq (⟨"ChurnTalk$State", "beginTale", "(LChurnTalk$Town;)V"⟩, 10) := ⟨⟨by decide +kernel, by decide +kernel⟩, List.mem_of_getElem? (i := 40) (by decide +kernel), List.mem_of_getElem? (i := 490) (by decide +kernel), List.mem_of_getElem? (i := 491) (by decide +kernel)⟩
theorem lw_p46 : lw_okq (⟨"ChurnTalk$State", "listener", "()I"⟩, 10) := ⟨⟨by decide +kernel, by decide +kernel⟩, List.mem_of_getElem? (i := 40) (by decide +kernel), List.mem_of_getElem? (i := 495) (by decide +kernel), List.mem_of_getElem? (i := 496) (by decide +kernel)⟩
theorem lw_p47 : lw_okq (⟨"ChurnTalk$State", "giveButter", "(LChurnTalk$Town;I)V"⟩, 10) := ⟨⟨by decide +kernel, by decide +kernel⟩, List.mem_of_getElem? (i := 40) (by decide +kernel), List.mem_of_getElem? (i := 508) (by decide +kernel), List.mem_of_getElem? (i := 509) (by decide +kernel)⟩
def lw_privs_3 : List (MethodName × Nat) := [(⟨"ChurnTalk$State", "isHushed", "(I)Z"⟩, 10), (⟨"ChurnTalk$State", "knowersOf", "(I)I"⟩, 10), (⟨"ChurnTalk$State", "isTelling", "()Z"⟩, 10), (⟨"ChurnTalk", "areTwo", "(II)Z"⟩, 8), (⟨"ChurnTalk$Town", "areFriends", "(II)Z"⟩, 9), (⟨"ChurnTalk$Shelf", "push", "(LChurnTalk$State;)V"⟩, 2), (⟨"ChurnTalk$Shelf", "isFull", "()Z"⟩, 2), (⟨"ChurnTalk$Shelf", "dropOldest", "()V"⟩, 2), (⟨"ChurnTalk$Shelf", "isState", "(I)Z"⟩, 2), (⟨"ChurnTalk$State", "copyFrom", "(LChurnTalk$State;)V"⟩, 10), (⟨"ChurnTalk$State", "seat", "(II)V"⟩, 10), (⟨"ChurnTalk$State", "mayTell", "(LChurnTalk$Town;II)I"⟩, 10), (⟨"ChurnTalk$State", "goOn", "(LChurnTalk$Town;I)V"⟩, 10), (⟨"ChurnTalk$State", "beginTale", "(LChurnTalk$Town;)V"⟩, 10), (⟨"ChurnTalk$State", "listener", "()I"⟩, 10), (⟨"ChurnTalk$State", "giveButter", "(LChurnTalk$Town;I)V"⟩, 10)]
theorem lw_r3 : ∀ q ∈ lw_privs_3, lw_okq q := List.forall_mem_cons.mpr ⟨lw_p32, List.forall_mem_cons.mpr ⟨lw_p33, List.forall_mem_cons.mpr ⟨lw_p34, List.forall_mem_cons.mpr ⟨lw_p35, List.forall_mem_cons.mpr ⟨lw_p36, List.forall_mem_cons.mpr ⟨lw_p37, List.forall_mem_cons.mpr ⟨lw_p38, List.forall_mem_cons.mpr ⟨lw_p39, List.forall_mem_cons.mpr ⟨lw_p40, List.forall_mem_cons.mpr ⟨lw_p41, List.forall_mem_cons.mpr ⟨lw_p42, List.forall_mem_cons.mpr ⟨lw_p43, List.forall_mem_cons.mpr ⟨lw_p44, List.forall_mem_cons.mpr ⟨lw_p45, List.forall_mem_cons.mpr ⟨lw_p46, List.forall_mem_cons.mpr ⟨lw_p47, fun _ h => absurd h List.not_mem_nil⟩⟩⟩⟩⟩⟩⟩⟩⟩⟩⟩⟩⟩⟩⟩⟩
theorem lw_p48 : lw_okq (⟨"ChurnTalk$State", "tellOut", "()V"⟩, 10) := ⟨⟨by decide +kernel, by decide +kernel⟩, List.mem_of_getElem? (i := 40) (by decide +kernel), List.mem_of_getElem? (i := 514) (by decide +kernel), List.mem_of_getElem? (i := 515) (by decide +kernel)⟩
theorem lw_p49 : lw_okq (⟨"ChurnTalk$State", "canHush", "(I)Z"⟩, 10) := ⟨⟨by decide +kernel, by decide +kernel⟩, List.mem_of_getElem? (i := 40) (by decide +kernel), List.mem_of_getElem? (i := 523) (by decide +kernel), List.mem_of_getElem? (i := 524) (by decide +kernel)⟩
theorem lw_p50 : lw_okq (⟨"ChurnTalk$Shelf", "popInto", "(LChurnTalk$State;)Z"⟩, 2) := ⟨⟨by decide +kernel, by decide +kernel⟩, List.mem_of_getElem? (i := 87) (by decide +kernel), List.mem_of_getElem? (i := 533) (by decide +kernel), List.mem_of_getElem? (i := 534) (by decide +kernel)⟩
theorem lw_p51 : lw_okq (⟨"ChurnTalk$Shelf", "size", "()I"⟩, 2) := ⟨⟨by decide +kernel, by decide +kernel⟩, List.mem_of_getElem? (i := 87) (by decide +kernel), List.mem_of_getElem? (i := 537) (by decide +kernel), List.mem_of_getElem? (i := 538) (by decide +kernel)⟩
theorem lw_p52 : lw_okq (⟨"ChurnTalk$State", "isSilent", "(LChurnTalk$Town;)Z"⟩, 10) := ⟨⟨by decide +kernel, by decide +kernel⟩, List.mem_of_getElem? (i := 40) (by decide +kernel), List.mem_of_getElem? (i := 550) (by decide +kernel), List.mem_of_getElem? (i := 551) (by decide +kernel)⟩
theorem lw_p53 : lw_okq (⟨"ChurnTalk", "wouldBring", "(IIII)I"⟩, 8) := ⟨⟨by decide +kernel, by decide +kernel⟩, List.mem_of_getElem? (i := 15) (by decide +kernel), List.mem_of_getElem? (i := 558) (by decide +kernel), List.mem_of_getElem? (i := 559) (by decide +kernel)⟩
theorem lw_p54 : lw_okq (⟨"ChurnTalk", "bestButter", "(II)I"⟩, 8) := ⟨⟨by decide +kernel, by decide +kernel⟩, List.mem_of_getElem? (i := 15) (by decide +kernel), List.mem_of_getElem? (i := 566) (by decide +kernel), List.mem_of_getElem? (i := 567) (by decide +kernel)⟩
theorem lw_p55 : lw_okq (⟨"ChurnTalk", "firstWho", "(II)I"⟩, 8) := ⟨⟨by decide +kernel, by decide +kernel⟩, List.mem_of_getElem? (i := 15) (by decide +kernel), List.mem_of_getElem? (i := 571) (by decide +kernel), List.mem_of_getElem? (i := 572) (by decide +kernel)⟩
theorem lw_p56 : lw_okq (⟨"ChurnTalk", "pairAll", "(I)V"⟩, 8) := ⟨⟨by decide +kernel, by decide +kernel⟩, List.mem_of_getElem? (i := 15) (by decide +kernel), List.mem_of_getElem? (i := 579) (by decide +kernel), List.mem_of_getElem? (i := 580) (by decide +kernel)⟩
theorem lw_p57 : lw_okq (⟨"ChurnTalk$Pairing", "setButter", "(III)V"⟩, 4) := ⟨⟨by decide +kernel, by decide +kernel⟩, List.mem_of_getElem? (i := 106) (by decide +kernel), List.mem_of_getElem? (i := 583) (by decide +kernel), List.mem_of_getElem? (i := 584) (by decide +kernel)⟩
theorem lw_p58 : lw_okq (⟨"ChurnTalk$Pairing", "solve", "(I)V"⟩, 4) := ⟨⟨by decide +kernel, by decide +kernel⟩, List.mem_of_getElem? (i := 106) (by decide +kernel), List.mem_of_getElem? (i := 588) (by decide +kernel), List.mem_of_getElem? (i := 589) (by decide +kernel)⟩
theorem lw_p59 : lw_okq (⟨"ChurnTalk$Pairing", "seatLowest", "(I)V"⟩, 4) := ⟨⟨by decide +kernel, by decide +kernel⟩, List.mem_of_getElem? (i := 106) (by decide +kernel), List.mem_of_getElem? (i := 593) (by decide +kernel), List.mem_of_getElem? (i := 594) (by decide +kernel)⟩
theorem lw_p60 : lw_okq (⟨"ChurnTalk$Pairing", "butterOf", "(II)I"⟩, 4) := ⟨⟨by decide +kernel, by decide +kernel⟩, List.mem_of_getElem? (i := 106) (by decide +kernel), List.mem_of_getElem? (i := 598) (by decide +kernel), List.mem_of_getElem? (i := 599) (by decide +kernel)⟩
theorem lw_p61 : lw_okq (⟨"ChurnTalk$Pairing", "readMates", "(I)V"⟩, 4) := ⟨⟨by decide +kernel, by decide +kernel⟩, List.mem_of_getElem? (i := 106) (by decide +kernel), List.mem_of_getElem? (i := 605) (by decide +kernel), List.mem_of_getElem? (i := 606) (by decide +kernel)⟩
theorem lw_p62 : lw_okq (⟨"ChurnTalk$Pairing", "sum", "(I)I"⟩, 4) := ⟨⟨by decide +kernel, by decide +kernel⟩, List.mem_of_getElem? (i := 106) (by decide +kernel), List.mem_of_getElem? (i := 609) (by decide +kernel), List.mem_of_getElem? (i := 610) (by decide +kernel)⟩
theorem lw_p63 : lw_okq (⟨"ChurnTalk$Pairing", "mateOf", "(I)I"⟩, 4) := ⟨⟨by decide +kernel, by decide +kernel⟩, List.mem_of_getElem? (i := 106) (by decide +kernel), List.mem_of_getElem? (i := 613) (by decide +kernel), List.mem_of_getElem? (i := 614) (by decide +kernel)⟩
def lw_privs_4 : List (MethodName × Nat) := [(⟨"ChurnTalk$State", "tellOut", "()V"⟩, 10), (⟨"ChurnTalk$State", "canHush", "(I)Z"⟩, 10), (⟨"ChurnTalk$Shelf", "popInto", "(LChurnTalk$State;)Z"⟩, 2), (⟨"ChurnTalk$Shelf", "size", "()I"⟩, 2), (⟨"ChurnTalk$State", "isSilent", "(LChurnTalk$Town;)Z"⟩, 10), (⟨"ChurnTalk", "wouldBring", "(IIII)I"⟩, 8), (⟨"ChurnTalk", "bestButter", "(II)I"⟩, 8), (⟨"ChurnTalk", "firstWho", "(II)I"⟩, 8), (⟨"ChurnTalk", "pairAll", "(I)V"⟩, 8), (⟨"ChurnTalk$Pairing", "setButter", "(III)V"⟩, 4), (⟨"ChurnTalk$Pairing", "solve", "(I)V"⟩, 4), (⟨"ChurnTalk$Pairing", "seatLowest", "(I)V"⟩, 4), (⟨"ChurnTalk$Pairing", "butterOf", "(II)I"⟩, 4), (⟨"ChurnTalk$Pairing", "readMates", "(I)V"⟩, 4), (⟨"ChurnTalk$Pairing", "sum", "(I)I"⟩, 4), (⟨"ChurnTalk$Pairing", "mateOf", "(I)I"⟩, 4)]
theorem lw_r4 : ∀ q ∈ lw_privs_4, lw_okq q := List.forall_mem_cons.mpr ⟨lw_p48, List.forall_mem_cons.mpr ⟨lw_p49, List.forall_mem_cons.mpr ⟨lw_p50, List.forall_mem_cons.mpr ⟨lw_p51, List.forall_mem_cons.mpr ⟨lw_p52, List.forall_mem_cons.mpr ⟨lw_p53, List.forall_mem_cons.mpr ⟨lw_p54, List.forall_mem_cons.mpr ⟨lw_p55, List.forall_mem_cons.mpr ⟨lw_p56, List.forall_mem_cons.mpr ⟨lw_p57, List.forall_mem_cons.mpr ⟨lw_p58, List.forall_mem_cons.mpr ⟨lw_p59, List.forall_mem_cons.mpr ⟨lw_p60, List.forall_mem_cons.mpr ⟨lw_p61, List.forall_mem_cons.mpr ⟨lw_p62, List.forall_mem_cons.mpr ⟨lw_p63, fun _ h => absurd h List.not_mem_nil⟩⟩⟩⟩⟩⟩⟩⟩⟩⟩⟩⟩⟩⟩⟩⟩
theorem lw_p64 : lw_okq (⟨"ChurnTalk", "wouldLeave", "(II)Z"⟩, 8) := ⟨⟨by decide +kernel, by decide +kernel⟩, List.mem_of_getElem? (i := 15) (by decide +kernel), List.mem_of_getElem? (i := 621) (by decide +kernel), List.mem_of_getElem? (i := 622) (by decide +kernel)⟩
theorem lw_p65 : lw_okq (⟨"ChurnTalk$Pairing", "hasNow", "(I)I"⟩, 4) := ⟨⟨by decide +kernel, by decide +kernel⟩, List.mem_of_getElem? (i := 106) (by decide +kernel), List.mem_of_getElem? (i := 626) (by decide +kernel), List.mem_of_getElem? (i := 627) (by decide +kernel)⟩
theorem lw_p66 : lw_okq (⟨"ChurnTalk$State", "hearersOf", "(LChurnTalk$Town;II)I"⟩, 10) := ⟨⟨by decide +kernel, by decide +kernel⟩, List.mem_of_getElem? (i := 40) (by decide +kernel), List.mem_of_getElem? (i := 635) (by decide +kernel), List.mem_of_getElem? (i := 636) (by decide +kernel)⟩
theorem lw_p67 : lw_okq (⟨"ChurnTalk$Town", "illOfAll", "(I)I"⟩, 9) := ⟨⟨by decide +kernel, by decide +kernel⟩, List.mem_of_getElem? (i := 125) (by decide +kernel), List.mem_of_getElem? (i := 649) (by decide +kernel), List.mem_of_getElem? (i := 650) (by decide +kernel)⟩
theorem lw_p68 : lw_okq (⟨"ChurnTalk", "howManyWho", "(II)I"⟩, 8) := ⟨⟨by decide +kernel, by decide +kernel⟩, List.mem_of_getElem? (i := 15) (by decide +kernel), List.mem_of_getElem? (i := 658) (by decide +kernel), List.mem_of_getElem? (i := 659) (by decide +kernel)⟩
theorem lw_p69 : lw_okq (⟨"ChurnTalk", "actByDraw", "(I)V"⟩, 8) := ⟨⟨by decide +kernel, by decide +kernel⟩, List.mem_of_getElem? (i := 15) (by decide +kernel), List.mem_of_getElem? (i := 683) (by decide +kernel), List.mem_of_getElem? (i := 684) (by decide +kernel)⟩
theorem lw_p70 : lw_okq (⟨"ChurnTalk", "seatByDraw", "(I)V"⟩, 8) := ⟨⟨by decide +kernel, by decide +kernel⟩, List.mem_of_getElem? (i := 15) (by decide +kernel), List.mem_of_getElem? (i := 687) (by decide +kernel), List.mem_of_getElem? (i := 688) (by decide +kernel)⟩
theorem lw_p71 : lw_okq (⟨"ChurnTalk$State", "knownByAll", "()I"⟩, 10) := ⟨⟨by decide +kernel, by decide +kernel⟩, List.mem_of_getElem? (i := 40) (by decide +kernel), List.mem_of_getElem? (i := 691) (by decide +kernel), List.mem_of_getElem? (i := 692) (by decide +kernel)⟩
theorem lw_p72 : lw_okq (⟨"ChurnTalk$Town", "friendships", "()I"⟩, 9) := ⟨⟨by decide +kernel, by decide +kernel⟩, List.mem_of_getElem? (i := 125) (by decide +kernel), List.mem_of_getElem? (i := 709) (by decide +kernel), List.mem_of_getElem? (i := 710) (by decide +kernel)⟩
theorem lw_p73 : lw_okq (⟨"ChurnTalkModel", "empties", "()V"⟩, 17) := ⟨⟨by decide +kernel, by decide +kernel⟩, List.mem_of_getElem? (i := 714) (by decide +kernel), List.mem_of_getElem? (i := 720) (by decide +kernel), List.mem_of_getElem? (i := 721) (by decide +kernel)⟩
theorem lw_p74 : lw_okq (⟨"ChurnTalkModel", "addsPerson", "(I)V"⟩, 17) := ⟨⟨by decide +kernel, by decide +kernel⟩, List.mem_of_getElem? (i := 714) (by decide +kernel), List.mem_of_getElem? (i := 724) (by decide +kernel), List.mem_of_getElem? (i := 725) (by decide +kernel)⟩
theorem lw_p75 : lw_okq (⟨"ChurnTalkModel", "befriends", "(II)V"⟩, 17) := ⟨⟨by decide +kernel, by decide +kernel⟩, List.mem_of_getElem? (i := 714) (by decide +kernel), List.mem_of_getElem? (i := 728) (by decide +kernel), List.mem_of_getElem? (i := 729) (by decide +kernel)⟩
theorem lw_p76 : lw_okq (⟨"ChurnTalkModel", "addsTale", "(IIII)V"⟩, 17) := ⟨⟨by decide +kernel, by decide +kernel⟩, List.mem_of_getElem? (i := 714) (by decide +kernel), List.mem_of_getElem? (i := 732) (by decide +kernel), List.mem_of_getElem? (i := 733) (by decide +kernel)⟩
theorem lw_p77 : lw_okq (⟨"ChurnTalkModel", "begins", "()V"⟩, 17) := ⟨⟨by decide +kernel, by decide +kernel⟩, List.mem_of_getElem? (i := 714) (by decide +kernel), List.mem_of_getElem? (i := 736) (by decide +kernel), List.mem_of_getElem? (i := 737) (by decide +kernel)⟩
theorem lw_p78 : lw_okq (⟨"ChurnTalkModel", "isItem", "()Z"⟩, 17) := ⟨⟨by decide +kernel, by decide +kernel⟩, List.mem_of_getElem? (i := 714) (by decide +kernel), List.mem_of_getElem? (i := 812) (by decide +kernel), List.mem_of_getElem? (i := 813) (by decide +kernel)⟩
theorem lw_p79 : lw_okq (⟨"ChurnTalkModel", "takes", "(I)Z"⟩, 17) := ⟨⟨by decide +kernel, by decide +kernel⟩, List.mem_of_getElem? (i := 714) (by decide +kernel), List.mem_of_getElem? (i := 816) (by decide +kernel), List.mem_of_getElem? (i := 817) (by decide +kernel)⟩
def lw_privs_5 : List (MethodName × Nat) := [(⟨"ChurnTalk", "wouldLeave", "(II)Z"⟩, 8), (⟨"ChurnTalk$Pairing", "hasNow", "(I)I"⟩, 4), (⟨"ChurnTalk$State", "hearersOf", "(LChurnTalk$Town;II)I"⟩, 10), (⟨"ChurnTalk$Town", "illOfAll", "(I)I"⟩, 9), (⟨"ChurnTalk", "howManyWho", "(II)I"⟩, 8), (⟨"ChurnTalk", "actByDraw", "(I)V"⟩, 8), (⟨"ChurnTalk", "seatByDraw", "(I)V"⟩, 8), (⟨"ChurnTalk$State", "knownByAll", "()I"⟩, 10), (⟨"ChurnTalk$Town", "friendships", "()I"⟩, 9), (⟨"ChurnTalkModel", "empties", "()V"⟩, 17), (⟨"ChurnTalkModel", "addsPerson", "(I)V"⟩, 17), (⟨"ChurnTalkModel", "befriends", "(II)V"⟩, 17), (⟨"ChurnTalkModel", "addsTale", "(IIII)V"⟩, 17), (⟨"ChurnTalkModel", "begins", "()V"⟩, 17), (⟨"ChurnTalkModel", "isItem", "()Z"⟩, 17), (⟨"ChurnTalkModel", "takes", "(I)Z"⟩, 17)]
theorem lw_r5 : ∀ q ∈ lw_privs_5, lw_okq q := List.forall_mem_cons.mpr ⟨lw_p64, List.forall_mem_cons.mpr ⟨lw_p65, List.forall_mem_cons.mpr ⟨lw_p66, List.forall_mem_cons.mpr ⟨lw_p67, List.forall_mem_cons.mpr ⟨lw_p68, List.forall_mem_cons.mpr ⟨lw_p69, List.forall_mem_cons.mpr ⟨lw_p70, List.forall_mem_cons.mpr ⟨lw_p71, List.forall_mem_cons.mpr ⟨lw_p72, List.forall_mem_cons.mpr ⟨lw_p73, List.forall_mem_cons.mpr ⟨lw_p74, List.forall_mem_cons.mpr ⟨lw_p75, List.forall_mem_cons.mpr ⟨lw_p76, List.forall_mem_cons.mpr ⟨lw_p77, List.forall_mem_cons.mpr ⟨lw_p78, List.forall_mem_cons.mpr ⟨lw_p79, fun _ h => absurd h List.not_mem_nil⟩⟩⟩⟩⟩⟩⟩⟩⟩⟩⟩⟩⟩⟩⟩⟩
theorem lw_p80 : lw_okq (⟨"ChurnTalkModel", "here", "()I"⟩, 17) := ⟨⟨by decide +kernel, by decide +kernel⟩, List.mem_of_getElem? (i := 714) (by decide +kernel), List.mem_of_getElem? (i := 820) (by decide +kernel), List.mem_of_getElem? (i := 821) (by decide +kernel)⟩
theorem lw_p81 : lw_okq (⟨"ChurnTalkModel", "isPerson", "()Z"⟩, 17) := ⟨⟨by decide +kernel, by decide +kernel⟩, List.mem_of_getElem? (i := 714) (by decide +kernel), List.mem_of_getElem? (i := 824) (by decide +kernel), List.mem_of_getElem? (i := 825) (by decide +kernel)⟩
theorem lw_p82 : lw_okq (⟨"ChurnTalkModel", "number", "(II)Z"⟩, 17) := ⟨⟨by decide +kernel, by decide +kernel⟩, List.mem_of_getElem? (i := 714) (by decide +kernel), List.mem_of_getElem? (i := 828) (by decide +kernel), List.mem_of_getElem? (i := 829) (by decide +kernel)⟩
theorem lw_p83 : lw_okq (⟨"ChurnTalkModel", "areFriends", "()Z"⟩, 17) := ⟨⟨by decide +kernel, by decide +kernel⟩, List.mem_of_getElem? (i := 714) (by decide +kernel), List.mem_of_getElem? (i := 837) (by decide +kernel), List.mem_of_getElem? (i := 838) (by decide +kernel)⟩
theorem lw_p84 : lw_okq (⟨"ChurnTalkModel", "isTale", "()Z"⟩, 17) := ⟨⟨by decide +kernel, by decide +kernel⟩, List.mem_of_getElem? (i := 714) (by decide +kernel), List.mem_of_getElem? (i := 841) (by decide +kernel), List.mem_of_getElem? (i := 842) (by decide +kernel)⟩
theorem lw_p85 : lw_okq (⟨"ChurnTalkModel", "row", "(I)I"⟩, 17) := ⟨⟨by decide +kernel, by decide +kernel⟩, List.mem_of_getElem? (i := 714) (by decide +kernel), List.mem_of_getElem? (i := 845) (by decide +kernel), List.mem_of_getElem? (i := 846) (by decide +kernel)⟩
theorem lw_p86 : lw_okq (⟨"ChurnTalkModel", "isOne", "(I)Z"⟩, 17) := ⟨⟨by decide +kernel, by decide +kernel⟩, List.mem_of_getElem? (i := 714) (by decide +kernel), List.mem_of_getElem? (i := 861) (by decide +kernel), List.mem_of_getElem? (i := 862) (by decide +kernel)⟩
theorem lw_p87 : lw_okq (⟨"ChurnTalkModel", "knownBy", "(I)I"⟩, 17) := ⟨⟨by decide +kernel, by decide +kernel⟩, List.mem_of_getElem? (i := 714) (by decide +kernel), List.mem_of_getElem? (i := 865) (by decide +kernel), List.mem_of_getElem? (i := 866) (by decide +kernel)⟩
theorem lw_p88 : lw_okq (⟨"ChurnTalkModel", "sits", "(I)Z"⟩, 17) := ⟨⟨by decide +kernel, by decide +kernel⟩, List.mem_of_getElem? (i := 714) (by decide +kernel), List.mem_of_getElem? (i := 869) (by decide +kernel), List.mem_of_getElem? (i := 870) (by decide +kernel)⟩
theorem lw_p89 : lw_okq (⟨"ChurnTalkModel", "isTaleOf", "(I)Z"⟩, 17) := ⟨⟨by decide +kernel, by decide +kernel⟩, List.mem_of_getElem? (i := 714) (by decide +kernel), List.mem_of_getElem? (i := 877) (by decide +kernel), List.mem_of_getElem? (i := 878) (by decide +kernel)⟩
theorem lw_p90 : lw_okq (⟨"ChurnTalkModel", "areTwo", "(II)Z"⟩, 17) := ⟨⟨by decide +kernel, by decide +kernel⟩, List.mem_of_getElem? (i := 714) (by decide +kernel), List.mem_of_getElem? (i := 890) (by decide +kernel), List.mem_of_getElem? (i := 891) (by decide +kernel)⟩
theorem lw_p91 : lw_okq (⟨"ChurnTalkModel", "likes", "(II)Z"⟩, 17) := ⟨⟨by decide +kernel, by decide +kernel⟩, List.mem_of_getElem? (i := 714) (by decide +kernel), List.mem_of_getElem? (i := 894) (by decide +kernel), List.mem_of_getElem? (i := 895) (by decide +kernel)⟩
theorem lw_p92 : lw_okq (⟨"ChurnTalkModel", "remember", "()V"⟩, 17) := ⟨⟨by decide +kernel, by decide +kernel⟩, List.mem_of_getElem? (i := 714) (by decide +kernel), List.mem_of_getElem? (i := 898) (by decide +kernel), List.mem_of_getElem? (i := 899) (by decide +kernel)⟩
theorem lw_p93 : lw_okq (⟨"ChurnTalkModel", "sitsDown", "([III)V"⟩, 17) := ⟨⟨by decide +kernel, by decide +kernel⟩, List.mem_of_getElem? (i := 714) (by decide +kernel), List.mem_of_getElem? (i := 902) (by decide +kernel), List.mem_of_getElem? (i := 903) (by decide +kernel)⟩
theorem lw_p94 : lw_okq (⟨"ChurnTalkModel", "tellable", "([IIII)I"⟩, 17) := ⟨⟨by decide +kernel, by decide +kernel⟩, List.mem_of_getElem? (i := 714) (by decide +kernel), List.mem_of_getElem? (i := 909) (by decide +kernel), List.mem_of_getElem? (i := 910) (by decide +kernel)⟩
theorem lw_p95 : lw_okq (⟨"ChurnTalkModel", "canTell", "([IIII)Z"⟩, 17) := ⟨⟨by decide +kernel, by decide +kernel⟩, List.mem_of_getElem? (i := 714) (by decide +kernel), List.mem_of_getElem? (i := 913) (by decide +kernel), List.mem_of_getElem? (i := 914) (by decide +kernel)⟩
def lw_privs_6 : List (MethodName × Nat) := [(⟨"ChurnTalkModel", "here", "()I"⟩, 17), (⟨"ChurnTalkModel", "isPerson", "()Z"⟩, 17), (⟨"ChurnTalkModel", "number", "(II)Z"⟩, 17), (⟨"ChurnTalkModel", "areFriends", "()Z"⟩, 17), (⟨"ChurnTalkModel", "isTale", "()Z"⟩, 17), (⟨"ChurnTalkModel", "row", "(I)I"⟩, 17), (⟨"ChurnTalkModel", "isOne", "(I)Z"⟩, 17), (⟨"ChurnTalkModel", "knownBy", "(I)I"⟩, 17), (⟨"ChurnTalkModel", "sits", "(I)Z"⟩, 17), (⟨"ChurnTalkModel", "isTaleOf", "(I)Z"⟩, 17), (⟨"ChurnTalkModel", "areTwo", "(II)Z"⟩, 17), (⟨"ChurnTalkModel", "likes", "(II)Z"⟩, 17), (⟨"ChurnTalkModel", "remember", "()V"⟩, 17), (⟨"ChurnTalkModel", "sitsDown", "([III)V"⟩, 17), (⟨"ChurnTalkModel", "tellable", "([IIII)I"⟩, 17), (⟨"ChurnTalkModel", "canTell", "([IIII)Z"⟩, 17)]
theorem lw_r6 : ∀ q ∈ lw_privs_6, lw_okq q := List.forall_mem_cons.mpr ⟨lw_p80, List.forall_mem_cons.mpr ⟨lw_p81, List.forall_mem_cons.mpr ⟨lw_p82, List.forall_mem_cons.mpr ⟨lw_p83, List.forall_mem_cons.mpr ⟨lw_p84, List.forall_mem_cons.mpr ⟨lw_p85, List.forall_mem_cons.mpr ⟨lw_p86, List.forall_mem_cons.mpr ⟨lw_p87, List.forall_mem_cons.mpr ⟨lw_p88, List.forall_mem_cons.mpr ⟨lw_p89, List.forall_mem_cons.mpr ⟨lw_p90, List.forall_mem_cons.mpr ⟨lw_p91, List.forall_mem_cons.mpr ⟨lw_p92, List.forall_mem_cons.mpr ⟨lw_p93, List.forall_mem_cons.mpr ⟨lw_p94, List.forall_mem_cons.mpr ⟨lw_p95, fun _ h => absurd h List.not_mem_nil⟩⟩⟩⟩⟩⟩⟩⟩⟩⟩⟩⟩⟩⟩⟩⟩
theorem lw_p96 : lw_okq (⟨"ChurnTalkModel", "minuteGoes", "([I)V"⟩, 17) := ⟨⟨by decide +kernel, by decide +kernel⟩, List.mem_of_getElem? (i := 714) (by decide +kernel), List.mem_of_getElem? (i := 929) (by decide +kernel), List.mem_of_getElem? (i := 930) (by decide +kernel)⟩
theorem lw_p97 : lw_okq (⟨"ChurnTalkModel", "isTold", "([I)Z"⟩, 17) := ⟨⟨by decide +kernel, by decide +kernel⟩, List.mem_of_getElem? (i := 714) (by decide +kernel), List.mem_of_getElem? (i := 933) (by decide +kernel), List.mem_of_getElem? (i := 934) (by decide +kernel)⟩
theorem lw_p98 : lw_okq (⟨"ChurnTalkModel", "mayHush", "([II)Z"⟩, 17) := ⟨⟨by decide +kernel, by decide +kernel⟩, List.mem_of_getElem? (i := 714) (by decide +kernel), List.mem_of_getElem? (i := 947) (by decide +kernel), List.mem_of_getElem? (i := 948) (by decide +kernel)⟩
theorem lw_p99 : lw_okq (⟨"ChurnTalkModel", "layAside", "()V"⟩, 17) := ⟨⟨by decide +kernel, by decide +kernel⟩, List.mem_of_getElem? (i := 714) (by decide +kernel), List.mem_of_getElem? (i := 960) (by decide +kernel), List.mem_of_getElem? (i := 961) (by decide +kernel)⟩
theorem lw_p100 : lw_okq (⟨"ChurnTalkModel", "isSilent", "([I)Z"⟩, 17) := ⟨⟨by decide +kernel, by decide +kernel⟩, List.mem_of_getElem? (i := 714) (by decide +kernel), List.mem_of_getElem? (i := 968) (by decide +kernel), List.mem_of_getElem? (i := 969) (by decide +kernel)⟩
theorem lw_p101 : lw_okq (⟨"ChurnTalkModel", "bringsBy", "(IIII)I"⟩, 17) := ⟨⟨by decide +kernel, by decide +kernel⟩, List.mem_of_getElem? (i := 714) (by decide +kernel), List.mem_of_getElem? (i := 976) (by decide +kernel), List.mem_of_getElem? (i := 977) (by decide +kernel)⟩
theorem lw_p102 : lw_okq (⟨"ChurnTalkModel", "finds", "(II)V"⟩, 17) := ⟨⟨by decide +kernel, by decide +kernel⟩, List.mem_of_getElem? (i := 714) (by decide +kernel), List.mem_of_getElem? (i := 984) (by decide +kernel), List.mem_of_getElem? (i := 985) (by decide +kernel)⟩
theorem lw_p103 : lw_okq (⟨"ChurnTalkModel", "findsTwos", "(I)I"⟩, 17) := ⟨⟨by decide +kernel, by decide +kernel⟩, List.mem_of_getElem? (i := 714) (by decide +kernel), List.mem_of_getElem? (i := 992) (by decide +kernel), List.mem_of_getElem? (i := 993) (by decide +kernel)⟩
theorem lw_p104 : lw_okq (⟨"ChurnTalkModel", "lays", "(I)V"⟩, 17) := ⟨⟨by decide +kernel, by decide +kernel⟩, List.mem_of_getElem? (i := 714) (by decide +kernel), List.mem_of_getElem? (i := 996) (by decide +kernel), List.mem_of_getElem? (i := 997) (by decide +kernel)⟩
theorem lw_p105 : lw_okq (⟨"ChurnTalkModel", "worth", "(I)I"⟩, 17) := ⟨⟨by decide +kernel, by decide +kernel⟩, List.mem_of_getElem? (i := 714) (by decide +kernel), List.mem_of_getElem? (i := 1000) (by decide +kernel), List.mem_of_getElem? (i := 1001) (by decide +kernel)⟩
theorem lw_p106 : lw_okq (⟨"ChurnTalkModel", "bringOf", "(II)I"⟩, 17) := ⟨⟨by decide +kernel, by decide +kernel⟩, List.mem_of_getElem? (i := 714) (by decide +kernel), List.mem_of_getElem? (i := 1004) (by decide +kernel), List.mem_of_getElem? (i := 1005) (by decide +kernel)⟩
theorem lw_p107 : lw_okq (⟨"ChurnTalkModel", "hasBy", "(I)I"⟩, 17) := ⟨⟨by decide +kernel, by decide +kernel⟩, List.mem_of_getElem? (i := 714) (by decide +kernel), List.mem_of_getElem? (i := 1015) (by decide +kernel), List.mem_of_getElem? (i := 1016) (by decide +kernel)⟩
theorem lw_p108 : lw_okq (⟨"ChurnTalkModel", "draws", "(I)V"⟩, 17) := ⟨⟨by decide +kernel, by decide +kernel⟩, List.mem_of_getElem? (i := 714) (by decide +kernel), List.mem_of_getElem? (i := 1049) (by decide +kernel), List.mem_of_getElem? (i := 1050) (by decide +kernel)⟩
theorem lw_p109 : lw_okq (⟨"ChurnTalkModel", "known", "([I)I"⟩, 17) := ⟨⟨by decide +kernel, by decide +kernel⟩, List.mem_of_getElem? (i := 714) (by decide +kernel), List.mem_of_getElem? (i := 1053) (by decide +kernel), List.mem_of_getElem? (i := 1054) (by decide +kernel)⟩
def lw_privs_7 : List (MethodName × Nat) := [(⟨"ChurnTalkModel", "minuteGoes", "([I)V"⟩, 17), (⟨"ChurnTalkModel", "isTold", "([I)Z"⟩, 17), (⟨"ChurnTalkModel", "mayHush", "([II)Z"⟩, 17), (⟨"ChurnTalkModel", "layAside", "()V"⟩, 17), (⟨"ChurnTalkModel", "isSilent", "([I)Z"⟩, 17), (⟨"ChurnTalkModel", "bringsBy", "(IIII)I"⟩, 17), (⟨"ChurnTalkModel", "finds", "(II)V"⟩, 17), (⟨"ChurnTalkModel", "findsTwos", "(I)I"⟩, 17), (⟨"ChurnTalkModel", "lays", "(I)V"⟩, 17), (⟨"ChurnTalkModel", "worth", "(I)I"⟩, 17), (⟨"ChurnTalkModel", "bringOf", "(II)I"⟩, 17), (⟨"ChurnTalkModel", "hasBy", "(I)I"⟩, 17), (⟨"ChurnTalkModel", "draws", "(I)V"⟩, 17), (⟨"ChurnTalkModel", "known", "([I)I"⟩, 17)]
theorem lw_r7 : ∀ q ∈ lw_privs_7, lw_okq q := List.forall_mem_cons.mpr ⟨lw_p96, List.forall_mem_cons.mpr ⟨lw_p97, List.forall_mem_cons.mpr ⟨lw_p98, List.forall_mem_cons.mpr ⟨lw_p99, List.forall_mem_cons.mpr ⟨lw_p100, List.forall_mem_cons.mpr ⟨lw_p101, List.forall_mem_cons.mpr ⟨lw_p102, List.forall_mem_cons.mpr ⟨lw_p103, List.forall_mem_cons.mpr ⟨lw_p104, List.forall_mem_cons.mpr ⟨lw_p105, List.forall_mem_cons.mpr ⟨lw_p106, List.forall_mem_cons.mpr ⟨lw_p107, List.forall_mem_cons.mpr ⟨lw_p108, List.forall_mem_cons.mpr ⟨lw_p109, fun _ h => absurd h List.not_mem_nil⟩⟩⟩⟩⟩⟩⟩⟩⟩⟩⟩⟩⟩⟩
def lw_privs : List (MethodName × Nat) := lw_privs_1 ++ (lw_privs_2 ++ (lw_privs_3 ++ (lw_privs_4 ++ (lw_privs_5 ++ (lw_privs_6 ++ (lw_privs_7))))))
def lw_tbl : List Cond := k2_sels lw_privs ++ tables_1
theorem lw_privs_ok : ∀ q ∈ lw_privs, lw_okq q := by
  show ∀ q ∈ lw_privs_1 ++ (lw_privs_2 ++ (lw_privs_3 ++ (lw_privs_4 ++ (lw_privs_5 ++ (lw_privs_6 ++ (lw_privs_7)))))), lw_okq q
  exact List.forall_mem_append.mpr ⟨lw_r1, List.forall_mem_append.mpr ⟨lw_r2, List.forall_mem_append.mpr ⟨lw_r3, List.forall_mem_append.mpr ⟨lw_r4, List.forall_mem_append.mpr ⟨lw_r5, List.forall_mem_append.mpr ⟨lw_r6, lw_r7⟩⟩⟩⟩⟩⟩
-- ===== end of PART A; then your names; then what follows =====
def RX0 : String := "ChurnTalk$Pairing"
def TX0 : u_T := fun k => match k with
  | 0 => ("ChurnTalk$Pairing", "butter", "[I", true)
  | 1 => ("ChurnTalk$Pairing", "mostOf", "[I", true)
  | 2 => ("ChurnTalk$Pairing", "mateOfLowest", "[I", true)
  | _ => ("ChurnTalk$Pairing", "mates", "[I", true)
def tyX0 : Nat → FieldType := fun k => match k with
  | 0 => .array .int
  | 1 => .array .int
  | 2 => .array .int
  | _ => .array .int
abbrev wsX00 : List Cond := u_ws RX0 TX0 4
theorem nmX0 : ∀ a, a < 4 → ∀ b, b < 4 → a ≠ b → (TX0 a).2.1 ≠ (TX0 b).2.1 := by decide +kernel
theorem tyX0_ok : ∀ k, k < 4 → parseFieldDescriptor (TX0 k).2.2.1 = some (tyX0 k) := by decide +kernel
abbrev cX0_init : ByteArray := prog_2_method_1_code
def yX0_init : MethodName := ⟨RX0, "<init>", "()V"⟩
abbrev cX0_setButter : ByteArray := prog_2_method_2_code
def yX0_setButter : MethodName := ⟨RX0, "setButter", "(III)V"⟩
abbrev cX0_butterOf : ByteArray := prog_2_method_3_code
def yX0_butterOf : MethodName := ⟨RX0, "butterOf", "(II)I"⟩
abbrev cX0_mateOf : ByteArray := prog_2_method_4_code
def yX0_mateOf : MethodName := ⟨RX0, "mateOf", "(I)I"⟩
abbrev cX0_hasNow : ByteArray := prog_2_method_5_code
def yX0_hasNow : MethodName := ⟨RX0, "hasNow", "(I)I"⟩
abbrev cX0_sum : ByteArray := prog_2_method_6_code
def yX0_sum : MethodName := ⟨RX0, "sum", "(I)I"⟩
abbrev cX0_solve : ByteArray := prog_2_method_7_code
def yX0_solve : MethodName := ⟨RX0, "solve", "(I)V"⟩
abbrev cX0_seatLowest : ByteArray := prog_2_method_8_code
def yX0_seatLowest : MethodName := ⟨RX0, "seatLowest", "(I)V"⟩
abbrev cX0_readMates : ByteArray := prog_2_method_9_code
def yX0_readMates : MethodName := ⟨RX0, "readMates", "(I)V"⟩
def RX1 : String := "ChurnTalk$Shelf"
def TX1 : u_T := fun k => match k with
  | 0 => ("ChurnTalk$Shelf", "states", "[LChurnTalk$State;", true)
  | _ => ("ChurnTalk$Shelf", "size", "I", false)
def tyX1 : Nat → FieldType := fun k => match k with
  | 0 => .array (.object "ChurnTalk$State")
  | _ => .int
abbrev wsX10 : List Cond := u_ws RX1 TX1 2
theorem nmX1 : ∀ a, a < 2 → ∀ b, b < 2 → a ≠ b → (TX1 a).2.1 ≠ (TX1 b).2.1 := by decide +kernel
theorem tyX1_ok : ∀ k, k < 2 → parseFieldDescriptor (TX1 k).2.2.1 = some (tyX1 k) := by decide +kernel
abbrev cX1_init : ByteArray := prog_3_method_1_code
def yX1_init : MethodName := ⟨RX1, "<init>", "(I)V"⟩
abbrev cX1_size : ByteArray := prog_3_method_2_code
def yX1_size : MethodName := ⟨RX1, "size", "()I"⟩
abbrev cX1_isFull : ByteArray := prog_3_method_3_code
def yX1_isFull : MethodName := ⟨RX1, "isFull", "()Z"⟩
abbrev cX1_clear : ByteArray := prog_3_method_4_code
def yX1_clear : MethodName := ⟨RX1, "clear", "()V"⟩
abbrev cX1_push : ByteArray := prog_3_method_5_code
def yX1_push : MethodName := ⟨RX1, "push", "(LChurnTalk$State;)V"⟩
abbrev cX1_popInto : ByteArray := prog_3_method_6_code
def yX1_popInto : MethodName := ⟨RX1, "popInto", "(LChurnTalk$State;)Z"⟩
abbrev cX1_dropOldest : ByteArray := prog_3_method_7_code
def yX1_dropOldest : MethodName := ⟨RX1, "dropOldest", "()V"⟩
abbrev cX1_isState : ByteArray := prog_3_method_8_code
def yX1_isState : MethodName := ⟨RX1, "isState", "(I)Z"⟩
def RX2 : String := "ChurnTalk$State"
def TX2 : u_T := fun k => match k with
  | 0 => ("ChurnTalk$State", "knows", "[I", true)
  | 1 => ("ChurnTalk$State", "hushed", "I", false)
  | 2 => ("ChurnTalk$State", "first", "I", false)
  | 3 => ("ChurnTalk$State", "other", "I", false)
  | 4 => ("ChurnTalk$State", "teller", "I", false)
  | 5 => ("ChurnTalk$State", "telling", "I", false)
  | 6 => ("ChurnTalk$State", "minutesToGo", "I", false)
  | 7 => ("ChurnTalk$State", "told", "I", false)
  | 8 => ("ChurnTalk$State", "minutes", "I", false)
  | _ => ("ChurnTalk$State", "butter", "I", false)
def tyX2 : Nat → FieldType := fun k => match k with
  | 0 => .array .int
  | 1 => .int
  | 2 => .int
  | 3 => .int
  | 4 => .int
  | 5 => .int
  | 6 => .int
  | 7 => .int
  | 8 => .int
  | _ => .int
abbrev wsX20 : List Cond := u_ws RX2 TX2 10
theorem nmX2 : ∀ a, a < 10 → ∀ b, b < 10 → a ≠ b → (TX2 a).2.1 ≠ (TX2 b).2.1 := by decide +kernel
theorem tyX2_ok : ∀ k, k < 10 → parseFieldDescriptor (TX2 k).2.2.1 = some (tyX2 k) := by decide +kernel
abbrev cX2_init : ByteArray := prog_4_method_1_code
def yX2_init : MethodName := ⟨RX2, "<init>", "()V"⟩
abbrev cX2_startIn : ByteArray := prog_4_method_2_code
def yX2_startIn : MethodName := ⟨RX2, "startIn", "(LChurnTalk$Town;)V"⟩
abbrev cX2_copyFrom : ByteArray := prog_4_method_3_code
def yX2_copyFrom : MethodName := ⟨RX2, "copyFrom", "(LChurnTalk$State;)V"⟩
abbrev cX2_anyoneSits : ByteArray := prog_4_method_4_code
def yX2_anyoneSits : MethodName := ⟨RX2, "anyoneSits", "()Z"⟩
abbrev cX2_isSeated : ByteArray := prog_4_method_5_code
def yX2_isSeated : MethodName := ⟨RX2, "isSeated", "(I)Z"⟩
abbrev cX2_isTelling : ByteArray := prog_4_method_6_code
def yX2_isTelling : MethodName := ⟨RX2, "isTelling", "()Z"⟩
abbrev cX2_isHushed : ByteArray := prog_4_method_7_code
def yX2_isHushed : MethodName := ⟨RX2, "isHushed", "(I)Z"⟩
abbrev cX2_canHush : ByteArray := prog_4_method_8_code
def yX2_canHush : MethodName := ⟨RX2, "canHush", "(I)Z"⟩
abbrev cX2_knownBy : ByteArray := prog_4_method_9_code
def yX2_knownBy : MethodName := ⟨RX2, "knownBy", "(I)I"⟩
abbrev cX2_knownByAll : ByteArray := prog_4_method_10_code
def yX2_knownByAll : MethodName := ⟨RX2, "knownByAll", "()I"⟩
abbrev cX2_knowersOf : ByteArray := prog_4_method_11_code
def yX2_knowersOf : MethodName := ⟨RX2, "knowersOf", "(I)I"⟩
abbrev cX2_hearersOf : ByteArray := prog_4_method_12_code
def yX2_hearersOf : MethodName := ⟨RX2, "hearersOf", "(LChurnTalk$Town;II)I"⟩
abbrev cX2_mayTell : ByteArray := prog_4_method_13_code
def yX2_mayTell : MethodName := ⟨RX2, "mayTell", "(LChurnTalk$Town;II)I"⟩
abbrev cX2_seat : ByteArray := prog_4_method_14_code
def yX2_seat : MethodName := ⟨RX2, "seat", "(II)V"⟩
abbrev cX2_standUp : ByteArray := prog_4_method_15_code
def yX2_standUp : MethodName := ⟨RX2, "standUp", "()V"⟩
abbrev cX2_endTale : ByteArray := prog_4_method_16_code
def yX2_endTale : MethodName := ⟨RX2, "endTale", "()V"⟩
abbrev cX2_listener : ByteArray := prog_4_method_17_code
def yX2_listener : MethodName := ⟨RX2, "listener", "()I"⟩
abbrev cX2_isSilent : ByteArray := prog_4_method_18_code
def yX2_isSilent : MethodName := ⟨RX2, "isSilent", "(LChurnTalk$Town;)Z"⟩
abbrev cX2_goOn : ByteArray := prog_4_method_19_code
def yX2_goOn : MethodName := ⟨RX2, "goOn", "(LChurnTalk$Town;I)V"⟩
abbrev cX2_beginTale : ByteArray := prog_4_method_20_code
def yX2_beginTale : MethodName := ⟨RX2, "beginTale", "(LChurnTalk$Town;)V"⟩
abbrev cX2_giveButter : ByteArray := prog_4_method_21_code
def yX2_giveButter : MethodName := ⟨RX2, "giveButter", "(LChurnTalk$Town;I)V"⟩
abbrev cX2_tellOut : ByteArray := prog_4_method_22_code
def yX2_tellOut : MethodName := ⟨RX2, "tellOut", "()V"⟩
def RX3 : String := "ChurnTalk$Text"
def TX3 : u_T := fun k => match k with
  | 0 => ("ChurnTalk$Text", "letters", "[C", true)
  | 1 => ("ChurnTalk$Text", "size", "I", false)
  | _ => ("ChurnTalk$Text", "place", "I", false)
def tyX3 : Nat → FieldType := fun k => match k with
  | 0 => .array .char
  | 1 => .int
  | _ => .int
abbrev wsX30 : List Cond := u_ws RX3 TX3 3
theorem nmX3 : ∀ a, a < 3 → ∀ b, b < 3 → a ≠ b → (TX3 a).2.1 ≠ (TX3 b).2.1 := by decide +kernel
theorem tyX3_ok : ∀ k, k < 3 → parseFieldDescriptor (TX3 k).2.2.1 = some (tyX3 k) := by decide +kernel
abbrev cX3_init : ByteArray := prog_5_method_1_code
def yX3_init : MethodName := ⟨RX3, "<init>", "()V"⟩
abbrev cX3_size : ByteArray := prog_5_method_2_code
def yX3_size : MethodName := ⟨RX3, "size", "()I"⟩
abbrev cX3_empty : ByteArray := prog_5_method_3_code
def yX3_empty : MethodName := ⟨RX3, "empty", "()V"⟩
abbrev cX3_add : ByteArray := prog_5_method_4_code
def yX3_add : MethodName := ⟨RX3, "add", "(I)Z"⟩
abbrev cX3_readInto : ByteArray := prog_5_method_5_code
def yX3_readInto : MethodName := ⟨RX3, "readInto", "(LChurnTalk$Town;)I"⟩
abbrev cX3_readItem : ByteArray := prog_5_method_6_code
def yX3_readItem : MethodName := ⟨RX3, "readItem", "(LChurnTalk$Town;)Z"⟩
abbrev cX3_readPerson : ByteArray := prog_5_method_7_code
def yX3_readPerson : MethodName := ⟨RX3, "readPerson", "(LChurnTalk$Town;)Z"⟩
abbrev cX3_readFriends : ByteArray := prog_5_method_8_code
def yX3_readFriends : MethodName := ⟨RX3, "readFriends", "(LChurnTalk$Town;)Z"⟩
abbrev cX3_readTale : ByteArray := prog_5_method_9_code
def yX3_readTale : MethodName := ⟨RX3, "readTale", "(LChurnTalk$Town;)Z"⟩
abbrev cX3_readRow : ByteArray := prog_5_method_10_code
def yX3_readRow : MethodName := ⟨RX3, "readRow", "(LChurnTalk$Town;)I"⟩
abbrev cX3_readNumber : ByteArray := prog_5_method_11_code
def yX3_readNumber : MethodName := ⟨RX3, "readNumber", "()I"⟩
abbrev cX3_readFigure : ByteArray := prog_5_method_12_code
def yX3_readFigure : MethodName := ⟨RX3, "readFigure", "()I"⟩
abbrev cX3_accept : ByteArray := prog_5_method_13_code
def yX3_accept : MethodName := ⟨RX3, "accept", "(C)Z"⟩
abbrev cX3_peek : ByteArray := prog_5_method_14_code
def yX3_peek : MethodName := ⟨RX3, "peek", "()I"⟩
def RX4 : String := "ChurnTalk$Town"
def TX4 : u_T := fun k => match k with
  | 0 => ("ChurnTalk$Town", "persons", "I", false)
  | 1 => ("ChurnTalk$Town", "tales", "I", false)
  | 2 => ("ChurnTalk$Town", "kinds", "[I", true)
  | 3 => ("ChurnTalk$Town", "friends", "[I", true)
  | 4 => ("ChurnTalk$Town", "talesAbout", "[I", true)
  | 5 => ("ChurnTalk$Town", "knownAtFirst", "[I", true)
  | 6 => ("ChurnTalk$Town", "subjects", "[I", true)
  | 7 => ("ChurnTalk$Town", "ills", "[I", true)
  | _ => ("ChurnTalk$Town", "minutes", "[I", true)
def tyX4 : Nat → FieldType := fun k => match k with
  | 0 => .int
  | 1 => .int
  | 2 => .array .int
  | 3 => .array .int
  | 4 => .array .int
  | 5 => .array .int
  | 6 => .array .int
  | 7 => .array .int
  | _ => .array .int
abbrev wsX40 : List Cond := u_ws RX4 TX4 9
theorem nmX4 : ∀ a, a < 9 → ∀ b, b < 9 → a ≠ b → (TX4 a).2.1 ≠ (TX4 b).2.1 := by decide +kernel
theorem tyX4_ok : ∀ k, k < 9 → parseFieldDescriptor (TX4 k).2.2.1 = some (tyX4 k) := by decide +kernel
abbrev cX4_init : ByteArray := prog_6_method_1_code
def yX4_init : MethodName := ⟨RX4, "<init>", "()V"⟩
abbrev cX4_clear : ByteArray := prog_6_method_2_code
def yX4_clear : MethodName := ⟨RX4, "clear", "()V"⟩
abbrev cX4_addPerson : ByteArray := prog_6_method_3_code
def yX4_addPerson : MethodName := ⟨RX4, "addPerson", "(I)Z"⟩
abbrev cX4_addFriends : ByteArray := prog_6_method_4_code
def yX4_addFriends : MethodName := ⟨RX4, "addFriends", "(II)Z"⟩
abbrev cX4_addTale : ByteArray := prog_6_method_5_code
def yX4_addTale : MethodName := ⟨RX4, "addTale", "(IIII)Z"⟩
abbrev cX4_hasPerson : ByteArray := prog_6_method_6_code
def yX4_hasPerson : MethodName := ⟨RX4, "hasPerson", "(I)Z"⟩
abbrev cX4_hasTale : ByteArray := prog_6_method_7_code
def yX4_hasTale : MethodName := ⟨RX4, "hasTale", "(I)Z"⟩
abbrev cX4_kindOf : ByteArray := prog_6_method_8_code
def yX4_kindOf : MethodName := ⟨RX4, "kindOf", "(I)I"⟩
abbrev cX4_friendsOf : ByteArray := prog_6_method_9_code
def yX4_friendsOf : MethodName := ⟨RX4, "friendsOf", "(I)I"⟩
abbrev cX4_areFriends : ByteArray := prog_6_method_10_code
def yX4_areFriends : MethodName := ⟨RX4, "areFriends", "(II)Z"⟩
abbrev cX4_friendships : ByteArray := prog_6_method_11_code
def yX4_friendships : MethodName := ⟨RX4, "friendships", "()I"⟩
abbrev cX4_personOf : ByteArray := prog_6_method_12_code
def yX4_personOf : MethodName := ⟨RX4, "personOf", "(I)I"⟩
abbrev cX4_illOf : ByteArray := prog_6_method_13_code
def yX4_illOf : MethodName := ⟨RX4, "illOf", "(I)I"⟩
abbrev cX4_minutesOf : ByteArray := prog_6_method_14_code
def yX4_minutesOf : MethodName := ⟨RX4, "minutesOf", "(I)I"⟩
abbrev cX4_illOfAll : ByteArray := prog_6_method_15_code
def yX4_illOfAll : MethodName := ⟨RX4, "illOfAll", "(I)I"⟩
def RX5 : String := "ChurnTalk"
def TX5 : u_T := fun k => match k with
  | 0 => ("ChurnTalk", "text", "LChurnTalk$Text;", true)
  | 1 => ("ChurnTalk", "now", "LChurnTalk$State;", true)
  | 2 => ("ChurnTalk", "ahead", "LChurnTalk$State;", true)
  | 3 => ("ChurnTalk", "past", "LChurnTalk$Shelf;", true)
  | 4 => ("ChurnTalk", "kept", "LChurnTalk$Shelf;", true)
  | 5 => ("ChurnTalk", "pairing", "LChurnTalk$Pairing;", true)
  | 6 => ("ChurnTalk", "town", "LChurnTalk$Town;", false)
  | _ => ("ChurnTalk", "spare", "LChurnTalk$Town;", false)
def tyX5 : Nat → FieldType := fun k => match k with
  | 0 => .object "ChurnTalk$Text"
  | 1 => .object "ChurnTalk$State"
  | 2 => .object "ChurnTalk$State"
  | 3 => .object "ChurnTalk$Shelf"
  | 4 => .object "ChurnTalk$Shelf"
  | 5 => .object "ChurnTalk$Pairing"
  | 6 => .object "ChurnTalk$Town"
  | _ => .object "ChurnTalk$Town"
abbrev wsX50 : List Cond := u_ws RX5 TX5 8
theorem nmX5 : ∀ a, a < 8 → ∀ b, b < 8 → a ≠ b → (TX5 a).2.1 ≠ (TX5 b).2.1 := by decide +kernel
theorem tyX5_ok : ∀ k, k < 8 → parseFieldDescriptor (TX5 k).2.2.1 = some (tyX5 k) := by decide +kernel
abbrev cX5_init : ByteArray := prog_1_method_1_code
def yX5_init : MethodName := ⟨RX5, "<init>", "()V"⟩
abbrev cX5_write : ByteArray := prog_1_method_2_code
def yX5_write : MethodName := ⟨RX5, "write", "(I)I"⟩
abbrev cX5_wipe : ByteArray := prog_1_method_3_code
def yX5_wipe : MethodName := ⟨RX5, "wipe", "()I"⟩
abbrev cX5_fault : ByteArray := prog_1_method_4_code
def yX5_fault : MethodName := ⟨RX5, "fault", "()I"⟩
abbrev cX5_lay : ByteArray := prog_1_method_5_code
def yX5_lay : MethodName := ⟨RX5, "lay", "()I"⟩
abbrev cX5_moveIn : ByteArray := prog_1_method_6_code
def yX5_moveIn : MethodName := ⟨RX5, "moveIn", "()V"⟩
abbrev cX5_person : ByteArray := prog_1_method_7_code
def yX5_person : MethodName := ⟨RX5, "person", "(II)I"⟩
abbrev cX5_tale : ByteArray := prog_1_method_8_code
def yX5_tale : MethodName := ⟨RX5, "tale", "(II)I"⟩
abbrev cX5_churn : ByteArray := prog_1_method_9_code
def yX5_churn : MethodName := ⟨RX5, "churn", "(I)I"⟩
abbrev cX5_sit : ByteArray := prog_1_method_10_code
def yX5_sit : MethodName := ⟨RX5, "sit", "(II)I"⟩
abbrev cX5_stand : ByteArray := prog_1_method_11_code
def yX5_stand : MethodName := ⟨RX5, "stand", "()I"⟩
abbrev cX5_pass : ByteArray := prog_1_method_12_code
def yX5_pass : MethodName := ⟨RX5, "pass", "(I)I"⟩
abbrev cX5_hush : ByteArray := prog_1_method_13_code
def yX5_hush : MethodName := ⟨RX5, "hush", "(I)I"⟩
abbrev cX5_undo : ByteArray := prog_1_method_14_code
def yX5_undo : MethodName := ⟨RX5, "undo", "()I"⟩
abbrev cX5_comes : ByteArray := prog_1_method_15_code
def yX5_comes : MethodName := ⟨RX5, "comes", "(I)I"⟩
abbrev cX5_quiet : ByteArray := prog_1_method_16_code
def yX5_quiet : MethodName := ⟨RX5, "quiet", "()I"⟩
abbrev cX5_brings : ByteArray := prog_1_method_17_code
def yX5_brings : MethodName := ⟨RX5, "brings", "(III)I"⟩
abbrev cX5_wouldBring : ByteArray := prog_1_method_18_code
def yX5_wouldBring : MethodName := ⟨RX5, "wouldBring", "(IIII)I"⟩
abbrev cX5_best : ByteArray := prog_1_method_19_code
def yX5_best : MethodName := ⟨RX5, "best", "(II)I"⟩
abbrev cX5_bestButter : ByteArray := prog_1_method_20_code
def yX5_bestButter : MethodName := ⟨RX5, "bestButter", "(II)I"⟩
abbrev cX5_firstWho : ByteArray := prog_1_method_21_code
def yX5_firstWho : MethodName := ⟨RX5, "firstWho", "(II)I"⟩
abbrev cX5_howManyWho : ByteArray := prog_1_method_22_code
def yX5_howManyWho : MethodName := ⟨RX5, "howManyWho", "(II)I"⟩
abbrev cX5_twos : ByteArray := prog_1_method_23_code
def yX5_twos : MethodName := ⟨RX5, "twos", "(II)I"⟩
abbrev cX5_pairAll : ByteArray := prog_1_method_24_code
def yX5_pairAll : MethodName := ⟨RX5, "pairAll", "(I)V"⟩
abbrev cX5_leave : ByteArray := prog_1_method_25_code
def yX5_leave : MethodName := ⟨RX5, "leave", "(I)I"⟩
abbrev cX5_wouldLeave : ByteArray := prog_1_method_26_code
def yX5_wouldLeave : MethodName := ⟨RX5, "wouldLeave", "(II)Z"⟩
abbrev cX5_hears : ByteArray := prog_1_method_27_code
def yX5_hears : MethodName := ⟨RX5, "hears", "(II)I"⟩
abbrev cX5_cost : ByteArray := prog_1_method_28_code
def yX5_cost : MethodName := ⟨RX5, "cost", "(II)I"⟩
abbrev cX5_said : ByteArray := prog_1_method_29_code
def yX5_said : MethodName := ⟨RX5, "said", "(IIII)I"⟩
abbrev cX5_who : ByteArray := prog_1_method_30_code
def yX5_who : MethodName := ⟨RX5, "who", "(III)I"⟩
abbrev cX5_held : ByteArray := prog_1_method_31_code
def yX5_held : MethodName := ⟨RX5, "held", "(IIIIII)I"⟩
abbrev cX5_day : ByteArray := prog_1_method_32_code
def yX5_day : MethodName := ⟨RX5, "day", "(III)I"⟩
abbrev cX5_draw : ByteArray := prog_1_method_33_code
def yX5_draw : MethodName := ⟨RX5, "draw", "(II)I"⟩
abbrev cX5_actByDraw : ByteArray := prog_1_method_34_code
def yX5_actByDraw : MethodName := ⟨RX5, "actByDraw", "(I)V"⟩
abbrev cX5_seatByDraw : ByteArray := prog_1_method_35_code
def yX5_seatByDraw : MethodName := ⟨RX5, "seatByDraw", "(I)V"⟩
abbrev cX5_keep : ByteArray := prog_1_method_36_code
def yX5_keep : MethodName := ⟨RX5, "keep", "()I"⟩
abbrev cX5_back : ByteArray := prog_1_method_37_code
def yX5_back : MethodName := ⟨RX5, "back", "()I"⟩
abbrev cX5_count : ByteArray := prog_1_method_38_code
def yX5_count : MethodName := ⟨RX5, "count", "(I)I"⟩
abbrev cX5_areTwo : ByteArray := prog_1_method_39_code
def yX5_areTwo : MethodName := ⟨RX5, "areTwo", "(II)Z"⟩
abbrev cX5_isSpan : ByteArray := prog_1_method_40_code
def yX5_isSpan : MethodName := ⟨RX5, "isSpan", "(I)Z"⟩
abbrev cX5_isWithin : ByteArray := prog_1_method_41_code
def yX5_isWithin : MethodName := ⟨RX5, "isWithin", "(III)Z"⟩
abbrev cX5_at : ByteArray := prog_1_method_42_code
def yX5_at : MethodName := ⟨RX5, "at", "([II)I"⟩
abbrev cX5_put : ByteArray := prog_1_method_43_code
def yX5_put : MethodName := ⟨RX5, "put", "([III)V"⟩
abbrev cX5_bit : ByteArray := prog_1_method_44_code
def yX5_bit : MethodName := ⟨RX5, "bit", "(I)I"⟩
abbrev cX5_lowestOf : ByteArray := prog_1_method_45_code
def yX5_lowestOf : MethodName := ⟨RX5, "lowestOf", "(I)I"⟩
abbrev cX5_power : ByteArray := prog_1_method_46_code
def yX5_power : MethodName := ⟨RX5, "power", "(JI)J"⟩
abbrev cX5_commonDivisor : ByteArray := prog_1_method_47_code
def yX5_commonDivisor : MethodName := ⟨RX5, "commonDivisor", "(JJ)J"⟩
def RX6 : String := "ChurnTalkModel"
def TX6 : u_T := fun k => match k with
  | 0 => ("ChurnTalkModel", "town", "[I", true)
  | 1 => ("ChurnTalkModel", "read", "[I", true)
  | 2 => ("ChurnTalkModel", "now", "[I", true)
  | 3 => ("ChurnTalkModel", "aside", "[I", true)
  | 4 => ("ChurnTalkModel", "past", "[I", true)
  | 5 => ("ChurnTalkModel", "undos", "I", false)
  | 6 => ("ChurnTalkModel", "kept", "[I", true)
  | 7 => ("ChurnTalkModel", "keptMany", "I", false)
  | 8 => ("ChurnTalkModel", "text", "[I", true)
  | 9 => ("ChurnTalkModel", "size", "I", false)
  | 10 => ("ChurnTalkModel", "at", "I", false)
  | 11 => ("ChurnTalkModel", "value", "I", false)
  | 12 => ("ChurnTalkModel", "bestTwo", "I", false)
  | 13 => ("ChurnTalkModel", "bestMuch", "I", false)
  | 14 => ("ChurnTalkModel", "bring", "[I", true)
  | 15 => ("ChurnTalkModel", "with", "[I", true)
  | _ => ("ChurnTalkModel", "bestWith", "[I", true)
def tyX6 : Nat → FieldType := fun k => match k with
  | 0 => .array .int
  | 1 => .array .int
  | 2 => .array .int
  | 3 => .array .int
  | 4 => .array .int
  | 5 => .int
  | 6 => .array .int
  | 7 => .int
  | 8 => .array .int
  | 9 => .int
  | 10 => .int
  | 11 => .int
  | 12 => .int
  | 13 => .int
  | 14 => .array .int
  | 15 => .array .int
  | _ => .array .int
abbrev wsX60 : List Cond := u_ws RX6 TX6 17
theorem nmX6 : ∀ a, a < 17 → ∀ b, b < 17 → a ≠ b → (TX6 a).2.1 ≠ (TX6 b).2.1 := by decide +kernel
theorem tyX6_ok : ∀ k, k < 17 → parseFieldDescriptor (TX6 k).2.2.1 = some (tyX6 k) := by decide +kernel
abbrev cX6_init : ByteArray := prog_8_method_1_code
def yX6_init : MethodName := ⟨RX6, "<init>", "()V"⟩
abbrev cX6_in : ByteArray := prog_8_method_3_code
def yX6_in : MethodName := ⟨RX6, "in", "(JJJ)Z"⟩
abbrev cX6_has : ByteArray := prog_8_method_4_code
def yX6_has : MethodName := ⟨RX6, "has", "(II)Z"⟩
abbrev cX6_bits : ByteArray := prog_8_method_5_code
def yX6_bits : MethodName := ⟨RX6, "bits", "(I)I"⟩
abbrev cX6_copies : ByteArray := prog_8_method_6_code
def yX6_copies : MethodName := ⟨RX6, "copies", "([II[III)V"⟩
abbrev cX6_empties : ByteArray := prog_8_method_7_code
def yX6_empties : MethodName := ⟨RX6, "empties", "()V"⟩
abbrev cX6_addsPerson : ByteArray := prog_8_method_8_code
def yX6_addsPerson : MethodName := ⟨RX6, "addsPerson", "(I)V"⟩
abbrev cX6_befriends : ByteArray := prog_8_method_9_code
def yX6_befriends : MethodName := ⟨RX6, "befriends", "(II)V"⟩
abbrev cX6_addsTale : ByteArray := prog_8_method_10_code
def yX6_addsTale : MethodName := ⟨RX6, "addsTale", "(IIII)V"⟩
abbrev cX6_begins : ByteArray := prog_8_method_11_code
def yX6_begins : MethodName := ⟨RX6, "begins", "()V"⟩
abbrev cX6_write : ByteArray := prog_8_method_12_code
def yX6_write : MethodName := ⟨RX6, "write", "(I)I"⟩
abbrev cX6_wipe : ByteArray := prog_8_method_13_code
def yX6_wipe : MethodName := ⟨RX6, "wipe", "()I"⟩
abbrev cX6_here : ByteArray := prog_8_method_14_code
def yX6_here : MethodName := ⟨RX6, "here", "()I"⟩
abbrev cX6_takes : ByteArray := prog_8_method_15_code
def yX6_takes : MethodName := ⟨RX6, "takes", "(I)Z"⟩
abbrev cX6_isFigure : ByteArray := prog_8_method_16_code
def yX6_isFigure : MethodName := ⟨RX6, "isFigure", "(I)Z"⟩
abbrev cX6_number : ByteArray := prog_8_method_17_code
def yX6_number : MethodName := ⟨RX6, "number", "(II)Z"⟩
abbrev cX6_isPerson : ByteArray := prog_8_method_18_code
def yX6_isPerson : MethodName := ⟨RX6, "isPerson", "()Z"⟩
abbrev cX6_areFriends : ByteArray := prog_8_method_19_code
def yX6_areFriends : MethodName := ⟨RX6, "areFriends", "()Z"⟩
abbrev cX6_row : ByteArray := prog_8_method_20_code
def yX6_row : MethodName := ⟨RX6, "row", "(I)I"⟩
abbrev cX6_isTale : ByteArray := prog_8_method_21_code
def yX6_isTale : MethodName := ⟨RX6, "isTale", "()Z"⟩
abbrev cX6_isItem : ByteArray := prog_8_method_22_code
def yX6_isItem : MethodName := ⟨RX6, "isItem", "()Z"⟩
abbrev cX6_fault : ByteArray := prog_8_method_23_code
def yX6_fault : MethodName := ⟨RX6, "fault", "()I"⟩
abbrev cX6_lay : ByteArray := prog_8_method_24_code
def yX6_lay : MethodName := ⟨RX6, "lay", "()I"⟩
abbrev cX6_isOne : ByteArray := prog_8_method_25_code
def yX6_isOne : MethodName := ⟨RX6, "isOne", "(I)Z"⟩
abbrev cX6_isTaleOf : ByteArray := prog_8_method_26_code
def yX6_isTaleOf : MethodName := ⟨RX6, "isTaleOf", "(I)Z"⟩
abbrev cX6_areTwo : ByteArray := prog_8_method_27_code
def yX6_areTwo : MethodName := ⟨RX6, "areTwo", "(II)Z"⟩
abbrev cX6_likes : ByteArray := prog_8_method_28_code
def yX6_likes : MethodName := ⟨RX6, "likes", "(II)Z"⟩
abbrev cX6_sits : ByteArray := prog_8_method_29_code
def yX6_sits : MethodName := ⟨RX6, "sits", "(I)Z"⟩
abbrev cX6_knownBy : ByteArray := prog_8_method_30_code
def yX6_knownBy : MethodName := ⟨RX6, "knownBy", "(I)I"⟩
abbrev cX6_person : ByteArray := prog_8_method_31_code
def yX6_person : MethodName := ⟨RX6, "person", "(II)I"⟩
abbrev cX6_tale : ByteArray := prog_8_method_32_code
def yX6_tale : MethodName := ⟨RX6, "tale", "(II)I"⟩
abbrev cX6_churn : ByteArray := prog_8_method_33_code
def yX6_churn : MethodName := ⟨RX6, "churn", "(I)I"⟩
abbrev cX6_canTell : ByteArray := prog_8_method_34_code
def yX6_canTell : MethodName := ⟨RX6, "canTell", "([IIII)Z"⟩
abbrev cX6_tellable : ByteArray := prog_8_method_35_code
def yX6_tellable : MethodName := ⟨RX6, "tellable", "([IIII)I"⟩
abbrev cX6_lowest : ByteArray := prog_8_method_36_code
def yX6_lowest : MethodName := ⟨RX6, "lowest", "(I)I"⟩
abbrev cX6_otherOf : ByteArray := prog_8_method_37_code
def yX6_otherOf : MethodName := ⟨RX6, "otherOf", "([II)I"⟩
abbrev cX6_isTold : ByteArray := prog_8_method_38_code
def yX6_isTold : MethodName := ⟨RX6, "isTold", "([I)Z"⟩
abbrev cX6_minuteGoes : ByteArray := prog_8_method_39_code
def yX6_minuteGoes : MethodName := ⟨RX6, "minuteGoes", "([I)V"⟩
abbrev cX6_sitsDown : ByteArray := prog_8_method_40_code
def yX6_sitsDown : MethodName := ⟨RX6, "sitsDown", "([III)V"⟩
abbrev cX6_standsAnew : ByteArray := prog_8_method_41_code
def yX6_standsAnew : MethodName := ⟨RX6, "standsAnew", "([I)V"⟩
abbrev cX6_remember : ByteArray := prog_8_method_42_code
def yX6_remember : MethodName := ⟨RX6, "remember", "()V"⟩
abbrev cX6_sit : ByteArray := prog_8_method_43_code
def yX6_sit : MethodName := ⟨RX6, "sit", "(II)I"⟩
abbrev cX6_stand : ByteArray := prog_8_method_44_code
def yX6_stand : MethodName := ⟨RX6, "stand", "()I"⟩
abbrev cX6_pass : ByteArray := prog_8_method_45_code
def yX6_pass : MethodName := ⟨RX6, "pass", "(I)I"⟩
abbrev cX6_mayHush : ByteArray := prog_8_method_46_code
def yX6_mayHush : MethodName := ⟨RX6, "mayHush", "([II)Z"⟩
abbrev cX6_hush : ByteArray := prog_8_method_47_code
def yX6_hush : MethodName := ⟨RX6, "hush", "(I)I"⟩
abbrev cX6_undo : ByteArray := prog_8_method_48_code
def yX6_undo : MethodName := ⟨RX6, "undo", "()I"⟩
abbrev cX6_layAside : ByteArray := prog_8_method_49_code
def yX6_layAside : MethodName := ⟨RX6, "layAside", "()V"⟩
abbrev cX6_comes : ByteArray := prog_8_method_50_code
def yX6_comes : MethodName := ⟨RX6, "comes", "(I)I"⟩
abbrev cX6_isSilent : ByteArray := prog_8_method_51_code
def yX6_isSilent : MethodName := ⟨RX6, "isSilent", "([I)Z"⟩
abbrev cX6_quiet : ByteArray := prog_8_method_52_code
def yX6_quiet : MethodName := ⟨RX6, "quiet", "()I"⟩
abbrev cX6_bringsBy : ByteArray := prog_8_method_53_code
def yX6_bringsBy : MethodName := ⟨RX6, "bringsBy", "(IIII)I"⟩
abbrev cX6_brings : ByteArray := prog_8_method_54_code
def yX6_brings : MethodName := ⟨RX6, "brings", "(III)I"⟩
abbrev cX6_finds : ByteArray := prog_8_method_55_code
def yX6_finds : MethodName := ⟨RX6, "finds", "(II)V"⟩
abbrev cX6_best : ByteArray := prog_8_method_56_code
def yX6_best : MethodName := ⟨RX6, "best", "(II)I"⟩
abbrev cX6_lays : ByteArray := prog_8_method_57_code
def yX6_lays : MethodName := ⟨RX6, "lays", "(I)V"⟩
abbrev cX6_lower : ByteArray := prog_8_method_58_code
def yX6_lower : MethodName := ⟨RX6, "lower", "(II)I"⟩
abbrev cX6_bringOf : ByteArray := prog_8_method_59_code
def yX6_bringOf : MethodName := ⟨RX6, "bringOf", "(II)I"⟩
abbrev cX6_worth : ByteArray := prog_8_method_60_code
def yX6_worth : MethodName := ⟨RX6, "worth", "(I)I"⟩
abbrev cX6_findsTwos : ByteArray := prog_8_method_61_code
def yX6_findsTwos : MethodName := ⟨RX6, "findsTwos", "(I)I"⟩
abbrev cX6_twos : ByteArray := prog_8_method_62_code
def yX6_twos : MethodName := ⟨RX6, "twos", "(II)I"⟩
abbrev cX6_hasBy : ByteArray := prog_8_method_63_code
def yX6_hasBy : MethodName := ⟨RX6, "hasBy", "(I)I"⟩
abbrev cX6_leave : ByteArray := prog_8_method_64_code
def yX6_leave : MethodName := ⟨RX6, "leave", "(I)I"⟩
abbrev cX6_hears : ByteArray := prog_8_method_65_code
def yX6_hears : MethodName := ⟨RX6, "hears", "(II)I"⟩
abbrev cX6_cost : ByteArray := prog_8_method_66_code
def yX6_cost : MethodName := ⟨RX6, "cost", "(II)I"⟩
abbrev cX6_said : ByteArray := prog_8_method_67_code
def yX6_said : MethodName := ⟨RX6, "said", "(IIII)I"⟩
abbrev cX6_who : ByteArray := prog_8_method_68_code
def yX6_who : MethodName := ⟨RX6, "who", "(III)I"⟩
abbrev cX6_held : ByteArray := prog_8_method_69_code
def yX6_held : MethodName := ⟨RX6, "held", "(IIIIII)I"⟩
abbrev cX6_draws : ByteArray := prog_8_method_70_code
def yX6_draws : MethodName := ⟨RX6, "draws", "(I)V"⟩
abbrev cX6_known : ByteArray := prog_8_method_71_code
def yX6_known : MethodName := ⟨RX6, "known", "([I)I"⟩
abbrev cX6_day : ByteArray := prog_8_method_72_code
def yX6_day : MethodName := ⟨RX6, "day", "(III)I"⟩
abbrev cX6_keep : ByteArray := prog_8_method_73_code
def yX6_keep : MethodName := ⟨RX6, "keep", "()I"⟩
abbrev cX6_back : ByteArray := prog_8_method_74_code
def yX6_back : MethodName := ⟨RX6, "back", "()I"⟩
abbrev cX6_count : ByteArray := prog_8_method_75_code
def yX6_count : MethodName := ⟨RX6, "count", "(I)I"⟩
def RJ6 : String := "java/lang/Integer"
abbrev cJ6_bitCount_0f7a4 : ByteArray := prog_9_method_49_code
def yJ6_bitCount_0f7a4 : MethodName := ⟨RJ6, "bitCount", "(I)I"⟩
def RJ9 : String := "java/lang/Math"
abbrev cJ9_max_7cf53 : ByteArray := prog_10_method_65_code
def yJ9_max_7cf53 : MethodName := ⟨RJ9, "max", "(II)I"⟩
abbrev cJ9_min_7cf53 : ByteArray := prog_10_method_69_code
def yJ9_min_7cf53 : MethodName := ⟨RJ9, "min", "(II)I"⟩
def RJ0 : String := "java/lang/String"
abbrev cJ0_length_8abf5 : ByteArray := prog_11_method_54_code
def yJ0_length_8abf5 : MethodName := ⟨RJ0, "length", "()I"⟩
abbrev cJ0_charAt_5068e : ByteArray := prog_11_method_56_code
def yJ0_charAt_5068e : MethodName := ⟨RJ0, "charAt", "(I)C"⟩
abbrev cJ0_coder_7d493 : ByteArray := prog_11_method_152_code
def yJ0_coder_7d493 : MethodName := ⟨RJ0, "coder", "()B"⟩
abbrev cJ0_isLatin1_aae02 : ByteArray := prog_11_method_154_code
def yJ0_isLatin1_aae02 : MethodName := ⟨RJ0, "isLatin1", "()Z"⟩
abbrev cJ0_checkIndex_df160 : ByteArray := prog_11_method_155_code
def yJ0_checkIndex_df160 : MethodName := ⟨RJ0, "checkIndex", "(II)V"⟩
def RJ1 : String := "java/lang/StringLatin1"
abbrev cJ1_charAt_3b067 : ByteArray := prog_12_method_2_code
def yJ1_charAt_3b067 : MethodName := ⟨RJ1, "charAt", "([BI)C"⟩
def RJ2 : String := "java/lang/StringUTF16"
abbrev cJ2_getChar_3b067 : ByteArray := prog_13_method_5_code
def yJ2_getChar_3b067 : MethodName := ⟨RJ2, "getChar", "([BI)C"⟩
abbrev cJ2_length_9d52b : ByteArray := prog_13_method_6_code
def yJ2_length_9d52b : MethodName := ⟨RJ2, "length", "([B)I"⟩
abbrev cJ2_charAt_3b067 : ByteArray := prog_13_method_83_code
def yJ2_charAt_3b067 : MethodName := ⟨RJ2, "charAt", "([BI)C"⟩
abbrev cJ2_checkIndex_2214a : ByteArray := prog_13_method_91_code
def yJ2_checkIndex_2214a : MethodName := ⟨RJ2, "checkIndex", "(I[B)V"⟩
def RJ3 : String := "jdk/internal/util/Preconditions"
abbrev cJ3_checkIndex_8e157 : ByteArray := prog_14_method_11_code
def yJ3_checkIndex_8e157 : MethodName := ⟨RJ3, "checkIndex", "(IILjava/util/function/BiFunction;)I"⟩
def RL : String := "ChurnTalkLaw"
abbrev cL_law : ByteArray := code
def yL_law : MethodName := ⟨RL, "law", "([I)Z"⟩
abbrev vwCl : List vw_C := [(RX0, TX0, 4), (RX1, TX1, 2), (RX2, TX2, 10), (RX3, TX3, 3), (RX4, TX4, 9), (RX5, TX5, 8), (RX6, TX6, 17)]
