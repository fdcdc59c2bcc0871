section
-- ===== PART A: goes FIRST, ahead of the names: the tables' words, and 'selects' of the private methods out of them =====
/-- a private method of a class that the tables say can be made, by its rows of tables_1 -/
def lw_okq (q : MethodName × Nat) : Prop := (q.1.cls ≠ "java/lang/invoke/MethodHandle" ∧ q.1.cls ≠ "java/lang/invoke/VarHandle") ∧ Cond.instantiable q.1.cls q.2 ∈ tables_1 ∧ Cond.privateMethod q.1 ∈ tables_1 ∧ Cond.instanceMethod q.1 ∈ tables_1
theorem lw_p0 : lw_okq (⟨"ThoughtBalloon", "startAnew", "()V"⟩, 13) := ⟨⟨by decide +kernel, by decide +kernel⟩, List.mem_of_getElem? (i := 16) (by decide +kernel), List.mem_of_getElem? (i := 269) (by decide +kernel), List.mem_of_getElem? (i := 270) (by decide +kernel)⟩
theorem lw_p1 : lw_okq (⟨"ThoughtBalloon$Flight", "start", "(II)V"⟩, 9) := ⟨⟨by decide +kernel, by decide +kernel⟩, List.mem_of_getElem? (i := 104) (by decide +kernel), List.mem_of_getElem? (i := 273) (by decide +kernel), List.mem_of_getElem? (i := 274) (by decide +kernel)⟩
theorem lw_p2 : lw_okq (⟨"ThoughtBalloon$Flight", "thinkNothing", "()V"⟩, 9) := ⟨⟨by decide +kernel, by decide +kernel⟩, List.mem_of_getElem? (i := 104) (by decide +kernel), List.mem_of_getElem? (i := 277) (by decide +kernel), List.mem_of_getElem? (i := 278) (by decide +kernel)⟩
theorem lw_p3 : lw_okq (⟨"ThoughtBalloon$Reports", "drop", "()I"⟩, 4) := ⟨⟨by decide +kernel, by decide +kernel⟩, List.mem_of_getElem? (i := 226) (by decide +kernel), List.mem_of_getElem? (i := 281) (by decide +kernel), List.mem_of_getElem? (i := 282) (by decide +kernel)⟩
theorem lw_p4 : lw_okq (⟨"ThoughtBalloon$Text", "add", "(I)I"⟩, 8) := ⟨⟨by decide +kernel, by decide +kernel⟩, List.mem_of_getElem? (i := 24) (by decide +kernel), List.mem_of_getElem? (i := 332) (by decide +kernel), List.mem_of_getElem? (i := 333) (by decide +kernel)⟩
theorem lw_p5 : lw_okq (⟨"ThoughtBalloon$Text", "drop", "()I"⟩, 8) := ⟨⟨by decide +kernel, by decide +kernel⟩, List.mem_of_getElem? (i := 24) (by decide +kernel), List.mem_of_getElem? (i := 340) (by decide +kernel), List.mem_of_getElem? (i := 341) (by decide +kernel)⟩
theorem lw_p6 : lw_okq (⟨"ThoughtBalloon$Text", "readInto", "(LThoughtBalloon$Told;)I"⟩, 8) := ⟨⟨by decide +kernel, by decide +kernel⟩, List.mem_of_getElem? (i := 24) (by decide +kernel), List.mem_of_getElem? (i := 348) (by decide +kernel), List.mem_of_getElem? (i := 349) (by decide +kernel)⟩
theorem lw_p7 : lw_okq (⟨"ThoughtBalloon$Told", "tellNothing", "()V"⟩, 9) := ⟨⟨by decide +kernel, by decide +kernel⟩, List.mem_of_getElem? (i := 57) (by decide +kernel), List.mem_of_getElem? (i := 352) (by decide +kernel), List.mem_of_getElem? (i := 353) (by decide +kernel)⟩
theorem lw_p8 : lw_okq (⟨"ThoughtBalloon$Text", "readToken", "()V"⟩, 8) := ⟨⟨by decide +kernel, by decide +kernel⟩, List.mem_of_getElem? (i := 24) (by decide +kernel), List.mem_of_getElem? (i := 359) (by decide +kernel), List.mem_of_getElem? (i := 360) (by decide +kernel)⟩
theorem lw_p9 : lw_okq (⟨"ThoughtBalloon$Text", "readLetters", "()V"⟩, 8) := ⟨⟨by decide +kernel, by decide +kernel⟩, List.mem_of_getElem? (i := 24) (by decide +kernel), List.mem_of_getElem? (i := 366) (by decide +kernel), List.mem_of_getElem? (i := 367) (by decide +kernel)⟩
theorem lw_p10 : lw_okq (⟨"ThoughtBalloon$Text", "readNumber", "()V"⟩, 8) := ⟨⟨by decide +kernel, by decide +kernel⟩, List.mem_of_getElem? (i := 24) (by decide +kernel), List.mem_of_getElem? (i := 373) (by decide +kernel), List.mem_of_getElem? (i := 374) (by decide +kernel)⟩
theorem lw_p11 : lw_okq (⟨"ThoughtBalloon$Text", "readItem", "(LThoughtBalloon$Told;)Z"⟩, 8) := ⟨⟨by decide +kernel, by decide +kernel⟩, List.mem_of_getElem? (i := 24) (by decide +kernel), List.mem_of_getElem? (i := 380) (by decide +kernel), List.mem_of_getElem? (i := 381) (by decide +kernel)⟩
theorem lw_p12 : lw_okq (⟨"ThoughtBalloon$Text", "itemBegun", "(LThoughtBalloon$Told;)I"⟩, 8) := ⟨⟨by decide +kernel, by decide +kernel⟩, List.mem_of_getElem? (i := 24) (by decide +kernel), List.mem_of_getElem? (i := 384) (by decide +kernel), List.mem_of_getElem? (i := 385) (by decide +kernel)⟩
theorem lw_p13 : lw_okq (⟨"ThoughtBalloon$Text", "tell", "(LThoughtBalloon$Told;I)V"⟩, 8) := ⟨⟨by decide +kernel, by decide +kernel⟩, List.mem_of_getElem? (i := 24) (by decide +kernel), List.mem_of_getElem? (i := 395) (by decide +kernel), List.mem_of_getElem? (i := 396) (by decide +kernel)⟩
theorem lw_p14 : lw_okq (⟨"ThoughtBalloon$Told", "tellWind", "(II)V"⟩, 9) := ⟨⟨by decide +kernel, by decide +kernel⟩, List.mem_of_getElem? (i := 57) (by decide +kernel), List.mem_of_getElem? (i := 399) (by decide +kernel), List.mem_of_getElem? (i := 400) (by decide +kernel)⟩
theorem lw_p15 : lw_okq (⟨"ThoughtBalloon$Told", "tellPerson", "(III)V"⟩, 9) := ⟨⟨by decide +kernel, by decide +kernel⟩, List.mem_of_getElem? (i := 57) (by decide +kernel), List.mem_of_getElem? (i := 404) (by decide +kernel), List.mem_of_getElem? (i := 405) (by decide +kernel)⟩
def lw_privs_1 : List (MethodName × Nat) := [(⟨"ThoughtBalloon", "startAnew", "()V"⟩, 13), (⟨"ThoughtBalloon$Flight", "start", "(II)V"⟩, 9), (⟨"ThoughtBalloon$Flight", "thinkNothing", "()V"⟩, 9), (⟨"ThoughtBalloon$Reports", "drop", "()I"⟩, 4), (⟨"ThoughtBalloon$Text", "add", "(I)I"⟩, 8), (⟨"ThoughtBalloon$Text", "drop", "()I"⟩, 8), (⟨"ThoughtBalloon$Text", "readInto", "(LThoughtBalloon$Told;)I"⟩, 8), (⟨"ThoughtBalloon$Told", "tellNothing", "()V"⟩, 9), (⟨"ThoughtBalloon$Text", "readToken", "()V"⟩, 8), (⟨"ThoughtBalloon$Text", "readLetters", "()V"⟩, 8), (⟨"ThoughtBalloon$Text", "readNumber", "()V"⟩, 8), (⟨"ThoughtBalloon$Text", "readItem", "(LThoughtBalloon$Told;)Z"⟩, 8), (⟨"ThoughtBalloon$Text", "itemBegun", "(LThoughtBalloon$Told;)I"⟩, 8), (⟨"ThoughtBalloon$Text", "tell", "(LThoughtBalloon$Told;I)V"⟩, 8), (⟨"ThoughtBalloon$Told", "tellWind", "(II)V"⟩, 9), (⟨"ThoughtBalloon$Told", "tellPerson", "(III)V"⟩, 9)]
theorem lw_r1 : ∀ q ∈ lw_privs_1, lw_okq q := List.forall_mem_cons.mpr ⟨lw_p0, List.forall_mem_cons.mpr ⟨lw_p1, List.forall_mem_cons.mpr ⟨lw_p2, List.forall_mem_cons.mpr ⟨lw_p3, List.forall_mem_cons.mpr ⟨lw_p4, List.forall_mem_cons.mpr ⟨lw_p5, List.forall_mem_cons.mpr ⟨lw_p6, List.forall_mem_cons.mpr ⟨lw_p7, List.forall_mem_cons.mpr ⟨lw_p8, List.forall_mem_cons.mpr ⟨lw_p9, List.forall_mem_cons.mpr ⟨lw_p10, List.forall_mem_cons.mpr ⟨lw_p11, List.forall_mem_cons.mpr ⟨lw_p12, List.forall_mem_cons.mpr ⟨lw_p13, List.forall_mem_cons.mpr ⟨lw_p14, List.forall_mem_cons.mpr ⟨lw_p15, fun _ h => absurd h List.not_mem_nil⟩⟩⟩⟩⟩⟩⟩⟩⟩⟩⟩⟩⟩⟩⟩⟩
theorem lw_p16 : lw_okq (⟨"ThoughtBalloon$Told", "tellThought", "(II)V"⟩, 9) := ⟨⟨by decide +kernel, by decide +kernel⟩, List.mem_of_getElem? (i := 57) (by decide +kernel), List.mem_of_getElem? (i := 408) (by decide +kernel), List.mem_of_getElem? (i := 409) (by decide +kernel)⟩
theorem lw_p17 : lw_okq (⟨"ThoughtBalloon$Told", "copyFrom", "(LThoughtBalloon$Told;)V"⟩, 9) := ⟨⟨by decide +kernel, by decide +kernel⟩, List.mem_of_getElem? (i := 57) (by decide +kernel), List.mem_of_getElem? (i := 412) (by decide +kernel), List.mem_of_getElem? (i := 413) (by decide +kernel)⟩
theorem lw_p18 : lw_okq (⟨"ThoughtBalloon$Told", "windAt", "(I)I"⟩, 9) := ⟨⟨by decide +kernel, by decide +kernel⟩, List.mem_of_getElem? (i := 57) (by decide +kernel), List.mem_of_getElem? (i := 423) (by decide +kernel), List.mem_of_getElem? (i := 424) (by decide +kernel)⟩
theorem lw_p19 : lw_okq (⟨"ThoughtBalloon$Told", "hasPerson", "(I)Z"⟩, 9) := ⟨⟨by decide +kernel, by decide +kernel⟩, List.mem_of_getElem? (i := 57) (by decide +kernel), List.mem_of_getElem? (i := 432) (by decide +kernel), List.mem_of_getElem? (i := 433) (by decide +kernel)⟩
theorem lw_p20 : lw_okq (⟨"ThoughtBalloon$Flight", "hasAboard", "(I)Z"⟩, 9) := ⟨⟨by decide +kernel, by decide +kernel⟩, List.mem_of_getElem? (i := 104) (by decide +kernel), List.mem_of_getElem? (i := 436) (by decide +kernel), List.mem_of_getElem? (i := 437) (by decide +kernel)⟩
theorem lw_p21 : lw_okq (⟨"ThoughtBalloon$Flight", "usedBy", "(I)I"⟩, 9) := ⟨⟨by decide +kernel, by decide +kernel⟩, List.mem_of_getElem? (i := 104) (by decide +kernel), List.mem_of_getElem? (i := 440) (by decide +kernel), List.mem_of_getElem? (i := 441) (by decide +kernel)⟩
theorem lw_p22 : lw_okq (⟨"ThoughtBalloon$Told", "liftsOf", "(I)I"⟩, 9) := ⟨⟨by decide +kernel, by decide +kernel⟩, List.mem_of_getElem? (i := 57) (by decide +kernel), List.mem_of_getElem? (i := 444) (by decide +kernel), List.mem_of_getElem? (i := 445) (by decide +kernel)⟩
theorem lw_p23 : lw_okq (⟨"ThoughtBalloon$Told", "canLift", "(II)Z"⟩, 9) := ⟨⟨by decide +kernel, by decide +kernel⟩, List.mem_of_getElem? (i := 57) (by decide +kernel), List.mem_of_getElem? (i := 448) (by decide +kernel), List.mem_of_getElem? (i := 449) (by decide +kernel)⟩
theorem lw_p24 : lw_okq (⟨"ThoughtBalloon$Told", "hasThought", "(I)Z"⟩, 9) := ⟨⟨by decide +kernel, by decide +kernel⟩, List.mem_of_getElem? (i := 57) (by decide +kernel), List.mem_of_getElem? (i := 456) (by decide +kernel), List.mem_of_getElem? (i := 457) (by decide +kernel)⟩
theorem lw_p25 : lw_okq (⟨"ThoughtBalloon$Flight", "mayBegin", "(II)Z"⟩, 9) := ⟨⟨by decide +kernel, by decide +kernel⟩, List.mem_of_getElem? (i := 104) (by decide +kernel), List.mem_of_getElem? (i := 464) (by decide +kernel), List.mem_of_getElem? (i := 465) (by decide +kernel)⟩
theorem lw_p26 : lw_okq (⟨"ThoughtBalloon$History", "push", "(LThoughtBalloon$Flight;)V"⟩, 2) := ⟨⟨by decide +kernel, by decide +kernel⟩, List.mem_of_getElem? (i := 154) (by decide +kernel), List.mem_of_getElem? (i := 470) (by decide +kernel), List.mem_of_getElem? (i := 471) (by decide +kernel)⟩
theorem lw_p27 : lw_okq (⟨"ThoughtBalloon$History", "dropOldest", "()V"⟩, 2) := ⟨⟨by decide +kernel, by decide +kernel⟩, List.mem_of_getElem? (i := 154) (by decide +kernel), List.mem_of_getElem? (i := 474) (by decide +kernel), List.mem_of_getElem? (i := 475) (by decide +kernel)⟩
theorem lw_p28 : lw_okq (⟨"ThoughtBalloon$Flight", "copyFrom", "(LThoughtBalloon$Flight;)V"⟩, 9) := ⟨⟨by decide +kernel, by decide +kernel⟩, List.mem_of_getElem? (i := 104) (by decide +kernel), List.mem_of_getElem? (i := 478) (by decide +kernel), List.mem_of_getElem? (i := 479) (by decide +kernel)⟩
theorem lw_p29 : lw_okq (⟨"ThoughtBalloon$Flight", "begin", "(II)V"⟩, 9) := ⟨⟨by decide +kernel, by decide +kernel⟩, List.mem_of_getElem? (i := 104) (by decide +kernel), List.mem_of_getElem? (i := 482) (by decide +kernel), List.mem_of_getElem? (i := 483) (by decide +kernel)⟩
theorem lw_p30 : lw_okq (⟨"ThoughtBalloon$Flight", "think", "(II)V"⟩, 9) := ⟨⟨by decide +kernel, by decide +kernel⟩, List.mem_of_getElem? (i := 104) (by decide +kernel), List.mem_of_getElem? (i := 486) (by decide +kernel), List.mem_of_getElem? (i := 487) (by decide +kernel)⟩
theorem lw_p31 : lw_okq (⟨"ThoughtBalloon$Told", "hold", "(LThoughtBalloon$Flight;)I"⟩, 9) := ⟨⟨by decide +kernel, by decide +kernel⟩, List.mem_of_getElem? (i := 57) (by decide +kernel), List.mem_of_getElem? (i := 490) (by decide +kernel), List.mem_of_getElem? (i := 491) (by decide +kernel)⟩
def lw_privs_2 : List (MethodName × Nat) := [(⟨"ThoughtBalloon$Told", "tellThought", "(II)V"⟩, 9), (⟨"ThoughtBalloon$Told", "copyFrom", "(LThoughtBalloon$Told;)V"⟩, 9), (⟨"ThoughtBalloon$Told", "windAt", "(I)I"⟩, 9), (⟨"ThoughtBalloon$Told", "hasPerson", "(I)Z"⟩, 9), (⟨"ThoughtBalloon$Flight", "hasAboard", "(I)Z"⟩, 9), (⟨"ThoughtBalloon$Flight", "usedBy", "(I)I"⟩, 9), (⟨"ThoughtBalloon$Told", "liftsOf", "(I)I"⟩, 9), (⟨"ThoughtBalloon$Told", "canLift", "(II)Z"⟩, 9), (⟨"ThoughtBalloon$Told", "hasThought", "(I)Z"⟩, 9), (⟨"ThoughtBalloon$Flight", "mayBegin", "(II)Z"⟩, 9), (⟨"ThoughtBalloon$History", "push", "(LThoughtBalloon$Flight;)V"⟩, 2), (⟨"ThoughtBalloon$History", "dropOldest", "()V"⟩, 2), (⟨"ThoughtBalloon$Flight", "copyFrom", "(LThoughtBalloon$Flight;)V"⟩, 9), (⟨"ThoughtBalloon$Flight", "begin", "(II)V"⟩, 9), (⟨"ThoughtBalloon$Flight", "think", "(II)V"⟩, 9), (⟨"ThoughtBalloon$Told", "hold", "(LThoughtBalloon$Flight;)I"⟩, 9)]
theorem lw_r2 : ∀ q ∈ lw_privs_2, lw_okq q := List.forall_mem_cons.mpr ⟨lw_p16, List.forall_mem_cons.mpr ⟨lw_p17, List.forall_mem_cons.mpr ⟨lw_p18, List.forall_mem_cons.mpr ⟨lw_p19, List.forall_mem_cons.mpr ⟨lw_p20, List.forall_mem_cons.mpr ⟨lw_p21, List.forall_mem_cons.mpr ⟨lw_p22, List.forall_mem_cons.mpr ⟨lw_p23, List.forall_mem_cons.mpr ⟨lw_p24, List.forall_mem_cons.mpr ⟨lw_p25, List.forall_mem_cons.mpr ⟨lw_p26, List.forall_mem_cons.mpr ⟨lw_p27, List.forall_mem_cons.mpr ⟨lw_p28, List.forall_mem_cons.mpr ⟨lw_p29, List.forall_mem_cons.mpr ⟨lw_p30, List.forall_mem_cons.mpr ⟨lw_p31, fun _ h => absurd h List.not_mem_nil⟩⟩⟩⟩⟩⟩⟩⟩⟩⟩⟩⟩⟩⟩⟩⟩
theorem lw_p32 : lw_okq (⟨"ThoughtBalloon$Told", "passMinutes", "(LThoughtBalloon$Flight;I)V"⟩, 9) := ⟨⟨by decide +kernel, by decide +kernel⟩, List.mem_of_getElem? (i := 57) (by decide +kernel), List.mem_of_getElem? (i := 506) (by decide +kernel), List.mem_of_getElem? (i := 507) (by decide +kernel)⟩
theorem lw_p33 : lw_okq (⟨"ThoughtBalloon$Told", "passMinute", "(LThoughtBalloon$Flight;)V"⟩, 9) := ⟨⟨by decide +kernel, by decide +kernel⟩, List.mem_of_getElem? (i := 57) (by decide +kernel), List.mem_of_getElem? (i := 510) (by decide +kernel), List.mem_of_getElem? (i := 511) (by decide +kernel)⟩
theorem lw_p34 : lw_okq (⟨"ThoughtBalloon$Told", "load", "(LThoughtBalloon$Flight;)I"⟩, 9) := ⟨⟨by decide +kernel, by decide +kernel⟩, List.mem_of_getElem? (i := 57) (by decide +kernel), List.mem_of_getElem? (i := 515) (by decide +kernel), List.mem_of_getElem? (i := 516) (by decide +kernel)⟩
theorem lw_p35 : lw_okq (⟨"ThoughtBalloon$Flight", "climb", "(I)V"⟩, 9) := ⟨⟨by decide +kernel, by decide +kernel⟩, List.mem_of_getElem? (i := 104) (by decide +kernel), List.mem_of_getElem? (i := 520) (by decide +kernel), List.mem_of_getElem? (i := 521) (by decide +kernel)⟩
theorem lw_p36 : lw_okq (⟨"ThoughtBalloon$Flight", "drift", "(I)V"⟩, 9) := ⟨⟨by decide +kernel, by decide +kernel⟩, List.mem_of_getElem? (i := 104) (by decide +kernel), List.mem_of_getElem? (i := 527) (by decide +kernel), List.mem_of_getElem? (i := 528) (by decide +kernel)⟩
theorem lw_p37 : lw_okq (⟨"ThoughtBalloon$Flight", "mayBeBoarded", "()Z"⟩, 9) := ⟨⟨by decide +kernel, by decide +kernel⟩, List.mem_of_getElem? (i := 104) (by decide +kernel), List.mem_of_getElem? (i := 535) (by decide +kernel), List.mem_of_getElem? (i := 536) (by decide +kernel)⟩
theorem lw_p38 : lw_okq (⟨"ThoughtBalloon$Flight", "takeIn", "(I)V"⟩, 9) := ⟨⟨by decide +kernel, by decide +kernel⟩, List.mem_of_getElem? (i := 104) (by decide +kernel), List.mem_of_getElem? (i := 539) (by decide +kernel), List.mem_of_getElem? (i := 540) (by decide +kernel)⟩
theorem lw_p39 : lw_okq (⟨"ThoughtBalloon$Flight", "letOut", "(I)V"⟩, 9) := ⟨⟨by decide +kernel, by decide +kernel⟩, List.mem_of_getElem? (i := 104) (by decide +kernel), List.mem_of_getElem? (i := 553) (by decide +kernel), List.mem_of_getElem? (i := 554) (by decide +kernel)⟩
theorem lw_p40 : lw_okq (⟨"ThoughtBalloon$History", "pop", "(LThoughtBalloon$Flight;)V"⟩, 2) := ⟨⟨by decide +kernel, by decide +kernel⟩, List.mem_of_getElem? (i := 154) (by decide +kernel), List.mem_of_getElem? (i := 561) (by decide +kernel), List.mem_of_getElem? (i := 562) (by decide +kernel)⟩
theorem lw_p41 : lw_okq (⟨"ThoughtBalloon$Told", "cover", "()I"⟩, 9) := ⟨⟨by decide +kernel, by decide +kernel⟩, List.mem_of_getElem? (i := 57) (by decide +kernel), List.mem_of_getElem? (i := 570) (by decide +kernel), List.mem_of_getElem? (i := 571) (by decide +kernel)⟩
theorem lw_p42 : lw_okq (⟨"ThoughtBalloon$Told", "covers", "(I)Z"⟩, 9) := ⟨⟨by decide +kernel, by decide +kernel⟩, List.mem_of_getElem? (i := 57) (by decide +kernel), List.mem_of_getElem? (i := 574) (by decide +kernel), List.mem_of_getElem? (i := 575) (by decide +kernel)⟩
theorem lw_p43 : lw_okq (⟨"ThoughtBalloon$Search", "run", "(LThoughtBalloon$Flight;II)V"⟩, 8) := ⟨⟨by decide +kernel, by decide +kernel⟩, List.mem_of_getElem? (i := 173) (by decide +kernel), List.mem_of_getElem? (i := 594) (by decide +kernel), List.mem_of_getElem? (i := 595) (by decide +kernel)⟩
theorem lw_p44 : lw_okq (⟨"ThoughtBalloon$Search", "fillReach", "()V"⟩, 8) := ⟨⟨by decide +kernel, by decide +kernel⟩, List.mem_of_getElem? (i := 173) (by decide +kernel), List.mem_of_getElem? (i := 599) (by decide +kernel), List.mem_of_getElem? (i := 600) (by decide +kernel)⟩
theorem lw_p45 : lw_okq (⟨"ThoughtBalloon$Search", "tryTurns", "(I)V"⟩, 8) := ⟨⟨by decide +kernel, by decide +kernel⟩, List.mem_of_getElem? (i := 173) (by decide +kernel), List.mem_of_getElem? (i := 607) (by decide +kernel), List.mem_of_getElem? (i := 608) (by decide +kernel)⟩
theorem lw_p46 : lw_okq (⟨"ThoughtBalloon$Search", "bound", "(I)I"⟩, 8) := ⟨⟨by decide +kernel, by decide +kernel⟩, List.mem_of_getElem? (i := 173) (by decide +kernel), List.mem_of_getElem? (i := 611) (by decide +kernel), List.mem_of_getElem? (i := 612) (by decide +kernel)⟩
theorem lw_p47 : lw_okq (⟨"ThoughtBalloon$Search", "tryTurn", "(III)V"⟩, 8) := ⟨⟨by decide +kernel, by decide +kernel⟩, List.mem_of_getElem? (i := 173) (by decide +kernel), List.mem_of_getElem? (i := 616) (by decide +kernel), List.mem_of_getElem? (i := 617) (by decide +kernel)⟩
def lw_privs_3 : List (MethodName × Nat) := [(⟨"ThoughtBalloon$Told", "passMinutes", "(LThoughtBalloon$Flight;I)V"⟩, 9), (⟨"ThoughtBalloon$Told", "passMinute", "(LThoughtBalloon$Flight;)V"⟩, 9), (⟨"ThoughtBalloon$Told", "load", "(LThoughtBalloon$Flight;)I"⟩, 9), (⟨"ThoughtBalloon$Flight", "climb", "(I)V"⟩, 9), (⟨"ThoughtBalloon$Flight", "drift", "(I)V"⟩, 9), (⟨"ThoughtBalloon$Flight", "mayBeBoarded", "()Z"⟩, 9), (⟨"ThoughtBalloon$Flight", "takeIn", "(I)V"⟩, 9), (⟨"ThoughtBalloon$Flight", "letOut", "(I)V"⟩, 9), (⟨"ThoughtBalloon$History", "pop", "(LThoughtBalloon$Flight;)V"⟩, 2), (⟨"ThoughtBalloon$Told", "cover", "()I"⟩, 9), (⟨"ThoughtBalloon$Told", "covers", "(I)Z"⟩, 9), (⟨"ThoughtBalloon$Search", "run", "(LThoughtBalloon$Flight;II)V"⟩, 8), (⟨"ThoughtBalloon$Search", "fillReach", "()V"⟩, 8), (⟨"ThoughtBalloon$Search", "tryTurns", "(I)V"⟩, 8), (⟨"ThoughtBalloon$Search", "bound", "(I)I"⟩, 8), (⟨"ThoughtBalloon$Search", "tryTurn", "(III)V"⟩, 8)]
theorem lw_r3 : ∀ q ∈ lw_privs_3, lw_okq q := List.forall_mem_cons.mpr ⟨lw_p32, List.forall_mem_cons.mpr ⟨lw_p33, List.forall_mem_cons.mpr ⟨lw_p34, List.forall_mem_cons.mpr ⟨lw_p35, List.forall_mem_cons.mpr ⟨lw_p36, List.forall_mem_cons.mpr ⟨lw_p37, List.forall_mem_cons.mpr ⟨lw_p38, List.forall_mem_cons.mpr ⟨lw_p39, List.forall_mem_cons.mpr ⟨lw_p40, List.forall_mem_cons.mpr ⟨lw_p41, List.forall_mem_cons.mpr ⟨lw_p42, List.forall_mem_cons.mpr ⟨lw_p43, List.forall_mem_cons.mpr ⟨lw_p44, List.forall_mem_cons.mpr ⟨lw_p45, List.forall_mem_cons.mpr ⟨lw_p46, List.forall_mem_cons.mpr ⟨lw_p47, fun _ h => absurd h List.not_mem_nil⟩⟩⟩⟩⟩⟩⟩⟩⟩⟩⟩⟩⟩⟩⟩⟩
theorem lw_p48 : lw_okq (⟨"ThoughtBalloon$Told", "firstOwnWay", "()I"⟩, 9) := ⟨⟨by decide +kernel, by decide +kernel⟩, List.mem_of_getElem? (i := 57) (by decide +kernel), List.mem_of_getElem? (i := 627) (by decide +kernel), List.mem_of_getElem? (i := 628) (by decide +kernel)⟩
theorem lw_p49 : lw_okq (⟨"ThoughtBalloon$Told", "countOwn", "(I)I"⟩, 9) := ⟨⟨by decide +kernel, by decide +kernel⟩, List.mem_of_getElem? (i := 57) (by decide +kernel), List.mem_of_getElem? (i := 631) (by decide +kernel), List.mem_of_getElem? (i := 632) (by decide +kernel)⟩
theorem lw_p50 : lw_okq (⟨"ThoughtBalloon$Told", "ownIn", "(II)I"⟩, 9) := ⟨⟨by decide +kernel, by decide +kernel⟩, List.mem_of_getElem? (i := 57) (by decide +kernel), List.mem_of_getElem? (i := 635) (by decide +kernel), List.mem_of_getElem? (i := 636) (by decide +kernel)⟩
theorem lw_p51 : lw_okq (⟨"ThoughtBalloon$Odds", "startAt", "(I)V"⟩, 3) := ⟨⟨by decide +kernel, by decide +kernel⟩, List.mem_of_getElem? (i := 210) (by decide +kernel), List.mem_of_getElem? (i := 645) (by decide +kernel), List.mem_of_getElem? (i := 646) (by decide +kernel)⟩
theorem lw_p52 : lw_okq (⟨"ThoughtBalloon$Odds", "spread", "(II)V"⟩, 3) := ⟨⟨by decide +kernel, by decide +kernel⟩, List.mem_of_getElem? (i := 210) (by decide +kernel), List.mem_of_getElem? (i := 651) (by decide +kernel), List.mem_of_getElem? (i := 652) (by decide +kernel)⟩
theorem lw_p53 : lw_okq (⟨"ThoughtBalloon$Odds", "carry", "(II)V"⟩, 3) := ⟨⟨by decide +kernel, by decide +kernel⟩, List.mem_of_getElem? (i := 210) (by decide +kernel), List.mem_of_getElem? (i := 656) (by decide +kernel), List.mem_of_getElem? (i := 657) (by decide +kernel)⟩
theorem lw_p54 : lw_okq (⟨"ThoughtBalloon$Odds", "upper", "(I)I"⟩, 3) := ⟨⟨by decide +kernel, by decide +kernel⟩, List.mem_of_getElem? (i := 210) (by decide +kernel), List.mem_of_getElem? (i := 660) (by decide +kernel), List.mem_of_getElem? (i := 661) (by decide +kernel)⟩
theorem lw_p55 : lw_okq (⟨"ThoughtBalloon$Odds", "common", "(I)I"⟩, 3) := ⟨⟨by decide +kernel, by decide +kernel⟩, List.mem_of_getElem? (i := 210) (by decide +kernel), List.mem_of_getElem? (i := 664) (by decide +kernel), List.mem_of_getElem? (i := 665) (by decide +kernel)⟩
theorem lw_p56 : lw_okq (⟨"ThoughtBalloon$Odds", "lower", "(I)I"⟩, 3) := ⟨⟨by decide +kernel, by decide +kernel⟩, List.mem_of_getElem? (i := 210) (by decide +kernel), List.mem_of_getElem? (i := 669) (by decide +kernel), List.mem_of_getElem? (i := 670) (by decide +kernel)⟩
theorem lw_p57 : lw_okq (⟨"ThoughtBalloon$Reports", "add", "(III)I"⟩, 4) := ⟨⟨by decide +kernel, by decide +kernel⟩, List.mem_of_getElem? (i := 226) (by decide +kernel), List.mem_of_getElem? (i := 677) (by decide +kernel), List.mem_of_getElem? (i := 678) (by decide +kernel)⟩
theorem lw_p58 : lw_okq (⟨"ThoughtBalloon", "fitting", "(I)I"⟩, 13) := ⟨⟨by decide +kernel, by decide +kernel⟩, List.mem_of_getElem? (i := 16) (by decide +kernel), List.mem_of_getElem? (i := 685) (by decide +kernel), List.mem_of_getElem? (i := 686) (by decide +kernel)⟩
theorem lw_p59 : lw_okq (⟨"ThoughtBalloon", "fits", "(II)Z"⟩, 13) := ⟨⟨by decide +kernel, by decide +kernel⟩, List.mem_of_getElem? (i := 16) (by decide +kernel), List.mem_of_getElem? (i := 689) (by decide +kernel), List.mem_of_getElem? (i := 690) (by decide +kernel)⟩
theorem lw_p60 : lw_okq (⟨"ThoughtBalloon", "heightLater", "(III)I"⟩, 13) := ⟨⟨by decide +kernel, by decide +kernel⟩, List.mem_of_getElem? (i := 16) (by decide +kernel), List.mem_of_getElem? (i := 693) (by decide +kernel), List.mem_of_getElem? (i := 694) (by decide +kernel)⟩
theorem lw_p61 : lw_okq (⟨"ThoughtBalloon", "greatestAlike", "(III)I"⟩, 13) := ⟨⟨by decide +kernel, by decide +kernel⟩, List.mem_of_getElem? (i := 16) (by decide +kernel), List.mem_of_getElem? (i := 702) (by decide +kernel), List.mem_of_getElem? (i := 703) (by decide +kernel)⟩
theorem lw_p62 : lw_okq (⟨"ThoughtBalloon", "isLaw", "(II)Z"⟩, 13) := ⟨⟨by decide +kernel, by decide +kernel⟩, List.mem_of_getElem? (i := 16) (by decide +kernel), List.mem_of_getElem? (i := 716) (by decide +kernel), List.mem_of_getElem? (i := 717) (by decide +kernel)⟩
theorem lw_p63 : lw_okq (⟨"ThoughtBalloon", "markLover", "(I)I"⟩, 13) := ⟨⟨by decide +kernel, by decide +kernel⟩, List.mem_of_getElem? (i := 16) (by decide +kernel), List.mem_of_getElem? (i := 729) (by decide +kernel), List.mem_of_getElem? (i := 730) (by decide +kernel)⟩
def lw_privs_4 : List (MethodName × Nat) := [(⟨"ThoughtBalloon$Told", "firstOwnWay", "()I"⟩, 9), (⟨"ThoughtBalloon$Told", "countOwn", "(I)I"⟩, 9), (⟨"ThoughtBalloon$Told", "ownIn", "(II)I"⟩, 9), (⟨"ThoughtBalloon$Odds", "startAt", "(I)V"⟩, 3), (⟨"ThoughtBalloon$Odds", "spread", "(II)V"⟩, 3), (⟨"ThoughtBalloon$Odds", "carry", "(II)V"⟩, 3), (⟨"ThoughtBalloon$Odds", "upper", "(I)I"⟩, 3), (⟨"ThoughtBalloon$Odds", "common", "(I)I"⟩, 3), (⟨"ThoughtBalloon$Odds", "lower", "(I)I"⟩, 3), (⟨"ThoughtBalloon$Reports", "add", "(III)I"⟩, 4), (⟨"ThoughtBalloon", "fitting", "(I)I"⟩, 13), (⟨"ThoughtBalloon", "fits", "(II)Z"⟩, 13), (⟨"ThoughtBalloon", "heightLater", "(III)I"⟩, 13), (⟨"ThoughtBalloon", "greatestAlike", "(III)I"⟩, 13), (⟨"ThoughtBalloon", "isLaw", "(II)Z"⟩, 13), (⟨"ThoughtBalloon", "markLover", "(I)I"⟩, 13)]
theorem lw_r4 : ∀ q ∈ lw_privs_4, lw_okq q := List.forall_mem_cons.mpr ⟨lw_p48, List.forall_mem_cons.mpr ⟨lw_p49, List.forall_mem_cons.mpr ⟨lw_p50, List.forall_mem_cons.mpr ⟨lw_p51, List.forall_mem_cons.mpr ⟨lw_p52, List.forall_mem_cons.mpr ⟨lw_p53, List.forall_mem_cons.mpr ⟨lw_p54, List.forall_mem_cons.mpr ⟨lw_p55, List.forall_mem_cons.mpr ⟨lw_p56, List.forall_mem_cons.mpr ⟨lw_p57, List.forall_mem_cons.mpr ⟨lw_p58, List.forall_mem_cons.mpr ⟨lw_p59, List.forall_mem_cons.mpr ⟨lw_p60, List.forall_mem_cons.mpr ⟨lw_p61, List.forall_mem_cons.mpr ⟨lw_p62, List.forall_mem_cons.mpr ⟨lw_p63, fun _ h => absurd h List.not_mem_nil⟩⟩⟩⟩⟩⟩⟩⟩⟩⟩⟩⟩⟩⟩⟩⟩
theorem lw_p64 : lw_okq (⟨"ThoughtBalloon", "markOne", "(I)I"⟩, 13) := ⟨⟨by decide +kernel, by decide +kernel⟩, List.mem_of_getElem? (i := 16) (by decide +kernel), List.mem_of_getElem? (i := 734) (by decide +kernel), List.mem_of_getElem? (i := 735) (by decide +kernel)⟩
theorem lw_p65 : lw_okq (⟨"ThoughtBalloon", "markGrudge", "(I)I"⟩, 13) := ⟨⟨by decide +kernel, by decide +kernel⟩, List.mem_of_getElem? (i := 16) (by decide +kernel), List.mem_of_getElem? (i := 738) (by decide +kernel), List.mem_of_getElem? (i := 739) (by decide +kernel)⟩
theorem lw_p66 : lw_okq (⟨"ThoughtBalloon", "markPoet", "(I)I"⟩, 13) := ⟨⟨by decide +kernel, by decide +kernel⟩, List.mem_of_getElem? (i := 16) (by decide +kernel), List.mem_of_getElem? (i := 743) (by decide +kernel), List.mem_of_getElem? (i := 744) (by decide +kernel)⟩
theorem lw_p67 : lw_okq (⟨"ThoughtBalloon", "markMiser", "(I)I"⟩, 13) := ⟨⟨by decide +kernel, by decide +kernel⟩, List.mem_of_getElem? (i := 16) (by decide +kernel), List.mem_of_getElem? (i := 748) (by decide +kernel), List.mem_of_getElem? (i := 749) (by decide +kernel)⟩
theorem lw_p68 : lw_okq (⟨"ThoughtBalloon", "markWife", "(I)I"⟩, 13) := ⟨⟨by decide +kernel, by decide +kernel⟩, List.mem_of_getElem? (i := 16) (by decide +kernel), List.mem_of_getElem? (i := 753) (by decide +kernel), List.mem_of_getElem? (i := 754) (by decide +kernel)⟩
theorem lw_p69 : lw_okq (⟨"ThoughtBalloon$Image", "take", "(LThoughtBalloon$Flight;LThoughtBalloon$History;)V"⟩, 3) := ⟨⟨by decide +kernel, by decide +kernel⟩, List.mem_of_getElem? (i := 248) (by decide +kernel), List.mem_of_getElem? (i := 762) (by decide +kernel), List.mem_of_getElem? (i := 763) (by decide +kernel)⟩
theorem lw_p70 : lw_okq (⟨"ThoughtBalloon$History", "copyFrom", "(LThoughtBalloon$History;)V"⟩, 2) := ⟨⟨by decide +kernel, by decide +kernel⟩, List.mem_of_getElem? (i := 154) (by decide +kernel), List.mem_of_getElem? (i := 767) (by decide +kernel), List.mem_of_getElem? (i := 768) (by decide +kernel)⟩
theorem lw_p71 : lw_okq (⟨"ThoughtBalloon$Image", "give", "(LThoughtBalloon$Flight;LThoughtBalloon$History;)V"⟩, 3) := ⟨⟨by decide +kernel, by decide +kernel⟩, List.mem_of_getElem? (i := 248) (by decide +kernel), List.mem_of_getElem? (i := 775) (by decide +kernel), List.mem_of_getElem? (i := 776) (by decide +kernel)⟩
theorem lw_p72 : lw_okq (⟨"ThoughtBalloonModel", "read", "()V"⟩, 33) := ⟨⟨by decide +kernel, by decide +kernel⟩, List.mem_of_getElem? (i := 787) (by decide +kernel), List.mem_of_getElem? (i := 910) (by decide +kernel), List.mem_of_getElem? (i := 911) (by decide +kernel)⟩
theorem lw_p73 : lw_okq (⟨"ThoughtBalloonModel", "step", "()V"⟩, 33) := ⟨⟨by decide +kernel, by decide +kernel⟩, List.mem_of_getElem? (i := 787) (by decide +kernel), List.mem_of_getElem? (i := 914) (by decide +kernel), List.mem_of_getElem? (i := 915) (by decide +kernel)⟩
theorem lw_p74 : lw_okq (⟨"ThoughtBalloonModel", "here", "()I"⟩, 33) := ⟨⟨by decide +kernel, by decide +kernel⟩, List.mem_of_getElem? (i := 787) (by decide +kernel), List.mem_of_getElem? (i := 918) (by decide +kernel), List.mem_of_getElem? (i := 919) (by decide +kernel)⟩
theorem lw_p75 : lw_okq (⟨"ThoughtBalloonModel", "may", "(I)Z"⟩, 33) := ⟨⟨by decide +kernel, by decide +kernel⟩, List.mem_of_getElem? (i := 787) (by decide +kernel), List.mem_of_getElem? (i := 922) (by decide +kernel), List.mem_of_getElem? (i := 923) (by decide +kernel)⟩
theorem lw_p76 : lw_okq (⟨"ThoughtBalloonModel", "due", "(Z)V"⟩, 33) := ⟨⟨by decide +kernel, by decide +kernel⟩, List.mem_of_getElem? (i := 787) (by decide +kernel), List.mem_of_getElem? (i := 926) (by decide +kernel), List.mem_of_getElem? (i := 927) (by decide +kernel)⟩
theorem lw_p77 : lw_okq (⟨"ThoughtBalloonModel", "item", "(I)V"⟩, 33) := ⟨⟨by decide +kernel, by decide +kernel⟩, List.mem_of_getElem? (i := 787) (by decide +kernel), List.mem_of_getElem? (i := 930) (by decide +kernel), List.mem_of_getElem? (i := 931) (by decide +kernel)⟩
theorem lw_p78 : lw_okq (⟨"ThoughtBalloonModel", "number", "(II)I"⟩, 33) := ⟨⟨by decide +kernel, by decide +kernel⟩, List.mem_of_getElem? (i := 787) (by decide +kernel), List.mem_of_getElem? (i := 934) (by decide +kernel), List.mem_of_getElem? (i := 935) (by decide +kernel)⟩
theorem lw_p79 : lw_okq (⟨"ThoughtBalloonModel", "isOne", "(I)Z"⟩, 33) := ⟨⟨by decide +kernel, by decide +kernel⟩, List.mem_of_getElem? (i := 787) (by decide +kernel), List.mem_of_getElem? (i := 947) (by decide +kernel), List.mem_of_getElem? (i := 948) (by decide +kernel)⟩
def lw_privs_5 : List (MethodName × Nat) := [(⟨"ThoughtBalloon", "markOne", "(I)I"⟩, 13), (⟨"ThoughtBalloon", "markGrudge", "(I)I"⟩, 13), (⟨"ThoughtBalloon", "markPoet", "(I)I"⟩, 13), (⟨"ThoughtBalloon", "markMiser", "(I)I"⟩, 13), (⟨"ThoughtBalloon", "markWife", "(I)I"⟩, 13), (⟨"ThoughtBalloon$Image", "take", "(LThoughtBalloon$Flight;LThoughtBalloon$History;)V"⟩, 3), (⟨"ThoughtBalloon$History", "copyFrom", "(LThoughtBalloon$History;)V"⟩, 2), (⟨"ThoughtBalloon$Image", "give", "(LThoughtBalloon$Flight;LThoughtBalloon$History;)V"⟩, 3), (⟨"ThoughtBalloonModel", "read", "()V"⟩, 33), (⟨"ThoughtBalloonModel", "step", "()V"⟩, 33), (⟨"ThoughtBalloonModel", "here", "()I"⟩, 33), (⟨"ThoughtBalloonModel", "may", "(I)Z"⟩, 33), (⟨"ThoughtBalloonModel", "due", "(Z)V"⟩, 33), (⟨"ThoughtBalloonModel", "item", "(I)V"⟩, 33), (⟨"ThoughtBalloonModel", "number", "(II)I"⟩, 33), (⟨"ThoughtBalloonModel", "isOne", "(I)Z"⟩, 33)]
theorem lw_r5 : ∀ q ∈ lw_privs_5, lw_okq q := List.forall_mem_cons.mpr ⟨lw_p64, List.forall_mem_cons.mpr ⟨lw_p65, List.forall_mem_cons.mpr ⟨lw_p66, List.forall_mem_cons.mpr ⟨lw_p67, List.forall_mem_cons.mpr ⟨lw_p68, List.forall_mem_cons.mpr ⟨lw_p69, List.forall_mem_cons.mpr ⟨lw_p70, List.forall_mem_cons.mpr ⟨lw_p71, List.forall_mem_cons.mpr ⟨lw_p72, List.forall_mem_cons.mpr ⟨lw_p73, List.forall_mem_cons.mpr ⟨lw_p74, List.forall_mem_cons.mpr ⟨lw_p75, List.forall_mem_cons.mpr ⟨lw_p76, List.forall_mem_cons.mpr ⟨lw_p77, List.forall_mem_cons.mpr ⟨lw_p78, List.forall_mem_cons.mpr ⟨lw_p79, fun _ h => absurd h List.not_mem_nil⟩⟩⟩⟩⟩⟩⟩⟩⟩⟩⟩⟩⟩⟩⟩⟩
theorem lw_p80 : lw_okq (⟨"ThoughtBalloonModel", "liftsOf", "(I)I"⟩, 33) := ⟨⟨by decide +kernel, by decide +kernel⟩, List.mem_of_getElem? (i := 787) (by decide +kernel), List.mem_of_getElem? (i := 954) (by decide +kernel), List.mem_of_getElem? (i := 955) (by decide +kernel)⟩
theorem lw_p81 : lw_okq (⟨"ThoughtBalloonModel", "isThought", "(I)Z"⟩, 33) := ⟨⟨by decide +kernel, by decide +kernel⟩, List.mem_of_getElem? (i := 787) (by decide +kernel), List.mem_of_getElem? (i := 962) (by decide +kernel), List.mem_of_getElem? (i := 963) (by decide +kernel)⟩
theorem lw_p82 : lw_okq (⟨"ThoughtBalloonModel", "know", "()V"⟩, 33) := ⟨⟨by decide +kernel, by decide +kernel⟩, List.mem_of_getElem? (i := 787) (by decide +kernel), List.mem_of_getElem? (i := 973) (by decide +kernel), List.mem_of_getElem? (i := 974) (by decide +kernel)⟩
theorem lw_p83 : lw_okq (⟨"ThoughtBalloonModel", "hold", "([I)I"⟩, 33) := ⟨⟨by decide +kernel, by decide +kernel⟩, List.mem_of_getElem? (i := 787) (by decide +kernel), List.mem_of_getElem? (i := 980) (by decide +kernel), List.mem_of_getElem? (i := 981) (by decide +kernel)⟩
theorem lw_p84 : lw_okq (⟨"ThoughtBalloonModel", "passOn", "([I)V"⟩, 33) := ⟨⟨by decide +kernel, by decide +kernel⟩, List.mem_of_getElem? (i := 787) (by decide +kernel), List.mem_of_getElem? (i := 988) (by decide +kernel), List.mem_of_getElem? (i := 989) (by decide +kernel)⟩
theorem lw_p85 : lw_okq (⟨"ThoughtBalloonModel", "weights", "([I)I"⟩, 33) := ⟨⟨by decide +kernel, by decide +kernel⟩, List.mem_of_getElem? (i := 787) (by decide +kernel), List.mem_of_getElem? (i := 992) (by decide +kernel), List.mem_of_getElem? (i := 993) (by decide +kernel)⟩
theorem lw_p86 : lw_okq (⟨"ThoughtBalloonModel", "isAtRest", "()Z"⟩, 33) := ⟨⟨by decide +kernel, by decide +kernel⟩, List.mem_of_getElem? (i := 787) (by decide +kernel), List.mem_of_getElem? (i := 1000) (by decide +kernel), List.mem_of_getElem? (i := 1001) (by decide +kernel)⟩
theorem lw_p87 : lw_okq (⟨"ThoughtBalloonModel", "cover", "()I"⟩, 33) := ⟨⟨by decide +kernel, by decide +kernel⟩, List.mem_of_getElem? (i := 787) (by decide +kernel), List.mem_of_getElem? (i := 1019) (by decide +kernel), List.mem_of_getElem? (i := 1020) (by decide +kernel)⟩
theorem lw_p88 : lw_okq (⟨"ThoughtBalloonModel", "take", "()V"⟩, 33) := ⟨⟨by decide +kernel, by decide +kernel⟩, List.mem_of_getElem? (i := 787) (by decide +kernel), List.mem_of_getElem? (i := 1027) (by decide +kernel), List.mem_of_getElem? (i := 1028) (by decide +kernel)⟩
theorem lw_p89 : lw_okq (⟨"ThoughtBalloonModel", "goBy", "(IIII)I"⟩, 33) := ⟨⟨by decide +kernel, by decide +kernel⟩, List.mem_of_getElem? (i := 787) (by decide +kernel), List.mem_of_getElem? (i := 1039) (by decide +kernel), List.mem_of_getElem? (i := 1040) (by decide +kernel)⟩
theorem lw_p90 : lw_okq (⟨"ThoughtBalloonModel", "whichBy", "(I)I"⟩, 33) := ⟨⟨by decide +kernel, by decide +kernel⟩, List.mem_of_getElem? (i := 787) (by decide +kernel), List.mem_of_getElem? (i := 1059) (by decide +kernel), List.mem_of_getElem? (i := 1060) (by decide +kernel)⟩
theorem lw_p91 : lw_okq (⟨"ThoughtBalloonModel", "heightBy", "(III)I"⟩, 33) := ⟨⟨by decide +kernel, by decide +kernel⟩, List.mem_of_getElem? (i := 787) (by decide +kernel), List.mem_of_getElem? (i := 1063) (by decide +kernel), List.mem_of_getElem? (i := 1064) (by decide +kernel)⟩
def lw_privs_6 : List (MethodName × Nat) := [(⟨"ThoughtBalloonModel", "liftsOf", "(I)I"⟩, 33), (⟨"ThoughtBalloonModel", "isThought", "(I)Z"⟩, 33), (⟨"ThoughtBalloonModel", "know", "()V"⟩, 33), (⟨"ThoughtBalloonModel", "hold", "([I)I"⟩, 33), (⟨"ThoughtBalloonModel", "passOn", "([I)V"⟩, 33), (⟨"ThoughtBalloonModel", "weights", "([I)I"⟩, 33), (⟨"ThoughtBalloonModel", "isAtRest", "()Z"⟩, 33), (⟨"ThoughtBalloonModel", "cover", "()I"⟩, 33), (⟨"ThoughtBalloonModel", "take", "()V"⟩, 33), (⟨"ThoughtBalloonModel", "goBy", "(IIII)I"⟩, 33), (⟨"ThoughtBalloonModel", "whichBy", "(I)I"⟩, 33), (⟨"ThoughtBalloonModel", "heightBy", "(III)I"⟩, 33)]
theorem lw_r6 : ∀ q ∈ lw_privs_6, lw_okq q := List.forall_mem_cons.mpr ⟨lw_p80, List.forall_mem_cons.mpr ⟨lw_p81, List.forall_mem_cons.mpr ⟨lw_p82, List.forall_mem_cons.mpr ⟨lw_p83, List.forall_mem_cons.mpr ⟨lw_p84, List.forall_mem_cons.mpr ⟨lw_p85, List.forall_mem_cons.mpr ⟨lw_p86, List.forall_mem_cons.mpr ⟨lw_p87, List.forall_mem_cons.mpr ⟨lw_p88, List.forall_mem_cons.mpr ⟨lw_p89, List.forall_mem_cons.mpr ⟨lw_p90, List.forall_mem_cons.mpr ⟨lw_p91, fun _ h => absurd h List.not_mem_nil⟩⟩⟩⟩⟩⟩⟩⟩⟩⟩⟩⟩
def lw_privs : List (MethodName × Nat) := lw_privs_1 ++ (lw_privs_2 ++ (lw_privs_3 ++ (lw_privs_4 ++ (lw_privs_5 ++ (lw_privs_6)))))
def lw_tbl : List Cond := k2_sels lw_privs ++ tables_1
theorem lw_privs_ok : ∀ q ∈ lw_privs, lw_okq q := by
  show ∀ q ∈ lw_privs_1 ++ (lw_privs_2 ++ (lw_privs_3 ++ (lw_privs_4 ++ (lw_privs_5 ++ (lw_privs_6))))), lw_okq q
  exact List.forall_mem_append.mpr ⟨lw_r1, List.forall_mem_append.mpr ⟨lw_r2, List.forall_mem_append.mpr ⟨lw_r3, List.forall_mem_append.mpr ⟨lw_r4, List.forall_mem_append.mpr ⟨lw_r5, lw_r6⟩⟩⟩⟩⟩
-- ===== end of PART A; then your names; then what follows =====
end
section
def R_Fl : String := "ThoughtBalloon$Flight"
def F_Fl : u_T := fun k => match k with
  | 0 => ("ThoughtBalloon$Flight", "minute", "I", false)
  | 1 => ("ThoughtBalloon$Flight", "cell", "I", false)
  | 2 => ("ThoughtBalloon$Flight", "height", "I", false)
  | 3 => ("ThoughtBalloon$Flight", "thinker", "I", false)
  | 4 => ("ThoughtBalloon$Flight", "idea", "I", false)
  | 5 => ("ThoughtBalloon$Flight", "since", "I", false)
  | 6 => ("ThoughtBalloon$Flight", "aboard", "I", false)
  | 7 => ("ThoughtBalloon$Flight", "used", "I", false)
  | _ => ("ThoughtBalloon$Flight", "lost", "Z", false)
def t_Fl : Nat → FieldType := fun k => match k with
  | 0 => .int
  | 1 => .int
  | 2 => .int
  | 3 => .int
  | 4 => .int
  | 5 => .int
  | 6 => .int
  | 7 => .int
  | _ => .boolean
theorem nm_Fl : ∀ a, a < 9 → ∀ b, b < 9 → a ≠ b → (F_Fl a).2.1 ≠ (F_Fl b).2.1 := by decide +kernel
theorem ty_Fl : ∀ k, k < 9 → parseFieldDescriptor (F_Fl k).2.2.1 = some (t_Fl k) := by decide +kernel
def R_Hi : String := "ThoughtBalloon$History"
def F_Hi : u_T := fun k => match k with
  | 0 => ("ThoughtBalloon$History", "flights", "[LThoughtBalloon$Flight;", true)
  | _ => ("ThoughtBalloon$History", "size", "I", false)
def t_Hi : Nat → FieldType := fun k => match k with
  | 0 => .array (.object "ThoughtBalloon$Flight")
  | _ => .int
theorem nm_Hi : ∀ a, a < 2 → ∀ b, b < 2 → a ≠ b → (F_Hi a).2.1 ≠ (F_Hi b).2.1 := by decide +kernel
theorem ty_Hi : ∀ k, k < 2 → parseFieldDescriptor (F_Hi k).2.2.1 = some (t_Hi k) := by decide +kernel
def R_Im : String := "ThoughtBalloon$Image"
def F_Im : u_T := fun k => match k with
  | 0 => ("ThoughtBalloon$Image", "flight", "LThoughtBalloon$Flight;", true)
  | 1 => ("ThoughtBalloon$Image", "history", "LThoughtBalloon$History;", true)
  | _ => ("ThoughtBalloon$Image", "kept", "Z", false)
def t_Im : Nat → FieldType := fun k => match k with
  | 0 => .object "ThoughtBalloon$Flight"
  | 1 => .object "ThoughtBalloon$History"
  | _ => .boolean
theorem nm_Im : ∀ a, a < 3 → ∀ b, b < 3 → a ≠ b → (F_Im a).2.1 ≠ (F_Im b).2.1 := by decide +kernel
theorem ty_Im : ∀ k, k < 3 → parseFieldDescriptor (F_Im k).2.2.1 = some (t_Im k) := by decide +kernel
def R_Od : String := "ThoughtBalloon$Odds"
def F_Od : u_T := fun k => match k with
  | 0 => ("ThoughtBalloon$Odds", "ways", "[I", true)
  | 1 => ("ThoughtBalloon$Odds", "before", "[I", true)
  | _ => ("ThoughtBalloon$Odds", "all", "I", false)
def t_Od : Nat → FieldType := fun k => match k with
  | 0 => .array .int
  | 1 => .array .int
  | _ => .int
theorem nm_Od : ∀ a, a < 3 → ∀ b, b < 3 → a ≠ b → (F_Od a).2.1 ≠ (F_Od b).2.1 := by decide +kernel
theorem ty_Od : ∀ k, k < 3 → parseFieldDescriptor (F_Od k).2.2.1 = some (t_Od k) := by decide +kernel
def R_Re : String := "ThoughtBalloon$Reports"
def F_Re : u_T := fun k => match k with
  | 0 => ("ThoughtBalloon$Reports", "people", "[I", true)
  | 1 => ("ThoughtBalloon$Reports", "minutes", "[I", true)
  | 2 => ("ThoughtBalloon$Reports", "values", "[I", true)
  | _ => ("ThoughtBalloon$Reports", "size", "I", false)
def t_Re : Nat → FieldType := fun k => match k with
  | 0 => .array .int
  | 1 => .array .int
  | 2 => .array .int
  | _ => .int
theorem nm_Re : ∀ a, a < 4 → ∀ b, b < 4 → a ≠ b → (F_Re a).2.1 ≠ (F_Re b).2.1 := by decide +kernel
theorem ty_Re : ∀ k, k < 4 → parseFieldDescriptor (F_Re k).2.2.1 = some (t_Re k) := by decide +kernel
def R_Se : String := "ThoughtBalloon$Search"
def F_Se : u_T := fun k => match k with
  | 0 => ("ThoughtBalloon$Search", "told", "LThoughtBalloon$Told;", true)
  | 1 => ("ThoughtBalloon$Search", "flights", "[LThoughtBalloon$Flight;", true)
  | 2 => ("ThoughtBalloon$Search", "row", "[I", true)
  | 3 => ("ThoughtBalloon$Search", "found", "[I", true)
  | 4 => ("ThoughtBalloon$Search", "reach", "[[I", true)
  | 5 => ("ThoughtBalloon$Search", "turns", "I", false)
  | 6 => ("ThoughtBalloon$Search", "what", "I", false)
  | _ => ("ThoughtBalloon$Search", "greatest", "I", false)
def t_Se : Nat → FieldType := fun k => match k with
  | 0 => .object "ThoughtBalloon$Told"
  | 1 => .array (.object "ThoughtBalloon$Flight")
  | 2 => .array .int
  | 3 => .array .int
  | 4 => .array (.array .int)
  | 5 => .int
  | 6 => .int
  | _ => .int
theorem nm_Se : ∀ a, a < 8 → ∀ b, b < 8 → a ≠ b → (F_Se a).2.1 ≠ (F_Se b).2.1 := by decide +kernel
theorem ty_Se : ∀ k, k < 8 → parseFieldDescriptor (F_Se k).2.2.1 = some (t_Se k) := by decide +kernel
def R_Tx : String := "ThoughtBalloon$Text"
def F_Tx : u_T := fun k => match k with
  | 0 => ("ThoughtBalloon$Text", "bytes", "[I", true)
  | 1 => ("ThoughtBalloon$Text", "length", "I", false)
  | 2 => ("ThoughtBalloon$Text", "at", "I", false)
  | 3 => ("ThoughtBalloon$Text", "token", "I", false)
  | 4 => ("ThoughtBalloon$Text", "place", "I", false)
  | 5 => ("ThoughtBalloon$Text", "value", "I", false)
  | 6 => ("ThoughtBalloon$Text", "numbers", "[I", true)
  | _ => ("ThoughtBalloon$Text", "startIsTold", "Z", false)
def t_Tx : Nat → FieldType := fun k => match k with
  | 0 => .array .int
  | 1 => .int
  | 2 => .int
  | 3 => .int
  | 4 => .int
  | 5 => .int
  | 6 => .array .int
  | _ => .boolean
theorem nm_Tx : ∀ a, a < 8 → ∀ b, b < 8 → a ≠ b → (F_Tx a).2.1 ≠ (F_Tx b).2.1 := by decide +kernel
theorem ty_Tx : ∀ k, k < 8 → parseFieldDescriptor (F_Tx k).2.2.1 = some (t_Tx k) := by decide +kernel
def R_To : String := "ThoughtBalloon$Told"
def F_To : u_T := fun k => match k with
  | 0 => ("ThoughtBalloon$Told", "winds", "[I", true)
  | 1 => ("ThoughtBalloon$Told", "weights", "[I", true)
  | 2 => ("ThoughtBalloon$Told", "breaths", "[I", true)
  | 3 => ("ThoughtBalloon$Told", "lifts", "[I", true)
  | 4 => ("ThoughtBalloon$Told", "fades", "[I", true)
  | 5 => ("ThoughtBalloon$Told", "people", "I", false)
  | 6 => ("ThoughtBalloon$Told", "thoughts", "I", false)
  | 7 => ("ThoughtBalloon$Told", "start", "I", false)
  | _ => ("ThoughtBalloon$Told", "aboardAtFirst", "I", false)
def t_To : Nat → FieldType := fun k => match k with
  | 0 => .array .int
  | 1 => .array .int
  | 2 => .array .int
  | 3 => .array .int
  | 4 => .array .int
  | 5 => .int
  | 6 => .int
  | 7 => .int
  | _ => .int
theorem nm_To : ∀ a, a < 9 → ∀ b, b < 9 → a ≠ b → (F_To a).2.1 ≠ (F_To b).2.1 := by decide +kernel
theorem ty_To : ∀ k, k < 9 → parseFieldDescriptor (F_To k).2.2.1 = some (t_To k) := by decide +kernel
def R_Tb : String := "ThoughtBalloon"
def F_Tb : u_T := fun k => match k with
  | 0 => ("ThoughtBalloon", "text", "LThoughtBalloon$Text;", true)
  | 1 => ("ThoughtBalloon", "told", "LThoughtBalloon$Told;", true)
  | 2 => ("ThoughtBalloon", "draft", "LThoughtBalloon$Told;", true)
  | 3 => ("ThoughtBalloon", "flight", "LThoughtBalloon$Flight;", true)
  | 4 => ("ThoughtBalloon", "trial", "LThoughtBalloon$Flight;", true)
  | 5 => ("ThoughtBalloon", "history", "LThoughtBalloon$History;", true)
  | 6 => ("ThoughtBalloon", "images", "[LThoughtBalloon$Image;", true)
  | 7 => ("ThoughtBalloon", "search", "LThoughtBalloon$Search;", true)
  | 8 => ("ThoughtBalloon", "chances", "LThoughtBalloon$Odds;", true)
  | 9 => ("ThoughtBalloon", "seen", "LThoughtBalloon$Reports;", true)
  | 10 => ("ThoughtBalloon", "heard", "LThoughtBalloon$Reports;", true)
  | 11 => ("ThoughtBalloon", "alike", "[I", true)
  | _ => ("ThoughtBalloon", "traced", "J", false)
def t_Tb : Nat → FieldType := fun k => match k with
  | 0 => .object "ThoughtBalloon$Text"
  | 1 => .object "ThoughtBalloon$Told"
  | 2 => .object "ThoughtBalloon$Told"
  | 3 => .object "ThoughtBalloon$Flight"
  | 4 => .object "ThoughtBalloon$Flight"
  | 5 => .object "ThoughtBalloon$History"
  | 6 => .array (.object "ThoughtBalloon$Image")
  | 7 => .object "ThoughtBalloon$Search"
  | 8 => .object "ThoughtBalloon$Odds"
  | 9 => .object "ThoughtBalloon$Reports"
  | 10 => .object "ThoughtBalloon$Reports"
  | 11 => .array .int
  | _ => .long
theorem nm_Tb : ∀ a, a < 13 → ∀ b, b < 13 → a ≠ b → (F_Tb a).2.1 ≠ (F_Tb b).2.1 := by decide +kernel
theorem ty_Tb : ∀ k, k < 13 → parseFieldDescriptor (F_Tb k).2.2.1 = some (t_Tb k) := by decide +kernel
def R_Mo : String := "ThoughtBalloonModel"
def F_Mo : u_T := fun k => match k with
  | 0 => ("ThoughtBalloonModel", "text", "[B", true)
  | 1 => ("ThoughtBalloonModel", "typed", "I", false)
  | 2 => ("ThoughtBalloonModel", "winds", "[I", true)
  | 3 => ("ThoughtBalloonModel", "people", "[I", true)
  | 4 => ("ThoughtBalloonModel", "weight", "[I", true)
  | 5 => ("ThoughtBalloonModel", "breath", "[I", true)
  | 6 => ("ThoughtBalloonModel", "firstIn", "[I", true)
  | 7 => ("ThoughtBalloonModel", "thoughts", "[I", true)
  | 8 => ("ThoughtBalloonModel", "lift", "[I", true)
  | 9 => ("ThoughtBalloonModel", "fade", "[I", true)
  | 10 => ("ThoughtBalloonModel", "starts", "[I", true)
  | 11 => ("ThoughtBalloonModel", "at", "I", false)
  | 12 => ("ThoughtBalloonModel", "stands", "I", false)
  | 13 => ("ThoughtBalloonModel", "sort", "I", false)
  | 14 => ("ThoughtBalloonModel", "value", "I", false)
  | 15 => ("ThoughtBalloonModel", "isWrong", "Z", false)
  | 16 => ("ThoughtBalloonModel", "items", "I", false)
  | 17 => ("ThoughtBalloonModel", "isStarted", "Z", false)
  | 18 => ("ThoughtBalloonModel", "now", "[I", true)
  | 19 => ("ThoughtBalloonModel", "known", "[I", true)
  | 20 => ("ThoughtBalloonModel", "before", "[I", true)
  | 21 => ("ThoughtBalloonModel", "store", "[I", true)
  | 22 => ("ThoughtBalloonModel", "isKept", "[Z", true)
  | 23 => ("ThoughtBalloonModel", "tried", "[I", true)
  | 24 => ("ThoughtBalloonModel", "many", "[I", true)
  | 25 => ("ThoughtBalloonModel", "sightOf", "[I", true)
  | 26 => ("ThoughtBalloonModel", "sightAt", "[I", true)
  | 27 => ("ThoughtBalloonModel", "sightHigh", "[I", true)
  | 28 => ("ThoughtBalloonModel", "sights", "I", false)
  | 29 => ("ThoughtBalloonModel", "taleAt", "[I", true)
  | 30 => ("ThoughtBalloonModel", "taleHold", "[I", true)
  | 31 => ("ThoughtBalloonModel", "tales", "I", false)
  | _ => ("ThoughtBalloonModel", "trace", "J", false)
def t_Mo : Nat → FieldType := fun k => match k with
  | 0 => .array .byte
  | 1 => .int
  | 2 => .array .int
  | 3 => .array .int
  | 4 => .array .int
  | 5 => .array .int
  | 6 => .array .int
  | 7 => .array .int
  | 8 => .array .int
  | 9 => .array .int
  | 10 => .array .int
  | 11 => .int
  | 12 => .int
  | 13 => .int
  | 14 => .int
  | 15 => .boolean
  | 16 => .int
  | 17 => .boolean
  | 18 => .array .int
  | 19 => .array .int
  | 20 => .array .int
  | 21 => .array .int
  | 22 => .array .boolean
  | 23 => .array .int
  | 24 => .array .int
  | 25 => .array .int
  | 26 => .array .int
  | 27 => .array .int
  | 28 => .int
  | 29 => .array .int
  | 30 => .array .int
  | 31 => .int
  | _ => .long
theorem nm_Mo : ∀ a, a < 33 → ∀ b, b < 33 → a ≠ b → (F_Mo a).2.1 ≠ (F_Mo b).2.1 := by decide +kernel
theorem ty_Mo : ∀ k, k < 33 → parseFieldDescriptor (F_Mo k).2.2.1 = some (t_Mo k) := by decide +kernel
def R_La : String := "ThoughtBalloonLaw"
def R_Ma : String := "java/lang/Math"
def R_In : String := "java/lang/Integer"
def R_Ar : String := "java/util/Arrays"
abbrev e_cl : List vw_C := [(R_Fl, F_Fl, 9), (R_Hi, F_Hi, 2), (R_Im, F_Im, 3), (R_Od, F_Od, 3), (R_Re, F_Re, 4), (R_Se, F_Se, 8), (R_Tx, F_Tx, 8), (R_To, F_To, 9), (R_Tb, F_Tb, 13), (R_Mo, F_Mo, 33)]
/-- the words of the tables that stay true from call to call -/
def e_gw : List Cond := lw_tbl.filter goodWord
def e_isN : Cond → Bool
  | .fieldLinkNest .. => true
  | .methodLinkNest .. => true
  | _ => false
def e_nw : List Cond := tables_1.filter e_isN
theorem gw_t (i : Nat) {w : Cond} (h : tables_1[i]? = some w) (hg : goodWord w = true) : w ∈ e_gw := List.mem_filter.mpr ⟨List.mem_append_right _ (List.mem_of_getElem? h), hg⟩
theorem gw_s (i : Nat) {w : Cond} (h : (k2_sels lw_privs)[i]? = some w) (hg : goodWord w = true) : w ∈ e_gw := List.mem_filter.mpr ⟨List.mem_append_left _ (List.mem_of_getElem? h), hg⟩
theorem nw_t (i : Nat) {w : Cond} (h : tables_1[i]? = some w) (hg : e_isN w = true) : w ∈ e_nw := List.mem_filter.mpr ⟨List.mem_of_getElem? h, hg⟩
abbrev Mt : Type := MethodName × ByteArray × Nat × Option FieldType
def M_Tb_init : Mt := (⟨R_Tb, "<init>", "()V"⟩, prog_1_method_1_code, 2, none)
def M_Tx_init : Mt := (⟨R_Tx, "<init>", "()V"⟩, prog_8_method_1_code, 1, none)
def M_To_init : Mt := (⟨R_To, "<init>", "()V"⟩, prog_9_method_1_code, 1, none)
def M_Fl_init : Mt := (⟨R_Fl, "<init>", "()V"⟩, prog_2_method_1_code, 1, none)
def M_Hi_init : Mt := (⟨R_Hi, "<init>", "()V"⟩, prog_3_method_1_code, 2, none)
def M_Se_init : Mt := (⟨R_Se, "<init>", "(LThoughtBalloon$Told;)V"⟩, prog_7_method_1_code, 3, none)
def M_Od_init : Mt := (⟨R_Od, "<init>", "()V"⟩, prog_5_method_1_code, 1, none)
def M_Re_init : Mt := (⟨R_Re, "<init>", "()V"⟩, prog_6_method_1_code, 1, none)
def M_Im_init : Mt := (⟨R_Im, "<init>", "()V"⟩, prog_4_method_1_code, 1, none)
def M_Tb_startAnew : Mt := (⟨R_Tb, "startAnew", "()V"⟩, prog_1_method_31_code, 2, none)
def M_Fl_start : Mt := (⟨R_Fl, "start", "(II)V"⟩, prog_2_method_2_code, 3, none)
def M_Fl_thinkNothing : Mt := (⟨R_Fl, "thinkNothing", "()V"⟩, prog_2_method_10_code, 1, none)
def M_Re_drop : Mt := (⟨R_Re, "drop", "()I"⟩, prog_6_method_3_code, 2, (some .int))
def M_Tb_type : Mt := (⟨R_Tb, "type", "(I)I"⟩, prog_1_method_2_code, 2, (some .int))
def M_Tb_within : Mt := (⟨R_Tb, "within", "(III)Z"⟩, prog_1_method_30_code, 3, (some .boolean))
def M_Tx_add : Mt := (⟨R_Tx, "add", "(I)I"⟩, prog_8_method_2_code, 2, (some .int))
def M_Tb_clear : Mt := (⟨R_Tb, "clear", "()I"⟩, prog_1_method_3_code, 1, (some .int))
def M_Tx_drop : Mt := (⟨R_Tx, "drop", "()I"⟩, prog_8_method_3_code, 2, (some .int))
def M_Tb_sheds : Mt := (⟨R_Tb, "sheds", "()I"⟩, prog_1_method_4_code, 2, (some .int))
def M_Tx_readInto : Mt := (⟨R_Tx, "readInto", "(LThoughtBalloon$Told;)I"⟩, prog_8_method_4_code, 3, (some .int))
def M_To_tellNothing : Mt := (⟨R_To, "tellNothing", "()V"⟩, prog_9_method_2_code, 1, none)
def M_Ar_fill : Mt := (⟨R_Ar, "fill", "([II)V"⟩, prog_15_method_103_code, 4, none)
def M_Tx_readToken : Mt := (⟨R_Tx, "readToken", "()V"⟩, prog_8_method_8_code, 1, none)
def M_Tx_isLetter : Mt := (⟨R_Tx, "isLetter", "(I)Z"⟩, prog_8_method_11_code, 1, (some .boolean))
def M_Tx_readLetters : Mt := (⟨R_Tx, "readLetters", "()V"⟩, prog_8_method_9_code, 1, none)
def M_Tx_isDigit : Mt := (⟨R_Tx, "isDigit", "(I)Z"⟩, prog_8_method_12_code, 1, (some .boolean))
def M_Tx_readNumber : Mt := (⟨R_Tx, "readNumber", "()V"⟩, prog_8_method_10_code, 2, none)
def M_Ma_min : Mt := (⟨R_Ma, "min", "(II)I"⟩, prog_13_method_69_code, 2, (some .int))
def M_Tx_readItem : Mt := (⟨R_Tx, "readItem", "(LThoughtBalloon$Told;)Z"⟩, prog_8_method_5_code, 5, (some .boolean))
def M_Tx_itemBegun : Mt := (⟨R_Tx, "itemBegun", "(LThoughtBalloon$Told;)I"⟩, prog_8_method_6_code, 2, (some .int))
def M_Tx_tell : Mt := (⟨R_Tx, "tell", "(LThoughtBalloon$Told;I)V"⟩, prog_8_method_7_code, 3, none)
def M_To_tellWind : Mt := (⟨R_To, "tellWind", "(II)V"⟩, prog_9_method_4_code, 3, none)
def M_To_tellPerson : Mt := (⟨R_To, "tellPerson", "(III)V"⟩, prog_9_method_5_code, 4, none)
def M_To_tellThought : Mt := (⟨R_To, "tellThought", "(II)V"⟩, prog_9_method_6_code, 3, none)
def M_To_copyFrom : Mt := (⟨R_To, "copyFrom", "(LThoughtBalloon$Told;)V"⟩, prog_9_method_3_code, 2, none)
def M_Tb_wind : Mt := (⟨R_Tb, "wind", "(I)I"⟩, prog_1_method_5_code, 2, (some .int))
def M_To_windAt : Mt := (⟨R_To, "windAt", "(I)I"⟩, prog_9_method_9_code, 2, (some .int))
def M_Tb_one : Mt := (⟨R_Tb, "one", "(II)I"⟩, prog_1_method_6_code, 3, (some .int))
def M_To_hasPerson : Mt := (⟨R_To, "hasPerson", "(I)Z"⟩, prog_9_method_7_code, 2, (some .boolean))
def M_Fl_hasAboard : Mt := (⟨R_Fl, "hasAboard", "(I)Z"⟩, prog_2_method_4_code, 2, (some .boolean))
def M_Fl_usedBy : Mt := (⟨R_Fl, "usedBy", "(I)I"⟩, prog_2_method_5_code, 2, (some .int))
def M_To_liftsOf : Mt := (⟨R_To, "liftsOf", "(I)I"⟩, prog_9_method_16_code, 4, (some .int))
def M_To_canLift : Mt := (⟨R_To, "canLift", "(II)Z"⟩, prog_9_method_15_code, 3, (some .boolean))
def M_Tb_thought : Mt := (⟨R_Tb, "thought", "(II)I"⟩, prog_1_method_7_code, 3, (some .int))
def M_To_hasThought : Mt := (⟨R_To, "hasThought", "(I)Z"⟩, prog_9_method_8_code, 2, (some .boolean))
def M_Tb_begins : Mt := (⟨R_Tb, "begins", "(II)I"⟩, prog_1_method_8_code, 3, (some .int))
def M_Fl_mayBegin : Mt := (⟨R_Fl, "mayBegin", "(II)Z"⟩, prog_2_method_6_code, 3, (some .boolean))
def M_Hi_push : Mt := (⟨R_Hi, "push", "(LThoughtBalloon$Flight;)V"⟩, prog_3_method_2_code, 2, none)
def M_Hi_dropOldest : Mt := (⟨R_Hi, "dropOldest", "()V"⟩, prog_3_method_3_code, 3, none)
def M_Fl_copyFrom : Mt := (⟨R_Fl, "copyFrom", "(LThoughtBalloon$Flight;)V"⟩, prog_2_method_3_code, 2, none)
def M_Fl_begin : Mt := (⟨R_Fl, "begin", "(II)V"⟩, prog_2_method_8_code, 3, none)
def M_Fl_think : Mt := (⟨R_Fl, "think", "(II)V"⟩, prog_2_method_9_code, 3, none)
def M_To_hold : Mt := (⟨R_To, "hold", "(LThoughtBalloon$Flight;)I"⟩, prog_9_method_11_code, 5, (some .int))
def M_To_faded : Mt := (⟨R_To, "faded", "(III)I"⟩, prog_9_method_10_code, 3, (some .int))
def M_Ma_max : Mt := (⟨R_Ma, "max", "(II)I"⟩, prog_13_method_65_code, 2, (some .int))
def M_Tb_minutes : Mt := (⟨R_Tb, "minutes", "(I)I"⟩, prog_1_method_9_code, 2, (some .int))
def M_To_passMinutes : Mt := (⟨R_To, "passMinutes", "(LThoughtBalloon$Flight;I)V"⟩, prog_9_method_13_code, 4, none)
def M_To_passMinute : Mt := (⟨R_To, "passMinute", "(LThoughtBalloon$Flight;)V"⟩, prog_9_method_14_code, 3, none)
def M_To_load : Mt := (⟨R_To, "load", "(LThoughtBalloon$Flight;)I"⟩, prog_9_method_12_code, 4, (some .int))
def M_Fl_climb : Mt := (⟨R_Fl, "climb", "(I)V"⟩, prog_2_method_13_code, 2, none)
def M_Fl_drift : Mt := (⟨R_Fl, "drift", "(I)V"⟩, prog_2_method_14_code, 3, none)
def M_Tb_enters : Mt := (⟨R_Tb, "enters", "(I)I"⟩, prog_1_method_10_code, 2, (some .int))
def M_Fl_mayBeBoarded : Mt := (⟨R_Fl, "mayBeBoarded", "()Z"⟩, prog_2_method_7_code, 1, (some .boolean))
def M_Fl_takeIn : Mt := (⟨R_Fl, "takeIn", "(I)V"⟩, prog_2_method_11_code, 2, none)
def M_In_bitCount : Mt := (⟨R_In, "bitCount", "(I)I"⟩, prog_12_method_49_code, 1, (some .int))
def M_Tb_leaves : Mt := (⟨R_Tb, "leaves", "(I)I"⟩, prog_1_method_11_code, 2, (some .int))
def M_Fl_letOut : Mt := (⟨R_Fl, "letOut", "(I)V"⟩, prog_2_method_12_code, 2, none)
def M_Tb_undo : Mt := (⟨R_Tb, "undo", "()I"⟩, prog_1_method_12_code, 1, (some .int))
def M_Hi_pop : Mt := (⟨R_Hi, "pop", "(LThoughtBalloon$Flight;)V"⟩, prog_3_method_4_code, 2, none)
def M_Tb_now : Mt := (⟨R_Tb, "now", "(I)I"⟩, prog_1_method_13_code, 2, (some .int))
def M_To_cover : Mt := (⟨R_To, "cover", "()I"⟩, prog_9_method_17_code, 3, (some .int))
def M_To_covers : Mt := (⟨R_To, "covers", "(I)Z"⟩, prog_9_method_18_code, 3, (some .boolean))
def M_Tb_after : Mt := (⟨R_Tb, "after", "(II)I"⟩, prog_1_method_14_code, 3, (some .int))
def M_Tb_down : Mt := (⟨R_Tb, "down", "()I"⟩, prog_1_method_15_code, 2, (some .int))
def M_Tb_best : Mt := (⟨R_Tb, "best", "(III)I"⟩, prog_1_method_16_code, 4, (some .int))
def M_Se_run : Mt := (⟨R_Se, "run", "(LThoughtBalloon$Flight;II)V"⟩, prog_7_method_2_code, 4, none)
def M_Se_fillReach : Mt := (⟨R_Se, "fillReach", "()V"⟩, prog_7_method_3_code, 4, none)
def M_Se_tryTurns : Mt := (⟨R_Se, "tryTurns", "(I)V"⟩, prog_7_method_4_code, 4, none)
def M_Se_bound : Mt := (⟨R_Se, "bound", "(I)I"⟩, prog_7_method_6_code, 4, (some .int))
def M_Se_tryTurn : Mt := (⟨R_Se, "tryTurn", "(III)V"⟩, prog_7_method_5_code, 5, none)
def M_Tb_own : Mt := (⟨R_Tb, "own", "(I)I"⟩, prog_1_method_17_code, 3, (some .int))
def M_To_firstOwnWay : Mt := (⟨R_To, "firstOwnWay", "()I"⟩, prog_9_method_19_code, 6, (some .int))
def M_To_countOwn : Mt := (⟨R_To, "countOwn", "(I)I"⟩, prog_9_method_20_code, 5, (some .int))
def M_To_ownIn : Mt := (⟨R_To, "ownIn", "(II)I"⟩, prog_9_method_21_code, 6, (some .int))
def M_Tb_odds : Mt := (⟨R_Tb, "odds", "(IIIII)I"⟩, prog_1_method_18_code, 7, (some .int))
def M_Od_startAt : Mt := (⟨R_Od, "startAt", "(I)V"⟩, prog_5_method_2_code, 2, none)
def M_Od_spread : Mt := (⟨R_Od, "spread", "(II)V"⟩, prog_5_method_3_code, 4, none)
def M_Od_carry : Mt := (⟨R_Od, "carry", "(II)V"⟩, prog_5_method_4_code, 3, none)
def M_Od_upper : Mt := (⟨R_Od, "upper", "(I)I"⟩, prog_5_method_5_code, 2, (some .int))
def M_Od_common : Mt := (⟨R_Od, "common", "(I)I"⟩, prog_5_method_7_code, 6, (some .int))
def M_Od_lower : Mt := (⟨R_Od, "lower", "(I)I"⟩, prog_5_method_6_code, 2, (some .int))
def M_Tb_saw : Mt := (⟨R_Tb, "saw", "(III)I"⟩, prog_1_method_19_code, 4, (some .int))
def M_Re_add : Mt := (⟨R_Re, "add", "(III)I"⟩, prog_6_method_2_code, 4, (some .int))
def M_Tb_which : Mt := (⟨R_Tb, "which", "(I)I"⟩, prog_1_method_20_code, 2, (some .int))
def M_Tb_fitting : Mt := (⟨R_Tb, "fitting", "(I)I"⟩, prog_1_method_32_code, 4, (some .int))
def M_Tb_fits : Mt := (⟨R_Tb, "fits", "(II)Z"⟩, prog_1_method_33_code, 4, (some .boolean))
def M_Tb_heightLater : Mt := (⟨R_Tb, "heightLater", "(III)I"⟩, prog_1_method_34_code, 5, (some .int))
def M_Tb_look : Mt := (⟨R_Tb, "look", "(I)I"⟩, prog_1_method_21_code, 7, (some .int))
def M_Tb_greatestAlike : Mt := (⟨R_Tb, "greatestAlike", "(III)I"⟩, prog_1_method_35_code, 7, (some .int))
def M_Tb_hears : Mt := (⟨R_Tb, "hears", "(II)I"⟩, prog_1_method_22_code, 3, (some .int))
def M_Tb_laws : Mt := (⟨R_Tb, "laws", "(I)I"⟩, prog_1_method_23_code, 6, (some .int))
def M_Tb_isLaw : Mt := (⟨R_Tb, "isLaw", "(II)Z"⟩, prog_1_method_36_code, 4, (some .boolean))
def M_Tb_forget : Mt := (⟨R_Tb, "forget", "()I"⟩, prog_1_method_24_code, 1, (some .int))
def M_Tb_mark : Mt := (⟨R_Tb, "mark", "(II)I"⟩, prog_1_method_25_code, 3, (some .int))
def M_Tb_markLover : Mt := (⟨R_Tb, "markLover", "(I)I"⟩, prog_1_method_38_code, 2, (some .int))
def M_Tb_markOne : Mt := (⟨R_Tb, "markOne", "(I)I"⟩, prog_1_method_37_code, 2, (some .int))
def M_Tb_markGrudge : Mt := (⟨R_Tb, "markGrudge", "(I)I"⟩, prog_1_method_39_code, 2, (some .int))
def M_Tb_markPoet : Mt := (⟨R_Tb, "markPoet", "(I)I"⟩, prog_1_method_40_code, 2, (some .int))
def M_Tb_markMiser : Mt := (⟨R_Tb, "markMiser", "(I)I"⟩, prog_1_method_41_code, 2, (some .int))
def M_Tb_markWife : Mt := (⟨R_Tb, "markWife", "(I)I"⟩, prog_1_method_42_code, 2, (some .int))
def M_Tb_keep : Mt := (⟨R_Tb, "keep", "(I)I"⟩, prog_1_method_26_code, 2, (some .int))
def M_Im_take : Mt := (⟨R_Im, "take", "(LThoughtBalloon$Flight;LThoughtBalloon$History;)V"⟩, prog_4_method_2_code, 3, none)
def M_Hi_copyFrom : Mt := (⟨R_Hi, "copyFrom", "(LThoughtBalloon$History;)V"⟩, prog_3_method_5_code, 3, none)
def M_Tb_back : Mt := (⟨R_Tb, "back", "(I)I"⟩, prog_1_method_27_code, 2, (some .int))
def M_Im_give : Mt := (⟨R_Im, "give", "(LThoughtBalloon$Flight;LThoughtBalloon$History;)V"⟩, prog_4_method_3_code, 3, none)
def M_Tb_count : Mt := (⟨R_Tb, "count", "(I)I"⟩, prog_1_method_28_code, 2, (some .int))
def M_Tb_trace : Mt := (⟨R_Tb, "trace", "()J"⟩, prog_1_method_29_code, 1, (some .long))
def M_Mo_init : Mt := (⟨R_Mo, "<init>", "()V"⟩, prog_11_method_1_code, 1, none)
def M_Mo_type : Mt := (⟨R_Mo, "type", "(I)I"⟩, prog_11_method_6_code, 2, (some .int))
def M_Mo_in : Mt := (⟨R_Mo, "in", "(III)Z"⟩, prog_11_method_3_code, 3, (some .boolean))
def M_Mo_clear : Mt := (⟨R_Mo, "clear", "()I"⟩, prog_11_method_7_code, 2, (some .int))
def M_Mo_sheds : Mt := (⟨R_Mo, "sheds", "()I"⟩, prog_11_method_15_code, 2, (some .int))
def M_Mo_read : Mt := (⟨R_Mo, "read", "()V"⟩, prog_11_method_14_code, 2, none)
def M_Mo_step : Mt := (⟨R_Mo, "step", "()V"⟩, prog_11_method_9_code, 2, none)
def M_Mo_here : Mt := (⟨R_Mo, "here", "()I"⟩, prog_11_method_8_code, 1, (some .int))
def M_Mo_may : Mt := (⟨R_Mo, "may", "(I)Z"⟩, prog_11_method_13_code, 2, (some .boolean))
def M_Mo_due : Mt := (⟨R_Mo, "due", "(Z)V"⟩, prog_11_method_10_code, 2, none)
def M_Mo_item : Mt := (⟨R_Mo, "item", "(I)V"⟩, prog_11_method_12_code, 6, none)
def M_Mo_number : Mt := (⟨R_Mo, "number", "(II)I"⟩, prog_11_method_11_code, 4, (some .int))
def M_Mo_wind : Mt := (⟨R_Mo, "wind", "(I)I"⟩, prog_11_method_25_code, 2, (some .int))
def M_Mo_one : Mt := (⟨R_Mo, "one", "(II)I"⟩, prog_11_method_26_code, 3, (some .int))
def M_Mo_isOne : Mt := (⟨R_Mo, "isOne", "(I)Z"⟩, prog_11_method_17_code, 2, (some .boolean))
def M_Mo_has : Mt := (⟨R_Mo, "has", "(II)Z"⟩, prog_11_method_4_code, 2, (some .boolean))
def M_Mo_liftsOf : Mt := (⟨R_Mo, "liftsOf", "(I)I"⟩, prog_11_method_24_code, 4, (some .int))
def M_Mo_thought : Mt := (⟨R_Mo, "thought", "(II)I"⟩, prog_11_method_27_code, 3, (some .int))
def M_Mo_isThought : Mt := (⟨R_Mo, "isThought", "(I)Z"⟩, prog_11_method_18_code, 2, (some .boolean))
def M_Mo_begins : Mt := (⟨R_Mo, "begins", "(II)I"⟩, prog_11_method_29_code, 3, (some .int))
def M_Mo_canBegin : Mt := (⟨R_Mo, "canBegin", "([III)Z"⟩, prog_11_method_23_code, 3, (some .boolean))
def M_Mo_know : Mt := (⟨R_Mo, "know", "()V"⟩, prog_11_method_28_code, 2, none)
def M_Mo_begin : Mt := (⟨R_Mo, "begin", "([III)V"⟩, prog_11_method_22_code, 3, none)
def M_Mo_hold : Mt := (⟨R_Mo, "hold", "([I)I"⟩, prog_11_method_19_code, 3, (some .int))
def M_Mo_minutes : Mt := (⟨R_Mo, "minutes", "(I)I"⟩, prog_11_method_30_code, 3, (some .int))
def M_Mo_passOn : Mt := (⟨R_Mo, "passOn", "([I)V"⟩, prog_11_method_21_code, 4, none)
def M_Mo_weights : Mt := (⟨R_Mo, "weights", "([I)I"⟩, prog_11_method_20_code, 4, (some .int))
def M_Mo_enters : Mt := (⟨R_Mo, "enters", "(I)I"⟩, prog_11_method_32_code, 2, (some .int))
def M_Mo_isAtRest : Mt := (⟨R_Mo, "isAtRest", "()Z"⟩, prog_11_method_31_code, 1, (some .boolean))
def M_Mo_bitsOf : Mt := (⟨R_Mo, "bitsOf", "(I)I"⟩, prog_11_method_5_code, 3, (some .int))
def M_Mo_leaves : Mt := (⟨R_Mo, "leaves", "(I)I"⟩, prog_11_method_33_code, 2, (some .int))
def M_Mo_undo : Mt := (⟨R_Mo, "undo", "()I"⟩, prog_11_method_34_code, 2, (some .int))
def M_Mo_now : Mt := (⟨R_Mo, "now", "(I)I"⟩, prog_11_method_36_code, 2, (some .int))
def M_Mo_cover : Mt := (⟨R_Mo, "cover", "()I"⟩, prog_11_method_35_code, 5, (some .int))
def M_Mo_after : Mt := (⟨R_Mo, "after", "(II)I"⟩, prog_11_method_37_code, 4, (some .int))
def M_Mo_take : Mt := (⟨R_Mo, "take", "()V"⟩, prog_11_method_16_code, 2, none)
def M_Mo_down : Mt := (⟨R_Mo, "down", "()I"⟩, prog_11_method_38_code, 2, (some .int))
def M_Mo_best : Mt := (⟨R_Mo, "best", "(III)I"⟩, prog_11_method_40_code, 9, (some .int))
def M_Mo_goBy : Mt := (⟨R_Mo, "goBy", "(IIII)I"⟩, prog_11_method_39_code, 10, (some .int))
def M_Mo_own : Mt := (⟨R_Mo, "own", "(I)I"⟩, prog_11_method_41_code, 8, (some .int))
def M_Mo_odds : Mt := (⟨R_Mo, "odds", "(IIIII)I"⟩, prog_11_method_42_code, 12, (some .int))
def M_Mo_saw : Mt := (⟨R_Mo, "saw", "(III)I"⟩, prog_11_method_43_code, 4, (some .int))
def M_Mo_which : Mt := (⟨R_Mo, "which", "(I)I"⟩, prog_11_method_46_code, 2, (some .int))
def M_Mo_whichBy : Mt := (⟨R_Mo, "whichBy", "(I)I"⟩, prog_11_method_45_code, 6, (some .int))
def M_Mo_heightBy : Mt := (⟨R_Mo, "heightBy", "(III)I"⟩, prog_11_method_44_code, 5, (some .int))
def M_Mo_look : Mt := (⟨R_Mo, "look", "(I)I"⟩, prog_11_method_47_code, 10, (some .int))
def M_Mo_hears : Mt := (⟨R_Mo, "hears", "(II)I"⟩, prog_11_method_48_code, 3, (some .int))
def M_Mo_laws : Mt := (⟨R_Mo, "laws", "(I)I"⟩, prog_11_method_49_code, 9, (some .int))
def M_Mo_forget : Mt := (⟨R_Mo, "forget", "()I"⟩, prog_11_method_50_code, 2, (some .int))
def M_Mo_mark : Mt := (⟨R_Mo, "mark", "(II)I"⟩, prog_11_method_52_code, 7, (some .int))
def M_Mo_bodiesOf : Mt := (⟨R_Mo, "bodiesOf", "(I)I"⟩, prog_11_method_51_code, 1, (some .int))
def M_Mo_trace : Mt := (⟨R_Mo, "trace", "()J"⟩, prog_11_method_53_code, 1, (some .long))
def M_Mo_keep : Mt := (⟨R_Mo, "keep", "(I)I"⟩, prog_11_method_54_code, 3, (some .int))
def M_Mo_back : Mt := (⟨R_Mo, "back", "(I)I"⟩, prog_11_method_55_code, 3, (some .int))
def M_Mo_count : Mt := (⟨R_Mo, "count", "(I)I"⟩, prog_11_method_56_code, 2, (some .int))
def M_La_law : Mt := (⟨R_La, "law", "([I)Z"⟩, code, 4, some .boolean)
end
section
/-! THE ENGINE. A heap is a function from numbers to cells; a method's run is said over it, and carried to the machine once and for all. -/
/-- a cell: ints (type, length, contents), references (type, length, contents), an object (class, fields) -/
abbrev AC : Type := (Nat × Nat × (Nat → Int32)) ⊕ (Nat × Nat × (Nat → Option Nat)) ⊕ (Nat × List Value)
/-- a heap: how many cells and slots have been made; the cells -/
abbrev AH : Type := (Nat × Nat) × (Nat → Option AC)
/-- what a run is over: the launch, the classes' numbers and slots, the array classes; where new cells begin, where the read-only rows lie, what they hold -/
abbrev EX : Type := (Launch × va_G × (Nat → ClassId)) × (Nat × (Nat → Nat) × (Nat → Nat × (Nat → Int32)))
def e_am (X : EX) (k : Nat) : Nat := if k < 1000000 then X.2.1 + k else X.2.2.1 (k - 1000000)
def e_tr (X : EX) : Value → Value
  | .ref k => .ref (e_am X k)
  | v => v
def e_rf (X : EX) : Option Nat → Value
  | none => .null
  | some k => .ref (e_am X k)
def e_A (X : EX) : Nat → Prop := fun q => X.2.1 ≤ q
def e_tys : List FieldType := [.int, .byte, .boolean, .object R_Fl, .object R_Im, .array .int]
def e_at (X : EX) (k : Nat) (c : AC) (H : Heap) : Prop := match c with
  | .inl a => H[X.2.1 + k]? = some (arrV (X.1.2.2 a.1) a.2.1 (fun j => .int (a.2.2 j)))
  | .inr (.inl a) => H[X.2.1 + k]? = some (arrV (X.1.2.2 a.1) a.2.1 (fun j => e_rf X (a.2.2 j)))
  | .inr (.inr o) => ∃ r : vw_C, e_cl[o.1]? = some r ∧ t_OB (X.2.1 + k) (X.1.2.1.1 o.1) r.2.2 (X.1.2.1.2 o.1) H (vp_V (o.2.map (e_tr X)))
def e_P (X : EX) (h : AH) (H : Heap) : Prop := H.size = X.2.1 + h.1.1 ∧ ∀ (k : Nat) (c : AC), h.2 k = some c → k < 1000000 ∧ e_at X k c H
def e_put (h : AH) (a : Nat) (c : AC) : AH := (h.1, fun k => if k = a then some c else h.2 k)
def e_new (h : AH) (c : AC) (n : Nat) : AH := ((h.1.1 + 1, h.1.2 + n), fun k => if k = h.1.1 then some c else h.2 k)
def e_K (X : EX) (U : State) : Prop := va_K X.1.2.1 e_cl ((List.range 6).map (fun t => (X.1.2.2 t, e_tys.getD t .int))) U
def e_N (U : State) : Prop := ∀ w ∈ e_nw, va_Nw w U
def e_AOA (U : State) : Prop := (Cond.arrayOver (.array .int)).before #[] U = true
theorem e_AOA_moved {u U : State} (hvm : u.vm.Alike U.vm) (h : e_AOA u) : e_AOA U := by
  obtain ⟨comp, c, k, h1, h2, h3, h4, h5⟩ := arrayOverA_spec h
  obtain ⟨k', hk', he⟩ := hvm.2.2 _ _ h3
  have hi : (U.vm.classes.findIdx? fun (x : Class) => match x.kind with | .array component _ => component == comp | _ => false) = some c := by
    rw [hvm.findIdx?_eq _ (fun _ => rfl)]; exact h2
  have hkind : k'.kind = .array comp (.array .int) := by rw [he]; exact h4
  have f1 : U.vm.findClass (FieldType.array .int).toString = some comp := by rw [hvm.findClass]; exact h1
  have f2 : U.vm.findClass ("[" ++ (FieldType.array .int).toString) = some c := by rw [hvm.findClass]; exact h5
  unfold e_AOA Cond.before Cond.holds
  simp only [Cond.value]
  rw [f1, Option.bind_some]
  refine (congrArg (fun o : Option Nat => (o.bind (fun c => (U.vm.classes[c]?).map fun (k : Class) => match k.kind with | .array _ ty => decide (ty = FieldType.array .int) && decide (U.vm.findClass ("[" ++ (FieldType.array .int).toString) = some c) | _ => false) == some true)) hi).trans ?_
  simp [hk', hkind, f2]
def e_O (U : State) : Prop := va_AO R_Fl U ∧ va_AO R_Im U ∧ e_AOA U
def e_RO (X : EX) (U : State) (H : Heap) : Prop := ∀ j : Nat, j < 4 → ∃ cell : Cell, H[X.2.2.1 j]? = some cell ∧ U.isArrayOf cell .int ∧ cell.vm ≠ .unknown ∧ cell.slots.size = (X.2.2.2 j).1 ∧ (∀ i : Nat, i < (X.2.2.2 j).1 → cell.slots[i]? = some (.int ((X.2.2.2 j).2 i))) ∧ X.2.2.1 j < X.2.1
def e_Z (X : EX) (U : State) (H : Heap) : Prop := va_Z R_Tx "NUMBERS" "[I" (.ref (X.2.2.1 0)) (e_A X) U H ∧ va_Z R_Tx "LEAST" "[I" (.ref (X.2.2.1 1)) (e_A X) U H ∧ va_Z R_Tx "MOST" "[I" (.ref (X.2.2.1 2)) (e_A X) U H
def e_E (X : EX) (U : State) (H : Heap) : Prop := e_K X U ∧ e_N U ∧ e_O U ∧ e_RO X U H ∧ e_Z X U H ∧ X.2.1 ≤ H.size
def e_C (X : EX) (M : Mt) (p : Program) (s : State) (m : MethodId) (args : Array Value) (meth : Method) (c : Code) : Prop :=
  p.tables.exec = Jvm.exec ∧ c.code = M.2.1 ∧ c.maxLocals = M.2.2.1 ∧ s.vm.findClass M.1.cls = some m.cls ∧ (∀ w ∈ e_gw, w.before args s = true) ∧ meth.sig.returnType = M.2.2.2 ∧ meth.locks = false ∧ (M.1.name = "<init>" → meth.name = "<init>") ∧ e_E X s s.heap
def e_L (X : EX) (n : Nat) (ls : List Value) (l : Array Slot) : Prop := ls.length = n ∧ l.size = n ∧ lv_wf l ∧ ∀ (i : Nat) (v : Value), ls[i]? = some v → v ≠ .null → l[i]? = some (.val (e_tr X v))
def e_F (X : EX) (M : Mt) (p : Program) (e : Env) (R : Room) (s : State) (m : MethodId) (args : Array Value) (below : List Frame) (meth : Method) (c : Code) (n0 s0 : Nat) (Q : State → Prop) (r : Option Value) (h' : AH) : Prop :=
  ∀ (H : Heap) (locs : List Loc) (l : Array Slot) (pc cells slots : Nat), e_P X h' H → va_S (e_A X) s.heap H locs → cells + n0 = h'.1.1 → slots + s0 = h'.1.2 →
    (r = none → M.2.2.2 = none → decode M.2.1 pc = .ok (.return_, 1) → W p X.1.1 e R s m args below meth c H locs cells slots Q (F0 m pc l [])) ∧
    (∀ (v : Int32) (ty : FieldType), r = some (.int v) → M.2.2.2 = some ty → narrow ty (.int v) = .int v → decode M.2.1 pc = .ok (.ireturn, 1) → W p X.1.1 e R s m args below meth c H locs cells slots Q (F0 m pc l [.int v])) ∧
    (∀ v : Int64, r = some (.long v) → M.2.2.2 = some .long → decode M.2.1 pc = .ok (.lreturn, 1) → W p X.1.1 e R s m args below meth c H locs cells slots Q (F0 m pc l [.long v]))
def e_W (X : EX) (d : Nat) (M : Mt) (pc : Nat) (ls st : List Value) (h : AH) (r : Option Value) (h' : AH) : Prop :=
  (h.1.1 ≤ h'.1.1 ∧ h.1.2 ≤ h'.1.2) ∧ ∀ (p : Program) (e : Env) (R : Room) (s : State) (m : MethodId) (args : Array Value) (below : List Frame) (meth : Method) (c : Code) (H : Heap) (locs : List Loc) (cells slots : Nat) (Q : State → Prop) (n0 s0 : Nat) (l : Array Slot),
    e_C X M p s m args meth c → d ≤ R.frames → 60 * d ≤ R.locals → h'.1.1 ≤ R.cells + n0 → h'.1.2 ≤ R.slots + s0 → e_P X h H → va_S (e_A X) s.heap H locs → cells + n0 = h.1.1 → slots + s0 = h.1.2 → e_L X M.2.2.1 ls l → e_F X M p e R s m args below meth c n0 s0 Q r h' →
    W p X.1.1 e R s m args below meth c H locs cells slots Q (F0 m pc l (st.map (e_tr X)))
/-- from this point of the method it comes to its end, and Q of its answer and the heap -/
def T (X : EX) (d : Nat) (M : Mt) (pc : Nat) (ls st : List Value) (h : AH) (Q : Option Value → AH → Prop) : Prop := ∃ (r : Option Value) (h' : AH), Q r h' ∧ e_W X d M pc ls st h r h'
def e_Pc (X : EX) (av : List Value) (h : AH) : Array Value → State → Prop := fun v U => v = (av.map (e_tr X)).toArray ∧ e_P X h U.heap ∧ e_E X U U.heap
def e_Qc (X : EX) (r : Option Value) (h' : AH) : Array Value → State → Outcome → State → Prop := fun _ st oc t => oc = .returned (r.map (e_tr X)) ∧ e_P X h' t.heap ∧ va_F (e_A X) st t
def e_ws (M : Mt) : List Cond := .code M.1 M.2.1 M.2.2.1 M.2.2.2 :: e_gw
def e_M (X : EX) (d : Nat) (M : Mt) (av : List Value) (h : AH) (r : Option Value) (h' : AH) : Prop :=
  (h.1.1 ≤ h'.1.1 ∧ h.1.2 ≤ h'.1.2) ∧ Met X.1.1 M.1 (e_ws M) ({ frames := d, cells := h'.1.1 - h.1.1, slots := h'.1.2 - h.1.2, locals := 60 * d }) (e_Pc X av h) (e_Qc X r h') (h'.1.1 - h.1.1) (h'.1.2 - h.1.2) (e_A X)
/-- a method's contract: called so, it ends, and Q of its answer and the heap -/
def C (X : EX) (d : Nat) (M : Mt) (av : List Value) (h : AH) (Q : Option Value → AH → Prop) : Prop := ∃ (r : Option Value) (h' : AH), Q r h' ∧ e_M X d M av h r h'
section ENG
variable {X : EX} {d : Nat} {M : Mt} {pc pc' : Nat} {ls ls' st st' : List Value} {h : AH} {Q : Option Value → AH → Prop}
/-- one step that leaves the heap as it is -/
theorem T_pure (hw : ∀ (p : Program) (e : Env) (R : Room) (s : State) (m : MethodId) (args : Array Value) (below : List Frame) (meth : Method) (c : Code) (H : Heap) (locs : List Loc) (cells slots : Nat) (Q : State → Prop) (l : Array Slot), e_C X M p s m args meth c → d ≤ R.frames → 60 * d ≤ R.locals → cells ≤ R.cells → slots ≤ R.slots → e_P X h H → va_S (e_A X) s.heap H locs → e_L X M.2.2.1 ls l → (∀ l' : Array Slot, e_L X M.2.2.1 ls' l' → W p X.1.1 e R s m args below meth c H locs cells slots Q (F0 m pc' l' (st'.map (e_tr X)))) → W p X.1.1 e R s m args below meth c H locs cells slots Q (F0 m pc l (st.map (e_tr X))))
    (k : T X d M pc' ls' st' h Q) : T X d M pc ls st h Q := by
  obtain ⟨r, h', q, mono, w⟩ := k
  refine ⟨r, h', q, mono, fun p e R s m args below meth c H locs cells slots Q n0 s0 l hC h1 h2 h3 h4 hP hS hc hs hL hF => ?_⟩
  exact hw p e R s m args below meth c H locs cells slots Q l hC h1 h2 (by omega) (by omega) hP hS hL (fun l' hL' => w p e R s m args below meth c H locs cells slots Q n0 s0 l' hC h1 h2 h3 h4 hP hS hc hs hL' hF)
theorem T_iconst {n : Int} {v : Int32} (hd : decode M.2.1 pc = .ok (.iconst n, 1)) (hn : pc + 1 = pc') (hv : Int32.ofInt n = v) (k : T X d M pc' ls (.int v :: st) h Q) : T X d M pc ls st h Q :=
  T_pure (fun p e R s m args below meth c H locs cells slots Q l hC _ _ _ _ _ _ hL hk => lv_iconst hC.1 hC.2.1 hd hv (by rw [hn]; exact hk l hL)) k
theorem T_bipush {n : Int} {v : Int32} (hd : decode M.2.1 pc = .ok (.bipush n, 2)) (hn : pc + 2 = pc') (hv : (Int8.ofInt n).toInt32 = v) (k : T X d M pc' ls (.int v :: st) h Q) : T X d M pc ls st h Q :=
  T_pure (fun p e R s m args below meth c H locs cells slots Q l hC _ _ _ _ _ _ hL hk => lv_bipush hC.1 hC.2.1 hd hv (by rw [hn]; exact hk l hL)) k
theorem T_sipush {n : Int} {v : Int32} (hd : decode M.2.1 pc = .ok (.sipush n, 3)) (hn : pc + 3 = pc') (hv : (Int16.ofInt n).toInt32 = v) (k : T X d M pc' ls (.int v :: st) h Q) : T X d M pc ls st h Q :=
  T_pure (fun p e R s m args below meth c H locs cells slots Q l hC _ _ _ _ _ _ hL hk => lv_sipush hC.1 hC.2.1 hd hv (by rw [hn]; exact hk l hL)) k
theorem T_lconst {n : Fin 2} {v : Int64} (hd : decode M.2.1 pc = .ok (.lconst n, 1)) (hn : pc + 1 = pc') (hv : Int64.ofNat (n : Nat) = v) (k : T X d M pc' ls (.long v :: st) h Q) : T X d M pc ls st h Q :=
  T_pure (fun p e R s m args below meth c H locs cells slots Q l hC _ _ _ _ _ _ hL hk => lv_lconst hC.1 hC.2.1 hd hv (by rw [hn]; exact hk l hL)) k
theorem T_ldc {index : Nat} {v : Int32} (hd : decode M.2.1 pc = .ok (.ldc index, 2)) (hn : pc + 2 = pc') (hv : Cond.constant M.1.cls index v ∈ e_gw) (k : T X d M pc' ls (.int v :: st) h Q) : T X d M pc ls st h Q :=
  T_pure (fun p e R s m args below meth c H locs cells slots Q l hC _ _ _ _ _ _ hL hk => lv_ldc hC.1 hC.2.1 hC.2.2.2.1 (hC.2.2.2.2.1 _ hv) hd (by rw [hn]; exact hk l hL)) k
theorem T_ldcw {index : Nat} {v : Int32} (hd : decode M.2.1 pc = .ok (.ldc_w index, 3)) (hn : pc + 3 = pc') (hv : Cond.constant M.1.cls index v ∈ e_gw) (k : T X d M pc' ls (.int v :: st) h Q) : T X d M pc ls st h Q :=
  T_pure (fun p e R s m args below meth c H locs cells slots Q l hC _ _ _ _ _ _ hL hk => lv_ldcw hC.1 hC.2.1 hC.2.2.2.1 (hC.2.2.2.2.1 _ hv) hd (by rw [hn]; exact hk l hL)) k
theorem T_ldc2 {index : Nat} {v : Int64} (hd : decode M.2.1 pc = .ok (.ldc2_w index, 3)) (hn : pc + 3 = pc') (hv : Cond.constantLong M.1.cls index v ∈ e_gw) (k : T X d M pc' ls (.long v :: st) h Q) : T X d M pc ls st h Q :=
  T_pure (fun p e R s m args below meth c H locs cells slots Q l hC _ _ _ _ _ _ hL hk => lv_ldc2 hC.1 hC.2.1 hC.2.2.2.1 (hC.2.2.2.2.1 _ hv) hd (by rw [hn]; exact hk l hL)) k
theorem e_Lat {n i : Nat} {l : Array Slot} {v : Value} (hL : e_L X n ls l) (hi : ls[i]? = some v) (hv : v ≠ .null) : l[i]? = some (.val (e_tr X v)) := hL.2.2.2 i v hi hv
theorem T_iload_n {k : Fin 4} {i : Nat} {x : Int32} (hd : decode M.2.1 pc = .ok (.iload_n k, 1)) (hn : pc + 1 = pc') (hk : (k : Nat) = i) (hl : ls[i]? = some (.int x)) (kk : T X d M pc' ls (.int x :: st) h Q) : T X d M pc ls st h Q :=
  T_pure (fun p e R s m args below meth c H locs cells slots Q l hC _ _ _ _ _ _ hL hq => lv_iload_n hC.1 hC.2.1 hd hk (e_Lat hL hl (fun z => by cases z)) (by rw [hn]; exact hq l hL)) kk
theorem T_iload {i : Nat} {x : Int32} (hd : decode M.2.1 pc = .ok (.iload i, 2)) (hn : pc + 2 = pc') (hl : ls[i]? = some (.int x)) (kk : T X d M pc' ls (.int x :: st) h Q) : T X d M pc ls st h Q :=
  T_pure (fun p e R s m args below meth c H locs cells slots Q l hC _ _ _ _ _ _ hL hq => lv_iload hC.1 hC.2.1 hd (e_Lat hL hl (fun z => by cases z)) (by rw [hn]; exact hq l hL)) kk
theorem T_lload {i : Nat} {x : Int64} (hd : decode M.2.1 pc = .ok (.lload i, 2)) (hn : pc + 2 = pc') (hl : ls[i]? = some (.long x)) (kk : T X d M pc' ls (.long x :: st) h Q) : T X d M pc ls st h Q :=
  T_pure (fun p e R s m args below meth c H locs cells slots Q l hC _ _ _ _ _ _ hL hq => lv_lload hC.1 hC.2.1 hd (e_Lat hL hl (fun z => by cases z)) (by rw [hn]; exact hq l hL)) kk
theorem T_aload_n {k : Fin 4} {i : Nat} {x : Nat} (hd : decode M.2.1 pc = .ok (.aload_n k, 1)) (hn : pc + 1 = pc') (hk : (k : Nat) = i) (hl : ls[i]? = some (.ref x)) (kk : T X d M pc' ls (.ref x :: st) h Q) : T X d M pc ls st h Q :=
  T_pure (fun p e R s m args below meth c H locs cells slots Q l hC _ _ _ _ _ _ hL hq => lv_aload_n hC.1 hC.2.1 hd hk (e_Lat hL hl (fun z => by cases z)) (by rw [hn]; exact hq l hL)) kk
theorem T_aload {i : Nat} {x : Nat} (hd : decode M.2.1 pc = .ok (.aload i, 2)) (hn : pc + 2 = pc') (hl : ls[i]? = some (.ref x)) (kk : T X d M pc' ls (.ref x :: st) h Q) : T X d M pc ls st h Q :=
  T_pure (fun p e R s m args below meth c H locs cells slots Q l hC _ _ _ _ _ _ hL hq => lv_aload hC.1 hC.2.1 hd (e_Lat hL hl (fun z => by cases z)) (by rw [hn]; exact hq l hL)) kk
theorem T_iadd {x y : Int32} (hd : decode M.2.1 pc = .ok (.iadd, 1)) (hn : pc + 1 = pc') (k : T X d M pc' ls (.int (x + y) :: st) h Q) : T X d M pc ls (.int y :: .int x :: st) h Q :=
  T_pure (fun p e R s m args below meth c H locs cells slots Q l hC _ _ _ _ _ _ hL hk => lv_iadd hC.1 hC.2.1 hd (by rw [hn]; exact hk l hL)) k
theorem T_isub {x y : Int32} (hd : decode M.2.1 pc = .ok (.isub, 1)) (hn : pc + 1 = pc') (k : T X d M pc' ls (.int (x - y) :: st) h Q) : T X d M pc ls (.int y :: .int x :: st) h Q :=
  T_pure (fun p e R s m args below meth c H locs cells slots Q l hC _ _ _ _ _ _ hL hk => lv_isub hC.1 hC.2.1 hd (by rw [hn]; exact hk l hL)) k
theorem T_imul {x y : Int32} (hd : decode M.2.1 pc = .ok (.imul, 1)) (hn : pc + 1 = pc') (k : T X d M pc' ls (.int (x * y) :: st) h Q) : T X d M pc ls (.int y :: .int x :: st) h Q :=
  T_pure (fun p e R s m args below meth c H locs cells slots Q l hC _ _ _ _ _ _ hL hk => lv_imul hC.1 hC.2.1 hd (by rw [hn]; exact hk l hL)) k
theorem T_idiv {x y : Int32} (hd : decode M.2.1 pc = .ok (.idiv, 1)) (hn : pc + 1 = pc') (hy : ¬ y = 0) (k : T X d M pc' ls (.int (x / y) :: st) h Q) : T X d M pc ls (.int y :: .int x :: st) h Q :=
  T_pure (fun p e R s m args below meth c H locs cells slots Q l hC _ _ _ _ _ _ hL hk => lv_idiv hC.1 hC.2.1 hd hy (by rw [hn]; exact hk l hL)) k
theorem T_irem {x y : Int32} (hd : decode M.2.1 pc = .ok (.irem, 1)) (hn : pc + 1 = pc') (hy : ¬ y = 0) (k : T X d M pc' ls (.int (x - x / y * y) :: st) h Q) : T X d M pc ls (.int y :: .int x :: st) h Q :=
  T_pure (fun p e R s m args below meth c H locs cells slots Q l hC _ _ _ _ _ _ hL hk => lv_irem hC.1 hC.2.1 hd hy (by rw [hn]; exact hk l hL)) k
theorem T_ineg {x : Int32} (hd : decode M.2.1 pc = .ok (.ineg, 1)) (hn : pc + 1 = pc') (k : T X d M pc' ls (.int (-x) :: st) h Q) : T X d M pc ls (.int x :: st) h Q :=
  T_pure (fun p e R s m args below meth c H locs cells slots Q l hC _ _ _ _ _ _ hL hk => lv_ineg hC.1 hC.2.1 hd (by rw [hn]; exact hk l hL)) k
theorem T_iand {x y : Int32} (hd : decode M.2.1 pc = .ok (.iand, 1)) (hn : pc + 1 = pc') (k : T X d M pc' ls (.int (x &&& y) :: st) h Q) : T X d M pc ls (.int y :: .int x :: st) h Q :=
  T_pure (fun p e R s m args below meth c H locs cells slots Q l hC _ _ _ _ _ _ hL hk => lv_iand hC.1 hC.2.1 hd (by rw [hn]; exact hk l hL)) k
theorem T_ior {x y : Int32} (hd : decode M.2.1 pc = .ok (.ior, 1)) (hn : pc + 1 = pc') (k : T X d M pc' ls (.int (x ||| y) :: st) h Q) : T X d M pc ls (.int y :: .int x :: st) h Q :=
  T_pure (fun p e R s m args below meth c H locs cells slots Q l hC _ _ _ _ _ _ hL hk => lv_ior hC.1 hC.2.1 hd (by rw [hn]; exact hk l hL)) k
theorem T_ixor {x y : Int32} (hd : decode M.2.1 pc = .ok (.ixor, 1)) (hn : pc + 1 = pc') (k : T X d M pc' ls (.int (x ^^^ y) :: st) h Q) : T X d M pc ls (.int y :: .int x :: st) h Q :=
  T_pure (fun p e R s m args below meth c H locs cells slots Q l hC _ _ _ _ _ _ hL hk => lv_ixor hC.1 hC.2.1 hd (by rw [hn]; exact hk l hL)) k
theorem T_ishl {x y : Int32} (hd : decode M.2.1 pc = .ok (.ishl, 1)) (hn : pc + 1 = pc') (k : T X d M pc' ls (.int (x <<< (y &&& 31)) :: st) h Q) : T X d M pc ls (.int y :: .int x :: st) h Q :=
  T_pure (fun p e R s m args below meth c H locs cells slots Q l hC _ _ _ _ _ _ hL hk => lv_ishl hC.1 hC.2.1 hd (by rw [hn]; exact hk l hL)) k
theorem T_ishr {x y : Int32} (hd : decode M.2.1 pc = .ok (.ishr, 1)) (hn : pc + 1 = pc') (k : T X d M pc' ls (.int (x >>> (y &&& 31)) :: st) h Q) : T X d M pc ls (.int y :: .int x :: st) h Q :=
  T_pure (fun p e R s m args below meth c H locs cells slots Q l hC _ _ _ _ _ _ hL hk => lv_ishr hC.1 hC.2.1 hd (by rw [hn]; exact hk l hL)) k
theorem T_iushr {x y : Int32} (hd : decode M.2.1 pc = .ok (.iushr, 1)) (hn : pc + 1 = pc') (k : T X d M pc' ls (.int ((x.toUInt32 >>> (y.toUInt32 &&& Int32.toUInt32 31)).toInt32) :: st) h Q) : T X d M pc ls (.int y :: .int x :: st) h Q :=
  T_pure (fun p e R s m args below meth c H locs cells slots Q l hC _ _ _ _ _ _ hL hk => lv_iushr hC.1 hC.2.1 hd rfl (by rw [hn]; exact hk l hL)) k
theorem T_i2b {x : Int32} (hd : decode M.2.1 pc = .ok (.i2b, 1)) (hn : pc + 1 = pc') (k : T X d M pc' ls (.int x.toInt8.toInt32 :: st) h Q) : T X d M pc ls (.int x :: st) h Q :=
  T_pure (fun p e R s m args below meth c H locs cells slots Q l hC _ _ _ _ _ _ hL hk => lv_i2b hC.1 hC.2.1 hd rfl (by rw [hn]; exact hk l hL)) k
theorem T_ladd {x y : Int64} (hd : decode M.2.1 pc = .ok (.ladd, 1)) (hn : pc + 1 = pc') (k : T X d M pc' ls (.long (x + y) :: st) h Q) : T X d M pc ls (.long y :: .long x :: st) h Q :=
  T_pure (fun p e R s m args below meth c H locs cells slots Q l hC _ _ _ _ _ _ hL hk => lv_ladd hC.1 hC.2.1 hd (by rw [hn]; exact hk l hL)) k
theorem T_lmul {x y : Int64} (hd : decode M.2.1 pc = .ok (.lmul, 1)) (hn : pc + 1 = pc') (k : T X d M pc' ls (.long (x * y) :: st) h Q) : T X d M pc ls (.long y :: .long x :: st) h Q :=
  T_pure (fun p e R s m args below meth c H locs cells slots Q l hC _ _ _ _ _ _ hL hk => lv_lmul hC.1 hC.2.1 hd (by rw [hn]; exact hk l hL)) k
theorem T_lcmp {x y : Int64} (hd : decode M.2.1 pc = .ok (.lcmp, 1)) (hn : pc + 1 = pc') (k : T X d M pc' ls (.int (lg_cmp x y) :: st) h Q) : T X d M pc ls (.long y :: .long x :: st) h Q :=
  T_pure (fun p e R s m args below meth c H locs cells slots Q l hC _ _ _ _ _ _ hL hk => W.lcmp hC.1 hC.2.1 hd (by rw [hn]; exact hk l hL)) k
theorem e_cat (v : Value) : (e_tr X v).category = v.category := by cases v <;> rfl
theorem T_dup {v : Value} (hd : decode M.2.1 pc = .ok (.dup, 1)) (hn : pc + 1 = pc') (hv : v.category = 1) (k : T X d M pc' ls (v :: v :: st) h Q) : T X d M pc ls (v :: st) h Q :=
  T_pure (fun p e R s m args below meth c H locs cells slots Q l hC _ _ _ _ _ _ hL hk => lv_dup hC.1 hC.2.1 hd ((e_cat v).trans hv) (by rw [hn]; exact hk l hL)) k
theorem T_pop {v : Value} (hd : decode M.2.1 pc = .ok (.pop, 1)) (hn : pc + 1 = pc') (hv : v.category = 1) (k : T X d M pc' ls st h Q) : T X d M pc ls (v :: st) h Q :=
  T_pure (fun p e R s m args below meth c H locs cells slots Q l hC _ _ _ _ _ _ hL hk => lv_pop hC.1 hC.2.1 hd ((e_cat v).trans hv) (by rw [hn]; exact hk l hL)) k
theorem T_dup2 {v w : Value} (hd : decode M.2.1 pc = .ok (.dup2, 1)) (hn : pc + 1 = pc') (hv : v.category = 1) (hw : w.category = 1) (k : T X d M pc' ls (v :: w :: v :: w :: st) h Q) : T X d M pc ls (v :: w :: st) h Q :=
  T_pure (fun p e R s m args below meth c H locs cells slots Q l hC _ _ _ _ _ _ hL hk => lv_dup2_11 hC.1 hC.2.1 hd ((e_cat v).trans hv) ((e_cat w).trans hw) (by rw [hn]; exact hk l hL)) k
theorem T_goto {off : Int} (hd : decode M.2.1 pc = .ok (.goto off, 3)) (hn : (pc : Int) + off = (pc' : Int)) (k : T X d M pc' ls st h Q) : T X d M pc ls st h Q :=
  T_pure (fun p e R s m args below meth c H locs cells slots Q l hC _ _ _ _ _ _ hL hk => lv_goto hC.1 hC.2.1 hd hn (hk l hL)) k
end ENG
end
section
section ENG2
variable {X : EX} {d : Nat} {M : Mt} {pc pc' : Nat} {ls ls' st st' : List Value} {h : AH} {Q : Option Value → AH → Prop}
theorem T_icmp_eq {x y : Int32} {off : Int} {tgt : Nat} (hd : decode M.2.1 pc = .ok (.if_icmp .eq off, 3)) (hn : pc + 3 = pc') (ht : (pc : Int) + off = (tgt : Int)) (kt : x = y → T X d M tgt ls st h Q) (kf : ¬ x = y → T X d M pc' ls st h Q) : T X d M pc ls (.int y :: .int x :: st) h Q := by
  by_cases hc : x = y
  · exact T_pure (fun p e R s m args below meth c H locs cells slots Q l hC _ _ _ _ _ _ hL hk => lv_icmp_eq hC.1 hC.2.1 hd ht (fun _ => hk l hL) (fun q => absurd hc (by first | exact q | (intro z; exact absurd z q) | simpa using q))) (kt hc)
  · exact T_pure (fun p e R s m args below meth c H locs cells slots Q l hC _ _ _ _ _ _ hL hk => lv_icmp_eq hC.1 hC.2.1 hd ht (fun q => absurd q hc) (fun _ => by rw [hn]; exact hk l hL)) (kf (by first | exact hc | simpa using hc))
theorem T_if_eq {x : Int32} {off : Int} {tgt : Nat} (hd : decode M.2.1 pc = .ok (.ifCond .eq off, 3)) (hn : pc + 3 = pc') (ht : (pc : Int) + off = (tgt : Int)) (kt : x = 0 → T X d M tgt ls st h Q) (kf : ¬ x = 0 → T X d M pc' ls st h Q) : T X d M pc ls (.int x :: st) h Q := by
  by_cases hc : x = 0
  · exact T_pure (fun p e R s m args below meth c H locs cells slots Q l hC _ _ _ _ _ _ hL hk => lv_if_eq hC.1 hC.2.1 hd ht (fun _ => hk l hL) (fun q => absurd hc (by first | exact q | (intro z; exact absurd z q) | simpa using q))) (kt hc)
  · exact T_pure (fun p e R s m args below meth c H locs cells slots Q l hC _ _ _ _ _ _ hL hk => lv_if_eq hC.1 hC.2.1 hd ht (fun q => absurd q hc) (fun _ => by rw [hn]; exact hk l hL)) (kf (by first | exact hc | simpa using hc))
theorem T_icmp_ne {x y : Int32} {off : Int} {tgt : Nat} (hd : decode M.2.1 pc = .ok (.if_icmp .ne off, 3)) (hn : pc + 3 = pc') (ht : (pc : Int) + off = (tgt : Int)) (kt : ¬ x = y → T X d M tgt ls st h Q) (kf : x = y → T X d M pc' ls st h Q) : T X d M pc ls (.int y :: .int x :: st) h Q := by
  by_cases hc : ¬ x = y
  · exact T_pure (fun p e R s m args below meth c H locs cells slots Q l hC _ _ _ _ _ _ hL hk => lv_icmp_ne hC.1 hC.2.1 hd ht (fun _ => hk l hL) (fun q => absurd hc (by first | exact q | (intro z; exact absurd z q) | simpa using q))) (kt hc)
  · exact T_pure (fun p e R s m args below meth c H locs cells slots Q l hC _ _ _ _ _ _ hL hk => lv_icmp_ne hC.1 hC.2.1 hd ht (fun q => absurd q hc) (fun _ => by rw [hn]; exact hk l hL)) (kf (by first | exact hc | simpa using hc))
theorem T_if_ne {x : Int32} {off : Int} {tgt : Nat} (hd : decode M.2.1 pc = .ok (.ifCond .ne off, 3)) (hn : pc + 3 = pc') (ht : (pc : Int) + off = (tgt : Int)) (kt : ¬ x = 0 → T X d M tgt ls st h Q) (kf : x = 0 → T X d M pc' ls st h Q) : T X d M pc ls (.int x :: st) h Q := by
  by_cases hc : ¬ x = 0
  · exact T_pure (fun p e R s m args below meth c H locs cells slots Q l hC _ _ _ _ _ _ hL hk => lv_if_ne hC.1 hC.2.1 hd ht (fun _ => hk l hL) (fun q => absurd hc (by first | exact q | (intro z; exact absurd z q) | simpa using q))) (kt hc)
  · exact T_pure (fun p e R s m args below meth c H locs cells slots Q l hC _ _ _ _ _ _ hL hk => lv_if_ne hC.1 hC.2.1 hd ht (fun q => absurd q hc) (fun _ => by rw [hn]; exact hk l hL)) (kf (by first | exact hc | simpa using hc))
theorem T_icmp_lt {x y : Int32} {off : Int} {tgt : Nat} (hd : decode M.2.1 pc = .ok (.if_icmp .lt off, 3)) (hn : pc + 3 = pc') (ht : (pc : Int) + off = (tgt : Int)) (kt : x < y → T X d M tgt ls st h Q) (kf : ¬ x < y → T X d M pc' ls st h Q) : T X d M pc ls (.int y :: .int x :: st) h Q := by
  by_cases hc : x < y
  · exact T_pure (fun p e R s m args below meth c H locs cells slots Q l hC _ _ _ _ _ _ hL hk => lv_icmp_lt hC.1 hC.2.1 hd ht (fun _ => hk l hL) (fun q => absurd hc (by first | exact q | (intro z; exact absurd z q) | simpa using q))) (kt hc)
  · exact T_pure (fun p e R s m args below meth c H locs cells slots Q l hC _ _ _ _ _ _ hL hk => lv_icmp_lt hC.1 hC.2.1 hd ht (fun q => absurd q hc) (fun _ => by rw [hn]; exact hk l hL)) (kf (by first | exact hc | simpa using hc))
theorem T_if_lt {x : Int32} {off : Int} {tgt : Nat} (hd : decode M.2.1 pc = .ok (.ifCond .lt off, 3)) (hn : pc + 3 = pc') (ht : (pc : Int) + off = (tgt : Int)) (kt : x < 0 → T X d M tgt ls st h Q) (kf : ¬ x < 0 → T X d M pc' ls st h Q) : T X d M pc ls (.int x :: st) h Q := by
  by_cases hc : x < 0
  · exact T_pure (fun p e R s m args below meth c H locs cells slots Q l hC _ _ _ _ _ _ hL hk => lv_if_lt hC.1 hC.2.1 hd ht (fun _ => hk l hL) (fun q => absurd hc (by first | exact q | (intro z; exact absurd z q) | simpa using q))) (kt hc)
  · exact T_pure (fun p e R s m args below meth c H locs cells slots Q l hC _ _ _ _ _ _ hL hk => lv_if_lt hC.1 hC.2.1 hd ht (fun q => absurd q hc) (fun _ => by rw [hn]; exact hk l hL)) (kf (by first | exact hc | simpa using hc))
theorem T_icmp_ge {x y : Int32} {off : Int} {tgt : Nat} (hd : decode M.2.1 pc = .ok (.if_icmp .ge off, 3)) (hn : pc + 3 = pc') (ht : (pc : Int) + off = (tgt : Int)) (kt : y ≤ x → T X d M tgt ls st h Q) (kf : ¬ y ≤ x → T X d M pc' ls st h Q) : T X d M pc ls (.int y :: .int x :: st) h Q := by
  by_cases hc : y ≤ x
  · exact T_pure (fun p e R s m args below meth c H locs cells slots Q l hC _ _ _ _ _ _ hL hk => lv_icmp_ge hC.1 hC.2.1 hd ht (fun _ => hk l hL) (fun q => absurd hc (by first | exact q | (intro z; exact absurd z q) | simpa using q))) (kt hc)
  · exact T_pure (fun p e R s m args below meth c H locs cells slots Q l hC _ _ _ _ _ _ hL hk => lv_icmp_ge hC.1 hC.2.1 hd ht (fun q => absurd q hc) (fun _ => by rw [hn]; exact hk l hL)) (kf (by first | exact hc | simpa using hc))
theorem T_if_ge {x : Int32} {off : Int} {tgt : Nat} (hd : decode M.2.1 pc = .ok (.ifCond .ge off, 3)) (hn : pc + 3 = pc') (ht : (pc : Int) + off = (tgt : Int)) (kt : 0 ≤ x → T X d M tgt ls st h Q) (kf : ¬ 0 ≤ x → T X d M pc' ls st h Q) : T X d M pc ls (.int x :: st) h Q := by
  by_cases hc : 0 ≤ x
  · exact T_pure (fun p e R s m args below meth c H locs cells slots Q l hC _ _ _ _ _ _ hL hk => lv_if_ge hC.1 hC.2.1 hd ht (fun _ => hk l hL) (fun q => absurd hc (by first | exact q | (intro z; exact absurd z q) | simpa using q))) (kt hc)
  · exact T_pure (fun p e R s m args below meth c H locs cells slots Q l hC _ _ _ _ _ _ hL hk => lv_if_ge hC.1 hC.2.1 hd ht (fun q => absurd q hc) (fun _ => by rw [hn]; exact hk l hL)) (kf (by first | exact hc | simpa using hc))
theorem T_icmp_gt {x y : Int32} {off : Int} {tgt : Nat} (hd : decode M.2.1 pc = .ok (.if_icmp .gt off, 3)) (hn : pc + 3 = pc') (ht : (pc : Int) + off = (tgt : Int)) (kt : y < x → T X d M tgt ls st h Q) (kf : ¬ y < x → T X d M pc' ls st h Q) : T X d M pc ls (.int y :: .int x :: st) h Q := by
  by_cases hc : y < x
  · exact T_pure (fun p e R s m args below meth c H locs cells slots Q l hC _ _ _ _ _ _ hL hk => lv_icmp_gt hC.1 hC.2.1 hd ht (fun _ => hk l hL) (fun q => absurd hc (by first | exact q | (intro z; exact absurd z q) | simpa using q))) (kt hc)
  · exact T_pure (fun p e R s m args below meth c H locs cells slots Q l hC _ _ _ _ _ _ hL hk => lv_icmp_gt hC.1 hC.2.1 hd ht (fun q => absurd q hc) (fun _ => by rw [hn]; exact hk l hL)) (kf (by first | exact hc | simpa using hc))
theorem T_if_gt {x : Int32} {off : Int} {tgt : Nat} (hd : decode M.2.1 pc = .ok (.ifCond .gt off, 3)) (hn : pc + 3 = pc') (ht : (pc : Int) + off = (tgt : Int)) (kt : 0 < x → T X d M tgt ls st h Q) (kf : ¬ 0 < x → T X d M pc' ls st h Q) : T X d M pc ls (.int x :: st) h Q := by
  by_cases hc : 0 < x
  · exact T_pure (fun p e R s m args below meth c H locs cells slots Q l hC _ _ _ _ _ _ hL hk => lv_if_gt hC.1 hC.2.1 hd ht (fun _ => hk l hL) (fun q => absurd hc (by first | exact q | (intro z; exact absurd z q) | simpa using q))) (kt hc)
  · exact T_pure (fun p e R s m args below meth c H locs cells slots Q l hC _ _ _ _ _ _ hL hk => lv_if_gt hC.1 hC.2.1 hd ht (fun q => absurd q hc) (fun _ => by rw [hn]; exact hk l hL)) (kf (by first | exact hc | simpa using hc))
theorem T_icmp_le {x y : Int32} {off : Int} {tgt : Nat} (hd : decode M.2.1 pc = .ok (.if_icmp .le off, 3)) (hn : pc + 3 = pc') (ht : (pc : Int) + off = (tgt : Int)) (kt : x ≤ y → T X d M tgt ls st h Q) (kf : ¬ x ≤ y → T X d M pc' ls st h Q) : T X d M pc ls (.int y :: .int x :: st) h Q := by
  by_cases hc : x ≤ y
  · exact T_pure (fun p e R s m args below meth c H locs cells slots Q l hC _ _ _ _ _ _ hL hk => lv_icmp_le hC.1 hC.2.1 hd ht (fun _ => hk l hL) (fun q => absurd hc (by first | exact q | (intro z; exact absurd z q) | simpa using q))) (kt hc)
  · exact T_pure (fun p e R s m args below meth c H locs cells slots Q l hC _ _ _ _ _ _ hL hk => lv_icmp_le hC.1 hC.2.1 hd ht (fun q => absurd q hc) (fun _ => by rw [hn]; exact hk l hL)) (kf (by first | exact hc | simpa using hc))
theorem T_if_le {x : Int32} {off : Int} {tgt : Nat} (hd : decode M.2.1 pc = .ok (.ifCond .le off, 3)) (hn : pc + 3 = pc') (ht : (pc : Int) + off = (tgt : Int)) (kt : x ≤ 0 → T X d M tgt ls st h Q) (kf : ¬ x ≤ 0 → T X d M pc' ls st h Q) : T X d M pc ls (.int x :: st) h Q := by
  by_cases hc : x ≤ 0
  · exact T_pure (fun p e R s m args below meth c H locs cells slots Q l hC _ _ _ _ _ _ hL hk => lv_if_le hC.1 hC.2.1 hd ht (fun _ => hk l hL) (fun q => absurd hc (by first | exact q | (intro z; exact absurd z q) | simpa using q))) (kt hc)
  · exact T_pure (fun p e R s m args below meth c H locs cells slots Q l hC _ _ _ _ _ _ hL hk => lv_if_le hC.1 hC.2.1 hd ht (fun q => absurd q hc) (fun _ => by rw [hn]; exact hk l hL)) (kf (by first | exact hc | simpa using hc))
theorem T_tableIn {dflt lo hi : Int} {offs : Array Int} {len : Nat} {x : Int32} {off : Int} (hd : decode M.2.1 pc = .ok (.tableswitch dflt lo hi offs, len)) (h1 : ¬ x.toInt < lo) (h2 : ¬ hi < x.toInt) (ho : offs[(x.toInt - lo).toNat]? = some off) (ht : (pc : Int) + off = (pc' : Int)) (k : T X d M pc' ls st h Q) : T X d M pc ls (.int x :: st) h Q :=
  T_pure (fun p e R s m args below meth c H locs cells slots Q l hC _ _ _ _ _ _ hL hk => lv_tableIn hC.1 hC.2.1 hd h1 h2 ho ht (hk l hL)) k
theorem T_tableOut {dflt lo hi : Int} {offs : Array Int} {len : Nat} {x : Int32} (hd : decode M.2.1 pc = .ok (.tableswitch dflt lo hi offs, len)) (h1 : x.toInt < lo ∨ hi < x.toInt) (ht : (pc : Int) + dflt = (pc' : Int)) (k : T X d M pc' ls st h Q) : T X d M pc ls (.int x :: st) h Q :=
  T_pure (fun p e R s m args below meth c H locs cells slots Q l hC _ _ _ _ _ _ hL hk => lv_tableOut hC.1 hC.2.1 hd h1 ht (hk l hL)) k
theorem T_lookup {dflt : Int} {ps : Array (Int × Int)} {len : Nat} {x : Int32} {off : Int} (hd : decode M.2.1 pc = .ok (.lookupswitch dflt ps, len)) (hp : (ps.toList.zip (ps.toList.drop 1)).all (fun (a, next) => a.1 < next.1) = true) (ho : Op.lookupswitch.offset ps.toList dflt x.toInt = off) (ht : (pc : Int) + off = (pc' : Int)) (k : T X d M pc' ls st h Q) : T X d M pc ls (.int x :: st) h Q :=
  T_pure (fun p e R s m args below meth c H locs cells slots Q l hC _ _ _ _ _ _ hL hk => lv_lookup hC.1 hC.2.1 hd hp ho ht (hk l hL)) k
/-- the place ahead of i holds no long -/
def e_ok (ls : List Value) : Nat → Bool
  | 0 => true
  | j + 1 => match ls[j]? with
    | some v => v.category == 1
    | none => true
/-- the locals that are known, by their places -/
def e_kn (X : EX) (ls : List Value) : List (Nat × Value) := (ls.zipIdx.filter (fun q => !(q.1 == Value.null))).map (fun q => (q.2, e_tr X q.1))
theorem e_kn_mem {i : Nat} {w : Value} (hq : (i, w) ∈ e_kn X ls) : ∃ v, ls[i]? = some v ∧ v ≠ .null ∧ w = e_tr X v := by
  obtain ⟨⟨v, j⟩, h1, h2⟩ := List.mem_map.mp hq
  obtain ⟨h3, h4⟩ := List.mem_filter.mp h1
  cases h2
  refine ⟨v, ?_, ?_, rfl⟩
  · simpa using List.mem_zipIdx_iff_getElem?.mp h3
  · intro z; subst z; simp at h4
theorem e_kn_of {i : Nat} {v : Value} (hi : ls[i]? = some v) (hv : v ≠ .null) : (i, e_tr X v) ∈ e_kn X ls := by
  refine List.mem_map.mpr ⟨(v, i), List.mem_filter.mpr ⟨List.mem_zipIdx_iff_getElem?.mpr (by simpa using hi), ?_⟩, rfl⟩
  simp [hv]
theorem e_L_has {n : Nat} {l : Array Slot} (hL : e_L X n ls l) : lv_has l n (e_kn X ls) := by
  refine ⟨hL.2.1, hL.2.2.1, fun q hq => ?_⟩
  obtain ⟨v, h1, h2, h3⟩ := e_kn_mem (i := q.1) (w := q.2) hq
  rw [h3]
  exact hL.2.2.2 _ _ h1 h2
theorem e_L_set {n i : Nat} {l' : Array Slot} {v : Value} (hlen : ls.length = n) (hok : e_ok ls i = true) (h' : lv_has l' n ((i, e_tr X v) :: (e_kn X ls).filter (fun q => !(q.1 == i) && !(q.1 + 1 == i && q.2.category == 2)))) : e_L X n (ls.set i v) l' := by
  refine ⟨by simpa using hlen, h'.1, h'.2.1, fun j w hj hw => ?_⟩
  by_cases hji : j = i
  · subst hji
    have hlt : j < ls.length := by
      have := (List.getElem?_eq_some_iff.mp hj).1
      simpa using this
    rw [List.getElem?_set_self hlt] at hj
    cases hj
    exact h'.2.2 (j, e_tr X v) List.mem_cons_self
  · rw [List.getElem?_set_ne (Ne.symm hji)] at hj
    refine h'.2.2 (j, e_tr X w) (List.mem_cons_of_mem _ (List.mem_filter.mpr ⟨e_kn_of hj hw, ?_⟩))
    have h1 : (j == i) = false := by simpa using hji
    simp only [h1, Bool.not_false, Bool.true_and, Bool.not_eq_true', Bool.and_eq_false_iff]
    by_cases h2 : j + 1 = i
    · right
      subst h2
      simp only [e_ok, hj] at hok
      rw [e_cat]
      have : w.category = 1 := by simpa using hok
      rw [this]; rfl
    · left; simpa using h2
theorem T_istore_n {k : Fin 4} {i : Nat} {x : Int32} (hd : decode M.2.1 pc = .ok (.istore_n k, 1)) (hn : pc + 1 = pc') (hk : (k : Nat) = i) (hi : i < M.2.2.1) (hok : e_ok ls i = true) (hl : ls.set i (.int x) = ls') (kk : T X d M pc' ls' st h Q) : T X d M pc ls (.int x :: st) h Q := by
  subst hl
  exact T_pure (fun p e R s m args below meth c H locs cells slots Q l hC _ _ _ _ _ _ hL hq => lv_istore_n hC.1 hC.2.1 hd hk (e_L_has hL) hi rfl (fun l' h' => by rw [hn]; exact hq l' (e_L_set hL.1 hok h'))) kk
theorem T_istore {i : Nat} {x : Int32} (hd : decode M.2.1 pc = .ok (.istore i, 2)) (hn : pc + 2 = pc') (hi : i < M.2.2.1) (hok : e_ok ls i = true) (hl : ls.set i (.int x) = ls') (kk : T X d M pc' ls' st h Q) : T X d M pc ls (.int x :: st) h Q := by
  subst hl
  exact T_pure (fun p e R s m args below meth c H locs cells slots Q l hC _ _ _ _ _ _ hL hq => lv_istore hC.1 hC.2.1 hd (e_L_has hL) hi rfl (fun l' h' => by rw [hn]; exact hq l' (e_L_set hL.1 hok h'))) kk
theorem T_astore_n {k : Fin 4} {i : Nat} {x : Nat} (hd : decode M.2.1 pc = .ok (.astore_n k, 1)) (hn : pc + 1 = pc') (hk : (k : Nat) = i) (hi : i < M.2.2.1) (hok : e_ok ls i = true) (hl : ls.set i (.ref x) = ls') (kk : T X d M pc' ls' st h Q) : T X d M pc ls (.ref x :: st) h Q := by
  subst hl
  exact T_pure (fun p e R s m args below meth c H locs cells slots Q l hC _ _ _ _ _ _ hL hq => lv_astore_n hC.1 hC.2.1 hd hk (e_L_has hL) hi rfl (fun l' h' => by rw [hn]; exact hq l' (e_L_set hL.1 hok h'))) kk
theorem T_astore {i : Nat} {x : Nat} (hd : decode M.2.1 pc = .ok (.astore i, 2)) (hn : pc + 2 = pc') (hi : i < M.2.2.1) (hok : e_ok ls i = true) (hl : ls.set i (.ref x) = ls') (kk : T X d M pc' ls' st h Q) : T X d M pc ls (.ref x :: st) h Q := by
  subst hl
  exact T_pure (fun p e R s m args below meth c H locs cells slots Q l hC _ _ _ _ _ _ hL hq => lv_astore hC.1 hC.2.1 hd (e_L_has hL) hi rfl (fun l' h' => by rw [hn]; exact hq l' (e_L_set hL.1 hok h'))) kk
theorem T_iinc {i : Nat} {n : Int} {x v : Int32} (hd : decode M.2.1 pc = .ok (.iinc i n, 3)) (hn : pc + 3 = pc') (hx : ls[i]? = some (.int x)) (hv : x + Int32.ofInt n = v) (hi : i < M.2.2.1) (hok : e_ok ls i = true) (hl : ls.set i (.int v) = ls') (kk : T X d M pc' ls' st h Q) : T X d M pc ls st h Q := by
  subst hl
  refine T_pure (fun p e R s m args below meth c H locs cells slots Q l hC _ _ _ _ _ _ hL hq => ?_) kk
  obtain ⟨j, hj⟩ := List.getElem?_of_mem (e_kn_of (X := X) hx (fun z => by cases z))
  exact lv_iinc hC.1 hC.2.1 hd (e_L_has hL) hj hv hi rfl (fun l' h' => by rw [hn]; exact hq l' (e_L_set hL.1 hok h'))
theorem T_lstore {i : Nat} {x : Int64} (hd : decode M.2.1 pc = .ok (.lstore i, 2)) (hn : pc + 2 = pc') (hi : i + 1 < M.2.2.1) (hok : e_ok ls i = true) (hl : (ls.set i (.long x)).set (i + 1) .null = ls') (kk : T X d M pc' ls' st h Q) : T X d M pc ls (.long x :: st) h Q := by
  subst hl
  refine T_pure (fun p e R s m args below meth c H locs cells slots Q l hC _ _ _ _ _ _ hL hq => ?_) kk
  refine lv_lstore hC.1 hC.2.1 hd (e_L_has hL) hi rfl (fun l' h' => ?_)
  rw [hn]
  refine hq l' ?_
  refine ⟨by simpa using hL.1, h'.1, h'.2.1, fun j w hj hw => ?_⟩
  have hlen := hL.1
  by_cases hj1 : j = i + 1
  · subst hj1
    rw [List.getElem?_set_self (by rw [List.length_set]; omega)] at hj
    cases hj
    exact absurd rfl hw
  · rw [List.getElem?_set_ne (Ne.symm hj1)] at hj
    by_cases hji : j = i
    · subst hji
      rw [List.getElem?_set_self (by omega)] at hj
      cases hj
      exact h'.2.2 (j, .long x) List.mem_cons_self
    · rw [List.getElem?_set_ne (Ne.symm hji)] at hj
      refine h'.2.2 (j, e_tr X w) (List.mem_cons_of_mem _ (List.mem_filter.mpr ⟨e_kn_of hj hw, ?_⟩))
      have h1 : (j == i) = false := by simpa using hji
      have h1' : (j == i + 1) = false := by simpa using hj1
      simp only [h1, h1', Bool.not_false, Bool.true_and, Bool.not_eq_true', Bool.and_eq_false_iff]
      by_cases h2 : j + 1 = i
      · right
        subst h2
        simp only [e_ok, hj] at hok
        rw [e_cat]
        have : w.category = 1 := by simpa using hok
        rw [this]; rfl
      · left; simpa using h2
end ENG2
end
section
/-! fields, arrays, new cells -/
def KC (ci : Nat) (r : vw_C) (ty : Nat → FieldType) : Prop := e_cl[ci]? = some r ∧ (∀ w ∈ u_ws r.1 r.2.1 r.2.2, w ∈ e_gw) ∧ (∀ k, k < r.2.2 → parseFieldDescriptor (r.2.1 k).2.2.1 = some (ty k)) ∧ (∀ a, a < r.2.2 → ∀ b, b < r.2.2 → a ≠ b → (r.2.1 a).2.1 ≠ (r.2.1 b).2.1)
/-- entry idx of the class own names field k of class ci: its type, whether it is final -/
def FL (own : String) (idx ci k : Nat) (ty : FieldType) (fin : Bool) : Prop := ∃ (r : vw_C) (tys : Nat → FieldType), KC ci r tys ∧ k < r.2.2 ∧ (Cond.fieldLink own idx r.1 (r.2.1 k).2.1 (r.2.1 k).2.2.1 ∈ e_gw ∨ ∃ host, Cond.fieldLinkNest own idx r.1 (r.2.1 k).2.1 (r.2.1 k).2.2.1 host ∈ e_nw ∧ fin = false) ∧ tys k = ty ∧ (r.2.1 k).2.2.2 = fin ∧ (r.2.1 k).1 = r.1 ∧ (fin = true → own = r.1)
/-- entry idx of the class own names field k of class ci: to be read -/
def FG (own : String) (idx ci k : Nat) : Prop := ∃ (r : vw_C) (tys : Nat → FieldType), KC ci r tys ∧ k < r.2.2 ∧ (Cond.fieldLink own idx r.1 (r.2.1 k).2.1 (r.2.1 k).2.2.1 ∈ e_gw ∨ ∃ host, Cond.fieldLinkNest own idx r.1 (r.2.1 k).2.1 (r.2.1 k).2.2.1 host ∈ e_nw) ∧ (r.2.1 k).1 = r.1
theorem FL.g {own : String} {idx ci k : Nat} {ty : FieldType} {fin : Bool} (h : FL own idx ci k ty fin) : FG own idx ci k := by
  obtain ⟨r, tys, h1, h2, h3, -, -, h4, -⟩ := h
  exact ⟨r, tys, h1, h2, h3.imp id (fun ⟨host, q, _⟩ => ⟨host, q⟩), h4⟩
section ENG3
variable {X : EX} {d : Nat} {M : Mt} {pc pc' : Nat} {ls ls' st st' : List Value} {h : AH} {Q : Option Value → AH → Prop}
theorem e_am_lt {k : Nat} (hk : k < 1000000) : e_am X k = X.2.1 + k := by rw [e_am, if_pos hk]
theorem e_V (fs : List Value) (k : Nat) {v : Value} (hv : fs[k]? = some v) : vp_V (fs.map (e_tr X)) k = e_tr X v := by
  simp [vp_V, hv]
theorem T_get {idx ci k a : Nat} {fs : List Value} {v : Value} (hd : decode M.2.1 pc = .ok (.getfield idx, 3)) (hn : pc + 3 = pc') (hf : FG M.1.cls idx ci k) (ha : h.2 a = some (.inr (.inr (ci, fs)))) (hv : fs[k]? = some v) (kk : T X d M pc' ls (v :: st) h Q) : T X d M pc ls (.ref a :: st) h Q := by
  refine T_pure (fun p e R s m args below meth c H locs cells slots Q l hC _ _ _ _ hP hS hL hq => ?_) kk
  obtain ⟨r, tys, ⟨k1, k2, k3, k4⟩, hk, hl, hr⟩ := hf
  obtain ⟨hlt, r', k1', hob⟩ := hP.2 a _ ha
  cases k1.symm.trans k1'
  obtain ⟨hx, hb, hml, hown, hts, -, -, -, hE⟩ := hC
  show W p X.1.1 e R s m args below meth c H locs cells slots Q (F0 m pc l (.ref (e_am X a) :: st.map (e_tr X)))
  rw [e_am_lt hlt]
  obtain ⟨cell, q1, q2, q3, q4⟩ := hob
  obtain ⟨hSl, hfc, kC, hkC, hkind⟩ := hE.1.1 ci _ k1
  obtain ⟨cf, kf, fi, f, hi, hsl⟩ := hSl k hk
  have hst := (u_facts hfc hkC (u_lays hts k2 hk) hi).1
  have hval : cell.slots[f.slot]? = some (e_tr X v) := by rw [hsl, q4 k hk, e_V fs k hv]
  rw [hr] at hi
  have fin9 : W p X.1.1 e R s m args below meth c H locs cells slots Q (F0 m (pc + 3) l (e_tr X v :: st.map (e_tr X))) := by rw [hn]; exact hq l hL
  rcases hl with hl | ⟨host, hl⟩
  · exact W.getf hx hb hown (hts _ hl) hi hst q1 (by rw [q3]; exact fun z => by cases z) hval rfl rfl hd fin9
  · exact va_Wgetf hx hb hown (va_Nw.use rfl (hE.2.1 _ hl)) hi hst q1 (by rw [q3]; exact fun z => by cases z) hval rfl rfl hd fin9
theorem e_P_put {a : Nat} {c0 c1 : AC} {H H1 : Heap} (hP : e_P X h H) (ha : h.2 a = some c0) (hc : e_at X a c1 H1) (hz : H1.size = H.size) (ho : ∀ q : Nat, q ≠ X.2.1 + a → H1[q]? = H[q]?) : e_P X (e_put h a c1) H1 := by
  refine ⟨hz.trans hP.1, fun k c hk => ?_⟩
  by_cases hka : k = a
  · subst hka
    have hk' : c1 = c := by simpa [e_put] using hk
    subst hk'
    exact ⟨(hP.2 k _ ha).1, hc⟩
  · have hk' : h.2 k = some c := by simpa [e_put, hka] using hk
    obtain ⟨g1, g2⟩ := hP.2 k c hk'
    refine ⟨g1, ?_⟩
    have hq := ho (X.2.1 + k) (by omega)
    match c, g2 with
    | .inl x, g2 => exact hq.trans g2
    | .inr (.inl x), g2 => exact hq.trans g2
    | .inr (.inr o), ⟨r, r1, r2⟩ => exact ⟨r, r1, r2.kept hq⟩
theorem e_S_put {a k : Nat} {H0 H H1 : Heap} {locs : List Loc} (hS : va_S (e_A X) H0 H locs) (hz : H1.size = H.size) (ho : ∀ q : Nat, q ≠ X.2.1 + a → H1[q]? = H[q]?) : va_S (e_A X) H0 H1 (locs ++ [⟨X.2.1 + a, k⟩]) :=
  hS.put hz ho (Nat.le_add_right _ _)
/-- one step that changes one cell -/
theorem T_set {a : Nat} {c0 c1 : AC} (ha : h.2 a = some c0)
    (hw : ∀ (p : Program) (e : Env) (R : Room) (s : State) (m : MethodId) (args : Array Value) (below : List Frame) (meth : Method) (c : Code) (H : Heap) (locs : List Loc) (cells slots : Nat) (Q : State → Prop) (l : Array Slot), e_C X M p s m args meth c → d ≤ R.frames → 60 * d ≤ R.locals → e_P X h H → va_S (e_A X) s.heap H locs → e_L X M.2.2.1 ls l → (∀ (H1 : Heap) (locs1 : List Loc), e_at X a c1 H1 → H1.size = H.size → (∀ q : Nat, q ≠ X.2.1 + a → H1[q]? = H[q]?) → va_S (e_A X) s.heap H1 locs1 → W p X.1.1 e R s m args below meth c H1 locs1 cells slots Q (F0 m pc' l (st'.map (e_tr X)))) → W p X.1.1 e R s m args below meth c H locs cells slots Q (F0 m pc l (st.map (e_tr X))))
    (k : T X d M pc' ls st' (e_put h a c1) Q) : T X d M pc ls st h Q := by
  obtain ⟨r, h', q, mono, w⟩ := k
  refine ⟨r, h', q, mono, fun p e R s m args below meth c H locs cells slots Q n0 s0 l hC h1 h2 h3 h4 hP hS hc hs hL hF => ?_⟩
  exact hw p e R s m args below meth c H locs cells slots Q l hC h1 h2 hP hS hL (fun H1 locs1 g1 g2 g3 g4 => w p e R s m args below meth c H1 locs1 cells slots Q n0 s0 l hC h1 h2 h3 h4 (e_P_put hP ha g1 g2 g3) g4 hc hs hL hF)
theorem e_upd (fs : List Value) {k : Nat} (hk : k < fs.length) (v : Value) (j : Nat) : updV (vp_V (fs.map (e_tr X))) k (e_tr X v) j = vp_V ((fs.set k v).map (e_tr X)) j := by
  rw [List.map_set]
  exact vp_updV_set (by simpa using hk) _ j
theorem T_put {idx ci k a : Nat} {ty : FieldType} {fin : Bool} {fs fs' : List Value} {v : Value} (hd : decode M.2.1 pc = .ok (.putfield idx, 3)) (hn : pc + 3 = pc') (hf : FL M.1.cls idx ci k ty fin) (hfi : fin = true → M.1.name = "<init>") (ha : h.2 a = some (.inr (.inr (ci, fs)))) (hl0 : k < fs.length) (hnv : narrow ty (e_tr X v) = e_tr X v) (hfv : fits ty (e_tr X v) = true) (hfs : fs.set k v = fs') (kk : T X d M pc' ls st (e_put h a (.inr (.inr (ci, fs')))) Q) : T X d M pc ls (v :: .ref a :: st) h Q := by
  subst hfs
  refine T_set ha (fun p e R s m args below meth c H locs cells slots Q l hC _ _ hP hS hL hq => ?_) kk
  obtain ⟨r, tys, ⟨k1, k2, k3, k4⟩, hk, hl, hty, hfin, hr, hofin⟩ := hf
  obtain ⟨hlt, r', k1', hob⟩ := hP.2 a _ ha
  cases k1.symm.trans k1'
  obtain ⟨hx, hb, hml, hown, hts, -, -, hin, hE⟩ := hC
  show W p X.1.1 e R s m args below meth c H locs cells slots Q (F0 m pc l (e_tr X v :: .ref (e_am X a) :: st.map (e_tr X)))
  rw [e_am_lt hlt]
  have hap := va_apart (own := M.1.cls) hts k2 tys k3 k4 hE.1 k1
  obtain ⟨cell, q1, q2, q3, q4⟩ := hob
  obtain ⟨hSl, hfc, kC, hkC, hkind⟩ := hE.1.1 ci _ k1
  obtain ⟨cf, kf, fi, f, hi, hsl⟩ := hSl k hk
  have hst := (u_facts hfc hkC (u_lays hts k2 hk) hi).1
  have hlay := hts _ (k2 _ (u_in_lay hk))
  have hdesc := k3 k hk
  rw [hty] at hdesc
  unfold u_lay at hlay
  have hout : ∀ H1 : Heap, H1[X.2.1 + a]? = some (cell.setSlot f.slot (e_tr X v)) → H1.size = H.size → (∀ q, q ≠ X.2.1 + a → H1[q]? = H[q]?) → W p X.1.1 e R s m args below meth c H1 (locs ++ [⟨X.2.1 + a, f.slot⟩]) cells slots Q (F0 m (pc + 3) l (st.map (e_tr X))) := by
    intro H1 e1 e2 e3
    rw [hn]
    rw [hsl] at e1
    refine hq H1 _ ⟨r, k1, t_OB.to (V := updV (vp_V (fs.map (e_tr X))) k (e_tr X v)) ⟨_, e1, q2, q3, t_set q4 hap hk (e_tr X v)⟩ (fun j _ => e_upd fs hl0 v j)⟩ e2 e3 (e_S_put hS e2 e3)
  have hslot : f.slot < cell.slots.size := by rw [hsl]; exact k2_hasslot (q4 k hk)
  cases fin with
  | false =>
    rw [if_neg (by rw [hfin]; decide)] at hlay
    have h6 := u_store hfc hkC hkind hlay hi hdesc hnv hfv
    rw [hr] at hi
    rcases hl with hl | ⟨host, hl, -⟩
    · exact W.putK hx hb (f := f) ⟨hown, hts _ hl, ⟨_, _, _, hi⟩, hst⟩ (by rw [q2]; exact h6) q1 q3 hslot rfl rfl hd hout
    · exact va_WputK hx hb (f := f) hown (va_Nw.use rfl (hE.2.1 _ hl)) hi hst (by rw [q2]; exact h6) q1 q3 hslot rfl rfl hd hout
  | true =>
    rw [if_pos hfin] at hlay
    have h6 := u_fits hfc hkC hkind (Or.inr hlay) hi hdesc hnv hfv
    have hcf : m.cls = cf := by
      obtain ⟨_, _, c', _, _, _, -, -, hf', -, -, -, hown2, -⟩ := Cond.laysFinal_spec hlay
      have e1 : c' = cf := by have := hi.symm.trans hf'; simp at this; exact this.1.symm
      rw [hr, ← hofin rfl] at hown2
      rw [← e1]; exact Option.some.inj (hown.symm.trans hown2)
    rw [hr] at hi
    rcases hl with hl | ⟨host, hl, hz⟩
    · exact W.putFinK hx hb hown (hts _ hl) hi hst hcf (hin (hfi rfl)) (by rw [q2]; exact h6) q1 q3 hslot rfl rfl hd hout
    · exact absurd hz (by decide)
end ENG3
end
section
section ENG4
variable {X : EX} {d : Nat} {M : Mt} {pc pc' : Nat} {ls ls' st st' : List Value} {h : AH} {Q : Option Value → AH → Prop}
theorem e_ty {U : State} (hK : e_K X U) {t : Nat} (ht : t < 6) : ArrOfT U (X.1.2.2 t) (e_tys.getD t .int) ∧ va_RA U (X.1.2.2 t) (e_tys.getD t .int) :=
  hK.2 t (X.1.2.2 t, e_tys.getD t .int) (by rw [List.getElem?_map, List.getElem?_range ht]; rfl)
theorem e_in {i : Int32} {n : Nat} (hi : vp_in i n) : ¬ i < 0 ∧ i.toNatClampNeg < n := ⟨fun q => hi (Or.inl q), Nat.not_le.mp fun q => hi (Or.inr q)⟩
theorem e_am_ro (X : EX) (j : Nat) : e_am X (1000000 + j) = X.2.2.1 j := by
  rw [e_am, if_neg (by omega), Nat.add_sub_cancel_left]
theorem T_iaload {a n : Nat} {f : Nat → Int32} {i : Int32} (hd : decode M.2.1 pc = .ok (.iaload, 1)) (hn : pc + 1 = pc') (ha : h.2 a = some (.inl (0, n, f))) (hi : vp_in i n) (kk : T X d M pc' ls (.int (f i.toNatClampNeg) :: st) h Q) : T X d M pc ls (.int i :: .ref a :: st) h Q := by
  refine T_pure (fun p e R s m args below meth c H locs cells slots Q l hC _ _ _ _ hP hS hL hq => ?_) kk
  obtain ⟨hlt, hat⟩ := hP.2 a _ ha
  obtain ⟨hx, hb, -, -, -, -, -, -, hE⟩ := hC
  show W p X.1.1 e R s m args below meth c H locs cells slots Q (F0 m pc l (.int i :: .ref (e_am X a) :: st.map (e_tr X)))
  rw [e_am_lt hlt]
  exact W.iald (v := .int (f i.toNatClampNeg)) hx hb hat ((e_ty hE.1 (t := 0) (by decide)).1 n (fun j => .int (f j))) (fun q => by cases q) (by rw [arrV_size]; exact hi) (by rw [arrV_read _ _ (e_in hi).2]) rfl rfl hd (by rw [hn]; exact hq l hL)
theorem T_baload {a n : Nat} {f : Nat → Int32} {i : Int32} (hd : decode M.2.1 pc = .ok (.baload, 1)) (hn : pc + 1 = pc') (ha : h.2 a = some (.inl (1, n, f))) (hi : vp_in i n) (kk : T X d M pc' ls (.int (f i.toNatClampNeg) :: st) h Q) : T X d M pc ls (.int i :: .ref a :: st) h Q := by
  refine T_pure (fun p e R s m args below meth c H locs cells slots Q l hC _ _ _ _ hP hS hL hq => ?_) kk
  obtain ⟨hlt, hat⟩ := hP.2 a _ ha
  obtain ⟨hx, hb, -, -, -, -, -, -, hE⟩ := hC
  show W p X.1.1 e R s m args below meth c H locs cells slots Q (F0 m pc l (.int i :: .ref (e_am X a) :: st.map (e_tr X)))
  rw [e_am_lt hlt]
  exact W.bald (v := .int (f i.toNatClampNeg)) hx hb hat ((e_ty hE.1 (t := 1) (by decide)).1 n (fun j => .int (f j))) (fun q => by cases q) (by rw [arrV_size]; exact hi) (by rw [arrV_read _ _ (e_in hi).2]) rfl rfl hd (by rw [hn]; exact hq l hL)
theorem T_zaload {a n : Nat} {f : Nat → Int32} {i : Int32} (hd : decode M.2.1 pc = .ok (.baload, 1)) (hn : pc + 1 = pc') (ha : h.2 a = some (.inl (2, n, f))) (hi : vp_in i n) (kk : T X d M pc' ls (.int (f i.toNatClampNeg) :: st) h Q) : T X d M pc ls (.int i :: .ref a :: st) h Q := by
  refine T_pure (fun p e R s m args below meth c H locs cells slots Q l hC _ _ _ _ hP hS hL hq => ?_) kk
  obtain ⟨hlt, hat⟩ := hP.2 a _ ha
  obtain ⟨hx, hb, -, -, -, -, -, -, hE⟩ := hC
  show W p X.1.1 e R s m args below meth c H locs cells slots Q (F0 m pc l (.int i :: .ref (e_am X a) :: st.map (e_tr X)))
  rw [e_am_lt hlt]
  exact W.zald (v := .int (f i.toNatClampNeg)) hx hb hat ((e_ty hE.1 (t := 2) (by decide)).1 n (fun j => .int (f j))) (fun q => by cases q) (by rw [arrV_size]; exact hi) (by rw [arrV_read _ _ (e_in hi).2]) rfl rfl hd (by rw [hn]; exact hq l hL)
/-- f, but x at k -/
def e_up (f : Nat → Int32) (k : Nat) (x : Int32) : Nat → Int32 := fun j => if j = k then x else f j
theorem e_stored (cA : ClassId) (n k : Nat) (f : Nat → Int32) (x : Int32) : (arrV cA n (fun j => .int (f j))).setSlot k (.int x) = arrV cA n (fun j => .int (e_up f k x j)) := by
  rw [arrV_store]
  congr 1
  funext q
  by_cases hq : q = k
  · subst hq; simp [updV, e_up]
  · simp [updV, e_up, hq]
theorem T_iastore {a n : Nat} {f : Nat → Int32} {i x : Int32} (hd : decode M.2.1 pc = .ok (.iastore, 1)) (hn : pc + 1 = pc') (ha : h.2 a = some (.inl (0, n, f))) (hi : vp_in i n) (kk : T X d M pc' ls st (e_put h a (.inl (0, n, e_up f i.toNatClampNeg x))) Q) : T X d M pc ls (.int x :: .int i :: .ref a :: st) h Q := by
  refine T_set ha (fun p e R s m args below meth c H locs cells slots Q l hC _ _ hP hS hL hq => ?_) kk
  obtain ⟨hlt, hat⟩ := hP.2 a _ ha
  obtain ⟨hx, hb, -, -, -, -, -, -, hE⟩ := hC
  show W p X.1.1 e R s m args below meth c H locs cells slots Q (F0 m pc l (.int x :: .int i :: .ref (e_am X a) :: st.map (e_tr X)))
  rw [e_am_lt hlt]
  refine W.iast hx hb hat ((e_ty hE.1 (t := 0) (by decide)).1 n (fun j => .int (f j))) (fun q => by cases q) (by rw [arrV_size]; exact hi) rfl rfl hd fun H1 e1 e2 e3 => ?_
  show W p X.1.1 e R s m args below meth c H1 _ cells slots Q (F0 m (pc + 1) l (st.map (e_tr X)))
  rw [hn]
  exact hq H1 _ (e1.trans (congrArg some (e_stored _ n _ f x))) e2 e3 (e_S_put hS e2 e3)
theorem T_bastore {a n : Nat} {f : Nat → Int32} {i x : Int32} (hd : decode M.2.1 pc = .ok (.bastore, 1)) (hn : pc + 1 = pc') (ha : h.2 a = some (.inl (1, n, f))) (hi : vp_in i n) (kk : T X d M pc' ls st (e_put h a (.inl (1, n, e_up f i.toNatClampNeg x.toInt8.toInt32))) Q) : T X d M pc ls (.int x :: .int i :: .ref a :: st) h Q := by
  refine T_set ha (fun p e R s m args below meth c H locs cells slots Q l hC _ _ hP hS hL hq => ?_) kk
  obtain ⟨hlt, hat⟩ := hP.2 a _ ha
  obtain ⟨hx, hb, -, -, -, -, -, -, hE⟩ := hC
  show W p X.1.1 e R s m args below meth c H locs cells slots Q (F0 m pc l (.int x :: .int i :: .ref (e_am X a) :: st.map (e_tr X)))
  rw [e_am_lt hlt]
  refine W.bast hx hb hat ((e_ty hE.1 (t := 1) (by decide)).1 n (fun j => .int (f j))) (fun q => by cases q) (by rw [arrV_size]; exact hi) rfl rfl hd fun H1 e1 e2 e3 => ?_
  show W p X.1.1 e R s m args below meth c H1 _ cells slots Q (F0 m (pc + 1) l (st.map (e_tr X)))
  rw [hn]
  exact hq H1 _ (e1.trans (congrArg some (e_stored _ n _ f x.toInt8.toInt32))) e2 e3 (e_S_put hS e2 e3)
theorem T_zastore {a n : Nat} {f : Nat → Int32} {i x : Int32} (hd : decode M.2.1 pc = .ok (.bastore, 1)) (hn : pc + 1 = pc') (ha : h.2 a = some (.inl (2, n, f))) (hi : vp_in i n) (kk : T X d M pc' ls st (e_put h a (.inl (2, n, e_up f i.toNatClampNeg (x &&& 1)))) Q) : T X d M pc ls (.int x :: .int i :: .ref a :: st) h Q := by
  refine T_set ha (fun p e R s m args below meth c H locs cells slots Q l hC _ _ hP hS hL hq => ?_) kk
  obtain ⟨hlt, hat⟩ := hP.2 a _ ha
  obtain ⟨hx, hb, -, -, -, -, -, -, hE⟩ := hC
  show W p X.1.1 e R s m args below meth c H locs cells slots Q (F0 m pc l (.int x :: .int i :: .ref (e_am X a) :: st.map (e_tr X)))
  rw [e_am_lt hlt]
  refine W.zast hx hb hat ((e_ty hE.1 (t := 2) (by decide)).1 n (fun j => .int (f j))) (fun q => by cases q) (by rw [arrV_size]; exact hi) rfl rfl hd fun H1 e1 e2 e3 => ?_
  show W p X.1.1 e R s m args below meth c H1 _ cells slots Q (F0 m (pc + 1) l (st.map (e_tr X)))
  rw [hn]
  exact hq H1 _ (e1.trans (congrArg some (e_stored _ n _ f (x &&& 1)))) e2 e3 (e_S_put hS e2 e3)
theorem T_alen {a n : Nat} {f : Nat → Int32} (hd : decode M.2.1 pc = .ok (.arraylength, 1)) (hn : pc + 1 = pc') (ha : h.2 a = some (.inl (0, n, f))) (kk : T X d M pc' ls (.int (Int32.ofNat n) :: st) h Q) : T X d M pc ls (.ref a :: st) h Q := by
  refine T_pure (fun p e R s m args below meth c H locs cells slots Q l hC _ _ _ _ hP hS hL hq => ?_) kk
  obtain ⟨hlt, hat⟩ := hP.2 a _ ha
  obtain ⟨hx, hb, -, -, -, -, -, -, hE⟩ := hC
  show W p X.1.1 e R s m args below meth c H locs cells slots Q (F0 m pc l (.ref (e_am X a) :: st.map (e_tr X)))
  rw [e_am_lt hlt]
  exact W.alen hx hb hat ((e_ty hE.1 (t := 0) (by decide)).1 n (fun j => .int (f j))) (n := Int32.ofNat n) (by rw [arrV_size]) rfl rfl hd (by rw [hn]; exact hq l hL)
theorem T_aaload {a n t b : Nat} {g : Nat → Option Nat} {i : Int32} (hd : decode M.2.1 pc = .ok (.aaload, 1)) (hn : pc + 1 = pc') (ha : h.2 a = some (.inr (.inl (t, n, g)))) (ht : t < 6 ∧ 3 ≤ t) (hi : vp_in i n) (hg : g i.toNatClampNeg = some b) (kk : T X d M pc' ls (.ref b :: st) h Q) : T X d M pc ls (.int i :: .ref a :: st) h Q := by
  refine T_pure (fun p e R s m args below meth c H locs cells slots Q l hC _ _ _ _ hP hS hL hq => ?_) kk
  obtain ⟨hlt, hat⟩ := hP.2 a _ ha
  obtain ⟨hx, hb, -, -, -, -, -, -, hE⟩ := hC
  show W p X.1.1 e R s m args below meth c H locs cells slots Q (F0 m pc l (.int i :: .ref (e_am X a) :: st.map (e_tr X)))
  rw [e_am_lt hlt]
  have hr : (e_tys.getD t .int).isReference = true := by
    obtain ⟨t1, t2⟩ := ht
    have : t = 3 ∨ t = 4 ∨ t = 5 := by omega
    rcases this with rfl | rfl | rfl <;> rfl
  exact W.aald (v := .ref (e_am X b)) hx hb hat ((e_ty hE.1 ht.1).1 n (fun j => e_rf X (g j))) hr (fun q => by cases q) (by rw [arrV_size]; exact hi) (by rw [arrV_read _ _ (e_in hi).2]; show some (e_rf X (g i.toNatClampNeg)) = _; rw [hg]; rfl) rfl rfl hd (by rw [hn]; exact hq l hL)
/-- g, but b at k -/
def e_upr (g : Nat → Option Nat) (k : Nat) (b : Nat) : Nat → Option Nat := fun j => if j = k then some b else g j
theorem T_aastore {a n t b ci : Nat} {g : Nat → Option Nat} {vs : List Value} {i : Int32} (hd : decode M.2.1 pc = .ok (.aastore, 1)) (hn : pc + 1 = pc') (ha : h.2 a = some (.inr (.inl (t, n, g)))) (ht : (t = 3 ∧ ci = 0) ∨ (t = 4 ∧ ci = 2)) (hi : vp_in i n) (hbv : h.2 b = some (.inr (.inr (ci, vs)))) (kk : T X d M pc' ls st (e_put h a (.inr (.inl (t, n, e_upr g i.toNatClampNeg b)))) Q) : T X d M pc ls (.ref b :: .int i :: .ref a :: st) h Q := by
  refine T_set ha (fun p e R s m args below meth c H locs cells slots Q l hC _ _ hP hS hL hq => ?_) kk
  obtain ⟨hlt, hat⟩ := hP.2 a _ ha
  obtain ⟨hltb, r, hr, hob⟩ := hP.2 b _ hbv
  obtain ⟨hx, hb, -, -, -, -, -, -, hE⟩ := hC
  show W p X.1.1 e R s m args below meth c H locs cells slots Q (F0 m pc l (.ref (e_am X b) :: .int i :: .ref (e_am X a) :: st.map (e_tr X)))
  rw [e_am_lt hlt, e_am_lt hltb]
  obtain ⟨cellV, g1, g2, g3, -⟩ := hob
  have hcls := (hE.1.1 ci r hr).2
  have key : ∃ (kA : Class) (comp : ClassId), s.vm.classes[X.1.2.2 t]? = some kA ∧ kA.kind = .array comp (.object r.1) ∧ s.vm.findClass r.1 = some comp ∧ s.vm.findClass ("[" ++ (FieldType.object r.1).toString) = some (X.1.2.2 t) := by
    rcases ht with ⟨rfl, rfl⟩ | ⟨rfl, rfl⟩
    · cases hr; exact (e_ty hE.1 (t := 3) (by decide)).2
    · cases hr; exact (e_ty hE.1 (t := 4) (by decide)).2
  obtain ⟨kA, comp, k1, k2, k3, -⟩ := key
  have hcomp : comp = X.1.2.1.1 ci := Option.some.inj (k3.symm.trans hcls.1)
  subst hcomp
  obtain ⟨kC, hkC, -⟩ := hcls.2
  refine W.aast hx hb hat (fun q z => by cases z) (fun z => by cases z) k1 k2 rfl hkC ⟨(e_in hi).1, by rw [arrV_size]; exact (e_in hi).2⟩ g1 (fun q z => by rw [g3] at z; cases z) (by rw [g2]; exact hkC) (by rw [g2]; exact va_assign hcls) rfl rfl hd fun H1 e1 e2 e3 => ?_
  show W p X.1.1 e R s m args below meth c H1 _ cells slots Q (F0 m (pc + 1) l (st.map (e_tr X)))
  rw [hn]
  refine hq H1 _ (e1.trans (congrArg some ?_)) e2 e3 (e_S_put hS e2 e3)
  rw [arrV_store]
  congr 1
  funext q
  by_cases hqq : q = i.toNatClampNeg
  · subst hqq; simp [updV, e_upr, e_rf, e_am_lt hltb]
  · simp [updV, e_upr, hqq]
theorem T_roald {j : Nat} {i : Int32} (hd : decode M.2.1 pc = .ok (.iaload, 1)) (hn : pc + 1 = pc') (hj : j < 4) (hi : vp_in i (X.2.2.2 j).1) (kk : T X d M pc' ls (.int ((X.2.2.2 j).2 i.toNatClampNeg) :: st) h Q) : T X d M pc ls (.int i :: .ref (1000000 + j) :: st) h Q := by
  refine T_pure (fun p e R s m args below meth c H locs cells slots Q l hC _ _ _ _ hP hS hL hq => ?_) kk
  obtain ⟨hx, hb, -, -, -, -, -, -, hE⟩ := hC
  obtain ⟨cell, c1, c2, c3, c4, c5, c6⟩ := hE.2.2.2.1 j hj
  show W p X.1.1 e R s m args below meth c H locs cells slots Q (F0 m pc l (.int i :: .ref (e_am X (1000000 + j)) :: st.map (e_tr X)))
  have ham : e_am X (1000000 + j) = X.2.2.1 j := e_am_ro X j
  rw [ham]
  have hH : H[X.2.2.1 j]? = some cell := by
    rw [hS.2.1 _ (Array.getElem?_eq_some_iff.mp c1).1 (by show ¬ X.2.1 ≤ X.2.2.1 j; omega)]
    exact c1
  exact W.iald hx hb hH c2 c3 (by rw [c4]; exact hi) (c5 _ (e_in hi).2) rfl rfl hd (by rw [hn]; exact hq l hL)
theorem T_rolen {j : Nat} (hd : decode M.2.1 pc = .ok (.arraylength, 1)) (hn : pc + 1 = pc') (hj : j < 4) (kk : T X d M pc' ls (.int (Int32.ofNat (X.2.2.2 j).1) :: st) h Q) : T X d M pc ls (.ref (1000000 + j) :: st) h Q := by
  refine T_pure (fun p e R s m args below meth c H locs cells slots Q l hC _ _ _ _ hP hS hL hq => ?_) kk
  obtain ⟨hx, hb, -, -, -, -, -, -, hE⟩ := hC
  obtain ⟨cell, c1, c2, c3, c4, c5, c6⟩ := hE.2.2.2.1 j hj
  show W p X.1.1 e R s m args below meth c H locs cells slots Q (F0 m pc l (.ref (e_am X (1000000 + j)) :: st.map (e_tr X)))
  have ham : e_am X (1000000 + j) = X.2.2.1 j := e_am_ro X j
  rw [ham]
  have hH : H[X.2.2.1 j]? = some cell := by
    rw [hS.2.1 _ (Array.getElem?_eq_some_iff.mp c1).1 (by show ¬ X.2.1 ≤ X.2.2.1 j; omega)]
    exact c1
  exact W.alen hx hb hH c2 (n := Int32.ofNat (X.2.2.2 j).1) (by rw [c4]) rfl rfl hd (by rw [hn]; exact hq l hL)
theorem T_gets {idx j : Nat} {n : String} (hd : decode M.2.1 pc = .ok (.getstatic idx, 3)) (hn : pc + 3 = pc') (hj : (j = 0 ∧ n = "NUMBERS") ∨ (j = 1 ∧ n = "LEAST") ∨ (j = 2 ∧ n = "MOST")) (hl : Cond.fieldLink M.1.cls idx R_Tx n "[I" ∈ e_gw) (kk : T X d M pc' ls (.ref (1000000 + j) :: st) h Q) : T X d M pc ls st h Q := by
  refine T_pure (fun p e R s m args below meth c H locs cells slots Q l hC _ _ _ _ hP hS hL hq => ?_) kk
  obtain ⟨hx, hb, -, hown, hts, -, -, -, hE⟩ := hC
  have ham : e_am X (1000000 + j) = X.2.2.1 j := e_am_ro X j
  have hk := hq l hL
  have hk2 : W p X.1.1 e R s m args below meth c H locs cells slots Q (F0 m (pc + 3) l (.ref (X.2.2.1 j) :: st.map (e_tr X))) := by
    rw [hn, ← ham]; exact hk
  have hz : va_Z R_Tx n "[I" (.ref (X.2.2.1 j)) (e_A X) s s.heap := by
    rcases hj with ⟨rfl, rfl⟩ | ⟨rfl, rfl⟩ | ⟨rfl, rfl⟩
    · exact hE.2.2.2.2.1.1
    · exact hE.2.2.2.2.1.2.1
    · exact hE.2.2.2.2.1.2.2
  exact va_gets hx hb hz hS hown (hts _ hl) (fun _ z => z) hd hk2
end ENG4
end
section
section ENG5
variable {X : EX} {d : Nat} {M : Mt} {pc pc' : Nat} {ls ls' st st' : List Value} {h : AH} {Q : Option Value → AH → Prop}
theorem e_E_mv {u U : State} {H H1 : Heap} (hE : e_E X u H) (hA : u.vm.Alike U.vm) (hN : e_N U) (hz : H.size ≤ H1.size) (ho : ∀ q : Nat, q < H.size → ¬ e_A X q → H1[q]? = H[q]?) : e_E X U H1 := by
  obtain ⟨h1, -, h3, h4, h5, h6⟩ := hE
  refine ⟨va_K.moved hA h1, hN, ⟨h3.1.moved hA, h3.2.1.moved hA, e_AOA_moved hA h3.2.2⟩, fun j hj => ?_, ?_, Nat.le_trans h6 hz⟩
  · obtain ⟨cell, c1, c2, c3, c4, c5, c6⟩ := h4 j hj
    refine ⟨cell, ?_, State.isArrayOf_alike hA c2, c3, c4, c5, c6⟩
    rw [ho _ (Array.getElem?_eq_some_iff.mp c1).1 (by show ¬ X.2.1 ≤ X.2.2.1 j; omega)]
    exact c1
  · exact ⟨(h5.1.moved hA).kept ho, (h5.2.1.moved hA).kept ho, (h5.2.2.moved hA).kept ho⟩
theorem e_isN_tab {w : Cond} (hw : e_isN w = true) : w.onTables = true := by
  cases w <;> first | rfl | exact absurd hw Bool.false_ne_true
theorem e_N_warm {s U : State} (hW : s.WarmedH U.vm) (hN : e_N s) : e_N U := by
  intro w hw
  have h1 := hN w hw
  have h2 : e_isN w = true := (List.mem_filter.mp hw).2
  cases w <;> first | exact absurd h2 Bool.false_ne_true | exact va_Nw.warmF hW h1 | exact va_Nw.warmM hW h1
theorem e_N_same {u U : State} (hv : u.vm = U.vm) (hN : e_N u) : e_N U := fun w hw => va_Nw.same (e_isN_tab (List.mem_filter.mp hw).2) hv (hN w hw)
theorem e_blind (av : List Value) : FrameBlind (e_Pc X av h) := by
  intro a U g mk q
  obtain ⟨q0, q1, q2⟩ := q
  exact ⟨q0, q1, e_E_mv (u := U) (U := U.calling g mk a) q2 (Vm.Alike.refl U.vm) (e_N_same (u := U) (U := U.calling g mk a) rfl q2.2.1) (Nat.le_refl _) (fun _ _ _ => rfl)⟩
theorem T_vret (hd : decode M.2.1 pc = .ok (.return_, 1)) (hr : M.2.2.2 = none) (hq : Q none h) : T X d M pc ls [] h Q :=
  ⟨none, h, hq, ⟨Nat.le_refl _, Nat.le_refl _⟩, fun p e R s m args below meth c H locs cells slots Q n0 s0 l hC h1 h2 h3 h4 hP hS hc hs hL hF => (hF H locs l pc cells slots hP hS hc hs).1 rfl hr hd⟩
theorem T_iret {v : Int32} (hd : decode M.2.1 pc = .ok (.ireturn, 1)) (hr : M.2.2.2 = some .int) (hq : Q (some (.int v)) h) : T X d M pc ls [.int v] h Q :=
  ⟨some (.int v), h, hq, ⟨Nat.le_refl _, Nat.le_refl _⟩, fun p e R s m args below meth c H locs cells slots Q n0 s0 l hC h1 h2 h3 h4 hP hS hc hs hL hF => (hF H locs l pc cells slots hP hS hc hs).2.1 v .int rfl hr rfl hd⟩
theorem T_zret {v : Int32} (hd : decode M.2.1 pc = .ok (.ireturn, 1)) (hr : M.2.2.2 = some .boolean) (hv : v = 0 ∨ v = 1) (hq : Q (some (.int v)) h) : T X d M pc ls [.int v] h Q :=
  ⟨some (.int v), h, hq, ⟨Nat.le_refl _, Nat.le_refl _⟩, fun p e R s m args below meth c H locs cells slots Q n0 s0 l hC h1 h2 h3 h4 hP hS hc hs hL hF => (hF H locs l pc cells slots hP hS hc hs).2.1 v .boolean rfl hr (by rcases hv with rfl | rfl <;> rfl) hd⟩
theorem T_lret {v : Int64} (hd : decode M.2.1 pc = .ok (.lreturn, 1)) (hr : M.2.2.2 = some .long) (hq : Q (some (.long v)) h) : T X d M pc ls [.long v] h Q :=
  ⟨some (.long v), h, hq, ⟨Nat.le_refl _, Nat.le_refl _⟩, fun p e R s m args below meth c H locs cells slots Q n0 s0 l hC h1 h2 h3 h4 hP hS hc hs hL hF => (hF H locs l pc cells slots hP hS hc hs).2.2 v rfl hr hd⟩
theorem e_sl (av : List Value) (hc : ∀ v ∈ av, v.category = 1) : lg_sl av = av.map Slot.val := by
  induction av with
  | nil => rfl
  | cons v t ih =>
    have h1 : ¬ v.category = 2 := by rw [hc v List.mem_cons_self]; decide
    have h2 := ih (fun w hw => hc w (List.mem_cons_of_mem _ hw))
    simp only [lg_sl, List.flatMap_cons, if_neg h1, List.map_cons] at h2 ⊢
    rw [h2]; rfl
theorem e_L_entry {n : Nat} (av : List Value) (hc : (av.all (fun v => v.category == 1)) = true) (hn : av.length ≤ n) : e_L X n (av ++ List.replicate (n - av.length) .null) ((lg_sl (av.map (e_tr X)) ++ List.replicate (n - (lg_sl (av.map (e_tr X))).length) Slot.unset).toArray) := by
  have hc' : ∀ v ∈ av.map (e_tr X), v.category = 1 := by
    intro v hv
    obtain ⟨w, hw, rfl⟩ := List.mem_map.mp hv
    rw [e_cat]
    simpa using List.all_eq_true.mp hc w hw
  have hsl := e_sl _ hc'
  have hent := lv_entry (av.map (e_tr X)) (n := n) (by rw [hsl]; simpa using hn)
  refine ⟨by simp; omega, hent.1, hent.2.1, fun i v hi hv => ?_⟩
  rw [hsl]
  by_cases hlt : i < av.length
  · rw [List.getElem?_append_left hlt] at hi
    simp [List.getElem?_append_left, hlt, hi]
    have := List.getElem?_eq_some_iff.mp hi
    obtain ⟨h1, h2⟩ := this
    rw [h2]
  · rw [List.getElem?_append_right (by omega)] at hi
    exact absurd (List.eq_of_mem_replicate (List.mem_of_getElem? hi)) hv
theorem C_of_T {av : List Value} (hp : plainName M.1.cls = true) (hc : (av.all (fun v => v.category == 1)) = true) (hn : av.length ≤ M.2.2.1) (hl : av ++ List.replicate (M.2.2.1 - av.length) .null = ls) (k : T X d M 0 ls [] h Q) : C X d M av h Q := by
  subst hl
  obtain ⟨r, h', q, mono, w⟩ := k
  refine ⟨r, h', q, mono, Met.ofW (cc := M.2.1) (maxL := M.2.2.1) (ret := M.2.2.2) hp rfl ?_⟩
  intro p e s m args below meth c s₁ B hml hv
  obtain ⟨rfl, hP, hE⟩ := hv
  have hts := atoms_spec (ws := e_ws M) B.pre
  rw [lg_entry_eq]
  have hx := B.exec
  have hb := B.bytes
  have hr := B.returns
  have hlocks := B.notSynchronized
  refine w p e _ s m _ below meth c s.heap [] 0 0 _ h.1.1 h.1.2 _ ⟨hx, hb, hml, findClass_of_methodNamed B.named, fun w hw => hts w (List.mem_cons_of_mem _ hw), hr, hlocks, fun z => (name_of_methodNamed B.named B.method).1.trans z, hE⟩ (Nat.le_refl _) (Nat.le_refl _) ?_ ?_ hP va_S.rf (Nat.zero_add _) (Nat.zero_add _) (e_L_entry av hc hn) ?_
  · show h'.1.1 ≤ (h'.1.1 - h.1.1) + h.1.1
    omega
  · show h'.1.2 ≤ (h'.1.2 - h.1.2) + h.1.2
    omega
  · intro H locs l pc cells slots hP1 hS1 hc1 hs1
    obtain ⟨m1, m2⟩ := mono
    obtain rfl : cells = h'.1.1 - h.1.1 := by omega
    obtain rfl : slots = h'.1.2 - h.1.2 := by omega
    refine ⟨fun hr1 hr2 hdg => ?_, fun v ty hr1 hr2 hnv hdg => ?_, fun v hr1 hr2 hdg => ?_⟩
    · subst hr1
      exact W.vret hx hb (hr.trans hr2) (fun t ht hW => ⟨rfl, by rw [ht]; exact hP1, hS1.F ht⟩) hS1.2.2 hdg
    · subst hr1
      exact W.zret hx hb (hr.trans hr2) hnv (fun t ht hW => ⟨rfl, by rw [ht]; exact hP1, hS1.F ht⟩) hS1.2.2 hdg
    · subst hr1
      exact W.lret hx hb (hr.trans hr2) (fun t ht hW => ⟨rfl, by rw [ht]; exact hP1, hS1.F ht⟩) hS1.2.2 hdg
/-- what a call needs of the called: its words are in the tables -/
def MK (M' : Mt) (n : Nat) : Prop := Cond.code M'.1 M'.2.1 M'.2.2.1 M'.2.2.2 ∈ e_gw ∧ Cond.initialized M'.1.cls ∈ e_gw ∧ (M'.1.cls ≠ "java/lang/invoke/MethodHandle" ∧ M'.1.cls ≠ "java/lang/invoke/VarHandle" ∧ (parseMethodDescriptor M'.1.desc).map (fun d => d.parameters.length) = some n) ∧ M'.2.2.1 ≤ 40
def CL (own : String) (idx : Nat) (M' : Mt) : Prop := Cond.methodLink own idx M'.1 ∈ e_gw ∨ ∃ host, Cond.methodLinkNest own idx M'.1 host ∈ e_nw
theorem e_good (M M' : Mt) (hm : Cond.code M'.1 M'.2.1 M'.2.2.1 M'.2.2.2 ∈ e_gw) : GoodIn e_gw (e_ws M') := by
  intro w hw
  have : w ∈ e_gw := by
    rcases List.mem_cons.mp hw with rfl | h1
    · exact hm
    · exact h1
  exact ⟨this, good_of_word (List.mem_filter.mp this).2⟩
/-- behind a call -/
theorem e_after {p : Program} {e : Env} {R : Room} {s : State} {m : MethodId} {args : Array Value} {below : List Frame} {meth : Method} {c : Code} {H : Heap} {locs : List Loc} {cells slots mc ms : Nat} {Q : State → Prop} {l : Array Slot} {rest st0 : List Value} {r : Option Value} {h1 : AH} {a : Array Value}
    (hr : va_Run p X.1.1 e R s m args below meth c H locs cells slots mc ms (F0 m pc l st0) rest (e_Qc X r h1 a) (e_A X)) (hS : va_S (e_A X) s.heap H locs)
    (kk : ∀ (H1 : Heap) (locs1 : List Loc), e_P X h1 H1 → va_S (e_A X) s.heap H1 locs1 → W p X.1.1 e R s m args below meth c H1 locs1 (cells + mc) (slots + ms) Q (F0 m (pc + 3) l ((r.map (e_tr X)).toList ++ rest))) : W p X.1.1 e R s m args below meth c H locs cells slots Q (F0 m pc l st0) := by
  intro T0 hT Xs
  obtain ⟨v, st₀, t, T', L, h0, X', hL, e1, e2, ⟨hv, hP1, hz, hk⟩, stp⟩ := hr T0 hT Xs
  cases hv
  rw [h0] at hz hk
  obtain ⟨t2, a1, b1⟩ := kk T'.heap (locs ++ L) (by rw [e1]; exact hP1) ⟨Nat.le_trans hS.1 (by rw [e1]; exact hz), fun q g1 g2 => by rw [e1, hk q (Nat.lt_of_lt_of_le g1 hS.1) g2]; exact hS.2.1 q g1 g2, fun q hq => by
      rcases List.mem_append.mp hq with g | g
      · exact hS.2.2 q g
      · exact hL q g⟩ T' rfl X'
  exact ⟨t2, stp t2 a1, b1⟩
/-- one step that is a call -/
theorem T_callG {M' : Mt} {av : List Value} {rest : List Value} {Q1 : Option Value → AH → Prop} (hc : C X d M' av h Q1)
    (hw : ∀ (r : Option Value) (h1 : AH), e_M X d M' av h r h1 → ∀ (p : Program) (e : Env) (R : Room) (s : State) (m : MethodId) (args : Array Value) (below : List Frame) (meth : Method) (c : Code) (H : Heap) (locs : List Loc) (cells slots : Nat) (l : Array Slot), e_C X M p s m args meth c → d + 1 ≤ R.frames → 60 * (d + 1) ≤ R.locals → cells + (h1.1.1 - h.1.1) ≤ R.cells → slots + (h1.1.2 - h.1.2) ≤ R.slots → e_P X h H → va_S (e_A X) s.heap H locs → e_L X M.2.2.1 ls l → va_Run p X.1.1 e R s m args below meth c H locs cells slots (h1.1.1 - h.1.1) (h1.1.2 - h.1.2) (F0 m pc l (st.map (e_tr X))) (rest.map (e_tr X)) (e_Qc X r h1 (av.map (e_tr X)).toArray) (e_A X))
    (hn : pc + 3 = pc') (kk : ∀ (r : Option Value) (h1 : AH), Q1 r h1 → T X (d + 1) M pc' ls (r.toList ++ rest) h1 Q) : T X (d + 1) M pc ls st h Q := by
  obtain ⟨r, h1, q1, hM⟩ := hc
  obtain ⟨r2, h2, q2, mono2, w2⟩ := kk r h1 q1
  obtain ⟨m1, m2⟩ := hM.1
  refine ⟨r2, h2, q2, ⟨Nat.le_trans m1 mono2.1, Nat.le_trans m2 mono2.2⟩, fun p e R s m args below meth c H locs cells slots Q n0 s0 l hC g1 g2 g3 g4 hP hS hcc hss hL hF => ?_⟩
  have hrun := hw r h1 hM p e R s m args below meth c H locs cells slots l hC g1 g2 (by omega) (by omega) hP hS hL
  refine e_after hrun hS (fun H1 locs1 hP1 hS1 => ?_)
  rw [hn]
  have := w2 p e R s m args below meth c H1 locs1 (cells + (h1.1.1 - h.1.1)) (slots + (h1.1.2 - h.1.2)) Q n0 s0 l hC g1 g2 g3 g4 hP1 hS1 (by omega) (by omega) hL hF
  have e1 : (r.toList ++ rest).map (e_tr X) = (r.map (e_tr X)).toList ++ rest.map (e_tr X) := by cases r <;> simp
  rw [e1] at this
  exact this
theorem e_pre {M' : Mt} {av : List Value} {s : State} {H : Heap} {locs : List Loc} (hE : e_E X s s.heap) (hP : e_P X h H) (hS : va_S (e_A X) s.heap H locs) : ∀ U : State, U.heap = H → s.WarmedH U.vm → e_Pc X av h (av.map (e_tr X)).toArray U :=
  fun U hU hW => ⟨rfl, by rw [hU]; exact hP, by rw [hU]; exact e_E_mv hE hW.alike (e_N_warm hW hE.2.1) hS.1 hS.2.1⟩
theorem T_callV {M' : Mt} {idx n b ci : Nat} {As rest fs : List Value} {Q1 : Option Value → AH → Prop} (hd : decode M.2.1 pc = .ok (.invokevirtual idx, 3)) (hn : pc + 3 = pc') (hl : CL M.1.cls idx M') (hm : MK M' n) (hi : Cond.instanceMethod M'.1 ∈ e_gw) (hse : Cond.selects M'.1.cls M'.1 M'.1 ∈ e_gw) (hcl : (e_cl[ci]?).map (fun r => r.1) = some M'.1.cls) (hb0 : h.2 b = some (.inr (.inr (ci, fs)))) (hnn : As.length = n) (hW : (rest.map fun v => v.category).sum ≤ 8) (hst : st = As.reverse ++ .ref b :: rest) (hc : C X d M' (.ref b :: As) h Q1) (kk : ∀ (r : Option Value) (h1 : AH), Q1 r h1 → T X (d + 1) M pc' ls (r.toList ++ rest) h1 Q) : T X (d + 1) M pc ls st h Q := by
  refine T_callG (rest := rest) hc (fun r h1 hM p e R s m args below meth c H locs cells slots l hC g1 g2 g3 g4 hP hS hL => ?_) hn kk
  obtain ⟨hx, hb, hml, hown, hts, -, -, -, hE⟩ := hC
  obtain ⟨hlt, r0, hr0, cell, q1, q2, q3, -⟩ := hP.2 b _ hb0
  obtain ⟨-, hM⟩ := hM
  obtain ⟨m1, m2, m3, m4⟩ := hm
  have hcC : s.vm.findClass M'.1.cls = some cell.cls := by
    rw [hr0] at hcl
    have h9 := (hE.1.1 ci r0 hr0).2.1
    rw [q2, ← Option.some.inj hcl]
    exact h9
  have hrec : ∃ cellB : Cell, H[e_am X b]? = some cellB ∧ cellB.vm.isStatics = false ∧ s.vm.findClass M'.1.cls = some cellB.cls := ⟨cell, by rw [e_am_lt hlt]; exact q1, by rw [q3]; rfl, hcC⟩
  have hstk : st.map (e_tr X) = (As.map (e_tr X)).reverse ++ .ref (e_am X b) :: rest.map (e_tr X) := by
    rw [hst, List.map_append, List.map_reverse]; rfl
  have hWr : 2 * (F0 m pc l (st.map (e_tr X))).monitorRoom + ((rest.map (e_tr X)).map fun v => v.category).sum ≤ 8 := by
    have : ((rest.map (e_tr X)).map fun v => v.category) = rest.map fun v => v.category := by rw [List.map_map]; exact List.map_congr_left (fun v _ => e_cat v)
    rw [this]
    show 2 * 0 + _ ≤ 8
    omega
  have hpr := e_pre (M' := M') (av := .ref b :: As) hE hP hS
  rcases hl with hl | ⟨host, hl⟩
  · exact va_runV (Ts := e_gw) (n := n) (As := As.map (e_tr X)) (b := e_am X b) (bytes := M'.2.1) (maxL := M'.2.2.1) (ret := M'.2.2.2) ⟨hx, hb, hml, hown, hts⟩ hM
      ⟨callB_of n hts (e_good M M' m1) rfl rfl rfl (hts _ m2) (hts _ hl) m3 ⟨g1, by show 8 + (M'.2.2.1 + 11) + 60 * d ≤ R.locals; omega⟩, hts _ hi, hts _ hse⟩
      ⟨e_blind _, hrec, hpr⟩ rfl (by simpa using hnn) hL.2.1 hstk hWr hd ⟨g3, g4⟩
  · exact va_runVN (Ts := e_gw) (n := n) (C := M'.1.cls) (As := As.map (e_tr X)) (b := e_am X b) (bytes := M'.2.1) (maxL := M'.2.2.1) (ret := M'.2.2.2) ⟨hx, hb, hml, hown, hts⟩ hM
      ⟨va_cnB n hts (e_good M M' m1) rfl rfl rfl (hE.2.1 _ hl) (hts _ m2) m3 ⟨g1, by show 8 + (M'.2.2.1 + 11) + 60 * d ≤ R.locals; omega⟩, hts _ hi, hts _ hse⟩
      ⟨e_blind _, hrec, hpr⟩ rfl (by simpa using hnn) hL.2.1 hstk hWr hd ⟨g3, g4⟩
theorem T_callS {M' : Mt} {idx n : Nat} {As rest : List Value} {Q1 : Option Value → AH → Prop} (hd : decode M.2.1 pc = .ok (.invokestatic idx, 3)) (hn : pc + 3 = pc') (hl : CL M.1.cls idx M') (hm : MK M' n) (hi : Cond.static M'.1 ∈ e_gw) (hnn : As.length = n) (hW : (rest.map fun v => v.category).sum ≤ 8) (hst : st = As.reverse ++ rest) (hc : C X d M' As h Q1) (kk : ∀ (r : Option Value) (h1 : AH), Q1 r h1 → T X (d + 1) M pc' ls (r.toList ++ rest) h1 Q) : T X (d + 1) M pc ls st h Q := by
  refine T_callG (rest := rest) hc (fun r h1 hM p e R s m args below meth c H locs cells slots l hC g1 g2 g3 g4 hP hS hL => ?_) hn kk
  obtain ⟨hx, hb, hml, hown, hts, -, -, -, hE⟩ := hC
  obtain ⟨-, hM⟩ := hM
  obtain ⟨m1, m2, m3, m4⟩ := hm
  have hstk : st.map (e_tr X) = (As.map (e_tr X)).reverse ++ rest.map (e_tr X) := by
    rw [hst, List.map_append, List.map_reverse]
  have hWr : 2 * (F0 m pc l (st.map (e_tr X))).monitorRoom + ((rest.map (e_tr X)).map fun v => v.category).sum ≤ 8 := by
    have : ((rest.map (e_tr X)).map fun v => v.category) = rest.map fun v => v.category := by rw [List.map_map]; exact List.map_congr_left (fun v _ => e_cat v)
    rw [this]
    show 2 * 0 + _ ≤ 8
    omega
  have hpr := e_pre (M' := M') (av := As) hE hP hS
  rcases hl with hl | ⟨host, hl⟩
  · exact va_runS (Ts := e_gw) (n := n) (As := As.map (e_tr X)) (bytes := M'.2.1) (maxL := M'.2.2.1) (ret := M'.2.2.2) ⟨hx, hb, hml, hown, hts⟩ hM
      ⟨callB_of n hts (e_good M M' m1) rfl rfl rfl (hts _ m2) (hts _ hl) m3 ⟨g1, by show 8 + (M'.2.2.1 + 11) + 60 * d ≤ R.locals; omega⟩, hts _ hi⟩
      ⟨e_blind _, hpr⟩ rfl (by simpa using hnn) hL.2.1 hstk hWr hd ⟨g3, g4⟩
  · exact va_runSN (Ts := e_gw) (n := n) (As := As.map (e_tr X)) (bytes := M'.2.1) (maxL := M'.2.2.1) (ret := M'.2.2.2) ⟨hx, hb, hml, hown, hts⟩ hM
      ⟨va_cnB n hts (e_good M M' m1) rfl rfl rfl (hE.2.1 _ hl) (hts _ m2) m3 ⟨g1, by show 8 + (M'.2.2.1 + 11) + 60 * d ≤ R.locals; omega⟩, hts _ hi, trivial⟩
      ⟨e_blind _, hpr⟩ rfl (by simpa using hnn) hL.2.1 hstk hWr hd ⟨g3, g4⟩
theorem T_callI {M' : Mt} {idx n b : Nat} {As rest : List Value} {Q1 : Option Value → AH → Prop} (hd : decode M.2.1 pc = .ok (.invokespecial idx, 3)) (hn : pc + 3 = pc') (hl : CL M.1.cls idx M') (hm : MK M' n) (hi : Cond.instanceMethod M'.1 ∈ e_gw) (hnm : M'.1.name = "<init>" ∧ M'.2.2.2 = none) (hnn : As.length = n) (hW : (rest.map fun v => v.category).sum ≤ 8) (hst : st = As.reverse ++ .ref b :: rest) (hc : C X d M' (.ref b :: As) h Q1) (kk : ∀ (r : Option Value) (h1 : AH), Q1 r h1 → T X (d + 1) M pc' ls (r.toList ++ rest) h1 Q) : T X (d + 1) M pc ls st h Q := by
  refine T_callG (rest := rest) hc (fun r h1 hM p e R s m args below meth c H locs cells slots l hC g1 g2 g3 g4 hP hS hL => ?_) hn kk
  obtain ⟨hx, hb, hml, hown, hts, -, -, -, hE⟩ := hC
  obtain ⟨-, hM⟩ := hM
  obtain ⟨m1, m2, m3, m4⟩ := hm
  obtain ⟨hnm, hrt⟩ := hnm
  have hws : e_ws M' = Cond.code M'.1 M'.2.1 M'.2.2.1 none :: e_gw := by unfold e_ws; rw [hrt]
  have hstk : st.map (e_tr X) = (As.map (e_tr X)).reverse ++ .ref (e_am X b) :: rest.map (e_tr X) := by
    rw [hst, List.map_append, List.map_reverse]; rfl
  have hWr : 2 * (F0 m pc l (st.map (e_tr X))).monitorRoom + ((rest.map (e_tr X)).map fun v => v.category).sum ≤ 8 := by
    have : ((rest.map (e_tr X)).map fun v => v.category) = rest.map fun v => v.category := by rw [List.map_map]; exact List.map_congr_left (fun v _ => e_cat v)
    rw [this]
    show 2 * 0 + _ ≤ 8
    omega
  have hpr := e_pre (M' := M') (av := .ref b :: As) hE hP hS
  rcases hl with hl | ⟨host, hl⟩
  · exact va_runI (Ts := e_gw) (n := n) (As := As.map (e_tr X)) (b := e_am X b) (bytes := M'.2.1) (maxL := M'.2.2.1) ⟨hx, hb, hml, hown, hts⟩ hM
      ⟨callB_of n hts (e_good M M' m1) hws rfl rfl (hts _ m2) (hts _ hl) m3 ⟨g1, by show 8 + (M'.2.2.1 + 11) + 60 * d ≤ R.locals; omega⟩, hnm, hts _ hi⟩
      ⟨e_blind _, hpr⟩ rfl (by simpa using hnn) hL.2.1 hstk hWr hd ⟨g3, g4⟩
  · exact va_runIN (Ts := e_gw) (n := n) (As := As.map (e_tr X)) (b := e_am X b) (bytes := M'.2.1) (maxL := M'.2.2.1) ⟨hx, hb, hml, hown, hts⟩ hM
      ⟨va_cnB n hts (e_good M M' m1) hws rfl rfl (hE.2.1 _ hl) (hts _ m2) m3 ⟨g1, by show 8 + (M'.2.2.1 + 11) + 60 * d ≤ R.locals; omega⟩, hnm, hts _ hi⟩
      ⟨e_blind _, hpr⟩ rfl (by simpa using hnn) hL.2.1 hstk hWr hd ⟨g3, g4⟩
theorem T_objInit {idx a : Nat} (hd : decode M.2.1 pc = .ok (.invokespecial idx, 3)) (hn : pc + 3 = pc') (hl : Cond.methodLink M.1.cls idx Lib.objectInit ∈ e_gw) (hi : Cond.instanceMethod Lib.objectInit ∈ e_gw) (hc : Cond.code Lib.objectInit ⟨#[0xb1]⟩ 1 none ∈ e_gw) (kk : T X (d + 1) M pc' ls [] h Q) : T X (d + 1) M pc ls [.ref a] h Q := by
  refine T_pure (fun p e R s m args below meth c H locs cells slots Q l hC g1 g2 _ _ hP hS hL hq => ?_) kk
  obtain ⟨hx, hb, hml, hown, hts, -, -, -, hE⟩ := hC
  exact W.objInit hx hb hown (hts _ hl) (hts _ hi) (hts _ hc) rfl (by rw [hml]; exact hL.2.1) rfl hd (by omega) (by show 2 * 0 + 0 + 12 ≤ R.locals; omega) (by rw [← hn] at hq; exact hq l hL)
end ENG5
end
section
section ENG6
variable {X : EX} {d : Nat} {M : Mt} {pc pc' : Nat} {ls ls' st st' : List Value} {h : AH} {Q : Option Value → AH → Prop}
theorem e_P_new {c1 : AC} {n : Nat} {H H1 : Heap} (hP : e_P X h H) (hlt : h.1.1 < 1000000) (hc : e_at X h.1.1 c1 H1) (hz : H1.size = H.size + 1) (ho : ∀ q : Nat, q < H.size → H1[q]? = H[q]?) : e_P X (e_new h c1 n) H1 := by
  refine ⟨by rw [hz, hP.1]; show _ = X.2.1 + (h.1.1 + 1); omega, fun k c hk => ?_⟩
  by_cases hka : k = h.1.1
  · subst hka
    have hk' : c1 = c := by simpa [e_new] using hk
    subst hk'
    exact ⟨hlt, hc⟩
  · have hk' : h.2 k = some c := by simpa [e_new, hka] using hk
    obtain ⟨g1, g2⟩ := hP.2 k c hk'
    refine ⟨g1, ?_⟩
    match c, g2 with
    | .inl x, g2 => exact (ho _ (Array.getElem?_eq_some_iff.mp g2).1).trans g2
    | .inr (.inl x), g2 => exact (ho _ (Array.getElem?_eq_some_iff.mp g2).1).trans g2
    | .inr (.inr o), ⟨r, r1, r2⟩ =>
      obtain ⟨cell, r3, r4⟩ := r2
      exact ⟨r, r1, t_OB.kept ⟨cell, r3, r4⟩ (ho _ (Array.getElem?_eq_some_iff.mp r3).1)⟩
theorem e_S_new {H0 H H1 : Heap} {locs : List Loc} (hS : va_S (e_A X) H0 H locs) (hz : H1.size = H.size + 1) (ho : ∀ q : Nat, q < H.size → H1[q]? = H[q]?) : va_S (e_A X) H0 H1 locs :=
  ⟨Nat.le_trans hS.1 (by omega), fun q g1 g2 => (ho q (Nat.lt_of_lt_of_le g1 hS.1)).trans (hS.2.1 q g1 g2), hS.2.2⟩
/-- one step that makes one cell -/
theorem T_mk {c1 : AC} {n : Nat} (hlt : h.1.1 < 1000000)
    (hw : ∀ (p : Program) (e : Env) (R : Room) (s : State) (m : MethodId) (args : Array Value) (below : List Frame) (meth : Method) (c : Code) (H : Heap) (locs : List Loc) (cells slots : Nat) (Q : State → Prop) (l : Array Slot), e_C X M p s m args meth c → cells + 1 ≤ R.cells → slots + n ≤ R.slots → e_P X h H → va_S (e_A X) s.heap H locs → e_L X M.2.2.1 ls l → (∀ (H1 : Heap), e_at X h.1.1 c1 H1 → H1.size = H.size + 1 → (∀ q : Nat, q < H.size → H1[q]? = H[q]?) → W p X.1.1 e R s m args below meth c H1 locs (cells + 1) (slots + n) Q (F0 m pc' l (.ref (X.2.1 + h.1.1) :: st'.map (e_tr X)))) → W p X.1.1 e R s m args below meth c H locs cells slots Q (F0 m pc l (st.map (e_tr X))))
    (k : T X d M pc' ls (.ref h.1.1 :: st') (e_new h c1 n) Q) : T X d M pc ls st h Q := by
  obtain ⟨r, h', q, mono, w⟩ := k
  have m1 : h.1.1 + 1 ≤ h'.1.1 := mono.1
  have m2 : h.1.2 + n ≤ h'.1.2 := mono.2
  refine ⟨r, h', q, ⟨by omega, by omega⟩, fun p e R s m args below meth c H locs cells slots Q n0 s0 l hC h1 h2 h3 h4 hP hS hc hs hL hF => ?_⟩
  refine hw p e R s m args below meth c H locs cells slots Q l hC (by omega) (by omega) hP hS hL (fun H1 g1 g2 g3 => ?_)
  have := w p e R s m args below meth c H1 locs (cells + 1) (slots + n) Q n0 s0 l hC h1 h2 h3 h4 (e_P_new hP hlt g1 g2 g3) (e_S_new hS g2 g3) (by show cells + 1 + n0 = h.1.1 + 1; omega) (by show slots + n + s0 = h.1.2 + n; omega) hL hF
  have e1 : e_am X h.1.1 = X.2.1 + h.1.1 := e_am_lt hlt
  rw [List.map_cons] at this
  rw [show e_tr X (.ref h.1.1) = .ref (X.2.1 + h.1.1) by rw [← e1]; rfl] at this
  exact this
theorem T_new {idx ci : Nat} {r : vw_C} {tys : Nat → FieldType} {fs : List Value} (hd : decode M.2.1 pc = .ok (.new idx, 3)) (hn : pc + 3 = pc') (hkc : KC ci r tys) (hcl : Cond.classLink M.1.cls idx r.1 ∈ e_gw) (hins : Cond.instantiable r.1 r.2.2 ∈ e_gw) (hini : Cond.initialized r.1 ∈ e_gw) (hfs : fs.length = r.2.2 ∧ ∀ k, k < r.2.2 → fs[k]? = some (defaultValue (tys k))) (hlt : h.1.1 < 1000000) (kk : T X d M pc' ls (.ref h.1.1 :: st) (e_new h (.inr (.inr (ci, fs))) r.2.2) Q) : T X d M pc ls st h Q := by
  refine T_mk hlt (fun p e R s m args below meth c H locs cells slots Q l hC g1 g2 hP hS hL hq => ?_) kk
  obtain ⟨hx, hb, hml, hown, hts, -, -, -, hE⟩ := hC
  obtain ⟨k1, k2, k3, k4⟩ := hkc
  have hK := hE.1.1 ci _ k1
  refine W.newcK hx hb hown (hts _ hcl) (hts _ hins) (hts _ hini) rfl hd g1 g2 (cC := X.1.2.1.1 ci) hK.2.1 hP.1 (fun H1 kC hkC e1 e2 e3 => ?_)
  show W p X.1.1 e R s m args below meth c H1 locs (cells + 1) (slots + r.2.2) Q (F0 m (pc + 3) l (.ref (X.2.1 + h.1.1) :: st.map (e_tr X)))
  rw [hn]
  refine hq H1 ⟨r, k1, ?_⟩ (by rw [e2, hP.1]) (fun q hq' => e3 q (by rw [← hP.1]; exact hq'))
  have hob := u_born (H := H1) (o := X.2.1 + h.1.1) tys hts k2 hK hkC e1 k3
  refine t_OB.to hob (fun k hk => ?_)
  obtain ⟨-, hf⟩ := hfs
  rw [e_V fs k (hf k hk)]
  cases hty : tys k <;> rfl
theorem T_newi {n : Int32} {N : Nat} {at_ : ArrayType} {t : Nat} (hd : decode M.2.1 pc = .ok (.newarray at_, 2)) (hn : pc + 2 = pc') (hat : (at_ = .int ∧ t = 0) ∨ (at_ = .byte ∧ t = 1) ∨ (at_ = .boolean ∧ t = 2)) (harr : Cond.arrayClass (newarray.typeOf at_) ∈ e_gw) (hn0 : ¬ n < 0) (hN : n.toNatClampNeg = N) (hNs : N ≤ 100000) (hlt : h.1.1 < 1000000) (kk : T X d M pc' ls (.ref h.1.1 :: st) (e_new h (.inl (t, N, fun _ => 0)) N) Q) : T X d M pc ls (.int n :: st) h Q := by
  refine T_mk hlt (fun p e R s m args below meth c H locs cells slots Q l hC g1 g2 hP hS hL hq => ?_) kk
  obtain ⟨hx, hb, hml, hown, hts, -, -, -, hE⟩ := hC
  have hbytes : N * componentBytes (newarray.typeOf at_) ≤ 536870912 := by
    rcases hat with ⟨rfl, -⟩ | ⟨rfl, -⟩ | ⟨rfl, -⟩
    · show N * 4 ≤ _; omega
    · show N * 1 ≤ _; omega
    · show N * 1 ≤ _; omega
  subst hN
  refine W.newa hx hb (hts _ harr) rfl hd rfl hn0 hbytes g1 g2 (fun cA kA comp f1 f2 f3 => ?_)
  have hcA : cA = X.1.2.2 t := by
    have hra : s.vm.findClass ("[" ++ (newarray.typeOf at_).toString) = some (X.1.2.2 t) := by
      rcases hat with ⟨rfl, rfl⟩ | ⟨rfl, rfl⟩ | ⟨rfl, rfl⟩
      · exact (e_ty hE.1 (t := 0) (by decide)).2
      · exact (e_ty hE.1 (t := 1) (by decide)).2
      · exact (e_ty hE.1 (t := 2) (by decide)).2
    exact Option.some.inj (f1.symm.trans hra)
  subst hcA
  have hdv : defaultValue (newarray.typeOf at_) = .int 0 := by
    rcases hat with ⟨rfl, -⟩ | ⟨rfl, -⟩ | ⟨rfl, -⟩ <;> rfl
  rw [hdv]
  show W p X.1.1 e R s m args below meth c (H.push _) locs (cells + 1) (slots + n.toNatClampNeg) Q (F0 m (pc + 2) l (.ref H.size :: st.map (e_tr X)))
  rw [hn, hP.1]
  refine hq _ ?_ (by rw [Array.size_push]) (fun q hq' => by rw [Array.getElem?_push, if_neg (Nat.ne_of_lt hq')])
  show (H.push _)[X.2.1 + h.1.1]? = some (arrV (X.1.2.2 t) n.toNatClampNeg (fun _ => .int 0))
  rw [← hP.1, Array.getElem?_push_size, ← arrV_new]
theorem T_newr {n : Int32} {N idx t : Nat} {K : String} (hd : decode M.2.1 pc = .ok (.anewarray idx, 3)) (hn : pc + 3 = pc') (hat : (K = R_Fl ∧ t = 3) ∨ (K = R_Im ∧ t = 4)) (hcl : Cond.classLink M.1.cls idx K ∈ e_gw) (hn0 : ¬ n < 0) (hN : n.toNatClampNeg = N) (hNs : N ≤ 100000) (hlt : h.1.1 < 1000000) (kk : T X d M pc' ls (.ref h.1.1 :: st) (e_new h (.inr (.inl (t, N, fun _ => none))) N) Q) : T X d M pc ls (.int n :: st) h Q := by
  refine T_mk hlt (fun p e R s m args below meth c H locs cells slots Q l hC g1 g2 hP hS hL hq => ?_) kk
  obtain ⟨hx, hb, hml, hown, hts, -, -, -, hE⟩ := hC
  subst hN
  have hao : va_AO K s := by
    rcases hat with ⟨rfl, -⟩ | ⟨rfl, -⟩
    · exact hE.2.2.1.1
    · exact hE.2.2.1.2.1
  refine W.anew hx hb hown (hts _ hcl) (va_AO.use hao) rfl hd rfl hn0 (by omega) g1 g2 (fun cA kA comp f1 f2 f3 f4 => ?_)
  have hcA : cA = X.1.2.2 t := by
    have hra : s.vm.findClass ("[" ++ (FieldType.object K).toString) = some (X.1.2.2 t) := by
      rcases hat with ⟨rfl, rfl⟩ | ⟨rfl, rfl⟩
      · obtain ⟨_, _, -, -, -, z⟩ := (e_ty hE.1 (t := 3) (by decide)).2
        exact z
      · obtain ⟨_, _, -, -, -, z⟩ := (e_ty hE.1 (t := 4) (by decide)).2
        exact z
    exact Option.some.inj (f1.symm.trans hra)
  subst hcA
  show W p X.1.1 e R s m args below meth c (H.push _) locs (cells + 1) (slots + n.toNatClampNeg) Q (F0 m (pc + 3) l (.ref H.size :: st.map (e_tr X)))
  rw [hn, hP.1]
  refine hq _ ?_ (by rw [Array.size_push]) (fun q hq' => by rw [Array.getElem?_push, if_neg (Nat.ne_of_lt hq')])
  show (H.push _)[X.2.1 + h.1.1]? = some (arrV (X.1.2.2 t) n.toNatClampNeg (fun _ => .null))
  rw [← hP.1, Array.getElem?_push_size, ← arrV_new]
/-- System.arraycopy between two different rows of ints -/
theorem T_copyi {idx a0 a n0 n1 : Nat} {f g : Nat → Int32} {sp dp n : Int32} (hd : decode M.2.1 pc = .ok (.invokestatic idx, 3)) (hn : pc + 3 = pc') (hl : Cond.methodLink M.1.cls idx arraycopyName ∈ e_gw) (hw3 : Cond.native arraycopyName ∈ e_gw ∧ Cond.static arraycopyName ∈ e_gw ∧ Cond.initialized "java/lang/System" ∈ e_gw) (ha0 : h.2 a0 = some (.inl (0, n0, f))) (ha : h.2 a = some (.inl (0, n1, g))) (h1 : ¬ sp < 0) (h2 : ¬ dp < 0) (h3 : ¬ n < 0) (h4 : sp.toNatClampNeg + n.toNatClampNeg ≤ n0) (h5 : dp.toNatClampNeg + n.toNatClampNeg ≤ n1) (kk : T X (d + 1) M pc' ls [] (e_put h a (.inl (0, n1, va_cpy f g sp.toNatClampNeg dp.toNatClampNeg n.toNatClampNeg))) Q) : T X (d + 1) M pc ls [.int n, .int dp, .ref a, .int sp, .ref a0] h Q := by
  refine T_set ha (fun p e R s m args below meth c H locs cells slots Q l hC g1 g2 hP hS hL hq => ?_) kk
  obtain ⟨hx, hb, hml, hown, hts, -, -, -, hE⟩ := hC
  obtain ⟨hlt0, hc0⟩ := hP.2 a0 _ ha0
  obtain ⟨hlt, hc1⟩ := hP.2 a _ ha
  show W p X.1.1 e R s m args below meth c H locs cells slots Q (F0 m pc l [.int n, .int dp, .ref (e_am X a), .int sp, .ref (e_am X a0)])
  rw [e_am_lt hlt0, e_am_lt hlt]
  have nn : ∀ z : Int32, ¬ z < 0 → z.toInt = (z.toNatClampNeg : Int) := by
    intro z hz
    have hz0 : (0 : Int) ≤ z.toInt := by
      have := Int32.not_lt.mp hz
      simpa using Int32.le_iff_toInt_le.mp this
    show z.toInt = ((z.toInt.toNat : Nat) : Int)
    omega
  have hnf : nativeFrameWords "java/lang/System" "arraycopy" 5 + 11 ≤ 60 := by decide +kernel
  intro T0 hT Xs
  obtain ⟨-, k0, hk0, cm0, hkk0⟩ := (e_ty hE.1 (t := 0) (by decide)).1 n0 (fun j => .int (f j))
  obtain ⟨-, k1, hk1, cm1, hkk1⟩ := (e_ty hE.1 (t := 0) (by decide)).1 n1 (fun j => .int (g j))
  obtain ⟨vm', X', stp⟩ := Xs.arraycopy hx hown (hts _ hl) (hts _ hw3.1) (hts _ hw3.2.1) (hts _ hw3.2.2) (src := X.2.1 + a0) (dst := X.2.1 + a) (cs := arrV (X.1.2.2 0) n0 (fun j => .int (f j))) (cd := arrV (X.1.2.2 0) n1 (fun j => .int (g j))) (srcPos := sp) (destPos := dp) (n := n) (by rw [hT]; exact hc0) (by rw [hT]; exact hc1)
    (fun _ z => by cases z) (fun _ z => by cases z) (fun z => by cases z) (fun z => by cases z) hk0 hk1 hkk0 hkk1 (by decide) h1 h2 h3
    (by rw [nn sp h1, nn n h3, arrV_size]; omega)
    (by rw [nn dp h2, nn n h3, arrV_size]; omega)
    (fun vm₁ _ i hi => by
      have e9 : (arrV (X.1.2.2 0) n0 (fun j => .int (f j))).slots.getD (sp.toNatClampNeg + i) .null = .int (f (sp.toNatClampNeg + i)) := by
        rw [Array.getD_eq_getD_getElem?, arrV_read _ _ (by omega)]
        rfl
      refine ⟨?_, ?_⟩
      · rw [e9]; rfl
      · rw [e9]; exact trivial)
    (g := F0 m pc l [.int n, .int dp, .ref (X.2.1 + a), .int sp, .ref (X.2.1 + a0)]) rfl (by rw [hml]; exact hL.2.1) (rest := []) rfl (by rw [hb]; exact hd) (by omega) (by show 2 * 0 + (List.map (fun v => Value.category v) []).sum + (nativeFrameWords "java/lang/System" "arraycopy" 5 + 11) ≤ R.locals; rw [List.map_nil, List.sum_nil]; omega)
  have e1 : copied (arrV (X.1.2.2 0) n0 (fun j => .int (f j))) (arrV (X.1.2.2 0) n1 (fun j => .int (g j))) sp dp n = arrV (X.1.2.2 0) n1 (fun j => .int (va_cpy f g sp.toNatClampNeg dp.toNatClampNeg n.toNatClampNeg j)) := va_copied (fun z => .int z) _ _ f g h4
  rw [e1] at X' stp
  have hla : X.2.1 + a < H.size := (Array.getElem?_eq_some_iff.mp hc1).1
  have hheap : ((T0.setVm vm').setCell (X.2.1 + a) (arrV (X.1.2.2 0) n1 (fun j => .int (va_cpy f g sp.toNatClampNeg dp.toNatClampNeg n.toNatClampNeg j)))).heap = H.setIfInBounds (X.2.1 + a) (arrV (X.1.2.2 0) n1 (fun j => .int (va_cpy f g sp.toNatClampNeg dp.toNatClampNeg n.toNatClampNeg j))) := by rw [← hT]; rfl
  have oq : ∀ q : Nat, q ≠ X.2.1 + a → (H.setIfInBounds (X.2.1 + a) (arrV (X.1.2.2 0) n1 (fun j => .int (va_cpy f g sp.toNatClampNeg dp.toNatClampNeg n.toNatClampNeg j))))[q]? = H[q]? := fun q hq => by simp [Array.getElem?_setIfInBounds, Ne.symm hq]
  obtain ⟨t, a1, b1⟩ := hq _ _ (show (H.setIfInBounds (X.2.1 + a) _)[X.2.1 + a]? = some _ by simp [Array.getElem?_setIfInBounds, hla]) (by simp) oq ⟨by simp; exact hS.1, fun q g1 g2 => by
      rw [oq q (fun e9 => g2 (by rw [e9]; exact Nat.le_add_right _ _))]
      exact hS.2.1 q g1 g2, fun q hq => by
      rcases List.mem_append.mp hq with g | g
      · exact hS.2.2 q g
      · obtain ⟨z, -, hz⟩ := List.mem_map.mp g
        rw [← hz]
        exact Nat.le_add_right _ _⟩ _ hheap X'
  exact ⟨t, stp t (by rw [← hn] at a1; exact a1), b1⟩
end ENG6
end
section
section ENG7
variable {X : EX} {d : Nat} {M : Mt} {pc pc' : Nat} {ls ls' st st' : List Value} {h : AH} {Q : Option Value → AH → Prop}
/-- N rows of K ints, in a row of them -/
def e_grid (h : AH) (N K : Nat) : AH := ((h.1.1 + 1 + N, h.1.2 + N + N * K), fun k => if k = h.1.1 then some (.inr (.inl (5, N, fun i => if i < N then some (h.1.1 + 1 + i) else none))) else if h.1.1 < k ∧ k ≤ h.1.1 + N then some (.inl (0, K, fun _ => 0)) else h.2 k)
theorem e_outer (X : EX) (cA : ClassId) (N n0 : Nat) (hlt : n0 + N < 1000000) : ∀ i : Nat, i ≤ N → Jvm.Free.Multi.outerC cA N (X.2.1 + n0) i = arrV cA N (fun j => e_rf X (if j < i then some (n0 + 1 + j) else none))
  | 0, _ => by
    show ({ cls := cA, slots := Array.replicate N .null, vm := .none } : Cell) = _
    rw [arrV_new]
    congr 1
  | i + 1, hi => by
    show (Jvm.Free.Multi.outerC cA N (X.2.1 + n0) i).setSlot i (.ref (X.2.1 + n0 + 1 + i)) = _
    rw [e_outer X cA N n0 hlt i (by omega), arrV_store]
    congr 1
    funext j
    by_cases hj : j = i
    · subst hj
      have : e_am X (n0 + 1 + j) = X.2.1 + n0 + 1 + j := by rw [e_am_lt (by omega)]; omega
      simp [updV, e_rf, this]
    · by_cases hl : j < i
      · simp [updV, hj, hl, Nat.lt_succ_of_lt hl]
      · simp [updV, hj, hl, show ¬ j < i + 1 by omega]
theorem T_grid {n k : Int32} {N K idx : Nat} (hd : decode M.2.1 pc = .ok (.multianewarray idx 2, 4)) (hn : pc + 4 = pc') (hcl : Cond.classLink M.1.cls idx "[[I" ∈ e_gw) (harr : Cond.arrayClass .int ∈ e_gw) (hn0 : ¬ n < 0) (hk0 : ¬ k < 0) (hN : n.toNatClampNeg = N) (hK : k.toNatClampNeg = K) (hNs : N ≤ 1000 ∧ K ≤ 1000) (hlt : h.1.1 < 900000) (kk : T X d M pc' ls (.ref h.1.1 :: st) (e_grid h N K) Q) : T X d M pc ls (.int k :: .int n :: st) h Q := by
  obtain ⟨r, h', q, mono, w⟩ := kk
  subst hN
  subst hK
  have m1 : h.1.1 + 1 + n.toNatClampNeg ≤ h'.1.1 := mono.1
  have m2 : h.1.2 + n.toNatClampNeg + n.toNatClampNeg * k.toNatClampNeg ≤ h'.1.2 := mono.2
  refine ⟨r, h', q, ⟨by omega, by omega⟩, fun p e R s m args below meth c H locs cells slots Q n0 s0 l hC h1 h2 h3 h4 hP hS hc hs hL hF => ?_⟩
  have hC' := hC
  obtain ⟨hx, hb, hml, hown, hts, -, -, -, hE⟩ := hC'
  intro T0 hT Xs
  obtain ⟨vm₁, cA, comp, -, fA, fC, hO, -, X', stp⟩ := Xs.multianewarray2F hx hown (ty := .int) (hts _ hcl) (show (Cond.arrayOver (.array .int)).before args s = true from hE.2.2.1.2.2) (hts _ harr) (g := F0 m pc l (.int k :: .int n :: st.map (e_tr X))) rfl (by rw [hb]; exact hd) rfl hn0 hk0 (by omega) (by show k.toNatClampNeg * 4 ≤ _; omega) (by omega) rfl rfl (by omega) (by omega)
  have hcA : cA = X.1.2.2 5 := Option.some.inj (fA.symm.trans (e_ty hE.1 (t := 5) (by decide)).2)
  have hco : comp = X.1.2.2 0 := Option.some.inj (fC.symm.trans (e_ty hE.1 (t := 0) (by decide)).2)
  subst hcA
  subst hco
  have hTh : (T0.setVm vm₁).heap = H := hT
  generalize hFi : Jvm.Free.Multi.fill (T0.setVm vm₁) (X.1.2.2 5) (X.1.2.2 0) n.toNatClampNeg k.toNatClampNeg (defaultValue .int) n.toNatClampNeg = F at X' stp
  obtain ⟨f1, f2, -, -⟩ := Jvm.Free.Multi.fill_facts (T0.setVm vm₁) (X.1.2.2 5) (X.1.2.2 0) n.toNatClampNeg k.toNatClampNeg (defaultValue .int) n.toNatClampNeg
  rw [hFi, hTh] at f1 f2
  have hold : ∀ x : Nat, x < H.size → F.heap[x]? = H[x]? := fun x hx => by
    have := Jvm.Free.Multi.fill_old (T0.setVm vm₁) (X.1.2.2 5) (X.1.2.2 0) n.toNatClampNeg k.toNatClampNeg (defaultValue .int) (a := x) (by rw [hTh]; exact hx) n.toNatClampNeg
    rw [hFi, hTh] at this
    exact this
  have hrow : ∀ j : Nat, j < n.toNatClampNeg → F.heap[H.size + 1 + j]? = some (arrV (X.1.2.2 0) k.toNatClampNeg (fun _ => .int 0)) := fun j hj => by
    have := Jvm.Free.Multi.fill_inner (T0.setVm vm₁) (X.1.2.2 5) (X.1.2.2 0) n.toNatClampNeg k.toNatClampNeg (defaultValue .int) n.toNatClampNeg j hj
    rw [hFi, hTh] at this
    rw [this, ← arrV_new]
    rfl
  have hsz : H.size = X.2.1 + h.1.1 := hP.1
  rw [hsz, e_outer X (X.1.2.2 5) n.toNatClampNeg h.1.1 (by omega) n.toNatClampNeg (Nat.le_refl _)] at f2
  have hPF : e_P X (e_grid h n.toNatClampNeg k.toNatClampNeg) F.heap := by
    refine ⟨by rw [f1, hsz]; show _ = X.2.1 + (h.1.1 + 1 + n.toNatClampNeg); omega, fun x c hxc => ?_⟩
    by_cases g1 : x = h.1.1
    · subst g1
      have : c = (.inr (.inl (5, n.toNatClampNeg, fun i => if i < n.toNatClampNeg then some (h.1.1 + 1 + i) else none)) : AC) := by simpa [e_grid] using hxc.symm
      subst this
      exact ⟨by omega, f2⟩
    · by_cases g2 : h.1.1 < x ∧ x ≤ h.1.1 + n.toNatClampNeg
      · have : c = (.inl (0, k.toNatClampNeg, fun _ => 0) : AC) := by simpa [e_grid, g1, g2] using hxc.symm
        subst this
        refine ⟨by omega, ?_⟩
        have := hrow (x - h.1.1 - 1) (by omega)
        rw [show H.size + 1 + (x - h.1.1 - 1) = X.2.1 + x by omega] at this
        exact this
      · have hk' : h.2 x = some c := by simpa [e_grid, g1, g2] using hxc
        obtain ⟨g3, g4⟩ := hP.2 x c hk'
        refine ⟨g3, ?_⟩
        match c, g4 with
        | .inl y, g4 => exact (hold _ (Array.getElem?_eq_some_iff.mp g4).1).trans g4
        | .inr (.inl y), g4 => exact (hold _ (Array.getElem?_eq_some_iff.mp g4).1).trans g4
        | .inr (.inr o), ⟨r, r1, r2⟩ =>
          obtain ⟨cell, r3, r4⟩ := r2
          exact ⟨r, r1, t_OB.kept ⟨cell, r3, r4⟩ (hold _ (Array.getElem?_eq_some_iff.mp r3).1)⟩
  have hSF : va_S (e_A X) s.heap F.heap locs := ⟨Nat.le_trans hS.1 (by omega), fun q g1 g2 => (hold q (Nat.lt_of_lt_of_le g1 hS.1)).trans (hS.2.1 q g1 g2), hS.2.2⟩
  have hfin := w p e R s m args below meth c F.heap locs (cells + 1 + n.toNatClampNeg) (slots + n.toNatClampNeg + n.toNatClampNeg * k.toNatClampNeg) Q n0 s0 l hC h1 h2 h3 h4 hPF hSF (by show _ = h.1.1 + 1 + n.toNatClampNeg; omega) (by show _ = h.1.2 + n.toNatClampNeg + n.toNatClampNeg * k.toNatClampNeg; omega) hL hF
  obtain ⟨t, a1, b1⟩ := hfin F rfl X'
  refine ⟨t, stp t ?_, b1⟩
  have e1 : e_am X h.1.1 = T0.heap.size := by rw [e_am_lt (by omega), hT, hsz]
  rw [List.map_cons, show e_tr X (.ref h.1.1) = .ref (T0.heap.size) by rw [← e1]; rfl, ← hn] at a1
  exact a1
end ENG7
end
section
theorem kc_Fl : KC 0 (R_Fl, F_Fl, 9) t_Fl := by
  refine ⟨rfl, fun w hw => ?_, ty_Fl, nm_Fl⟩
  obtain ⟨k, hk, rfl⟩ := List.mem_map.mp hw
  have hk := List.mem_range.mp hk
  have ht : ∀ k, k < 9 → tables_1[[134, 136, 138, 140, 142, 144, 146, 148, 150].getD k 0]? = some (u_lay R_Fl F_Fl k) ∧ goodWord (u_lay R_Fl F_Fl k) = true := by decide +kernel
  exact gw_t _ (ht k hk).1 (ht k hk).2
theorem kc_Hi : KC 1 (R_Hi, F_Hi, 2) t_Hi := by
  refine ⟨rfl, fun w hw => ?_, ty_Hi, nm_Hi⟩
  obtain ⟨k, hk, rfl⟩ := List.mem_map.mp hw
  have hk := List.mem_range.mp hk
  have ht : ∀ k, k < 2 → tables_1[[165, 167].getD k 0]? = some (u_lay R_Hi F_Hi k) ∧ goodWord (u_lay R_Hi F_Hi k) = true := by decide +kernel
  exact gw_t _ (ht k hk).1 (ht k hk).2
theorem kc_Im : KC 2 (R_Im, F_Im, 3) t_Im := by
  refine ⟨rfl, fun w hw => ?_, ty_Im, nm_Im⟩
  obtain ⟨k, hk, rfl⟩ := List.mem_map.mp hw
  have hk := List.mem_range.mp hk
  have ht : ∀ k, k < 3 → tables_1[[261, 263, 265].getD k 0]? = some (u_lay R_Im F_Im k) ∧ goodWord (u_lay R_Im F_Im k) = true := by decide +kernel
  exact gw_t _ (ht k hk).1 (ht k hk).2
theorem kc_Od : KC 3 (R_Od, F_Od, 3) t_Od := by
  refine ⟨rfl, fun w hw => ?_, ty_Od, nm_Od⟩
  obtain ⟨k, hk, rfl⟩ := List.mem_map.mp hw
  have hk := List.mem_range.mp hk
  have ht : ∀ k, k < 3 → tables_1[[218, 220, 222].getD k 0]? = some (u_lay R_Od F_Od k) ∧ goodWord (u_lay R_Od F_Od k) = true := by decide +kernel
  exact gw_t _ (ht k hk).1 (ht k hk).2
theorem kc_Re : KC 4 (R_Re, F_Re, 4) t_Re := by
  refine ⟨rfl, fun w hw => ?_, ty_Re, nm_Re⟩
  obtain ⟨k, hk, rfl⟩ := List.mem_map.mp hw
  have hk := List.mem_range.mp hk
  have ht : ∀ k, k < 4 → tables_1[[239, 241, 243, 245].getD k 0]? = some (u_lay R_Re F_Re k) ∧ goodWord (u_lay R_Re F_Re k) = true := by decide +kernel
  exact gw_t _ (ht k hk).1 (ht k hk).2
theorem kc_Se : KC 5 (R_Se, F_Se, 8) t_Se := by
  refine ⟨rfl, fun w hw => ?_, ty_Se, nm_Se⟩
  obtain ⟨k, hk, rfl⟩ := List.mem_map.mp hw
  have hk := List.mem_range.mp hk
  have ht : ∀ k, k < 8 → tables_1[[192, 194, 196, 198, 200, 202, 204, 206].getD k 0]? = some (u_lay R_Se F_Se k) ∧ goodWord (u_lay R_Se F_Se k) = true := by decide +kernel
  exact gw_t _ (ht k hk).1 (ht k hk).2
theorem kc_Tx : KC 6 (R_Tx, F_Tx, 8) t_Tx := by
  refine ⟨rfl, fun w hw => ?_, ty_Tx, nm_Tx⟩
  obtain ⟨k, hk, rfl⟩ := List.mem_map.mp hw
  have hk := List.mem_range.mp hk
  have ht : ∀ k, k < 8 → tables_1[[38, 40, 42, 44, 46, 48, 50, 52].getD k 0]? = some (u_lay R_Tx F_Tx k) ∧ goodWord (u_lay R_Tx F_Tx k) = true := by decide +kernel
  exact gw_t _ (ht k hk).1 (ht k hk).2
theorem kc_To : KC 7 (R_To, F_To, 9) t_To := by
  refine ⟨rfl, fun w hw => ?_, ty_To, nm_To⟩
  obtain ⟨k, hk, rfl⟩ := List.mem_map.mp hw
  have hk := List.mem_range.mp hk
  have ht : ∀ k, k < 9 → tables_1[[84, 86, 88, 90, 92, 94, 96, 98, 100].getD k 0]? = some (u_lay R_To F_To k) ∧ goodWord (u_lay R_To F_To k) = true := by decide +kernel
  exact gw_t _ (ht k hk).1 (ht k hk).2
theorem kc_Tb : KC 8 (R_Tb, F_Tb, 13) t_Tb := by
  refine ⟨rfl, fun w hw => ?_, ty_Tb, nm_Tb⟩
  obtain ⟨k, hk, rfl⟩ := List.mem_map.mp hw
  have hk := List.mem_range.mp hk
  have ht : ∀ k, k < 13 → tables_1[[297, 299, 301, 303, 305, 307, 309, 311, 313, 315, 317, 319, 321].getD k 0]? = some (u_lay R_Tb F_Tb k) ∧ goodWord (u_lay R_Tb F_Tb k) = true := by decide +kernel
  exact gw_t _ (ht k hk).1 (ht k hk).2
theorem kc_Mo : KC 9 (R_Mo, F_Mo, 33) t_Mo := by
  refine ⟨rfl, fun w hw => ?_, ty_Mo, nm_Mo⟩
  obtain ⟨k, hk, rfl⟩ := List.mem_map.mp hw
  have hk := List.mem_range.mp hk
  have ht : ∀ k, k < 33 → tables_1[[825, 827, 829, 831, 833, 835, 837, 839, 841, 843, 845, 847, 849, 851, 853, 855, 857, 859, 861, 863, 865, 867, 869, 871, 873, 875, 877, 879, 881, 883, 885, 887, 889].getD k 0]? = some (u_lay R_Mo F_Mo k) ∧ goodWord (u_lay R_Mo F_Mo k) = true := by decide +kernel
  exact gw_t _ (ht k hk).1 (ht k hk).2
theorem f_Tx_9 : FL R_Tx 9 6 0 (.array .int) true := ⟨(R_Tx, F_Tx, 8), t_Tx, kc_Tx, by decide, Or.inl (gw_t 29 (by decide +kernel) rfl), rfl, rfl, rfl, fun z => by first | rfl | exact absurd z (by decide)⟩
theorem g_Tx_9 : FG R_Tx 9 6 0 := f_Tx_9.g
theorem f_Tx_15 : FL R_Tx 15 6 1 (.int) false := ⟨(R_Tx, F_Tx, 8), t_Tx, kc_Tx, by decide, Or.inl (gw_t 30 (by decide +kernel) rfl), rfl, rfl, rfl, fun z => by first | rfl | exact absurd z (by decide)⟩
theorem g_Tx_15 : FG R_Tx 15 6 1 := f_Tx_15.g
theorem f_Tx_31 : FL R_Tx 31 6 2 (.int) false := ⟨(R_Tx, F_Tx, 8), t_Tx, kc_Tx, by decide, Or.inl (gw_t 32 (by decide +kernel) rfl), rfl, rfl, rfl, fun z => by first | rfl | exact absurd z (by decide)⟩
theorem g_Tx_31 : FG R_Tx 31 6 2 := f_Tx_31.g
theorem f_Tx_37 : FL R_Tx 37 6 3 (.int) false := ⟨(R_Tx, F_Tx, 8), t_Tx, kc_Tx, by decide, Or.inl (gw_t 33 (by decide +kernel) rfl), rfl, rfl, rfl, fun z => by first | rfl | exact absurd z (by decide)⟩
theorem g_Tx_37 : FG R_Tx 37 6 3 := f_Tx_37.g
theorem f_Tx_44 : FL R_Tx 44 6 4 (.int) false := ⟨(R_Tx, F_Tx, 8), t_Tx, kc_Tx, by decide, Or.inl (gw_t 34 (by decide +kernel) rfl), rfl, rfl, rfl, fun z => by first | rfl | exact absurd z (by decide)⟩
theorem g_Tx_44 : FG R_Tx 44 6 4 := f_Tx_44.g
theorem f_Tx_54 : FL R_Tx 54 6 5 (.int) false := ⟨(R_Tx, F_Tx, 8), t_Tx, kc_Tx, by decide, Or.inl (gw_t 35 (by decide +kernel) rfl), rfl, rfl, rfl, fun z => by first | rfl | exact absurd z (by decide)⟩
theorem g_Tx_54 : FG R_Tx 54 6 5 := f_Tx_54.g
theorem f_Tx_19 : FL R_Tx 19 6 6 (.array .int) true := ⟨(R_Tx, F_Tx, 8), t_Tx, kc_Tx, by decide, Or.inl (gw_t 36 (by decide +kernel) rfl), rfl, rfl, rfl, fun z => by first | rfl | exact absurd z (by decide)⟩
theorem g_Tx_19 : FG R_Tx 19 6 6 := f_Tx_19.g
theorem f_Tx_27 : FL R_Tx 27 6 7 (.boolean) false := ⟨(R_Tx, F_Tx, 8), t_Tx, kc_Tx, by decide, Or.inl (gw_t 37 (by decide +kernel) rfl), rfl, rfl, rfl, fun z => by first | rfl | exact absurd z (by decide)⟩
theorem g_Tx_27 : FG R_Tx 27 6 7 := f_Tx_27.g
theorem f_To_9 : FL R_To 9 7 0 (.array .int) true := ⟨(R_To, F_To, 9), t_To, kc_To, by decide, Or.inl (gw_t 62 (by decide +kernel) rfl), rfl, rfl, rfl, fun z => by first | rfl | exact absurd z (by decide)⟩
theorem g_To_9 : FG R_To 9 7 0 := f_To_9.g
theorem f_To_15 : FL R_To 15 7 1 (.array .int) true := ⟨(R_To, F_To, 9), t_To, kc_To, by decide, Or.inl (gw_t 63 (by decide +kernel) rfl), rfl, rfl, rfl, fun z => by first | rfl | exact absurd z (by decide)⟩
theorem g_To_15 : FG R_To 15 7 1 := f_To_15.g
theorem f_To_18 : FL R_To 18 7 2 (.array .int) true := ⟨(R_To, F_To, 9), t_To, kc_To, by decide, Or.inl (gw_t 65 (by decide +kernel) rfl), rfl, rfl, rfl, fun z => by first | rfl | exact absurd z (by decide)⟩
theorem g_To_18 : FG R_To 18 7 2 := f_To_18.g
theorem f_To_21 : FL R_To 21 7 3 (.array .int) true := ⟨(R_To, F_To, 9), t_To, kc_To, by decide, Or.inl (gw_t 67 (by decide +kernel) rfl), rfl, rfl, rfl, fun z => by first | rfl | exact absurd z (by decide)⟩
theorem g_To_21 : FG R_To 21 7 3 := f_To_21.g
theorem f_To_24 : FL R_To 24 7 4 (.array .int) true := ⟨(R_To, F_To, 9), t_To, kc_To, by decide, Or.inl (gw_t 69 (by decide +kernel) rfl), rfl, rfl, rfl, fun z => by first | rfl | exact absurd z (by decide)⟩
theorem g_To_24 : FG R_To 24 7 4 := f_To_24.g
theorem f_To_27 : FL R_To 27 7 5 (.int) false := ⟨(R_To, F_To, 9), t_To, kc_To, by decide, Or.inl (gw_t 71 (by decide +kernel) rfl), rfl, rfl, rfl, fun z => by first | rfl | exact absurd z (by decide)⟩
theorem g_To_27 : FG R_To 27 7 5 := f_To_27.g
theorem f_To_31 : FL R_To 31 7 6 (.int) false := ⟨(R_To, F_To, 9), t_To, kc_To, by decide, Or.inl (gw_t 75 (by decide +kernel) rfl), rfl, rfl, rfl, fun z => by first | rfl | exact absurd z (by decide)⟩
theorem g_To_31 : FG R_To 31 7 6 := f_To_31.g
theorem f_To_34 : FL R_To 34 7 7 (.int) false := ⟨(R_To, F_To, 9), t_To, kc_To, by decide, Or.inl (gw_t 79 (by decide +kernel) rfl), rfl, rfl, rfl, fun z => by first | rfl | exact absurd z (by decide)⟩
theorem g_To_34 : FG R_To 34 7 7 := f_To_34.g
theorem f_To_37 : FL R_To 37 7 8 (.int) false := ⟨(R_To, F_To, 9), t_To, kc_To, by decide, Or.inl (gw_t 82 (by decide +kernel) rfl), rfl, rfl, rfl, fun z => by first | rfl | exact absurd z (by decide)⟩
theorem g_To_37 : FG R_To 37 7 8 := f_To_37.g
theorem f_Fl_9 : FL R_Fl 9 0 0 (.int) false := ⟨(R_Fl, F_Fl, 9), t_Fl, kc_Fl, by decide, Or.inl (gw_t 109 (by decide +kernel) rfl), rfl, rfl, rfl, fun z => by first | rfl | exact absurd z (by decide)⟩
theorem g_Fl_9 : FG R_Fl 9 0 0 := f_Fl_9.g
theorem f_Fl_15 : FL R_Fl 15 0 1 (.int) false := ⟨(R_Fl, F_Fl, 9), t_Fl, kc_Fl, by decide, Or.inl (gw_t 112 (by decide +kernel) rfl), rfl, rfl, rfl, fun z => by first | rfl | exact absurd z (by decide)⟩
theorem g_Fl_15 : FG R_Fl 15 0 1 := f_Fl_15.g
theorem f_Fl_18 : FL R_Fl 18 0 2 (.int) false := ⟨(R_Fl, F_Fl, 9), t_Fl, kc_Fl, by decide, Or.inl (gw_t 115 (by decide +kernel) rfl), rfl, rfl, rfl, fun z => by first | rfl | exact absurd z (by decide)⟩
theorem g_Fl_18 : FG R_Fl 18 0 2 := f_Fl_18.g
theorem f_Fl_34 : FL R_Fl 34 0 3 (.int) false := ⟨(R_Fl, F_Fl, 9), t_Fl, kc_Fl, by decide, Or.inl (gw_t 119 (by decide +kernel) rfl), rfl, rfl, rfl, fun z => by first | rfl | exact absurd z (by decide)⟩
theorem g_Fl_34 : FG R_Fl 34 0 3 := f_Fl_34.g
theorem f_Fl_37 : FL R_Fl 37 0 4 (.int) false := ⟨(R_Fl, F_Fl, 9), t_Fl, kc_Fl, by decide, Or.inl (gw_t 122 (by decide +kernel) rfl), rfl, rfl, rfl, fun z => by first | rfl | exact absurd z (by decide)⟩
theorem g_Fl_37 : FG R_Fl 37 0 4 := f_Fl_37.g
theorem f_Fl_40 : FL R_Fl 40 0 5 (.int) false := ⟨(R_Fl, F_Fl, 9), t_Fl, kc_Fl, by decide, Or.inl (gw_t 125 (by decide +kernel) rfl), rfl, rfl, rfl, fun z => by first | rfl | exact absurd z (by decide)⟩
theorem g_Fl_40 : FG R_Fl 40 0 5 := f_Fl_40.g
theorem f_Fl_24 : FL R_Fl 24 0 6 (.int) false := ⟨(R_Fl, F_Fl, 9), t_Fl, kc_Fl, by decide, Or.inl (gw_t 127 (by decide +kernel) rfl), rfl, rfl, rfl, fun z => by first | rfl | exact absurd z (by decide)⟩
theorem g_Fl_24 : FG R_Fl 24 0 6 := f_Fl_24.g
theorem f_Fl_27 : FL R_Fl 27 0 7 (.int) false := ⟨(R_Fl, F_Fl, 9), t_Fl, kc_Fl, by decide, Or.inl (gw_t 129 (by decide +kernel) rfl), rfl, rfl, rfl, fun z => by first | rfl | exact absurd z (by decide)⟩
theorem g_Fl_27 : FG R_Fl 27 0 7 := f_Fl_27.g
theorem f_Fl_30 : FL R_Fl 30 0 8 (.boolean) false := ⟨(R_Fl, F_Fl, 9), t_Fl, kc_Fl, by decide, Or.inl (gw_t 130 (by decide +kernel) rfl), rfl, rfl, rfl, fun z => by first | rfl | exact absurd z (by decide)⟩
theorem g_Fl_30 : FG R_Fl 30 0 8 := f_Fl_30.g
theorem f_Hi_11 : FL R_Hi 11 1 0 (.array (.object "ThoughtBalloon$Flight")) true := ⟨(R_Hi, F_Hi, 2), t_Hi, kc_Hi, by decide, Or.inl (gw_t 162 (by decide +kernel) rfl), rfl, rfl, rfl, fun z => by first | rfl | exact absurd z (by decide)⟩
theorem g_Hi_11 : FG R_Hi 11 1 0 := f_Hi_11.g
theorem f_Hi_17 : FL R_Hi 17 1 1 (.int) false := ⟨(R_Hi, F_Hi, 2), t_Hi, kc_Hi, by decide, Or.inl (gw_t 163 (by decide +kernel) rfl), rfl, rfl, rfl, fun z => by first | rfl | exact absurd z (by decide)⟩
theorem g_Hi_17 : FG R_Hi 17 1 1 := f_Hi_17.g
theorem f_Se_29 : FL R_Se 29 5 0 (.object "ThoughtBalloon$Told") true := ⟨(R_Se, F_Se, 8), t_Se, kc_Se, by decide, Or.inl (gw_t 182 (by decide +kernel) rfl), rfl, rfl, rfl, fun z => by first | rfl | exact absurd z (by decide)⟩
theorem g_Se_29 : FG R_Se 29 5 0 := f_Se_29.g
theorem f_Se_11 : FL R_Se 11 5 1 (.array (.object "ThoughtBalloon$Flight")) true := ⟨(R_Se, F_Se, 8), t_Se, kc_Se, by decide, Or.inl (gw_t 183 (by decide +kernel) rfl), rfl, rfl, rfl, fun z => by first | rfl | exact absurd z (by decide)⟩
theorem g_Se_11 : FG R_Se 11 5 1 := f_Se_11.g
theorem f_Se_17 : FL R_Se 17 5 2 (.array .int) true := ⟨(R_Se, F_Se, 8), t_Se, kc_Se, by decide, Or.inl (gw_t 184 (by decide +kernel) rfl), rfl, rfl, rfl, fun z => by first | rfl | exact absurd z (by decide)⟩
theorem g_Se_17 : FG R_Se 17 5 2 := f_Se_17.g
theorem f_Se_21 : FL R_Se 21 5 3 (.array .int) true := ⟨(R_Se, F_Se, 8), t_Se, kc_Se, by decide, Or.inl (gw_t 185 (by decide +kernel) rfl), rfl, rfl, rfl, fun z => by first | rfl | exact absurd z (by decide)⟩
theorem g_Se_21 : FG R_Se 21 5 3 := f_Se_21.g
theorem f_Se_26 : FL R_Se 26 5 4 (.array (.array .int)) true := ⟨(R_Se, F_Se, 8), t_Se, kc_Se, by decide, Or.inl (gw_t 187 (by decide +kernel) rfl), rfl, rfl, rfl, fun z => by first | rfl | exact absurd z (by decide)⟩
theorem g_Se_26 : FG R_Se 26 5 4 := f_Se_26.g
theorem f_Se_40 : FL R_Se 40 5 5 (.int) false := ⟨(R_Se, F_Se, 8), t_Se, kc_Se, by decide, Or.inl (gw_t 188 (by decide +kernel) rfl), rfl, rfl, rfl, fun z => by first | rfl | exact absurd z (by decide)⟩
theorem g_Se_40 : FG R_Se 40 5 5 := f_Se_40.g
theorem f_Se_44 : FL R_Se 44 5 6 (.int) false := ⟨(R_Se, F_Se, 8), t_Se, kc_Se, by decide, Or.inl (gw_t 189 (by decide +kernel) rfl), rfl, rfl, rfl, fun z => by first | rfl | exact absurd z (by decide)⟩
theorem g_Se_44 : FG R_Se 44 5 6 := f_Se_44.g
theorem f_Se_47 : FL R_Se 47 5 7 (.int) false := ⟨(R_Se, F_Se, 8), t_Se, kc_Se, by decide, Or.inl (gw_t 190 (by decide +kernel) rfl), rfl, rfl, rfl, fun z => by first | rfl | exact absurd z (by decide)⟩
theorem g_Se_47 : FG R_Se 47 5 7 := f_Se_47.g
theorem f_Od_9 : FL R_Od 9 3 0 (.array .int) true := ⟨(R_Od, F_Od, 3), t_Od, kc_Od, by decide, Or.inl (gw_t 215 (by decide +kernel) rfl), rfl, rfl, rfl, fun z => by first | rfl | exact absurd z (by decide)⟩
theorem g_Od_9 : FG R_Od 9 3 0 := f_Od_9.g
theorem f_Od_15 : FL R_Od 15 3 1 (.array .int) true := ⟨(R_Od, F_Od, 3), t_Od, kc_Od, by decide, Or.inl (gw_t 216 (by decide +kernel) rfl), rfl, rfl, rfl, fun z => by first | rfl | exact absurd z (by decide)⟩
theorem g_Od_15 : FG R_Od 15 3 1 := f_Od_15.g
theorem f_Od_28 : FL R_Od 28 3 2 (.int) false := ⟨(R_Od, F_Od, 3), t_Od, kc_Od, by decide, Or.inl (gw_t 217 (by decide +kernel) rfl), rfl, rfl, rfl, fun z => by first | rfl | exact absurd z (by decide)⟩
theorem g_Od_28 : FG R_Od 28 3 2 := f_Od_28.g
theorem f_Re_9 : FL R_Re 9 4 0 (.array .int) true := ⟨(R_Re, F_Re, 4), t_Re, kc_Re, by decide, Or.inl (gw_t 231 (by decide +kernel) rfl), rfl, rfl, rfl, fun z => by first | rfl | exact absurd z (by decide)⟩
theorem g_Re_9 : FG R_Re 9 4 0 := f_Re_9.g
theorem f_Re_15 : FL R_Re 15 4 1 (.array .int) true := ⟨(R_Re, F_Re, 4), t_Re, kc_Re, by decide, Or.inl (gw_t 233 (by decide +kernel) rfl), rfl, rfl, rfl, fun z => by first | rfl | exact absurd z (by decide)⟩
theorem g_Re_15 : FG R_Re 15 4 1 := f_Re_15.g
theorem f_Re_18 : FL R_Re 18 4 2 (.array .int) true := ⟨(R_Re, F_Re, 4), t_Re, kc_Re, by decide, Or.inl (gw_t 235 (by decide +kernel) rfl), rfl, rfl, rfl, fun z => by first | rfl | exact absurd z (by decide)⟩
theorem g_Re_18 : FG R_Re 18 4 2 := f_Re_18.g
theorem f_Re_21 : FL R_Re 21 4 3 (.int) false := ⟨(R_Re, F_Re, 4), t_Re, kc_Re, by decide, Or.inl (gw_t 237 (by decide +kernel) rfl), rfl, rfl, rfl, fun z => by first | rfl | exact absurd z (by decide)⟩
theorem g_Re_21 : FG R_Re 21 4 3 := f_Re_21.g
theorem f_Im_10 : FL R_Im 10 2 0 (.object "ThoughtBalloon$Flight") true := ⟨(R_Im, F_Im, 3), t_Im, kc_Im, by decide, Or.inl (gw_t 257 (by decide +kernel) rfl), rfl, rfl, rfl, fun z => by first | rfl | exact absurd z (by decide)⟩
theorem g_Im_10 : FG R_Im 10 2 0 := f_Im_10.g
theorem f_Im_19 : FL R_Im 19 2 1 (.object "ThoughtBalloon$History") true := ⟨(R_Im, F_Im, 3), t_Im, kc_Im, by decide, Or.inl (gw_t 258 (by decide +kernel) rfl), rfl, rfl, rfl, fun z => by first | rfl | exact absurd z (by decide)⟩
theorem g_Im_19 : FG R_Im 19 2 1 := f_Im_19.g
theorem f_Im_23 : FL R_Im 23 2 2 (.boolean) false := ⟨(R_Im, F_Im, 3), t_Im, kc_Im, by decide, Or.inl (gw_t 259 (by decide +kernel) rfl), rfl, rfl, rfl, fun z => by first | rfl | exact absurd z (by decide)⟩
theorem g_Im_23 : FG R_Im 23 2 2 := f_Im_23.g
theorem f_Tb_10 : FL R_Tb 10 8 0 (.object "ThoughtBalloon$Text") true := ⟨(R_Tb, F_Tb, 13), t_Tb, kc_Tb, by decide, Or.inl (gw_t 284 (by decide +kernel) rfl), rfl, rfl, rfl, fun z => by first | rfl | exact absurd z (by decide)⟩
theorem g_Tb_10 : FG R_Tb 10 8 0 := f_Tb_10.g
theorem f_Tb_19 : FL R_Tb 19 8 1 (.object "ThoughtBalloon$Told") true := ⟨(R_Tb, F_Tb, 13), t_Tb, kc_Tb, by decide, Or.inl (gw_t 285 (by decide +kernel) rfl), rfl, rfl, rfl, fun z => by first | rfl | exact absurd z (by decide)⟩
theorem g_Tb_19 : FG R_Tb 19 8 1 := f_Tb_19.g
theorem f_Tb_23 : FL R_Tb 23 8 2 (.object "ThoughtBalloon$Told") true := ⟨(R_Tb, F_Tb, 13), t_Tb, kc_Tb, by decide, Or.inl (gw_t 286 (by decide +kernel) rfl), rfl, rfl, rfl, fun z => by first | rfl | exact absurd z (by decide)⟩
theorem g_Tb_23 : FG R_Tb 23 8 2 := f_Tb_23.g
theorem f_Tb_29 : FL R_Tb 29 8 3 (.object "ThoughtBalloon$Flight") true := ⟨(R_Tb, F_Tb, 13), t_Tb, kc_Tb, by decide, Or.inl (gw_t 287 (by decide +kernel) rfl), rfl, rfl, rfl, fun z => by first | rfl | exact absurd z (by decide)⟩
theorem g_Tb_29 : FG R_Tb 29 8 3 := f_Tb_29.g
theorem f_Tb_33 : FL R_Tb 33 8 4 (.object "ThoughtBalloon$Flight") true := ⟨(R_Tb, F_Tb, 13), t_Tb, kc_Tb, by decide, Or.inl (gw_t 288 (by decide +kernel) rfl), rfl, rfl, rfl, fun z => by first | rfl | exact absurd z (by decide)⟩
theorem g_Tb_33 : FG R_Tb 33 8 4 := f_Tb_33.g
theorem f_Tb_39 : FL R_Tb 39 8 5 (.object "ThoughtBalloon$History") true := ⟨(R_Tb, F_Tb, 13), t_Tb, kc_Tb, by decide, Or.inl (gw_t 289 (by decide +kernel) rfl), rfl, rfl, rfl, fun z => by first | rfl | exact absurd z (by decide)⟩
theorem g_Tb_39 : FG R_Tb 39 8 5 := f_Tb_39.g
theorem f_Tb_45 : FL R_Tb 45 8 6 (.array (.object "ThoughtBalloon$Image")) true := ⟨(R_Tb, F_Tb, 13), t_Tb, kc_Tb, by decide, Or.inl (gw_t 290 (by decide +kernel) rfl), rfl, rfl, rfl, fun z => by first | rfl | exact absurd z (by decide)⟩
theorem g_Tb_45 : FG R_Tb 45 8 6 := f_Tb_45.g
theorem f_Tb_54 : FL R_Tb 54 8 7 (.object "ThoughtBalloon$Search") true := ⟨(R_Tb, F_Tb, 13), t_Tb, kc_Tb, by decide, Or.inl (gw_t 291 (by decide +kernel) rfl), rfl, rfl, rfl, fun z => by first | rfl | exact absurd z (by decide)⟩
theorem g_Tb_54 : FG R_Tb 54 8 7 := f_Tb_54.g
theorem f_Tb_61 : FL R_Tb 61 8 8 (.object "ThoughtBalloon$Odds") true := ⟨(R_Tb, F_Tb, 13), t_Tb, kc_Tb, by decide, Or.inl (gw_t 292 (by decide +kernel) rfl), rfl, rfl, rfl, fun z => by first | rfl | exact absurd z (by decide)⟩
theorem g_Tb_61 : FG R_Tb 61 8 8 := f_Tb_61.g
theorem f_Tb_68 : FL R_Tb 68 8 9 (.object "ThoughtBalloon$Reports") true := ⟨(R_Tb, F_Tb, 13), t_Tb, kc_Tb, by decide, Or.inl (gw_t 293 (by decide +kernel) rfl), rfl, rfl, rfl, fun z => by first | rfl | exact absurd z (by decide)⟩
theorem g_Tb_68 : FG R_Tb 68 8 9 := f_Tb_68.g
theorem f_Tb_72 : FL R_Tb 72 8 10 (.object "ThoughtBalloon$Reports") true := ⟨(R_Tb, F_Tb, 13), t_Tb, kc_Tb, by decide, Or.inl (gw_t 294 (by decide +kernel) rfl), rfl, rfl, rfl, fun z => by first | rfl | exact absurd z (by decide)⟩
theorem g_Tb_72 : FG R_Tb 72 8 10 := f_Tb_72.g
theorem f_Tb_75 : FL R_Tb 75 8 11 (.array .int) true := ⟨(R_Tb, F_Tb, 13), t_Tb, kc_Tb, by decide, Or.inl (gw_t 295 (by decide +kernel) rfl), rfl, rfl, rfl, fun z => by first | rfl | exact absurd z (by decide)⟩
theorem g_Tb_75 : FG R_Tb 75 8 11 := f_Tb_75.g
theorem f_Tb_79 : FL R_Tb 79 8 12 (.long) false := ⟨(R_Tb, F_Tb, 13), t_Tb, kc_Tb, by decide, Or.inl (gw_t 296 (by decide +kernel) rfl), rfl, rfl, rfl, fun z => by first | rfl | exact absurd z (by decide)⟩
theorem g_Tb_79 : FG R_Tb 79 8 12 := f_Tb_79.g
theorem gs_Tx_51 : Cond.fieldLink R_Tx 51 R_Tx "NUMBERS" "[I" ∈ e_gw := gw_t 387 (by decide +kernel) rfl
theorem gs_Tx_57 : Cond.fieldLink R_Tx 57 R_Tx "LEAST" "[I" ∈ e_gw := gw_t 389 (by decide +kernel) rfl
theorem gs_Tx_60 : Cond.fieldLink R_Tx 60 R_Tx "MOST" "[I" ∈ e_gw := gw_t 391 (by decide +kernel) rfl
theorem f_Mo_7 : FL R_Mo 7 9 0 (.array .byte) true := ⟨(R_Mo, F_Mo, 33), t_Mo, kc_Mo, by decide, Or.inl (gw_t 792 (by decide +kernel) rfl), rfl, rfl, rfl, fun z => by first | rfl | exact absurd z (by decide)⟩
theorem g_Mo_7 : FG R_Mo 7 9 0 := f_Mo_7.g
theorem f_Mo_82 : FL R_Mo 82 9 1 (.int) false := ⟨(R_Mo, F_Mo, 33), t_Mo, kc_Mo, by decide, Or.inl (gw_t 793 (by decide +kernel) rfl), rfl, rfl, rfl, fun z => by first | rfl | exact absurd z (by decide)⟩
theorem g_Mo_82 : FG R_Mo 82 9 1 := f_Mo_82.g
theorem f_Mo_13 : FL R_Mo 13 9 2 (.array .int) true := ⟨(R_Mo, F_Mo, 33), t_Mo, kc_Mo, by decide, Or.inl (gw_t 794 (by decide +kernel) rfl), rfl, rfl, rfl, fun z => by first | rfl | exact absurd z (by decide)⟩
theorem g_Mo_13 : FG R_Mo 13 9 2 := f_Mo_13.g
theorem f_Mo_17 : FL R_Mo 17 9 3 (.array .int) true := ⟨(R_Mo, F_Mo, 33), t_Mo, kc_Mo, by decide, Or.inl (gw_t 795 (by decide +kernel) rfl), rfl, rfl, rfl, fun z => by first | rfl | exact absurd z (by decide)⟩
theorem g_Mo_17 : FG R_Mo 17 9 3 := f_Mo_17.g
theorem f_Mo_20 : FL R_Mo 20 9 4 (.array .int) true := ⟨(R_Mo, F_Mo, 33), t_Mo, kc_Mo, by decide, Or.inl (gw_t 796 (by decide +kernel) rfl), rfl, rfl, rfl, fun z => by first | rfl | exact absurd z (by decide)⟩
theorem g_Mo_20 : FG R_Mo 20 9 4 := f_Mo_20.g
theorem f_Mo_23 : FL R_Mo 23 9 5 (.array .int) true := ⟨(R_Mo, F_Mo, 33), t_Mo, kc_Mo, by decide, Or.inl (gw_t 797 (by decide +kernel) rfl), rfl, rfl, rfl, fun z => by first | rfl | exact absurd z (by decide)⟩
theorem g_Mo_23 : FG R_Mo 23 9 5 := f_Mo_23.g
theorem f_Mo_26 : FL R_Mo 26 9 6 (.array .int) true := ⟨(R_Mo, F_Mo, 33), t_Mo, kc_Mo, by decide, Or.inl (gw_t 798 (by decide +kernel) rfl), rfl, rfl, rfl, fun z => by first | rfl | exact absurd z (by decide)⟩
theorem g_Mo_26 : FG R_Mo 26 9 6 := f_Mo_26.g
theorem f_Mo_29 : FL R_Mo 29 9 7 (.array .int) true := ⟨(R_Mo, F_Mo, 33), t_Mo, kc_Mo, by decide, Or.inl (gw_t 799 (by decide +kernel) rfl), rfl, rfl, rfl, fun z => by first | rfl | exact absurd z (by decide)⟩
theorem g_Mo_29 : FG R_Mo 29 9 7 := f_Mo_29.g
theorem f_Mo_32 : FL R_Mo 32 9 8 (.array .int) true := ⟨(R_Mo, F_Mo, 33), t_Mo, kc_Mo, by decide, Or.inl (gw_t 800 (by decide +kernel) rfl), rfl, rfl, rfl, fun z => by first | rfl | exact absurd z (by decide)⟩
theorem g_Mo_32 : FG R_Mo 32 9 8 := f_Mo_32.g
theorem f_Mo_35 : FL R_Mo 35 9 9 (.array .int) true := ⟨(R_Mo, F_Mo, 33), t_Mo, kc_Mo, by decide, Or.inl (gw_t 801 (by decide +kernel) rfl), rfl, rfl, rfl, fun z => by first | rfl | exact absurd z (by decide)⟩
theorem g_Mo_35 : FG R_Mo 35 9 9 := f_Mo_35.g
theorem f_Mo_38 : FL R_Mo 38 9 10 (.array .int) true := ⟨(R_Mo, F_Mo, 33), t_Mo, kc_Mo, by decide, Or.inl (gw_t 802 (by decide +kernel) rfl), rfl, rfl, rfl, fun z => by first | rfl | exact absurd z (by decide)⟩
theorem g_Mo_38 : FG R_Mo 38 9 10 := f_Mo_38.g
theorem f_Mo_86 : FL R_Mo 86 9 11 (.int) false := ⟨(R_Mo, F_Mo, 33), t_Mo, kc_Mo, by decide, Or.inl (gw_t 803 (by decide +kernel) rfl), rfl, rfl, rfl, fun z => by first | rfl | exact absurd z (by decide)⟩
theorem g_Mo_86 : FG R_Mo 86 9 11 := f_Mo_86.g
theorem f_Mo_93 : FL R_Mo 93 9 12 (.int) false := ⟨(R_Mo, F_Mo, 33), t_Mo, kc_Mo, by decide, Or.inl (gw_t 804 (by decide +kernel) rfl), rfl, rfl, rfl, fun z => by first | rfl | exact absurd z (by decide)⟩
theorem g_Mo_93 : FG R_Mo 93 9 12 := f_Mo_93.g
theorem f_Mo_99 : FL R_Mo 99 9 13 (.int) false := ⟨(R_Mo, F_Mo, 33), t_Mo, kc_Mo, by decide, Or.inl (gw_t 805 (by decide +kernel) rfl), rfl, rfl, rfl, fun z => by first | rfl | exact absurd z (by decide)⟩
theorem g_Mo_99 : FG R_Mo 99 9 13 := f_Mo_99.g
theorem f_Mo_96 : FL R_Mo 96 9 14 (.int) false := ⟨(R_Mo, F_Mo, 33), t_Mo, kc_Mo, by decide, Or.inl (gw_t 806 (by decide +kernel) rfl), rfl, rfl, rfl, fun z => by first | rfl | exact absurd z (by decide)⟩
theorem g_Mo_96 : FG R_Mo 96 9 14 := f_Mo_96.g
theorem f_Mo_102 : FL R_Mo 102 9 15 (.boolean) false := ⟨(R_Mo, F_Mo, 33), t_Mo, kc_Mo, by decide, Or.inl (gw_t 807 (by decide +kernel) rfl), rfl, rfl, rfl, fun z => by first | rfl | exact absurd z (by decide)⟩
theorem g_Mo_102 : FG R_Mo 102 9 15 := f_Mo_102.g
theorem f_Mo_120 : FL R_Mo 120 9 16 (.int) false := ⟨(R_Mo, F_Mo, 33), t_Mo, kc_Mo, by decide, Or.inl (gw_t 808 (by decide +kernel) rfl), rfl, rfl, rfl, fun z => by first | rfl | exact absurd z (by decide)⟩
theorem g_Mo_120 : FG R_Mo 120 9 16 := f_Mo_120.g
theorem f_Mo_117 : FL R_Mo 117 9 17 (.boolean) false := ⟨(R_Mo, F_Mo, 33), t_Mo, kc_Mo, by decide, Or.inl (gw_t 809 (by decide +kernel) rfl), rfl, rfl, rfl, fun z => by first | rfl | exact absurd z (by decide)⟩
theorem g_Mo_117 : FG R_Mo 117 9 17 := f_Mo_117.g
theorem f_Mo_41 : FL R_Mo 41 9 18 (.array .int) true := ⟨(R_Mo, F_Mo, 33), t_Mo, kc_Mo, by decide, Or.inl (gw_t 810 (by decide +kernel) rfl), rfl, rfl, rfl, fun z => by first | rfl | exact absurd z (by decide)⟩
theorem g_Mo_41 : FG R_Mo 41 9 18 := f_Mo_41.g
theorem f_Mo_44 : FL R_Mo 44 9 19 (.array .int) true := ⟨(R_Mo, F_Mo, 33), t_Mo, kc_Mo, by decide, Or.inl (gw_t 811 (by decide +kernel) rfl), rfl, rfl, rfl, fun z => by first | rfl | exact absurd z (by decide)⟩
theorem g_Mo_44 : FG R_Mo 44 9 19 := f_Mo_44.g
theorem f_Mo_47 : FL R_Mo 47 9 20 (.array .int) true := ⟨(R_Mo, F_Mo, 33), t_Mo, kc_Mo, by decide, Or.inl (gw_t 812 (by decide +kernel) rfl), rfl, rfl, rfl, fun z => by first | rfl | exact absurd z (by decide)⟩
theorem g_Mo_47 : FG R_Mo 47 9 20 := f_Mo_47.g
theorem f_Mo_50 : FL R_Mo 50 9 21 (.array .int) true := ⟨(R_Mo, F_Mo, 33), t_Mo, kc_Mo, by decide, Or.inl (gw_t 813 (by decide +kernel) rfl), rfl, rfl, rfl, fun z => by first | rfl | exact absurd z (by decide)⟩
theorem g_Mo_50 : FG R_Mo 50 9 21 := f_Mo_50.g
theorem f_Mo_53 : FL R_Mo 53 9 22 (.array .boolean) true := ⟨(R_Mo, F_Mo, 33), t_Mo, kc_Mo, by decide, Or.inl (gw_t 814 (by decide +kernel) rfl), rfl, rfl, rfl, fun z => by first | rfl | exact absurd z (by decide)⟩
theorem g_Mo_53 : FG R_Mo 53 9 22 := f_Mo_53.g
theorem f_Mo_57 : FL R_Mo 57 9 23 (.array .int) true := ⟨(R_Mo, F_Mo, 33), t_Mo, kc_Mo, by decide, Or.inl (gw_t 815 (by decide +kernel) rfl), rfl, rfl, rfl, fun z => by first | rfl | exact absurd z (by decide)⟩
theorem g_Mo_57 : FG R_Mo 57 9 23 := f_Mo_57.g
theorem f_Mo_60 : FL R_Mo 60 9 24 (.array .int) true := ⟨(R_Mo, F_Mo, 33), t_Mo, kc_Mo, by decide, Or.inl (gw_t 816 (by decide +kernel) rfl), rfl, rfl, rfl, fun z => by first | rfl | exact absurd z (by decide)⟩
theorem g_Mo_60 : FG R_Mo 60 9 24 := f_Mo_60.g
theorem f_Mo_63 : FL R_Mo 63 9 25 (.array .int) true := ⟨(R_Mo, F_Mo, 33), t_Mo, kc_Mo, by decide, Or.inl (gw_t 817 (by decide +kernel) rfl), rfl, rfl, rfl, fun z => by first | rfl | exact absurd z (by decide)⟩
theorem g_Mo_63 : FG R_Mo 63 9 25 := f_Mo_63.g
theorem f_Mo_66 : FL R_Mo 66 9 26 (.array .int) true := ⟨(R_Mo, F_Mo, 33), t_Mo, kc_Mo, by decide, Or.inl (gw_t 818 (by decide +kernel) rfl), rfl, rfl, rfl, fun z => by first | rfl | exact absurd z (by decide)⟩
theorem g_Mo_66 : FG R_Mo 66 9 26 := f_Mo_66.g
theorem f_Mo_69 : FL R_Mo 69 9 27 (.array .int) true := ⟨(R_Mo, F_Mo, 33), t_Mo, kc_Mo, by decide, Or.inl (gw_t 819 (by decide +kernel) rfl), rfl, rfl, rfl, fun z => by first | rfl | exact absurd z (by decide)⟩
theorem g_Mo_69 : FG R_Mo 69 9 27 := f_Mo_69.g
theorem f_Mo_134 : FL R_Mo 134 9 28 (.int) false := ⟨(R_Mo, F_Mo, 33), t_Mo, kc_Mo, by decide, Or.inl (gw_t 820 (by decide +kernel) rfl), rfl, rfl, rfl, fun z => by first | rfl | exact absurd z (by decide)⟩
theorem g_Mo_134 : FG R_Mo 134 9 28 := f_Mo_134.g
theorem f_Mo_72 : FL R_Mo 72 9 29 (.array .int) true := ⟨(R_Mo, F_Mo, 33), t_Mo, kc_Mo, by decide, Or.inl (gw_t 821 (by decide +kernel) rfl), rfl, rfl, rfl, fun z => by first | rfl | exact absurd z (by decide)⟩
theorem g_Mo_72 : FG R_Mo 72 9 29 := f_Mo_72.g
theorem f_Mo_75 : FL R_Mo 75 9 30 (.array .int) true := ⟨(R_Mo, F_Mo, 33), t_Mo, kc_Mo, by decide, Or.inl (gw_t 822 (by decide +kernel) rfl), rfl, rfl, rfl, fun z => by first | rfl | exact absurd z (by decide)⟩
theorem g_Mo_75 : FG R_Mo 75 9 30 := f_Mo_75.g
theorem f_Mo_137 : FL R_Mo 137 9 31 (.int) false := ⟨(R_Mo, F_Mo, 33), t_Mo, kc_Mo, by decide, Or.inl (gw_t 823 (by decide +kernel) rfl), rfl, rfl, rfl, fun z => by first | rfl | exact absurd z (by decide)⟩
theorem g_Mo_137 : FG R_Mo 137 9 31 := f_Mo_137.g
theorem f_Mo_204 : FL R_Mo 204 9 32 (.long) false := ⟨(R_Mo, F_Mo, 33), t_Mo, kc_Mo, by decide, Or.inl (gw_t 824 (by decide +kernel) rfl), rfl, rfl, rfl, fun z => by first | rfl | exact absurd z (by decide)⟩
theorem g_Mo_204 : FG R_Mo 204 9 32 := f_Mo_204.g
theorem f_Tb_297 : FL R_Tb 297 6 1 (.int) false := ⟨(R_Tx, F_Tx, 8), t_Tx, kc_Tx, by decide, Or.inr ⟨"ThoughtBalloon", nw_t 31 (by decide +kernel) rfl, rfl⟩, rfl, rfl, rfl, fun z => by first | rfl | exact absurd z (by decide)⟩
theorem g_Tb_297 : FG R_Tb 297 6 1 := f_Tb_297.g
theorem g_Tb_114 : FG R_Tb 114 7 1 := ⟨(R_To, F_To, 9), t_To, kc_To, by decide, Or.inr ⟨"ThoughtBalloon", nw_t 64 (by decide +kernel) rfl⟩, rfl⟩
theorem g_Tb_117 : FG R_Tb 117 7 2 := ⟨(R_To, F_To, 9), t_To, kc_To, by decide, Or.inr ⟨"ThoughtBalloon", nw_t 66 (by decide +kernel) rfl⟩, rfl⟩
theorem g_Tb_132 : FG R_Tb 132 7 3 := ⟨(R_To, F_To, 9), t_To, kc_To, by decide, Or.inr ⟨"ThoughtBalloon", nw_t 68 (by decide +kernel) rfl⟩, rfl⟩
theorem g_Tb_135 : FG R_Tb 135 7 4 := ⟨(R_To, F_To, 9), t_To, kc_To, by decide, Or.inr ⟨"ThoughtBalloon", nw_t 70 (by decide +kernel) rfl⟩, rfl⟩
theorem f_Se_93 : FL R_Se 93 7 5 (.int) false := ⟨(R_To, F_To, 9), t_To, kc_To, by decide, Or.inr ⟨"ThoughtBalloon", nw_t 72 (by decide +kernel) rfl, rfl⟩, rfl, rfl, rfl, fun z => by first | rfl | exact absurd z (by decide)⟩
theorem g_Se_93 : FG R_Se 93 7 5 := f_Se_93.g
theorem f_Tx_71 : FL R_Tx 71 7 5 (.int) false := ⟨(R_To, F_To, 9), t_To, kc_To, by decide, Or.inr ⟨"ThoughtBalloon", nw_t 73 (by decide +kernel) rfl, rfl⟩, rfl, rfl, rfl, fun z => by first | rfl | exact absurd z (by decide)⟩
theorem g_Tx_71 : FG R_Tx 71 7 5 := f_Tx_71.g
theorem f_Tb_287 : FL R_Tb 287 7 5 (.int) false := ⟨(R_To, F_To, 9), t_To, kc_To, by decide, Or.inr ⟨"ThoughtBalloon", nw_t 74 (by decide +kernel) rfl, rfl⟩, rfl, rfl, rfl, fun z => by first | rfl | exact absurd z (by decide)⟩
theorem g_Tb_287 : FG R_Tb 287 7 5 := f_Tb_287.g
theorem f_Se_96 : FL R_Se 96 7 6 (.int) false := ⟨(R_To, F_To, 9), t_To, kc_To, by decide, Or.inr ⟨"ThoughtBalloon", nw_t 76 (by decide +kernel) rfl, rfl⟩, rfl, rfl, rfl, fun z => by first | rfl | exact absurd z (by decide)⟩
theorem g_Se_96 : FG R_Se 96 7 6 := f_Se_96.g
theorem f_Tx_74 : FL R_Tx 74 7 6 (.int) false := ⟨(R_To, F_To, 9), t_To, kc_To, by decide, Or.inr ⟨"ThoughtBalloon", nw_t 77 (by decide +kernel) rfl, rfl⟩, rfl, rfl, rfl, fun z => by first | rfl | exact absurd z (by decide)⟩
theorem g_Tx_74 : FG R_Tx 74 7 6 := f_Tx_74.g
theorem f_Tb_290 : FL R_Tb 290 7 6 (.int) false := ⟨(R_To, F_To, 9), t_To, kc_To, by decide, Or.inr ⟨"ThoughtBalloon", nw_t 78 (by decide +kernel) rfl, rfl⟩, rfl, rfl, rfl, fun z => by first | rfl | exact absurd z (by decide)⟩
theorem g_Tb_290 : FG R_Tb 290 7 6 := f_Tb_290.g
theorem f_Tx_88 : FL R_Tx 88 7 7 (.int) false := ⟨(R_To, F_To, 9), t_To, kc_To, by decide, Or.inr ⟨"ThoughtBalloon", nw_t 80 (by decide +kernel) rfl, rfl⟩, rfl, rfl, rfl, fun z => by first | rfl | exact absurd z (by decide)⟩
theorem g_Tx_88 : FG R_Tx 88 7 7 := f_Tx_88.g
theorem f_Tb_293 : FL R_Tb 293 7 7 (.int) false := ⟨(R_To, F_To, 9), t_To, kc_To, by decide, Or.inr ⟨"ThoughtBalloon", nw_t 81 (by decide +kernel) rfl, rfl⟩, rfl, rfl, rfl, fun z => by first | rfl | exact absurd z (by decide)⟩
theorem g_Tb_293 : FG R_Tb 293 7 7 := f_Tb_293.g
theorem f_Tb_300 : FL R_Tb 300 7 8 (.int) false := ⟨(R_To, F_To, 9), t_To, kc_To, by decide, Or.inr ⟨"ThoughtBalloon", nw_t 83 (by decide +kernel) rfl, rfl⟩, rfl, rfl, rfl, fun z => by first | rfl | exact absurd z (by decide)⟩
theorem g_Tb_300 : FG R_Tb 300 7 8 := f_Tb_300.g
theorem f_Tb_158 : FL R_Tb 158 0 0 (.int) false := ⟨(R_Fl, F_Fl, 9), t_Fl, kc_Fl, by decide, Or.inr ⟨"ThoughtBalloon", nw_t 110 (by decide +kernel) rfl, rfl⟩, rfl, rfl, rfl, fun z => by first | rfl | exact absurd z (by decide)⟩
theorem g_Tb_158 : FG R_Tb 158 0 0 := f_Tb_158.g
theorem f_To_70 : FL R_To 70 0 0 (.int) false := ⟨(R_Fl, F_Fl, 9), t_Fl, kc_Fl, by decide, Or.inr ⟨"ThoughtBalloon", nw_t 111 (by decide +kernel) rfl, rfl⟩, rfl, rfl, rfl, fun z => by first | rfl | exact absurd z (by decide)⟩
theorem g_To_70 : FG R_To 70 0 0 := f_To_70.g
theorem f_Se_113 : FL R_Se 113 0 1 (.int) false := ⟨(R_Fl, F_Fl, 9), t_Fl, kc_Fl, by decide, Or.inr ⟨"ThoughtBalloon", nw_t 113 (by decide +kernel) rfl, rfl⟩, rfl, rfl, rfl, fun z => by first | rfl | exact absurd z (by decide)⟩
theorem g_Se_113 : FG R_Se 113 0 1 := f_Se_113.g
theorem f_Tb_166 : FL R_Tb 166 0 1 (.int) false := ⟨(R_Fl, F_Fl, 9), t_Fl, kc_Fl, by decide, Or.inr ⟨"ThoughtBalloon", nw_t 114 (by decide +kernel) rfl, rfl⟩, rfl, rfl, rfl, fun z => by first | rfl | exact absurd z (by decide)⟩
theorem g_Tb_166 : FG R_Tb 166 0 1 := f_Tb_166.g
theorem f_Se_110 : FL R_Se 110 0 2 (.int) false := ⟨(R_Fl, F_Fl, 9), t_Fl, kc_Fl, by decide, Or.inr ⟨"ThoughtBalloon", nw_t 116 (by decide +kernel) rfl, rfl⟩, rfl, rfl, rfl, fun z => by first | rfl | exact absurd z (by decide)⟩
theorem g_Se_110 : FG R_Se 110 0 2 := f_Se_110.g
theorem f_Tb_194 : FL R_Tb 194 0 2 (.int) false := ⟨(R_Fl, F_Fl, 9), t_Fl, kc_Fl, by decide, Or.inr ⟨"ThoughtBalloon", nw_t 117 (by decide +kernel) rfl, rfl⟩, rfl, rfl, rfl, fun z => by first | rfl | exact absurd z (by decide)⟩
theorem g_Tb_194 : FG R_Tb 194 0 2 := f_Tb_194.g
theorem f_To_109 : FL R_To 109 0 2 (.int) false := ⟨(R_Fl, F_Fl, 9), t_Fl, kc_Fl, by decide, Or.inr ⟨"ThoughtBalloon", nw_t 118 (by decide +kernel) rfl, rfl⟩, rfl, rfl, rfl, fun z => by first | rfl | exact absurd z (by decide)⟩
theorem g_To_109 : FG R_To 109 0 2 := f_To_109.g
theorem f_To_62 : FL R_To 62 0 3 (.int) false := ⟨(R_Fl, F_Fl, 9), t_Fl, kc_Fl, by decide, Or.inr ⟨"ThoughtBalloon", nw_t 120 (by decide +kernel) rfl, rfl⟩, rfl, rfl, rfl, fun z => by first | rfl | exact absurd z (by decide)⟩
theorem g_To_62 : FG R_To 62 0 3 := f_To_62.g
theorem f_Tb_197 : FL R_Tb 197 0 3 (.int) false := ⟨(R_Fl, F_Fl, 9), t_Fl, kc_Fl, by decide, Or.inr ⟨"ThoughtBalloon", nw_t 121 (by decide +kernel) rfl, rfl⟩, rfl, rfl, rfl, fun z => by first | rfl | exact absurd z (by decide)⟩
theorem g_Tb_197 : FG R_Tb 197 0 3 := f_Tb_197.g
theorem f_To_67 : FL R_To 67 0 4 (.int) false := ⟨(R_Fl, F_Fl, 9), t_Fl, kc_Fl, by decide, Or.inr ⟨"ThoughtBalloon", nw_t 123 (by decide +kernel) rfl, rfl⟩, rfl, rfl, rfl, fun z => by first | rfl | exact absurd z (by decide)⟩
theorem g_To_67 : FG R_To 67 0 4 := f_To_67.g
theorem f_Tb_200 : FL R_Tb 200 0 4 (.int) false := ⟨(R_Fl, F_Fl, 9), t_Fl, kc_Fl, by decide, Or.inr ⟨"ThoughtBalloon", nw_t 124 (by decide +kernel) rfl, rfl⟩, rfl, rfl, rfl, fun z => by first | rfl | exact absurd z (by decide)⟩
theorem g_Tb_200 : FG R_Tb 200 0 4 := f_Tb_200.g
theorem f_To_73 : FL R_To 73 0 5 (.int) false := ⟨(R_Fl, F_Fl, 9), t_Fl, kc_Fl, by decide, Or.inr ⟨"ThoughtBalloon", nw_t 126 (by decide +kernel) rfl, rfl⟩, rfl, rfl, rfl, fun z => by first | rfl | exact absurd z (by decide)⟩
theorem g_To_73 : FG R_To 73 0 5 := f_To_73.g
theorem f_Tb_177 : FL R_Tb 177 0 6 (.int) false := ⟨(R_Fl, F_Fl, 9), t_Fl, kc_Fl, by decide, Or.inr ⟨"ThoughtBalloon", nw_t 128 (by decide +kernel) rfl, rfl⟩, rfl, rfl, rfl, fun z => by first | rfl | exact absurd z (by decide)⟩
theorem g_Tb_177 : FG R_Tb 177 0 6 := f_Tb_177.g
theorem f_Se_89 : FL R_Se 89 0 8 (.boolean) false := ⟨(R_Fl, F_Fl, 9), t_Fl, kc_Fl, by decide, Or.inr ⟨"ThoughtBalloon", nw_t 131 (by decide +kernel) rfl, rfl⟩, rfl, rfl, rfl, fun z => by first | rfl | exact absurd z (by decide)⟩
theorem g_Se_89 : FG R_Se 89 0 8 := f_Se_89.g
theorem f_Tb_138 : FL R_Tb 138 0 8 (.boolean) false := ⟨(R_Fl, F_Fl, 9), t_Fl, kc_Fl, by decide, Or.inr ⟨"ThoughtBalloon", nw_t 132 (by decide +kernel) rfl, rfl⟩, rfl, rfl, rfl, fun z => by first | rfl | exact absurd z (by decide)⟩
theorem g_Tb_138 : FG R_Tb 138 0 8 := f_Tb_138.g
theorem f_To_94 : FL R_To 94 0 8 (.boolean) false := ⟨(R_Fl, F_Fl, 9), t_Fl, kc_Fl, by decide, Or.inr ⟨"ThoughtBalloon", nw_t 133 (by decide +kernel) rfl, rfl⟩, rfl, rfl, rfl, fun z => by first | rfl | exact absurd z (by decide)⟩
theorem g_To_94 : FG R_To 94 0 8 := f_To_94.g
theorem f_Tb_188 : FL R_Tb 188 1 1 (.int) false := ⟨(R_Hi, F_Hi, 2), t_Hi, kc_Hi, by decide, Or.inr ⟨"ThoughtBalloon", nw_t 164 (by decide +kernel) rfl, rfl⟩, rfl, rfl, rfl, fun z => by first | rfl | exact absurd z (by decide)⟩
theorem g_Tb_188 : FG R_Tb 188 1 1 := f_Tb_188.g
theorem g_Tb_221 : FG R_Tb 221 5 3 := ⟨(R_Se, F_Se, 8), t_Se, kc_Se, by decide, Or.inr ⟨"ThoughtBalloon", nw_t 186 (by decide +kernel) rfl⟩, rfl⟩
theorem f_Tb_218 : FL R_Tb 218 5 7 (.int) false := ⟨(R_Se, F_Se, 8), t_Se, kc_Se, by decide, Or.inr ⟨"ThoughtBalloon", nw_t 191 (by decide +kernel) rfl, rfl⟩, rfl, rfl, rfl, fun z => by first | rfl | exact absurd z (by decide)⟩
theorem g_Tb_218 : FG R_Tb 218 5 7 := f_Tb_218.g
theorem g_Tb_308 : FG R_Tb 308 4 0 := ⟨(R_Re, F_Re, 4), t_Re, kc_Re, by decide, Or.inr ⟨"ThoughtBalloon", nw_t 232 (by decide +kernel) rfl⟩, rfl⟩
theorem g_Tb_310 : FG R_Tb 310 4 1 := ⟨(R_Re, F_Re, 4), t_Re, kc_Re, by decide, Or.inr ⟨"ThoughtBalloon", nw_t 234 (by decide +kernel) rfl⟩, rfl⟩
theorem g_Tb_316 : FG R_Tb 316 4 2 := ⟨(R_Re, F_Re, 4), t_Re, kc_Re, by decide, Or.inr ⟨"ThoughtBalloon", nw_t 236 (by decide +kernel) rfl⟩, rfl⟩
theorem f_Tb_296 : FL R_Tb 296 4 3 (.int) false := ⟨(R_Re, F_Re, 4), t_Re, kc_Re, by decide, Or.inr ⟨"ThoughtBalloon", nw_t 238 (by decide +kernel) rfl, rfl⟩, rfl, rfl, rfl, fun z => by first | rfl | exact absurd z (by decide)⟩
theorem g_Tb_296 : FG R_Tb 296 4 3 := f_Tb_296.g
theorem f_Tb_281 : FL R_Tb 281 2 2 (.boolean) false := ⟨(R_Im, F_Im, 3), t_Im, kc_Im, by decide, Or.inr ⟨"ThoughtBalloon", nw_t 260 (by decide +kernel) rfl, rfl⟩, rfl, rfl, rfl, fun z => by first | rfl | exact absurd z (by decide)⟩
theorem g_Tb_281 : FG R_Tb 281 2 2 := f_Tb_281.g
theorem k_Tb_init : MK M_Tb_init 0 := ⟨gw_t 19 (by decide +kernel) rfl, gw_t 1 (by decide +kernel) rfl, by decide +kernel, by decide⟩
theorem i_Tb_init : Cond.instanceMethod M_Tb_init.1 ∈ e_gw := gw_t 18 (by decide +kernel) rfl
theorem k_Tx_init : MK M_Tx_init 0 := ⟨gw_t 27 (by decide +kernel) rfl, gw_t 2 (by decide +kernel) rfl, by decide +kernel, by decide⟩
theorem i_Tx_init : Cond.instanceMethod M_Tx_init.1 ∈ e_gw := gw_t 26 (by decide +kernel) rfl
theorem k_To_init : MK M_To_init 0 := ⟨gw_t 60 (by decide +kernel) rfl, gw_t 3 (by decide +kernel) rfl, by decide +kernel, by decide⟩
theorem i_To_init : Cond.instanceMethod M_To_init.1 ∈ e_gw := gw_t 59 (by decide +kernel) rfl
theorem k_Fl_init : MK M_Fl_init 0 := ⟨gw_t 107 (by decide +kernel) rfl, gw_t 4 (by decide +kernel) rfl, by decide +kernel, by decide⟩
theorem i_Fl_init : Cond.instanceMethod M_Fl_init.1 ∈ e_gw := gw_t 106 (by decide +kernel) rfl
theorem k_Hi_init : MK M_Hi_init 0 := ⟨gw_t 157 (by decide +kernel) rfl, gw_t 5 (by decide +kernel) rfl, by decide +kernel, by decide⟩
theorem i_Hi_init : Cond.instanceMethod M_Hi_init.1 ∈ e_gw := gw_t 156 (by decide +kernel) rfl
theorem k_Se_init : MK M_Se_init 1 := ⟨gw_t 176 (by decide +kernel) rfl, gw_t 6 (by decide +kernel) rfl, by decide +kernel, by decide⟩
theorem i_Se_init : Cond.instanceMethod M_Se_init.1 ∈ e_gw := gw_t 175 (by decide +kernel) rfl
theorem k_Od_init : MK M_Od_init 0 := ⟨gw_t 213 (by decide +kernel) rfl, gw_t 7 (by decide +kernel) rfl, by decide +kernel, by decide⟩
theorem i_Od_init : Cond.instanceMethod M_Od_init.1 ∈ e_gw := gw_t 212 (by decide +kernel) rfl
theorem k_Re_init : MK M_Re_init 0 := ⟨gw_t 229 (by decide +kernel) rfl, gw_t 8 (by decide +kernel) rfl, by decide +kernel, by decide⟩
theorem i_Re_init : Cond.instanceMethod M_Re_init.1 ∈ e_gw := gw_t 228 (by decide +kernel) rfl
theorem k_Im_init : MK M_Im_init 0 := ⟨gw_t 251 (by decide +kernel) rfl, gw_t 9 (by decide +kernel) rfl, by decide +kernel, by decide⟩
theorem i_Im_init : Cond.instanceMethod M_Im_init.1 ∈ e_gw := gw_t 250 (by decide +kernel) rfl
theorem k_Tb_startAnew : MK M_Tb_startAnew 0 := ⟨gw_t 271 (by decide +kernel) rfl, gw_t 1 (by decide +kernel) rfl, by decide +kernel, by decide⟩
theorem i_Tb_startAnew : Cond.instanceMethod M_Tb_startAnew.1 ∈ e_gw := gw_t 270 (by decide +kernel) rfl
theorem s_Tb_startAnew : Cond.selects M_Tb_startAnew.1.cls M_Tb_startAnew.1 M_Tb_startAnew.1 ∈ e_gw := gw_s 0 (by decide +kernel) rfl
theorem k_Fl_start : MK M_Fl_start 2 := ⟨gw_t 275 (by decide +kernel) rfl, gw_t 4 (by decide +kernel) rfl, by decide +kernel, by decide⟩
theorem i_Fl_start : Cond.instanceMethod M_Fl_start.1 ∈ e_gw := gw_t 274 (by decide +kernel) rfl
theorem s_Fl_start : Cond.selects M_Fl_start.1.cls M_Fl_start.1 M_Fl_start.1 ∈ e_gw := gw_s 1 (by decide +kernel) rfl
theorem k_Fl_thinkNothing : MK M_Fl_thinkNothing 0 := ⟨gw_t 279 (by decide +kernel) rfl, gw_t 4 (by decide +kernel) rfl, by decide +kernel, by decide⟩
theorem i_Fl_thinkNothing : Cond.instanceMethod M_Fl_thinkNothing.1 ∈ e_gw := gw_t 278 (by decide +kernel) rfl
theorem s_Fl_thinkNothing : Cond.selects M_Fl_thinkNothing.1.cls M_Fl_thinkNothing.1 M_Fl_thinkNothing.1 ∈ e_gw := gw_s 2 (by decide +kernel) rfl
theorem k_Re_drop : MK M_Re_drop 0 := ⟨gw_t 283 (by decide +kernel) rfl, gw_t 8 (by decide +kernel) rfl, by decide +kernel, by decide⟩
theorem i_Re_drop : Cond.instanceMethod M_Re_drop.1 ∈ e_gw := gw_t 282 (by decide +kernel) rfl
theorem s_Re_drop : Cond.selects M_Re_drop.1.cls M_Re_drop.1 M_Re_drop.1 ∈ e_gw := gw_s 3 (by decide +kernel) rfl
theorem k_Tb_type : MK M_Tb_type 1 := ⟨gw_t 327 (by decide +kernel) rfl, gw_t 1 (by decide +kernel) rfl, by decide +kernel, by decide⟩
theorem i_Tb_type : Cond.instanceMethod M_Tb_type.1 ∈ e_gw := gw_t 325 (by decide +kernel) rfl
theorem s_Tb_type : Cond.selects M_Tb_type.1.cls M_Tb_type.1 M_Tb_type.1 ∈ e_gw := gw_t 326 (by decide +kernel) rfl
theorem k_Tb_within : MK M_Tb_within 3 := ⟨gw_t 330 (by decide +kernel) rfl, gw_t 1 (by decide +kernel) rfl, by decide +kernel, by decide⟩
theorem i_Tb_within : Cond.static M_Tb_within.1 ∈ e_gw := gw_t 329 (by decide +kernel) rfl
theorem k_Tx_add : MK M_Tx_add 1 := ⟨gw_t 334 (by decide +kernel) rfl, gw_t 2 (by decide +kernel) rfl, by decide +kernel, by decide⟩
theorem i_Tx_add : Cond.instanceMethod M_Tx_add.1 ∈ e_gw := gw_t 333 (by decide +kernel) rfl
theorem s_Tx_add : Cond.selects M_Tx_add.1.cls M_Tx_add.1 M_Tx_add.1 ∈ e_gw := gw_s 4 (by decide +kernel) rfl
theorem k_Tb_clear : MK M_Tb_clear 0 := ⟨gw_t 338 (by decide +kernel) rfl, gw_t 1 (by decide +kernel) rfl, by decide +kernel, by decide⟩
theorem i_Tb_clear : Cond.instanceMethod M_Tb_clear.1 ∈ e_gw := gw_t 336 (by decide +kernel) rfl
theorem s_Tb_clear : Cond.selects M_Tb_clear.1.cls M_Tb_clear.1 M_Tb_clear.1 ∈ e_gw := gw_t 337 (by decide +kernel) rfl
theorem k_Tx_drop : MK M_Tx_drop 0 := ⟨gw_t 342 (by decide +kernel) rfl, gw_t 2 (by decide +kernel) rfl, by decide +kernel, by decide⟩
theorem i_Tx_drop : Cond.instanceMethod M_Tx_drop.1 ∈ e_gw := gw_t 341 (by decide +kernel) rfl
theorem s_Tx_drop : Cond.selects M_Tx_drop.1.cls M_Tx_drop.1 M_Tx_drop.1 ∈ e_gw := gw_s 5 (by decide +kernel) rfl
theorem k_Tb_sheds : MK M_Tb_sheds 0 := ⟨gw_t 346 (by decide +kernel) rfl, gw_t 1 (by decide +kernel) rfl, by decide +kernel, by decide⟩
theorem i_Tb_sheds : Cond.instanceMethod M_Tb_sheds.1 ∈ e_gw := gw_t 344 (by decide +kernel) rfl
theorem s_Tb_sheds : Cond.selects M_Tb_sheds.1.cls M_Tb_sheds.1 M_Tb_sheds.1 ∈ e_gw := gw_t 345 (by decide +kernel) rfl
theorem k_Tx_readInto : MK M_Tx_readInto 1 := ⟨gw_t 350 (by decide +kernel) rfl, gw_t 2 (by decide +kernel) rfl, by decide +kernel, by decide⟩
theorem i_Tx_readInto : Cond.instanceMethod M_Tx_readInto.1 ∈ e_gw := gw_t 349 (by decide +kernel) rfl
theorem s_Tx_readInto : Cond.selects M_Tx_readInto.1.cls M_Tx_readInto.1 M_Tx_readInto.1 ∈ e_gw := gw_s 6 (by decide +kernel) rfl
theorem k_To_tellNothing : MK M_To_tellNothing 0 := ⟨gw_t 354 (by decide +kernel) rfl, gw_t 3 (by decide +kernel) rfl, by decide +kernel, by decide⟩
theorem i_To_tellNothing : Cond.instanceMethod M_To_tellNothing.1 ∈ e_gw := gw_t 353 (by decide +kernel) rfl
theorem s_To_tellNothing : Cond.selects M_To_tellNothing.1.cls M_To_tellNothing.1 M_To_tellNothing.1 ∈ e_gw := gw_s 7 (by decide +kernel) rfl
theorem k_Ar_fill : MK M_Ar_fill 2 := ⟨gw_t 357 (by decide +kernel) rfl, gw_t 11 (by decide +kernel) rfl, by decide +kernel, by decide⟩
theorem i_Ar_fill : Cond.static M_Ar_fill.1 ∈ e_gw := gw_t 356 (by decide +kernel) rfl
theorem k_Tx_readToken : MK M_Tx_readToken 0 := ⟨gw_t 361 (by decide +kernel) rfl, gw_t 2 (by decide +kernel) rfl, by decide +kernel, by decide⟩
theorem i_Tx_readToken : Cond.instanceMethod M_Tx_readToken.1 ∈ e_gw := gw_t 360 (by decide +kernel) rfl
theorem s_Tx_readToken : Cond.selects M_Tx_readToken.1.cls M_Tx_readToken.1 M_Tx_readToken.1 ∈ e_gw := gw_s 8 (by decide +kernel) rfl
theorem k_Tx_isLetter : MK M_Tx_isLetter 1 := ⟨gw_t 364 (by decide +kernel) rfl, gw_t 2 (by decide +kernel) rfl, by decide +kernel, by decide⟩
theorem i_Tx_isLetter : Cond.static M_Tx_isLetter.1 ∈ e_gw := gw_t 363 (by decide +kernel) rfl
theorem k_Tx_readLetters : MK M_Tx_readLetters 0 := ⟨gw_t 368 (by decide +kernel) rfl, gw_t 2 (by decide +kernel) rfl, by decide +kernel, by decide⟩
theorem i_Tx_readLetters : Cond.instanceMethod M_Tx_readLetters.1 ∈ e_gw := gw_t 367 (by decide +kernel) rfl
theorem s_Tx_readLetters : Cond.selects M_Tx_readLetters.1.cls M_Tx_readLetters.1 M_Tx_readLetters.1 ∈ e_gw := gw_s 9 (by decide +kernel) rfl
theorem k_Tx_isDigit : MK M_Tx_isDigit 1 := ⟨gw_t 371 (by decide +kernel) rfl, gw_t 2 (by decide +kernel) rfl, by decide +kernel, by decide⟩
theorem i_Tx_isDigit : Cond.static M_Tx_isDigit.1 ∈ e_gw := gw_t 370 (by decide +kernel) rfl
theorem k_Tx_readNumber : MK M_Tx_readNumber 0 := ⟨gw_t 375 (by decide +kernel) rfl, gw_t 2 (by decide +kernel) rfl, by decide +kernel, by decide⟩
theorem i_Tx_readNumber : Cond.instanceMethod M_Tx_readNumber.1 ∈ e_gw := gw_t 374 (by decide +kernel) rfl
theorem s_Tx_readNumber : Cond.selects M_Tx_readNumber.1.cls M_Tx_readNumber.1 M_Tx_readNumber.1 ∈ e_gw := gw_s 10 (by decide +kernel) rfl
theorem k_Ma_min : MK M_Ma_min 2 := ⟨gw_t 378 (by decide +kernel) rfl, gw_t 12 (by decide +kernel) rfl, by decide +kernel, by decide⟩
theorem i_Ma_min : Cond.static M_Ma_min.1 ∈ e_gw := gw_t 377 (by decide +kernel) rfl
theorem k_Tx_readItem : MK M_Tx_readItem 1 := ⟨gw_t 382 (by decide +kernel) rfl, gw_t 2 (by decide +kernel) rfl, by decide +kernel, by decide⟩
theorem i_Tx_readItem : Cond.instanceMethod M_Tx_readItem.1 ∈ e_gw := gw_t 381 (by decide +kernel) rfl
theorem s_Tx_readItem : Cond.selects M_Tx_readItem.1.cls M_Tx_readItem.1 M_Tx_readItem.1 ∈ e_gw := gw_s 11 (by decide +kernel) rfl
theorem k_Tx_itemBegun : MK M_Tx_itemBegun 1 := ⟨gw_t 386 (by decide +kernel) rfl, gw_t 2 (by decide +kernel) rfl, by decide +kernel, by decide⟩
theorem i_Tx_itemBegun : Cond.instanceMethod M_Tx_itemBegun.1 ∈ e_gw := gw_t 385 (by decide +kernel) rfl
theorem s_Tx_itemBegun : Cond.selects M_Tx_itemBegun.1.cls M_Tx_itemBegun.1 M_Tx_itemBegun.1 ∈ e_gw := gw_s 12 (by decide +kernel) rfl
theorem k_Tx_tell : MK M_Tx_tell 2 := ⟨gw_t 397 (by decide +kernel) rfl, gw_t 2 (by decide +kernel) rfl, by decide +kernel, by decide⟩
theorem i_Tx_tell : Cond.instanceMethod M_Tx_tell.1 ∈ e_gw := gw_t 396 (by decide +kernel) rfl
theorem s_Tx_tell : Cond.selects M_Tx_tell.1.cls M_Tx_tell.1 M_Tx_tell.1 ∈ e_gw := gw_s 13 (by decide +kernel) rfl
theorem k_To_tellWind : MK M_To_tellWind 2 := ⟨gw_t 401 (by decide +kernel) rfl, gw_t 3 (by decide +kernel) rfl, by decide +kernel, by decide⟩
theorem i_To_tellWind : Cond.instanceMethod M_To_tellWind.1 ∈ e_gw := gw_t 400 (by decide +kernel) rfl
theorem s_To_tellWind : Cond.selects M_To_tellWind.1.cls M_To_tellWind.1 M_To_tellWind.1 ∈ e_gw := gw_s 14 (by decide +kernel) rfl
theorem k_To_tellPerson : MK M_To_tellPerson 3 := ⟨gw_t 406 (by decide +kernel) rfl, gw_t 3 (by decide +kernel) rfl, by decide +kernel, by decide⟩
theorem i_To_tellPerson : Cond.instanceMethod M_To_tellPerson.1 ∈ e_gw := gw_t 405 (by decide +kernel) rfl
theorem s_To_tellPerson : Cond.selects M_To_tellPerson.1.cls M_To_tellPerson.1 M_To_tellPerson.1 ∈ e_gw := gw_s 15 (by decide +kernel) rfl
theorem k_To_tellThought : MK M_To_tellThought 2 := ⟨gw_t 410 (by decide +kernel) rfl, gw_t 3 (by decide +kernel) rfl, by decide +kernel, by decide⟩
theorem i_To_tellThought : Cond.instanceMethod M_To_tellThought.1 ∈ e_gw := gw_t 409 (by decide +kernel) rfl
theorem s_To_tellThought : Cond.selects M_To_tellThought.1.cls M_To_tellThought.1 M_To_tellThought.1 ∈ e_gw := gw_s 16 (by decide +kernel) rfl
theorem k_To_copyFrom : MK M_To_copyFrom 1 := ⟨gw_t 414 (by decide +kernel) rfl, gw_t 3 (by decide +kernel) rfl, by decide +kernel, by decide⟩
theorem i_To_copyFrom : Cond.instanceMethod M_To_copyFrom.1 ∈ e_gw := gw_t 413 (by decide +kernel) rfl
theorem s_To_copyFrom : Cond.selects M_To_copyFrom.1.cls M_To_copyFrom.1 M_To_copyFrom.1 ∈ e_gw := gw_s 17 (by decide +kernel) rfl
theorem k_Tb_wind : MK M_Tb_wind 1 := ⟨gw_t 421 (by decide +kernel) rfl, gw_t 1 (by decide +kernel) rfl, by decide +kernel, by decide⟩
theorem i_Tb_wind : Cond.instanceMethod M_Tb_wind.1 ∈ e_gw := gw_t 419 (by decide +kernel) rfl
theorem s_Tb_wind : Cond.selects M_Tb_wind.1.cls M_Tb_wind.1 M_Tb_wind.1 ∈ e_gw := gw_t 420 (by decide +kernel) rfl
theorem k_To_windAt : MK M_To_windAt 1 := ⟨gw_t 425 (by decide +kernel) rfl, gw_t 3 (by decide +kernel) rfl, by decide +kernel, by decide⟩
theorem i_To_windAt : Cond.instanceMethod M_To_windAt.1 ∈ e_gw := gw_t 424 (by decide +kernel) rfl
theorem s_To_windAt : Cond.selects M_To_windAt.1.cls M_To_windAt.1 M_To_windAt.1 ∈ e_gw := gw_s 18 (by decide +kernel) rfl
theorem k_Tb_one : MK M_Tb_one 2 := ⟨gw_t 430 (by decide +kernel) rfl, gw_t 1 (by decide +kernel) rfl, by decide +kernel, by decide⟩
theorem i_Tb_one : Cond.instanceMethod M_Tb_one.1 ∈ e_gw := gw_t 428 (by decide +kernel) rfl
theorem s_Tb_one : Cond.selects M_Tb_one.1.cls M_Tb_one.1 M_Tb_one.1 ∈ e_gw := gw_t 429 (by decide +kernel) rfl
theorem k_To_hasPerson : MK M_To_hasPerson 1 := ⟨gw_t 434 (by decide +kernel) rfl, gw_t 3 (by decide +kernel) rfl, by decide +kernel, by decide⟩
theorem i_To_hasPerson : Cond.instanceMethod M_To_hasPerson.1 ∈ e_gw := gw_t 433 (by decide +kernel) rfl
theorem s_To_hasPerson : Cond.selects M_To_hasPerson.1.cls M_To_hasPerson.1 M_To_hasPerson.1 ∈ e_gw := gw_s 19 (by decide +kernel) rfl
theorem k_Fl_hasAboard : MK M_Fl_hasAboard 1 := ⟨gw_t 438 (by decide +kernel) rfl, gw_t 4 (by decide +kernel) rfl, by decide +kernel, by decide⟩
theorem i_Fl_hasAboard : Cond.instanceMethod M_Fl_hasAboard.1 ∈ e_gw := gw_t 437 (by decide +kernel) rfl
theorem s_Fl_hasAboard : Cond.selects M_Fl_hasAboard.1.cls M_Fl_hasAboard.1 M_Fl_hasAboard.1 ∈ e_gw := gw_s 20 (by decide +kernel) rfl
theorem k_Fl_usedBy : MK M_Fl_usedBy 1 := ⟨gw_t 442 (by decide +kernel) rfl, gw_t 4 (by decide +kernel) rfl, by decide +kernel, by decide⟩
theorem i_Fl_usedBy : Cond.instanceMethod M_Fl_usedBy.1 ∈ e_gw := gw_t 441 (by decide +kernel) rfl
theorem s_Fl_usedBy : Cond.selects M_Fl_usedBy.1.cls M_Fl_usedBy.1 M_Fl_usedBy.1 ∈ e_gw := gw_s 21 (by decide +kernel) rfl
theorem k_To_liftsOf : MK M_To_liftsOf 1 := ⟨gw_t 446 (by decide +kernel) rfl, gw_t 3 (by decide +kernel) rfl, by decide +kernel, by decide⟩
theorem i_To_liftsOf : Cond.instanceMethod M_To_liftsOf.1 ∈ e_gw := gw_t 445 (by decide +kernel) rfl
theorem s_To_liftsOf : Cond.selects M_To_liftsOf.1.cls M_To_liftsOf.1 M_To_liftsOf.1 ∈ e_gw := gw_s 22 (by decide +kernel) rfl
theorem k_To_canLift : MK M_To_canLift 2 := ⟨gw_t 450 (by decide +kernel) rfl, gw_t 3 (by decide +kernel) rfl, by decide +kernel, by decide⟩
theorem i_To_canLift : Cond.instanceMethod M_To_canLift.1 ∈ e_gw := gw_t 449 (by decide +kernel) rfl
theorem s_To_canLift : Cond.selects M_To_canLift.1.cls M_To_canLift.1 M_To_canLift.1 ∈ e_gw := gw_s 23 (by decide +kernel) rfl
theorem k_Tb_thought : MK M_Tb_thought 2 := ⟨gw_t 454 (by decide +kernel) rfl, gw_t 1 (by decide +kernel) rfl, by decide +kernel, by decide⟩
theorem i_Tb_thought : Cond.instanceMethod M_Tb_thought.1 ∈ e_gw := gw_t 452 (by decide +kernel) rfl
theorem s_Tb_thought : Cond.selects M_Tb_thought.1.cls M_Tb_thought.1 M_Tb_thought.1 ∈ e_gw := gw_t 453 (by decide +kernel) rfl
theorem k_To_hasThought : MK M_To_hasThought 1 := ⟨gw_t 458 (by decide +kernel) rfl, gw_t 3 (by decide +kernel) rfl, by decide +kernel, by decide⟩
theorem i_To_hasThought : Cond.instanceMethod M_To_hasThought.1 ∈ e_gw := gw_t 457 (by decide +kernel) rfl
theorem s_To_hasThought : Cond.selects M_To_hasThought.1.cls M_To_hasThought.1 M_To_hasThought.1 ∈ e_gw := gw_s 24 (by decide +kernel) rfl
theorem k_Tb_begins : MK M_Tb_begins 2 := ⟨gw_t 462 (by decide +kernel) rfl, gw_t 1 (by decide +kernel) rfl, by decide +kernel, by decide⟩
theorem i_Tb_begins : Cond.instanceMethod M_Tb_begins.1 ∈ e_gw := gw_t 460 (by decide +kernel) rfl
theorem s_Tb_begins : Cond.selects M_Tb_begins.1.cls M_Tb_begins.1 M_Tb_begins.1 ∈ e_gw := gw_t 461 (by decide +kernel) rfl
theorem k_Fl_mayBegin : MK M_Fl_mayBegin 2 := ⟨gw_t 466 (by decide +kernel) rfl, gw_t 4 (by decide +kernel) rfl, by decide +kernel, by decide⟩
theorem i_Fl_mayBegin : Cond.instanceMethod M_Fl_mayBegin.1 ∈ e_gw := gw_t 465 (by decide +kernel) rfl
theorem s_Fl_mayBegin : Cond.selects M_Fl_mayBegin.1.cls M_Fl_mayBegin.1 M_Fl_mayBegin.1 ∈ e_gw := gw_s 25 (by decide +kernel) rfl
theorem k_Hi_push : MK M_Hi_push 1 := ⟨gw_t 472 (by decide +kernel) rfl, gw_t 5 (by decide +kernel) rfl, by decide +kernel, by decide⟩
theorem i_Hi_push : Cond.instanceMethod M_Hi_push.1 ∈ e_gw := gw_t 471 (by decide +kernel) rfl
theorem s_Hi_push : Cond.selects M_Hi_push.1.cls M_Hi_push.1 M_Hi_push.1 ∈ e_gw := gw_s 26 (by decide +kernel) rfl
theorem k_Hi_dropOldest : MK M_Hi_dropOldest 0 := ⟨gw_t 476 (by decide +kernel) rfl, gw_t 5 (by decide +kernel) rfl, by decide +kernel, by decide⟩
theorem i_Hi_dropOldest : Cond.instanceMethod M_Hi_dropOldest.1 ∈ e_gw := gw_t 475 (by decide +kernel) rfl
theorem s_Hi_dropOldest : Cond.selects M_Hi_dropOldest.1.cls M_Hi_dropOldest.1 M_Hi_dropOldest.1 ∈ e_gw := gw_s 27 (by decide +kernel) rfl
theorem k_Fl_copyFrom : MK M_Fl_copyFrom 1 := ⟨gw_t 480 (by decide +kernel) rfl, gw_t 4 (by decide +kernel) rfl, by decide +kernel, by decide⟩
theorem i_Fl_copyFrom : Cond.instanceMethod M_Fl_copyFrom.1 ∈ e_gw := gw_t 479 (by decide +kernel) rfl
theorem s_Fl_copyFrom : Cond.selects M_Fl_copyFrom.1.cls M_Fl_copyFrom.1 M_Fl_copyFrom.1 ∈ e_gw := gw_s 28 (by decide +kernel) rfl
theorem k_Fl_begin : MK M_Fl_begin 2 := ⟨gw_t 484 (by decide +kernel) rfl, gw_t 4 (by decide +kernel) rfl, by decide +kernel, by decide⟩
theorem i_Fl_begin : Cond.instanceMethod M_Fl_begin.1 ∈ e_gw := gw_t 483 (by decide +kernel) rfl
theorem s_Fl_begin : Cond.selects M_Fl_begin.1.cls M_Fl_begin.1 M_Fl_begin.1 ∈ e_gw := gw_s 29 (by decide +kernel) rfl
theorem k_Fl_think : MK M_Fl_think 2 := ⟨gw_t 488 (by decide +kernel) rfl, gw_t 4 (by decide +kernel) rfl, by decide +kernel, by decide⟩
theorem i_Fl_think : Cond.instanceMethod M_Fl_think.1 ∈ e_gw := gw_t 487 (by decide +kernel) rfl
theorem s_Fl_think : Cond.selects M_Fl_think.1.cls M_Fl_think.1 M_Fl_think.1 ∈ e_gw := gw_s 30 (by decide +kernel) rfl
theorem k_To_hold : MK M_To_hold 1 := ⟨gw_t 492 (by decide +kernel) rfl, gw_t 3 (by decide +kernel) rfl, by decide +kernel, by decide⟩
theorem i_To_hold : Cond.instanceMethod M_To_hold.1 ∈ e_gw := gw_t 491 (by decide +kernel) rfl
theorem s_To_hold : Cond.selects M_To_hold.1.cls M_To_hold.1 M_To_hold.1 ∈ e_gw := gw_s 31 (by decide +kernel) rfl
theorem k_To_faded : MK M_To_faded 3 := ⟨gw_t 497 (by decide +kernel) rfl, gw_t 3 (by decide +kernel) rfl, by decide +kernel, by decide⟩
theorem i_To_faded : Cond.static M_To_faded.1 ∈ e_gw := gw_t 496 (by decide +kernel) rfl
theorem k_Ma_max : MK M_Ma_max 2 := ⟨gw_t 500 (by decide +kernel) rfl, gw_t 12 (by decide +kernel) rfl, by decide +kernel, by decide⟩
theorem i_Ma_max : Cond.static M_Ma_max.1 ∈ e_gw := gw_t 499 (by decide +kernel) rfl
theorem k_Tb_minutes : MK M_Tb_minutes 1 := ⟨gw_t 504 (by decide +kernel) rfl, gw_t 1 (by decide +kernel) rfl, by decide +kernel, by decide⟩
theorem i_Tb_minutes : Cond.instanceMethod M_Tb_minutes.1 ∈ e_gw := gw_t 502 (by decide +kernel) rfl
theorem s_Tb_minutes : Cond.selects M_Tb_minutes.1.cls M_Tb_minutes.1 M_Tb_minutes.1 ∈ e_gw := gw_t 503 (by decide +kernel) rfl
theorem k_To_passMinutes : MK M_To_passMinutes 2 := ⟨gw_t 508 (by decide +kernel) rfl, gw_t 3 (by decide +kernel) rfl, by decide +kernel, by decide⟩
theorem i_To_passMinutes : Cond.instanceMethod M_To_passMinutes.1 ∈ e_gw := gw_t 507 (by decide +kernel) rfl
theorem s_To_passMinutes : Cond.selects M_To_passMinutes.1.cls M_To_passMinutes.1 M_To_passMinutes.1 ∈ e_gw := gw_s 32 (by decide +kernel) rfl
theorem k_To_passMinute : MK M_To_passMinute 1 := ⟨gw_t 512 (by decide +kernel) rfl, gw_t 3 (by decide +kernel) rfl, by decide +kernel, by decide⟩
theorem i_To_passMinute : Cond.instanceMethod M_To_passMinute.1 ∈ e_gw := gw_t 511 (by decide +kernel) rfl
theorem s_To_passMinute : Cond.selects M_To_passMinute.1.cls M_To_passMinute.1 M_To_passMinute.1 ∈ e_gw := gw_s 33 (by decide +kernel) rfl
theorem k_To_load : MK M_To_load 1 := ⟨gw_t 517 (by decide +kernel) rfl, gw_t 3 (by decide +kernel) rfl, by decide +kernel, by decide⟩
theorem i_To_load : Cond.instanceMethod M_To_load.1 ∈ e_gw := gw_t 516 (by decide +kernel) rfl
theorem s_To_load : Cond.selects M_To_load.1.cls M_To_load.1 M_To_load.1 ∈ e_gw := gw_s 34 (by decide +kernel) rfl
theorem k_Fl_climb : MK M_Fl_climb 1 := ⟨gw_t 522 (by decide +kernel) rfl, gw_t 4 (by decide +kernel) rfl, by decide +kernel, by decide⟩
theorem i_Fl_climb : Cond.instanceMethod M_Fl_climb.1 ∈ e_gw := gw_t 521 (by decide +kernel) rfl
theorem s_Fl_climb : Cond.selects M_Fl_climb.1.cls M_Fl_climb.1 M_Fl_climb.1 ∈ e_gw := gw_s 35 (by decide +kernel) rfl
theorem k_Fl_drift : MK M_Fl_drift 1 := ⟨gw_t 529 (by decide +kernel) rfl, gw_t 4 (by decide +kernel) rfl, by decide +kernel, by decide⟩
theorem i_Fl_drift : Cond.instanceMethod M_Fl_drift.1 ∈ e_gw := gw_t 528 (by decide +kernel) rfl
theorem s_Fl_drift : Cond.selects M_Fl_drift.1.cls M_Fl_drift.1 M_Fl_drift.1 ∈ e_gw := gw_s 36 (by decide +kernel) rfl
theorem k_Tb_enters : MK M_Tb_enters 1 := ⟨gw_t 533 (by decide +kernel) rfl, gw_t 1 (by decide +kernel) rfl, by decide +kernel, by decide⟩
theorem i_Tb_enters : Cond.instanceMethod M_Tb_enters.1 ∈ e_gw := gw_t 531 (by decide +kernel) rfl
theorem s_Tb_enters : Cond.selects M_Tb_enters.1.cls M_Tb_enters.1 M_Tb_enters.1 ∈ e_gw := gw_t 532 (by decide +kernel) rfl
theorem k_Fl_mayBeBoarded : MK M_Fl_mayBeBoarded 0 := ⟨gw_t 537 (by decide +kernel) rfl, gw_t 4 (by decide +kernel) rfl, by decide +kernel, by decide⟩
theorem i_Fl_mayBeBoarded : Cond.instanceMethod M_Fl_mayBeBoarded.1 ∈ e_gw := gw_t 536 (by decide +kernel) rfl
theorem s_Fl_mayBeBoarded : Cond.selects M_Fl_mayBeBoarded.1.cls M_Fl_mayBeBoarded.1 M_Fl_mayBeBoarded.1 ∈ e_gw := gw_s 37 (by decide +kernel) rfl
theorem k_Fl_takeIn : MK M_Fl_takeIn 1 := ⟨gw_t 541 (by decide +kernel) rfl, gw_t 4 (by decide +kernel) rfl, by decide +kernel, by decide⟩
theorem i_Fl_takeIn : Cond.instanceMethod M_Fl_takeIn.1 ∈ e_gw := gw_t 540 (by decide +kernel) rfl
theorem s_Fl_takeIn : Cond.selects M_Fl_takeIn.1.cls M_Fl_takeIn.1 M_Fl_takeIn.1 ∈ e_gw := gw_s 38 (by decide +kernel) rfl
theorem k_In_bitCount : MK M_In_bitCount 1 := ⟨gw_t 544 (by decide +kernel) rfl, gw_t 14 (by decide +kernel) rfl, by decide +kernel, by decide⟩
theorem i_In_bitCount : Cond.static M_In_bitCount.1 ∈ e_gw := gw_t 543 (by decide +kernel) rfl
theorem k_Tb_leaves : MK M_Tb_leaves 1 := ⟨gw_t 551 (by decide +kernel) rfl, gw_t 1 (by decide +kernel) rfl, by decide +kernel, by decide⟩
theorem i_Tb_leaves : Cond.instanceMethod M_Tb_leaves.1 ∈ e_gw := gw_t 549 (by decide +kernel) rfl
theorem s_Tb_leaves : Cond.selects M_Tb_leaves.1.cls M_Tb_leaves.1 M_Tb_leaves.1 ∈ e_gw := gw_t 550 (by decide +kernel) rfl
theorem k_Fl_letOut : MK M_Fl_letOut 1 := ⟨gw_t 555 (by decide +kernel) rfl, gw_t 4 (by decide +kernel) rfl, by decide +kernel, by decide⟩
theorem i_Fl_letOut : Cond.instanceMethod M_Fl_letOut.1 ∈ e_gw := gw_t 554 (by decide +kernel) rfl
theorem s_Fl_letOut : Cond.selects M_Fl_letOut.1.cls M_Fl_letOut.1 M_Fl_letOut.1 ∈ e_gw := gw_s 39 (by decide +kernel) rfl
theorem k_Tb_undo : MK M_Tb_undo 0 := ⟨gw_t 559 (by decide +kernel) rfl, gw_t 1 (by decide +kernel) rfl, by decide +kernel, by decide⟩
theorem i_Tb_undo : Cond.instanceMethod M_Tb_undo.1 ∈ e_gw := gw_t 557 (by decide +kernel) rfl
theorem s_Tb_undo : Cond.selects M_Tb_undo.1.cls M_Tb_undo.1 M_Tb_undo.1 ∈ e_gw := gw_t 558 (by decide +kernel) rfl
theorem k_Hi_pop : MK M_Hi_pop 1 := ⟨gw_t 563 (by decide +kernel) rfl, gw_t 5 (by decide +kernel) rfl, by decide +kernel, by decide⟩
theorem i_Hi_pop : Cond.instanceMethod M_Hi_pop.1 ∈ e_gw := gw_t 562 (by decide +kernel) rfl
theorem s_Hi_pop : Cond.selects M_Hi_pop.1.cls M_Hi_pop.1 M_Hi_pop.1 ∈ e_gw := gw_s 40 (by decide +kernel) rfl
theorem k_Tb_now : MK M_Tb_now 1 := ⟨gw_t 567 (by decide +kernel) rfl, gw_t 1 (by decide +kernel) rfl, by decide +kernel, by decide⟩
theorem i_Tb_now : Cond.instanceMethod M_Tb_now.1 ∈ e_gw := gw_t 565 (by decide +kernel) rfl
theorem s_Tb_now : Cond.selects M_Tb_now.1.cls M_Tb_now.1 M_Tb_now.1 ∈ e_gw := gw_t 566 (by decide +kernel) rfl
theorem k_To_cover : MK M_To_cover 0 := ⟨gw_t 572 (by decide +kernel) rfl, gw_t 3 (by decide +kernel) rfl, by decide +kernel, by decide⟩
theorem i_To_cover : Cond.instanceMethod M_To_cover.1 ∈ e_gw := gw_t 571 (by decide +kernel) rfl
theorem s_To_cover : Cond.selects M_To_cover.1.cls M_To_cover.1 M_To_cover.1 ∈ e_gw := gw_s 41 (by decide +kernel) rfl
theorem k_To_covers : MK M_To_covers 1 := ⟨gw_t 576 (by decide +kernel) rfl, gw_t 3 (by decide +kernel) rfl, by decide +kernel, by decide⟩
theorem i_To_covers : Cond.instanceMethod M_To_covers.1 ∈ e_gw := gw_t 575 (by decide +kernel) rfl
theorem s_To_covers : Cond.selects M_To_covers.1.cls M_To_covers.1 M_To_covers.1 ∈ e_gw := gw_s 42 (by decide +kernel) rfl
theorem k_Tb_after : MK M_Tb_after 2 := ⟨gw_t 582 (by decide +kernel) rfl, gw_t 1 (by decide +kernel) rfl, by decide +kernel, by decide⟩
theorem i_Tb_after : Cond.instanceMethod M_Tb_after.1 ∈ e_gw := gw_t 580 (by decide +kernel) rfl
theorem s_Tb_after : Cond.selects M_Tb_after.1.cls M_Tb_after.1 M_Tb_after.1 ∈ e_gw := gw_t 581 (by decide +kernel) rfl
theorem k_Tb_down : MK M_Tb_down 0 := ⟨gw_t 587 (by decide +kernel) rfl, gw_t 1 (by decide +kernel) rfl, by decide +kernel, by decide⟩
theorem i_Tb_down : Cond.instanceMethod M_Tb_down.1 ∈ e_gw := gw_t 585 (by decide +kernel) rfl
theorem s_Tb_down : Cond.selects M_Tb_down.1.cls M_Tb_down.1 M_Tb_down.1 ∈ e_gw := gw_t 586 (by decide +kernel) rfl
theorem k_Tb_best : MK M_Tb_best 3 := ⟨gw_t 592 (by decide +kernel) rfl, gw_t 1 (by decide +kernel) rfl, by decide +kernel, by decide⟩
theorem i_Tb_best : Cond.instanceMethod M_Tb_best.1 ∈ e_gw := gw_t 590 (by decide +kernel) rfl
theorem s_Tb_best : Cond.selects M_Tb_best.1.cls M_Tb_best.1 M_Tb_best.1 ∈ e_gw := gw_t 591 (by decide +kernel) rfl
theorem k_Se_run : MK M_Se_run 3 := ⟨gw_t 596 (by decide +kernel) rfl, gw_t 6 (by decide +kernel) rfl, by decide +kernel, by decide⟩
theorem i_Se_run : Cond.instanceMethod M_Se_run.1 ∈ e_gw := gw_t 595 (by decide +kernel) rfl
theorem s_Se_run : Cond.selects M_Se_run.1.cls M_Se_run.1 M_Se_run.1 ∈ e_gw := gw_s 43 (by decide +kernel) rfl
theorem k_Se_fillReach : MK M_Se_fillReach 0 := ⟨gw_t 601 (by decide +kernel) rfl, gw_t 6 (by decide +kernel) rfl, by decide +kernel, by decide⟩
theorem i_Se_fillReach : Cond.instanceMethod M_Se_fillReach.1 ∈ e_gw := gw_t 600 (by decide +kernel) rfl
theorem s_Se_fillReach : Cond.selects M_Se_fillReach.1.cls M_Se_fillReach.1 M_Se_fillReach.1 ∈ e_gw := gw_s 44 (by decide +kernel) rfl
theorem k_Se_tryTurns : MK M_Se_tryTurns 1 := ⟨gw_t 609 (by decide +kernel) rfl, gw_t 6 (by decide +kernel) rfl, by decide +kernel, by decide⟩
theorem i_Se_tryTurns : Cond.instanceMethod M_Se_tryTurns.1 ∈ e_gw := gw_t 608 (by decide +kernel) rfl
theorem s_Se_tryTurns : Cond.selects M_Se_tryTurns.1.cls M_Se_tryTurns.1 M_Se_tryTurns.1 ∈ e_gw := gw_s 45 (by decide +kernel) rfl
theorem k_Se_bound : MK M_Se_bound 1 := ⟨gw_t 613 (by decide +kernel) rfl, gw_t 6 (by decide +kernel) rfl, by decide +kernel, by decide⟩
theorem i_Se_bound : Cond.instanceMethod M_Se_bound.1 ∈ e_gw := gw_t 612 (by decide +kernel) rfl
theorem s_Se_bound : Cond.selects M_Se_bound.1.cls M_Se_bound.1 M_Se_bound.1 ∈ e_gw := gw_s 46 (by decide +kernel) rfl
theorem k_Se_tryTurn : MK M_Se_tryTurn 3 := ⟨gw_t 618 (by decide +kernel) rfl, gw_t 6 (by decide +kernel) rfl, by decide +kernel, by decide⟩
theorem i_Se_tryTurn : Cond.instanceMethod M_Se_tryTurn.1 ∈ e_gw := gw_t 617 (by decide +kernel) rfl
theorem s_Se_tryTurn : Cond.selects M_Se_tryTurn.1.cls M_Se_tryTurn.1 M_Se_tryTurn.1 ∈ e_gw := gw_s 47 (by decide +kernel) rfl
theorem k_Tb_own : MK M_Tb_own 1 := ⟨gw_t 625 (by decide +kernel) rfl, gw_t 1 (by decide +kernel) rfl, by decide +kernel, by decide⟩
theorem i_Tb_own : Cond.instanceMethod M_Tb_own.1 ∈ e_gw := gw_t 623 (by decide +kernel) rfl
theorem s_Tb_own : Cond.selects M_Tb_own.1.cls M_Tb_own.1 M_Tb_own.1 ∈ e_gw := gw_t 624 (by decide +kernel) rfl
theorem k_To_firstOwnWay : MK M_To_firstOwnWay 0 := ⟨gw_t 629 (by decide +kernel) rfl, gw_t 3 (by decide +kernel) rfl, by decide +kernel, by decide⟩
theorem i_To_firstOwnWay : Cond.instanceMethod M_To_firstOwnWay.1 ∈ e_gw := gw_t 628 (by decide +kernel) rfl
theorem s_To_firstOwnWay : Cond.selects M_To_firstOwnWay.1.cls M_To_firstOwnWay.1 M_To_firstOwnWay.1 ∈ e_gw := gw_s 48 (by decide +kernel) rfl
theorem k_To_countOwn : MK M_To_countOwn 1 := ⟨gw_t 633 (by decide +kernel) rfl, gw_t 3 (by decide +kernel) rfl, by decide +kernel, by decide⟩
theorem i_To_countOwn : Cond.instanceMethod M_To_countOwn.1 ∈ e_gw := gw_t 632 (by decide +kernel) rfl
theorem s_To_countOwn : Cond.selects M_To_countOwn.1.cls M_To_countOwn.1 M_To_countOwn.1 ∈ e_gw := gw_s 49 (by decide +kernel) rfl
theorem k_To_ownIn : MK M_To_ownIn 2 := ⟨gw_t 637 (by decide +kernel) rfl, gw_t 3 (by decide +kernel) rfl, by decide +kernel, by decide⟩
theorem i_To_ownIn : Cond.instanceMethod M_To_ownIn.1 ∈ e_gw := gw_t 636 (by decide +kernel) rfl
theorem s_To_ownIn : Cond.selects M_To_ownIn.1.cls M_To_ownIn.1 M_To_ownIn.1 ∈ e_gw := gw_s 50 (by decide +kernel) rfl
theorem k_Tb_odds : MK M_Tb_odds 5 := ⟨gw_t 643 (by decide +kernel) rfl, gw_t 1 (by decide +kernel) rfl, by decide +kernel, by decide⟩
theorem i_Tb_odds : Cond.instanceMethod M_Tb_odds.1 ∈ e_gw := gw_t 641 (by decide +kernel) rfl
theorem s_Tb_odds : Cond.selects M_Tb_odds.1.cls M_Tb_odds.1 M_Tb_odds.1 ∈ e_gw := gw_t 642 (by decide +kernel) rfl
theorem k_Od_startAt : MK M_Od_startAt 1 := ⟨gw_t 647 (by decide +kernel) rfl, gw_t 7 (by decide +kernel) rfl, by decide +kernel, by decide⟩
theorem i_Od_startAt : Cond.instanceMethod M_Od_startAt.1 ∈ e_gw := gw_t 646 (by decide +kernel) rfl
theorem s_Od_startAt : Cond.selects M_Od_startAt.1.cls M_Od_startAt.1 M_Od_startAt.1 ∈ e_gw := gw_s 51 (by decide +kernel) rfl
theorem k_Od_spread : MK M_Od_spread 2 := ⟨gw_t 653 (by decide +kernel) rfl, gw_t 7 (by decide +kernel) rfl, by decide +kernel, by decide⟩
theorem i_Od_spread : Cond.instanceMethod M_Od_spread.1 ∈ e_gw := gw_t 652 (by decide +kernel) rfl
theorem s_Od_spread : Cond.selects M_Od_spread.1.cls M_Od_spread.1 M_Od_spread.1 ∈ e_gw := gw_s 52 (by decide +kernel) rfl
theorem k_Od_carry : MK M_Od_carry 2 := ⟨gw_t 658 (by decide +kernel) rfl, gw_t 7 (by decide +kernel) rfl, by decide +kernel, by decide⟩
theorem i_Od_carry : Cond.instanceMethod M_Od_carry.1 ∈ e_gw := gw_t 657 (by decide +kernel) rfl
theorem s_Od_carry : Cond.selects M_Od_carry.1.cls M_Od_carry.1 M_Od_carry.1 ∈ e_gw := gw_s 53 (by decide +kernel) rfl
theorem k_Od_upper : MK M_Od_upper 1 := ⟨gw_t 662 (by decide +kernel) rfl, gw_t 7 (by decide +kernel) rfl, by decide +kernel, by decide⟩
theorem i_Od_upper : Cond.instanceMethod M_Od_upper.1 ∈ e_gw := gw_t 661 (by decide +kernel) rfl
theorem s_Od_upper : Cond.selects M_Od_upper.1.cls M_Od_upper.1 M_Od_upper.1 ∈ e_gw := gw_s 54 (by decide +kernel) rfl
theorem k_Od_common : MK M_Od_common 1 := ⟨gw_t 666 (by decide +kernel) rfl, gw_t 7 (by decide +kernel) rfl, by decide +kernel, by decide⟩
theorem i_Od_common : Cond.instanceMethod M_Od_common.1 ∈ e_gw := gw_t 665 (by decide +kernel) rfl
theorem s_Od_common : Cond.selects M_Od_common.1.cls M_Od_common.1 M_Od_common.1 ∈ e_gw := gw_s 55 (by decide +kernel) rfl
theorem k_Od_lower : MK M_Od_lower 1 := ⟨gw_t 671 (by decide +kernel) rfl, gw_t 7 (by decide +kernel) rfl, by decide +kernel, by decide⟩
theorem i_Od_lower : Cond.instanceMethod M_Od_lower.1 ∈ e_gw := gw_t 670 (by decide +kernel) rfl
theorem s_Od_lower : Cond.selects M_Od_lower.1.cls M_Od_lower.1 M_Od_lower.1 ∈ e_gw := gw_s 56 (by decide +kernel) rfl
theorem k_Tb_saw : MK M_Tb_saw 3 := ⟨gw_t 675 (by decide +kernel) rfl, gw_t 1 (by decide +kernel) rfl, by decide +kernel, by decide⟩
theorem i_Tb_saw : Cond.instanceMethod M_Tb_saw.1 ∈ e_gw := gw_t 673 (by decide +kernel) rfl
theorem s_Tb_saw : Cond.selects M_Tb_saw.1.cls M_Tb_saw.1 M_Tb_saw.1 ∈ e_gw := gw_t 674 (by decide +kernel) rfl
theorem k_Re_add : MK M_Re_add 3 := ⟨gw_t 679 (by decide +kernel) rfl, gw_t 8 (by decide +kernel) rfl, by decide +kernel, by decide⟩
theorem i_Re_add : Cond.instanceMethod M_Re_add.1 ∈ e_gw := gw_t 678 (by decide +kernel) rfl
theorem s_Re_add : Cond.selects M_Re_add.1.cls M_Re_add.1 M_Re_add.1 ∈ e_gw := gw_s 57 (by decide +kernel) rfl
theorem k_Tb_which : MK M_Tb_which 1 := ⟨gw_t 683 (by decide +kernel) rfl, gw_t 1 (by decide +kernel) rfl, by decide +kernel, by decide⟩
theorem i_Tb_which : Cond.instanceMethod M_Tb_which.1 ∈ e_gw := gw_t 681 (by decide +kernel) rfl
theorem s_Tb_which : Cond.selects M_Tb_which.1.cls M_Tb_which.1 M_Tb_which.1 ∈ e_gw := gw_t 682 (by decide +kernel) rfl
theorem k_Tb_fitting : MK M_Tb_fitting 1 := ⟨gw_t 687 (by decide +kernel) rfl, gw_t 1 (by decide +kernel) rfl, by decide +kernel, by decide⟩
theorem i_Tb_fitting : Cond.instanceMethod M_Tb_fitting.1 ∈ e_gw := gw_t 686 (by decide +kernel) rfl
theorem s_Tb_fitting : Cond.selects M_Tb_fitting.1.cls M_Tb_fitting.1 M_Tb_fitting.1 ∈ e_gw := gw_s 58 (by decide +kernel) rfl
theorem k_Tb_fits : MK M_Tb_fits 2 := ⟨gw_t 691 (by decide +kernel) rfl, gw_t 1 (by decide +kernel) rfl, by decide +kernel, by decide⟩
theorem i_Tb_fits : Cond.instanceMethod M_Tb_fits.1 ∈ e_gw := gw_t 690 (by decide +kernel) rfl
theorem s_Tb_fits : Cond.selects M_Tb_fits.1.cls M_Tb_fits.1 M_Tb_fits.1 ∈ e_gw := gw_s 59 (by decide +kernel) rfl
theorem k_Tb_heightLater : MK M_Tb_heightLater 3 := ⟨gw_t 695 (by decide +kernel) rfl, gw_t 1 (by decide +kernel) rfl, by decide +kernel, by decide⟩
theorem i_Tb_heightLater : Cond.instanceMethod M_Tb_heightLater.1 ∈ e_gw := gw_t 694 (by decide +kernel) rfl
theorem s_Tb_heightLater : Cond.selects M_Tb_heightLater.1.cls M_Tb_heightLater.1 M_Tb_heightLater.1 ∈ e_gw := gw_s 60 (by decide +kernel) rfl
theorem k_Tb_look : MK M_Tb_look 1 := ⟨gw_t 700 (by decide +kernel) rfl, gw_t 1 (by decide +kernel) rfl, by decide +kernel, by decide⟩
theorem i_Tb_look : Cond.instanceMethod M_Tb_look.1 ∈ e_gw := gw_t 698 (by decide +kernel) rfl
theorem s_Tb_look : Cond.selects M_Tb_look.1.cls M_Tb_look.1 M_Tb_look.1 ∈ e_gw := gw_t 699 (by decide +kernel) rfl
theorem k_Tb_greatestAlike : MK M_Tb_greatestAlike 3 := ⟨gw_t 704 (by decide +kernel) rfl, gw_t 1 (by decide +kernel) rfl, by decide +kernel, by decide⟩
theorem i_Tb_greatestAlike : Cond.instanceMethod M_Tb_greatestAlike.1 ∈ e_gw := gw_t 703 (by decide +kernel) rfl
theorem s_Tb_greatestAlike : Cond.selects M_Tb_greatestAlike.1.cls M_Tb_greatestAlike.1 M_Tb_greatestAlike.1 ∈ e_gw := gw_s 61 (by decide +kernel) rfl
theorem k_Tb_hears : MK M_Tb_hears 2 := ⟨gw_t 710 (by decide +kernel) rfl, gw_t 1 (by decide +kernel) rfl, by decide +kernel, by decide⟩
theorem i_Tb_hears : Cond.instanceMethod M_Tb_hears.1 ∈ e_gw := gw_t 708 (by decide +kernel) rfl
theorem s_Tb_hears : Cond.selects M_Tb_hears.1.cls M_Tb_hears.1 M_Tb_hears.1 ∈ e_gw := gw_t 709 (by decide +kernel) rfl
theorem k_Tb_laws : MK M_Tb_laws 1 := ⟨gw_t 714 (by decide +kernel) rfl, gw_t 1 (by decide +kernel) rfl, by decide +kernel, by decide⟩
theorem i_Tb_laws : Cond.instanceMethod M_Tb_laws.1 ∈ e_gw := gw_t 712 (by decide +kernel) rfl
theorem s_Tb_laws : Cond.selects M_Tb_laws.1.cls M_Tb_laws.1 M_Tb_laws.1 ∈ e_gw := gw_t 713 (by decide +kernel) rfl
theorem k_Tb_isLaw : MK M_Tb_isLaw 2 := ⟨gw_t 718 (by decide +kernel) rfl, gw_t 1 (by decide +kernel) rfl, by decide +kernel, by decide⟩
theorem i_Tb_isLaw : Cond.instanceMethod M_Tb_isLaw.1 ∈ e_gw := gw_t 717 (by decide +kernel) rfl
theorem s_Tb_isLaw : Cond.selects M_Tb_isLaw.1.cls M_Tb_isLaw.1 M_Tb_isLaw.1 ∈ e_gw := gw_s 62 (by decide +kernel) rfl
theorem k_Tb_forget : MK M_Tb_forget 0 := ⟨gw_t 723 (by decide +kernel) rfl, gw_t 1 (by decide +kernel) rfl, by decide +kernel, by decide⟩
theorem i_Tb_forget : Cond.instanceMethod M_Tb_forget.1 ∈ e_gw := gw_t 721 (by decide +kernel) rfl
theorem s_Tb_forget : Cond.selects M_Tb_forget.1.cls M_Tb_forget.1 M_Tb_forget.1 ∈ e_gw := gw_t 722 (by decide +kernel) rfl
theorem k_Tb_mark : MK M_Tb_mark 2 := ⟨gw_t 727 (by decide +kernel) rfl, gw_t 1 (by decide +kernel) rfl, by decide +kernel, by decide⟩
theorem i_Tb_mark : Cond.instanceMethod M_Tb_mark.1 ∈ e_gw := gw_t 725 (by decide +kernel) rfl
theorem s_Tb_mark : Cond.selects M_Tb_mark.1.cls M_Tb_mark.1 M_Tb_mark.1 ∈ e_gw := gw_t 726 (by decide +kernel) rfl
theorem k_Tb_markLover : MK M_Tb_markLover 1 := ⟨gw_t 731 (by decide +kernel) rfl, gw_t 1 (by decide +kernel) rfl, by decide +kernel, by decide⟩
theorem i_Tb_markLover : Cond.instanceMethod M_Tb_markLover.1 ∈ e_gw := gw_t 730 (by decide +kernel) rfl
theorem s_Tb_markLover : Cond.selects M_Tb_markLover.1.cls M_Tb_markLover.1 M_Tb_markLover.1 ∈ e_gw := gw_s 63 (by decide +kernel) rfl
theorem k_Tb_markOne : MK M_Tb_markOne 1 := ⟨gw_t 736 (by decide +kernel) rfl, gw_t 1 (by decide +kernel) rfl, by decide +kernel, by decide⟩
theorem i_Tb_markOne : Cond.instanceMethod M_Tb_markOne.1 ∈ e_gw := gw_t 735 (by decide +kernel) rfl
theorem s_Tb_markOne : Cond.selects M_Tb_markOne.1.cls M_Tb_markOne.1 M_Tb_markOne.1 ∈ e_gw := gw_s 64 (by decide +kernel) rfl
theorem k_Tb_markGrudge : MK M_Tb_markGrudge 1 := ⟨gw_t 740 (by decide +kernel) rfl, gw_t 1 (by decide +kernel) rfl, by decide +kernel, by decide⟩
theorem i_Tb_markGrudge : Cond.instanceMethod M_Tb_markGrudge.1 ∈ e_gw := gw_t 739 (by decide +kernel) rfl
theorem s_Tb_markGrudge : Cond.selects M_Tb_markGrudge.1.cls M_Tb_markGrudge.1 M_Tb_markGrudge.1 ∈ e_gw := gw_s 65 (by decide +kernel) rfl
theorem k_Tb_markPoet : MK M_Tb_markPoet 1 := ⟨gw_t 745 (by decide +kernel) rfl, gw_t 1 (by decide +kernel) rfl, by decide +kernel, by decide⟩
theorem i_Tb_markPoet : Cond.instanceMethod M_Tb_markPoet.1 ∈ e_gw := gw_t 744 (by decide +kernel) rfl
theorem s_Tb_markPoet : Cond.selects M_Tb_markPoet.1.cls M_Tb_markPoet.1 M_Tb_markPoet.1 ∈ e_gw := gw_s 66 (by decide +kernel) rfl
theorem k_Tb_markMiser : MK M_Tb_markMiser 1 := ⟨gw_t 750 (by decide +kernel) rfl, gw_t 1 (by decide +kernel) rfl, by decide +kernel, by decide⟩
theorem i_Tb_markMiser : Cond.instanceMethod M_Tb_markMiser.1 ∈ e_gw := gw_t 749 (by decide +kernel) rfl
theorem s_Tb_markMiser : Cond.selects M_Tb_markMiser.1.cls M_Tb_markMiser.1 M_Tb_markMiser.1 ∈ e_gw := gw_s 67 (by decide +kernel) rfl
theorem k_Tb_markWife : MK M_Tb_markWife 1 := ⟨gw_t 755 (by decide +kernel) rfl, gw_t 1 (by decide +kernel) rfl, by decide +kernel, by decide⟩
theorem i_Tb_markWife : Cond.instanceMethod M_Tb_markWife.1 ∈ e_gw := gw_t 754 (by decide +kernel) rfl
theorem s_Tb_markWife : Cond.selects M_Tb_markWife.1.cls M_Tb_markWife.1 M_Tb_markWife.1 ∈ e_gw := gw_s 68 (by decide +kernel) rfl
theorem k_Tb_keep : MK M_Tb_keep 1 := ⟨gw_t 760 (by decide +kernel) rfl, gw_t 1 (by decide +kernel) rfl, by decide +kernel, by decide⟩
theorem i_Tb_keep : Cond.instanceMethod M_Tb_keep.1 ∈ e_gw := gw_t 758 (by decide +kernel) rfl
theorem s_Tb_keep : Cond.selects M_Tb_keep.1.cls M_Tb_keep.1 M_Tb_keep.1 ∈ e_gw := gw_t 759 (by decide +kernel) rfl
theorem k_Im_take : MK M_Im_take 2 := ⟨gw_t 764 (by decide +kernel) rfl, gw_t 9 (by decide +kernel) rfl, by decide +kernel, by decide⟩
theorem i_Im_take : Cond.instanceMethod M_Im_take.1 ∈ e_gw := gw_t 763 (by decide +kernel) rfl
theorem s_Im_take : Cond.selects M_Im_take.1.cls M_Im_take.1 M_Im_take.1 ∈ e_gw := gw_s 69 (by decide +kernel) rfl
theorem k_Hi_copyFrom : MK M_Hi_copyFrom 1 := ⟨gw_t 769 (by decide +kernel) rfl, gw_t 5 (by decide +kernel) rfl, by decide +kernel, by decide⟩
theorem i_Hi_copyFrom : Cond.instanceMethod M_Hi_copyFrom.1 ∈ e_gw := gw_t 768 (by decide +kernel) rfl
theorem s_Hi_copyFrom : Cond.selects M_Hi_copyFrom.1.cls M_Hi_copyFrom.1 M_Hi_copyFrom.1 ∈ e_gw := gw_s 70 (by decide +kernel) rfl
theorem k_Tb_back : MK M_Tb_back 1 := ⟨gw_t 773 (by decide +kernel) rfl, gw_t 1 (by decide +kernel) rfl, by decide +kernel, by decide⟩
theorem i_Tb_back : Cond.instanceMethod M_Tb_back.1 ∈ e_gw := gw_t 771 (by decide +kernel) rfl
theorem s_Tb_back : Cond.selects M_Tb_back.1.cls M_Tb_back.1 M_Tb_back.1 ∈ e_gw := gw_t 772 (by decide +kernel) rfl
theorem k_Im_give : MK M_Im_give 2 := ⟨gw_t 777 (by decide +kernel) rfl, gw_t 9 (by decide +kernel) rfl, by decide +kernel, by decide⟩
theorem i_Im_give : Cond.instanceMethod M_Im_give.1 ∈ e_gw := gw_t 776 (by decide +kernel) rfl
theorem s_Im_give : Cond.selects M_Im_give.1.cls M_Im_give.1 M_Im_give.1 ∈ e_gw := gw_s 71 (by decide +kernel) rfl
theorem k_Tb_count : MK M_Tb_count 1 := ⟨gw_t 781 (by decide +kernel) rfl, gw_t 1 (by decide +kernel) rfl, by decide +kernel, by decide⟩
theorem i_Tb_count : Cond.instanceMethod M_Tb_count.1 ∈ e_gw := gw_t 779 (by decide +kernel) rfl
theorem s_Tb_count : Cond.selects M_Tb_count.1.cls M_Tb_count.1 M_Tb_count.1 ∈ e_gw := gw_t 780 (by decide +kernel) rfl
theorem k_Tb_trace : MK M_Tb_trace 0 := ⟨gw_t 785 (by decide +kernel) rfl, gw_t 1 (by decide +kernel) rfl, by decide +kernel, by decide⟩
theorem i_Tb_trace : Cond.instanceMethod M_Tb_trace.1 ∈ e_gw := gw_t 783 (by decide +kernel) rfl
theorem s_Tb_trace : Cond.selects M_Tb_trace.1.cls M_Tb_trace.1 M_Tb_trace.1 ∈ e_gw := gw_t 784 (by decide +kernel) rfl
theorem k_Mo_init : MK M_Mo_init 0 := ⟨gw_t 790 (by decide +kernel) rfl, gw_t 10 (by decide +kernel) rfl, by decide +kernel, by decide⟩
theorem i_Mo_init : Cond.instanceMethod M_Mo_init.1 ∈ e_gw := gw_t 789 (by decide +kernel) rfl
theorem k_Mo_type : MK M_Mo_type 1 := ⟨gw_t 897 (by decide +kernel) rfl, gw_t 10 (by decide +kernel) rfl, by decide +kernel, by decide⟩
theorem i_Mo_type : Cond.instanceMethod M_Mo_type.1 ∈ e_gw := gw_t 895 (by decide +kernel) rfl
theorem s_Mo_type : Cond.selects M_Mo_type.1.cls M_Mo_type.1 M_Mo_type.1 ∈ e_gw := gw_t 896 (by decide +kernel) rfl
theorem k_Mo_in : MK M_Mo_in 3 := ⟨gw_t 900 (by decide +kernel) rfl, gw_t 10 (by decide +kernel) rfl, by decide +kernel, by decide⟩
theorem i_Mo_in : Cond.static M_Mo_in.1 ∈ e_gw := gw_t 899 (by decide +kernel) rfl
theorem k_Mo_clear : MK M_Mo_clear 0 := ⟨gw_t 904 (by decide +kernel) rfl, gw_t 10 (by decide +kernel) rfl, by decide +kernel, by decide⟩
theorem i_Mo_clear : Cond.instanceMethod M_Mo_clear.1 ∈ e_gw := gw_t 902 (by decide +kernel) rfl
theorem s_Mo_clear : Cond.selects M_Mo_clear.1.cls M_Mo_clear.1 M_Mo_clear.1 ∈ e_gw := gw_t 903 (by decide +kernel) rfl
theorem k_Mo_sheds : MK M_Mo_sheds 0 := ⟨gw_t 908 (by decide +kernel) rfl, gw_t 10 (by decide +kernel) rfl, by decide +kernel, by decide⟩
theorem i_Mo_sheds : Cond.instanceMethod M_Mo_sheds.1 ∈ e_gw := gw_t 906 (by decide +kernel) rfl
theorem s_Mo_sheds : Cond.selects M_Mo_sheds.1.cls M_Mo_sheds.1 M_Mo_sheds.1 ∈ e_gw := gw_t 907 (by decide +kernel) rfl
theorem k_Mo_read : MK M_Mo_read 0 := ⟨gw_t 912 (by decide +kernel) rfl, gw_t 10 (by decide +kernel) rfl, by decide +kernel, by decide⟩
theorem i_Mo_read : Cond.instanceMethod M_Mo_read.1 ∈ e_gw := gw_t 911 (by decide +kernel) rfl
theorem s_Mo_read : Cond.selects M_Mo_read.1.cls M_Mo_read.1 M_Mo_read.1 ∈ e_gw := gw_s 72 (by decide +kernel) rfl
theorem k_Mo_step : MK M_Mo_step 0 := ⟨gw_t 916 (by decide +kernel) rfl, gw_t 10 (by decide +kernel) rfl, by decide +kernel, by decide⟩
theorem i_Mo_step : Cond.instanceMethod M_Mo_step.1 ∈ e_gw := gw_t 915 (by decide +kernel) rfl
theorem s_Mo_step : Cond.selects M_Mo_step.1.cls M_Mo_step.1 M_Mo_step.1 ∈ e_gw := gw_s 73 (by decide +kernel) rfl
theorem k_Mo_here : MK M_Mo_here 0 := ⟨gw_t 920 (by decide +kernel) rfl, gw_t 10 (by decide +kernel) rfl, by decide +kernel, by decide⟩
theorem i_Mo_here : Cond.instanceMethod M_Mo_here.1 ∈ e_gw := gw_t 919 (by decide +kernel) rfl
theorem s_Mo_here : Cond.selects M_Mo_here.1.cls M_Mo_here.1 M_Mo_here.1 ∈ e_gw := gw_s 74 (by decide +kernel) rfl
theorem k_Mo_may : MK M_Mo_may 1 := ⟨gw_t 924 (by decide +kernel) rfl, gw_t 10 (by decide +kernel) rfl, by decide +kernel, by decide⟩
theorem i_Mo_may : Cond.instanceMethod M_Mo_may.1 ∈ e_gw := gw_t 923 (by decide +kernel) rfl
theorem s_Mo_may : Cond.selects M_Mo_may.1.cls M_Mo_may.1 M_Mo_may.1 ∈ e_gw := gw_s 75 (by decide +kernel) rfl
theorem k_Mo_due : MK M_Mo_due 1 := ⟨gw_t 928 (by decide +kernel) rfl, gw_t 10 (by decide +kernel) rfl, by decide +kernel, by decide⟩
theorem i_Mo_due : Cond.instanceMethod M_Mo_due.1 ∈ e_gw := gw_t 927 (by decide +kernel) rfl
theorem s_Mo_due : Cond.selects M_Mo_due.1.cls M_Mo_due.1 M_Mo_due.1 ∈ e_gw := gw_s 76 (by decide +kernel) rfl
theorem k_Mo_item : MK M_Mo_item 1 := ⟨gw_t 932 (by decide +kernel) rfl, gw_t 10 (by decide +kernel) rfl, by decide +kernel, by decide⟩
theorem i_Mo_item : Cond.instanceMethod M_Mo_item.1 ∈ e_gw := gw_t 931 (by decide +kernel) rfl
theorem s_Mo_item : Cond.selects M_Mo_item.1.cls M_Mo_item.1 M_Mo_item.1 ∈ e_gw := gw_s 77 (by decide +kernel) rfl
theorem k_Mo_number : MK M_Mo_number 2 := ⟨gw_t 936 (by decide +kernel) rfl, gw_t 10 (by decide +kernel) rfl, by decide +kernel, by decide⟩
theorem i_Mo_number : Cond.instanceMethod M_Mo_number.1 ∈ e_gw := gw_t 935 (by decide +kernel) rfl
theorem s_Mo_number : Cond.selects M_Mo_number.1.cls M_Mo_number.1 M_Mo_number.1 ∈ e_gw := gw_s 78 (by decide +kernel) rfl
theorem k_Mo_wind : MK M_Mo_wind 1 := ⟨gw_t 940 (by decide +kernel) rfl, gw_t 10 (by decide +kernel) rfl, by decide +kernel, by decide⟩
theorem i_Mo_wind : Cond.instanceMethod M_Mo_wind.1 ∈ e_gw := gw_t 938 (by decide +kernel) rfl
theorem s_Mo_wind : Cond.selects M_Mo_wind.1.cls M_Mo_wind.1 M_Mo_wind.1 ∈ e_gw := gw_t 939 (by decide +kernel) rfl
theorem k_Mo_one : MK M_Mo_one 2 := ⟨gw_t 945 (by decide +kernel) rfl, gw_t 10 (by decide +kernel) rfl, by decide +kernel, by decide⟩
theorem i_Mo_one : Cond.instanceMethod M_Mo_one.1 ∈ e_gw := gw_t 943 (by decide +kernel) rfl
theorem s_Mo_one : Cond.selects M_Mo_one.1.cls M_Mo_one.1 M_Mo_one.1 ∈ e_gw := gw_t 944 (by decide +kernel) rfl
theorem k_Mo_isOne : MK M_Mo_isOne 1 := ⟨gw_t 949 (by decide +kernel) rfl, gw_t 10 (by decide +kernel) rfl, by decide +kernel, by decide⟩
theorem i_Mo_isOne : Cond.instanceMethod M_Mo_isOne.1 ∈ e_gw := gw_t 948 (by decide +kernel) rfl
theorem s_Mo_isOne : Cond.selects M_Mo_isOne.1.cls M_Mo_isOne.1 M_Mo_isOne.1 ∈ e_gw := gw_s 79 (by decide +kernel) rfl
theorem k_Mo_has : MK M_Mo_has 2 := ⟨gw_t 952 (by decide +kernel) rfl, gw_t 10 (by decide +kernel) rfl, by decide +kernel, by decide⟩
theorem i_Mo_has : Cond.static M_Mo_has.1 ∈ e_gw := gw_t 951 (by decide +kernel) rfl
theorem k_Mo_liftsOf : MK M_Mo_liftsOf 1 := ⟨gw_t 956 (by decide +kernel) rfl, gw_t 10 (by decide +kernel) rfl, by decide +kernel, by decide⟩
theorem i_Mo_liftsOf : Cond.instanceMethod M_Mo_liftsOf.1 ∈ e_gw := gw_t 955 (by decide +kernel) rfl
theorem s_Mo_liftsOf : Cond.selects M_Mo_liftsOf.1.cls M_Mo_liftsOf.1 M_Mo_liftsOf.1 ∈ e_gw := gw_s 80 (by decide +kernel) rfl
theorem k_Mo_thought : MK M_Mo_thought 2 := ⟨gw_t 960 (by decide +kernel) rfl, gw_t 10 (by decide +kernel) rfl, by decide +kernel, by decide⟩
theorem i_Mo_thought : Cond.instanceMethod M_Mo_thought.1 ∈ e_gw := gw_t 958 (by decide +kernel) rfl
theorem s_Mo_thought : Cond.selects M_Mo_thought.1.cls M_Mo_thought.1 M_Mo_thought.1 ∈ e_gw := gw_t 959 (by decide +kernel) rfl
theorem k_Mo_isThought : MK M_Mo_isThought 1 := ⟨gw_t 964 (by decide +kernel) rfl, gw_t 10 (by decide +kernel) rfl, by decide +kernel, by decide⟩
theorem i_Mo_isThought : Cond.instanceMethod M_Mo_isThought.1 ∈ e_gw := gw_t 963 (by decide +kernel) rfl
theorem s_Mo_isThought : Cond.selects M_Mo_isThought.1.cls M_Mo_isThought.1 M_Mo_isThought.1 ∈ e_gw := gw_s 81 (by decide +kernel) rfl
theorem k_Mo_begins : MK M_Mo_begins 2 := ⟨gw_t 968 (by decide +kernel) rfl, gw_t 10 (by decide +kernel) rfl, by decide +kernel, by decide⟩
theorem i_Mo_begins : Cond.instanceMethod M_Mo_begins.1 ∈ e_gw := gw_t 966 (by decide +kernel) rfl
theorem s_Mo_begins : Cond.selects M_Mo_begins.1.cls M_Mo_begins.1 M_Mo_begins.1 ∈ e_gw := gw_t 967 (by decide +kernel) rfl
theorem k_Mo_canBegin : MK M_Mo_canBegin 3 := ⟨gw_t 971 (by decide +kernel) rfl, gw_t 10 (by decide +kernel) rfl, by decide +kernel, by decide⟩
theorem i_Mo_canBegin : Cond.static M_Mo_canBegin.1 ∈ e_gw := gw_t 970 (by decide +kernel) rfl
theorem k_Mo_know : MK M_Mo_know 0 := ⟨gw_t 975 (by decide +kernel) rfl, gw_t 10 (by decide +kernel) rfl, by decide +kernel, by decide⟩
theorem i_Mo_know : Cond.instanceMethod M_Mo_know.1 ∈ e_gw := gw_t 974 (by decide +kernel) rfl
theorem s_Mo_know : Cond.selects M_Mo_know.1.cls M_Mo_know.1 M_Mo_know.1 ∈ e_gw := gw_s 82 (by decide +kernel) rfl
theorem k_Mo_begin : MK M_Mo_begin 3 := ⟨gw_t 978 (by decide +kernel) rfl, gw_t 10 (by decide +kernel) rfl, by decide +kernel, by decide⟩
theorem i_Mo_begin : Cond.static M_Mo_begin.1 ∈ e_gw := gw_t 977 (by decide +kernel) rfl
theorem k_Mo_hold : MK M_Mo_hold 1 := ⟨gw_t 982 (by decide +kernel) rfl, gw_t 10 (by decide +kernel) rfl, by decide +kernel, by decide⟩
theorem i_Mo_hold : Cond.instanceMethod M_Mo_hold.1 ∈ e_gw := gw_t 981 (by decide +kernel) rfl
theorem s_Mo_hold : Cond.selects M_Mo_hold.1.cls M_Mo_hold.1 M_Mo_hold.1 ∈ e_gw := gw_s 83 (by decide +kernel) rfl
theorem k_Mo_minutes : MK M_Mo_minutes 1 := ⟨gw_t 986 (by decide +kernel) rfl, gw_t 10 (by decide +kernel) rfl, by decide +kernel, by decide⟩
theorem i_Mo_minutes : Cond.instanceMethod M_Mo_minutes.1 ∈ e_gw := gw_t 984 (by decide +kernel) rfl
theorem s_Mo_minutes : Cond.selects M_Mo_minutes.1.cls M_Mo_minutes.1 M_Mo_minutes.1 ∈ e_gw := gw_t 985 (by decide +kernel) rfl
theorem k_Mo_passOn : MK M_Mo_passOn 1 := ⟨gw_t 990 (by decide +kernel) rfl, gw_t 10 (by decide +kernel) rfl, by decide +kernel, by decide⟩
theorem i_Mo_passOn : Cond.instanceMethod M_Mo_passOn.1 ∈ e_gw := gw_t 989 (by decide +kernel) rfl
theorem s_Mo_passOn : Cond.selects M_Mo_passOn.1.cls M_Mo_passOn.1 M_Mo_passOn.1 ∈ e_gw := gw_s 84 (by decide +kernel) rfl
theorem k_Mo_weights : MK M_Mo_weights 1 := ⟨gw_t 994 (by decide +kernel) rfl, gw_t 10 (by decide +kernel) rfl, by decide +kernel, by decide⟩
theorem i_Mo_weights : Cond.instanceMethod M_Mo_weights.1 ∈ e_gw := gw_t 993 (by decide +kernel) rfl
theorem s_Mo_weights : Cond.selects M_Mo_weights.1.cls M_Mo_weights.1 M_Mo_weights.1 ∈ e_gw := gw_s 85 (by decide +kernel) rfl
theorem k_Mo_enters : MK M_Mo_enters 1 := ⟨gw_t 998 (by decide +kernel) rfl, gw_t 10 (by decide +kernel) rfl, by decide +kernel, by decide⟩
theorem i_Mo_enters : Cond.instanceMethod M_Mo_enters.1 ∈ e_gw := gw_t 996 (by decide +kernel) rfl
theorem s_Mo_enters : Cond.selects M_Mo_enters.1.cls M_Mo_enters.1 M_Mo_enters.1 ∈ e_gw := gw_t 997 (by decide +kernel) rfl
theorem k_Mo_isAtRest : MK M_Mo_isAtRest 0 := ⟨gw_t 1002 (by decide +kernel) rfl, gw_t 10 (by decide +kernel) rfl, by decide +kernel, by decide⟩
theorem i_Mo_isAtRest : Cond.instanceMethod M_Mo_isAtRest.1 ∈ e_gw := gw_t 1001 (by decide +kernel) rfl
theorem s_Mo_isAtRest : Cond.selects M_Mo_isAtRest.1.cls M_Mo_isAtRest.1 M_Mo_isAtRest.1 ∈ e_gw := gw_s 86 (by decide +kernel) rfl
theorem k_Mo_bitsOf : MK M_Mo_bitsOf 1 := ⟨gw_t 1005 (by decide +kernel) rfl, gw_t 10 (by decide +kernel) rfl, by decide +kernel, by decide⟩
theorem i_Mo_bitsOf : Cond.static M_Mo_bitsOf.1 ∈ e_gw := gw_t 1004 (by decide +kernel) rfl
theorem k_Mo_leaves : MK M_Mo_leaves 1 := ⟨gw_t 1009 (by decide +kernel) rfl, gw_t 10 (by decide +kernel) rfl, by decide +kernel, by decide⟩
theorem i_Mo_leaves : Cond.instanceMethod M_Mo_leaves.1 ∈ e_gw := gw_t 1007 (by decide +kernel) rfl
theorem s_Mo_leaves : Cond.selects M_Mo_leaves.1.cls M_Mo_leaves.1 M_Mo_leaves.1 ∈ e_gw := gw_t 1008 (by decide +kernel) rfl
theorem k_Mo_undo : MK M_Mo_undo 0 := ⟨gw_t 1013 (by decide +kernel) rfl, gw_t 10 (by decide +kernel) rfl, by decide +kernel, by decide⟩
theorem i_Mo_undo : Cond.instanceMethod M_Mo_undo.1 ∈ e_gw := gw_t 1011 (by decide +kernel) rfl
theorem s_Mo_undo : Cond.selects M_Mo_undo.1.cls M_Mo_undo.1 M_Mo_undo.1 ∈ e_gw := gw_t 1012 (by decide +kernel) rfl
theorem k_Mo_now : MK M_Mo_now 1 := ⟨gw_t 1017 (by decide +kernel) rfl, gw_t 10 (by decide +kernel) rfl, by decide +kernel, by decide⟩
theorem i_Mo_now : Cond.instanceMethod M_Mo_now.1 ∈ e_gw := gw_t 1015 (by decide +kernel) rfl
theorem s_Mo_now : Cond.selects M_Mo_now.1.cls M_Mo_now.1 M_Mo_now.1 ∈ e_gw := gw_t 1016 (by decide +kernel) rfl
theorem k_Mo_cover : MK M_Mo_cover 0 := ⟨gw_t 1021 (by decide +kernel) rfl, gw_t 10 (by decide +kernel) rfl, by decide +kernel, by decide⟩
theorem i_Mo_cover : Cond.instanceMethod M_Mo_cover.1 ∈ e_gw := gw_t 1020 (by decide +kernel) rfl
theorem s_Mo_cover : Cond.selects M_Mo_cover.1.cls M_Mo_cover.1 M_Mo_cover.1 ∈ e_gw := gw_s 87 (by decide +kernel) rfl
theorem k_Mo_after : MK M_Mo_after 2 := ⟨gw_t 1025 (by decide +kernel) rfl, gw_t 10 (by decide +kernel) rfl, by decide +kernel, by decide⟩
theorem i_Mo_after : Cond.instanceMethod M_Mo_after.1 ∈ e_gw := gw_t 1023 (by decide +kernel) rfl
theorem s_Mo_after : Cond.selects M_Mo_after.1.cls M_Mo_after.1 M_Mo_after.1 ∈ e_gw := gw_t 1024 (by decide +kernel) rfl
theorem k_Mo_take : MK M_Mo_take 0 := ⟨gw_t 1029 (by decide +kernel) rfl, gw_t 10 (by decide +kernel) rfl, by decide +kernel, by decide⟩
theorem i_Mo_take : Cond.instanceMethod M_Mo_take.1 ∈ e_gw := gw_t 1028 (by decide +kernel) rfl
theorem s_Mo_take : Cond.selects M_Mo_take.1.cls M_Mo_take.1 M_Mo_take.1 ∈ e_gw := gw_s 88 (by decide +kernel) rfl
theorem k_Mo_down : MK M_Mo_down 0 := ⟨gw_t 1033 (by decide +kernel) rfl, gw_t 10 (by decide +kernel) rfl, by decide +kernel, by decide⟩
theorem i_Mo_down : Cond.instanceMethod M_Mo_down.1 ∈ e_gw := gw_t 1031 (by decide +kernel) rfl
theorem s_Mo_down : Cond.selects M_Mo_down.1.cls M_Mo_down.1 M_Mo_down.1 ∈ e_gw := gw_t 1032 (by decide +kernel) rfl
theorem k_Mo_best : MK M_Mo_best 3 := ⟨gw_t 1037 (by decide +kernel) rfl, gw_t 10 (by decide +kernel) rfl, by decide +kernel, by decide⟩
theorem i_Mo_best : Cond.instanceMethod M_Mo_best.1 ∈ e_gw := gw_t 1035 (by decide +kernel) rfl
theorem s_Mo_best : Cond.selects M_Mo_best.1.cls M_Mo_best.1 M_Mo_best.1 ∈ e_gw := gw_t 1036 (by decide +kernel) rfl
theorem k_Mo_goBy : MK M_Mo_goBy 4 := ⟨gw_t 1041 (by decide +kernel) rfl, gw_t 10 (by decide +kernel) rfl, by decide +kernel, by decide⟩
theorem i_Mo_goBy : Cond.instanceMethod M_Mo_goBy.1 ∈ e_gw := gw_t 1040 (by decide +kernel) rfl
theorem s_Mo_goBy : Cond.selects M_Mo_goBy.1.cls M_Mo_goBy.1 M_Mo_goBy.1 ∈ e_gw := gw_s 89 (by decide +kernel) rfl
theorem k_Mo_own : MK M_Mo_own 1 := ⟨gw_t 1045 (by decide +kernel) rfl, gw_t 10 (by decide +kernel) rfl, by decide +kernel, by decide⟩
theorem i_Mo_own : Cond.instanceMethod M_Mo_own.1 ∈ e_gw := gw_t 1043 (by decide +kernel) rfl
theorem s_Mo_own : Cond.selects M_Mo_own.1.cls M_Mo_own.1 M_Mo_own.1 ∈ e_gw := gw_t 1044 (by decide +kernel) rfl
theorem k_Mo_odds : MK M_Mo_odds 5 := ⟨gw_t 1049 (by decide +kernel) rfl, gw_t 10 (by decide +kernel) rfl, by decide +kernel, by decide⟩
theorem i_Mo_odds : Cond.instanceMethod M_Mo_odds.1 ∈ e_gw := gw_t 1047 (by decide +kernel) rfl
theorem s_Mo_odds : Cond.selects M_Mo_odds.1.cls M_Mo_odds.1 M_Mo_odds.1 ∈ e_gw := gw_t 1048 (by decide +kernel) rfl
theorem k_Mo_saw : MK M_Mo_saw 3 := ⟨gw_t 1053 (by decide +kernel) rfl, gw_t 10 (by decide +kernel) rfl, by decide +kernel, by decide⟩
theorem i_Mo_saw : Cond.instanceMethod M_Mo_saw.1 ∈ e_gw := gw_t 1051 (by decide +kernel) rfl
theorem s_Mo_saw : Cond.selects M_Mo_saw.1.cls M_Mo_saw.1 M_Mo_saw.1 ∈ e_gw := gw_t 1052 (by decide +kernel) rfl
theorem k_Mo_which : MK M_Mo_which 1 := ⟨gw_t 1057 (by decide +kernel) rfl, gw_t 10 (by decide +kernel) rfl, by decide +kernel, by decide⟩
theorem i_Mo_which : Cond.instanceMethod M_Mo_which.1 ∈ e_gw := gw_t 1055 (by decide +kernel) rfl
theorem s_Mo_which : Cond.selects M_Mo_which.1.cls M_Mo_which.1 M_Mo_which.1 ∈ e_gw := gw_t 1056 (by decide +kernel) rfl
theorem k_Mo_whichBy : MK M_Mo_whichBy 1 := ⟨gw_t 1061 (by decide +kernel) rfl, gw_t 10 (by decide +kernel) rfl, by decide +kernel, by decide⟩
theorem i_Mo_whichBy : Cond.instanceMethod M_Mo_whichBy.1 ∈ e_gw := gw_t 1060 (by decide +kernel) rfl
theorem s_Mo_whichBy : Cond.selects M_Mo_whichBy.1.cls M_Mo_whichBy.1 M_Mo_whichBy.1 ∈ e_gw := gw_s 90 (by decide +kernel) rfl
theorem k_Mo_heightBy : MK M_Mo_heightBy 3 := ⟨gw_t 1065 (by decide +kernel) rfl, gw_t 10 (by decide +kernel) rfl, by decide +kernel, by decide⟩
theorem i_Mo_heightBy : Cond.instanceMethod M_Mo_heightBy.1 ∈ e_gw := gw_t 1064 (by decide +kernel) rfl
theorem s_Mo_heightBy : Cond.selects M_Mo_heightBy.1.cls M_Mo_heightBy.1 M_Mo_heightBy.1 ∈ e_gw := gw_s 91 (by decide +kernel) rfl
theorem k_Mo_look : MK M_Mo_look 1 := ⟨gw_t 1069 (by decide +kernel) rfl, gw_t 10 (by decide +kernel) rfl, by decide +kernel, by decide⟩
theorem i_Mo_look : Cond.instanceMethod M_Mo_look.1 ∈ e_gw := gw_t 1067 (by decide +kernel) rfl
theorem s_Mo_look : Cond.selects M_Mo_look.1.cls M_Mo_look.1 M_Mo_look.1 ∈ e_gw := gw_t 1068 (by decide +kernel) rfl
theorem k_Mo_hears : MK M_Mo_hears 2 := ⟨gw_t 1073 (by decide +kernel) rfl, gw_t 10 (by decide +kernel) rfl, by decide +kernel, by decide⟩
theorem i_Mo_hears : Cond.instanceMethod M_Mo_hears.1 ∈ e_gw := gw_t 1071 (by decide +kernel) rfl
theorem s_Mo_hears : Cond.selects M_Mo_hears.1.cls M_Mo_hears.1 M_Mo_hears.1 ∈ e_gw := gw_t 1072 (by decide +kernel) rfl
theorem k_Mo_laws : MK M_Mo_laws 1 := ⟨gw_t 1077 (by decide +kernel) rfl, gw_t 10 (by decide +kernel) rfl, by decide +kernel, by decide⟩
theorem i_Mo_laws : Cond.instanceMethod M_Mo_laws.1 ∈ e_gw := gw_t 1075 (by decide +kernel) rfl
theorem s_Mo_laws : Cond.selects M_Mo_laws.1.cls M_Mo_laws.1 M_Mo_laws.1 ∈ e_gw := gw_t 1076 (by decide +kernel) rfl
theorem k_Mo_forget : MK M_Mo_forget 0 := ⟨gw_t 1081 (by decide +kernel) rfl, gw_t 10 (by decide +kernel) rfl, by decide +kernel, by decide⟩
theorem i_Mo_forget : Cond.instanceMethod M_Mo_forget.1 ∈ e_gw := gw_t 1079 (by decide +kernel) rfl
theorem s_Mo_forget : Cond.selects M_Mo_forget.1.cls M_Mo_forget.1 M_Mo_forget.1 ∈ e_gw := gw_t 1080 (by decide +kernel) rfl
theorem k_Mo_mark : MK M_Mo_mark 2 := ⟨gw_t 1085 (by decide +kernel) rfl, gw_t 10 (by decide +kernel) rfl, by decide +kernel, by decide⟩
theorem i_Mo_mark : Cond.instanceMethod M_Mo_mark.1 ∈ e_gw := gw_t 1083 (by decide +kernel) rfl
theorem s_Mo_mark : Cond.selects M_Mo_mark.1.cls M_Mo_mark.1 M_Mo_mark.1 ∈ e_gw := gw_t 1084 (by decide +kernel) rfl
theorem k_Mo_bodiesOf : MK M_Mo_bodiesOf 1 := ⟨gw_t 1088 (by decide +kernel) rfl, gw_t 10 (by decide +kernel) rfl, by decide +kernel, by decide⟩
theorem i_Mo_bodiesOf : Cond.static M_Mo_bodiesOf.1 ∈ e_gw := gw_t 1087 (by decide +kernel) rfl
theorem k_Mo_trace : MK M_Mo_trace 0 := ⟨gw_t 1093 (by decide +kernel) rfl, gw_t 10 (by decide +kernel) rfl, by decide +kernel, by decide⟩
theorem i_Mo_trace : Cond.instanceMethod M_Mo_trace.1 ∈ e_gw := gw_t 1091 (by decide +kernel) rfl
theorem s_Mo_trace : Cond.selects M_Mo_trace.1.cls M_Mo_trace.1 M_Mo_trace.1 ∈ e_gw := gw_t 1092 (by decide +kernel) rfl
theorem k_Mo_keep : MK M_Mo_keep 1 := ⟨gw_t 1097 (by decide +kernel) rfl, gw_t 10 (by decide +kernel) rfl, by decide +kernel, by decide⟩
theorem i_Mo_keep : Cond.instanceMethod M_Mo_keep.1 ∈ e_gw := gw_t 1095 (by decide +kernel) rfl
theorem s_Mo_keep : Cond.selects M_Mo_keep.1.cls M_Mo_keep.1 M_Mo_keep.1 ∈ e_gw := gw_t 1096 (by decide +kernel) rfl
theorem k_Mo_back : MK M_Mo_back 1 := ⟨gw_t 1101 (by decide +kernel) rfl, gw_t 10 (by decide +kernel) rfl, by decide +kernel, by decide⟩
theorem i_Mo_back : Cond.instanceMethod M_Mo_back.1 ∈ e_gw := gw_t 1099 (by decide +kernel) rfl
theorem s_Mo_back : Cond.selects M_Mo_back.1.cls M_Mo_back.1 M_Mo_back.1 ∈ e_gw := gw_t 1100 (by decide +kernel) rfl
theorem k_Mo_count : MK M_Mo_count 1 := ⟨gw_t 1105 (by decide +kernel) rfl, gw_t 10 (by decide +kernel) rfl, by decide +kernel, by decide⟩
theorem i_Mo_count : Cond.instanceMethod M_Mo_count.1 ∈ e_gw := gw_t 1103 (by decide +kernel) rfl
theorem s_Mo_count : Cond.selects M_Mo_count.1.cls M_Mo_count.1 M_Mo_count.1 ∈ e_gw := gw_t 1104 (by decide +kernel) rfl
theorem l_La_9 : CL R_La 9 M_Tb_init := Or.inl (gw_t 17 (by decide +kernel) rfl)
theorem ol_Tb_1 : Cond.methodLink R_Tb 1 Lib.objectInit ∈ e_gw := gw_t 20 (by decide +kernel) rfl
theorem ol_Tx_3 : Cond.methodLink R_Tx 3 Lib.objectInit ∈ e_gw := gw_t 28 (by decide +kernel) rfl
theorem ol_To_3 : Cond.methodLink R_To 3 Lib.objectInit ∈ e_gw := gw_t 61 (by decide +kernel) rfl
theorem ol_Fl_3 : Cond.methodLink R_Fl 3 Lib.objectInit ∈ e_gw := gw_t 108 (by decide +kernel) rfl
theorem ol_Hi_3 : Cond.methodLink R_Hi 3 Lib.objectInit ∈ e_gw := gw_t 158 (by decide +kernel) rfl
theorem ol_Se_3 : Cond.methodLink R_Se 3 Lib.objectInit ∈ e_gw := gw_t 177 (by decide +kernel) rfl
theorem ol_Od_3 : Cond.methodLink R_Od 3 Lib.objectInit ∈ e_gw := gw_t 214 (by decide +kernel) rfl
theorem ol_Re_3 : Cond.methodLink R_Re 3 Lib.objectInit ∈ e_gw := gw_t 230 (by decide +kernel) rfl
theorem ol_Im_1 : Cond.methodLink R_Im 1 Lib.objectInit ∈ e_gw := gw_t 252 (by decide +kernel) rfl
theorem l_Tb_84 : CL R_Tb 84 M_Tb_startAnew := Or.inl (gw_t 268 (by decide +kernel) rfl)
theorem l_Fl_21 : CL R_Fl 21 M_Fl_thinkNothing := Or.inl (gw_t 276 (by decide +kernel) rfl)
theorem l_La_13 : CL R_La 13 M_Tb_type := Or.inl (gw_t 324 (by decide +kernel) rfl)
theorem l_Tb_87 : CL R_Tb 87 M_Tb_within := Or.inl (gw_t 328 (by decide +kernel) rfl)
theorem l_La_18 : CL R_La 18 M_Tb_clear := Or.inl (gw_t 335 (by decide +kernel) rfl)
theorem l_La_23 : CL R_La 23 M_Tb_sheds := Or.inl (gw_t 343 (by decide +kernel) rfl)
theorem l_To_40 : CL R_To 40 M_Ar_fill := Or.inl (gw_t 355 (by decide +kernel) rfl)
theorem l_Tx_34 : CL R_Tx 34 M_Tx_readToken := Or.inl (gw_t 358 (by decide +kernel) rfl)
theorem l_Tx_91 : CL R_Tx 91 M_Tx_isLetter := Or.inl (gw_t 362 (by decide +kernel) rfl)
theorem l_Tx_95 : CL R_Tx 95 M_Tx_readLetters := Or.inl (gw_t 365 (by decide +kernel) rfl)
theorem l_Tx_98 : CL R_Tx 98 M_Tx_isDigit := Or.inl (gw_t 369 (by decide +kernel) rfl)
theorem l_Tx_101 : CL R_Tx 101 M_Tx_readNumber := Or.inl (gw_t 372 (by decide +kernel) rfl)
theorem l_Tx_104 : CL R_Tx 104 M_Ma_min := Or.inl (gw_t 376 (by decide +kernel) rfl)
theorem l_Tx_40 : CL R_Tx 40 M_Tx_readItem := Or.inl (gw_t 379 (by decide +kernel) rfl)
theorem l_Tx_47 : CL R_Tx 47 M_Tx_itemBegun := Or.inl (gw_t 383 (by decide +kernel) rfl)
theorem l_Tx_67 : CL R_Tx 67 M_Tx_tell := Or.inl (gw_t 394 (by decide +kernel) rfl)
theorem cp_To_46 : Cond.methodLink R_To 46 arraycopyName ∈ e_gw := gw_t 415 (by decide +kernel) rfl
theorem l_La_27 : CL R_La 27 M_Tb_wind := Or.inl (gw_t 418 (by decide +kernel) rfl)
theorem l_La_31 : CL R_La 31 M_Tb_one := Or.inl (gw_t 427 (by decide +kernel) rfl)
theorem l_To_119 : CL R_To 119 M_To_canLift := Or.inl (gw_t 447 (by decide +kernel) rfl)
theorem l_La_36 : CL R_La 36 M_Tb_thought := Or.inl (gw_t 451 (by decide +kernel) rfl)
theorem l_La_40 : CL R_La 40 M_Tb_begins := Or.inl (gw_t 459 (by decide +kernel) rfl)
theorem l_Fl_43 : CL R_Fl 43 M_Fl_hasAboard := Or.inl (gw_t 467 (by decide +kernel) rfl)
theorem l_Fl_47 : CL R_Fl 47 M_Fl_usedBy := Or.inl (gw_t 468 (by decide +kernel) rfl)
theorem l_Hi_22 : CL R_Hi 22 M_Hi_dropOldest := Or.inl (gw_t 473 (by decide +kernel) rfl)
theorem l_Fl_51 : CL R_Fl 51 M_Fl_think := Or.inl (gw_t 485 (by decide +kernel) rfl)
theorem l_To_76 : CL R_To 76 M_To_hasPerson := Or.inl (gw_t 493 (by decide +kernel) rfl)
theorem l_To_80 : CL R_To 80 M_To_hasThought := Or.inl (gw_t 494 (by decide +kernel) rfl)
theorem l_To_83 : CL R_To 83 M_To_faded := Or.inl (gw_t 495 (by decide +kernel) rfl)
theorem l_To_56 : CL R_To 56 M_Ma_max := Or.inl (gw_t 498 (by decide +kernel) rfl)
theorem l_La_44 : CL R_La 44 M_Tb_minutes := Or.inl (gw_t 501 (by decide +kernel) rfl)
theorem l_To_90 : CL R_To 90 M_To_passMinute := Or.inl (gw_t 509 (by decide +kernel) rfl)
theorem l_To_98 : CL R_To 98 M_To_hold := Or.inl (gw_t 513 (by decide +kernel) rfl)
theorem l_To_102 : CL R_To 102 M_To_load := Or.inl (gw_t 514 (by decide +kernel) rfl)
theorem l_Fl_55 : CL R_Fl 55 M_Ma_min := Or.inl (gw_t 523 (by decide +kernel) rfl)
theorem l_Fl_61 : CL R_Fl 61 M_Ma_max := Or.inl (gw_t 524 (by decide +kernel) rfl)
theorem l_To_112 : CL R_To 112 M_To_windAt := Or.inl (gw_t 525 (by decide +kernel) rfl)
theorem l_La_48 : CL R_La 48 M_Tb_enters := Or.inl (gw_t 530 (by decide +kernel) rfl)
theorem l_Tb_180 : CL R_Tb 180 M_In_bitCount := Or.inl (gw_t 542 (by decide +kernel) rfl)
theorem l_La_52 : CL R_La 52 M_Tb_leaves := Or.inl (gw_t 548 (by decide +kernel) rfl)
theorem l_La_56 : CL R_La 56 M_Tb_undo := Or.inl (gw_t 556 (by decide +kernel) rfl)
theorem l_La_60 : CL R_La 60 M_Tb_now := Or.inl (gw_t 564 (by decide +kernel) rfl)
theorem l_To_123 : CL R_To 123 M_To_covers := Or.inl (gw_t 573 (by decide +kernel) rfl)
theorem l_To_131 : CL R_To 131 M_To_liftsOf := Or.inl (gw_t 577 (by decide +kernel) rfl)
theorem l_To_126 : CL R_To 126 M_In_bitCount := Or.inl (gw_t 578 (by decide +kernel) rfl)
theorem l_La_64 : CL R_La 64 M_Tb_after := Or.inl (gw_t 579 (by decide +kernel) rfl)
theorem l_La_68 : CL R_La 68 M_Tb_down := Or.inl (gw_t 584 (by decide +kernel) rfl)
theorem l_La_72 : CL R_La 72 M_Tb_best := Or.inl (gw_t 589 (by decide +kernel) rfl)
theorem l_Se_34 : CL R_Se 34 M_Ma_min := Or.inl (gw_t 597 (by decide +kernel) rfl)
theorem l_Se_50 : CL R_Se 50 M_Se_fillReach := Or.inl (gw_t 598 (by decide +kernel) rfl)
theorem l_Se_61 : CL R_Se 61 M_Ar_fill := Or.inl (gw_t 602 (by decide +kernel) rfl)
theorem l_Se_73 : CL R_Se 73 M_Ma_max := Or.inl (gw_t 604 (by decide +kernel) rfl)
theorem l_Se_57 : CL R_Se 57 M_Se_tryTurns := Or.inl (gw_t 606 (by decide +kernel) rfl)
theorem l_Se_76 : CL R_Se 76 M_Se_bound := Or.inl (gw_t 610 (by decide +kernel) rfl)
theorem cp_Se_79 : Cond.methodLink R_Se 79 arraycopyName ∈ e_gw := gw_t 614 (by decide +kernel) rfl
theorem l_Se_85 : CL R_Se 85 M_Se_tryTurn := Or.inl (gw_t 615 (by decide +kernel) rfl)
theorem l_La_77 : CL R_La 77 M_Tb_own := Or.inl (gw_t 622 (by decide +kernel) rfl)
theorem l_To_134 : CL R_To 134 M_To_countOwn := Or.inl (gw_t 630 (by decide +kernel) rfl)
theorem l_To_137 : CL R_To 137 M_To_ownIn := Or.inl (gw_t 634 (by decide +kernel) rfl)
theorem l_La_81 : CL R_La 81 M_Tb_odds := Or.inl (gw_t 640 (by decide +kernel) rfl)
theorem l_Od_18 : CL R_Od 18 M_Ar_fill := Or.inl (gw_t 648 (by decide +kernel) rfl)
theorem cp_Od_32 : Cond.methodLink R_Od 32 arraycopyName ∈ e_gw := gw_t 654 (by decide +kernel) rfl
theorem l_Od_38 : CL R_Od 38 M_Od_carry := Or.inl (gw_t 655 (by decide +kernel) rfl)
theorem l_Od_42 : CL R_Od 42 M_Od_common := Or.inl (gw_t 663 (by decide +kernel) rfl)
theorem l_Od_46 : CL R_Od 46 M_Ma_max := Or.inl (gw_t 667 (by decide +kernel) rfl)
theorem l_La_86 : CL R_La 86 M_Tb_saw := Or.inl (gw_t 672 (by decide +kernel) rfl)
theorem l_La_90 : CL R_La 90 M_Tb_which := Or.inl (gw_t 680 (by decide +kernel) rfl)
theorem l_Tb_249 : CL R_Tb 249 M_Tb_fitting := Or.inl (gw_t 684 (by decide +kernel) rfl)
theorem l_Tb_305 : CL R_Tb 305 M_Tb_fits := Or.inl (gw_t 688 (by decide +kernel) rfl)
theorem l_Tb_313 : CL R_Tb 313 M_Tb_heightLater := Or.inl (gw_t 692 (by decide +kernel) rfl)
theorem l_La_94 : CL R_La 94 M_Tb_look := Or.inl (gw_t 697 (by decide +kernel) rfl)
theorem l_Tb_252 : CL R_Tb 252 M_Tb_greatestAlike := Or.inl (gw_t 701 (by decide +kernel) rfl)
theorem l_Tb_322 : CL R_Tb 322 M_Ar_fill := Or.inl (gw_t 705 (by decide +kernel) rfl)
theorem l_Tb_328 : CL R_Tb 328 M_Ma_max := Or.inl (gw_t 706 (by decide +kernel) rfl)
theorem l_La_98 : CL R_La 98 M_Tb_hears := Or.inl (gw_t 707 (by decide +kernel) rfl)
theorem l_La_102 : CL R_La 102 M_Tb_laws := Or.inl (gw_t 711 (by decide +kernel) rfl)
theorem l_Tb_255 : CL R_Tb 255 M_Tb_isLaw := Or.inl (gw_t 715 (by decide +kernel) rfl)
theorem l_La_106 : CL R_La 106 M_Tb_forget := Or.inl (gw_t 720 (by decide +kernel) rfl)
theorem l_La_110 : CL R_La 110 M_Tb_mark := Or.inl (gw_t 724 (by decide +kernel) rfl)
theorem l_Tb_259 : CL R_Tb 259 M_Tb_markLover := Or.inl (gw_t 728 (by decide +kernel) rfl)
theorem l_Tb_274 : CL R_Tb 274 M_Tb_markOne := Or.inl (gw_t 733 (by decide +kernel) rfl)
theorem l_Tb_262 : CL R_Tb 262 M_Tb_markGrudge := Or.inl (gw_t 737 (by decide +kernel) rfl)
theorem l_Tb_265 : CL R_Tb 265 M_Tb_markPoet := Or.inl (gw_t 742 (by decide +kernel) rfl)
theorem l_Tb_268 : CL R_Tb 268 M_Tb_markMiser := Or.inl (gw_t 747 (by decide +kernel) rfl)
theorem l_Tb_271 : CL R_Tb 271 M_Tb_markWife := Or.inl (gw_t 752 (by decide +kernel) rfl)
theorem l_La_114 : CL R_La 114 M_Tb_keep := Or.inl (gw_t 757 (by decide +kernel) rfl)
theorem l_La_118 : CL R_La 118 M_Tb_back := Or.inl (gw_t 770 (by decide +kernel) rfl)
theorem l_La_122 : CL R_La 122 M_Tb_count := Or.inl (gw_t 778 (by decide +kernel) rfl)
theorem l_La_126 : CL R_La 126 M_Tb_trace := Or.inl (gw_t 782 (by decide +kernel) rfl)
theorem l_La_12 : CL R_La 12 M_Mo_init := Or.inl (gw_t 788 (by decide +kernel) rfl)
theorem ol_Mo_1 : Cond.methodLink R_Mo 1 Lib.objectInit ∈ e_gw := gw_t 791 (by decide +kernel) rfl
theorem l_La_17 : CL R_La 17 M_Mo_type := Or.inl (gw_t 894 (by decide +kernel) rfl)
theorem l_Mo_78 : CL R_Mo 78 M_Mo_in := Or.inl (gw_t 898 (by decide +kernel) rfl)
theorem l_La_22 : CL R_La 22 M_Mo_clear := Or.inl (gw_t 901 (by decide +kernel) rfl)
theorem l_La_26 : CL R_La 26 M_Mo_sheds := Or.inl (gw_t 905 (by decide +kernel) rfl)
theorem l_Mo_131 : CL R_Mo 131 M_Mo_read := Or.inl (gw_t 909 (by decide +kernel) rfl)
theorem l_Mo_106 : CL R_Mo 106 M_Mo_step := Or.inl (gw_t 913 (by decide +kernel) rfl)
theorem l_Mo_89 : CL R_Mo 89 M_Mo_here := Or.inl (gw_t 917 (by decide +kernel) rfl)
theorem l_Mo_123 : CL R_Mo 123 M_Mo_may := Or.inl (gw_t 921 (by decide +kernel) rfl)
theorem l_Mo_109 : CL R_Mo 109 M_Mo_due := Or.inl (gw_t 925 (by decide +kernel) rfl)
theorem l_Mo_127 : CL R_Mo 127 M_Mo_item := Or.inl (gw_t 929 (by decide +kernel) rfl)
theorem l_Mo_113 : CL R_Mo 113 M_Mo_number := Or.inl (gw_t 933 (by decide +kernel) rfl)
theorem l_La_30 : CL R_La 30 M_Mo_wind := Or.inl (gw_t 937 (by decide +kernel) rfl)
theorem l_La_35 : CL R_La 35 M_Mo_one := Or.inl (gw_t 942 (by decide +kernel) rfl)
theorem l_Mo_152 : CL R_Mo 152 M_Mo_isOne := Or.inl (gw_t 946 (by decide +kernel) rfl)
theorem l_Mo_140 : CL R_Mo 140 M_Mo_has := Or.inl (gw_t 950 (by decide +kernel) rfl)
theorem l_Mo_155 : CL R_Mo 155 M_Mo_liftsOf := Or.inl (gw_t 953 (by decide +kernel) rfl)
theorem l_La_39 : CL R_La 39 M_Mo_thought := Or.inl (gw_t 957 (by decide +kernel) rfl)
theorem l_Mo_159 : CL R_Mo 159 M_Mo_isThought := Or.inl (gw_t 961 (by decide +kernel) rfl)
theorem l_La_43 : CL R_La 43 M_Mo_begins := Or.inl (gw_t 965 (by decide +kernel) rfl)
theorem l_Mo_162 : CL R_Mo 162 M_Mo_canBegin := Or.inl (gw_t 969 (by decide +kernel) rfl)
theorem l_Mo_166 : CL R_Mo 166 M_Mo_know := Or.inl (gw_t 972 (by decide +kernel) rfl)
theorem l_Mo_169 : CL R_Mo 169 M_Mo_begin := Or.inl (gw_t 976 (by decide +kernel) rfl)
theorem l_Mo_144 : CL R_Mo 144 M_Mo_hold := Or.inl (gw_t 979 (by decide +kernel) rfl)
theorem l_La_47 : CL R_La 47 M_Mo_minutes := Or.inl (gw_t 983 (by decide +kernel) rfl)
theorem l_Mo_173 : CL R_Mo 173 M_Mo_passOn := Or.inl (gw_t 987 (by decide +kernel) rfl)
theorem l_Mo_148 : CL R_Mo 148 M_Mo_weights := Or.inl (gw_t 991 (by decide +kernel) rfl)
theorem l_La_51 : CL R_La 51 M_Mo_enters := Or.inl (gw_t 995 (by decide +kernel) rfl)
theorem l_Mo_177 : CL R_Mo 177 M_Mo_isAtRest := Or.inl (gw_t 999 (by decide +kernel) rfl)
theorem l_Mo_181 : CL R_Mo 181 M_Mo_bitsOf := Or.inl (gw_t 1003 (by decide +kernel) rfl)
theorem l_La_55 : CL R_La 55 M_Mo_leaves := Or.inl (gw_t 1006 (by decide +kernel) rfl)
theorem l_La_59 : CL R_La 59 M_Mo_undo := Or.inl (gw_t 1010 (by decide +kernel) rfl)
theorem l_La_63 : CL R_La 63 M_Mo_now := Or.inl (gw_t 1014 (by decide +kernel) rfl)
theorem l_Mo_184 : CL R_Mo 184 M_Mo_cover := Or.inl (gw_t 1018 (by decide +kernel) rfl)
theorem l_La_67 : CL R_La 67 M_Mo_after := Or.inl (gw_t 1022 (by decide +kernel) rfl)
theorem l_Mo_187 : CL R_Mo 187 M_Mo_take := Or.inl (gw_t 1026 (by decide +kernel) rfl)
theorem l_La_71 : CL R_La 71 M_Mo_down := Or.inl (gw_t 1030 (by decide +kernel) rfl)
theorem l_La_76 : CL R_La 76 M_Mo_best := Or.inl (gw_t 1034 (by decide +kernel) rfl)
theorem l_Mo_190 : CL R_Mo 190 M_Mo_goBy := Or.inl (gw_t 1038 (by decide +kernel) rfl)
theorem l_La_80 : CL R_La 80 M_Mo_own := Or.inl (gw_t 1042 (by decide +kernel) rfl)
theorem l_La_85 : CL R_La 85 M_Mo_odds := Or.inl (gw_t 1046 (by decide +kernel) rfl)
theorem l_La_89 : CL R_La 89 M_Mo_saw := Or.inl (gw_t 1050 (by decide +kernel) rfl)
theorem l_La_93 : CL R_La 93 M_Mo_which := Or.inl (gw_t 1054 (by decide +kernel) rfl)
theorem l_Mo_198 : CL R_Mo 198 M_Mo_whichBy := Or.inl (gw_t 1058 (by decide +kernel) rfl)
theorem l_Mo_194 : CL R_Mo 194 M_Mo_heightBy := Or.inl (gw_t 1062 (by decide +kernel) rfl)
theorem l_La_97 : CL R_La 97 M_Mo_look := Or.inl (gw_t 1066 (by decide +kernel) rfl)
theorem l_La_101 : CL R_La 101 M_Mo_hears := Or.inl (gw_t 1070 (by decide +kernel) rfl)
theorem l_La_105 : CL R_La 105 M_Mo_laws := Or.inl (gw_t 1074 (by decide +kernel) rfl)
theorem l_La_109 : CL R_La 109 M_Mo_forget := Or.inl (gw_t 1078 (by decide +kernel) rfl)
theorem l_La_113 : CL R_La 113 M_Mo_mark := Or.inl (gw_t 1082 (by decide +kernel) rfl)
theorem l_Mo_201 : CL R_Mo 201 M_Mo_bodiesOf := Or.inl (gw_t 1086 (by decide +kernel) rfl)
theorem l_La_130 : CL R_La 130 M_Mo_trace := Or.inl (gw_t 1090 (by decide +kernel) rfl)
theorem l_La_117 : CL R_La 117 M_Mo_keep := Or.inl (gw_t 1094 (by decide +kernel) rfl)
theorem l_La_121 : CL R_La 121 M_Mo_back := Or.inl (gw_t 1098 (by decide +kernel) rfl)
theorem l_La_125 : CL R_La 125 M_Mo_count := Or.inl (gw_t 1102 (by decide +kernel) rfl)
theorem l_Tb_9 : CL R_Tb 9 M_Tx_init := Or.inr ⟨"ThoughtBalloon", nw_t 25 (by decide +kernel) rfl⟩
theorem l_Tb_18 : CL R_Tb 18 M_To_init := Or.inr ⟨"ThoughtBalloon", nw_t 58 (by decide +kernel) rfl⟩
theorem l_Tb_28 : CL R_Tb 28 M_Fl_init := Or.inr ⟨"ThoughtBalloon", nw_t 105 (by decide +kernel) rfl⟩
theorem l_Tb_38 : CL R_Tb 38 M_Hi_init := Or.inr ⟨"ThoughtBalloon", nw_t 155 (by decide +kernel) rfl⟩
theorem l_Hi_21 : CL R_Hi 21 M_Fl_init := Or.inr ⟨"ThoughtBalloon", nw_t 161 (by decide +kernel) rfl⟩
theorem l_Tb_51 : CL R_Tb 51 M_Se_init := Or.inr ⟨"ThoughtBalloon", nw_t 174 (by decide +kernel) rfl⟩
theorem l_Se_33 : CL R_Se 33 M_Fl_init := Or.inr ⟨"ThoughtBalloon", nw_t 181 (by decide +kernel) rfl⟩
theorem l_Tb_60 : CL R_Tb 60 M_Od_init := Or.inr ⟨"ThoughtBalloon", nw_t 211 (by decide +kernel) rfl⟩
theorem l_Tb_67 : CL R_Tb 67 M_Re_init := Or.inr ⟨"ThoughtBalloon", nw_t 227 (by decide +kernel) rfl⟩
theorem l_Tb_83 : CL R_Tb 83 M_Im_init := Or.inr ⟨"ThoughtBalloon", nw_t 249 (by decide +kernel) rfl⟩
theorem l_Im_9 : CL R_Im 9 M_Fl_init := Or.inr ⟨"ThoughtBalloon", nw_t 254 (by decide +kernel) rfl⟩
theorem l_Im_18 : CL R_Im 18 M_Hi_init := Or.inr ⟨"ThoughtBalloon", nw_t 256 (by decide +kernel) rfl⟩
theorem l_Tb_303 : CL R_Tb 303 M_Fl_start := Or.inr ⟨"ThoughtBalloon", nw_t 272 (by decide +kernel) rfl⟩
theorem l_Tb_258 : CL R_Tb 258 M_Re_drop := Or.inr ⟨"ThoughtBalloon", nw_t 280 (by decide +kernel) rfl⟩
theorem l_Tb_91 : CL R_Tb 91 M_Tx_add := Or.inr ⟨"ThoughtBalloon", nw_t 331 (by decide +kernel) rfl⟩
theorem l_Tb_95 : CL R_Tb 95 M_Tx_drop := Or.inr ⟨"ThoughtBalloon", nw_t 339 (by decide +kernel) rfl⟩
theorem l_Tb_99 : CL R_Tb 99 M_Tx_readInto := Or.inr ⟨"ThoughtBalloon", nw_t 347 (by decide +kernel) rfl⟩
theorem l_Tx_22 : CL R_Tx 22 M_To_tellNothing := Or.inr ⟨"ThoughtBalloon", nw_t 351 (by decide +kernel) rfl⟩
theorem l_Tx_63 : CL R_Tx 63 M_Tb_within := Or.inr ⟨"ThoughtBalloon", nw_t 393 (by decide +kernel) rfl⟩
theorem l_Tx_77 : CL R_Tx 77 M_To_tellWind := Or.inr ⟨"ThoughtBalloon", nw_t 398 (by decide +kernel) rfl⟩
theorem l_To_52 : CL R_To 52 M_Tb_within := Or.inr ⟨"ThoughtBalloon", nw_t 402 (by decide +kernel) rfl⟩
theorem l_Tx_81 : CL R_Tx 81 M_To_tellPerson := Or.inr ⟨"ThoughtBalloon", nw_t 403 (by decide +kernel) rfl⟩
theorem l_Tx_85 : CL R_Tx 85 M_To_tellThought := Or.inr ⟨"ThoughtBalloon", nw_t 407 (by decide +kernel) rfl⟩
theorem l_Tb_103 : CL R_Tb 103 M_To_copyFrom := Or.inr ⟨"ThoughtBalloon", nw_t 411 (by decide +kernel) rfl⟩
theorem l_Tb_106 : CL R_Tb 106 M_To_windAt := Or.inr ⟨"ThoughtBalloon", nw_t 422 (by decide +kernel) rfl⟩
theorem l_Tb_110 : CL R_Tb 110 M_To_hasPerson := Or.inr ⟨"ThoughtBalloon", nw_t 431 (by decide +kernel) rfl⟩
theorem l_Tb_120 : CL R_Tb 120 M_Fl_hasAboard := Or.inr ⟨"ThoughtBalloon", nw_t 435 (by decide +kernel) rfl⟩
theorem l_Tb_123 : CL R_Tb 123 M_Fl_usedBy := Or.inr ⟨"ThoughtBalloon", nw_t 439 (by decide +kernel) rfl⟩
theorem l_Tb_126 : CL R_Tb 126 M_To_liftsOf := Or.inr ⟨"ThoughtBalloon", nw_t 443 (by decide +kernel) rfl⟩
theorem l_Tb_129 : CL R_Tb 129 M_To_hasThought := Or.inr ⟨"ThoughtBalloon", nw_t 455 (by decide +kernel) rfl⟩
theorem l_Tb_142 : CL R_Tb 142 M_Fl_mayBegin := Or.inr ⟨"ThoughtBalloon", nw_t 463 (by decide +kernel) rfl⟩
theorem l_Tb_146 : CL R_Tb 146 M_Hi_push := Or.inr ⟨"ThoughtBalloon", nw_t 469 (by decide +kernel) rfl⟩
theorem l_Hi_25 : CL R_Hi 25 M_Fl_copyFrom := Or.inr ⟨"ThoughtBalloon", nw_t 477 (by decide +kernel) rfl⟩
theorem l_Tb_150 : CL R_Tb 150 M_Fl_begin := Or.inr ⟨"ThoughtBalloon", nw_t 481 (by decide +kernel) rfl⟩
theorem l_Tb_154 : CL R_Tb 154 M_To_hold := Or.inr ⟨"ThoughtBalloon", nw_t 489 (by decide +kernel) rfl⟩
theorem l_Tb_162 : CL R_Tb 162 M_To_passMinutes := Or.inr ⟨"ThoughtBalloon", nw_t 505 (by decide +kernel) rfl⟩
theorem l_To_87 : CL R_To 87 M_Fl_hasAboard := Or.inr ⟨"ThoughtBalloon", nw_t 518 (by decide +kernel) rfl⟩
theorem l_To_105 : CL R_To 105 M_Fl_climb := Or.inr ⟨"ThoughtBalloon", nw_t 519 (by decide +kernel) rfl⟩
theorem l_To_116 : CL R_To 116 M_Fl_drift := Or.inr ⟨"ThoughtBalloon", nw_t 526 (by decide +kernel) rfl⟩
theorem l_Tb_169 : CL R_Tb 169 M_Fl_mayBeBoarded := Or.inr ⟨"ThoughtBalloon", nw_t 534 (by decide +kernel) rfl⟩
theorem l_Tb_173 : CL R_Tb 173 M_Fl_takeIn := Or.inr ⟨"ThoughtBalloon", nw_t 538 (by decide +kernel) rfl⟩
theorem l_Tb_185 : CL R_Tb 185 M_Fl_letOut := Or.inr ⟨"ThoughtBalloon", nw_t 552 (by decide +kernel) rfl⟩
theorem l_Tb_191 : CL R_Tb 191 M_Hi_pop := Or.inr ⟨"ThoughtBalloon", nw_t 560 (by decide +kernel) rfl⟩
theorem l_Tb_203 : CL R_Tb 203 M_To_load := Or.inr ⟨"ThoughtBalloon", nw_t 568 (by decide +kernel) rfl⟩
theorem l_Tb_206 : CL R_Tb 206 M_To_cover := Or.inr ⟨"ThoughtBalloon", nw_t 569 (by decide +kernel) rfl⟩
theorem l_Tb_209 : CL R_Tb 209 M_Fl_copyFrom := Or.inr ⟨"ThoughtBalloon", nw_t 583 (by decide +kernel) rfl⟩
theorem l_Tb_211 : CL R_Tb 211 M_To_passMinute := Or.inr ⟨"ThoughtBalloon", nw_t 588 (by decide +kernel) rfl⟩
theorem l_Tb_214 : CL R_Tb 214 M_Se_run := Or.inr ⟨"ThoughtBalloon", nw_t 593 (by decide +kernel) rfl⟩
theorem l_Se_67 : CL R_Se 67 M_To_windAt := Or.inr ⟨"ThoughtBalloon", nw_t 603 (by decide +kernel) rfl⟩
theorem l_Se_53 : CL R_Se 53 M_Fl_copyFrom := Or.inr ⟨"ThoughtBalloon", nw_t 605 (by decide +kernel) rfl⟩
theorem l_Se_103 : CL R_Se 103 M_Fl_begin := Or.inr ⟨"ThoughtBalloon", nw_t 619 (by decide +kernel) rfl⟩
theorem l_Se_107 : CL R_Se 107 M_To_passMinute := Or.inr ⟨"ThoughtBalloon", nw_t 620 (by decide +kernel) rfl⟩
theorem l_Se_99 : CL R_Se 99 M_Fl_mayBegin := Or.inr ⟨"ThoughtBalloon", nw_t 621 (by decide +kernel) rfl⟩
theorem l_Tb_224 : CL R_Tb 224 M_To_firstOwnWay := Or.inr ⟨"ThoughtBalloon", nw_t 626 (by decide +kernel) rfl⟩
theorem l_Tb_227 : CL R_Tb 227 M_To_countOwn := Or.inr ⟨"ThoughtBalloon", nw_t 638 (by decide +kernel) rfl⟩
theorem l_Tb_230 : CL R_Tb 230 M_To_ownIn := Or.inr ⟨"ThoughtBalloon", nw_t 639 (by decide +kernel) rfl⟩
theorem l_Tb_234 : CL R_Tb 234 M_Od_startAt := Or.inr ⟨"ThoughtBalloon", nw_t 644 (by decide +kernel) rfl⟩
theorem l_Od_24 : CL R_Od 24 M_Tb_within := Or.inr ⟨"ThoughtBalloon", nw_t 649 (by decide +kernel) rfl⟩
theorem l_Tb_237 : CL R_Tb 237 M_Od_spread := Or.inr ⟨"ThoughtBalloon", nw_t 650 (by decide +kernel) rfl⟩
theorem l_Tb_240 : CL R_Tb 240 M_Od_upper := Or.inr ⟨"ThoughtBalloon", nw_t 659 (by decide +kernel) rfl⟩
theorem l_Tb_243 : CL R_Tb 243 M_Od_lower := Or.inr ⟨"ThoughtBalloon", nw_t 668 (by decide +kernel) rfl⟩
theorem l_Tb_246 : CL R_Tb 246 M_Re_add := Or.inr ⟨"ThoughtBalloon", nw_t 676 (by decide +kernel) rfl⟩
theorem l_Tb_319 : CL R_Tb 319 M_Fl_think := Or.inr ⟨"ThoughtBalloon", nw_t 696 (by decide +kernel) rfl⟩
theorem l_Tb_333 : CL R_Tb 333 M_To_faded := Or.inr ⟨"ThoughtBalloon", nw_t 719 (by decide +kernel) rfl⟩
theorem l_Tb_277 : CL R_Tb 277 M_Im_take := Or.inr ⟨"ThoughtBalloon", nw_t 761 (by decide +kernel) rfl⟩
theorem l_Im_27 : CL R_Im 27 M_Fl_copyFrom := Or.inr ⟨"ThoughtBalloon", nw_t 765 (by decide +kernel) rfl⟩
theorem l_Im_31 : CL R_Im 31 M_Hi_copyFrom := Or.inr ⟨"ThoughtBalloon", nw_t 766 (by decide +kernel) rfl⟩
theorem l_Tb_284 : CL R_Tb 284 M_Im_give := Or.inr ⟨"ThoughtBalloon", nw_t 774 (by decide +kernel) rfl⟩
theorem cl_La_7 : Cond.classLink R_La 7 R_Tb ∈ e_gw := gw_t 15 (by decide +kernel) rfl
theorem cl_Tb_7 : Cond.classLink R_Tb 7 R_Tx ∈ e_gw := gw_t 23 (by decide +kernel) rfl
theorem cl_Tb_16 : Cond.classLink R_Tb 16 R_To ∈ e_gw := gw_t 56 (by decide +kernel) rfl
theorem cl_Tb_26 : Cond.classLink R_Tb 26 R_Fl ∈ e_gw := gw_t 103 (by decide +kernel) rfl
theorem cl_Tb_36 : Cond.classLink R_Tb 36 R_Hi ∈ e_gw := gw_t 153 (by decide +kernel) rfl
theorem cl_Hi_9 : Cond.classLink R_Hi 9 R_Fl ∈ e_gw := gw_t 159 (by decide +kernel) rfl
theorem cl_Tb_43 : Cond.classLink R_Tb 43 R_Im ∈ e_gw := gw_t 170 (by decide +kernel) rfl
theorem cl_Tb_49 : Cond.classLink R_Tb 49 R_Se ∈ e_gw := gw_t 172 (by decide +kernel) rfl
theorem cl_Se_9 : Cond.classLink R_Se 9 R_Fl ∈ e_gw := gw_t 178 (by decide +kernel) rfl
theorem cl_Se_24 : Cond.classLink R_Se 24 "[[I" ∈ e_gw := gw_t 179 (by decide +kernel) rfl
theorem cl_Tb_58 : Cond.classLink R_Tb 58 R_Od ∈ e_gw := gw_t 209 (by decide +kernel) rfl
theorem cl_Tb_65 : Cond.classLink R_Tb 65 R_Re ∈ e_gw := gw_t 225 (by decide +kernel) rfl
theorem cl_Im_7 : Cond.classLink R_Im 7 R_Fl ∈ e_gw := gw_t 253 (by decide +kernel) rfl
theorem cl_Im_16 : Cond.classLink R_Im 16 R_Hi ∈ e_gw := gw_t 255 (by decide +kernel) rfl
theorem cl_La_10 : Cond.classLink R_La 10 R_Mo ∈ e_gw := gw_t 786 (by decide +kernel) rfl
theorem in_Tb : Cond.instantiable R_Tb 13 ∈ e_gw := gw_t 16 (by decide +kernel) rfl
theorem in_Tx : Cond.instantiable R_Tx 8 ∈ e_gw := gw_t 24 (by decide +kernel) rfl
theorem in_To : Cond.instantiable R_To 9 ∈ e_gw := gw_t 57 (by decide +kernel) rfl
theorem in_Fl : Cond.instantiable R_Fl 9 ∈ e_gw := gw_t 104 (by decide +kernel) rfl
theorem in_Hi : Cond.instantiable R_Hi 2 ∈ e_gw := gw_t 154 (by decide +kernel) rfl
theorem in_Se : Cond.instantiable R_Se 8 ∈ e_gw := gw_t 173 (by decide +kernel) rfl
theorem in_Od : Cond.instantiable R_Od 3 ∈ e_gw := gw_t 210 (by decide +kernel) rfl
theorem in_Re : Cond.instantiable R_Re 4 ∈ e_gw := gw_t 226 (by decide +kernel) rfl
theorem in_Im : Cond.instantiable R_Im 3 ∈ e_gw := gw_t 248 (by decide +kernel) rfl
theorem in_Mo : Cond.instantiable R_Mo 33 ∈ e_gw := gw_t 787 (by decide +kernel) rfl
theorem it_Fl : Cond.initialized R_Fl ∈ e_gw := gw_t 4 (by decide +kernel) rfl
theorem it_Hi : Cond.initialized R_Hi ∈ e_gw := gw_t 5 (by decide +kernel) rfl
theorem it_Im : Cond.initialized R_Im ∈ e_gw := gw_t 9 (by decide +kernel) rfl
theorem it_Od : Cond.initialized R_Od ∈ e_gw := gw_t 7 (by decide +kernel) rfl
theorem it_Re : Cond.initialized R_Re ∈ e_gw := gw_t 8 (by decide +kernel) rfl
theorem it_Se : Cond.initialized R_Se ∈ e_gw := gw_t 6 (by decide +kernel) rfl
theorem it_Tx : Cond.initialized R_Tx ∈ e_gw := gw_t 2 (by decide +kernel) rfl
theorem it_To : Cond.initialized R_To ∈ e_gw := gw_t 3 (by decide +kernel) rfl
theorem it_Tb : Cond.initialized R_Tb ∈ e_gw := gw_t 1 (by decide +kernel) rfl
theorem it_Mo : Cond.initialized R_Mo ∈ e_gw := gw_t 10 (by decide +kernel) rfl
theorem ck_Tb_109 : Cond.constant R_Tb 109 (-1000000) ∈ e_gw := gw_t 426 (by decide +kernel) rfl
theorem ck_In_265 : Cond.constant R_In 265 (1431655765) ∈ e_gw := gw_t 545 (by decide +kernel) rfl
theorem ck_In_266 : Cond.constant R_In 266 (858993459) ∈ e_gw := gw_t 546 (by decide +kernel) rfl
theorem ck_In_267 : Cond.constant R_In 267 (252645135) ∈ e_gw := gw_t 547 (by decide +kernel) rfl
theorem ck_Mo_151 : Cond.constant R_Mo 151 (-1000000) ∈ e_gw := gw_t 941 (by decide +kernel) rfl
theorem ck_Tb_336 : Cond.constantLong R_Tb 336 (10) ∈ e_gw := gw_t 732 (by decide +kernel) rfl
theorem ck_Tb_338 : Cond.constantLong R_Tb 338 (100) ∈ e_gw := gw_t 741 (by decide +kernel) rfl
theorem ck_Tb_340 : Cond.constantLong R_Tb 340 (1000) ∈ e_gw := gw_t 746 (by decide +kernel) rfl
theorem ck_Tb_342 : Cond.constantLong R_Tb 342 (10000) ∈ e_gw := gw_t 751 (by decide +kernel) rfl
theorem ck_Tb_344 : Cond.constantLong R_Tb 344 (100000) ∈ e_gw := gw_t 756 (by decide +kernel) rfl
theorem ck_Mo_208 : Cond.constantLong R_Mo 208 (10) ∈ e_gw := gw_t 1089 (by decide +kernel) rfl
theorem ac_int : Cond.arrayClass .int ∈ e_gw := gw_t 55 (by decide +kernel) rfl
theorem ac_byte : Cond.arrayClass .byte ∈ e_gw := gw_t 892 (by decide +kernel) rfl
theorem ac_boolean : Cond.arrayClass .boolean ∈ e_gw := gw_t 893 (by decide +kernel) rfl
theorem oi_i : Cond.instanceMethod Lib.objectInit ∈ e_gw := gw_t 21 (by decide +kernel) rfl
theorem oi_c : Cond.code Lib.objectInit ⟨#[0xb1]⟩ 1 none ∈ e_gw := gw_t 22 (by decide +kernel) rfl
theorem cp_w : Cond.native arraycopyName ∈ e_gw ∧ Cond.static arraycopyName ∈ e_gw ∧ Cond.initialized "java/lang/System" ∈ e_gw := ⟨gw_t 417 (by decide +kernel) rfl, gw_t 416 (by decide +kernel) rfl, gw_t 13 (by decide +kernel) rfl⟩
end
