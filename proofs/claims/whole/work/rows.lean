section
-- ===== PART A: goes FIRST, ahead of the names: the tables' words, and 'selects' of the private methods out of them =====
/-- a private method of a class that the tables say can be made, by its rows of tables_1 -/
def lw_okq (q : MethodName × Nat) : Prop := (q.1.cls ≠ "java/lang/invoke/MethodHandle" ∧ q.1.cls ≠ "java/lang/invoke/VarHandle") ∧ Cond.instantiable q.1.cls q.2 ∈ tables_1 ∧ Cond.privateMethod q.1 ∈ tables_1 ∧ Cond.instanceMethod q.1 ∈ tables_1
theorem lw_p0 : lw_okq (⟨"ThoughtBalloon", "startAnew", "()V"⟩, 13) := ⟨⟨by decide +kernel, by decide +kernel⟩, List.mem_of_getElem? (i := 16) (by decide +kernel), List.mem_of_getElem? (i := 269) (by decide +kernel), List.mem_of_getElem? (i := 270) (by decide +kernel)⟩
theorem lw_p1 : lw_okq (⟨"ThoughtBalloon$Flight", "start", "(II)V"⟩, 9) := ⟨⟨by decide +kernel, by decide +kernel⟩, List.mem_of_getElem? (i := 104) (by decide +kernel), List.mem_of_getElem? (i := 273) (by decide +kernel), List.mem_of_getElem? (i := 274) (by decide +kernel)⟩
theorem lw_p2 : lw_okq (⟨"ThoughtBalloon$Flight", "thinkNothing", "()V"⟩, 9) := ⟨⟨by decide +kernel, by decide +kernel⟩, List.mem_of_getElem? (i := 104) (by decide +kernel), List.mem_of_getElem? (i := 277) (by decide +kernel), List.mem_of_getElem? (i := 278) (by decide +kernel)⟩
theorem lw_p3 : lw_okq (⟨"ThoughtBalloon$Reports", "drop", "()I"⟩, 4) := ⟨⟨by decide +kernel, by decide +kernel⟩, List.mem_of_getElem? (i := 226) (by decide +kernel), List.mem_of_getElem? (i := 281) (by decide +kernel), List.mem_of_getElem? (i := 282) (by decide +kernel)⟩
theorem lw_p4 : lw_okq (⟨"ThoughtBalloon$Text", "add", "(I)I"⟩, 8) := ⟨⟨by decide +kernel, by decide +kernel⟩, List.mem_of_getElem? (i := 24) (by decide +kernel), List.mem_of_getElem? (i := 332) (by decide +kernel), List.mem_of_getElem? (i := 333) (by decide +kernel)⟩
theorem lw_p5 : lw_okq (⟨"ThoughtBalloon$Text", "drop", "()I"⟩, 8) := ⟨⟨by decide +kernel, by decide +kernel⟩, List.mem_of_getElem? (i := 24) (by decide +kernel), List.mem_of_getElem? (i := 340) (by decide +kernel), List.mem_of_getElem? (i := 341) (by decide +kernel)⟩
theorem lw_p6 : lw_okq (⟨"ThoughtBalloon$Text", "readInto", "(LThoughtBalloon$Told;)I"⟩, 8) := ⟨⟨by decide +kernel, by decide +kernel⟩, List.mem_of_getElem? (i := 24) (by decide +kernel), List.mem_of_getElem? (i := 348) (by decide +kernel), List.mem_of_getElem? (i := 349) (by decide +kernel)⟩
theorem lw_p7 : lw_okq (⟨"ThoughtBalloon$Told", "tellNothing", "()V"⟩, 9) := ⟨⟨by decide +kernel, by decide +kernel⟩, List.mem_of_getElem? (i := 57) (by decide +kernel), List.mem_of_getElem? (i := 352) (by decide +kernel), List.mem_of_getElem? (i := 353) (by decide +kernel)⟩
theorem lw_p8 : lw_okq (⟨"ThoughtBalloon$Text", "readToken", "()V"⟩, 8) := ⟨⟨by decide +kernel, by decide +kernel⟩, List.mem_of_getElem? (i := 24) (by decide +kernel), List.mem_of_getElem? (i := 359) (by decide +kernel), List.mem_of_getElem? (i := 360) (by decide +kernel)⟩
theorem lw_p9 : lw_okq (⟨"ThoughtBalloon$Text", "readLetters", "()V"⟩, 8) := ⟨⟨by decide +kernel, by decide +kernel⟩, List.mem_of_getElem? (i := 24) (by decide +kernel), List.mem_of_getElem? (i := 366) (by decide +kernel), List.mem_of_getElem? (i := 367) (by decide +kernel)⟩
theorem lw_p10 : lw_okq (⟨"ThoughtBalloon$Text", "readNumber", "()V"⟩, 8) := ⟨⟨by decide +kernel, by decide +kernel⟩, List.mem_of_getElem? (i := 24) (by decide +kernel), List.mem_of_getElem? (i := 373) (by decide +kernel), List.mem_of_getElem? (i := 374) (by decide +kernel)⟩
theorem lw_p11 : lw_okq (⟨"ThoughtBalloon$Text", "readItem", "(LThoughtBalloon$Told;)Z"⟩, 8) := ⟨⟨by decide +kernel, by decide +kernel⟩, List.mem_of_getElem? (i := 24) (by decide +kernel), List.mem_of_getElem? (i := 380) (by decide +kernel), List.mem_of_getElem? (i := 381) (by decide +kernel)⟩
theorem lw_p12 : lw_okq (⟨"ThoughtBalloon$Text", "itemBegun", "(LThoughtBalloon$Told;)I"⟩, 8) := ⟨⟨by decide +kernel, by decide +kernel⟩, List.mem_of_getElem? (i := 24) (by decide +kernel), List.mem_of_getElem? (i := 384) (by decide +kernel), List.mem_of_getElem? (i := 385) (by decide +kernel)⟩
theorem lw_p13 : lw_okq (⟨"ThoughtBalloon$Text", "tell", "(LThoughtBalloon$Told;I)V"⟩, 8) := ⟨⟨by decide +kernel, by decide +kernel⟩, List.mem_of_getElem? (i := 24) (by decide +kernel), List.mem_of_getElem? (i := 395) (by decide +kernel), List.mem_of_getElem? (i := 396) (by decide +kernel)⟩
theorem lw_p14 : lw_okq (⟨"ThoughtBalloon$Told", "tellWind", "(II)V"⟩, 9) := ⟨⟨by decide +kernel, by decide +kernel⟩, List.mem_of_getElem? (i := 57) (by decide +kernel), List.mem_of_getElem? (i := 399) (by decide +kernel), List.mem_of_getElem? (i := 400) (by decide +kernel)⟩
theorem lw_p15 : lw_okq (⟨"ThoughtBalloon$Told", "tellPerson", "(III)V"⟩, 9) := ⟨⟨by decide +kernel, by decide +kernel⟩, List.mem_of_getElem? (i := 57) (by decide +kernel), List.mem_of_getElem? (i := 404) (by decide +kernel), List.mem_of_getElem? (i := 405) (by decide +kernel)⟩
def lw_privs_1 : List (MethodName × Nat) := [(⟨"ThoughtBalloon", "startAnew", "()V"⟩, 13), (⟨"ThoughtBalloon$Flight", "start", "(II)V"⟩, 9), (⟨"ThoughtBalloon$Flight", "thinkNothing", "()V"⟩, 9), (⟨"ThoughtBalloon$Reports", "drop", "()I"⟩, 4), (⟨"ThoughtBalloon$Text", "add", "(I)I"⟩, 8), (⟨"ThoughtBalloon$Text", "drop", "()I"⟩, 8), (⟨"ThoughtBalloon$Text", "readInto", "(LThoughtBalloon$Told;)I"⟩, 8), (⟨"ThoughtBalloon$Told", "tellNothing", "()V"⟩, 9), (⟨"ThoughtBalloon$Text", "readToken", "()V"⟩, 8), (⟨"ThoughtBalloon$Text", "readLetters", "()V"⟩, 8), (⟨"ThoughtBalloon$Text", "readNumber", "()V"⟩, 8), (⟨"ThoughtBalloon$Text", "readItem", "(LThoughtBalloon$Told;)Z"⟩, 8), (⟨"ThoughtBalloon$Text", "itemBegun", "(LThoughtBalloon$Told;)I"⟩, 8), (⟨"ThoughtBalloon$Text", "tell", "(LThoughtBalloon$Told;I)V"⟩, 8), (⟨"ThoughtBalloon$Told", "tellWind", "(II)V"⟩, 9), (⟨"ThoughtBalloon$Told", "tellPerson", "(III)V"⟩, 9)]
theorem lw_r1 : ∀ q ∈ lw_privs_1, lw_okq q := List.forall_mem_cons.mpr ⟨lw_p0, List.forall_mem_cons.mpr ⟨lw_p1, List.forall_mem_cons.mpr ⟨lw_p2, List.forall_mem_cons.mpr ⟨lw_p3, List.forall_mem_cons.mpr ⟨lw_p4, List.forall_mem_cons.mpr ⟨lw_p5, List.forall_mem_cons.mpr ⟨lw_p6, List.forall_mem_cons.mpr ⟨lw_p7, List.forall_mem_cons.mpr ⟨lw_p8, List.forall_mem_cons.mpr ⟨lw_p9, List.forall_mem_cons.mpr ⟨lw_p10, List.forall_mem_cons.mpr ⟨lw_p11, List.forall_mem_cons.mpr ⟨lw_p12, List.forall_mem_cons.mpr ⟨lw_p13, List.forall_mem_cons.mpr ⟨lw_p14, List.forall_mem_cons.mpr ⟨lw_p15, fun _ h => absurd h List.not_mem_nil⟩⟩⟩⟩⟩⟩⟩⟩⟩⟩⟩⟩⟩⟩⟩⟩
theorem lw_p16 : lw_okq (⟨"ThoughtBalloon$Told", "tellThought", "(II)V"⟩, 9) := ⟨⟨by decide +kernel, by decide +kernel⟩, List.mem_of_getElem? (i := 57) (by decide +kernel), List.mem_of_getElem? (i := 408) (by decide +kernel), List.mem_of_getElem? (i := 409) (by decide +kernel)⟩
theorem lw_p17 : lw_okq (⟨"ThoughtBalloon$Told", "copyFrom", "(LThoughtBalloon$Told;)V"⟩, 9) := ⟨⟨by decide +kernel, by decide +kernel⟩, List.mem_of_getElem? (i := 57) (by decide +kernel), List.mem_of_getElem? (i := 412) (by decide +kernel), List.mem_of_getElem? (i := 413) (by decide +kernel)⟩
theorem lw_p18 : lw_okq (⟨"ThoughtBalloon$Told", "windAt", "(I)I"⟩, 9) := ⟨⟨by decide +kernel, by decide +kernel⟩, List.mem_of_getElem? (i := 57) (by decide +kernel), List.mem_of_getElem? (i := 423) (by decide +kernel), List.mem_of_getElem? (i := 424) (by decide +kernel)⟩
theorem lw_p19 : lw_okq (⟨"ThoughtBalloon$Told", "hasPerson", "(I)Z"⟩, 9) := ⟨⟨by decide +kernel, by decide +kernel⟩, List.mem_of_getElem? (i := 57) (by decide +kernel), List.mem_of_getElem? (i := 432) (by decide +kernel), List.mem_of_getElem? (i := 433) (by decide +kernel)⟩
theorem lw_p20 : lw_okq (⟨"ThoughtBalloon$Flight", "hasAboard", "(I)Z"⟩, 9) := ⟨⟨by decide +kernel, by decide +kernel⟩, List.mem_of_getElem? (i := 104) (by decide +kernel), List.mem_of_getElem? (i := 436) (by decide +kernel), List.mem_of_getElem? (i := 437) (by decide +kernel)⟩
theorem lw_p21 : lw_okq (⟨"ThoughtBalloon$Flight", "usedBy", "(I)I"⟩, 9) := ⟨⟨by decide +kernel, by decide +kernel⟩, List.mem_of_getElem? (i := 104) (by decide +kernel), List.mem_of_getElem? (i := 440) (by decide +kernel), List.mem_of_getElem? (i := 441) (by decide +kernel)⟩
theorem lw_p22 : lw_okq (⟨"ThoughtBalloon$Told", "liftsOf", "(I)I"⟩, 9) := ⟨⟨by decide +kernel, by decide +kernel⟩, List.mem_of_getElem? (i := 57) (by decide +kernel), List.mem_of_getElem? (i := 444) (by decide +kernel), List.mem_of_getElem? (i := 445) (by decide +kernel)⟩
theorem lw_p23 : lw_okq (⟨"ThoughtBalloon$Told", "canLift", "(II)Z"⟩, 9) := ⟨⟨by decide +kernel, by decide +kernel⟩, List.mem_of_getElem? (i := 57) (by decide +kernel), List.mem_of_getElem? (i := 448) (by decide +kernel), List.mem_of_getElem? (i := 449) (by decide +kernel)⟩
theorem lw_p24 : lw_okq (⟨"ThoughtBalloon$Told", "hasThought", "(I)Z"⟩, 9) := ⟨⟨by decide +kernel, by decide +kernel⟩, List.mem_of_getElem? (i := 57) (by decide +kernel), List.mem_of_getElem? (i := 456) (by decide +kernel), List.mem_of_getElem? (i := 457) (by decide +kernel)⟩
theorem lw_p25 : lw_okq (⟨"ThoughtBalloon$Flight", "mayBegin", "(II)Z"⟩, 9) := ⟨⟨by decide +kernel, by decide +kernel⟩, List.mem_of_getElem? (i := 104) (by decide +kernel), List.mem_of_getElem? (i := 464) (by decide +kernel), List.mem_of_getElem? (i := 465) (by decide +kernel)⟩
theorem lw_p26 : lw_okq (⟨"ThoughtBalloon$History", "push", "(LThoughtBalloon$Flight;)V"⟩, 2) := ⟨⟨by decide +kernel, by decide +kernel⟩, List.mem_of_getElem? (i := 154) (by decide +kernel), List.mem_of_getElem? (i := 470) (by decide +kernel), List.mem_of_getElem? (i := 471) (by decide +kernel)⟩
theorem lw_p27 : lw_okq (⟨"ThoughtBalloon$History", "dropOldest", "()V"⟩, 2) := ⟨⟨by decide +kernel, by decide +kernel⟩, List.mem_of_getElem? (i := 154) (by decide +kernel), List.mem_of_getElem? (i := 474) (by decide +kernel), List.mem_of_getElem? (i := 475) (by decide +kernel)⟩
theorem lw_p28 : lw_okq (⟨"ThoughtBalloon$Flight", "copyFrom", "(LThoughtBalloon$Flight;)V"⟩, 9) := ⟨⟨by decide +kernel, by decide +kernel⟩, List.mem_of_getElem? (i := 104) (by decide +kernel), List.mem_of_getElem? (i := 478) (by decide +kernel), List.mem_of_getElem? (i := 479) (by decide +kernel)⟩
theorem lw_p29 : lw_okq (⟨"ThoughtBalloon$Flight", "begin", "(II)V"⟩, 9) := ⟨⟨by decide +kernel, by decide +kernel⟩, List.mem_of_getElem? (i := 104) (by decide +kernel), List.mem_of_getElem? (i := 482) (by decide +kernel), List.mem_of_getElem? (i := 483) (by decide +kernel)⟩
theorem lw_p30 : lw_okq (⟨"ThoughtBalloon$Flight", "think", "(II)V"⟩, 9) := ⟨⟨by decide +kernel, by decide +kernel⟩, List.mem_of_getElem? (i := 104) (by decide +kernel), List.mem_of_getElem? (i := 486) (by decide +kernel), List.mem_of_getElem? (i := 487) (by decide +kernel)⟩
theorem lw_p31 : lw_okq (⟨"ThoughtBalloon$Told", "hold", "(LThoughtBalloon$Flight;)I"⟩, 9) := ⟨⟨by decide +kernel, by decide +kernel⟩, List.mem_of_getElem? (i := 57) (by decide +kernel), List.mem_of_getElem? (i := 490) (by decide +kernel), List.mem_of_getElem? (i := 491) (by decide +kernel)⟩
def lw_privs_2 : List (MethodName × Nat) := [(⟨"ThoughtBalloon$Told", "tellThought", "(II)V"⟩, 9), (⟨"ThoughtBalloon$Told", "copyFrom", "(LThoughtBalloon$Told;)V"⟩, 9), (⟨"ThoughtBalloon$Told", "windAt", "(I)I"⟩, 9), (⟨"ThoughtBalloon$Told", "hasPerson", "(I)Z"⟩, 9), (⟨"ThoughtBalloon$Flight", "hasAboard", "(I)Z"⟩, 9), (⟨"ThoughtBalloon$Flight", "usedBy", "(I)I"⟩, 9), (⟨"ThoughtBalloon$Told", "liftsOf", "(I)I"⟩, 9), (⟨"ThoughtBalloon$Told", "canLift", "(II)Z"⟩, 9), (⟨"ThoughtBalloon$Told", "hasThought", "(I)Z"⟩, 9), (⟨"ThoughtBalloon$Flight", "mayBegin", "(II)Z"⟩, 9), (⟨"ThoughtBalloon$History", "push", "(LThoughtBalloon$Flight;)V"⟩, 2), (⟨"ThoughtBalloon$History", "dropOldest", "()V"⟩, 2), (⟨"ThoughtBalloon$Flight", "copyFrom", "(LThoughtBalloon$Flight;)V"⟩, 9), (⟨"ThoughtBalloon$Flight", "begin", "(II)V"⟩, 9), (⟨"ThoughtBalloon$Flight", "think", "(II)V"⟩, 9), (⟨"ThoughtBalloon$Told", "hold", "(LThoughtBalloon$Flight;)I"⟩, 9)]
theorem lw_r2 : ∀ q ∈ lw_privs_2, lw_okq q := List.forall_mem_cons.mpr ⟨lw_p16, List.forall_mem_cons.mpr ⟨lw_p17, List.forall_mem_cons.mpr ⟨lw_p18, List.forall_mem_cons.mpr ⟨lw_p19, List.forall_mem_cons.mpr ⟨lw_p20, List.forall_mem_cons.mpr ⟨lw_p21, List.forall_mem_cons.mpr ⟨lw_p22, List.forall_mem_cons.mpr ⟨lw_p23, List.forall_mem_cons.mpr ⟨lw_p24, List.forall_mem_cons.mpr ⟨lw_p25, List.forall_mem_cons.mpr ⟨lw_p26, List.forall_mem_cons.mpr ⟨lw_p27, List.forall_mem_cons.mpr ⟨lw_p28, List.forall_mem_cons.mpr ⟨lw_p29, List.forall_mem_cons.mpr ⟨lw_p30, List.forall_mem_cons.mpr ⟨lw_p31, fun _ h => absurd h List.not_mem_nil⟩⟩⟩⟩⟩⟩⟩⟩⟩⟩⟩⟩⟩⟩⟩⟩
theorem lw_p32 : lw_okq (⟨"ThoughtBalloon$Told", "passMinutes", "(LThoughtBalloon$Flight;I)V"⟩, 9) := ⟨⟨by decide +kernel, by decide +kernel⟩, List.mem_of_getElem? (i := 57) (by decide +kernel), List.mem_of_getElem? (i := 506) (by decide +kernel), List.mem_of_getElem? (i := 507) (by decide +kernel)⟩
theorem lw_p33 : lw_okq (⟨"ThoughtBalloon$Told", "passMinute", "(LThoughtBalloon$Flight;)V"⟩, 9) := ⟨⟨by decide +kernel, by decide +kernel⟩, List.mem_of_getElem? (i := 57) (by decide +kernel), List.mem_of_getElem? (i := 510) (by decide +kernel), List.mem_of_getElem? (i := 511) (by decide +kernel)⟩
theorem lw_p34 : lw_okq (⟨"ThoughtBalloon$Told", "load", "(LThoughtBalloon$Flight;)I"⟩, 9) := ⟨⟨by decide +kernel, by decide +kernel⟩, List.mem_of_getElem? (i := 57) (by decide +kernel), List.mem_of_getElem? (i := 515) (by decide +kernel), List.mem_of_getElem? (i := 516) (by decide +kernel)⟩
theorem lw_p35 : lw_okq (⟨"ThoughtBalloon$Flight", "climb", "(I)V"⟩, 9) := ⟨⟨by decide +kernel, by decide +kernel⟩, List.mem_of_getElem? (i := 104) (by decide +kernel), List.mem_of_getElem? (i := 520) (by decide +kernel), List.mem_of_getElem? (i := 521) (by decide +kernel)⟩
theorem lw_p36 : lw_okq (⟨"ThoughtBalloon$Flight", "drift", "(I)V"⟩, 9) := ⟨⟨by decide +kernel, by decide +kernel⟩, List.mem_of_getElem? (i := 104) (by decide +kernel), List.mem_of_getElem? (i := 527) (by decide +kernel), List.mem_of_getElem? (i := 528) (by decide +kernel)⟩
theorem lw_p37 : lw_okq (⟨"ThoughtBalloon$Flight", "mayBeBoarded", "()Z"⟩, 9) := ⟨⟨by decide +kernel, by decide +kernel⟩, List.mem_of_getElem? (i := 104) (by decide +kernel), List.mem_of_getElem? (i := 535) (by decide +kernel), List.mem_of_getElem? (i := 536) (by decide +kernel)⟩
theorem lw_p38 : lw_okq (⟨"ThoughtBalloon$Flight", "takeIn", "(I)V"⟩, 9) := ⟨⟨by decide +kernel, by decide +kernel⟩, List.mem_of_getElem? (i := 104) (by decide +kernel), List.mem_of_getElem? (i := 539) (by decide +kernel), List.mem_of_getElem? (i := 540) (by decide +kernel)⟩
theorem lw_p39 : lw_okq (⟨"ThoughtBalloon$Flight", "letOut", "(I)V"⟩, 9) := ⟨⟨by decide +kernel, by decide +kernel⟩, List.mem_of_getElem? (i := 104) (by decide +kernel), List.mem_of_getElem? (i := 553) (by decide +kernel), List.mem_of_getElem? (i := 554) (by decide +kernel)⟩
theorem lw_p40 : lw_okq (⟨"ThoughtBalloon$History", "pop", "(LThoughtBalloon$Flight;)V"⟩, 2) := ⟨⟨by decide +kernel, by decide +kernel⟩, List.mem_of_getElem? (i := 154) (by decide +kernel), List.mem_of_getElem? (i := 561) (by decide +kernel), List.mem_of_getElem? (i := 562) (by decide +kernel)⟩
theorem lw_p41 : lw_okq (⟨"ThoughtBalloon$Told", "cover", "()I"⟩, 9) := ⟨⟨by decide +kernel, by decide +kernel⟩, List.mem_of_getElem? (i := 57) (by decide +kernel), List.mem_of_getElem? (i := 570) (by decide +kernel), List.mem_of_getElem? (i := 571) (by decide +kernel)⟩
theorem lw_p42 : lw_okq (⟨"ThoughtBalloon$Told", "covers", "(I)Z"⟩, 9) := ⟨⟨by decide +kernel, by decide +kernel⟩, List.mem_of_getElem? (i := 57) (by decide +kernel), List.mem_of_getElem? (i := 574) (by decide +kernel), List.mem_of_getElem? (i := 575) (by decide +kernel)⟩
theorem lw_p43 : lw_okq (⟨"ThoughtBalloon$Search", "run", "(LThoughtBalloon$Flight;II)V"⟩, 8) := ⟨⟨by decide +kernel, by decide +kernel⟩, List.mem_of_getElem? (i := 173) (by decide +kernel), List.mem_of_getElem? (i := 594) (by decide +kernel), List.mem_of_getElem? (i := 595) (by decide +kernel)⟩
theorem lw_p44 : lw_okq (⟨"ThoughtBalloon$Search", "fillReach", "()V"⟩, 8) := ⟨⟨by decide +kernel, by decide +kernel⟩, List.mem_of_getElem? (i := 173) (by decide +kernel), List.mem_of_getElem? (i := 599) (by decide +kernel), List.mem_of_getElem? (i := 600) (by decide +kernel)⟩
theorem lw_p45 : lw_okq (⟨"ThoughtBalloon$Search", "tryTurns", "(I)V"⟩, 8) := ⟨⟨by decide +kernel, by decide +kernel⟩, List.mem_of_getElem? (i := 173) (by decide +kernel), List.mem_of_getElem? (i := 607) (by decide +kernel), List.mem_of_getElem? (i := 608) (by decide +kernel)⟩
theorem lw_p46 : lw_okq (⟨"ThoughtBalloon$Search", "bound", "(I)I"⟩, 8) := ⟨⟨by decide +kernel, by decide +kernel⟩, List.mem_of_getElem? (i := 173) (by decide +kernel), List.mem_of_getElem? (i := 611) (by decide +kernel), List.mem_of_getElem? (i := 612) (by decide +kernel)⟩
theorem lw_p47 : lw_okq (⟨"ThoughtBalloon$Search", "tryTurn", "(III)V"⟩, 8) := ⟨⟨by decide +kernel, by decide +kernel⟩, List.mem_of_getElem? (i := 173) (by decide +kernel), List.mem_of_getElem? (i := 616) (by decide +kernel), List.mem_of_getElem? (i := 617) (by decide +kernel)⟩
def lw_privs_3 : List (MethodName × Nat) := [(⟨"ThoughtBalloon$Told", "passMinutes", "(LThoughtBalloon$Flight;I)V"⟩, 9), (⟨"ThoughtBalloon$Told", "passMinute", "(LThoughtBalloon$Flight;)V"⟩, 9), (⟨"ThoughtBalloon$Told", "load", "(LThoughtBalloon$Flight;)I"⟩, 9), (⟨"ThoughtBalloon$Flight", "climb", "(I)V"⟩, 9), (⟨"ThoughtBalloon$Flight", "drift", "(I)V"⟩, 9), (⟨"ThoughtBalloon$Flight", "mayBeBoarded", "()Z"⟩, 9), (⟨"ThoughtBalloon$Flight", "takeIn", "(I)V"⟩, 9), (⟨"ThoughtBalloon$Flight", "letOut", "(I)V"⟩, 9), (⟨"ThoughtBalloon$History", "pop", "(LThoughtBalloon$Flight;)V"⟩, 2), (⟨"ThoughtBalloon$Told", "cover", "()I"⟩, 9), (⟨"ThoughtBalloon$Told", "covers", "(I)Z"⟩, 9), (⟨"ThoughtBalloon$Search", "run", "(LThoughtBalloon$Flight;II)V"⟩, 8), (⟨"ThoughtBalloon$Search", "fillReach", "()V"⟩, 8), (⟨"ThoughtBalloon$Search", "tryTurns", "(I)V"⟩, 8), (⟨"ThoughtBalloon$Search", "bound", "(I)I"⟩, 8), (⟨"ThoughtBalloon$Search", "tryTurn", "(III)V"⟩, 8)]
theorem lw_r3 : ∀ q ∈ lw_privs_3, lw_okq q := List.forall_mem_cons.mpr ⟨lw_p32, List.forall_mem_cons.mpr ⟨lw_p33, List.forall_mem_cons.mpr ⟨lw_p34, List.forall_mem_cons.mpr ⟨lw_p35, List.forall_mem_cons.mpr ⟨lw_p36, List.forall_mem_cons.mpr ⟨lw_p37, List.forall_mem_cons.mpr ⟨lw_p38, List.forall_mem_cons.mpr ⟨lw_p39, List.forall_mem_cons.mpr ⟨lw_p40, List.forall_mem_cons.mpr ⟨lw_p41, List.forall_mem_cons.mpr ⟨lw_p42, List.forall_mem_cons.mpr ⟨lw_p43, List.forall_mem_cons.mpr ⟨lw_p44, List.forall_mem_cons.mpr ⟨lw_p45, List.forall_mem_cons.mpr ⟨lw_p46, List.forall_mem_cons.mpr ⟨lw_p47, fun _ h => absurd h List.not_mem_nil⟩⟩⟩⟩⟩⟩⟩⟩⟩⟩⟩⟩⟩⟩⟩⟩
theorem lw_p48 : lw_okq (⟨"ThoughtBalloon$Told", "firstOwnWay", "()I"⟩, 9) := ⟨⟨by decide +kernel, by decide +kernel⟩, List.mem_of_getElem? (i := 57) (by decide +kernel), List.mem_of_getElem? (i := 627) (by decide +kernel), List.mem_of_getElem? (i := 628) (by decide +kernel)⟩
theorem lw_p49 : lw_okq (⟨"ThoughtBalloon$Told", "countOwn", "(I)I"⟩, 9) := ⟨⟨by decide +kernel, by decide +kernel⟩, List.mem_of_getElem? (i := 57) (by decide +kernel), List.mem_of_getElem? (i := 631) (by decide +kernel), List.mem_of_getElem? (i := 632) (by decide +kernel)⟩
theorem lw_p50 : lw_okq (⟨"ThoughtBalloon$Told", "ownIn", "(II)I"⟩, 9) := ⟨⟨by decide +kernel, by decide +kernel⟩, List.mem_of_getElem? (i := 57) (by decide +kernel), List.mem_of_getElem? (i := 635) (by decide +kernel), List.mem_of_getElem? (i := 636) (by decide +kernel)⟩
theorem lw_p51 : lw_okq (⟨"ThoughtBalloon$Odds", "startAt", "(I)V"⟩, 3) := ⟨⟨by decide +kernel, by decide +kernel⟩, List.mem_of_getElem? (i := 210) (by decide +kernel), List.mem_of_getElem? (i := 645) (by decide +kernel), List.mem_of_getElem? (i := 646) (by decide +kernel)⟩
theorem lw_p52 : lw_okq (⟨"ThoughtBalloon$Odds", "spread", "(II)V"⟩, 3) := ⟨⟨by decide +kernel, by decide +kernel⟩, List.mem_of_getElem? (i := 210) (by decide +kernel), List.mem_of_getElem? (i := 651) (by decide +kernel), List.mem_of_getElem? (i := 652) (by decide +kernel)⟩
theorem lw_p53 : lw_okq (⟨"ThoughtBalloon$Odds", "carry", "(II)V"⟩, 3) := ⟨⟨by decide +kernel, by decide +kernel⟩, List.mem_of_getElem? (i := 210) (by decide +kernel), List.mem_of_getElem? (i := 656) (by decide +kernel), List.mem_of_getElem? (i := 657) (by decide +kernel)⟩
theorem lw_p54 : lw_okq (⟨"ThoughtBalloon$Odds", "upper", "(I)I"⟩, 3) := ⟨⟨by decide +kernel, by decide +kernel⟩, List.mem_of_getElem? (i := 210) (by decide +kernel), List.mem_of_getElem? (i := 660) (by decide +kernel), List.mem_of_getElem? (i := 661) (by decide +kernel)⟩
theorem lw_p55 : lw_okq (⟨"ThoughtBalloon$Odds", "common", "(I)I"⟩, 3) := ⟨⟨by decide +kernel, by decide +kernel⟩, List.mem_of_getElem? (i := 210) (by decide +kernel), List.mem_of_getElem? (i := 664) (by decide +kernel), List.mem_of_getElem? (i := 665) (by decide +kernel)⟩
theorem lw_p56 : lw_okq (⟨"ThoughtBalloon$Odds", "lower", "(I)I"⟩, 3) := ⟨⟨by decide +kernel, by decide +kernel⟩, List.mem_of_getElem? (i := 210) (by decide +kernel), List.mem_of_getElem? (i := 669) (by decide +kernel), List.mem_of_getElem? (i := 670) (by decide +kernel)⟩
theorem lw_p57 : lw_okq (⟨"ThoughtBalloon$Reports", "add", "(III)I"⟩, 4) := ⟨⟨by decide +kernel, by decide +kernel⟩, List.mem_of_getElem? (i := 226) (by decide +kernel), List.mem_of_getElem? (i := 677) (by decide +kernel), List.mem_of_getElem? (i := 678) (by decide +kernel)⟩
theorem lw_p58 : lw_okq (⟨"ThoughtBalloon", "fitting", "(I)I"⟩, 13) := ⟨⟨by decide +kernel, by decide +kernel⟩, List.mem_of_getElem? (i := 16) (by decide +kernel), List.mem_of_getElem? (i := 685) (by decide +kernel), List.mem_of_getElem? (i := 686) (by decide +kernel)⟩
theorem lw_p59 : lw_okq (⟨"ThoughtBalloon", "fits", "(II)Z"⟩, 13) := ⟨⟨by decide +kernel, by decide +kernel⟩, List.mem_of_getElem? (i := 16) (by decide +kernel), List.mem_of_getElem? (i := 689) (by decide +kernel), List.mem_of_getElem? (i := 690) (by decide +kernel)⟩
theorem lw_p60 : lw_okq (⟨"ThoughtBalloon", "heightLater", "(III)I"⟩, 13) := ⟨⟨by decide +kernel, by decide +kernel⟩, List.mem_of_getElem? (i := 16) (by decide +kernel), List.mem_of_getElem? (i := 693) (by decide +kernel), List.mem_of_getElem? (i := 694) (by decide +kernel)⟩
theorem lw_p61 : lw_okq (⟨"ThoughtBalloon", "greatestAlike", "(III)I"⟩, 13) := ⟨⟨by decide +kernel, by decide +kernel⟩, List.mem_of_getElem? (i := 16) (by decide +kernel), List.mem_of_getElem? (i := 702) (by decide +kernel), List.mem_of_getElem? (i := 703) (by decide +kernel)⟩
theorem lw_p62 : lw_okq (⟨"ThoughtBalloon", "isLaw", "(II)Z"⟩, 13) := ⟨⟨by decide +kernel, by decide +kernel⟩, List.mem_of_getElem? (i := 16) (by decide +kernel), List.mem_of_getElem? (i := 716) (by decide +kernel), List.mem_of_getElem? (i := 717) (by decide +kernel)⟩
theorem lw_p63 : lw_okq (⟨"ThoughtBalloon", "markLover", "(I)I"⟩, 13) := ⟨⟨by decide +kernel, by decide +kernel⟩, List.mem_of_getElem? (i := 16) (by decide +kernel), List.mem_of_getElem? (i := 729) (by decide +kernel), List.mem_of_getElem? (i := 730) (by decide +kernel)⟩
def lw_privs_4 : List (MethodName × Nat) := [(⟨"ThoughtBalloon$Told", "firstOwnWay", "()I"⟩, 9), (⟨"ThoughtBalloon$Told", "countOwn", "(I)I"⟩, 9), (⟨"ThoughtBalloon$Told", "ownIn", "(II)I"⟩, 9), (⟨"ThoughtBalloon$Odds", "startAt", "(I)V"⟩, 3), (⟨"ThoughtBalloon$Odds", "spread", "(II)V"⟩, 3), (⟨"ThoughtBalloon$Odds", "carry", "(II)V"⟩, 3), (⟨"ThoughtBalloon$Odds", "upper", "(I)I"⟩, 3), (⟨"ThoughtBalloon$Odds", "common", "(I)I"⟩, 3), (⟨"ThoughtBalloon$Odds", "lower", "(I)I"⟩, 3), (⟨"ThoughtBalloon$Reports", "add", "(III)I"⟩, 4), (⟨"ThoughtBalloon", "fitting", "(I)I"⟩, 13), (⟨"ThoughtBalloon", "fits", "(II)Z"⟩, 13), (⟨"ThoughtBalloon", "heightLater", "(III)I"⟩, 13), (⟨"ThoughtBalloon", "greatestAlike", "(III)I"⟩, 13), (⟨"ThoughtBalloon", "isLaw", "(II)Z"⟩, 13), (⟨"ThoughtBalloon", "markLover", "(I)I"⟩, 13)]
theorem lw_r4 : ∀ q ∈ lw_privs_4, lw_okq q := List.forall_mem_cons.mpr ⟨lw_p48, List.forall_mem_cons.mpr ⟨lw_p49, List.forall_mem_cons.mpr ⟨lw_p50, List.forall_mem_cons.mpr ⟨lw_p51, List.forall_mem_cons.mpr ⟨lw_p52, List.forall_mem_cons.mpr ⟨lw_p53, List.forall_mem_cons.mpr ⟨lw_p54, List.forall_mem_cons.mpr ⟨lw_p55, List.forall_mem_cons.mpr ⟨lw_p56, List.forall_mem_cons.mpr ⟨lw_p57, List.forall_mem_cons.mpr ⟨lw_p58, List.forall_mem_cons.mpr ⟨lw_p59, List.forall_mem_cons.mpr ⟨lw_p60, List.forall_mem_cons.mpr ⟨lw_p61, List.forall_mem_cons.mpr ⟨lw_p62, List.forall_mem_cons.mpr ⟨lw_p63, fun _ h => absurd h List.not_mem_nil⟩⟩⟩⟩⟩⟩⟩⟩⟩⟩⟩⟩⟩⟩⟩⟩
theorem lw_p64 : lw_okq (⟨"ThoughtBalloon", "markOne", "(I)I"⟩, 13) := ⟨⟨by decide +kernel, by decide +kernel⟩, List.mem_of_getElem? (i := 16) (by decide +kernel), List.mem_of_getElem? (i := 734) (by decide +kernel), List.mem_of_getElem? (i := 735) (by decide +kernel)⟩
theorem lw_p65 : lw_okq (⟨"ThoughtBalloon", "markGrudge", "(I)I"⟩, 13) := ⟨⟨by decide +kernel, by decide +kernel⟩, List.mem_of_getElem? (i := 16) (by decide +kernel), List.mem_of_getElem? (i := 738) (by decide +kernel), List.mem_of_getElem? (i := 739) (by decide +kernel)⟩
theorem lw_p66 : lw_okq (⟨"ThoughtBalloon", "markPoet", "(I)I"⟩, 13) := ⟨⟨by decide +kernel, by decide +kernel⟩, List.mem_of_getElem? (i := 16) (by decide +kernel), List.mem_of_getElem? (i := 743) (by decide +kernel), List.mem_of_getElem? (i := 744) (by decide +kernel)⟩
theorem lw_p67 : lw_okq (⟨"ThoughtBalloon", "markMiser", "(I)I"⟩, 13) := ⟨⟨by decide +kernel, by decide +kernel⟩, List.mem_of_getElem? (i := 16) (by decide +kernel), List.mem_of_getElem? (i := 748) (by decide +kernel), List.mem_of_getElem? (i := 749) (by decide +kernel)⟩
theorem lw_p68 : lw_okq (⟨"ThoughtBalloon", "markWife", "(I)I"⟩, 13) := ⟨⟨by decide +kernel, by decide +kernel⟩, List.mem_of_getElem? (i := 16) (by decide +kernel), List.mem_of_getElem? (i := 753) (by decide +kernel), List.mem_of_getElem? (i := 754) (by decide +kernel)⟩
theorem lw_p69 : lw_okq (⟨"ThoughtBalloon$Image", "take", "(LThoughtBalloon$Flight;LThoughtBalloon$History;)V"⟩, 3) := ⟨⟨by decide +kernel, by decide +kernel⟩, List.mem_of_getElem? (i := 248) (by decide +kernel), List.mem_of_getElem? (i := 762) (by decide +kernel), List.mem_of_getElem? (i := 763) (by decide +kernel)⟩
theorem lw_p70 : lw_okq (⟨"ThoughtBalloon$History", "copyFrom", "(LThoughtBalloon$History;)V"⟩, 2) := ⟨⟨by decide +kernel, by decide +kernel⟩, List.mem_of_getElem? (i := 154) (by decide +kernel), List.mem_of_getElem? (i := 767) (by decide +kernel), List.mem_of_getElem? (i := 768) (by decide +kernel)⟩
theorem lw_p71 : lw_okq (⟨"ThoughtBalloon$Image", "give", "(LThoughtBalloon$Flight;LThoughtBalloon$History;)V"⟩, 3) := ⟨⟨by decide +kernel, by decide +kernel⟩, List.mem_of_getElem? (i := 248) (by decide +kernel), List.mem_of_getElem? (i := 775) (by decide +kernel), List.mem_of_getElem? (i := 776) (by decide +kernel)⟩
theorem lw_p72 : lw_okq (⟨"ThoughtBalloonModel", "read", "()V"⟩, 33) := ⟨⟨by decide +kernel, by decide +kernel⟩, List.mem_of_getElem? (i := 787) (by decide +kernel), List.mem_of_getElem? (i := 910) (by decide +kernel), List.mem_of_getElem? (i := 911) (by decide +kernel)⟩
theorem lw_p73 : lw_okq (⟨"ThoughtBalloonModel", "step", "()V"⟩, 33) := ⟨⟨by decide +kernel, by decide +kernel⟩, List.mem_of_getElem? (i := 787) (by decide +kernel), List.mem_of_getElem? (i := 914) (by decide +kernel), List.mem_of_getElem? (i := 915) (by decide +kernel)⟩
theorem lw_p74 : lw_okq (⟨"ThoughtBalloonModel", "here", "()I"⟩, 33) := ⟨⟨by decide +kernel, by decide +kernel⟩, List.mem_of_getElem? (i := 787) (by decide +kernel), List.mem_of_getElem? (i := 918) (by decide +kernel), List.mem_of_getElem? (i := 919) (by decide +kernel)⟩
theorem lw_p75 : lw_okq (⟨"ThoughtBalloonModel", "may", "(I)Z"⟩, 33) := ⟨⟨by decide +kernel, by decide +kernel⟩, List.mem_of_getElem? (i := 787) (by decide +kernel), List.mem_of_getElem? (i := 922) (by decide +kernel), List.mem_of_getElem? (i := 923) (by decide +kernel)⟩
theorem lw_p76 : lw_okq (⟨"ThoughtBalloonModel", "due", "(Z)V"⟩, 33) := ⟨⟨by decide +kernel, by decide +kernel⟩, List.mem_of_getElem? (i := 787) (by decide +kernel), List.mem_of_getElem? (i := 926) (by decide +kernel), List.mem_of_getElem? (i := 927) (by decide +kernel)⟩
theorem lw_p77 : lw_okq (⟨"ThoughtBalloonModel", "item", "(I)V"⟩, 33) := ⟨⟨by decide +kernel, by decide +kernel⟩, List.mem_of_getElem? (i := 787) (by decide +kernel), List.mem_of_getElem? (i := 930) (by decide +kernel), List.mem_of_getElem? (i := 931) (by decide +kernel)⟩
theorem lw_p78 : lw_okq (⟨"ThoughtBalloonModel", "number", "(II)I"⟩, 33) := ⟨⟨by decide +kernel, by decide +kernel⟩, List.mem_of_getElem? (i := 787) (by decide +kernel), List.mem_of_getElem? (i := 934) (by decide +kernel), List.mem_of_getElem? (i := 935) (by decide +kernel)⟩
theorem lw_p79 : lw_okq (⟨"ThoughtBalloonModel", "isOne", "(I)Z"⟩, 33) := ⟨⟨by decide +kernel, by decide +kernel⟩, List.mem_of_getElem? (i := 787) (by decide +kernel), List.mem_of_getElem? (i := 947) (by decide +kernel), List.mem_of_getElem? (i := 948) (by decide +kernel)⟩
def lw_privs_5 : List (MethodName × Nat) := [(⟨"ThoughtBalloon", "markOne", "(I)I"⟩, 13), (⟨"ThoughtBalloon", "markGrudge", "(I)I"⟩, 13), (⟨"ThoughtBalloon", "markPoet", "(I)I"⟩, 13), (⟨"ThoughtBalloon", "markMiser", "(I)I"⟩, 13), (⟨"ThoughtBalloon", "markWife", "(I)I"⟩, 13), (⟨"ThoughtBalloon$Image", "take", "(LThoughtBalloon$Flight;LThoughtBalloon$History;)V"⟩, 3), (⟨"ThoughtBalloon$History", "copyFrom", "(LThoughtBalloon$History;)V"⟩, 2), (⟨"ThoughtBalloon$Image", "give", "(LThoughtBalloon$Flight;LThoughtBalloon$History;)V"⟩, 3), (⟨"ThoughtBalloonModel", "read", "()V"⟩, 33), (⟨"ThoughtBalloonModel", "step", "()V"⟩, 33), (⟨"ThoughtBalloonModel", "here", "()I"⟩, 33), (⟨"ThoughtBalloonModel", "may", "(I)Z"⟩, 33), (⟨"ThoughtBalloonModel", "due", "(Z)V"⟩, 33), (⟨"ThoughtBalloonModel", "item", "(I)V"⟩, 33), (⟨"ThoughtBalloonModel", "number", "(II)I"⟩, 33), (⟨"ThoughtBalloonModel", "isOne", "(I)Z"⟩, 33)]
theorem lw_r5 : ∀ q ∈ lw_privs_5, lw_okq q := List.forall_mem_cons.mpr ⟨lw_p64, List.forall_mem_cons.mpr ⟨lw_p65, List.forall_mem_cons.mpr ⟨lw_p66, List.forall_mem_cons.mpr ⟨lw_p67, List.forall_mem_cons.mpr ⟨lw_p68, List.forall_mem_cons.mpr ⟨lw_p69, List.forall_mem_cons.mpr ⟨lw_p70, List.forall_mem_cons.mpr ⟨lw_p71, List.forall_mem_cons.mpr ⟨lw_p72, List.forall_mem_cons.mpr ⟨lw_p73, List.forall_mem_cons.mpr ⟨lw_p74, List.forall_mem_cons.mpr ⟨lw_p75, List.forall_mem_cons.mpr ⟨lw_p76, List.forall_mem_cons.mpr ⟨lw_p77, List.forall_mem_cons.mpr ⟨lw_p78, List.forall_mem_cons.mpr ⟨lw_p79, fun _ h => absurd h List.not_mem_nil⟩⟩⟩⟩⟩⟩⟩⟩⟩⟩⟩⟩⟩⟩⟩⟩
theorem lw_p80 : lw_okq (⟨"ThoughtBalloonModel", "liftsOf", "(I)I"⟩, 33) := ⟨⟨by decide +kernel, by decide +kernel⟩, List.mem_of_getElem? (i := 787) (by decide +kernel), List.mem_of_getElem? (i := 954) (by decide +kernel), List.mem_of_getElem? (i := 955) (by decide +kernel)⟩
theorem lw_p81 : lw_okq (⟨"ThoughtBalloonModel", "isThought", "(I)Z"⟩, 33) := ⟨⟨by decide +kernel, by decide +kernel⟩, List.mem_of_getElem? (i := 787) (by decide +kernel), List.mem_of_getElem? (i := 962) (by decide +kernel), List.mem_of_getElem? (i := 963) (by decide +kernel)⟩
theorem lw_p82 : lw_okq (⟨"ThoughtBalloonModel", "know", "()V"⟩, 33) := ⟨⟨by decide +kernel, by decide +kernel⟩, List.mem_of_getElem? (i := 787) (by decide +kernel), List.mem_of_getElem? (i := 973) (by decide +kernel), List.mem_of_getElem? (i := 974) (by decide +kernel)⟩
theorem lw_p83 : lw_okq (⟨"ThoughtBalloonModel", "hold", "([I)I"⟩, 33) := ⟨⟨by decide +kernel, by decide +kernel⟩, List.mem_of_getElem? (i := 787) (by decide +kernel), List.mem_of_getElem? (i := 980) (by decide +kernel), List.mem_of_getElem? (i := 981) (by decide +kernel)⟩
theorem lw_p84 : lw_okq (⟨"ThoughtBalloonModel", "passOn", "([I)V"⟩, 33) := ⟨⟨by decide +kernel, by decide +kernel⟩, List.mem_of_getElem? (i := 787) (by decide +kernel), List.mem_of_getElem? (i := 988) (by decide +kernel), List.mem_of_getElem? (i := 989) (by decide +kernel)⟩
theorem lw_p85 : lw_okq (⟨"ThoughtBalloonModel", "weights", "([I)I"⟩, 33) := ⟨⟨by decide +kernel, by decide +kernel⟩, List.mem_of_getElem? (i := 787) (by decide +kernel), List.mem_of_getElem? (i := 992) (by decide +kernel), List.mem_of_getElem? (i := 993) (by decide +kernel)⟩
theorem lw_p86 : lw_okq (⟨"ThoughtBalloonModel", "isAtRest", "()Z"⟩, 33) := ⟨⟨by decide +kernel, by decide +kernel⟩, List.mem_of_getElem? (i := 787) (by decide +kernel), List.mem_of_getElem? (i := 1000) (by decide +kernel), List.mem_of_getElem? (i := 1001) (by decide +kernel)⟩
theorem lw_p87 : lw_okq (⟨"ThoughtBalloonModel", "cover", "()I"⟩, 33) := ⟨⟨by decide +kernel, by decide +kernel⟩, List.mem_of_getElem? (i := 787) (by decide +kernel), List.mem_of_getElem? (i := 1019) (by decide +kernel), List.mem_of_getElem? (i := 1020) (by decide +kernel)⟩
theorem lw_p88 : lw_okq (⟨"ThoughtBalloonModel", "take", "()V"⟩, 33) := ⟨⟨by decide +kernel, by decide +kernel⟩, List.mem_of_getElem? (i := 787) (by decide +kernel), List.mem_of_getElem? (i := 1027) (by decide +kernel), List.mem_of_getElem? (i := 1028) (by decide +kernel)⟩
theorem lw_p89 : lw_okq (⟨"ThoughtBalloonModel", "goBy", "(IIII)I"⟩, 33) := ⟨⟨by decide +kernel, by decide +kernel⟩, List.mem_of_getElem? (i := 787) (by decide +kernel), List.mem_of_getElem? (i := 1039) (by decide +kernel), List.mem_of_getElem? (i := 1040) (by decide +kernel)⟩
theorem lw_p90 : lw_okq (⟨"ThoughtBalloonModel", "whichBy", "(I)I"⟩, 33) := ⟨⟨by decide +kernel, by decide +kernel⟩, List.mem_of_getElem? (i := 787) (by decide +kernel), List.mem_of_getElem? (i := 1059) (by decide +kernel), List.mem_of_getElem? (i := 1060) (by decide +kernel)⟩
theorem lw_p91 : lw_okq (⟨"ThoughtBalloonModel", "heightBy", "(III)I"⟩, 33) := ⟨⟨by decide +kernel, by decide +kernel⟩, List.mem_of_getElem? (i := 787) (by decide +kernel), List.mem_of_getElem? (i := 1063) (by decide +kernel), List.mem_of_getElem? (i := 1064) (by decide +kernel)⟩
def lw_privs_6 : List (MethodName × Nat) := [(⟨"ThoughtBalloonModel", "liftsOf", "(I)I"⟩, 33), (⟨"ThoughtBalloonModel", "isThought", "(I)Z"⟩, 33), (⟨"ThoughtBalloonModel", "know", "()V"⟩, 33), (⟨"ThoughtBalloonModel", "hold", "([I)I"⟩, 33), (⟨"ThoughtBalloonModel", "passOn", "([I)V"⟩, 33), (⟨"ThoughtBalloonModel", "weights", "([I)I"⟩, 33), (⟨"ThoughtBalloonModel", "isAtRest", "()Z"⟩, 33), (⟨"ThoughtBalloonModel", "cover", "()I"⟩, 33), (⟨"ThoughtBalloonModel", "take", "()V"⟩, 33), (⟨"ThoughtBalloonModel", "goBy", "(IIII)I"⟩, 33), (⟨"ThoughtBalloonModel", "whichBy", "(I)I"⟩, 33), (⟨"ThoughtBalloonModel", "heightBy", "(III)I"⟩, 33)]
theorem lw_r6 : ∀ q ∈ lw_privs_6, lw_okq q := List.forall_mem_cons.mpr ⟨lw_p80, List.forall_mem_cons.mpr ⟨lw_p81, List.forall_mem_cons.mpr ⟨lw_p82, List.forall_mem_cons.mpr ⟨lw_p83, List.forall_mem_cons.mpr ⟨lw_p84, List.forall_mem_cons.mpr ⟨lw_p85, List.forall_mem_cons.mpr ⟨lw_p86, List.forall_mem_cons.mpr ⟨lw_p87, List.forall_mem_cons.mpr ⟨lw_p88, List.forall_mem_cons.mpr ⟨lw_p89, List.forall_mem_cons.mpr ⟨lw_p90, List.forall_mem_cons.mpr ⟨lw_p91, fun _ h => absurd h List.not_mem_nil⟩⟩⟩⟩⟩⟩⟩⟩⟩⟩⟩⟩
def lw_privs : List (MethodName × Nat) := lw_privs_1 ++ (lw_privs_2 ++ (lw_privs_3 ++ (lw_privs_4 ++ (lw_privs_5 ++ (lw_privs_6)))))
def lw_tbl : List Cond := k2_sels lw_privs ++ tables_1
theorem lw_privs_ok : ∀ q ∈ lw_privs, lw_okq q := by
  show ∀ q ∈ lw_privs_1 ++ (lw_privs_2 ++ (lw_privs_3 ++ (lw_privs_4 ++ (lw_privs_5 ++ (lw_privs_6))))), lw_okq q
  exact List.forall_mem_append.mpr ⟨lw_r1, List.forall_mem_append.mpr ⟨lw_r2, List.forall_mem_append.mpr ⟨lw_r3, List.forall_mem_append.mpr ⟨lw_r4, List.forall_mem_append.mpr ⟨lw_r5, lw_r6⟩⟩⟩⟩⟩
-- ===== end of PART A; then your names; then what follows =====
end
section
def R_Fl : String := "ThoughtBalloon$Flight"
def F_Fl : u_T := fun k => match k with
  | 0 => ("ThoughtBalloon$Flight", "minute", "I", false)
  | 1 => ("ThoughtBalloon$Flight", "cell", "I", false)
  | 2 => ("ThoughtBalloon$Flight", "height", "I", false)
  | 3 => ("ThoughtBalloon$Flight", "thinker", "I", false)
  | 4 => ("ThoughtBalloon$Flight", "idea", "I", false)
  | 5 => ("ThoughtBalloon$Flight", "since", "I", false)
  | 6 => ("ThoughtBalloon$Flight", "aboard", "I", false)
  | 7 => ("ThoughtBalloon$Flight", "used", "I", false)
  | _ => ("ThoughtBalloon$Flight", "lost", "Z", false)
def t_Fl : Nat → FieldType := fun k => match k with
  | 0 => .int
  | 1 => .int
  | 2 => .int
  | 3 => .int
  | 4 => .int
  | 5 => .int
  | 6 => .int
  | 7 => .int
  | _ => .boolean
theorem nm_Fl : ∀ a, a < 9 → ∀ b, b < 9 → a ≠ b → (F_Fl a).2.1 ≠ (F_Fl b).2.1 := by decide +kernel
theorem ty_Fl : ∀ k, k < 9 → parseFieldDescriptor (F_Fl k).2.2.1 = some (t_Fl k) := by decide +kernel
def R_Hi : String := "ThoughtBalloon$History"
def F_Hi : u_T := fun k => match k with
  | 0 => ("ThoughtBalloon$History", "flights", "[LThoughtBalloon$Flight;", true)
  | _ => ("ThoughtBalloon$History", "size", "I", false)
def t_Hi : Nat → FieldType := fun k => match k with
  | 0 => .array (.object "ThoughtBalloon$Flight")
  | _ => .int
theorem nm_Hi : ∀ a, a < 2 → ∀ b, b < 2 → a ≠ b → (F_Hi a).2.1 ≠ (F_Hi b).2.1 := by decide +kernel
theorem ty_Hi : ∀ k, k < 2 → parseFieldDescriptor (F_Hi k).2.2.1 = some (t_Hi k) := by decide +kernel
def R_Im : String := "ThoughtBalloon$Image"
def F_Im : u_T := fun k => match k with
  | 0 => ("ThoughtBalloon$Image", "flight", "LThoughtBalloon$Flight;", true)
  | 1 => ("ThoughtBalloon$Image", "history", "LThoughtBalloon$History;", true)
  | _ => ("ThoughtBalloon$Image", "kept", "Z", false)
def t_Im : Nat → FieldType := fun k => match k with
  | 0 => .object "ThoughtBalloon$Flight"
  | 1 => .object "ThoughtBalloon$History"
  | _ => .boolean
theorem nm_Im : ∀ a, a < 3 → ∀ b, b < 3 → a ≠ b → (F_Im a).2.1 ≠ (F_Im b).2.1 := by decide +kernel
theorem ty_Im : ∀ k, k < 3 → parseFieldDescriptor (F_Im k).2.2.1 = some (t_Im k) := by decide +kernel
def R_Od : String := "ThoughtBalloon$Odds"
def F_Od : u_T := fun k => match k with
  | 0 => ("ThoughtBalloon$Odds", "ways", "[I", true)
  | 1 => ("ThoughtBalloon$Odds", "before", "[I", true)
  | _ => ("ThoughtBalloon$Odds", "all", "I", false)
def t_Od : Nat → FieldType := fun k => match k with
  | 0 => .array .int
  | 1 => .array .int
  | _ => .int
theorem nm_Od : ∀ a, a < 3 → ∀ b, b < 3 → a ≠ b → (F_Od a).2.1 ≠ (F_Od b).2.1 := by decide +kernel
theorem ty_Od : ∀ k, k < 3 → parseFieldDescriptor (F_Od k).2.2.1 = some (t_Od k) := by decide +kernel
def R_Re : String := "ThoughtBalloon$Reports"
def F_Re : u_T := fun k => match k with
  | 0 => ("ThoughtBalloon$Reports", "people", "[I", true)
  | 1 => ("ThoughtBalloon$Reports", "minutes", "[I", true)
  | 2 => ("ThoughtBalloon$Reports", "values", "[I", true)
  | _ => ("ThoughtBalloon$Reports", "size", "I", false)
def t_Re : Nat → FieldType := fun k => match k with
  | 0 => .array .int
  | 1 => .array .int
  | 2 => .array .int
  | _ => .int
theorem nm_Re : ∀ a, a < 4 → ∀ b, b < 4 → a ≠ b → (F_Re a).2.1 ≠ (F_Re b).2.1 := by decide +kernel
theorem ty_Re : ∀ k, k < 4 → parseFieldDescriptor (F_Re k).2.2.1 = some (t_Re k) := by decide +kernel
def R_Se : String := "ThoughtBalloon$Search"
def F_Se : u_T := fun k => match k with
  | 0 => ("ThoughtBalloon$Search", "told", "LThoughtBalloon$Told;", true)
  | 1 => ("ThoughtBalloon$Search", "flights", "[LThoughtBalloon$Flight;", true)
  | 2 => ("ThoughtBalloon$Search", "row", "[I", true)
  | 3 => ("ThoughtBalloon$Search", "found", "[I", true)
  | 4 => ("ThoughtBalloon$Search", "reach", "[[I", true)
  | 5 => ("ThoughtBalloon$Search", "turns", "I", false)
  | 6 => ("ThoughtBalloon$Search", "what", "I", false)
  | _ => ("ThoughtBalloon$Search", "greatest", "I", false)
def t_Se : Nat → FieldType := fun k => match k with
  | 0 => .object "ThoughtBalloon$Told"
  | 1 => .array (.object "ThoughtBalloon$Flight")
  | 2 => .array .int
  | 3 => .array .int
  | 4 => .array (.array .int)
  | 5 => .int
  | 6 => .int
  | _ => .int
theorem nm_Se : ∀ a, a < 8 → ∀ b, b < 8 → a ≠ b → (F_Se a).2.1 ≠ (F_Se b).2.1 := by decide +kernel
theorem ty_Se : ∀ k, k < 8 → parseFieldDescriptor (F_Se k).2.2.1 = some (t_Se k) := by decide +kernel
def R_Tx : String := "ThoughtBalloon$Text"
def F_Tx : u_T := fun k => match k with
  | 0 => ("ThoughtBalloon$Text", "bytes", "[I", true)
  | 1 => ("ThoughtBalloon$Text", "length", "I", false)
  | 2 => ("ThoughtBalloon$Text", "at", "I", false)
  | 3 => ("ThoughtBalloon$Text", "token", "I", false)
  | 4 => ("ThoughtBalloon$Text", "place", "I", false)
  | 5 => ("ThoughtBalloon$Text", "value", "I", false)
  | 6 => ("ThoughtBalloon$Text", "numbers", "[I", true)
  | _ => ("ThoughtBalloon$Text", "startIsTold", "Z", false)
def t_Tx : Nat → FieldType := fun k => match k with
  | 0 => .array .int
  | 1 => .int
  | 2 => .int
  | 3 => .int
  | 4 => .int
  | 5 => .int
  | 6 => .array .int
  | _ => .boolean
theorem nm_Tx : ∀ a, a < 8 → ∀ b, b < 8 → a ≠ b → (F_Tx a).2.1 ≠ (F_Tx b).2.1 := by decide +kernel
theorem ty_Tx : ∀ k, k < 8 → parseFieldDescriptor (F_Tx k).2.2.1 = some (t_Tx k) := by decide +kernel
def R_To : String := "ThoughtBalloon$Told"
def F_To : u_T := fun k => match k with
  | 0 => ("ThoughtBalloon$Told", "winds", "[I", true)
  | 1 => ("ThoughtBalloon$Told", "weights", "[I", true)
  | 2 => ("ThoughtBalloon$Told", "breaths", "[I", true)
  | 3 => ("ThoughtBalloon$Told", "lifts", "[I", true)
  | 4 => ("ThoughtBalloon$Told", "fades", "[I", true)
  | 5 => ("ThoughtBalloon$Told", "people", "I", false)
  | 6 => ("ThoughtBalloon$Told", "thoughts", "I", false)
  | 7 => ("ThoughtBalloon$Told", "start", "I", false)
  | _ => ("ThoughtBalloon$Told", "aboardAtFirst", "I", false)
def t_To : Nat → FieldType := fun k => match k with
  | 0 => .array .int
  | 1 => .array .int
  | 2 => .array .int
  | 3 => .array .int
  | 4 => .array .int
  | 5 => .int
  | 6 => .int
  | 7 => .int
  | _ => .int
theorem nm_To : ∀ a, a < 9 → ∀ b, b < 9 → a ≠ b → (F_To a).2.1 ≠ (F_To b).2.1 := by decide +kernel
theorem ty_To : ∀ k, k < 9 → parseFieldDescriptor (F_To k).2.2.1 = some (t_To k) := by decide +kernel
def R_Tb : String := "ThoughtBalloon"
def F_Tb : u_T := fun k => match k with
  | 0 => ("ThoughtBalloon", "text", "LThoughtBalloon$Text;", true)
  | 1 => ("ThoughtBalloon", "told", "LThoughtBalloon$Told;", true)
  | 2 => ("ThoughtBalloon", "draft", "LThoughtBalloon$Told;", true)
  | 3 => ("ThoughtBalloon", "flight", "LThoughtBalloon$Flight;", true)
  | 4 => ("ThoughtBalloon", "trial", "LThoughtBalloon$Flight;", true)
  | 5 => ("ThoughtBalloon", "history", "LThoughtBalloon$History;", true)
  | 6 => ("ThoughtBalloon", "images", "[LThoughtBalloon$Image;", true)
  | 7 => ("ThoughtBalloon", "search", "LThoughtBalloon$Search;", true)
  | 8 => ("ThoughtBalloon", "chances", "LThoughtBalloon$Odds;", true)
  | 9 => ("ThoughtBalloon", "seen", "LThoughtBalloon$Reports;", true)
  | 10 => ("ThoughtBalloon", "heard", "LThoughtBalloon$Reports;", true)
  | 11 => ("ThoughtBalloon", "alike", "[I", true)
  | _ => ("ThoughtBalloon", "traced", "J", false)
def t_Tb : Nat → FieldType := fun k => match k with
  | 0 => .object "ThoughtBalloon$Text"
  | 1 => .object "ThoughtBalloon$Told"
  | 2 => .object "ThoughtBalloon$Told"
  | 3 => .object "ThoughtBalloon$Flight"
  | 4 => .object "ThoughtBalloon$Flight"
  | 5 => .object "ThoughtBalloon$History"
  | 6 => .array (.object "ThoughtBalloon$Image")
  | 7 => .object "ThoughtBalloon$Search"
  | 8 => .object "ThoughtBalloon$Odds"
  | 9 => .object "ThoughtBalloon$Reports"
  | 10 => .object "ThoughtBalloon$Reports"
  | 11 => .array .int
  | _ => .long
theorem nm_Tb : ∀ a, a < 13 → ∀ b, b < 13 → a ≠ b → (F_Tb a).2.1 ≠ (F_Tb b).2.1 := by decide +kernel
theorem ty_Tb : ∀ k, k < 13 → parseFieldDescriptor (F_Tb k).2.2.1 = some (t_Tb k) := by decide +kernel
def R_Mo : String := "ThoughtBalloonModel"
def F_Mo : u_T := fun k => match k with
  | 0 => ("ThoughtBalloonModel", "text", "[B", true)
  | 1 => ("ThoughtBalloonModel", "typed", "I", false)
  | 2 => ("ThoughtBalloonModel", "winds", "[I", true)
  | 3 => ("ThoughtBalloonModel", "people", "[I", true)
  | 4 => ("ThoughtBalloonModel", "weight", "[I", true)
  | 5 => ("ThoughtBalloonModel", "breath", "[I", true)
  | 6 => ("ThoughtBalloonModel", "firstIn", "[I", true)
  | 7 => ("ThoughtBalloonModel", "thoughts", "[I", true)
  | 8 => ("ThoughtBalloonModel", "lift", "[I", true)
  | 9 => ("ThoughtBalloonModel", "fade", "[I", true)
  | 10 => ("ThoughtBalloonModel", "starts", "[I", true)
  | 11 => ("ThoughtBalloonModel", "at", "I", false)
  | 12 => ("ThoughtBalloonModel", "stands", "I", false)
  | 13 => ("ThoughtBalloonModel", "sort", "I", false)
  | 14 => ("ThoughtBalloonModel", "value", "I", false)
  | 15 => ("ThoughtBalloonModel", "isWrong", "Z", false)
  | 16 => ("ThoughtBalloonModel", "items", "I", false)
  | 17 => ("ThoughtBalloonModel", "isStarted", "Z", false)
  | 18 => ("ThoughtBalloonModel", "now", "[I", true)
  | 19 => ("ThoughtBalloonModel", "known", "[I", true)
  | 20 => ("ThoughtBalloonModel", "before", "[I", true)
  | 21 => ("ThoughtBalloonModel", "store", "[I", true)
  | 22 => ("ThoughtBalloonModel", "isKept", "[Z", true)
  | 23 => ("ThoughtBalloonModel", "tried", "[I", true)
  | 24 => ("ThoughtBalloonModel", "many", "[I", true)
  | 25 => ("ThoughtBalloonModel", "sightOf", "[I", true)
  | 26 => ("ThoughtBalloonModel", "sightAt", "[I", true)
  | 27 => ("ThoughtBalloonModel", "sightHigh", "[I", true)
  | 28 => ("ThoughtBalloonModel", "sights", "I", false)
  | 29 => ("ThoughtBalloonModel", "taleAt", "[I", true)
  | 30 => ("ThoughtBalloonModel", "taleHold", "[I", true)
  | 31 => ("ThoughtBalloonModel", "tales", "I", false)
  | _ => ("ThoughtBalloonModel", "trace", "J", false)
def t_Mo : Nat → FieldType := fun k => match k with
  | 0 => .array .byte
  | 1 => .int
  | 2 => .array .int
  | 3 => .array .int
  | 4 => .array .int
  | 5 => .array .int
  | 6 => .array .int
  | 7 => .array .int
  | 8 => .array .int
  | 9 => .array .int
  | 10 => .array .int
  | 11 => .int
  | 12 => .int
  | 13 => .int
  | 14 => .int
  | 15 => .boolean
  | 16 => .int
  | 17 => .boolean
  | 18 => .array .int
  | 19 => .array .int
  | 20 => .array .int
  | 21 => .array .int
  | 22 => .array .boolean
  | 23 => .array .int
  | 24 => .array .int
  | 25 => .array .int
  | 26 => .array .int
  | 27 => .array .int
  | 28 => .int
  | 29 => .array .int
  | 30 => .array .int
  | 31 => .int
  | _ => .long
theorem nm_Mo : ∀ a, a < 33 → ∀ b, b < 33 → a ≠ b → (F_Mo a).2.1 ≠ (F_Mo b).2.1 := by decide +kernel
theorem ty_Mo : ∀ k, k < 33 → parseFieldDescriptor (F_Mo k).2.2.1 = some (t_Mo k) := by decide +kernel
def R_La : String := "ThoughtBalloonLaw"
def R_Ma : String := "java/lang/Math"
def R_In : String := "java/lang/Integer"
def R_Ar : String := "java/util/Arrays"
abbrev e_cl : List vw_C := [(R_Fl, F_Fl, 9), (R_Hi, F_Hi, 2), (R_Im, F_Im, 3), (R_Od, F_Od, 3), (R_Re, F_Re, 4), (R_Se, F_Se, 8), (R_Tx, F_Tx, 8), (R_To, F_To, 9), (R_Tb, F_Tb, 13), (R_Mo, F_Mo, 33)]
/-- the words of the tables that stay true from call to call -/
def e_gw : List Cond := lw_tbl.filter goodWord
def e_isN : Cond → Bool
  | .fieldLinkNest .. => true
  | .methodLinkNest .. => true
  | _ => false
def e_nw : List Cond := tables_1.filter e_isN
theorem gw_t (i : Nat) {w : Cond} (h : tables_1[i]? = some w) (hg : goodWord w = true) : w ∈ e_gw := List.mem_filter.mpr ⟨List.mem_append_right _ (List.mem_of_getElem? h), hg⟩
theorem gw_s (i : Nat) {w : Cond} (h : (k2_sels lw_privs)[i]? = some w) (hg : goodWord w = true) : w ∈ e_gw := List.mem_filter.mpr ⟨List.mem_append_left _ (List.mem_of_getElem? h), hg⟩
theorem nw_t (i : Nat) {w : Cond} (h : tables_1[i]? = some w) (hg : e_isN w = true) : w ∈ e_nw := List.mem_filter.mpr ⟨List.mem_of_getElem? h, hg⟩
abbrev Mt : Type := MethodName × ByteArray × Nat × Option FieldType
def M_Tb_init : Mt := (⟨R_Tb, "<init>", "()V"⟩, prog_1_method_1_code, 2, none)
def M_Tx_init : Mt := (⟨R_Tx, "<init>", "()V"⟩, prog_8_method_1_code, 1, none)
def M_To_init : Mt := (⟨R_To, "<init>", "()V"⟩, prog_9_method_1_code, 1, none)
def M_Fl_init : Mt := (⟨R_Fl, "<init>", "()V"⟩, prog_2_method_1_code, 1, none)
def M_Hi_init : Mt := (⟨R_Hi, "<init>", "()V"⟩, prog_3_method_1_code, 2, none)
def M_Se_init : Mt := (⟨R_Se, "<init>", "(LThoughtBalloon$Told;)V"⟩, prog_7_method_1_code, 3, none)
def M_Od_init : Mt := (⟨R_Od, "<init>", "()V"⟩, prog_5_method_1_code, 1, none)
def M_Re_init : Mt := (⟨R_Re, "<init>", "()V"⟩, prog_6_method_1_code, 1, none)
def M_Im_init : Mt := (⟨R_Im, "<init>", "()V"⟩, prog_4_method_1_code, 1, none)
def M_Tb_startAnew : Mt := (⟨R_Tb, "startAnew", "()V"⟩, prog_1_method_31_code, 2, none)
def M_Fl_start : Mt := (⟨R_Fl, "start", "(II)V"⟩, prog_2_method_2_code, 3, none)
def M_Fl_thinkNothing : Mt := (⟨R_Fl, "thinkNothing", "()V"⟩, prog_2_method_10_code, 1, none)
def M_Re_drop : Mt := (⟨R_Re, "drop", "()I"⟩, prog_6_method_3_code, 2, (some .int))
def M_Tb_type : Mt := (⟨R_Tb, "type", "(I)I"⟩, prog_1_method_2_code, 2, (some .int))
def M_Tb_within : Mt := (⟨R_Tb, "within", "(III)Z"⟩, prog_1_method_30_code, 3, (some .boolean))
def M_Tx_add : Mt := (⟨R_Tx, "add", "(I)I"⟩, prog_8_method_2_code, 2, (some .int))
def M_Tb_clear : Mt := (⟨R_Tb, "clear", "()I"⟩, prog_1_method_3_code, 1, (some .int))
def M_Tx_drop : Mt := (⟨R_Tx, "drop", "()I"⟩, prog_8_method_3_code, 2, (some .int))
def M_Tb_sheds : Mt := (⟨R_Tb, "sheds", "()I"⟩, prog_1_method_4_code, 2, (some .int))
def M_Tx_readInto : Mt := (⟨R_Tx, "readInto", "(LThoughtBalloon$Told;)I"⟩, prog_8_method_4_code, 3, (some .int))
def M_To_tellNothing : Mt := (⟨R_To, "tellNothing", "()V"⟩, prog_9_method_2_code, 1, none)
def M_Ar_fill : Mt := (⟨R_Ar, "fill", "([II)V"⟩, prog_15_method_103_code, 4, none)
def M_Tx_readToken : Mt := (⟨R_Tx, "readToken", "()V"⟩, prog_8_method_8_code, 1, none)
def M_Tx_isLetter : Mt := (⟨R_Tx, "isLetter", "(I)Z"⟩, prog_8_method_11_code, 1, (some .boolean))
def M_Tx_readLetters : Mt := (⟨R_Tx, "readLetters", "()V"⟩, prog_8_method_9_code, 1, none)
def M_Tx_isDigit : Mt := (⟨R_Tx, "isDigit", "(I)Z"⟩, prog_8_method_12_code, 1, (some .boolean))
def M_Tx_readNumber : Mt := (⟨R_Tx, "readNumber", "()V"⟩, prog_8_method_10_code, 2, none)
def M_Ma_min : Mt := (⟨R_Ma, "min", "(II)I"⟩, prog_13_method_69_code, 2, (some .int))
def M_Tx_readItem : Mt := (⟨R_Tx, "readItem", "(LThoughtBalloon$Told;)Z"⟩, prog_8_method_5_code, 5, (some .boolean))
def M_Tx_itemBegun : Mt := (⟨R_Tx, "itemBegun", "(LThoughtBalloon$Told;)I"⟩, prog_8_method_6_code, 2, (some .int))
def M_Tx_tell : Mt := (⟨R_Tx, "tell", "(LThoughtBalloon$Told;I)V"⟩, prog_8_method_7_code, 3, none)
def M_To_tellWind : Mt := (⟨R_To, "tellWind", "(II)V"⟩, prog_9_method_4_code, 3, none)
def M_To_tellPerson : Mt := (⟨R_To, "tellPerson", "(III)V"⟩, prog_9_method_5_code, 4, none)
def M_To_tellThought : Mt := (⟨R_To, "tellThought", "(II)V"⟩, prog_9_method_6_code, 3, none)
def M_To_copyFrom : Mt := (⟨R_To, "copyFrom", "(LThoughtBalloon$Told;)V"⟩, prog_9_method_3_code, 2, none)
def M_Tb_wind : Mt := (⟨R_Tb, "wind", "(I)I"⟩, prog_1_method_5_code, 2, (some .int))
def M_To_windAt : Mt := (⟨R_To, "windAt", "(I)I"⟩, prog_9_method_9_code, 2, (some .int))
def M_Tb_one : Mt := (⟨R_Tb, "one", "(II)I"⟩, prog_1_method_6_code, 3, (some .int))
def M_To_hasPerson : Mt := (⟨R_To, "hasPerson", "(I)Z"⟩, prog_9_method_7_code, 2, (some .boolean))
def M_Fl_hasAboard : Mt := (⟨R_Fl, "hasAboard", "(I)Z"⟩, prog_2_method_4_code, 2, (some .boolean))
def M_Fl_usedBy : Mt := (⟨R_Fl, "usedBy", "(I)I"⟩, prog_2_method_5_code, 2, (some .int))
def M_To_liftsOf : Mt := (⟨R_To, "liftsOf", "(I)I"⟩, prog_9_method_16_code, 4, (some .int))
def M_To_canLift : Mt := (⟨R_To, "canLift", "(II)Z"⟩, prog_9_method_15_code, 3, (some .boolean))
def M_Tb_thought : Mt := (⟨R_Tb, "thought", "(II)I"⟩, prog_1_method_7_code, 3, (some .int))
def M_To_hasThought : Mt := (⟨R_To, "hasThought", "(I)Z"⟩, prog_9_method_8_code, 2, (some .boolean))
def M_Tb_begins : Mt := (⟨R_Tb, "begins", "(II)I"⟩, prog_1_method_8_code, 3, (some .int))
def M_Fl_mayBegin : Mt := (⟨R_Fl, "mayBegin", "(II)Z"⟩, prog_2_method_6_code, 3, (some .boolean))
def M_Hi_push : Mt := (⟨R_Hi, "push", "(LThoughtBalloon$Flight;)V"⟩, prog_3_method_2_code, 2, none)
def M_Hi_dropOldest : Mt := (⟨R_Hi, "dropOldest", "()V"⟩, prog_3_method_3_code, 3, none)
def M_Fl_copyFrom : Mt := (⟨R_Fl, "copyFrom", "(LThoughtBalloon$Flight;)V"⟩, prog_2_method_3_code, 2, none)
def M_Fl_begin : Mt := (⟨R_Fl, "begin", "(II)V"⟩, prog_2_method_8_code, 3, none)
def M_Fl_think : Mt := (⟨R_Fl, "think", "(II)V"⟩, prog_2_method_9_code, 3, none)
def M_To_hold : Mt := (⟨R_To, "hold", "(LThoughtBalloon$Flight;)I"⟩, prog_9_method_11_code, 5, (some .int))
def M_To_faded : Mt := (⟨R_To, "faded", "(III)I"⟩, prog_9_method_10_code, 3, (some .int))
def M_Ma_max : Mt := (⟨R_Ma, "max", "(II)I"⟩, prog_13_method_65_code, 2, (some .int))
def M_Tb_minutes : Mt := (⟨R_Tb, "minutes", "(I)I"⟩, prog_1_method_9_code, 2, (some .int))
def M_To_passMinutes : Mt := (⟨R_To, "passMinutes", "(LThoughtBalloon$Flight;I)V"⟩, prog_9_method_13_code, 4, none)
def M_To_passMinute : Mt := (⟨R_To, "passMinute", "(LThoughtBalloon$Flight;)V"⟩, prog_9_method_14_code, 3, none)
def M_To_load : Mt := (⟨R_To, "load", "(LThoughtBalloon$Flight;)I"⟩, prog_9_method_12_code, 4, (some .int))
def M_Fl_climb : Mt := (⟨R_Fl, "climb", "(I)V"⟩, prog_2_method_13_code, 2, none)
def M_Fl_drift : Mt := (⟨R_Fl, "drift", "(I)V"⟩, prog_2_method_14_code, 3, none)
def M_Tb_enters : Mt := (⟨R_Tb, "enters", "(I)I"⟩, prog_1_method_10_code, 2, (some .int))
def M_Fl_mayBeBoarded : Mt := (⟨R_Fl, "mayBeBoarded", "()Z"⟩, prog_2_method_7_code, 1, (some .boolean))
def M_Fl_takeIn : Mt := (⟨R_Fl, "takeIn", "(I)V"⟩, prog_2_method_11_code, 2, none)
def M_In_bitCount : Mt := (⟨R_In, "bitCount", "(I)I"⟩, prog_12_method_49_code, 1, (some .int))
def M_Tb_leaves : Mt := (⟨R_Tb, "leaves", "(I)I"⟩, prog_1_method_11_code, 2, (some .int))
def M_Fl_letOut : Mt := (⟨R_Fl, "letOut", "(I)V"⟩, prog_2_method_12_code, 2, none)
def M_Tb_undo : Mt := (⟨R_Tb, "undo", "()I"⟩, prog_1_method_12_code, 1, (some .int))
def M_Hi_pop : Mt := (⟨R_Hi, "pop", "(LThoughtBalloon$Flight;)V"⟩, prog_3_method_4_code, 2, none)
def M_Tb_now : Mt := (⟨R_Tb, "now", "(I)I"⟩, prog_1_method_13_code, 2, (some .int))
def M_To_cover : Mt := (⟨R_To, "cover", "()I"⟩, prog_9_method_17_code, 3, (some .int))
def M_To_covers : Mt := (⟨R_To, "covers", "(I)Z"⟩, prog_9_method_18_code, 3, (some .boolean))
def M_Tb_after : Mt := (⟨R_Tb, "after", "(II)I"⟩, prog_1_method_14_code, 3, (some .int))
def M_Tb_down : Mt := (⟨R_Tb, "down", "()I"⟩, prog_1_method_15_code, 2, (some .int))
def M_Tb_best : Mt := (⟨R_Tb, "best", "(III)I"⟩, prog_1_method_16_code, 4, (some .int))
def M_Se_run : Mt := (⟨R_Se, "run", "(LThoughtBalloon$Flight;II)V"⟩, prog_7_method_2_code, 4, none)
def M_Se_fillReach : Mt := (⟨R_Se, "fillReach", "()V"⟩, prog_7_method_3_code, 4, none)
def M_Se_tryTurns : Mt := (⟨R_Se, "tryTurns", "(I)V"⟩, prog_7_method_4_code, 4, none)
def M_Se_bound : Mt := (⟨R_Se, "bound", "(I)I"⟩, prog_7_method_6_code, 4, (some .int))
def M_Se_tryTurn : Mt := (⟨R_Se, "tryTurn", "(III)V"⟩, prog_7_method_5_code, 5, none)
def M_Tb_own : Mt := (⟨R_Tb, "own", "(I)I"⟩, prog_1_method_17_code, 3, (some .int))
def M_To_firstOwnWay : Mt := (⟨R_To, "firstOwnWay", "()I"⟩, prog_9_method_19_code, 6, (some .int))
def M_To_countOwn : Mt := (⟨R_To, "countOwn", "(I)I"⟩, prog_9_method_20_code, 5, (some .int))
def M_To_ownIn : Mt := (⟨R_To, "ownIn", "(II)I"⟩, prog_9_method_21_code, 6, (some .int))
def M_Tb_odds : Mt := (⟨R_Tb, "odds", "(IIIII)I"⟩, prog_1_method_18_code, 7, (some .int))
def M_Od_startAt : Mt := (⟨R_Od, "startAt", "(I)V"⟩, prog_5_method_2_code, 2, none)
def M_Od_spread : Mt := (⟨R_Od, "spread", "(II)V"⟩, prog_5_method_3_code, 4, none)
def M_Od_carry : Mt := (⟨R_Od, "carry", "(II)V"⟩, prog_5_method_4_code, 3, none)
def M_Od_upper : Mt := (⟨R_Od, "upper", "(I)I"⟩, prog_5_method_5_code, 2, (some .int))
def M_Od_common : Mt := (⟨R_Od, "common", "(I)I"⟩, prog_5_method_7_code, 6, (some .int))
def M_Od_lower : Mt := (⟨R_Od, "lower", "(I)I"⟩, prog_5_method_6_code, 2, (some .int))
def M_Tb_saw : Mt := (⟨R_Tb, "saw", "(III)I"⟩, prog_1_method_19_code, 4, (some .int))
def M_Re_add : Mt := (⟨R_Re, "add", "(III)I"⟩, prog_6_method_2_code, 4, (some .int))
def M_Tb_which : Mt := (⟨R_Tb, "which", "(I)I"⟩, prog_1_method_20_code, 2, (some .int))
def M_Tb_fitting : Mt := (⟨R_Tb, "fitting", "(I)I"⟩, prog_1_method_32_code, 4, (some .int))
def M_Tb_fits : Mt := (⟨R_Tb, "fits", "(II)Z"⟩, prog_1_method_33_code, 4, (some .boolean))
def M_Tb_heightLater : Mt := (⟨R_Tb, "heightLater", "(III)I"⟩, prog_1_method_34_code, 5, (some .int))
def M_Tb_look : Mt := (⟨R_Tb, "look", "(I)I"⟩, prog_1_method_21_code, 7, (some .int))
def M_Tb_greatestAlike : Mt := (⟨R_Tb, "greatestAlike", "(III)I"⟩, prog_1_method_35_code, 7, (some .int))
def M_Tb_hears : Mt := (⟨R_Tb, "hears", "(II)I"⟩, prog_1_method_22_code, 3, (some .int))
def M_Tb_laws : Mt := (⟨R_Tb, "laws", "(I)I"⟩, prog_1_method_23_code, 6, (some .int))
def M_Tb_isLaw : Mt := (⟨R_Tb, "isLaw", "(II)Z"⟩, prog_1_method_36_code, 4, (some .boolean))
def M_Tb_forget : Mt := (⟨R_Tb, "forget", "()I"⟩, prog_1_method_24_code, 1, (some .int))
def M_Tb_mark : Mt := (⟨R_Tb, "mark", "(II)I"⟩, prog_1_method_25_code, 3, (some .int))
def M_Tb_markLover : Mt := (⟨R_Tb, "markLover", "(I)I"⟩, prog_1_method_38_code, 2, (some .int))
def M_Tb_markOne : Mt := (⟨R_Tb, "markOne", "(I)I"⟩, prog_1_method_37_code, 2, (some .int))
def M_Tb_markGrudge : Mt := (⟨R_Tb, "markGrudge", "(I)I"⟩, prog_1_method_39_code, 2, (some .int))
def M_Tb_markPoet : Mt := (⟨R_Tb, "markPoet", "(I)I"⟩, prog_1_method_40_code, 2, (some .int))
def M_Tb_markMiser : Mt := (⟨R_Tb, "markMiser", "(I)I"⟩, prog_1_method_41_code, 2, (some .int))
def M_Tb_markWife : Mt := (⟨R_Tb, "markWife", "(I)I"⟩, prog_1_method_42_code, 2, (some .int))
def M_Tb_keep : Mt := (⟨R_Tb, "keep", "(I)I"⟩, prog_1_method_26_code, 2, (some .int))
def M_Im_take : Mt := (⟨R_Im, "take", "(LThoughtBalloon$Flight;LThoughtBalloon$History;)V"⟩, prog_4_method_2_code, 3, none)
def M_Hi_copyFrom : Mt := (⟨R_Hi, "copyFrom", "(LThoughtBalloon$History;)V"⟩, prog_3_method_5_code, 3, none)
def M_Tb_back : Mt := (⟨R_Tb, "back", "(I)I"⟩, prog_1_method_27_code, 2, (some .int))
def M_Im_give : Mt := (⟨R_Im, "give", "(LThoughtBalloon$Flight;LThoughtBalloon$History;)V"⟩, prog_4_method_3_code, 3, none)
def M_Tb_count : Mt := (⟨R_Tb, "count", "(I)I"⟩, prog_1_method_28_code, 2, (some .int))
def M_Tb_trace : Mt := (⟨R_Tb, "trace", "()J"⟩, prog_1_method_29_code, 1, (some .long))
def M_Mo_init : Mt := (⟨R_Mo, "<init>", "()V"⟩, prog_11_method_1_code, 1, none)
def M_Mo_type : Mt := (⟨R_Mo, "type", "(I)I"⟩, prog_11_method_6_code, 2, (some .int))
def M_Mo_in : Mt := (⟨R_Mo, "in", "(III)Z"⟩, prog_11_method_3_code, 3, (some .boolean))
def M_Mo_clear : Mt := (⟨R_Mo, "clear", "()I"⟩, prog_11_method_7_code, 2, (some .int))
def M_Mo_sheds : Mt := (⟨R_Mo, "sheds", "()I"⟩, prog_11_method_15_code, 2, (some .int))
def M_Mo_read : Mt := (⟨R_Mo, "read", "()V"⟩, prog_11_method_14_code, 2, none)
def M_Mo_step : Mt := (⟨R_Mo, "step", "()V"⟩, prog_11_method_9_code, 2, none)
def M_Mo_here : Mt := (⟨R_Mo, "here", "()I"⟩, prog_11_method_8_code, 1, (some .int))
def M_Mo_may : Mt := (⟨R_Mo, "may", "(I)Z"⟩, prog_11_method_13_code, 2, (some .boolean))
def M_Mo_due : Mt := (⟨R_Mo, "due", "(Z)V"⟩, prog_11_method_10_code, 2, none)
def M_Mo_item : Mt := (⟨R_Mo, "item", "(I)V"⟩, prog_11_method_12_code, 6, none)
def M_Mo_number : Mt := (⟨R_Mo, "number", "(II)I"⟩, prog_11_method_11_code, 4, (some .int))
def M_Mo_wind : Mt := (⟨R_Mo, "wind", "(I)I"⟩, prog_11_method_25_code, 2, (some .int))
def M_Mo_one : Mt := (⟨R_Mo, "one", "(II)I"⟩, prog_11_method_26_code, 3, (some .int))
def M_Mo_isOne : Mt := (⟨R_Mo, "isOne", "(I)Z"⟩, prog_11_method_17_code, 2, (some .boolean))
def M_Mo_has : Mt := (⟨R_Mo, "has", "(II)Z"⟩, prog_11_method_4_code, 2, (some .boolean))
def M_Mo_liftsOf : Mt := (⟨R_Mo, "liftsOf", "(I)I"⟩, prog_11_method_24_code, 4, (some .int))
def M_Mo_thought : Mt := (⟨R_Mo, "thought", "(II)I"⟩, prog_11_method_27_code, 3, (some .int))
def M_Mo_isThought : Mt := (⟨R_Mo, "isThought", "(I)Z"⟩, prog_11_method_18_code, 2, (some .boolean))
def M_Mo_begins : Mt := (⟨R_Mo, "begins", "(II)I"⟩, prog_11_method_29_code, 3, (some .int))
def M_Mo_canBegin : Mt := (⟨R_Mo, "canBegin", "([III)Z"⟩, prog_11_method_23_code, 3, (some .boolean))
def M_Mo_know : Mt := (⟨R_Mo, "know", "()V"⟩, prog_11_method_28_code, 2, none)
def M_Mo_begin : Mt := (⟨R_Mo, "begin", "([III)V"⟩, prog_11_method_22_code, 3, none)
def M_Mo_hold : Mt := (⟨R_Mo, "hold", "([I)I"⟩, prog_11_method_19_code, 3, (some .int))
def M_Mo_minutes : Mt := (⟨R_Mo, "minutes", "(I)I"⟩, prog_11_method_30_code, 3, (some .int))
def M_Mo_passOn : Mt := (⟨R_Mo, "passOn", "([I)V"⟩, prog_11_method_21_code, 4, none)
def M_Mo_weights : Mt := (⟨R_Mo, "weights", "([I)I"⟩, prog_11_method_20_code, 4, (some .int))
def M_Mo_enters : Mt := (⟨R_Mo, "enters", "(I)I"⟩, prog_11_method_32_code, 2, (some .int))
def M_Mo_isAtRest : Mt := (⟨R_Mo, "isAtRest", "()Z"⟩, prog_11_method_31_code, 1, (some .boolean))
def M_Mo_bitsOf : Mt := (⟨R_Mo, "bitsOf", "(I)I"⟩, prog_11_method_5_code, 3, (some .int))
def M_Mo_leaves : Mt := (⟨R_Mo, "leaves", "(I)I"⟩, prog_11_method_33_code, 2, (some .int))
def M_Mo_undo : Mt := (⟨R_Mo, "undo", "()I"⟩, prog_11_method_34_code, 2, (some .int))
def M_Mo_now : Mt := (⟨R_Mo, "now", "(I)I"⟩, prog_11_method_36_code, 2, (some .int))
def M_Mo_cover : Mt := (⟨R_Mo, "cover", "()I"⟩, prog_11_method_35_code, 5, (some .int))
def M_Mo_after : Mt := (⟨R_Mo, "after", "(II)I"⟩, prog_11_method_37_code, 4, (some .int))
def M_Mo_take : Mt := (⟨R_Mo, "take", "()V"⟩, prog_11_method_16_code, 2, none)
def M_Mo_down : Mt := (⟨R_Mo, "down", "()I"⟩, prog_11_method_38_code, 2, (some .int))
def M_Mo_best : Mt := (⟨R_Mo, "best", "(III)I"⟩, prog_11_method_40_code, 9, (some .int))
def M_Mo_goBy : Mt := (⟨R_Mo, "goBy", "(IIII)I"⟩, prog_11_method_39_code, 10, (some .int))
def M_Mo_own : Mt := (⟨R_Mo, "own", "(I)I"⟩, prog_11_method_41_code, 8, (some .int))
def M_Mo_odds : Mt := (⟨R_Mo, "odds", "(IIIII)I"⟩, prog_11_method_42_code, 12, (some .int))
def M_Mo_saw : Mt := (⟨R_Mo, "saw", "(III)I"⟩, prog_11_method_43_code, 4, (some .int))
def M_Mo_which : Mt := (⟨R_Mo, "which", "(I)I"⟩, prog_11_method_46_code, 2, (some .int))
def M_Mo_whichBy : Mt := (⟨R_Mo, "whichBy", "(I)I"⟩, prog_11_method_45_code, 6, (some .int))
def M_Mo_heightBy : Mt := (⟨R_Mo, "heightBy", "(III)I"⟩, prog_11_method_44_code, 5, (some .int))
def M_Mo_look : Mt := (⟨R_Mo, "look", "(I)I"⟩, prog_11_method_47_code, 10, (some .int))
def M_Mo_hears : Mt := (⟨R_Mo, "hears", "(II)I"⟩, prog_11_method_48_code, 3, (some .int))
def M_Mo_laws : Mt := (⟨R_Mo, "laws", "(I)I"⟩, prog_11_method_49_code, 9, (some .int))
def M_Mo_forget : Mt := (⟨R_Mo, "forget", "()I"⟩, prog_11_method_50_code, 2, (some .int))
def M_Mo_mark : Mt := (⟨R_Mo, "mark", "(II)I"⟩, prog_11_method_52_code, 7, (some .int))
def M_Mo_bodiesOf : Mt := (⟨R_Mo, "bodiesOf", "(I)I"⟩, prog_11_method_51_code, 1, (some .int))
def M_Mo_trace : Mt := (⟨R_Mo, "trace", "()J"⟩, prog_11_method_53_code, 1, (some .long))
def M_Mo_keep : Mt := (⟨R_Mo, "keep", "(I)I"⟩, prog_11_method_54_code, 3, (some .int))
def M_Mo_back : Mt := (⟨R_Mo, "back", "(I)I"⟩, prog_11_method_55_code, 3, (some .int))
def M_Mo_count : Mt := (⟨R_Mo, "count", "(I)I"⟩, prog_11_method_56_code, 2, (some .int))
def M_La_law : Mt := (⟨R_La, "law", "([I)Z"⟩, code, 4, some .boolean)
end
section
/-! THE ENGINE. A heap is a function from numbers to cells; a method's run is said over it, and carried to the machine once and for all. -/
/-- a cell: ints (type, length, contents), references (type, length, contents), an object (class, fields) -/
abbrev AC : Type := (Nat × Nat × (Nat → Int32)) ⊕ (Nat × Nat × (Nat → Option Nat)) ⊕ (Nat × List Value)
/-- a heap: how many cells and slots have been made; the cells -/
abbrev AH : Type := (Nat × Nat) × (Nat → Option AC)
/-- what a run is over: the launch, the classes' numbers and slots, the array classes; where new cells begin, where the read-only rows lie, what they hold -/
abbrev EX : Type := (Launch × va_G × (Nat → ClassId)) × (Nat × (Nat → Nat) × (Nat → Nat × (Nat → Int32)))
def e_am (X : EX) (k : Nat) : Nat := if k < 1000000 then X.2.1 + k else X.2.2.1 (k - 1000000)
def e_tr (X : EX) : Value → Value
  | .ref k => .ref (e_am X k)
  | v => v
def e_rf (X : EX) : Option Nat → Value
  | none => .null
  | some k => .ref (e_am X k)
def e_A (X : EX) : Nat → Prop := fun q => X.2.1 ≤ q
def e_tys : List FieldType := [.int, .byte, .boolean, .object R_Fl, .object R_Im, .array .int]
def e_at (X : EX) (k : Nat) (c : AC) (H : Heap) : Prop := match c with
  | .inl a => H[X.2.1 + k]? = some (arrV (X.1.2.2 a.1) a.2.1 (fun j => .int (a.2.2 j)))
  | .inr (.inl a) => H[X.2.1 + k]? = some (arrV (X.1.2.2 a.1) a.2.1 (fun j => e_rf X (a.2.2 j)))
  | .inr (.inr o) => ∃ r : vw_C, e_cl[o.1]? = some r ∧ t_OB (X.2.1 + k) (X.1.2.1.1 o.1) r.2.2 (X.1.2.1.2 o.1) H (vp_V (o.2.map (e_tr X)))
def e_P (X : EX) (h : AH) (H : Heap) : Prop := H.size = X.2.1 + h.1.1 ∧ ∀ (k : Nat) (c : AC), h.2 k = some c → k < 1000000 ∧ e_at X k c H
def e_put (h : AH) (a : Nat) (c : AC) : AH := (h.1, fun k => if k = a then some c else h.2 k)
def e_new (h : AH) (c : AC) (n : Nat) : AH := ((h.1.1 + 1, h.1.2 + n), fun k => if k = h.1.1 then some c else h.2 k)
def e_K (X : EX) (U : State) : Prop := va_K X.1.2.1 e_cl ((List.range 6).map (fun t => (X.1.2.2 t, e_tys.getD t .int))) U
def e_N (U : State) : Prop := ∀ w ∈ e_nw, va_Nw w U
def e_O (U : State) : Prop := va_AO R_Fl U ∧ va_AO R_Im U
def e_RO (X : EX) (U : State) (H : Heap) : Prop := ∀ j : Nat, j < 4 → ∃ cell : Cell, H[X.2.2.1 j]? = some cell ∧ U.isArrayOf cell .int ∧ cell.vm ≠ .unknown ∧ cell.slots.size = (X.2.2.2 j).1 ∧ (∀ i : Nat, i < (X.2.2.2 j).1 → cell.slots[i]? = some (.int ((X.2.2.2 j).2 i))) ∧ X.2.2.1 j < X.2.1
def e_Z (X : EX) (U : State) (H : Heap) : Prop := va_Z R_Tx "NUMBERS" "[I" (.ref (X.2.2.1 0)) (e_A X) U H ∧ va_Z R_Tx "LEAST" "[I" (.ref (X.2.2.1 1)) (e_A X) U H ∧ va_Z R_Tx "MOST" "[I" (.ref (X.2.2.1 2)) (e_A X) U H
def e_E (X : EX) (U : State) (H : Heap) : Prop := e_K X U ∧ e_N U ∧ e_O U ∧ e_RO X U H ∧ e_Z X U H ∧ X.2.1 ≤ H.size
def e_C (X : EX) (M : Mt) (p : Program) (s : State) (m : MethodId) (args : Array Value) (meth : Method) (c : Code) : Prop :=
  p.tables.exec = Jvm.exec ∧ c.code = M.2.1 ∧ c.maxLocals = M.2.2.1 ∧ s.vm.findClass M.1.cls = some m.cls ∧ (∀ w ∈ e_gw, w.before args s = true) ∧ meth.sig.returnType = M.2.2.2 ∧ meth.locks = false ∧ (M.1.name = "<init>" → meth.name = "<init>") ∧ e_E X s s.heap
def e_L (X : EX) (n : Nat) (ls : List Value) (l : Array Slot) : Prop := ls.length = n ∧ l.size = n ∧ lv_wf l ∧ ∀ (i : Nat) (v : Value), ls[i]? = some v → v ≠ .null → l[i]? = some (.val (e_tr X v))
def e_F (X : EX) (M : Mt) (p : Program) (e : Env) (R : Room) (s : State) (m : MethodId) (args : Array Value) (below : List Frame) (meth : Method) (c : Code) (n0 s0 : Nat) (Q : State → Prop) (r : Option Value) (h' : AH) : Prop :=
  ∀ (H : Heap) (locs : List Loc) (l : Array Slot) (pc cells slots : Nat), e_P X h' H → va_S (e_A X) s.heap H locs → cells + n0 = h'.1.1 → slots + s0 = h'.1.2 →
    (r = none → M.2.2.2 = none → decode M.2.1 pc = .ok (.return_, 1) → W p X.1.1 e R s m args below meth c H locs cells slots Q (F0 m pc l [])) ∧
    (∀ (v : Int32) (ty : FieldType), r = some (.int v) → M.2.2.2 = some ty → narrow ty (.int v) = .int v → decode M.2.1 pc = .ok (.ireturn, 1) → W p X.1.1 e R s m args below meth c H locs cells slots Q (F0 m pc l [.int v])) ∧
    (∀ v : Int64, r = some (.long v) → M.2.2.2 = some .long → decode M.2.1 pc = .ok (.lreturn, 1) → W p X.1.1 e R s m args below meth c H locs cells slots Q (F0 m pc l [.long v]))
def e_W (X : EX) (d : Nat) (M : Mt) (pc : Nat) (ls st : List Value) (h : AH) (r : Option Value) (h' : AH) : Prop :=
  (h.1.1 ≤ h'.1.1 ∧ h.1.2 ≤ h'.1.2) ∧ ∀ (p : Program) (e : Env) (R : Room) (s : State) (m : MethodId) (args : Array Value) (below : List Frame) (meth : Method) (c : Code) (H : Heap) (locs : List Loc) (cells slots : Nat) (Q : State → Prop) (n0 s0 : Nat) (l : Array Slot),
    e_C X M p s m args meth c → d ≤ R.frames → 60 * d ≤ R.locals → h'.1.1 ≤ R.cells + n0 → h'.1.2 ≤ R.slots + s0 → e_P X h H → va_S (e_A X) s.heap H locs → cells + n0 = h.1.1 → slots + s0 = h.1.2 → e_L X M.2.2.1 ls l → e_F X M p e R s m args below meth c n0 s0 Q r h' →
    W p X.1.1 e R s m args below meth c H locs cells slots Q (F0 m pc l (st.map (e_tr X)))
/-- from this point of the method it comes to its end, and Q of its answer and the heap -/
def T (X : EX) (d : Nat) (M : Mt) (pc : Nat) (ls st : List Value) (h : AH) (Q : Option Value → AH → Prop) : Prop := ∃ (r : Option Value) (h' : AH), Q r h' ∧ e_W X d M pc ls st h r h'
def e_Pc (X : EX) (av : List Value) (h : AH) : Array Value → State → Prop := fun v U => v = (av.map (e_tr X)).toArray ∧ e_P X h U.heap ∧ e_E X U U.heap
def e_Qc (X : EX) (r : Option Value) (h' : AH) : Array Value → State → Outcome → State → Prop := fun _ st oc t => oc = .returned (r.map (e_tr X)) ∧ e_P X h' t.heap ∧ va_F (e_A X) st t
def e_ws (M : Mt) : List Cond := .code M.1 M.2.1 M.2.2.1 M.2.2.2 :: e_gw
def e_M (X : EX) (d : Nat) (M : Mt) (av : List Value) (h : AH) (r : Option Value) (h' : AH) : Prop :=
  (h.1.1 ≤ h'.1.1 ∧ h.1.2 ≤ h'.1.2) ∧ Met X.1.1 M.1 (e_ws M) ({ frames := d, cells := h'.1.1 - h.1.1, slots := h'.1.2 - h.1.2, locals := 60 * d }) (e_Pc X av h) (e_Qc X r h') (h'.1.1 - h.1.1) (h'.1.2 - h.1.2) (e_A X)
/-- a method's contract: called so, it ends, and Q of its answer and the heap -/
def C (X : EX) (d : Nat) (M : Mt) (av : List Value) (h : AH) (Q : Option Value → AH → Prop) : Prop := ∃ (r : Option Value) (h' : AH), Q r h' ∧ e_M X d M av h r h'
section ENG
variable {X : EX} {d : Nat} {M : Mt} {pc pc' : Nat} {ls ls' st st' : List Value} {h : AH} {Q : Option Value → AH → Prop}
/-- one step that leaves the heap as it is -/
theorem T_pure (hw : ∀ (p : Program) (e : Env) (R : Room) (s : State) (m : MethodId) (args : Array Value) (below : List Frame) (meth : Method) (c : Code) (H : Heap) (locs : List Loc) (cells slots : Nat) (Q : State → Prop) (l : Array Slot), e_C X M p s m args meth c → d ≤ R.frames → 60 * d ≤ R.locals → cells ≤ R.cells → slots ≤ R.slots → e_P X h H → va_S (e_A X) s.heap H locs → e_L X M.2.2.1 ls l → (∀ l' : Array Slot, e_L X M.2.2.1 ls' l' → W p X.1.1 e R s m args below meth c H locs cells slots Q (F0 m pc' l' (st'.map (e_tr X)))) → W p X.1.1 e R s m args below meth c H locs cells slots Q (F0 m pc l (st.map (e_tr X))))
    (k : T X d M pc' ls' st' h Q) : T X d M pc ls st h Q := by
  obtain ⟨r, h', q, mono, w⟩ := k
  refine ⟨r, h', q, mono, fun p e R s m args below meth c H locs cells slots Q n0 s0 l hC h1 h2 h3 h4 hP hS hc hs hL hF => ?_⟩
  exact hw p e R s m args below meth c H locs cells slots Q l hC h1 h2 (by omega) (by omega) hP hS hL (fun l' hL' => w p e R s m args below meth c H locs cells slots Q n0 s0 l' hC h1 h2 h3 h4 hP hS hc hs hL' hF)
theorem T_iconst {n : Int} {v : Int32} (hd : decode M.2.1 pc = .ok (.iconst n, 1)) (hn : pc + 1 = pc') (hv : Int32.ofInt n = v) (k : T X d M pc' ls (.int v :: st) h Q) : T X d M pc ls st h Q :=
  T_pure (fun p e R s m args below meth c H locs cells slots Q l hC _ _ _ _ _ _ hL hk => lv_iconst hC.1 hC.2.1 hd hv (by rw [hn]; exact hk l hL)) k
theorem T_bipush {n : Int} {v : Int32} (hd : decode M.2.1 pc = .ok (.bipush n, 2)) (hn : pc + 2 = pc') (hv : (Int8.ofInt n).toInt32 = v) (k : T X d M pc' ls (.int v :: st) h Q) : T X d M pc ls st h Q :=
  T_pure (fun p e R s m args below meth c H locs cells slots Q l hC _ _ _ _ _ _ hL hk => lv_bipush hC.1 hC.2.1 hd hv (by rw [hn]; exact hk l hL)) k
theorem T_sipush {n : Int} {v : Int32} (hd : decode M.2.1 pc = .ok (.sipush n, 3)) (hn : pc + 3 = pc') (hv : (Int16.ofInt n).toInt32 = v) (k : T X d M pc' ls (.int v :: st) h Q) : T X d M pc ls st h Q :=
  T_pure (fun p e R s m args below meth c H locs cells slots Q l hC _ _ _ _ _ _ hL hk => lv_sipush hC.1 hC.2.1 hd hv (by rw [hn]; exact hk l hL)) k
theorem T_lconst {n : Fin 2} {v : Int64} (hd : decode M.2.1 pc = .ok (.lconst n, 1)) (hn : pc + 1 = pc') (hv : Int64.ofNat (n : Nat) = v) (k : T X d M pc' ls (.long v :: st) h Q) : T X d M pc ls st h Q :=
  T_pure (fun p e R s m args below meth c H locs cells slots Q l hC _ _ _ _ _ _ hL hk => lv_lconst hC.1 hC.2.1 hd hv (by rw [hn]; exact hk l hL)) k
theorem T_ldc {index : Nat} {v : Int32} (hd : decode M.2.1 pc = .ok (.ldc index, 2)) (hn : pc + 2 = pc') (hv : Cond.constant M.1.cls index v ∈ e_gw) (k : T X d M pc' ls (.int v :: st) h Q) : T X d M pc ls st h Q :=
  T_pure (fun p e R s m args below meth c H locs cells slots Q l hC _ _ _ _ _ _ hL hk => lv_ldc hC.1 hC.2.1 hC.2.2.2.1 (hC.2.2.2.2.1 _ hv) hd (by rw [hn]; exact hk l hL)) k
theorem T_ldcw {index : Nat} {v : Int32} (hd : decode M.2.1 pc = .ok (.ldc_w index, 3)) (hn : pc + 3 = pc') (hv : Cond.constant M.1.cls index v ∈ e_gw) (k : T X d M pc' ls (.int v :: st) h Q) : T X d M pc ls st h Q :=
  T_pure (fun p e R s m args below meth c H locs cells slots Q l hC _ _ _ _ _ _ hL hk => lv_ldcw hC.1 hC.2.1 hC.2.2.2.1 (hC.2.2.2.2.1 _ hv) hd (by rw [hn]; exact hk l hL)) k
theorem T_ldc2 {index : Nat} {v : Int64} (hd : decode M.2.1 pc = .ok (.ldc2_w index, 3)) (hn : pc + 3 = pc') (hv : Cond.constantLong M.1.cls index v ∈ e_gw) (k : T X d M pc' ls (.long v :: st) h Q) : T X d M pc ls st h Q :=
  T_pure (fun p e R s m args below meth c H locs cells slots Q l hC _ _ _ _ _ _ hL hk => lv_ldc2 hC.1 hC.2.1 hC.2.2.2.1 (hC.2.2.2.2.1 _ hv) hd (by rw [hn]; exact hk l hL)) k
theorem e_Lat {n i : Nat} {l : Array Slot} {v : Value} (hL : e_L X n ls l) (hi : ls[i]? = some v) (hv : v ≠ .null) : l[i]? = some (.val (e_tr X v)) := hL.2.2.2 i v hi hv
theorem T_iload_n {k : Fin 4} {i : Nat} {x : Int32} (hd : decode M.2.1 pc = .ok (.iload_n k, 1)) (hn : pc + 1 = pc') (hk : (k : Nat) = i) (hl : ls[i]? = some (.int x)) (kk : T X d M pc' ls (.int x :: st) h Q) : T X d M pc ls st h Q :=
  T_pure (fun p e R s m args below meth c H locs cells slots Q l hC _ _ _ _ _ _ hL hq => lv_iload_n hC.1 hC.2.1 hd hk (e_Lat hL hl (fun z => by cases z)) (by rw [hn]; exact hq l hL)) kk
theorem T_iload {i : Nat} {x : Int32} (hd : decode M.2.1 pc = .ok (.iload i, 2)) (hn : pc + 2 = pc') (hl : ls[i]? = some (.int x)) (kk : T X d M pc' ls (.int x :: st) h Q) : T X d M pc ls st h Q :=
  T_pure (fun p e R s m args below meth c H locs cells slots Q l hC _ _ _ _ _ _ hL hq => lv_iload hC.1 hC.2.1 hd (e_Lat hL hl (fun z => by cases z)) (by rw [hn]; exact hq l hL)) kk
theorem T_lload {i : Nat} {x : Int64} (hd : decode M.2.1 pc = .ok (.lload i, 2)) (hn : pc + 2 = pc') (hl : ls[i]? = some (.long x)) (kk : T X d M pc' ls (.long x :: st) h Q) : T X d M pc ls st h Q :=
  T_pure (fun p e R s m args below meth c H locs cells slots Q l hC _ _ _ _ _ _ hL hq => lv_lload hC.1 hC.2.1 hd (e_Lat hL hl (fun z => by cases z)) (by rw [hn]; exact hq l hL)) kk
theorem T_aload_n {k : Fin 4} {i : Nat} {x : Nat} (hd : decode M.2.1 pc = .ok (.aload_n k, 1)) (hn : pc + 1 = pc') (hk : (k : Nat) = i) (hl : ls[i]? = some (.ref x)) (kk : T X d M pc' ls (.ref x :: st) h Q) : T X d M pc ls st h Q :=
  T_pure (fun p e R s m args below meth c H locs cells slots Q l hC _ _ _ _ _ _ hL hq => lv_aload_n hC.1 hC.2.1 hd hk (e_Lat hL hl (fun z => by cases z)) (by rw [hn]; exact hq l hL)) kk
theorem T_aload {i : Nat} {x : Nat} (hd : decode M.2.1 pc = .ok (.aload i, 2)) (hn : pc + 2 = pc') (hl : ls[i]? = some (.ref x)) (kk : T X d M pc' ls (.ref x :: st) h Q) : T X d M pc ls st h Q :=
  T_pure (fun p e R s m args below meth c H locs cells slots Q l hC _ _ _ _ _ _ hL hq => lv_aload hC.1 hC.2.1 hd (e_Lat hL hl (fun z => by cases z)) (by rw [hn]; exact hq l hL)) kk
theorem T_iadd {x y : Int32} (hd : decode M.2.1 pc = .ok (.iadd, 1)) (hn : pc + 1 = pc') (k : T X d M pc' ls (.int (x + y) :: st) h Q) : T X d M pc ls (.int y :: .int x :: st) h Q :=
  T_pure (fun p e R s m args below meth c H locs cells slots Q l hC _ _ _ _ _ _ hL hk => lv_iadd hC.1 hC.2.1 hd (by rw [hn]; exact hk l hL)) k
theorem T_isub {x y : Int32} (hd : decode M.2.1 pc = .ok (.isub, 1)) (hn : pc + 1 = pc') (k : T X d M pc' ls (.int (x - y) :: st) h Q) : T X d M pc ls (.int y :: .int x :: st) h Q :=
  T_pure (fun p e R s m args below meth c H locs cells slots Q l hC _ _ _ _ _ _ hL hk => lv_isub hC.1 hC.2.1 hd (by rw [hn]; exact hk l hL)) k
theorem T_imul {x y : Int32} (hd : decode M.2.1 pc = .ok (.imul, 1)) (hn : pc + 1 = pc') (k : T X d M pc' ls (.int (x * y) :: st) h Q) : T X d M pc ls (.int y :: .int x :: st) h Q :=
  T_pure (fun p e R s m args below meth c H locs cells slots Q l hC _ _ _ _ _ _ hL hk => lv_imul hC.1 hC.2.1 hd (by rw [hn]; exact hk l hL)) k
theorem T_idiv {x y : Int32} (hd : decode M.2.1 pc = .ok (.idiv, 1)) (hn : pc + 1 = pc') (hy : ¬ y = 0) (k : T X d M pc' ls (.int (x / y) :: st) h Q) : T X d M pc ls (.int y :: .int x :: st) h Q :=
  T_pure (fun p e R s m args below meth c H locs cells slots Q l hC _ _ _ _ _ _ hL hk => lv_idiv hC.1 hC.2.1 hd hy (by rw [hn]; exact hk l hL)) k
theorem T_irem {x y : Int32} (hd : decode M.2.1 pc = .ok (.irem, 1)) (hn : pc + 1 = pc') (hy : ¬ y = 0) (k : T X d M pc' ls (.int (x - x / y * y) :: st) h Q) : T X d M pc ls (.int y :: .int x :: st) h Q :=
  T_pure (fun p e R s m args below meth c H locs cells slots Q l hC _ _ _ _ _ _ hL hk => lv_irem hC.1 hC.2.1 hd hy (by rw [hn]; exact hk l hL)) k
theorem T_ineg {x : Int32} (hd : decode M.2.1 pc = .ok (.ineg, 1)) (hn : pc + 1 = pc') (k : T X d M pc' ls (.int (-x) :: st) h Q) : T X d M pc ls (.int x :: st) h Q :=
  T_pure (fun p e R s m args below meth c H locs cells slots Q l hC _ _ _ _ _ _ hL hk => lv_ineg hC.1 hC.2.1 hd (by rw [hn]; exact hk l hL)) k
theorem T_iand {x y : Int32} (hd : decode M.2.1 pc = .ok (.iand, 1)) (hn : pc + 1 = pc') (k : T X d M pc' ls (.int (x &&& y) :: st) h Q) : T X d M pc ls (.int y :: .int x :: st) h Q :=
  T_pure (fun p e R s m args below meth c H locs cells slots Q l hC _ _ _ _ _ _ hL hk => lv_iand hC.1 hC.2.1 hd (by rw [hn]; exact hk l hL)) k
theorem T_ior {x y : Int32} (hd : decode M.2.1 pc = .ok (.ior, 1)) (hn : pc + 1 = pc') (k : T X d M pc' ls (.int (x ||| y) :: st) h Q) : T X d M pc ls (.int y :: .int x :: st) h Q :=
  T_pure (fun p e R s m args below meth c H locs cells slots Q l hC _ _ _ _ _ _ hL hk => lv_ior hC.1 hC.2.1 hd (by rw [hn]; exact hk l hL)) k
theorem T_ixor {x y : Int32} (hd : decode M.2.1 pc = .ok (.ixor, 1)) (hn : pc + 1 = pc') (k : T X d M pc' ls (.int (x ^^^ y) :: st) h Q) : T X d M pc ls (.int y :: .int x :: st) h Q :=
  T_pure (fun p e R s m args below meth c H locs cells slots Q l hC _ _ _ _ _ _ hL hk => lv_ixor hC.1 hC.2.1 hd (by rw [hn]; exact hk l hL)) k
theorem T_ishl {x y : Int32} (hd : decode M.2.1 pc = .ok (.ishl, 1)) (hn : pc + 1 = pc') (k : T X d M pc' ls (.int (x <<< (y &&& 31)) :: st) h Q) : T X d M pc ls (.int y :: .int x :: st) h Q :=
  T_pure (fun p e R s m args below meth c H locs cells slots Q l hC _ _ _ _ _ _ hL hk => lv_ishl hC.1 hC.2.1 hd (by rw [hn]; exact hk l hL)) k
theorem T_ishr {x y : Int32} (hd : decode M.2.1 pc = .ok (.ishr, 1)) (hn : pc + 1 = pc') (k : T X d M pc' ls (.int (x >>> (y &&& 31)) :: st) h Q) : T X d M pc ls (.int y :: .int x :: st) h Q :=
  T_pure (fun p e R s m args below meth c H locs cells slots Q l hC _ _ _ _ _ _ hL hk => lv_ishr hC.1 hC.2.1 hd (by rw [hn]; exact hk l hL)) k
theorem T_iushr {x y : Int32} (hd : decode M.2.1 pc = .ok (.iushr, 1)) (hn : pc + 1 = pc') (k : T X d M pc' ls (.int ((x.toUInt32 >>> (y.toUInt32 &&& Int32.toUInt32 31)).toInt32) :: st) h Q) : T X d M pc ls (.int y :: .int x :: st) h Q :=
  T_pure (fun p e R s m args below meth c H locs cells slots Q l hC _ _ _ _ _ _ hL hk => lv_iushr hC.1 hC.2.1 hd rfl (by rw [hn]; exact hk l hL)) k
theorem T_i2b {x : Int32} (hd : decode M.2.1 pc = .ok (.i2b, 1)) (hn : pc + 1 = pc') (k : T X d M pc' ls (.int x.toInt8.toInt32 :: st) h Q) : T X d M pc ls (.int x :: st) h Q :=
  T_pure (fun p e R s m args below meth c H locs cells slots Q l hC _ _ _ _ _ _ hL hk => lv_i2b hC.1 hC.2.1 hd rfl (by rw [hn]; exact hk l hL)) k
theorem T_ladd {x y : Int64} (hd : decode M.2.1 pc = .ok (.ladd, 1)) (hn : pc + 1 = pc') (k : T X d M pc' ls (.long (x + y) :: st) h Q) : T X d M pc ls (.long y :: .long x :: st) h Q :=
  T_pure (fun p e R s m args below meth c H locs cells slots Q l hC _ _ _ _ _ _ hL hk => lv_ladd hC.1 hC.2.1 hd (by rw [hn]; exact hk l hL)) k
theorem T_lmul {x y : Int64} (hd : decode M.2.1 pc = .ok (.lmul, 1)) (hn : pc + 1 = pc') (k : T X d M pc' ls (.long (x * y) :: st) h Q) : T X d M pc ls (.long y :: .long x :: st) h Q :=
  T_pure (fun p e R s m args below meth c H locs cells slots Q l hC _ _ _ _ _ _ hL hk => lv_lmul hC.1 hC.2.1 hd (by rw [hn]; exact hk l hL)) k
theorem T_lcmp {x y : Int64} (hd : decode M.2.1 pc = .ok (.lcmp, 1)) (hn : pc + 1 = pc') (k : T X d M pc' ls (.int (lg_cmp x y) :: st) h Q) : T X d M pc ls (.long y :: .long x :: st) h Q :=
  T_pure (fun p e R s m args below meth c H locs cells slots Q l hC _ _ _ _ _ _ hL hk => W.lcmp hC.1 hC.2.1 hd (by rw [hn]; exact hk l hL)) k
theorem e_cat (v : Value) : (e_tr X v).category = v.category := by cases v <;> rfl
theorem T_dup {v : Value} (hd : decode M.2.1 pc = .ok (.dup, 1)) (hn : pc + 1 = pc') (hv : v.category = 1) (k : T X d M pc' ls (v :: v :: st) h Q) : T X d M pc ls (v :: st) h Q :=
  T_pure (fun p e R s m args below meth c H locs cells slots Q l hC _ _ _ _ _ _ hL hk => lv_dup hC.1 hC.2.1 hd ((e_cat v).trans hv) (by rw [hn]; exact hk l hL)) k
theorem T_pop {v : Value} (hd : decode M.2.1 pc = .ok (.pop, 1)) (hn : pc + 1 = pc') (hv : v.category = 1) (k : T X d M pc' ls st h Q) : T X d M pc ls (v :: st) h Q :=
  T_pure (fun p e R s m args below meth c H locs cells slots Q l hC _ _ _ _ _ _ hL hk => lv_pop hC.1 hC.2.1 hd ((e_cat v).trans hv) (by rw [hn]; exact hk l hL)) k
theorem T_dup2 {v w : Value} (hd : decode M.2.1 pc = .ok (.dup2, 1)) (hn : pc + 1 = pc') (hv : v.category = 1) (hw : w.category = 1) (k : T X d M pc' ls (v :: w :: v :: w :: st) h Q) : T X d M pc ls (v :: w :: st) h Q :=
  T_pure (fun p e R s m args below meth c H locs cells slots Q l hC _ _ _ _ _ _ hL hk => lv_dup2_11 hC.1 hC.2.1 hd ((e_cat v).trans hv) ((e_cat w).trans hw) (by rw [hn]; exact hk l hL)) k
theorem T_goto {off : Int} (hd : decode M.2.1 pc = .ok (.goto off, 3)) (hn : (pc : Int) + off = (pc' : Int)) (k : T X d M pc' ls st h Q) : T X d M pc ls st h Q :=
  T_pure (fun p e R s m args below meth c H locs cells slots Q l hC _ _ _ _ _ _ hL hk => lv_goto hC.1 hC.2.1 hd hn (hk l hL)) k
end ENG
end
section
section ENG2
variable {X : EX} {d : Nat} {M : Mt} {pc pc' : Nat} {ls ls' st st' : List Value} {h : AH} {Q : Option Value → AH → Prop}
theorem T_icmp_eq {x y : Int32} {off : Int} {tgt : Nat} (hd : decode M.2.1 pc = .ok (.if_icmp .eq off, 3)) (hn : pc + 3 = pc') (ht : (pc : Int) + off = (tgt : Int)) (kt : x = y → T X d M tgt ls st h Q) (kf : ¬ x = y → T X d M pc' ls st h Q) : T X d M pc ls (.int y :: .int x :: st) h Q := by
  by_cases hc : x = y
  · exact T_pure (fun p e R s m args below meth c H locs cells slots Q l hC _ _ _ _ _ _ hL hk => lv_icmp_eq hC.1 hC.2.1 hd ht (fun _ => hk l hL) (fun q => absurd hc (by first | exact q | (intro z; exact absurd z q) | simpa using q))) (kt hc)
  · exact T_pure (fun p e R s m args below meth c H locs cells slots Q l hC _ _ _ _ _ _ hL hk => lv_icmp_eq hC.1 hC.2.1 hd ht (fun q => absurd q hc) (fun _ => by rw [hn]; exact hk l hL)) (kf (by first | exact hc | simpa using hc))
theorem T_if_eq {x : Int32} {off : Int} {tgt : Nat} (hd : decode M.2.1 pc = .ok (.ifCond .eq off, 3)) (hn : pc + 3 = pc') (ht : (pc : Int) + off = (tgt : Int)) (kt : x = 0 → T X d M tgt ls st h Q) (kf : ¬ x = 0 → T X d M pc' ls st h Q) : T X d M pc ls (.int x :: st) h Q := by
  by_cases hc : x = 0
  · exact T_pure (fun p e R s m args below meth c H locs cells slots Q l hC _ _ _ _ _ _ hL hk => lv_if_eq hC.1 hC.2.1 hd ht (fun _ => hk l hL) (fun q => absurd hc (by first | exact q | (intro z; exact absurd z q) | simpa using q))) (kt hc)
  · exact T_pure (fun p e R s m args below meth c H locs cells slots Q l hC _ _ _ _ _ _ hL hk => lv_if_eq hC.1 hC.2.1 hd ht (fun q => absurd q hc) (fun _ => by rw [hn]; exact hk l hL)) (kf (by first | exact hc | simpa using hc))
theorem T_icmp_ne {x y : Int32} {off : Int} {tgt : Nat} (hd : decode M.2.1 pc = .ok (.if_icmp .ne off, 3)) (hn : pc + 3 = pc') (ht : (pc : Int) + off = (tgt : Int)) (kt : ¬ x = y → T X d M tgt ls st h Q) (kf : x = y → T X d M pc' ls st h Q) : T X d M pc ls (.int y :: .int x :: st) h Q := by
  by_cases hc : ¬ x = y
  · exact T_pure (fun p e R s m args below meth c H locs cells slots Q l hC _ _ _ _ _ _ hL hk => lv_icmp_ne hC.1 hC.2.1 hd ht (fun _ => hk l hL) (fun q => absurd hc (by first | exact q | (intro z; exact absurd z q) | simpa using q))) (kt hc)
  · exact T_pure (fun p e R s m args below meth c H locs cells slots Q l hC _ _ _ _ _ _ hL hk => lv_icmp_ne hC.1 hC.2.1 hd ht (fun q => absurd q hc) (fun _ => by rw [hn]; exact hk l hL)) (kf (by first | exact hc | simpa using hc))
theorem T_if_ne {x : Int32} {off : Int} {tgt : Nat} (hd : decode M.2.1 pc = .ok (.ifCond .ne off, 3)) (hn : pc + 3 = pc') (ht : (pc : Int) + off = (tgt : Int)) (kt : ¬ x = 0 → T X d M tgt ls st h Q) (kf : x = 0 → T X d M pc' ls st h Q) : T X d M pc ls (.int x :: st) h Q := by
  by_cases hc : ¬ x = 0
  · exact T_pure (fun p e R s m args below meth c H locs cells slots Q l hC _ _ _ _ _ _ hL hk => lv_if_ne hC.1 hC.2.1 hd ht (fun _ => hk l hL) (fun q => absurd hc (by first | exact q | (intro z; exact absurd z q) | simpa using q))) (kt hc)
  · exact T_pure (fun p e R s m args below meth c H locs cells slots Q l hC _ _ _ _ _ _ hL hk => lv_if_ne hC.1 hC.2.1 hd ht (fun q => absurd q hc) (fun _ => by rw [hn]; exact hk l hL)) (kf (by first | exact hc | simpa using hc))
theorem T_icmp_lt {x y : Int32} {off : Int} {tgt : Nat} (hd : decode M.2.1 pc = .ok (.if_icmp .lt off, 3)) (hn : pc + 3 = pc') (ht : (pc : Int) + off = (tgt : Int)) (kt : x < y → T X d M tgt ls st h Q) (kf : ¬ x < y → T X d M pc' ls st h Q) : T X d M pc ls (.int y :: .int x :: st) h Q := by
  by_cases hc : x < y
  · exact T_pure (fun p e R s m args below meth c H locs cells slots Q l hC _ _ _ _ _ _ hL hk => lv_icmp_lt hC.1 hC.2.1 hd ht (fun _ => hk l hL) (fun q => absurd hc (by first | exact q | (intro z; exact absurd z q) | simpa using q))) (kt hc)
  · exact T_pure (fun p e R s m args below meth c H locs cells slots Q l hC _ _ _ _ _ _ hL hk => lv_icmp_lt hC.1 hC.2.1 hd ht (fun q => absurd q hc) (fun _ => by rw [hn]; exact hk l hL)) (kf (by first | exact hc | simpa using hc))
theorem T_if_lt {x : Int32} {off : Int} {tgt : Nat} (hd : decode M.2.1 pc = .ok (.ifCond .lt off, 3)) (hn : pc + 3 = pc') (ht : (pc : Int) + off = (tgt : Int)) (kt : x < 0 → T X d M tgt ls st h Q) (kf : ¬ x < 0 → T X d M pc' ls st h Q) : T X d M pc ls (.int x :: st) h Q := by
  by_cases hc : x < 0
  · exact T_pure (fun p e R s m args below meth c H locs cells slots Q l hC _ _ _ _ _ _ hL hk => lv_if_lt hC.1 hC.2.1 hd ht (fun _ => hk l hL) (fun q => absurd hc (by first | exact q | (intro z; exact absurd z q) | simpa using q))) (kt hc)
  · exact T_pure (fun p e R s m args below meth c H locs cells slots Q l hC _ _ _ _ _ _ hL hk => lv_if_lt hC.1 hC.2.1 hd ht (fun q => absurd q hc) (fun _ => by rw [hn]; exact hk l hL)) (kf (by first | exact hc | simpa using hc))
theorem T_icmp_ge {x y : Int32} {off : Int} {tgt : Nat} (hd : decode M.2.1 pc = .ok (.if_icmp .ge off, 3)) (hn : pc + 3 = pc') (ht : (pc : Int) + off = (tgt : Int)) (kt : y ≤ x → T X d M tgt ls st h Q) (kf : ¬ y ≤ x → T X d M pc' ls st h Q) : T X d M pc ls (.int y :: .int x :: st) h Q := by
  by_cases hc : y ≤ x
  · exact T_pure (fun p e R s m args below meth c H locs cells slots Q l hC _ _ _ _ _ _ hL hk => lv_icmp_ge hC.1 hC.2.1 hd ht (fun _ => hk l hL) (fun q => absurd hc (by first | exact q | (intro z; exact absurd z q) | simpa using q))) (kt hc)
  · exact T_pure (fun p e R s m args below meth c H locs cells slots Q l hC _ _ _ _ _ _ hL hk => lv_icmp_ge hC.1 hC.2.1 hd ht (fun q => absurd q hc) (fun _ => by rw [hn]; exact hk l hL)) (kf (by first | exact hc | simpa using hc))
theorem T_if_ge {x : Int32} {off : Int} {tgt : Nat} (hd : decode M.2.1 pc = .ok (.ifCond .ge off, 3)) (hn : pc + 3 = pc') (ht : (pc : Int) + off = (tgt : Int)) (kt : 0 ≤ x → T X d M tgt ls st h Q) (kf : ¬ 0 ≤ x → T X d M pc' ls st h Q) : T X d M pc ls (.int x :: st) h Q := by
  by_cases hc : 0 ≤ x
  · exact T_pure (fun p e R s m args below meth c H locs cells slots Q l hC _ _ _ _ _ _ hL hk => lv_if_ge hC.1 hC.2.1 hd ht (fun _ => hk l hL) (fun q => absurd hc (by first | exact q | (intro z; exact absurd z q) | simpa using q))) (kt hc)
  · exact T_pure (fun p e R s m args below meth c H locs cells slots Q l hC _ _ _ _ _ _ hL hk => lv_if_ge hC.1 hC.2.1 hd ht (fun q => absurd q hc) (fun _ => by rw [hn]; exact hk l hL)) (kf (by first | exact hc | simpa using hc))
theorem T_icmp_gt {x y : Int32} {off : Int} {tgt : Nat} (hd : decode M.2.1 pc = .ok (.if_icmp .gt off, 3)) (hn : pc + 3 = pc') (ht : (pc : Int) + off = (tgt : Int)) (kt : y < x → T X d M tgt ls st h Q) (kf : ¬ y < x → T X d M pc' ls st h Q) : T X d M pc ls (.int y :: .int x :: st) h Q := by
  by_cases hc : y < x
  · exact T_pure (fun p e R s m args below meth c H locs cells slots Q l hC _ _ _ _ _ _ hL hk => lv_icmp_gt hC.1 hC.2.1 hd ht (fun _ => hk l hL) (fun q => absurd hc (by first | exact q | (intro z; exact absurd z q) | simpa using q))) (kt hc)
  · exact T_pure (fun p e R s m args below meth c H locs cells slots Q l hC _ _ _ _ _ _ hL hk => lv_icmp_gt hC.1 hC.2.1 hd ht (fun q => absurd q hc) (fun _ => by rw [hn]; exact hk l hL)) (kf (by first | exact hc | simpa using hc))
theorem T_if_gt {x : Int32} {off : Int} {tgt : Nat} (hd : decode M.2.1 pc = .ok (.ifCond .gt off, 3)) (hn : pc + 3 = pc') (ht : (pc : Int) + off = (tgt : Int)) (kt : 0 < x → T X d M tgt ls st h Q) (kf : ¬ 0 < x → T X d M pc' ls st h Q) : T X d M pc ls (.int x :: st) h Q := by
  by_cases hc : 0 < x
  · exact T_pure (fun p e R s m args below meth c H locs cells slots Q l hC _ _ _ _ _ _ hL hk => lv_if_gt hC.1 hC.2.1 hd ht (fun _ => hk l hL) (fun q => absurd hc (by first | exact q | (intro z; exact absurd z q) | simpa using q))) (kt hc)
  · exact T_pure (fun p e R s m args below meth c H locs cells slots Q l hC _ _ _ _ _ _ hL hk => lv_if_gt hC.1 hC.2.1 hd ht (fun q => absurd q hc) (fun _ => by rw [hn]; exact hk l hL)) (kf (by first | exact hc | simpa using hc))
theorem T_icmp_le {x y : Int32} {off : Int} {tgt : Nat} (hd : decode M.2.1 pc = .ok (.if_icmp .le off, 3)) (hn : pc + 3 = pc') (ht : (pc : Int) + off = (tgt : Int)) (kt : x ≤ y → T X d M tgt ls st h Q) (kf : ¬ x ≤ y → T X d M pc' ls st h Q) : T X d M pc ls (.int y :: .int x :: st) h Q := by
  by_cases hc : x ≤ y
  · exact T_pure (fun p e R s m args below meth c H locs cells slots Q l hC _ _ _ _ _ _ hL hk => lv_icmp_le hC.1 hC.2.1 hd ht (fun _ => hk l hL) (fun q => absurd hc (by first | exact q | (intro z; exact absurd z q) | simpa using q))) (kt hc)
  · exact T_pure (fun p e R s m args below meth c H locs cells slots Q l hC _ _ _ _ _ _ hL hk => lv_icmp_le hC.1 hC.2.1 hd ht (fun q => absurd q hc) (fun _ => by rw [hn]; exact hk l hL)) (kf (by first | exact hc | simpa using hc))
theorem T_if_le {x : Int32} {off : Int} {tgt : Nat} (hd : decode M.2.1 pc = .ok (.ifCond .le off, 3)) (hn : pc + 3 = pc') (ht : (pc : Int) + off = (tgt : Int)) (kt : x ≤ 0 → T X d M tgt ls st h Q) (kf : ¬ x ≤ 0 → T X d M pc' ls st h Q) : T X d M pc ls (.int x :: st) h Q := by
  by_cases hc : x ≤ 0
  · exact T_pure (fun p e R s m args below meth c H locs cells slots Q l hC _ _ _ _ _ _ hL hk => lv_if_le hC.1 hC.2.1 hd ht (fun _ => hk l hL) (fun q => absurd hc (by first | exact q | (intro z; exact absurd z q) | simpa using q))) (kt hc)
  · exact T_pure (fun p e R s m args below meth c H locs cells slots Q l hC _ _ _ _ _ _ hL hk => lv_if_le hC.1 hC.2.1 hd ht (fun q => absurd q hc) (fun _ => by rw [hn]; exact hk l hL)) (kf (by first | exact hc | simpa using hc))
theorem T_tableIn {dflt lo hi : Int} {offs : Array Int} {len : Nat} {x : Int32} {off : Int} (hd : decode M.2.1 pc = .ok (.tableswitch dflt lo hi offs, len)) (h1 : ¬ x.toInt < lo) (h2 : ¬ hi < x.toInt) (ho : offs[(x.toInt - lo).toNat]? = some off) (ht : (pc : Int) + off = (pc' : Int)) (k : T X d M pc' ls st h Q) : T X d M pc ls (.int x :: st) h Q :=
  T_pure (fun p e R s m args below meth c H locs cells slots Q l hC _ _ _ _ _ _ hL hk => lv_tableIn hC.1 hC.2.1 hd h1 h2 ho ht (hk l hL)) k
theorem T_tableOut {dflt lo hi : Int} {offs : Array Int} {len : Nat} {x : Int32} (hd : decode M.2.1 pc = .ok (.tableswitch dflt lo hi offs, len)) (h1 : x.toInt < lo ∨ hi < x.toInt) (ht : (pc : Int) + dflt = (pc' : Int)) (k : T X d M pc' ls st h Q) : T X d M pc ls (.int x :: st) h Q :=
  T_pure (fun p e R s m args below meth c H locs cells slots Q l hC _ _ _ _ _ _ hL hk => lv_tableOut hC.1 hC.2.1 hd h1 ht (hk l hL)) k
theorem T_lookup {dflt : Int} {ps : Array (Int × Int)} {len : Nat} {x : Int32} {off : Int} (hd : decode M.2.1 pc = .ok (.lookupswitch dflt ps, len)) (hp : (ps.toList.zip (ps.toList.drop 1)).all (fun (a, next) => a.1 < next.1) = true) (ho : Op.lookupswitch.offset ps.toList dflt x.toInt = off) (ht : (pc : Int) + off = (pc' : Int)) (k : T X d M pc' ls st h Q) : T X d M pc ls (.int x :: st) h Q :=
  T_pure (fun p e R s m args below meth c H locs cells slots Q l hC _ _ _ _ _ _ hL hk => lv_lookup hC.1 hC.2.1 hd hp ho ht (hk l hL)) k
/-- the place ahead of i holds no long -/
def e_ok (ls : List Value) : Nat → Bool
  | 0 => true
  | j + 1 => match ls[j]? with
    | some v => v.category == 1
    | none => true
/-- the locals that are known, by their places -/
def e_kn (X : EX) (ls : List Value) : List (Nat × Value) := (ls.zipIdx.filter (fun q => !(q.1 == Value.null))).map (fun q => (q.2, e_tr X q.1))
theorem e_kn_mem {i : Nat} {w : Value} (hq : (i, w) ∈ e_kn X ls) : ∃ v, ls[i]? = some v ∧ v ≠ .null ∧ w = e_tr X v := by
  obtain ⟨⟨v, j⟩, h1, h2⟩ := List.mem_map.mp hq
  obtain ⟨h3, h4⟩ := List.mem_filter.mp h1
  cases h2
  refine ⟨v, ?_, ?_, rfl⟩
  · simpa using List.mem_zipIdx_iff_getElem?.mp h3
  · intro z; subst z; simp at h4
theorem e_kn_of {i : Nat} {v : Value} (hi : ls[i]? = some v) (hv : v ≠ .null) : (i, e_tr X v) ∈ e_kn X ls := by
  refine List.mem_map.mpr ⟨(v, i), List.mem_filter.mpr ⟨List.mem_zipIdx_iff_getElem?.mpr (by simpa using hi), ?_⟩, rfl⟩
  simp [hv]
theorem e_L_has {n : Nat} {l : Array Slot} (hL : e_L X n ls l) : lv_has l n (e_kn X ls) := by
  refine ⟨hL.2.1, hL.2.2.1, fun q hq => ?_⟩
  obtain ⟨v, h1, h2, h3⟩ := e_kn_mem (i := q.1) (w := q.2) hq
  rw [h3]
  exact hL.2.2.2 _ _ h1 h2
theorem e_L_set {n i : Nat} {l' : Array Slot} {v : Value} (hlen : ls.length = n) (hok : e_ok ls i = true) (h' : lv_has l' n ((i, e_tr X v) :: (e_kn X ls).filter (fun q => !(q.1 == i) && !(q.1 + 1 == i && q.2.category == 2)))) : e_L X n (ls.set i v) l' := by
  refine ⟨by simpa using hlen, h'.1, h'.2.1, fun j w hj hw => ?_⟩
  by_cases hji : j = i
  · subst hji
    have hlt : j < ls.length := by
      have := (List.getElem?_eq_some_iff.mp hj).1
      simpa using this
    rw [List.getElem?_set_self hlt] at hj
    cases hj
    exact h'.2.2 (j, e_tr X v) List.mem_cons_self
  · rw [List.getElem?_set_ne (Ne.symm hji)] at hj
    refine h'.2.2 (j, e_tr X w) (List.mem_cons_of_mem _ (List.mem_filter.mpr ⟨e_kn_of hj hw, ?_⟩))
    have h1 : (j == i) = false := by simpa using hji
    simp only [h1, Bool.not_false, Bool.true_and, Bool.not_eq_true', Bool.and_eq_false_iff]
    by_cases h2 : j + 1 = i
    · right
      subst h2
      simp only [e_ok, hj] at hok
      rw [e_cat]
      have : w.category = 1 := by simpa using hok
      rw [this]; rfl
    · left; simpa using h2
theorem T_istore_n {k : Fin 4} {i : Nat} {x : Int32} (hd : decode M.2.1 pc = .ok (.istore_n k, 1)) (hn : pc + 1 = pc') (hk : (k : Nat) = i) (hi : i < M.2.2.1) (hok : e_ok ls i = true) (hl : ls.set i (.int x) = ls') (kk : T X d M pc' ls' st h Q) : T X d M pc ls (.int x :: st) h Q := by
  subst hl
  exact T_pure (fun p e R s m args below meth c H locs cells slots Q l hC _ _ _ _ _ _ hL hq => lv_istore_n hC.1 hC.2.1 hd hk (e_L_has hL) hi rfl (fun l' h' => by rw [hn]; exact hq l' (e_L_set hL.1 hok h'))) kk
theorem T_istore {i : Nat} {x : Int32} (hd : decode M.2.1 pc = .ok (.istore i, 2)) (hn : pc + 2 = pc') (hi : i < M.2.2.1) (hok : e_ok ls i = true) (hl : ls.set i (.int x) = ls') (kk : T X d M pc' ls' st h Q) : T X d M pc ls (.int x :: st) h Q := by
  subst hl
  exact T_pure (fun p e R s m args below meth c H locs cells slots Q l hC _ _ _ _ _ _ hL hq => lv_istore hC.1 hC.2.1 hd (e_L_has hL) hi rfl (fun l' h' => by rw [hn]; exact hq l' (e_L_set hL.1 hok h'))) kk
theorem T_astore_n {k : Fin 4} {i : Nat} {x : Nat} (hd : decode M.2.1 pc = .ok (.astore_n k, 1)) (hn : pc + 1 = pc') (hk : (k : Nat) = i) (hi : i < M.2.2.1) (hok : e_ok ls i = true) (hl : ls.set i (.ref x) = ls') (kk : T X d M pc' ls' st h Q) : T X d M pc ls (.ref x :: st) h Q := by
  subst hl
  exact T_pure (fun p e R s m args below meth c H locs cells slots Q l hC _ _ _ _ _ _ hL hq => lv_astore_n hC.1 hC.2.1 hd hk (e_L_has hL) hi rfl (fun l' h' => by rw [hn]; exact hq l' (e_L_set hL.1 hok h'))) kk
theorem T_astore {i : Nat} {x : Nat} (hd : decode M.2.1 pc = .ok (.astore i, 2)) (hn : pc + 2 = pc') (hi : i < M.2.2.1) (hok : e_ok ls i = true) (hl : ls.set i (.ref x) = ls') (kk : T X d M pc' ls' st h Q) : T X d M pc ls (.ref x :: st) h Q := by
  subst hl
  exact T_pure (fun p e R s m args below meth c H locs cells slots Q l hC _ _ _ _ _ _ hL hq => lv_astore hC.1 hC.2.1 hd (e_L_has hL) hi rfl (fun l' h' => by rw [hn]; exact hq l' (e_L_set hL.1 hok h'))) kk
theorem T_iinc {i : Nat} {n : Int} {x v : Int32} (hd : decode M.2.1 pc = .ok (.iinc i n, 3)) (hn : pc + 3 = pc') (hx : ls[i]? = some (.int x)) (hv : x + Int32.ofInt n = v) (hi : i < M.2.2.1) (hok : e_ok ls i = true) (hl : ls.set i (.int v) = ls') (kk : T X d M pc' ls' st h Q) : T X d M pc ls st h Q := by
  subst hl
  refine T_pure (fun p e R s m args below meth c H locs cells slots Q l hC _ _ _ _ _ _ hL hq => ?_) kk
  obtain ⟨j, hj⟩ := List.getElem?_of_mem (e_kn_of (X := X) hx (fun z => by cases z))
  exact lv_iinc hC.1 hC.2.1 hd (e_L_has hL) hj hv hi rfl (fun l' h' => by rw [hn]; exact hq l' (e_L_set hL.1 hok h'))
theorem T_lstore {i : Nat} {x : Int64} (hd : decode M.2.1 pc = .ok (.lstore i, 2)) (hn : pc + 2 = pc') (hi : i + 1 < M.2.2.1) (hok : e_ok ls i = true) (hl : (ls.set i (.long x)).set (i + 1) .null = ls') (kk : T X d M pc' ls' st h Q) : T X d M pc ls (.long x :: st) h Q := by
  subst hl
  refine T_pure (fun p e R s m args below meth c H locs cells slots Q l hC _ _ _ _ _ _ hL hq => ?_) kk
  refine lv_lstore hC.1 hC.2.1 hd (e_L_has hL) hi rfl (fun l' h' => ?_)
  rw [hn]
  refine hq l' ?_
  refine ⟨by simpa using hL.1, h'.1, h'.2.1, fun j w hj hw => ?_⟩
  have hlen := hL.1
  by_cases hj1 : j = i + 1
  · subst hj1
    rw [List.getElem?_set_self (by rw [List.length_set]; omega)] at hj
    cases hj
    exact absurd rfl hw
  · rw [List.getElem?_set_ne (Ne.symm hj1)] at hj
    by_cases hji : j = i
    · subst hji
      rw [List.getElem?_set_self (by omega)] at hj
      cases hj
      exact h'.2.2 (j, .long x) List.mem_cons_self
    · rw [List.getElem?_set_ne (Ne.symm hji)] at hj
      refine h'.2.2 (j, e_tr X w) (List.mem_cons_of_mem _ (List.mem_filter.mpr ⟨e_kn_of hj hw, ?_⟩))
      have h1 : (j == i) = false := by simpa using hji
      have h1' : (j == i + 1) = false := by simpa using hj1
      simp only [h1, h1', Bool.not_false, Bool.true_and, Bool.not_eq_true', Bool.and_eq_false_iff]
      by_cases h2 : j + 1 = i
      · right
        subst h2
        simp only [e_ok, hj] at hok
        rw [e_cat]
        have : w.category = 1 := by simpa using hok
        rw [this]; rfl
      · left; simpa using h2
end ENG2
end
section
/-! fields, arrays, new cells -/
def KC (ci : Nat) (r : vw_C) (ty : Nat → FieldType) : Prop := e_cl[ci]? = some r ∧ (∀ w ∈ u_ws r.1 r.2.1 r.2.2, w ∈ e_gw) ∧ (∀ k, k < r.2.2 → parseFieldDescriptor (r.2.1 k).2.2.1 = some (ty k)) ∧ (∀ a, a < r.2.2 → ∀ b, b < r.2.2 → a ≠ b → (r.2.1 a).2.1 ≠ (r.2.1 b).2.1)
/-- entry idx of the class own names field k of class ci: its type, whether it is final -/
def FL (own : String) (idx ci k : Nat) (ty : FieldType) (fin : Bool) : Prop := ∃ (r : vw_C) (tys : Nat → FieldType), KC ci r tys ∧ k < r.2.2 ∧ (Cond.fieldLink own idx r.1 (r.2.1 k).2.1 (r.2.1 k).2.2.1 ∈ e_gw ∨ ∃ host, Cond.fieldLinkNest own idx r.1 (r.2.1 k).2.1 (r.2.1 k).2.2.1 host ∈ e_nw ∧ fin = false) ∧ tys k = ty ∧ (r.2.1 k).2.2.2 = fin ∧ (r.2.1 k).1 = r.1 ∧ (fin = true → own = r.1)
section ENG3
variable {X : EX} {d : Nat} {M : Mt} {pc pc' : Nat} {ls ls' st st' : List Value} {h : AH} {Q : Option Value → AH → Prop}
theorem e_am_lt {k : Nat} (hk : k < 1000000) : e_am X k = X.2.1 + k := by rw [e_am, if_pos hk]
theorem e_V (fs : List Value) (k : Nat) {v : Value} (hv : fs[k]? = some v) : vp_V (fs.map (e_tr X)) k = e_tr X v := by
  simp [vp_V, hv]
theorem T_get {idx ci k a : Nat} {ty : FieldType} {fin : Bool} {fs : List Value} {v : Value} (hd : decode M.2.1 pc = .ok (.getfield idx, 3)) (hn : pc + 3 = pc') (hf : FL M.1.cls idx ci k ty fin) (ha : h.2 a = some (.inr (.inr (ci, fs)))) (hv : fs[k]? = some v) (kk : T X d M pc' ls (v :: st) h Q) : T X d M pc ls (.ref a :: st) h Q := by
  refine T_pure (fun p e R s m args below meth c H locs cells slots Q l hC _ _ _ _ hP hS hL hq => ?_) kk
  obtain ⟨r, tys, ⟨k1, k2, k3, k4⟩, hk, hl, -, -, hr, -⟩ := hf
  obtain ⟨hlt, r', k1', hob⟩ := hP.2 a _ ha
  cases k1.symm.trans k1'
  obtain ⟨hx, hb, hml, hown, hts, -, -, -, hE⟩ := hC
  show W p X.1.1 e R s m args below meth c H locs cells slots Q (F0 m pc l (.ref (e_am X a) :: st.map (e_tr X)))
  rw [e_am_lt hlt]
  obtain ⟨cell, q1, q2, q3, q4⟩ := hob
  obtain ⟨hSl, hfc, kC, hkC, hkind⟩ := hE.1.1 ci _ k1
  obtain ⟨cf, kf, fi, f, hi, hsl⟩ := hSl k hk
  have hst := (u_facts hfc hkC (u_lays hts k2 hk) hi).1
  have hval : cell.slots[f.slot]? = some (e_tr X v) := by rw [hsl, q4 k hk, e_V fs k hv]
  rw [hr] at hi
  have fin9 : W p X.1.1 e R s m args below meth c H locs cells slots Q (F0 m (pc + 3) l (e_tr X v :: st.map (e_tr X))) := by rw [hn]; exact hq l hL
  rcases hl with hl | ⟨host, hl, -⟩
  · exact W.getf hx hb hown (hts _ hl) hi hst q1 (by rw [q3]; exact fun z => by cases z) hval rfl rfl hd fin9
  · exact va_Wgetf hx hb hown (va_Nw.use rfl (hE.2.1 _ hl)) hi hst q1 (by rw [q3]; exact fun z => by cases z) hval rfl rfl hd fin9
theorem e_P_put {a : Nat} {c0 c1 : AC} {H H1 : Heap} (hP : e_P X h H) (ha : h.2 a = some c0) (hc : e_at X a c1 H1) (hz : H1.size = H.size) (ho : ∀ q : Nat, q ≠ X.2.1 + a → H1[q]? = H[q]?) : e_P X (e_put h a c1) H1 := by
  refine ⟨hz.trans hP.1, fun k c hk => ?_⟩
  by_cases hka : k = a
  · subst hka
    have hk' : c1 = c := by simpa [e_put] using hk
    subst hk'
    exact ⟨(hP.2 k _ ha).1, hc⟩
  · have hk' : h.2 k = some c := by simpa [e_put, hka] using hk
    obtain ⟨g1, g2⟩ := hP.2 k c hk'
    refine ⟨g1, ?_⟩
    have hq := ho (X.2.1 + k) (by omega)
    match c, g2 with
    | .inl x, g2 => exact hq.trans g2
    | .inr (.inl x), g2 => exact hq.trans g2
    | .inr (.inr o), ⟨r, r1, r2⟩ => exact ⟨r, r1, r2.kept hq⟩
theorem e_S_put {a k : Nat} {H0 H H1 : Heap} {locs : List Loc} (hS : va_S (e_A X) H0 H locs) (hz : H1.size = H.size) (ho : ∀ q : Nat, q ≠ X.2.1 + a → H1[q]? = H[q]?) : va_S (e_A X) H0 H1 (locs ++ [⟨X.2.1 + a, k⟩]) :=
  hS.put hz ho (Nat.le_add_right _ _)
/-- one step that changes one cell -/
theorem T_set {a : Nat} {c0 c1 : AC} (ha : h.2 a = some c0)
    (hw : ∀ (p : Program) (e : Env) (R : Room) (s : State) (m : MethodId) (args : Array Value) (below : List Frame) (meth : Method) (c : Code) (H : Heap) (locs : List Loc) (cells slots : Nat) (Q : State → Prop) (l : Array Slot), e_C X M p s m args meth c → d ≤ R.frames → 60 * d ≤ R.locals → e_P X h H → va_S (e_A X) s.heap H locs → e_L X M.2.2.1 ls l → (∀ (H1 : Heap) (locs1 : List Loc), e_at X a c1 H1 → H1.size = H.size → (∀ q : Nat, q ≠ X.2.1 + a → H1[q]? = H[q]?) → va_S (e_A X) s.heap H1 locs1 → W p X.1.1 e R s m args below meth c H1 locs1 cells slots Q (F0 m pc' l (st'.map (e_tr X)))) → W p X.1.1 e R s m args below meth c H locs cells slots Q (F0 m pc l (st.map (e_tr X))))
    (k : T X d M pc' ls st' (e_put h a c1) Q) : T X d M pc ls st h Q := by
  obtain ⟨r, h', q, mono, w⟩ := k
  refine ⟨r, h', q, mono, fun p e R s m args below meth c H locs cells slots Q n0 s0 l hC h1 h2 h3 h4 hP hS hc hs hL hF => ?_⟩
  exact hw p e R s m args below meth c H locs cells slots Q l hC h1 h2 hP hS hL (fun H1 locs1 g1 g2 g3 g4 => w p e R s m args below meth c H1 locs1 cells slots Q n0 s0 l hC h1 h2 h3 h4 (e_P_put hP ha g1 g2 g3) g4 hc hs hL hF)
theorem e_upd (fs : List Value) {k : Nat} (hk : k < fs.length) (v : Value) (j : Nat) : updV (vp_V (fs.map (e_tr X))) k (e_tr X v) j = vp_V ((fs.set k v).map (e_tr X)) j := by
  rw [List.map_set]
  exact vp_updV_set (by simpa using hk) _ j
theorem T_put {idx ci k a : Nat} {ty : FieldType} {fin : Bool} {fs fs' : List Value} {v : Value} (hd : decode M.2.1 pc = .ok (.putfield idx, 3)) (hn : pc + 3 = pc') (hf : FL M.1.cls idx ci k ty fin) (hfi : fin = true → M.1.name = "<init>") (ha : h.2 a = some (.inr (.inr (ci, fs)))) (hl0 : k < fs.length) (hnv : narrow ty (e_tr X v) = e_tr X v) (hfv : fits ty (e_tr X v) = true) (hfs : fs.set k v = fs') (kk : T X d M pc' ls st (e_put h a (.inr (.inr (ci, fs')))) Q) : T X d M pc ls (v :: .ref a :: st) h Q := by
  subst hfs
  refine T_set ha (fun p e R s m args below meth c H locs cells slots Q l hC _ _ hP hS hL hq => ?_) kk
  obtain ⟨r, tys, ⟨k1, k2, k3, k4⟩, hk, hl, hty, hfin, hr, hofin⟩ := hf
  obtain ⟨hlt, r', k1', hob⟩ := hP.2 a _ ha
  cases k1.symm.trans k1'
  obtain ⟨hx, hb, hml, hown, hts, -, -, hin, hE⟩ := hC
  show W p X.1.1 e R s m args below meth c H locs cells slots Q (F0 m pc l (e_tr X v :: .ref (e_am X a) :: st.map (e_tr X)))
  rw [e_am_lt hlt]
  have hap := va_apart (own := M.1.cls) hts k2 tys k3 k4 hE.1 k1
  obtain ⟨cell, q1, q2, q3, q4⟩ := hob
  obtain ⟨hSl, hfc, kC, hkC, hkind⟩ := hE.1.1 ci _ k1
  obtain ⟨cf, kf, fi, f, hi, hsl⟩ := hSl k hk
  have hst := (u_facts hfc hkC (u_lays hts k2 hk) hi).1
  have hlay := hts _ (k2 _ (u_in_lay hk))
  have hdesc := k3 k hk
  rw [hty] at hdesc
  unfold u_lay at hlay
  have hout : ∀ H1 : Heap, H1[X.2.1 + a]? = some (cell.setSlot f.slot (e_tr X v)) → H1.size = H.size → (∀ q, q ≠ X.2.1 + a → H1[q]? = H[q]?) → W p X.1.1 e R s m args below meth c H1 (locs ++ [⟨X.2.1 + a, f.slot⟩]) cells slots Q (F0 m (pc + 3) l (st.map (e_tr X))) := by
    intro H1 e1 e2 e3
    rw [hn]
    rw [hsl] at e1
    refine hq H1 _ ⟨r, k1, t_OB.to (V := updV (vp_V (fs.map (e_tr X))) k (e_tr X v)) ⟨_, e1, q2, q3, t_set q4 hap hk (e_tr X v)⟩ (fun j _ => e_upd fs hl0 v j)⟩ e2 e3 (e_S_put hS e2 e3)
  have hslot : f.slot < cell.slots.size := by rw [hsl]; exact k2_hasslot (q4 k hk)
  cases fin with
  | false =>
    rw [if_neg (by rw [hfin]; decide)] at hlay
    have h6 := u_store hfc hkC hkind hlay hi hdesc hnv hfv
    rw [hr] at hi
    rcases hl with hl | ⟨host, hl, -⟩
    · exact W.putK hx hb (f := f) ⟨hown, hts _ hl, ⟨_, _, _, hi⟩, hst⟩ (by rw [q2]; exact h6) q1 q3 hslot rfl rfl hd hout
    · exact va_WputK hx hb (f := f) hown (va_Nw.use rfl (hE.2.1 _ hl)) hi hst (by rw [q2]; exact h6) q1 q3 hslot rfl rfl hd hout
  | true =>
    rw [if_pos hfin] at hlay
    have h6 := u_fits hfc hkC hkind (Or.inr hlay) hi hdesc hnv hfv
    have hcf : m.cls = cf := by
      obtain ⟨_, _, c', _, _, _, -, -, hf', -, -, -, hown2, -⟩ := Cond.laysFinal_spec hlay
      have e1 : c' = cf := by have := hi.symm.trans hf'; simp at this; exact this.1.symm
      rw [hr, ← hofin rfl] at hown2
      rw [← e1]; exact Option.some.inj (hown.symm.trans hown2)
    rw [hr] at hi
    rcases hl with hl | ⟨host, hl, hz⟩
    · exact W.putFinK hx hb hown (hts _ hl) hi hst hcf (hin (hfi rfl)) (by rw [q2]; exact h6) q1 q3 hslot rfl rfl hd hout
    · exact absurd hz (by decide)
end ENG3
end
section
section ENG4
variable {X : EX} {d : Nat} {M : Mt} {pc pc' : Nat} {ls ls' st st' : List Value} {h : AH} {Q : Option Value → AH → Prop}
theorem e_ty {U : State} (hK : e_K X U) {t : Nat} (ht : t < 6) : ArrOfT U (X.1.2.2 t) (e_tys.getD t .int) ∧ va_RA U (X.1.2.2 t) (e_tys.getD t .int) :=
  hK.2 t (X.1.2.2 t, e_tys.getD t .int) (by rw [List.getElem?_map, List.getElem?_range ht]; rfl)
theorem e_in {i : Int32} {n : Nat} (hi : vp_in i n) : ¬ i < 0 ∧ i.toNatClampNeg < n := ⟨fun q => hi (Or.inl q), Nat.not_le.mp fun q => hi (Or.inr q)⟩
theorem e_am_ro (X : EX) (j : Nat) : e_am X (1000000 + j) = X.2.2.1 j := by
  rw [e_am, if_neg (by omega), Nat.add_sub_cancel_left]
theorem T_iaload {a n : Nat} {f : Nat → Int32} {i : Int32} (hd : decode M.2.1 pc = .ok (.iaload, 1)) (hn : pc + 1 = pc') (ha : h.2 a = some (.inl (0, n, f))) (hi : vp_in i n) (kk : T X d M pc' ls (.int (f i.toNatClampNeg) :: st) h Q) : T X d M pc ls (.int i :: .ref a :: st) h Q := by
  refine T_pure (fun p e R s m args below meth c H locs cells slots Q l hC _ _ _ _ hP hS hL hq => ?_) kk
  obtain ⟨hlt, hat⟩ := hP.2 a _ ha
  obtain ⟨hx, hb, -, -, -, -, -, -, hE⟩ := hC
  show W p X.1.1 e R s m args below meth c H locs cells slots Q (F0 m pc l (.int i :: .ref (e_am X a) :: st.map (e_tr X)))
  rw [e_am_lt hlt]
  exact W.iald (v := .int (f i.toNatClampNeg)) hx hb hat ((e_ty hE.1 (t := 0) (by decide)).1 n (fun j => .int (f j))) (fun q => by cases q) (by rw [arrV_size]; exact hi) (by rw [arrV_read _ _ (e_in hi).2]) rfl rfl hd (by rw [hn]; exact hq l hL)
theorem T_baload {a n : Nat} {f : Nat → Int32} {i : Int32} (hd : decode M.2.1 pc = .ok (.baload, 1)) (hn : pc + 1 = pc') (ha : h.2 a = some (.inl (1, n, f))) (hi : vp_in i n) (kk : T X d M pc' ls (.int (f i.toNatClampNeg) :: st) h Q) : T X d M pc ls (.int i :: .ref a :: st) h Q := by
  refine T_pure (fun p e R s m args below meth c H locs cells slots Q l hC _ _ _ _ hP hS hL hq => ?_) kk
  obtain ⟨hlt, hat⟩ := hP.2 a _ ha
  obtain ⟨hx, hb, -, -, -, -, -, -, hE⟩ := hC
  show W p X.1.1 e R s m args below meth c H locs cells slots Q (F0 m pc l (.int i :: .ref (e_am X a) :: st.map (e_tr X)))
  rw [e_am_lt hlt]
  exact W.bald (v := .int (f i.toNatClampNeg)) hx hb hat ((e_ty hE.1 (t := 1) (by decide)).1 n (fun j => .int (f j))) (fun q => by cases q) (by rw [arrV_size]; exact hi) (by rw [arrV_read _ _ (e_in hi).2]) rfl rfl hd (by rw [hn]; exact hq l hL)
theorem T_zaload {a n : Nat} {f : Nat → Int32} {i : Int32} (hd : decode M.2.1 pc = .ok (.baload, 1)) (hn : pc + 1 = pc') (ha : h.2 a = some (.inl (2, n, f))) (hi : vp_in i n) (kk : T X d M pc' ls (.int (f i.toNatClampNeg) :: st) h Q) : T X d M pc ls (.int i :: .ref a :: st) h Q := by
  refine T_pure (fun p e R s m args below meth c H locs cells slots Q l hC _ _ _ _ hP hS hL hq => ?_) kk
  obtain ⟨hlt, hat⟩ := hP.2 a _ ha
  obtain ⟨hx, hb, -, -, -, -, -, -, hE⟩ := hC
  show W p X.1.1 e R s m args below meth c H locs cells slots Q (F0 m pc l (.int i :: .ref (e_am X a) :: st.map (e_tr X)))
  rw [e_am_lt hlt]
  exact W.zald (v := .int (f i.toNatClampNeg)) hx hb hat ((e_ty hE.1 (t := 2) (by decide)).1 n (fun j => .int (f j))) (fun q => by cases q) (by rw [arrV_size]; exact hi) (by rw [arrV_read _ _ (e_in hi).2]) rfl rfl hd (by rw [hn]; exact hq l hL)
/-- f, but x at k -/
def e_up (f : Nat → Int32) (k : Nat) (x : Int32) : Nat → Int32 := fun j => if j = k then x else f j
theorem e_stored (cA : ClassId) (n k : Nat) (f : Nat → Int32) (x : Int32) : (arrV cA n (fun j => .int (f j))).setSlot k (.int x) = arrV cA n (fun j => .int (e_up f k x j)) := by
  rw [arrV_store]
  congr 1
  funext q
  by_cases hq : q = k
  · subst hq; simp [updV, e_up]
  · simp [updV, e_up, hq]
theorem T_iastore {a n : Nat} {f : Nat → Int32} {i x : Int32} (hd : decode M.2.1 pc = .ok (.iastore, 1)) (hn : pc + 1 = pc') (ha : h.2 a = some (.inl (0, n, f))) (hi : vp_in i n) (kk : T X d M pc' ls st (e_put h a (.inl (0, n, e_up f i.toNatClampNeg x))) Q) : T X d M pc ls (.int x :: .int i :: .ref a :: st) h Q := by
  refine T_set ha (fun p e R s m args below meth c H locs cells slots Q l hC _ _ hP hS hL hq => ?_) kk
  obtain ⟨hlt, hat⟩ := hP.2 a _ ha
  obtain ⟨hx, hb, -, -, -, -, -, -, hE⟩ := hC
  show W p X.1.1 e R s m args below meth c H locs cells slots Q (F0 m pc l (.int x :: .int i :: .ref (e_am X a) :: st.map (e_tr X)))
  rw [e_am_lt hlt]
  refine W.iast hx hb hat ((e_ty hE.1 (t := 0) (by decide)).1 n (fun j => .int (f j))) (fun q => by cases q) (by rw [arrV_size]; exact hi) rfl rfl hd fun H1 e1 e2 e3 => ?_
  show W p X.1.1 e R s m args below meth c H1 _ cells slots Q (F0 m (pc + 1) l (st.map (e_tr X)))
  rw [hn]
  exact hq H1 _ (e1.trans (congrArg some (e_stored _ n _ f x))) e2 e3 (e_S_put hS e2 e3)
theorem T_bastore {a n : Nat} {f : Nat → Int32} {i x : Int32} (hd : decode M.2.1 pc = .ok (.bastore, 1)) (hn : pc + 1 = pc') (ha : h.2 a = some (.inl (1, n, f))) (hi : vp_in i n) (kk : T X d M pc' ls st (e_put h a (.inl (1, n, e_up f i.toNatClampNeg x.toInt8.toInt32))) Q) : T X d M pc ls (.int x :: .int i :: .ref a :: st) h Q := by
  refine T_set ha (fun p e R s m args below meth c H locs cells slots Q l hC _ _ hP hS hL hq => ?_) kk
  obtain ⟨hlt, hat⟩ := hP.2 a _ ha
  obtain ⟨hx, hb, -, -, -, -, -, -, hE⟩ := hC
  show W p X.1.1 e R s m args below meth c H locs cells slots Q (F0 m pc l (.int x :: .int i :: .ref (e_am X a) :: st.map (e_tr X)))
  rw [e_am_lt hlt]
  refine W.bast hx hb hat ((e_ty hE.1 (t := 1) (by decide)).1 n (fun j => .int (f j))) (fun q => by cases q) (by rw [arrV_size]; exact hi) rfl rfl hd fun H1 e1 e2 e3 => ?_
  show W p X.1.1 e R s m args below meth c H1 _ cells slots Q (F0 m (pc + 1) l (st.map (e_tr X)))
  rw [hn]
  exact hq H1 _ (e1.trans (congrArg some (e_stored _ n _ f x.toInt8.toInt32))) e2 e3 (e_S_put hS e2 e3)
theorem T_zastore {a n : Nat} {f : Nat → Int32} {i x : Int32} (hd : decode M.2.1 pc = .ok (.bastore, 1)) (hn : pc + 1 = pc') (ha : h.2 a = some (.inl (2, n, f))) (hi : vp_in i n) (kk : T X d M pc' ls st (e_put h a (.inl (2, n, e_up f i.toNatClampNeg (x &&& 1)))) Q) : T X d M pc ls (.int x :: .int i :: .ref a :: st) h Q := by
  refine T_set ha (fun p e R s m args below meth c H locs cells slots Q l hC _ _ hP hS hL hq => ?_) kk
  obtain ⟨hlt, hat⟩ := hP.2 a _ ha
  obtain ⟨hx, hb, -, -, -, -, -, -, hE⟩ := hC
  show W p X.1.1 e R s m args below meth c H locs cells slots Q (F0 m pc l (.int x :: .int i :: .ref (e_am X a) :: st.map (e_tr X)))
  rw [e_am_lt hlt]
  refine W.zast hx hb hat ((e_ty hE.1 (t := 2) (by decide)).1 n (fun j => .int (f j))) (fun q => by cases q) (by rw [arrV_size]; exact hi) rfl rfl hd fun H1 e1 e2 e3 => ?_
  show W p X.1.1 e R s m args below meth c H1 _ cells slots Q (F0 m (pc + 1) l (st.map (e_tr X)))
  rw [hn]
  exact hq H1 _ (e1.trans (congrArg some (e_stored _ n _ f (x &&& 1)))) e2 e3 (e_S_put hS e2 e3)
theorem T_alen {a n : Nat} {f : Nat → Int32} (hd : decode M.2.1 pc = .ok (.arraylength, 1)) (hn : pc + 1 = pc') (ha : h.2 a = some (.inl (0, n, f))) (kk : T X d M pc' ls (.int (Int32.ofNat n) :: st) h Q) : T X d M pc ls (.ref a :: st) h Q := by
  refine T_pure (fun p e R s m args below meth c H locs cells slots Q l hC _ _ _ _ hP hS hL hq => ?_) kk
  obtain ⟨hlt, hat⟩ := hP.2 a _ ha
  obtain ⟨hx, hb, -, -, -, -, -, -, hE⟩ := hC
  show W p X.1.1 e R s m args below meth c H locs cells slots Q (F0 m pc l (.ref (e_am X a) :: st.map (e_tr X)))
  rw [e_am_lt hlt]
  exact W.alen hx hb hat ((e_ty hE.1 (t := 0) (by decide)).1 n (fun j => .int (f j))) (n := Int32.ofNat n) (by rw [arrV_size]) rfl rfl hd (by rw [hn]; exact hq l hL)
theorem T_aaload {a n t b : Nat} {g : Nat → Option Nat} {i : Int32} (hd : decode M.2.1 pc = .ok (.aaload, 1)) (hn : pc + 1 = pc') (ha : h.2 a = some (.inr (.inl (t, n, g)))) (ht : t < 6 ∧ 3 ≤ t) (hi : vp_in i n) (hg : g i.toNatClampNeg = some b) (kk : T X d M pc' ls (.ref b :: st) h Q) : T X d M pc ls (.int i :: .ref a :: st) h Q := by
  refine T_pure (fun p e R s m args below meth c H locs cells slots Q l hC _ _ _ _ hP hS hL hq => ?_) kk
  obtain ⟨hlt, hat⟩ := hP.2 a _ ha
  obtain ⟨hx, hb, -, -, -, -, -, -, hE⟩ := hC
  show W p X.1.1 e R s m args below meth c H locs cells slots Q (F0 m pc l (.int i :: .ref (e_am X a) :: st.map (e_tr X)))
  rw [e_am_lt hlt]
  have hr : (e_tys.getD t .int).isReference = true := by
    obtain ⟨t1, t2⟩ := ht
    have : t = 3 ∨ t = 4 ∨ t = 5 := by omega
    rcases this with rfl | rfl | rfl <;> rfl
  exact W.aald (v := .ref (e_am X b)) hx hb hat ((e_ty hE.1 ht.1).1 n (fun j => e_rf X (g j))) hr (fun q => by cases q) (by rw [arrV_size]; exact hi) (by rw [arrV_read _ _ (e_in hi).2]; show some (e_rf X (g i.toNatClampNeg)) = _; rw [hg]; rfl) rfl rfl hd (by rw [hn]; exact hq l hL)
/-- g, but b at k -/
def e_upr (g : Nat → Option Nat) (k : Nat) (b : Nat) : Nat → Option Nat := fun j => if j = k then some b else g j
theorem T_aastore {a n t b ci : Nat} {g : Nat → Option Nat} {vs : List Value} {i : Int32} (hd : decode M.2.1 pc = .ok (.aastore, 1)) (hn : pc + 1 = pc') (ha : h.2 a = some (.inr (.inl (t, n, g)))) (ht : (t = 3 ∧ ci = 0) ∨ (t = 4 ∧ ci = 2)) (hi : vp_in i n) (hbv : h.2 b = some (.inr (.inr (ci, vs)))) (kk : T X d M pc' ls st (e_put h a (.inr (.inl (t, n, e_upr g i.toNatClampNeg b)))) Q) : T X d M pc ls (.ref b :: .int i :: .ref a :: st) h Q := by
  refine T_set ha (fun p e R s m args below meth c H locs cells slots Q l hC _ _ hP hS hL hq => ?_) kk
  obtain ⟨hlt, hat⟩ := hP.2 a _ ha
  obtain ⟨hltb, r, hr, hob⟩ := hP.2 b _ hbv
  obtain ⟨hx, hb, -, -, -, -, -, -, hE⟩ := hC
  show W p X.1.1 e R s m args below meth c H locs cells slots Q (F0 m pc l (.ref (e_am X b) :: .int i :: .ref (e_am X a) :: st.map (e_tr X)))
  rw [e_am_lt hlt, e_am_lt hltb]
  obtain ⟨cellV, g1, g2, g3, -⟩ := hob
  have hcls := (hE.1.1 ci r hr).2
  have key : ∃ (kA : Class) (comp : ClassId), s.vm.classes[X.1.2.2 t]? = some kA ∧ kA.kind = .array comp (.object r.1) ∧ s.vm.findClass r.1 = some comp ∧ s.vm.findClass ("[" ++ (FieldType.object r.1).toString) = some (X.1.2.2 t) := by
    rcases ht with ⟨rfl, rfl⟩ | ⟨rfl, rfl⟩
    · cases hr; exact (e_ty hE.1 (t := 3) (by decide)).2
    · cases hr; exact (e_ty hE.1 (t := 4) (by decide)).2
  obtain ⟨kA, comp, k1, k2, k3, -⟩ := key
  have hcomp : comp = X.1.2.1.1 ci := Option.some.inj (k3.symm.trans hcls.1)
  subst hcomp
  obtain ⟨kC, hkC, -⟩ := hcls.2
  refine W.aast hx hb hat (fun q z => by cases z) (fun z => by cases z) k1 k2 rfl hkC ⟨(e_in hi).1, by rw [arrV_size]; exact (e_in hi).2⟩ g1 (fun q z => by rw [g3] at z; cases z) (by rw [g2]; exact hkC) (by rw [g2]; exact va_assign hcls) rfl rfl hd fun H1 e1 e2 e3 => ?_
  show W p X.1.1 e R s m args below meth c H1 _ cells slots Q (F0 m (pc + 1) l (st.map (e_tr X)))
  rw [hn]
  refine hq H1 _ (e1.trans (congrArg some ?_)) e2 e3 (e_S_put hS e2 e3)
  rw [arrV_store]
  congr 1
  funext q
  by_cases hqq : q = i.toNatClampNeg
  · subst hqq; simp [updV, e_upr, e_rf, e_am_lt hltb]
  · simp [updV, e_upr, hqq]
theorem T_roald {j : Nat} {i : Int32} (hd : decode M.2.1 pc = .ok (.iaload, 1)) (hn : pc + 1 = pc') (hj : j < 4) (hi : vp_in i (X.2.2.2 j).1) (kk : T X d M pc' ls (.int ((X.2.2.2 j).2 i.toNatClampNeg) :: st) h Q) : T X d M pc ls (.int i :: .ref (1000000 + j) :: st) h Q := by
  refine T_pure (fun p e R s m args below meth c H locs cells slots Q l hC _ _ _ _ hP hS hL hq => ?_) kk
  obtain ⟨hx, hb, -, -, -, -, -, -, hE⟩ := hC
  obtain ⟨cell, c1, c2, c3, c4, c5, c6⟩ := hE.2.2.2.1 j hj
  show W p X.1.1 e R s m args below meth c H locs cells slots Q (F0 m pc l (.int i :: .ref (e_am X (1000000 + j)) :: st.map (e_tr X)))
  have ham : e_am X (1000000 + j) = X.2.2.1 j := e_am_ro X j
  rw [ham]
  have hH : H[X.2.2.1 j]? = some cell := by
    rw [hS.2.1 _ (Array.getElem?_eq_some_iff.mp c1).1 (by show ¬ X.2.1 ≤ X.2.2.1 j; omega)]
    exact c1
  exact W.iald hx hb hH c2 c3 (by rw [c4]; exact hi) (c5 _ (e_in hi).2) rfl rfl hd (by rw [hn]; exact hq l hL)
theorem T_rolen {j : Nat} (hd : decode M.2.1 pc = .ok (.arraylength, 1)) (hn : pc + 1 = pc') (hj : j < 4) (kk : T X d M pc' ls (.int (Int32.ofNat (X.2.2.2 j).1) :: st) h Q) : T X d M pc ls (.ref (1000000 + j) :: st) h Q := by
  refine T_pure (fun p e R s m args below meth c H locs cells slots Q l hC _ _ _ _ hP hS hL hq => ?_) kk
  obtain ⟨hx, hb, -, -, -, -, -, -, hE⟩ := hC
  obtain ⟨cell, c1, c2, c3, c4, c5, c6⟩ := hE.2.2.2.1 j hj
  show W p X.1.1 e R s m args below meth c H locs cells slots Q (F0 m pc l (.ref (e_am X (1000000 + j)) :: st.map (e_tr X)))
  have ham : e_am X (1000000 + j) = X.2.2.1 j := e_am_ro X j
  rw [ham]
  have hH : H[X.2.2.1 j]? = some cell := by
    rw [hS.2.1 _ (Array.getElem?_eq_some_iff.mp c1).1 (by show ¬ X.2.1 ≤ X.2.2.1 j; omega)]
    exact c1
  exact W.alen hx hb hH c2 (n := Int32.ofNat (X.2.2.2 j).1) (by rw [c4]) rfl rfl hd (by rw [hn]; exact hq l hL)
theorem T_gets {idx j : Nat} {n : String} (hd : decode M.2.1 pc = .ok (.getstatic idx, 3)) (hn : pc + 3 = pc') (hj : (j = 0 ∧ n = "NUMBERS") ∨ (j = 1 ∧ n = "LEAST") ∨ (j = 2 ∧ n = "MOST")) (hl : Cond.fieldLink M.1.cls idx R_Tx n "[I" ∈ e_gw) (kk : T X d M pc' ls (.ref (1000000 + j) :: st) h Q) : T X d M pc ls st h Q := by
  refine T_pure (fun p e R s m args below meth c H locs cells slots Q l hC _ _ _ _ hP hS hL hq => ?_) kk
  obtain ⟨hx, hb, -, hown, hts, -, -, -, hE⟩ := hC
  have ham : e_am X (1000000 + j) = X.2.2.1 j := e_am_ro X j
  have hk := hq l hL
  have hk2 : W p X.1.1 e R s m args below meth c H locs cells slots Q (F0 m (pc + 3) l (.ref (X.2.2.1 j) :: st.map (e_tr X))) := by
    rw [hn, ← ham]; exact hk
  have hz : va_Z R_Tx n "[I" (.ref (X.2.2.1 j)) (e_A X) s s.heap := by
    rcases hj with ⟨rfl, rfl⟩ | ⟨rfl, rfl⟩ | ⟨rfl, rfl⟩
    · exact hE.2.2.2.2.1.1
    · exact hE.2.2.2.2.1.2.1
    · exact hE.2.2.2.2.1.2.2
  exact va_gets hx hb hz hS hown (hts _ hl) (fun _ z => z) hd hk2
end ENG4
end
section
section ENG5
variable {X : EX} {d : Nat} {M : Mt} {pc pc' : Nat} {ls ls' st st' : List Value} {h : AH} {Q : Option Value → AH → Prop}
theorem e_E_mv {u U : State} {H H1 : Heap} (hE : e_E X u H) (hA : u.vm.Alike U.vm) (hN : e_N U) (hz : H.size ≤ H1.size) (ho : ∀ q : Nat, q < H.size → ¬ e_A X q → H1[q]? = H[q]?) : e_E X U H1 := by
  obtain ⟨h1, -, h3, h4, h5, h6⟩ := hE
  refine ⟨va_K.moved hA h1, hN, ⟨h3.1.moved hA, h3.2.moved hA⟩, fun j hj => ?_, ?_, Nat.le_trans h6 hz⟩
  · obtain ⟨cell, c1, c2, c3, c4, c5, c6⟩ := h4 j hj
    refine ⟨cell, ?_, State.isArrayOf_alike hA c2, c3, c4, c5, c6⟩
    rw [ho _ (Array.getElem?_eq_some_iff.mp c1).1 (by show ¬ X.2.1 ≤ X.2.2.1 j; omega)]
    exact c1
  · exact ⟨(h5.1.moved hA).kept ho, (h5.2.1.moved hA).kept ho, (h5.2.2.moved hA).kept ho⟩
theorem e_isN_tab {w : Cond} (hw : e_isN w = true) : w.onTables = true := by
  cases w <;> first | rfl | exact absurd hw Bool.false_ne_true
theorem e_N_warm {s U : State} (hW : s.WarmedH U.vm) (hN : e_N s) : e_N U := by
  intro w hw
  have h1 := hN w hw
  have h2 : e_isN w = true := (List.mem_filter.mp hw).2
  cases w <;> first | exact absurd h2 Bool.false_ne_true | exact va_Nw.warmF hW h1 | exact va_Nw.warmM hW h1
theorem e_N_same {u U : State} (hv : u.vm = U.vm) (hN : e_N u) : e_N U := fun w hw => va_Nw.same (e_isN_tab (List.mem_filter.mp hw).2) hv (hN w hw)
theorem e_blind (av : List Value) : FrameBlind (e_Pc X av h) := by
  intro a U g mk q
  obtain ⟨q0, q1, q2⟩ := q
  exact ⟨q0, q1, e_E_mv (u := U) (U := U.calling g mk a) q2 (Vm.Alike.refl U.vm) (e_N_same (u := U) (U := U.calling g mk a) rfl q2.2.1) (Nat.le_refl _) (fun _ _ _ => rfl)⟩
theorem T_vret (hd : decode M.2.1 pc = .ok (.return_, 1)) (hr : M.2.2.2 = none) (hq : Q none h) : T X d M pc ls [] h Q :=
  ⟨none, h, hq, ⟨Nat.le_refl _, Nat.le_refl _⟩, fun p e R s m args below meth c H locs cells slots Q n0 s0 l hC h1 h2 h3 h4 hP hS hc hs hL hF => (hF H locs l pc cells slots hP hS hc hs).1 rfl hr hd⟩
theorem T_iret {v : Int32} (hd : decode M.2.1 pc = .ok (.ireturn, 1)) (hr : M.2.2.2 = some .int) (hq : Q (some (.int v)) h) : T X d M pc ls [.int v] h Q :=
  ⟨some (.int v), h, hq, ⟨Nat.le_refl _, Nat.le_refl _⟩, fun p e R s m args below meth c H locs cells slots Q n0 s0 l hC h1 h2 h3 h4 hP hS hc hs hL hF => (hF H locs l pc cells slots hP hS hc hs).2.1 v .int rfl hr rfl hd⟩
theorem T_zret {v : Int32} (hd : decode M.2.1 pc = .ok (.ireturn, 1)) (hr : M.2.2.2 = some .boolean) (hv : v = 0 ∨ v = 1) (hq : Q (some (.int v)) h) : T X d M pc ls [.int v] h Q :=
  ⟨some (.int v), h, hq, ⟨Nat.le_refl _, Nat.le_refl _⟩, fun p e R s m args below meth c H locs cells slots Q n0 s0 l hC h1 h2 h3 h4 hP hS hc hs hL hF => (hF H locs l pc cells slots hP hS hc hs).2.1 v .boolean rfl hr (by rcases hv with rfl | rfl <;> rfl) hd⟩
theorem T_lret {v : Int64} (hd : decode M.2.1 pc = .ok (.lreturn, 1)) (hr : M.2.2.2 = some .long) (hq : Q (some (.long v)) h) : T X d M pc ls [.long v] h Q :=
  ⟨some (.long v), h, hq, ⟨Nat.le_refl _, Nat.le_refl _⟩, fun p e R s m args below meth c H locs cells slots Q n0 s0 l hC h1 h2 h3 h4 hP hS hc hs hL hF => (hF H locs l pc cells slots hP hS hc hs).2.2 v rfl hr hd⟩
theorem e_sl (av : List Value) (hc : ∀ v ∈ av, v.category = 1) : lg_sl av = av.map Slot.val := by
  induction av with
  | nil => rfl
  | cons v t ih =>
    have h1 : ¬ v.category = 2 := by rw [hc v List.mem_cons_self]; decide
    have h2 := ih (fun w hw => hc w (List.mem_cons_of_mem _ hw))
    simp only [lg_sl, List.flatMap_cons, if_neg h1, List.map_cons] at h2 ⊢
    rw [h2]; rfl
theorem e_L_entry {n : Nat} (av : List Value) (hc : (av.all (fun v => v.category == 1)) = true) (hn : av.length ≤ n) : e_L X n (av ++ List.replicate (n - av.length) .null) ((lg_sl (av.map (e_tr X)) ++ List.replicate (n - (lg_sl (av.map (e_tr X))).length) Slot.unset).toArray) := by
  have hc' : ∀ v ∈ av.map (e_tr X), v.category = 1 := by
    intro v hv
    obtain ⟨w, hw, rfl⟩ := List.mem_map.mp hv
    rw [e_cat]
    simpa using List.all_eq_true.mp hc w hw
  have hsl := e_sl _ hc'
  have hent := lv_entry (av.map (e_tr X)) (n := n) (by rw [hsl]; simpa using hn)
  refine ⟨by simp; omega, hent.1, hent.2.1, fun i v hi hv => ?_⟩
  rw [hsl]
  by_cases hlt : i < av.length
  · rw [List.getElem?_append_left hlt] at hi
    simp [List.getElem?_append_left, hlt, hi]
    have := List.getElem?_eq_some_iff.mp hi
    obtain ⟨h1, h2⟩ := this
    rw [h2]
  · rw [List.getElem?_append_right (by omega)] at hi
    exact absurd (List.eq_of_mem_replicate (List.mem_of_getElem? hi)) hv
theorem C_of_T {av : List Value} (hp : plainName M.1.cls = true) (hc : (av.all (fun v => v.category == 1)) = true) (hn : av.length ≤ M.2.2.1) (hl : av ++ List.replicate (M.2.2.1 - av.length) .null = ls) (k : T X d M 0 ls [] h Q) : C X d M av h Q := by
  subst hl
  obtain ⟨r, h', q, mono, w⟩ := k
  refine ⟨r, h', q, mono, Met.ofW (cc := M.2.1) (maxL := M.2.2.1) (ret := M.2.2.2) hp rfl ?_⟩
  intro p e s m args below meth c s₁ B hml hv
  obtain ⟨rfl, hP, hE⟩ := hv
  have hts := atoms_spec (ws := e_ws M) B.pre
  rw [lg_entry_eq]
  have hx := B.exec
  have hb := B.bytes
  have hr := B.returns
  have hlocks := B.notSynchronized
  refine w p e _ s m _ below meth c s.heap [] 0 0 _ h.1.1 h.1.2 _ ⟨hx, hb, hml, findClass_of_methodNamed B.named, fun w hw => hts w (List.mem_cons_of_mem _ hw), hr, hlocks, fun z => (name_of_methodNamed B.named B.method).1.trans z, hE⟩ (Nat.le_refl _) (Nat.le_refl _) ?_ ?_ hP va_S.rf (Nat.zero_add _) (Nat.zero_add _) (e_L_entry av hc hn) ?_
  · show h'.1.1 ≤ (h'.1.1 - h.1.1) + h.1.1
    omega
  · show h'.1.2 ≤ (h'.1.2 - h.1.2) + h.1.2
    omega
  · intro H locs l pc cells slots hP1 hS1 hc1 hs1
    obtain ⟨m1, m2⟩ := mono
    obtain rfl : cells = h'.1.1 - h.1.1 := by omega
    obtain rfl : slots = h'.1.2 - h.1.2 := by omega
    refine ⟨fun hr1 hr2 hdg => ?_, fun v ty hr1 hr2 hnv hdg => ?_, fun v hr1 hr2 hdg => ?_⟩
    · subst hr1
      exact W.vret hx hb (hr.trans hr2) (fun t ht hW => ⟨rfl, by rw [ht]; exact hP1, hS1.F ht⟩) hS1.2.2 hdg
    · subst hr1
      exact W.zret hx hb (hr.trans hr2) hnv (fun t ht hW => ⟨rfl, by rw [ht]; exact hP1, hS1.F ht⟩) hS1.2.2 hdg
    · subst hr1
      exact W.lret hx hb (hr.trans hr2) (fun t ht hW => ⟨rfl, by rw [ht]; exact hP1, hS1.F ht⟩) hS1.2.2 hdg
/-- what a call needs of the called: its words are in the tables -/
def MK (M' : Mt) (n : Nat) : Prop := Cond.code M'.1 M'.2.1 M'.2.2.1 M'.2.2.2 ∈ e_gw ∧ Cond.initialized M'.1.cls ∈ e_gw ∧ (M'.1.cls ≠ "java/lang/invoke/MethodHandle" ∧ M'.1.cls ≠ "java/lang/invoke/VarHandle" ∧ (parseMethodDescriptor M'.1.desc).map (fun d => d.parameters.length) = some n) ∧ M'.2.2.1 ≤ 40
def CL (own : String) (idx : Nat) (M' : Mt) : Prop := Cond.methodLink own idx M'.1 ∈ e_gw ∨ ∃ host, Cond.methodLinkNest own idx M'.1 host ∈ e_nw
theorem e_good (M M' : Mt) (hm : Cond.code M'.1 M'.2.1 M'.2.2.1 M'.2.2.2 ∈ e_gw) : GoodIn e_gw (e_ws M') := by
  intro w hw
  have : w ∈ e_gw := by
    rcases List.mem_cons.mp hw with rfl | h1
    · exact hm
    · exact h1
  exact ⟨this, good_of_word (List.mem_filter.mp this).2⟩
/-- behind a call -/
theorem e_after {p : Program} {e : Env} {R : Room} {s : State} {m : MethodId} {args : Array Value} {below : List Frame} {meth : Method} {c : Code} {H : Heap} {locs : List Loc} {cells slots mc ms : Nat} {Q : State → Prop} {l : Array Slot} {rest st0 : List Value} {r : Option Value} {h1 : AH} {a : Array Value}
    (hr : va_Run p X.1.1 e R s m args below meth c H locs cells slots mc ms (F0 m pc l st0) rest (e_Qc X r h1 a) (e_A X)) (hS : va_S (e_A X) s.heap H locs)
    (kk : ∀ (H1 : Heap) (locs1 : List Loc), e_P X h1 H1 → va_S (e_A X) s.heap H1 locs1 → W p X.1.1 e R s m args below meth c H1 locs1 (cells + mc) (slots + ms) Q (F0 m (pc + 3) l ((r.map (e_tr X)).toList ++ rest))) : W p X.1.1 e R s m args below meth c H locs cells slots Q (F0 m pc l st0) := by
  intro T0 hT Xs
  obtain ⟨v, st₀, t, T', L, h0, X', hL, e1, e2, ⟨hv, hP1, hz, hk⟩, stp⟩ := hr T0 hT Xs
  cases hv
  rw [h0] at hz hk
  obtain ⟨t2, a1, b1⟩ := kk T'.heap (locs ++ L) (by rw [e1]; exact hP1) ⟨Nat.le_trans hS.1 (by rw [e1]; exact hz), fun q g1 g2 => by rw [e1, hk q (Nat.lt_of_lt_of_le g1 hS.1) g2]; exact hS.2.1 q g1 g2, fun q hq => by
      rcases List.mem_append.mp hq with g | g
      · exact hS.2.2 q g
      · exact hL q g⟩ T' rfl X'
  exact ⟨t2, stp t2 a1, b1⟩
/-- one step that is a call -/
theorem T_callG {M' : Mt} {av : List Value} {rest : List Value} {Q1 : Option Value → AH → Prop} (hc : C X d M' av h Q1)
    (hw : ∀ (r : Option Value) (h1 : AH), e_M X d M' av h r h1 → ∀ (p : Program) (e : Env) (R : Room) (s : State) (m : MethodId) (args : Array Value) (below : List Frame) (meth : Method) (c : Code) (H : Heap) (locs : List Loc) (cells slots : Nat) (l : Array Slot), e_C X M p s m args meth c → d + 1 ≤ R.frames → 60 * (d + 1) ≤ R.locals → cells + (h1.1.1 - h.1.1) ≤ R.cells → slots + (h1.1.2 - h.1.2) ≤ R.slots → e_P X h H → va_S (e_A X) s.heap H locs → e_L X M.2.2.1 ls l → va_Run p X.1.1 e R s m args below meth c H locs cells slots (h1.1.1 - h.1.1) (h1.1.2 - h.1.2) (F0 m pc l (st.map (e_tr X))) (rest.map (e_tr X)) (e_Qc X r h1 (av.map (e_tr X)).toArray) (e_A X))
    (hn : pc + 3 = pc') (kk : ∀ (r : Option Value) (h1 : AH), Q1 r h1 → T X (d + 1) M pc' ls (r.toList ++ rest) h1 Q) : T X (d + 1) M pc ls st h Q := by
  obtain ⟨r, h1, q1, hM⟩ := hc
  obtain ⟨r2, h2, q2, mono2, w2⟩ := kk r h1 q1
  obtain ⟨m1, m2⟩ := hM.1
  refine ⟨r2, h2, q2, ⟨Nat.le_trans m1 mono2.1, Nat.le_trans m2 mono2.2⟩, fun p e R s m args below meth c H locs cells slots Q n0 s0 l hC g1 g2 g3 g4 hP hS hcc hss hL hF => ?_⟩
  have hrun := hw r h1 hM p e R s m args below meth c H locs cells slots l hC g1 g2 (by omega) (by omega) hP hS hL
  refine e_after hrun hS (fun H1 locs1 hP1 hS1 => ?_)
  rw [hn]
  have := w2 p e R s m args below meth c H1 locs1 (cells + (h1.1.1 - h.1.1)) (slots + (h1.1.2 - h.1.2)) Q n0 s0 l hC g1 g2 g3 g4 hP1 hS1 (by omega) (by omega) hL hF
  have e1 : (r.toList ++ rest).map (e_tr X) = (r.map (e_tr X)).toList ++ rest.map (e_tr X) := by cases r <;> simp
  rw [e1] at this
  exact this
theorem e_pre {M' : Mt} {av : List Value} {s : State} {H : Heap} {locs : List Loc} (hE : e_E X s s.heap) (hP : e_P X h H) (hS : va_S (e_A X) s.heap H locs) : ∀ U : State, U.heap = H → s.WarmedH U.vm → e_Pc X av h (av.map (e_tr X)).toArray U :=
  fun U hU hW => ⟨rfl, by rw [hU]; exact hP, by rw [hU]; exact e_E_mv hE hW.alike (e_N_warm hW hE.2.1) hS.1 hS.2.1⟩
theorem T_callV {M' : Mt} {idx n b ci : Nat} {As rest fs : List Value} {Q1 : Option Value → AH → Prop} (hd : decode M.2.1 pc = .ok (.invokevirtual idx, 3)) (hn : pc + 3 = pc') (hl : CL M.1.cls idx M') (hm : MK M' n) (hi : Cond.instanceMethod M'.1 ∈ e_gw) (hse : Cond.selects M'.1.cls M'.1 M'.1 ∈ e_gw) (hcl : (e_cl[ci]?).map (fun r => r.1) = some M'.1.cls) (hb0 : h.2 b = some (.inr (.inr (ci, fs)))) (hnn : As.length = n) (hW : (rest.map fun v => v.category).sum ≤ 8) (hst : st = As.reverse ++ .ref b :: rest) (hc : C X d M' (.ref b :: As) h Q1) (kk : ∀ (r : Option Value) (h1 : AH), Q1 r h1 → T X (d + 1) M pc' ls (r.toList ++ rest) h1 Q) : T X (d + 1) M pc ls st h Q := by
  refine T_callG (rest := rest) hc (fun r h1 hM p e R s m args below meth c H locs cells slots l hC g1 g2 g3 g4 hP hS hL => ?_) hn kk
  obtain ⟨hx, hb, hml, hown, hts, -, -, -, hE⟩ := hC
  obtain ⟨hlt, r0, hr0, cell, q1, q2, q3, -⟩ := hP.2 b _ hb0
  obtain ⟨-, hM⟩ := hM
  obtain ⟨m1, m2, m3, m4⟩ := hm
  have hcC : s.vm.findClass M'.1.cls = some cell.cls := by
    rw [hr0] at hcl
    have h9 := (hE.1.1 ci r0 hr0).2.1
    rw [q2, ← Option.some.inj hcl]
    exact h9
  have hrec : ∃ cellB : Cell, H[e_am X b]? = some cellB ∧ cellB.vm.isStatics = false ∧ s.vm.findClass M'.1.cls = some cellB.cls := ⟨cell, by rw [e_am_lt hlt]; exact q1, by rw [q3]; rfl, hcC⟩
  have hstk : st.map (e_tr X) = (As.map (e_tr X)).reverse ++ .ref (e_am X b) :: rest.map (e_tr X) := by
    rw [hst, List.map_append, List.map_reverse]; rfl
  have hWr : 2 * (F0 m pc l (st.map (e_tr X))).monitorRoom + ((rest.map (e_tr X)).map fun v => v.category).sum ≤ 8 := by
    have : ((rest.map (e_tr X)).map fun v => v.category) = rest.map fun v => v.category := by rw [List.map_map]; exact List.map_congr_left (fun v _ => e_cat v)
    rw [this]
    show 2 * 0 + _ ≤ 8
    omega
  have hpr := e_pre (M' := M') (av := .ref b :: As) hE hP hS
  rcases hl with hl | ⟨host, hl⟩
  · exact va_runV (Ts := e_gw) (n := n) (As := As.map (e_tr X)) (b := e_am X b) (bytes := M'.2.1) (maxL := M'.2.2.1) (ret := M'.2.2.2) ⟨hx, hb, hml, hown, hts⟩ hM
      ⟨callB_of n hts (e_good M M' m1) rfl rfl rfl (hts _ m2) (hts _ hl) m3 ⟨g1, by show 8 + (M'.2.2.1 + 11) + 60 * d ≤ R.locals; omega⟩, hts _ hi, hts _ hse⟩
      ⟨e_blind _, hrec, hpr⟩ rfl (by simpa using hnn) hL.2.1 hstk hWr hd ⟨g3, g4⟩
  · exact va_runVN (Ts := e_gw) (n := n) (C := M'.1.cls) (As := As.map (e_tr X)) (b := e_am X b) (bytes := M'.2.1) (maxL := M'.2.2.1) (ret := M'.2.2.2) ⟨hx, hb, hml, hown, hts⟩ hM
      ⟨va_cnB n hts (e_good M M' m1) rfl rfl rfl (hE.2.1 _ hl) (hts _ m2) m3 ⟨g1, by show 8 + (M'.2.2.1 + 11) + 60 * d ≤ R.locals; omega⟩, hts _ hi, hts _ hse⟩
      ⟨e_blind _, hrec, hpr⟩ rfl (by simpa using hnn) hL.2.1 hstk hWr hd ⟨g3, g4⟩
theorem T_callS {M' : Mt} {idx n : Nat} {As rest : List Value} {Q1 : Option Value → AH → Prop} (hd : decode M.2.1 pc = .ok (.invokestatic idx, 3)) (hn : pc + 3 = pc') (hl : CL M.1.cls idx M') (hm : MK M' n) (hi : Cond.static M'.1 ∈ e_gw) (hnn : As.length = n) (hW : (rest.map fun v => v.category).sum ≤ 8) (hst : st = As.reverse ++ rest) (hc : C X d M' As h Q1) (kk : ∀ (r : Option Value) (h1 : AH), Q1 r h1 → T X (d + 1) M pc' ls (r.toList ++ rest) h1 Q) : T X (d + 1) M pc ls st h Q := by
  refine T_callG (rest := rest) hc (fun r h1 hM p e R s m args below meth c H locs cells slots l hC g1 g2 g3 g4 hP hS hL => ?_) hn kk
  obtain ⟨hx, hb, hml, hown, hts, -, -, -, hE⟩ := hC
  obtain ⟨-, hM⟩ := hM
  obtain ⟨m1, m2, m3, m4⟩ := hm
  have hstk : st.map (e_tr X) = (As.map (e_tr X)).reverse ++ rest.map (e_tr X) := by
    rw [hst, List.map_append, List.map_reverse]
  have hWr : 2 * (F0 m pc l (st.map (e_tr X))).monitorRoom + ((rest.map (e_tr X)).map fun v => v.category).sum ≤ 8 := by
    have : ((rest.map (e_tr X)).map fun v => v.category) = rest.map fun v => v.category := by rw [List.map_map]; exact List.map_congr_left (fun v _ => e_cat v)
    rw [this]
    show 2 * 0 + _ ≤ 8
    omega
  have hpr := e_pre (M' := M') (av := As) hE hP hS
  rcases hl with hl | ⟨host, hl⟩
  · exact va_runS (Ts := e_gw) (n := n) (As := As.map (e_tr X)) (bytes := M'.2.1) (maxL := M'.2.2.1) (ret := M'.2.2.2) ⟨hx, hb, hml, hown, hts⟩ hM
      ⟨callB_of n hts (e_good M M' m1) rfl rfl rfl (hts _ m2) (hts _ hl) m3 ⟨g1, by show 8 + (M'.2.2.1 + 11) + 60 * d ≤ R.locals; omega⟩, hts _ hi⟩
      ⟨e_blind _, hpr⟩ rfl (by simpa using hnn) hL.2.1 hstk hWr hd ⟨g3, g4⟩
  · exact va_runSN (Ts := e_gw) (n := n) (As := As.map (e_tr X)) (bytes := M'.2.1) (maxL := M'.2.2.1) (ret := M'.2.2.2) ⟨hx, hb, hml, hown, hts⟩ hM
      ⟨va_cnB n hts (e_good M M' m1) rfl rfl rfl (hE.2.1 _ hl) (hts _ m2) m3 ⟨g1, by show 8 + (M'.2.2.1 + 11) + 60 * d ≤ R.locals; omega⟩, hts _ hi, trivial⟩
      ⟨e_blind _, hpr⟩ rfl (by simpa using hnn) hL.2.1 hstk hWr hd ⟨g3, g4⟩
theorem T_callI {M' : Mt} {idx n b : Nat} {As rest : List Value} {Q1 : Option Value → AH → Prop} (hd : decode M.2.1 pc = .ok (.invokespecial idx, 3)) (hn : pc + 3 = pc') (hl : CL M.1.cls idx M') (hm : MK M' n) (hi : Cond.instanceMethod M'.1 ∈ e_gw) (hnm : M'.1.name = "<init>" ∧ M'.2.2.2 = none) (hnn : As.length = n) (hW : (rest.map fun v => v.category).sum ≤ 8) (hst : st = As.reverse ++ .ref b :: rest) (hc : C X d M' (.ref b :: As) h Q1) (kk : ∀ (r : Option Value) (h1 : AH), Q1 r h1 → T X (d + 1) M pc' ls (r.toList ++ rest) h1 Q) : T X (d + 1) M pc ls st h Q := by
  refine T_callG (rest := rest) hc (fun r h1 hM p e R s m args below meth c H locs cells slots l hC g1 g2 g3 g4 hP hS hL => ?_) hn kk
  obtain ⟨hx, hb, hml, hown, hts, -, -, -, hE⟩ := hC
  obtain ⟨-, hM⟩ := hM
  obtain ⟨m1, m2, m3, m4⟩ := hm
  obtain ⟨hnm, hrt⟩ := hnm
  have hws : e_ws M' = Cond.code M'.1 M'.2.1 M'.2.2.1 none :: e_gw := by unfold e_ws; rw [hrt]
  have hstk : st.map (e_tr X) = (As.map (e_tr X)).reverse ++ .ref (e_am X b) :: rest.map (e_tr X) := by
    rw [hst, List.map_append, List.map_reverse]; rfl
  have hWr : 2 * (F0 m pc l (st.map (e_tr X))).monitorRoom + ((rest.map (e_tr X)).map fun v => v.category).sum ≤ 8 := by
    have : ((rest.map (e_tr X)).map fun v => v.category) = rest.map fun v => v.category := by rw [List.map_map]; exact List.map_congr_left (fun v _ => e_cat v)
    rw [this]
    show 2 * 0 + _ ≤ 8
    omega
  have hpr := e_pre (M' := M') (av := .ref b :: As) hE hP hS
  rcases hl with hl | ⟨host, hl⟩
  · exact va_runI (Ts := e_gw) (n := n) (As := As.map (e_tr X)) (b := e_am X b) (bytes := M'.2.1) (maxL := M'.2.2.1) ⟨hx, hb, hml, hown, hts⟩ hM
      ⟨callB_of n hts (e_good M M' m1) hws rfl rfl (hts _ m2) (hts _ hl) m3 ⟨g1, by show 8 + (M'.2.2.1 + 11) + 60 * d ≤ R.locals; omega⟩, hnm, hts _ hi⟩
      ⟨e_blind _, hpr⟩ rfl (by simpa using hnn) hL.2.1 hstk hWr hd ⟨g3, g4⟩
  · exact va_runIN (Ts := e_gw) (n := n) (As := As.map (e_tr X)) (b := e_am X b) (bytes := M'.2.1) (maxL := M'.2.2.1) ⟨hx, hb, hml, hown, hts⟩ hM
      ⟨va_cnB n hts (e_good M M' m1) hws rfl rfl (hE.2.1 _ hl) (hts _ m2) m3 ⟨g1, by show 8 + (M'.2.2.1 + 11) + 60 * d ≤ R.locals; omega⟩, hnm, hts _ hi⟩
      ⟨e_blind _, hpr⟩ rfl (by simpa using hnn) hL.2.1 hstk hWr hd ⟨g3, g4⟩
theorem T_objInit {idx a : Nat} (hd : decode M.2.1 pc = .ok (.invokespecial idx, 3)) (hn : pc + 3 = pc') (hl : Cond.methodLink M.1.cls idx Lib.objectInit ∈ e_gw) (hi : Cond.instanceMethod Lib.objectInit ∈ e_gw) (hc : Cond.code Lib.objectInit ⟨#[0xb1]⟩ 1 none ∈ e_gw) (kk : T X (d + 1) M pc' ls [] h Q) : T X (d + 1) M pc ls [.ref a] h Q := by
  refine T_pure (fun p e R s m args below meth c H locs cells slots Q l hC g1 g2 _ _ hP hS hL hq => ?_) kk
  obtain ⟨hx, hb, hml, hown, hts, -, -, -, hE⟩ := hC
  exact W.objInit hx hb hown (hts _ hl) (hts _ hi) (hts _ hc) rfl (by rw [hml]; exact hL.2.1) rfl hd (by omega) (by show 2 * 0 + 0 + 12 ≤ R.locals; omega) (by rw [← hn] at hq; exact hq l hL)
end ENG5
end
section
section ENG6
variable {X : EX} {d : Nat} {M : Mt} {pc pc' : Nat} {ls ls' st st' : List Value} {h : AH} {Q : Option Value → AH → Prop}
theorem e_P_new {c1 : AC} {n : Nat} {H H1 : Heap} (hP : e_P X h H) (hlt : h.1.1 < 1000000) (hc : e_at X h.1.1 c1 H1) (hz : H1.size = H.size + 1) (ho : ∀ q : Nat, q < H.size → H1[q]? = H[q]?) : e_P X (e_new h c1 n) H1 := by
  refine ⟨by rw [hz, hP.1]; show _ = X.2.1 + (h.1.1 + 1); omega, fun k c hk => ?_⟩
  by_cases hka : k = h.1.1
  · subst hka
    have hk' : c1 = c := by simpa [e_new] using hk
    subst hk'
    exact ⟨hlt, hc⟩
  · have hk' : h.2 k = some c := by simpa [e_new, hka] using hk
    obtain ⟨g1, g2⟩ := hP.2 k c hk'
    refine ⟨g1, ?_⟩
    match c, g2 with
    | .inl x, g2 => exact (ho _ (Array.getElem?_eq_some_iff.mp g2).1).trans g2
    | .inr (.inl x), g2 => exact (ho _ (Array.getElem?_eq_some_iff.mp g2).1).trans g2
    | .inr (.inr o), ⟨r, r1, r2⟩ =>
      obtain ⟨cell, r3, r4⟩ := r2
      exact ⟨r, r1, t_OB.kept ⟨cell, r3, r4⟩ (ho _ (Array.getElem?_eq_some_iff.mp r3).1)⟩
theorem e_S_new {H0 H H1 : Heap} {locs : List Loc} (hS : va_S (e_A X) H0 H locs) (hz : H1.size = H.size + 1) (ho : ∀ q : Nat, q < H.size → H1[q]? = H[q]?) : va_S (e_A X) H0 H1 locs :=
  ⟨Nat.le_trans hS.1 (by omega), fun q g1 g2 => (ho q (Nat.lt_of_lt_of_le g1 hS.1)).trans (hS.2.1 q g1 g2), hS.2.2⟩
/-- one step that makes one cell -/
theorem T_mk {c1 : AC} {n : Nat} (hlt : h.1.1 < 1000000)
    (hw : ∀ (p : Program) (e : Env) (R : Room) (s : State) (m : MethodId) (args : Array Value) (below : List Frame) (meth : Method) (c : Code) (H : Heap) (locs : List Loc) (cells slots : Nat) (Q : State → Prop) (l : Array Slot), e_C X M p s m args meth c → cells + 1 ≤ R.cells → slots + n ≤ R.slots → e_P X h H → va_S (e_A X) s.heap H locs → e_L X M.2.2.1 ls l → (∀ (H1 : Heap), e_at X h.1.1 c1 H1 → H1.size = H.size + 1 → (∀ q : Nat, q < H.size → H1[q]? = H[q]?) → W p X.1.1 e R s m args below meth c H1 locs (cells + 1) (slots + n) Q (F0 m pc' l (.ref (X.2.1 + h.1.1) :: st'.map (e_tr X)))) → W p X.1.1 e R s m args below meth c H locs cells slots Q (F0 m pc l (st.map (e_tr X))))
    (k : T X d M pc' ls (.ref h.1.1 :: st') (e_new h c1 n) Q) : T X d M pc ls st h Q := by
  obtain ⟨r, h', q, mono, w⟩ := k
  have m1 : h.1.1 + 1 ≤ h'.1.1 := mono.1
  have m2 : h.1.2 + n ≤ h'.1.2 := mono.2
  refine ⟨r, h', q, ⟨by omega, by omega⟩, fun p e R s m args below meth c H locs cells slots Q n0 s0 l hC h1 h2 h3 h4 hP hS hc hs hL hF => ?_⟩
  refine hw p e R s m args below meth c H locs cells slots Q l hC (by omega) (by omega) hP hS hL (fun H1 g1 g2 g3 => ?_)
  have := w p e R s m args below meth c H1 locs (cells + 1) (slots + n) Q n0 s0 l hC h1 h2 h3 h4 (e_P_new hP hlt g1 g2 g3) (e_S_new hS g2 g3) (by show cells + 1 + n0 = h.1.1 + 1; omega) (by show slots + n + s0 = h.1.2 + n; omega) hL hF
  have e1 : e_am X h.1.1 = X.2.1 + h.1.1 := e_am_lt hlt
  rw [List.map_cons] at this
  rw [show e_tr X (.ref h.1.1) = .ref (X.2.1 + h.1.1) by rw [← e1]; rfl] at this
  exact this
theorem T_new {idx ci : Nat} {r : vw_C} {tys : Nat → FieldType} {fs : List Value} (hd : decode M.2.1 pc = .ok (.new idx, 3)) (hn : pc + 3 = pc') (hkc : KC ci r tys) (hcl : Cond.classLink M.1.cls idx r.1 ∈ e_gw) (hins : Cond.instantiable r.1 r.2.2 ∈ e_gw) (hini : Cond.initialized r.1 ∈ e_gw) (hfs : fs.length = r.2.2 ∧ ∀ k, k < r.2.2 → fs[k]? = some (defaultValue (tys k))) (hlt : h.1.1 < 1000000) (kk : T X d M pc' ls (.ref h.1.1 :: st) (e_new h (.inr (.inr (ci, fs))) r.2.2) Q) : T X d M pc ls st h Q := by
  refine T_mk hlt (fun p e R s m args below meth c H locs cells slots Q l hC g1 g2 hP hS hL hq => ?_) kk
  obtain ⟨hx, hb, hml, hown, hts, -, -, -, hE⟩ := hC
  obtain ⟨k1, k2, k3, k4⟩ := hkc
  have hK := hE.1.1 ci _ k1
  refine W.newcK hx hb hown (hts _ hcl) (hts _ hins) (hts _ hini) rfl hd g1 g2 (cC := X.1.2.1.1 ci) hK.2.1 hP.1 (fun H1 kC hkC e1 e2 e3 => ?_)
  show W p X.1.1 e R s m args below meth c H1 locs (cells + 1) (slots + r.2.2) Q (F0 m (pc + 3) l (.ref (X.2.1 + h.1.1) :: st.map (e_tr X)))
  rw [hn]
  refine hq H1 ⟨r, k1, ?_⟩ (by rw [e2, hP.1]) (fun q hq' => e3 q (by rw [← hP.1]; exact hq'))
  have hob := u_born (H := H1) (o := X.2.1 + h.1.1) tys hts k2 hK hkC e1 k3
  refine t_OB.to hob (fun k hk => ?_)
  obtain ⟨-, hf⟩ := hfs
  rw [e_V fs k (hf k hk)]
  cases hty : tys k <;> rfl
theorem T_newi {n : Int32} {N : Nat} {at_ : ArrayType} {t : Nat} (hd : decode M.2.1 pc = .ok (.newarray at_, 2)) (hn : pc + 2 = pc') (hat : (at_ = .int ∧ t = 0) ∨ (at_ = .byte ∧ t = 1) ∨ (at_ = .boolean ∧ t = 2)) (harr : Cond.arrayClass (newarray.typeOf at_) ∈ e_gw) (hn0 : ¬ n < 0) (hN : n.toNatClampNeg = N) (hNs : N ≤ 100000) (hlt : h.1.1 < 1000000) (kk : T X d M pc' ls (.ref h.1.1 :: st) (e_new h (.inl (t, N, fun _ => 0)) N) Q) : T X d M pc ls (.int n :: st) h Q := by
  refine T_mk hlt (fun p e R s m args below meth c H locs cells slots Q l hC g1 g2 hP hS hL hq => ?_) kk
  obtain ⟨hx, hb, hml, hown, hts, -, -, -, hE⟩ := hC
  have hbytes : N * componentBytes (newarray.typeOf at_) ≤ 536870912 := by
    rcases hat with ⟨rfl, -⟩ | ⟨rfl, -⟩ | ⟨rfl, -⟩
    · show N * 4 ≤ _; omega
    · show N * 1 ≤ _; omega
    · show N * 1 ≤ _; omega
  subst hN
  refine W.newa hx hb (hts _ harr) rfl hd rfl hn0 hbytes g1 g2 (fun cA kA comp f1 f2 f3 => ?_)
  have hcA : cA = X.1.2.2 t := by
    have hra : s.vm.findClass ("[" ++ (newarray.typeOf at_).toString) = some (X.1.2.2 t) := by
      rcases hat with ⟨rfl, rfl⟩ | ⟨rfl, rfl⟩ | ⟨rfl, rfl⟩
      · exact (e_ty hE.1 (t := 0) (by decide)).2
      · exact (e_ty hE.1 (t := 1) (by decide)).2
      · exact (e_ty hE.1 (t := 2) (by decide)).2
    exact Option.some.inj (f1.symm.trans hra)
  subst hcA
  have hdv : defaultValue (newarray.typeOf at_) = .int 0 := by
    rcases hat with ⟨rfl, -⟩ | ⟨rfl, -⟩ | ⟨rfl, -⟩ <;> rfl
  rw [hdv]
  show W p X.1.1 e R s m args below meth c (H.push _) locs (cells + 1) (slots + n.toNatClampNeg) Q (F0 m (pc + 2) l (.ref H.size :: st.map (e_tr X)))
  rw [hn, hP.1]
  refine hq _ ?_ (by rw [Array.size_push]) (fun q hq' => by rw [Array.getElem?_push, if_neg (Nat.ne_of_lt hq')])
  show (H.push _)[X.2.1 + h.1.1]? = some (arrV (X.1.2.2 t) n.toNatClampNeg (fun _ => .int 0))
  rw [← hP.1, Array.getElem?_push_size, ← arrV_new]
theorem T_newr {n : Int32} {N idx t : Nat} {K : String} (hd : decode M.2.1 pc = .ok (.anewarray idx, 3)) (hn : pc + 3 = pc') (hat : (K = R_Fl ∧ t = 3) ∨ (K = R_Im ∧ t = 4)) (hcl : Cond.classLink M.1.cls idx K ∈ e_gw) (hn0 : ¬ n < 0) (hN : n.toNatClampNeg = N) (hNs : N ≤ 100000) (hlt : h.1.1 < 1000000) (kk : T X d M pc' ls (.ref h.1.1 :: st) (e_new h (.inr (.inl (t, N, fun _ => none))) N) Q) : T X d M pc ls (.int n :: st) h Q := by
  refine T_mk hlt (fun p e R s m args below meth c H locs cells slots Q l hC g1 g2 hP hS hL hq => ?_) kk
  obtain ⟨hx, hb, hml, hown, hts, -, -, -, hE⟩ := hC
  subst hN
  have hao : va_AO K s := by
    rcases hat with ⟨rfl, -⟩ | ⟨rfl, -⟩
    · exact hE.2.2.1.1
    · exact hE.2.2.1.2
  refine W.anew hx hb hown (hts _ hcl) (va_AO.use hao) rfl hd rfl hn0 (by omega) g1 g2 (fun cA kA comp f1 f2 f3 f4 => ?_)
  have hcA : cA = X.1.2.2 t := by
    have hra : s.vm.findClass ("[" ++ (FieldType.object K).toString) = some (X.1.2.2 t) := by
      rcases hat with ⟨rfl, rfl⟩ | ⟨rfl, rfl⟩
      · obtain ⟨_, _, -, -, -, z⟩ := (e_ty hE.1 (t := 3) (by decide)).2
        exact z
      · obtain ⟨_, _, -, -, -, z⟩ := (e_ty hE.1 (t := 4) (by decide)).2
        exact z
    exact Option.some.inj (f1.symm.trans hra)
  subst hcA
  show W p X.1.1 e R s m args below meth c (H.push _) locs (cells + 1) (slots + n.toNatClampNeg) Q (F0 m (pc + 3) l (.ref H.size :: st.map (e_tr X)))
  rw [hn, hP.1]
  refine hq _ ?_ (by rw [Array.size_push]) (fun q hq' => by rw [Array.getElem?_push, if_neg (Nat.ne_of_lt hq')])
  show (H.push _)[X.2.1 + h.1.1]? = some (arrV (X.1.2.2 t) n.toNatClampNeg (fun _ => .null))
  rw [← hP.1, Array.getElem?_push_size, ← arrV_new]
/-- System.arraycopy between two different rows of ints -/
theorem T_copyi {idx a0 a n0 n1 : Nat} {f g : Nat → Int32} {sp dp n : Int32} (hd : decode M.2.1 pc = .ok (.invokestatic idx, 3)) (hn : pc + 3 = pc') (hl : Cond.methodLink M.1.cls idx arraycopyName ∈ e_gw) (hw3 : Cond.native arraycopyName ∈ e_gw ∧ Cond.static arraycopyName ∈ e_gw ∧ Cond.initialized "java/lang/System" ∈ e_gw) (ha0 : h.2 a0 = some (.inl (0, n0, f))) (ha : h.2 a = some (.inl (0, n1, g))) (h1 : ¬ sp < 0) (h2 : ¬ dp < 0) (h3 : ¬ n < 0) (h4 : sp.toNatClampNeg + n.toNatClampNeg ≤ n0) (h5 : dp.toNatClampNeg + n.toNatClampNeg ≤ n1) (kk : T X (d + 1) M pc' ls [] (e_put h a (.inl (0, n1, va_cpy f g sp.toNatClampNeg dp.toNatClampNeg n.toNatClampNeg))) Q) : T X (d + 1) M pc ls [.int n, .int dp, .ref a, .int sp, .ref a0] h Q := by
  refine T_set ha (fun p e R s m args below meth c H locs cells slots Q l hC g1 g2 hP hS hL hq => ?_) kk
  obtain ⟨hx, hb, hml, hown, hts, -, -, -, hE⟩ := hC
  obtain ⟨hlt0, hc0⟩ := hP.2 a0 _ ha0
  obtain ⟨hlt, hc1⟩ := hP.2 a _ ha
  show W p X.1.1 e R s m args below meth c H locs cells slots Q (F0 m pc l [.int n, .int dp, .ref (e_am X a), .int sp, .ref (e_am X a0)])
  rw [e_am_lt hlt0, e_am_lt hlt]
  have nn : ∀ z : Int32, ¬ z < 0 → z.toInt = (z.toNatClampNeg : Int) := by
    intro z hz
    have hz0 : (0 : Int) ≤ z.toInt := by
      have := Int32.not_lt.mp hz
      simpa using Int32.le_iff_toInt_le.mp this
    show z.toInt = ((z.toInt.toNat : Nat) : Int)
    omega
  have hnf : nativeFrameWords "java/lang/System" "arraycopy" 5 + 11 ≤ 60 := by decide +kernel
  intro T0 hT Xs
  obtain ⟨-, k0, hk0, cm0, hkk0⟩ := (e_ty hE.1 (t := 0) (by decide)).1 n0 (fun j => .int (f j))
  obtain ⟨-, k1, hk1, cm1, hkk1⟩ := (e_ty hE.1 (t := 0) (by decide)).1 n1 (fun j => .int (g j))
  obtain ⟨vm', X', stp⟩ := Xs.arraycopy hx hown (hts _ hl) (hts _ hw3.1) (hts _ hw3.2.1) (hts _ hw3.2.2) (src := X.2.1 + a0) (dst := X.2.1 + a) (cs := arrV (X.1.2.2 0) n0 (fun j => .int (f j))) (cd := arrV (X.1.2.2 0) n1 (fun j => .int (g j))) (srcPos := sp) (destPos := dp) (n := n) (by rw [hT]; exact hc0) (by rw [hT]; exact hc1)
    (fun _ z => by cases z) (fun _ z => by cases z) (fun z => by cases z) (fun z => by cases z) hk0 hk1 hkk0 hkk1 (by decide) h1 h2 h3
    (by rw [nn sp h1, nn n h3, arrV_size]; omega)
    (by rw [nn dp h2, nn n h3, arrV_size]; omega)
    (fun vm₁ _ i hi => by
      have e9 : (arrV (X.1.2.2 0) n0 (fun j => .int (f j))).slots.getD (sp.toNatClampNeg + i) .null = .int (f (sp.toNatClampNeg + i)) := by
        rw [Array.getD_eq_getD_getElem?, arrV_read _ _ (by omega)]
        rfl
      refine ⟨?_, ?_⟩
      · rw [e9]; rfl
      · rw [e9]; exact trivial)
    (g := F0 m pc l [.int n, .int dp, .ref (X.2.1 + a), .int sp, .ref (X.2.1 + a0)]) rfl (by rw [hml]; exact hL.2.1) (rest := []) rfl (by rw [hb]; exact hd) (by omega) (by show 2 * 0 + (List.map (fun v => Value.category v) []).sum + (nativeFrameWords "java/lang/System" "arraycopy" 5 + 11) ≤ R.locals; rw [List.map_nil, List.sum_nil]; omega)
  have e1 : copied (arrV (X.1.2.2 0) n0 (fun j => .int (f j))) (arrV (X.1.2.2 0) n1 (fun j => .int (g j))) sp dp n = arrV (X.1.2.2 0) n1 (fun j => .int (va_cpy f g sp.toNatClampNeg dp.toNatClampNeg n.toNatClampNeg j)) := va_copied (fun z => .int z) _ _ f g h4
  rw [e1] at X' stp
  have hla : X.2.1 + a < H.size := (Array.getElem?_eq_some_iff.mp hc1).1
  have hheap : ((T0.setVm vm').setCell (X.2.1 + a) (arrV (X.1.2.2 0) n1 (fun j => .int (va_cpy f g sp.toNatClampNeg dp.toNatClampNeg n.toNatClampNeg j)))).heap = H.setIfInBounds (X.2.1 + a) (arrV (X.1.2.2 0) n1 (fun j => .int (va_cpy f g sp.toNatClampNeg dp.toNatClampNeg n.toNatClampNeg j))) := by rw [← hT]; rfl
  have oq : ∀ q : Nat, q ≠ X.2.1 + a → (H.setIfInBounds (X.2.1 + a) (arrV (X.1.2.2 0) n1 (fun j => .int (va_cpy f g sp.toNatClampNeg dp.toNatClampNeg n.toNatClampNeg j))))[q]? = H[q]? := fun q hq => by simp [Array.getElem?_setIfInBounds, Ne.symm hq]
  obtain ⟨t, a1, b1⟩ := hq _ _ (show (H.setIfInBounds (X.2.1 + a) _)[X.2.1 + a]? = some _ by simp [Array.getElem?_setIfInBounds, hla]) (by simp) oq ⟨by simp; exact hS.1, fun q g1 g2 => by
      rw [oq q (fun e9 => g2 (by rw [e9]; exact Nat.le_add_right _ _))]
      exact hS.2.1 q g1 g2, fun q hq => by
      rcases List.mem_append.mp hq with g | g
      · exact hS.2.2 q g
      · obtain ⟨z, -, hz⟩ := List.mem_map.mp g
        rw [← hz]
        exact Nat.le_add_right _ _⟩ _ hheap X'
  exact ⟨t, stp t (by rw [← hn] at a1; exact a1), b1⟩
end ENG6
end
