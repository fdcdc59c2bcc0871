section
-- ===== PART A: goes FIRST, ahead of the names: the tables' words, and 'selects' of the private methods out of them =====
/-- a private method of a class that the tables say can be made, by its rows of tables_1 -/
def lw_okq (q : MethodName × Nat) : Prop := (q.1.cls ≠ "java/lang/invoke/MethodHandle" ∧ q.1.cls ≠ "java/lang/invoke/VarHandle") ∧ Cond.instantiable q.1.cls q.2 ∈ tables_1 ∧ Cond.privateMethod q.1 ∈ tables_1 ∧ Cond.instanceMethod q.1 ∈ tables_1
theorem lw_p0 : lw_okq (⟨"ThoughtBalloon", "startAnew", "()V"⟩, 13) := ⟨⟨by decide +kernel, by decide +kernel⟩, List.mem_of_getElem? (i := 16) (by decide +kernel), List.mem_of_getElem? (i := 269) (by decide +kernel), List.mem_of_getElem? (i := 270) (by decide +kernel)⟩
theorem lw_p1 : lw_okq (⟨"ThoughtBalloon$Flight", "start", "(II)V"⟩, 9) := ⟨⟨by decide +kernel, by decide +kernel⟩, List.mem_of_getElem? (i := 104) (by decide +kernel), List.mem_of_getElem? (i := 273) (by decide +kernel), List.mem_of_getElem? (i := 274) (by decide +kernel)⟩
theorem lw_p2 : lw_okq (⟨"ThoughtBalloon$Flight", "thinkNothing", "()V"⟩, 9) := ⟨⟨by decide +kernel, by decide +kernel⟩, List.mem_of_getElem? (i := 104) (by decide +kernel), List.mem_of_getElem? (i := 277) (by decide +kernel), List.mem_of_getElem? (i := 278) (by decide +kernel)⟩
theorem lw_p3 : lw_okq (⟨"ThoughtBalloon$Reports", "drop", "()I"⟩, 4) := ⟨⟨by decide +kernel, by decide +kernel⟩, List.mem_of_getElem? (i := 226) (by decide +kernel), List.mem_of_getElem? (i := 281) (by decide +kernel), List.mem_of_getElem? (i := 282) (by decide +kernel)⟩
theorem lw_p4 : lw_okq (⟨"ThoughtBalloon$Text", "add", "(I)I"⟩, 8) := ⟨⟨by decide +kernel, by decide +kernel⟩, List.mem_of_getElem? (i := 24) (by decide +kernel), List.mem_of_getElem? (i := 332) (by decide +kernel), List.mem_of_getElem? (i := 333) (by decide +kernel)⟩
theorem lw_p5 : lw_okq (⟨"ThoughtBalloon$Text", "drop", "()I"⟩, 8) := ⟨⟨by decide +kernel, by decide +kernel⟩, List.mem_of_getElem? (i := 24) (by decide +kernel), List.mem_of_getElem? (i := 340) (by decide +kernel), List.mem_of_getElem? (i := 341) (by decide +kernel)⟩
theorem lw_p6 : lw_okq (⟨"ThoughtBalloon$Text", "readInto", "(LThoughtBalloon$Told;)I"⟩, 8) := ⟨⟨by decide +kernel, by decide +kernel⟩, List.mem_of_getElem? (i := 24) (by decide +kernel), List.mem_of_getElem? (i := 348) (by decide +kernel), List.mem_of_getElem? (i := 349) (by decide +kernel)⟩
theorem lw_p7 : lw_okq (⟨"ThoughtBalloon$Told", "tellNothing", "()V"⟩, 9) := ⟨⟨by decide +kernel, by decide +kernel⟩, List.mem_of_getElem? (i := 57) (by decide +kernel), List.mem_of_getElem? (i := 352) (by decide +kernel), List.mem_of_getElem? (i := 353) (by decide +kernel)⟩
theorem lw_p8 : lw_okq (⟨"ThoughtBalloon$Text", "readToken", "()V"⟩, 8) := ⟨⟨by decide +kernel, by decide +kernel⟩, List.mem_of_getElem? (i := 24) (by decide +kernel), List.mem_of_getElem? (i := 359) (by decide +kernel), List.mem_of_getElem? (i := 360) (by decide +kernel)⟩
theorem lw_p9 : lw_okq (⟨"ThoughtBalloon$Text", "readLetters", "()V"⟩, 8) := ⟨⟨by decide +kernel, by decide +kernel⟩, List.mem_of_getElem? (i := 24) (by decide +kernel), List.mem_of_getElem? (i := 366) (by decide +kernel), List.mem_of_getElem? (i := 367) (by decide +kernel)⟩
theorem lw_p10 : lw_okq (⟨"ThoughtBalloon$Text", "readNumber", "()V"⟩, 8) := ⟨⟨by decide +kernel, by decide +kernel⟩, List.mem_of_getElem? (i := 24) (by decide +kernel), List.mem_of_getElem? (i := 373) (by decide +kernel), List.mem_of_getElem? (i := 374) (by decide +kernel)⟩
theorem lw_p11 : lw_okq (⟨"ThoughtBalloon$Text", "readItem", "(LThoughtBalloon$Told;)Z"⟩, 8) := ⟨⟨by decide +kernel, by decide +kernel⟩, List.mem_of_getElem? (i := 24) (by decide +kernel), List.mem_of_getElem? (i := 380) (by decide +kernel), List.mem_of_getElem? (i := 381) (by decide +kernel)⟩
theorem lw_p12 : lw_okq (⟨"ThoughtBalloon$Text", "itemBegun", "(LThoughtBalloon$Told;)I"⟩, 8) := ⟨⟨by decide +kernel, by decide +kernel⟩, List.mem_of_getElem? (i := 24) (by decide +kernel), List.mem_of_getElem? (i := 384) (by decide +kernel), List.mem_of_getElem? (i := 385) (by decide +kernel)⟩
theorem lw_p13 : lw_okq (⟨"ThoughtBalloon$Text", "tell", "(LThoughtBalloon$Told;I)V"⟩, 8) := ⟨⟨by decide +kernel, by decide +kernel⟩, List.mem_of_getElem? (i := 24) (by decide +kernel), List.mem_of_getElem? (i := 395) (by decide +kernel), List.mem_of_getElem? (i := 396) (by decide +kernel)⟩
theorem lw_p14 : lw_okq (⟨"ThoughtBalloon$Told", "tellWind", "(II)V"⟩, 9) := ⟨⟨by decide +kernel, by decide +kernel⟩, List.mem_of_getElem? (i := 57) (by decide +kernel), List.mem_of_getElem? (i := 399) (by decide +kernel), List.mem_of_getElem? (i := 400) (by decide +kernel)⟩
theorem lw_p15 : lw_okq (⟨"ThoughtBalloon$Told", "tellPerson", "(III)V"⟩, 9) := ⟨⟨by decide +kernel, by decide +kernel⟩, List.mem_of_getElem? (i := 57) (by decide +kernel), List.mem_of_getElem? (i := 404) (by decide +kernel), List.mem_of_getElem? (i := 405) (by decide +kernel)⟩
def lw_privs_1 : List (MethodName × Nat) := [(⟨"ThoughtBalloon", "startAnew", "()V"⟩, 13), (⟨"ThoughtBalloon$Flight", "start", "(II)V"⟩, 9), (⟨"ThoughtBalloon$Flight", "thinkNothing", "()V"⟩, 9), (⟨"ThoughtBalloon$Reports", "drop", "()I"⟩, 4), (⟨"ThoughtBalloon$Text", "add", "(I)I"⟩, 8), (⟨"ThoughtBalloon$Text", "drop", "()I"⟩, 8), (⟨"ThoughtBalloon$Text", "readInto", "(LThoughtBalloon$Told;)I"⟩, 8), (⟨"ThoughtBalloon$Told", "tellNothing", "()V"⟩, 9), (⟨"ThoughtBalloon$Text", "readToken", "()V"⟩, 8), (⟨"ThoughtBalloon$Text", "readLetters", "()V"⟩, 8), (⟨"ThoughtBalloon$Text", "readNumber", "()V"⟩, 8), (⟨"ThoughtBalloon$Text", "readItem", "(LThoughtBalloon$Told;)Z"⟩, 8), (⟨"ThoughtBalloon$Text", "itemBegun", "(LThoughtBalloon$Told;)I"⟩, 8), (⟨"ThoughtBalloon$Text", "tell", "(LThoughtBalloon$Told;I)V"⟩, 8), (⟨"ThoughtBalloon$Told", "tellWind", "(II)V"⟩, 9), (⟨"ThoughtBalloon$Told", "tellPerson", "(III)V"⟩, 9)]
theorem lw_r1 : ∀ q ∈ lw_privs_1, lw_okq q := List.forall_mem_cons.mpr ⟨lw_p0, List.forall_mem_cons.mpr ⟨lw_p1, List.forall_mem_cons.mpr ⟨lw_p2, List.forall_mem_cons.mpr ⟨lw_p3, List.forall_mem_cons.mpr ⟨lw_p4, List.forall_mem_cons.mpr ⟨lw_p5, List.forall_mem_cons.mpr ⟨lw_p6, List.forall_mem_cons.mpr ⟨lw_p7, List.forall_mem_cons.mpr ⟨lw_p8, List.forall_mem_cons.mpr ⟨lw_p9, List.forall_mem_cons.mpr ⟨lw_p10, List.forall_mem_cons.mpr ⟨lw_p11, List.forall_mem_cons.mpr ⟨lw_p12, List.forall_mem_cons.mpr ⟨lw_p13, List.forall_mem_cons.mpr ⟨lw_p14, List.forall_mem_cons.mpr ⟨lw_p15, fun _ h => absurd h List.not_mem_nil⟩⟩⟩⟩⟩⟩⟩⟩⟩⟩⟩⟩⟩⟩⟩⟩
theorem lw_p16 : lw_okq (⟨"ThoughtBalloon$Told", "tellThought", "(II)V"⟩, 9) := ⟨⟨by decide +kernel, by decide +kernel⟩, List.mem_of_getElem? (i := 57) (by decide +kernel), List.mem_of_getElem? (i := 408) (by decide +kernel), List.mem_of_getElem? (i := 409) (by decide +kernel)⟩
theorem lw_p17 : lw_okq (⟨"ThoughtBalloon$Told", "copyFrom", "(LThoughtBalloon$Told;)V"⟩, 9) := ⟨⟨by decide +kernel, by decide +kernel⟩, List.mem_of_getElem? (i := 57) (by decide +kernel), List.mem_of_getElem? (i := 412) (by decide +kernel), List.mem_of_getElem? (i := 413) (by decide +kernel)⟩
theorem lw_p18 : lw_okq (⟨"ThoughtBalloon$Told", "windAt", "(I)I"⟩, 9) := ⟨⟨by decide +kernel, by decide +kernel⟩, List.mem_of_getElem? (i := 57) (by decide +kernel), List.mem_of_getElem? (i := 423) (by decide +kernel), List.mem_of_getElem? (i := 424) (by decide +kernel)⟩
theorem lw_p19 : lw_okq (⟨"ThoughtBalloon$Told", "hasPerson", "(I)Z"⟩, 9) := ⟨⟨by decide +kernel, by decide +kernel⟩, List.mem_of_getElem? (i := 57) (by decide +kernel), List.mem_of_getElem? (i := 432) (by decide +kernel), List.mem_of_getElem? (i := 433) (by decide +kernel)⟩
theorem lw_p20 : lw_okq (⟨"ThoughtBalloon$Flight", "hasAboard", "(I)Z"⟩, 9) := ⟨⟨by decide +kernel, by decide +kernel⟩, List.mem_of_getElem? (i := 104) (by decide +kernel), List.mem_of_getElem? (i := 436) (by decide +kernel), List.mem_of_getElem? (i := 437) (by decide +kernel)⟩
theorem lw_p21 : lw_okq (⟨"ThoughtBalloon$Flight", "usedBy", "(I)I"⟩, 9) := ⟨⟨by decide +kernel, by decide +kernel⟩, List.mem_of_getElem? (i := 104) (by decide +kernel), List.mem_of_getElem? (i := 440) (by decide +kernel), List.mem_of_getElem? (i := 441) (by decide +kernel)⟩
theorem lw_p22 : lw_okq (⟨"ThoughtBalloon$Told", "liftsOf", "(I)I"⟩, 9) := ⟨⟨by decide +kernel, by decide +kernel⟩, List.mem_of_getElem? (i := 57) (by decide +kernel), List.mem_of_getElem? (i := 444) (by decide +kernel), List.mem_of_getElem? (i := 445) (by decide +kernel)⟩
theorem lw_p23 : lw_okq (⟨"ThoughtBalloon$Told", "canLift", "(II)Z"⟩, 9) := ⟨⟨by decide +kernel, by decide +kernel⟩, List.mem_of_getElem? (i := 57) (by decide +kernel), List.mem_of_getElem? (i := 448) (by decide +kernel), List.mem_of_getElem? (i := 449) (by decide +kernel)⟩
theorem lw_p24 : lw_okq (⟨"ThoughtBalloon$Told", "hasThought", "(I)Z"⟩, 9) := ⟨⟨by decide +kernel, by decide +kernel⟩, List.mem_of_getElem? (i := 57) (by decide +kernel), List.mem_of_getElem? (i := 456) (by decide +kernel), List.mem_of_getElem? (i := 457) (by decide +kernel)⟩
theorem lw_p25 : lw_okq (⟨"ThoughtBalloon$Flight", "mayBegin", "(II)Z"⟩, 9) := ⟨⟨by decide +kernel, by decide +kernel⟩, List.mem_of_getElem? (i := 104) (by decide +kernel), List.mem_of_getElem? (i := 464) (by decide +kernel), List.mem_of_getElem? (i := 465) (by decide +kernel)⟩
theorem lw_p26 : lw_okq (⟨"ThoughtBalloon$History", "push", "(LThoughtBalloon$Flight;)V"⟩, 2) := ⟨⟨by decide +kernel, by decide +kernel⟩, List.mem_of_getElem? (i := 154) (by decide +kernel), List.mem_of_getElem? (i := 470) (by decide +kernel), List.mem_of_getElem? (i := 471) (by decide +kernel)⟩
theorem lw_p27 : lw_okq (⟨"ThoughtBalloon$History", "dropOldest", "()V"⟩, 2) := ⟨⟨by decide +kernel, by decide +kernel⟩, List.mem_of_getElem? (i := 154) (by decide +kernel), List.mem_of_getElem? (i := 474) (by decide +kernel), List.mem_of_getElem? (i := 475) (by decide +kernel)⟩
theorem lw_p28 : lw_okq (⟨"ThoughtBalloon$Flight", "copyFrom", "(LThoughtBalloon$Flight;)V"⟩, 9) := ⟨⟨by decide +kernel, by decide +kernel⟩, List.mem_of_getElem? (i := 104) (by decide +kernel), List.mem_of_getElem? (i := 478) (by decide +kernel), List.mem_of_getElem? (i := 479) (by decide +kernel)⟩
theorem lw_p29 : lw_okq (⟨"ThoughtBalloon$Flight", "begin", "(II)V"⟩, 9) := ⟨⟨by decide +kernel, by decide +kernel⟩, List.mem_of_getElem? (i := 104) (by decide +kernel), List.mem_of_getElem? (i := 482) (by decide +kernel), List.mem_of_getElem? (i := 483) (by decide +kernel)⟩
theorem lw_p30 : lw_okq (⟨"ThoughtBalloon$Flight", "think", "(II)V"⟩, 9) := ⟨⟨by decide +kernel, by decide +kernel⟩, List.mem_of_getElem? (i := 104) (by decide +kernel), List.mem_of_getElem? (i := 486) (by decide +kernel), List.mem_of_getElem? (i := 487) (by decide +kernel)⟩
theorem lw_p31 : lw_okq (⟨"ThoughtBalloon$Told", "hold", "(LThoughtBalloon$Flight;)I"⟩, 9) := ⟨⟨by decide +kernel, by decide +kernel⟩, List.mem_of_getElem? (i := 57) (by decide +kernel), List.mem_of_getElem? (i := 490) (by decide +kernel), List.mem_of_getElem? (i := 491) (by decide +kernel)⟩
def lw_privs_2 : List (MethodName × Nat) := [(⟨"ThoughtBalloon$Told", "tellThought", "(II)V"⟩, 9), (⟨"ThoughtBalloon$Told", "copyFrom", "(LThoughtBalloon$Told;)V"⟩, 9), (⟨"ThoughtBalloon$Told", "windAt", "(I)I"⟩, 9), (⟨"ThoughtBalloon$Told", "hasPerson", "(I)Z"⟩, 9), (⟨"ThoughtBalloon$Flight", "hasAboard", "(I)Z"⟩, 9), (⟨"ThoughtBalloon$Flight", "usedBy", "(I)I"⟩, 9), (⟨"ThoughtBalloon$Told", "liftsOf", "(I)I"⟩, 9), (⟨"ThoughtBalloon$Told", "canLift", "(II)Z"⟩, 9), (⟨"ThoughtBalloon$Told", "hasThought", "(I)Z"⟩, 9), (⟨"ThoughtBalloon$Flight", "mayBegin", "(II)Z"⟩, 9), (⟨"ThoughtBalloon$History", "push", "(LThoughtBalloon$Flight;)V"⟩, 2), (⟨"ThoughtBalloon$History", "dropOldest", "()V"⟩, 2), (⟨"ThoughtBalloon$Flight", "copyFrom", "(LThoughtBalloon$Flight;)V"⟩, 9), (⟨"ThoughtBalloon$Flight", "begin", "(II)V"⟩, 9), (⟨"ThoughtBalloon$Flight", "think", "(II)V"⟩, 9), (⟨"ThoughtBalloon$Told", "hold", "(LThoughtBalloon$Flight;)I"⟩, 9)]
theorem lw_r2 : ∀ q ∈ lw_privs_2, lw_okq q := List.forall_mem_cons.mpr ⟨lw_p16, List.forall_mem_cons.mpr ⟨lw_p17, List.forall_mem_cons.mpr ⟨lw_p18, List.forall_mem_cons.mpr ⟨lw_p19, List.forall_mem_cons.mpr ⟨lw_p20, List.forall_mem_cons.mpr ⟨lw_p21, List.forall_mem_cons.mpr ⟨lw_p22, List.forall_mem_cons.mpr ⟨lw_p23, List.forall_mem_cons.mpr ⟨lw_p24, List.forall_mem_cons.mpr ⟨lw_p25, List.forall_mem_cons.mpr ⟨lw_p26, List.forall_mem_cons.mpr ⟨lw_p27, List.forall_mem_cons.mpr ⟨lw_p28, List.forall_mem_cons.mpr ⟨lw_p29, List.forall_mem_cons.mpr ⟨lw_p30, List.forall_mem_cons.mpr ⟨lw_p31, fun _ h => absurd h List.not_mem_nil⟩⟩⟩⟩⟩⟩⟩⟩⟩⟩⟩⟩⟩⟩⟩⟩
theorem lw_p32 : lw_okq (⟨"ThoughtBalloon$Told", "passMinutes", "(LThoughtBalloon$Flight;I)V"⟩, 9) := ⟨⟨by decide +kernel, by decide +kernel⟩, List.mem_of_getElem? (i := 57) (by decide +kernel), List.mem_of_getElem? (i := 506) (by decide +kernel), List.mem_of_getElem? (i := 507) (by decide +kernel)⟩
theorem lw_p33 : lw_okq (⟨"ThoughtBalloon$Told", "passMinute", "(LThoughtBalloon$Flight;)V"⟩, 9) := ⟨⟨by decide +kernel, by decide +kernel⟩, List.mem_of_getElem? (i := 57) (by decide +kernel), List.mem_of_getElem? (i := 510) (by decide +kernel), List.mem_of_getElem? (i := 511) (by decide +kernel)⟩
theorem lw_p34 : lw_okq (⟨"ThoughtBalloon$Told", "load", "(LThoughtBalloon$Flight;)I"⟩, 9) := ⟨⟨by decide +kernel, by decide +kernel⟩, List.mem_of_getElem? (i := 57) (by decide +kernel), List.mem_of_getElem? (i := 515) (by decide +kernel), List.mem_of_getElem? (i := 516) (by decide +kernel)⟩
theorem lw_p35 : lw_okq (⟨"ThoughtBalloon$Flight", "climb", "(I)V"⟩, 9) := ⟨⟨by decide +kernel, by decide +kernel⟩, List.mem_of_getElem? (i := 104) (by decide +kernel), List.mem_of_getElem? (i := 520) (by decide +kernel), List.mem_of_getElem? (i := 521) (by decide +kernel)⟩
theorem lw_p36 : lw_okq (⟨"ThoughtBalloon$Flight", "drift", "(I)V"⟩, 9) := ⟨⟨by decide +kernel, by decide +kernel⟩, List.mem_of_getElem? (i := 104) (by decide +kernel), List.mem_of_getElem? (i := 527) (by decide +kernel), List.mem_of_getElem? (i := 528) (by decide +kernel)⟩
theorem lw_p37 : lw_okq (⟨"ThoughtBalloon$Flight", "mayBeBoarded", "()Z"⟩, 9) := ⟨⟨by decide +kernel, by decide +kernel⟩, List.mem_of_getElem? (i := 104) (by decide +kernel), List.mem_of_getElem? (i := 535) (by decide +kernel), List.mem_of_getElem? (i := 536) (by decide +kernel)⟩
theorem lw_p38 : lw_okq (⟨"ThoughtBalloon$Flight", "takeIn", "(I)V"⟩, 9) := ⟨⟨by decide +kernel, by decide +kernel⟩, List.mem_of_getElem? (i := 104) (by decide +kernel), List.mem_of_getElem? (i := 539) (by decide +kernel), List.mem_of_getElem? (i := 540) (by decide +kernel)⟩
theorem lw_p39 : lw_okq (⟨"ThoughtBalloon$Flight", "letOut", "(I)V"⟩, 9) := ⟨⟨by decide +kernel, by decide +kernel⟩, List.mem_of_getElem? (i := 104) (by decide +kernel), List.mem_of_getElem? (i := 553) (by decide +kernel), List.mem_of_getElem? (i := 554) (by decide +kernel)⟩
theorem lw_p40 : lw_okq (⟨"ThoughtBalloon$History", "pop", "(LThoughtBalloon$Flight;)V"⟩, 2) := ⟨⟨by decide +kernel, by decide +kernel⟩, List.mem_of_getElem? (i := 154) (by decide +kernel), List.mem_of_getElem? (i := 561) (by decide +kernel), List.mem_of_getElem? (i := 562) (by decide +kernel)⟩
theorem lw_p41 : lw_okq (⟨"ThoughtBalloon$Told", "cover", "()I"⟩, 9) := ⟨⟨by decide +kernel, by decide +kernel⟩, List.mem_of_getElem? (i := 57) (by decide +kernel), List.mem_of_getElem? (i := 570) (by decide +kernel), List.mem_of_getElem? (i := 571) (by decide +kernel)⟩
theorem lw_p42 : lw_okq (⟨"ThoughtBalloon$Told", "covers", "(I)Z"⟩, 9) := ⟨⟨by decide +kernel, by decide +kernel⟩, List.mem_of_getElem? (i := 57) (by decide +kernel), List.mem_of_getElem? (i := 574) (by decide +kernel), List.mem_of_getElem? (i := 575) (by decide +kernel)⟩
theorem lw_p43 : lw_okq (⟨"ThoughtBalloon$Search", "run", "(LThoughtBalloon$Flight;II)V"⟩, 8) := ⟨⟨by decide +kernel, by decide +kernel⟩, List.mem_of_getElem? (i := 173) (by decide +kernel), List.mem_of_getElem? (i := 594) (by decide +kernel), List.mem_of_getElem? (i := 595) (by decide +kernel)⟩
theorem lw_p44 : lw_okq (⟨"ThoughtBalloon$Search", "fillReach", "()V"⟩, 8) := ⟨⟨by decide +kernel, by decide +kernel⟩, List.mem_of_getElem? (i := 173) (by decide +kernel), List.mem_of_getElem? (i := 599) (by decide +kernel), List.mem_of_getElem? (i := 600) (by decide +kernel)⟩
theorem lw_p45 : lw_okq (⟨"ThoughtBalloon$Search", "tryTurns", "(I)V"⟩, 8) := ⟨⟨by decide +kernel, by decide +kernel⟩, List.mem_of_getElem? (i := 173) (by decide +kernel), List.mem_of_getElem? (i := 607) (by decide +kernel), List.mem_of_getElem? (i := 608) (by decide +kernel)⟩
theorem lw_p46 : lw_okq (⟨"ThoughtBalloon$Search", "bound", "(I)I"⟩, 8) := ⟨⟨by decide +kernel, by decide +kernel⟩, List.mem_of_getElem? (i := 173) (by decide +kernel), List.mem_of_getElem? (i := 611) (by decide +kernel), List.mem_of_getElem? (i := 612) (by decide +kernel)⟩
theorem lw_p47 : lw_okq (⟨"ThoughtBalloon$Search", "tryTurn", "(III)V"⟩, 8) := ⟨⟨by decide +kernel, by decide +kernel⟩, List.mem_of_getElem? (i := 173) (by decide +kernel), List.mem_of_getElem? (i := 616) (by decide +kernel), List.mem_of_getElem? (i := 617) (by decide +kernel)⟩
def lw_privs_3 : List (MethodName × Nat) := [(⟨"ThoughtBalloon$Told", "passMinutes", "(LThoughtBalloon$Flight;I)V"⟩, 9), (⟨"ThoughtBalloon$Told", "passMinute", "(LThoughtBalloon$Flight;)V"⟩, 9), (⟨"ThoughtBalloon$Told", "load", "(LThoughtBalloon$Flight;)I"⟩, 9), (⟨"ThoughtBalloon$Flight", "climb", "(I)V"⟩, 9), (⟨"ThoughtBalloon$Flight", "drift", "(I)V"⟩, 9), (⟨"ThoughtBalloon$Flight", "mayBeBoarded", "()Z"⟩, 9), (⟨"ThoughtBalloon$Flight", "takeIn", "(I)V"⟩, 9), (⟨"ThoughtBalloon$Flight", "letOut", "(I)V"⟩, 9), (⟨"ThoughtBalloon$History", "pop", "(LThoughtBalloon$Flight;)V"⟩, 2), (⟨"ThoughtBalloon$Told", "cover", "()I"⟩, 9), (⟨"ThoughtBalloon$Told", "covers", "(I)Z"⟩, 9), (⟨"ThoughtBalloon$Search", "run", "(LThoughtBalloon$Flight;II)V"⟩, 8), (⟨"ThoughtBalloon$Search", "fillReach", "()V"⟩, 8), (⟨"ThoughtBalloon$Search", "tryTurns", "(I)V"⟩, 8), (⟨"ThoughtBalloon$Search", "bound", "(I)I"⟩, 8), (⟨"ThoughtBalloon$Search", "tryTurn", "(III)V"⟩, 8)]
theorem lw_r3 : ∀ q ∈ lw_privs_3, lw_okq q := List.forall_mem_cons.mpr ⟨lw_p32, List.forall_mem_cons.mpr ⟨lw_p33, List.forall_mem_cons.mpr ⟨lw_p34, List.forall_mem_cons.mpr ⟨lw_p35, List.forall_mem_cons.mpr ⟨lw_p36, List.forall_mem_cons.mpr ⟨lw_p37, List.forall_mem_cons.mpr ⟨lw_p38, List.forall_mem_cons.mpr ⟨lw_p39, List.forall_mem_cons.mpr ⟨lw_p40, List.forall_mem_cons.mpr ⟨lw_p41, List.forall_mem_cons.mpr ⟨lw_p42, List.forall_mem_cons.mpr ⟨lw_p43, List.forall_mem_cons.mpr ⟨lw_p44, List.forall_mem_cons.mpr ⟨lw_p45, List.forall_mem_cons.mpr ⟨lw_p46, List.forall_mem_cons.mpr ⟨lw_p47, fun _ h => absurd h List.not_mem_nil⟩⟩⟩⟩⟩⟩⟩⟩⟩⟩⟩⟩⟩⟩⟩⟩
theorem lw_p48 : lw_okq (⟨"ThoughtBalloon$Told", "firstOwnWay", "()I"⟩, 9) := ⟨⟨by decide +kernel, by decide +kernel⟩, List.mem_of_getElem? (i := 57) (by decide +kernel), List.mem_of_getElem? (i := 627) (by decide +kernel), List.mem_of_getElem? (i := 628) (by decide +kernel)⟩
theorem lw_p49 : lw_okq (⟨"ThoughtBalloon$Told", "countOwn", "(I)I"⟩, 9) := ⟨⟨by decide +kernel, by decide +kernel⟩, List.mem_of_getElem? (i := 57) (by decide +kernel), List.mem_of_getElem? (i := 631) (by decide +kernel), List.mem_of_getElem? (i := 632) (by decide +kernel)⟩
theorem lw_p50 : lw_okq (⟨"ThoughtBalloon$Told", "ownIn", "(II)I"⟩, 9) := ⟨⟨by decide +kernel, by decide +kernel⟩, List.mem_of_getElem? (i := 57) (by decide +kernel), List.mem_of_getElem? (i := 635) (by decide +kernel), List.mem_of_getElem? (i := 636) (by decide +kernel)⟩
theorem lw_p51 : lw_okq (⟨"ThoughtBalloon$Odds", "startAt", "(I)V"⟩, 3) := ⟨⟨by decide +kernel, by decide +kernel⟩, List.mem_of_getElem? (i := 210) (by decide +kernel), List.mem_of_getElem? (i := 645) (by decide +kernel), List.mem_of_getElem? (i := 646) (by decide +kernel)⟩
theorem lw_p52 : lw_okq (⟨"ThoughtBalloon$Odds", "spread", "(II)V"⟩, 3) := ⟨⟨by decide +kernel, by decide +kernel⟩, List.mem_of_getElem? (i := 210) (by decide +kernel), List.mem_of_getElem? (i := 651) (by decide +kernel), List.mem_of_getElem? (i := 652) (by decide +kernel)⟩
theorem lw_p53 : lw_okq (⟨"ThoughtBalloon$Odds", "carry", "(II)V"⟩, 3) := ⟨⟨by decide +kernel, by decide +kernel⟩, List.mem_of_getElem? (i := 210) (by decide +kernel), List.mem_of_getElem? (i := 656) (by decide +kernel), List.mem_of_getElem? (i := 657) (by decide +kernel)⟩
theorem lw_p54 : lw_okq (⟨"ThoughtBalloon$Odds", "upper", "(I)I"⟩, 3) := ⟨⟨by decide +kernel, by decide +kernel⟩, List.mem_of_getElem? (i := 210) (by decide +kernel), List.mem_of_getElem? (i := 660) (by decide +kernel), List.mem_of_getElem? (i := 661) (by decide +kernel)⟩
theorem lw_p55 : lw_okq (⟨"ThoughtBalloon$Odds", "common", "(I)I"⟩, 3) := ⟨⟨by decide +kernel, by decide +kernel⟩, List.mem_of_getElem? (i := 210) (by decide +kernel), List.mem_of_getElem? (i := 664) (by decide +kernel), List.mem_of_getElem? (i := 665) (by decide +kernel)⟩
theorem lw_p56 : lw_okq (⟨"ThoughtBalloon$Odds", "lower", "(I)I"⟩, 3) := ⟨⟨by decide +kernel, by decide +kernel⟩, List.mem_of_getElem? (i := 210) (by decide +kernel), List.mem_of_getElem? (i := 669) (by decide +kernel), List.mem_of_getElem? (i := 670) (by decide +kernel)⟩
theorem lw_p57 : lw_okq (⟨"ThoughtBalloon$Reports", "add", "(III)I"⟩, 4) := ⟨⟨by decide +kernel, by decide +kernel⟩, List.mem_of_getElem? (i := 226) (by decide +kernel), List.mem_of_getElem? (i := 677) (by decide +kernel), List.mem_of_getElem? (i := 678) (by decide +kernel)⟩
theorem lw_p58 : lw_okq (⟨"ThoughtBalloon", "fitting", "(I)I"⟩, 13) := ⟨⟨by decide +kernel, by decide +kernel⟩, List.mem_of_getElem? (i := 16) (by decide +kernel), List.mem_of_getElem? (i := 685) (by decide +kernel), List.mem_of_getElem? (i := 686) (by decide +kernel)⟩
theorem lw_p59 : lw_okq (⟨"ThoughtBalloon", "fits", "(II)Z"⟩, 13) := ⟨⟨by decide +kernel, by decide +kernel⟩, List.mem_of_getElem? (i := 16) (by decide +kernel), List.mem_of_getElem? (i := 689) (by decide +kernel), List.mem_of_getElem? (i := 690) (by decide +kernel)⟩
theorem lw_p60 : lw_okq (⟨"ThoughtBalloon", "heightLater", "(III)I"⟩, 13) := ⟨⟨by decide +kernel, by decide +kernel⟩, List.mem_of_getElem? (i := 16) (by decide +kernel), List.mem_of_getElem? (i := 693) (by decide +kernel), List.mem_of_getElem? (i := 694) (by decide +kernel)⟩
theorem lw_p61 : lw_okq (⟨"ThoughtBalloon", "greatestAlike", "(III)I"⟩, 13) := ⟨⟨by decide +kernel, by decide +kernel⟩, List.mem_of_getElem? (i := 16) (by decide +kernel), List.mem_of_getElem? (i := 702) (by decide +kernel), List.mem_of_getElem? (i := 703) (by decide +kernel)⟩
theorem lw_p62 : lw_okq (⟨"ThoughtBalloon", "isLaw", "(II)Z"⟩, 13) := ⟨⟨by decide +kernel, by decide +kernel⟩, List.mem_of_getElem? (i := 16) (by decide +kernel), List.mem_of_getElem? (i := 716) (by decide +kernel), List.mem_of_getElem? (i := 717) (by decide +kernel)⟩
theorem lw_p63 : lw_okq (⟨"ThoughtBalloon", "markLover", "(I)I"⟩, 13) := ⟨⟨by decide +kernel, by decide +kernel⟩, List.mem_of_getElem? (i := 16) (by decide +kernel), List.mem_of_getElem? (i := 729) (by decide +kernel), List.mem_of_getElem? (i := 730) (by decide +kernel)⟩
def lw_privs_4 : List (MethodName × Nat) := [(⟨"ThoughtBalloon$Told", "firstOwnWay", "()I"⟩, 9), (⟨"ThoughtBalloon$Told", "countOwn", "(I)I"⟩, 9), (⟨"ThoughtBalloon$Told", "ownIn", "(II)I"⟩, 9), (⟨"ThoughtBalloon$Odds", "startAt", "(I)V"⟩, 3), (⟨"ThoughtBalloon$Odds", "spread", "(II)V"⟩, 3), (⟨"ThoughtBalloon$Odds", "carry", "(II)V"⟩, 3), (⟨"ThoughtBalloon$Odds", "upper", "(I)I"⟩, 3), (⟨"ThoughtBalloon$Odds", "common", "(I)I"⟩, 3), (⟨"ThoughtBalloon$Odds", "lower", "(I)I"⟩, 3), (⟨"ThoughtBalloon$Reports", "add", "(III)I"⟩, 4), (⟨"ThoughtBalloon", "fitting", "(I)I"⟩, 13), (⟨"ThoughtBalloon", "fits", "(II)Z"⟩, 13), (⟨"ThoughtBalloon", "heightLater", "(III)I"⟩, 13), (⟨"ThoughtBalloon", "greatestAlike", "(III)I"⟩, 13), (⟨"ThoughtBalloon", "isLaw", "(II)Z"⟩, 13), (⟨"ThoughtBalloon", "markLover", "(I)I"⟩, 13)]
theorem lw_r4 : ∀ q ∈ lw_privs_4, lw_okq q := List.forall_mem_cons.mpr ⟨lw_p48, List.forall_mem_cons.mpr ⟨lw_p49, List.forall_mem_cons.mpr ⟨lw_p50, List.forall_mem_cons.mpr ⟨lw_p51, List.forall_mem_cons.mpr ⟨lw_p52, List.forall_mem_cons.mpr ⟨lw_p53, List.forall_mem_cons.mpr ⟨lw_p54, List.forall_mem_cons.mpr ⟨lw_p55, List.forall_mem_cons.mpr ⟨lw_p56, List.forall_mem_cons.mpr ⟨lw_p57, List.forall_mem_cons.mpr ⟨lw_p58, List.forall_mem_cons.mpr ⟨lw_p59, List.forall_mem_cons.mpr ⟨lw_p60, List.forall_mem_cons.mpr ⟨lw_p61, List.forall_mem_cons.mpr ⟨lw_p62, List.forall_mem_cons.mpr ⟨lw_p63, fun _ h => absurd h List.not_mem_nil⟩⟩⟩⟩⟩⟩⟩⟩⟩⟩⟩⟩⟩⟩⟩⟩
theorem lw_p64 : lw_okq (⟨"ThoughtBalloon", "markOne", "(I)I"⟩, 13) := ⟨⟨by decide +kernel, by decide +kernel⟩, List.mem_of_getElem? (i := 16) (by decide +kernel), List.mem_of_getElem? (i := 734) (by decide +kernel), List.mem_of_getElem? (i := 735) (by decide +kernel)⟩
theorem lw_p65 : lw_okq (⟨"ThoughtBalloon", "markGrudge", "(I)I"⟩, 13) := ⟨⟨by decide +kernel, by decide +kernel⟩, List.mem_of_getElem? (i := 16) (by decide +kernel), List.mem_of_getElem? (i := 738) (by decide +kernel), List.mem_of_getElem? (i := 739) (by decide +kernel)⟩
theorem lw_p66 : lw_okq (⟨"ThoughtBalloon", "markPoet", "(I)I"⟩, 13) := ⟨⟨by decide +kernel, by decide +kernel⟩, List.mem_of_getElem? (i := 16) (by decide +kernel), List.mem_of_getElem? (i := 743) (by decide +kernel), List.mem_of_getElem? (i := 744) (by decide +kernel)⟩
theorem lw_p67 : lw_okq (⟨"ThoughtBalloon", "markMiser", "(I)I"⟩, 13) := ⟨⟨by decide +kernel, by decide +kernel⟩, List.mem_of_getElem? (i := 16) (by decide +kernel), List.mem_of_getElem? (i := 748) (by decide +kernel), List.mem_of_getElem? (i := 749) (by decide +kernel)⟩
theorem lw_p68 : lw_okq (⟨"ThoughtBalloon", "markWife", "(I)I"⟩, 13) := ⟨⟨by decide +kernel, by decide +kernel⟩, List.mem_of_getElem? (i := 16) (by decide +kernel), List.mem_of_getElem? (i := 753) (by decide +kernel), List.mem_of_getElem? (i := 754) (by decide +kernel)⟩
theorem lw_p69 : lw_okq (⟨"ThoughtBalloon$Image", "take", "(LThoughtBalloon$Flight;LThoughtBalloon$History;)V"⟩, 3) := ⟨⟨by decide +kernel, by decide +kernel⟩, List.mem_of_getElem? (i := 248) (by decide +kernel), List.mem_of_getElem? (i := 762) (by decide +kernel), List.mem_of_getElem? (i := 763) (by decide +kernel)⟩
theorem lw_p70 : lw_okq (⟨"ThoughtBalloon$History", "copyFrom", "(LThoughtBalloon$History;)V"⟩, 2) := ⟨⟨by decide +kernel, by decide +kernel⟩, List.mem_of_getElem? (i := 154) (by decide +kernel), List.mem_of_getElem? (i := 767) (by decide +kernel), List.mem_of_getElem? (i := 768) (by decide +kernel)⟩
theorem lw_p71 : lw_okq (⟨"ThoughtBalloon$Image", "give", "(LThoughtBalloon$Flight;LThoughtBalloon$History;)V"⟩, 3) := ⟨⟨by decide +kernel, by decide +kernel⟩, List.mem_of_getElem? (i := 248) (by decide +kernel), List.mem_of_getElem? (i := 775) (by decide +kernel), List.mem_of_getElem? (i := 776) (by decide +kernel)⟩
theorem lw_p72 : lw_okq (⟨"ThoughtBalloonModel", "read", "()V"⟩, 33) := ⟨⟨by decide +kernel, by decide +kernel⟩, List.mem_of_getElem? (i := 787) (by decide +kernel), List.mem_of_getElem? (i := 910) (by decide +kernel), List.mem_of_getElem? (i := 911) (by decide +kernel)⟩
theorem lw_p73 : lw_okq (⟨"ThoughtBalloonModel", "step", "()V"⟩, 33) := ⟨⟨by decide +kernel, by decide +kernel⟩, List.mem_of_getElem? (i := 787) (by decide +kernel), List.mem_of_getElem? (i := 914) (by decide +kernel), List.mem_of_getElem? (i := 915) (by decide +kernel)⟩
theorem lw_p74 : lw_okq (⟨"ThoughtBalloonModel", "here", "()I"⟩, 33) := ⟨⟨by decide +kernel, by decide +kernel⟩, List.mem_of_getElem? (i := 787) (by decide +kernel), List.mem_of_getElem? (i := 918) (by decide +kernel), List.mem_of_getElem? (i := 919) (by decide +kernel)⟩
theorem lw_p75 : lw_okq (⟨"ThoughtBalloonModel", "may", "(I)Z"⟩, 33) := ⟨⟨by decide +kernel, by decide +kernel⟩, List.mem_of_getElem? (i := 787) (by decide +kernel), List.mem_of_getElem? (i := 922) (by decide +kernel), List.mem_of_getElem? (i := 923) (by decide +kernel)⟩
theorem lw_p76 : lw_okq (⟨"ThoughtBalloonModel", "due", "(Z)V"⟩, 33) := ⟨⟨by decide +kernel, by decide +kernel⟩, List.mem_of_getElem? (i := 787) (by decide +kernel), List.mem_of_getElem? (i := 926) (by decide +kernel), List.mem_of_getElem? (i := 927) (by decide +kernel)⟩
theorem lw_p77 : lw_okq (⟨"ThoughtBalloonModel", "item", "(I)V"⟩, 33) := ⟨⟨by decide +kernel, by decide +kernel⟩, List.mem_of_getElem? (i := 787) (by decide +kernel), List.mem_of_getElem? (i := 930) (by decide +kernel), List.mem_of_getElem? (i := 931) (by decide +kernel)⟩
theorem lw_p78 : lw_okq (⟨"ThoughtBalloonModel", "number", "(II)I"⟩, 33) := ⟨⟨by decide +kernel, by decide +kernel⟩, List.mem_of_getElem? (i := 787) (by decide +kernel), List.mem_of_getElem? (i := 934) (by decide +kernel), List.mem_of_getElem? (i := 935) (by decide +kernel)⟩
theorem lw_p79 : lw_okq (⟨"ThoughtBalloonModel", "isOne", "(I)Z"⟩, 33) := ⟨⟨by decide +kernel, by decide +kernel⟩, List.mem_of_getElem? (i := 787) (by decide +kernel), List.mem_of_getElem? (i := 947) (by decide +kernel), List.mem_of_getElem? (i := 948) (by decide +kernel)⟩
def lw_privs_5 : List (MethodName × Nat) := [(⟨"ThoughtBalloon", "markOne", "(I)I"⟩, 13), (⟨"ThoughtBalloon", "markGrudge", "(I)I"⟩, 13), (⟨"ThoughtBalloon", "markPoet", "(I)I"⟩, 13), (⟨"ThoughtBalloon", "markMiser", "(I)I"⟩, 13), (⟨"ThoughtBalloon", "markWife", "(I)I"⟩, 13), (⟨"ThoughtBalloon$Image", "take", "(LThoughtBalloon$Flight;LThoughtBalloon$History;)V"⟩, 3), (⟨"ThoughtBalloon$History", "copyFrom", "(LThoughtBalloon$History;)V"⟩, 2), (⟨"ThoughtBalloon$Image", "give", "(LThoughtBalloon$Flight;LThoughtBalloon$History;)V"⟩, 3), (⟨"ThoughtBalloonModel", "read", "()V"⟩, 33), (⟨"ThoughtBalloonModel", "step", "()V"⟩, 33), (⟨"ThoughtBalloonModel", "here", "()I"⟩, 33), (⟨"ThoughtBalloonModel", "may", "(I)Z"⟩, 33), (⟨"ThoughtBalloonModel", "due", "(Z)V"⟩, 33), (⟨"ThoughtBalloonModel", "item", "(I)V"⟩, 33), (⟨"ThoughtBalloonModel", "number", "(II)I"⟩, 33), (⟨"ThoughtBalloonModel", "isOne", "(I)Z"⟩, 33)]
theorem lw_r5 : ∀ q ∈ lw_privs_5, lw_okq q := List.forall_mem_cons.mpr ⟨lw_p64, List.forall_mem_cons.mpr ⟨lw_p65, List.forall_mem_cons.mpr ⟨lw_p66, List.forall_mem_cons.mpr ⟨lw_p67, List.forall_mem_cons.mpr ⟨lw_p68, List.forall_mem_cons.mpr ⟨lw_p69, List.forall_mem_cons.mpr ⟨lw_p70, List.forall_mem_cons.mpr ⟨lw_p71, List.forall_mem_cons.mpr ⟨lw_p72, List.forall_mem_cons.mpr ⟨lw_p73, List.forall_mem_cons.mpr ⟨lw_p74, List.forall_mem_cons.mpr ⟨lw_p75, List.forall_mem_cons.mpr ⟨lw_p76, List.forall_mem_cons.mpr ⟨lw_p77, List.forall_mem_cons.mpr ⟨lw_p78, List.forall_mem_cons.mpr ⟨lw_p79, fun _ h => absurd h List.not_mem_nil⟩⟩⟩⟩⟩⟩⟩⟩⟩⟩⟩⟩⟩⟩⟩⟩
theorem lw_p80 : lw_okq (⟨"ThoughtBalloonModel", "liftsOf", "(I)I"⟩, 33) := ⟨⟨by decide +kernel, by decide +kernel⟩, List.mem_of_getElem? (i := 787) (by decide +kernel), List.mem_of_getElem? (i := 954) (by decide +kernel), List.mem_of_getElem? (i := 955) (by decide +kernel)⟩
theorem lw_p81 : lw_okq (⟨"ThoughtBalloonModel", "isThought", "(I)Z"⟩, 33) := ⟨⟨by decide +kernel, by decide +kernel⟩, List.mem_of_getElem? (i := 787) (by decide +kernel), List.mem_of_getElem? (i := 962) (by decide +kernel), List.mem_of_getElem? (i := 963) (by decide +kernel)⟩
theorem lw_p82 : lw_okq (⟨"ThoughtBalloonModel", "know", "()V"⟩, 33) := ⟨⟨by decide +kernel, by decide +kernel⟩, List.mem_of_getElem? (i := 787) (by decide +kernel), List.mem_of_getElem? (i := 973) (by decide +kernel), List.mem_of_getElem? (i := 974) (by decide +kernel)⟩
theorem lw_p83 : lw_okq (⟨"ThoughtBalloonModel", "hold", "([I)I"⟩, 33) := ⟨⟨by decide +kernel, by decide +kernel⟩, List.mem_of_getElem? (i := 787) (by decide +kernel), List.mem_of_getElem? (i := 980) (by decide +kernel), List.mem_of_getElem? (i := 981) (by decide +kernel)⟩
theorem lw_p84 : lw_okq (⟨"ThoughtBalloonModel", "passOn", "([I)V"⟩, 33) := ⟨⟨by decide +kernel, by decide +kernel⟩, List.mem_of_getElem? (i := 787) (by decide +kernel), List.mem_of_getElem? (i := 988) (by decide +kernel), List.mem_of_getElem? (i := 989) (by decide +kernel)⟩
theorem lw_p85 : lw_okq (⟨"ThoughtBalloonModel", "weights", "([I)I"⟩, 33) := ⟨⟨by decide +kernel, by decide +kernel⟩, List.mem_of_getElem? (i := 787) (by decide +kernel), List.mem_of_getElem? (i := 992) (by decide +kernel), List.mem_of_getElem? (i := 993) (by decide +kernel)⟩
theorem lw_p86 : lw_okq (⟨"ThoughtBalloonModel", "isAtRest", "()Z"⟩, 33) := ⟨⟨by decide +kernel, by decide +kernel⟩, List.mem_of_getElem? (i := 787) (by decide +kernel), List.mem_of_getElem? (i := 1000) (by decide +kernel), List.mem_of_getElem? (i := 1001) (by decide +kernel)⟩
theorem lw_p87 : lw_okq (⟨"ThoughtBalloonModel", "cover", "()I"⟩, 33) := ⟨⟨by decide +kernel, by decide +kernel⟩, List.mem_of_getElem? (i := 787) (by decide +kernel), List.mem_of_getElem? (i := 1019) (by decide +kernel), List.mem_of_getElem? (i := 1020) (by decide +kernel)⟩
theorem lw_p88 : lw_okq (⟨"ThoughtBalloonModel", "take", "()V"⟩, 33) := ⟨⟨by decide +kernel, by decide +kernel⟩, List.mem_of_getElem? (i := 787) (by decide +kernel), List.mem_of_getElem? (i := 1027) (by decide +kernel), List.mem_of_getElem? (i := 1028) (by decide +kernel)⟩
theorem lw_p89 : lw_okq (⟨"ThoughtBalloonModel", "goBy", "(IIII)I"⟩, 33) := ⟨⟨by decide +kernel, by decide +kernel⟩, List.mem_of_getElem? (i := 787) (by decide +kernel), List.mem_of_getElem? (i := 1039) (by decide +kernel), List.mem_of_getElem? (i := 1040) (by decide +kernel)⟩
theorem lw_p90 : lw_okq (⟨"ThoughtBalloonModel", "whichBy", "(I)I"⟩, 33) := ⟨⟨by decide +kernel, by decide +kernel⟩, List.mem_of_getElem? (i := 787) (by decide +kernel), List.mem_of_getElem? (i := 1059) (by decide +kernel), List.mem_of_getElem? (i := 1060) (by decide +kernel)⟩
theorem lw_p91 : lw_okq (⟨"ThoughtBalloonModel", "heightBy", "(III)I"⟩, 33) := ⟨⟨by decide +kernel, by decide +kernel⟩, List.mem_of_getElem? (i := 787) (by decide +kernel), List.mem_of_getElem? (i := 1063) (by decide +kernel), List.mem_of_getElem? (i := 1064) (by decide +kernel)⟩
def lw_privs_6 : List (MethodName × Nat) := [(⟨"ThoughtBalloonModel", "liftsOf", "(I)I"⟩, 33), (⟨"ThoughtBalloonModel", "isThought", "(I)Z"⟩, 33), (⟨"ThoughtBalloonModel", "know", "()V"⟩, 33), (⟨"ThoughtBalloonModel", "hold", "([I)I"⟩, 33), (⟨"ThoughtBalloonModel", "passOn", "([I)V"⟩, 33), (⟨"ThoughtBalloonModel", "weights", "([I)I"⟩, 33), (⟨"ThoughtBalloonModel", "isAtRest", "()Z"⟩, 33), (⟨"ThoughtBalloonModel", "cover", "()I"⟩, 33), (⟨"ThoughtBalloonModel", "take", "()V"⟩, 33), (⟨"ThoughtBalloonModel", "goBy", "(IIII)I"⟩, 33), (⟨"ThoughtBalloonModel", "whichBy", "(I)I"⟩, 33), (⟨"ThoughtBalloonModel", "heightBy", "(III)I"⟩, 33)]
theorem lw_r6 : ∀ q ∈ lw_privs_6, lw_okq q := List.forall_mem_cons.mpr ⟨lw_p80, List.forall_mem_cons.mpr ⟨lw_p81, List.forall_mem_cons.mpr ⟨lw_p82, List.forall_mem_cons.mpr ⟨lw_p83, List.forall_mem_cons.mpr ⟨lw_p84, List.forall_mem_cons.mpr ⟨lw_p85, List.forall_mem_cons.mpr ⟨lw_p86, List.forall_mem_cons.mpr ⟨lw_p87, List.forall_mem_cons.mpr ⟨lw_p88, List.forall_mem_cons.mpr ⟨lw_p89, List.forall_mem_cons.mpr ⟨lw_p90, List.forall_mem_cons.mpr ⟨lw_p91, fun _ h => absurd h List.not_mem_nil⟩⟩⟩⟩⟩⟩⟩⟩⟩⟩⟩⟩
def lw_privs : List (MethodName × Nat) := lw_privs_1 ++ (lw_privs_2 ++ (lw_privs_3 ++ (lw_privs_4 ++ (lw_privs_5 ++ (lw_privs_6)))))
def lw_tbl : List Cond := k2_sels lw_privs ++ tables_1
theorem lw_privs_ok : ∀ q ∈ lw_privs, lw_okq q := by
  show ∀ q ∈ lw_privs_1 ++ (lw_privs_2 ++ (lw_privs_3 ++ (lw_privs_4 ++ (lw_privs_5 ++ (lw_privs_6))))), lw_okq q
  exact List.forall_mem_append.mpr ⟨lw_r1, List.forall_mem_append.mpr ⟨lw_r2, List.forall_mem_append.mpr ⟨lw_r3, List.forall_mem_append.mpr ⟨lw_r4, List.forall_mem_append.mpr ⟨lw_r5, lw_r6⟩⟩⟩⟩⟩
-- ===== end of PART A; then your names; then what follows =====
end
section
def R_Fl : String := "ThoughtBalloon$Flight"
def F_Fl : u_T := fun k => match k with
  | 0 => ("ThoughtBalloon$Flight", "minute", "I", false)
  | 1 => ("ThoughtBalloon$Flight", "cell", "I", false)
  | 2 => ("ThoughtBalloon$Flight", "height", "I", false)
  | 3 => ("ThoughtBalloon$Flight", "thinker", "I", false)
  | 4 => ("ThoughtBalloon$Flight", "idea", "I", false)
  | 5 => ("ThoughtBalloon$Flight", "since", "I", false)
  | 6 => ("ThoughtBalloon$Flight", "aboard", "I", false)
  | 7 => ("ThoughtBalloon$Flight", "used", "I", false)
  | _ => ("ThoughtBalloon$Flight", "lost", "Z", false)
def t_Fl : Nat → FieldType := fun k => match k with
  | 0 => .int
  | 1 => .int
  | 2 => .int
  | 3 => .int
  | 4 => .int
  | 5 => .int
  | 6 => .int
  | 7 => .int
  | _ => .boolean
theorem nm_Fl : ∀ a, a < 9 → ∀ b, b < 9 → a ≠ b → (F_Fl a).2.1 ≠ (F_Fl b).2.1 := by decide +kernel
theorem ty_Fl : ∀ k, k < 9 → parseFieldDescriptor (F_Fl k).2.2.1 = some (t_Fl k) := by decide +kernel
def R_Hi : String := "ThoughtBalloon$History"
def F_Hi : u_T := fun k => match k with
  | 0 => ("ThoughtBalloon$History", "flights", "[LThoughtBalloon$Flight;", true)
  | _ => ("ThoughtBalloon$History", "size", "I", false)
def t_Hi : Nat → FieldType := fun k => match k with
  | 0 => .array (.object "ThoughtBalloon$Flight")
  | _ => .int
theorem nm_Hi : ∀ a, a < 2 → ∀ b, b < 2 → a ≠ b → (F_Hi a).2.1 ≠ (F_Hi b).2.1 := by decide +kernel
theorem ty_Hi : ∀ k, k < 2 → parseFieldDescriptor (F_Hi k).2.2.1 = some (t_Hi k) := by decide +kernel
def R_Im : String := "ThoughtBalloon$Image"
def F_Im : u_T := fun k => match k with
  | 0 => ("ThoughtBalloon$Image", "flight", "LThoughtBalloon$Flight;", true)
  | 1 => ("ThoughtBalloon$Image", "history", "LThoughtBalloon$History;", true)
  | _ => ("ThoughtBalloon$Image", "kept", "Z", false)
def t_Im : Nat → FieldType := fun k => match k with
  | 0 => .object "ThoughtBalloon$Flight"
  | 1 => .object "ThoughtBalloon$History"
  | _ => .boolean
theorem nm_Im : ∀ a, a < 3 → ∀ b, b < 3 → a ≠ b → (F_Im a).2.1 ≠ (F_Im b).2.1 := by decide +kernel
theorem ty_Im : ∀ k, k < 3 → parseFieldDescriptor (F_Im k).2.2.1 = some (t_Im k) := by decide +kernel
def R_Od : String := "ThoughtBalloon$Odds"
def F_Od : u_T := fun k => match k with
  | 0 => ("ThoughtBalloon$Odds", "ways", "[I", true)
  | 1 => ("ThoughtBalloon$Odds", "before", "[I", true)
  | _ => ("ThoughtBalloon$Odds", "all", "I", false)
def t_Od : Nat → FieldType := fun k => match k with
  | 0 => .array .int
  | 1 => .array .int
  | _ => .int
theorem nm_Od : ∀ a, a < 3 → ∀ b, b < 3 → a ≠ b → (F_Od a).2.1 ≠ (F_Od b).2.1 := by decide +kernel
theorem ty_Od : ∀ k, k < 3 → parseFieldDescriptor (F_Od k).2.2.1 = some (t_Od k) := by decide +kernel
def R_Re : String := "ThoughtBalloon$Reports"
def F_Re : u_T := fun k => match k with
  | 0 => ("ThoughtBalloon$Reports", "people", "[I", true)
  | 1 => ("ThoughtBalloon$Reports", "minutes", "[I", true)
  | 2 => ("ThoughtBalloon$Reports", "values", "[I", true)
  | _ => ("ThoughtBalloon$Reports", "size", "I", false)
def t_Re : Nat → FieldType := fun k => match k with
  | 0 => .array .int
  | 1 => .array .int
  | 2 => .array .int
  | _ => .int
theorem nm_Re : ∀ a, a < 4 → ∀ b, b < 4 → a ≠ b → (F_Re a).2.1 ≠ (F_Re b).2.1 := by decide +kernel
theorem ty_Re : ∀ k, k < 4 → parseFieldDescriptor (F_Re k).2.2.1 = some (t_Re k) := by decide +kernel
def R_Se : String := "ThoughtBalloon$Search"
def F_Se : u_T := fun k => match k with
  | 0 => ("ThoughtBalloon$Search", "told", "LThoughtBalloon$Told;", true)
  | 1 => ("ThoughtBalloon$Search", "flights", "[LThoughtBalloon$Flight;", true)
  | 2 => ("ThoughtBalloon$Search", "row", "[I", true)
  | 3 => ("ThoughtBalloon$Search", "found", "[I", true)
  | 4 => ("ThoughtBalloon$Search", "reach", "[[I", true)
  | 5 => ("ThoughtBalloon$Search", "turns", "I", false)
  | 6 => ("ThoughtBalloon$Search", "what", "I", false)
  | _ => ("ThoughtBalloon$Search", "greatest", "I", false)
def t_Se : Nat → FieldType := fun k => match k with
  | 0 => .object "ThoughtBalloon$Told"
  | 1 => .array (.object "ThoughtBalloon$Flight")
  | 2 => .array .int
  | 3 => .array .int
  | 4 => .array (.array .int)
  | 5 => .int
  | 6 => .int
  | _ => .int
theorem nm_Se : ∀ a, a < 8 → ∀ b, b < 8 → a ≠ b → (F_Se a).2.1 ≠ (F_Se b).2.1 := by decide +kernel
theorem ty_Se : ∀ k, k < 8 → parseFieldDescriptor (F_Se k).2.2.1 = some (t_Se k) := by decide +kernel
def R_Tx : String := "ThoughtBalloon$Text"
def F_Tx : u_T := fun k => match k with
  | 0 => ("ThoughtBalloon$Text", "bytes", "[I", true)
  | 1 => ("ThoughtBalloon$Text", "length", "I", false)
  | 2 => ("ThoughtBalloon$Text", "at", "I", false)
  | 3 => ("ThoughtBalloon$Text", "token", "I", false)
  | 4 => ("ThoughtBalloon$Text", "place", "I", false)
  | 5 => ("ThoughtBalloon$Text", "value", "I", false)
  | 6 => ("ThoughtBalloon$Text", "numbers", "[I", true)
  | _ => ("ThoughtBalloon$Text", "startIsTold", "Z", false)
def t_Tx : Nat → FieldType := fun k => match k with
  | 0 => .array .int
  | 1 => .int
  | 2 => .int
  | 3 => .int
  | 4 => .int
  | 5 => .int
  | 6 => .array .int
  | _ => .boolean
theorem nm_Tx : ∀ a, a < 8 → ∀ b, b < 8 → a ≠ b → (F_Tx a).2.1 ≠ (F_Tx b).2.1 := by decide +kernel
theorem ty_Tx : ∀ k, k < 8 → parseFieldDescriptor (F_Tx k).2.2.1 = some (t_Tx k) := by decide +kernel
def R_To : String := "ThoughtBalloon$Told"
def F_To : u_T := fun k => match k with
  | 0 => ("ThoughtBalloon$Told", "winds", "[I", true)
  | 1 => ("ThoughtBalloon$Told", "weights", "[I", true)
  | 2 => ("ThoughtBalloon$Told", "breaths", "[I", true)
  | 3 => ("ThoughtBalloon$Told", "lifts", "[I", true)
  | 4 => ("ThoughtBalloon$Told", "fades", "[I", true)
  | 5 => ("ThoughtBalloon$Told", "people", "I", false)
  | 6 => ("ThoughtBalloon$Told", "thoughts", "I", false)
  | 7 => ("ThoughtBalloon$Told", "start", "I", false)
  | _ => ("ThoughtBalloon$Told", "aboardAtFirst", "I", false)
def t_To : Nat → FieldType := fun k => match k with
  | 0 => .array .int
  | 1 => .array .int
  | 2 => .array .int
  | 3 => .array .int
  | 4 => .array .int
  | 5 => .int
  | 6 => .int
  | 7 => .int
  | _ => .int
theorem nm_To : ∀ a, a < 9 → ∀ b, b < 9 → a ≠ b → (F_To a).2.1 ≠ (F_To b).2.1 := by decide +kernel
theorem ty_To : ∀ k, k < 9 → parseFieldDescriptor (F_To k).2.2.1 = some (t_To k) := by decide +kernel
def R_Tb : String := "ThoughtBalloon"
def F_Tb : u_T := fun k => match k with
  | 0 => ("ThoughtBalloon", "text", "LThoughtBalloon$Text;", true)
  | 1 => ("ThoughtBalloon", "told", "LThoughtBalloon$Told;", true)
  | 2 => ("ThoughtBalloon", "draft", "LThoughtBalloon$Told;", true)
  | 3 => ("ThoughtBalloon", "flight", "LThoughtBalloon$Flight;", true)
  | 4 => ("ThoughtBalloon", "trial", "LThoughtBalloon$Flight;", true)
  | 5 => ("ThoughtBalloon", "history", "LThoughtBalloon$History;", true)
  | 6 => ("ThoughtBalloon", "images", "[LThoughtBalloon$Image;", true)
  | 7 => ("ThoughtBalloon", "search", "LThoughtBalloon$Search;", true)
  | 8 => ("ThoughtBalloon", "chances", "LThoughtBalloon$Odds;", true)
  | 9 => ("ThoughtBalloon", "seen", "LThoughtBalloon$Reports;", true)
  | 10 => ("ThoughtBalloon", "heard", "LThoughtBalloon$Reports;", true)
  | 11 => ("ThoughtBalloon", "alike", "[I", true)
  | _ => ("ThoughtBalloon", "traced", "J", false)
def t_Tb : Nat → FieldType := fun k => match k with
  | 0 => .object "ThoughtBalloon$Text"
  | 1 => .object "ThoughtBalloon$Told"
  | 2 => .object "ThoughtBalloon$Told"
  | 3 => .object "ThoughtBalloon$Flight"
  | 4 => .object "ThoughtBalloon$Flight"
  | 5 => .object "ThoughtBalloon$History"
  | 6 => .array (.object "ThoughtBalloon$Image")
  | 7 => .object "ThoughtBalloon$Search"
  | 8 => .object "ThoughtBalloon$Odds"
  | 9 => .object "ThoughtBalloon$Reports"
  | 10 => .object "ThoughtBalloon$Reports"
  | 11 => .array .int
  | _ => .long
theorem nm_Tb : ∀ a, a < 13 → ∀ b, b < 13 → a ≠ b → (F_Tb a).2.1 ≠ (F_Tb b).2.1 := by decide +kernel
theorem ty_Tb : ∀ k, k < 13 → parseFieldDescriptor (F_Tb k).2.2.1 = some (t_Tb k) := by decide +kernel
def R_Mo : String := "ThoughtBalloonModel"
def F_Mo : u_T := fun k => match k with
  | 0 => ("ThoughtBalloonModel", "text", "[B", true)
  | 1 => ("ThoughtBalloonModel", "typed", "I", false)
  | 2 => ("ThoughtBalloonModel", "winds", "[I", true)
  | 3 => ("ThoughtBalloonModel", "people", "[I", true)
  | 4 => ("ThoughtBalloonModel", "weight", "[I", true)
  | 5 => ("ThoughtBalloonModel", "breath", "[I", true)
  | 6 => ("ThoughtBalloonModel", "firstIn", "[I", true)
  | 7 => ("ThoughtBalloonModel", "thoughts", "[I", true)
  | 8 => ("ThoughtBalloonModel", "lift", "[I", true)
  | 9 => ("ThoughtBalloonModel", "fade", "[I", true)
  | 10 => ("ThoughtBalloonModel", "starts", "[I", true)
  | 11 => ("ThoughtBalloonModel", "at", "I", false)
  | 12 => ("ThoughtBalloonModel", "stands", "I", false)
  | 13 => ("ThoughtBalloonModel", "sort", "I", false)
  | 14 => ("ThoughtBalloonModel", "value", "I", false)
  | 15 => ("ThoughtBalloonModel", "isWrong", "Z", false)
  | 16 => ("ThoughtBalloonModel", "items", "I", false)
  | 17 => ("ThoughtBalloonModel", "isStarted", "Z", false)
  | 18 => ("ThoughtBalloonModel", "now", "[I", true)
  | 19 => ("ThoughtBalloonModel", "known", "[I", true)
  | 20 => ("ThoughtBalloonModel", "before", "[I", true)
  | 21 => ("ThoughtBalloonModel", "store", "[I", true)
  | 22 => ("ThoughtBalloonModel", "isKept", "[Z", true)
  | 23 => ("ThoughtBalloonModel", "tried", "[I", true)
  | 24 => ("ThoughtBalloonModel", "many", "[I", true)
  | 25 => ("ThoughtBalloonModel", "sightOf", "[I", true)
  | 26 => ("ThoughtBalloonModel", "sightAt", "[I", true)
  | 27 => ("ThoughtBalloonModel", "sightHigh", "[I", true)
  | 28 => ("ThoughtBalloonModel", "sights", "I", false)
  | 29 => ("ThoughtBalloonModel", "taleAt", "[I", true)
  | 30 => ("ThoughtBalloonModel", "taleHold", "[I", true)
  | 31 => ("ThoughtBalloonModel", "tales", "I", false)
  | _ => ("ThoughtBalloonModel", "trace", "J", false)
def t_Mo : Nat → FieldType := fun k => match k with
  | 0 => .array .byte
  | 1 => .int
  | 2 => .array .int
  | 3 => .array .int
  | 4 => .array .int
  | 5 => .array .int
  | 6 => .array .int
  | 7 => .array .int
  | 8 => .array .int
  | 9 => .array .int
  | 10 => .array .int
  | 11 => .int
  | 12 => .int
  | 13 => .int
  | 14 => .int
  | 15 => .boolean
  | 16 => .int
  | 17 => .boolean
  | 18 => .array .int
  | 19 => .array .int
  | 20 => .array .int
  | 21 => .array .int
  | 22 => .array .boolean
  | 23 => .array .int
  | 24 => .array .int
  | 25 => .array .int
  | 26 => .array .int
  | 27 => .array .int
  | 28 => .int
  | 29 => .array .int
  | 30 => .array .int
  | 31 => .int
  | _ => .long
theorem nm_Mo : ∀ a, a < 33 → ∀ b, b < 33 → a ≠ b → (F_Mo a).2.1 ≠ (F_Mo b).2.1 := by decide +kernel
theorem ty_Mo : ∀ k, k < 33 → parseFieldDescriptor (F_Mo k).2.2.1 = some (t_Mo k) := by decide +kernel
def R_La : String := "ThoughtBalloonLaw"
def R_Ma : String := "java/lang/Math"
def R_In : String := "java/lang/Integer"
def R_Ar : String := "java/util/Arrays"
abbrev e_cl : List vw_C := [(R_Fl, F_Fl, 9), (R_Hi, F_Hi, 2), (R_Im, F_Im, 3), (R_Od, F_Od, 3), (R_Re, F_Re, 4), (R_Se, F_Se, 8), (R_Tx, F_Tx, 8), (R_To, F_To, 9), (R_Tb, F_Tb, 13), (R_Mo, F_Mo, 33)]
/-- the words of the tables that stay true from call to call -/
def e_gw : List Cond := lw_tbl.filter goodWord
def e_isN : Cond → Bool
  | .fieldLinkNest .. => true
  | .methodLinkNest .. => true
  | _ => false
def e_nw : List Cond := tables_1.filter e_isN
theorem gw_t (i : Nat) {w : Cond} (h : tables_1[i]? = some w) (hg : goodWord w = true) : w ∈ e_gw := List.mem_filter.mpr ⟨List.mem_append_right _ (List.mem_of_getElem? h), hg⟩
theorem gw_s (i : Nat) {w : Cond} (h : (k2_sels lw_privs)[i]? = some w) (hg : goodWord w = true) : w ∈ e_gw := List.mem_filter.mpr ⟨List.mem_append_left _ (List.mem_of_getElem? h), hg⟩
theorem nw_t (i : Nat) {w : Cond} (h : tables_1[i]? = some w) (hg : e_isN w = true) : w ∈ e_nw := List.mem_filter.mpr ⟨List.mem_of_getElem? h, hg⟩
abbrev Mt : Type := MethodName × ByteArray × Nat × Option FieldType
def M_Tb_init : Mt := (⟨R_Tb, "<init>", "()V"⟩, prog_1_method_1_code, 2, none)
def M_Tx_init : Mt := (⟨R_Tx, "<init>", "()V"⟩, prog_8_method_1_code, 1, none)
def M_To_init : Mt := (⟨R_To, "<init>", "()V"⟩, prog_9_method_1_code, 1, none)
def M_Fl_init : Mt := (⟨R_Fl, "<init>", "()V"⟩, prog_2_method_1_code, 1, none)
def M_Hi_init : Mt := (⟨R_Hi, "<init>", "()V"⟩, prog_3_method_1_code, 2, none)
def M_Se_init : Mt := (⟨R_Se, "<init>", "(LThoughtBalloon$Told;)V"⟩, prog_7_method_1_code, 3, none)
def M_Od_init : Mt := (⟨R_Od, "<init>", "()V"⟩, prog_5_method_1_code, 1, none)
def M_Re_init : Mt := (⟨R_Re, "<init>", "()V"⟩, prog_6_method_1_code, 1, none)
def M_Im_init : Mt := (⟨R_Im, "<init>", "()V"⟩, prog_4_method_1_code, 1, none)
def M_Tb_startAnew : Mt := (⟨R_Tb, "startAnew", "()V"⟩, prog_1_method_31_code, 2, none)
def M_Fl_start : Mt := (⟨R_Fl, "start", "(II)V"⟩, prog_2_method_2_code, 3, none)
def M_Fl_thinkNothing : Mt := (⟨R_Fl, "thinkNothing", "()V"⟩, prog_2_method_10_code, 1, none)
def M_Re_drop : Mt := (⟨R_Re, "drop", "()I"⟩, prog_6_method_3_code, 2, (some .int))
def M_Tb_type : Mt := (⟨R_Tb, "type", "(I)I"⟩, prog_1_method_2_code, 2, (some .int))
def M_Tb_within : Mt := (⟨R_Tb, "within", "(III)Z"⟩, prog_1_method_30_code, 3, (some .boolean))
def M_Tx_add : Mt := (⟨R_Tx, "add", "(I)I"⟩, prog_8_method_2_code, 2, (some .int))
def M_Tb_clear : Mt := (⟨R_Tb, "clear", "()I"⟩, prog_1_method_3_code, 1, (some .int))
def M_Tx_drop : Mt := (⟨R_Tx, "drop", "()I"⟩, prog_8_method_3_code, 2, (some .int))
def M_Tb_sheds : Mt := (⟨R_Tb, "sheds", "()I"⟩, prog_1_method_4_code, 2, (some .int))
def M_Tx_readInto : Mt := (⟨R_Tx, "readInto", "(LThoughtBalloon$Told;)I"⟩, prog_8_method_4_code, 3, (some .int))
def M_To_tellNothing : Mt := (⟨R_To, "tellNothing", "()V"⟩, prog_9_method_2_code, 1, none)
def M_Ar_fill : Mt := (⟨R_Ar, "fill", "([II)V"⟩, prog_15_method_103_code, 4, none)
def M_Tx_readToken : Mt := (⟨R_Tx, "readToken", "()V"⟩, prog_8_method_8_code, 1, none)
def M_Tx_isLetter : Mt := (⟨R_Tx, "isLetter", "(I)Z"⟩, prog_8_method_11_code, 1, (some .boolean))
def M_Tx_readLetters : Mt := (⟨R_Tx, "readLetters", "()V"⟩, prog_8_method_9_code, 1, none)
def M_Tx_isDigit : Mt := (⟨R_Tx, "isDigit", "(I)Z"⟩, prog_8_method_12_code, 1, (some .boolean))
def M_Tx_readNumber : Mt := (⟨R_Tx, "readNumber", "()V"⟩, prog_8_method_10_code, 2, none)
def M_Ma_min : Mt := (⟨R_Ma, "min", "(II)I"⟩, prog_13_method_69_code, 2, (some .int))
def M_Tx_readItem : Mt := (⟨R_Tx, "readItem", "(LThoughtBalloon$Told;)Z"⟩, prog_8_method_5_code, 5, (some .boolean))
def M_Tx_itemBegun : Mt := (⟨R_Tx, "itemBegun", "(LThoughtBalloon$Told;)I"⟩, prog_8_method_6_code, 2, (some .int))
def M_Tx_tell : Mt := (⟨R_Tx, "tell", "(LThoughtBalloon$Told;I)V"⟩, prog_8_method_7_code, 3, none)
def M_To_tellWind : Mt := (⟨R_To, "tellWind", "(II)V"⟩, prog_9_method_4_code, 3, none)
def M_To_tellPerson : Mt := (⟨R_To, "tellPerson", "(III)V"⟩, prog_9_method_5_code, 4, none)
def M_To_tellThought : Mt := (⟨R_To, "tellThought", "(II)V"⟩, prog_9_method_6_code, 3, none)
def M_To_copyFrom : Mt := (⟨R_To, "copyFrom", "(LThoughtBalloon$Told;)V"⟩, prog_9_method_3_code, 2, none)
def M_Tb_wind : Mt := (⟨R_Tb, "wind", "(I)I"⟩, prog_1_method_5_code, 2, (some .int))
def M_To_windAt : Mt := (⟨R_To, "windAt", "(I)I"⟩, prog_9_method_9_code, 2, (some .int))
def M_Tb_one : Mt := (⟨R_Tb, "one", "(II)I"⟩, prog_1_method_6_code, 3, (some .int))
def M_To_hasPerson : Mt := (⟨R_To, "hasPerson", "(I)Z"⟩, prog_9_method_7_code, 2, (some .boolean))
def M_Fl_hasAboard : Mt := (⟨R_Fl, "hasAboard", "(I)Z"⟩, prog_2_method_4_code, 2, (some .boolean))
def M_Fl_usedBy : Mt := (⟨R_Fl, "usedBy", "(I)I"⟩, prog_2_method_5_code, 2, (some .int))
def M_To_liftsOf : Mt := (⟨R_To, "liftsOf", "(I)I"⟩, prog_9_method_16_code, 4, (some .int))
def M_To_canLift : Mt := (⟨R_To, "canLift", "(II)Z"⟩, prog_9_method_15_code, 3, (some .boolean))
def M_Tb_thought : Mt := (⟨R_Tb, "thought", "(II)I"⟩, prog_1_method_7_code, 3, (some .int))
def M_To_hasThought : Mt := (⟨R_To, "hasThought", "(I)Z"⟩, prog_9_method_8_code, 2, (some .boolean))
def M_Tb_begins : Mt := (⟨R_Tb, "begins", "(II)I"⟩, prog_1_method_8_code, 3, (some .int))
def M_Fl_mayBegin : Mt := (⟨R_Fl, "mayBegin", "(II)Z"⟩, prog_2_method_6_code, 3, (some .boolean))
def M_Hi_push : Mt := (⟨R_Hi, "push", "(LThoughtBalloon$Flight;)V"⟩, prog_3_method_2_code, 2, none)
def M_Hi_dropOldest : Mt := (⟨R_Hi, "dropOldest", "()V"⟩, prog_3_method_3_code, 3, none)
def M_Fl_copyFrom : Mt := (⟨R_Fl, "copyFrom", "(LThoughtBalloon$Flight;)V"⟩, prog_2_method_3_code, 2, none)
def M_Fl_begin : Mt := (⟨R_Fl, "begin", "(II)V"⟩, prog_2_method_8_code, 3, none)
def M_Fl_think : Mt := (⟨R_Fl, "think", "(II)V"⟩, prog_2_method_9_code, 3, none)
def M_To_hold : Mt := (⟨R_To, "hold", "(LThoughtBalloon$Flight;)I"⟩, prog_9_method_11_code, 5, (some .int))
def M_To_faded : Mt := (⟨R_To, "faded", "(III)I"⟩, prog_9_method_10_code, 3, (some .int))
def M_Ma_max : Mt := (⟨R_Ma, "max", "(II)I"⟩, prog_13_method_65_code, 2, (some .int))
def M_Tb_minutes : Mt := (⟨R_Tb, "minutes", "(I)I"⟩, prog_1_method_9_code, 2, (some .int))
def M_To_passMinutes : Mt := (⟨R_To, "passMinutes", "(LThoughtBalloon$Flight;I)V"⟩, prog_9_method_13_code, 4, none)
def M_To_passMinute : Mt := (⟨R_To, "passMinute", "(LThoughtBalloon$Flight;)V"⟩, prog_9_method_14_code, 3, none)
def M_To_load : Mt := (⟨R_To, "load", "(LThoughtBalloon$Flight;)I"⟩, prog_9_method_12_code, 4, (some .int))
def M_Fl_climb : Mt := (⟨R_Fl, "climb", "(I)V"⟩, prog_2_method_13_code, 2, none)
def M_Fl_drift : Mt := (⟨R_Fl, "drift", "(I)V"⟩, prog_2_method_14_code, 3, none)
def M_Tb_enters : Mt := (⟨R_Tb, "enters", "(I)I"⟩, prog_1_method_10_code, 2, (some .int))
def M_Fl_mayBeBoarded : Mt := (⟨R_Fl, "mayBeBoarded", "()Z"⟩, prog_2_method_7_code, 1, (some .boolean))
def M_Fl_takeIn : Mt := (⟨R_Fl, "takeIn", "(I)V"⟩, prog_2_method_11_code, 2, none)
def M_In_bitCount : Mt := (⟨R_In, "bitCount", "(I)I"⟩, prog_12_method_49_code, 1, (some .int))
def M_Tb_leaves : Mt := (⟨R_Tb, "leaves", "(I)I"⟩, prog_1_method_11_code, 2, (some .int))
def M_Fl_letOut : Mt := (⟨R_Fl, "letOut", "(I)V"⟩, prog_2_method_12_code, 2, none)
def M_Tb_undo : Mt := (⟨R_Tb, "undo", "()I"⟩, prog_1_method_12_code, 1, (some .int))
def M_Hi_pop : Mt := (⟨R_Hi, "pop", "(LThoughtBalloon$Flight;)V"⟩, prog_3_method_4_code, 2, none)
def M_Tb_now : Mt := (⟨R_Tb, "now", "(I)I"⟩, prog_1_method_13_code, 2, (some .int))
def M_To_cover : Mt := (⟨R_To, "cover", "()I"⟩, prog_9_method_17_code, 3, (some .int))
def M_To_covers : Mt := (⟨R_To, "covers", "(I)Z"⟩, prog_9_method_18_code, 3, (some .boolean))
def M_Tb_after : Mt := (⟨R_Tb, "after", "(II)I"⟩, prog_1_method_14_code, 3, (some .int))
def M_Tb_down : Mt := (⟨R_Tb, "down", "()I"⟩, prog_1_method_15_code, 2, (some .int))
def M_Tb_best : Mt := (⟨R_Tb, "best", "(III)I"⟩, prog_1_method_16_code, 4, (some .int))
def M_Se_run : Mt := (⟨R_Se, "run", "(LThoughtBalloon$Flight;II)V"⟩, prog_7_method_2_code, 4, none)
def M_Se_fillReach : Mt := (⟨R_Se, "fillReach", "()V"⟩, prog_7_method_3_code, 4, none)
def M_Se_tryTurns : Mt := (⟨R_Se, "tryTurns", "(I)V"⟩, prog_7_method_4_code, 4, none)
def M_Se_bound : Mt := (⟨R_Se, "bound", "(I)I"⟩, prog_7_method_6_code, 4, (some .int))
def M_Se_tryTurn : Mt := (⟨R_Se, "tryTurn", "(III)V"⟩, prog_7_method_5_code, 5, none)
def M_Tb_own : Mt := (⟨R_Tb, "own", "(I)I"⟩, prog_1_method_17_code, 3, (some .int))
def M_To_firstOwnWay : Mt := (⟨R_To, "firstOwnWay", "()I"⟩, prog_9_method_19_code, 6, (some .int))
def M_To_countOwn : Mt := (⟨R_To, "countOwn", "(I)I"⟩, prog_9_method_20_code, 5, (some .int))
def M_To_ownIn : Mt := (⟨R_To, "ownIn", "(II)I"⟩, prog_9_method_21_code, 6, (some .int))
def M_Tb_odds : Mt := (⟨R_Tb, "odds", "(IIIII)I"⟩, prog_1_method_18_code, 7, (some .int))
def M_Od_startAt : Mt := (⟨R_Od, "startAt", "(I)V"⟩, prog_5_method_2_code, 2, none)
def M_Od_spread : Mt := (⟨R_Od, "spread", "(II)V"⟩, prog_5_method_3_code, 4, none)
def M_Od_carry : Mt := (⟨R_Od, "carry", "(II)V"⟩, prog_5_method_4_code, 3, none)
def M_Od_upper : Mt := (⟨R_Od, "upper", "(I)I"⟩, prog_5_method_5_code, 2, (some .int))
def M_Od_common : Mt := (⟨R_Od, "common", "(I)I"⟩, prog_5_method_7_code, 6, (some .int))
def M_Od_lower : Mt := (⟨R_Od, "lower", "(I)I"⟩, prog_5_method_6_code, 2, (some .int))
def M_Tb_saw : Mt := (⟨R_Tb, "saw", "(III)I"⟩, prog_1_method_19_code, 4, (some .int))
def M_Re_add : Mt := (⟨R_Re, "add", "(III)I"⟩, prog_6_method_2_code, 4, (some .int))
def M_Tb_which : Mt := (⟨R_Tb, "which", "(I)I"⟩, prog_1_method_20_code, 2, (some .int))
def M_Tb_fitting : Mt := (⟨R_Tb, "fitting", "(I)I"⟩, prog_1_method_32_code, 4, (some .int))
def M_Tb_fits : Mt := (⟨R_Tb, "fits", "(II)Z"⟩, prog_1_method_33_code, 4, (some .boolean))
def M_Tb_heightLater : Mt := (⟨R_Tb, "heightLater", "(III)I"⟩, prog_1_method_34_code, 5, (some .int))
def M_Tb_look : Mt := (⟨R_Tb, "look", "(I)I"⟩, prog_1_method_21_code, 7, (some .int))
def M_Tb_greatestAlike : Mt := (⟨R_Tb, "greatestAlike", "(III)I"⟩, prog_1_method_35_code, 7, (some .int))
def M_Tb_hears : Mt := (⟨R_Tb, "hears", "(II)I"⟩, prog_1_method_22_code, 3, (some .int))
def M_Tb_laws : Mt := (⟨R_Tb, "laws", "(I)I"⟩, prog_1_method_23_code, 6, (some .int))
def M_Tb_isLaw : Mt := (⟨R_Tb, "isLaw", "(II)Z"⟩, prog_1_method_36_code, 4, (some .boolean))
def M_Tb_forget : Mt := (⟨R_Tb, "forget", "()I"⟩, prog_1_method_24_code, 1, (some .int))
def M_Tb_mark : Mt := (⟨R_Tb, "mark", "(II)I"⟩, prog_1_method_25_code, 3, (some .int))
def M_Tb_markLover : Mt := (⟨R_Tb, "markLover", "(I)I"⟩, prog_1_method_38_code, 2, (some .int))
def M_Tb_markOne : Mt := (⟨R_Tb, "markOne", "(I)I"⟩, prog_1_method_37_code, 2, (some .int))
def M_Tb_markGrudge : Mt := (⟨R_Tb, "markGrudge", "(I)I"⟩, prog_1_method_39_code, 2, (some .int))
def M_Tb_markPoet : Mt := (⟨R_Tb, "markPoet", "(I)I"⟩, prog_1_method_40_code, 2, (some .int))
def M_Tb_markMiser : Mt := (⟨R_Tb, "markMiser", "(I)I"⟩, prog_1_method_41_code, 2, (some .int))
def M_Tb_markWife : Mt := (⟨R_Tb, "markWife", "(I)I"⟩, prog_1_method_42_code, 2, (some .int))
def M_Tb_keep : Mt := (⟨R_Tb, "keep", "(I)I"⟩, prog_1_method_26_code, 2, (some .int))
def M_Im_take : Mt := (⟨R_Im, "take", "(LThoughtBalloon$Flight;LThoughtBalloon$History;)V"⟩, prog_4_method_2_code, 3, none)
def M_Hi_copyFrom : Mt := (⟨R_Hi, "copyFrom", "(LThoughtBalloon$History;)V"⟩, prog_3_method_5_code, 3, none)
def M_Tb_back : Mt := (⟨R_Tb, "back", "(I)I"⟩, prog_1_method_27_code, 2, (some .int))
def M_Im_give : Mt := (⟨R_Im, "give", "(LThoughtBalloon$Flight;LThoughtBalloon$History;)V"⟩, prog_4_method_3_code, 3, none)
def M_Tb_count : Mt := (⟨R_Tb, "count", "(I)I"⟩, prog_1_method_28_code, 2, (some .int))
def M_Tb_trace : Mt := (⟨R_Tb, "trace", "()J"⟩, prog_1_method_29_code, 1, (some .long))
def M_Mo_init : Mt := (⟨R_Mo, "<init>", "()V"⟩, prog_11_method_1_code, 1, none)
def M_Mo_type : Mt := (⟨R_Mo, "type", "(I)I"⟩, prog_11_method_6_code, 2, (some .int))
def M_Mo_in : Mt := (⟨R_Mo, "in", "(III)Z"⟩, prog_11_method_3_code, 3, (some .boolean))
def M_Mo_clear : Mt := (⟨R_Mo, "clear", "()I"⟩, prog_11_method_7_code, 2, (some .int))
def M_Mo_sheds : Mt := (⟨R_Mo, "sheds", "()I"⟩, prog_11_method_15_code, 2, (some .int))
def M_Mo_read : Mt := (⟨R_Mo, "read", "()V"⟩, prog_11_method_14_code, 2, none)
def M_Mo_step : Mt := (⟨R_Mo, "step", "()V"⟩, prog_11_method_9_code, 2, none)
def M_Mo_here : Mt := (⟨R_Mo, "here", "()I"⟩, prog_11_method_8_code, 1, (some .int))
def M_Mo_may : Mt := (⟨R_Mo, "may", "(I)Z"⟩, prog_11_method_13_code, 2, (some .boolean))
def M_Mo_due : Mt := (⟨R_Mo, "due", "(Z)V"⟩, prog_11_method_10_code, 2, none)
def M_Mo_item : Mt := (⟨R_Mo, "item", "(I)V"⟩, prog_11_method_12_code, 6, none)
def M_Mo_number : Mt := (⟨R_Mo, "number", "(II)I"⟩, prog_11_method_11_code, 4, (some .int))
def M_Mo_wind : Mt := (⟨R_Mo, "wind", "(I)I"⟩, prog_11_method_25_code, 2, (some .int))
def M_Mo_one : Mt := (⟨R_Mo, "one", "(II)I"⟩, prog_11_method_26_code, 3, (some .int))
def M_Mo_isOne : Mt := (⟨R_Mo, "isOne", "(I)Z"⟩, prog_11_method_17_code, 2, (some .boolean))
def M_Mo_has : Mt := (⟨R_Mo, "has", "(II)Z"⟩, prog_11_method_4_code, 2, (some .boolean))
def M_Mo_liftsOf : Mt := (⟨R_Mo, "liftsOf", "(I)I"⟩, prog_11_method_24_code, 4, (some .int))
def M_Mo_thought : Mt := (⟨R_Mo, "thought", "(II)I"⟩, prog_11_method_27_code, 3, (some .int))
def M_Mo_isThought : Mt := (⟨R_Mo, "isThought", "(I)Z"⟩, prog_11_method_18_code, 2, (some .boolean))
def M_Mo_begins : Mt := (⟨R_Mo, "begins", "(II)I"⟩, prog_11_method_29_code, 3, (some .int))
def M_Mo_canBegin : Mt := (⟨R_Mo, "canBegin", "([III)Z"⟩, prog_11_method_23_code, 3, (some .boolean))
def M_Mo_know : Mt := (⟨R_Mo, "know", "()V"⟩, prog_11_method_28_code, 2, none)
def M_Mo_begin : Mt := (⟨R_Mo, "begin", "([III)V"⟩, prog_11_method_22_code, 3, none)
def M_Mo_hold : Mt := (⟨R_Mo, "hold", "([I)I"⟩, prog_11_method_19_code, 3, (some .int))
def M_Mo_minutes : Mt := (⟨R_Mo, "minutes", "(I)I"⟩, prog_11_method_30_code, 3, (some .int))
def M_Mo_passOn : Mt := (⟨R_Mo, "passOn", "([I)V"⟩, prog_11_method_21_code, 4, none)
def M_Mo_weights : Mt := (⟨R_Mo, "weights", "([I)I"⟩, prog_11_method_20_code, 4, (some .int))
def M_Mo_enters : Mt := (⟨R_Mo, "enters", "(I)I"⟩, prog_11_method_32_code, 2, (some .int))
def M_Mo_isAtRest : Mt := (⟨R_Mo, "isAtRest", "()Z"⟩, prog_11_method_31_code, 1, (some .boolean))
def M_Mo_bitsOf : Mt := (⟨R_Mo, "bitsOf", "(I)I"⟩, prog_11_method_5_code, 3, (some .int))
def M_Mo_leaves : Mt := (⟨R_Mo, "leaves", "(I)I"⟩, prog_11_method_33_code, 2, (some .int))
def M_Mo_undo : Mt := (⟨R_Mo, "undo", "()I"⟩, prog_11_method_34_code, 2, (some .int))
def M_Mo_now : Mt := (⟨R_Mo, "now", "(I)I"⟩, prog_11_method_36_code, 2, (some .int))
def M_Mo_cover : Mt := (⟨R_Mo, "cover", "()I"⟩, prog_11_method_35_code, 5, (some .int))
def M_Mo_after : Mt := (⟨R_Mo, "after", "(II)I"⟩, prog_11_method_37_code, 4, (some .int))
def M_Mo_take : Mt := (⟨R_Mo, "take", "()V"⟩, prog_11_method_16_code, 2, none)
def M_Mo_down : Mt := (⟨R_Mo, "down", "()I"⟩, prog_11_method_38_code, 2, (some .int))
def M_Mo_best : Mt := (⟨R_Mo, "best", "(III)I"⟩, prog_11_method_40_code, 9, (some .int))
def M_Mo_goBy : Mt := (⟨R_Mo, "goBy", "(IIII)I"⟩, prog_11_method_39_code, 10, (some .int))
def M_Mo_own : Mt := (⟨R_Mo, "own", "(I)I"⟩, prog_11_method_41_code, 8, (some .int))
def M_Mo_odds : Mt := (⟨R_Mo, "odds", "(IIIII)I"⟩, prog_11_method_42_code, 12, (some .int))
def M_Mo_saw : Mt := (⟨R_Mo, "saw", "(III)I"⟩, prog_11_method_43_code, 4, (some .int))
def M_Mo_which : Mt := (⟨R_Mo, "which", "(I)I"⟩, prog_11_method_46_code, 2, (some .int))
def M_Mo_whichBy : Mt := (⟨R_Mo, "whichBy", "(I)I"⟩, prog_11_method_45_code, 6, (some .int))
def M_Mo_heightBy : Mt := (⟨R_Mo, "heightBy", "(III)I"⟩, prog_11_method_44_code, 5, (some .int))
def M_Mo_look : Mt := (⟨R_Mo, "look", "(I)I"⟩, prog_11_method_47_code, 10, (some .int))
def M_Mo_hears : Mt := (⟨R_Mo, "hears", "(II)I"⟩, prog_11_method_48_code, 3, (some .int))
def M_Mo_laws : Mt := (⟨R_Mo, "laws", "(I)I"⟩, prog_11_method_49_code, 9, (some .int))
def M_Mo_forget : Mt := (⟨R_Mo, "forget", "()I"⟩, prog_11_method_50_code, 2, (some .int))
def M_Mo_mark : Mt := (⟨R_Mo, "mark", "(II)I"⟩, prog_11_method_52_code, 7, (some .int))
def M_Mo_bodiesOf : Mt := (⟨R_Mo, "bodiesOf", "(I)I"⟩, prog_11_method_51_code, 1, (some .int))
def M_Mo_trace : Mt := (⟨R_Mo, "trace", "()J"⟩, prog_11_method_53_code, 1, (some .long))
def M_Mo_keep : Mt := (⟨R_Mo, "keep", "(I)I"⟩, prog_11_method_54_code, 3, (some .int))
def M_Mo_back : Mt := (⟨R_Mo, "back", "(I)I"⟩, prog_11_method_55_code, 3, (some .int))
def M_Mo_count : Mt := (⟨R_Mo, "count", "(I)I"⟩, prog_11_method_56_code, 2, (some .int))
def M_La_law : Mt := (⟨R_La, "law", "([I)Z"⟩, code, 4, some .boolean)
end
section
/-! THE ENGINE. A heap is a function from numbers to cells; a method's run is said over it, and carried to the machine once and for all. -/
/-- a cell: ints (type, length, contents), references (type, length, contents), an object (class, fields) -/
abbrev AC : Type := (Nat × Nat × (Nat → Int32)) ⊕ (Nat × Nat × (Nat → Option Nat)) ⊕ (Nat × List Value)
/-- a heap: how many cells and slots have been made; the cells -/
abbrev AH : Type := (Nat × Nat) × (Nat → Option AC)
/-- what a run is over: the launch, the classes' numbers and slots, the array classes; where new cells begin, where the read-only rows lie, what they hold -/
abbrev EX : Type := (Launch × va_G × (Nat → ClassId)) × (Nat × (Nat → Nat) × (Nat → Nat × (Nat → Int32)))
def e_am (X : EX) (k : Nat) : Nat := if k < 1000000 then X.2.1 + k else X.2.2.1 (k - 1000000)
def e_tr (X : EX) : Value → Value
  | .ref k => .ref (e_am X k)
  | v => v
def e_rf (X : EX) : Option Nat → Value
  | none => .null
  | some k => .ref (e_am X k)
def e_A (X : EX) : Nat → Prop := fun q => X.2.1 ≤ q
def e_tys : List FieldType := [.int, .byte, .boolean, .object R_Fl, .object R_Im, .array .int]
def e_at (X : EX) (k : Nat) (c : AC) (H : Heap) : Prop := match c with
  | .inl a => H[X.2.1 + k]? = some (arrV (X.1.2.2 a.1) a.2.1 (fun j => .int (a.2.2 j)))
  | .inr (.inl a) => H[X.2.1 + k]? = some (arrV (X.1.2.2 a.1) a.2.1 (fun j => e_rf X (a.2.2 j)))
  | .inr (.inr o) => ∃ r : vw_C, e_cl[o.1]? = some r ∧ t_OB (X.2.1 + k) (X.1.2.1.1 o.1) r.2.2 (X.1.2.1.2 o.1) H (vp_V (o.2.map (e_tr X)))
def e_P (X : EX) (h : AH) (H : Heap) : Prop := H.size = X.2.1 + h.1.1 ∧ ∀ (k : Nat) (c : AC), h.2 k = some c → k < 1000000 ∧ e_at X k c H
def e_put (h : AH) (a : Nat) (c : AC) : AH := (h.1, fun k => if k = a then some c else h.2 k)
def e_new (h : AH) (c : AC) (n : Nat) : AH := ((h.1.1 + 1, h.1.2 + n), fun k => if k = h.1.1 then some c else h.2 k)
def e_K (X : EX) (U : State) : Prop := va_K X.1.2.1 e_cl ((List.range 6).map (fun t => (X.1.2.2 t, e_tys.getD t .int))) U
def e_N (U : State) : Prop := ∀ w ∈ e_nw, va_Nw w U
def e_AOA (U : State) : Prop := (Cond.arrayOver (.array .int)).before #[] U = true
theorem e_AOA_moved {u U : State} (hvm : u.vm.Alike U.vm) (h : e_AOA u) : e_AOA U := by
  obtain ⟨comp, c, k, h1, h2, h3, h4, h5⟩ := arrayOverA_spec h
  obtain ⟨k', hk', he⟩ := hvm.2.2 _ _ h3
  have hi : (U.vm.classes.findIdx? fun (x : Class) => match x.kind with | .array component _ => component == comp | _ => false) = some c := by
    rw [hvm.findIdx?_eq _ (fun _ => rfl)]; exact h2
  have hkind : k'.kind = .array comp (.array .int) := by rw [he]; exact h4
  have f1 : U.vm.findClass (FieldType.array .int).toString = some comp := by rw [hvm.findClass]; exact h1
  have f2 : U.vm.findClass ("[" ++ (FieldType.array .int).toString) = some c := by rw [hvm.findClass]; exact h5
  unfold e_AOA Cond.before Cond.holds
  simp only [Cond.value]
  rw [f1, Option.bind_some]
  refine (congrArg (fun o : Option Nat => (o.bind (fun c => (U.vm.classes[c]?).map fun (k : Class) => match k.kind with | .array _ ty => decide (ty = FieldType.array .int) && decide (U.vm.findClass ("[" ++ (FieldType.array .int).toString) = some c) | _ => false) == some true)) hi).trans ?_
  simp [hk', hkind, f2]
def e_O (U : State) : Prop := va_AO R_Fl U ∧ va_AO R_Im U ∧ e_AOA U
def e_RO (X : EX) (U : State) (H : Heap) : Prop := ∀ j : Nat, j < 4 → ∃ cell : Cell, H[X.2.2.1 j]? = some cell ∧ U.isArrayOf cell .int ∧ cell.vm ≠ .unknown ∧ cell.slots.size = (X.2.2.2 j).1 ∧ (∀ i : Nat, i < (X.2.2.2 j).1 → cell.slots[i]? = some (.int ((X.2.2.2 j).2 i))) ∧ X.2.2.1 j < X.2.1
def e_Z (X : EX) (U : State) (H : Heap) : Prop := va_Z R_Tx "NUMBERS" "[I" (.ref (X.2.2.1 0)) (e_A X) U H ∧ va_Z R_Tx "LEAST" "[I" (.ref (X.2.2.1 1)) (e_A X) U H ∧ va_Z R_Tx "MOST" "[I" (.ref (X.2.2.1 2)) (e_A X) U H
def e_E (X : EX) (U : State) (H : Heap) : Prop := e_K X U ∧ e_N U ∧ e_O U ∧ e_RO X U H ∧ e_Z X U H ∧ X.2.1 ≤ H.size
def e_C (X : EX) (M : Mt) (p : Program) (s : State) (m : MethodId) (args : Array Value) (meth : Method) (c : Code) : Prop :=
  p.tables.exec = Jvm.exec ∧ c.code = M.2.1 ∧ c.maxLocals = M.2.2.1 ∧ s.vm.findClass M.1.cls = some m.cls ∧ (∀ w ∈ e_gw, w.before args s = true) ∧ meth.sig.returnType = M.2.2.2 ∧ meth.locks = false ∧ (M.1.name = "<init>" → meth.name = "<init>") ∧ e_E X s s.heap
def e_L (X : EX) (n : Nat) (ls : List Value) (l : Array Slot) : Prop := ls.length = n ∧ l.size = n ∧ lv_wf l ∧ ∀ (i : Nat) (v : Value), ls[i]? = some v → v ≠ .null → l[i]? = some (.val (e_tr X v))
def e_F (X : EX) (M : Mt) (p : Program) (e : Env) (R : Room) (s : State) (m : MethodId) (args : Array Value) (below : List Frame) (meth : Method) (c : Code) (n0 s0 : Nat) (Q : State → Prop) (r : Option Value) (h' : AH) : Prop :=
  ∀ (H : Heap) (locs : List Loc) (l : Array Slot) (pc cells slots : Nat), e_P X h' H → va_S (e_A X) s.heap H locs → cells + n0 = h'.1.1 → slots + s0 = h'.1.2 →
    (r = none → M.2.2.2 = none → decode M.2.1 pc = .ok (.return_, 1) → W p X.1.1 e R s m args below meth c H locs cells slots Q (F0 m pc l [])) ∧
    (∀ (v : Int32) (ty : FieldType), r = some (.int v) → M.2.2.2 = some ty → narrow ty (.int v) = .int v → decode M.2.1 pc = .ok (.ireturn, 1) → W p X.1.1 e R s m args below meth c H locs cells slots Q (F0 m pc l [.int v])) ∧
    (∀ v : Int64, r = some (.long v) → M.2.2.2 = some .long → decode M.2.1 pc = .ok (.lreturn, 1) → W p X.1.1 e R s m args below meth c H locs cells slots Q (F0 m pc l [.long v]))
def e_W (X : EX) (d : Nat) (M : Mt) (pc : Nat) (ls st : List Value) (h : AH) (r : Option Value) (h' : AH) : Prop :=
  (h.1.1 ≤ h'.1.1 ∧ h.1.2 ≤ h'.1.2) ∧ ∀ (p : Program) (e : Env) (R : Room) (s : State) (m : MethodId) (args : Array Value) (below : List Frame) (meth : Method) (c : Code) (H : Heap) (locs : List Loc) (cells slots : Nat) (Q : State → Prop) (n0 s0 : Nat) (l : Array Slot),
    e_C X M p s m args meth c → d ≤ R.frames → 60 * d ≤ R.locals → h'.1.1 ≤ R.cells + n0 → h'.1.2 ≤ R.slots + s0 → e_P X h H → va_S (e_A X) s.heap H locs → cells + n0 = h.1.1 → slots + s0 = h.1.2 → e_L X M.2.2.1 ls l → e_F X M p e R s m args below meth c n0 s0 Q r h' →
    W p X.1.1 e R s m args below meth c H locs cells slots Q (F0 m pc l (st.map (e_tr X)))
/-- from this point of the method it comes to its end, and Q of its answer and the heap -/
def T (X : EX) (d : Nat) (M : Mt) (pc : Nat) (ls st : List Value) (h : AH) (Q : Option Value → AH → Prop) : Prop := ∃ (r : Option Value) (h' : AH), Q r h' ∧ e_W X d M pc ls st h r h'
def e_Pc (X : EX) (av : List Value) (h : AH) : Array Value → State → Prop := fun v U => v = (av.map (e_tr X)).toArray ∧ e_P X h U.heap ∧ e_E X U U.heap
def e_Qc (X : EX) (r : Option Value) (h' : AH) : Array Value → State → Outcome → State → Prop := fun _ st oc t => oc = .returned (r.map (e_tr X)) ∧ e_P X h' t.heap ∧ va_F (e_A X) st t
def e_ws (M : Mt) : List Cond := .code M.1 M.2.1 M.2.2.1 M.2.2.2 :: e_gw
def e_M (X : EX) (d : Nat) (M : Mt) (av : List Value) (h : AH) (r : Option Value) (h' : AH) : Prop :=
  (h.1.1 ≤ h'.1.1 ∧ h.1.2 ≤ h'.1.2) ∧ Met X.1.1 M.1 (e_ws M) ({ frames := d, cells := h'.1.1 - h.1.1, slots := h'.1.2 - h.1.2, locals := 60 * d }) (e_Pc X av h) (e_Qc X r h') (h'.1.1 - h.1.1) (h'.1.2 - h.1.2) (e_A X)
/-- a method's contract: called so, it ends, and Q of its answer and the heap -/
def C (X : EX) (d : Nat) (M : Mt) (av : List Value) (h : AH) (Q : Option Value → AH → Prop) : Prop := ∃ (r : Option Value) (h' : AH), Q r h' ∧ e_M X d M av h r h'
section ENG
variable {X : EX} {d : Nat} {M : Mt} {pc pc' : Nat} {ls ls' st st' : List Value} {h : AH} {Q : Option Value → AH → Prop}
/-- one step that leaves the heap as it is -/
theorem T_pure (hw : ∀ (p : Program) (e : Env) (R : Room) (s : State) (m : MethodId) (args : Array Value) (below : List Frame) (meth : Method) (c : Code) (H : Heap) (locs : List Loc) (cells slots : Nat) (Q : State → Prop) (l : Array Slot), e_C X M p s m args meth c → d ≤ R.frames → 60 * d ≤ R.locals → cells ≤ R.cells → slots ≤ R.slots → e_P X h H → va_S (e_A X) s.heap H locs → e_L X M.2.2.1 ls l → (∀ l' : Array Slot, e_L X M.2.2.1 ls' l' → W p X.1.1 e R s m args below meth c H locs cells slots Q (F0 m pc' l' (st'.map (e_tr X)))) → W p X.1.1 e R s m args below meth c H locs cells slots Q (F0 m pc l (st.map (e_tr X))))
    (k : T X d M pc' ls' st' h Q) : T X d M pc ls st h Q := by
  obtain ⟨r, h', q, mono, w⟩ := k
  refine ⟨r, h', q, mono, fun p e R s m args below meth c H locs cells slots Q n0 s0 l hC h1 h2 h3 h4 hP hS hc hs hL hF => ?_⟩
  exact hw p e R s m args below meth c H locs cells slots Q l hC h1 h2 (by omega) (by omega) hP hS hL (fun l' hL' => w p e R s m args below meth c H locs cells slots Q n0 s0 l' hC h1 h2 h3 h4 hP hS hc hs hL' hF)
theorem T_iconst {n : Int} {v : Int32} (hd : decode M.2.1 pc = .ok (.iconst n, 1)) (hn : pc + 1 = pc') (hv : Int32.ofInt n = v) (k : T X d M pc' ls (.int v :: st) h Q) : T X d M pc ls st h Q :=
  T_pure (fun p e R s m args below meth c H locs cells slots Q l hC _ _ _ _ _ _ hL hk => lv_iconst hC.1 hC.2.1 hd hv (by rw [hn]; exact hk l hL)) k
theorem T_bipush {n : Int} {v : Int32} (hd : decode M.2.1 pc = .ok (.bipush n, 2)) (hn : pc + 2 = pc') (hv : (Int8.ofInt n).toInt32 = v) (k : T X d M pc' ls (.int v :: st) h Q) : T X d M pc ls st h Q :=
  T_pure (fun p e R s m args below meth c H locs cells slots Q l hC _ _ _ _ _ _ hL hk => lv_bipush hC.1 hC.2.1 hd hv (by rw [hn]; exact hk l hL)) k
theorem T_sipush {n : Int} {v : Int32} (hd : decode M.2.1 pc = .ok (.sipush n, 3)) (hn : pc + 3 = pc') (hv : (Int16.ofInt n).toInt32 = v) (k : T X d M pc' ls (.int v :: st) h Q) : T X d M pc ls st h Q :=
  T_pure (fun p e R s m args below meth c H locs cells slots Q l hC _ _ _ _ _ _ hL hk => lv_sipush hC.1 hC.2.1 hd hv (by rw [hn]; exact hk l hL)) k
theorem T_lconst {n : Fin 2} {v : Int64} (hd : decode M.2.1 pc = .ok (.lconst n, 1)) (hn : pc + 1 = pc') (hv : Int64.ofNat (n : Nat) = v) (k : T X d M pc' ls (.long v :: st) h Q) : T X d M pc ls st h Q :=
  T_pure (fun p e R s m args below meth c H locs cells slots Q l hC _ _ _ _ _ _ hL hk => lv_lconst hC.1 hC.2.1 hd hv (by rw [hn]; exact hk l hL)) k
theorem T_ldc {index : Nat} {v : Int32} (hd : decode M.2.1 pc = .ok (.ldc index, 2)) (hn : pc + 2 = pc') (hv : Cond.constant M.1.cls index v ∈ e_gw) (k : T X d M pc' ls (.int v :: st) h Q) : T X d M pc ls st h Q :=
  T_pure (fun p e R s m args below meth c H locs cells slots Q l hC _ _ _ _ _ _ hL hk => lv_ldc hC.1 hC.2.1 hC.2.2.2.1 (hC.2.2.2.2.1 _ hv) hd (by rw [hn]; exact hk l hL)) k
theorem T_ldcw {index : Nat} {v : Int32} (hd : decode M.2.1 pc = .ok (.ldc_w index, 3)) (hn : pc + 3 = pc') (hv : Cond.constant M.1.cls index v ∈ e_gw) (k : T X d M pc' ls (.int v :: st) h Q) : T X d M pc ls st h Q :=
  T_pure (fun p e R s m args below meth c H locs cells slots Q l hC _ _ _ _ _ _ hL hk => lv_ldcw hC.1 hC.2.1 hC.2.2.2.1 (hC.2.2.2.2.1 _ hv) hd (by rw [hn]; exact hk l hL)) k
theorem T_ldc2 {index : Nat} {v : Int64} (hd : decode M.2.1 pc = .ok (.ldc2_w index, 3)) (hn : pc + 3 = pc') (hv : Cond.constantLong M.1.cls index v ∈ e_gw) (k : T X d M pc' ls (.long v :: st) h Q) : T X d M pc ls st h Q :=
  T_pure (fun p e R s m args below meth c H locs cells slots Q l hC _ _ _ _ _ _ hL hk => lv_ldc2 hC.1 hC.2.1 hC.2.2.2.1 (hC.2.2.2.2.1 _ hv) hd (by rw [hn]; exact hk l hL)) k
theorem e_Lat {n i : Nat} {l : Array Slot} {v : Value} (hL : e_L X n ls l) (hi : ls[i]? = some v) (hv : v ≠ .null) : l[i]? = some (.val (e_tr X v)) := hL.2.2.2 i v hi hv
theorem T_iload_n {k : Fin 4} {i : Nat} {x : Int32} (hd : decode M.2.1 pc = .ok (.iload_n k, 1)) (hn : pc + 1 = pc') (hk : (k : Nat) = i) (hl : ls[i]? = some (.int x)) (kk : T X d M pc' ls (.int x :: st) h Q) : T X d M pc ls st h Q :=
  T_pure (fun p e R s m args below meth c H locs cells slots Q l hC _ _ _ _ _ _ hL hq => lv_iload_n hC.1 hC.2.1 hd hk (e_Lat hL hl (fun z => by cases z)) (by rw [hn]; exact hq l hL)) kk
theorem T_iload {i : Nat} {x : Int32} (hd : decode M.2.1 pc = .ok (.iload i, 2)) (hn : pc + 2 = pc') (hl : ls[i]? = some (.int x)) (kk : T X d M pc' ls (.int x :: st) h Q) : T X d M pc ls st h Q :=
  T_pure (fun p e R s m args below meth c H locs cells slots Q l hC _ _ _ _ _ _ hL hq => lv_iload hC.1 hC.2.1 hd (e_Lat hL hl (fun z => by cases z)) (by rw [hn]; exact hq l hL)) kk
theorem T_lload {i : Nat} {x : Int64} (hd : decode M.2.1 pc = .ok (.lload i, 2)) (hn : pc + 2 = pc') (hl : ls[i]? = some (.long x)) (kk : T X d M pc' ls (.long x :: st) h Q) : T X d M pc ls st h Q :=
  T_pure (fun p e R s m args below meth c H locs cells slots Q l hC _ _ _ _ _ _ hL hq => lv_lload hC.1 hC.2.1 hd (e_Lat hL hl (fun z => by cases z)) (by rw [hn]; exact hq l hL)) kk
theorem T_aload_n {k : Fin 4} {i : Nat} {x : Nat} (hd : decode M.2.1 pc = .ok (.aload_n k, 1)) (hn : pc + 1 = pc') (hk : (k : Nat) = i) (hl : ls[i]? = some (.ref x)) (kk : T X d M pc' ls (.ref x :: st) h Q) : T X d M pc ls st h Q :=
  T_pure (fun p e R s m args below meth c H locs cells slots Q l hC _ _ _ _ _ _ hL hq => lv_aload_n hC.1 hC.2.1 hd hk (e_Lat hL hl (fun z => by cases z)) (by rw [hn]; exact hq l hL)) kk
theorem T_aload {i : Nat} {x : Nat} (hd : decode M.2.1 pc = .ok (.aload i, 2)) (hn : pc + 2 = pc') (hl : ls[i]? = some (.ref x)) (kk : T X d M pc' ls (.ref x :: st) h Q) : T X d M pc ls st h Q :=
  T_pure (fun p e R s m args below meth c H locs cells slots Q l hC _ _ _ _ _ _ hL hq => lv_aload hC.1 hC.2.1 hd (e_Lat hL hl (fun z => by cases z)) (by rw [hn]; exact hq l hL)) kk
theorem T_iadd {x y : Int32} (hd : decode M.2.1 pc = .ok (.iadd, 1)) (hn : pc + 1 = pc') (k : T X d M pc' ls (.int (x + y) :: st) h Q) : T X d M pc ls (.int y :: .int x :: st) h Q :=
  T_pure (fun p e R s m args below meth c H locs cells slots Q l hC _ _ _ _ _ _ hL hk => lv_iadd hC.1 hC.2.1 hd (by rw [hn]; exact hk l hL)) k
theorem T_isub {x y : Int32} (hd : decode M.2.1 pc = .ok (.isub, 1)) (hn : pc + 1 = pc') (k : T X d M pc' ls (.int (x - y) :: st) h Q) : T X d M pc ls (.int y :: .int x :: st) h Q :=
  T_pure (fun p e R s m args below meth c H locs cells slots Q l hC _ _ _ _ _ _ hL hk => lv_isub hC.1 hC.2.1 hd (by rw [hn]; exact hk l hL)) k
theorem T_imul {x y : Int32} (hd : decode M.2.1 pc = .ok (.imul, 1)) (hn : pc + 1 = pc') (k : T X d M pc' ls (.int (x * y) :: st) h Q) : T X d M pc ls (.int y :: .int x :: st) h Q :=
  T_pure (fun p e R s m args below meth c H locs cells slots Q l hC _ _ _ _ _ _ hL hk => lv_imul hC.1 hC.2.1 hd (by rw [hn]; exact hk l hL)) k
theorem T_idiv {x y : Int32} (hd : decode M.2.1 pc = .ok (.idiv, 1)) (hn : pc + 1 = pc') (hy : ¬ y = 0) (k : T X d M pc' ls (.int (x / y) :: st) h Q) : T X d M pc ls (.int y :: .int x :: st) h Q :=
  T_pure (fun p e R s m args below meth c H locs cells slots Q l hC _ _ _ _ _ _ hL hk => lv_idiv hC.1 hC.2.1 hd hy (by rw [hn]; exact hk l hL)) k
theorem T_irem {x y : Int32} (hd : decode M.2.1 pc = .ok (.irem, 1)) (hn : pc + 1 = pc') (hy : ¬ y = 0) (k : T X d M pc' ls (.int (x - x / y * y) :: st) h Q) : T X d M pc ls (.int y :: .int x :: st) h Q :=
  T_pure (fun p e R s m args below meth c H locs cells slots Q l hC _ _ _ _ _ _ hL hk => lv_irem hC.1 hC.2.1 hd hy (by rw [hn]; exact hk l hL)) k
theorem T_ineg {x : Int32} (hd : decode M.2.1 pc = .ok (.ineg, 1)) (hn : pc + 1 = pc') (k : T X d M pc' ls (.int (-x) :: st) h Q) : T X d M pc ls (.int x :: st) h Q :=
  T_pure (fun p e R s m args below meth c H locs cells slots Q l hC _ _ _ _ _ _ hL hk => lv_ineg hC.1 hC.2.1 hd (by rw [hn]; exact hk l hL)) k
theorem T_iand {x y : Int32} (hd : decode M.2.1 pc = .ok (.iand, 1)) (hn : pc + 1 = pc') (k : T X d M pc' ls (.int (x &&& y) :: st) h Q) : T X d M pc ls (.int y :: .int x :: st) h Q :=
  T_pure (fun p e R s m args below meth c H locs cells slots Q l hC _ _ _ _ _ _ hL hk => lv_iand hC.1 hC.2.1 hd (by rw [hn]; exact hk l hL)) k
theorem T_ior {x y : Int32} (hd : decode M.2.1 pc = .ok (.ior, 1)) (hn : pc + 1 = pc') (k : T X d M pc' ls (.int (x ||| y) :: st) h Q) : T X d M pc ls (.int y :: .int x :: st) h Q :=
  T_pure (fun p e R s m args below meth c H locs cells slots Q l hC _ _ _ _ _ _ hL hk => lv_ior hC.1 hC.2.1 hd (by rw [hn]; exact hk l hL)) k
theorem T_ixor {x y : Int32} (hd : decode M.2.1 pc = .ok (.ixor, 1)) (hn : pc + 1 = pc') (k : T X d M pc' ls (.int (x ^^^ y) :: st) h Q) : T X d M pc ls (.int y :: .int x :: st) h Q :=
  T_pure (fun p e R s m args below meth c H locs cells slots Q l hC _ _ _ _ _ _ hL hk => lv_ixor hC.1 hC.2.1 hd (by rw [hn]; exact hk l hL)) k
theorem T_ishl {x y : Int32} (hd : decode M.2.1 pc = .ok (.ishl, 1)) (hn : pc + 1 = pc') (k : T X d M pc' ls (.int (x <<< (y &&& 31)) :: st) h Q) : T X d M pc ls (.int y :: .int x :: st) h Q :=
  T_pure (fun p e R s m args below meth c H locs cells slots Q l hC _ _ _ _ _ _ hL hk => lv_ishl hC.1 hC.2.1 hd (by rw [hn]; exact hk l hL)) k
theorem T_ishr {x y : Int32} (hd : decode M.2.1 pc = .ok (.ishr, 1)) (hn : pc + 1 = pc') (k : T X d M pc' ls (.int (x >>> (y &&& 31)) :: st) h Q) : T X d M pc ls (.int y :: .int x :: st) h Q :=
  T_pure (fun p e R s m args below meth c H locs cells slots Q l hC _ _ _ _ _ _ hL hk => lv_ishr hC.1 hC.2.1 hd (by rw [hn]; exact hk l hL)) k
theorem T_iushr {x y : Int32} (hd : decode M.2.1 pc = .ok (.iushr, 1)) (hn : pc + 1 = pc') (k : T X d M pc' ls (.int ((x.toUInt32 >>> (y.toUInt32 &&& Int32.toUInt32 31)).toInt32) :: st) h Q) : T X d M pc ls (.int y :: .int x :: st) h Q :=
  T_pure (fun p e R s m args below meth c H locs cells slots Q l hC _ _ _ _ _ _ hL hk => lv_iushr hC.1 hC.2.1 hd rfl (by rw [hn]; exact hk l hL)) k
theorem T_i2b {x : Int32} (hd : decode M.2.1 pc = .ok (.i2b, 1)) (hn : pc + 1 = pc') (k : T X d M pc' ls (.int x.toInt8.toInt32 :: st) h Q) : T X d M pc ls (.int x :: st) h Q :=
  T_pure (fun p e R s m args below meth c H locs cells slots Q l hC _ _ _ _ _ _ hL hk => lv_i2b hC.1 hC.2.1 hd rfl (by rw [hn]; exact hk l hL)) k
theorem T_ladd {x y : Int64} (hd : decode M.2.1 pc = .ok (.ladd, 1)) (hn : pc + 1 = pc') (k : T X d M pc' ls (.long (x + y) :: st) h Q) : T X d M pc ls (.long y :: .long x :: st) h Q :=
  T_pure (fun p e R s m args below meth c H locs cells slots Q l hC _ _ _ _ _ _ hL hk => lv_ladd hC.1 hC.2.1 hd (by rw [hn]; exact hk l hL)) k
theorem T_lmul {x y : Int64} (hd : decode M.2.1 pc = .ok (.lmul, 1)) (hn : pc + 1 = pc') (k : T X d M pc' ls (.long (x * y) :: st) h Q) : T X d M pc ls (.long y :: .long x :: st) h Q :=
  T_pure (fun p e R s m args below meth c H locs cells slots Q l hC _ _ _ _ _ _ hL hk => lv_lmul hC.1 hC.2.1 hd (by rw [hn]; exact hk l hL)) k
theorem T_lcmp {x y : Int64} (hd : decode M.2.1 pc = .ok (.lcmp, 1)) (hn : pc + 1 = pc') (k : T X d M pc' ls (.int (lg_cmp x y) :: st) h Q) : T X d M pc ls (.long y :: .long x :: st) h Q :=
  T_pure (fun p e R s m args below meth c H locs cells slots Q l hC _ _ _ _ _ _ hL hk => W.lcmp hC.1 hC.2.1 hd (by rw [hn]; exact hk l hL)) k
theorem e_cat (v : Value) : (e_tr X v).category = v.category := by cases v <;> rfl
theorem T_dup {v : Value} (hd : decode M.2.1 pc = .ok (.dup, 1)) (hn : pc + 1 = pc') (hv : v.category = 1) (k : T X d M pc' ls (v :: v :: st) h Q) : T X d M pc ls (v :: st) h Q :=
  T_pure (fun p e R s m args below meth c H locs cells slots Q l hC _ _ _ _ _ _ hL hk => lv_dup hC.1 hC.2.1 hd ((e_cat v).trans hv) (by rw [hn]; exact hk l hL)) k
theorem T_pop {v : Value} (hd : decode M.2.1 pc = .ok (.pop, 1)) (hn : pc + 1 = pc') (hv : v.category = 1) (k : T X d M pc' ls st h Q) : T X d M pc ls (v :: st) h Q :=
  T_pure (fun p e R s m args below meth c H locs cells slots Q l hC _ _ _ _ _ _ hL hk => lv_pop hC.1 hC.2.1 hd ((e_cat v).trans hv) (by rw [hn]; exact hk l hL)) k
theorem T_dup2 {v w : Value} (hd : decode M.2.1 pc = .ok (.dup2, 1)) (hn : pc + 1 = pc') (hv : v.category = 1) (hw : w.category = 1) (k : T X d M pc' ls (v :: w :: v :: w :: st) h Q) : T X d M pc ls (v :: w :: st) h Q :=
  T_pure (fun p e R s m args below meth c H locs cells slots Q l hC _ _ _ _ _ _ hL hk => lv_dup2_11 hC.1 hC.2.1 hd ((e_cat v).trans hv) ((e_cat w).trans hw) (by rw [hn]; exact hk l hL)) k
theorem T_goto {off : Int} (hd : decode M.2.1 pc = .ok (.goto off, 3)) (hn : (pc : Int) + off = (pc' : Int)) (k : T X d M pc' ls st h Q) : T X d M pc ls st h Q :=
  T_pure (fun p e R s m args below meth c H locs cells slots Q l hC _ _ _ _ _ _ hL hk => lv_goto hC.1 hC.2.1 hd hn (hk l hL)) k
end ENG
end
section
section ENG2
variable {X : EX} {d : Nat} {M : Mt} {pc pc' : Nat} {ls ls' st st' : List Value} {h : AH} {Q : Option Value → AH → Prop}
theorem T_icmp_eq {x y : Int32} {off : Int} {tgt : Nat} (hd : decode M.2.1 pc = .ok (.if_icmp .eq off, 3)) (hn : pc + 3 = pc') (ht : (pc : Int) + off = (tgt : Int)) (kt : x = y → T X d M tgt ls st h Q) (kf : ¬ x = y → T X d M pc' ls st h Q) : T X d M pc ls (.int y :: .int x :: st) h Q := by
  by_cases hc : x = y
  · exact T_pure (fun p e R s m args below meth c H locs cells slots Q l hC _ _ _ _ _ _ hL hk => lv_icmp_eq hC.1 hC.2.1 hd ht (fun _ => hk l hL) (fun q => absurd hc (by first | exact q | (intro z; exact absurd z q) | simpa using q))) (kt hc)
  · exact T_pure (fun p e R s m args below meth c H locs cells slots Q l hC _ _ _ _ _ _ hL hk => lv_icmp_eq hC.1 hC.2.1 hd ht (fun q => absurd q hc) (fun _ => by rw [hn]; exact hk l hL)) (kf (by first | exact hc | simpa using hc))
theorem T_if_eq {x : Int32} {off : Int} {tgt : Nat} (hd : decode M.2.1 pc = .ok (.ifCond .eq off, 3)) (hn : pc + 3 = pc') (ht : (pc : Int) + off = (tgt : Int)) (kt : x = 0 → T X d M tgt ls st h Q) (kf : ¬ x = 0 → T X d M pc' ls st h Q) : T X d M pc ls (.int x :: st) h Q := by
  by_cases hc : x = 0
  · exact T_pure (fun p e R s m args below meth c H locs cells slots Q l hC _ _ _ _ _ _ hL hk => lv_if_eq hC.1 hC.2.1 hd ht (fun _ => hk l hL) (fun q => absurd hc (by first | exact q | (intro z; exact absurd z q) | simpa using q))) (kt hc)
  · exact T_pure (fun p e R s m args below meth c H locs cells slots Q l hC _ _ _ _ _ _ hL hk => lv_if_eq hC.1 hC.2.1 hd ht (fun q => absurd q hc) (fun _ => by rw [hn]; exact hk l hL)) (kf (by first | exact hc | simpa using hc))
theorem T_icmp_ne {x y : Int32} {off : Int} {tgt : Nat} (hd : decode M.2.1 pc = .ok (.if_icmp .ne off, 3)) (hn : pc + 3 = pc') (ht : (pc : Int) + off = (tgt : Int)) (kt : ¬ x = y → T X d M tgt ls st h Q) (kf : x = y → T X d M pc' ls st h Q) : T X d M pc ls (.int y :: .int x :: st) h Q := by
  by_cases hc : ¬ x = y
  · exact T_pure (fun p e R s m args below meth c H locs cells slots Q l hC _ _ _ _ _ _ hL hk => lv_icmp_ne hC.1 hC.2.1 hd ht (fun _ => hk l hL) (fun q => absurd hc (by first | exact q | (intro z; exact absurd z q) | simpa using q))) (kt hc)
  · exact T_pure (fun p e R s m args below meth c H locs cells slots Q l hC _ _ _ _ _ _ hL hk => lv_icmp_ne hC.1 hC.2.1 hd ht (fun q => absurd q hc) (fun _ => by rw [hn]; exact hk l hL)) (kf (by first | exact hc | simpa using hc))
theorem T_if_ne {x : Int32} {off : Int} {tgt : Nat} (hd : decode M.2.1 pc = .ok (.ifCond .ne off, 3)) (hn : pc + 3 = pc') (ht : (pc : Int) + off = (tgt : Int)) (kt : ¬ x = 0 → T X d M tgt ls st h Q) (kf : x = 0 → T X d M pc' ls st h Q) : T X d M pc ls (.int x :: st) h Q := by
  by_cases hc : ¬ x = 0
  · exact T_pure (fun p e R s m args below meth c H locs cells slots Q l hC _ _ _ _ _ _ hL hk => lv_if_ne hC.1 hC.2.1 hd ht (fun _ => hk l hL) (fun q => absurd hc (by first | exact q | (intro z; exact absurd z q) | simpa using q))) (kt hc)
  · exact T_pure (fun p e R s m args below meth c H locs cells slots Q l hC _ _ _ _ _ _ hL hk => lv_if_ne hC.1 hC.2.1 hd ht (fun q => absurd q hc) (fun _ => by rw [hn]; exact hk l hL)) (kf (by first | exact hc | simpa using hc))
theorem T_icmp_lt {x y : Int32} {off : Int} {tgt : Nat} (hd : decode M.2.1 pc = .ok (.if_icmp .lt off, 3)) (hn : pc + 3 = pc') (ht : (pc : Int) + off = (tgt : Int)) (kt : x < y → T X d M tgt ls st h Q) (kf : ¬ x < y → T X d M pc' ls st h Q) : T X d M pc ls (.int y :: .int x :: st) h Q := by
  by_cases hc : x < y
  · exact T_pure (fun p e R s m args below meth c H locs cells slots Q l hC _ _ _ _ _ _ hL hk => lv_icmp_lt hC.1 hC.2.1 hd ht (fun _ => hk l hL) (fun q => absurd hc (by first | exact q | (intro z; exact absurd z q) | simpa using q))) (kt hc)
  · exact T_pure (fun p e R s m args below meth c H locs cells slots Q l hC _ _ _ _ _ _ hL hk => lv_icmp_lt hC.1 hC.2.1 hd ht (fun q => absurd q hc) (fun _ => by rw [hn]; exact hk l hL)) (kf (by first | exact hc | simpa using hc))
theorem T_if_lt {x : Int32} {off : Int} {tgt : Nat} (hd : decode M.2.1 pc = .ok (.ifCond .lt off, 3)) (hn : pc + 3 = pc') (ht : (pc : Int) + off = (tgt : Int)) (kt : x < 0 → T X d M tgt ls st h Q) (kf : ¬ x < 0 → T X d M pc' ls st h Q) : T X d M pc ls (.int x :: st) h Q := by
  by_cases hc : x < 0
  · exact T_pure (fun p e R s m args below meth c H locs cells slots Q l hC _ _ _ _ _ _ hL hk => lv_if_lt hC.1 hC.2.1 hd ht (fun _ => hk l hL) (fun q => absurd hc (by first | exact q | (intro z; exact absurd z q) | simpa using q))) (kt hc)
  · exact T_pure (fun p e R s m args below meth c H locs cells slots Q l hC _ _ _ _ _ _ hL hk => lv_if_lt hC.1 hC.2.1 hd ht (fun q => absurd q hc) (fun _ => by rw [hn]; exact hk l hL)) (kf (by first | exact hc | simpa using hc))
theorem T_icmp_ge {x y : Int32} {off : Int} {tgt : Nat} (hd : decode M.2.1 pc = .ok (.if_icmp .ge off, 3)) (hn : pc + 3 = pc') (ht : (pc : Int) + off = (tgt : Int)) (kt : y ≤ x → T X d M tgt ls st h Q) (kf : ¬ y ≤ x → T X d M pc' ls st h Q) : T X d M pc ls (.int y :: .int x :: st) h Q := by
  by_cases hc : y ≤ x
  · exact T_pure (fun p e R s m args below meth c H locs cells slots Q l hC _ _ _ _ _ _ hL hk => lv_icmp_ge hC.1 hC.2.1 hd ht (fun _ => hk l hL) (fun q => absurd hc (by first | exact q | (intro z; exact absurd z q) | simpa using q))) (kt hc)
  · exact T_pure (fun p e R s m args below meth c H locs cells slots Q l hC _ _ _ _ _ _ hL hk => lv_icmp_ge hC.1 hC.2.1 hd ht (fun q => absurd q hc) (fun _ => by rw [hn]; exact hk l hL)) (kf (by first | exact hc | simpa using hc))
theorem T_if_ge {x : Int32} {off : Int} {tgt : Nat} (hd : decode M.2.1 pc = .ok (.ifCond .ge off, 3)) (hn : pc + 3 = pc') (ht : (pc : Int) + off = (tgt : Int)) (kt : 0 ≤ x → T X d M tgt ls st h Q) (kf : ¬ 0 ≤ x → T X d M pc' ls st h Q) : T X d M pc ls (.int x :: st) h Q := by
  by_cases hc : 0 ≤ x
  · exact T_pure (fun p e R s m args below meth c H locs cells slots Q l hC _ _ _ _ _ _ hL hk => lv_if_ge hC.1 hC.2.1 hd ht (fun _ => hk l hL) (fun q => absurd hc (by first | exact q | (intro z; exact absurd z q) | simpa using q))) (kt hc)
  · exact T_pure (fun p e R s m args below meth c H locs cells slots Q l hC _ _ _ _ _ _ hL hk => lv_if_ge hC.1 hC.2.1 hd ht (fun q => absurd q hc) (fun _ => by rw [hn]; exact hk l hL)) (kf (by first | exact hc | simpa using hc))
theorem T_icmp_gt {x y : Int32} {off : Int} {tgt : Nat} (hd : decode M.2.1 pc = .ok (.if_icmp .gt off, 3)) (hn : pc + 3 = pc') (ht : (pc : Int) + off = (tgt : Int)) (kt : y < x → T X d M tgt ls st h Q) (kf : ¬ y < x → T X d M pc' ls st h Q) : T X d M pc ls (.int y :: .int x :: st) h Q := by
  by_cases hc : y < x
  · exact T_pure (fun p e R s m args below meth c H locs cells slots Q l hC _ _ _ _ _ _ hL hk => lv_icmp_gt hC.1 hC.2.1 hd ht (fun _ => hk l hL) (fun q => absurd hc (by first | exact q | (intro z; exact absurd z q) | simpa using q))) (kt hc)
  · exact T_pure (fun p e R s m args below meth c H locs cells slots Q l hC _ _ _ _ _ _ hL hk => lv_icmp_gt hC.1 hC.2.1 hd ht (fun q => absurd q hc) (fun _ => by rw [hn]; exact hk l hL)) (kf (by first | exact hc | simpa using hc))
theorem T_if_gt {x : Int32} {off : Int} {tgt : Nat} (hd : decode M.2.1 pc = .ok (.ifCond .gt off, 3)) (hn : pc + 3 = pc') (ht : (pc : Int) + off = (tgt : Int)) (kt : 0 < x → T X d M tgt ls st h Q) (kf : ¬ 0 < x → T X d M pc' ls st h Q) : T X d M pc ls (.int x :: st) h Q := by
  by_cases hc : 0 < x
  · exact T_pure (fun p e R s m args below meth c H locs cells slots Q l hC _ _ _ _ _ _ hL hk => lv_if_gt hC.1 hC.2.1 hd ht (fun _ => hk l hL) (fun q => absurd hc (by first | exact q | (intro z; exact absurd z q) | simpa using q))) (kt hc)
  · exact T_pure (fun p e R s m args below meth c H locs cells slots Q l hC _ _ _ _ _ _ hL hk => lv_if_gt hC.1 hC.2.1 hd ht (fun q => absurd q hc) (fun _ => by rw [hn]; exact hk l hL)) (kf (by first | exact hc | simpa using hc))
theorem T_icmp_le {x y : Int32} {off : Int} {tgt : Nat} (hd : decode M.2.1 pc = .ok (.if_icmp .le off, 3)) (hn : pc + 3 = pc') (ht : (pc : Int) + off = (tgt : Int)) (kt : x ≤ y → T X d M tgt ls st h Q) (kf : ¬ x ≤ y → T X d M pc' ls st h Q) : T X d M pc ls (.int y :: .int x :: st) h Q := by
  by_cases hc : x ≤ y
  · exact T_pure (fun p e R s m args below meth c H locs cells slots Q l hC _ _ _ _ _ _ hL hk => lv_icmp_le hC.1 hC.2.1 hd ht (fun _ => hk l hL) (fun q => absurd hc (by first | exact q | (intro z; exact absurd z q) | simpa using q))) (kt hc)
  · exact T_pure (fun p e R s m args below meth c H locs cells slots Q l hC _ _ _ _ _ _ hL hk => lv_icmp_le hC.1 hC.2.1 hd ht (fun q => absurd q hc) (fun _ => by rw [hn]; exact hk l hL)) (kf (by first | exact hc | simpa using hc))
theorem T_if_le {x : Int32} {off : Int} {tgt : Nat} (hd : decode M.2.1 pc = .ok (.ifCond .le off, 3)) (hn : pc + 3 = pc') (ht : (pc : Int) + off = (tgt : Int)) (kt : x ≤ 0 → T X d M tgt ls st h Q) (kf : ¬ x ≤ 0 → T X d M pc' ls st h Q) : T X d M pc ls (.int x :: st) h Q := by
  by_cases hc : x ≤ 0
  · exact T_pure (fun p e R s m args below meth c H locs cells slots Q l hC _ _ _ _ _ _ hL hk => lv_if_le hC.1 hC.2.1 hd ht (fun _ => hk l hL) (fun q => absurd hc (by first | exact q | (intro z; exact absurd z q) | simpa using q))) (kt hc)
  · exact T_pure (fun p e R s m args below meth c H locs cells slots Q l hC _ _ _ _ _ _ hL hk => lv_if_le hC.1 hC.2.1 hd ht (fun q => absurd q hc) (fun _ => by rw [hn]; exact hk l hL)) (kf (by first | exact hc | simpa using hc))
theorem T_tableIn {dflt lo hi : Int} {offs : Array Int} {len : Nat} {x : Int32} {off : Int} (hd : decode M.2.1 pc = .ok (.tableswitch dflt lo hi offs, len)) (h1 : ¬ x.toInt < lo) (h2 : ¬ hi < x.toInt) (ho : offs[(x.toInt - lo).toNat]? = some off) (ht : (pc : Int) + off = (pc' : Int)) (k : T X d M pc' ls st h Q) : T X d M pc ls (.int x :: st) h Q :=
  T_pure (fun p e R s m args below meth c H locs cells slots Q l hC _ _ _ _ _ _ hL hk => lv_tableIn hC.1 hC.2.1 hd h1 h2 ho ht (hk l hL)) k
theorem T_tableOut {dflt lo hi : Int} {offs : Array Int} {len : Nat} {x : Int32} (hd : decode M.2.1 pc = .ok (.tableswitch dflt lo hi offs, len)) (h1 : x.toInt < lo ∨ hi < x.toInt) (ht : (pc : Int) + dflt = (pc' : Int)) (k : T X d M pc' ls st h Q) : T X d M pc ls (.int x :: st) h Q :=
  T_pure (fun p e R s m args below meth c H locs cells slots Q l hC _ _ _ _ _ _ hL hk => lv_tableOut hC.1 hC.2.1 hd h1 ht (hk l hL)) k
theorem T_lookup {dflt : Int} {ps : Array (Int × Int)} {len : Nat} {x : Int32} {off : Int} (hd : decode M.2.1 pc = .ok (.lookupswitch dflt ps, len)) (hp : (ps.toList.zip (ps.toList.drop 1)).all (fun (a, next) => a.1 < next.1) = true) (ho : Op.lookupswitch.offset ps.toList dflt x.toInt = off) (ht : (pc : Int) + off = (pc' : Int)) (k : T X d M pc' ls st h Q) : T X d M pc ls (.int x :: st) h Q :=
  T_pure (fun p e R s m args below meth c H locs cells slots Q l hC _ _ _ _ _ _ hL hk => lv_lookup hC.1 hC.2.1 hd hp ho ht (hk l hL)) k
/-- the place ahead of i holds no long -/
def e_ok (ls : List Value) : Nat → Bool
  | 0 => true
  | j + 1 => match ls[j]? with
    | some v => v.category == 1
    | none => true
/-- the locals that are known, by their places -/
def e_kn (X : EX) (ls : List Value) : List (Nat × Value) := (ls.zipIdx.filter (fun q => !(q.1 == Value.null))).map (fun q => (q.2, e_tr X q.1))
theorem e_kn_mem {i : Nat} {w : Value} (hq : (i, w) ∈ e_kn X ls) : ∃ v, ls[i]? = some v ∧ v ≠ .null ∧ w = e_tr X v := by
  obtain ⟨⟨v, j⟩, h1, h2⟩ := List.mem_map.mp hq
  obtain ⟨h3, h4⟩ := List.mem_filter.mp h1
  cases h2
  refine ⟨v, ?_, ?_, rfl⟩
  · simpa using List.mem_zipIdx_iff_getElem?.mp h3
  · intro z; subst z; simp at h4
theorem e_kn_of {i : Nat} {v : Value} (hi : ls[i]? = some v) (hv : v ≠ .null) : (i, e_tr X v) ∈ e_kn X ls := by
  refine List.mem_map.mpr ⟨(v, i), List.mem_filter.mpr ⟨List.mem_zipIdx_iff_getElem?.mpr (by simpa using hi), ?_⟩, rfl⟩
  simp [hv]
theorem e_L_has {n : Nat} {l : Array Slot} (hL : e_L X n ls l) : lv_has l n (e_kn X ls) := by
  refine ⟨hL.2.1, hL.2.2.1, fun q hq => ?_⟩
  obtain ⟨v, h1, h2, h3⟩ := e_kn_mem (i := q.1) (w := q.2) hq
  rw [h3]
  exact hL.2.2.2 _ _ h1 h2
theorem e_L_set {n i : Nat} {l' : Array Slot} {v : Value} (hlen : ls.length = n) (hok : e_ok ls i = true) (h' : lv_has l' n ((i, e_tr X v) :: (e_kn X ls).filter (fun q => !(q.1 == i) && !(q.1 + 1 == i && q.2.category == 2)))) : e_L X n (ls.set i v) l' := by
  refine ⟨by simpa using hlen, h'.1, h'.2.1, fun j w hj hw => ?_⟩
  by_cases hji : j = i
  · subst hji
    have hlt : j < ls.length := by
      have := (List.getElem?_eq_some_iff.mp hj).1
      simpa using this
    rw [List.getElem?_set_self hlt] at hj
    cases hj
    exact h'.2.2 (j, e_tr X v) List.mem_cons_self
  · rw [List.getElem?_set_ne (Ne.symm hji)] at hj
    refine h'.2.2 (j, e_tr X w) (List.mem_cons_of_mem _ (List.mem_filter.mpr ⟨e_kn_of hj hw, ?_⟩))
    have h1 : (j == i) = false := by simpa using hji
    simp only [h1, Bool.not_false, Bool.true_and, Bool.not_eq_true', Bool.and_eq_false_iff]
    by_cases h2 : j + 1 = i
    · right
      subst h2
      simp only [e_ok, hj] at hok
      rw [e_cat]
      have : w.category = 1 := by simpa using hok
      rw [this]; rfl
    · left; simpa using h2
theorem T_istore_n {k : Fin 4} {i : Nat} {x : Int32} (hd : decode M.2.1 pc = .ok (.istore_n k, 1)) (hn : pc + 1 = pc') (hk : (k : Nat) = i) (hi : i < M.2.2.1) (hok : e_ok ls i = true) (hl : ls.set i (.int x) = ls') (kk : T X d M pc' ls' st h Q) : T X d M pc ls (.int x :: st) h Q := by
  subst hl
  exact T_pure (fun p e R s m args below meth c H locs cells slots Q l hC _ _ _ _ _ _ hL hq => lv_istore_n hC.1 hC.2.1 hd hk (e_L_has hL) hi rfl (fun l' h' => by rw [hn]; exact hq l' (e_L_set hL.1 hok h'))) kk
theorem T_istore {i : Nat} {x : Int32} (hd : decode M.2.1 pc = .ok (.istore i, 2)) (hn : pc + 2 = pc') (hi : i < M.2.2.1) (hok : e_ok ls i = true) (hl : ls.set i (.int x) = ls') (kk : T X d M pc' ls' st h Q) : T X d M pc ls (.int x :: st) h Q := by
  subst hl
  exact T_pure (fun p e R s m args below meth c H locs cells slots Q l hC _ _ _ _ _ _ hL hq => lv_istore hC.1 hC.2.1 hd (e_L_has hL) hi rfl (fun l' h' => by rw [hn]; exact hq l' (e_L_set hL.1 hok h'))) kk
theorem T_astore_n {k : Fin 4} {i : Nat} {x : Nat} (hd : decode M.2.1 pc = .ok (.astore_n k, 1)) (hn : pc + 1 = pc') (hk : (k : Nat) = i) (hi : i < M.2.2.1) (hok : e_ok ls i = true) (hl : ls.set i (.ref x) = ls') (kk : T X d M pc' ls' st h Q) : T X d M pc ls (.ref x :: st) h Q := by
  subst hl
  exact T_pure (fun p e R s m args below meth c H locs cells slots Q l hC _ _ _ _ _ _ hL hq => lv_astore_n hC.1 hC.2.1 hd hk (e_L_has hL) hi rfl (fun l' h' => by rw [hn]; exact hq l' (e_L_set hL.1 hok h'))) kk
theorem T_astore {i : Nat} {x : Nat} (hd : decode M.2.1 pc = .ok (.astore i, 2)) (hn : pc + 2 = pc') (hi : i < M.2.2.1) (hok : e_ok ls i = true) (hl : ls.set i (.ref x) = ls') (kk : T X d M pc' ls' st h Q) : T X d M pc ls (.ref x :: st) h Q := by
  subst hl
  exact T_pure (fun p e R s m args below meth c H locs cells slots Q l hC _ _ _ _ _ _ hL hq => lv_astore hC.1 hC.2.1 hd (e_L_has hL) hi rfl (fun l' h' => by rw [hn]; exact hq l' (e_L_set hL.1 hok h'))) kk
theorem T_iinc {i : Nat} {n : Int} {x v : Int32} (hd : decode M.2.1 pc = .ok (.iinc i n, 3)) (hn : pc + 3 = pc') (hx : ls[i]? = some (.int x)) (hv : x + Int32.ofInt n = v) (hi : i < M.2.2.1) (hok : e_ok ls i = true) (hl : ls.set i (.int v) = ls') (kk : T X d M pc' ls' st h Q) : T X d M pc ls st h Q := by
  subst hl
  refine T_pure (fun p e R s m args below meth c H locs cells slots Q l hC _ _ _ _ _ _ hL hq => ?_) kk
  obtain ⟨j, hj⟩ := List.getElem?_of_mem (e_kn_of (X := X) hx (fun z => by cases z))
  exact lv_iinc hC.1 hC.2.1 hd (e_L_has hL) hj hv hi rfl (fun l' h' => by rw [hn]; exact hq l' (e_L_set hL.1 hok h'))
theorem T_lstore {i : Nat} {x : Int64} (hd : decode M.2.1 pc = .ok (.lstore i, 2)) (hn : pc + 2 = pc') (hi : i + 1 < M.2.2.1) (hok : e_ok ls i = true) (hl : (ls.set i (.long x)).set (i + 1) .null = ls') (kk : T X d M pc' ls' st h Q) : T X d M pc ls (.long x :: st) h Q := by
  subst hl
  refine T_pure (fun p e R s m args below meth c H locs cells slots Q l hC _ _ _ _ _ _ hL hq => ?_) kk
  refine lv_lstore hC.1 hC.2.1 hd (e_L_has hL) hi rfl (fun l' h' => ?_)
  rw [hn]
  refine hq l' ?_
  refine ⟨by simpa using hL.1, h'.1, h'.2.1, fun j w hj hw => ?_⟩
  have hlen := hL.1
  by_cases hj1 : j = i + 1
  · subst hj1
    rw [List.getElem?_set_self (by rw [List.length_set]; omega)] at hj
    cases hj
    exact absurd rfl hw
  · rw [List.getElem?_set_ne (Ne.symm hj1)] at hj
    by_cases hji : j = i
    · subst hji
      rw [List.getElem?_set_self (by omega)] at hj
      cases hj
      exact h'.2.2 (j, .long x) List.mem_cons_self
    · rw [List.getElem?_set_ne (Ne.symm hji)] at hj
      refine h'.2.2 (j, e_tr X w) (List.mem_cons_of_mem _ (List.mem_filter.mpr ⟨e_kn_of hj hw, ?_⟩))
      have h1 : (j == i) = false := by simpa using hji
      have h1' : (j == i + 1) = false := by simpa using hj1
      simp only [h1, h1', Bool.not_false, Bool.true_and, Bool.not_eq_true', Bool.and_eq_false_iff]
      by_cases h2 : j + 1 = i
      · right
        subst h2
        simp only [e_ok, hj] at hok
        rw [e_cat]
        have : w.category = 1 := by simpa using hok
        rw [this]; rfl
      · left; simpa using h2
end ENG2
end
section
/-! fields, arrays, new cells -/
def KC (ci : Nat) (r : vw_C) (ty : Nat → FieldType) : Prop := e_cl[ci]? = some r ∧ (∀ w ∈ u_ws r.1 r.2.1 r.2.2, w ∈ e_gw) ∧ (∀ k, k < r.2.2 → parseFieldDescriptor (r.2.1 k).2.2.1 = some (ty k)) ∧ (∀ a, a < r.2.2 → ∀ b, b < r.2.2 → a ≠ b → (r.2.1 a).2.1 ≠ (r.2.1 b).2.1)
/-- entry idx of the class own names field k of class ci: its type, whether it is final -/
def FL (own : String) (idx ci k : Nat) (ty : FieldType) (fin : Bool) : Prop := ∃ (r : vw_C) (tys : Nat → FieldType), KC ci r tys ∧ k < r.2.2 ∧ (Cond.fieldLink own idx r.1 (r.2.1 k).2.1 (r.2.1 k).2.2.1 ∈ e_gw ∨ ∃ host, Cond.fieldLinkNest own idx r.1 (r.2.1 k).2.1 (r.2.1 k).2.2.1 host ∈ e_nw ∧ fin = false) ∧ tys k = ty ∧ (r.2.1 k).2.2.2 = fin ∧ (r.2.1 k).1 = r.1 ∧ (fin = true → own = r.1)
/-- entry idx of the class own names field k of class ci: to be read -/
def FG (own : String) (idx ci k : Nat) : Prop := ∃ (r : vw_C) (tys : Nat → FieldType), KC ci r tys ∧ k < r.2.2 ∧ (Cond.fieldLink own idx r.1 (r.2.1 k).2.1 (r.2.1 k).2.2.1 ∈ e_gw ∨ ∃ host, Cond.fieldLinkNest own idx r.1 (r.2.1 k).2.1 (r.2.1 k).2.2.1 host ∈ e_nw) ∧ (r.2.1 k).1 = r.1
theorem FL.g {own : String} {idx ci k : Nat} {ty : FieldType} {fin : Bool} (h : FL own idx ci k ty fin) : FG own idx ci k := by
  obtain ⟨r, tys, h1, h2, h3, -, -, h4, -⟩ := h
  exact ⟨r, tys, h1, h2, h3.imp id (fun ⟨host, q, _⟩ => ⟨host, q⟩), h4⟩
section ENG3
variable {X : EX} {d : Nat} {M : Mt} {pc pc' : Nat} {ls ls' st st' : List Value} {h : AH} {Q : Option Value → AH → Prop}
theorem e_am_lt {k : Nat} (hk : k < 1000000) : e_am X k = X.2.1 + k := by rw [e_am, if_pos hk]
theorem e_V (fs : List Value) (k : Nat) {v : Value} (hv : fs[k]? = some v) : vp_V (fs.map (e_tr X)) k = e_tr X v := by
  simp [vp_V, hv]
theorem T_get {idx ci k a : Nat} {fs : List Value} {v : Value} (hd : decode M.2.1 pc = .ok (.getfield idx, 3)) (hn : pc + 3 = pc') (hf : FG M.1.cls idx ci k) (ha : h.2 a = some (.inr (.inr (ci, fs)))) (hv : fs[k]? = some v) (kk : T X d M pc' ls (v :: st) h Q) : T X d M pc ls (.ref a :: st) h Q := by
  refine T_pure (fun p e R s m args below meth c H locs cells slots Q l hC _ _ _ _ hP hS hL hq => ?_) kk
  obtain ⟨r, tys, ⟨k1, k2, k3, k4⟩, hk, hl, hr⟩ := hf
  obtain ⟨hlt, r', k1', hob⟩ := hP.2 a _ ha
  cases k1.symm.trans k1'
  obtain ⟨hx, hb, hml, hown, hts, -, -, -, hE⟩ := hC
  show W p X.1.1 e R s m args below meth c H locs cells slots Q (F0 m pc l (.ref (e_am X a) :: st.map (e_tr X)))
  rw [e_am_lt hlt]
  obtain ⟨cell, q1, q2, q3, q4⟩ := hob
  obtain ⟨hSl, hfc, kC, hkC, hkind⟩ := hE.1.1 ci _ k1
  obtain ⟨cf, kf, fi, f, hi, hsl⟩ := hSl k hk
  have hst := (u_facts hfc hkC (u_lays hts k2 hk) hi).1
  have hval : cell.slots[f.slot]? = some (e_tr X v) := by rw [hsl, q4 k hk, e_V fs k hv]
  rw [hr] at hi
  have fin9 : W p X.1.1 e R s m args below meth c H locs cells slots Q (F0 m (pc + 3) l (e_tr X v :: st.map (e_tr X))) := by rw [hn]; exact hq l hL
  rcases hl with hl | ⟨host, hl⟩
  · exact W.getf hx hb hown (hts _ hl) hi hst q1 (by rw [q3]; exact fun z => by cases z) hval rfl rfl hd fin9
  · exact va_Wgetf hx hb hown (va_Nw.use rfl (hE.2.1 _ hl)) hi hst q1 (by rw [q3]; exact fun z => by cases z) hval rfl rfl hd fin9
theorem e_P_put {a : Nat} {c0 c1 : AC} {H H1 : Heap} (hP : e_P X h H) (ha : h.2 a = some c0) (hc : e_at X a c1 H1) (hz : H1.size = H.size) (ho : ∀ q : Nat, q ≠ X.2.1 + a → H1[q]? = H[q]?) : e_P X (e_put h a c1) H1 := by
  refine ⟨hz.trans hP.1, fun k c hk => ?_⟩
  by_cases hka : k = a
  · subst hka
    have hk' : c1 = c := by simpa [e_put] using hk
    subst hk'
    exact ⟨(hP.2 k _ ha).1, hc⟩
  · have hk' : h.2 k = some c := by simpa [e_put, hka] using hk
    obtain ⟨g1, g2⟩ := hP.2 k c hk'
    refine ⟨g1, ?_⟩
    have hq := ho (X.2.1 + k) (by omega)
    match c, g2 with
    | .inl x, g2 => exact hq.trans g2
    | .inr (.inl x), g2 => exact hq.trans g2
    | .inr (.inr o), ⟨r, r1, r2⟩ => exact ⟨r, r1, r2.kept hq⟩
theorem e_S_put {a k : Nat} {H0 H H1 : Heap} {locs : List Loc} (hS : va_S (e_A X) H0 H locs) (hz : H1.size = H.size) (ho : ∀ q : Nat, q ≠ X.2.1 + a → H1[q]? = H[q]?) : va_S (e_A X) H0 H1 (locs ++ [⟨X.2.1 + a, k⟩]) :=
  hS.put hz ho (Nat.le_add_right _ _)
/-- one step that changes one cell -/
theorem T_set {a : Nat} {c0 c1 : AC} (ha : h.2 a = some c0)
    (hw : ∀ (p : Program) (e : Env) (R : Room) (s : State) (m : MethodId) (args : Array Value) (below : List Frame) (meth : Method) (c : Code) (H : Heap) (locs : List Loc) (cells slots : Nat) (Q : State → Prop) (l : Array Slot), e_C X M p s m args meth c → d ≤ R.frames → 60 * d ≤ R.locals → e_P X h H → va_S (e_A X) s.heap H locs → e_L X M.2.2.1 ls l → (∀ (H1 : Heap) (locs1 : List Loc), e_at X a c1 H1 → H1.size = H.size → (∀ q : Nat, q ≠ X.2.1 + a → H1[q]? = H[q]?) → va_S (e_A X) s.heap H1 locs1 → W p X.1.1 e R s m args below meth c H1 locs1 cells slots Q (F0 m pc' l (st'.map (e_tr X)))) → W p X.1.1 e R s m args below meth c H locs cells slots Q (F0 m pc l (st.map (e_tr X))))
    (k : T X d M pc' ls st' (e_put h a c1) Q) : T X d M pc ls st h Q := by
  obtain ⟨r, h', q, mono, w⟩ := k
  refine ⟨r, h', q, mono, fun p e R s m args below meth c H locs cells slots Q n0 s0 l hC h1 h2 h3 h4 hP hS hc hs hL hF => ?_⟩
  exact hw p e R s m args below meth c H locs cells slots Q l hC h1 h2 hP hS hL (fun H1 locs1 g1 g2 g3 g4 => w p e R s m args below meth c H1 locs1 cells slots Q n0 s0 l hC h1 h2 h3 h4 (e_P_put hP ha g1 g2 g3) g4 hc hs hL hF)
theorem e_upd (fs : List Value) {k : Nat} (hk : k < fs.length) (v : Value) (j : Nat) : updV (vp_V (fs.map (e_tr X))) k (e_tr X v) j = vp_V ((fs.set k v).map (e_tr X)) j := by
  rw [List.map_set]
  exact vp_updV_set (by simpa using hk) _ j
theorem T_put {idx ci k a : Nat} {ty : FieldType} {fin : Bool} {fs fs' : List Value} {v : Value} (hd : decode M.2.1 pc = .ok (.putfield idx, 3)) (hn : pc + 3 = pc') (hf : FL M.1.cls idx ci k ty fin) (hfi : fin = true → M.1.name = "<init>") (ha : h.2 a = some (.inr (.inr (ci, fs)))) (hl0 : k < fs.length) (hnv : narrow ty (e_tr X v) = e_tr X v) (hfv : fits ty (e_tr X v) = true) (hfs : fs.set k v = fs') (kk : T X d M pc' ls st (e_put h a (.inr (.inr (ci, fs')))) Q) : T X d M pc ls (v :: .ref a :: st) h Q := by
  subst hfs
  refine T_set ha (fun p e R s m args below meth c H locs cells slots Q l hC _ _ hP hS hL hq => ?_) kk
  obtain ⟨r, tys, ⟨k1, k2, k3, k4⟩, hk, hl, hty, hfin, hr, hofin⟩ := hf
  obtain ⟨hlt, r', k1', hob⟩ := hP.2 a _ ha
  cases k1.symm.trans k1'
  obtain ⟨hx, hb, hml, hown, hts, -, -, hin, hE⟩ := hC
  show W p X.1.1 e R s m args below meth c H locs cells slots Q (F0 m pc l (e_tr X v :: .ref (e_am X a) :: st.map (e_tr X)))
  rw [e_am_lt hlt]
  have hap := va_apart (own := M.1.cls) hts k2 tys k3 k4 hE.1 k1
  obtain ⟨cell, q1, q2, q3, q4⟩ := hob
  obtain ⟨hSl, hfc, kC, hkC, hkind⟩ := hE.1.1 ci _ k1
  obtain ⟨cf, kf, fi, f, hi, hsl⟩ := hSl k hk
  have hst := (u_facts hfc hkC (u_lays hts k2 hk) hi).1
  have hlay := hts _ (k2 _ (u_in_lay hk))
  have hdesc := k3 k hk
  rw [hty] at hdesc
  unfold u_lay at hlay
  have hout : ∀ H1 : Heap, H1[X.2.1 + a]? = some (cell.setSlot f.slot (e_tr X v)) → H1.size = H.size → (∀ q, q ≠ X.2.1 + a → H1[q]? = H[q]?) → W p X.1.1 e R s m args below meth c H1 (locs ++ [⟨X.2.1 + a, f.slot⟩]) cells slots Q (F0 m (pc + 3) l (st.map (e_tr X))) := by
    intro H1 e1 e2 e3
    rw [hn]
    rw [hsl] at e1
    refine hq H1 _ ⟨r, k1, t_OB.to (V := updV (vp_V (fs.map (e_tr X))) k (e_tr X v)) ⟨_, e1, q2, q3, t_set q4 hap hk (e_tr X v)⟩ (fun j _ => e_upd fs hl0 v j)⟩ e2 e3 (e_S_put hS e2 e3)
  have hslot : f.slot < cell.slots.size := by rw [hsl]; exact k2_hasslot (q4 k hk)
  cases fin with
  | false =>
    rw [if_neg (by rw [hfin]; decide)] at hlay
    have h6 := u_store hfc hkC hkind hlay hi hdesc hnv hfv
    rw [hr] at hi
    rcases hl with hl | ⟨host, hl, -⟩
    · exact W.putK hx hb (f := f) ⟨hown, hts _ hl, ⟨_, _, _, hi⟩, hst⟩ (by rw [q2]; exact h6) q1 q3 hslot rfl rfl hd hout
    · exact va_WputK hx hb (f := f) hown (va_Nw.use rfl (hE.2.1 _ hl)) hi hst (by rw [q2]; exact h6) q1 q3 hslot rfl rfl hd hout
  | true =>
    rw [if_pos hfin] at hlay
    have h6 := u_fits hfc hkC hkind (Or.inr hlay) hi hdesc hnv hfv
    have hcf : m.cls = cf := by
      obtain ⟨_, _, c', _, _, _, -, -, hf', -, -, -, hown2, -⟩ := Cond.laysFinal_spec hlay
      have e1 : c' = cf := by have := hi.symm.trans hf'; simp at this; exact this.1.symm
      rw [hr, ← hofin rfl] at hown2
      rw [← e1]; exact Option.some.inj (hown.symm.trans hown2)
    rw [hr] at hi
    rcases hl with hl | ⟨host, hl, hz⟩
    · exact W.putFinK hx hb hown (hts _ hl) hi hst hcf (hin (hfi rfl)) (by rw [q2]; exact h6) q1 q3 hslot rfl rfl hd hout
    · exact absurd hz (by decide)
end ENG3
end
section
section ENG4
variable {X : EX} {d : Nat} {M : Mt} {pc pc' : Nat} {ls ls' st st' : List Value} {h : AH} {Q : Option Value → AH → Prop}
theorem e_ty {U : State} (hK : e_K X U) {t : Nat} (ht : t < 6) : ArrOfT U (X.1.2.2 t) (e_tys.getD t .int) ∧ va_RA U (X.1.2.2 t) (e_tys.getD t .int) :=
  hK.2 t (X.1.2.2 t, e_tys.getD t .int) (by rw [List.getElem?_map, List.getElem?_range ht]; rfl)
theorem e_in {i : Int32} {n : Nat} (hi : vp_in i n) : ¬ i < 0 ∧ i.toNatClampNeg < n := ⟨fun q => hi (Or.inl q), Nat.not_le.mp fun q => hi (Or.inr q)⟩
theorem e_am_ro (X : EX) (j : Nat) : e_am X (1000000 + j) = X.2.2.1 j := by
  rw [e_am, if_neg (by omega), Nat.add_sub_cancel_left]
theorem T_iaload {a n : Nat} {f : Nat → Int32} {i : Int32} (hd : decode M.2.1 pc = .ok (.iaload, 1)) (hn : pc + 1 = pc') (ha : h.2 a = some (.inl (0, n, f))) (hi : vp_in i n) (kk : T X d M pc' ls (.int (f i.toNatClampNeg) :: st) h Q) : T X d M pc ls (.int i :: .ref a :: st) h Q := by
  refine T_pure (fun p e R s m args below meth c H locs cells slots Q l hC _ _ _ _ hP hS hL hq => ?_) kk
  obtain ⟨hlt, hat⟩ := hP.2 a _ ha
  obtain ⟨hx, hb, -, -, -, -, -, -, hE⟩ := hC
  show W p X.1.1 e R s m args below meth c H locs cells slots Q (F0 m pc l (.int i :: .ref (e_am X a) :: st.map (e_tr X)))
  rw [e_am_lt hlt]
  exact W.iald (v := .int (f i.toNatClampNeg)) hx hb hat ((e_ty hE.1 (t := 0) (by decide)).1 n (fun j => .int (f j))) (fun q => by cases q) (by rw [arrV_size]; exact hi) (by rw [arrV_read _ _ (e_in hi).2]) rfl rfl hd (by rw [hn]; exact hq l hL)
theorem T_baload {a n : Nat} {f : Nat → Int32} {i : Int32} (hd : decode M.2.1 pc = .ok (.baload, 1)) (hn : pc + 1 = pc') (ha : h.2 a = some (.inl (1, n, f))) (hi : vp_in i n) (kk : T X d M pc' ls (.int (f i.toNatClampNeg) :: st) h Q) : T X d M pc ls (.int i :: .ref a :: st) h Q := by
  refine T_pure (fun p e R s m args below meth c H locs cells slots Q l hC _ _ _ _ hP hS hL hq => ?_) kk
  obtain ⟨hlt, hat⟩ := hP.2 a _ ha
  obtain ⟨hx, hb, -, -, -, -, -, -, hE⟩ := hC
  show W p X.1.1 e R s m args below meth c H locs cells slots Q (F0 m pc l (.int i :: .ref (e_am X a) :: st.map (e_tr X)))
  rw [e_am_lt hlt]
  exact W.bald (v := .int (f i.toNatClampNeg)) hx hb hat ((e_ty hE.1 (t := 1) (by decide)).1 n (fun j => .int (f j))) (fun q => by cases q) (by rw [arrV_size]; exact hi) (by rw [arrV_read _ _ (e_in hi).2]) rfl rfl hd (by rw [hn]; exact hq l hL)
theorem T_zaload {a n : Nat} {f : Nat → Int32} {i : Int32} (hd : decode M.2.1 pc = .ok (.baload, 1)) (hn : pc + 1 = pc') (ha : h.2 a = some (.inl (2, n, f))) (hi : vp_in i n) (kk : T X d M pc' ls (.int (f i.toNatClampNeg) :: st) h Q) : T X d M pc ls (.int i :: .ref a :: st) h Q := by
  refine T_pure (fun p e R s m args below meth c H locs cells slots Q l hC _ _ _ _ hP hS hL hq => ?_) kk
  obtain ⟨hlt, hat⟩ := hP.2 a _ ha
  obtain ⟨hx, hb, -, -, -, -, -, -, hE⟩ := hC
  show W p X.1.1 e R s m args below meth c H locs cells slots Q (F0 m pc l (.int i :: .ref (e_am X a) :: st.map (e_tr X)))
  rw [e_am_lt hlt]
  exact W.zald (v := .int (f i.toNatClampNeg)) hx hb hat ((e_ty hE.1 (t := 2) (by decide)).1 n (fun j => .int (f j))) (fun q => by cases q) (by rw [arrV_size]; exact hi) (by rw [arrV_read _ _ (e_in hi).2]) rfl rfl hd (by rw [hn]; exact hq l hL)
/-- f, but x at k -/
def e_up (f : Nat → Int32) (k : Nat) (x : Int32) : Nat → Int32 := fun j => if j = k then x else f j
theorem e_stored (cA : ClassId) (n k : Nat) (f : Nat → Int32) (x : Int32) : (arrV cA n (fun j => .int (f j))).setSlot k (.int x) = arrV cA n (fun j => .int (e_up f k x j)) := by
  rw [arrV_store]
  congr 1
  funext q
  by_cases hq : q = k
  · subst hq; simp [updV, e_up]
  · simp [updV, e_up, hq]
theorem T_iastore {a n : Nat} {f : Nat → Int32} {i x : Int32} (hd : decode M.2.1 pc = .ok (.iastore, 1)) (hn : pc + 1 = pc') (ha : h.2 a = some (.inl (0, n, f))) (hi : vp_in i n) (kk : T X d M pc' ls st (e_put h a (.inl (0, n, e_up f i.toNatClampNeg x))) Q) : T X d M pc ls (.int x :: .int i :: .ref a :: st) h Q := by
  refine T_set ha (fun p e R s m args below meth c H locs cells slots Q l hC _ _ hP hS hL hq => ?_) kk
  obtain ⟨hlt, hat⟩ := hP.2 a _ ha
  obtain ⟨hx, hb, -, -, -, -, -, -, hE⟩ := hC
  show W p X.1.1 e R s m args below meth c H locs cells slots Q (F0 m pc l (.int x :: .int i :: .ref (e_am X a) :: st.map (e_tr X)))
  rw [e_am_lt hlt]
  refine W.iast hx hb hat ((e_ty hE.1 (t := 0) (by decide)).1 n (fun j => .int (f j))) (fun q => by cases q) (by rw [arrV_size]; exact hi) rfl rfl hd fun H1 e1 e2 e3 => ?_
  show W p X.1.1 e R s m args below meth c H1 _ cells slots Q (F0 m (pc + 1) l (st.map (e_tr X)))
  rw [hn]
  exact hq H1 _ (e1.trans (congrArg some (e_stored _ n _ f x))) e2 e3 (e_S_put hS e2 e3)
theorem T_bastore {a n : Nat} {f : Nat → Int32} {i x : Int32} (hd : decode M.2.1 pc = .ok (.bastore, 1)) (hn : pc + 1 = pc') (ha : h.2 a = some (.inl (1, n, f))) (hi : vp_in i n) (kk : T X d M pc' ls st (e_put h a (.inl (1, n, e_up f i.toNatClampNeg x.toInt8.toInt32))) Q) : T X d M pc ls (.int x :: .int i :: .ref a :: st) h Q := by
  refine T_set ha (fun p e R s m args below meth c H locs cells slots Q l hC _ _ hP hS hL hq => ?_) kk
  obtain ⟨hlt, hat⟩ := hP.2 a _ ha
  obtain ⟨hx, hb, -, -, -, -, -, -, hE⟩ := hC
  show W p X.1.1 e R s m args below meth c H locs cells slots Q (F0 m pc l (.int x :: .int i :: .ref (e_am X a) :: st.map (e_tr X)))
  rw [e_am_lt hlt]
  refine W.bast hx hb hat ((e_ty hE.1 (t := 1) (by decide)).1 n (fun j => .int (f j))) (fun q => by cases q) (by rw [arrV_size]; exact hi) rfl rfl hd fun H1 e1 e2 e3 => ?_
  show W p X.1.1 e R s m args below meth c H1 _ cells slots Q (F0 m (pc + 1) l (st.map (e_tr X)))
  rw [hn]
  exact hq H1 _ (e1.trans (congrArg some (e_stored _ n _ f x.toInt8.toInt32))) e2 e3 (e_S_put hS e2 e3)
theorem T_zastore {a n : Nat} {f : Nat → Int32} {i x : Int32} (hd : decode M.2.1 pc = .ok (.bastore, 1)) (hn : pc + 1 = pc') (ha : h.2 a = some (.inl (2, n, f))) (hi : vp_in i n) (kk : T X d M pc' ls st (e_put h a (.inl (2, n, e_up f i.toNatClampNeg (x &&& 1)))) Q) : T X d M pc ls (.int x :: .int i :: .ref a :: st) h Q := by
  refine T_set ha (fun p e R s m args below meth c H locs cells slots Q l hC _ _ hP hS hL hq => ?_) kk
  obtain ⟨hlt, hat⟩ := hP.2 a _ ha
  obtain ⟨hx, hb, -, -, -, -, -, -, hE⟩ := hC
  show W p X.1.1 e R s m args below meth c H locs cells slots Q (F0 m pc l (.int x :: .int i :: .ref (e_am X a) :: st.map (e_tr X)))
  rw [e_am_lt hlt]
  refine W.zast hx hb hat ((e_ty hE.1 (t := 2) (by decide)).1 n (fun j => .int (f j))) (fun q => by cases q) (by rw [arrV_size]; exact hi) rfl rfl hd fun H1 e1 e2 e3 => ?_
  show W p X.1.1 e R s m args below meth c H1 _ cells slots Q (F0 m (pc + 1) l (st.map (e_tr X)))
  rw [hn]
  exact hq H1 _ (e1.trans (congrArg some (e_stored _ n _ f (x &&& 1)))) e2 e3 (e_S_put hS e2 e3)
theorem T_alen {a n : Nat} {f : Nat → Int32} (hd : decode M.2.1 pc = .ok (.arraylength, 1)) (hn : pc + 1 = pc') (ha : h.2 a = some (.inl (0, n, f))) (kk : T X d M pc' ls (.int (Int32.ofNat n) :: st) h Q) : T X d M pc ls (.ref a :: st) h Q := by
  refine T_pure (fun p e R s m args below meth c H locs cells slots Q l hC _ _ _ _ hP hS hL hq => ?_) kk
  obtain ⟨hlt, hat⟩ := hP.2 a _ ha
  obtain ⟨hx, hb, -, -, -, -, -, -, hE⟩ := hC
  show W p X.1.1 e R s m args below meth c H locs cells slots Q (F0 m pc l (.ref (e_am X a) :: st.map (e_tr X)))
  rw [e_am_lt hlt]
  exact W.alen hx hb hat ((e_ty hE.1 (t := 0) (by decide)).1 n (fun j => .int (f j))) (n := Int32.ofNat n) (by rw [arrV_size]) rfl rfl hd (by rw [hn]; exact hq l hL)
theorem T_aaload {a n t b : Nat} {g : Nat → Option Nat} {i : Int32} (hd : decode M.2.1 pc = .ok (.aaload, 1)) (hn : pc + 1 = pc') (ha : h.2 a = some (.inr (.inl (t, n, g)))) (ht : t < 6 ∧ 3 ≤ t) (hi : vp_in i n) (hg : g i.toNatClampNeg = some b) (kk : T X d M pc' ls (.ref b :: st) h Q) : T X d M pc ls (.int i :: .ref a :: st) h Q := by
  refine T_pure (fun p e R s m args below meth c H locs cells slots Q l hC _ _ _ _ hP hS hL hq => ?_) kk
  obtain ⟨hlt, hat⟩ := hP.2 a _ ha
  obtain ⟨hx, hb, -, -, -, -, -, -, hE⟩ := hC
  show W p X.1.1 e R s m args below meth c H locs cells slots Q (F0 m pc l (.int i :: .ref (e_am X a) :: st.map (e_tr X)))
  rw [e_am_lt hlt]
  have hr : (e_tys.getD t .int).isReference = true := by
    obtain ⟨t1, t2⟩ := ht
    have : t = 3 ∨ t = 4 ∨ t = 5 := by omega
    rcases this with rfl | rfl | rfl <;> rfl
  exact W.aald (v := .ref (e_am X b)) hx hb hat ((e_ty hE.1 ht.1).1 n (fun j => e_rf X (g j))) hr (fun q => by cases q) (by rw [arrV_size]; exact hi) (by rw [arrV_read _ _ (e_in hi).2]; show some (e_rf X (g i.toNatClampNeg)) = _; rw [hg]; rfl) rfl rfl hd (by rw [hn]; exact hq l hL)
/-- g, but b at k -/
def e_upr (g : Nat → Option Nat) (k : Nat) (b : Nat) : Nat → Option Nat := fun j => if j = k then some b else g j
theorem T_aastore {a n t b ci : Nat} {g : Nat → Option Nat} {vs : List Value} {i : Int32} (hd : decode M.2.1 pc = .ok (.aastore, 1)) (hn : pc + 1 = pc') (ha : h.2 a = some (.inr (.inl (t, n, g)))) (ht : (t = 3 ∧ ci = 0) ∨ (t = 4 ∧ ci = 2)) (hi : vp_in i n) (hbv : h.2 b = some (.inr (.inr (ci, vs)))) (kk : T X d M pc' ls st (e_put h a (.inr (.inl (t, n, e_upr g i.toNatClampNeg b)))) Q) : T X d M pc ls (.ref b :: .int i :: .ref a :: st) h Q := by
  refine T_set ha (fun p e R s m args below meth c H locs cells slots Q l hC _ _ hP hS hL hq => ?_) kk
  obtain ⟨hlt, hat⟩ := hP.2 a _ ha
  obtain ⟨hltb, r, hr, hob⟩ := hP.2 b _ hbv
  obtain ⟨hx, hb, -, -, -, -, -, -, hE⟩ := hC
  show W p X.1.1 e R s m args below meth c H locs cells slots Q (F0 m pc l (.ref (e_am X b) :: .int i :: .ref (e_am X a) :: st.map (e_tr X)))
  rw [e_am_lt hlt, e_am_lt hltb]
  obtain ⟨cellV, g1, g2, g3, -⟩ := hob
  have hcls := (hE.1.1 ci r hr).2
  have key : ∃ (kA : Class) (comp : ClassId), s.vm.classes[X.1.2.2 t]? = some kA ∧ kA.kind = .array comp (.object r.1) ∧ s.vm.findClass r.1 = some comp ∧ s.vm.findClass ("[" ++ (FieldType.object r.1).toString) = some (X.1.2.2 t) := by
    rcases ht with ⟨rfl, rfl⟩ | ⟨rfl, rfl⟩
    · cases hr; exact (e_ty hE.1 (t := 3) (by decide)).2
    · cases hr; exact (e_ty hE.1 (t := 4) (by decide)).2
  obtain ⟨kA, comp, k1, k2, k3, -⟩ := key
  have hcomp : comp = X.1.2.1.1 ci := Option.some.inj (k3.symm.trans hcls.1)
  subst hcomp
  obtain ⟨kC, hkC, -⟩ := hcls.2
  refine W.aast hx hb hat (fun q z => by cases z) (fun z => by cases z) k1 k2 rfl hkC ⟨(e_in hi).1, by rw [arrV_size]; exact (e_in hi).2⟩ g1 (fun q z => by rw [g3] at z; cases z) (by rw [g2]; exact hkC) (by rw [g2]; exact va_assign hcls) rfl rfl hd fun H1 e1 e2 e3 => ?_
  show W p X.1.1 e R s m args below meth c H1 _ cells slots Q (F0 m (pc + 1) l (st.map (e_tr X)))
  rw [hn]
  refine hq H1 _ (e1.trans (congrArg some ?_)) e2 e3 (e_S_put hS e2 e3)
  rw [arrV_store]
  congr 1
  funext q
  by_cases hqq : q = i.toNatClampNeg
  · subst hqq; simp [updV, e_upr, e_rf, e_am_lt hltb]
  · simp [updV, e_upr, hqq]
theorem T_roald {j : Nat} {i : Int32} (hd : decode M.2.1 pc = .ok (.iaload, 1)) (hn : pc + 1 = pc') (hj : j < 4) (hi : vp_in i (X.2.2.2 j).1) (kk : T X d M pc' ls (.int ((X.2.2.2 j).2 i.toNatClampNeg) :: st) h Q) : T X d M pc ls (.int i :: .ref (1000000 + j) :: st) h Q := by
  refine T_pure (fun p e R s m args below meth c H locs cells slots Q l hC _ _ _ _ hP hS hL hq => ?_) kk
  obtain ⟨hx, hb, -, -, -, -, -, -, hE⟩ := hC
  obtain ⟨cell, c1, c2, c3, c4, c5, c6⟩ := hE.2.2.2.1 j hj
  show W p X.1.1 e R s m args below meth c H locs cells slots Q (F0 m pc l (.int i :: .ref (e_am X (1000000 + j)) :: st.map (e_tr X)))
  have ham : e_am X (1000000 + j) = X.2.2.1 j := e_am_ro X j
  rw [ham]
  have hH : H[X.2.2.1 j]? = some cell := by
    rw [hS.2.1 _ (Array.getElem?_eq_some_iff.mp c1).1 (by show ¬ X.2.1 ≤ X.2.2.1 j; omega)]
    exact c1
  exact W.iald hx hb hH c2 c3 (by rw [c4]; exact hi) (c5 _ (e_in hi).2) rfl rfl hd (by rw [hn]; exact hq l hL)
theorem T_rolen {j : Nat} (hd : decode M.2.1 pc = .ok (.arraylength, 1)) (hn : pc + 1 = pc') (hj : j < 4) (kk : T X d M pc' ls (.int (Int32.ofNat (X.2.2.2 j).1) :: st) h Q) : T X d M pc ls (.ref (1000000 + j) :: st) h Q := by
  refine T_pure (fun p e R s m args below meth c H locs cells slots Q l hC _ _ _ _ hP hS hL hq => ?_) kk
  obtain ⟨hx, hb, -, -, -, -, -, -, hE⟩ := hC
  obtain ⟨cell, c1, c2, c3, c4, c5, c6⟩ := hE.2.2.2.1 j hj
  show W p X.1.1 e R s m args below meth c H locs cells slots Q (F0 m pc l (.ref (e_am X (1000000 + j)) :: st.map (e_tr X)))
  have ham : e_am X (1000000 + j) = X.2.2.1 j := e_am_ro X j
  rw [ham]
  have hH : H[X.2.2.1 j]? = some cell := by
    rw [hS.2.1 _ (Array.getElem?_eq_some_iff.mp c1).1 (by show ¬ X.2.1 ≤ X.2.2.1 j; omega)]
    exact c1
  exact W.alen hx hb hH c2 (n := Int32.ofNat (X.2.2.2 j).1) (by rw [c4]) rfl rfl hd (by rw [hn]; exact hq l hL)
theorem T_gets {idx j : Nat} {n : String} (hd : decode M.2.1 pc = .ok (.getstatic idx, 3)) (hn : pc + 3 = pc') (hj : (j = 0 ∧ n = "NUMBERS") ∨ (j = 1 ∧ n = "LEAST") ∨ (j = 2 ∧ n = "MOST")) (hl : Cond.fieldLink M.1.cls idx R_Tx n "[I" ∈ e_gw) (kk : T X d M pc' ls (.ref (1000000 + j) :: st) h Q) : T X d M pc ls st h Q := by
  refine T_pure (fun p e R s m args below meth c H locs cells slots Q l hC _ _ _ _ hP hS hL hq => ?_) kk
  obtain ⟨hx, hb, -, hown, hts, -, -, -, hE⟩ := hC
  have ham : e_am X (1000000 + j) = X.2.2.1 j := e_am_ro X j
  have hk := hq l hL
  have hk2 : W p X.1.1 e R s m args below meth c H locs cells slots Q (F0 m (pc + 3) l (.ref (X.2.2.1 j) :: st.map (e_tr X))) := by
    rw [hn, ← ham]; exact hk
  have hz : va_Z R_Tx n "[I" (.ref (X.2.2.1 j)) (e_A X) s s.heap := by
    rcases hj with ⟨rfl, rfl⟩ | ⟨rfl, rfl⟩ | ⟨rfl, rfl⟩
    · exact hE.2.2.2.2.1.1
    · exact hE.2.2.2.2.1.2.1
    · exact hE.2.2.2.2.1.2.2
  exact va_gets hx hb hz hS hown (hts _ hl) (fun _ z => z) hd hk2
end ENG4
end
section
section ENG5
variable {X : EX} {d : Nat} {M : Mt} {pc pc' : Nat} {ls ls' st st' : List Value} {h : AH} {Q : Option Value → AH → Prop}
theorem e_E_mv {u U : State} {H H1 : Heap} (hE : e_E X u H) (hA : u.vm.Alike U.vm) (hN : e_N U) (hz : H.size ≤ H1.size) (ho : ∀ q : Nat, q < H.size → ¬ e_A X q → H1[q]? = H[q]?) : e_E X U H1 := by
  obtain ⟨h1, -, h3, h4, h5, h6⟩ := hE
  refine ⟨va_K.moved hA h1, hN, ⟨h3.1.moved hA, h3.2.1.moved hA, e_AOA_moved hA h3.2.2⟩, fun j hj => ?_, ?_, Nat.le_trans h6 hz⟩
  · obtain ⟨cell, c1, c2, c3, c4, c5, c6⟩ := h4 j hj
    refine ⟨cell, ?_, State.isArrayOf_alike hA c2, c3, c4, c5, c6⟩
    rw [ho _ (Array.getElem?_eq_some_iff.mp c1).1 (by show ¬ X.2.1 ≤ X.2.2.1 j; omega)]
    exact c1
  · exact ⟨(h5.1.moved hA).kept ho, (h5.2.1.moved hA).kept ho, (h5.2.2.moved hA).kept ho⟩
theorem e_isN_tab {w : Cond} (hw : e_isN w = true) : w.onTables = true := by
  cases w <;> first | rfl | exact absurd hw Bool.false_ne_true
theorem e_N_warm {s U : State} (hW : s.WarmedH U.vm) (hN : e_N s) : e_N U := by
  intro w hw
  have h1 := hN w hw
  have h2 : e_isN w = true := (List.mem_filter.mp hw).2
  cases w <;> first | exact absurd h2 Bool.false_ne_true | exact va_Nw.warmF hW h1 | exact va_Nw.warmM hW h1
theorem e_N_same {u U : State} (hv : u.vm = U.vm) (hN : e_N u) : e_N U := fun w hw => va_Nw.same (e_isN_tab (List.mem_filter.mp hw).2) hv (hN w hw)
theorem e_blind (av : List Value) : FrameBlind (e_Pc X av h) := by
  intro a U g mk q
  obtain ⟨q0, q1, q2⟩ := q
  exact ⟨q0, q1, e_E_mv (u := U) (U := U.calling g mk a) q2 (Vm.Alike.refl U.vm) (e_N_same (u := U) (U := U.calling g mk a) rfl q2.2.1) (Nat.le_refl _) (fun _ _ _ => rfl)⟩
theorem T_vret (hd : decode M.2.1 pc = .ok (.return_, 1)) (hr : M.2.2.2 = none) (hq : Q none h) : T X d M pc ls [] h Q :=
  ⟨none, h, hq, ⟨Nat.le_refl _, Nat.le_refl _⟩, fun p e R s m args below meth c H locs cells slots Q n0 s0 l hC h1 h2 h3 h4 hP hS hc hs hL hF => (hF H locs l pc cells slots hP hS hc hs).1 rfl hr hd⟩
theorem T_iret {v : Int32} (hd : decode M.2.1 pc = .ok (.ireturn, 1)) (hr : M.2.2.2 = some .int) (hq : Q (some (.int v)) h) : T X d M pc ls [.int v] h Q :=
  ⟨some (.int v), h, hq, ⟨Nat.le_refl _, Nat.le_refl _⟩, fun p e R s m args below meth c H locs cells slots Q n0 s0 l hC h1 h2 h3 h4 hP hS hc hs hL hF => (hF H locs l pc cells slots hP hS hc hs).2.1 v .int rfl hr rfl hd⟩
theorem T_zret {v : Int32} (hd : decode M.2.1 pc = .ok (.ireturn, 1)) (hr : M.2.2.2 = some .boolean) (hv : v = 0 ∨ v = 1) (hq : Q (some (.int v)) h) : T X d M pc ls [.int v] h Q :=
  ⟨some (.int v), h, hq, ⟨Nat.le_refl _, Nat.le_refl _⟩, fun p e R s m args below meth c H locs cells slots Q n0 s0 l hC h1 h2 h3 h4 hP hS hc hs hL hF => (hF H locs l pc cells slots hP hS hc hs).2.1 v .boolean rfl hr (by rcases hv with rfl | rfl <;> rfl) hd⟩
theorem T_lret {v : Int64} (hd : decode M.2.1 pc = .ok (.lreturn, 1)) (hr : M.2.2.2 = some .long) (hq : Q (some (.long v)) h) : T X d M pc ls [.long v] h Q :=
  ⟨some (.long v), h, hq, ⟨Nat.le_refl _, Nat.le_refl _⟩, fun p e R s m args below meth c H locs cells slots Q n0 s0 l hC h1 h2 h3 h4 hP hS hc hs hL hF => (hF H locs l pc cells slots hP hS hc hs).2.2 v rfl hr hd⟩
theorem e_sl (av : List Value) (hc : ∀ v ∈ av, v.category = 1) : lg_sl av = av.map Slot.val := by
  induction av with
  | nil => rfl
  | cons v t ih =>
    have h1 : ¬ v.category = 2 := by rw [hc v List.mem_cons_self]; decide
    have h2 := ih (fun w hw => hc w (List.mem_cons_of_mem _ hw))
    simp only [lg_sl, List.flatMap_cons, if_neg h1, List.map_cons] at h2 ⊢
    rw [h2]; rfl
theorem e_L_entry {n : Nat} (av : List Value) (hc : (av.all (fun v => v.category == 1)) = true) (hn : av.length ≤ n) : e_L X n (av ++ List.replicate (n - av.length) .null) ((lg_sl (av.map (e_tr X)) ++ List.replicate (n - (lg_sl (av.map (e_tr X))).length) Slot.unset).toArray) := by
  have hc' : ∀ v ∈ av.map (e_tr X), v.category = 1 := by
    intro v hv
    obtain ⟨w, hw, rfl⟩ := List.mem_map.mp hv
    rw [e_cat]
    simpa using List.all_eq_true.mp hc w hw
  have hsl := e_sl _ hc'
  have hent := lv_entry (av.map (e_tr X)) (n := n) (by rw [hsl]; simpa using hn)
  refine ⟨by simp; omega, hent.1, hent.2.1, fun i v hi hv => ?_⟩
  rw [hsl]
  by_cases hlt : i < av.length
  · rw [List.getElem?_append_left hlt] at hi
    simp [List.getElem?_append_left, hlt, hi]
    have := List.getElem?_eq_some_iff.mp hi
    obtain ⟨h1, h2⟩ := this
    rw [h2]
  · rw [List.getElem?_append_right (by omega)] at hi
    exact absurd (List.eq_of_mem_replicate (List.mem_of_getElem? hi)) hv
theorem C_of_T {av : List Value} (hp : plainName M.1.cls = true) (hc : (av.all (fun v => v.category == 1)) = true) (hn : av.length ≤ M.2.2.1) (hl : av ++ List.replicate (M.2.2.1 - av.length) .null = ls) (k : T X d M 0 ls [] h Q) : C X d M av h Q := by
  subst hl
  obtain ⟨r, h', q, mono, w⟩ := k
  refine ⟨r, h', q, mono, Met.ofW (cc := M.2.1) (maxL := M.2.2.1) (ret := M.2.2.2) hp rfl ?_⟩
  intro p e s m args below meth c s₁ B hml hv
  obtain ⟨rfl, hP, hE⟩ := hv
  have hts := atoms_spec (ws := e_ws M) B.pre
  rw [lg_entry_eq]
  have hx := B.exec
  have hb := B.bytes
  have hr := B.returns
  have hlocks := B.notSynchronized
  refine w p e _ s m _ below meth c s.heap [] 0 0 _ h.1.1 h.1.2 _ ⟨hx, hb, hml, findClass_of_methodNamed B.named, fun w hw => hts w (List.mem_cons_of_mem _ hw), hr, hlocks, fun z => (name_of_methodNamed B.named B.method).1.trans z, hE⟩ (Nat.le_refl _) (Nat.le_refl _) ?_ ?_ hP va_S.rf (Nat.zero_add _) (Nat.zero_add _) (e_L_entry av hc hn) ?_
  · show h'.1.1 ≤ (h'.1.1 - h.1.1) + h.1.1
    omega
  · show h'.1.2 ≤ (h'.1.2 - h.1.2) + h.1.2
    omega
  · intro H locs l pc cells slots hP1 hS1 hc1 hs1
    obtain ⟨m1, m2⟩ := mono
    obtain rfl : cells = h'.1.1 - h.1.1 := by omega
    obtain rfl : slots = h'.1.2 - h.1.2 := by omega
    refine ⟨fun hr1 hr2 hdg => ?_, fun v ty hr1 hr2 hnv hdg => ?_, fun v hr1 hr2 hdg => ?_⟩
    · subst hr1
      exact W.vret hx hb (hr.trans hr2) (fun t ht hW => ⟨rfl, by rw [ht]; exact hP1, hS1.F ht⟩) hS1.2.2 hdg
    · subst hr1
      exact W.zret hx hb (hr.trans hr2) hnv (fun t ht hW => ⟨rfl, by rw [ht]; exact hP1, hS1.F ht⟩) hS1.2.2 hdg
    · subst hr1
      exact W.lret hx hb (hr.trans hr2) (fun t ht hW => ⟨rfl, by rw [ht]; exact hP1, hS1.F ht⟩) hS1.2.2 hdg
/-- what a call needs of the called: its words are in the tables -/
def MK (M' : Mt) (n : Nat) : Prop := Cond.code M'.1 M'.2.1 M'.2.2.1 M'.2.2.2 ∈ e_gw ∧ Cond.initialized M'.1.cls ∈ e_gw ∧ (M'.1.cls ≠ "java/lang/invoke/MethodHandle" ∧ M'.1.cls ≠ "java/lang/invoke/VarHandle" ∧ (parseMethodDescriptor M'.1.desc).map (fun d => d.parameters.length) = some n) ∧ M'.2.2.1 ≤ 40
def CL (own : String) (idx : Nat) (M' : Mt) : Prop := Cond.methodLink own idx M'.1 ∈ e_gw ∨ ∃ host, Cond.methodLinkNest own idx M'.1 host ∈ e_nw
theorem e_good (M M' : Mt) (hm : Cond.code M'.1 M'.2.1 M'.2.2.1 M'.2.2.2 ∈ e_gw) : GoodIn e_gw (e_ws M') := by
  intro w hw
  have : w ∈ e_gw := by
    rcases List.mem_cons.mp hw with rfl | h1
    · exact hm
    · exact h1
  exact ⟨this, good_of_word (List.mem_filter.mp this).2⟩
/-- behind a call -/
theorem e_after {p : Program} {e : Env} {R : Room} {s : State} {m : MethodId} {args : Array Value} {below : List Frame} {meth : Method} {c : Code} {H : Heap} {locs : List Loc} {cells slots mc ms : Nat} {Q : State → Prop} {l : Array Slot} {rest st0 : List Value} {r : Option Value} {h1 : AH} {a : Array Value}
    (hr : va_Run p X.1.1 e R s m args below meth c H locs cells slots mc ms (F0 m pc l st0) rest (e_Qc X r h1 a) (e_A X)) (hS : va_S (e_A X) s.heap H locs)
    (kk : ∀ (H1 : Heap) (locs1 : List Loc), e_P X h1 H1 → va_S (e_A X) s.heap H1 locs1 → W p X.1.1 e R s m args below meth c H1 locs1 (cells + mc) (slots + ms) Q (F0 m (pc + 3) l ((r.map (e_tr X)).toList ++ rest))) : W p X.1.1 e R s m args below meth c H locs cells slots Q (F0 m pc l st0) := by
  intro T0 hT Xs
  obtain ⟨v, st₀, t, T', L, h0, X', hL, e1, e2, ⟨hv, hP1, hz, hk⟩, stp⟩ := hr T0 hT Xs
  cases hv
  rw [h0] at hz hk
  obtain ⟨t2, a1, b1⟩ := kk T'.heap (locs ++ L) (by rw [e1]; exact hP1) ⟨Nat.le_trans hS.1 (by rw [e1]; exact hz), fun q g1 g2 => by rw [e1, hk q (Nat.lt_of_lt_of_le g1 hS.1) g2]; exact hS.2.1 q g1 g2, fun q hq => by
      rcases List.mem_append.mp hq with g | g
      · exact hS.2.2 q g
      · exact hL q g⟩ T' rfl X'
  exact ⟨t2, stp t2 a1, b1⟩
/-- one step that is a call -/
theorem T_callG {M' : Mt} {av : List Value} {rest : List Value} {Q1 : Option Value → AH → Prop} (hc : C X d M' av h Q1)
    (hw : ∀ (r : Option Value) (h1 : AH), e_M X d M' av h r h1 → ∀ (p : Program) (e : Env) (R : Room) (s : State) (m : MethodId) (args : Array Value) (below : List Frame) (meth : Method) (c : Code) (H : Heap) (locs : List Loc) (cells slots : Nat) (l : Array Slot), e_C X M p s m args meth c → d + 1 ≤ R.frames → 60 * (d + 1) ≤ R.locals → cells + (h1.1.1 - h.1.1) ≤ R.cells → slots + (h1.1.2 - h.1.2) ≤ R.slots → e_P X h H → va_S (e_A X) s.heap H locs → e_L X M.2.2.1 ls l → va_Run p X.1.1 e R s m args below meth c H locs cells slots (h1.1.1 - h.1.1) (h1.1.2 - h.1.2) (F0 m pc l (st.map (e_tr X))) (rest.map (e_tr X)) (e_Qc X r h1 (av.map (e_tr X)).toArray) (e_A X))
    (hn : pc + 3 = pc') (kk : ∀ (r : Option Value) (h1 : AH), Q1 r h1 → T X (d + 1) M pc' ls (r.toList ++ rest) h1 Q) : T X (d + 1) M pc ls st h Q := by
  obtain ⟨r, h1, q1, hM⟩ := hc
  obtain ⟨r2, h2, q2, mono2, w2⟩ := kk r h1 q1
  obtain ⟨m1, m2⟩ := hM.1
  refine ⟨r2, h2, q2, ⟨Nat.le_trans m1 mono2.1, Nat.le_trans m2 mono2.2⟩, fun p e R s m args below meth c H locs cells slots Q n0 s0 l hC g1 g2 g3 g4 hP hS hcc hss hL hF => ?_⟩
  have hrun := hw r h1 hM p e R s m args below meth c H locs cells slots l hC g1 g2 (by omega) (by omega) hP hS hL
  refine e_after hrun hS (fun H1 locs1 hP1 hS1 => ?_)
  rw [hn]
  have := w2 p e R s m args below meth c H1 locs1 (cells + (h1.1.1 - h.1.1)) (slots + (h1.1.2 - h.1.2)) Q n0 s0 l hC g1 g2 g3 g4 hP1 hS1 (by omega) (by omega) hL hF
  have e1 : (r.toList ++ rest).map (e_tr X) = (r.map (e_tr X)).toList ++ rest.map (e_tr X) := by cases r <;> simp
  rw [e1] at this
  exact this
theorem e_pre {M' : Mt} {av : List Value} {s : State} {H : Heap} {locs : List Loc} (hE : e_E X s s.heap) (hP : e_P X h H) (hS : va_S (e_A X) s.heap H locs) : ∀ U : State, U.heap = H → s.WarmedH U.vm → e_Pc X av h (av.map (e_tr X)).toArray U :=
  fun U hU hW => ⟨rfl, by rw [hU]; exact hP, by rw [hU]; exact e_E_mv hE hW.alike (e_N_warm hW hE.2.1) hS.1 hS.2.1⟩
theorem T_callV {M' : Mt} {idx n b ci : Nat} {As rest fs : List Value} {Q1 : Option Value → AH → Prop} (hd : decode M.2.1 pc = .ok (.invokevirtual idx, 3)) (hn : pc + 3 = pc') (hl : CL M.1.cls idx M') (hm : MK M' n) (hi : Cond.instanceMethod M'.1 ∈ e_gw) (hse : Cond.selects M'.1.cls M'.1 M'.1 ∈ e_gw) (hcl : (e_cl[ci]?).map (fun r => r.1) = some M'.1.cls) (hb0 : h.2 b = some (.inr (.inr (ci, fs)))) (hnn : As.length = n) (hW : (rest.map fun v => v.category).sum ≤ 8) (hst : st = As.reverse ++ .ref b :: rest) (hc : C X d M' (.ref b :: As) h Q1) (kk : ∀ (r : Option Value) (h1 : AH), Q1 r h1 → T X (d + 1) M pc' ls (r.toList ++ rest) h1 Q) : T X (d + 1) M pc ls st h Q := by
  refine T_callG (rest := rest) hc (fun r h1 hM p e R s m args below meth c H locs cells slots l hC g1 g2 g3 g4 hP hS hL => ?_) hn kk
  obtain ⟨hx, hb, hml, hown, hts, -, -, -, hE⟩ := hC
  obtain ⟨hlt, r0, hr0, cell, q1, q2, q3, -⟩ := hP.2 b _ hb0
  obtain ⟨-, hM⟩ := hM
  obtain ⟨m1, m2, m3, m4⟩ := hm
  have hcC : s.vm.findClass M'.1.cls = some cell.cls := by
    rw [hr0] at hcl
    have h9 := (hE.1.1 ci r0 hr0).2.1
    rw [q2, ← Option.some.inj hcl]
    exact h9
  have hrec : ∃ cellB : Cell, H[e_am X b]? = some cellB ∧ cellB.vm.isStatics = false ∧ s.vm.findClass M'.1.cls = some cellB.cls := ⟨cell, by rw [e_am_lt hlt]; exact q1, by rw [q3]; rfl, hcC⟩
  have hstk : st.map (e_tr X) = (As.map (e_tr X)).reverse ++ .ref (e_am X b) :: rest.map (e_tr X) := by
    rw [hst, List.map_append, List.map_reverse]; rfl
  have hWr : 2 * (F0 m pc l (st.map (e_tr X))).monitorRoom + ((rest.map (e_tr X)).map fun v => v.category).sum ≤ 8 := by
    have : ((rest.map (e_tr X)).map fun v => v.category) = rest.map fun v => v.category := by rw [List.map_map]; exact List.map_congr_left (fun v _ => e_cat v)
    rw [this]
    show 2 * 0 + _ ≤ 8
    omega
  have hpr := e_pre (M' := M') (av := .ref b :: As) hE hP hS
  rcases hl with hl | ⟨host, hl⟩
  · exact va_runV (Ts := e_gw) (n := n) (As := As.map (e_tr X)) (b := e_am X b) (bytes := M'.2.1) (maxL := M'.2.2.1) (ret := M'.2.2.2) ⟨hx, hb, hml, hown, hts⟩ hM
      ⟨callB_of n hts (e_good M M' m1) rfl rfl rfl (hts _ m2) (hts _ hl) m3 ⟨g1, by show 8 + (M'.2.2.1 + 11) + 60 * d ≤ R.locals; omega⟩, hts _ hi, hts _ hse⟩
      ⟨e_blind _, hrec, hpr⟩ rfl (by simpa using hnn) hL.2.1 hstk hWr hd ⟨g3, g4⟩
  · exact va_runVN (Ts := e_gw) (n := n) (C := M'.1.cls) (As := As.map (e_tr X)) (b := e_am X b) (bytes := M'.2.1) (maxL := M'.2.2.1) (ret := M'.2.2.2) ⟨hx, hb, hml, hown, hts⟩ hM
      ⟨va_cnB n hts (e_good M M' m1) rfl rfl rfl (hE.2.1 _ hl) (hts _ m2) m3 ⟨g1, by show 8 + (M'.2.2.1 + 11) + 60 * d ≤ R.locals; omega⟩, hts _ hi, hts _ hse⟩
      ⟨e_blind _, hrec, hpr⟩ rfl (by simpa using hnn) hL.2.1 hstk hWr hd ⟨g3, g4⟩
theorem T_callS {M' : Mt} {idx n : Nat} {As rest : List Value} {Q1 : Option Value → AH → Prop} (hd : decode M.2.1 pc = .ok (.invokestatic idx, 3)) (hn : pc + 3 = pc') (hl : CL M.1.cls idx M') (hm : MK M' n) (hi : Cond.static M'.1 ∈ e_gw) (hnn : As.length = n) (hW : (rest.map fun v => v.category).sum ≤ 8) (hst : st = As.reverse ++ rest) (hc : C X d M' As h Q1) (kk : ∀ (r : Option Value) (h1 : AH), Q1 r h1 → T X (d + 1) M pc' ls (r.toList ++ rest) h1 Q) : T X (d + 1) M pc ls st h Q := by
  refine T_callG (rest := rest) hc (fun r h1 hM p e R s m args below meth c H locs cells slots l hC g1 g2 g3 g4 hP hS hL => ?_) hn kk
  obtain ⟨hx, hb, hml, hown, hts, -, -, -, hE⟩ := hC
  obtain ⟨-, hM⟩ := hM
  obtain ⟨m1, m2, m3, m4⟩ := hm
  have hstk : st.map (e_tr X) = (As.map (e_tr X)).reverse ++ rest.map (e_tr X) := by
    rw [hst, List.map_append, List.map_reverse]
  have hWr : 2 * (F0 m pc l (st.map (e_tr X))).monitorRoom + ((rest.map (e_tr X)).map fun v => v.category).sum ≤ 8 := by
    have : ((rest.map (e_tr X)).map fun v => v.category) = rest.map fun v => v.category := by rw [List.map_map]; exact List.map_congr_left (fun v _ => e_cat v)
    rw [this]
    show 2 * 0 + _ ≤ 8
    omega
  have hpr := e_pre (M' := M') (av := As) hE hP hS
  rcases hl with hl | ⟨host, hl⟩
  · exact va_runS (Ts := e_gw) (n := n) (As := As.map (e_tr X)) (bytes := M'.2.1) (maxL := M'.2.2.1) (ret := M'.2.2.2) ⟨hx, hb, hml, hown, hts⟩ hM
      ⟨callB_of n hts (e_good M M' m1) rfl rfl rfl (hts _ m2) (hts _ hl) m3 ⟨g1, by show 8 + (M'.2.2.1 + 11) + 60 * d ≤ R.locals; omega⟩, hts _ hi⟩
      ⟨e_blind _, hpr⟩ rfl (by simpa using hnn) hL.2.1 hstk hWr hd ⟨g3, g4⟩
  · exact va_runSN (Ts := e_gw) (n := n) (As := As.map (e_tr X)) (bytes := M'.2.1) (maxL := M'.2.2.1) (ret := M'.2.2.2) ⟨hx, hb, hml, hown, hts⟩ hM
      ⟨va_cnB n hts (e_good M M' m1) rfl rfl rfl (hE.2.1 _ hl) (hts _ m2) m3 ⟨g1, by show 8 + (M'.2.2.1 + 11) + 60 * d ≤ R.locals; omega⟩, hts _ hi, trivial⟩
      ⟨e_blind _, hpr⟩ rfl (by simpa using hnn) hL.2.1 hstk hWr hd ⟨g3, g4⟩
theorem T_callI {M' : Mt} {idx n b : Nat} {As rest : List Value} {Q1 : Option Value → AH → Prop} (hd : decode M.2.1 pc = .ok (.invokespecial idx, 3)) (hn : pc + 3 = pc') (hl : CL M.1.cls idx M') (hm : MK M' n) (hi : Cond.instanceMethod M'.1 ∈ e_gw) (hnm : M'.1.name = "<init>" ∧ M'.2.2.2 = none) (hnn : As.length = n) (hW : (rest.map fun v => v.category).sum ≤ 8) (hst : st = As.reverse ++ .ref b :: rest) (hc : C X d M' (.ref b :: As) h Q1) (kk : ∀ (r : Option Value) (h1 : AH), Q1 r h1 → T X (d + 1) M pc' ls (r.toList ++ rest) h1 Q) : T X (d + 1) M pc ls st h Q := by
  refine T_callG (rest := rest) hc (fun r h1 hM p e R s m args below meth c H locs cells slots l hC g1 g2 g3 g4 hP hS hL => ?_) hn kk
  obtain ⟨hx, hb, hml, hown, hts, -, -, -, hE⟩ := hC
  obtain ⟨-, hM⟩ := hM
  obtain ⟨m1, m2, m3, m4⟩ := hm
  obtain ⟨hnm, hrt⟩ := hnm
  have hws : e_ws M' = Cond.code M'.1 M'.2.1 M'.2.2.1 none :: e_gw := by unfold e_ws; rw [hrt]
  have hstk : st.map (e_tr X) = (As.map (e_tr X)).reverse ++ .ref (e_am X b) :: rest.map (e_tr X) := by
    rw [hst, List.map_append, List.map_reverse]; rfl
  have hWr : 2 * (F0 m pc l (st.map (e_tr X))).monitorRoom + ((rest.map (e_tr X)).map fun v => v.category).sum ≤ 8 := by
    have : ((rest.map (e_tr X)).map fun v => v.category) = rest.map fun v => v.category := by rw [List.map_map]; exact List.map_congr_left (fun v _ => e_cat v)
    rw [this]
    show 2 * 0 + _ ≤ 8
    omega
  have hpr := e_pre (M' := M') (av := .ref b :: As) hE hP hS
  rcases hl with hl | ⟨host, hl⟩
  · exact va_runI (Ts := e_gw) (n := n) (As := As.map (e_tr X)) (b := e_am X b) (bytes := M'.2.1) (maxL := M'.2.2.1) ⟨hx, hb, hml, hown, hts⟩ hM
      ⟨callB_of n hts (e_good M M' m1) hws rfl rfl (hts _ m2) (hts _ hl) m3 ⟨g1, by show 8 + (M'.2.2.1 + 11) + 60 * d ≤ R.locals; omega⟩, hnm, hts _ hi⟩
      ⟨e_blind _, hpr⟩ rfl (by simpa using hnn) hL.2.1 hstk hWr hd ⟨g3, g4⟩
  · exact va_runIN (Ts := e_gw) (n := n) (As := As.map (e_tr X)) (b := e_am X b) (bytes := M'.2.1) (maxL := M'.2.2.1) ⟨hx, hb, hml, hown, hts⟩ hM
      ⟨va_cnB n hts (e_good M M' m1) hws rfl rfl (hE.2.1 _ hl) (hts _ m2) m3 ⟨g1, by show 8 + (M'.2.2.1 + 11) + 60 * d ≤ R.locals; omega⟩, hnm, hts _ hi⟩
      ⟨e_blind _, hpr⟩ rfl (by simpa using hnn) hL.2.1 hstk hWr hd ⟨g3, g4⟩
theorem T_objInit {idx a : Nat} (hd : decode M.2.1 pc = .ok (.invokespecial idx, 3)) (hn : pc + 3 = pc') (hl : Cond.methodLink M.1.cls idx Lib.objectInit ∈ e_gw) (hi : Cond.instanceMethod Lib.objectInit ∈ e_gw) (hc : Cond.code Lib.objectInit ⟨#[0xb1]⟩ 1 none ∈ e_gw) (kk : T X (d + 1) M pc' ls [] h Q) : T X (d + 1) M pc ls [.ref a] h Q := by
  refine T_pure (fun p e R s m args below meth c H locs cells slots Q l hC g1 g2 _ _ hP hS hL hq => ?_) kk
  obtain ⟨hx, hb, hml, hown, hts, -, -, -, hE⟩ := hC
  exact W.objInit hx hb hown (hts _ hl) (hts _ hi) (hts _ hc) rfl (by rw [hml]; exact hL.2.1) rfl hd (by omega) (by show 2 * 0 + 0 + 12 ≤ R.locals; omega) (by rw [← hn] at hq; exact hq l hL)
end ENG5
end
section
section ENG6
variable {X : EX} {d : Nat} {M : Mt} {pc pc' : Nat} {ls ls' st st' : List Value} {h : AH} {Q : Option Value → AH → Prop}
theorem e_P_new {c1 : AC} {n : Nat} {H H1 : Heap} (hP : e_P X h H) (hlt : h.1.1 < 1000000) (hc : e_at X h.1.1 c1 H1) (hz : H1.size = H.size + 1) (ho : ∀ q : Nat, q < H.size → H1[q]? = H[q]?) : e_P X (e_new h c1 n) H1 := by
  refine ⟨by rw [hz, hP.1]; show _ = X.2.1 + (h.1.1 + 1); omega, fun k c hk => ?_⟩
  by_cases hka : k = h.1.1
  · subst hka
    have hk' : c1 = c := by simpa [e_new] using hk
    subst hk'
    exact ⟨hlt, hc⟩
  · have hk' : h.2 k = some c := by simpa [e_new, hka] using hk
    obtain ⟨g1, g2⟩ := hP.2 k c hk'
    refine ⟨g1, ?_⟩
    match c, g2 with
    | .inl x, g2 => exact (ho _ (Array.getElem?_eq_some_iff.mp g2).1).trans g2
    | .inr (.inl x), g2 => exact (ho _ (Array.getElem?_eq_some_iff.mp g2).1).trans g2
    | .inr (.inr o), ⟨r, r1, r2⟩ =>
      obtain ⟨cell, r3, r4⟩ := r2
      exact ⟨r, r1, t_OB.kept ⟨cell, r3, r4⟩ (ho _ (Array.getElem?_eq_some_iff.mp r3).1)⟩
theorem e_S_new {H0 H H1 : Heap} {locs : List Loc} (hS : va_S (e_A X) H0 H locs) (hz : H1.size = H.size + 1) (ho : ∀ q : Nat, q < H.size → H1[q]? = H[q]?) : va_S (e_A X) H0 H1 locs :=
  ⟨Nat.le_trans hS.1 (by omega), fun q g1 g2 => (ho q (Nat.lt_of_lt_of_le g1 hS.1)).trans (hS.2.1 q g1 g2), hS.2.2⟩
/-- one step that makes one cell -/
theorem T_mk {c1 : AC} {n : Nat} (hlt : h.1.1 < 1000000)
    (hw : ∀ (p : Program) (e : Env) (R : Room) (s : State) (m : MethodId) (args : Array Value) (below : List Frame) (meth : Method) (c : Code) (H : Heap) (locs : List Loc) (cells slots : Nat) (Q : State → Prop) (l : Array Slot), e_C X M p s m args meth c → cells + 1 ≤ R.cells → slots + n ≤ R.slots → e_P X h H → va_S (e_A X) s.heap H locs → e_L X M.2.2.1 ls l → (∀ (H1 : Heap), e_at X h.1.1 c1 H1 → H1.size = H.size + 1 → (∀ q : Nat, q < H.size → H1[q]? = H[q]?) → W p X.1.1 e R s m args below meth c H1 locs (cells + 1) (slots + n) Q (F0 m pc' l (.ref (X.2.1 + h.1.1) :: st'.map (e_tr X)))) → W p X.1.1 e R s m args below meth c H locs cells slots Q (F0 m pc l (st.map (e_tr X))))
    (k : T X d M pc' ls (.ref h.1.1 :: st') (e_new h c1 n) Q) : T X d M pc ls st h Q := by
  obtain ⟨r, h', q, mono, w⟩ := k
  have m1 : h.1.1 + 1 ≤ h'.1.1 := mono.1
  have m2 : h.1.2 + n ≤ h'.1.2 := mono.2
  refine ⟨r, h', q, ⟨by omega, by omega⟩, fun p e R s m args below meth c H locs cells slots Q n0 s0 l hC h1 h2 h3 h4 hP hS hc hs hL hF => ?_⟩
  refine hw p e R s m args below meth c H locs cells slots Q l hC (by omega) (by omega) hP hS hL (fun H1 g1 g2 g3 => ?_)
  have := w p e R s m args below meth c H1 locs (cells + 1) (slots + n) Q n0 s0 l hC h1 h2 h3 h4 (e_P_new hP hlt g1 g2 g3) (e_S_new hS g2 g3) (by show cells + 1 + n0 = h.1.1 + 1; omega) (by show slots + n + s0 = h.1.2 + n; omega) hL hF
  have e1 : e_am X h.1.1 = X.2.1 + h.1.1 := e_am_lt hlt
  rw [List.map_cons] at this
  rw [show e_tr X (.ref h.1.1) = .ref (X.2.1 + h.1.1) by rw [← e1]; rfl] at this
  exact this
theorem T_new {idx ci : Nat} {r : vw_C} {tys : Nat → FieldType} {fs : List Value} (hd : decode M.2.1 pc = .ok (.new idx, 3)) (hn : pc + 3 = pc') (hkc : KC ci r tys) (hcl : Cond.classLink M.1.cls idx r.1 ∈ e_gw) (hins : Cond.instantiable r.1 r.2.2 ∈ e_gw) (hini : Cond.initialized r.1 ∈ e_gw) (hfs : fs.length = r.2.2 ∧ ∀ k, k < r.2.2 → fs[k]? = some (defaultValue (tys k))) (hlt : h.1.1 < 1000000) (kk : T X d M pc' ls (.ref h.1.1 :: st) (e_new h (.inr (.inr (ci, fs))) r.2.2) Q) : T X d M pc ls st h Q := by
  refine T_mk hlt (fun p e R s m args below meth c H locs cells slots Q l hC g1 g2 hP hS hL hq => ?_) kk
  obtain ⟨hx, hb, hml, hown, hts, -, -, -, hE⟩ := hC
  obtain ⟨k1, k2, k3, k4⟩ := hkc
  have hK := hE.1.1 ci _ k1
  refine W.newcK hx hb hown (hts _ hcl) (hts _ hins) (hts _ hini) rfl hd g1 g2 (cC := X.1.2.1.1 ci) hK.2.1 hP.1 (fun H1 kC hkC e1 e2 e3 => ?_)
  show W p X.1.1 e R s m args below meth c H1 locs (cells + 1) (slots + r.2.2) Q (F0 m (pc + 3) l (.ref (X.2.1 + h.1.1) :: st.map (e_tr X)))
  rw [hn]
  refine hq H1 ⟨r, k1, ?_⟩ (by rw [e2, hP.1]) (fun q hq' => e3 q (by rw [← hP.1]; exact hq'))
  have hob := u_born (H := H1) (o := X.2.1 + h.1.1) tys hts k2 hK hkC e1 k3
  refine t_OB.to hob (fun k hk => ?_)
  obtain ⟨-, hf⟩ := hfs
  rw [e_V fs k (hf k hk)]
  cases hty : tys k <;> rfl
theorem T_newi {n : Int32} {N : Nat} {at_ : ArrayType} {t : Nat} (hd : decode M.2.1 pc = .ok (.newarray at_, 2)) (hn : pc + 2 = pc') (hat : (at_ = .int ∧ t = 0) ∨ (at_ = .byte ∧ t = 1) ∨ (at_ = .boolean ∧ t = 2)) (harr : Cond.arrayClass (newarray.typeOf at_) ∈ e_gw) (hn0 : ¬ n < 0) (hN : n.toNatClampNeg = N) (hNs : N ≤ 100000) (hlt : h.1.1 < 1000000) (kk : T X d M pc' ls (.ref h.1.1 :: st) (e_new h (.inl (t, N, fun _ => 0)) N) Q) : T X d M pc ls (.int n :: st) h Q := by
  refine T_mk hlt (fun p e R s m args below meth c H locs cells slots Q l hC g1 g2 hP hS hL hq => ?_) kk
  obtain ⟨hx, hb, hml, hown, hts, -, -, -, hE⟩ := hC
  have hbytes : N * componentBytes (newarray.typeOf at_) ≤ 536870912 := by
    rcases hat with ⟨rfl, -⟩ | ⟨rfl, -⟩ | ⟨rfl, -⟩
    · show N * 4 ≤ _; omega
    · show N * 1 ≤ _; omega
    · show N * 1 ≤ _; omega
  subst hN
  refine W.newa hx hb (hts _ harr) rfl hd rfl hn0 hbytes g1 g2 (fun cA kA comp f1 f2 f3 => ?_)
  have hcA : cA = X.1.2.2 t := by
    have hra : s.vm.findClass ("[" ++ (newarray.typeOf at_).toString) = some (X.1.2.2 t) := by
      rcases hat with ⟨rfl, rfl⟩ | ⟨rfl, rfl⟩ | ⟨rfl, rfl⟩
      · exact (e_ty hE.1 (t := 0) (by decide)).2
      · exact (e_ty hE.1 (t := 1) (by decide)).2
      · exact (e_ty hE.1 (t := 2) (by decide)).2
    exact Option.some.inj (f1.symm.trans hra)
  subst hcA
  have hdv : defaultValue (newarray.typeOf at_) = .int 0 := by
    rcases hat with ⟨rfl, -⟩ | ⟨rfl, -⟩ | ⟨rfl, -⟩ <;> rfl
  rw [hdv]
  show W p X.1.1 e R s m args below meth c (H.push _) locs (cells + 1) (slots + n.toNatClampNeg) Q (F0 m (pc + 2) l (.ref H.size :: st.map (e_tr X)))
  rw [hn, hP.1]
  refine hq _ ?_ (by rw [Array.size_push]) (fun q hq' => by rw [Array.getElem?_push, if_neg (Nat.ne_of_lt hq')])
  show (H.push _)[X.2.1 + h.1.1]? = some (arrV (X.1.2.2 t) n.toNatClampNeg (fun _ => .int 0))
  rw [← hP.1, Array.getElem?_push_size, ← arrV_new]
theorem T_newr {n : Int32} {N idx t : Nat} {K : String} (hd : decode M.2.1 pc = .ok (.anewarray idx, 3)) (hn : pc + 3 = pc') (hat : (K = R_Fl ∧ t = 3) ∨ (K = R_Im ∧ t = 4)) (hcl : Cond.classLink M.1.cls idx K ∈ e_gw) (hn0 : ¬ n < 0) (hN : n.toNatClampNeg = N) (hNs : N ≤ 100000) (hlt : h.1.1 < 1000000) (kk : T X d M pc' ls (.ref h.1.1 :: st) (e_new h (.inr (.inl (t, N, fun _ => none))) N) Q) : T X d M pc ls (.int n :: st) h Q := by
  refine T_mk hlt (fun p e R s m args below meth c H locs cells slots Q l hC g1 g2 hP hS hL hq => ?_) kk
  obtain ⟨hx, hb, hml, hown, hts, -, -, -, hE⟩ := hC
  subst hN
  have hao : va_AO K s := by
    rcases hat with ⟨rfl, -⟩ | ⟨rfl, -⟩
    · exact hE.2.2.1.1
    · exact hE.2.2.1.2.1
  refine W.anew hx hb hown (hts _ hcl) (va_AO.use hao) rfl hd rfl hn0 (by omega) g1 g2 (fun cA kA comp f1 f2 f3 f4 => ?_)
  have hcA : cA = X.1.2.2 t := by
    have hra : s.vm.findClass ("[" ++ (FieldType.object K).toString) = some (X.1.2.2 t) := by
      rcases hat with ⟨rfl, rfl⟩ | ⟨rfl, rfl⟩
      · obtain ⟨_, _, -, -, -, z⟩ := (e_ty hE.1 (t := 3) (by decide)).2
        exact z
      · obtain ⟨_, _, -, -, -, z⟩ := (e_ty hE.1 (t := 4) (by decide)).2
        exact z
    exact Option.some.inj (f1.symm.trans hra)
  subst hcA
  show W p X.1.1 e R s m args below meth c (H.push _) locs (cells + 1) (slots + n.toNatClampNeg) Q (F0 m (pc + 3) l (.ref H.size :: st.map (e_tr X)))
  rw [hn, hP.1]
  refine hq _ ?_ (by rw [Array.size_push]) (fun q hq' => by rw [Array.getElem?_push, if_neg (Nat.ne_of_lt hq')])
  show (H.push _)[X.2.1 + h.1.1]? = some (arrV (X.1.2.2 t) n.toNatClampNeg (fun _ => .null))
  rw [← hP.1, Array.getElem?_push_size, ← arrV_new]
/-- System.arraycopy between two different rows of ints -/
theorem T_copyi {idx a0 a n0 n1 : Nat} {f g : Nat → Int32} {sp dp n : Int32} (hd : decode M.2.1 pc = .ok (.invokestatic idx, 3)) (hn : pc + 3 = pc') (hl : Cond.methodLink M.1.cls idx arraycopyName ∈ e_gw) (hw3 : Cond.native arraycopyName ∈ e_gw ∧ Cond.static arraycopyName ∈ e_gw ∧ Cond.initialized "java/lang/System" ∈ e_gw) (ha0 : h.2 a0 = some (.inl (0, n0, f))) (ha : h.2 a = some (.inl (0, n1, g))) (h1 : ¬ sp < 0) (h2 : ¬ dp < 0) (h3 : ¬ n < 0) (h4 : sp.toNatClampNeg + n.toNatClampNeg ≤ n0) (h5 : dp.toNatClampNeg + n.toNatClampNeg ≤ n1) (kk : T X (d + 1) M pc' ls [] (e_put h a (.inl (0, n1, va_cpy f g sp.toNatClampNeg dp.toNatClampNeg n.toNatClampNeg))) Q) : T X (d + 1) M pc ls [.int n, .int dp, .ref a, .int sp, .ref a0] h Q := by
  refine T_set ha (fun p e R s m args below meth c H locs cells slots Q l hC g1 g2 hP hS hL hq => ?_) kk
  obtain ⟨hx, hb, hml, hown, hts, -, -, -, hE⟩ := hC
  obtain ⟨hlt0, hc0⟩ := hP.2 a0 _ ha0
  obtain ⟨hlt, hc1⟩ := hP.2 a _ ha
  show W p X.1.1 e R s m args below meth c H locs cells slots Q (F0 m pc l [.int n, .int dp, .ref (e_am X a), .int sp, .ref (e_am X a0)])
  rw [e_am_lt hlt0, e_am_lt hlt]
  have nn : ∀ z : Int32, ¬ z < 0 → z.toInt = (z.toNatClampNeg : Int) := by
    intro z hz
    have hz0 : (0 : Int) ≤ z.toInt := by
      have := Int32.not_lt.mp hz
      simpa using Int32.le_iff_toInt_le.mp this
    show z.toInt = ((z.toInt.toNat : Nat) : Int)
    omega
  have hnf : nativeFrameWords "java/lang/System" "arraycopy" 5 + 11 ≤ 60 := by decide +kernel
  intro T0 hT Xs
  obtain ⟨-, k0, hk0, cm0, hkk0⟩ := (e_ty hE.1 (t := 0) (by decide)).1 n0 (fun j => .int (f j))
  obtain ⟨-, k1, hk1, cm1, hkk1⟩ := (e_ty hE.1 (t := 0) (by decide)).1 n1 (fun j => .int (g j))
  obtain ⟨vm', X', stp⟩ := Xs.arraycopy hx hown (hts _ hl) (hts _ hw3.1) (hts _ hw3.2.1) (hts _ hw3.2.2) (src := X.2.1 + a0) (dst := X.2.1 + a) (cs := arrV (X.1.2.2 0) n0 (fun j => .int (f j))) (cd := arrV (X.1.2.2 0) n1 (fun j => .int (g j))) (srcPos := sp) (destPos := dp) (n := n) (by rw [hT]; exact hc0) (by rw [hT]; exact hc1)
    (fun _ z => by cases z) (fun _ z => by cases z) (fun z => by cases z) (fun z => by cases z) hk0 hk1 hkk0 hkk1 (by decide) h1 h2 h3
    (by rw [nn sp h1, nn n h3, arrV_size]; omega)
    (by rw [nn dp h2, nn n h3, arrV_size]; omega)
    (fun vm₁ _ i hi => by
      have e9 : (arrV (X.1.2.2 0) n0 (fun j => .int (f j))).slots.getD (sp.toNatClampNeg + i) .null = .int (f (sp.toNatClampNeg + i)) := by
        rw [Array.getD_eq_getD_getElem?, arrV_read _ _ (by omega)]
        rfl
      refine ⟨?_, ?_⟩
      · rw [e9]; rfl
      · rw [e9]; exact trivial)
    (g := F0 m pc l [.int n, .int dp, .ref (X.2.1 + a), .int sp, .ref (X.2.1 + a0)]) rfl (by rw [hml]; exact hL.2.1) (rest := []) rfl (by rw [hb]; exact hd) (by omega) (by show 2 * 0 + (List.map (fun v => Value.category v) []).sum + (nativeFrameWords "java/lang/System" "arraycopy" 5 + 11) ≤ R.locals; rw [List.map_nil, List.sum_nil]; omega)
  have e1 : copied (arrV (X.1.2.2 0) n0 (fun j => .int (f j))) (arrV (X.1.2.2 0) n1 (fun j => .int (g j))) sp dp n = arrV (X.1.2.2 0) n1 (fun j => .int (va_cpy f g sp.toNatClampNeg dp.toNatClampNeg n.toNatClampNeg j)) := va_copied (fun z => .int z) _ _ f g h4
  rw [e1] at X' stp
  have hla : X.2.1 + a < H.size := (Array.getElem?_eq_some_iff.mp hc1).1
  have hheap : ((T0.setVm vm').setCell (X.2.1 + a) (arrV (X.1.2.2 0) n1 (fun j => .int (va_cpy f g sp.toNatClampNeg dp.toNatClampNeg n.toNatClampNeg j)))).heap = H.setIfInBounds (X.2.1 + a) (arrV (X.1.2.2 0) n1 (fun j => .int (va_cpy f g sp.toNatClampNeg dp.toNatClampNeg n.toNatClampNeg j))) := by rw [← hT]; rfl
  have oq : ∀ q : Nat, q ≠ X.2.1 + a → (H.setIfInBounds (X.2.1 + a) (arrV (X.1.2.2 0) n1 (fun j => .int (va_cpy f g sp.toNatClampNeg dp.toNatClampNeg n.toNatClampNeg j))))[q]? = H[q]? := fun q hq => by simp [Array.getElem?_setIfInBounds, Ne.symm hq]
  obtain ⟨t, a1, b1⟩ := hq _ _ (show (H.setIfInBounds (X.2.1 + a) _)[X.2.1 + a]? = some _ by simp [Array.getElem?_setIfInBounds, hla]) (by simp) oq ⟨by simp; exact hS.1, fun q g1 g2 => by
      rw [oq q (fun e9 => g2 (by rw [e9]; exact Nat.le_add_right _ _))]
      exact hS.2.1 q g1 g2, fun q hq => by
      rcases List.mem_append.mp hq with g | g
      · exact hS.2.2 q g
      · obtain ⟨z, -, hz⟩ := List.mem_map.mp g
        rw [← hz]
        exact Nat.le_add_right _ _⟩ _ hheap X'
  exact ⟨t, stp t (by rw [← hn] at a1; exact a1), b1⟩
end ENG6
end
section
section ENG7
variable {X : EX} {d : Nat} {M : Mt} {pc pc' : Nat} {ls ls' st st' : List Value} {h : AH} {Q : Option Value → AH → Prop}
/-- N rows of K ints, in a row of them -/
def e_grid (h : AH) (N K : Nat) : AH := ((h.1.1 + 1 + N, h.1.2 + N + N * K), fun k => if k = h.1.1 then some (.inr (.inl (5, N, fun i => if i < N then some (h.1.1 + 1 + i) else none))) else if h.1.1 < k ∧ k ≤ h.1.1 + N then some (.inl (0, K, fun _ => 0)) else h.2 k)
theorem e_outer (X : EX) (cA : ClassId) (N n0 : Nat) (hlt : n0 + N < 1000000) : ∀ i : Nat, i ≤ N → Jvm.Free.Multi.outerC cA N (X.2.1 + n0) i = arrV cA N (fun j => e_rf X (if j < i then some (n0 + 1 + j) else none))
  | 0, _ => by
    show ({ cls := cA, slots := Array.replicate N .null, vm := .none } : Cell) = _
    rw [arrV_new]
    congr 1
  | i + 1, hi => by
    show (Jvm.Free.Multi.outerC cA N (X.2.1 + n0) i).setSlot i (.ref (X.2.1 + n0 + 1 + i)) = _
    rw [e_outer X cA N n0 hlt i (by omega), arrV_store]
    congr 1
    funext j
    by_cases hj : j = i
    · subst hj
      have : e_am X (n0 + 1 + j) = X.2.1 + n0 + 1 + j := by rw [e_am_lt (by omega)]; omega
      simp [updV, e_rf, this]
    · by_cases hl : j < i
      · simp [updV, hj, hl, Nat.lt_succ_of_lt hl]
      · simp [updV, hj, hl, show ¬ j < i + 1 by omega]
theorem T_grid {n k : Int32} {N K idx : Nat} (hd : decode M.2.1 pc = .ok (.multianewarray idx 2, 4)) (hn : pc + 4 = pc') (hcl : Cond.classLink M.1.cls idx "[[I" ∈ e_gw) (harr : Cond.arrayClass .int ∈ e_gw) (hn0 : ¬ n < 0) (hk0 : ¬ k < 0) (hN : n.toNatClampNeg = N) (hK : k.toNatClampNeg = K) (hNs : N ≤ 1000 ∧ K ≤ 1000) (hlt : h.1.1 < 900000) (kk : T X d M pc' ls (.ref h.1.1 :: st) (e_grid h N K) Q) : T X d M pc ls (.int k :: .int n :: st) h Q := by
  obtain ⟨r, h', q, mono, w⟩ := kk
  subst hN
  subst hK
  have m1 : h.1.1 + 1 + n.toNatClampNeg ≤ h'.1.1 := mono.1
  have m2 : h.1.2 + n.toNatClampNeg + n.toNatClampNeg * k.toNatClampNeg ≤ h'.1.2 := mono.2
  refine ⟨r, h', q, ⟨by omega, by omega⟩, fun p e R s m args below meth c H locs cells slots Q n0 s0 l hC h1 h2 h3 h4 hP hS hc hs hL hF => ?_⟩
  have hC' := hC
  obtain ⟨hx, hb, hml, hown, hts, -, -, -, hE⟩ := hC'
  intro T0 hT Xs
  obtain ⟨vm₁, cA, comp, -, fA, fC, hO, -, X', stp⟩ := Xs.multianewarray2F hx hown (ty := .int) (hts _ hcl) (show (Cond.arrayOver (.array .int)).before args s = true from hE.2.2.1.2.2) (hts _ harr) (g := F0 m pc l (.int k :: .int n :: st.map (e_tr X))) rfl (by rw [hb]; exact hd) rfl hn0 hk0 (by omega) (by show k.toNatClampNeg * 4 ≤ _; omega) (by omega) rfl rfl (by omega) (by omega)
  have hcA : cA = X.1.2.2 5 := Option.some.inj (fA.symm.trans (e_ty hE.1 (t := 5) (by decide)).2)
  have hco : comp = X.1.2.2 0 := Option.some.inj (fC.symm.trans (e_ty hE.1 (t := 0) (by decide)).2)
  subst hcA
  subst hco
  have hTh : (T0.setVm vm₁).heap = H := hT
  generalize hFi : Jvm.Free.Multi.fill (T0.setVm vm₁) (X.1.2.2 5) (X.1.2.2 0) n.toNatClampNeg k.toNatClampNeg (defaultValue .int) n.toNatClampNeg = F at X' stp
  obtain ⟨f1, f2, -, -⟩ := Jvm.Free.Multi.fill_facts (T0.setVm vm₁) (X.1.2.2 5) (X.1.2.2 0) n.toNatClampNeg k.toNatClampNeg (defaultValue .int) n.toNatClampNeg
  rw [hFi, hTh] at f1 f2
  have hold : ∀ x : Nat, x < H.size → F.heap[x]? = H[x]? := fun x hx => by
    have := Jvm.Free.Multi.fill_old (T0.setVm vm₁) (X.1.2.2 5) (X.1.2.2 0) n.toNatClampNeg k.toNatClampNeg (defaultValue .int) (a := x) (by rw [hTh]; exact hx) n.toNatClampNeg
    rw [hFi, hTh] at this
    exact this
  have hrow : ∀ j : Nat, j < n.toNatClampNeg → F.heap[H.size + 1 + j]? = some (arrV (X.1.2.2 0) k.toNatClampNeg (fun _ => .int 0)) := fun j hj => by
    have := Jvm.Free.Multi.fill_inner (T0.setVm vm₁) (X.1.2.2 5) (X.1.2.2 0) n.toNatClampNeg k.toNatClampNeg (defaultValue .int) n.toNatClampNeg j hj
    rw [hFi, hTh] at this
    rw [this, ← arrV_new]
    rfl
  have hsz : H.size = X.2.1 + h.1.1 := hP.1
  rw [hsz, e_outer X (X.1.2.2 5) n.toNatClampNeg h.1.1 (by omega) n.toNatClampNeg (Nat.le_refl _)] at f2
  have hPF : e_P X (e_grid h n.toNatClampNeg k.toNatClampNeg) F.heap := by
    refine ⟨by rw [f1, hsz]; show _ = X.2.1 + (h.1.1 + 1 + n.toNatClampNeg); omega, fun x c hxc => ?_⟩
    by_cases g1 : x = h.1.1
    · subst g1
      have : c = (.inr (.inl (5, n.toNatClampNeg, fun i => if i < n.toNatClampNeg then some (h.1.1 + 1 + i) else none)) : AC) := by simpa [e_grid] using hxc.symm
      subst this
      exact ⟨by omega, f2⟩
    · by_cases g2 : h.1.1 < x ∧ x ≤ h.1.1 + n.toNatClampNeg
      · have : c = (.inl (0, k.toNatClampNeg, fun _ => 0) : AC) := by simpa [e_grid, g1, g2] using hxc.symm
        subst this
        refine ⟨by omega, ?_⟩
        have := hrow (x - h.1.1 - 1) (by omega)
        rw [show H.size + 1 + (x - h.1.1 - 1) = X.2.1 + x by omega] at this
        exact this
      · have hk' : h.2 x = some c := by simpa [e_grid, g1, g2] using hxc
        obtain ⟨g3, g4⟩ := hP.2 x c hk'
        refine ⟨g3, ?_⟩
        match c, g4 with
        | .inl y, g4 => exact (hold _ (Array.getElem?_eq_some_iff.mp g4).1).trans g4
        | .inr (.inl y), g4 => exact (hold _ (Array.getElem?_eq_some_iff.mp g4).1).trans g4
        | .inr (.inr o), ⟨r, r1, r2⟩ =>
          obtain ⟨cell, r3, r4⟩ := r2
          exact ⟨r, r1, t_OB.kept ⟨cell, r3, r4⟩ (hold _ (Array.getElem?_eq_some_iff.mp r3).1)⟩
  have hSF : va_S (e_A X) s.heap F.heap locs := ⟨Nat.le_trans hS.1 (by omega), fun q g1 g2 => (hold q (Nat.lt_of_lt_of_le g1 hS.1)).trans (hS.2.1 q g1 g2), hS.2.2⟩
  have hfin := w p e R s m args below meth c F.heap locs (cells + 1 + n.toNatClampNeg) (slots + n.toNatClampNeg + n.toNatClampNeg * k.toNatClampNeg) Q n0 s0 l hC h1 h2 h3 h4 hPF hSF (by show _ = h.1.1 + 1 + n.toNatClampNeg; omega) (by show _ = h.1.2 + n.toNatClampNeg + n.toNatClampNeg * k.toNatClampNeg; omega) hL hF
  obtain ⟨t, a1, b1⟩ := hfin F rfl X'
  refine ⟨t, stp t ?_, b1⟩
  have e1 : e_am X h.1.1 = T0.heap.size := by rw [e_am_lt (by omega), hT, hsz]
  rw [List.map_cons, show e_tr X (.ref h.1.1) = .ref (T0.heap.size) by rw [← e1]; rfl, ← hn] at a1
  exact a1
end ENG7
end
section
theorem kc_Fl : KC 0 (R_Fl, F_Fl, 9) t_Fl := by
  refine ⟨rfl, fun w hw => ?_, ty_Fl, nm_Fl⟩
  obtain ⟨k, hk, rfl⟩ := List.mem_map.mp hw
  have hk := List.mem_range.mp hk
  have ht : ∀ k, k < 9 → tables_1[[134, 136, 138, 140, 142, 144, 146, 148, 150].getD k 0]? = some (u_lay R_Fl F_Fl k) ∧ goodWord (u_lay R_Fl F_Fl k) = true := by decide +kernel
  exact gw_t _ (ht k hk).1 (ht k hk).2
theorem kc_Hi : KC 1 (R_Hi, F_Hi, 2) t_Hi := by
  refine ⟨rfl, fun w hw => ?_, ty_Hi, nm_Hi⟩
  obtain ⟨k, hk, rfl⟩ := List.mem_map.mp hw
  have hk := List.mem_range.mp hk
  have ht : ∀ k, k < 2 → tables_1[[165, 167].getD k 0]? = some (u_lay R_Hi F_Hi k) ∧ goodWord (u_lay R_Hi F_Hi k) = true := by decide +kernel
  exact gw_t _ (ht k hk).1 (ht k hk).2
theorem kc_Im : KC 2 (R_Im, F_Im, 3) t_Im := by
  refine ⟨rfl, fun w hw => ?_, ty_Im, nm_Im⟩
  obtain ⟨k, hk, rfl⟩ := List.mem_map.mp hw
  have hk := List.mem_range.mp hk
  have ht : ∀ k, k < 3 → tables_1[[261, 263, 265].getD k 0]? = some (u_lay R_Im F_Im k) ∧ goodWord (u_lay R_Im F_Im k) = true := by decide +kernel
  exact gw_t _ (ht k hk).1 (ht k hk).2
theorem kc_Od : KC 3 (R_Od, F_Od, 3) t_Od := by
  refine ⟨rfl, fun w hw => ?_, ty_Od, nm_Od⟩
  obtain ⟨k, hk, rfl⟩ := List.mem_map.mp hw
  have hk := List.mem_range.mp hk
  have ht : ∀ k, k < 3 → tables_1[[218, 220, 222].getD k 0]? = some (u_lay R_Od F_Od k) ∧ goodWord (u_lay R_Od F_Od k) = true := by decide +kernel
  exact gw_t _ (ht k hk).1 (ht k hk).2
theorem kc_Re : KC 4 (R_Re, F_Re, 4) t_Re := by
  refine ⟨rfl, fun w hw => ?_, ty_Re, nm_Re⟩
  obtain ⟨k, hk, rfl⟩ := List.mem_map.mp hw
  have hk := List.mem_range.mp hk
  have ht : ∀ k, k < 4 → tables_1[[239, 241, 243, 245].getD k 0]? = some (u_lay R_Re F_Re k) ∧ goodWord (u_lay R_Re F_Re k) = true := by decide +kernel
  exact gw_t _ (ht k hk).1 (ht k hk).2
theorem kc_Se : KC 5 (R_Se, F_Se, 8) t_Se := by
  refine ⟨rfl, fun w hw => ?_, ty_Se, nm_Se⟩
  obtain ⟨k, hk, rfl⟩ := List.mem_map.mp hw
  have hk := List.mem_range.mp hk
  have ht : ∀ k, k < 8 → tables_1[[192, 194, 196, 198, 200, 202, 204, 206].getD k 0]? = some (u_lay R_Se F_Se k) ∧ goodWord (u_lay R_Se F_Se k) = true := by decide +kernel
  exact gw_t _ (ht k hk).1 (ht k hk).2
theorem kc_Tx : KC 6 (R_Tx, F_Tx, 8) t_Tx := by
  refine ⟨rfl, fun w hw => ?_, ty_Tx, nm_Tx⟩
  obtain ⟨k, hk, rfl⟩ := List.mem_map.mp hw
  have hk := List.mem_range.mp hk
  have ht : ∀ k, k < 8 → tables_1[[38, 40, 42, 44, 46, 48, 50, 52].getD k 0]? = some (u_lay R_Tx F_Tx k) ∧ goodWord (u_lay R_Tx F_Tx k) = true := by decide +kernel
  exact gw_t _ (ht k hk).1 (ht k hk).2
theorem kc_To : KC 7 (R_To, F_To, 9) t_To := by
  refine ⟨rfl, fun w hw => ?_, ty_To, nm_To⟩
  obtain ⟨k, hk, rfl⟩ := List.mem_map.mp hw
  have hk := List.mem_range.mp hk
  have ht : ∀ k, k < 9 → tables_1[[84, 86, 88, 90, 92, 94, 96, 98, 100].getD k 0]? = some (u_lay R_To F_To k) ∧ goodWord (u_lay R_To F_To k) = true := by decide +kernel
  exact gw_t _ (ht k hk).1 (ht k hk).2
theorem kc_Tb : KC 8 (R_Tb, F_Tb, 13) t_Tb := by
  refine ⟨rfl, fun w hw => ?_, ty_Tb, nm_Tb⟩
  obtain ⟨k, hk, rfl⟩ := List.mem_map.mp hw
  have hk := List.mem_range.mp hk
  have ht : ∀ k, k < 13 → tables_1[[297, 299, 301, 303, 305, 307, 309, 311, 313, 315, 317, 319, 321].getD k 0]? = some (u_lay R_Tb F_Tb k) ∧ goodWord (u_lay R_Tb F_Tb k) = true := by decide +kernel
  exact gw_t _ (ht k hk).1 (ht k hk).2
theorem kc_Mo : KC 9 (R_Mo, F_Mo, 33) t_Mo := by
  refine ⟨rfl, fun w hw => ?_, ty_Mo, nm_Mo⟩
  obtain ⟨k, hk, rfl⟩ := List.mem_map.mp hw
  have hk := List.mem_range.mp hk
  have ht : ∀ k, k < 33 → tables_1[[825, 827, 829, 831, 833, 835, 837, 839, 841, 843, 845, 847, 849, 851, 853, 855, 857, 859, 861, 863, 865, 867, 869, 871, 873, 875, 877, 879, 881, 883, 885, 887, 889].getD k 0]? = some (u_lay R_Mo F_Mo k) ∧ goodWord (u_lay R_Mo F_Mo k) = true := by decide +kernel
  exact gw_t _ (ht k hk).1 (ht k hk).2
theorem f_Tx_9 : FL R_Tx 9 6 0 (.array .int) true := ⟨(R_Tx, F_Tx, 8), t_Tx, kc_Tx, by decide, Or.inl (gw_t 29 (by decide +kernel) rfl), rfl, rfl, rfl, fun z => by first | rfl | exact absurd z (by decide)⟩
theorem g_Tx_9 : FG R_Tx 9 6 0 := f_Tx_9.g
theorem f_Tx_15 : FL R_Tx 15 6 1 (.int) false := ⟨(R_Tx, F_Tx, 8), t_Tx, kc_Tx, by decide, Or.inl (gw_t 30 (by decide +kernel) rfl), rfl, rfl, rfl, fun z => by first | rfl | exact absurd z (by decide)⟩
theorem g_Tx_15 : FG R_Tx 15 6 1 := f_Tx_15.g
theorem f_Tx_31 : FL R_Tx 31 6 2 (.int) false := ⟨(R_Tx, F_Tx, 8), t_Tx, kc_Tx, by decide, Or.inl (gw_t 32 (by decide +kernel) rfl), rfl, rfl, rfl, fun z => by first | rfl | exact absurd z (by decide)⟩
theorem g_Tx_31 : FG R_Tx 31 6 2 := f_Tx_31.g
theorem f_Tx_37 : FL R_Tx 37 6 3 (.int) false := ⟨(R_Tx, F_Tx, 8), t_Tx, kc_Tx, by decide, Or.inl (gw_t 33 (by decide +kernel) rfl), rfl, rfl, rfl, fun z => by first | rfl | exact absurd z (by decide)⟩
theorem g_Tx_37 : FG R_Tx 37 6 3 := f_Tx_37.g
theorem f_Tx_44 : FL R_Tx 44 6 4 (.int) false := ⟨(R_Tx, F_Tx, 8), t_Tx, kc_Tx, by decide, Or.inl (gw_t 34 (by decide +kernel) rfl), rfl, rfl, rfl, fun z => by first | rfl | exact absurd z (by decide)⟩
theorem g_Tx_44 : FG R_Tx 44 6 4 := f_Tx_44.g
theorem f_Tx_54 : FL R_Tx 54 6 5 (.int) false := ⟨(R_Tx, F_Tx, 8), t_Tx, kc_Tx, by decide, Or.inl (gw_t 35 (by decide +kernel) rfl), rfl, rfl, rfl, fun z => by first | rfl | exact absurd z (by decide)⟩
theorem g_Tx_54 : FG R_Tx 54 6 5 := f_Tx_54.g
theorem f_Tx_19 : FL R_Tx 19 6 6 (.array .int) true := ⟨(R_Tx, F_Tx, 8), t_Tx, kc_Tx, by decide, Or.inl (gw_t 36 (by decide +kernel) rfl), rfl, rfl, rfl, fun z => by first | rfl | exact absurd z (by decide)⟩
theorem g_Tx_19 : FG R_Tx 19 6 6 := f_Tx_19.g
theorem f_Tx_27 : FL R_Tx 27 6 7 (.boolean) false := ⟨(R_Tx, F_Tx, 8), t_Tx, kc_Tx, by decide, Or.inl (gw_t 37 (by decide +kernel) rfl), rfl, rfl, rfl, fun z => by first | rfl | exact absurd z (by decide)⟩
theorem g_Tx_27 : FG R_Tx 27 6 7 := f_Tx_27.g
theorem f_To_9 : FL R_To 9 7 0 (.array .int) true := ⟨(R_To, F_To, 9), t_To, kc_To, by decide, Or.inl (gw_t 62 (by decide +kernel) rfl), rfl, rfl, rfl, fun z => by first | rfl | exact absurd z (by decide)⟩
theorem g_To_9 : FG R_To 9 7 0 := f_To_9.g
theorem f_To_15 : FL R_To 15 7 1 (.array .int) true := ⟨(R_To, F_To, 9), t_To, kc_To, by decide, Or.inl (gw_t 63 (by decide +kernel) rfl), rfl, rfl, rfl, fun z => by first | rfl | exact absurd z (by decide)⟩
theorem g_To_15 : FG R_To 15 7 1 := f_To_15.g
theorem f_To_18 : FL R_To 18 7 2 (.array .int) true := ⟨(R_To, F_To, 9), t_To, kc_To, by decide, Or.inl (gw_t 65 (by decide +kernel) rfl), rfl, rfl, rfl, fun z => by first | rfl | exact absurd z (by decide)⟩
theorem g_To_18 : FG R_To 18 7 2 := f_To_18.g
theorem f_To_21 : FL R_To 21 7 3 (.array .int) true := ⟨(R_To, F_To, 9), t_To, kc_To, by decide, Or.inl (gw_t 67 (by decide +kernel) rfl), rfl, rfl, rfl, fun z => by first | rfl | exact absurd z (by decide)⟩
theorem g_To_21 : FG R_To 21 7 3 := f_To_21.g
theorem f_To_24 : FL R_To 24 7 4 (.array .int) true := ⟨(R_To, F_To, 9), t_To, kc_To, by decide, Or.inl (gw_t 69 (by decide +kernel) rfl), rfl, rfl, rfl, fun z => by first | rfl | exact absurd z (by decide)⟩
theorem g_To_24 : FG R_To 24 7 4 := f_To_24.g
theorem f_To_27 : FL R_To 27 7 5 (.int) false := ⟨(R_To, F_To, 9), t_To, kc_To, by decide, Or.inl (gw_t 71 (by decide +kernel) rfl), rfl, rfl, rfl, fun z => by first | rfl | exact absurd z (by decide)⟩
theorem g_To_27 : FG R_To 27 7 5 := f_To_27.g
theorem f_To_31 : FL R_To 31 7 6 (.int) false := ⟨(R_To, F_To, 9), t_To, kc_To, by decide, Or.inl (gw_t 75 (by decide +kernel) rfl), rfl, rfl, rfl, fun z => by first | rfl | exact absurd z (by decide)⟩
theorem g_To_31 : FG R_To 31 7 6 := f_To_31.g
theorem f_To_34 : FL R_To 34 7 7 (.int) false := ⟨(R_To, F_To, 9), t_To, kc_To, by decide, Or.inl (gw_t 79 (by decide +kernel) rfl), rfl, rfl, rfl, fun z => by first | rfl | exact absurd z (by decide)⟩
theorem g_To_34 : FG R_To 34 7 7 := f_To_34.g
theorem f_To_37 : FL R_To 37 7 8 (.int) false := ⟨(R_To, F_To, 9), t_To, kc_To, by decide, Or.inl (gw_t 82 (by decide +kernel) rfl), rfl, rfl, rfl, fun z => by first | rfl | exact absurd z (by decide)⟩
theorem g_To_37 : FG R_To 37 7 8 := f_To_37.g
theorem f_Fl_9 : FL R_Fl 9 0 0 (.int) false := ⟨(R_Fl, F_Fl, 9), t_Fl, kc_Fl, by decide, Or.inl (gw_t 109 (by decide +kernel) rfl), rfl, rfl, rfl, fun z => by first | rfl | exact absurd z (by decide)⟩
theorem g_Fl_9 : FG R_Fl 9 0 0 := f_Fl_9.g
theorem f_Fl_15 : FL R_Fl 15 0 1 (.int) false := ⟨(R_Fl, F_Fl, 9), t_Fl, kc_Fl, by decide, Or.inl (gw_t 112 (by decide +kernel) rfl), rfl, rfl, rfl, fun z => by first | rfl | exact absurd z (by decide)⟩
theorem g_Fl_15 : FG R_Fl 15 0 1 := f_Fl_15.g
theorem f_Fl_18 : FL R_Fl 18 0 2 (.int) false := ⟨(R_Fl, F_Fl, 9), t_Fl, kc_Fl, by decide, Or.inl (gw_t 115 (by decide +kernel) rfl), rfl, rfl, rfl, fun z => by first | rfl | exact absurd z (by decide)⟩
theorem g_Fl_18 : FG R_Fl 18 0 2 := f_Fl_18.g
theorem f_Fl_34 : FL R_Fl 34 0 3 (.int) false := ⟨(R_Fl, F_Fl, 9), t_Fl, kc_Fl, by decide, Or.inl (gw_t 119 (by decide +kernel) rfl), rfl, rfl, rfl, fun z => by first | rfl | exact absurd z (by decide)⟩
theorem g_Fl_34 : FG R_Fl 34 0 3 := f_Fl_34.g
theorem f_Fl_37 : FL R_Fl 37 0 4 (.int) false := ⟨(R_Fl, F_Fl, 9), t_Fl, kc_Fl, by decide, Or.inl (gw_t 122 (by decide +kernel) rfl), rfl, rfl, rfl, fun z => by first | rfl | exact absurd z (by decide)⟩
theorem g_Fl_37 : FG R_Fl 37 0 4 := f_Fl_37.g
theorem f_Fl_40 : FL R_Fl 40 0 5 (.int) false := ⟨(R_Fl, F_Fl, 9), t_Fl, kc_Fl, by decide, Or.inl (gw_t 125 (by decide +kernel) rfl), rfl, rfl, rfl, fun z => by first | rfl | exact absurd z (by decide)⟩
theorem g_Fl_40 : FG R_Fl 40 0 5 := f_Fl_40.g
theorem f_Fl_24 : FL R_Fl 24 0 6 (.int) false := ⟨(R_Fl, F_Fl, 9), t_Fl, kc_Fl, by decide, Or.inl (gw_t 127 (by decide +kernel) rfl), rfl, rfl, rfl, fun z => by first | rfl | exact absurd z (by decide)⟩
theorem g_Fl_24 : FG R_Fl 24 0 6 := f_Fl_24.g
theorem f_Fl_27 : FL R_Fl 27 0 7 (.int) false := ⟨(R_Fl, F_Fl, 9), t_Fl, kc_Fl, by decide, Or.inl (gw_t 129 (by decide +kernel) rfl), rfl, rfl, rfl, fun z => by first | rfl | exact absurd z (by decide)⟩
theorem g_Fl_27 : FG R_Fl 27 0 7 := f_Fl_27.g
theorem f_Fl_30 : FL R_Fl 30 0 8 (.boolean) false := ⟨(R_Fl, F_Fl, 9), t_Fl, kc_Fl, by decide, Or.inl (gw_t 130 (by decide +kernel) rfl), rfl, rfl, rfl, fun z => by first | rfl | exact absurd z (by decide)⟩
theorem g_Fl_30 : FG R_Fl 30 0 8 := f_Fl_30.g
theorem f_Hi_11 : FL R_Hi 11 1 0 (.array (.object "ThoughtBalloon$Flight")) true := ⟨(R_Hi, F_Hi, 2), t_Hi, kc_Hi, by decide, Or.inl (gw_t 162 (by decide +kernel) rfl), rfl, rfl, rfl, fun z => by first | rfl | exact absurd z (by decide)⟩
theorem g_Hi_11 : FG R_Hi 11 1 0 := f_Hi_11.g
theorem f_Hi_17 : FL R_Hi 17 1 1 (.int) false := ⟨(R_Hi, F_Hi, 2), t_Hi, kc_Hi, by decide, Or.inl (gw_t 163 (by decide +kernel) rfl), rfl, rfl, rfl, fun z => by first | rfl | exact absurd z (by decide)⟩
theorem g_Hi_17 : FG R_Hi 17 1 1 := f_Hi_17.g
theorem f_Se_29 : FL R_Se 29 5 0 (.object "ThoughtBalloon$Told") true := ⟨(R_Se, F_Se, 8), t_Se, kc_Se, by decide, Or.inl (gw_t 182 (by decide +kernel) rfl), rfl, rfl, rfl, fun z => by first | rfl | exact absurd z (by decide)⟩
theorem g_Se_29 : FG R_Se 29 5 0 := f_Se_29.g
theorem f_Se_11 : FL R_Se 11 5 1 (.array (.object "ThoughtBalloon$Flight")) true := ⟨(R_Se, F_Se, 8), t_Se, kc_Se, by decide, Or.inl (gw_t 183 (by decide +kernel) rfl), rfl, rfl, rfl, fun z => by first | rfl | exact absurd z (by decide)⟩
theorem g_Se_11 : FG R_Se 11 5 1 := f_Se_11.g
theorem f_Se_17 : FL R_Se 17 5 2 (.array .int) true := ⟨(R_Se, F_Se, 8), t_Se, kc_Se, by decide, Or.inl (gw_t 184 (by decide +kernel) rfl), rfl, rfl, rfl, fun z => by first | rfl | exact absurd z (by decide)⟩
theorem g_Se_17 : FG R_Se 17 5 2 := f_Se_17.g
theorem f_Se_21 : FL R_Se 21 5 3 (.array .int) true := ⟨(R_Se, F_Se, 8), t_Se, kc_Se, by decide, Or.inl (gw_t 185 (by decide +kernel) rfl), rfl, rfl, rfl, fun z => by first | rfl | exact absurd z (by decide)⟩
theorem g_Se_21 : FG R_Se 21 5 3 := f_Se_21.g
theorem f_Se_26 : FL R_Se 26 5 4 (.array (.array .int)) true := ⟨(R_Se, F_Se, 8), t_Se, kc_Se, by decide, Or.inl (gw_t 187 (by decide +kernel) rfl), rfl, rfl, rfl, fun z => by first | rfl | exact absurd z (by decide)⟩
theorem g_Se_26 : FG R_Se 26 5 4 := f_Se_26.g
theorem f_Se_40 : FL R_Se 40 5 5 (.int) false := ⟨(R_Se, F_Se, 8), t_Se, kc_Se, by decide, Or.inl (gw_t 188 (by decide +kernel) rfl), rfl, rfl, rfl, fun z => by first | rfl | exact absurd z (by decide)⟩
theorem g_Se_40 : FG R_Se 40 5 5 := f_Se_40.g
theorem f_Se_44 : FL R_Se 44 5 6 (.int) false := ⟨(R_Se, F_Se, 8), t_Se, kc_Se, by decide, Or.inl (gw_t 189 (by decide +kernel) rfl), rfl, rfl, rfl, fun z => by first | rfl | exact absurd z (by decide)⟩
theorem g_Se_44 : FG R_Se 44 5 6 := f_Se_44.g
theorem f_Se_47 : FL R_Se 47 5 7 (.int) false := ⟨(R_Se, F_Se, 8), t_Se, kc_Se, by decide, Or.inl (gw_t 190 (by decide +kernel) rfl), rfl, rfl, rfl, fun z => by first | rfl | exact absurd z (by decide)⟩
theorem g_Se_47 : FG R_Se 47 5 7 := f_Se_47.g
theorem f_Od_9 : FL R_Od 9 3 0 (.array .int) true := ⟨(R_Od, F_Od, 3), t_Od, kc_Od, by decide, Or.inl (gw_t 215 (by decide +kernel) rfl), rfl, rfl, rfl, fun z => by first | rfl | exact absurd z (by decide)⟩
theorem g_Od_9 : FG R_Od 9 3 0 := f_Od_9.g
theorem f_Od_15 : FL R_Od 15 3 1 (.array .int) true := ⟨(R_Od, F_Od, 3), t_Od, kc_Od, by decide, Or.inl (gw_t 216 (by decide +kernel) rfl), rfl, rfl, rfl, fun z => by first | rfl | exact absurd z (by decide)⟩
theorem g_Od_15 : FG R_Od 15 3 1 := f_Od_15.g
theorem f_Od_28 : FL R_Od 28 3 2 (.int) false := ⟨(R_Od, F_Od, 3), t_Od, kc_Od, by decide, Or.inl (gw_t 217 (by decide +kernel) rfl), rfl, rfl, rfl, fun z => by first | rfl | exact absurd z (by decide)⟩
theorem g_Od_28 : FG R_Od 28 3 2 := f_Od_28.g
theorem f_Re_9 : FL R_Re 9 4 0 (.array .int) true := ⟨(R_Re, F_Re, 4), t_Re, kc_Re, by decide, Or.inl (gw_t 231 (by decide +kernel) rfl), rfl, rfl, rfl, fun z => by first | rfl | exact absurd z (by decide)⟩
theorem g_Re_9 : FG R_Re 9 4 0 := f_Re_9.g
theorem f_Re_15 : FL R_Re 15 4 1 (.array .int) true := ⟨(R_Re, F_Re, 4), t_Re, kc_Re, by decide, Or.inl (gw_t 233 (by decide +kernel) rfl), rfl, rfl, rfl, fun z => by first | rfl | exact absurd z (by decide)⟩
theorem g_Re_15 : FG R_Re 15 4 1 := f_Re_15.g
theorem f_Re_18 : FL R_Re 18 4 2 (.array .int) true := ⟨(R_Re, F_Re, 4), t_Re, kc_Re, by decide, Or.inl (gw_t 235 (by decide +kernel) rfl), rfl, rfl, rfl, fun z => by first | rfl | exact absurd z (by decide)⟩
theorem g_Re_18 : FG R_Re 18 4 2 := f_Re_18.g
theorem f_Re_21 : FL R_Re 21 4 3 (.int) false := ⟨(R_Re, F_Re, 4), t_Re, kc_Re, by decide, Or.inl (gw_t 237 (by decide +kernel) rfl), rfl, rfl, rfl, fun z => by first | rfl | exact absurd z (by decide)⟩
theorem g_Re_21 : FG R_Re 21 4 3 := f_Re_21.g
theorem f_Im_10 : FL R_Im 10 2 0 (.object "ThoughtBalloon$Flight") true := ⟨(R_Im, F_Im, 3), t_Im, kc_Im, by decide, Or.inl (gw_t 257 (by decide +kernel) rfl), rfl, rfl, rfl, fun z => by first | rfl | exact absurd z (by decide)⟩
theorem g_Im_10 : FG R_Im 10 2 0 := f_Im_10.g
theorem f_Im_19 : FL R_Im 19 2 1 (.object "ThoughtBalloon$History") true := ⟨(R_Im, F_Im, 3), t_Im, kc_Im, by decide, Or.inl (gw_t 258 (by decide +kernel) rfl), rfl, rfl, rfl, fun z => by first | rfl | exact absurd z (by decide)⟩
theorem g_Im_19 : FG R_Im 19 2 1 := f_Im_19.g
theorem f_Im_23 : FL R_Im 23 2 2 (.boolean) false := ⟨(R_Im, F_Im, 3), t_Im, kc_Im, by decide, Or.inl (gw_t 259 (by decide +kernel) rfl), rfl, rfl, rfl, fun z => by first | rfl | exact absurd z (by decide)⟩
theorem g_Im_23 : FG R_Im 23 2 2 := f_Im_23.g
theorem f_Tb_10 : FL R_Tb 10 8 0 (.object "ThoughtBalloon$Text") true := ⟨(R_Tb, F_Tb, 13), t_Tb, kc_Tb, by decide, Or.inl (gw_t 284 (by decide +kernel) rfl), rfl, rfl, rfl, fun z => by first | rfl | exact absurd z (by decide)⟩
theorem g_Tb_10 : FG R_Tb 10 8 0 := f_Tb_10.g
theorem f_Tb_19 : FL R_Tb 19 8 1 (.object "ThoughtBalloon$Told") true := ⟨(R_Tb, F_Tb, 13), t_Tb, kc_Tb, by decide, Or.inl (gw_t 285 (by decide +kernel) rfl), rfl, rfl, rfl, fun z => by first | rfl | exact absurd z (by decide)⟩
theorem g_Tb_19 : FG R_Tb 19 8 1 := f_Tb_19.g
theorem f_Tb_23 : FL R_Tb 23 8 2 (.object "ThoughtBalloon$Told") true := ⟨(R_Tb, F_Tb, 13), t_Tb, kc_Tb, by decide, Or.inl (gw_t 286 (by decide +kernel) rfl), rfl, rfl, rfl, fun z => by first | rfl | exact absurd z (by decide)⟩
theorem g_Tb_23 : FG R_Tb 23 8 2 := f_Tb_23.g
theorem f_Tb_29 : FL R_Tb 29 8 3 (.object "ThoughtBalloon$Flight") true := ⟨(R_Tb, F_Tb, 13), t_Tb, kc_Tb, by decide, Or.inl (gw_t 287 (by decide +kernel) rfl), rfl, rfl, rfl, fun z => by first | rfl | exact absurd z (by decide)⟩
theorem g_Tb_29 : FG R_Tb 29 8 3 := f_Tb_29.g
theorem f_Tb_33 : FL R_Tb 33 8 4 (.object "ThoughtBalloon$Flight") true := ⟨(R_Tb, F_Tb, 13), t_Tb, kc_Tb, by decide, Or.inl (gw_t 288 (by decide +kernel) rfl), rfl, rfl, rfl, fun z => by first | rfl | exact absurd z (by decide)⟩
theorem g_Tb_33 : FG R_Tb 33 8 4 := f_Tb_33.g
theorem f_Tb_39 : FL R_Tb 39 8 5 (.object "ThoughtBalloon$History") true := ⟨(R_Tb, F_Tb, 13), t_Tb, kc_Tb, by decide, Or.inl (gw_t 289 (by decide +kernel) rfl), rfl, rfl, rfl, fun z => by first | rfl | exact absurd z (by decide)⟩
theorem g_Tb_39 : FG R_Tb 39 8 5 := f_Tb_39.g
theorem f_Tb_45 : FL R_Tb 45 8 6 (.array (.object "ThoughtBalloon$Image")) true := ⟨(R_Tb, F_Tb, 13), t_Tb, kc_Tb, by decide, Or.inl (gw_t 290 (by decide +kernel) rfl), rfl, rfl, rfl, fun z => by first | rfl | exact absurd z (by decide)⟩
theorem g_Tb_45 : FG R_Tb 45 8 6 := f_Tb_45.g
theorem f_Tb_54 : FL R_Tb 54 8 7 (.object "ThoughtBalloon$Search") true := ⟨(R_Tb, F_Tb, 13), t_Tb, kc_Tb, by decide, Or.inl (gw_t 291 (by decide +kernel) rfl), rfl, rfl, rfl, fun z => by first | rfl | exact absurd z (by decide)⟩
theorem g_Tb_54 : FG R_Tb 54 8 7 := f_Tb_54.g
theorem f_Tb_61 : FL R_Tb 61 8 8 (.object "ThoughtBalloon$Odds") true := ⟨(R_Tb, F_Tb, 13), t_Tb, kc_Tb, by decide, Or.inl (gw_t 292 (by decide +kernel) rfl), rfl, rfl, rfl, fun z => by first | rfl | exact absurd z (by decide)⟩
theorem g_Tb_61 : FG R_Tb 61 8 8 := f_Tb_61.g
theorem f_Tb_68 : FL R_Tb 68 8 9 (.object "ThoughtBalloon$Reports") true := ⟨(R_Tb, F_Tb, 13), t_Tb, kc_Tb, by decide, Or.inl (gw_t 293 (by decide +kernel) rfl), rfl, rfl, rfl, fun z => by first | rfl | exact absurd z (by decide)⟩
theorem g_Tb_68 : FG R_Tb 68 8 9 := f_Tb_68.g
theorem f_Tb_72 : FL R_Tb 72 8 10 (.object "ThoughtBalloon$Reports") true := ⟨(R_Tb, F_Tb, 13), t_Tb, kc_Tb, by decide, Or.inl (gw_t 294 (by decide +kernel) rfl), rfl, rfl, rfl, fun z => by first | rfl | exact absurd z (by decide)⟩
theorem g_Tb_72 : FG R_Tb 72 8 10 := f_Tb_72.g
theorem f_Tb_75 : FL R_Tb 75 8 11 (.array .int) true := ⟨(R_Tb, F_Tb, 13), t_Tb, kc_Tb, by decide, Or.inl (gw_t 295 (by decide +kernel) rfl), rfl, rfl, rfl, fun z => by first | rfl | exact absurd z (by decide)⟩
theorem g_Tb_75 : FG R_Tb 75 8 11 := f_Tb_75.g
theorem f_Tb_79 : FL R_Tb 79 8 12 (.long) false := ⟨(R_Tb, F_Tb, 13), t_Tb, kc_Tb, by decide, Or.inl (gw_t 296 (by decide +kernel) rfl), rfl, rfl, rfl, fun z => by first | rfl | exact absurd z (by decide)⟩
theorem g_Tb_79 : FG R_Tb 79 8 12 := f_Tb_79.g
theorem gs_Tx_51 : Cond.fieldLink R_Tx 51 R_Tx "NUMBERS" "[I" ∈ e_gw := gw_t 387 (by decide +kernel) rfl
theorem gs_Tx_57 : Cond.fieldLink R_Tx 57 R_Tx "LEAST" "[I" ∈ e_gw := gw_t 389 (by decide +kernel) rfl
theorem gs_Tx_60 : Cond.fieldLink R_Tx 60 R_Tx "MOST" "[I" ∈ e_gw := gw_t 391 (by decide +kernel) rfl
theorem f_Mo_7 : FL R_Mo 7 9 0 (.array .byte) true := ⟨(R_Mo, F_Mo, 33), t_Mo, kc_Mo, by decide, Or.inl (gw_t 792 (by decide +kernel) rfl), rfl, rfl, rfl, fun z => by first | rfl | exact absurd z (by decide)⟩
theorem g_Mo_7 : FG R_Mo 7 9 0 := f_Mo_7.g
theorem f_Mo_82 : FL R_Mo 82 9 1 (.int) false := ⟨(R_Mo, F_Mo, 33), t_Mo, kc_Mo, by decide, Or.inl (gw_t 793 (by decide +kernel) rfl), rfl, rfl, rfl, fun z => by first | rfl | exact absurd z (by decide)⟩
theorem g_Mo_82 : FG R_Mo 82 9 1 := f_Mo_82.g
theorem f_Mo_13 : FL R_Mo 13 9 2 (.array .int) true := ⟨(R_Mo, F_Mo, 33), t_Mo, kc_Mo, by decide, Or.inl (gw_t 794 (by decide +kernel) rfl), rfl, rfl, rfl, fun z => by first | rfl | exact absurd z (by decide)⟩
theorem g_Mo_13 : FG R_Mo 13 9 2 := f_Mo_13.g
theorem f_Mo_17 : FL R_Mo 17 9 3 (.array .int) true := ⟨(R_Mo, F_Mo, 33), t_Mo, kc_Mo, by decide, Or.inl (gw_t 795 (by decide +kernel) rfl), rfl, rfl, rfl, fun z => by first | rfl | exact absurd z (by decide)⟩
theorem g_Mo_17 : FG R_Mo 17 9 3 := f_Mo_17.g
theorem f_Mo_20 : FL R_Mo 20 9 4 (.array .int) true := ⟨(R_Mo, F_Mo, 33), t_Mo, kc_Mo, by decide, Or.inl (gw_t 796 (by decide +kernel) rfl), rfl, rfl, rfl, fun z => by first | rfl | exact absurd z (by decide)⟩
theorem g_Mo_20 : FG R_Mo 20 9 4 := f_Mo_20.g
theorem f_Mo_23 : FL R_Mo 23 9 5 (.array .int) true := ⟨(R_Mo, F_Mo, 33), t_Mo, kc_Mo, by decide, Or.inl (gw_t 797 (by decide +kernel) rfl), rfl, rfl, rfl, fun z => by first | rfl | exact absurd z (by decide)⟩
theorem g_Mo_23 : FG R_Mo 23 9 5 := f_Mo_23.g
theorem f_Mo_26 : FL R_Mo 26 9 6 (.array .int) true := ⟨(R_Mo, F_Mo, 33), t_Mo, kc_Mo, by decide, Or.inl (gw_t 798 (by decide +kernel) rfl), rfl, rfl, rfl, fun z => by first | rfl | exact absurd z (by decide)⟩
theorem g_Mo_26 : FG R_Mo 26 9 6 := f_Mo_26.g
theorem f_Mo_29 : FL R_Mo 29 9 7 (.array .int) true := ⟨(R_Mo, F_Mo, 33), t_Mo, kc_Mo, by decide, Or.inl (gw_t 799 (by decide +kernel) rfl), rfl, rfl, rfl, fun z => by first | rfl | exact absurd z (by decide)⟩
theorem g_Mo_29 : FG R_Mo 29 9 7 := f_Mo_29.g
theorem f_Mo_32 : FL R_Mo 32 9 8 (.array .int) true := ⟨(R_Mo, F_Mo, 33), t_Mo, kc_Mo, by decide, Or.inl (gw_t 800 (by decide +kernel) rfl), rfl, rfl, rfl, fun z => by first | rfl | exact absurd z (by decide)⟩
theorem g_Mo_32 : FG R_Mo 32 9 8 := f_Mo_32.g
theorem f_Mo_35 : FL R_Mo 35 9 9 (.array .int) true := ⟨(R_Mo, F_Mo, 33), t_Mo, kc_Mo, by decide, Or.inl (gw_t 801 (by decide +kernel) rfl), rfl, rfl, rfl, fun z => by first | rfl | exact absurd z (by decide)⟩
theorem g_Mo_35 : FG R_Mo 35 9 9 := f_Mo_35.g
theorem f_Mo_38 : FL R_Mo 38 9 10 (.array .int) true := ⟨(R_Mo, F_Mo, 33), t_Mo, kc_Mo, by decide, Or.inl (gw_t 802 (by decide +kernel) rfl), rfl, rfl, rfl, fun z => by first | rfl | exact absurd z (by decide)⟩
theorem g_Mo_38 : FG R_Mo 38 9 10 := f_Mo_38.g
theorem f_Mo_86 : FL R_Mo 86 9 11 (.int) false := ⟨(R_Mo, F_Mo, 33), t_Mo, kc_Mo, by decide, Or.inl (gw_t 803 (by decide +kernel) rfl), rfl, rfl, rfl, fun z => by first | rfl | exact absurd z (by decide)⟩
theorem g_Mo_86 : FG R_Mo 86 9 11 := f_Mo_86.g
theorem f_Mo_93 : FL R_Mo 93 9 12 (.int) false := ⟨(R_Mo, F_Mo, 33), t_Mo, kc_Mo, by decide, Or.inl (gw_t 804 (by decide +kernel) rfl), rfl, rfl, rfl, fun z => by first | rfl | exact absurd z (by decide)⟩
theorem g_Mo_93 : FG R_Mo 93 9 12 := f_Mo_93.g
theorem f_Mo_99 : FL R_Mo 99 9 13 (.int) false := ⟨(R_Mo, F_Mo, 33), t_Mo, kc_Mo, by decide, Or.inl (gw_t 805 (by decide +kernel) rfl), rfl, rfl, rfl, fun z => by first | rfl | exact absurd z (by decide)⟩
theorem g_Mo_99 : FG R_Mo 99 9 13 := f_Mo_99.g
theorem f_Mo_96 : FL R_Mo 96 9 14 (.int) false := ⟨(R_Mo, F_Mo, 33), t_Mo, kc_Mo, by decide, Or.inl (gw_t 806 (by decide +kernel) rfl), rfl, rfl, rfl, fun z => by first | rfl | exact absurd z (by decide)⟩
theorem g_Mo_96 : FG R_Mo 96 9 14 := f_Mo_96.g
theorem f_Mo_102 : FL R_Mo 102 9 15 (.boolean) false := ⟨(R_Mo, F_Mo, 33), t_Mo, kc_Mo, by decide, Or.inl (gw_t 807 (by decide +kernel) rfl), rfl, rfl, rfl, fun z => by first | rfl | exact absurd z (by decide)⟩
theorem g_Mo_102 : FG R_Mo 102 9 15 := f_Mo_102.g
theorem f_Mo_120 : FL R_Mo 120 9 16 (.int) false := ⟨(R_Mo, F_Mo, 33), t_Mo, kc_Mo, by decide, Or.inl (gw_t 808 (by decide +kernel) rfl), rfl, rfl, rfl, fun z => by first | rfl | exact absurd z (by decide)⟩
theorem g_Mo_120 : FG R_Mo 120 9 16 := f_Mo_120.g
theorem f_Mo_117 : FL R_Mo 117 9 17 (.boolean) false := ⟨(R_Mo, F_Mo, 33), t_Mo, kc_Mo, by decide, Or.inl (gw_t 809 (by decide +kernel) rfl), rfl, rfl, rfl, fun z => by first | rfl | exact absurd z (by decide)⟩
theorem g_Mo_117 : FG R_Mo 117 9 17 := f_Mo_117.g
theorem f_Mo_41 : FL R_Mo 41 9 18 (.array .int) true := ⟨(R_Mo, F_Mo, 33), t_Mo, kc_Mo, by decide, Or.inl (gw_t 810 (by decide +kernel) rfl), rfl, rfl, rfl, fun z => by first | rfl | exact absurd z (by decide)⟩
theorem g_Mo_41 : FG R_Mo 41 9 18 := f_Mo_41.g
theorem f_Mo_44 : FL R_Mo 44 9 19 (.array .int) true := ⟨(R_Mo, F_Mo, 33), t_Mo, kc_Mo, by decide, Or.inl (gw_t 811 (by decide +kernel) rfl), rfl, rfl, rfl, fun z => by first | rfl | exact absurd z (by decide)⟩
theorem g_Mo_44 : FG R_Mo 44 9 19 := f_Mo_44.g
theorem f_Mo_47 : FL R_Mo 47 9 20 (.array .int) true := ⟨(R_Mo, F_Mo, 33), t_Mo, kc_Mo, by decide, Or.inl (gw_t 812 (by decide +kernel) rfl), rfl, rfl, rfl, fun z => by first | rfl | exact absurd z (by decide)⟩
theorem g_Mo_47 : FG R_Mo 47 9 20 := f_Mo_47.g
theorem f_Mo_50 : FL R_Mo 50 9 21 (.array .int) true := ⟨(R_Mo, F_Mo, 33), t_Mo, kc_Mo, by decide, Or.inl (gw_t 813 (by decide +kernel) rfl), rfl, rfl, rfl, fun z => by first | rfl | exact absurd z (by decide)⟩
theorem g_Mo_50 : FG R_Mo 50 9 21 := f_Mo_50.g
theorem f_Mo_53 : FL R_Mo 53 9 22 (.array .boolean) true := ⟨(R_Mo, F_Mo, 33), t_Mo, kc_Mo, by decide, Or.inl (gw_t 814 (by decide +kernel) rfl), rfl, rfl, rfl, fun z => by first | rfl | exact absurd z (by decide)⟩
theorem g_Mo_53 : FG R_Mo 53 9 22 := f_Mo_53.g
theorem f_Mo_57 : FL R_Mo 57 9 23 (.array .int) true := ⟨(R_Mo, F_Mo, 33), t_Mo, kc_Mo, by decide, Or.inl (gw_t 815 (by decide +kernel) rfl), rfl, rfl, rfl, fun z => by first | rfl | exact absurd z (by decide)⟩
theorem g_Mo_57 : FG R_Mo 57 9 23 := f_Mo_57.g
theorem f_Mo_60 : FL R_Mo 60 9 24 (.array .int) true := ⟨(R_Mo, F_Mo, 33), t_Mo, kc_Mo, by decide, Or.inl (gw_t 816 (by decide +kernel) rfl), rfl, rfl, rfl, fun z => by first | rfl | exact absurd z (by decide)⟩
theorem g_Mo_60 : FG R_Mo 60 9 24 := f_Mo_60.g
theorem f_Mo_63 : FL R_Mo 63 9 25 (.array .int) true := ⟨(R_Mo, F_Mo, 33), t_Mo, kc_Mo, by decide, Or.inl (gw_t 817 (by decide +kernel) rfl), rfl, rfl, rfl, fun z => by first | rfl | exact absurd z (by decide)⟩
theorem g_Mo_63 : FG R_Mo 63 9 25 := f_Mo_63.g
theorem f_Mo_66 : FL R_Mo 66 9 26 (.array .int) true := ⟨(R_Mo, F_Mo, 33), t_Mo, kc_Mo, by decide, Or.inl (gw_t 818 (by decide +kernel) rfl), rfl, rfl, rfl, fun z => by first | rfl | exact absurd z (by decide)⟩
theorem g_Mo_66 : FG R_Mo 66 9 26 := f_Mo_66.g
theorem f_Mo_69 : FL R_Mo 69 9 27 (.array .int) true := ⟨(R_Mo, F_Mo, 33), t_Mo, kc_Mo, by decide, Or.inl (gw_t 819 (by decide +kernel) rfl), rfl, rfl, rfl, fun z => by first | rfl | exact absurd z (by decide)⟩
theorem g_Mo_69 : FG R_Mo 69 9 27 := f_Mo_69.g
theorem f_Mo_134 : FL R_Mo 134 9 28 (.int) false := ⟨(R_Mo, F_Mo, 33), t_Mo, kc_Mo, by decide, Or.inl (gw_t 820 (by decide +kernel) rfl), rfl, rfl, rfl, fun z => by first | rfl | exact absurd z (by decide)⟩
theorem g_Mo_134 : FG R_Mo 134 9 28 := f_Mo_134.g
theorem f_Mo_72 : FL R_Mo 72 9 29 (.array .int) true := ⟨(R_Mo, F_Mo, 33), t_Mo, kc_Mo, by decide, Or.inl (gw_t 821 (by decide +kernel) rfl), rfl, rfl, rfl, fun z => by first | rfl | exact absurd z (by decide)⟩
theorem g_Mo_72 : FG R_Mo 72 9 29 := f_Mo_72.g
theorem f_Mo_75 : FL R_Mo 75 9 30 (.array .int) true := ⟨(R_Mo, F_Mo, 33), t_Mo, kc_Mo, by decide, Or.inl (gw_t 822 (by decide +kernel) rfl), rfl, rfl, rfl, fun z => by first | rfl | exact absurd z (by decide)⟩
theorem g_Mo_75 : FG R_Mo 75 9 30 := f_Mo_75.g
theorem f_Mo_137 : FL R_Mo 137 9 31 (.int) false := ⟨(R_Mo, F_Mo, 33), t_Mo, kc_Mo, by decide, Or.inl (gw_t 823 (by decide +kernel) rfl), rfl, rfl, rfl, fun z => by first | rfl | exact absurd z (by decide)⟩
theorem g_Mo_137 : FG R_Mo 137 9 31 := f_Mo_137.g
theorem f_Mo_204 : FL R_Mo 204 9 32 (.long) false := ⟨(R_Mo, F_Mo, 33), t_Mo, kc_Mo, by decide, Or.inl (gw_t 824 (by decide +kernel) rfl), rfl, rfl, rfl, fun z => by first | rfl | exact absurd z (by decide)⟩
theorem g_Mo_204 : FG R_Mo 204 9 32 := f_Mo_204.g
theorem f_Tb_297 : FL R_Tb 297 6 1 (.int) false := ⟨(R_Tx, F_Tx, 8), t_Tx, kc_Tx, by decide, Or.inr ⟨"ThoughtBalloon", nw_t 31 (by decide +kernel) rfl, rfl⟩, rfl, rfl, rfl, fun z => by first | rfl | exact absurd z (by decide)⟩
theorem g_Tb_297 : FG R_Tb 297 6 1 := f_Tb_297.g
theorem g_Tb_114 : FG R_Tb 114 7 1 := ⟨(R_To, F_To, 9), t_To, kc_To, by decide, Or.inr ⟨"ThoughtBalloon", nw_t 64 (by decide +kernel) rfl⟩, rfl⟩
theorem g_Tb_117 : FG R_Tb 117 7 2 := ⟨(R_To, F_To, 9), t_To, kc_To, by decide, Or.inr ⟨"ThoughtBalloon", nw_t 66 (by decide +kernel) rfl⟩, rfl⟩
theorem g_Tb_132 : FG R_Tb 132 7 3 := ⟨(R_To, F_To, 9), t_To, kc_To, by decide, Or.inr ⟨"ThoughtBalloon", nw_t 68 (by decide +kernel) rfl⟩, rfl⟩
theorem g_Tb_135 : FG R_Tb 135 7 4 := ⟨(R_To, F_To, 9), t_To, kc_To, by decide, Or.inr ⟨"ThoughtBalloon", nw_t 70 (by decide +kernel) rfl⟩, rfl⟩
theorem f_Se_93 : FL R_Se 93 7 5 (.int) false := ⟨(R_To, F_To, 9), t_To, kc_To, by decide, Or.inr ⟨"ThoughtBalloon", nw_t 72 (by decide +kernel) rfl, rfl⟩, rfl, rfl, rfl, fun z => by first | rfl | exact absurd z (by decide)⟩
theorem g_Se_93 : FG R_Se 93 7 5 := f_Se_93.g
theorem f_Tx_71 : FL R_Tx 71 7 5 (.int) false := ⟨(R_To, F_To, 9), t_To, kc_To, by decide, Or.inr ⟨"ThoughtBalloon", nw_t 73 (by decide +kernel) rfl, rfl⟩, rfl, rfl, rfl, fun z => by first | rfl | exact absurd z (by decide)⟩
theorem g_Tx_71 : FG R_Tx 71 7 5 := f_Tx_71.g
theorem f_Tb_287 : FL R_Tb 287 7 5 (.int) false := ⟨(R_To, F_To, 9), t_To, kc_To, by decide, Or.inr ⟨"ThoughtBalloon", nw_t 74 (by decide +kernel) rfl, rfl⟩, rfl, rfl, rfl, fun z => by first | rfl | exact absurd z (by decide)⟩
theorem g_Tb_287 : FG R_Tb 287 7 5 := f_Tb_287.g
theorem f_Se_96 : FL R_Se 96 7 6 (.int) false := ⟨(R_To, F_To, 9), t_To, kc_To, by decide, Or.inr ⟨"ThoughtBalloon", nw_t 76 (by decide +kernel) rfl, rfl⟩, rfl, rfl, rfl, fun z => by first | rfl | exact absurd z (by decide)⟩
theorem g_Se_96 : FG R_Se 96 7 6 := f_Se_96.g
theorem f_Tx_74 : FL R_Tx 74 7 6 (.int) false := ⟨(R_To, F_To, 9), t_To, kc_To, by decide, Or.inr ⟨"ThoughtBalloon", nw_t 77 (by decide +kernel) rfl, rfl⟩, rfl, rfl, rfl, fun z => by first | rfl | exact absurd z (by decide)⟩
theorem g_Tx_74 : FG R_Tx 74 7 6 := f_Tx_74.g
theorem f_Tb_290 : FL R_Tb 290 7 6 (.int) false := ⟨(R_To, F_To, 9), t_To, kc_To, by decide, Or.inr ⟨"ThoughtBalloon", nw_t 78 (by decide +kernel) rfl, rfl⟩, rfl, rfl, rfl, fun z => by first | rfl | exact absurd z (by decide)⟩
theorem g_Tb_290 : FG R_Tb 290 7 6 := f_Tb_290.g
theorem f_Tx_88 : FL R_Tx 88 7 7 (.int) false := ⟨(R_To, F_To, 9), t_To, kc_To, by decide, Or.inr ⟨"ThoughtBalloon", nw_t 80 (by decide +kernel) rfl, rfl⟩, rfl, rfl, rfl, fun z => by first | rfl | exact absurd z (by decide)⟩
theorem g_Tx_88 : FG R_Tx 88 7 7 := f_Tx_88.g
theorem f_Tb_293 : FL R_Tb 293 7 7 (.int) false := ⟨(R_To, F_To, 9), t_To, kc_To, by decide, Or.inr ⟨"ThoughtBalloon", nw_t 81 (by decide +kernel) rfl, rfl⟩, rfl, rfl, rfl, fun z => by first | rfl | exact absurd z (by decide)⟩
theorem g_Tb_293 : FG R_Tb 293 7 7 := f_Tb_293.g
theorem f_Tb_300 : FL R_Tb 300 7 8 (.int) false := ⟨(R_To, F_To, 9), t_To, kc_To, by decide, Or.inr ⟨"ThoughtBalloon", nw_t 83 (by decide +kernel) rfl, rfl⟩, rfl, rfl, rfl, fun z => by first | rfl | exact absurd z (by decide)⟩
theorem g_Tb_300 : FG R_Tb 300 7 8 := f_Tb_300.g
theorem f_Tb_158 : FL R_Tb 158 0 0 (.int) false := ⟨(R_Fl, F_Fl, 9), t_Fl, kc_Fl, by decide, Or.inr ⟨"ThoughtBalloon", nw_t 110 (by decide +kernel) rfl, rfl⟩, rfl, rfl, rfl, fun z => by first | rfl | exact absurd z (by decide)⟩
theorem g_Tb_158 : FG R_Tb 158 0 0 := f_Tb_158.g
theorem f_To_70 : FL R_To 70 0 0 (.int) false := ⟨(R_Fl, F_Fl, 9), t_Fl, kc_Fl, by decide, Or.inr ⟨"ThoughtBalloon", nw_t 111 (by decide +kernel) rfl, rfl⟩, rfl, rfl, rfl, fun z => by first | rfl | exact absurd z (by decide)⟩
theorem g_To_70 : FG R_To 70 0 0 := f_To_70.g
theorem f_Se_113 : FL R_Se 113 0 1 (.int) false := ⟨(R_Fl, F_Fl, 9), t_Fl, kc_Fl, by decide, Or.inr ⟨"ThoughtBalloon", nw_t 113 (by decide +kernel) rfl, rfl⟩, rfl, rfl, rfl, fun z => by first | rfl | exact absurd z (by decide)⟩
theorem g_Se_113 : FG R_Se 113 0 1 := f_Se_113.g
theorem f_Tb_166 : FL R_Tb 166 0 1 (.int) false := ⟨(R_Fl, F_Fl, 9), t_Fl, kc_Fl, by decide, Or.inr ⟨"ThoughtBalloon", nw_t 114 (by decide +kernel) rfl, rfl⟩, rfl, rfl, rfl, fun z => by first | rfl | exact absurd z (by decide)⟩
theorem g_Tb_166 : FG R_Tb 166 0 1 := f_Tb_166.g
theorem f_Se_110 : FL R_Se 110 0 2 (.int) false := ⟨(R_Fl, F_Fl, 9), t_Fl, kc_Fl, by decide, Or.inr ⟨"ThoughtBalloon", nw_t 116 (by decide +kernel) rfl, rfl⟩, rfl, rfl, rfl, fun z => by first | rfl | exact absurd z (by decide)⟩
theorem g_Se_110 : FG R_Se 110 0 2 := f_Se_110.g
theorem f_Tb_194 : FL R_Tb 194 0 2 (.int) false := ⟨(R_Fl, F_Fl, 9), t_Fl, kc_Fl, by decide, Or.inr ⟨"ThoughtBalloon", nw_t 117 (by decide +kernel) rfl, rfl⟩, rfl, rfl, rfl, fun z => by first | rfl | exact absurd z (by decide)⟩
theorem g_Tb_194 : FG R_Tb 194 0 2 := f_Tb_194.g
theorem f_To_109 : FL R_To 109 0 2 (.int) false := ⟨(R_Fl, F_Fl, 9), t_Fl, kc_Fl, by decide, Or.inr ⟨"ThoughtBalloon", nw_t 118 (by decide +kernel) rfl, rfl⟩, rfl, rfl, rfl, fun z => by first | rfl | exact absurd z (by decide)⟩
theorem g_To_109 : FG R_To 109 0 2 := f_To_109.g
theorem f_To_62 : FL R_To 62 0 3 (.int) false := ⟨(R_Fl, F_Fl, 9), t_Fl, kc_Fl, by decide, Or.inr ⟨"ThoughtBalloon", nw_t 120 (by decide +kernel) rfl, rfl⟩, rfl, rfl, rfl, fun z => by first | rfl | exact absurd z (by decide)⟩
theorem g_To_62 : FG R_To 62 0 3 := f_To_62.g
theorem f_Tb_197 : FL R_Tb 197 0 3 (.int) false := ⟨(R_Fl, F_Fl, 9), t_Fl, kc_Fl, by decide, Or.inr ⟨"ThoughtBalloon", nw_t 121 (by decide +kernel) rfl, rfl⟩, rfl, rfl, rfl, fun z => by first | rfl | exact absurd z (by decide)⟩
theorem g_Tb_197 : FG R_Tb 197 0 3 := f_Tb_197.g
theorem f_To_67 : FL R_To 67 0 4 (.int) false := ⟨(R_Fl, F_Fl, 9), t_Fl, kc_Fl, by decide, Or.inr ⟨"ThoughtBalloon", nw_t 123 (by decide +kernel) rfl, rfl⟩, rfl, rfl, rfl, fun z => by first | rfl | exact absurd z (by decide)⟩
theorem g_To_67 : FG R_To 67 0 4 := f_To_67.g
theorem f_Tb_200 : FL R_Tb 200 0 4 (.int) false := ⟨(R_Fl, F_Fl, 9), t_Fl, kc_Fl, by decide, Or.inr ⟨"ThoughtBalloon", nw_t 124 (by decide +kernel) rfl, rfl⟩, rfl, rfl, rfl, fun z => by first | rfl | exact absurd z (by decide)⟩
theorem g_Tb_200 : FG R_Tb 200 0 4 := f_Tb_200.g
theorem f_To_73 : FL R_To 73 0 5 (.int) false := ⟨(R_Fl, F_Fl, 9), t_Fl, kc_Fl, by decide, Or.inr ⟨"ThoughtBalloon", nw_t 126 (by decide +kernel) rfl, rfl⟩, rfl, rfl, rfl, fun z => by first | rfl | exact absurd z (by decide)⟩
theorem g_To_73 : FG R_To 73 0 5 := f_To_73.g
theorem f_Tb_177 : FL R_Tb 177 0 6 (.int) false := ⟨(R_Fl, F_Fl, 9), t_Fl, kc_Fl, by decide, Or.inr ⟨"ThoughtBalloon", nw_t 128 (by decide +kernel) rfl, rfl⟩, rfl, rfl, rfl, fun z => by first | rfl | exact absurd z (by decide)⟩
theorem g_Tb_177 : FG R_Tb 177 0 6 := f_Tb_177.g
theorem f_Se_89 : FL R_Se 89 0 8 (.boolean) false := ⟨(R_Fl, F_Fl, 9), t_Fl, kc_Fl, by decide, Or.inr ⟨"ThoughtBalloon", nw_t 131 (by decide +kernel) rfl, rfl⟩, rfl, rfl, rfl, fun z => by first | rfl | exact absurd z (by decide)⟩
theorem g_Se_89 : FG R_Se 89 0 8 := f_Se_89.g
theorem f_Tb_138 : FL R_Tb 138 0 8 (.boolean) false := ⟨(R_Fl, F_Fl, 9), t_Fl, kc_Fl, by decide, Or.inr ⟨"ThoughtBalloon", nw_t 132 (by decide +kernel) rfl, rfl⟩, rfl, rfl, rfl, fun z => by first | rfl | exact absurd z (by decide)⟩
theorem g_Tb_138 : FG R_Tb 138 0 8 := f_Tb_138.g
theorem f_To_94 : FL R_To 94 0 8 (.boolean) false := ⟨(R_Fl, F_Fl, 9), t_Fl, kc_Fl, by decide, Or.inr ⟨"ThoughtBalloon", nw_t 133 (by decide +kernel) rfl, rfl⟩, rfl, rfl, rfl, fun z => by first | rfl | exact absurd z (by decide)⟩
theorem g_To_94 : FG R_To 94 0 8 := f_To_94.g
theorem f_Tb_188 : FL R_Tb 188 1 1 (.int) false := ⟨(R_Hi, F_Hi, 2), t_Hi, kc_Hi, by decide, Or.inr ⟨"ThoughtBalloon", nw_t 164 (by decide +kernel) rfl, rfl⟩, rfl, rfl, rfl, fun z => by first | rfl | exact absurd z (by decide)⟩
theorem g_Tb_188 : FG R_Tb 188 1 1 := f_Tb_188.g
theorem g_Tb_221 : FG R_Tb 221 5 3 := ⟨(R_Se, F_Se, 8), t_Se, kc_Se, by decide, Or.inr ⟨"ThoughtBalloon", nw_t 186 (by decide +kernel) rfl⟩, rfl⟩
theorem f_Tb_218 : FL R_Tb 218 5 7 (.int) false := ⟨(R_Se, F_Se, 8), t_Se, kc_Se, by decide, Or.inr ⟨"ThoughtBalloon", nw_t 191 (by decide +kernel) rfl, rfl⟩, rfl, rfl, rfl, fun z => by first | rfl | exact absurd z (by decide)⟩
theorem g_Tb_218 : FG R_Tb 218 5 7 := f_Tb_218.g
theorem g_Tb_308 : FG R_Tb 308 4 0 := ⟨(R_Re, F_Re, 4), t_Re, kc_Re, by decide, Or.inr ⟨"ThoughtBalloon", nw_t 232 (by decide +kernel) rfl⟩, rfl⟩
theorem g_Tb_310 : FG R_Tb 310 4 1 := ⟨(R_Re, F_Re, 4), t_Re, kc_Re, by decide, Or.inr ⟨"ThoughtBalloon", nw_t 234 (by decide +kernel) rfl⟩, rfl⟩
theorem g_Tb_316 : FG R_Tb 316 4 2 := ⟨(R_Re, F_Re, 4), t_Re, kc_Re, by decide, Or.inr ⟨"ThoughtBalloon", nw_t 236 (by decide +kernel) rfl⟩, rfl⟩
theorem f_Tb_296 : FL R_Tb 296 4 3 (.int) false := ⟨(R_Re, F_Re, 4), t_Re, kc_Re, by decide, Or.inr ⟨"ThoughtBalloon", nw_t 238 (by decide +kernel) rfl, rfl⟩, rfl, rfl, rfl, fun z => by first | rfl | exact absurd z (by decide)⟩
theorem g_Tb_296 : FG R_Tb 296 4 3 := f_Tb_296.g
theorem f_Tb_281 : FL R_Tb 281 2 2 (.boolean) false := ⟨(R_Im, F_Im, 3), t_Im, kc_Im, by decide, Or.inr ⟨"ThoughtBalloon", nw_t 260 (by decide +kernel) rfl, rfl⟩, rfl, rfl, rfl, fun z => by first | rfl | exact absurd z (by decide)⟩
theorem g_Tb_281 : FG R_Tb 281 2 2 := f_Tb_281.g
theorem k_Tb_init : MK M_Tb_init 0 := ⟨gw_t 19 (by decide +kernel) rfl, gw_t 1 (by decide +kernel) rfl, by decide +kernel, by decide⟩
theorem i_Tb_init : Cond.instanceMethod M_Tb_init.1 ∈ e_gw := gw_t 18 (by decide +kernel) rfl
theorem k_Tx_init : MK M_Tx_init 0 := ⟨gw_t 27 (by decide +kernel) rfl, gw_t 2 (by decide +kernel) rfl, by decide +kernel, by decide⟩
theorem i_Tx_init : Cond.instanceMethod M_Tx_init.1 ∈ e_gw := gw_t 26 (by decide +kernel) rfl
theorem k_To_init : MK M_To_init 0 := ⟨gw_t 60 (by decide +kernel) rfl, gw_t 3 (by decide +kernel) rfl, by decide +kernel, by decide⟩
theorem i_To_init : Cond.instanceMethod M_To_init.1 ∈ e_gw := gw_t 59 (by decide +kernel) rfl
theorem k_Fl_init : MK M_Fl_init 0 := ⟨gw_t 107 (by decide +kernel) rfl, gw_t 4 (by decide +kernel) rfl, by decide +kernel, by decide⟩
theorem i_Fl_init : Cond.instanceMethod M_Fl_init.1 ∈ e_gw := gw_t 106 (by decide +kernel) rfl
theorem k_Hi_init : MK M_Hi_init 0 := ⟨gw_t 157 (by decide +kernel) rfl, gw_t 5 (by decide +kernel) rfl, by decide +kernel, by decide⟩
theorem i_Hi_init : Cond.instanceMethod M_Hi_init.1 ∈ e_gw := gw_t 156 (by decide +kernel) rfl
theorem k_Se_init : MK M_Se_init 1 := ⟨gw_t 176 (by decide +kernel) rfl, gw_t 6 (by decide +kernel) rfl, by decide +kernel, by decide⟩
theorem i_Se_init : Cond.instanceMethod M_Se_init.1 ∈ e_gw := gw_t 175 (by decide +kernel) rfl
theorem k_Od_init : MK M_Od_init 0 := ⟨gw_t 213 (by decide +kernel) rfl, gw_t 7 (by decide +kernel) rfl, by decide +kernel, by decide⟩
theorem i_Od_init : Cond.instanceMethod M_Od_init.1 ∈ e_gw := gw_t 212 (by decide +kernel) rfl
theorem k_Re_init : MK M_Re_init 0 := ⟨gw_t 229 (by decide +kernel) rfl, gw_t 8 (by decide +kernel) rfl, by decide +kernel, by decide⟩
theorem i_Re_init : Cond.instanceMethod M_Re_init.1 ∈ e_gw := gw_t 228 (by decide +kernel) rfl
theorem k_Im_init : MK M_Im_init 0 := ⟨gw_t 251 (by decide +kernel) rfl, gw_t 9 (by decide +kernel) rfl, by decide +kernel, by decide⟩
theorem i_Im_init : Cond.instanceMethod M_Im_init.1 ∈ e_gw := gw_t 250 (by decide +kernel) rfl
theorem k_Tb_startAnew : MK M_Tb_startAnew 0 := ⟨gw_t 271 (by decide +kernel) rfl, gw_t 1 (by decide +kernel) rfl, by decide +kernel, by decide⟩
theorem i_Tb_startAnew : Cond.instanceMethod M_Tb_startAnew.1 ∈ e_gw := gw_t 270 (by decide +kernel) rfl
theorem s_Tb_startAnew : Cond.selects M_Tb_startAnew.1.cls M_Tb_startAnew.1 M_Tb_startAnew.1 ∈ e_gw := gw_s 0 (by decide +kernel) rfl
theorem k_Fl_start : MK M_Fl_start 2 := ⟨gw_t 275 (by decide +kernel) rfl, gw_t 4 (by decide +kernel) rfl, by decide +kernel, by decide⟩
theorem i_Fl_start : Cond.instanceMethod M_Fl_start.1 ∈ e_gw := gw_t 274 (by decide +kernel) rfl
theorem s_Fl_start : Cond.selects M_Fl_start.1.cls M_Fl_start.1 M_Fl_start.1 ∈ e_gw := gw_s 1 (by decide +kernel) rfl
theorem k_Fl_thinkNothing : MK M_Fl_thinkNothing 0 := ⟨gw_t 279 (by decide +kernel) rfl, gw_t 4 (by decide +kernel) rfl, by decide +kernel, by decide⟩
theorem i_Fl_thinkNothing : Cond.instanceMethod M_Fl_thinkNothing.1 ∈ e_gw := gw_t 278 (by decide +kernel) rfl
theorem s_Fl_thinkNothing : Cond.selects M_Fl_thinkNothing.1.cls M_Fl_thinkNothing.1 M_Fl_thinkNothing.1 ∈ e_gw := gw_s 2 (by decide +kernel) rfl
theorem k_Re_drop : MK M_Re_drop 0 := ⟨gw_t 283 (by decide +kernel) rfl, gw_t 8 (by decide +kernel) rfl, by decide +kernel, by decide⟩
theorem i_Re_drop : Cond.instanceMethod M_Re_drop.1 ∈ e_gw := gw_t 282 (by decide +kernel) rfl
theorem s_Re_drop : Cond.selects M_Re_drop.1.cls M_Re_drop.1 M_Re_drop.1 ∈ e_gw := gw_s 3 (by decide +kernel) rfl
theorem k_Tb_type : MK M_Tb_type 1 := ⟨gw_t 327 (by decide +kernel) rfl, gw_t 1 (by decide +kernel) rfl, by decide +kernel, by decide⟩
theorem i_Tb_type : Cond.instanceMethod M_Tb_type.1 ∈ e_gw := gw_t 325 (by decide +kernel) rfl
theorem s_Tb_type : Cond.selects M_Tb_type.1.cls M_Tb_type.1 M_Tb_type.1 ∈ e_gw := gw_t 326 (by decide +kernel) rfl
theorem k_Tb_within : MK M_Tb_within 3 := ⟨gw_t 330 (by decide +kernel) rfl, gw_t 1 (by decide +kernel) rfl, by decide +kernel, by decide⟩
theorem i_Tb_within : Cond.static M_Tb_within.1 ∈ e_gw := gw_t 329 (by decide +kernel) rfl
theorem k_Tx_add : MK M_Tx_add 1 := ⟨gw_t 334 (by decide +kernel) rfl, gw_t 2 (by decide +kernel) rfl, by decide +kernel, by decide⟩
theorem i_Tx_add : Cond.instanceMethod M_Tx_add.1 ∈ e_gw := gw_t 333 (by decide +kernel) rfl
theorem s_Tx_add : Cond.selects M_Tx_add.1.cls M_Tx_add.1 M_Tx_add.1 ∈ e_gw := gw_s 4 (by decide +kernel) rfl
theorem k_Tb_clear : MK M_Tb_clear 0 := ⟨gw_t 338 (by decide +kernel) rfl, gw_t 1 (by decide +kernel) rfl, by decide +kernel, by decide⟩
theorem i_Tb_clear : Cond.instanceMethod M_Tb_clear.1 ∈ e_gw := gw_t 336 (by decide +kernel) rfl
theorem s_Tb_clear : Cond.selects M_Tb_clear.1.cls M_Tb_clear.1 M_Tb_clear.1 ∈ e_gw := gw_t 337 (by decide +kernel) rfl
theorem k_Tx_drop : MK M_Tx_drop 0 := ⟨gw_t 342 (by decide +kernel) rfl, gw_t 2 (by decide +kernel) rfl, by decide +kernel, by decide⟩
theorem i_Tx_drop : Cond.instanceMethod M_Tx_drop.1 ∈ e_gw := gw_t 341 (by decide +kernel) rfl
theorem s_Tx_drop : Cond.selects M_Tx_drop.1.cls M_Tx_drop.1 M_Tx_drop.1 ∈ e_gw := gw_s 5 (by decide +kernel) rfl
theorem k_Tb_sheds : MK M_Tb_sheds 0 := ⟨gw_t 346 (by decide +kernel) rfl, gw_t 1 (by decide +kernel) rfl, by decide +kernel, by decide⟩
theorem i_Tb_sheds : Cond.instanceMethod M_Tb_sheds.1 ∈ e_gw := gw_t 344 (by decide +kernel) rfl
theorem s_Tb_sheds : Cond.selects M_Tb_sheds.1.cls M_Tb_sheds.1 M_Tb_sheds.1 ∈ e_gw := gw_t 345 (by decide +kernel) rfl
theorem k_Tx_readInto : MK M_Tx_readInto 1 := ⟨gw_t 350 (by decide +kernel) rfl, gw_t 2 (by decide +kernel) rfl, by decide +kernel, by decide⟩
theorem i_Tx_readInto : Cond.instanceMethod M_Tx_readInto.1 ∈ e_gw := gw_t 349 (by decide +kernel) rfl
theorem s_Tx_readInto : Cond.selects M_Tx_readInto.1.cls M_Tx_readInto.1 M_Tx_readInto.1 ∈ e_gw := gw_s 6 (by decide +kernel) rfl
theorem k_To_tellNothing : MK M_To_tellNothing 0 := ⟨gw_t 354 (by decide +kernel) rfl, gw_t 3 (by decide +kernel) rfl, by decide +kernel, by decide⟩
theorem i_To_tellNothing : Cond.instanceMethod M_To_tellNothing.1 ∈ e_gw := gw_t 353 (by decide +kernel) rfl
theorem s_To_tellNothing : Cond.selects M_To_tellNothing.1.cls M_To_tellNothing.1 M_To_tellNothing.1 ∈ e_gw := gw_s 7 (by decide +kernel) rfl
theorem k_Ar_fill : MK M_Ar_fill 2 := ⟨gw_t 357 (by decide +kernel) rfl, gw_t 11 (by decide +kernel) rfl, by decide +kernel, by decide⟩
theorem i_Ar_fill : Cond.static M_Ar_fill.1 ∈ e_gw := gw_t 356 (by decide +kernel) rfl
theorem k_Tx_readToken : MK M_Tx_readToken 0 := ⟨gw_t 361 (by decide +kernel) rfl, gw_t 2 (by decide +kernel) rfl, by decide +kernel, by decide⟩
theorem i_Tx_readToken : Cond.instanceMethod M_Tx_readToken.1 ∈ e_gw := gw_t 360 (by decide +kernel) rfl
theorem s_Tx_readToken : Cond.selects M_Tx_readToken.1.cls M_Tx_readToken.1 M_Tx_readToken.1 ∈ e_gw := gw_s 8 (by decide +kernel) rfl
theorem k_Tx_isLetter : MK M_Tx_isLetter 1 := ⟨gw_t 364 (by decide +kernel) rfl, gw_t 2 (by decide +kernel) rfl, by decide +kernel, by decide⟩
theorem i_Tx_isLetter : Cond.static M_Tx_isLetter.1 ∈ e_gw := gw_t 363 (by decide +kernel) rfl
theorem k_Tx_readLetters : MK M_Tx_readLetters 0 := ⟨gw_t 368 (by decide +kernel) rfl, gw_t 2 (by decide +kernel) rfl, by decide +kernel, by decide⟩
theorem i_Tx_readLetters : Cond.instanceMethod M_Tx_readLetters.1 ∈ e_gw := gw_t 367 (by decide +kernel) rfl
theorem s_Tx_readLetters : Cond.selects M_Tx_readLetters.1.cls M_Tx_readLetters.1 M_Tx_readLetters.1 ∈ e_gw := gw_s 9 (by decide +kernel) rfl
theorem k_Tx_isDigit : MK M_Tx_isDigit 1 := ⟨gw_t 371 (by decide +kernel) rfl, gw_t 2 (by decide +kernel) rfl, by decide +kernel, by decide⟩
theorem i_Tx_isDigit : Cond.static M_Tx_isDigit.1 ∈ e_gw := gw_t 370 (by decide +kernel) rfl
theorem k_Tx_readNumber : MK M_Tx_readNumber 0 := ⟨gw_t 375 (by decide +kernel) rfl, gw_t 2 (by decide +kernel) rfl, by decide +kernel, by decide⟩
theorem i_Tx_readNumber : Cond.instanceMethod M_Tx_readNumber.1 ∈ e_gw := gw_t 374 (by decide +kernel) rfl
theorem s_Tx_readNumber : Cond.selects M_Tx_readNumber.1.cls M_Tx_readNumber.1 M_Tx_readNumber.1 ∈ e_gw := gw_s 10 (by decide +kernel) rfl
theorem k_Ma_min : MK M_Ma_min 2 := ⟨gw_t 378 (by decide +kernel) rfl, gw_t 12 (by decide +kernel) rfl, by decide +kernel, by decide⟩
theorem i_Ma_min : Cond.static M_Ma_min.1 ∈ e_gw := gw_t 377 (by decide +kernel) rfl
theorem k_Tx_readItem : MK M_Tx_readItem 1 := ⟨gw_t 382 (by decide +kernel) rfl, gw_t 2 (by decide +kernel) rfl, by decide +kernel, by decide⟩
theorem i_Tx_readItem : Cond.instanceMethod M_Tx_readItem.1 ∈ e_gw := gw_t 381 (by decide +kernel) rfl
theorem s_Tx_readItem : Cond.selects M_Tx_readItem.1.cls M_Tx_readItem.1 M_Tx_readItem.1 ∈ e_gw := gw_s 11 (by decide +kernel) rfl
theorem k_Tx_itemBegun : MK M_Tx_itemBegun 1 := ⟨gw_t 386 (by decide +kernel) rfl, gw_t 2 (by decide +kernel) rfl, by decide +kernel, by decide⟩
theorem i_Tx_itemBegun : Cond.instanceMethod M_Tx_itemBegun.1 ∈ e_gw := gw_t 385 (by decide +kernel) rfl
theorem s_Tx_itemBegun : Cond.selects M_Tx_itemBegun.1.cls M_Tx_itemBegun.1 M_Tx_itemBegun.1 ∈ e_gw := gw_s 12 (by decide +kernel) rfl
theorem k_Tx_tell : MK M_Tx_tell 2 := ⟨gw_t 397 (by decide +kernel) rfl, gw_t 2 (by decide +kernel) rfl, by decide +kernel, by decide⟩
theorem i_Tx_tell : Cond.instanceMethod M_Tx_tell.1 ∈ e_gw := gw_t 396 (by decide +kernel) rfl
theorem s_Tx_tell : Cond.selects M_Tx_tell.1.cls M_Tx_tell.1 M_Tx_tell.1 ∈ e_gw := gw_s 13 (by decide +kernel) rfl
theorem k_To_tellWind : MK M_To_tellWind 2 := ⟨gw_t 401 (by decide +kernel) rfl, gw_t 3 (by decide +kernel) rfl, by decide +kernel, by decide⟩
theorem i_To_tellWind : Cond.instanceMethod M_To_tellWind.1 ∈ e_gw := gw_t 400 (by decide +kernel) rfl
theorem s_To_tellWind : Cond.selects M_To_tellWind.1.cls M_To_tellWind.1 M_To_tellWind.1 ∈ e_gw := gw_s 14 (by decide +kernel) rfl
theorem k_To_tellPerson : MK M_To_tellPerson 3 := ⟨gw_t 406 (by decide +kernel) rfl, gw_t 3 (by decide +kernel) rfl, by decide +kernel, by decide⟩
theorem i_To_tellPerson : Cond.instanceMethod M_To_tellPerson.1 ∈ e_gw := gw_t 405 (by decide +kernel) rfl
theorem s_To_tellPerson : Cond.selects M_To_tellPerson.1.cls M_To_tellPerson.1 M_To_tellPerson.1 ∈ e_gw := gw_s 15 (by decide +kernel) rfl
theorem k_To_tellThought : MK M_To_tellThought 2 := ⟨gw_t 410 (by decide +kernel) rfl, gw_t 3 (by decide +kernel) rfl, by decide +kernel, by decide⟩
theorem i_To_tellThought : Cond.instanceMethod M_To_tellThought.1 ∈ e_gw := gw_t 409 (by decide +kernel) rfl
theorem s_To_tellThought : Cond.selects M_To_tellThought.1.cls M_To_tellThought.1 M_To_tellThought.1 ∈ e_gw := gw_s 16 (by decide +kernel) rfl
theorem k_To_copyFrom : MK M_To_copyFrom 1 := ⟨gw_t 414 (by decide +kernel) rfl, gw_t 3 (by decide +kernel) rfl, by decide +kernel, by decide⟩
theorem i_To_copyFrom : Cond.instanceMethod M_To_copyFrom.1 ∈ e_gw := gw_t 413 (by decide +kernel) rfl
theorem s_To_copyFrom : Cond.selects M_To_copyFrom.1.cls M_To_copyFrom.1 M_To_copyFrom.1 ∈ e_gw := gw_s 17 (by decide +kernel) rfl
theorem k_Tb_wind : MK M_Tb_wind 1 := ⟨gw_t 421 (by decide +kernel) rfl, gw_t 1 (by decide +kernel) rfl, by decide +kernel, by decide⟩
theorem i_Tb_wind : Cond.instanceMethod M_Tb_wind.1 ∈ e_gw := gw_t 419 (by decide +kernel) rfl
theorem s_Tb_wind : Cond.selects M_Tb_wind.1.cls M_Tb_wind.1 M_Tb_wind.1 ∈ e_gw := gw_t 420 (by decide +kernel) rfl
theorem k_To_windAt : MK M_To_windAt 1 := ⟨gw_t 425 (by decide +kernel) rfl, gw_t 3 (by decide +kernel) rfl, by decide +kernel, by decide⟩
theorem i_To_windAt : Cond.instanceMethod M_To_windAt.1 ∈ e_gw := gw_t 424 (by decide +kernel) rfl
theorem s_To_windAt : Cond.selects M_To_windAt.1.cls M_To_windAt.1 M_To_windAt.1 ∈ e_gw := gw_s 18 (by decide +kernel) rfl
theorem k_Tb_one : MK M_Tb_one 2 := ⟨gw_t 430 (by decide +kernel) rfl, gw_t 1 (by decide +kernel) rfl, by decide +kernel, by decide⟩
theorem i_Tb_one : Cond.instanceMethod M_Tb_one.1 ∈ e_gw := gw_t 428 (by decide +kernel) rfl
theorem s_Tb_one : Cond.selects M_Tb_one.1.cls M_Tb_one.1 M_Tb_one.1 ∈ e_gw := gw_t 429 (by decide +kernel) rfl
theorem k_To_hasPerson : MK M_To_hasPerson 1 := ⟨gw_t 434 (by decide +kernel) rfl, gw_t 3 (by decide +kernel) rfl, by decide +kernel, by decide⟩
theorem i_To_hasPerson : Cond.instanceMethod M_To_hasPerson.1 ∈ e_gw := gw_t 433 (by decide +kernel) rfl
theorem s_To_hasPerson : Cond.selects M_To_hasPerson.1.cls M_To_hasPerson.1 M_To_hasPerson.1 ∈ e_gw := gw_s 19 (by decide +kernel) rfl
theorem k_Fl_hasAboard : MK M_Fl_hasAboard 1 := ⟨gw_t 438 (by decide +kernel) rfl, gw_t 4 (by decide +kernel) rfl, by decide +kernel, by decide⟩
theorem i_Fl_hasAboard : Cond.instanceMethod M_Fl_hasAboard.1 ∈ e_gw := gw_t 437 (by decide +kernel) rfl
theorem s_Fl_hasAboard : Cond.selects M_Fl_hasAboard.1.cls M_Fl_hasAboard.1 M_Fl_hasAboard.1 ∈ e_gw := gw_s 20 (by decide +kernel) rfl
theorem k_Fl_usedBy : MK M_Fl_usedBy 1 := ⟨gw_t 442 (by decide +kernel) rfl, gw_t 4 (by decide +kernel) rfl, by decide +kernel, by decide⟩
theorem i_Fl_usedBy : Cond.instanceMethod M_Fl_usedBy.1 ∈ e_gw := gw_t 441 (by decide +kernel) rfl
theorem s_Fl_usedBy : Cond.selects M_Fl_usedBy.1.cls M_Fl_usedBy.1 M_Fl_usedBy.1 ∈ e_gw := gw_s 21 (by decide +kernel) rfl
theorem k_To_liftsOf : MK M_To_liftsOf 1 := ⟨gw_t 446 (by decide +kernel) rfl, gw_t 3 (by decide +kernel) rfl, by decide +kernel, by decide⟩
theorem i_To_liftsOf : Cond.instanceMethod M_To_liftsOf.1 ∈ e_gw := gw_t 445 (by decide +kernel) rfl
theorem s_To_liftsOf : Cond.selects M_To_liftsOf.1.cls M_To_liftsOf.1 M_To_liftsOf.1 ∈ e_gw := gw_s 22 (by decide +kernel) rfl
theorem k_To_canLift : MK M_To_canLift 2 := ⟨gw_t 450 (by decide +kernel) rfl, gw_t 3 (by decide +kernel) rfl, by decide +kernel, by decide⟩
theorem i_To_canLift : Cond.instanceMethod M_To_canLift.1 ∈ e_gw := gw_t 449 (by decide +kernel) rfl
theorem s_To_canLift : Cond.selects M_To_canLift.1.cls M_To_canLift.1 M_To_canLift.1 ∈ e_gw := gw_s 23 (by decide +kernel) rfl
theorem k_Tb_thought : MK M_Tb_thought 2 := ⟨gw_t 454 (by decide +kernel) rfl, gw_t 1 (by decide +kernel) rfl, by decide +kernel, by decide⟩
theorem i_Tb_thought : Cond.instanceMethod M_Tb_thought.1 ∈ e_gw := gw_t 452 (by decide +kernel) rfl
theorem s_Tb_thought : Cond.selects M_Tb_thought.1.cls M_Tb_thought.1 M_Tb_thought.1 ∈ e_gw := gw_t 453 (by decide +kernel) rfl
theorem k_To_hasThought : MK M_To_hasThought 1 := ⟨gw_t 458 (by decide +kernel) rfl, gw_t 3 (by decide +kernel) rfl, by decide +kernel, by decide⟩
theorem i_To_hasThought : Cond.instanceMethod M_To_hasThought.1 ∈ e_gw := gw_t 457 (by decide +kernel) rfl
theorem s_To_hasThought : Cond.selects M_To_hasThought.1.cls M_To_hasThought.1 M_To_hasThought.1 ∈ e_gw := gw_s 24 (by decide +kernel) rfl
theorem k_Tb_begins : MK M_Tb_begins 2 := ⟨gw_t 462 (by decide +kernel) rfl, gw_t 1 (by decide +kernel) rfl, by decide +kernel, by decide⟩
theorem i_Tb_begins : Cond.instanceMethod M_Tb_begins.1 ∈ e_gw := gw_t 460 (by decide +kernel) rfl
theorem s_Tb_begins : Cond.selects M_Tb_begins.1.cls M_Tb_begins.1 M_Tb_begins.1 ∈ e_gw := gw_t 461 (by decide +kernel) rfl
theorem k_Fl_mayBegin : MK M_Fl_mayBegin 2 := ⟨gw_t 466 (by decide +kernel) rfl, gw_t 4 (by decide +kernel) rfl, by decide +kernel, by decide⟩
theorem i_Fl_mayBegin : Cond.instanceMethod M_Fl_mayBegin.1 ∈ e_gw := gw_t 465 (by decide +kernel) rfl
theorem s_Fl_mayBegin : Cond.selects M_Fl_mayBegin.1.cls M_Fl_mayBegin.1 M_Fl_mayBegin.1 ∈ e_gw := gw_s 25 (by decide +kernel) rfl
theorem k_Hi_push : MK M_Hi_push 1 := ⟨gw_t 472 (by decide +kernel) rfl, gw_t 5 (by decide +kernel) rfl, by decide +kernel, by decide⟩
theorem i_Hi_push : Cond.instanceMethod M_Hi_push.1 ∈ e_gw := gw_t 471 (by decide +kernel) rfl
theorem s_Hi_push : Cond.selects M_Hi_push.1.cls M_Hi_push.1 M_Hi_push.1 ∈ e_gw := gw_s 26 (by decide +kernel) rfl
theorem k_Hi_dropOldest : MK M_Hi_dropOldest 0 := ⟨gw_t 476 (by decide +kernel) rfl, gw_t 5 (by decide +kernel) rfl, by decide +kernel, by decide⟩
theorem i_Hi_dropOldest : Cond.instanceMethod M_Hi_dropOldest.1 ∈ e_gw := gw_t 475 (by decide +kernel) rfl
theorem s_Hi_dropOldest : Cond.selects M_Hi_dropOldest.1.cls M_Hi_dropOldest.1 M_Hi_dropOldest.1 ∈ e_gw := gw_s 27 (by decide +kernel) rfl
theorem k_Fl_copyFrom : MK M_Fl_copyFrom 1 := ⟨gw_t 480 (by decide +kernel) rfl, gw_t 4 (by decide +kernel) rfl, by decide +kernel, by decide⟩
theorem i_Fl_copyFrom : Cond.instanceMethod M_Fl_copyFrom.1 ∈ e_gw := gw_t 479 (by decide +kernel) rfl
theorem s_Fl_copyFrom : Cond.selects M_Fl_copyFrom.1.cls M_Fl_copyFrom.1 M_Fl_copyFrom.1 ∈ e_gw := gw_s 28 (by decide +kernel) rfl
theorem k_Fl_begin : MK M_Fl_begin 2 := ⟨gw_t 484 (by decide +kernel) rfl, gw_t 4 (by decide +kernel) rfl, by decide +kernel, by decide⟩
theorem i_Fl_begin : Cond.instanceMethod M_Fl_begin.1 ∈ e_gw := gw_t 483 (by decide +kernel) rfl
theorem s_Fl_begin : Cond.selects M_Fl_begin.1.cls M_Fl_begin.1 M_Fl_begin.1 ∈ e_gw := gw_s 29 (by decide +kernel) rfl
theorem k_Fl_think : MK M_Fl_think 2 := ⟨gw_t 488 (by decide +kernel) rfl, gw_t 4 (by decide +kernel) rfl, by decide +kernel, by decide⟩
theorem i_Fl_think : Cond.instanceMethod M_Fl_think.1 ∈ e_gw := gw_t 487 (by decide +kernel) rfl
theorem s_Fl_think : Cond.selects M_Fl_think.1.cls M_Fl_think.1 M_Fl_think.1 ∈ e_gw := gw_s 30 (by decide +kernel) rfl
theorem k_To_hold : MK M_To_hold 1 := ⟨gw_t 492 (by decide +kernel) rfl, gw_t 3 (by decide +kernel) rfl, by decide +kernel, by decide⟩
theorem i_To_hold : Cond.instanceMethod M_To_hold.1 ∈ e_gw := gw_t 491 (by decide +kernel) rfl
theorem s_To_hold : Cond.selects M_To_hold.1.cls M_To_hold.1 M_To_hold.1 ∈ e_gw := gw_s 31 (by decide +kernel) rfl
theorem k_To_faded : MK M_To_faded 3 := ⟨gw_t 497 (by decide +kernel) rfl, gw_t 3 (by decide +kernel) rfl, by decide +kernel, by decide⟩
theorem i_To_faded : Cond.static M_To_faded.1 ∈ e_gw := gw_t 496 (by decide +kernel) rfl
theorem k_Ma_max : MK M_Ma_max 2 := ⟨gw_t 500 (by decide +kernel) rfl, gw_t 12 (by decide +kernel) rfl, by decide +kernel, by decide⟩
theorem i_Ma_max : Cond.static M_Ma_max.1 ∈ e_gw := gw_t 499 (by decide +kernel) rfl
theorem k_Tb_minutes : MK M_Tb_minutes 1 := ⟨gw_t 504 (by decide +kernel) rfl, gw_t 1 (by decide +kernel) rfl, by decide +kernel, by decide⟩
theorem i_Tb_minutes : Cond.instanceMethod M_Tb_minutes.1 ∈ e_gw := gw_t 502 (by decide +kernel) rfl
theorem s_Tb_minutes : Cond.selects M_Tb_minutes.1.cls M_Tb_minutes.1 M_Tb_minutes.1 ∈ e_gw := gw_t 503 (by decide +kernel) rfl
theorem k_To_passMinutes : MK M_To_passMinutes 2 := ⟨gw_t 508 (by decide +kernel) rfl, gw_t 3 (by decide +kernel) rfl, by decide +kernel, by decide⟩
theorem i_To_passMinutes : Cond.instanceMethod M_To_passMinutes.1 ∈ e_gw := gw_t 507 (by decide +kernel) rfl
theorem s_To_passMinutes : Cond.selects M_To_passMinutes.1.cls M_To_passMinutes.1 M_To_passMinutes.1 ∈ e_gw := gw_s 32 (by decide +kernel) rfl
theorem k_To_passMinute : MK M_To_passMinute 1 := ⟨gw_t 512 (by decide +kernel) rfl, gw_t 3 (by decide +kernel) rfl, by decide +kernel, by decide⟩
theorem i_To_passMinute : Cond.instanceMethod M_To_passMinute.1 ∈ e_gw := gw_t 511 (by decide +kernel) rfl
theorem s_To_passMinute : Cond.selects M_To_passMinute.1.cls M_To_passMinute.1 M_To_passMinute.1 ∈ e_gw := gw_s 33 (by decide +kernel) rfl
theorem k_To_load : MK M_To_load 1 := ⟨gw_t 517 (by decide +kernel) rfl, gw_t 3 (by decide +kernel) rfl, by decide +kernel, by decide⟩
theorem i_To_load : Cond.instanceMethod M_To_load.1 ∈ e_gw := gw_t 516 (by decide +kernel) rfl
theorem s_To_load : Cond.selects M_To_load.1.cls M_To_load.1 M_To_load.1 ∈ e_gw := gw_s 34 (by decide +kernel) rfl
theorem k_Fl_climb : MK M_Fl_climb 1 := ⟨gw_t 522 (by decide +kernel) rfl, gw_t 4 (by decide +kernel) rfl, by decide +kernel, by decide⟩
theorem i_Fl_climb : Cond.instanceMethod M_Fl_climb.1 ∈ e_gw := gw_t 521 (by decide +kernel) rfl
theorem s_Fl_climb : Cond.selects M_Fl_climb.1.cls M_Fl_climb.1 M_Fl_climb.1 ∈ e_gw := gw_s 35 (by decide +kernel) rfl
theorem k_Fl_drift : MK M_Fl_drift 1 := ⟨gw_t 529 (by decide +kernel) rfl, gw_t 4 (by decide +kernel) rfl, by decide +kernel, by decide⟩
theorem i_Fl_drift : Cond.instanceMethod M_Fl_drift.1 ∈ e_gw := gw_t 528 (by decide +kernel) rfl
theorem s_Fl_drift : Cond.selects M_Fl_drift.1.cls M_Fl_drift.1 M_Fl_drift.1 ∈ e_gw := gw_s 36 (by decide +kernel) rfl
theorem k_Tb_enters : MK M_Tb_enters 1 := ⟨gw_t 533 (by decide +kernel) rfl, gw_t 1 (by decide +kernel) rfl, by decide +kernel, by decide⟩
theorem i_Tb_enters : Cond.instanceMethod M_Tb_enters.1 ∈ e_gw := gw_t 531 (by decide +kernel) rfl
theorem s_Tb_enters : Cond.selects M_Tb_enters.1.cls M_Tb_enters.1 M_Tb_enters.1 ∈ e_gw := gw_t 532 (by decide +kernel) rfl
theorem k_Fl_mayBeBoarded : MK M_Fl_mayBeBoarded 0 := ⟨gw_t 537 (by decide +kernel) rfl, gw_t 4 (by decide +kernel) rfl, by decide +kernel, by decide⟩
theorem i_Fl_mayBeBoarded : Cond.instanceMethod M_Fl_mayBeBoarded.1 ∈ e_gw := gw_t 536 (by decide +kernel) rfl
theorem s_Fl_mayBeBoarded : Cond.selects M_Fl_mayBeBoarded.1.cls M_Fl_mayBeBoarded.1 M_Fl_mayBeBoarded.1 ∈ e_gw := gw_s 37 (by decide +kernel) rfl
theorem k_Fl_takeIn : MK M_Fl_takeIn 1 := ⟨gw_t 541 (by decide +kernel) rfl, gw_t 4 (by decide +kernel) rfl, by decide +kernel, by decide⟩
theorem i_Fl_takeIn : Cond.instanceMethod M_Fl_takeIn.1 ∈ e_gw := gw_t 540 (by decide +kernel) rfl
theorem s_Fl_takeIn : Cond.selects M_Fl_takeIn.1.cls M_Fl_takeIn.1 M_Fl_takeIn.1 ∈ e_gw := gw_s 38 (by decide +kernel) rfl
theorem k_In_bitCount : MK M_In_bitCount 1 := ⟨gw_t 544 (by decide +kernel) rfl, gw_t 14 (by decide +kernel) rfl, by decide +kernel, by decide⟩
theorem i_In_bitCount : Cond.static M_In_bitCount.1 ∈ e_gw := gw_t 543 (by decide +kernel) rfl
theorem k_Tb_leaves : MK M_Tb_leaves 1 := ⟨gw_t 551 (by decide +kernel) rfl, gw_t 1 (by decide +kernel) rfl, by decide +kernel, by decide⟩
theorem i_Tb_leaves : Cond.instanceMethod M_Tb_leaves.1 ∈ e_gw := gw_t 549 (by decide +kernel) rfl
theorem s_Tb_leaves : Cond.selects M_Tb_leaves.1.cls M_Tb_leaves.1 M_Tb_leaves.1 ∈ e_gw := gw_t 550 (by decide +kernel) rfl
theorem k_Fl_letOut : MK M_Fl_letOut 1 := ⟨gw_t 555 (by decide +kernel) rfl, gw_t 4 (by decide +kernel) rfl, by decide +kernel, by decide⟩
theorem i_Fl_letOut : Cond.instanceMethod M_Fl_letOut.1 ∈ e_gw := gw_t 554 (by decide +kernel) rfl
theorem s_Fl_letOut : Cond.selects M_Fl_letOut.1.cls M_Fl_letOut.1 M_Fl_letOut.1 ∈ e_gw := gw_s 39 (by decide +kernel) rfl
theorem k_Tb_undo : MK M_Tb_undo 0 := ⟨gw_t 559 (by decide +kernel) rfl, gw_t 1 (by decide +kernel) rfl, by decide +kernel, by decide⟩
theorem i_Tb_undo : Cond.instanceMethod M_Tb_undo.1 ∈ e_gw := gw_t 557 (by decide +kernel) rfl
theorem s_Tb_undo : Cond.selects M_Tb_undo.1.cls M_Tb_undo.1 M_Tb_undo.1 ∈ e_gw := gw_t 558 (by decide +kernel) rfl
theorem k_Hi_pop : MK M_Hi_pop 1 := ⟨gw_t 563 (by decide +kernel) rfl, gw_t 5 (by decide +kernel) rfl, by decide +kernel, by decide⟩
theorem i_Hi_pop : Cond.instanceMethod M_Hi_pop.1 ∈ e_gw := gw_t 562 (by decide +kernel) rfl
theorem s_Hi_pop : Cond.selects M_Hi_pop.1.cls M_Hi_pop.1 M_Hi_pop.1 ∈ e_gw := gw_s 40 (by decide +kernel) rfl
theorem k_Tb_now : MK M_Tb_now 1 := ⟨gw_t 567 (by decide +kernel) rfl, gw_t 1 (by decide +kernel) rfl, by decide +kernel, by decide⟩
theorem i_Tb_now : Cond.instanceMethod M_Tb_now.1 ∈ e_gw := gw_t 565 (by decide +kernel) rfl
theorem s_Tb_now : Cond.selects M_Tb_now.1.cls M_Tb_now.1 M_Tb_now.1 ∈ e_gw := gw_t 566 (by decide +kernel) rfl
theorem k_To_cover : MK M_To_cover 0 := ⟨gw_t 572 (by decide +kernel) rfl, gw_t 3 (by decide +kernel) rfl, by decide +kernel, by decide⟩
theorem i_To_cover : Cond.instanceMethod M_To_cover.1 ∈ e_gw := gw_t 571 (by decide +kernel) rfl
theorem s_To_cover : Cond.selects M_To_cover.1.cls M_To_cover.1 M_To_cover.1 ∈ e_gw := gw_s 41 (by decide +kernel) rfl
theorem k_To_covers : MK M_To_covers 1 := ⟨gw_t 576 (by decide +kernel) rfl, gw_t 3 (by decide +kernel) rfl, by decide +kernel, by decide⟩
theorem i_To_covers : Cond.instanceMethod M_To_covers.1 ∈ e_gw := gw_t 575 (by decide +kernel) rfl
theorem s_To_covers : Cond.selects M_To_covers.1.cls M_To_covers.1 M_To_covers.1 ∈ e_gw := gw_s 42 (by decide +kernel) rfl
theorem k_Tb_after : MK M_Tb_after 2 := ⟨gw_t 582 (by decide +kernel) rfl, gw_t 1 (by decide +kernel) rfl, by decide +kernel, by decide⟩
theorem i_Tb_after : Cond.instanceMethod M_Tb_after.1 ∈ e_gw := gw_t 580 (by decide +kernel) rfl
theorem s_Tb_after : Cond.selects M_Tb_after.1.cls M_Tb_after.1 M_Tb_after.1 ∈ e_gw := gw_t 581 (by decide +kernel) rfl
theorem k_Tb_down : MK M_Tb_down 0 := ⟨gw_t 587 (by decide +kernel) rfl, gw_t 1 (by decide +kernel) rfl, by decide +kernel, by decide⟩
theorem i_Tb_down : Cond.instanceMethod M_Tb_down.1 ∈ e_gw := gw_t 585 (by decide +kernel) rfl
theorem s_Tb_down : Cond.selects M_Tb_down.1.cls M_Tb_down.1 M_Tb_down.1 ∈ e_gw := gw_t 586 (by decide +kernel) rfl
theorem k_Tb_best : MK M_Tb_best 3 := ⟨gw_t 592 (by decide +kernel) rfl, gw_t 1 (by decide +kernel) rfl, by decide +kernel, by decide⟩
theorem i_Tb_best : Cond.instanceMethod M_Tb_best.1 ∈ e_gw := gw_t 590 (by decide +kernel) rfl
theorem s_Tb_best : Cond.selects M_Tb_best.1.cls M_Tb_best.1 M_Tb_best.1 ∈ e_gw := gw_t 591 (by decide +kernel) rfl
theorem k_Se_run : MK M_Se_run 3 := ⟨gw_t 596 (by decide +kernel) rfl, gw_t 6 (by decide +kernel) rfl, by decide +kernel, by decide⟩
theorem i_Se_run : Cond.instanceMethod M_Se_run.1 ∈ e_gw := gw_t 595 (by decide +kernel) rfl
theorem s_Se_run : Cond.selects M_Se_run.1.cls M_Se_run.1 M_Se_run.1 ∈ e_gw := gw_s 43 (by decide +kernel) rfl
theorem k_Se_fillReach : MK M_Se_fillReach 0 := ⟨gw_t 601 (by decide +kernel) rfl, gw_t 6 (by decide +kernel) rfl, by decide +kernel, by decide⟩
theorem i_Se_fillReach : Cond.instanceMethod M_Se_fillReach.1 ∈ e_gw := gw_t 600 (by decide +kernel) rfl
theorem s_Se_fillReach : Cond.selects M_Se_fillReach.1.cls M_Se_fillReach.1 M_Se_fillReach.1 ∈ e_gw := gw_s 44 (by decide +kernel) rfl
theorem k_Se_tryTurns : MK M_Se_tryTurns 1 := ⟨gw_t 609 (by decide +kernel) rfl, gw_t 6 (by decide +kernel) rfl, by decide +kernel, by decide⟩
theorem i_Se_tryTurns : Cond.instanceMethod M_Se_tryTurns.1 ∈ e_gw := gw_t 608 (by decide +kernel) rfl
theorem s_Se_tryTurns : Cond.selects M_Se_tryTurns.1.cls M_Se_tryTurns.1 M_Se_tryTurns.1 ∈ e_gw := gw_s 45 (by decide +kernel) rfl
theorem k_Se_bound : MK M_Se_bound 1 := ⟨gw_t 613 (by decide +kernel) rfl, gw_t 6 (by decide +kernel) rfl, by decide +kernel, by decide⟩
theorem i_Se_bound : Cond.instanceMethod M_Se_bound.1 ∈ e_gw := gw_t 612 (by decide +kernel) rfl
theorem s_Se_bound : Cond.selects M_Se_bound.1.cls M_Se_bound.1 M_Se_bound.1 ∈ e_gw := gw_s 46 (by decide +kernel) rfl
theorem k_Se_tryTurn : MK M_Se_tryTurn 3 := ⟨gw_t 618 (by decide +kernel) rfl, gw_t 6 (by decide +kernel) rfl, by decide +kernel, by decide⟩
theorem i_Se_tryTurn : Cond.instanceMethod M_Se_tryTurn.1 ∈ e_gw := gw_t 617 (by decide +kernel) rfl
theorem s_Se_tryTurn : Cond.selects M_Se_tryTurn.1.cls M_Se_tryTurn.1 M_Se_tryTurn.1 ∈ e_gw := gw_s 47 (by decide +kernel) rfl
theorem k_Tb_own : MK M_Tb_own 1 := ⟨gw_t 625 (by decide +kernel) rfl, gw_t 1 (by decide +kernel) rfl, by decide +kernel, by decide⟩
theorem i_Tb_own : Cond.instanceMethod M_Tb_own.1 ∈ e_gw := gw_t 623 (by decide +kernel) rfl
theorem s_Tb_own : Cond.selects M_Tb_own.1.cls M_Tb_own.1 M_Tb_own.1 ∈ e_gw := gw_t 624 (by decide +kernel) rfl
theorem k_To_firstOwnWay : MK M_To_firstOwnWay 0 := ⟨gw_t 629 (by decide +kernel) rfl, gw_t 3 (by decide +kernel) rfl, by decide +kernel, by decide⟩
theorem i_To_firstOwnWay : Cond.instanceMethod M_To_firstOwnWay.1 ∈ e_gw := gw_t 628 (by decide +kernel) rfl
theorem s_To_firstOwnWay : Cond.selects M_To_firstOwnWay.1.cls M_To_firstOwnWay.1 M_To_firstOwnWay.1 ∈ e_gw := gw_s 48 (by decide +kernel) rfl
theorem k_To_countOwn : MK M_To_countOwn 1 := ⟨gw_t 633 (by decide +kernel) rfl, gw_t 3 (by decide +kernel) rfl, by decide +kernel, by decide⟩
theorem i_To_countOwn : Cond.instanceMethod M_To_countOwn.1 ∈ e_gw := gw_t 632 (by decide +kernel) rfl
theorem s_To_countOwn : Cond.selects M_To_countOwn.1.cls M_To_countOwn.1 M_To_countOwn.1 ∈ e_gw := gw_s 49 (by decide +kernel) rfl
theorem k_To_ownIn : MK M_To_ownIn 2 := ⟨gw_t 637 (by decide +kernel) rfl, gw_t 3 (by decide +kernel) rfl, by decide +kernel, by decide⟩
theorem i_To_ownIn : Cond.instanceMethod M_To_ownIn.1 ∈ e_gw := gw_t 636 (by decide +kernel) rfl
theorem s_To_ownIn : Cond.selects M_To_ownIn.1.cls M_To_ownIn.1 M_To_ownIn.1 ∈ e_gw := gw_s 50 (by decide +kernel) rfl
theorem k_Tb_odds : MK M_Tb_odds 5 := ⟨gw_t 643 (by decide +kernel) rfl, gw_t 1 (by decide +kernel) rfl, by decide +kernel, by decide⟩
theorem i_Tb_odds : Cond.instanceMethod M_Tb_odds.1 ∈ e_gw := gw_t 641 (by decide +kernel) rfl
theorem s_Tb_odds : Cond.selects M_Tb_odds.1.cls M_Tb_odds.1 M_Tb_odds.1 ∈ e_gw := gw_t 642 (by decide +kernel) rfl
theorem k_Od_startAt : MK M_Od_startAt 1 := ⟨gw_t 647 (by decide +kernel) rfl, gw_t 7 (by decide +kernel) rfl, by decide +kernel, by decide⟩
theorem i_Od_startAt : Cond.instanceMethod M_Od_startAt.1 ∈ e_gw := gw_t 646 (by decide +kernel) rfl
theorem s_Od_startAt : Cond.selects M_Od_startAt.1.cls M_Od_startAt.1 M_Od_startAt.1 ∈ e_gw := gw_s 51 (by decide +kernel) rfl
theorem k_Od_spread : MK M_Od_spread 2 := ⟨gw_t 653 (by decide +kernel) rfl, gw_t 7 (by decide +kernel) rfl, by decide +kernel, by decide⟩
theorem i_Od_spread : Cond.instanceMethod M_Od_spread.1 ∈ e_gw := gw_t 652 (by decide +kernel) rfl
theorem s_Od_spread : Cond.selects M_Od_spread.1.cls M_Od_spread.1 M_Od_spread.1 ∈ e_gw := gw_s 52 (by decide +kernel) rfl
theorem k_Od_carry : MK M_Od_carry 2 := ⟨gw_t 658 (by decide +kernel) rfl, gw_t 7 (by decide +kernel) rfl, by decide +kernel, by decide⟩
theorem i_Od_carry : Cond.instanceMethod M_Od_carry.1 ∈ e_gw := gw_t 657 (by decide +kernel) rfl
theorem s_Od_carry : Cond.selects M_Od_carry.1.cls M_Od_carry.1 M_Od_carry.1 ∈ e_gw := gw_s 53 (by decide +kernel) rfl
theorem k_Od_upper : MK M_Od_upper 1 := ⟨gw_t 662 (by decide +kernel) rfl, gw_t 7 (by decide +kernel) rfl, by decide +kernel, by decide⟩
theorem i_Od_upper : Cond.instanceMethod M_Od_upper.1 ∈ e_gw := gw_t 661 (by decide +kernel) rfl
theorem s_Od_upper : Cond.selects M_Od_upper.1.cls M_Od_upper.1 M_Od_upper.1 ∈ e_gw := gw_s 54 (by decide +kernel) rfl
theorem k_Od_common : MK M_Od_common 1 := ⟨gw_t 666 (by decide +kernel) rfl, gw_t 7 (by decide +kernel) rfl, by decide +kernel, by decide⟩
theorem i_Od_common : Cond.instanceMethod M_Od_common.1 ∈ e_gw := gw_t 665 (by decide +kernel) rfl
theorem s_Od_common : Cond.selects M_Od_common.1.cls M_Od_common.1 M_Od_common.1 ∈ e_gw := gw_s 55 (by decide +kernel) rfl
theorem k_Od_lower : MK M_Od_lower 1 := ⟨gw_t 671 (by decide +kernel) rfl, gw_t 7 (by decide +kernel) rfl, by decide +kernel, by decide⟩
theorem i_Od_lower : Cond.instanceMethod M_Od_lower.1 ∈ e_gw := gw_t 670 (by decide +kernel) rfl
theorem s_Od_lower : Cond.selects M_Od_lower.1.cls M_Od_lower.1 M_Od_lower.1 ∈ e_gw := gw_s 56 (by decide +kernel) rfl
theorem k_Tb_saw : MK M_Tb_saw 3 := ⟨gw_t 675 (by decide +kernel) rfl, gw_t 1 (by decide +kernel) rfl, by decide +kernel, by decide⟩
theorem i_Tb_saw : Cond.instanceMethod M_Tb_saw.1 ∈ e_gw := gw_t 673 (by decide +kernel) rfl
theorem s_Tb_saw : Cond.selects M_Tb_saw.1.cls M_Tb_saw.1 M_Tb_saw.1 ∈ e_gw := gw_t 674 (by decide +kernel) rfl
theorem k_Re_add : MK M_Re_add 3 := ⟨gw_t 679 (by decide +kernel) rfl, gw_t 8 (by decide +kernel) rfl, by decide +kernel, by decide⟩
theorem i_Re_add : Cond.instanceMethod M_Re_add.1 ∈ e_gw := gw_t 678 (by decide +kernel) rfl
theorem s_Re_add : Cond.selects M_Re_add.1.cls M_Re_add.1 M_Re_add.1 ∈ e_gw := gw_s 57 (by decide +kernel) rfl
theorem k_Tb_which : MK M_Tb_which 1 := ⟨gw_t 683 (by decide +kernel) rfl, gw_t 1 (by decide +kernel) rfl, by decide +kernel, by decide⟩
theorem i_Tb_which : Cond.instanceMethod M_Tb_which.1 ∈ e_gw := gw_t 681 (by decide +kernel) rfl
theorem s_Tb_which : Cond.selects M_Tb_which.1.cls M_Tb_which.1 M_Tb_which.1 ∈ e_gw := gw_t 682 (by decide +kernel) rfl
theorem k_Tb_fitting : MK M_Tb_fitting 1 := ⟨gw_t 687 (by decide +kernel) rfl, gw_t 1 (by decide +kernel) rfl, by decide +kernel, by decide⟩
theorem i_Tb_fitting : Cond.instanceMethod M_Tb_fitting.1 ∈ e_gw := gw_t 686 (by decide +kernel) rfl
theorem s_Tb_fitting : Cond.selects M_Tb_fitting.1.cls M_Tb_fitting.1 M_Tb_fitting.1 ∈ e_gw := gw_s 58 (by decide +kernel) rfl
theorem k_Tb_fits : MK M_Tb_fits 2 := ⟨gw_t 691 (by decide +kernel) rfl, gw_t 1 (by decide +kernel) rfl, by decide +kernel, by decide⟩
theorem i_Tb_fits : Cond.instanceMethod M_Tb_fits.1 ∈ e_gw := gw_t 690 (by decide +kernel) rfl
theorem s_Tb_fits : Cond.selects M_Tb_fits.1.cls M_Tb_fits.1 M_Tb_fits.1 ∈ e_gw := gw_s 59 (by decide +kernel) rfl
theorem k_Tb_heightLater : MK M_Tb_heightLater 3 := ⟨gw_t 695 (by decide +kernel) rfl, gw_t 1 (by decide +kernel) rfl, by decide +kernel, by decide⟩
theorem i_Tb_heightLater : Cond.instanceMethod M_Tb_heightLater.1 ∈ e_gw := gw_t 694 (by decide +kernel) rfl
theorem s_Tb_heightLater : Cond.selects M_Tb_heightLater.1.cls M_Tb_heightLater.1 M_Tb_heightLater.1 ∈ e_gw := gw_s 60 (by decide +kernel) rfl
theorem k_Tb_look : MK M_Tb_look 1 := ⟨gw_t 700 (by decide +kernel) rfl, gw_t 1 (by decide +kernel) rfl, by decide +kernel, by decide⟩
theorem i_Tb_look : Cond.instanceMethod M_Tb_look.1 ∈ e_gw := gw_t 698 (by decide +kernel) rfl
theorem s_Tb_look : Cond.selects M_Tb_look.1.cls M_Tb_look.1 M_Tb_look.1 ∈ e_gw := gw_t 699 (by decide +kernel) rfl
theorem k_Tb_greatestAlike : MK M_Tb_greatestAlike 3 := ⟨gw_t 704 (by decide +kernel) rfl, gw_t 1 (by decide +kernel) rfl, by decide +kernel, by decide⟩
theorem i_Tb_greatestAlike : Cond.instanceMethod M_Tb_greatestAlike.1 ∈ e_gw := gw_t 703 (by decide +kernel) rfl
theorem s_Tb_greatestAlike : Cond.selects M_Tb_greatestAlike.1.cls M_Tb_greatestAlike.1 M_Tb_greatestAlike.1 ∈ e_gw := gw_s 61 (by decide +kernel) rfl
theorem k_Tb_hears : MK M_Tb_hears 2 := ⟨gw_t 710 (by decide +kernel) rfl, gw_t 1 (by decide +kernel) rfl, by decide +kernel, by decide⟩
theorem i_Tb_hears : Cond.instanceMethod M_Tb_hears.1 ∈ e_gw := gw_t 708 (by decide +kernel) rfl
theorem s_Tb_hears : Cond.selects M_Tb_hears.1.cls M_Tb_hears.1 M_Tb_hears.1 ∈ e_gw := gw_t 709 (by decide +kernel) rfl
theorem k_Tb_laws : MK M_Tb_laws 1 := ⟨gw_t 714 (by decide +kernel) rfl, gw_t 1 (by decide +kernel) rfl, by decide +kernel, by decide⟩
theorem i_Tb_laws : Cond.instanceMethod M_Tb_laws.1 ∈ e_gw := gw_t 712 (by decide +kernel) rfl
theorem s_Tb_laws : Cond.selects M_Tb_laws.1.cls M_Tb_laws.1 M_Tb_laws.1 ∈ e_gw := gw_t 713 (by decide +kernel) rfl
theorem k_Tb_isLaw : MK M_Tb_isLaw 2 := ⟨gw_t 718 (by decide +kernel) rfl, gw_t 1 (by decide +kernel) rfl, by decide +kernel, by decide⟩
theorem i_Tb_isLaw : Cond.instanceMethod M_Tb_isLaw.1 ∈ e_gw := gw_t 717 (by decide +kernel) rfl
theorem s_Tb_isLaw : Cond.selects M_Tb_isLaw.1.cls M_Tb_isLaw.1 M_Tb_isLaw.1 ∈ e_gw := gw_s 62 (by decide +kernel) rfl
theorem k_Tb_forget : MK M_Tb_forget 0 := ⟨gw_t 723 (by decide +kernel) rfl, gw_t 1 (by decide +kernel) rfl, by decide +kernel, by decide⟩
theorem i_Tb_forget : Cond.instanceMethod M_Tb_forget.1 ∈ e_gw := gw_t 721 (by decide +kernel) rfl
theorem s_Tb_forget : Cond.selects M_Tb_forget.1.cls M_Tb_forget.1 M_Tb_forget.1 ∈ e_gw := gw_t 722 (by decide +kernel) rfl
theorem k_Tb_mark : MK M_Tb_mark 2 := ⟨gw_t 727 (by decide +kernel) rfl, gw_t 1 (by decide +kernel) rfl, by decide +kernel, by decide⟩
theorem i_Tb_mark : Cond.instanceMethod M_Tb_mark.1 ∈ e_gw := gw_t 725 (by decide +kernel) rfl
theorem s_Tb_mark : Cond.selects M_Tb_mark.1.cls M_Tb_mark.1 M_Tb_mark.1 ∈ e_gw := gw_t 726 (by decide +kernel) rfl
theorem k_Tb_markLover : MK M_Tb_markLover 1 := ⟨gw_t 731 (by decide +kernel) rfl, gw_t 1 (by decide +kernel) rfl, by decide +kernel, by decide⟩
theorem i_Tb_markLover : Cond.instanceMethod M_Tb_markLover.1 ∈ e_gw := gw_t 730 (by decide +kernel) rfl
theorem s_Tb_markLover : Cond.selects M_Tb_markLover.1.cls M_Tb_markLover.1 M_Tb_markLover.1 ∈ e_gw := gw_s 63 (by decide +kernel) rfl
theorem k_Tb_markOne : MK M_Tb_markOne 1 := ⟨gw_t 736 (by decide +kernel) rfl, gw_t 1 (by decide +kernel) rfl, by decide +kernel, by decide⟩
theorem i_Tb_markOne : Cond.instanceMethod M_Tb_markOne.1 ∈ e_gw := gw_t 735 (by decide +kernel) rfl
theorem s_Tb_markOne : Cond.selects M_Tb_markOne.1.cls M_Tb_markOne.1 M_Tb_markOne.1 ∈ e_gw := gw_s 64 (by decide +kernel) rfl
theorem k_Tb_markGrudge : MK M_Tb_markGrudge 1 := ⟨gw_t 740 (by decide +kernel) rfl, gw_t 1 (by decide +kernel) rfl, by decide +kernel, by decide⟩
theorem i_Tb_markGrudge : Cond.instanceMethod M_Tb_markGrudge.1 ∈ e_gw := gw_t 739 (by decide +kernel) rfl
theorem s_Tb_markGrudge : Cond.selects M_Tb_markGrudge.1.cls M_Tb_markGrudge.1 M_Tb_markGrudge.1 ∈ e_gw := gw_s 65 (by decide +kernel) rfl
theorem k_Tb_markPoet : MK M_Tb_markPoet 1 := ⟨gw_t 745 (by decide +kernel) rfl, gw_t 1 (by decide +kernel) rfl, by decide +kernel, by decide⟩
theorem i_Tb_markPoet : Cond.instanceMethod M_Tb_markPoet.1 ∈ e_gw := gw_t 744 (by decide +kernel) rfl
theorem s_Tb_markPoet : Cond.selects M_Tb_markPoet.1.cls M_Tb_markPoet.1 M_Tb_markPoet.1 ∈ e_gw := gw_s 66 (by decide +kernel) rfl
theorem k_Tb_markMiser : MK M_Tb_markMiser 1 := ⟨gw_t 750 (by decide +kernel) rfl, gw_t 1 (by decide +kernel) rfl, by decide +kernel, by decide⟩
theorem i_Tb_markMiser : Cond.instanceMethod M_Tb_markMiser.1 ∈ e_gw := gw_t 749 (by decide +kernel) rfl
theorem s_Tb_markMiser : Cond.selects M_Tb_markMiser.1.cls M_Tb_markMiser.1 M_Tb_markMiser.1 ∈ e_gw := gw_s 67 (by decide +kernel) rfl
theorem k_Tb_markWife : MK M_Tb_markWife 1 := ⟨gw_t 755 (by decide +kernel) rfl, gw_t 1 (by decide +kernel) rfl, by decide +kernel, by decide⟩
theorem i_Tb_markWife : Cond.instanceMethod M_Tb_markWife.1 ∈ e_gw := gw_t 754 (by decide +kernel) rfl
theorem s_Tb_markWife : Cond.selects M_Tb_markWife.1.cls M_Tb_markWife.1 M_Tb_markWife.1 ∈ e_gw := gw_s 68 (by decide +kernel) rfl
theorem k_Tb_keep : MK M_Tb_keep 1 := ⟨gw_t 760 (by decide +kernel) rfl, gw_t 1 (by decide +kernel) rfl, by decide +kernel, by decide⟩
theorem i_Tb_keep : Cond.instanceMethod M_Tb_keep.1 ∈ e_gw := gw_t 758 (by decide +kernel) rfl
theorem s_Tb_keep : Cond.selects M_Tb_keep.1.cls M_Tb_keep.1 M_Tb_keep.1 ∈ e_gw := gw_t 759 (by decide +kernel) rfl
theorem k_Im_take : MK M_Im_take 2 := ⟨gw_t 764 (by decide +kernel) rfl, gw_t 9 (by decide +kernel) rfl, by decide +kernel, by decide⟩
theorem i_Im_take : Cond.instanceMethod M_Im_take.1 ∈ e_gw := gw_t 763 (by decide +kernel) rfl
theorem s_Im_take : Cond.selects M_Im_take.1.cls M_Im_take.1 M_Im_take.1 ∈ e_gw := gw_s 69 (by decide +kernel) rfl
theorem k_Hi_copyFrom : MK M_Hi_copyFrom 1 := ⟨gw_t 769 (by decide +kernel) rfl, gw_t 5 (by decide +kernel) rfl, by decide +kernel, by decide⟩
theorem i_Hi_copyFrom : Cond.instanceMethod M_Hi_copyFrom.1 ∈ e_gw := gw_t 768 (by decide +kernel) rfl
theorem s_Hi_copyFrom : Cond.selects M_Hi_copyFrom.1.cls M_Hi_copyFrom.1 M_Hi_copyFrom.1 ∈ e_gw := gw_s 70 (by decide +kernel) rfl
theorem k_Tb_back : MK M_Tb_back 1 := ⟨gw_t 773 (by decide +kernel) rfl, gw_t 1 (by decide +kernel) rfl, by decide +kernel, by decide⟩
theorem i_Tb_back : Cond.instanceMethod M_Tb_back.1 ∈ e_gw := gw_t 771 (by decide +kernel) rfl
theorem s_Tb_back : Cond.selects M_Tb_back.1.cls M_Tb_back.1 M_Tb_back.1 ∈ e_gw := gw_t 772 (by decide +kernel) rfl
theorem k_Im_give : MK M_Im_give 2 := ⟨gw_t 777 (by decide +kernel) rfl, gw_t 9 (by decide +kernel) rfl, by decide +kernel, by decide⟩
theorem i_Im_give : Cond.instanceMethod M_Im_give.1 ∈ e_gw := gw_t 776 (by decide +kernel) rfl
theorem s_Im_give : Cond.selects M_Im_give.1.cls M_Im_give.1 M_Im_give.1 ∈ e_gw := gw_s 71 (by decide +kernel) rfl
theorem k_Tb_count : MK M_Tb_count 1 := ⟨gw_t 781 (by decide +kernel) rfl, gw_t 1 (by decide +kernel) rfl, by decide +kernel, by decide⟩
theorem i_Tb_count : Cond.instanceMethod M_Tb_count.1 ∈ e_gw := gw_t 779 (by decide +kernel) rfl
theorem s_Tb_count : Cond.selects M_Tb_count.1.cls M_Tb_count.1 M_Tb_count.1 ∈ e_gw := gw_t 780 (by decide +kernel) rfl
theorem k_Tb_trace : MK M_Tb_trace 0 := ⟨gw_t 785 (by decide +kernel) rfl, gw_t 1 (by decide +kernel) rfl, by decide +kernel, by decide⟩
theorem i_Tb_trace : Cond.instanceMethod M_Tb_trace.1 ∈ e_gw := gw_t 783 (by decide +kernel) rfl
theorem s_Tb_trace : Cond.selects M_Tb_trace.1.cls M_Tb_trace.1 M_Tb_trace.1 ∈ e_gw := gw_t 784 (by decide +kernel) rfl
theorem k_Mo_init : MK M_Mo_init 0 := ⟨gw_t 790 (by decide +kernel) rfl, gw_t 10 (by decide +kernel) rfl, by decide +kernel, by decide⟩
theorem i_Mo_init : Cond.instanceMethod M_Mo_init.1 ∈ e_gw := gw_t 789 (by decide +kernel) rfl
theorem k_Mo_type : MK M_Mo_type 1 := ⟨gw_t 897 (by decide +kernel) rfl, gw_t 10 (by decide +kernel) rfl, by decide +kernel, by decide⟩
theorem i_Mo_type : Cond.instanceMethod M_Mo_type.1 ∈ e_gw := gw_t 895 (by decide +kernel) rfl
theorem s_Mo_type : Cond.selects M_Mo_type.1.cls M_Mo_type.1 M_Mo_type.1 ∈ e_gw := gw_t 896 (by decide +kernel) rfl
theorem k_Mo_in : MK M_Mo_in 3 := ⟨gw_t 900 (by decide +kernel) rfl, gw_t 10 (by decide +kernel) rfl, by decide +kernel, by decide⟩
theorem i_Mo_in : Cond.static M_Mo_in.1 ∈ e_gw := gw_t 899 (by decide +kernel) rfl
theorem k_Mo_clear : MK M_Mo_clear 0 := ⟨gw_t 904 (by decide +kernel) rfl, gw_t 10 (by decide +kernel) rfl, by decide +kernel, by decide⟩
theorem i_Mo_clear : Cond.instanceMethod M_Mo_clear.1 ∈ e_gw := gw_t 902 (by decide +kernel) rfl
theorem s_Mo_clear : Cond.selects M_Mo_clear.1.cls M_Mo_clear.1 M_Mo_clear.1 ∈ e_gw := gw_t 903 (by decide +kernel) rfl
theorem k_Mo_sheds : MK M_Mo_sheds 0 := ⟨gw_t 908 (by decide +kernel) rfl, gw_t 10 (by decide +kernel) rfl, by decide +kernel, by decide⟩
theorem i_Mo_sheds : Cond.instanceMethod M_Mo_sheds.1 ∈ e_gw := gw_t 906 (by decide +kernel) rfl
theorem s_Mo_sheds : Cond.selects M_Mo_sheds.1.cls M_Mo_sheds.1 M_Mo_sheds.1 ∈ e_gw := gw_t 907 (by decide +kernel) rfl
theorem k_Mo_read : MK M_Mo_read 0 := ⟨gw_t 912 (by decide +kernel) rfl, gw_t 10 (by decide +kernel) rfl, by decide +kernel, by decide⟩
theorem i_Mo_read : Cond.instanceMethod M_Mo_read.1 ∈ e_gw := gw_t 911 (by decide +kernel) rfl
theorem s_Mo_read : Cond.selects M_Mo_read.1.cls M_Mo_read.1 M_Mo_read.1 ∈ e_gw := gw_s 72 (by decide +kernel) rfl
theorem k_Mo_step : MK M_Mo_step 0 := ⟨gw_t 916 (by decide +kernel) rfl, gw_t 10 (by decide +kernel) rfl, by decide +kernel, by decide⟩
theorem i_Mo_step : Cond.instanceMethod M_Mo_step.1 ∈ e_gw := gw_t 915 (by decide +kernel) rfl
theorem s_Mo_step : Cond.selects M_Mo_step.1.cls M_Mo_step.1 M_Mo_step.1 ∈ e_gw := gw_s 73 (by decide +kernel) rfl
theorem k_Mo_here : MK M_Mo_here 0 := ⟨gw_t 920 (by decide +kernel) rfl, gw_t 10 (by decide +kernel) rfl, by decide +kernel, by decide⟩
theorem i_Mo_here : Cond.instanceMethod M_Mo_here.1 ∈ e_gw := gw_t 919 (by decide +kernel) rfl
theorem s_Mo_here : Cond.selects M_Mo_here.1.cls M_Mo_here.1 M_Mo_here.1 ∈ e_gw := gw_s 74 (by decide +kernel) rfl
theorem k_Mo_may : MK M_Mo_may 1 := ⟨gw_t 924 (by decide +kernel) rfl, gw_t 10 (by decide +kernel) rfl, by decide +kernel, by decide⟩
theorem i_Mo_may : Cond.instanceMethod M_Mo_may.1 ∈ e_gw := gw_t 923 (by decide +kernel) rfl
theorem s_Mo_may : Cond.selects M_Mo_may.1.cls M_Mo_may.1 M_Mo_may.1 ∈ e_gw := gw_s 75 (by decide +kernel) rfl
theorem k_Mo_due : MK M_Mo_due 1 := ⟨gw_t 928 (by decide +kernel) rfl, gw_t 10 (by decide +kernel) rfl, by decide +kernel, by decide⟩
theorem i_Mo_due : Cond.instanceMethod M_Mo_due.1 ∈ e_gw := gw_t 927 (by decide +kernel) rfl
theorem s_Mo_due : Cond.selects M_Mo_due.1.cls M_Mo_due.1 M_Mo_due.1 ∈ e_gw := gw_s 76 (by decide +kernel) rfl
theorem k_Mo_item : MK M_Mo_item 1 := ⟨gw_t 932 (by decide +kernel) rfl, gw_t 10 (by decide +kernel) rfl, by decide +kernel, by decide⟩
theorem i_Mo_item : Cond.instanceMethod M_Mo_item.1 ∈ e_gw := gw_t 931 (by decide +kernel) rfl
theorem s_Mo_item : Cond.selects M_Mo_item.1.cls M_Mo_item.1 M_Mo_item.1 ∈ e_gw := gw_s 77 (by decide +kernel) rfl
theorem k_Mo_number : MK M_Mo_number 2 := ⟨gw_t 936 (by decide +kernel) rfl, gw_t 10 (by decide +kernel) rfl, by decide +kernel, by decide⟩
theorem i_Mo_number : Cond.instanceMethod M_Mo_number.1 ∈ e_gw := gw_t 935 (by decide +kernel) rfl
theorem s_Mo_number : Cond.selects M_Mo_number.1.cls M_Mo_number.1 M_Mo_number.1 ∈ e_gw := gw_s 78 (by decide +kernel) rfl
theorem k_Mo_wind : MK M_Mo_wind 1 := ⟨gw_t 940 (by decide +kernel) rfl, gw_t 10 (by decide +kernel) rfl, by decide +kernel, by decide⟩
theorem i_Mo_wind : Cond.instanceMethod M_Mo_wind.1 ∈ e_gw := gw_t 938 (by decide +kernel) rfl
theorem s_Mo_wind : Cond.selects M_Mo_wind.1.cls M_Mo_wind.1 M_Mo_wind.1 ∈ e_gw := gw_t 939 (by decide +kernel) rfl
theorem k_Mo_one : MK M_Mo_one 2 := ⟨gw_t 945 (by decide +kernel) rfl, gw_t 10 (by decide +kernel) rfl, by decide +kernel, by decide⟩
theorem i_Mo_one : Cond.instanceMethod M_Mo_one.1 ∈ e_gw := gw_t 943 (by decide +kernel) rfl
theorem s_Mo_one : Cond.selects M_Mo_one.1.cls M_Mo_one.1 M_Mo_one.1 ∈ e_gw := gw_t 944 (by decide +kernel) rfl
theorem k_Mo_isOne : MK M_Mo_isOne 1 := ⟨gw_t 949 (by decide +kernel) rfl, gw_t 10 (by decide +kernel) rfl, by decide +kernel, by decide⟩
theorem i_Mo_isOne : Cond.instanceMethod M_Mo_isOne.1 ∈ e_gw := gw_t 948 (by decide +kernel) rfl
theorem s_Mo_isOne : Cond.selects M_Mo_isOne.1.cls M_Mo_isOne.1 M_Mo_isOne.1 ∈ e_gw := gw_s 79 (by decide +kernel) rfl
theorem k_Mo_has : MK M_Mo_has 2 := ⟨gw_t 952 (by decide +kernel) rfl, gw_t 10 (by decide +kernel) rfl, by decide +kernel, by decide⟩
theorem i_Mo_has : Cond.static M_Mo_has.1 ∈ e_gw := gw_t 951 (by decide +kernel) rfl
theorem k_Mo_liftsOf : MK M_Mo_liftsOf 1 := ⟨gw_t 956 (by decide +kernel) rfl, gw_t 10 (by decide +kernel) rfl, by decide +kernel, by decide⟩
theorem i_Mo_liftsOf : Cond.instanceMethod M_Mo_liftsOf.1 ∈ e_gw := gw_t 955 (by decide +kernel) rfl
theorem s_Mo_liftsOf : Cond.selects M_Mo_liftsOf.1.cls M_Mo_liftsOf.1 M_Mo_liftsOf.1 ∈ e_gw := gw_s 80 (by decide +kernel) rfl
theorem k_Mo_thought : MK M_Mo_thought 2 := ⟨gw_t 960 (by decide +kernel) rfl, gw_t 10 (by decide +kernel) rfl, by decide +kernel, by decide⟩
theorem i_Mo_thought : Cond.instanceMethod M_Mo_thought.1 ∈ e_gw := gw_t 958 (by decide +kernel) rfl
theorem s_Mo_thought : Cond.selects M_Mo_thought.1.cls M_Mo_thought.1 M_Mo_thought.1 ∈ e_gw := gw_t 959 (by decide +kernel) rfl
theorem k_Mo_isThought : MK M_Mo_isThought 1 := ⟨gw_t 964 (by decide +kernel) rfl, gw_t 10 (by decide +kernel) rfl, by decide +kernel, by decide⟩
theorem i_Mo_isThought : Cond.instanceMethod M_Mo_isThought.1 ∈ e_gw := gw_t 963 (by decide +kernel) rfl
theorem s_Mo_isThought : Cond.selects M_Mo_isThought.1.cls M_Mo_isThought.1 M_Mo_isThought.1 ∈ e_gw := gw_s 81 (by decide +kernel) rfl
theorem k_Mo_begins : MK M_Mo_begins 2 := ⟨gw_t 968 (by decide +kernel) rfl, gw_t 10 (by decide +kernel) rfl, by decide +kernel, by decide⟩
theorem i_Mo_begins : Cond.instanceMethod M_Mo_begins.1 ∈ e_gw := gw_t 966 (by decide +kernel) rfl
theorem s_Mo_begins : Cond.selects M_Mo_begins.1.cls M_Mo_begins.1 M_Mo_begins.1 ∈ e_gw := gw_t 967 (by decide +kernel) rfl
theorem k_Mo_canBegin : MK M_Mo_canBegin 3 := ⟨gw_t 971 (by decide +kernel) rfl, gw_t 10 (by decide +kernel) rfl, by decide +kernel, by decide⟩
theorem i_Mo_canBegin : Cond.static M_Mo_canBegin.1 ∈ e_gw := gw_t 970 (by decide +kernel) rfl
theorem k_Mo_know : MK M_Mo_know 0 := ⟨gw_t 975 (by decide +kernel) rfl, gw_t 10 (by decide +kernel) rfl, by decide +kernel, by decide⟩
theorem i_Mo_know : Cond.instanceMethod M_Mo_know.1 ∈ e_gw := gw_t 974 (by decide +kernel) rfl
theorem s_Mo_know : Cond.selects M_Mo_know.1.cls M_Mo_know.1 M_Mo_know.1 ∈ e_gw := gw_s 82 (by decide +kernel) rfl
theorem k_Mo_begin : MK M_Mo_begin 3 := ⟨gw_t 978 (by decide +kernel) rfl, gw_t 10 (by decide +kernel) rfl, by decide +kernel, by decide⟩
theorem i_Mo_begin : Cond.static M_Mo_begin.1 ∈ e_gw := gw_t 977 (by decide +kernel) rfl
theorem k_Mo_hold : MK M_Mo_hold 1 := ⟨gw_t 982 (by decide +kernel) rfl, gw_t 10 (by decide +kernel) rfl, by decide +kernel, by decide⟩
theorem i_Mo_hold : Cond.instanceMethod M_Mo_hold.1 ∈ e_gw := gw_t 981 (by decide +kernel) rfl
theorem s_Mo_hold : Cond.selects M_Mo_hold.1.cls M_Mo_hold.1 M_Mo_hold.1 ∈ e_gw := gw_s 83 (by decide +kernel) rfl
theorem k_Mo_minutes : MK M_Mo_minutes 1 := ⟨gw_t 986 (by decide +kernel) rfl, gw_t 10 (by decide +kernel) rfl, by decide +kernel, by decide⟩
theorem i_Mo_minutes : Cond.instanceMethod M_Mo_minutes.1 ∈ e_gw := gw_t 984 (by decide +kernel) rfl
theorem s_Mo_minutes : Cond.selects M_Mo_minutes.1.cls M_Mo_minutes.1 M_Mo_minutes.1 ∈ e_gw := gw_t 985 (by decide +kernel) rfl
theorem k_Mo_passOn : MK M_Mo_passOn 1 := ⟨gw_t 990 (by decide +kernel) rfl, gw_t 10 (by decide +kernel) rfl, by decide +kernel, by decide⟩
theorem i_Mo_passOn : Cond.instanceMethod M_Mo_passOn.1 ∈ e_gw := gw_t 989 (by decide +kernel) rfl
theorem s_Mo_passOn : Cond.selects M_Mo_passOn.1.cls M_Mo_passOn.1 M_Mo_passOn.1 ∈ e_gw := gw_s 84 (by decide +kernel) rfl
theorem k_Mo_weights : MK M_Mo_weights 1 := ⟨gw_t 994 (by decide +kernel) rfl, gw_t 10 (by decide +kernel) rfl, by decide +kernel, by decide⟩
theorem i_Mo_weights : Cond.instanceMethod M_Mo_weights.1 ∈ e_gw := gw_t 993 (by decide +kernel) rfl
theorem s_Mo_weights : Cond.selects M_Mo_weights.1.cls M_Mo_weights.1 M_Mo_weights.1 ∈ e_gw := gw_s 85 (by decide +kernel) rfl
theorem k_Mo_enters : MK M_Mo_enters 1 := ⟨gw_t 998 (by decide +kernel) rfl, gw_t 10 (by decide +kernel) rfl, by decide +kernel, by decide⟩
theorem i_Mo_enters : Cond.instanceMethod M_Mo_enters.1 ∈ e_gw := gw_t 996 (by decide +kernel) rfl
theorem s_Mo_enters : Cond.selects M_Mo_enters.1.cls M_Mo_enters.1 M_Mo_enters.1 ∈ e_gw := gw_t 997 (by decide +kernel) rfl
theorem k_Mo_isAtRest : MK M_Mo_isAtRest 0 := ⟨gw_t 1002 (by decide +kernel) rfl, gw_t 10 (by decide +kernel) rfl, by decide +kernel, by decide⟩
theorem i_Mo_isAtRest : Cond.instanceMethod M_Mo_isAtRest.1 ∈ e_gw := gw_t 1001 (by decide +kernel) rfl
theorem s_Mo_isAtRest : Cond.selects M_Mo_isAtRest.1.cls M_Mo_isAtRest.1 M_Mo_isAtRest.1 ∈ e_gw := gw_s 86 (by decide +kernel) rfl
theorem k_Mo_bitsOf : MK M_Mo_bitsOf 1 := ⟨gw_t 1005 (by decide +kernel) rfl, gw_t 10 (by decide +kernel) rfl, by decide +kernel, by decide⟩
theorem i_Mo_bitsOf : Cond.static M_Mo_bitsOf.1 ∈ e_gw := gw_t 1004 (by decide +kernel) rfl
theorem k_Mo_leaves : MK M_Mo_leaves 1 := ⟨gw_t 1009 (by decide +kernel) rfl, gw_t 10 (by decide +kernel) rfl, by decide +kernel, by decide⟩
theorem i_Mo_leaves : Cond.instanceMethod M_Mo_leaves.1 ∈ e_gw := gw_t 1007 (by decide +kernel) rfl
theorem s_Mo_leaves : Cond.selects M_Mo_leaves.1.cls M_Mo_leaves.1 M_Mo_leaves.1 ∈ e_gw := gw_t 1008 (by decide +kernel) rfl
theorem k_Mo_undo : MK M_Mo_undo 0 := ⟨gw_t 1013 (by decide +kernel) rfl, gw_t 10 (by decide +kernel) rfl, by decide +kernel, by decide⟩
theorem i_Mo_undo : Cond.instanceMethod M_Mo_undo.1 ∈ e_gw := gw_t 1011 (by decide +kernel) rfl
theorem s_Mo_undo : Cond.selects M_Mo_undo.1.cls M_Mo_undo.1 M_Mo_undo.1 ∈ e_gw := gw_t 1012 (by decide +kernel) rfl
theorem k_Mo_now : MK M_Mo_now 1 := ⟨gw_t 1017 (by decide +kernel) rfl, gw_t 10 (by decide +kernel) rfl, by decide +kernel, by decide⟩
theorem i_Mo_now : Cond.instanceMethod M_Mo_now.1 ∈ e_gw := gw_t 1015 (by decide +kernel) rfl
theorem s_Mo_now : Cond.selects M_Mo_now.1.cls M_Mo_now.1 M_Mo_now.1 ∈ e_gw := gw_t 1016 (by decide +kernel) rfl
theorem k_Mo_cover : MK M_Mo_cover 0 := ⟨gw_t 1021 (by decide +kernel) rfl, gw_t 10 (by decide +kernel) rfl, by decide +kernel, by decide⟩
theorem i_Mo_cover : Cond.instanceMethod M_Mo_cover.1 ∈ e_gw := gw_t 1020 (by decide +kernel) rfl
theorem s_Mo_cover : Cond.selects M_Mo_cover.1.cls M_Mo_cover.1 M_Mo_cover.1 ∈ e_gw := gw_s 87 (by decide +kernel) rfl
theorem k_Mo_after : MK M_Mo_after 2 := ⟨gw_t 1025 (by decide +kernel) rfl, gw_t 10 (by decide +kernel) rfl, by decide +kernel, by decide⟩
theorem i_Mo_after : Cond.instanceMethod M_Mo_after.1 ∈ e_gw := gw_t 1023 (by decide +kernel) rfl
theorem s_Mo_after : Cond.selects M_Mo_after.1.cls M_Mo_after.1 M_Mo_after.1 ∈ e_gw := gw_t 1024 (by decide +kernel) rfl
theorem k_Mo_take : MK M_Mo_take 0 := ⟨gw_t 1029 (by decide +kernel) rfl, gw_t 10 (by decide +kernel) rfl, by decide +kernel, by decide⟩
theorem i_Mo_take : Cond.instanceMethod M_Mo_take.1 ∈ e_gw := gw_t 1028 (by decide +kernel) rfl
theorem s_Mo_take : Cond.selects M_Mo_take.1.cls M_Mo_take.1 M_Mo_take.1 ∈ e_gw := gw_s 88 (by decide +kernel) rfl
theorem k_Mo_down : MK M_Mo_down 0 := ⟨gw_t 1033 (by decide +kernel) rfl, gw_t 10 (by decide +kernel) rfl, by decide +kernel, by decide⟩
theorem i_Mo_down : Cond.instanceMethod M_Mo_down.1 ∈ e_gw := gw_t 1031 (by decide +kernel) rfl
theorem s_Mo_down : Cond.selects M_Mo_down.1.cls M_Mo_down.1 M_Mo_down.1 ∈ e_gw := gw_t 1032 (by decide +kernel) rfl
theorem k_Mo_best : MK M_Mo_best 3 := ⟨gw_t 1037 (by decide +kernel) rfl, gw_t 10 (by decide +kernel) rfl, by decide +kernel, by decide⟩
theorem i_Mo_best : Cond.instanceMethod M_Mo_best.1 ∈ e_gw := gw_t 1035 (by decide +kernel) rfl
theorem s_Mo_best : Cond.selects M_Mo_best.1.cls M_Mo_best.1 M_Mo_best.1 ∈ e_gw := gw_t 1036 (by decide +kernel) rfl
theorem k_Mo_goBy : MK M_Mo_goBy 4 := ⟨gw_t 1041 (by decide +kernel) rfl, gw_t 10 (by decide +kernel) rfl, by decide +kernel, by decide⟩
theorem i_Mo_goBy : Cond.instanceMethod M_Mo_goBy.1 ∈ e_gw := gw_t 1040 (by decide +kernel) rfl
theorem s_Mo_goBy : Cond.selects M_Mo_goBy.1.cls M_Mo_goBy.1 M_Mo_goBy.1 ∈ e_gw := gw_s 89 (by decide +kernel) rfl
theorem k_Mo_own : MK M_Mo_own 1 := ⟨gw_t 1045 (by decide +kernel) rfl, gw_t 10 (by decide +kernel) rfl, by decide +kernel, by decide⟩
theorem i_Mo_own : Cond.instanceMethod M_Mo_own.1 ∈ e_gw := gw_t 1043 (by decide +kernel) rfl
theorem s_Mo_own : Cond.selects M_Mo_own.1.cls M_Mo_own.1 M_Mo_own.1 ∈ e_gw := gw_t 1044 (by decide +kernel) rfl
theorem k_Mo_odds : MK M_Mo_odds 5 := ⟨gw_t 1049 (by decide +kernel) rfl, gw_t 10 (by decide +kernel) rfl, by decide +kernel, by decide⟩
theorem i_Mo_odds : Cond.instanceMethod M_Mo_odds.1 ∈ e_gw := gw_t 1047 (by decide +kernel) rfl
theorem s_Mo_odds : Cond.selects M_Mo_odds.1.cls M_Mo_odds.1 M_Mo_odds.1 ∈ e_gw := gw_t 1048 (by decide +kernel) rfl
theorem k_Mo_saw : MK M_Mo_saw 3 := ⟨gw_t 1053 (by decide +kernel) rfl, gw_t 10 (by decide +kernel) rfl, by decide +kernel, by decide⟩
theorem i_Mo_saw : Cond.instanceMethod M_Mo_saw.1 ∈ e_gw := gw_t 1051 (by decide +kernel) rfl
theorem s_Mo_saw : Cond.selects M_Mo_saw.1.cls M_Mo_saw.1 M_Mo_saw.1 ∈ e_gw := gw_t 1052 (by decide +kernel) rfl
theorem k_Mo_which : MK M_Mo_which 1 := ⟨gw_t 1057 (by decide +kernel) rfl, gw_t 10 (by decide +kernel) rfl, by decide +kernel, by decide⟩
theorem i_Mo_which : Cond.instanceMethod M_Mo_which.1 ∈ e_gw := gw_t 1055 (by decide +kernel) rfl
theorem s_Mo_which : Cond.selects M_Mo_which.1.cls M_Mo_which.1 M_Mo_which.1 ∈ e_gw := gw_t 1056 (by decide +kernel) rfl
theorem k_Mo_whichBy : MK M_Mo_whichBy 1 := ⟨gw_t 1061 (by decide +kernel) rfl, gw_t 10 (by decide +kernel) rfl, by decide +kernel, by decide⟩
theorem i_Mo_whichBy : Cond.instanceMethod M_Mo_whichBy.1 ∈ e_gw := gw_t 1060 (by decide +kernel) rfl
theorem s_Mo_whichBy : Cond.selects M_Mo_whichBy.1.cls M_Mo_whichBy.1 M_Mo_whichBy.1 ∈ e_gw := gw_s 90 (by decide +kernel) rfl
theorem k_Mo_heightBy : MK M_Mo_heightBy 3 := ⟨gw_t 1065 (by decide +kernel) rfl, gw_t 10 (by decide +kernel) rfl, by decide +kernel, by decide⟩
theorem i_Mo_heightBy : Cond.instanceMethod M_Mo_heightBy.1 ∈ e_gw := gw_t 1064 (by decide +kernel) rfl
theorem s_Mo_heightBy : Cond.selects M_Mo_heightBy.1.cls M_Mo_heightBy.1 M_Mo_heightBy.1 ∈ e_gw := gw_s 91 (by decide +kernel) rfl
theorem k_Mo_look : MK M_Mo_look 1 := ⟨gw_t 1069 (by decide +kernel) rfl, gw_t 10 (by decide +kernel) rfl, by decide +kernel, by decide⟩
theorem i_Mo_look : Cond.instanceMethod M_Mo_look.1 ∈ e_gw := gw_t 1067 (by decide +kernel) rfl
theorem s_Mo_look : Cond.selects M_Mo_look.1.cls M_Mo_look.1 M_Mo_look.1 ∈ e_gw := gw_t 1068 (by decide +kernel) rfl
theorem k_Mo_hears : MK M_Mo_hears 2 := ⟨gw_t 1073 (by decide +kernel) rfl, gw_t 10 (by decide +kernel) rfl, by decide +kernel, by decide⟩
theorem i_Mo_hears : Cond.instanceMethod M_Mo_hears.1 ∈ e_gw := gw_t 1071 (by decide +kernel) rfl
theorem s_Mo_hears : Cond.selects M_Mo_hears.1.cls M_Mo_hears.1 M_Mo_hears.1 ∈ e_gw := gw_t 1072 (by decide +kernel) rfl
theorem k_Mo_laws : MK M_Mo_laws 1 := ⟨gw_t 1077 (by decide +kernel) rfl, gw_t 10 (by decide +kernel) rfl, by decide +kernel, by decide⟩
theorem i_Mo_laws : Cond.instanceMethod M_Mo_laws.1 ∈ e_gw := gw_t 1075 (by decide +kernel) rfl
theorem s_Mo_laws : Cond.selects M_Mo_laws.1.cls M_Mo_laws.1 M_Mo_laws.1 ∈ e_gw := gw_t 1076 (by decide +kernel) rfl
theorem k_Mo_forget : MK M_Mo_forget 0 := ⟨gw_t 1081 (by decide +kernel) rfl, gw_t 10 (by decide +kernel) rfl, by decide +kernel, by decide⟩
theorem i_Mo_forget : Cond.instanceMethod M_Mo_forget.1 ∈ e_gw := gw_t 1079 (by decide +kernel) rfl
theorem s_Mo_forget : Cond.selects M_Mo_forget.1.cls M_Mo_forget.1 M_Mo_forget.1 ∈ e_gw := gw_t 1080 (by decide +kernel) rfl
theorem k_Mo_mark : MK M_Mo_mark 2 := ⟨gw_t 1085 (by decide +kernel) rfl, gw_t 10 (by decide +kernel) rfl, by decide +kernel, by decide⟩
theorem i_Mo_mark : Cond.instanceMethod M_Mo_mark.1 ∈ e_gw := gw_t 1083 (by decide +kernel) rfl
theorem s_Mo_mark : Cond.selects M_Mo_mark.1.cls M_Mo_mark.1 M_Mo_mark.1 ∈ e_gw := gw_t 1084 (by decide +kernel) rfl
theorem k_Mo_bodiesOf : MK M_Mo_bodiesOf 1 := ⟨gw_t 1088 (by decide +kernel) rfl, gw_t 10 (by decide +kernel) rfl, by decide +kernel, by decide⟩
theorem i_Mo_bodiesOf : Cond.static M_Mo_bodiesOf.1 ∈ e_gw := gw_t 1087 (by decide +kernel) rfl
theorem k_Mo_trace : MK M_Mo_trace 0 := ⟨gw_t 1093 (by decide +kernel) rfl, gw_t 10 (by decide +kernel) rfl, by decide +kernel, by decide⟩
theorem i_Mo_trace : Cond.instanceMethod M_Mo_trace.1 ∈ e_gw := gw_t 1091 (by decide +kernel) rfl
theorem s_Mo_trace : Cond.selects M_Mo_trace.1.cls M_Mo_trace.1 M_Mo_trace.1 ∈ e_gw := gw_t 1092 (by decide +kernel) rfl
theorem k_Mo_keep : MK M_Mo_keep 1 := ⟨gw_t 1097 (by decide +kernel) rfl, gw_t 10 (by decide +kernel) rfl, by decide +kernel, by decide⟩
theorem i_Mo_keep : Cond.instanceMethod M_Mo_keep.1 ∈ e_gw := gw_t 1095 (by decide +kernel) rfl
theorem s_Mo_keep : Cond.selects M_Mo_keep.1.cls M_Mo_keep.1 M_Mo_keep.1 ∈ e_gw := gw_t 1096 (by decide +kernel) rfl
theorem k_Mo_back : MK M_Mo_back 1 := ⟨gw_t 1101 (by decide +kernel) rfl, gw_t 10 (by decide +kernel) rfl, by decide +kernel, by decide⟩
theorem i_Mo_back : Cond.instanceMethod M_Mo_back.1 ∈ e_gw := gw_t 1099 (by decide +kernel) rfl
theorem s_Mo_back : Cond.selects M_Mo_back.1.cls M_Mo_back.1 M_Mo_back.1 ∈ e_gw := gw_t 1100 (by decide +kernel) rfl
theorem k_Mo_count : MK M_Mo_count 1 := ⟨gw_t 1105 (by decide +kernel) rfl, gw_t 10 (by decide +kernel) rfl, by decide +kernel, by decide⟩
theorem i_Mo_count : Cond.instanceMethod M_Mo_count.1 ∈ e_gw := gw_t 1103 (by decide +kernel) rfl
theorem s_Mo_count : Cond.selects M_Mo_count.1.cls M_Mo_count.1 M_Mo_count.1 ∈ e_gw := gw_t 1104 (by decide +kernel) rfl
theorem l_La_9 : CL R_La 9 M_Tb_init := Or.inl (gw_t 17 (by decide +kernel) rfl)
theorem ol_Tb_1 : Cond.methodLink R_Tb 1 Lib.objectInit ∈ e_gw := gw_t 20 (by decide +kernel) rfl
theorem ol_Tx_3 : Cond.methodLink R_Tx 3 Lib.objectInit ∈ e_gw := gw_t 28 (by decide +kernel) rfl
theorem ol_To_3 : Cond.methodLink R_To 3 Lib.objectInit ∈ e_gw := gw_t 61 (by decide +kernel) rfl
theorem ol_Fl_3 : Cond.methodLink R_Fl 3 Lib.objectInit ∈ e_gw := gw_t 108 (by decide +kernel) rfl
theorem ol_Hi_3 : Cond.methodLink R_Hi 3 Lib.objectInit ∈ e_gw := gw_t 158 (by decide +kernel) rfl
theorem ol_Se_3 : Cond.methodLink R_Se 3 Lib.objectInit ∈ e_gw := gw_t 177 (by decide +kernel) rfl
theorem ol_Od_3 : Cond.methodLink R_Od 3 Lib.objectInit ∈ e_gw := gw_t 214 (by decide +kernel) rfl
theorem ol_Re_3 : Cond.methodLink R_Re 3 Lib.objectInit ∈ e_gw := gw_t 230 (by decide +kernel) rfl
theorem ol_Im_1 : Cond.methodLink R_Im 1 Lib.objectInit ∈ e_gw := gw_t 252 (by decide +kernel) rfl
theorem l_Tb_84 : CL R_Tb 84 M_Tb_startAnew := Or.inl (gw_t 268 (by decide +kernel) rfl)
theorem l_Fl_21 : CL R_Fl 21 M_Fl_thinkNothing := Or.inl (gw_t 276 (by decide +kernel) rfl)
theorem l_La_13 : CL R_La 13 M_Tb_type := Or.inl (gw_t 324 (by decide +kernel) rfl)
theorem l_Tb_87 : CL R_Tb 87 M_Tb_within := Or.inl (gw_t 328 (by decide +kernel) rfl)
theorem l_La_18 : CL R_La 18 M_Tb_clear := Or.inl (gw_t 335 (by decide +kernel) rfl)
theorem l_La_23 : CL R_La 23 M_Tb_sheds := Or.inl (gw_t 343 (by decide +kernel) rfl)
theorem l_To_40 : CL R_To 40 M_Ar_fill := Or.inl (gw_t 355 (by decide +kernel) rfl)
theorem l_Tx_34 : CL R_Tx 34 M_Tx_readToken := Or.inl (gw_t 358 (by decide +kernel) rfl)
theorem l_Tx_91 : CL R_Tx 91 M_Tx_isLetter := Or.inl (gw_t 362 (by decide +kernel) rfl)
theorem l_Tx_95 : CL R_Tx 95 M_Tx_readLetters := Or.inl (gw_t 365 (by decide +kernel) rfl)
theorem l_Tx_98 : CL R_Tx 98 M_Tx_isDigit := Or.inl (gw_t 369 (by decide +kernel) rfl)
theorem l_Tx_101 : CL R_Tx 101 M_Tx_readNumber := Or.inl (gw_t 372 (by decide +kernel) rfl)
theorem l_Tx_104 : CL R_Tx 104 M_Ma_min := Or.inl (gw_t 376 (by decide +kernel) rfl)
theorem l_Tx_40 : CL R_Tx 40 M_Tx_readItem := Or.inl (gw_t 379 (by decide +kernel) rfl)
theorem l_Tx_47 : CL R_Tx 47 M_Tx_itemBegun := Or.inl (gw_t 383 (by decide +kernel) rfl)
theorem l_Tx_67 : CL R_Tx 67 M_Tx_tell := Or.inl (gw_t 394 (by decide +kernel) rfl)
theorem cp_To_46 : Cond.methodLink R_To 46 arraycopyName ∈ e_gw := gw_t 415 (by decide +kernel) rfl
theorem l_La_27 : CL R_La 27 M_Tb_wind := Or.inl (gw_t 418 (by decide +kernel) rfl)
theorem l_La_31 : CL R_La 31 M_Tb_one := Or.inl (gw_t 427 (by decide +kernel) rfl)
theorem l_To_119 : CL R_To 119 M_To_canLift := Or.inl (gw_t 447 (by decide +kernel) rfl)
theorem l_La_36 : CL R_La 36 M_Tb_thought := Or.inl (gw_t 451 (by decide +kernel) rfl)
theorem l_La_40 : CL R_La 40 M_Tb_begins := Or.inl (gw_t 459 (by decide +kernel) rfl)
theorem l_Fl_43 : CL R_Fl 43 M_Fl_hasAboard := Or.inl (gw_t 467 (by decide +kernel) rfl)
theorem l_Fl_47 : CL R_Fl 47 M_Fl_usedBy := Or.inl (gw_t 468 (by decide +kernel) rfl)
theorem l_Hi_22 : CL R_Hi 22 M_Hi_dropOldest := Or.inl (gw_t 473 (by decide +kernel) rfl)
theorem l_Fl_51 : CL R_Fl 51 M_Fl_think := Or.inl (gw_t 485 (by decide +kernel) rfl)
theorem l_To_76 : CL R_To 76 M_To_hasPerson := Or.inl (gw_t 493 (by decide +kernel) rfl)
theorem l_To_80 : CL R_To 80 M_To_hasThought := Or.inl (gw_t 494 (by decide +kernel) rfl)
theorem l_To_83 : CL R_To 83 M_To_faded := Or.inl (gw_t 495 (by decide +kernel) rfl)
theorem l_To_56 : CL R_To 56 M_Ma_max := Or.inl (gw_t 498 (by decide +kernel) rfl)
theorem l_La_44 : CL R_La 44 M_Tb_minutes := Or.inl (gw_t 501 (by decide +kernel) rfl)
theorem l_To_90 : CL R_To 90 M_To_passMinute := Or.inl (gw_t 509 (by decide +kernel) rfl)
theorem l_To_98 : CL R_To 98 M_To_hold := Or.inl (gw_t 513 (by decide +kernel) rfl)
theorem l_To_102 : CL R_To 102 M_To_load := Or.inl (gw_t 514 (by decide +kernel) rfl)
theorem l_Fl_55 : CL R_Fl 55 M_Ma_min := Or.inl (gw_t 523 (by decide +kernel) rfl)
theorem l_Fl_61 : CL R_Fl 61 M_Ma_max := Or.inl (gw_t 524 (by decide +kernel) rfl)
theorem l_To_112 : CL R_To 112 M_To_windAt := Or.inl (gw_t 525 (by decide +kernel) rfl)
theorem l_La_48 : CL R_La 48 M_Tb_enters := Or.inl (gw_t 530 (by decide +kernel) rfl)
theorem l_Tb_180 : CL R_Tb 180 M_In_bitCount := Or.inl (gw_t 542 (by decide +kernel) rfl)
theorem l_La_52 : CL R_La 52 M_Tb_leaves := Or.inl (gw_t 548 (by decide +kernel) rfl)
theorem l_La_56 : CL R_La 56 M_Tb_undo := Or.inl (gw_t 556 (by decide +kernel) rfl)
theorem l_La_60 : CL R_La 60 M_Tb_now := Or.inl (gw_t 564 (by decide +kernel) rfl)
theorem l_To_123 : CL R_To 123 M_To_covers := Or.inl (gw_t 573 (by decide +kernel) rfl)
theorem l_To_131 : CL R_To 131 M_To_liftsOf := Or.inl (gw_t 577 (by decide +kernel) rfl)
theorem l_To_126 : CL R_To 126 M_In_bitCount := Or.inl (gw_t 578 (by decide +kernel) rfl)
theorem l_La_64 : CL R_La 64 M_Tb_after := Or.inl (gw_t 579 (by decide +kernel) rfl)
theorem l_La_68 : CL R_La 68 M_Tb_down := Or.inl (gw_t 584 (by decide +kernel) rfl)
theorem l_La_72 : CL R_La 72 M_Tb_best := Or.inl (gw_t 589 (by decide +kernel) rfl)
theorem l_Se_34 : CL R_Se 34 M_Ma_min := Or.inl (gw_t 597 (by decide +kernel) rfl)
theorem l_Se_50 : CL R_Se 50 M_Se_fillReach := Or.inl (gw_t 598 (by decide +kernel) rfl)
theorem l_Se_61 : CL R_Se 61 M_Ar_fill := Or.inl (gw_t 602 (by decide +kernel) rfl)
theorem l_Se_73 : CL R_Se 73 M_Ma_max := Or.inl (gw_t 604 (by decide +kernel) rfl)
theorem l_Se_57 : CL R_Se 57 M_Se_tryTurns := Or.inl (gw_t 606 (by decide +kernel) rfl)
theorem l_Se_76 : CL R_Se 76 M_Se_bound := Or.inl (gw_t 610 (by decide +kernel) rfl)
theorem cp_Se_79 : Cond.methodLink R_Se 79 arraycopyName ∈ e_gw := gw_t 614 (by decide +kernel) rfl
theorem l_Se_85 : CL R_Se 85 M_Se_tryTurn := Or.inl (gw_t 615 (by decide +kernel) rfl)
theorem l_La_77 : CL R_La 77 M_Tb_own := Or.inl (gw_t 622 (by decide +kernel) rfl)
theorem l_To_134 : CL R_To 134 M_To_countOwn := Or.inl (gw_t 630 (by decide +kernel) rfl)
theorem l_To_137 : CL R_To 137 M_To_ownIn := Or.inl (gw_t 634 (by decide +kernel) rfl)
theorem l_La_81 : CL R_La 81 M_Tb_odds := Or.inl (gw_t 640 (by decide +kernel) rfl)
theorem l_Od_18 : CL R_Od 18 M_Ar_fill := Or.inl (gw_t 648 (by decide +kernel) rfl)
theorem cp_Od_32 : Cond.methodLink R_Od 32 arraycopyName ∈ e_gw := gw_t 654 (by decide +kernel) rfl
theorem l_Od_38 : CL R_Od 38 M_Od_carry := Or.inl (gw_t 655 (by decide +kernel) rfl)
theorem l_Od_42 : CL R_Od 42 M_Od_common := Or.inl (gw_t 663 (by decide +kernel) rfl)
theorem l_Od_46 : CL R_Od 46 M_Ma_max := Or.inl (gw_t 667 (by decide +kernel) rfl)
theorem l_La_86 : CL R_La 86 M_Tb_saw := Or.inl (gw_t 672 (by decide +kernel) rfl)
theorem l_La_90 : CL R_La 90 M_Tb_which := Or.inl (gw_t 680 (by decide +kernel) rfl)
theorem l_Tb_249 : CL R_Tb 249 M_Tb_fitting := Or.inl (gw_t 684 (by decide +kernel) rfl)
theorem l_Tb_305 : CL R_Tb 305 M_Tb_fits := Or.inl (gw_t 688 (by decide +kernel) rfl)
theorem l_Tb_313 : CL R_Tb 313 M_Tb_heightLater := Or.inl (gw_t 692 (by decide +kernel) rfl)
theorem l_La_94 : CL R_La 94 M_Tb_look := Or.inl (gw_t 697 (by decide +kernel) rfl)
theorem l_Tb_252 : CL R_Tb 252 M_Tb_greatestAlike := Or.inl (gw_t 701 (by decide +kernel) rfl)
theorem l_Tb_322 : CL R_Tb 322 M_Ar_fill := Or.inl (gw_t 705 (by decide +kernel) rfl)
theorem l_Tb_328 : CL R_Tb 328 M_Ma_max := Or.inl (gw_t 706 (by decide +kernel) rfl)
theorem l_La_98 : CL R_La 98 M_Tb_hears := Or.inl (gw_t 707 (by decide +kernel) rfl)
theorem l_La_102 : CL R_La 102 M_Tb_laws := Or.inl (gw_t 711 (by decide +kernel) rfl)
theorem l_Tb_255 : CL R_Tb 255 M_Tb_isLaw := Or.inl (gw_t 715 (by decide +kernel) rfl)
theorem l_La_106 : CL R_La 106 M_Tb_forget := Or.inl (gw_t 720 (by decide +kernel) rfl)
theorem l_La_110 : CL R_La 110 M_Tb_mark := Or.inl (gw_t 724 (by decide +kernel) rfl)
theorem l_Tb_259 : CL R_Tb 259 M_Tb_markLover := Or.inl (gw_t 728 (by decide +kernel) rfl)
theorem l_Tb_274 : CL R_Tb 274 M_Tb_markOne := Or.inl (gw_t 733 (by decide +kernel) rfl)
theorem l_Tb_262 : CL R_Tb 262 M_Tb_markGrudge := Or.inl (gw_t 737 (by decide +kernel) rfl)
theorem l_Tb_265 : CL R_Tb 265 M_Tb_markPoet := Or.inl (gw_t 742 (by decide +kernel) rfl)
theorem l_Tb_268 : CL R_Tb 268 M_Tb_markMiser := Or.inl (gw_t 747 (by decide +kernel) rfl)
theorem l_Tb_271 : CL R_Tb 271 M_Tb_markWife := Or.inl (gw_t 752 (by decide +kernel) rfl)
theorem l_La_114 : CL R_La 114 M_Tb_keep := Or.inl (gw_t 757 (by decide +kernel) rfl)
theorem l_La_118 : CL R_La 118 M_Tb_back := Or.inl (gw_t 770 (by decide +kernel) rfl)
theorem l_La_122 : CL R_La 122 M_Tb_count := Or.inl (gw_t 778 (by decide +kernel) rfl)
theorem l_La_126 : CL R_La 126 M_Tb_trace := Or.inl (gw_t 782 (by decide +kernel) rfl)
theorem l_La_12 : CL R_La 12 M_Mo_init := Or.inl (gw_t 788 (by decide +kernel) rfl)
theorem ol_Mo_1 : Cond.methodLink R_Mo 1 Lib.objectInit ∈ e_gw := gw_t 791 (by decide +kernel) rfl
theorem l_La_17 : CL R_La 17 M_Mo_type := Or.inl (gw_t 894 (by decide +kernel) rfl)
theorem l_Mo_78 : CL R_Mo 78 M_Mo_in := Or.inl (gw_t 898 (by decide +kernel) rfl)
theorem l_La_22 : CL R_La 22 M_Mo_clear := Or.inl (gw_t 901 (by decide +kernel) rfl)
theorem l_La_26 : CL R_La 26 M_Mo_sheds := Or.inl (gw_t 905 (by decide +kernel) rfl)
theorem l_Mo_131 : CL R_Mo 131 M_Mo_read := Or.inl (gw_t 909 (by decide +kernel) rfl)
theorem l_Mo_106 : CL R_Mo 106 M_Mo_step := Or.inl (gw_t 913 (by decide +kernel) rfl)
theorem l_Mo_89 : CL R_Mo 89 M_Mo_here := Or.inl (gw_t 917 (by decide +kernel) rfl)
theorem l_Mo_123 : CL R_Mo 123 M_Mo_may := Or.inl (gw_t 921 (by decide +kernel) rfl)
theorem l_Mo_109 : CL R_Mo 109 M_Mo_due := Or.inl (gw_t 925 (by decide +kernel) rfl)
theorem l_Mo_127 : CL R_Mo 127 M_Mo_item := Or.inl (gw_t 929 (by decide +kernel) rfl)
theorem l_Mo_113 : CL R_Mo 113 M_Mo_number := Or.inl (gw_t 933 (by decide +kernel) rfl)
theorem l_La_30 : CL R_La 30 M_Mo_wind := Or.inl (gw_t 937 (by decide +kernel) rfl)
theorem l_La_35 : CL R_La 35 M_Mo_one := Or.inl (gw_t 942 (by decide +kernel) rfl)
theorem l_Mo_152 : CL R_Mo 152 M_Mo_isOne := Or.inl (gw_t 946 (by decide +kernel) rfl)
theorem l_Mo_140 : CL R_Mo 140 M_Mo_has := Or.inl (gw_t 950 (by decide +kernel) rfl)
theorem l_Mo_155 : CL R_Mo 155 M_Mo_liftsOf := Or.inl (gw_t 953 (by decide +kernel) rfl)
theorem l_La_39 : CL R_La 39 M_Mo_thought := Or.inl (gw_t 957 (by decide +kernel) rfl)
theorem l_Mo_159 : CL R_Mo 159 M_Mo_isThought := Or.inl (gw_t 961 (by decide +kernel) rfl)
theorem l_La_43 : CL R_La 43 M_Mo_begins := Or.inl (gw_t 965 (by decide +kernel) rfl)
theorem l_Mo_162 : CL R_Mo 162 M_Mo_canBegin := Or.inl (gw_t 969 (by decide +kernel) rfl)
theorem l_Mo_166 : CL R_Mo 166 M_Mo_know := Or.inl (gw_t 972 (by decide +kernel) rfl)
theorem l_Mo_169 : CL R_Mo 169 M_Mo_begin := Or.inl (gw_t 976 (by decide +kernel) rfl)
theorem l_Mo_144 : CL R_Mo 144 M_Mo_hold := Or.inl (gw_t 979 (by decide +kernel) rfl)
theorem l_La_47 : CL R_La 47 M_Mo_minutes := Or.inl (gw_t 983 (by decide +kernel) rfl)
theorem l_Mo_173 : CL R_Mo 173 M_Mo_passOn := Or.inl (gw_t 987 (by decide +kernel) rfl)
theorem l_Mo_148 : CL R_Mo 148 M_Mo_weights := Or.inl (gw_t 991 (by decide +kernel) rfl)
theorem l_La_51 : CL R_La 51 M_Mo_enters := Or.inl (gw_t 995 (by decide +kernel) rfl)
theorem l_Mo_177 : CL R_Mo 177 M_Mo_isAtRest := Or.inl (gw_t 999 (by decide +kernel) rfl)
theorem l_Mo_181 : CL R_Mo 181 M_Mo_bitsOf := Or.inl (gw_t 1003 (by decide +kernel) rfl)
theorem l_La_55 : CL R_La 55 M_Mo_leaves := Or.inl (gw_t 1006 (by decide +kernel) rfl)
theorem l_La_59 : CL R_La 59 M_Mo_undo := Or.inl (gw_t 1010 (by decide +kernel) rfl)
theorem l_La_63 : CL R_La 63 M_Mo_now := Or.inl (gw_t 1014 (by decide +kernel) rfl)
theorem l_Mo_184 : CL R_Mo 184 M_Mo_cover := Or.inl (gw_t 1018 (by decide +kernel) rfl)
theorem l_La_67 : CL R_La 67 M_Mo_after := Or.inl (gw_t 1022 (by decide +kernel) rfl)
theorem l_Mo_187 : CL R_Mo 187 M_Mo_take := Or.inl (gw_t 1026 (by decide +kernel) rfl)
theorem l_La_71 : CL R_La 71 M_Mo_down := Or.inl (gw_t 1030 (by decide +kernel) rfl)
theorem l_La_76 : CL R_La 76 M_Mo_best := Or.inl (gw_t 1034 (by decide +kernel) rfl)
theorem l_Mo_190 : CL R_Mo 190 M_Mo_goBy := Or.inl (gw_t 1038 (by decide +kernel) rfl)
theorem l_La_80 : CL R_La 80 M_Mo_own := Or.inl (gw_t 1042 (by decide +kernel) rfl)
theorem l_La_85 : CL R_La 85 M_Mo_odds := Or.inl (gw_t 1046 (by decide +kernel) rfl)
theorem l_La_89 : CL R_La 89 M_Mo_saw := Or.inl (gw_t 1050 (by decide +kernel) rfl)
theorem l_La_93 : CL R_La 93 M_Mo_which := Or.inl (gw_t 1054 (by decide +kernel) rfl)
theorem l_Mo_198 : CL R_Mo 198 M_Mo_whichBy := Or.inl (gw_t 1058 (by decide +kernel) rfl)
theorem l_Mo_194 : CL R_Mo 194 M_Mo_heightBy := Or.inl (gw_t 1062 (by decide +kernel) rfl)
theorem l_La_97 : CL R_La 97 M_Mo_look := Or.inl (gw_t 1066 (by decide +kernel) rfl)
theorem l_La_101 : CL R_La 101 M_Mo_hears := Or.inl (gw_t 1070 (by decide +kernel) rfl)
theorem l_La_105 : CL R_La 105 M_Mo_laws := Or.inl (gw_t 1074 (by decide +kernel) rfl)
theorem l_La_109 : CL R_La 109 M_Mo_forget := Or.inl (gw_t 1078 (by decide +kernel) rfl)
theorem l_La_113 : CL R_La 113 M_Mo_mark := Or.inl (gw_t 1082 (by decide +kernel) rfl)
theorem l_Mo_201 : CL R_Mo 201 M_Mo_bodiesOf := Or.inl (gw_t 1086 (by decide +kernel) rfl)
theorem l_La_130 : CL R_La 130 M_Mo_trace := Or.inl (gw_t 1090 (by decide +kernel) rfl)
theorem l_La_117 : CL R_La 117 M_Mo_keep := Or.inl (gw_t 1094 (by decide +kernel) rfl)
theorem l_La_121 : CL R_La 121 M_Mo_back := Or.inl (gw_t 1098 (by decide +kernel) rfl)
theorem l_La_125 : CL R_La 125 M_Mo_count := Or.inl (gw_t 1102 (by decide +kernel) rfl)
theorem l_Tb_9 : CL R_Tb 9 M_Tx_init := Or.inr ⟨"ThoughtBalloon", nw_t 25 (by decide +kernel) rfl⟩
theorem l_Tb_18 : CL R_Tb 18 M_To_init := Or.inr ⟨"ThoughtBalloon", nw_t 58 (by decide +kernel) rfl⟩
theorem l_Tb_28 : CL R_Tb 28 M_Fl_init := Or.inr ⟨"ThoughtBalloon", nw_t 105 (by decide +kernel) rfl⟩
theorem l_Tb_38 : CL R_Tb 38 M_Hi_init := Or.inr ⟨"ThoughtBalloon", nw_t 155 (by decide +kernel) rfl⟩
theorem l_Hi_21 : CL R_Hi 21 M_Fl_init := Or.inr ⟨"ThoughtBalloon", nw_t 161 (by decide +kernel) rfl⟩
theorem l_Tb_51 : CL R_Tb 51 M_Se_init := Or.inr ⟨"ThoughtBalloon", nw_t 174 (by decide +kernel) rfl⟩
theorem l_Se_33 : CL R_Se 33 M_Fl_init := Or.inr ⟨"ThoughtBalloon", nw_t 181 (by decide +kernel) rfl⟩
theorem l_Tb_60 : CL R_Tb 60 M_Od_init := Or.inr ⟨"ThoughtBalloon", nw_t 211 (by decide +kernel) rfl⟩
theorem l_Tb_67 : CL R_Tb 67 M_Re_init := Or.inr ⟨"ThoughtBalloon", nw_t 227 (by decide +kernel) rfl⟩
theorem l_Tb_83 : CL R_Tb 83 M_Im_init := Or.inr ⟨"ThoughtBalloon", nw_t 249 (by decide +kernel) rfl⟩
theorem l_Im_9 : CL R_Im 9 M_Fl_init := Or.inr ⟨"ThoughtBalloon", nw_t 254 (by decide +kernel) rfl⟩
theorem l_Im_18 : CL R_Im 18 M_Hi_init := Or.inr ⟨"ThoughtBalloon", nw_t 256 (by decide +kernel) rfl⟩
theorem l_Tb_303 : CL R_Tb 303 M_Fl_start := Or.inr ⟨"ThoughtBalloon", nw_t 272 (by decide +kernel) rfl⟩
theorem l_Tb_258 : CL R_Tb 258 M_Re_drop := Or.inr ⟨"ThoughtBalloon", nw_t 280 (by decide +kernel) rfl⟩
theorem l_Tb_91 : CL R_Tb 91 M_Tx_add := Or.inr ⟨"ThoughtBalloon", nw_t 331 (by decide +kernel) rfl⟩
theorem l_Tb_95 : CL R_Tb 95 M_Tx_drop := Or.inr ⟨"ThoughtBalloon", nw_t 339 (by decide +kernel) rfl⟩
theorem l_Tb_99 : CL R_Tb 99 M_Tx_readInto := Or.inr ⟨"ThoughtBalloon", nw_t 347 (by decide +kernel) rfl⟩
theorem l_Tx_22 : CL R_Tx 22 M_To_tellNothing := Or.inr ⟨"ThoughtBalloon", nw_t 351 (by decide +kernel) rfl⟩
theorem l_Tx_63 : CL R_Tx 63 M_Tb_within := Or.inr ⟨"ThoughtBalloon", nw_t 393 (by decide +kernel) rfl⟩
theorem l_Tx_77 : CL R_Tx 77 M_To_tellWind := Or.inr ⟨"ThoughtBalloon", nw_t 398 (by decide +kernel) rfl⟩
theorem l_To_52 : CL R_To 52 M_Tb_within := Or.inr ⟨"ThoughtBalloon", nw_t 402 (by decide +kernel) rfl⟩
theorem l_Tx_81 : CL R_Tx 81 M_To_tellPerson := Or.inr ⟨"ThoughtBalloon", nw_t 403 (by decide +kernel) rfl⟩
theorem l_Tx_85 : CL R_Tx 85 M_To_tellThought := Or.inr ⟨"ThoughtBalloon", nw_t 407 (by decide +kernel) rfl⟩
theorem l_Tb_103 : CL R_Tb 103 M_To_copyFrom := Or.inr ⟨"ThoughtBalloon", nw_t 411 (by decide +kernel) rfl⟩
theorem l_Tb_106 : CL R_Tb 106 M_To_windAt := Or.inr ⟨"ThoughtBalloon", nw_t 422 (by decide +kernel) rfl⟩
theorem l_Tb_110 : CL R_Tb 110 M_To_hasPerson := Or.inr ⟨"ThoughtBalloon", nw_t 431 (by decide +kernel) rfl⟩
theorem l_Tb_120 : CL R_Tb 120 M_Fl_hasAboard := Or.inr ⟨"ThoughtBalloon", nw_t 435 (by decide +kernel) rfl⟩
theorem l_Tb_123 : CL R_Tb 123 M_Fl_usedBy := Or.inr ⟨"ThoughtBalloon", nw_t 439 (by decide +kernel) rfl⟩
theorem l_Tb_126 : CL R_Tb 126 M_To_liftsOf := Or.inr ⟨"ThoughtBalloon", nw_t 443 (by decide +kernel) rfl⟩
theorem l_Tb_129 : CL R_Tb 129 M_To_hasThought := Or.inr ⟨"ThoughtBalloon", nw_t 455 (by decide +kernel) rfl⟩
theorem l_Tb_142 : CL R_Tb 142 M_Fl_mayBegin := Or.inr ⟨"ThoughtBalloon", nw_t 463 (by decide +kernel) rfl⟩
theorem l_Tb_146 : CL R_Tb 146 M_Hi_push := Or.inr ⟨"ThoughtBalloon", nw_t 469 (by decide +kernel) rfl⟩
theorem l_Hi_25 : CL R_Hi 25 M_Fl_copyFrom := Or.inr ⟨"ThoughtBalloon", nw_t 477 (by decide +kernel) rfl⟩
theorem l_Tb_150 : CL R_Tb 150 M_Fl_begin := Or.inr ⟨"ThoughtBalloon", nw_t 481 (by decide +kernel) rfl⟩
theorem l_Tb_154 : CL R_Tb 154 M_To_hold := Or.inr ⟨"ThoughtBalloon", nw_t 489 (by decide +kernel) rfl⟩
theorem l_Tb_162 : CL R_Tb 162 M_To_passMinutes := Or.inr ⟨"ThoughtBalloon", nw_t 505 (by decide +kernel) rfl⟩
theorem l_To_87 : CL R_To 87 M_Fl_hasAboard := Or.inr ⟨"ThoughtBalloon", nw_t 518 (by decide +kernel) rfl⟩
theorem l_To_105 : CL R_To 105 M_Fl_climb := Or.inr ⟨"ThoughtBalloon", nw_t 519 (by decide +kernel) rfl⟩
theorem l_To_116 : CL R_To 116 M_Fl_drift := Or.inr ⟨"ThoughtBalloon", nw_t 526 (by decide +kernel) rfl⟩
theorem l_Tb_169 : CL R_Tb 169 M_Fl_mayBeBoarded := Or.inr ⟨"ThoughtBalloon", nw_t 534 (by decide +kernel) rfl⟩
theorem l_Tb_173 : CL R_Tb 173 M_Fl_takeIn := Or.inr ⟨"ThoughtBalloon", nw_t 538 (by decide +kernel) rfl⟩
theorem l_Tb_185 : CL R_Tb 185 M_Fl_letOut := Or.inr ⟨"ThoughtBalloon", nw_t 552 (by decide +kernel) rfl⟩
theorem l_Tb_191 : CL R_Tb 191 M_Hi_pop := Or.inr ⟨"ThoughtBalloon", nw_t 560 (by decide +kernel) rfl⟩
theorem l_Tb_203 : CL R_Tb 203 M_To_load := Or.inr ⟨"ThoughtBalloon", nw_t 568 (by decide +kernel) rfl⟩
theorem l_Tb_206 : CL R_Tb 206 M_To_cover := Or.inr ⟨"ThoughtBalloon", nw_t 569 (by decide +kernel) rfl⟩
theorem l_Tb_209 : CL R_Tb 209 M_Fl_copyFrom := Or.inr ⟨"ThoughtBalloon", nw_t 583 (by decide +kernel) rfl⟩
theorem l_Tb_211 : CL R_Tb 211 M_To_passMinute := Or.inr ⟨"ThoughtBalloon", nw_t 588 (by decide +kernel) rfl⟩
theorem l_Tb_214 : CL R_Tb 214 M_Se_run := Or.inr ⟨"ThoughtBalloon", nw_t 593 (by decide +kernel) rfl⟩
theorem l_Se_67 : CL R_Se 67 M_To_windAt := Or.inr ⟨"ThoughtBalloon", nw_t 603 (by decide +kernel) rfl⟩
theorem l_Se_53 : CL R_Se 53 M_Fl_copyFrom := Or.inr ⟨"ThoughtBalloon", nw_t 605 (by decide +kernel) rfl⟩
theorem l_Se_103 : CL R_Se 103 M_Fl_begin := Or.inr ⟨"ThoughtBalloon", nw_t 619 (by decide +kernel) rfl⟩
theorem l_Se_107 : CL R_Se 107 M_To_passMinute := Or.inr ⟨"ThoughtBalloon", nw_t 620 (by decide +kernel) rfl⟩
theorem l_Se_99 : CL R_Se 99 M_Fl_mayBegin := Or.inr ⟨"ThoughtBalloon", nw_t 621 (by decide +kernel) rfl⟩
theorem l_Tb_224 : CL R_Tb 224 M_To_firstOwnWay := Or.inr ⟨"ThoughtBalloon", nw_t 626 (by decide +kernel) rfl⟩
theorem l_Tb_227 : CL R_Tb 227 M_To_countOwn := Or.inr ⟨"ThoughtBalloon", nw_t 638 (by decide +kernel) rfl⟩
theorem l_Tb_230 : CL R_Tb 230 M_To_ownIn := Or.inr ⟨"ThoughtBalloon", nw_t 639 (by decide +kernel) rfl⟩
theorem l_Tb_234 : CL R_Tb 234 M_Od_startAt := Or.inr ⟨"ThoughtBalloon", nw_t 644 (by decide +kernel) rfl⟩
theorem l_Od_24 : CL R_Od 24 M_Tb_within := Or.inr ⟨"ThoughtBalloon", nw_t 649 (by decide +kernel) rfl⟩
theorem l_Tb_237 : CL R_Tb 237 M_Od_spread := Or.inr ⟨"ThoughtBalloon", nw_t 650 (by decide +kernel) rfl⟩
theorem l_Tb_240 : CL R_Tb 240 M_Od_upper := Or.inr ⟨"ThoughtBalloon", nw_t 659 (by decide +kernel) rfl⟩
theorem l_Tb_243 : CL R_Tb 243 M_Od_lower := Or.inr ⟨"ThoughtBalloon", nw_t 668 (by decide +kernel) rfl⟩
theorem l_Tb_246 : CL R_Tb 246 M_Re_add := Or.inr ⟨"ThoughtBalloon", nw_t 676 (by decide +kernel) rfl⟩
theorem l_Tb_319 : CL R_Tb 319 M_Fl_think := Or.inr ⟨"ThoughtBalloon", nw_t 696 (by decide +kernel) rfl⟩
theorem l_Tb_333 : CL R_Tb 333 M_To_faded := Or.inr ⟨"ThoughtBalloon", nw_t 719 (by decide +kernel) rfl⟩
theorem l_Tb_277 : CL R_Tb 277 M_Im_take := Or.inr ⟨"ThoughtBalloon", nw_t 761 (by decide +kernel) rfl⟩
theorem l_Im_27 : CL R_Im 27 M_Fl_copyFrom := Or.inr ⟨"ThoughtBalloon", nw_t 765 (by decide +kernel) rfl⟩
theorem l_Im_31 : CL R_Im 31 M_Hi_copyFrom := Or.inr ⟨"ThoughtBalloon", nw_t 766 (by decide +kernel) rfl⟩
theorem l_Tb_284 : CL R_Tb 284 M_Im_give := Or.inr ⟨"ThoughtBalloon", nw_t 774 (by decide +kernel) rfl⟩
theorem cl_La_7 : Cond.classLink R_La 7 R_Tb ∈ e_gw := gw_t 15 (by decide +kernel) rfl
theorem cl_Tb_7 : Cond.classLink R_Tb 7 R_Tx ∈ e_gw := gw_t 23 (by decide +kernel) rfl
theorem cl_Tb_16 : Cond.classLink R_Tb 16 R_To ∈ e_gw := gw_t 56 (by decide +kernel) rfl
theorem cl_Tb_26 : Cond.classLink R_Tb 26 R_Fl ∈ e_gw := gw_t 103 (by decide +kernel) rfl
theorem cl_Tb_36 : Cond.classLink R_Tb 36 R_Hi ∈ e_gw := gw_t 153 (by decide +kernel) rfl
theorem cl_Hi_9 : Cond.classLink R_Hi 9 R_Fl ∈ e_gw := gw_t 159 (by decide +kernel) rfl
theorem cl_Tb_43 : Cond.classLink R_Tb 43 R_Im ∈ e_gw := gw_t 170 (by decide +kernel) rfl
theorem cl_Tb_49 : Cond.classLink R_Tb 49 R_Se ∈ e_gw := gw_t 172 (by decide +kernel) rfl
theorem cl_Se_9 : Cond.classLink R_Se 9 R_Fl ∈ e_gw := gw_t 178 (by decide +kernel) rfl
theorem cl_Se_24 : Cond.classLink R_Se 24 "[[I" ∈ e_gw := gw_t 179 (by decide +kernel) rfl
theorem cl_Tb_58 : Cond.classLink R_Tb 58 R_Od ∈ e_gw := gw_t 209 (by decide +kernel) rfl
theorem cl_Tb_65 : Cond.classLink R_Tb 65 R_Re ∈ e_gw := gw_t 225 (by decide +kernel) rfl
theorem cl_Im_7 : Cond.classLink R_Im 7 R_Fl ∈ e_gw := gw_t 253 (by decide +kernel) rfl
theorem cl_Im_16 : Cond.classLink R_Im 16 R_Hi ∈ e_gw := gw_t 255 (by decide +kernel) rfl
theorem cl_La_10 : Cond.classLink R_La 10 R_Mo ∈ e_gw := gw_t 786 (by decide +kernel) rfl
theorem in_Tb : Cond.instantiable R_Tb 13 ∈ e_gw := gw_t 16 (by decide +kernel) rfl
theorem in_Tx : Cond.instantiable R_Tx 8 ∈ e_gw := gw_t 24 (by decide +kernel) rfl
theorem in_To : Cond.instantiable R_To 9 ∈ e_gw := gw_t 57 (by decide +kernel) rfl
theorem in_Fl : Cond.instantiable R_Fl 9 ∈ e_gw := gw_t 104 (by decide +kernel) rfl
theorem in_Hi : Cond.instantiable R_Hi 2 ∈ e_gw := gw_t 154 (by decide +kernel) rfl
theorem in_Se : Cond.instantiable R_Se 8 ∈ e_gw := gw_t 173 (by decide +kernel) rfl
theorem in_Od : Cond.instantiable R_Od 3 ∈ e_gw := gw_t 210 (by decide +kernel) rfl
theorem in_Re : Cond.instantiable R_Re 4 ∈ e_gw := gw_t 226 (by decide +kernel) rfl
theorem in_Im : Cond.instantiable R_Im 3 ∈ e_gw := gw_t 248 (by decide +kernel) rfl
theorem in_Mo : Cond.instantiable R_Mo 33 ∈ e_gw := gw_t 787 (by decide +kernel) rfl
theorem it_Fl : Cond.initialized R_Fl ∈ e_gw := gw_t 4 (by decide +kernel) rfl
theorem it_Hi : Cond.initialized R_Hi ∈ e_gw := gw_t 5 (by decide +kernel) rfl
theorem it_Im : Cond.initialized R_Im ∈ e_gw := gw_t 9 (by decide +kernel) rfl
theorem it_Od : Cond.initialized R_Od ∈ e_gw := gw_t 7 (by decide +kernel) rfl
theorem it_Re : Cond.initialized R_Re ∈ e_gw := gw_t 8 (by decide +kernel) rfl
theorem it_Se : Cond.initialized R_Se ∈ e_gw := gw_t 6 (by decide +kernel) rfl
theorem it_Tx : Cond.initialized R_Tx ∈ e_gw := gw_t 2 (by decide +kernel) rfl
theorem it_To : Cond.initialized R_To ∈ e_gw := gw_t 3 (by decide +kernel) rfl
theorem it_Tb : Cond.initialized R_Tb ∈ e_gw := gw_t 1 (by decide +kernel) rfl
theorem it_Mo : Cond.initialized R_Mo ∈ e_gw := gw_t 10 (by decide +kernel) rfl
theorem ck_Tb_109 : Cond.constant R_Tb 109 (-1000000) ∈ e_gw := gw_t 426 (by decide +kernel) rfl
theorem ck_In_265 : Cond.constant R_In 265 (1431655765) ∈ e_gw := gw_t 545 (by decide +kernel) rfl
theorem ck_In_266 : Cond.constant R_In 266 (858993459) ∈ e_gw := gw_t 546 (by decide +kernel) rfl
theorem ck_In_267 : Cond.constant R_In 267 (252645135) ∈ e_gw := gw_t 547 (by decide +kernel) rfl
theorem ck_Mo_151 : Cond.constant R_Mo 151 (-1000000) ∈ e_gw := gw_t 941 (by decide +kernel) rfl
theorem ck_Tb_336 : Cond.constantLong R_Tb 336 (10) ∈ e_gw := gw_t 732 (by decide +kernel) rfl
theorem ck_Tb_338 : Cond.constantLong R_Tb 338 (100) ∈ e_gw := gw_t 741 (by decide +kernel) rfl
theorem ck_Tb_340 : Cond.constantLong R_Tb 340 (1000) ∈ e_gw := gw_t 746 (by decide +kernel) rfl
theorem ck_Tb_342 : Cond.constantLong R_Tb 342 (10000) ∈ e_gw := gw_t 751 (by decide +kernel) rfl
theorem ck_Tb_344 : Cond.constantLong R_Tb 344 (100000) ∈ e_gw := gw_t 756 (by decide +kernel) rfl
theorem ck_Mo_208 : Cond.constantLong R_Mo 208 (10) ∈ e_gw := gw_t 1089 (by decide +kernel) rfl
theorem ac_int : Cond.arrayClass .int ∈ e_gw := gw_t 55 (by decide +kernel) rfl
theorem ac_byte : Cond.arrayClass .byte ∈ e_gw := gw_t 892 (by decide +kernel) rfl
theorem ac_boolean : Cond.arrayClass .boolean ∈ e_gw := gw_t 893 (by decide +kernel) rfl
theorem oi_i : Cond.instanceMethod Lib.objectInit ∈ e_gw := gw_t 21 (by decide +kernel) rfl
theorem oi_c : Cond.code Lib.objectInit ⟨#[0xb1]⟩ 1 none ∈ e_gw := gw_t 22 (by decide +kernel) rfl
theorem cp_w : Cond.native arraycopyName ∈ e_gw ∧ Cond.static arraycopyName ∈ e_gw ∧ Cond.initialized "java/lang/System" ∈ e_gw := ⟨gw_t 417 (by decide +kernel) rfl, gw_t 416 (by decide +kernel) rfl, gw_t 13 (by decide +kernel) rfl⟩
end
section
theorem d_Fl_init_0 : decode M_Fl_init.2.1 0 = .ok (.aload_n 0, 1) := by decide +kernel
theorem d_Fl_init_1 : decode M_Fl_init.2.1 1 = .ok (.invokespecial 3, 3) := by decide +kernel
theorem d_Fl_init_4 : decode M_Fl_init.2.1 4 = .ok (.return_, 1) := by decide +kernel
theorem d_Fl_start_0 : decode M_Fl_start.2.1 0 = .ok (.aload_n 0, 1) := by decide +kernel
theorem d_Fl_start_1 : decode M_Fl_start.2.1 1 = .ok (.iconst 0, 1) := by decide +kernel
theorem d_Fl_start_2 : decode M_Fl_start.2.1 2 = .ok (.putfield 9, 3) := by decide +kernel
theorem d_Fl_start_5 : decode M_Fl_start.2.1 5 = .ok (.aload_n 0, 1) := by decide +kernel
theorem d_Fl_start_6 : decode M_Fl_start.2.1 6 = .ok (.iload_n 1, 1) := by decide +kernel
theorem d_Fl_start_7 : decode M_Fl_start.2.1 7 = .ok (.putfield 15, 3) := by decide +kernel
theorem d_Fl_start_10 : decode M_Fl_start.2.1 10 = .ok (.aload_n 0, 1) := by decide +kernel
theorem d_Fl_start_11 : decode M_Fl_start.2.1 11 = .ok (.iconst 0, 1) := by decide +kernel
theorem d_Fl_start_12 : decode M_Fl_start.2.1 12 = .ok (.putfield 18, 3) := by decide +kernel
theorem d_Fl_start_15 : decode M_Fl_start.2.1 15 = .ok (.aload_n 0, 1) := by decide +kernel
theorem d_Fl_start_16 : decode M_Fl_start.2.1 16 = .ok (.invokevirtual 21, 3) := by decide +kernel
theorem d_Fl_start_19 : decode M_Fl_start.2.1 19 = .ok (.aload_n 0, 1) := by decide +kernel
theorem d_Fl_start_20 : decode M_Fl_start.2.1 20 = .ok (.iload_n 2, 1) := by decide +kernel
theorem d_Fl_start_21 : decode M_Fl_start.2.1 21 = .ok (.putfield 24, 3) := by decide +kernel
theorem d_Fl_start_24 : decode M_Fl_start.2.1 24 = .ok (.aload_n 0, 1) := by decide +kernel
theorem d_Fl_start_25 : decode M_Fl_start.2.1 25 = .ok (.iconst 0, 1) := by decide +kernel
theorem d_Fl_start_26 : decode M_Fl_start.2.1 26 = .ok (.putfield 27, 3) := by decide +kernel
theorem d_Fl_start_29 : decode M_Fl_start.2.1 29 = .ok (.aload_n 0, 1) := by decide +kernel
theorem d_Fl_start_30 : decode M_Fl_start.2.1 30 = .ok (.iconst 0, 1) := by decide +kernel
theorem d_Fl_start_31 : decode M_Fl_start.2.1 31 = .ok (.putfield 30, 3) := by decide +kernel
theorem d_Fl_start_34 : decode M_Fl_start.2.1 34 = .ok (.return_, 1) := by decide +kernel
theorem d_Fl_copyFrom_0 : decode M_Fl_copyFrom.2.1 0 = .ok (.aload_n 0, 1) := by decide +kernel
theorem d_Fl_copyFrom_1 : decode M_Fl_copyFrom.2.1 1 = .ok (.aload_n 1, 1) := by decide +kernel
theorem d_Fl_copyFrom_2 : decode M_Fl_copyFrom.2.1 2 = .ok (.getfield 9, 3) := by decide +kernel
theorem d_Fl_copyFrom_5 : decode M_Fl_copyFrom.2.1 5 = .ok (.putfield 9, 3) := by decide +kernel
theorem d_Fl_copyFrom_8 : decode M_Fl_copyFrom.2.1 8 = .ok (.aload_n 0, 1) := by decide +kernel
theorem d_Fl_copyFrom_9 : decode M_Fl_copyFrom.2.1 9 = .ok (.aload_n 1, 1) := by decide +kernel
theorem d_Fl_copyFrom_10 : decode M_Fl_copyFrom.2.1 10 = .ok (.getfield 15, 3) := by decide +kernel
theorem d_Fl_copyFrom_13 : decode M_Fl_copyFrom.2.1 13 = .ok (.putfield 15, 3) := by decide +kernel
theorem d_Fl_copyFrom_16 : decode M_Fl_copyFrom.2.1 16 = .ok (.aload_n 0, 1) := by decide +kernel
theorem d_Fl_copyFrom_17 : decode M_Fl_copyFrom.2.1 17 = .ok (.aload_n 1, 1) := by decide +kernel
theorem d_Fl_copyFrom_18 : decode M_Fl_copyFrom.2.1 18 = .ok (.getfield 18, 3) := by decide +kernel
theorem d_Fl_copyFrom_21 : decode M_Fl_copyFrom.2.1 21 = .ok (.putfield 18, 3) := by decide +kernel
theorem d_Fl_copyFrom_24 : decode M_Fl_copyFrom.2.1 24 = .ok (.aload_n 0, 1) := by decide +kernel
theorem d_Fl_copyFrom_25 : decode M_Fl_copyFrom.2.1 25 = .ok (.aload_n 1, 1) := by decide +kernel
theorem d_Fl_copyFrom_26 : decode M_Fl_copyFrom.2.1 26 = .ok (.getfield 34, 3) := by decide +kernel
theorem d_Fl_copyFrom_29 : decode M_Fl_copyFrom.2.1 29 = .ok (.putfield 34, 3) := by decide +kernel
theorem d_Fl_copyFrom_32 : decode M_Fl_copyFrom.2.1 32 = .ok (.aload_n 0, 1) := by decide +kernel
theorem d_Fl_copyFrom_33 : decode M_Fl_copyFrom.2.1 33 = .ok (.aload_n 1, 1) := by decide +kernel
theorem d_Fl_copyFrom_34 : decode M_Fl_copyFrom.2.1 34 = .ok (.getfield 37, 3) := by decide +kernel
theorem d_Fl_copyFrom_37 : decode M_Fl_copyFrom.2.1 37 = .ok (.putfield 37, 3) := by decide +kernel
theorem d_Fl_copyFrom_40 : decode M_Fl_copyFrom.2.1 40 = .ok (.aload_n 0, 1) := by decide +kernel
theorem d_Fl_copyFrom_41 : decode M_Fl_copyFrom.2.1 41 = .ok (.aload_n 1, 1) := by decide +kernel
theorem d_Fl_copyFrom_42 : decode M_Fl_copyFrom.2.1 42 = .ok (.getfield 40, 3) := by decide +kernel
theorem d_Fl_copyFrom_45 : decode M_Fl_copyFrom.2.1 45 = .ok (.putfield 40, 3) := by decide +kernel
theorem d_Fl_copyFrom_48 : decode M_Fl_copyFrom.2.1 48 = .ok (.aload_n 0, 1) := by decide +kernel
theorem d_Fl_copyFrom_49 : decode M_Fl_copyFrom.2.1 49 = .ok (.aload_n 1, 1) := by decide +kernel
theorem d_Fl_copyFrom_50 : decode M_Fl_copyFrom.2.1 50 = .ok (.getfield 24, 3) := by decide +kernel
theorem d_Fl_copyFrom_53 : decode M_Fl_copyFrom.2.1 53 = .ok (.putfield 24, 3) := by decide +kernel
theorem d_Fl_copyFrom_56 : decode M_Fl_copyFrom.2.1 56 = .ok (.aload_n 0, 1) := by decide +kernel
theorem d_Fl_copyFrom_57 : decode M_Fl_copyFrom.2.1 57 = .ok (.aload_n 1, 1) := by decide +kernel
theorem d_Fl_copyFrom_58 : decode M_Fl_copyFrom.2.1 58 = .ok (.getfield 27, 3) := by decide +kernel
theorem d_Fl_copyFrom_61 : decode M_Fl_copyFrom.2.1 61 = .ok (.putfield 27, 3) := by decide +kernel
theorem d_Fl_copyFrom_64 : decode M_Fl_copyFrom.2.1 64 = .ok (.aload_n 0, 1) := by decide +kernel
theorem d_Fl_copyFrom_65 : decode M_Fl_copyFrom.2.1 65 = .ok (.aload_n 1, 1) := by decide +kernel
theorem d_Fl_copyFrom_66 : decode M_Fl_copyFrom.2.1 66 = .ok (.getfield 30, 3) := by decide +kernel
theorem d_Fl_copyFrom_69 : decode M_Fl_copyFrom.2.1 69 = .ok (.putfield 30, 3) := by decide +kernel
theorem d_Fl_copyFrom_72 : decode M_Fl_copyFrom.2.1 72 = .ok (.return_, 1) := by decide +kernel
theorem d_Fl_hasAboard_0 : decode M_Fl_hasAboard.2.1 0 = .ok (.aload_n 0, 1) := by decide +kernel
theorem d_Fl_hasAboard_1 : decode M_Fl_hasAboard.2.1 1 = .ok (.getfield 24, 3) := by decide +kernel
theorem d_Fl_hasAboard_4 : decode M_Fl_hasAboard.2.1 4 = .ok (.iload_n 1, 1) := by decide +kernel
theorem d_Fl_hasAboard_5 : decode M_Fl_hasAboard.2.1 5 = .ok (.ishr, 1) := by decide +kernel
theorem d_Fl_hasAboard_6 : decode M_Fl_hasAboard.2.1 6 = .ok (.iconst 1, 1) := by decide +kernel
theorem d_Fl_hasAboard_7 : decode M_Fl_hasAboard.2.1 7 = .ok (.iand, 1) := by decide +kernel
theorem d_Fl_hasAboard_8 : decode M_Fl_hasAboard.2.1 8 = .ok (.iconst 1, 1) := by decide +kernel
theorem d_Fl_hasAboard_9 : decode M_Fl_hasAboard.2.1 9 = .ok (.if_icmp .ne 7, 3) := by decide +kernel
theorem d_Fl_hasAboard_12 : decode M_Fl_hasAboard.2.1 12 = .ok (.iconst 1, 1) := by decide +kernel
theorem d_Fl_hasAboard_13 : decode M_Fl_hasAboard.2.1 13 = .ok (.goto 4, 3) := by decide +kernel
theorem d_Fl_hasAboard_16 : decode M_Fl_hasAboard.2.1 16 = .ok (.iconst 0, 1) := by decide +kernel
theorem d_Fl_hasAboard_17 : decode M_Fl_hasAboard.2.1 17 = .ok (.ireturn, 1) := by decide +kernel
theorem d_Fl_usedBy_0 : decode M_Fl_usedBy.2.1 0 = .ok (.aload_n 0, 1) := by decide +kernel
theorem d_Fl_usedBy_1 : decode M_Fl_usedBy.2.1 1 = .ok (.getfield 27, 3) := by decide +kernel
theorem d_Fl_usedBy_4 : decode M_Fl_usedBy.2.1 4 = .ok (.iconst 4, 1) := by decide +kernel
theorem d_Fl_usedBy_5 : decode M_Fl_usedBy.2.1 5 = .ok (.iload_n 1, 1) := by decide +kernel
theorem d_Fl_usedBy_6 : decode M_Fl_usedBy.2.1 6 = .ok (.imul, 1) := by decide +kernel
theorem d_Fl_usedBy_7 : decode M_Fl_usedBy.2.1 7 = .ok (.ishr, 1) := by decide +kernel
theorem d_Fl_usedBy_8 : decode M_Fl_usedBy.2.1 8 = .ok (.bipush 15, 2) := by decide +kernel
theorem d_Fl_usedBy_10 : decode M_Fl_usedBy.2.1 10 = .ok (.iand, 1) := by decide +kernel
theorem d_Fl_usedBy_11 : decode M_Fl_usedBy.2.1 11 = .ok (.ireturn, 1) := by decide +kernel
theorem d_Fl_mayBegin_0 : decode M_Fl_mayBegin.2.1 0 = .ok (.aload_n 0, 1) := by decide +kernel
theorem d_Fl_mayBegin_1 : decode M_Fl_mayBegin.2.1 1 = .ok (.iload_n 1, 1) := by decide +kernel
theorem d_Fl_mayBegin_2 : decode M_Fl_mayBegin.2.1 2 = .ok (.invokevirtual 43, 3) := by decide +kernel
theorem d_Fl_mayBegin_5 : decode M_Fl_mayBegin.2.1 5 = .ok (.ifCond .eq 19, 3) := by decide +kernel
theorem d_Fl_mayBegin_8 : decode M_Fl_mayBegin.2.1 8 = .ok (.aload_n 0, 1) := by decide +kernel
theorem d_Fl_mayBegin_9 : decode M_Fl_mayBegin.2.1 9 = .ok (.iload_n 1, 1) := by decide +kernel
theorem d_Fl_mayBegin_10 : decode M_Fl_mayBegin.2.1 10 = .ok (.invokevirtual 47, 3) := by decide +kernel
theorem d_Fl_mayBegin_13 : decode M_Fl_mayBegin.2.1 13 = .ok (.iload_n 2, 1) := by decide +kernel
theorem d_Fl_mayBegin_14 : decode M_Fl_mayBegin.2.1 14 = .ok (.ishr, 1) := by decide +kernel
theorem d_Fl_mayBegin_15 : decode M_Fl_mayBegin.2.1 15 = .ok (.iconst 1, 1) := by decide +kernel
theorem d_Fl_mayBegin_16 : decode M_Fl_mayBegin.2.1 16 = .ok (.iand, 1) := by decide +kernel
theorem d_Fl_mayBegin_17 : decode M_Fl_mayBegin.2.1 17 = .ok (.ifCond .ne 7, 3) := by decide +kernel
theorem d_Fl_mayBegin_20 : decode M_Fl_mayBegin.2.1 20 = .ok (.iconst 1, 1) := by decide +kernel
theorem d_Fl_mayBegin_21 : decode M_Fl_mayBegin.2.1 21 = .ok (.goto 4, 3) := by decide +kernel
theorem d_Fl_mayBegin_24 : decode M_Fl_mayBegin.2.1 24 = .ok (.iconst 0, 1) := by decide +kernel
theorem d_Fl_mayBegin_25 : decode M_Fl_mayBegin.2.1 25 = .ok (.ireturn, 1) := by decide +kernel
theorem d_Fl_mayBeBoarded_0 : decode M_Fl_mayBeBoarded.2.1 0 = .ok (.aload_n 0, 1) := by decide +kernel
theorem d_Fl_mayBeBoarded_1 : decode M_Fl_mayBeBoarded.2.1 1 = .ok (.getfield 18, 3) := by decide +kernel
theorem d_Fl_mayBeBoarded_4 : decode M_Fl_mayBeBoarded.2.1 4 = .ok (.ifCond .ne 14, 3) := by decide +kernel
theorem d_Fl_mayBeBoarded_7 : decode M_Fl_mayBeBoarded.2.1 7 = .ok (.aload_n 0, 1) := by decide +kernel
theorem d_Fl_mayBeBoarded_8 : decode M_Fl_mayBeBoarded.2.1 8 = .ok (.getfield 30, 3) := by decide +kernel
theorem d_Fl_mayBeBoarded_11 : decode M_Fl_mayBeBoarded.2.1 11 = .ok (.ifCond .ne 7, 3) := by decide +kernel
theorem d_Fl_mayBeBoarded_14 : decode M_Fl_mayBeBoarded.2.1 14 = .ok (.iconst 1, 1) := by decide +kernel
theorem d_Fl_mayBeBoarded_15 : decode M_Fl_mayBeBoarded.2.1 15 = .ok (.goto 4, 3) := by decide +kernel
theorem d_Fl_mayBeBoarded_18 : decode M_Fl_mayBeBoarded.2.1 18 = .ok (.iconst 0, 1) := by decide +kernel
theorem d_Fl_mayBeBoarded_19 : decode M_Fl_mayBeBoarded.2.1 19 = .ok (.ireturn, 1) := by decide +kernel
theorem d_Fl_begin_0 : decode M_Fl_begin.2.1 0 = .ok (.aload_n 0, 1) := by decide +kernel
theorem d_Fl_begin_1 : decode M_Fl_begin.2.1 1 = .ok (.iload_n 1, 1) := by decide +kernel
theorem d_Fl_begin_2 : decode M_Fl_begin.2.1 2 = .ok (.iload_n 2, 1) := by decide +kernel
theorem d_Fl_begin_3 : decode M_Fl_begin.2.1 3 = .ok (.invokevirtual 51, 3) := by decide +kernel
theorem d_Fl_begin_6 : decode M_Fl_begin.2.1 6 = .ok (.aload_n 0, 1) := by decide +kernel
theorem d_Fl_begin_7 : decode M_Fl_begin.2.1 7 = .ok (.dup, 1) := by decide +kernel
theorem d_Fl_begin_8 : decode M_Fl_begin.2.1 8 = .ok (.getfield 27, 3) := by decide +kernel
theorem d_Fl_begin_11 : decode M_Fl_begin.2.1 11 = .ok (.iconst 1, 1) := by decide +kernel
theorem d_Fl_begin_12 : decode M_Fl_begin.2.1 12 = .ok (.iconst 4, 1) := by decide +kernel
theorem d_Fl_begin_13 : decode M_Fl_begin.2.1 13 = .ok (.iload_n 1, 1) := by decide +kernel
theorem d_Fl_begin_14 : decode M_Fl_begin.2.1 14 = .ok (.imul, 1) := by decide +kernel
theorem d_Fl_begin_15 : decode M_Fl_begin.2.1 15 = .ok (.iload_n 2, 1) := by decide +kernel
theorem d_Fl_begin_16 : decode M_Fl_begin.2.1 16 = .ok (.iadd, 1) := by decide +kernel
theorem d_Fl_begin_17 : decode M_Fl_begin.2.1 17 = .ok (.ishl, 1) := by decide +kernel
theorem d_Fl_begin_18 : decode M_Fl_begin.2.1 18 = .ok (.ior, 1) := by decide +kernel
theorem d_Fl_begin_19 : decode M_Fl_begin.2.1 19 = .ok (.putfield 27, 3) := by decide +kernel
theorem d_Fl_begin_22 : decode M_Fl_begin.2.1 22 = .ok (.return_, 1) := by decide +kernel
theorem d_Fl_think_0 : decode M_Fl_think.2.1 0 = .ok (.aload_n 0, 1) := by decide +kernel
theorem d_Fl_think_1 : decode M_Fl_think.2.1 1 = .ok (.iload_n 1, 1) := by decide +kernel
theorem d_Fl_think_2 : decode M_Fl_think.2.1 2 = .ok (.putfield 34, 3) := by decide +kernel
theorem d_Fl_think_5 : decode M_Fl_think.2.1 5 = .ok (.aload_n 0, 1) := by decide +kernel
theorem d_Fl_think_6 : decode M_Fl_think.2.1 6 = .ok (.iload_n 2, 1) := by decide +kernel
theorem d_Fl_think_7 : decode M_Fl_think.2.1 7 = .ok (.putfield 37, 3) := by decide +kernel
theorem d_Fl_think_10 : decode M_Fl_think.2.1 10 = .ok (.aload_n 0, 1) := by decide +kernel
theorem d_Fl_think_11 : decode M_Fl_think.2.1 11 = .ok (.aload_n 0, 1) := by decide +kernel
theorem d_Fl_think_12 : decode M_Fl_think.2.1 12 = .ok (.getfield 9, 3) := by decide +kernel
theorem d_Fl_think_15 : decode M_Fl_think.2.1 15 = .ok (.putfield 40, 3) := by decide +kernel
theorem d_Fl_think_18 : decode M_Fl_think.2.1 18 = .ok (.return_, 1) := by decide +kernel
theorem d_Fl_thinkNothing_0 : decode M_Fl_thinkNothing.2.1 0 = .ok (.aload_n 0, 1) := by decide +kernel
theorem d_Fl_thinkNothing_1 : decode M_Fl_thinkNothing.2.1 1 = .ok (.bipush (-9), 2) := by decide +kernel
theorem d_Fl_thinkNothing_3 : decode M_Fl_thinkNothing.2.1 3 = .ok (.putfield 34, 3) := by decide +kernel
theorem d_Fl_thinkNothing_6 : decode M_Fl_thinkNothing.2.1 6 = .ok (.aload_n 0, 1) := by decide +kernel
theorem d_Fl_thinkNothing_7 : decode M_Fl_thinkNothing.2.1 7 = .ok (.bipush (-9), 2) := by decide +kernel
theorem d_Fl_thinkNothing_9 : decode M_Fl_thinkNothing.2.1 9 = .ok (.putfield 37, 3) := by decide +kernel
theorem d_Fl_thinkNothing_12 : decode M_Fl_thinkNothing.2.1 12 = .ok (.aload_n 0, 1) := by decide +kernel
theorem d_Fl_thinkNothing_13 : decode M_Fl_thinkNothing.2.1 13 = .ok (.iconst 0, 1) := by decide +kernel
theorem d_Fl_thinkNothing_14 : decode M_Fl_thinkNothing.2.1 14 = .ok (.putfield 40, 3) := by decide +kernel
theorem d_Fl_thinkNothing_17 : decode M_Fl_thinkNothing.2.1 17 = .ok (.return_, 1) := by decide +kernel
theorem d_Fl_takeIn_0 : decode M_Fl_takeIn.2.1 0 = .ok (.aload_n 0, 1) := by decide +kernel
theorem d_Fl_takeIn_1 : decode M_Fl_takeIn.2.1 1 = .ok (.dup, 1) := by decide +kernel
theorem d_Fl_takeIn_2 : decode M_Fl_takeIn.2.1 2 = .ok (.getfield 24, 3) := by decide +kernel
theorem d_Fl_takeIn_5 : decode M_Fl_takeIn.2.1 5 = .ok (.iconst 1, 1) := by decide +kernel
theorem d_Fl_takeIn_6 : decode M_Fl_takeIn.2.1 6 = .ok (.iload_n 1, 1) := by decide +kernel
theorem d_Fl_takeIn_7 : decode M_Fl_takeIn.2.1 7 = .ok (.ishl, 1) := by decide +kernel
theorem d_Fl_takeIn_8 : decode M_Fl_takeIn.2.1 8 = .ok (.ior, 1) := by decide +kernel
theorem d_Fl_takeIn_9 : decode M_Fl_takeIn.2.1 9 = .ok (.putfield 24, 3) := by decide +kernel
theorem d_Fl_takeIn_12 : decode M_Fl_takeIn.2.1 12 = .ok (.return_, 1) := by decide +kernel
theorem d_Fl_letOut_0 : decode M_Fl_letOut.2.1 0 = .ok (.aload_n 0, 1) := by decide +kernel
theorem d_Fl_letOut_1 : decode M_Fl_letOut.2.1 1 = .ok (.dup, 1) := by decide +kernel
theorem d_Fl_letOut_2 : decode M_Fl_letOut.2.1 2 = .ok (.getfield 24, 3) := by decide +kernel
theorem d_Fl_letOut_5 : decode M_Fl_letOut.2.1 5 = .ok (.iconst 1, 1) := by decide +kernel
theorem d_Fl_letOut_6 : decode M_Fl_letOut.2.1 6 = .ok (.iload_n 1, 1) := by decide +kernel
theorem d_Fl_letOut_7 : decode M_Fl_letOut.2.1 7 = .ok (.ishl, 1) := by decide +kernel
theorem d_Fl_letOut_8 : decode M_Fl_letOut.2.1 8 = .ok (.iconst (-1), 1) := by decide +kernel
theorem d_Fl_letOut_9 : decode M_Fl_letOut.2.1 9 = .ok (.ixor, 1) := by decide +kernel
theorem d_Fl_letOut_10 : decode M_Fl_letOut.2.1 10 = .ok (.iand, 1) := by decide +kernel
theorem d_Fl_letOut_11 : decode M_Fl_letOut.2.1 11 = .ok (.putfield 24, 3) := by decide +kernel
theorem d_Fl_letOut_14 : decode M_Fl_letOut.2.1 14 = .ok (.aload_n 0, 1) := by decide +kernel
theorem d_Fl_letOut_15 : decode M_Fl_letOut.2.1 15 = .ok (.getfield 34, 3) := by decide +kernel
theorem d_Fl_letOut_18 : decode M_Fl_letOut.2.1 18 = .ok (.iload_n 1, 1) := by decide +kernel
theorem d_Fl_letOut_19 : decode M_Fl_letOut.2.1 19 = .ok (.if_icmp .ne 7, 3) := by decide +kernel
theorem d_Fl_letOut_22 : decode M_Fl_letOut.2.1 22 = .ok (.aload_n 0, 1) := by decide +kernel
theorem d_Fl_letOut_23 : decode M_Fl_letOut.2.1 23 = .ok (.invokevirtual 21, 3) := by decide +kernel
theorem d_Fl_letOut_26 : decode M_Fl_letOut.2.1 26 = .ok (.return_, 1) := by decide +kernel
theorem d_Fl_climb_0 : decode M_Fl_climb.2.1 0 = .ok (.aload_n 0, 1) := by decide +kernel
theorem d_Fl_climb_1 : decode M_Fl_climb.2.1 1 = .ok (.iconst 0, 1) := by decide +kernel
theorem d_Fl_climb_2 : decode M_Fl_climb.2.1 2 = .ok (.bipush 9, 2) := by decide +kernel
theorem d_Fl_climb_4 : decode M_Fl_climb.2.1 4 = .ok (.aload_n 0, 1) := by decide +kernel
theorem d_Fl_climb_5 : decode M_Fl_climb.2.1 5 = .ok (.getfield 18, 3) := by decide +kernel
theorem d_Fl_climb_8 : decode M_Fl_climb.2.1 8 = .ok (.iload_n 1, 1) := by decide +kernel
theorem d_Fl_climb_9 : decode M_Fl_climb.2.1 9 = .ok (.iadd, 1) := by decide +kernel
theorem d_Fl_climb_10 : decode M_Fl_climb.2.1 10 = .ok (.invokestatic 55, 3) := by decide +kernel
theorem d_Fl_climb_13 : decode M_Fl_climb.2.1 13 = .ok (.invokestatic 61, 3) := by decide +kernel
theorem d_Fl_climb_16 : decode M_Fl_climb.2.1 16 = .ok (.putfield 18, 3) := by decide +kernel
theorem d_Fl_climb_19 : decode M_Fl_climb.2.1 19 = .ok (.return_, 1) := by decide +kernel
theorem d_Fl_drift_0 : decode M_Fl_drift.2.1 0 = .ok (.aload_n 0, 1) := by decide +kernel
theorem d_Fl_drift_1 : decode M_Fl_drift.2.1 1 = .ok (.getfield 15, 3) := by decide +kernel
theorem d_Fl_drift_4 : decode M_Fl_drift.2.1 4 = .ok (.iload_n 1, 1) := by decide +kernel
theorem d_Fl_drift_5 : decode M_Fl_drift.2.1 5 = .ok (.iadd, 1) := by decide +kernel
theorem d_Fl_drift_6 : decode M_Fl_drift.2.1 6 = .ok (.istore_n 2, 1) := by decide +kernel
theorem d_Fl_drift_7 : decode M_Fl_drift.2.1 7 = .ok (.aload_n 0, 1) := by decide +kernel
theorem d_Fl_drift_8 : decode M_Fl_drift.2.1 8 = .ok (.iconst 0, 1) := by decide +kernel
theorem d_Fl_drift_9 : decode M_Fl_drift.2.1 9 = .ok (.bipush 40, 2) := by decide +kernel
theorem d_Fl_drift_11 : decode M_Fl_drift.2.1 11 = .ok (.iload_n 2, 1) := by decide +kernel
theorem d_Fl_drift_12 : decode M_Fl_drift.2.1 12 = .ok (.invokestatic 55, 3) := by decide +kernel
theorem d_Fl_drift_15 : decode M_Fl_drift.2.1 15 = .ok (.invokestatic 61, 3) := by decide +kernel
theorem d_Fl_drift_18 : decode M_Fl_drift.2.1 18 = .ok (.putfield 15, 3) := by decide +kernel
theorem d_Fl_drift_21 : decode M_Fl_drift.2.1 21 = .ok (.aload_n 0, 1) := by decide +kernel
theorem d_Fl_drift_22 : decode M_Fl_drift.2.1 22 = .ok (.aload_n 0, 1) := by decide +kernel
theorem d_Fl_drift_23 : decode M_Fl_drift.2.1 23 = .ok (.getfield 15, 3) := by decide +kernel
theorem d_Fl_drift_26 : decode M_Fl_drift.2.1 26 = .ok (.iload_n 2, 1) := by decide +kernel
theorem d_Fl_drift_27 : decode M_Fl_drift.2.1 27 = .ok (.if_icmp .eq 7, 3) := by decide +kernel
theorem d_Fl_drift_30 : decode M_Fl_drift.2.1 30 = .ok (.iconst 1, 1) := by decide +kernel
theorem d_Fl_drift_31 : decode M_Fl_drift.2.1 31 = .ok (.goto 4, 3) := by decide +kernel
theorem d_Fl_drift_34 : decode M_Fl_drift.2.1 34 = .ok (.iconst 0, 1) := by decide +kernel
theorem d_Fl_drift_35 : decode M_Fl_drift.2.1 35 = .ok (.putfield 30, 3) := by decide +kernel
theorem d_Fl_drift_38 : decode M_Fl_drift.2.1 38 = .ok (.return_, 1) := by decide +kernel
theorem d_Hi_init_0 : decode M_Hi_init.2.1 0 = .ok (.aload_n 0, 1) := by decide +kernel
theorem d_Hi_init_1 : decode M_Hi_init.2.1 1 = .ok (.invokespecial 3, 3) := by decide +kernel
theorem d_Hi_init_4 : decode M_Hi_init.2.1 4 = .ok (.aload_n 0, 1) := by decide +kernel
theorem d_Hi_init_5 : decode M_Hi_init.2.1 5 = .ok (.bipush 10, 2) := by decide +kernel
theorem d_Hi_init_7 : decode M_Hi_init.2.1 7 = .ok (.anewarray 9, 3) := by decide +kernel
theorem d_Hi_init_10 : decode M_Hi_init.2.1 10 = .ok (.putfield 11, 3) := by decide +kernel
theorem d_Hi_init_13 : decode M_Hi_init.2.1 13 = .ok (.aload_n 0, 1) := by decide +kernel
theorem d_Hi_init_14 : decode M_Hi_init.2.1 14 = .ok (.iconst 0, 1) := by decide +kernel
theorem d_Hi_init_15 : decode M_Hi_init.2.1 15 = .ok (.putfield 17, 3) := by decide +kernel
theorem d_Hi_init_18 : decode M_Hi_init.2.1 18 = .ok (.iconst 0, 1) := by decide +kernel
theorem d_Hi_init_19 : decode M_Hi_init.2.1 19 = .ok (.istore_n 1, 1) := by decide +kernel
theorem d_Hi_init_20 : decode M_Hi_init.2.1 20 = .ok (.iload_n 1, 1) := by decide +kernel
theorem d_Hi_init_21 : decode M_Hi_init.2.1 21 = .ok (.bipush 10, 2) := by decide +kernel
theorem d_Hi_init_23 : decode M_Hi_init.2.1 23 = .ok (.if_icmp .ge 22, 3) := by decide +kernel
theorem d_Hi_init_26 : decode M_Hi_init.2.1 26 = .ok (.aload_n 0, 1) := by decide +kernel
theorem d_Hi_init_27 : decode M_Hi_init.2.1 27 = .ok (.getfield 11, 3) := by decide +kernel
theorem d_Hi_init_30 : decode M_Hi_init.2.1 30 = .ok (.iload_n 1, 1) := by decide +kernel
theorem d_Hi_init_31 : decode M_Hi_init.2.1 31 = .ok (.new 9, 3) := by decide +kernel
theorem d_Hi_init_34 : decode M_Hi_init.2.1 34 = .ok (.dup, 1) := by decide +kernel
theorem d_Hi_init_35 : decode M_Hi_init.2.1 35 = .ok (.invokespecial 21, 3) := by decide +kernel
theorem d_Hi_init_38 : decode M_Hi_init.2.1 38 = .ok (.aastore, 1) := by decide +kernel
theorem d_Hi_init_39 : decode M_Hi_init.2.1 39 = .ok (.iinc 1 1, 3) := by decide +kernel
theorem d_Hi_init_42 : decode M_Hi_init.2.1 42 = .ok (.goto (-22), 3) := by decide +kernel
theorem d_Hi_init_45 : decode M_Hi_init.2.1 45 = .ok (.return_, 1) := by decide +kernel
theorem d_Hi_push_0 : decode M_Hi_push.2.1 0 = .ok (.aload_n 0, 1) := by decide +kernel
theorem d_Hi_push_1 : decode M_Hi_push.2.1 1 = .ok (.getfield 17, 3) := by decide +kernel
theorem d_Hi_push_4 : decode M_Hi_push.2.1 4 = .ok (.bipush 10, 2) := by decide +kernel
theorem d_Hi_push_6 : decode M_Hi_push.2.1 6 = .ok (.if_icmp .lt 7, 3) := by decide +kernel
theorem d_Hi_push_9 : decode M_Hi_push.2.1 9 = .ok (.aload_n 0, 1) := by decide +kernel
theorem d_Hi_push_10 : decode M_Hi_push.2.1 10 = .ok (.invokevirtual 22, 3) := by decide +kernel
theorem d_Hi_push_13 : decode M_Hi_push.2.1 13 = .ok (.aload_n 0, 1) := by decide +kernel
theorem d_Hi_push_14 : decode M_Hi_push.2.1 14 = .ok (.getfield 11, 3) := by decide +kernel
theorem d_Hi_push_17 : decode M_Hi_push.2.1 17 = .ok (.aload_n 0, 1) := by decide +kernel
theorem d_Hi_push_18 : decode M_Hi_push.2.1 18 = .ok (.getfield 17, 3) := by decide +kernel
theorem d_Hi_push_21 : decode M_Hi_push.2.1 21 = .ok (.aaload, 1) := by decide +kernel
theorem d_Hi_push_22 : decode M_Hi_push.2.1 22 = .ok (.aload_n 1, 1) := by decide +kernel
theorem d_Hi_push_23 : decode M_Hi_push.2.1 23 = .ok (.invokevirtual 25, 3) := by decide +kernel
theorem d_Hi_push_26 : decode M_Hi_push.2.1 26 = .ok (.aload_n 0, 1) := by decide +kernel
theorem d_Hi_push_27 : decode M_Hi_push.2.1 27 = .ok (.dup, 1) := by decide +kernel
theorem d_Hi_push_28 : decode M_Hi_push.2.1 28 = .ok (.getfield 17, 3) := by decide +kernel
theorem d_Hi_push_31 : decode M_Hi_push.2.1 31 = .ok (.iconst 1, 1) := by decide +kernel
theorem d_Hi_push_32 : decode M_Hi_push.2.1 32 = .ok (.iadd, 1) := by decide +kernel
theorem d_Hi_push_33 : decode M_Hi_push.2.1 33 = .ok (.putfield 17, 3) := by decide +kernel
theorem d_Hi_push_36 : decode M_Hi_push.2.1 36 = .ok (.return_, 1) := by decide +kernel
theorem d_Hi_dropOldest_0 : decode M_Hi_dropOldest.2.1 0 = .ok (.aload_n 0, 1) := by decide +kernel
theorem d_Hi_dropOldest_1 : decode M_Hi_dropOldest.2.1 1 = .ok (.getfield 11, 3) := by decide +kernel
theorem d_Hi_dropOldest_4 : decode M_Hi_dropOldest.2.1 4 = .ok (.iconst 0, 1) := by decide +kernel
theorem d_Hi_dropOldest_5 : decode M_Hi_dropOldest.2.1 5 = .ok (.aaload, 1) := by decide +kernel
theorem d_Hi_dropOldest_6 : decode M_Hi_dropOldest.2.1 6 = .ok (.astore_n 1, 1) := by decide +kernel
theorem d_Hi_dropOldest_7 : decode M_Hi_dropOldest.2.1 7 = .ok (.iconst 1, 1) := by decide +kernel
theorem d_Hi_dropOldest_8 : decode M_Hi_dropOldest.2.1 8 = .ok (.istore_n 2, 1) := by decide +kernel
theorem d_Hi_dropOldest_9 : decode M_Hi_dropOldest.2.1 9 = .ok (.iload_n 2, 1) := by decide +kernel
theorem d_Hi_dropOldest_10 : decode M_Hi_dropOldest.2.1 10 = .ok (.bipush 10, 2) := by decide +kernel
theorem d_Hi_dropOldest_12 : decode M_Hi_dropOldest.2.1 12 = .ok (.if_icmp .ge 23, 3) := by decide +kernel
theorem d_Hi_dropOldest_15 : decode M_Hi_dropOldest.2.1 15 = .ok (.aload_n 0, 1) := by decide +kernel
theorem d_Hi_dropOldest_16 : decode M_Hi_dropOldest.2.1 16 = .ok (.getfield 11, 3) := by decide +kernel
theorem d_Hi_dropOldest_19 : decode M_Hi_dropOldest.2.1 19 = .ok (.iload_n 2, 1) := by decide +kernel
theorem d_Hi_dropOldest_20 : decode M_Hi_dropOldest.2.1 20 = .ok (.iconst 1, 1) := by decide +kernel
theorem d_Hi_dropOldest_21 : decode M_Hi_dropOldest.2.1 21 = .ok (.isub, 1) := by decide +kernel
theorem d_Hi_dropOldest_22 : decode M_Hi_dropOldest.2.1 22 = .ok (.aload_n 0, 1) := by decide +kernel
theorem d_Hi_dropOldest_23 : decode M_Hi_dropOldest.2.1 23 = .ok (.getfield 11, 3) := by decide +kernel
theorem d_Hi_dropOldest_26 : decode M_Hi_dropOldest.2.1 26 = .ok (.iload_n 2, 1) := by decide +kernel
theorem d_Hi_dropOldest_27 : decode M_Hi_dropOldest.2.1 27 = .ok (.aaload, 1) := by decide +kernel
theorem d_Hi_dropOldest_28 : decode M_Hi_dropOldest.2.1 28 = .ok (.aastore, 1) := by decide +kernel
theorem d_Hi_dropOldest_29 : decode M_Hi_dropOldest.2.1 29 = .ok (.iinc 2 1, 3) := by decide +kernel
theorem d_Hi_dropOldest_32 : decode M_Hi_dropOldest.2.1 32 = .ok (.goto (-23), 3) := by decide +kernel
theorem d_Hi_dropOldest_35 : decode M_Hi_dropOldest.2.1 35 = .ok (.aload_n 0, 1) := by decide +kernel
theorem d_Hi_dropOldest_36 : decode M_Hi_dropOldest.2.1 36 = .ok (.getfield 11, 3) := by decide +kernel
theorem d_Hi_dropOldest_39 : decode M_Hi_dropOldest.2.1 39 = .ok (.bipush 9, 2) := by decide +kernel
theorem d_Hi_dropOldest_41 : decode M_Hi_dropOldest.2.1 41 = .ok (.aload_n 1, 1) := by decide +kernel
theorem d_Hi_dropOldest_42 : decode M_Hi_dropOldest.2.1 42 = .ok (.aastore, 1) := by decide +kernel
theorem d_Hi_dropOldest_43 : decode M_Hi_dropOldest.2.1 43 = .ok (.aload_n 0, 1) := by decide +kernel
theorem d_Hi_dropOldest_44 : decode M_Hi_dropOldest.2.1 44 = .ok (.bipush 9, 2) := by decide +kernel
theorem d_Hi_dropOldest_46 : decode M_Hi_dropOldest.2.1 46 = .ok (.putfield 17, 3) := by decide +kernel
theorem d_Hi_dropOldest_49 : decode M_Hi_dropOldest.2.1 49 = .ok (.return_, 1) := by decide +kernel
theorem d_Hi_pop_0 : decode M_Hi_pop.2.1 0 = .ok (.aload_n 0, 1) := by decide +kernel
theorem d_Hi_pop_1 : decode M_Hi_pop.2.1 1 = .ok (.getfield 17, 3) := by decide +kernel
theorem d_Hi_pop_4 : decode M_Hi_pop.2.1 4 = .ok (.ifCond .le 26, 3) := by decide +kernel
theorem d_Hi_pop_7 : decode M_Hi_pop.2.1 7 = .ok (.aload_n 0, 1) := by decide +kernel
theorem d_Hi_pop_8 : decode M_Hi_pop.2.1 8 = .ok (.dup, 1) := by decide +kernel
theorem d_Hi_pop_9 : decode M_Hi_pop.2.1 9 = .ok (.getfield 17, 3) := by decide +kernel
theorem d_Hi_pop_12 : decode M_Hi_pop.2.1 12 = .ok (.iconst 1, 1) := by decide +kernel
theorem d_Hi_pop_13 : decode M_Hi_pop.2.1 13 = .ok (.isub, 1) := by decide +kernel
theorem d_Hi_pop_14 : decode M_Hi_pop.2.1 14 = .ok (.putfield 17, 3) := by decide +kernel
theorem d_Hi_pop_17 : decode M_Hi_pop.2.1 17 = .ok (.aload_n 1, 1) := by decide +kernel
theorem d_Hi_pop_18 : decode M_Hi_pop.2.1 18 = .ok (.aload_n 0, 1) := by decide +kernel
theorem d_Hi_pop_19 : decode M_Hi_pop.2.1 19 = .ok (.getfield 11, 3) := by decide +kernel
theorem d_Hi_pop_22 : decode M_Hi_pop.2.1 22 = .ok (.aload_n 0, 1) := by decide +kernel
theorem d_Hi_pop_23 : decode M_Hi_pop.2.1 23 = .ok (.getfield 17, 3) := by decide +kernel
theorem d_Hi_pop_26 : decode M_Hi_pop.2.1 26 = .ok (.aaload, 1) := by decide +kernel
theorem d_Hi_pop_27 : decode M_Hi_pop.2.1 27 = .ok (.invokevirtual 25, 3) := by decide +kernel
theorem d_Hi_pop_30 : decode M_Hi_pop.2.1 30 = .ok (.return_, 1) := by decide +kernel
theorem d_Hi_copyFrom_0 : decode M_Hi_copyFrom.2.1 0 = .ok (.aload_n 0, 1) := by decide +kernel
theorem d_Hi_copyFrom_1 : decode M_Hi_copyFrom.2.1 1 = .ok (.aload_n 1, 1) := by decide +kernel
theorem d_Hi_copyFrom_2 : decode M_Hi_copyFrom.2.1 2 = .ok (.getfield 17, 3) := by decide +kernel
theorem d_Hi_copyFrom_5 : decode M_Hi_copyFrom.2.1 5 = .ok (.putfield 17, 3) := by decide +kernel
theorem d_Hi_copyFrom_8 : decode M_Hi_copyFrom.2.1 8 = .ok (.iconst 0, 1) := by decide +kernel
theorem d_Hi_copyFrom_9 : decode M_Hi_copyFrom.2.1 9 = .ok (.istore_n 2, 1) := by decide +kernel
theorem d_Hi_copyFrom_10 : decode M_Hi_copyFrom.2.1 10 = .ok (.iload_n 2, 1) := by decide +kernel
theorem d_Hi_copyFrom_11 : decode M_Hi_copyFrom.2.1 11 = .ok (.aload_n 0, 1) := by decide +kernel
theorem d_Hi_copyFrom_12 : decode M_Hi_copyFrom.2.1 12 = .ok (.getfield 17, 3) := by decide +kernel
theorem d_Hi_copyFrom_15 : decode M_Hi_copyFrom.2.1 15 = .ok (.if_icmp .ge 24, 3) := by decide +kernel
theorem d_Hi_copyFrom_18 : decode M_Hi_copyFrom.2.1 18 = .ok (.aload_n 0, 1) := by decide +kernel
theorem d_Hi_copyFrom_19 : decode M_Hi_copyFrom.2.1 19 = .ok (.getfield 11, 3) := by decide +kernel
theorem d_Hi_copyFrom_22 : decode M_Hi_copyFrom.2.1 22 = .ok (.iload_n 2, 1) := by decide +kernel
theorem d_Hi_copyFrom_23 : decode M_Hi_copyFrom.2.1 23 = .ok (.aaload, 1) := by decide +kernel
theorem d_Hi_copyFrom_24 : decode M_Hi_copyFrom.2.1 24 = .ok (.aload_n 1, 1) := by decide +kernel
theorem d_Hi_copyFrom_25 : decode M_Hi_copyFrom.2.1 25 = .ok (.getfield 11, 3) := by decide +kernel
theorem d_Hi_copyFrom_28 : decode M_Hi_copyFrom.2.1 28 = .ok (.iload_n 2, 1) := by decide +kernel
theorem d_Hi_copyFrom_29 : decode M_Hi_copyFrom.2.1 29 = .ok (.aaload, 1) := by decide +kernel
theorem d_Hi_copyFrom_30 : decode M_Hi_copyFrom.2.1 30 = .ok (.invokevirtual 25, 3) := by decide +kernel
theorem d_Hi_copyFrom_33 : decode M_Hi_copyFrom.2.1 33 = .ok (.iinc 2 1, 3) := by decide +kernel
theorem d_Hi_copyFrom_36 : decode M_Hi_copyFrom.2.1 36 = .ok (.goto (-26), 3) := by decide +kernel
theorem d_Hi_copyFrom_39 : decode M_Hi_copyFrom.2.1 39 = .ok (.return_, 1) := by decide +kernel
theorem d_Im_init_0 : decode M_Im_init.2.1 0 = .ok (.aload_n 0, 1) := by decide +kernel
theorem d_Im_init_1 : decode M_Im_init.2.1 1 = .ok (.invokespecial 1, 3) := by decide +kernel
theorem d_Im_init_4 : decode M_Im_init.2.1 4 = .ok (.aload_n 0, 1) := by decide +kernel
theorem d_Im_init_5 : decode M_Im_init.2.1 5 = .ok (.new 7, 3) := by decide +kernel
theorem d_Im_init_8 : decode M_Im_init.2.1 8 = .ok (.dup, 1) := by decide +kernel
theorem d_Im_init_9 : decode M_Im_init.2.1 9 = .ok (.invokespecial 9, 3) := by decide +kernel
theorem d_Im_init_12 : decode M_Im_init.2.1 12 = .ok (.putfield 10, 3) := by decide +kernel
theorem d_Im_init_15 : decode M_Im_init.2.1 15 = .ok (.aload_n 0, 1) := by decide +kernel
theorem d_Im_init_16 : decode M_Im_init.2.1 16 = .ok (.new 16, 3) := by decide +kernel
theorem d_Im_init_19 : decode M_Im_init.2.1 19 = .ok (.dup, 1) := by decide +kernel
theorem d_Im_init_20 : decode M_Im_init.2.1 20 = .ok (.invokespecial 18, 3) := by decide +kernel
theorem d_Im_init_23 : decode M_Im_init.2.1 23 = .ok (.putfield 19, 3) := by decide +kernel
theorem d_Im_init_26 : decode M_Im_init.2.1 26 = .ok (.aload_n 0, 1) := by decide +kernel
theorem d_Im_init_27 : decode M_Im_init.2.1 27 = .ok (.iconst 0, 1) := by decide +kernel
theorem d_Im_init_28 : decode M_Im_init.2.1 28 = .ok (.putfield 23, 3) := by decide +kernel
theorem d_Im_init_31 : decode M_Im_init.2.1 31 = .ok (.return_, 1) := by decide +kernel
theorem d_Im_take_0 : decode M_Im_take.2.1 0 = .ok (.aload_n 0, 1) := by decide +kernel
theorem d_Im_take_1 : decode M_Im_take.2.1 1 = .ok (.getfield 10, 3) := by decide +kernel
theorem d_Im_take_4 : decode M_Im_take.2.1 4 = .ok (.aload_n 1, 1) := by decide +kernel
theorem d_Im_take_5 : decode M_Im_take.2.1 5 = .ok (.invokevirtual 27, 3) := by decide +kernel
theorem d_Im_take_8 : decode M_Im_take.2.1 8 = .ok (.aload_n 0, 1) := by decide +kernel
theorem d_Im_take_9 : decode M_Im_take.2.1 9 = .ok (.getfield 19, 3) := by decide +kernel
theorem d_Im_take_12 : decode M_Im_take.2.1 12 = .ok (.aload_n 2, 1) := by decide +kernel
theorem d_Im_take_13 : decode M_Im_take.2.1 13 = .ok (.invokevirtual 31, 3) := by decide +kernel
theorem d_Im_take_16 : decode M_Im_take.2.1 16 = .ok (.aload_n 0, 1) := by decide +kernel
theorem d_Im_take_17 : decode M_Im_take.2.1 17 = .ok (.iconst 1, 1) := by decide +kernel
theorem d_Im_take_18 : decode M_Im_take.2.1 18 = .ok (.putfield 23, 3) := by decide +kernel
theorem d_Im_take_21 : decode M_Im_take.2.1 21 = .ok (.return_, 1) := by decide +kernel
theorem d_Im_give_0 : decode M_Im_give.2.1 0 = .ok (.aload_n 1, 1) := by decide +kernel
theorem d_Im_give_1 : decode M_Im_give.2.1 1 = .ok (.aload_n 0, 1) := by decide +kernel
theorem d_Im_give_2 : decode M_Im_give.2.1 2 = .ok (.getfield 10, 3) := by decide +kernel
theorem d_Im_give_5 : decode M_Im_give.2.1 5 = .ok (.invokevirtual 27, 3) := by decide +kernel
theorem d_Im_give_8 : decode M_Im_give.2.1 8 = .ok (.aload_n 2, 1) := by decide +kernel
theorem d_Im_give_9 : decode M_Im_give.2.1 9 = .ok (.aload_n 0, 1) := by decide +kernel
theorem d_Im_give_10 : decode M_Im_give.2.1 10 = .ok (.getfield 19, 3) := by decide +kernel
theorem d_Im_give_13 : decode M_Im_give.2.1 13 = .ok (.invokevirtual 31, 3) := by decide +kernel
theorem d_Im_give_16 : decode M_Im_give.2.1 16 = .ok (.return_, 1) := by decide +kernel
theorem d_Od_init_0 : decode M_Od_init.2.1 0 = .ok (.aload_n 0, 1) := by decide +kernel
theorem d_Od_init_1 : decode M_Od_init.2.1 1 = .ok (.invokespecial 3, 3) := by decide +kernel
theorem d_Od_init_4 : decode M_Od_init.2.1 4 = .ok (.aload_n 0, 1) := by decide +kernel
theorem d_Od_init_5 : decode M_Od_init.2.1 5 = .ok (.bipush 41, 2) := by decide +kernel
theorem d_Od_init_7 : decode M_Od_init.2.1 7 = .ok (.newarray .int, 2) := by decide +kernel
theorem d_Od_init_9 : decode M_Od_init.2.1 9 = .ok (.putfield 9, 3) := by decide +kernel
theorem d_Od_init_12 : decode M_Od_init.2.1 12 = .ok (.aload_n 0, 1) := by decide +kernel
theorem d_Od_init_13 : decode M_Od_init.2.1 13 = .ok (.bipush 41, 2) := by decide +kernel
theorem d_Od_init_15 : decode M_Od_init.2.1 15 = .ok (.newarray .int, 2) := by decide +kernel
theorem d_Od_init_17 : decode M_Od_init.2.1 17 = .ok (.putfield 15, 3) := by decide +kernel
theorem d_Od_init_20 : decode M_Od_init.2.1 20 = .ok (.return_, 1) := by decide +kernel
theorem d_Od_startAt_0 : decode M_Od_startAt.2.1 0 = .ok (.aload_n 0, 1) := by decide +kernel
theorem d_Od_startAt_1 : decode M_Od_startAt.2.1 1 = .ok (.getfield 9, 3) := by decide +kernel
theorem d_Od_startAt_4 : decode M_Od_startAt.2.1 4 = .ok (.iconst 0, 1) := by decide +kernel
theorem d_Od_startAt_5 : decode M_Od_startAt.2.1 5 = .ok (.invokestatic 18, 3) := by decide +kernel
theorem d_Od_startAt_8 : decode M_Od_startAt.2.1 8 = .ok (.iload_n 1, 1) := by decide +kernel
theorem d_Od_startAt_9 : decode M_Od_startAt.2.1 9 = .ok (.iconst 0, 1) := by decide +kernel
theorem d_Od_startAt_10 : decode M_Od_startAt.2.1 10 = .ok (.bipush 40, 2) := by decide +kernel
theorem d_Od_startAt_12 : decode M_Od_startAt.2.1 12 = .ok (.invokestatic 24, 3) := by decide +kernel
theorem d_Od_startAt_15 : decode M_Od_startAt.2.1 15 = .ok (.ifCond .eq 10, 3) := by decide +kernel
theorem d_Od_startAt_18 : decode M_Od_startAt.2.1 18 = .ok (.aload_n 0, 1) := by decide +kernel
theorem d_Od_startAt_19 : decode M_Od_startAt.2.1 19 = .ok (.getfield 9, 3) := by decide +kernel
theorem d_Od_startAt_22 : decode M_Od_startAt.2.1 22 = .ok (.iload_n 1, 1) := by decide +kernel
theorem d_Od_startAt_23 : decode M_Od_startAt.2.1 23 = .ok (.iconst 1, 1) := by decide +kernel
theorem d_Od_startAt_24 : decode M_Od_startAt.2.1 24 = .ok (.iastore, 1) := by decide +kernel
theorem d_Od_startAt_25 : decode M_Od_startAt.2.1 25 = .ok (.aload_n 0, 1) := by decide +kernel
theorem d_Od_startAt_26 : decode M_Od_startAt.2.1 26 = .ok (.iconst 1, 1) := by decide +kernel
theorem d_Od_startAt_27 : decode M_Od_startAt.2.1 27 = .ok (.putfield 28, 3) := by decide +kernel
theorem d_Od_startAt_30 : decode M_Od_startAt.2.1 30 = .ok (.return_, 1) := by decide +kernel
theorem d_Od_spread_0 : decode M_Od_spread.2.1 0 = .ok (.aload_n 0, 1) := by decide +kernel
theorem d_Od_spread_1 : decode M_Od_spread.2.1 1 = .ok (.getfield 9, 3) := by decide +kernel
theorem d_Od_spread_4 : decode M_Od_spread.2.1 4 = .ok (.iconst 0, 1) := by decide +kernel
theorem d_Od_spread_5 : decode M_Od_spread.2.1 5 = .ok (.aload_n 0, 1) := by decide +kernel
theorem d_Od_spread_6 : decode M_Od_spread.2.1 6 = .ok (.getfield 15, 3) := by decide +kernel
theorem d_Od_spread_9 : decode M_Od_spread.2.1 9 = .ok (.iconst 0, 1) := by decide +kernel
theorem d_Od_spread_10 : decode M_Od_spread.2.1 10 = .ok (.bipush 41, 2) := by decide +kernel
theorem d_Od_spread_12 : decode M_Od_spread.2.1 12 = .ok (.invokestatic 32, 3) := by decide +kernel
theorem d_Od_spread_15 : decode M_Od_spread.2.1 15 = .ok (.aload_n 0, 1) := by decide +kernel
theorem d_Od_spread_16 : decode M_Od_spread.2.1 16 = .ok (.getfield 9, 3) := by decide +kernel
theorem d_Od_spread_19 : decode M_Od_spread.2.1 19 = .ok (.iconst 0, 1) := by decide +kernel
theorem d_Od_spread_20 : decode M_Od_spread.2.1 20 = .ok (.invokestatic 18, 3) := by decide +kernel
theorem d_Od_spread_23 : decode M_Od_spread.2.1 23 = .ok (.iconst 0, 1) := by decide +kernel
theorem d_Od_spread_24 : decode M_Od_spread.2.1 24 = .ok (.istore_n 3, 1) := by decide +kernel
theorem d_Od_spread_25 : decode M_Od_spread.2.1 25 = .ok (.iload_n 3, 1) := by decide +kernel
theorem d_Od_spread_26 : decode M_Od_spread.2.1 26 = .ok (.bipush 40, 2) := by decide +kernel
theorem d_Od_spread_28 : decode M_Od_spread.2.1 28 = .ok (.if_icmp .gt 42, 3) := by decide +kernel
theorem d_Od_spread_31 : decode M_Od_spread.2.1 31 = .ok (.aload_n 0, 1) := by decide +kernel
theorem d_Od_spread_32 : decode M_Od_spread.2.1 32 = .ok (.aload_n 0, 1) := by decide +kernel
theorem d_Od_spread_33 : decode M_Od_spread.2.1 33 = .ok (.getfield 15, 3) := by decide +kernel
theorem d_Od_spread_36 : decode M_Od_spread.2.1 36 = .ok (.iload_n 3, 1) := by decide +kernel
theorem d_Od_spread_37 : decode M_Od_spread.2.1 37 = .ok (.iaload, 1) := by decide +kernel
theorem d_Od_spread_38 : decode M_Od_spread.2.1 38 = .ok (.bipush 10, 2) := by decide +kernel
theorem d_Od_spread_40 : decode M_Od_spread.2.1 40 = .ok (.iload_n 2, 1) := by decide +kernel
theorem d_Od_spread_41 : decode M_Od_spread.2.1 41 = .ok (.isub, 1) := by decide +kernel
theorem d_Od_spread_42 : decode M_Od_spread.2.1 42 = .ok (.imul, 1) := by decide +kernel
theorem d_Od_spread_43 : decode M_Od_spread.2.1 43 = .ok (.iload_n 3, 1) := by decide +kernel
theorem d_Od_spread_44 : decode M_Od_spread.2.1 44 = .ok (.iload_n 1, 1) := by decide +kernel
theorem d_Od_spread_45 : decode M_Od_spread.2.1 45 = .ok (.iadd, 1) := by decide +kernel
theorem d_Od_spread_46 : decode M_Od_spread.2.1 46 = .ok (.invokevirtual 38, 3) := by decide +kernel
theorem d_Od_spread_49 : decode M_Od_spread.2.1 49 = .ok (.aload_n 0, 1) := by decide +kernel
theorem d_Od_spread_50 : decode M_Od_spread.2.1 50 = .ok (.aload_n 0, 1) := by decide +kernel
theorem d_Od_spread_51 : decode M_Od_spread.2.1 51 = .ok (.getfield 15, 3) := by decide +kernel
theorem d_Od_spread_54 : decode M_Od_spread.2.1 54 = .ok (.iload_n 3, 1) := by decide +kernel
theorem d_Od_spread_55 : decode M_Od_spread.2.1 55 = .ok (.iaload, 1) := by decide +kernel
theorem d_Od_spread_56 : decode M_Od_spread.2.1 56 = .ok (.iload_n 2, 1) := by decide +kernel
theorem d_Od_spread_57 : decode M_Od_spread.2.1 57 = .ok (.imul, 1) := by decide +kernel
theorem d_Od_spread_58 : decode M_Od_spread.2.1 58 = .ok (.iload_n 3, 1) := by decide +kernel
theorem d_Od_spread_59 : decode M_Od_spread.2.1 59 = .ok (.iload_n 1, 1) := by decide +kernel
theorem d_Od_spread_60 : decode M_Od_spread.2.1 60 = .ok (.isub, 1) := by decide +kernel
theorem d_Od_spread_61 : decode M_Od_spread.2.1 61 = .ok (.invokevirtual 38, 3) := by decide +kernel
theorem d_Od_spread_64 : decode M_Od_spread.2.1 64 = .ok (.iinc 3 1, 3) := by decide +kernel
theorem d_Od_spread_67 : decode M_Od_spread.2.1 67 = .ok (.goto (-42), 3) := by decide +kernel
theorem d_Od_spread_70 : decode M_Od_spread.2.1 70 = .ok (.aload_n 0, 1) := by decide +kernel
theorem d_Od_spread_71 : decode M_Od_spread.2.1 71 = .ok (.dup, 1) := by decide +kernel
theorem d_Od_spread_72 : decode M_Od_spread.2.1 72 = .ok (.getfield 28, 3) := by decide +kernel
theorem d_Od_spread_75 : decode M_Od_spread.2.1 75 = .ok (.bipush 10, 2) := by decide +kernel
theorem d_Od_spread_77 : decode M_Od_spread.2.1 77 = .ok (.imul, 1) := by decide +kernel
theorem d_Od_spread_78 : decode M_Od_spread.2.1 78 = .ok (.putfield 28, 3) := by decide +kernel
theorem d_Od_spread_81 : decode M_Od_spread.2.1 81 = .ok (.return_, 1) := by decide +kernel
theorem d_Od_carry_0 : decode M_Od_carry.2.1 0 = .ok (.iload_n 2, 1) := by decide +kernel
theorem d_Od_carry_1 : decode M_Od_carry.2.1 1 = .ok (.iconst 0, 1) := by decide +kernel
theorem d_Od_carry_2 : decode M_Od_carry.2.1 2 = .ok (.bipush 40, 2) := by decide +kernel
theorem d_Od_carry_4 : decode M_Od_carry.2.1 4 = .ok (.invokestatic 24, 3) := by decide +kernel
theorem d_Od_carry_7 : decode M_Od_carry.2.1 7 = .ok (.ifCond .eq 13, 3) := by decide +kernel
theorem d_Od_carry_10 : decode M_Od_carry.2.1 10 = .ok (.aload_n 0, 1) := by decide +kernel
theorem d_Od_carry_11 : decode M_Od_carry.2.1 11 = .ok (.getfield 9, 3) := by decide +kernel
theorem d_Od_carry_14 : decode M_Od_carry.2.1 14 = .ok (.iload_n 2, 1) := by decide +kernel
theorem d_Od_carry_15 : decode M_Od_carry.2.1 15 = .ok (.dup2, 1) := by decide +kernel
theorem d_Od_carry_16 : decode M_Od_carry.2.1 16 = .ok (.iaload, 1) := by decide +kernel
theorem d_Od_carry_17 : decode M_Od_carry.2.1 17 = .ok (.iload_n 1, 1) := by decide +kernel
theorem d_Od_carry_18 : decode M_Od_carry.2.1 18 = .ok (.iadd, 1) := by decide +kernel
theorem d_Od_carry_19 : decode M_Od_carry.2.1 19 = .ok (.iastore, 1) := by decide +kernel
theorem d_Od_carry_20 : decode M_Od_carry.2.1 20 = .ok (.return_, 1) := by decide +kernel
theorem d_Od_upper_0 : decode M_Od_upper.2.1 0 = .ok (.aload_n 0, 1) := by decide +kernel
theorem d_Od_upper_1 : decode M_Od_upper.2.1 1 = .ok (.getfield 9, 3) := by decide +kernel
theorem d_Od_upper_4 : decode M_Od_upper.2.1 4 = .ok (.iload_n 1, 1) := by decide +kernel
theorem d_Od_upper_5 : decode M_Od_upper.2.1 5 = .ok (.iaload, 1) := by decide +kernel
theorem d_Od_upper_6 : decode M_Od_upper.2.1 6 = .ok (.aload_n 0, 1) := by decide +kernel
theorem d_Od_upper_7 : decode M_Od_upper.2.1 7 = .ok (.iload_n 1, 1) := by decide +kernel
theorem d_Od_upper_8 : decode M_Od_upper.2.1 8 = .ok (.invokevirtual 42, 3) := by decide +kernel
theorem d_Od_upper_11 : decode M_Od_upper.2.1 11 = .ok (.idiv, 1) := by decide +kernel
theorem d_Od_upper_12 : decode M_Od_upper.2.1 12 = .ok (.ireturn, 1) := by decide +kernel
theorem d_Od_lower_0 : decode M_Od_lower.2.1 0 = .ok (.aload_n 0, 1) := by decide +kernel
theorem d_Od_lower_1 : decode M_Od_lower.2.1 1 = .ok (.getfield 28, 3) := by decide +kernel
theorem d_Od_lower_4 : decode M_Od_lower.2.1 4 = .ok (.aload_n 0, 1) := by decide +kernel
theorem d_Od_lower_5 : decode M_Od_lower.2.1 5 = .ok (.iload_n 1, 1) := by decide +kernel
theorem d_Od_lower_6 : decode M_Od_lower.2.1 6 = .ok (.invokevirtual 42, 3) := by decide +kernel
theorem d_Od_lower_9 : decode M_Od_lower.2.1 9 = .ok (.idiv, 1) := by decide +kernel
theorem d_Od_lower_10 : decode M_Od_lower.2.1 10 = .ok (.ireturn, 1) := by decide +kernel
theorem d_Od_common_0 : decode M_Od_common.2.1 0 = .ok (.aload_n 0, 1) := by decide +kernel
theorem d_Od_common_1 : decode M_Od_common.2.1 1 = .ok (.getfield 28, 3) := by decide +kernel
theorem d_Od_common_4 : decode M_Od_common.2.1 4 = .ok (.istore_n 2, 1) := by decide +kernel
theorem d_Od_common_5 : decode M_Od_common.2.1 5 = .ok (.aload_n 0, 1) := by decide +kernel
theorem d_Od_common_6 : decode M_Od_common.2.1 6 = .ok (.getfield 9, 3) := by decide +kernel
theorem d_Od_common_9 : decode M_Od_common.2.1 9 = .ok (.iload_n 1, 1) := by decide +kernel
theorem d_Od_common_10 : decode M_Od_common.2.1 10 = .ok (.iaload, 1) := by decide +kernel
theorem d_Od_common_11 : decode M_Od_common.2.1 11 = .ok (.istore_n 3, 1) := by decide +kernel
theorem d_Od_common_12 : decode M_Od_common.2.1 12 = .ok (.iconst 0, 1) := by decide +kernel
theorem d_Od_common_13 : decode M_Od_common.2.1 13 = .ok (.istore 4, 2) := by decide +kernel
theorem d_Od_common_15 : decode M_Od_common.2.1 15 = .ok (.iload 4, 2) := by decide +kernel
theorem d_Od_common_17 : decode M_Od_common.2.1 17 = .ok (.bipush 100, 2) := by decide +kernel
theorem d_Od_common_19 : decode M_Od_common.2.1 19 = .ok (.if_icmp .ge 23, 3) := by decide +kernel
theorem d_Od_common_22 : decode M_Od_common.2.1 22 = .ok (.iload_n 3, 1) := by decide +kernel
theorem d_Od_common_23 : decode M_Od_common.2.1 23 = .ok (.ifCond .eq 19, 3) := by decide +kernel
theorem d_Od_common_26 : decode M_Od_common.2.1 26 = .ok (.iload_n 2, 1) := by decide +kernel
theorem d_Od_common_27 : decode M_Od_common.2.1 27 = .ok (.iload_n 3, 1) := by decide +kernel
theorem d_Od_common_28 : decode M_Od_common.2.1 28 = .ok (.irem, 1) := by decide +kernel
theorem d_Od_common_29 : decode M_Od_common.2.1 29 = .ok (.istore 5, 2) := by decide +kernel
theorem d_Od_common_31 : decode M_Od_common.2.1 31 = .ok (.iload_n 3, 1) := by decide +kernel
theorem d_Od_common_32 : decode M_Od_common.2.1 32 = .ok (.istore_n 2, 1) := by decide +kernel
theorem d_Od_common_33 : decode M_Od_common.2.1 33 = .ok (.iload 5, 2) := by decide +kernel
theorem d_Od_common_35 : decode M_Od_common.2.1 35 = .ok (.istore_n 3, 1) := by decide +kernel
theorem d_Od_common_36 : decode M_Od_common.2.1 36 = .ok (.iinc 4 1, 3) := by decide +kernel
theorem d_Od_common_39 : decode M_Od_common.2.1 39 = .ok (.goto (-24), 3) := by decide +kernel
theorem d_Od_common_42 : decode M_Od_common.2.1 42 = .ok (.iconst 1, 1) := by decide +kernel
theorem d_Od_common_43 : decode M_Od_common.2.1 43 = .ok (.iload_n 2, 1) := by decide +kernel
theorem d_Od_common_44 : decode M_Od_common.2.1 44 = .ok (.invokestatic 46, 3) := by decide +kernel
theorem d_Od_common_47 : decode M_Od_common.2.1 47 = .ok (.ireturn, 1) := by decide +kernel
theorem d_Re_init_0 : decode M_Re_init.2.1 0 = .ok (.aload_n 0, 1) := by decide +kernel
theorem d_Re_init_1 : decode M_Re_init.2.1 1 = .ok (.invokespecial 3, 3) := by decide +kernel
theorem d_Re_init_4 : decode M_Re_init.2.1 4 = .ok (.aload_n 0, 1) := by decide +kernel
theorem d_Re_init_5 : decode M_Re_init.2.1 5 = .ok (.bipush 6, 2) := by decide +kernel
theorem d_Re_init_7 : decode M_Re_init.2.1 7 = .ok (.newarray .int, 2) := by decide +kernel
theorem d_Re_init_9 : decode M_Re_init.2.1 9 = .ok (.putfield 9, 3) := by decide +kernel
theorem d_Re_init_12 : decode M_Re_init.2.1 12 = .ok (.aload_n 0, 1) := by decide +kernel
theorem d_Re_init_13 : decode M_Re_init.2.1 13 = .ok (.bipush 6, 2) := by decide +kernel
theorem d_Re_init_15 : decode M_Re_init.2.1 15 = .ok (.newarray .int, 2) := by decide +kernel
theorem d_Re_init_17 : decode M_Re_init.2.1 17 = .ok (.putfield 15, 3) := by decide +kernel
theorem d_Re_init_20 : decode M_Re_init.2.1 20 = .ok (.aload_n 0, 1) := by decide +kernel
theorem d_Re_init_21 : decode M_Re_init.2.1 21 = .ok (.bipush 6, 2) := by decide +kernel
theorem d_Re_init_23 : decode M_Re_init.2.1 23 = .ok (.newarray .int, 2) := by decide +kernel
theorem d_Re_init_25 : decode M_Re_init.2.1 25 = .ok (.putfield 18, 3) := by decide +kernel
theorem d_Re_init_28 : decode M_Re_init.2.1 28 = .ok (.aload_n 0, 1) := by decide +kernel
theorem d_Re_init_29 : decode M_Re_init.2.1 29 = .ok (.iconst 0, 1) := by decide +kernel
theorem d_Re_init_30 : decode M_Re_init.2.1 30 = .ok (.putfield 21, 3) := by decide +kernel
theorem d_Re_init_33 : decode M_Re_init.2.1 33 = .ok (.return_, 1) := by decide +kernel
theorem d_Re_add_0 : decode M_Re_add.2.1 0 = .ok (.aload_n 0, 1) := by decide +kernel
theorem d_Re_add_1 : decode M_Re_add.2.1 1 = .ok (.getfield 21, 3) := by decide +kernel
theorem d_Re_add_4 : decode M_Re_add.2.1 4 = .ok (.bipush 6, 2) := by decide +kernel
theorem d_Re_add_6 : decode M_Re_add.2.1 6 = .ok (.if_icmp .lt 6, 3) := by decide +kernel
theorem d_Re_add_9 : decode M_Re_add.2.1 9 = .ok (.bipush (-3), 2) := by decide +kernel
theorem d_Re_add_11 : decode M_Re_add.2.1 11 = .ok (.ireturn, 1) := by decide +kernel
theorem d_Re_add_12 : decode M_Re_add.2.1 12 = .ok (.aload_n 0, 1) := by decide +kernel
theorem d_Re_add_13 : decode M_Re_add.2.1 13 = .ok (.getfield 9, 3) := by decide +kernel
theorem d_Re_add_16 : decode M_Re_add.2.1 16 = .ok (.aload_n 0, 1) := by decide +kernel
theorem d_Re_add_17 : decode M_Re_add.2.1 17 = .ok (.getfield 21, 3) := by decide +kernel
theorem d_Re_add_20 : decode M_Re_add.2.1 20 = .ok (.iload_n 1, 1) := by decide +kernel
theorem d_Re_add_21 : decode M_Re_add.2.1 21 = .ok (.iastore, 1) := by decide +kernel
theorem d_Re_add_22 : decode M_Re_add.2.1 22 = .ok (.aload_n 0, 1) := by decide +kernel
theorem d_Re_add_23 : decode M_Re_add.2.1 23 = .ok (.getfield 15, 3) := by decide +kernel
theorem d_Re_add_26 : decode M_Re_add.2.1 26 = .ok (.aload_n 0, 1) := by decide +kernel
theorem d_Re_add_27 : decode M_Re_add.2.1 27 = .ok (.getfield 21, 3) := by decide +kernel
theorem d_Re_add_30 : decode M_Re_add.2.1 30 = .ok (.iload_n 2, 1) := by decide +kernel
theorem d_Re_add_31 : decode M_Re_add.2.1 31 = .ok (.iastore, 1) := by decide +kernel
theorem d_Re_add_32 : decode M_Re_add.2.1 32 = .ok (.aload_n 0, 1) := by decide +kernel
theorem d_Re_add_33 : decode M_Re_add.2.1 33 = .ok (.getfield 18, 3) := by decide +kernel
theorem d_Re_add_36 : decode M_Re_add.2.1 36 = .ok (.aload_n 0, 1) := by decide +kernel
theorem d_Re_add_37 : decode M_Re_add.2.1 37 = .ok (.getfield 21, 3) := by decide +kernel
theorem d_Re_add_40 : decode M_Re_add.2.1 40 = .ok (.iload_n 3, 1) := by decide +kernel
theorem d_Re_add_41 : decode M_Re_add.2.1 41 = .ok (.iastore, 1) := by decide +kernel
theorem d_Re_add_42 : decode M_Re_add.2.1 42 = .ok (.aload_n 0, 1) := by decide +kernel
theorem d_Re_add_43 : decode M_Re_add.2.1 43 = .ok (.dup, 1) := by decide +kernel
theorem d_Re_add_44 : decode M_Re_add.2.1 44 = .ok (.getfield 21, 3) := by decide +kernel
theorem d_Re_add_47 : decode M_Re_add.2.1 47 = .ok (.iconst 1, 1) := by decide +kernel
theorem d_Re_add_48 : decode M_Re_add.2.1 48 = .ok (.iadd, 1) := by decide +kernel
theorem d_Re_add_49 : decode M_Re_add.2.1 49 = .ok (.putfield 21, 3) := by decide +kernel
theorem d_Re_add_52 : decode M_Re_add.2.1 52 = .ok (.aload_n 0, 1) := by decide +kernel
theorem d_Re_add_53 : decode M_Re_add.2.1 53 = .ok (.getfield 21, 3) := by decide +kernel
theorem d_Re_add_56 : decode M_Re_add.2.1 56 = .ok (.ireturn, 1) := by decide +kernel
theorem d_Re_drop_0 : decode M_Re_drop.2.1 0 = .ok (.aload_n 0, 1) := by decide +kernel
theorem d_Re_drop_1 : decode M_Re_drop.2.1 1 = .ok (.getfield 21, 3) := by decide +kernel
theorem d_Re_drop_4 : decode M_Re_drop.2.1 4 = .ok (.istore_n 1, 1) := by decide +kernel
theorem d_Re_drop_5 : decode M_Re_drop.2.1 5 = .ok (.aload_n 0, 1) := by decide +kernel
theorem d_Re_drop_6 : decode M_Re_drop.2.1 6 = .ok (.iconst 0, 1) := by decide +kernel
theorem d_Re_drop_7 : decode M_Re_drop.2.1 7 = .ok (.putfield 21, 3) := by decide +kernel
theorem d_Re_drop_10 : decode M_Re_drop.2.1 10 = .ok (.iload_n 1, 1) := by decide +kernel
theorem d_Re_drop_11 : decode M_Re_drop.2.1 11 = .ok (.ireturn, 1) := by decide +kernel
theorem d_Se_init_0 : decode M_Se_init.2.1 0 = .ok (.aload_n 0, 1) := by decide +kernel
theorem d_Se_init_1 : decode M_Se_init.2.1 1 = .ok (.invokespecial 3, 3) := by decide +kernel
theorem d_Se_init_4 : decode M_Se_init.2.1 4 = .ok (.aload_n 0, 1) := by decide +kernel
theorem d_Se_init_5 : decode M_Se_init.2.1 5 = .ok (.iconst 5, 1) := by decide +kernel
theorem d_Se_init_6 : decode M_Se_init.2.1 6 = .ok (.anewarray 9, 3) := by decide +kernel
theorem d_Se_init_9 : decode M_Se_init.2.1 9 = .ok (.putfield 11, 3) := by decide +kernel
theorem d_Se_init_12 : decode M_Se_init.2.1 12 = .ok (.aload_n 0, 1) := by decide +kernel
theorem d_Se_init_13 : decode M_Se_init.2.1 13 = .ok (.iconst 4, 1) := by decide +kernel
theorem d_Se_init_14 : decode M_Se_init.2.1 14 = .ok (.newarray .int, 2) := by decide +kernel
theorem d_Se_init_16 : decode M_Se_init.2.1 16 = .ok (.putfield 17, 3) := by decide +kernel
theorem d_Se_init_19 : decode M_Se_init.2.1 19 = .ok (.aload_n 0, 1) := by decide +kernel
theorem d_Se_init_20 : decode M_Se_init.2.1 20 = .ok (.iconst 4, 1) := by decide +kernel
theorem d_Se_init_21 : decode M_Se_init.2.1 21 = .ok (.newarray .int, 2) := by decide +kernel
theorem d_Se_init_23 : decode M_Se_init.2.1 23 = .ok (.putfield 21, 3) := by decide +kernel
theorem d_Se_init_26 : decode M_Se_init.2.1 26 = .ok (.aload_n 0, 1) := by decide +kernel
theorem d_Se_init_27 : decode M_Se_init.2.1 27 = .ok (.iconst 5, 1) := by decide +kernel
theorem d_Se_init_28 : decode M_Se_init.2.1 28 = .ok (.bipush 10, 2) := by decide +kernel
theorem d_Se_init_30 : decode M_Se_init.2.1 30 = .ok (.multianewarray 24 2, 4) := by decide +kernel
theorem d_Se_init_34 : decode M_Se_init.2.1 34 = .ok (.putfield 26, 3) := by decide +kernel
theorem d_Se_init_37 : decode M_Se_init.2.1 37 = .ok (.aload_n 0, 1) := by decide +kernel
theorem d_Se_init_38 : decode M_Se_init.2.1 38 = .ok (.aload_n 1, 1) := by decide +kernel
theorem d_Se_init_39 : decode M_Se_init.2.1 39 = .ok (.putfield 29, 3) := by decide +kernel
theorem d_Se_init_42 : decode M_Se_init.2.1 42 = .ok (.iconst 0, 1) := by decide +kernel
theorem d_Se_init_43 : decode M_Se_init.2.1 43 = .ok (.istore_n 2, 1) := by decide +kernel
theorem d_Se_init_44 : decode M_Se_init.2.1 44 = .ok (.iload_n 2, 1) := by decide +kernel
theorem d_Se_init_45 : decode M_Se_init.2.1 45 = .ok (.iconst 4, 1) := by decide +kernel
theorem d_Se_init_46 : decode M_Se_init.2.1 46 = .ok (.if_icmp .gt 22, 3) := by decide +kernel
theorem d_Se_init_49 : decode M_Se_init.2.1 49 = .ok (.aload_n 0, 1) := by decide +kernel
theorem d_Se_init_50 : decode M_Se_init.2.1 50 = .ok (.getfield 11, 3) := by decide +kernel
theorem d_Se_init_53 : decode M_Se_init.2.1 53 = .ok (.iload_n 2, 1) := by decide +kernel
theorem d_Se_init_54 : decode M_Se_init.2.1 54 = .ok (.new 9, 3) := by decide +kernel
theorem d_Se_init_57 : decode M_Se_init.2.1 57 = .ok (.dup, 1) := by decide +kernel
theorem d_Se_init_58 : decode M_Se_init.2.1 58 = .ok (.invokespecial 33, 3) := by decide +kernel
theorem d_Se_init_61 : decode M_Se_init.2.1 61 = .ok (.aastore, 1) := by decide +kernel
theorem d_Se_init_62 : decode M_Se_init.2.1 62 = .ok (.iinc 2 1, 3) := by decide +kernel
theorem d_Se_init_65 : decode M_Se_init.2.1 65 = .ok (.goto (-21), 3) := by decide +kernel
theorem d_Se_init_68 : decode M_Se_init.2.1 68 = .ok (.return_, 1) := by decide +kernel
theorem d_Se_run_0 : decode M_Se_run.2.1 0 = .ok (.aload_n 0, 1) := by decide +kernel
theorem d_Se_run_1 : decode M_Se_run.2.1 1 = .ok (.iload_n 2, 1) := by decide +kernel
theorem d_Se_run_2 : decode M_Se_run.2.1 2 = .ok (.iconst 4, 1) := by decide +kernel
theorem d_Se_run_3 : decode M_Se_run.2.1 3 = .ok (.invokestatic 34, 3) := by decide +kernel
theorem d_Se_run_6 : decode M_Se_run.2.1 6 = .ok (.putfield 40, 3) := by decide +kernel
theorem d_Se_run_9 : decode M_Se_run.2.1 9 = .ok (.aload_n 0, 1) := by decide +kernel
theorem d_Se_run_10 : decode M_Se_run.2.1 10 = .ok (.iload_n 3, 1) := by decide +kernel
theorem d_Se_run_11 : decode M_Se_run.2.1 11 = .ok (.putfield 44, 3) := by decide +kernel
theorem d_Se_run_14 : decode M_Se_run.2.1 14 = .ok (.aload_n 0, 1) := by decide +kernel
theorem d_Se_run_15 : decode M_Se_run.2.1 15 = .ok (.iconst (-1), 1) := by decide +kernel
theorem d_Se_run_16 : decode M_Se_run.2.1 16 = .ok (.putfield 47, 3) := by decide +kernel
theorem d_Se_run_19 : decode M_Se_run.2.1 19 = .ok (.aload_n 0, 1) := by decide +kernel
theorem d_Se_run_20 : decode M_Se_run.2.1 20 = .ok (.invokevirtual 50, 3) := by decide +kernel
theorem d_Se_run_23 : decode M_Se_run.2.1 23 = .ok (.aload_n 0, 1) := by decide +kernel
theorem d_Se_run_24 : decode M_Se_run.2.1 24 = .ok (.getfield 11, 3) := by decide +kernel
theorem d_Se_run_27 : decode M_Se_run.2.1 27 = .ok (.iconst 0, 1) := by decide +kernel
theorem d_Se_run_28 : decode M_Se_run.2.1 28 = .ok (.aaload, 1) := by decide +kernel
theorem d_Se_run_29 : decode M_Se_run.2.1 29 = .ok (.aload_n 1, 1) := by decide +kernel
theorem d_Se_run_30 : decode M_Se_run.2.1 30 = .ok (.invokevirtual 53, 3) := by decide +kernel
theorem d_Se_run_33 : decode M_Se_run.2.1 33 = .ok (.aload_n 0, 1) := by decide +kernel
theorem d_Se_run_34 : decode M_Se_run.2.1 34 = .ok (.iconst 0, 1) := by decide +kernel
theorem d_Se_run_35 : decode M_Se_run.2.1 35 = .ok (.invokevirtual 57, 3) := by decide +kernel
theorem d_Se_run_38 : decode M_Se_run.2.1 38 = .ok (.return_, 1) := by decide +kernel
theorem d_Se_fillReach_0 : decode M_Se_fillReach.2.1 0 = .ok (.aload_n 0, 1) := by decide +kernel
theorem d_Se_fillReach_1 : decode M_Se_fillReach.2.1 1 = .ok (.getfield 26, 3) := by decide +kernel
theorem d_Se_fillReach_4 : decode M_Se_fillReach.2.1 4 = .ok (.iconst 0, 1) := by decide +kernel
theorem d_Se_fillReach_5 : decode M_Se_fillReach.2.1 5 = .ok (.aaload, 1) := by decide +kernel
theorem d_Se_fillReach_6 : decode M_Se_fillReach.2.1 6 = .ok (.iconst 0, 1) := by decide +kernel
theorem d_Se_fillReach_7 : decode M_Se_fillReach.2.1 7 = .ok (.invokestatic 61, 3) := by decide +kernel
theorem d_Se_fillReach_10 : decode M_Se_fillReach.2.1 10 = .ok (.iconst 1, 1) := by decide +kernel
theorem d_Se_fillReach_11 : decode M_Se_fillReach.2.1 11 = .ok (.istore_n 1, 1) := by decide +kernel
theorem d_Se_fillReach_12 : decode M_Se_fillReach.2.1 12 = .ok (.iload_n 1, 1) := by decide +kernel
theorem d_Se_fillReach_13 : decode M_Se_fillReach.2.1 13 = .ok (.iconst 4, 1) := by decide +kernel
theorem d_Se_fillReach_14 : decode M_Se_fillReach.2.1 14 = .ok (.if_icmp .gt 114, 3) := by decide +kernel
theorem d_Se_fillReach_17 : decode M_Se_fillReach.2.1 17 = .ok (.iconst 0, 1) := by decide +kernel
theorem d_Se_fillReach_18 : decode M_Se_fillReach.2.1 18 = .ok (.istore_n 2, 1) := by decide +kernel
theorem d_Se_fillReach_19 : decode M_Se_fillReach.2.1 19 = .ok (.iload_n 2, 1) := by decide +kernel
theorem d_Se_fillReach_20 : decode M_Se_fillReach.2.1 20 = .ok (.bipush 9, 2) := by decide +kernel
theorem d_Se_fillReach_22 : decode M_Se_fillReach.2.1 22 = .ok (.if_icmp .gt 100, 3) := by decide +kernel
theorem d_Se_fillReach_25 : decode M_Se_fillReach.2.1 25 = .ok (.aload_n 0, 1) := by decide +kernel
theorem d_Se_fillReach_26 : decode M_Se_fillReach.2.1 26 = .ok (.getfield 26, 3) := by decide +kernel
theorem d_Se_fillReach_29 : decode M_Se_fillReach.2.1 29 = .ok (.iload_n 1, 1) := by decide +kernel
theorem d_Se_fillReach_30 : decode M_Se_fillReach.2.1 30 = .ok (.aaload, 1) := by decide +kernel
theorem d_Se_fillReach_31 : decode M_Se_fillReach.2.1 31 = .ok (.iload_n 2, 1) := by decide +kernel
theorem d_Se_fillReach_32 : decode M_Se_fillReach.2.1 32 = .ok (.aload_n 0, 1) := by decide +kernel
theorem d_Se_fillReach_33 : decode M_Se_fillReach.2.1 33 = .ok (.getfield 29, 3) := by decide +kernel
theorem d_Se_fillReach_36 : decode M_Se_fillReach.2.1 36 = .ok (.iload_n 2, 1) := by decide +kernel
theorem d_Se_fillReach_37 : decode M_Se_fillReach.2.1 37 = .ok (.invokevirtual 67, 3) := by decide +kernel
theorem d_Se_fillReach_40 : decode M_Se_fillReach.2.1 40 = .ok (.aload_n 0, 1) := by decide +kernel
theorem d_Se_fillReach_41 : decode M_Se_fillReach.2.1 41 = .ok (.getfield 26, 3) := by decide +kernel
theorem d_Se_fillReach_44 : decode M_Se_fillReach.2.1 44 = .ok (.iload_n 1, 1) := by decide +kernel
theorem d_Se_fillReach_45 : decode M_Se_fillReach.2.1 45 = .ok (.iconst 1, 1) := by decide +kernel
theorem d_Se_fillReach_46 : decode M_Se_fillReach.2.1 46 = .ok (.isub, 1) := by decide +kernel
theorem d_Se_fillReach_47 : decode M_Se_fillReach.2.1 47 = .ok (.aaload, 1) := by decide +kernel
theorem d_Se_fillReach_48 : decode M_Se_fillReach.2.1 48 = .ok (.iload_n 2, 1) := by decide +kernel
theorem d_Se_fillReach_49 : decode M_Se_fillReach.2.1 49 = .ok (.iaload, 1) := by decide +kernel
theorem d_Se_fillReach_50 : decode M_Se_fillReach.2.1 50 = .ok (.iadd, 1) := by decide +kernel
theorem d_Se_fillReach_51 : decode M_Se_fillReach.2.1 51 = .ok (.iastore, 1) := by decide +kernel
theorem d_Se_fillReach_52 : decode M_Se_fillReach.2.1 52 = .ok (.iconst 0, 1) := by decide +kernel
theorem d_Se_fillReach_53 : decode M_Se_fillReach.2.1 53 = .ok (.iload_n 2, 1) := by decide +kernel
theorem d_Se_fillReach_54 : decode M_Se_fillReach.2.1 54 = .ok (.iconst 1, 1) := by decide +kernel
theorem d_Se_fillReach_55 : decode M_Se_fillReach.2.1 55 = .ok (.isub, 1) := by decide +kernel
theorem d_Se_fillReach_56 : decode M_Se_fillReach.2.1 56 = .ok (.invokestatic 73, 3) := by decide +kernel
theorem d_Se_fillReach_59 : decode M_Se_fillReach.2.1 59 = .ok (.istore_n 3, 1) := by decide +kernel
theorem d_Se_fillReach_60 : decode M_Se_fillReach.2.1 60 = .ok (.iload_n 3, 1) := by decide +kernel
theorem d_Se_fillReach_61 : decode M_Se_fillReach.2.1 61 = .ok (.bipush 9, 2) := by decide +kernel
theorem d_Se_fillReach_63 : decode M_Se_fillReach.2.1 63 = .ok (.iload_n 2, 1) := by decide +kernel
theorem d_Se_fillReach_64 : decode M_Se_fillReach.2.1 64 = .ok (.iconst 1, 1) := by decide +kernel
theorem d_Se_fillReach_65 : decode M_Se_fillReach.2.1 65 = .ok (.iadd, 1) := by decide +kernel
theorem d_Se_fillReach_66 : decode M_Se_fillReach.2.1 66 = .ok (.invokestatic 34, 3) := by decide +kernel
theorem d_Se_fillReach_69 : decode M_Se_fillReach.2.1 69 = .ok (.if_icmp .gt 47, 3) := by decide +kernel
theorem d_Se_fillReach_72 : decode M_Se_fillReach.2.1 72 = .ok (.aload_n 0, 1) := by decide +kernel
theorem d_Se_fillReach_73 : decode M_Se_fillReach.2.1 73 = .ok (.getfield 26, 3) := by decide +kernel
theorem d_Se_fillReach_76 : decode M_Se_fillReach.2.1 76 = .ok (.iload_n 1, 1) := by decide +kernel
theorem d_Se_fillReach_77 : decode M_Se_fillReach.2.1 77 = .ok (.aaload, 1) := by decide +kernel
theorem d_Se_fillReach_78 : decode M_Se_fillReach.2.1 78 = .ok (.iload_n 2, 1) := by decide +kernel
theorem d_Se_fillReach_79 : decode M_Se_fillReach.2.1 79 = .ok (.aload_n 0, 1) := by decide +kernel
theorem d_Se_fillReach_80 : decode M_Se_fillReach.2.1 80 = .ok (.getfield 26, 3) := by decide +kernel
theorem d_Se_fillReach_83 : decode M_Se_fillReach.2.1 83 = .ok (.iload_n 1, 1) := by decide +kernel
theorem d_Se_fillReach_84 : decode M_Se_fillReach.2.1 84 = .ok (.aaload, 1) := by decide +kernel
theorem d_Se_fillReach_85 : decode M_Se_fillReach.2.1 85 = .ok (.iload_n 2, 1) := by decide +kernel
theorem d_Se_fillReach_86 : decode M_Se_fillReach.2.1 86 = .ok (.iaload, 1) := by decide +kernel
theorem d_Se_fillReach_87 : decode M_Se_fillReach.2.1 87 = .ok (.aload_n 0, 1) := by decide +kernel
theorem d_Se_fillReach_88 : decode M_Se_fillReach.2.1 88 = .ok (.getfield 29, 3) := by decide +kernel
theorem d_Se_fillReach_91 : decode M_Se_fillReach.2.1 91 = .ok (.iload_n 3, 1) := by decide +kernel
theorem d_Se_fillReach_92 : decode M_Se_fillReach.2.1 92 = .ok (.invokevirtual 67, 3) := by decide +kernel
theorem d_Se_fillReach_95 : decode M_Se_fillReach.2.1 95 = .ok (.aload_n 0, 1) := by decide +kernel
theorem d_Se_fillReach_96 : decode M_Se_fillReach.2.1 96 = .ok (.getfield 26, 3) := by decide +kernel
theorem d_Se_fillReach_99 : decode M_Se_fillReach.2.1 99 = .ok (.iload_n 1, 1) := by decide +kernel
theorem d_Se_fillReach_100 : decode M_Se_fillReach.2.1 100 = .ok (.iconst 1, 1) := by decide +kernel
theorem d_Se_fillReach_101 : decode M_Se_fillReach.2.1 101 = .ok (.isub, 1) := by decide +kernel
theorem d_Se_fillReach_102 : decode M_Se_fillReach.2.1 102 = .ok (.aaload, 1) := by decide +kernel
theorem d_Se_fillReach_103 : decode M_Se_fillReach.2.1 103 = .ok (.iload_n 3, 1) := by decide +kernel
theorem d_Se_fillReach_104 : decode M_Se_fillReach.2.1 104 = .ok (.iaload, 1) := by decide +kernel
theorem d_Se_fillReach_105 : decode M_Se_fillReach.2.1 105 = .ok (.iadd, 1) := by decide +kernel
theorem d_Se_fillReach_106 : decode M_Se_fillReach.2.1 106 = .ok (.invokestatic 73, 3) := by decide +kernel
theorem d_Se_fillReach_109 : decode M_Se_fillReach.2.1 109 = .ok (.iastore, 1) := by decide +kernel
theorem d_Se_fillReach_110 : decode M_Se_fillReach.2.1 110 = .ok (.iinc 3 1, 3) := by decide +kernel
theorem d_Se_fillReach_113 : decode M_Se_fillReach.2.1 113 = .ok (.goto (-53), 3) := by decide +kernel
theorem d_Se_fillReach_116 : decode M_Se_fillReach.2.1 116 = .ok (.iinc 2 1, 3) := by decide +kernel
theorem d_Se_fillReach_119 : decode M_Se_fillReach.2.1 119 = .ok (.goto (-100), 3) := by decide +kernel
theorem d_Se_fillReach_122 : decode M_Se_fillReach.2.1 122 = .ok (.iinc 1 1, 3) := by decide +kernel
theorem d_Se_fillReach_125 : decode M_Se_fillReach.2.1 125 = .ok (.goto (-113), 3) := by decide +kernel
theorem d_Se_fillReach_128 : decode M_Se_fillReach.2.1 128 = .ok (.return_, 1) := by decide +kernel
theorem d_Se_tryTurns_0 : decode M_Se_tryTurns.2.1 0 = .ok (.iload_n 1, 1) := by decide +kernel
theorem d_Se_tryTurns_1 : decode M_Se_tryTurns.2.1 1 = .ok (.iconst 4, 1) := by decide +kernel
theorem d_Se_tryTurns_2 : decode M_Se_tryTurns.2.1 2 = .ok (.if_icmp .gt 15, 3) := by decide +kernel
theorem d_Se_tryTurns_5 : decode M_Se_tryTurns.2.1 5 = .ok (.aload_n 0, 1) := by decide +kernel
theorem d_Se_tryTurns_6 : decode M_Se_tryTurns.2.1 6 = .ok (.iload_n 1, 1) := by decide +kernel
theorem d_Se_tryTurns_7 : decode M_Se_tryTurns.2.1 7 = .ok (.invokevirtual 76, 3) := by decide +kernel
theorem d_Se_tryTurns_10 : decode M_Se_tryTurns.2.1 10 = .ok (.aload_n 0, 1) := by decide +kernel
theorem d_Se_tryTurns_11 : decode M_Se_tryTurns.2.1 11 = .ok (.getfield 47, 3) := by decide +kernel
theorem d_Se_tryTurns_14 : decode M_Se_tryTurns.2.1 14 = .ok (.if_icmp .gt 4, 3) := by decide +kernel
theorem d_Se_tryTurns_17 : decode M_Se_tryTurns.2.1 17 = .ok (.return_, 1) := by decide +kernel
theorem d_Se_tryTurns_18 : decode M_Se_tryTurns.2.1 18 = .ok (.iload_n 1, 1) := by decide +kernel
theorem d_Se_tryTurns_19 : decode M_Se_tryTurns.2.1 19 = .ok (.aload_n 0, 1) := by decide +kernel
theorem d_Se_tryTurns_20 : decode M_Se_tryTurns.2.1 20 = .ok (.getfield 40, 3) := by decide +kernel
theorem d_Se_tryTurns_23 : decode M_Se_tryTurns.2.1 23 = .ok (.if_icmp .lt 27, 3) := by decide +kernel
theorem d_Se_tryTurns_26 : decode M_Se_tryTurns.2.1 26 = .ok (.aload_n 0, 1) := by decide +kernel
theorem d_Se_tryTurns_27 : decode M_Se_tryTurns.2.1 27 = .ok (.aload_n 0, 1) := by decide +kernel
theorem d_Se_tryTurns_28 : decode M_Se_tryTurns.2.1 28 = .ok (.iload_n 1, 1) := by decide +kernel
theorem d_Se_tryTurns_29 : decode M_Se_tryTurns.2.1 29 = .ok (.invokevirtual 76, 3) := by decide +kernel
theorem d_Se_tryTurns_32 : decode M_Se_tryTurns.2.1 32 = .ok (.putfield 47, 3) := by decide +kernel
theorem d_Se_tryTurns_35 : decode M_Se_tryTurns.2.1 35 = .ok (.aload_n 0, 1) := by decide +kernel
theorem d_Se_tryTurns_36 : decode M_Se_tryTurns.2.1 36 = .ok (.getfield 17, 3) := by decide +kernel
theorem d_Se_tryTurns_39 : decode M_Se_tryTurns.2.1 39 = .ok (.iconst 0, 1) := by decide +kernel
theorem d_Se_tryTurns_40 : decode M_Se_tryTurns.2.1 40 = .ok (.aload_n 0, 1) := by decide +kernel
theorem d_Se_tryTurns_41 : decode M_Se_tryTurns.2.1 41 = .ok (.getfield 21, 3) := by decide +kernel
theorem d_Se_tryTurns_44 : decode M_Se_tryTurns.2.1 44 = .ok (.iconst 0, 1) := by decide +kernel
theorem d_Se_tryTurns_45 : decode M_Se_tryTurns.2.1 45 = .ok (.iconst 4, 1) := by decide +kernel
theorem d_Se_tryTurns_46 : decode M_Se_tryTurns.2.1 46 = .ok (.invokestatic 79, 3) := by decide +kernel
theorem d_Se_tryTurns_49 : decode M_Se_tryTurns.2.1 49 = .ok (.return_, 1) := by decide +kernel
theorem d_Se_tryTurns_50 : decode M_Se_tryTurns.2.1 50 = .ok (.aload_n 0, 1) := by decide +kernel
theorem d_Se_tryTurns_51 : decode M_Se_tryTurns.2.1 51 = .ok (.iload_n 1, 1) := by decide +kernel
theorem d_Se_tryTurns_52 : decode M_Se_tryTurns.2.1 52 = .ok (.bipush (-9), 2) := by decide +kernel
theorem d_Se_tryTurns_54 : decode M_Se_tryTurns.2.1 54 = .ok (.bipush (-9), 2) := by decide +kernel
theorem d_Se_tryTurns_56 : decode M_Se_tryTurns.2.1 56 = .ok (.invokevirtual 85, 3) := by decide +kernel
theorem d_Se_tryTurns_59 : decode M_Se_tryTurns.2.1 59 = .ok (.aload_n 0, 1) := by decide +kernel
theorem d_Se_tryTurns_60 : decode M_Se_tryTurns.2.1 60 = .ok (.getfield 11, 3) := by decide +kernel
theorem d_Se_tryTurns_63 : decode M_Se_tryTurns.2.1 63 = .ok (.iload_n 1, 1) := by decide +kernel
theorem d_Se_tryTurns_64 : decode M_Se_tryTurns.2.1 64 = .ok (.aaload, 1) := by decide +kernel
theorem d_Se_tryTurns_65 : decode M_Se_tryTurns.2.1 65 = .ok (.getfield 89, 3) := by decide +kernel
theorem d_Se_tryTurns_68 : decode M_Se_tryTurns.2.1 68 = .ok (.ifCond .eq 4, 3) := by decide +kernel
theorem d_Se_tryTurns_71 : decode M_Se_tryTurns.2.1 71 = .ok (.return_, 1) := by decide +kernel
theorem d_Se_tryTurns_72 : decode M_Se_tryTurns.2.1 72 = .ok (.iconst 0, 1) := by decide +kernel
theorem d_Se_tryTurns_73 : decode M_Se_tryTurns.2.1 73 = .ok (.istore_n 2, 1) := by decide +kernel
theorem d_Se_tryTurns_74 : decode M_Se_tryTurns.2.1 74 = .ok (.iload_n 2, 1) := by decide +kernel
theorem d_Se_tryTurns_75 : decode M_Se_tryTurns.2.1 75 = .ok (.aload_n 0, 1) := by decide +kernel
theorem d_Se_tryTurns_76 : decode M_Se_tryTurns.2.1 76 = .ok (.getfield 29, 3) := by decide +kernel
theorem d_Se_tryTurns_79 : decode M_Se_tryTurns.2.1 79 = .ok (.getfield 93, 3) := by decide +kernel
theorem d_Se_tryTurns_82 : decode M_Se_tryTurns.2.1 82 = .ok (.if_icmp .ge 61, 3) := by decide +kernel
theorem d_Se_tryTurns_85 : decode M_Se_tryTurns.2.1 85 = .ok (.iconst 0, 1) := by decide +kernel
theorem d_Se_tryTurns_86 : decode M_Se_tryTurns.2.1 86 = .ok (.istore_n 3, 1) := by decide +kernel
theorem d_Se_tryTurns_87 : decode M_Se_tryTurns.2.1 87 = .ok (.iload_n 3, 1) := by decide +kernel
theorem d_Se_tryTurns_88 : decode M_Se_tryTurns.2.1 88 = .ok (.aload_n 0, 1) := by decide +kernel
theorem d_Se_tryTurns_89 : decode M_Se_tryTurns.2.1 89 = .ok (.getfield 29, 3) := by decide +kernel
theorem d_Se_tryTurns_92 : decode M_Se_tryTurns.2.1 92 = .ok (.getfield 96, 3) := by decide +kernel
theorem d_Se_tryTurns_95 : decode M_Se_tryTurns.2.1 95 = .ok (.if_icmp .ge 42, 3) := by decide +kernel
theorem d_Se_tryTurns_98 : decode M_Se_tryTurns.2.1 98 = .ok (.aload_n 0, 1) := by decide +kernel
theorem d_Se_tryTurns_99 : decode M_Se_tryTurns.2.1 99 = .ok (.getfield 11, 3) := by decide +kernel
theorem d_Se_tryTurns_102 : decode M_Se_tryTurns.2.1 102 = .ok (.iload_n 1, 1) := by decide +kernel
theorem d_Se_tryTurns_103 : decode M_Se_tryTurns.2.1 103 = .ok (.aaload, 1) := by decide +kernel
theorem d_Se_tryTurns_104 : decode M_Se_tryTurns.2.1 104 = .ok (.iload_n 2, 1) := by decide +kernel
theorem d_Se_tryTurns_105 : decode M_Se_tryTurns.2.1 105 = .ok (.iload_n 3, 1) := by decide +kernel
theorem d_Se_tryTurns_106 : decode M_Se_tryTurns.2.1 106 = .ok (.invokevirtual 99, 3) := by decide +kernel
theorem d_Se_tryTurns_109 : decode M_Se_tryTurns.2.1 109 = .ok (.ifCond .eq 22, 3) := by decide +kernel
theorem d_Se_tryTurns_112 : decode M_Se_tryTurns.2.1 112 = .ok (.aload_n 0, 1) := by decide +kernel
theorem d_Se_tryTurns_113 : decode M_Se_tryTurns.2.1 113 = .ok (.iload_n 1, 1) := by decide +kernel
theorem d_Se_tryTurns_114 : decode M_Se_tryTurns.2.1 114 = .ok (.invokevirtual 76, 3) := by decide +kernel
theorem d_Se_tryTurns_117 : decode M_Se_tryTurns.2.1 117 = .ok (.aload_n 0, 1) := by decide +kernel
theorem d_Se_tryTurns_118 : decode M_Se_tryTurns.2.1 118 = .ok (.getfield 47, 3) := by decide +kernel
theorem d_Se_tryTurns_121 : decode M_Se_tryTurns.2.1 121 = .ok (.if_icmp .le 10, 3) := by decide +kernel
theorem d_Se_tryTurns_124 : decode M_Se_tryTurns.2.1 124 = .ok (.aload_n 0, 1) := by decide +kernel
theorem d_Se_tryTurns_125 : decode M_Se_tryTurns.2.1 125 = .ok (.iload_n 1, 1) := by decide +kernel
theorem d_Se_tryTurns_126 : decode M_Se_tryTurns.2.1 126 = .ok (.iload_n 2, 1) := by decide +kernel
theorem d_Se_tryTurns_127 : decode M_Se_tryTurns.2.1 127 = .ok (.iload_n 3, 1) := by decide +kernel
theorem d_Se_tryTurns_128 : decode M_Se_tryTurns.2.1 128 = .ok (.invokevirtual 85, 3) := by decide +kernel
theorem d_Se_tryTurns_131 : decode M_Se_tryTurns.2.1 131 = .ok (.iinc 3 1, 3) := by decide +kernel
theorem d_Se_tryTurns_134 : decode M_Se_tryTurns.2.1 134 = .ok (.goto (-47), 3) := by decide +kernel
theorem d_Se_tryTurns_137 : decode M_Se_tryTurns.2.1 137 = .ok (.iinc 2 1, 3) := by decide +kernel
theorem d_Se_tryTurns_140 : decode M_Se_tryTurns.2.1 140 = .ok (.goto (-66), 3) := by decide +kernel
theorem d_Se_tryTurns_143 : decode M_Se_tryTurns.2.1 143 = .ok (.return_, 1) := by decide +kernel
theorem d_Se_tryTurn_0 : decode M_Se_tryTurn.2.1 0 = .ok (.aload_n 0, 1) := by decide +kernel
theorem d_Se_tryTurn_1 : decode M_Se_tryTurn.2.1 1 = .ok (.getfield 11, 3) := by decide +kernel
theorem d_Se_tryTurn_4 : decode M_Se_tryTurn.2.1 4 = .ok (.iload_n 1, 1) := by decide +kernel
theorem d_Se_tryTurn_5 : decode M_Se_tryTurn.2.1 5 = .ok (.iconst 1, 1) := by decide +kernel
theorem d_Se_tryTurn_6 : decode M_Se_tryTurn.2.1 6 = .ok (.iadd, 1) := by decide +kernel
theorem d_Se_tryTurn_7 : decode M_Se_tryTurn.2.1 7 = .ok (.aaload, 1) := by decide +kernel
theorem d_Se_tryTurn_8 : decode M_Se_tryTurn.2.1 8 = .ok (.astore 4, 2) := by decide +kernel
theorem d_Se_tryTurn_10 : decode M_Se_tryTurn.2.1 10 = .ok (.aload 4, 2) := by decide +kernel
theorem d_Se_tryTurn_12 : decode M_Se_tryTurn.2.1 12 = .ok (.aload_n 0, 1) := by decide +kernel
theorem d_Se_tryTurn_13 : decode M_Se_tryTurn.2.1 13 = .ok (.getfield 11, 3) := by decide +kernel
theorem d_Se_tryTurn_16 : decode M_Se_tryTurn.2.1 16 = .ok (.iload_n 1, 1) := by decide +kernel
theorem d_Se_tryTurn_17 : decode M_Se_tryTurn.2.1 17 = .ok (.aaload, 1) := by decide +kernel
theorem d_Se_tryTurn_18 : decode M_Se_tryTurn.2.1 18 = .ok (.invokevirtual 53, 3) := by decide +kernel
theorem d_Se_tryTurn_21 : decode M_Se_tryTurn.2.1 21 = .ok (.aload_n 0, 1) := by decide +kernel
theorem d_Se_tryTurn_22 : decode M_Se_tryTurn.2.1 22 = .ok (.getfield 17, 3) := by decide +kernel
theorem d_Se_tryTurn_25 : decode M_Se_tryTurn.2.1 25 = .ok (.iload_n 1, 1) := by decide +kernel
theorem d_Se_tryTurn_26 : decode M_Se_tryTurn.2.1 26 = .ok (.bipush (-9), 2) := by decide +kernel
theorem d_Se_tryTurn_28 : decode M_Se_tryTurn.2.1 28 = .ok (.iastore, 1) := by decide +kernel
theorem d_Se_tryTurn_29 : decode M_Se_tryTurn.2.1 29 = .ok (.iload_n 2, 1) := by decide +kernel
theorem d_Se_tryTurn_30 : decode M_Se_tryTurn.2.1 30 = .ok (.bipush (-9), 2) := by decide +kernel
theorem d_Se_tryTurn_32 : decode M_Se_tryTurn.2.1 32 = .ok (.if_icmp .eq 21, 3) := by decide +kernel
theorem d_Se_tryTurn_35 : decode M_Se_tryTurn.2.1 35 = .ok (.aload 4, 2) := by decide +kernel
theorem d_Se_tryTurn_37 : decode M_Se_tryTurn.2.1 37 = .ok (.iload_n 2, 1) := by decide +kernel
theorem d_Se_tryTurn_38 : decode M_Se_tryTurn.2.1 38 = .ok (.iload_n 3, 1) := by decide +kernel
theorem d_Se_tryTurn_39 : decode M_Se_tryTurn.2.1 39 = .ok (.invokevirtual 103, 3) := by decide +kernel
theorem d_Se_tryTurn_42 : decode M_Se_tryTurn.2.1 42 = .ok (.aload_n 0, 1) := by decide +kernel
theorem d_Se_tryTurn_43 : decode M_Se_tryTurn.2.1 43 = .ok (.getfield 17, 3) := by decide +kernel
theorem d_Se_tryTurn_46 : decode M_Se_tryTurn.2.1 46 = .ok (.iload_n 1, 1) := by decide +kernel
theorem d_Se_tryTurn_47 : decode M_Se_tryTurn.2.1 47 = .ok (.iconst 4, 1) := by decide +kernel
theorem d_Se_tryTurn_48 : decode M_Se_tryTurn.2.1 48 = .ok (.iload_n 2, 1) := by decide +kernel
theorem d_Se_tryTurn_49 : decode M_Se_tryTurn.2.1 49 = .ok (.imul, 1) := by decide +kernel
theorem d_Se_tryTurn_50 : decode M_Se_tryTurn.2.1 50 = .ok (.iload_n 3, 1) := by decide +kernel
theorem d_Se_tryTurn_51 : decode M_Se_tryTurn.2.1 51 = .ok (.iadd, 1) := by decide +kernel
theorem d_Se_tryTurn_52 : decode M_Se_tryTurn.2.1 52 = .ok (.iastore, 1) := by decide +kernel
theorem d_Se_tryTurn_53 : decode M_Se_tryTurn.2.1 53 = .ok (.aload_n 0, 1) := by decide +kernel
theorem d_Se_tryTurn_54 : decode M_Se_tryTurn.2.1 54 = .ok (.getfield 29, 3) := by decide +kernel
theorem d_Se_tryTurn_57 : decode M_Se_tryTurn.2.1 57 = .ok (.aload 4, 2) := by decide +kernel
theorem d_Se_tryTurn_59 : decode M_Se_tryTurn.2.1 59 = .ok (.invokevirtual 107, 3) := by decide +kernel
theorem d_Se_tryTurn_62 : decode M_Se_tryTurn.2.1 62 = .ok (.aload_n 0, 1) := by decide +kernel
theorem d_Se_tryTurn_63 : decode M_Se_tryTurn.2.1 63 = .ok (.iload_n 1, 1) := by decide +kernel
theorem d_Se_tryTurn_64 : decode M_Se_tryTurn.2.1 64 = .ok (.iconst 1, 1) := by decide +kernel
theorem d_Se_tryTurn_65 : decode M_Se_tryTurn.2.1 65 = .ok (.iadd, 1) := by decide +kernel
theorem d_Se_tryTurn_66 : decode M_Se_tryTurn.2.1 66 = .ok (.invokevirtual 57, 3) := by decide +kernel
theorem d_Se_tryTurn_69 : decode M_Se_tryTurn.2.1 69 = .ok (.return_, 1) := by decide +kernel
theorem d_Se_bound_0 : decode M_Se_bound.2.1 0 = .ok (.aload_n 0, 1) := by decide +kernel
theorem d_Se_bound_1 : decode M_Se_bound.2.1 1 = .ok (.getfield 11, 3) := by decide +kernel
theorem d_Se_bound_4 : decode M_Se_bound.2.1 4 = .ok (.iload_n 1, 1) := by decide +kernel
theorem d_Se_bound_5 : decode M_Se_bound.2.1 5 = .ok (.aaload, 1) := by decide +kernel
theorem d_Se_bound_6 : decode M_Se_bound.2.1 6 = .ok (.astore_n 2, 1) := by decide +kernel
theorem d_Se_bound_7 : decode M_Se_bound.2.1 7 = .ok (.aload_n 2, 1) := by decide +kernel
theorem d_Se_bound_8 : decode M_Se_bound.2.1 8 = .ok (.getfield 89, 3) := by decide +kernel
theorem d_Se_bound_11 : decode M_Se_bound.2.1 11 = .ok (.ifCond .eq 7, 3) := by decide +kernel
theorem d_Se_bound_14 : decode M_Se_bound.2.1 14 = .ok (.iconst 0, 1) := by decide +kernel
theorem d_Se_bound_15 : decode M_Se_bound.2.1 15 = .ok (.goto 9, 3) := by decide +kernel
theorem d_Se_bound_18 : decode M_Se_bound.2.1 18 = .ok (.aload_n 0, 1) := by decide +kernel
theorem d_Se_bound_19 : decode M_Se_bound.2.1 19 = .ok (.getfield 40, 3) := by decide +kernel
theorem d_Se_bound_22 : decode M_Se_bound.2.1 22 = .ok (.iload_n 1, 1) := by decide +kernel
theorem d_Se_bound_23 : decode M_Se_bound.2.1 23 = .ok (.isub, 1) := by decide +kernel
theorem d_Se_bound_24 : decode M_Se_bound.2.1 24 = .ok (.istore_n 3, 1) := by decide +kernel
theorem d_Se_bound_25 : decode M_Se_bound.2.1 25 = .ok (.aload_n 0, 1) := by decide +kernel
theorem d_Se_bound_26 : decode M_Se_bound.2.1 26 = .ok (.getfield 44, 3) := by decide +kernel
theorem d_Se_bound_29 : decode M_Se_bound.2.1 29 = .ok (.iconst 1, 1) := by decide +kernel
theorem d_Se_bound_30 : decode M_Se_bound.2.1 30 = .ok (.if_icmp .ne 15, 3) := by decide +kernel
theorem d_Se_bound_33 : decode M_Se_bound.2.1 33 = .ok (.bipush 9, 2) := by decide +kernel
theorem d_Se_bound_35 : decode M_Se_bound.2.1 35 = .ok (.aload_n 2, 1) := by decide +kernel
theorem d_Se_bound_36 : decode M_Se_bound.2.1 36 = .ok (.getfield 110, 3) := by decide +kernel
theorem d_Se_bound_39 : decode M_Se_bound.2.1 39 = .ok (.iload_n 3, 1) := by decide +kernel
theorem d_Se_bound_40 : decode M_Se_bound.2.1 40 = .ok (.iadd, 1) := by decide +kernel
theorem d_Se_bound_41 : decode M_Se_bound.2.1 41 = .ok (.invokestatic 34, 3) := by decide +kernel
theorem d_Se_bound_44 : decode M_Se_bound.2.1 44 = .ok (.ireturn, 1) := by decide +kernel
theorem d_Se_bound_45 : decode M_Se_bound.2.1 45 = .ok (.iconst 0, 1) := by decide +kernel
theorem d_Se_bound_46 : decode M_Se_bound.2.1 46 = .ok (.bipush 40, 2) := by decide +kernel
theorem d_Se_bound_48 : decode M_Se_bound.2.1 48 = .ok (.aload_n 2, 1) := by decide +kernel
theorem d_Se_bound_49 : decode M_Se_bound.2.1 49 = .ok (.getfield 113, 3) := by decide +kernel
theorem d_Se_bound_52 : decode M_Se_bound.2.1 52 = .ok (.aload_n 0, 1) := by decide +kernel
theorem d_Se_bound_53 : decode M_Se_bound.2.1 53 = .ok (.getfield 26, 3) := by decide +kernel
theorem d_Se_bound_56 : decode M_Se_bound.2.1 56 = .ok (.iload_n 3, 1) := by decide +kernel
theorem d_Se_bound_57 : decode M_Se_bound.2.1 57 = .ok (.aaload, 1) := by decide +kernel
theorem d_Se_bound_58 : decode M_Se_bound.2.1 58 = .ok (.aload_n 2, 1) := by decide +kernel
theorem d_Se_bound_59 : decode M_Se_bound.2.1 59 = .ok (.getfield 110, 3) := by decide +kernel
theorem d_Se_bound_62 : decode M_Se_bound.2.1 62 = .ok (.iaload, 1) := by decide +kernel
theorem d_Se_bound_63 : decode M_Se_bound.2.1 63 = .ok (.iadd, 1) := by decide +kernel
theorem d_Se_bound_64 : decode M_Se_bound.2.1 64 = .ok (.invokestatic 34, 3) := by decide +kernel
theorem d_Se_bound_67 : decode M_Se_bound.2.1 67 = .ok (.invokestatic 73, 3) := by decide +kernel
theorem d_Se_bound_70 : decode M_Se_bound.2.1 70 = .ok (.ireturn, 1) := by decide +kernel
theorem d_Tx_init_0 : decode M_Tx_init.2.1 0 = .ok (.aload_n 0, 1) := by decide +kernel
theorem d_Tx_init_1 : decode M_Tx_init.2.1 1 = .ok (.invokespecial 3, 3) := by decide +kernel
theorem d_Tx_init_4 : decode M_Tx_init.2.1 4 = .ok (.aload_n 0, 1) := by decide +kernel
theorem d_Tx_init_5 : decode M_Tx_init.2.1 5 = .ok (.bipush 120, 2) := by decide +kernel
theorem d_Tx_init_7 : decode M_Tx_init.2.1 7 = .ok (.newarray .int, 2) := by decide +kernel
theorem d_Tx_init_9 : decode M_Tx_init.2.1 9 = .ok (.putfield 9, 3) := by decide +kernel
theorem d_Tx_init_12 : decode M_Tx_init.2.1 12 = .ok (.aload_n 0, 1) := by decide +kernel
theorem d_Tx_init_13 : decode M_Tx_init.2.1 13 = .ok (.iconst 0, 1) := by decide +kernel
theorem d_Tx_init_14 : decode M_Tx_init.2.1 14 = .ok (.putfield 15, 3) := by decide +kernel
theorem d_Tx_init_17 : decode M_Tx_init.2.1 17 = .ok (.aload_n 0, 1) := by decide +kernel
theorem d_Tx_init_18 : decode M_Tx_init.2.1 18 = .ok (.iconst 3, 1) := by decide +kernel
theorem d_Tx_init_19 : decode M_Tx_init.2.1 19 = .ok (.newarray .int, 2) := by decide +kernel
theorem d_Tx_init_21 : decode M_Tx_init.2.1 21 = .ok (.putfield 19, 3) := by decide +kernel
theorem d_Tx_init_24 : decode M_Tx_init.2.1 24 = .ok (.return_, 1) := by decide +kernel
theorem d_Tx_add_0 : decode M_Tx_add.2.1 0 = .ok (.aload_n 0, 1) := by decide +kernel
theorem d_Tx_add_1 : decode M_Tx_add.2.1 1 = .ok (.getfield 15, 3) := by decide +kernel
theorem d_Tx_add_4 : decode M_Tx_add.2.1 4 = .ok (.bipush 120, 2) := by decide +kernel
theorem d_Tx_add_6 : decode M_Tx_add.2.1 6 = .ok (.if_icmp .lt 6, 3) := by decide +kernel
theorem d_Tx_add_9 : decode M_Tx_add.2.1 9 = .ok (.bipush (-3), 2) := by decide +kernel
theorem d_Tx_add_11 : decode M_Tx_add.2.1 11 = .ok (.ireturn, 1) := by decide +kernel
theorem d_Tx_add_12 : decode M_Tx_add.2.1 12 = .ok (.aload_n 0, 1) := by decide +kernel
theorem d_Tx_add_13 : decode M_Tx_add.2.1 13 = .ok (.getfield 9, 3) := by decide +kernel
theorem d_Tx_add_16 : decode M_Tx_add.2.1 16 = .ok (.aload_n 0, 1) := by decide +kernel
theorem d_Tx_add_17 : decode M_Tx_add.2.1 17 = .ok (.getfield 15, 3) := by decide +kernel
theorem d_Tx_add_20 : decode M_Tx_add.2.1 20 = .ok (.iload_n 1, 1) := by decide +kernel
theorem d_Tx_add_21 : decode M_Tx_add.2.1 21 = .ok (.iastore, 1) := by decide +kernel
theorem d_Tx_add_22 : decode M_Tx_add.2.1 22 = .ok (.aload_n 0, 1) := by decide +kernel
theorem d_Tx_add_23 : decode M_Tx_add.2.1 23 = .ok (.dup, 1) := by decide +kernel
theorem d_Tx_add_24 : decode M_Tx_add.2.1 24 = .ok (.getfield 15, 3) := by decide +kernel
theorem d_Tx_add_27 : decode M_Tx_add.2.1 27 = .ok (.iconst 1, 1) := by decide +kernel
theorem d_Tx_add_28 : decode M_Tx_add.2.1 28 = .ok (.iadd, 1) := by decide +kernel
theorem d_Tx_add_29 : decode M_Tx_add.2.1 29 = .ok (.putfield 15, 3) := by decide +kernel
theorem d_Tx_add_32 : decode M_Tx_add.2.1 32 = .ok (.aload_n 0, 1) := by decide +kernel
theorem d_Tx_add_33 : decode M_Tx_add.2.1 33 = .ok (.getfield 15, 3) := by decide +kernel
theorem d_Tx_add_36 : decode M_Tx_add.2.1 36 = .ok (.ireturn, 1) := by decide +kernel
theorem d_Tx_drop_0 : decode M_Tx_drop.2.1 0 = .ok (.aload_n 0, 1) := by decide +kernel
theorem d_Tx_drop_1 : decode M_Tx_drop.2.1 1 = .ok (.getfield 15, 3) := by decide +kernel
theorem d_Tx_drop_4 : decode M_Tx_drop.2.1 4 = .ok (.istore_n 1, 1) := by decide +kernel
theorem d_Tx_drop_5 : decode M_Tx_drop.2.1 5 = .ok (.aload_n 0, 1) := by decide +kernel
theorem d_Tx_drop_6 : decode M_Tx_drop.2.1 6 = .ok (.iconst 0, 1) := by decide +kernel
theorem d_Tx_drop_7 : decode M_Tx_drop.2.1 7 = .ok (.putfield 15, 3) := by decide +kernel
theorem d_Tx_drop_10 : decode M_Tx_drop.2.1 10 = .ok (.iload_n 1, 1) := by decide +kernel
theorem d_Tx_drop_11 : decode M_Tx_drop.2.1 11 = .ok (.ireturn, 1) := by decide +kernel
theorem d_Tx_readInto_0 : decode M_Tx_readInto.2.1 0 = .ok (.aload_n 1, 1) := by decide +kernel
theorem d_Tx_readInto_1 : decode M_Tx_readInto.2.1 1 = .ok (.invokevirtual 22, 3) := by decide +kernel
theorem d_Tx_readInto_4 : decode M_Tx_readInto.2.1 4 = .ok (.aload_n 0, 1) := by decide +kernel
theorem d_Tx_readInto_5 : decode M_Tx_readInto.2.1 5 = .ok (.iconst 0, 1) := by decide +kernel
theorem d_Tx_readInto_6 : decode M_Tx_readInto.2.1 6 = .ok (.putfield 27, 3) := by decide +kernel
theorem d_Tx_readInto_9 : decode M_Tx_readInto.2.1 9 = .ok (.aload_n 0, 1) := by decide +kernel
theorem d_Tx_readInto_10 : decode M_Tx_readInto.2.1 10 = .ok (.iconst 0, 1) := by decide +kernel
theorem d_Tx_readInto_11 : decode M_Tx_readInto.2.1 11 = .ok (.putfield 31, 3) := by decide +kernel
theorem d_Tx_readInto_14 : decode M_Tx_readInto.2.1 14 = .ok (.aload_n 0, 1) := by decide +kernel
theorem d_Tx_readInto_15 : decode M_Tx_readInto.2.1 15 = .ok (.invokevirtual 34, 3) := by decide +kernel
theorem d_Tx_readInto_18 : decode M_Tx_readInto.2.1 18 = .ok (.iconst 0, 1) := by decide +kernel
theorem d_Tx_readInto_19 : decode M_Tx_readInto.2.1 19 = .ok (.istore_n 2, 1) := by decide +kernel
theorem d_Tx_readInto_20 : decode M_Tx_readInto.2.1 20 = .ok (.aload_n 0, 1) := by decide +kernel
theorem d_Tx_readInto_21 : decode M_Tx_readInto.2.1 21 = .ok (.getfield 37, 3) := by decide +kernel
theorem d_Tx_readInto_24 : decode M_Tx_readInto.2.1 24 = .ok (.ifCond .eq 31, 3) := by decide +kernel
theorem d_Tx_readInto_27 : decode M_Tx_readInto.2.1 27 = .ok (.iload_n 2, 1) := by decide +kernel
theorem d_Tx_readInto_28 : decode M_Tx_readInto.2.1 28 = .ok (.bipush 120, 2) := by decide +kernel
theorem d_Tx_readInto_30 : decode M_Tx_readInto.2.1 30 = .ok (.if_icmp .ge 25, 3) := by decide +kernel
theorem d_Tx_readInto_33 : decode M_Tx_readInto.2.1 33 = .ok (.aload_n 0, 1) := by decide +kernel
theorem d_Tx_readInto_34 : decode M_Tx_readInto.2.1 34 = .ok (.aload_n 1, 1) := by decide +kernel
theorem d_Tx_readInto_35 : decode M_Tx_readInto.2.1 35 = .ok (.invokevirtual 40, 3) := by decide +kernel
theorem d_Tx_readInto_38 : decode M_Tx_readInto.2.1 38 = .ok (.ifCond .ne 11, 3) := by decide +kernel
theorem d_Tx_readInto_41 : decode M_Tx_readInto.2.1 41 = .ok (.bipush (-10), 2) := by decide +kernel
theorem d_Tx_readInto_43 : decode M_Tx_readInto.2.1 43 = .ok (.aload_n 0, 1) := by decide +kernel
theorem d_Tx_readInto_44 : decode M_Tx_readInto.2.1 44 = .ok (.getfield 44, 3) := by decide +kernel
theorem d_Tx_readInto_47 : decode M_Tx_readInto.2.1 47 = .ok (.isub, 1) := by decide +kernel
theorem d_Tx_readInto_48 : decode M_Tx_readInto.2.1 48 = .ok (.ireturn, 1) := by decide +kernel
theorem d_Tx_readInto_49 : decode M_Tx_readInto.2.1 49 = .ok (.iinc 2 1, 3) := by decide +kernel
theorem d_Tx_readInto_52 : decode M_Tx_readInto.2.1 52 = .ok (.goto (-32), 3) := by decide +kernel
theorem d_Tx_readInto_55 : decode M_Tx_readInto.2.1 55 = .ok (.iload_n 2, 1) := by decide +kernel
theorem d_Tx_readInto_56 : decode M_Tx_readInto.2.1 56 = .ok (.ireturn, 1) := by decide +kernel
theorem d_Tx_readItem_0 : decode M_Tx_readItem.2.1 0 = .ok (.aload_n 0, 1) := by decide +kernel
theorem d_Tx_readItem_1 : decode M_Tx_readItem.2.1 1 = .ok (.aload_n 1, 1) := by decide +kernel
theorem d_Tx_readItem_2 : decode M_Tx_readItem.2.1 2 = .ok (.invokevirtual 47, 3) := by decide +kernel
theorem d_Tx_readItem_5 : decode M_Tx_readItem.2.1 5 = .ok (.istore_n 2, 1) := by decide +kernel
theorem d_Tx_readItem_6 : decode M_Tx_readItem.2.1 6 = .ok (.iload_n 2, 1) := by decide +kernel
theorem d_Tx_readItem_7 : decode M_Tx_readItem.2.1 7 = .ok (.bipush (-9), 2) := by decide +kernel
theorem d_Tx_readItem_9 : decode M_Tx_readItem.2.1 9 = .ok (.if_icmp .ne 5, 3) := by decide +kernel
theorem d_Tx_readItem_12 : decode M_Tx_readItem.2.1 12 = .ok (.iconst 0, 1) := by decide +kernel
theorem d_Tx_readItem_13 : decode M_Tx_readItem.2.1 13 = .ok (.ireturn, 1) := by decide +kernel
theorem d_Tx_readItem_14 : decode M_Tx_readItem.2.1 14 = .ok (.iconst 0, 1) := by decide +kernel
theorem d_Tx_readItem_15 : decode M_Tx_readItem.2.1 15 = .ok (.istore_n 3, 1) := by decide +kernel
theorem d_Tx_readItem_16 : decode M_Tx_readItem.2.1 16 = .ok (.iload_n 3, 1) := by decide +kernel
theorem d_Tx_readItem_17 : decode M_Tx_readItem.2.1 17 = .ok (.getstatic 51, 3) := by decide +kernel
theorem d_Tx_readItem_20 : decode M_Tx_readItem.2.1 20 = .ok (.iload_n 2, 1) := by decide +kernel
theorem d_Tx_readItem_21 : decode M_Tx_readItem.2.1 21 = .ok (.iaload, 1) := by decide +kernel
theorem d_Tx_readItem_22 : decode M_Tx_readItem.2.1 22 = .ok (.if_icmp .ge 62, 3) := by decide +kernel
theorem d_Tx_readItem_25 : decode M_Tx_readItem.2.1 25 = .ok (.aload_n 0, 1) := by decide +kernel
theorem d_Tx_readItem_26 : decode M_Tx_readItem.2.1 26 = .ok (.invokevirtual 34, 3) := by decide +kernel
theorem d_Tx_readItem_29 : decode M_Tx_readItem.2.1 29 = .ok (.iconst 3, 1) := by decide +kernel
theorem d_Tx_readItem_30 : decode M_Tx_readItem.2.1 30 = .ok (.iload_n 2, 1) := by decide +kernel
theorem d_Tx_readItem_31 : decode M_Tx_readItem.2.1 31 = .ok (.imul, 1) := by decide +kernel
theorem d_Tx_readItem_32 : decode M_Tx_readItem.2.1 32 = .ok (.iload_n 3, 1) := by decide +kernel
theorem d_Tx_readItem_33 : decode M_Tx_readItem.2.1 33 = .ok (.iadd, 1) := by decide +kernel
theorem d_Tx_readItem_34 : decode M_Tx_readItem.2.1 34 = .ok (.istore 4, 2) := by decide +kernel
theorem d_Tx_readItem_36 : decode M_Tx_readItem.2.1 36 = .ok (.aload_n 0, 1) := by decide +kernel
theorem d_Tx_readItem_37 : decode M_Tx_readItem.2.1 37 = .ok (.getfield 37, 3) := by decide +kernel
theorem d_Tx_readItem_40 : decode M_Tx_readItem.2.1 40 = .ok (.iconst 2, 1) := by decide +kernel
theorem d_Tx_readItem_41 : decode M_Tx_readItem.2.1 41 = .ok (.if_icmp .ne 25, 3) := by decide +kernel
theorem d_Tx_readItem_44 : decode M_Tx_readItem.2.1 44 = .ok (.aload_n 0, 1) := by decide +kernel
theorem d_Tx_readItem_45 : decode M_Tx_readItem.2.1 45 = .ok (.getfield 54, 3) := by decide +kernel
theorem d_Tx_readItem_48 : decode M_Tx_readItem.2.1 48 = .ok (.getstatic 57, 3) := by decide +kernel
theorem d_Tx_readItem_51 : decode M_Tx_readItem.2.1 51 = .ok (.iload 4, 2) := by decide +kernel
theorem d_Tx_readItem_53 : decode M_Tx_readItem.2.1 53 = .ok (.iaload, 1) := by decide +kernel
theorem d_Tx_readItem_54 : decode M_Tx_readItem.2.1 54 = .ok (.getstatic 60, 3) := by decide +kernel
theorem d_Tx_readItem_57 : decode M_Tx_readItem.2.1 57 = .ok (.iload 4, 2) := by decide +kernel
theorem d_Tx_readItem_59 : decode M_Tx_readItem.2.1 59 = .ok (.iaload, 1) := by decide +kernel
theorem d_Tx_readItem_60 : decode M_Tx_readItem.2.1 60 = .ok (.invokestatic 63, 3) := by decide +kernel
theorem d_Tx_readItem_63 : decode M_Tx_readItem.2.1 63 = .ok (.ifCond .ne 5, 3) := by decide +kernel
theorem d_Tx_readItem_66 : decode M_Tx_readItem.2.1 66 = .ok (.iconst 0, 1) := by decide +kernel
theorem d_Tx_readItem_67 : decode M_Tx_readItem.2.1 67 = .ok (.ireturn, 1) := by decide +kernel
theorem d_Tx_readItem_68 : decode M_Tx_readItem.2.1 68 = .ok (.aload_n 0, 1) := by decide +kernel
theorem d_Tx_readItem_69 : decode M_Tx_readItem.2.1 69 = .ok (.getfield 19, 3) := by decide +kernel
theorem d_Tx_readItem_72 : decode M_Tx_readItem.2.1 72 = .ok (.iload_n 3, 1) := by decide +kernel
theorem d_Tx_readItem_73 : decode M_Tx_readItem.2.1 73 = .ok (.aload_n 0, 1) := by decide +kernel
theorem d_Tx_readItem_74 : decode M_Tx_readItem.2.1 74 = .ok (.getfield 54, 3) := by decide +kernel
theorem d_Tx_readItem_77 : decode M_Tx_readItem.2.1 77 = .ok (.iastore, 1) := by decide +kernel
theorem d_Tx_readItem_78 : decode M_Tx_readItem.2.1 78 = .ok (.iinc 3 1, 3) := by decide +kernel
theorem d_Tx_readItem_81 : decode M_Tx_readItem.2.1 81 = .ok (.goto (-65), 3) := by decide +kernel
theorem d_Tx_readItem_84 : decode M_Tx_readItem.2.1 84 = .ok (.aload_n 0, 1) := by decide +kernel
theorem d_Tx_readItem_85 : decode M_Tx_readItem.2.1 85 = .ok (.invokevirtual 34, 3) := by decide +kernel
theorem d_Tx_readItem_88 : decode M_Tx_readItem.2.1 88 = .ok (.aload_n 0, 1) := by decide +kernel
theorem d_Tx_readItem_89 : decode M_Tx_readItem.2.1 89 = .ok (.getfield 37, 3) := by decide +kernel
theorem d_Tx_readItem_92 : decode M_Tx_readItem.2.1 92 = .ok (.iconst 3, 1) := by decide +kernel
theorem d_Tx_readItem_93 : decode M_Tx_readItem.2.1 93 = .ok (.if_icmp .eq 5, 3) := by decide +kernel
theorem d_Tx_readItem_96 : decode M_Tx_readItem.2.1 96 = .ok (.iconst 0, 1) := by decide +kernel
theorem d_Tx_readItem_97 : decode M_Tx_readItem.2.1 97 = .ok (.ireturn, 1) := by decide +kernel
theorem d_Tx_readItem_98 : decode M_Tx_readItem.2.1 98 = .ok (.aload_n 0, 1) := by decide +kernel
theorem d_Tx_readItem_99 : decode M_Tx_readItem.2.1 99 = .ok (.aload_n 1, 1) := by decide +kernel
theorem d_Tx_readItem_100 : decode M_Tx_readItem.2.1 100 = .ok (.iload_n 2, 1) := by decide +kernel
theorem d_Tx_readItem_101 : decode M_Tx_readItem.2.1 101 = .ok (.invokevirtual 67, 3) := by decide +kernel
theorem d_Tx_readItem_104 : decode M_Tx_readItem.2.1 104 = .ok (.aload_n 0, 1) := by decide +kernel
theorem d_Tx_readItem_105 : decode M_Tx_readItem.2.1 105 = .ok (.invokevirtual 34, 3) := by decide +kernel
theorem d_Tx_readItem_108 : decode M_Tx_readItem.2.1 108 = .ok (.iconst 1, 1) := by decide +kernel
theorem d_Tx_readItem_109 : decode M_Tx_readItem.2.1 109 = .ok (.ireturn, 1) := by decide +kernel
theorem d_Tx_itemBegun_0 : decode M_Tx_itemBegun.2.1 0 = .ok (.aload_n 0, 1) := by decide +kernel
theorem d_Tx_itemBegun_1 : decode M_Tx_itemBegun.2.1 1 = .ok (.getfield 37, 3) := by decide +kernel
theorem d_Tx_itemBegun_4 : decode M_Tx_itemBegun.2.1 4 = .ok (.iconst 1, 1) := by decide +kernel
theorem d_Tx_itemBegun_5 : decode M_Tx_itemBegun.2.1 5 = .ok (.if_icmp .eq 6, 3) := by decide +kernel
theorem d_Tx_itemBegun_8 : decode M_Tx_itemBegun.2.1 8 = .ok (.bipush (-9), 2) := by decide +kernel
theorem d_Tx_itemBegun_10 : decode M_Tx_itemBegun.2.1 10 = .ok (.ireturn, 1) := by decide +kernel
theorem d_Tx_itemBegun_11 : decode M_Tx_itemBegun.2.1 11 = .ok (.aload_n 0, 1) := by decide +kernel
theorem d_Tx_itemBegun_12 : decode M_Tx_itemBegun.2.1 12 = .ok (.getfield 54, 3) := by decide +kernel
theorem d_Tx_itemBegun_15 : decode M_Tx_itemBegun.2.1 15 = .ok (.tableswitch 95 112 120 #[51, 95, 95, 95, 66, 95, 95, 49, 81], 49) := by decide +kernel
theorem d_Tx_itemBegun_64 : decode M_Tx_itemBegun.2.1 64 = .ok (.iconst 0, 1) := by decide +kernel
theorem d_Tx_itemBegun_65 : decode M_Tx_itemBegun.2.1 65 = .ok (.ireturn, 1) := by decide +kernel
theorem d_Tx_itemBegun_66 : decode M_Tx_itemBegun.2.1 66 = .ok (.aload_n 1, 1) := by decide +kernel
theorem d_Tx_itemBegun_67 : decode M_Tx_itemBegun.2.1 67 = .ok (.getfield 71, 3) := by decide +kernel
theorem d_Tx_itemBegun_70 : decode M_Tx_itemBegun.2.1 70 = .ok (.iconst 3, 1) := by decide +kernel
theorem d_Tx_itemBegun_71 : decode M_Tx_itemBegun.2.1 71 = .ok (.if_icmp .ge 7, 3) := by decide +kernel
theorem d_Tx_itemBegun_74 : decode M_Tx_itemBegun.2.1 74 = .ok (.iconst 1, 1) := by decide +kernel
theorem d_Tx_itemBegun_75 : decode M_Tx_itemBegun.2.1 75 = .ok (.goto 5, 3) := by decide +kernel
theorem d_Tx_itemBegun_78 : decode M_Tx_itemBegun.2.1 78 = .ok (.bipush (-9), 2) := by decide +kernel
theorem d_Tx_itemBegun_80 : decode M_Tx_itemBegun.2.1 80 = .ok (.ireturn, 1) := by decide +kernel
theorem d_Tx_itemBegun_81 : decode M_Tx_itemBegun.2.1 81 = .ok (.aload_n 1, 1) := by decide +kernel
theorem d_Tx_itemBegun_82 : decode M_Tx_itemBegun.2.1 82 = .ok (.getfield 74, 3) := by decide +kernel
theorem d_Tx_itemBegun_85 : decode M_Tx_itemBegun.2.1 85 = .ok (.iconst 4, 1) := by decide +kernel
theorem d_Tx_itemBegun_86 : decode M_Tx_itemBegun.2.1 86 = .ok (.if_icmp .ge 7, 3) := by decide +kernel
theorem d_Tx_itemBegun_89 : decode M_Tx_itemBegun.2.1 89 = .ok (.iconst 2, 1) := by decide +kernel
theorem d_Tx_itemBegun_90 : decode M_Tx_itemBegun.2.1 90 = .ok (.goto 5, 3) := by decide +kernel
theorem d_Tx_itemBegun_93 : decode M_Tx_itemBegun.2.1 93 = .ok (.bipush (-9), 2) := by decide +kernel
theorem d_Tx_itemBegun_95 : decode M_Tx_itemBegun.2.1 95 = .ok (.ireturn, 1) := by decide +kernel
theorem d_Tx_itemBegun_96 : decode M_Tx_itemBegun.2.1 96 = .ok (.aload_n 0, 1) := by decide +kernel
theorem d_Tx_itemBegun_97 : decode M_Tx_itemBegun.2.1 97 = .ok (.getfield 27, 3) := by decide +kernel
theorem d_Tx_itemBegun_100 : decode M_Tx_itemBegun.2.1 100 = .ok (.ifCond .eq 8, 3) := by decide +kernel
theorem d_Tx_itemBegun_103 : decode M_Tx_itemBegun.2.1 103 = .ok (.bipush (-9), 2) := by decide +kernel
theorem d_Tx_itemBegun_105 : decode M_Tx_itemBegun.2.1 105 = .ok (.goto 4, 3) := by decide +kernel
theorem d_Tx_itemBegun_108 : decode M_Tx_itemBegun.2.1 108 = .ok (.iconst 3, 1) := by decide +kernel
theorem d_Tx_itemBegun_109 : decode M_Tx_itemBegun.2.1 109 = .ok (.ireturn, 1) := by decide +kernel
theorem d_Tx_itemBegun_110 : decode M_Tx_itemBegun.2.1 110 = .ok (.bipush (-9), 2) := by decide +kernel
theorem d_Tx_itemBegun_112 : decode M_Tx_itemBegun.2.1 112 = .ok (.ireturn, 1) := by decide +kernel
theorem d_Tx_tell_0 : decode M_Tx_tell.2.1 0 = .ok (.iload_n 2, 1) := by decide +kernel
theorem d_Tx_tell_1 : decode M_Tx_tell.2.1 1 = .ok (.tableswitch 90 0 2 #[27, 46, 71], 27) := by decide +kernel
theorem d_Tx_tell_28 : decode M_Tx_tell.2.1 28 = .ok (.aload_n 1, 1) := by decide +kernel
theorem d_Tx_tell_29 : decode M_Tx_tell.2.1 29 = .ok (.aload_n 0, 1) := by decide +kernel
theorem d_Tx_tell_30 : decode M_Tx_tell.2.1 30 = .ok (.getfield 19, 3) := by decide +kernel
theorem d_Tx_tell_33 : decode M_Tx_tell.2.1 33 = .ok (.iconst 0, 1) := by decide +kernel
theorem d_Tx_tell_34 : decode M_Tx_tell.2.1 34 = .ok (.iaload, 1) := by decide +kernel
theorem d_Tx_tell_35 : decode M_Tx_tell.2.1 35 = .ok (.aload_n 0, 1) := by decide +kernel
theorem d_Tx_tell_36 : decode M_Tx_tell.2.1 36 = .ok (.getfield 19, 3) := by decide +kernel
theorem d_Tx_tell_39 : decode M_Tx_tell.2.1 39 = .ok (.iconst 1, 1) := by decide +kernel
theorem d_Tx_tell_40 : decode M_Tx_tell.2.1 40 = .ok (.iaload, 1) := by decide +kernel
theorem d_Tx_tell_41 : decode M_Tx_tell.2.1 41 = .ok (.invokevirtual 77, 3) := by decide +kernel
theorem d_Tx_tell_44 : decode M_Tx_tell.2.1 44 = .ok (.goto 62, 3) := by decide +kernel
theorem d_Tx_tell_47 : decode M_Tx_tell.2.1 47 = .ok (.aload_n 1, 1) := by decide +kernel
theorem d_Tx_tell_48 : decode M_Tx_tell.2.1 48 = .ok (.aload_n 0, 1) := by decide +kernel
theorem d_Tx_tell_49 : decode M_Tx_tell.2.1 49 = .ok (.getfield 19, 3) := by decide +kernel
theorem d_Tx_tell_52 : decode M_Tx_tell.2.1 52 = .ok (.iconst 0, 1) := by decide +kernel
theorem d_Tx_tell_53 : decode M_Tx_tell.2.1 53 = .ok (.iaload, 1) := by decide +kernel
theorem d_Tx_tell_54 : decode M_Tx_tell.2.1 54 = .ok (.aload_n 0, 1) := by decide +kernel
theorem d_Tx_tell_55 : decode M_Tx_tell.2.1 55 = .ok (.getfield 19, 3) := by decide +kernel
theorem d_Tx_tell_58 : decode M_Tx_tell.2.1 58 = .ok (.iconst 1, 1) := by decide +kernel
theorem d_Tx_tell_59 : decode M_Tx_tell.2.1 59 = .ok (.iaload, 1) := by decide +kernel
theorem d_Tx_tell_60 : decode M_Tx_tell.2.1 60 = .ok (.aload_n 0, 1) := by decide +kernel
theorem d_Tx_tell_61 : decode M_Tx_tell.2.1 61 = .ok (.getfield 19, 3) := by decide +kernel
theorem d_Tx_tell_64 : decode M_Tx_tell.2.1 64 = .ok (.iconst 2, 1) := by decide +kernel
theorem d_Tx_tell_65 : decode M_Tx_tell.2.1 65 = .ok (.iaload, 1) := by decide +kernel
theorem d_Tx_tell_66 : decode M_Tx_tell.2.1 66 = .ok (.invokevirtual 81, 3) := by decide +kernel
theorem d_Tx_tell_69 : decode M_Tx_tell.2.1 69 = .ok (.goto 37, 3) := by decide +kernel
theorem d_Tx_tell_72 : decode M_Tx_tell.2.1 72 = .ok (.aload_n 1, 1) := by decide +kernel
theorem d_Tx_tell_73 : decode M_Tx_tell.2.1 73 = .ok (.aload_n 0, 1) := by decide +kernel
theorem d_Tx_tell_74 : decode M_Tx_tell.2.1 74 = .ok (.getfield 19, 3) := by decide +kernel
theorem d_Tx_tell_77 : decode M_Tx_tell.2.1 77 = .ok (.iconst 0, 1) := by decide +kernel
theorem d_Tx_tell_78 : decode M_Tx_tell.2.1 78 = .ok (.iaload, 1) := by decide +kernel
theorem d_Tx_tell_79 : decode M_Tx_tell.2.1 79 = .ok (.aload_n 0, 1) := by decide +kernel
theorem d_Tx_tell_80 : decode M_Tx_tell.2.1 80 = .ok (.getfield 19, 3) := by decide +kernel
theorem d_Tx_tell_83 : decode M_Tx_tell.2.1 83 = .ok (.iconst 1, 1) := by decide +kernel
theorem d_Tx_tell_84 : decode M_Tx_tell.2.1 84 = .ok (.iaload, 1) := by decide +kernel
theorem d_Tx_tell_85 : decode M_Tx_tell.2.1 85 = .ok (.invokevirtual 85, 3) := by decide +kernel
theorem d_Tx_tell_88 : decode M_Tx_tell.2.1 88 = .ok (.goto 18, 3) := by decide +kernel
theorem d_Tx_tell_91 : decode M_Tx_tell.2.1 91 = .ok (.aload_n 1, 1) := by decide +kernel
theorem d_Tx_tell_92 : decode M_Tx_tell.2.1 92 = .ok (.aload_n 0, 1) := by decide +kernel
theorem d_Tx_tell_93 : decode M_Tx_tell.2.1 93 = .ok (.getfield 19, 3) := by decide +kernel
theorem d_Tx_tell_96 : decode M_Tx_tell.2.1 96 = .ok (.iconst 0, 1) := by decide +kernel
theorem d_Tx_tell_97 : decode M_Tx_tell.2.1 97 = .ok (.iaload, 1) := by decide +kernel
theorem d_Tx_tell_98 : decode M_Tx_tell.2.1 98 = .ok (.putfield 88, 3) := by decide +kernel
theorem d_Tx_tell_101 : decode M_Tx_tell.2.1 101 = .ok (.aload_n 0, 1) := by decide +kernel
theorem d_Tx_tell_102 : decode M_Tx_tell.2.1 102 = .ok (.iconst 1, 1) := by decide +kernel
theorem d_Tx_tell_103 : decode M_Tx_tell.2.1 103 = .ok (.putfield 27, 3) := by decide +kernel
theorem d_Tx_tell_106 : decode M_Tx_tell.2.1 106 = .ok (.return_, 1) := by decide +kernel
theorem d_Tx_readToken_0 : decode M_Tx_readToken.2.1 0 = .ok (.aload_n 0, 1) := by decide +kernel
theorem d_Tx_readToken_1 : decode M_Tx_readToken.2.1 1 = .ok (.getfield 31, 3) := by decide +kernel
theorem d_Tx_readToken_4 : decode M_Tx_readToken.2.1 4 = .ok (.aload_n 0, 1) := by decide +kernel
theorem d_Tx_readToken_5 : decode M_Tx_readToken.2.1 5 = .ok (.getfield 15, 3) := by decide +kernel
theorem d_Tx_readToken_8 : decode M_Tx_readToken.2.1 8 = .ok (.if_icmp .ge 30, 3) := by decide +kernel
theorem d_Tx_readToken_11 : decode M_Tx_readToken.2.1 11 = .ok (.aload_n 0, 1) := by decide +kernel
theorem d_Tx_readToken_12 : decode M_Tx_readToken.2.1 12 = .ok (.getfield 9, 3) := by decide +kernel
theorem d_Tx_readToken_15 : decode M_Tx_readToken.2.1 15 = .ok (.aload_n 0, 1) := by decide +kernel
theorem d_Tx_readToken_16 : decode M_Tx_readToken.2.1 16 = .ok (.getfield 31, 3) := by decide +kernel
theorem d_Tx_readToken_19 : decode M_Tx_readToken.2.1 19 = .ok (.iaload, 1) := by decide +kernel
theorem d_Tx_readToken_20 : decode M_Tx_readToken.2.1 20 = .ok (.bipush 32, 2) := by decide +kernel
theorem d_Tx_readToken_22 : decode M_Tx_readToken.2.1 22 = .ok (.if_icmp .ne 16, 3) := by decide +kernel
theorem d_Tx_readToken_25 : decode M_Tx_readToken.2.1 25 = .ok (.aload_n 0, 1) := by decide +kernel
theorem d_Tx_readToken_26 : decode M_Tx_readToken.2.1 26 = .ok (.dup, 1) := by decide +kernel
theorem d_Tx_readToken_27 : decode M_Tx_readToken.2.1 27 = .ok (.getfield 31, 3) := by decide +kernel
theorem d_Tx_readToken_30 : decode M_Tx_readToken.2.1 30 = .ok (.iconst 1, 1) := by decide +kernel
theorem d_Tx_readToken_31 : decode M_Tx_readToken.2.1 31 = .ok (.iadd, 1) := by decide +kernel
theorem d_Tx_readToken_32 : decode M_Tx_readToken.2.1 32 = .ok (.putfield 31, 3) := by decide +kernel
theorem d_Tx_readToken_35 : decode M_Tx_readToken.2.1 35 = .ok (.goto (-35), 3) := by decide +kernel
theorem d_Tx_readToken_38 : decode M_Tx_readToken.2.1 38 = .ok (.aload_n 0, 1) := by decide +kernel
theorem d_Tx_readToken_39 : decode M_Tx_readToken.2.1 39 = .ok (.aload_n 0, 1) := by decide +kernel
theorem d_Tx_readToken_40 : decode M_Tx_readToken.2.1 40 = .ok (.getfield 31, 3) := by decide +kernel
theorem d_Tx_readToken_43 : decode M_Tx_readToken.2.1 43 = .ok (.putfield 44, 3) := by decide +kernel
theorem d_Tx_readToken_46 : decode M_Tx_readToken.2.1 46 = .ok (.aload_n 0, 1) := by decide +kernel
theorem d_Tx_readToken_47 : decode M_Tx_readToken.2.1 47 = .ok (.iconst 0, 1) := by decide +kernel
theorem d_Tx_readToken_48 : decode M_Tx_readToken.2.1 48 = .ok (.putfield 54, 3) := by decide +kernel
theorem d_Tx_readToken_51 : decode M_Tx_readToken.2.1 51 = .ok (.aload_n 0, 1) := by decide +kernel
theorem d_Tx_readToken_52 : decode M_Tx_readToken.2.1 52 = .ok (.getfield 31, 3) := by decide +kernel
theorem d_Tx_readToken_55 : decode M_Tx_readToken.2.1 55 = .ok (.aload_n 0, 1) := by decide +kernel
theorem d_Tx_readToken_56 : decode M_Tx_readToken.2.1 56 = .ok (.getfield 15, 3) := by decide +kernel
theorem d_Tx_readToken_59 : decode M_Tx_readToken.2.1 59 = .ok (.if_icmp .lt 11, 3) := by decide +kernel
theorem d_Tx_readToken_62 : decode M_Tx_readToken.2.1 62 = .ok (.aload_n 0, 1) := by decide +kernel
theorem d_Tx_readToken_63 : decode M_Tx_readToken.2.1 63 = .ok (.iconst 0, 1) := by decide +kernel
theorem d_Tx_readToken_64 : decode M_Tx_readToken.2.1 64 = .ok (.putfield 37, 3) := by decide +kernel
theorem d_Tx_readToken_67 : decode M_Tx_readToken.2.1 67 = .ok (.goto 80, 3) := by decide +kernel
theorem d_Tx_readToken_70 : decode M_Tx_readToken.2.1 70 = .ok (.aload_n 0, 1) := by decide +kernel
theorem d_Tx_readToken_71 : decode M_Tx_readToken.2.1 71 = .ok (.getfield 9, 3) := by decide +kernel
theorem d_Tx_readToken_74 : decode M_Tx_readToken.2.1 74 = .ok (.aload_n 0, 1) := by decide +kernel
theorem d_Tx_readToken_75 : decode M_Tx_readToken.2.1 75 = .ok (.getfield 31, 3) := by decide +kernel
theorem d_Tx_readToken_78 : decode M_Tx_readToken.2.1 78 = .ok (.iaload, 1) := by decide +kernel
theorem d_Tx_readToken_79 : decode M_Tx_readToken.2.1 79 = .ok (.invokestatic 91, 3) := by decide +kernel
theorem d_Tx_readToken_82 : decode M_Tx_readToken.2.1 82 = .ok (.ifCond .eq 10, 3) := by decide +kernel
theorem d_Tx_readToken_85 : decode M_Tx_readToken.2.1 85 = .ok (.aload_n 0, 1) := by decide +kernel
theorem d_Tx_readToken_86 : decode M_Tx_readToken.2.1 86 = .ok (.invokevirtual 95, 3) := by decide +kernel
theorem d_Tx_readToken_89 : decode M_Tx_readToken.2.1 89 = .ok (.goto 58, 3) := by decide +kernel
theorem d_Tx_readToken_92 : decode M_Tx_readToken.2.1 92 = .ok (.aload_n 0, 1) := by decide +kernel
theorem d_Tx_readToken_93 : decode M_Tx_readToken.2.1 93 = .ok (.getfield 9, 3) := by decide +kernel
theorem d_Tx_readToken_96 : decode M_Tx_readToken.2.1 96 = .ok (.aload_n 0, 1) := by decide +kernel
theorem d_Tx_readToken_97 : decode M_Tx_readToken.2.1 97 = .ok (.getfield 31, 3) := by decide +kernel
theorem d_Tx_readToken_100 : decode M_Tx_readToken.2.1 100 = .ok (.iaload, 1) := by decide +kernel
theorem d_Tx_readToken_101 : decode M_Tx_readToken.2.1 101 = .ok (.invokestatic 98, 3) := by decide +kernel
theorem d_Tx_readToken_104 : decode M_Tx_readToken.2.1 104 = .ok (.ifCond .eq 10, 3) := by decide +kernel
theorem d_Tx_readToken_107 : decode M_Tx_readToken.2.1 107 = .ok (.aload_n 0, 1) := by decide +kernel
theorem d_Tx_readToken_108 : decode M_Tx_readToken.2.1 108 = .ok (.invokevirtual 101, 3) := by decide +kernel
theorem d_Tx_readToken_111 : decode M_Tx_readToken.2.1 111 = .ok (.goto 36, 3) := by decide +kernel
theorem d_Tx_readToken_114 : decode M_Tx_readToken.2.1 114 = .ok (.aload_n 0, 1) := by decide +kernel
theorem d_Tx_readToken_115 : decode M_Tx_readToken.2.1 115 = .ok (.aload_n 0, 1) := by decide +kernel
theorem d_Tx_readToken_116 : decode M_Tx_readToken.2.1 116 = .ok (.getfield 9, 3) := by decide +kernel
theorem d_Tx_readToken_119 : decode M_Tx_readToken.2.1 119 = .ok (.aload_n 0, 1) := by decide +kernel
theorem d_Tx_readToken_120 : decode M_Tx_readToken.2.1 120 = .ok (.getfield 31, 3) := by decide +kernel
theorem d_Tx_readToken_123 : decode M_Tx_readToken.2.1 123 = .ok (.iaload, 1) := by decide +kernel
theorem d_Tx_readToken_124 : decode M_Tx_readToken.2.1 124 = .ok (.bipush 59, 2) := by decide +kernel
theorem d_Tx_readToken_126 : decode M_Tx_readToken.2.1 126 = .ok (.if_icmp .ne 7, 3) := by decide +kernel
theorem d_Tx_readToken_129 : decode M_Tx_readToken.2.1 129 = .ok (.iconst 3, 1) := by decide +kernel
theorem d_Tx_readToken_130 : decode M_Tx_readToken.2.1 130 = .ok (.goto 4, 3) := by decide +kernel
theorem d_Tx_readToken_133 : decode M_Tx_readToken.2.1 133 = .ok (.iconst 4, 1) := by decide +kernel
theorem d_Tx_readToken_134 : decode M_Tx_readToken.2.1 134 = .ok (.putfield 37, 3) := by decide +kernel
theorem d_Tx_readToken_137 : decode M_Tx_readToken.2.1 137 = .ok (.aload_n 0, 1) := by decide +kernel
theorem d_Tx_readToken_138 : decode M_Tx_readToken.2.1 138 = .ok (.dup, 1) := by decide +kernel
theorem d_Tx_readToken_139 : decode M_Tx_readToken.2.1 139 = .ok (.getfield 31, 3) := by decide +kernel
theorem d_Tx_readToken_142 : decode M_Tx_readToken.2.1 142 = .ok (.iconst 1, 1) := by decide +kernel
theorem d_Tx_readToken_143 : decode M_Tx_readToken.2.1 143 = .ok (.iadd, 1) := by decide +kernel
theorem d_Tx_readToken_144 : decode M_Tx_readToken.2.1 144 = .ok (.putfield 31, 3) := by decide +kernel
theorem d_Tx_readToken_147 : decode M_Tx_readToken.2.1 147 = .ok (.return_, 1) := by decide +kernel
theorem d_Tx_readLetters_0 : decode M_Tx_readLetters.2.1 0 = .ok (.aload_n 0, 1) := by decide +kernel
theorem d_Tx_readLetters_1 : decode M_Tx_readLetters.2.1 1 = .ok (.iconst 1, 1) := by decide +kernel
theorem d_Tx_readLetters_2 : decode M_Tx_readLetters.2.1 2 = .ok (.putfield 37, 3) := by decide +kernel
theorem d_Tx_readLetters_5 : decode M_Tx_readLetters.2.1 5 = .ok (.aload_n 0, 1) := by decide +kernel
theorem d_Tx_readLetters_6 : decode M_Tx_readLetters.2.1 6 = .ok (.aload_n 0, 1) := by decide +kernel
theorem d_Tx_readLetters_7 : decode M_Tx_readLetters.2.1 7 = .ok (.getfield 9, 3) := by decide +kernel
theorem d_Tx_readLetters_10 : decode M_Tx_readLetters.2.1 10 = .ok (.aload_n 0, 1) := by decide +kernel
theorem d_Tx_readLetters_11 : decode M_Tx_readLetters.2.1 11 = .ok (.getfield 31, 3) := by decide +kernel
theorem d_Tx_readLetters_14 : decode M_Tx_readLetters.2.1 14 = .ok (.iaload, 1) := by decide +kernel
theorem d_Tx_readLetters_15 : decode M_Tx_readLetters.2.1 15 = .ok (.putfield 54, 3) := by decide +kernel
theorem d_Tx_readLetters_18 : decode M_Tx_readLetters.2.1 18 = .ok (.aload_n 0, 1) := by decide +kernel
theorem d_Tx_readLetters_19 : decode M_Tx_readLetters.2.1 19 = .ok (.dup, 1) := by decide +kernel
theorem d_Tx_readLetters_20 : decode M_Tx_readLetters.2.1 20 = .ok (.getfield 31, 3) := by decide +kernel
theorem d_Tx_readLetters_23 : decode M_Tx_readLetters.2.1 23 = .ok (.iconst 1, 1) := by decide +kernel
theorem d_Tx_readLetters_24 : decode M_Tx_readLetters.2.1 24 = .ok (.iadd, 1) := by decide +kernel
theorem d_Tx_readLetters_25 : decode M_Tx_readLetters.2.1 25 = .ok (.putfield 31, 3) := by decide +kernel
theorem d_Tx_readLetters_28 : decode M_Tx_readLetters.2.1 28 = .ok (.aload_n 0, 1) := by decide +kernel
theorem d_Tx_readLetters_29 : decode M_Tx_readLetters.2.1 29 = .ok (.getfield 31, 3) := by decide +kernel
theorem d_Tx_readLetters_32 : decode M_Tx_readLetters.2.1 32 = .ok (.aload_n 0, 1) := by decide +kernel
theorem d_Tx_readLetters_33 : decode M_Tx_readLetters.2.1 33 = .ok (.getfield 15, 3) := by decide +kernel
theorem d_Tx_readLetters_36 : decode M_Tx_readLetters.2.1 36 = .ok (.if_icmp .ge 36, 3) := by decide +kernel
theorem d_Tx_readLetters_39 : decode M_Tx_readLetters.2.1 39 = .ok (.aload_n 0, 1) := by decide +kernel
theorem d_Tx_readLetters_40 : decode M_Tx_readLetters.2.1 40 = .ok (.getfield 9, 3) := by decide +kernel
theorem d_Tx_readLetters_43 : decode M_Tx_readLetters.2.1 43 = .ok (.aload_n 0, 1) := by decide +kernel
theorem d_Tx_readLetters_44 : decode M_Tx_readLetters.2.1 44 = .ok (.getfield 31, 3) := by decide +kernel
theorem d_Tx_readLetters_47 : decode M_Tx_readLetters.2.1 47 = .ok (.iaload, 1) := by decide +kernel
theorem d_Tx_readLetters_48 : decode M_Tx_readLetters.2.1 48 = .ok (.invokestatic 91, 3) := by decide +kernel
theorem d_Tx_readLetters_51 : decode M_Tx_readLetters.2.1 51 = .ok (.ifCond .eq 21, 3) := by decide +kernel
theorem d_Tx_readLetters_54 : decode M_Tx_readLetters.2.1 54 = .ok (.aload_n 0, 1) := by decide +kernel
theorem d_Tx_readLetters_55 : decode M_Tx_readLetters.2.1 55 = .ok (.iconst 0, 1) := by decide +kernel
theorem d_Tx_readLetters_56 : decode M_Tx_readLetters.2.1 56 = .ok (.putfield 54, 3) := by decide +kernel
theorem d_Tx_readLetters_59 : decode M_Tx_readLetters.2.1 59 = .ok (.aload_n 0, 1) := by decide +kernel
theorem d_Tx_readLetters_60 : decode M_Tx_readLetters.2.1 60 = .ok (.dup, 1) := by decide +kernel
theorem d_Tx_readLetters_61 : decode M_Tx_readLetters.2.1 61 = .ok (.getfield 31, 3) := by decide +kernel
theorem d_Tx_readLetters_64 : decode M_Tx_readLetters.2.1 64 = .ok (.iconst 1, 1) := by decide +kernel
theorem d_Tx_readLetters_65 : decode M_Tx_readLetters.2.1 65 = .ok (.iadd, 1) := by decide +kernel
theorem d_Tx_readLetters_66 : decode M_Tx_readLetters.2.1 66 = .ok (.putfield 31, 3) := by decide +kernel
theorem d_Tx_readLetters_69 : decode M_Tx_readLetters.2.1 69 = .ok (.goto (-41), 3) := by decide +kernel
theorem d_Tx_readLetters_72 : decode M_Tx_readLetters.2.1 72 = .ok (.return_, 1) := by decide +kernel
theorem d_Tx_readNumber_0 : decode M_Tx_readNumber.2.1 0 = .ok (.aload_n 0, 1) := by decide +kernel
theorem d_Tx_readNumber_1 : decode M_Tx_readNumber.2.1 1 = .ok (.iconst 2, 1) := by decide +kernel
theorem d_Tx_readNumber_2 : decode M_Tx_readNumber.2.1 2 = .ok (.putfield 37, 3) := by decide +kernel
theorem d_Tx_readNumber_5 : decode M_Tx_readNumber.2.1 5 = .ok (.aload_n 0, 1) := by decide +kernel
theorem d_Tx_readNumber_6 : decode M_Tx_readNumber.2.1 6 = .ok (.aload_n 0, 1) := by decide +kernel
theorem d_Tx_readNumber_7 : decode M_Tx_readNumber.2.1 7 = .ok (.getfield 9, 3) := by decide +kernel
theorem d_Tx_readNumber_10 : decode M_Tx_readNumber.2.1 10 = .ok (.aload_n 0, 1) := by decide +kernel
theorem d_Tx_readNumber_11 : decode M_Tx_readNumber.2.1 11 = .ok (.getfield 31, 3) := by decide +kernel
theorem d_Tx_readNumber_14 : decode M_Tx_readNumber.2.1 14 = .ok (.iaload, 1) := by decide +kernel
theorem d_Tx_readNumber_15 : decode M_Tx_readNumber.2.1 15 = .ok (.bipush 48, 2) := by decide +kernel
theorem d_Tx_readNumber_17 : decode M_Tx_readNumber.2.1 17 = .ok (.isub, 1) := by decide +kernel
theorem d_Tx_readNumber_18 : decode M_Tx_readNumber.2.1 18 = .ok (.putfield 54, 3) := by decide +kernel
theorem d_Tx_readNumber_21 : decode M_Tx_readNumber.2.1 21 = .ok (.aload_n 0, 1) := by decide +kernel
theorem d_Tx_readNumber_22 : decode M_Tx_readNumber.2.1 22 = .ok (.getfield 54, 3) := by decide +kernel
theorem d_Tx_readNumber_25 : decode M_Tx_readNumber.2.1 25 = .ok (.ifCond .ne 7, 3) := by decide +kernel
theorem d_Tx_readNumber_28 : decode M_Tx_readNumber.2.1 28 = .ok (.iconst 1, 1) := by decide +kernel
theorem d_Tx_readNumber_29 : decode M_Tx_readNumber.2.1 29 = .ok (.goto 4, 3) := by decide +kernel
theorem d_Tx_readNumber_32 : decode M_Tx_readNumber.2.1 32 = .ok (.iconst 0, 1) := by decide +kernel
theorem d_Tx_readNumber_33 : decode M_Tx_readNumber.2.1 33 = .ok (.istore_n 1, 1) := by decide +kernel
theorem d_Tx_readNumber_34 : decode M_Tx_readNumber.2.1 34 = .ok (.aload_n 0, 1) := by decide +kernel
theorem d_Tx_readNumber_35 : decode M_Tx_readNumber.2.1 35 = .ok (.dup, 1) := by decide +kernel
theorem d_Tx_readNumber_36 : decode M_Tx_readNumber.2.1 36 = .ok (.getfield 31, 3) := by decide +kernel
theorem d_Tx_readNumber_39 : decode M_Tx_readNumber.2.1 39 = .ok (.iconst 1, 1) := by decide +kernel
theorem d_Tx_readNumber_40 : decode M_Tx_readNumber.2.1 40 = .ok (.iadd, 1) := by decide +kernel
theorem d_Tx_readNumber_41 : decode M_Tx_readNumber.2.1 41 = .ok (.putfield 31, 3) := by decide +kernel
theorem d_Tx_readNumber_44 : decode M_Tx_readNumber.2.1 44 = .ok (.aload_n 0, 1) := by decide +kernel
theorem d_Tx_readNumber_45 : decode M_Tx_readNumber.2.1 45 = .ok (.getfield 31, 3) := by decide +kernel
theorem d_Tx_readNumber_48 : decode M_Tx_readNumber.2.1 48 = .ok (.aload_n 0, 1) := by decide +kernel
theorem d_Tx_readNumber_49 : decode M_Tx_readNumber.2.1 49 = .ok (.getfield 15, 3) := by decide +kernel
theorem d_Tx_readNumber_52 : decode M_Tx_readNumber.2.1 52 = .ok (.if_icmp .ge 69, 3) := by decide +kernel
theorem d_Tx_readNumber_55 : decode M_Tx_readNumber.2.1 55 = .ok (.aload_n 0, 1) := by decide +kernel
theorem d_Tx_readNumber_56 : decode M_Tx_readNumber.2.1 56 = .ok (.getfield 9, 3) := by decide +kernel
theorem d_Tx_readNumber_59 : decode M_Tx_readNumber.2.1 59 = .ok (.aload_n 0, 1) := by decide +kernel
theorem d_Tx_readNumber_60 : decode M_Tx_readNumber.2.1 60 = .ok (.getfield 31, 3) := by decide +kernel
theorem d_Tx_readNumber_63 : decode M_Tx_readNumber.2.1 63 = .ok (.iaload, 1) := by decide +kernel
theorem d_Tx_readNumber_64 : decode M_Tx_readNumber.2.1 64 = .ok (.invokestatic 98, 3) := by decide +kernel
theorem d_Tx_readNumber_67 : decode M_Tx_readNumber.2.1 67 = .ok (.ifCond .eq 54, 3) := by decide +kernel
theorem d_Tx_readNumber_70 : decode M_Tx_readNumber.2.1 70 = .ok (.aload_n 0, 1) := by decide +kernel
theorem d_Tx_readNumber_71 : decode M_Tx_readNumber.2.1 71 = .ok (.iload_n 1, 1) := by decide +kernel
theorem d_Tx_readNumber_72 : decode M_Tx_readNumber.2.1 72 = .ok (.ifCond .eq 8, 3) := by decide +kernel
theorem d_Tx_readNumber_75 : decode M_Tx_readNumber.2.1 75 = .ok (.bipush 100, 2) := by decide +kernel
theorem d_Tx_readNumber_77 : decode M_Tx_readNumber.2.1 77 = .ok (.goto 28, 3) := by decide +kernel
theorem d_Tx_readNumber_80 : decode M_Tx_readNumber.2.1 80 = .ok (.bipush 100, 2) := by decide +kernel
theorem d_Tx_readNumber_82 : decode M_Tx_readNumber.2.1 82 = .ok (.bipush 10, 2) := by decide +kernel
theorem d_Tx_readNumber_84 : decode M_Tx_readNumber.2.1 84 = .ok (.aload_n 0, 1) := by decide +kernel
theorem d_Tx_readNumber_85 : decode M_Tx_readNumber.2.1 85 = .ok (.getfield 54, 3) := by decide +kernel
theorem d_Tx_readNumber_88 : decode M_Tx_readNumber.2.1 88 = .ok (.imul, 1) := by decide +kernel
theorem d_Tx_readNumber_89 : decode M_Tx_readNumber.2.1 89 = .ok (.aload_n 0, 1) := by decide +kernel
theorem d_Tx_readNumber_90 : decode M_Tx_readNumber.2.1 90 = .ok (.getfield 9, 3) := by decide +kernel
theorem d_Tx_readNumber_93 : decode M_Tx_readNumber.2.1 93 = .ok (.aload_n 0, 1) := by decide +kernel
theorem d_Tx_readNumber_94 : decode M_Tx_readNumber.2.1 94 = .ok (.getfield 31, 3) := by decide +kernel
theorem d_Tx_readNumber_97 : decode M_Tx_readNumber.2.1 97 = .ok (.iaload, 1) := by decide +kernel
theorem d_Tx_readNumber_98 : decode M_Tx_readNumber.2.1 98 = .ok (.iadd, 1) := by decide +kernel
theorem d_Tx_readNumber_99 : decode M_Tx_readNumber.2.1 99 = .ok (.bipush 48, 2) := by decide +kernel
theorem d_Tx_readNumber_101 : decode M_Tx_readNumber.2.1 101 = .ok (.isub, 1) := by decide +kernel
theorem d_Tx_readNumber_102 : decode M_Tx_readNumber.2.1 102 = .ok (.invokestatic 104, 3) := by decide +kernel
theorem d_Tx_readNumber_105 : decode M_Tx_readNumber.2.1 105 = .ok (.putfield 54, 3) := by decide +kernel
theorem d_Tx_readNumber_108 : decode M_Tx_readNumber.2.1 108 = .ok (.aload_n 0, 1) := by decide +kernel
theorem d_Tx_readNumber_109 : decode M_Tx_readNumber.2.1 109 = .ok (.dup, 1) := by decide +kernel
theorem d_Tx_readNumber_110 : decode M_Tx_readNumber.2.1 110 = .ok (.getfield 31, 3) := by decide +kernel
theorem d_Tx_readNumber_113 : decode M_Tx_readNumber.2.1 113 = .ok (.iconst 1, 1) := by decide +kernel
theorem d_Tx_readNumber_114 : decode M_Tx_readNumber.2.1 114 = .ok (.iadd, 1) := by decide +kernel
theorem d_Tx_readNumber_115 : decode M_Tx_readNumber.2.1 115 = .ok (.putfield 31, 3) := by decide +kernel
theorem d_Tx_readNumber_118 : decode M_Tx_readNumber.2.1 118 = .ok (.goto (-74), 3) := by decide +kernel
theorem d_Tx_readNumber_121 : decode M_Tx_readNumber.2.1 121 = .ok (.return_, 1) := by decide +kernel
theorem d_Tx_isLetter_0 : decode M_Tx_isLetter.2.1 0 = .ok (.iload_n 0, 1) := by decide +kernel
theorem d_Tx_isLetter_1 : decode M_Tx_isLetter.2.1 1 = .ok (.bipush 97, 2) := by decide +kernel
theorem d_Tx_isLetter_3 : decode M_Tx_isLetter.2.1 3 = .ok (.if_icmp .lt 13, 3) := by decide +kernel
theorem d_Tx_isLetter_6 : decode M_Tx_isLetter.2.1 6 = .ok (.iload_n 0, 1) := by decide +kernel
theorem d_Tx_isLetter_7 : decode M_Tx_isLetter.2.1 7 = .ok (.bipush 122, 2) := by decide +kernel
theorem d_Tx_isLetter_9 : decode M_Tx_isLetter.2.1 9 = .ok (.if_icmp .gt 7, 3) := by decide +kernel
theorem d_Tx_isLetter_12 : decode M_Tx_isLetter.2.1 12 = .ok (.iconst 1, 1) := by decide +kernel
theorem d_Tx_isLetter_13 : decode M_Tx_isLetter.2.1 13 = .ok (.goto 4, 3) := by decide +kernel
theorem d_Tx_isLetter_16 : decode M_Tx_isLetter.2.1 16 = .ok (.iconst 0, 1) := by decide +kernel
theorem d_Tx_isLetter_17 : decode M_Tx_isLetter.2.1 17 = .ok (.ireturn, 1) := by decide +kernel
theorem d_Tx_isDigit_0 : decode M_Tx_isDigit.2.1 0 = .ok (.iload_n 0, 1) := by decide +kernel
theorem d_Tx_isDigit_1 : decode M_Tx_isDigit.2.1 1 = .ok (.bipush 48, 2) := by decide +kernel
theorem d_Tx_isDigit_3 : decode M_Tx_isDigit.2.1 3 = .ok (.if_icmp .lt 13, 3) := by decide +kernel
theorem d_Tx_isDigit_6 : decode M_Tx_isDigit.2.1 6 = .ok (.iload_n 0, 1) := by decide +kernel
theorem d_Tx_isDigit_7 : decode M_Tx_isDigit.2.1 7 = .ok (.bipush 57, 2) := by decide +kernel
theorem d_Tx_isDigit_9 : decode M_Tx_isDigit.2.1 9 = .ok (.if_icmp .gt 7, 3) := by decide +kernel
theorem d_Tx_isDigit_12 : decode M_Tx_isDigit.2.1 12 = .ok (.iconst 1, 1) := by decide +kernel
theorem d_Tx_isDigit_13 : decode M_Tx_isDigit.2.1 13 = .ok (.goto 4, 3) := by decide +kernel
theorem d_Tx_isDigit_16 : decode M_Tx_isDigit.2.1 16 = .ok (.iconst 0, 1) := by decide +kernel
theorem d_Tx_isDigit_17 : decode M_Tx_isDigit.2.1 17 = .ok (.ireturn, 1) := by decide +kernel
theorem d_To_init_0 : decode M_To_init.2.1 0 = .ok (.aload_n 0, 1) := by decide +kernel
theorem d_To_init_1 : decode M_To_init.2.1 1 = .ok (.invokespecial 3, 3) := by decide +kernel
theorem d_To_init_4 : decode M_To_init.2.1 4 = .ok (.aload_n 0, 1) := by decide +kernel
theorem d_To_init_5 : decode M_To_init.2.1 5 = .ok (.bipush 10, 2) := by decide +kernel
theorem d_To_init_7 : decode M_To_init.2.1 7 = .ok (.newarray .int, 2) := by decide +kernel
theorem d_To_init_9 : decode M_To_init.2.1 9 = .ok (.putfield 9, 3) := by decide +kernel
theorem d_To_init_12 : decode M_To_init.2.1 12 = .ok (.aload_n 0, 1) := by decide +kernel
theorem d_To_init_13 : decode M_To_init.2.1 13 = .ok (.iconst 3, 1) := by decide +kernel
theorem d_To_init_14 : decode M_To_init.2.1 14 = .ok (.newarray .int, 2) := by decide +kernel
theorem d_To_init_16 : decode M_To_init.2.1 16 = .ok (.putfield 15, 3) := by decide +kernel
theorem d_To_init_19 : decode M_To_init.2.1 19 = .ok (.aload_n 0, 1) := by decide +kernel
theorem d_To_init_20 : decode M_To_init.2.1 20 = .ok (.iconst 3, 1) := by decide +kernel
theorem d_To_init_21 : decode M_To_init.2.1 21 = .ok (.newarray .int, 2) := by decide +kernel
theorem d_To_init_23 : decode M_To_init.2.1 23 = .ok (.putfield 18, 3) := by decide +kernel
theorem d_To_init_26 : decode M_To_init.2.1 26 = .ok (.aload_n 0, 1) := by decide +kernel
theorem d_To_init_27 : decode M_To_init.2.1 27 = .ok (.iconst 4, 1) := by decide +kernel
theorem d_To_init_28 : decode M_To_init.2.1 28 = .ok (.newarray .int, 2) := by decide +kernel
theorem d_To_init_30 : decode M_To_init.2.1 30 = .ok (.putfield 21, 3) := by decide +kernel
theorem d_To_init_33 : decode M_To_init.2.1 33 = .ok (.aload_n 0, 1) := by decide +kernel
theorem d_To_init_34 : decode M_To_init.2.1 34 = .ok (.iconst 4, 1) := by decide +kernel
theorem d_To_init_35 : decode M_To_init.2.1 35 = .ok (.newarray .int, 2) := by decide +kernel
theorem d_To_init_37 : decode M_To_init.2.1 37 = .ok (.putfield 24, 3) := by decide +kernel
theorem d_To_init_40 : decode M_To_init.2.1 40 = .ok (.aload_n 0, 1) := by decide +kernel
theorem d_To_init_41 : decode M_To_init.2.1 41 = .ok (.iconst 0, 1) := by decide +kernel
theorem d_To_init_42 : decode M_To_init.2.1 42 = .ok (.putfield 27, 3) := by decide +kernel
theorem d_To_init_45 : decode M_To_init.2.1 45 = .ok (.aload_n 0, 1) := by decide +kernel
theorem d_To_init_46 : decode M_To_init.2.1 46 = .ok (.iconst 0, 1) := by decide +kernel
theorem d_To_init_47 : decode M_To_init.2.1 47 = .ok (.putfield 31, 3) := by decide +kernel
theorem d_To_init_50 : decode M_To_init.2.1 50 = .ok (.aload_n 0, 1) := by decide +kernel
theorem d_To_init_51 : decode M_To_init.2.1 51 = .ok (.bipush 20, 2) := by decide +kernel
theorem d_To_init_53 : decode M_To_init.2.1 53 = .ok (.putfield 34, 3) := by decide +kernel
theorem d_To_init_56 : decode M_To_init.2.1 56 = .ok (.aload_n 0, 1) := by decide +kernel
theorem d_To_init_57 : decode M_To_init.2.1 57 = .ok (.iconst 0, 1) := by decide +kernel
theorem d_To_init_58 : decode M_To_init.2.1 58 = .ok (.putfield 37, 3) := by decide +kernel
theorem d_To_init_61 : decode M_To_init.2.1 61 = .ok (.return_, 1) := by decide +kernel
theorem d_To_tellNothing_0 : decode M_To_tellNothing.2.1 0 = .ok (.aload_n 0, 1) := by decide +kernel
theorem d_To_tellNothing_1 : decode M_To_tellNothing.2.1 1 = .ok (.getfield 9, 3) := by decide +kernel
theorem d_To_tellNothing_4 : decode M_To_tellNothing.2.1 4 = .ok (.iconst 0, 1) := by decide +kernel
theorem d_To_tellNothing_5 : decode M_To_tellNothing.2.1 5 = .ok (.invokestatic 40, 3) := by decide +kernel
theorem d_To_tellNothing_8 : decode M_To_tellNothing.2.1 8 = .ok (.aload_n 0, 1) := by decide +kernel
theorem d_To_tellNothing_9 : decode M_To_tellNothing.2.1 9 = .ok (.iconst 0, 1) := by decide +kernel
theorem d_To_tellNothing_10 : decode M_To_tellNothing.2.1 10 = .ok (.putfield 27, 3) := by decide +kernel
theorem d_To_tellNothing_13 : decode M_To_tellNothing.2.1 13 = .ok (.aload_n 0, 1) := by decide +kernel
theorem d_To_tellNothing_14 : decode M_To_tellNothing.2.1 14 = .ok (.iconst 0, 1) := by decide +kernel
theorem d_To_tellNothing_15 : decode M_To_tellNothing.2.1 15 = .ok (.putfield 31, 3) := by decide +kernel
theorem d_To_tellNothing_18 : decode M_To_tellNothing.2.1 18 = .ok (.aload_n 0, 1) := by decide +kernel
theorem d_To_tellNothing_19 : decode M_To_tellNothing.2.1 19 = .ok (.bipush 20, 2) := by decide +kernel
theorem d_To_tellNothing_21 : decode M_To_tellNothing.2.1 21 = .ok (.putfield 34, 3) := by decide +kernel
theorem d_To_tellNothing_24 : decode M_To_tellNothing.2.1 24 = .ok (.aload_n 0, 1) := by decide +kernel
theorem d_To_tellNothing_25 : decode M_To_tellNothing.2.1 25 = .ok (.iconst 0, 1) := by decide +kernel
theorem d_To_tellNothing_26 : decode M_To_tellNothing.2.1 26 = .ok (.putfield 37, 3) := by decide +kernel
theorem d_To_tellNothing_29 : decode M_To_tellNothing.2.1 29 = .ok (.return_, 1) := by decide +kernel
theorem d_To_copyFrom_0 : decode M_To_copyFrom.2.1 0 = .ok (.aload_n 1, 1) := by decide +kernel
theorem d_To_copyFrom_1 : decode M_To_copyFrom.2.1 1 = .ok (.getfield 9, 3) := by decide +kernel
theorem d_To_copyFrom_4 : decode M_To_copyFrom.2.1 4 = .ok (.iconst 0, 1) := by decide +kernel
theorem d_To_copyFrom_5 : decode M_To_copyFrom.2.1 5 = .ok (.aload_n 0, 1) := by decide +kernel
theorem d_To_copyFrom_6 : decode M_To_copyFrom.2.1 6 = .ok (.getfield 9, 3) := by decide +kernel
theorem d_To_copyFrom_9 : decode M_To_copyFrom.2.1 9 = .ok (.iconst 0, 1) := by decide +kernel
theorem d_To_copyFrom_10 : decode M_To_copyFrom.2.1 10 = .ok (.bipush 10, 2) := by decide +kernel
theorem d_To_copyFrom_12 : decode M_To_copyFrom.2.1 12 = .ok (.invokestatic 46, 3) := by decide +kernel
theorem d_To_copyFrom_15 : decode M_To_copyFrom.2.1 15 = .ok (.aload_n 1, 1) := by decide +kernel
theorem d_To_copyFrom_16 : decode M_To_copyFrom.2.1 16 = .ok (.getfield 15, 3) := by decide +kernel
theorem d_To_copyFrom_19 : decode M_To_copyFrom.2.1 19 = .ok (.iconst 0, 1) := by decide +kernel
theorem d_To_copyFrom_20 : decode M_To_copyFrom.2.1 20 = .ok (.aload_n 0, 1) := by decide +kernel
theorem d_To_copyFrom_21 : decode M_To_copyFrom.2.1 21 = .ok (.getfield 15, 3) := by decide +kernel
theorem d_To_copyFrom_24 : decode M_To_copyFrom.2.1 24 = .ok (.iconst 0, 1) := by decide +kernel
theorem d_To_copyFrom_25 : decode M_To_copyFrom.2.1 25 = .ok (.iconst 3, 1) := by decide +kernel
theorem d_To_copyFrom_26 : decode M_To_copyFrom.2.1 26 = .ok (.invokestatic 46, 3) := by decide +kernel
theorem d_To_copyFrom_29 : decode M_To_copyFrom.2.1 29 = .ok (.aload_n 1, 1) := by decide +kernel
theorem d_To_copyFrom_30 : decode M_To_copyFrom.2.1 30 = .ok (.getfield 18, 3) := by decide +kernel
theorem d_To_copyFrom_33 : decode M_To_copyFrom.2.1 33 = .ok (.iconst 0, 1) := by decide +kernel
theorem d_To_copyFrom_34 : decode M_To_copyFrom.2.1 34 = .ok (.aload_n 0, 1) := by decide +kernel
theorem d_To_copyFrom_35 : decode M_To_copyFrom.2.1 35 = .ok (.getfield 18, 3) := by decide +kernel
theorem d_To_copyFrom_38 : decode M_To_copyFrom.2.1 38 = .ok (.iconst 0, 1) := by decide +kernel
theorem d_To_copyFrom_39 : decode M_To_copyFrom.2.1 39 = .ok (.iconst 3, 1) := by decide +kernel
theorem d_To_copyFrom_40 : decode M_To_copyFrom.2.1 40 = .ok (.invokestatic 46, 3) := by decide +kernel
theorem d_To_copyFrom_43 : decode M_To_copyFrom.2.1 43 = .ok (.aload_n 1, 1) := by decide +kernel
theorem d_To_copyFrom_44 : decode M_To_copyFrom.2.1 44 = .ok (.getfield 21, 3) := by decide +kernel
theorem d_To_copyFrom_47 : decode M_To_copyFrom.2.1 47 = .ok (.iconst 0, 1) := by decide +kernel
theorem d_To_copyFrom_48 : decode M_To_copyFrom.2.1 48 = .ok (.aload_n 0, 1) := by decide +kernel
theorem d_To_copyFrom_49 : decode M_To_copyFrom.2.1 49 = .ok (.getfield 21, 3) := by decide +kernel
theorem d_To_copyFrom_52 : decode M_To_copyFrom.2.1 52 = .ok (.iconst 0, 1) := by decide +kernel
theorem d_To_copyFrom_53 : decode M_To_copyFrom.2.1 53 = .ok (.iconst 4, 1) := by decide +kernel
theorem d_To_copyFrom_54 : decode M_To_copyFrom.2.1 54 = .ok (.invokestatic 46, 3) := by decide +kernel
theorem d_To_copyFrom_57 : decode M_To_copyFrom.2.1 57 = .ok (.aload_n 1, 1) := by decide +kernel
theorem d_To_copyFrom_58 : decode M_To_copyFrom.2.1 58 = .ok (.getfield 24, 3) := by decide +kernel
theorem d_To_copyFrom_61 : decode M_To_copyFrom.2.1 61 = .ok (.iconst 0, 1) := by decide +kernel
theorem d_To_copyFrom_62 : decode M_To_copyFrom.2.1 62 = .ok (.aload_n 0, 1) := by decide +kernel
theorem d_To_copyFrom_63 : decode M_To_copyFrom.2.1 63 = .ok (.getfield 24, 3) := by decide +kernel
theorem d_To_copyFrom_66 : decode M_To_copyFrom.2.1 66 = .ok (.iconst 0, 1) := by decide +kernel
theorem d_To_copyFrom_67 : decode M_To_copyFrom.2.1 67 = .ok (.iconst 4, 1) := by decide +kernel
theorem d_To_copyFrom_68 : decode M_To_copyFrom.2.1 68 = .ok (.invokestatic 46, 3) := by decide +kernel
theorem d_To_copyFrom_71 : decode M_To_copyFrom.2.1 71 = .ok (.aload_n 0, 1) := by decide +kernel
theorem d_To_copyFrom_72 : decode M_To_copyFrom.2.1 72 = .ok (.aload_n 1, 1) := by decide +kernel
theorem d_To_copyFrom_73 : decode M_To_copyFrom.2.1 73 = .ok (.getfield 27, 3) := by decide +kernel
theorem d_To_copyFrom_76 : decode M_To_copyFrom.2.1 76 = .ok (.putfield 27, 3) := by decide +kernel
theorem d_To_copyFrom_79 : decode M_To_copyFrom.2.1 79 = .ok (.aload_n 0, 1) := by decide +kernel
theorem d_To_copyFrom_80 : decode M_To_copyFrom.2.1 80 = .ok (.aload_n 1, 1) := by decide +kernel
theorem d_To_copyFrom_81 : decode M_To_copyFrom.2.1 81 = .ok (.getfield 31, 3) := by decide +kernel
theorem d_To_copyFrom_84 : decode M_To_copyFrom.2.1 84 = .ok (.putfield 31, 3) := by decide +kernel
theorem d_To_copyFrom_87 : decode M_To_copyFrom.2.1 87 = .ok (.aload_n 0, 1) := by decide +kernel
theorem d_To_copyFrom_88 : decode M_To_copyFrom.2.1 88 = .ok (.aload_n 1, 1) := by decide +kernel
theorem d_To_copyFrom_89 : decode M_To_copyFrom.2.1 89 = .ok (.getfield 34, 3) := by decide +kernel
theorem d_To_copyFrom_92 : decode M_To_copyFrom.2.1 92 = .ok (.putfield 34, 3) := by decide +kernel
theorem d_To_copyFrom_95 : decode M_To_copyFrom.2.1 95 = .ok (.aload_n 0, 1) := by decide +kernel
theorem d_To_copyFrom_96 : decode M_To_copyFrom.2.1 96 = .ok (.aload_n 1, 1) := by decide +kernel
theorem d_To_copyFrom_97 : decode M_To_copyFrom.2.1 97 = .ok (.getfield 37, 3) := by decide +kernel
theorem d_To_copyFrom_100 : decode M_To_copyFrom.2.1 100 = .ok (.putfield 37, 3) := by decide +kernel
theorem d_To_copyFrom_103 : decode M_To_copyFrom.2.1 103 = .ok (.return_, 1) := by decide +kernel
theorem d_To_tellWind_0 : decode M_To_tellWind.2.1 0 = .ok (.iload_n 1, 1) := by decide +kernel
theorem d_To_tellWind_1 : decode M_To_tellWind.2.1 1 = .ok (.iconst 1, 1) := by decide +kernel
theorem d_To_tellWind_2 : decode M_To_tellWind.2.1 2 = .ok (.bipush 9, 2) := by decide +kernel
theorem d_To_tellWind_4 : decode M_To_tellWind.2.1 4 = .ok (.invokestatic 52, 3) := by decide +kernel
theorem d_To_tellWind_7 : decode M_To_tellWind.2.1 7 = .ok (.ifCond .eq 12, 3) := by decide +kernel
theorem d_To_tellWind_10 : decode M_To_tellWind.2.1 10 = .ok (.aload_n 0, 1) := by decide +kernel
theorem d_To_tellWind_11 : decode M_To_tellWind.2.1 11 = .ok (.getfield 9, 3) := by decide +kernel
theorem d_To_tellWind_14 : decode M_To_tellWind.2.1 14 = .ok (.iload_n 1, 1) := by decide +kernel
theorem d_To_tellWind_15 : decode M_To_tellWind.2.1 15 = .ok (.iload_n 2, 1) := by decide +kernel
theorem d_To_tellWind_16 : decode M_To_tellWind.2.1 16 = .ok (.iconst 3, 1) := by decide +kernel
theorem d_To_tellWind_17 : decode M_To_tellWind.2.1 17 = .ok (.isub, 1) := by decide +kernel
theorem d_To_tellWind_18 : decode M_To_tellWind.2.1 18 = .ok (.iastore, 1) := by decide +kernel
theorem d_To_tellWind_19 : decode M_To_tellWind.2.1 19 = .ok (.return_, 1) := by decide +kernel
theorem d_To_tellPerson_0 : decode M_To_tellPerson.2.1 0 = .ok (.aload_n 0, 1) := by decide +kernel
theorem d_To_tellPerson_1 : decode M_To_tellPerson.2.1 1 = .ok (.getfield 27, 3) := by decide +kernel
theorem d_To_tellPerson_4 : decode M_To_tellPerson.2.1 4 = .ok (.iconst 3, 1) := by decide +kernel
theorem d_To_tellPerson_5 : decode M_To_tellPerson.2.1 5 = .ok (.if_icmp .ge 48, 3) := by decide +kernel
theorem d_To_tellPerson_8 : decode M_To_tellPerson.2.1 8 = .ok (.aload_n 0, 1) := by decide +kernel
theorem d_To_tellPerson_9 : decode M_To_tellPerson.2.1 9 = .ok (.getfield 15, 3) := by decide +kernel
theorem d_To_tellPerson_12 : decode M_To_tellPerson.2.1 12 = .ok (.aload_n 0, 1) := by decide +kernel
theorem d_To_tellPerson_13 : decode M_To_tellPerson.2.1 13 = .ok (.getfield 27, 3) := by decide +kernel
theorem d_To_tellPerson_16 : decode M_To_tellPerson.2.1 16 = .ok (.iload_n 1, 1) := by decide +kernel
theorem d_To_tellPerson_17 : decode M_To_tellPerson.2.1 17 = .ok (.iastore, 1) := by decide +kernel
theorem d_To_tellPerson_18 : decode M_To_tellPerson.2.1 18 = .ok (.aload_n 0, 1) := by decide +kernel
theorem d_To_tellPerson_19 : decode M_To_tellPerson.2.1 19 = .ok (.getfield 18, 3) := by decide +kernel
theorem d_To_tellPerson_22 : decode M_To_tellPerson.2.1 22 = .ok (.aload_n 0, 1) := by decide +kernel
theorem d_To_tellPerson_23 : decode M_To_tellPerson.2.1 23 = .ok (.getfield 27, 3) := by decide +kernel
theorem d_To_tellPerson_26 : decode M_To_tellPerson.2.1 26 = .ok (.iload_n 2, 1) := by decide +kernel
theorem d_To_tellPerson_27 : decode M_To_tellPerson.2.1 27 = .ok (.iastore, 1) := by decide +kernel
theorem d_To_tellPerson_28 : decode M_To_tellPerson.2.1 28 = .ok (.aload_n 0, 1) := by decide +kernel
theorem d_To_tellPerson_29 : decode M_To_tellPerson.2.1 29 = .ok (.dup, 1) := by decide +kernel
theorem d_To_tellPerson_30 : decode M_To_tellPerson.2.1 30 = .ok (.getfield 37, 3) := by decide +kernel
theorem d_To_tellPerson_33 : decode M_To_tellPerson.2.1 33 = .ok (.iload_n 3, 1) := by decide +kernel
theorem d_To_tellPerson_34 : decode M_To_tellPerson.2.1 34 = .ok (.aload_n 0, 1) := by decide +kernel
theorem d_To_tellPerson_35 : decode M_To_tellPerson.2.1 35 = .ok (.getfield 27, 3) := by decide +kernel
theorem d_To_tellPerson_38 : decode M_To_tellPerson.2.1 38 = .ok (.ishl, 1) := by decide +kernel
theorem d_To_tellPerson_39 : decode M_To_tellPerson.2.1 39 = .ok (.ior, 1) := by decide +kernel
theorem d_To_tellPerson_40 : decode M_To_tellPerson.2.1 40 = .ok (.putfield 37, 3) := by decide +kernel
theorem d_To_tellPerson_43 : decode M_To_tellPerson.2.1 43 = .ok (.aload_n 0, 1) := by decide +kernel
theorem d_To_tellPerson_44 : decode M_To_tellPerson.2.1 44 = .ok (.dup, 1) := by decide +kernel
theorem d_To_tellPerson_45 : decode M_To_tellPerson.2.1 45 = .ok (.getfield 27, 3) := by decide +kernel
theorem d_To_tellPerson_48 : decode M_To_tellPerson.2.1 48 = .ok (.iconst 1, 1) := by decide +kernel
theorem d_To_tellPerson_49 : decode M_To_tellPerson.2.1 49 = .ok (.iadd, 1) := by decide +kernel
theorem d_To_tellPerson_50 : decode M_To_tellPerson.2.1 50 = .ok (.putfield 27, 3) := by decide +kernel
theorem d_To_tellPerson_53 : decode M_To_tellPerson.2.1 53 = .ok (.return_, 1) := by decide +kernel
theorem d_To_tellThought_0 : decode M_To_tellThought.2.1 0 = .ok (.aload_n 0, 1) := by decide +kernel
theorem d_To_tellThought_1 : decode M_To_tellThought.2.1 1 = .ok (.getfield 31, 3) := by decide +kernel
theorem d_To_tellThought_4 : decode M_To_tellThought.2.1 4 = .ok (.iconst 4, 1) := by decide +kernel
theorem d_To_tellThought_5 : decode M_To_tellThought.2.1 5 = .ok (.if_icmp .ge 33, 3) := by decide +kernel
theorem d_To_tellThought_8 : decode M_To_tellThought.2.1 8 = .ok (.aload_n 0, 1) := by decide +kernel
theorem d_To_tellThought_9 : decode M_To_tellThought.2.1 9 = .ok (.getfield 21, 3) := by decide +kernel
theorem d_To_tellThought_12 : decode M_To_tellThought.2.1 12 = .ok (.aload_n 0, 1) := by decide +kernel
theorem d_To_tellThought_13 : decode M_To_tellThought.2.1 13 = .ok (.getfield 31, 3) := by decide +kernel
theorem d_To_tellThought_16 : decode M_To_tellThought.2.1 16 = .ok (.iload_n 1, 1) := by decide +kernel
theorem d_To_tellThought_17 : decode M_To_tellThought.2.1 17 = .ok (.iastore, 1) := by decide +kernel
theorem d_To_tellThought_18 : decode M_To_tellThought.2.1 18 = .ok (.aload_n 0, 1) := by decide +kernel
theorem d_To_tellThought_19 : decode M_To_tellThought.2.1 19 = .ok (.getfield 24, 3) := by decide +kernel
theorem d_To_tellThought_22 : decode M_To_tellThought.2.1 22 = .ok (.aload_n 0, 1) := by decide +kernel
theorem d_To_tellThought_23 : decode M_To_tellThought.2.1 23 = .ok (.getfield 31, 3) := by decide +kernel
theorem d_To_tellThought_26 : decode M_To_tellThought.2.1 26 = .ok (.iload_n 2, 1) := by decide +kernel
theorem d_To_tellThought_27 : decode M_To_tellThought.2.1 27 = .ok (.iastore, 1) := by decide +kernel
theorem d_To_tellThought_28 : decode M_To_tellThought.2.1 28 = .ok (.aload_n 0, 1) := by decide +kernel
theorem d_To_tellThought_29 : decode M_To_tellThought.2.1 29 = .ok (.dup, 1) := by decide +kernel
theorem d_To_tellThought_30 : decode M_To_tellThought.2.1 30 = .ok (.getfield 31, 3) := by decide +kernel
theorem d_To_tellThought_33 : decode M_To_tellThought.2.1 33 = .ok (.iconst 1, 1) := by decide +kernel
theorem d_To_tellThought_34 : decode M_To_tellThought.2.1 34 = .ok (.iadd, 1) := by decide +kernel
theorem d_To_tellThought_35 : decode M_To_tellThought.2.1 35 = .ok (.putfield 31, 3) := by decide +kernel
theorem d_To_tellThought_38 : decode M_To_tellThought.2.1 38 = .ok (.return_, 1) := by decide +kernel
theorem d_To_hasPerson_0 : decode M_To_hasPerson.2.1 0 = .ok (.iload_n 1, 1) := by decide +kernel
theorem d_To_hasPerson_1 : decode M_To_hasPerson.2.1 1 = .ok (.ifCond .lt 15, 3) := by decide +kernel
theorem d_To_hasPerson_4 : decode M_To_hasPerson.2.1 4 = .ok (.iload_n 1, 1) := by decide +kernel
theorem d_To_hasPerson_5 : decode M_To_hasPerson.2.1 5 = .ok (.aload_n 0, 1) := by decide +kernel
theorem d_To_hasPerson_6 : decode M_To_hasPerson.2.1 6 = .ok (.getfield 27, 3) := by decide +kernel
theorem d_To_hasPerson_9 : decode M_To_hasPerson.2.1 9 = .ok (.if_icmp .ge 7, 3) := by decide +kernel
theorem d_To_hasPerson_12 : decode M_To_hasPerson.2.1 12 = .ok (.iconst 1, 1) := by decide +kernel
theorem d_To_hasPerson_13 : decode M_To_hasPerson.2.1 13 = .ok (.goto 4, 3) := by decide +kernel
theorem d_To_hasPerson_16 : decode M_To_hasPerson.2.1 16 = .ok (.iconst 0, 1) := by decide +kernel
theorem d_To_hasPerson_17 : decode M_To_hasPerson.2.1 17 = .ok (.ireturn, 1) := by decide +kernel
theorem d_To_hasThought_0 : decode M_To_hasThought.2.1 0 = .ok (.iload_n 1, 1) := by decide +kernel
theorem d_To_hasThought_1 : decode M_To_hasThought.2.1 1 = .ok (.ifCond .lt 15, 3) := by decide +kernel
theorem d_To_hasThought_4 : decode M_To_hasThought.2.1 4 = .ok (.iload_n 1, 1) := by decide +kernel
theorem d_To_hasThought_5 : decode M_To_hasThought.2.1 5 = .ok (.aload_n 0, 1) := by decide +kernel
theorem d_To_hasThought_6 : decode M_To_hasThought.2.1 6 = .ok (.getfield 31, 3) := by decide +kernel
theorem d_To_hasThought_9 : decode M_To_hasThought.2.1 9 = .ok (.if_icmp .ge 7, 3) := by decide +kernel
theorem d_To_hasThought_12 : decode M_To_hasThought.2.1 12 = .ok (.iconst 1, 1) := by decide +kernel
theorem d_To_hasThought_13 : decode M_To_hasThought.2.1 13 = .ok (.goto 4, 3) := by decide +kernel
theorem d_To_hasThought_16 : decode M_To_hasThought.2.1 16 = .ok (.iconst 0, 1) := by decide +kernel
theorem d_To_hasThought_17 : decode M_To_hasThought.2.1 17 = .ok (.ireturn, 1) := by decide +kernel
theorem d_To_windAt_0 : decode M_To_windAt.2.1 0 = .ok (.iload_n 1, 1) := by decide +kernel
theorem d_To_windAt_1 : decode M_To_windAt.2.1 1 = .ok (.iconst 0, 1) := by decide +kernel
theorem d_To_windAt_2 : decode M_To_windAt.2.1 2 = .ok (.bipush 9, 2) := by decide +kernel
theorem d_To_windAt_4 : decode M_To_windAt.2.1 4 = .ok (.invokestatic 52, 3) := by decide +kernel
theorem d_To_windAt_7 : decode M_To_windAt.2.1 7 = .ok (.ifCond .eq 12, 3) := by decide +kernel
theorem d_To_windAt_10 : decode M_To_windAt.2.1 10 = .ok (.aload_n 0, 1) := by decide +kernel
theorem d_To_windAt_11 : decode M_To_windAt.2.1 11 = .ok (.getfield 9, 3) := by decide +kernel
theorem d_To_windAt_14 : decode M_To_windAt.2.1 14 = .ok (.iload_n 1, 1) := by decide +kernel
theorem d_To_windAt_15 : decode M_To_windAt.2.1 15 = .ok (.iaload, 1) := by decide +kernel
theorem d_To_windAt_16 : decode M_To_windAt.2.1 16 = .ok (.goto 4, 3) := by decide +kernel
theorem d_To_windAt_19 : decode M_To_windAt.2.1 19 = .ok (.iconst 0, 1) := by decide +kernel
theorem d_To_windAt_20 : decode M_To_windAt.2.1 20 = .ok (.ireturn, 1) := by decide +kernel
theorem d_To_faded_0 : decode M_To_faded.2.1 0 = .ok (.iconst 0, 1) := by decide +kernel
theorem d_To_faded_1 : decode M_To_faded.2.1 1 = .ok (.iload_n 0, 1) := by decide +kernel
theorem d_To_faded_2 : decode M_To_faded.2.1 2 = .ok (.iload_n 2, 1) := by decide +kernel
theorem d_To_faded_3 : decode M_To_faded.2.1 3 = .ok (.iload_n 1, 1) := by decide +kernel
theorem d_To_faded_4 : decode M_To_faded.2.1 4 = .ok (.imul, 1) := by decide +kernel
theorem d_To_faded_5 : decode M_To_faded.2.1 5 = .ok (.isub, 1) := by decide +kernel
theorem d_To_faded_6 : decode M_To_faded.2.1 6 = .ok (.invokestatic 56, 3) := by decide +kernel
theorem d_To_faded_9 : decode M_To_faded.2.1 9 = .ok (.ireturn, 1) := by decide +kernel
theorem d_To_hold_0 : decode M_To_hold.2.1 0 = .ok (.aload_n 1, 1) := by decide +kernel
theorem d_To_hold_1 : decode M_To_hold.2.1 1 = .ok (.getfield 62, 3) := by decide +kernel
theorem d_To_hold_4 : decode M_To_hold.2.1 4 = .ok (.istore_n 2, 1) := by decide +kernel
theorem d_To_hold_5 : decode M_To_hold.2.1 5 = .ok (.aload_n 1, 1) := by decide +kernel
theorem d_To_hold_6 : decode M_To_hold.2.1 6 = .ok (.getfield 67, 3) := by decide +kernel
theorem d_To_hold_9 : decode M_To_hold.2.1 9 = .ok (.istore_n 3, 1) := by decide +kernel
theorem d_To_hold_10 : decode M_To_hold.2.1 10 = .ok (.aload_n 1, 1) := by decide +kernel
theorem d_To_hold_11 : decode M_To_hold.2.1 11 = .ok (.getfield 70, 3) := by decide +kernel
theorem d_To_hold_14 : decode M_To_hold.2.1 14 = .ok (.aload_n 1, 1) := by decide +kernel
theorem d_To_hold_15 : decode M_To_hold.2.1 15 = .ok (.getfield 73, 3) := by decide +kernel
theorem d_To_hold_18 : decode M_To_hold.2.1 18 = .ok (.isub, 1) := by decide +kernel
theorem d_To_hold_19 : decode M_To_hold.2.1 19 = .ok (.istore 4, 2) := by decide +kernel
theorem d_To_hold_21 : decode M_To_hold.2.1 21 = .ok (.aload_n 0, 1) := by decide +kernel
theorem d_To_hold_22 : decode M_To_hold.2.1 22 = .ok (.iload_n 2, 1) := by decide +kernel
theorem d_To_hold_23 : decode M_To_hold.2.1 23 = .ok (.invokevirtual 76, 3) := by decide +kernel
theorem d_To_hold_26 : decode M_To_hold.2.1 26 = .ok (.ifCond .eq 22, 3) := by decide +kernel
theorem d_To_hold_29 : decode M_To_hold.2.1 29 = .ok (.aload_n 0, 1) := by decide +kernel
theorem d_To_hold_30 : decode M_To_hold.2.1 30 = .ok (.iload_n 3, 1) := by decide +kernel
theorem d_To_hold_31 : decode M_To_hold.2.1 31 = .ok (.invokevirtual 80, 3) := by decide +kernel
theorem d_To_hold_34 : decode M_To_hold.2.1 34 = .ok (.ifCond .eq 14, 3) := by decide +kernel
theorem d_To_hold_37 : decode M_To_hold.2.1 37 = .ok (.iload 4, 2) := by decide +kernel
theorem d_To_hold_39 : decode M_To_hold.2.1 39 = .ok (.aload_n 0, 1) := by decide +kernel
theorem d_To_hold_40 : decode M_To_hold.2.1 40 = .ok (.getfield 18, 3) := by decide +kernel
theorem d_To_hold_43 : decode M_To_hold.2.1 43 = .ok (.iload_n 2, 1) := by decide +kernel
theorem d_To_hold_44 : decode M_To_hold.2.1 44 = .ok (.iaload, 1) := by decide +kernel
theorem d_To_hold_45 : decode M_To_hold.2.1 45 = .ok (.if_icmp .le 5, 3) := by decide +kernel
theorem d_To_hold_48 : decode M_To_hold.2.1 48 = .ok (.iconst 0, 1) := by decide +kernel
theorem d_To_hold_49 : decode M_To_hold.2.1 49 = .ok (.ireturn, 1) := by decide +kernel
theorem d_To_hold_50 : decode M_To_hold.2.1 50 = .ok (.aload_n 0, 1) := by decide +kernel
theorem d_To_hold_51 : decode M_To_hold.2.1 51 = .ok (.getfield 21, 3) := by decide +kernel
theorem d_To_hold_54 : decode M_To_hold.2.1 54 = .ok (.iload_n 3, 1) := by decide +kernel
theorem d_To_hold_55 : decode M_To_hold.2.1 55 = .ok (.iaload, 1) := by decide +kernel
theorem d_To_hold_56 : decode M_To_hold.2.1 56 = .ok (.aload_n 0, 1) := by decide +kernel
theorem d_To_hold_57 : decode M_To_hold.2.1 57 = .ok (.getfield 24, 3) := by decide +kernel
theorem d_To_hold_60 : decode M_To_hold.2.1 60 = .ok (.iload_n 3, 1) := by decide +kernel
theorem d_To_hold_61 : decode M_To_hold.2.1 61 = .ok (.iaload, 1) := by decide +kernel
theorem d_To_hold_62 : decode M_To_hold.2.1 62 = .ok (.iload 4, 2) := by decide +kernel
theorem d_To_hold_64 : decode M_To_hold.2.1 64 = .ok (.invokestatic 83, 3) := by decide +kernel
theorem d_To_hold_67 : decode M_To_hold.2.1 67 = .ok (.ireturn, 1) := by decide +kernel
theorem d_To_load_0 : decode M_To_load.2.1 0 = .ok (.iconst 0, 1) := by decide +kernel
theorem d_To_load_1 : decode M_To_load.2.1 1 = .ok (.istore_n 2, 1) := by decide +kernel
theorem d_To_load_2 : decode M_To_load.2.1 2 = .ok (.iconst 0, 1) := by decide +kernel
theorem d_To_load_3 : decode M_To_load.2.1 3 = .ok (.istore_n 3, 1) := by decide +kernel
theorem d_To_load_4 : decode M_To_load.2.1 4 = .ok (.iload_n 3, 1) := by decide +kernel
theorem d_To_load_5 : decode M_To_load.2.1 5 = .ok (.aload_n 0, 1) := by decide +kernel
theorem d_To_load_6 : decode M_To_load.2.1 6 = .ok (.getfield 27, 3) := by decide +kernel
theorem d_To_load_9 : decode M_To_load.2.1 9 = .ok (.if_icmp .ge 30, 3) := by decide +kernel
theorem d_To_load_12 : decode M_To_load.2.1 12 = .ok (.iload_n 2, 1) := by decide +kernel
theorem d_To_load_13 : decode M_To_load.2.1 13 = .ok (.aload_n 1, 1) := by decide +kernel
theorem d_To_load_14 : decode M_To_load.2.1 14 = .ok (.iload_n 3, 1) := by decide +kernel
theorem d_To_load_15 : decode M_To_load.2.1 15 = .ok (.invokevirtual 87, 3) := by decide +kernel
theorem d_To_load_18 : decode M_To_load.2.1 18 = .ok (.ifCond .eq 12, 3) := by decide +kernel
theorem d_To_load_21 : decode M_To_load.2.1 21 = .ok (.aload_n 0, 1) := by decide +kernel
theorem d_To_load_22 : decode M_To_load.2.1 22 = .ok (.getfield 15, 3) := by decide +kernel
theorem d_To_load_25 : decode M_To_load.2.1 25 = .ok (.iload_n 3, 1) := by decide +kernel
theorem d_To_load_26 : decode M_To_load.2.1 26 = .ok (.iaload, 1) := by decide +kernel
theorem d_To_load_27 : decode M_To_load.2.1 27 = .ok (.goto 4, 3) := by decide +kernel
theorem d_To_load_30 : decode M_To_load.2.1 30 = .ok (.iconst 0, 1) := by decide +kernel
theorem d_To_load_31 : decode M_To_load.2.1 31 = .ok (.iadd, 1) := by decide +kernel
theorem d_To_load_32 : decode M_To_load.2.1 32 = .ok (.istore_n 2, 1) := by decide +kernel
theorem d_To_load_33 : decode M_To_load.2.1 33 = .ok (.iinc 3 1, 3) := by decide +kernel
theorem d_To_load_36 : decode M_To_load.2.1 36 = .ok (.goto (-32), 3) := by decide +kernel
theorem d_To_load_39 : decode M_To_load.2.1 39 = .ok (.iload_n 2, 1) := by decide +kernel
theorem d_To_load_40 : decode M_To_load.2.1 40 = .ok (.ireturn, 1) := by decide +kernel
theorem d_To_passMinutes_0 : decode M_To_passMinutes.2.1 0 = .ok (.iconst 0, 1) := by decide +kernel
theorem d_To_passMinutes_1 : decode M_To_passMinutes.2.1 1 = .ok (.istore_n 3, 1) := by decide +kernel
theorem d_To_passMinutes_2 : decode M_To_passMinutes.2.1 2 = .ok (.iload_n 3, 1) := by decide +kernel
theorem d_To_passMinutes_3 : decode M_To_passMinutes.2.1 3 = .ok (.iload_n 2, 1) := by decide +kernel
theorem d_To_passMinutes_4 : decode M_To_passMinutes.2.1 4 = .ok (.if_icmp .ge 14, 3) := by decide +kernel
theorem d_To_passMinutes_7 : decode M_To_passMinutes.2.1 7 = .ok (.aload_n 0, 1) := by decide +kernel
theorem d_To_passMinutes_8 : decode M_To_passMinutes.2.1 8 = .ok (.aload_n 1, 1) := by decide +kernel
theorem d_To_passMinutes_9 : decode M_To_passMinutes.2.1 9 = .ok (.invokevirtual 90, 3) := by decide +kernel
theorem d_To_passMinutes_12 : decode M_To_passMinutes.2.1 12 = .ok (.iinc 3 1, 3) := by decide +kernel
theorem d_To_passMinutes_15 : decode M_To_passMinutes.2.1 15 = .ok (.goto (-13), 3) := by decide +kernel
theorem d_To_passMinutes_18 : decode M_To_passMinutes.2.1 18 = .ok (.return_, 1) := by decide +kernel
theorem d_To_passMinute_0 : decode M_To_passMinute.2.1 0 = .ok (.aload_n 1, 1) := by decide +kernel
theorem d_To_passMinute_1 : decode M_To_passMinute.2.1 1 = .ok (.dup, 1) := by decide +kernel
theorem d_To_passMinute_2 : decode M_To_passMinute.2.1 2 = .ok (.getfield 70, 3) := by decide +kernel
theorem d_To_passMinute_5 : decode M_To_passMinute.2.1 5 = .ok (.iconst 1, 1) := by decide +kernel
theorem d_To_passMinute_6 : decode M_To_passMinute.2.1 6 = .ok (.iadd, 1) := by decide +kernel
theorem d_To_passMinute_7 : decode M_To_passMinute.2.1 7 = .ok (.putfield 70, 3) := by decide +kernel
theorem d_To_passMinute_10 : decode M_To_passMinute.2.1 10 = .ok (.aload_n 1, 1) := by decide +kernel
theorem d_To_passMinute_11 : decode M_To_passMinute.2.1 11 = .ok (.getfield 94, 3) := by decide +kernel
theorem d_To_passMinute_14 : decode M_To_passMinute.2.1 14 = .ok (.ifCond .eq 4, 3) := by decide +kernel
theorem d_To_passMinute_17 : decode M_To_passMinute.2.1 17 = .ok (.return_, 1) := by decide +kernel
theorem d_To_passMinute_18 : decode M_To_passMinute.2.1 18 = .ok (.aload_n 0, 1) := by decide +kernel
theorem d_To_passMinute_19 : decode M_To_passMinute.2.1 19 = .ok (.aload_n 1, 1) := by decide +kernel
theorem d_To_passMinute_20 : decode M_To_passMinute.2.1 20 = .ok (.invokevirtual 98, 3) := by decide +kernel
theorem d_To_passMinute_23 : decode M_To_passMinute.2.1 23 = .ok (.aload_n 0, 1) := by decide +kernel
theorem d_To_passMinute_24 : decode M_To_passMinute.2.1 24 = .ok (.aload_n 1, 1) := by decide +kernel
theorem d_To_passMinute_25 : decode M_To_passMinute.2.1 25 = .ok (.invokevirtual 102, 3) := by decide +kernel
theorem d_To_passMinute_28 : decode M_To_passMinute.2.1 28 = .ok (.isub, 1) := by decide +kernel
theorem d_To_passMinute_29 : decode M_To_passMinute.2.1 29 = .ok (.istore_n 2, 1) := by decide +kernel
theorem d_To_passMinute_30 : decode M_To_passMinute.2.1 30 = .ok (.aload_n 1, 1) := by decide +kernel
theorem d_To_passMinute_31 : decode M_To_passMinute.2.1 31 = .ok (.iload_n 2, 1) := by decide +kernel
theorem d_To_passMinute_32 : decode M_To_passMinute.2.1 32 = .ok (.ifCond .le 7, 3) := by decide +kernel
theorem d_To_passMinute_35 : decode M_To_passMinute.2.1 35 = .ok (.iconst 1, 1) := by decide +kernel
theorem d_To_passMinute_36 : decode M_To_passMinute.2.1 36 = .ok (.goto 12, 3) := by decide +kernel
theorem d_To_passMinute_39 : decode M_To_passMinute.2.1 39 = .ok (.iload_n 2, 1) := by decide +kernel
theorem d_To_passMinute_40 : decode M_To_passMinute.2.1 40 = .ok (.ifCond .ge 7, 3) := by decide +kernel
theorem d_To_passMinute_43 : decode M_To_passMinute.2.1 43 = .ok (.iconst (-1), 1) := by decide +kernel
theorem d_To_passMinute_44 : decode M_To_passMinute.2.1 44 = .ok (.goto 4, 3) := by decide +kernel
theorem d_To_passMinute_47 : decode M_To_passMinute.2.1 47 = .ok (.iconst 0, 1) := by decide +kernel
theorem d_To_passMinute_48 : decode M_To_passMinute.2.1 48 = .ok (.invokevirtual 105, 3) := by decide +kernel
theorem d_To_passMinute_51 : decode M_To_passMinute.2.1 51 = .ok (.aload_n 1, 1) := by decide +kernel
theorem d_To_passMinute_52 : decode M_To_passMinute.2.1 52 = .ok (.aload_n 0, 1) := by decide +kernel
theorem d_To_passMinute_53 : decode M_To_passMinute.2.1 53 = .ok (.aload_n 1, 1) := by decide +kernel
theorem d_To_passMinute_54 : decode M_To_passMinute.2.1 54 = .ok (.getfield 109, 3) := by decide +kernel
theorem d_To_passMinute_57 : decode M_To_passMinute.2.1 57 = .ok (.invokevirtual 112, 3) := by decide +kernel
theorem d_To_passMinute_60 : decode M_To_passMinute.2.1 60 = .ok (.invokevirtual 116, 3) := by decide +kernel
theorem d_To_passMinute_63 : decode M_To_passMinute.2.1 63 = .ok (.return_, 1) := by decide +kernel
theorem d_To_canLift_0 : decode M_To_canLift.2.1 0 = .ok (.aload_n 0, 1) := by decide +kernel
theorem d_To_canLift_1 : decode M_To_canLift.2.1 1 = .ok (.getfield 21, 3) := by decide +kernel
theorem d_To_canLift_4 : decode M_To_canLift.2.1 4 = .ok (.iload_n 1, 1) := by decide +kernel
theorem d_To_canLift_5 : decode M_To_canLift.2.1 5 = .ok (.iaload, 1) := by decide +kernel
theorem d_To_canLift_6 : decode M_To_canLift.2.1 6 = .ok (.aload_n 0, 1) := by decide +kernel
theorem d_To_canLift_7 : decode M_To_canLift.2.1 7 = .ok (.getfield 15, 3) := by decide +kernel
theorem d_To_canLift_10 : decode M_To_canLift.2.1 10 = .ok (.iload_n 2, 1) := by decide +kernel
theorem d_To_canLift_11 : decode M_To_canLift.2.1 11 = .ok (.iaload, 1) := by decide +kernel
theorem d_To_canLift_12 : decode M_To_canLift.2.1 12 = .ok (.if_icmp .le 7, 3) := by decide +kernel
theorem d_To_canLift_15 : decode M_To_canLift.2.1 15 = .ok (.iconst 1, 1) := by decide +kernel
theorem d_To_canLift_16 : decode M_To_canLift.2.1 16 = .ok (.goto 4, 3) := by decide +kernel
theorem d_To_canLift_19 : decode M_To_canLift.2.1 19 = .ok (.iconst 0, 1) := by decide +kernel
theorem d_To_canLift_20 : decode M_To_canLift.2.1 20 = .ok (.ireturn, 1) := by decide +kernel
theorem d_To_liftsOf_0 : decode M_To_liftsOf.2.1 0 = .ok (.iconst 0, 1) := by decide +kernel
theorem d_To_liftsOf_1 : decode M_To_liftsOf.2.1 1 = .ok (.istore_n 2, 1) := by decide +kernel
theorem d_To_liftsOf_2 : decode M_To_liftsOf.2.1 2 = .ok (.iconst 0, 1) := by decide +kernel
theorem d_To_liftsOf_3 : decode M_To_liftsOf.2.1 3 = .ok (.istore_n 3, 1) := by decide +kernel
theorem d_To_liftsOf_4 : decode M_To_liftsOf.2.1 4 = .ok (.iload_n 3, 1) := by decide +kernel
theorem d_To_liftsOf_5 : decode M_To_liftsOf.2.1 5 = .ok (.aload_n 0, 1) := by decide +kernel
theorem d_To_liftsOf_6 : decode M_To_liftsOf.2.1 6 = .ok (.getfield 31, 3) := by decide +kernel
theorem d_To_liftsOf_9 : decode M_To_liftsOf.2.1 9 = .ok (.if_icmp .ge 28, 3) := by decide +kernel
theorem d_To_liftsOf_12 : decode M_To_liftsOf.2.1 12 = .ok (.iload_n 2, 1) := by decide +kernel
theorem d_To_liftsOf_13 : decode M_To_liftsOf.2.1 13 = .ok (.aload_n 0, 1) := by decide +kernel
theorem d_To_liftsOf_14 : decode M_To_liftsOf.2.1 14 = .ok (.iload_n 3, 1) := by decide +kernel
theorem d_To_liftsOf_15 : decode M_To_liftsOf.2.1 15 = .ok (.iload_n 1, 1) := by decide +kernel
theorem d_To_liftsOf_16 : decode M_To_liftsOf.2.1 16 = .ok (.invokevirtual 119, 3) := by decide +kernel
theorem d_To_liftsOf_19 : decode M_To_liftsOf.2.1 19 = .ok (.ifCond .eq 9, 3) := by decide +kernel
theorem d_To_liftsOf_22 : decode M_To_liftsOf.2.1 22 = .ok (.iconst 1, 1) := by decide +kernel
theorem d_To_liftsOf_23 : decode M_To_liftsOf.2.1 23 = .ok (.iload_n 3, 1) := by decide +kernel
theorem d_To_liftsOf_24 : decode M_To_liftsOf.2.1 24 = .ok (.ishl, 1) := by decide +kernel
theorem d_To_liftsOf_25 : decode M_To_liftsOf.2.1 25 = .ok (.goto 4, 3) := by decide +kernel
theorem d_To_liftsOf_28 : decode M_To_liftsOf.2.1 28 = .ok (.iconst 0, 1) := by decide +kernel
theorem d_To_liftsOf_29 : decode M_To_liftsOf.2.1 29 = .ok (.ior, 1) := by decide +kernel
theorem d_To_liftsOf_30 : decode M_To_liftsOf.2.1 30 = .ok (.istore_n 2, 1) := by decide +kernel
theorem d_To_liftsOf_31 : decode M_To_liftsOf.2.1 31 = .ok (.iinc 3 1, 3) := by decide +kernel
theorem d_To_liftsOf_34 : decode M_To_liftsOf.2.1 34 = .ok (.goto (-30), 3) := by decide +kernel
theorem d_To_liftsOf_37 : decode M_To_liftsOf.2.1 37 = .ok (.iload_n 2, 1) := by decide +kernel
theorem d_To_liftsOf_38 : decode M_To_liftsOf.2.1 38 = .ok (.ireturn, 1) := by decide +kernel
theorem d_To_cover_0 : decode M_To_cover.2.1 0 = .ok (.bipush (-9), 2) := by decide +kernel
theorem d_To_cover_2 : decode M_To_cover.2.1 2 = .ok (.istore_n 1, 1) := by decide +kernel
theorem d_To_cover_3 : decode M_To_cover.2.1 3 = .ok (.iconst 0, 1) := by decide +kernel
theorem d_To_cover_4 : decode M_To_cover.2.1 4 = .ok (.istore_n 2, 1) := by decide +kernel
theorem d_To_cover_5 : decode M_To_cover.2.1 5 = .ok (.iload_n 2, 1) := by decide +kernel
theorem d_To_cover_6 : decode M_To_cover.2.1 6 = .ok (.iconst 1, 1) := by decide +kernel
theorem d_To_cover_7 : decode M_To_cover.2.1 7 = .ok (.aload_n 0, 1) := by decide +kernel
theorem d_To_cover_8 : decode M_To_cover.2.1 8 = .ok (.getfield 31, 3) := by decide +kernel
theorem d_To_cover_11 : decode M_To_cover.2.1 11 = .ok (.ishl, 1) := by decide +kernel
theorem d_To_cover_12 : decode M_To_cover.2.1 12 = .ok (.if_icmp .ge 36, 3) := by decide +kernel
theorem d_To_cover_15 : decode M_To_cover.2.1 15 = .ok (.aload_n 0, 1) := by decide +kernel
theorem d_To_cover_16 : decode M_To_cover.2.1 16 = .ok (.iload_n 2, 1) := by decide +kernel
theorem d_To_cover_17 : decode M_To_cover.2.1 17 = .ok (.invokevirtual 123, 3) := by decide +kernel
theorem d_To_cover_20 : decode M_To_cover.2.1 20 = .ok (.ifCond .eq 22, 3) := by decide +kernel
theorem d_To_cover_23 : decode M_To_cover.2.1 23 = .ok (.iload_n 1, 1) := by decide +kernel
theorem d_To_cover_24 : decode M_To_cover.2.1 24 = .ok (.bipush (-9), 2) := by decide +kernel
theorem d_To_cover_26 : decode M_To_cover.2.1 26 = .ok (.if_icmp .eq 14, 3) := by decide +kernel
theorem d_To_cover_29 : decode M_To_cover.2.1 29 = .ok (.iload_n 2, 1) := by decide +kernel
theorem d_To_cover_30 : decode M_To_cover.2.1 30 = .ok (.invokestatic 126, 3) := by decide +kernel
theorem d_To_cover_33 : decode M_To_cover.2.1 33 = .ok (.iload_n 1, 1) := by decide +kernel
theorem d_To_cover_34 : decode M_To_cover.2.1 34 = .ok (.invokestatic 126, 3) := by decide +kernel
theorem d_To_cover_37 : decode M_To_cover.2.1 37 = .ok (.if_icmp .ge 5, 3) := by decide +kernel
theorem d_To_cover_40 : decode M_To_cover.2.1 40 = .ok (.iload_n 2, 1) := by decide +kernel
theorem d_To_cover_41 : decode M_To_cover.2.1 41 = .ok (.istore_n 1, 1) := by decide +kernel
theorem d_To_cover_42 : decode M_To_cover.2.1 42 = .ok (.iinc 2 1, 3) := by decide +kernel
theorem d_To_cover_45 : decode M_To_cover.2.1 45 = .ok (.goto (-40), 3) := by decide +kernel
theorem d_To_cover_48 : decode M_To_cover.2.1 48 = .ok (.iload_n 1, 1) := by decide +kernel
theorem d_To_cover_49 : decode M_To_cover.2.1 49 = .ok (.ireturn, 1) := by decide +kernel
theorem d_To_covers_0 : decode M_To_covers.2.1 0 = .ok (.iconst 0, 1) := by decide +kernel
theorem d_To_covers_1 : decode M_To_covers.2.1 1 = .ok (.istore_n 2, 1) := by decide +kernel
theorem d_To_covers_2 : decode M_To_covers.2.1 2 = .ok (.iload_n 2, 1) := by decide +kernel
theorem d_To_covers_3 : decode M_To_covers.2.1 3 = .ok (.aload_n 0, 1) := by decide +kernel
theorem d_To_covers_4 : decode M_To_covers.2.1 4 = .ok (.getfield 27, 3) := by decide +kernel
theorem d_To_covers_7 : decode M_To_covers.2.1 7 = .ok (.if_icmp .ge 21, 3) := by decide +kernel
theorem d_To_covers_10 : decode M_To_covers.2.1 10 = .ok (.aload_n 0, 1) := by decide +kernel
theorem d_To_covers_11 : decode M_To_covers.2.1 11 = .ok (.iload_n 2, 1) := by decide +kernel
theorem d_To_covers_12 : decode M_To_covers.2.1 12 = .ok (.invokevirtual 131, 3) := by decide +kernel
theorem d_To_covers_15 : decode M_To_covers.2.1 15 = .ok (.iload_n 1, 1) := by decide +kernel
theorem d_To_covers_16 : decode M_To_covers.2.1 16 = .ok (.iand, 1) := by decide +kernel
theorem d_To_covers_17 : decode M_To_covers.2.1 17 = .ok (.ifCond .ne 5, 3) := by decide +kernel
theorem d_To_covers_20 : decode M_To_covers.2.1 20 = .ok (.iconst 0, 1) := by decide +kernel
theorem d_To_covers_21 : decode M_To_covers.2.1 21 = .ok (.ireturn, 1) := by decide +kernel
theorem d_To_covers_22 : decode M_To_covers.2.1 22 = .ok (.iinc 2 1, 3) := by decide +kernel
theorem d_To_covers_25 : decode M_To_covers.2.1 25 = .ok (.goto (-23), 3) := by decide +kernel
theorem d_To_covers_28 : decode M_To_covers.2.1 28 = .ok (.iconst 1, 1) := by decide +kernel
theorem d_To_covers_29 : decode M_To_covers.2.1 29 = .ok (.ireturn, 1) := by decide +kernel
theorem d_To_firstOwnWay_0 : decode M_To_firstOwnWay.2.1 0 = .ok (.iconst 1, 1) := by decide +kernel
theorem d_To_firstOwnWay_1 : decode M_To_firstOwnWay.2.1 1 = .ok (.istore_n 1, 1) := by decide +kernel
theorem d_To_firstOwnWay_2 : decode M_To_firstOwnWay.2.1 2 = .ok (.iconst 0, 1) := by decide +kernel
theorem d_To_firstOwnWay_3 : decode M_To_firstOwnWay.2.1 3 = .ok (.istore_n 2, 1) := by decide +kernel
theorem d_To_firstOwnWay_4 : decode M_To_firstOwnWay.2.1 4 = .ok (.iload_n 2, 1) := by decide +kernel
theorem d_To_firstOwnWay_5 : decode M_To_firstOwnWay.2.1 5 = .ok (.aload_n 0, 1) := by decide +kernel
theorem d_To_firstOwnWay_6 : decode M_To_firstOwnWay.2.1 6 = .ok (.getfield 27, 3) := by decide +kernel
theorem d_To_firstOwnWay_9 : decode M_To_firstOwnWay.2.1 9 = .ok (.if_icmp .ge 18, 3) := by decide +kernel
theorem d_To_firstOwnWay_12 : decode M_To_firstOwnWay.2.1 12 = .ok (.iload_n 1, 1) := by decide +kernel
theorem d_To_firstOwnWay_13 : decode M_To_firstOwnWay.2.1 13 = .ok (.aload_n 0, 1) := by decide +kernel
theorem d_To_firstOwnWay_14 : decode M_To_firstOwnWay.2.1 14 = .ok (.getfield 31, 3) := by decide +kernel
theorem d_To_firstOwnWay_17 : decode M_To_firstOwnWay.2.1 17 = .ok (.iconst 1, 1) := by decide +kernel
theorem d_To_firstOwnWay_18 : decode M_To_firstOwnWay.2.1 18 = .ok (.iadd, 1) := by decide +kernel
theorem d_To_firstOwnWay_19 : decode M_To_firstOwnWay.2.1 19 = .ok (.imul, 1) := by decide +kernel
theorem d_To_firstOwnWay_20 : decode M_To_firstOwnWay.2.1 20 = .ok (.istore_n 1, 1) := by decide +kernel
theorem d_To_firstOwnWay_21 : decode M_To_firstOwnWay.2.1 21 = .ok (.iinc 2 1, 3) := by decide +kernel
theorem d_To_firstOwnWay_24 : decode M_To_firstOwnWay.2.1 24 = .ok (.goto (-20), 3) := by decide +kernel
theorem d_To_firstOwnWay_27 : decode M_To_firstOwnWay.2.1 27 = .ok (.iconst 0, 1) := by decide +kernel
theorem d_To_firstOwnWay_28 : decode M_To_firstOwnWay.2.1 28 = .ok (.istore_n 2, 1) := by decide +kernel
theorem d_To_firstOwnWay_29 : decode M_To_firstOwnWay.2.1 29 = .ok (.iconst (-1), 1) := by decide +kernel
theorem d_To_firstOwnWay_30 : decode M_To_firstOwnWay.2.1 30 = .ok (.istore_n 3, 1) := by decide +kernel
theorem d_To_firstOwnWay_31 : decode M_To_firstOwnWay.2.1 31 = .ok (.iconst 0, 1) := by decide +kernel
theorem d_To_firstOwnWay_32 : decode M_To_firstOwnWay.2.1 32 = .ok (.istore 4, 2) := by decide +kernel
theorem d_To_firstOwnWay_34 : decode M_To_firstOwnWay.2.1 34 = .ok (.iload 4, 2) := by decide +kernel
theorem d_To_firstOwnWay_36 : decode M_To_firstOwnWay.2.1 36 = .ok (.iload_n 1, 1) := by decide +kernel
theorem d_To_firstOwnWay_37 : decode M_To_firstOwnWay.2.1 37 = .ok (.if_icmp .ge 29, 3) := by decide +kernel
theorem d_To_firstOwnWay_40 : decode M_To_firstOwnWay.2.1 40 = .ok (.aload_n 0, 1) := by decide +kernel
theorem d_To_firstOwnWay_41 : decode M_To_firstOwnWay.2.1 41 = .ok (.iload 4, 2) := by decide +kernel
theorem d_To_firstOwnWay_43 : decode M_To_firstOwnWay.2.1 43 = .ok (.invokevirtual 134, 3) := by decide +kernel
theorem d_To_firstOwnWay_46 : decode M_To_firstOwnWay.2.1 46 = .ok (.istore 5, 2) := by decide +kernel
theorem d_To_firstOwnWay_48 : decode M_To_firstOwnWay.2.1 48 = .ok (.iload 5, 2) := by decide +kernel
theorem d_To_firstOwnWay_50 : decode M_To_firstOwnWay.2.1 50 = .ok (.iload_n 3, 1) := by decide +kernel
theorem d_To_firstOwnWay_51 : decode M_To_firstOwnWay.2.1 51 = .ok (.if_icmp .le 9, 3) := by decide +kernel
theorem d_To_firstOwnWay_54 : decode M_To_firstOwnWay.2.1 54 = .ok (.iload 5, 2) := by decide +kernel
theorem d_To_firstOwnWay_56 : decode M_To_firstOwnWay.2.1 56 = .ok (.istore_n 3, 1) := by decide +kernel
theorem d_To_firstOwnWay_57 : decode M_To_firstOwnWay.2.1 57 = .ok (.iload 4, 2) := by decide +kernel
theorem d_To_firstOwnWay_59 : decode M_To_firstOwnWay.2.1 59 = .ok (.istore_n 2, 1) := by decide +kernel
theorem d_To_firstOwnWay_60 : decode M_To_firstOwnWay.2.1 60 = .ok (.iinc 4 1, 3) := by decide +kernel
theorem d_To_firstOwnWay_63 : decode M_To_firstOwnWay.2.1 63 = .ok (.goto (-29), 3) := by decide +kernel
theorem d_To_firstOwnWay_66 : decode M_To_firstOwnWay.2.1 66 = .ok (.iload_n 2, 1) := by decide +kernel
theorem d_To_firstOwnWay_67 : decode M_To_firstOwnWay.2.1 67 = .ok (.ireturn, 1) := by decide +kernel
theorem d_To_countOwn_0 : decode M_To_countOwn.2.1 0 = .ok (.iconst 0, 1) := by decide +kernel
theorem d_To_countOwn_1 : decode M_To_countOwn.2.1 1 = .ok (.istore_n 2, 1) := by decide +kernel
theorem d_To_countOwn_2 : decode M_To_countOwn.2.1 2 = .ok (.iconst 0, 1) := by decide +kernel
theorem d_To_countOwn_3 : decode M_To_countOwn.2.1 3 = .ok (.istore_n 3, 1) := by decide +kernel
theorem d_To_countOwn_4 : decode M_To_countOwn.2.1 4 = .ok (.iload_n 3, 1) := by decide +kernel
theorem d_To_countOwn_5 : decode M_To_countOwn.2.1 5 = .ok (.aload_n 0, 1) := by decide +kernel
theorem d_To_countOwn_6 : decode M_To_countOwn.2.1 6 = .ok (.getfield 27, 3) := by decide +kernel
theorem d_To_countOwn_9 : decode M_To_countOwn.2.1 9 = .ok (.if_icmp .ge 53, 3) := by decide +kernel
theorem d_To_countOwn_12 : decode M_To_countOwn.2.1 12 = .ok (.aload_n 0, 1) := by decide +kernel
theorem d_To_countOwn_13 : decode M_To_countOwn.2.1 13 = .ok (.iload_n 1, 1) := by decide +kernel
theorem d_To_countOwn_14 : decode M_To_countOwn.2.1 14 = .ok (.iload_n 3, 1) := by decide +kernel
theorem d_To_countOwn_15 : decode M_To_countOwn.2.1 15 = .ok (.invokevirtual 137, 3) := by decide +kernel
theorem d_To_countOwn_18 : decode M_To_countOwn.2.1 18 = .ok (.istore 4, 2) := by decide +kernel
theorem d_To_countOwn_20 : decode M_To_countOwn.2.1 20 = .ok (.iload 4, 2) := by decide +kernel
theorem d_To_countOwn_22 : decode M_To_countOwn.2.1 22 = .ok (.bipush (-9), 2) := by decide +kernel
theorem d_To_countOwn_24 : decode M_To_countOwn.2.1 24 = .ok (.if_icmp .eq 32, 3) := by decide +kernel
theorem d_To_countOwn_27 : decode M_To_countOwn.2.1 27 = .ok (.aload_n 0, 1) := by decide +kernel
theorem d_To_countOwn_28 : decode M_To_countOwn.2.1 28 = .ok (.iload 4, 2) := by decide +kernel
theorem d_To_countOwn_30 : decode M_To_countOwn.2.1 30 = .ok (.iload_n 3, 1) := by decide +kernel
theorem d_To_countOwn_31 : decode M_To_countOwn.2.1 31 = .ok (.invokevirtual 119, 3) := by decide +kernel
theorem d_To_countOwn_34 : decode M_To_countOwn.2.1 34 = .ok (.ifCond .eq 13, 3) := by decide +kernel
theorem d_To_countOwn_37 : decode M_To_countOwn.2.1 37 = .ok (.iload_n 2, 1) := by decide +kernel
theorem d_To_countOwn_38 : decode M_To_countOwn.2.1 38 = .ok (.iload 4, 2) := by decide +kernel
theorem d_To_countOwn_40 : decode M_To_countOwn.2.1 40 = .ok (.ishr, 1) := by decide +kernel
theorem d_To_countOwn_41 : decode M_To_countOwn.2.1 41 = .ok (.iconst 1, 1) := by decide +kernel
theorem d_To_countOwn_42 : decode M_To_countOwn.2.1 42 = .ok (.iand, 1) := by decide +kernel
theorem d_To_countOwn_43 : decode M_To_countOwn.2.1 43 = .ok (.iconst 1, 1) := by decide +kernel
theorem d_To_countOwn_44 : decode M_To_countOwn.2.1 44 = .ok (.if_icmp .ne 5, 3) := by decide +kernel
theorem d_To_countOwn_47 : decode M_To_countOwn.2.1 47 = .ok (.iconst (-1), 1) := by decide +kernel
theorem d_To_countOwn_48 : decode M_To_countOwn.2.1 48 = .ok (.ireturn, 1) := by decide +kernel
theorem d_To_countOwn_49 : decode M_To_countOwn.2.1 49 = .ok (.iload_n 2, 1) := by decide +kernel
theorem d_To_countOwn_50 : decode M_To_countOwn.2.1 50 = .ok (.iconst 1, 1) := by decide +kernel
theorem d_To_countOwn_51 : decode M_To_countOwn.2.1 51 = .ok (.iload 4, 2) := by decide +kernel
theorem d_To_countOwn_53 : decode M_To_countOwn.2.1 53 = .ok (.ishl, 1) := by decide +kernel
theorem d_To_countOwn_54 : decode M_To_countOwn.2.1 54 = .ok (.ior, 1) := by decide +kernel
theorem d_To_countOwn_55 : decode M_To_countOwn.2.1 55 = .ok (.istore_n 2, 1) := by decide +kernel
theorem d_To_countOwn_56 : decode M_To_countOwn.2.1 56 = .ok (.iinc 3 1, 3) := by decide +kernel
theorem d_To_countOwn_59 : decode M_To_countOwn.2.1 59 = .ok (.goto (-55), 3) := by decide +kernel
theorem d_To_countOwn_62 : decode M_To_countOwn.2.1 62 = .ok (.iload_n 2, 1) := by decide +kernel
theorem d_To_countOwn_63 : decode M_To_countOwn.2.1 63 = .ok (.invokestatic 126, 3) := by decide +kernel
theorem d_To_countOwn_66 : decode M_To_countOwn.2.1 66 = .ok (.ireturn, 1) := by decide +kernel
theorem d_To_ownIn_0 : decode M_To_ownIn.2.1 0 = .ok (.aload_n 0, 1) := by decide +kernel
theorem d_To_ownIn_1 : decode M_To_ownIn.2.1 1 = .ok (.getfield 31, 3) := by decide +kernel
theorem d_To_ownIn_4 : decode M_To_ownIn.2.1 4 = .ok (.iconst 1, 1) := by decide +kernel
theorem d_To_ownIn_5 : decode M_To_ownIn.2.1 5 = .ok (.iadd, 1) := by decide +kernel
theorem d_To_ownIn_6 : decode M_To_ownIn.2.1 6 = .ok (.istore_n 3, 1) := by decide +kernel
theorem d_To_ownIn_7 : decode M_To_ownIn.2.1 7 = .ok (.iload_n 1, 1) := by decide +kernel
theorem d_To_ownIn_8 : decode M_To_ownIn.2.1 8 = .ok (.istore 4, 2) := by decide +kernel
theorem d_To_ownIn_10 : decode M_To_ownIn.2.1 10 = .ok (.iload_n 2, 1) := by decide +kernel
theorem d_To_ownIn_11 : decode M_To_ownIn.2.1 11 = .ok (.iconst 1, 1) := by decide +kernel
theorem d_To_ownIn_12 : decode M_To_ownIn.2.1 12 = .ok (.iadd, 1) := by decide +kernel
theorem d_To_ownIn_13 : decode M_To_ownIn.2.1 13 = .ok (.istore 5, 2) := by decide +kernel
theorem d_To_ownIn_15 : decode M_To_ownIn.2.1 15 = .ok (.iload 5, 2) := by decide +kernel
theorem d_To_ownIn_17 : decode M_To_ownIn.2.1 17 = .ok (.aload_n 0, 1) := by decide +kernel
theorem d_To_ownIn_18 : decode M_To_ownIn.2.1 18 = .ok (.getfield 27, 3) := by decide +kernel
theorem d_To_ownIn_21 : decode M_To_ownIn.2.1 21 = .ok (.if_icmp .ge 15, 3) := by decide +kernel
theorem d_To_ownIn_24 : decode M_To_ownIn.2.1 24 = .ok (.iload 4, 2) := by decide +kernel
theorem d_To_ownIn_26 : decode M_To_ownIn.2.1 26 = .ok (.iload_n 3, 1) := by decide +kernel
theorem d_To_ownIn_27 : decode M_To_ownIn.2.1 27 = .ok (.idiv, 1) := by decide +kernel
theorem d_To_ownIn_28 : decode M_To_ownIn.2.1 28 = .ok (.istore 4, 2) := by decide +kernel
theorem d_To_ownIn_30 : decode M_To_ownIn.2.1 30 = .ok (.iinc 5 1, 3) := by decide +kernel
theorem d_To_ownIn_33 : decode M_To_ownIn.2.1 33 = .ok (.goto (-18), 3) := by decide +kernel
theorem d_To_ownIn_36 : decode M_To_ownIn.2.1 36 = .ok (.iload 4, 2) := by decide +kernel
theorem d_To_ownIn_38 : decode M_To_ownIn.2.1 38 = .ok (.iload_n 3, 1) := by decide +kernel
theorem d_To_ownIn_39 : decode M_To_ownIn.2.1 39 = .ok (.irem, 1) := by decide +kernel
theorem d_To_ownIn_40 : decode M_To_ownIn.2.1 40 = .ok (.istore 5, 2) := by decide +kernel
theorem d_To_ownIn_42 : decode M_To_ownIn.2.1 42 = .ok (.iload 5, 2) := by decide +kernel
theorem d_To_ownIn_44 : decode M_To_ownIn.2.1 44 = .ok (.aload_n 0, 1) := by decide +kernel
theorem d_To_ownIn_45 : decode M_To_ownIn.2.1 45 = .ok (.getfield 31, 3) := by decide +kernel
theorem d_To_ownIn_48 : decode M_To_ownIn.2.1 48 = .ok (.if_icmp .ge 8, 3) := by decide +kernel
theorem d_To_ownIn_51 : decode M_To_ownIn.2.1 51 = .ok (.iload 5, 2) := by decide +kernel
theorem d_To_ownIn_53 : decode M_To_ownIn.2.1 53 = .ok (.goto 5, 3) := by decide +kernel
theorem d_To_ownIn_56 : decode M_To_ownIn.2.1 56 = .ok (.bipush (-9), 2) := by decide +kernel
theorem d_To_ownIn_58 : decode M_To_ownIn.2.1 58 = .ok (.ireturn, 1) := by decide +kernel
theorem d_In_bitCount_0 : decode M_In_bitCount.2.1 0 = .ok (.iload_n 0, 1) := by decide +kernel
theorem d_In_bitCount_1 : decode M_In_bitCount.2.1 1 = .ok (.iload_n 0, 1) := by decide +kernel
theorem d_In_bitCount_2 : decode M_In_bitCount.2.1 2 = .ok (.iconst 1, 1) := by decide +kernel
theorem d_In_bitCount_3 : decode M_In_bitCount.2.1 3 = .ok (.iushr, 1) := by decide +kernel
theorem d_In_bitCount_4 : decode M_In_bitCount.2.1 4 = .ok (.ldc_w 265, 3) := by decide +kernel
theorem d_In_bitCount_7 : decode M_In_bitCount.2.1 7 = .ok (.iand, 1) := by decide +kernel
theorem d_In_bitCount_8 : decode M_In_bitCount.2.1 8 = .ok (.isub, 1) := by decide +kernel
theorem d_In_bitCount_9 : decode M_In_bitCount.2.1 9 = .ok (.istore_n 0, 1) := by decide +kernel
theorem d_In_bitCount_10 : decode M_In_bitCount.2.1 10 = .ok (.iload_n 0, 1) := by decide +kernel
theorem d_In_bitCount_11 : decode M_In_bitCount.2.1 11 = .ok (.ldc_w 266, 3) := by decide +kernel
theorem d_In_bitCount_14 : decode M_In_bitCount.2.1 14 = .ok (.iand, 1) := by decide +kernel
theorem d_In_bitCount_15 : decode M_In_bitCount.2.1 15 = .ok (.iload_n 0, 1) := by decide +kernel
theorem d_In_bitCount_16 : decode M_In_bitCount.2.1 16 = .ok (.iconst 2, 1) := by decide +kernel
theorem d_In_bitCount_17 : decode M_In_bitCount.2.1 17 = .ok (.iushr, 1) := by decide +kernel
theorem d_In_bitCount_18 : decode M_In_bitCount.2.1 18 = .ok (.ldc_w 266, 3) := by decide +kernel
theorem d_In_bitCount_21 : decode M_In_bitCount.2.1 21 = .ok (.iand, 1) := by decide +kernel
theorem d_In_bitCount_22 : decode M_In_bitCount.2.1 22 = .ok (.iadd, 1) := by decide +kernel
theorem d_In_bitCount_23 : decode M_In_bitCount.2.1 23 = .ok (.istore_n 0, 1) := by decide +kernel
theorem d_In_bitCount_24 : decode M_In_bitCount.2.1 24 = .ok (.iload_n 0, 1) := by decide +kernel
theorem d_In_bitCount_25 : decode M_In_bitCount.2.1 25 = .ok (.iload_n 0, 1) := by decide +kernel
theorem d_In_bitCount_26 : decode M_In_bitCount.2.1 26 = .ok (.iconst 4, 1) := by decide +kernel
theorem d_In_bitCount_27 : decode M_In_bitCount.2.1 27 = .ok (.iushr, 1) := by decide +kernel
theorem d_In_bitCount_28 : decode M_In_bitCount.2.1 28 = .ok (.iadd, 1) := by decide +kernel
theorem d_In_bitCount_29 : decode M_In_bitCount.2.1 29 = .ok (.ldc_w 267, 3) := by decide +kernel
theorem d_In_bitCount_32 : decode M_In_bitCount.2.1 32 = .ok (.iand, 1) := by decide +kernel
theorem d_In_bitCount_33 : decode M_In_bitCount.2.1 33 = .ok (.istore_n 0, 1) := by decide +kernel
theorem d_In_bitCount_34 : decode M_In_bitCount.2.1 34 = .ok (.iload_n 0, 1) := by decide +kernel
theorem d_In_bitCount_35 : decode M_In_bitCount.2.1 35 = .ok (.iload_n 0, 1) := by decide +kernel
theorem d_In_bitCount_36 : decode M_In_bitCount.2.1 36 = .ok (.bipush 8, 2) := by decide +kernel
theorem d_In_bitCount_38 : decode M_In_bitCount.2.1 38 = .ok (.iushr, 1) := by decide +kernel
theorem d_In_bitCount_39 : decode M_In_bitCount.2.1 39 = .ok (.iadd, 1) := by decide +kernel
theorem d_In_bitCount_40 : decode M_In_bitCount.2.1 40 = .ok (.istore_n 0, 1) := by decide +kernel
theorem d_In_bitCount_41 : decode M_In_bitCount.2.1 41 = .ok (.iload_n 0, 1) := by decide +kernel
theorem d_In_bitCount_42 : decode M_In_bitCount.2.1 42 = .ok (.iload_n 0, 1) := by decide +kernel
theorem d_In_bitCount_43 : decode M_In_bitCount.2.1 43 = .ok (.bipush 16, 2) := by decide +kernel
theorem d_In_bitCount_45 : decode M_In_bitCount.2.1 45 = .ok (.iushr, 1) := by decide +kernel
theorem d_In_bitCount_46 : decode M_In_bitCount.2.1 46 = .ok (.iadd, 1) := by decide +kernel
theorem d_In_bitCount_47 : decode M_In_bitCount.2.1 47 = .ok (.istore_n 0, 1) := by decide +kernel
theorem d_In_bitCount_48 : decode M_In_bitCount.2.1 48 = .ok (.iload_n 0, 1) := by decide +kernel
theorem d_In_bitCount_49 : decode M_In_bitCount.2.1 49 = .ok (.bipush 63, 2) := by decide +kernel
theorem d_In_bitCount_51 : decode M_In_bitCount.2.1 51 = .ok (.iand, 1) := by decide +kernel
theorem d_In_bitCount_52 : decode M_In_bitCount.2.1 52 = .ok (.ireturn, 1) := by decide +kernel
theorem d_Ma_max_0 : decode M_Ma_max.2.1 0 = .ok (.iload_n 0, 1) := by decide +kernel
theorem d_Ma_max_1 : decode M_Ma_max.2.1 1 = .ok (.iload_n 1, 1) := by decide +kernel
theorem d_Ma_max_2 : decode M_Ma_max.2.1 2 = .ok (.if_icmp .lt 7, 3) := by decide +kernel
theorem d_Ma_max_5 : decode M_Ma_max.2.1 5 = .ok (.iload_n 0, 1) := by decide +kernel
theorem d_Ma_max_6 : decode M_Ma_max.2.1 6 = .ok (.goto 4, 3) := by decide +kernel
theorem d_Ma_max_9 : decode M_Ma_max.2.1 9 = .ok (.iload_n 1, 1) := by decide +kernel
theorem d_Ma_max_10 : decode M_Ma_max.2.1 10 = .ok (.ireturn, 1) := by decide +kernel
theorem d_Ma_min_0 : decode M_Ma_min.2.1 0 = .ok (.iload_n 0, 1) := by decide +kernel
theorem d_Ma_min_1 : decode M_Ma_min.2.1 1 = .ok (.iload_n 1, 1) := by decide +kernel
theorem d_Ma_min_2 : decode M_Ma_min.2.1 2 = .ok (.if_icmp .gt 7, 3) := by decide +kernel
theorem d_Ma_min_5 : decode M_Ma_min.2.1 5 = .ok (.iload_n 0, 1) := by decide +kernel
theorem d_Ma_min_6 : decode M_Ma_min.2.1 6 = .ok (.goto 4, 3) := by decide +kernel
theorem d_Ma_min_9 : decode M_Ma_min.2.1 9 = .ok (.iload_n 1, 1) := by decide +kernel
theorem d_Ma_min_10 : decode M_Ma_min.2.1 10 = .ok (.ireturn, 1) := by decide +kernel
theorem d_Ar_fill_0 : decode M_Ar_fill.2.1 0 = .ok (.iconst 0, 1) := by decide +kernel
theorem d_Ar_fill_1 : decode M_Ar_fill.2.1 1 = .ok (.istore_n 2, 1) := by decide +kernel
theorem d_Ar_fill_2 : decode M_Ar_fill.2.1 2 = .ok (.aload_n 0, 1) := by decide +kernel
theorem d_Ar_fill_3 : decode M_Ar_fill.2.1 3 = .ok (.arraylength, 1) := by decide +kernel
theorem d_Ar_fill_4 : decode M_Ar_fill.2.1 4 = .ok (.istore_n 3, 1) := by decide +kernel
theorem d_Ar_fill_5 : decode M_Ar_fill.2.1 5 = .ok (.iload_n 2, 1) := by decide +kernel
theorem d_Ar_fill_6 : decode M_Ar_fill.2.1 6 = .ok (.iload_n 3, 1) := by decide +kernel
theorem d_Ar_fill_7 : decode M_Ar_fill.2.1 7 = .ok (.if_icmp .ge 13, 3) := by decide +kernel
theorem d_Ar_fill_10 : decode M_Ar_fill.2.1 10 = .ok (.aload_n 0, 1) := by decide +kernel
theorem d_Ar_fill_11 : decode M_Ar_fill.2.1 11 = .ok (.iload_n 2, 1) := by decide +kernel
theorem d_Ar_fill_12 : decode M_Ar_fill.2.1 12 = .ok (.iload_n 1, 1) := by decide +kernel
theorem d_Ar_fill_13 : decode M_Ar_fill.2.1 13 = .ok (.iastore, 1) := by decide +kernel
theorem d_Ar_fill_14 : decode M_Ar_fill.2.1 14 = .ok (.iinc 2 1, 3) := by decide +kernel
theorem d_Ar_fill_17 : decode M_Ar_fill.2.1 17 = .ok (.goto (-12), 3) := by decide +kernel
theorem d_Ar_fill_20 : decode M_Ar_fill.2.1 20 = .ok (.return_, 1) := by decide +kernel
end
section
theorem d_Tb_init_0 : decode M_Tb_init.2.1 0 = .ok (.aload_n 0, 1) := by decide +kernel
theorem d_Tb_init_1 : decode M_Tb_init.2.1 1 = .ok (.invokespecial 1, 3) := by decide +kernel
theorem d_Tb_init_4 : decode M_Tb_init.2.1 4 = .ok (.aload_n 0, 1) := by decide +kernel
theorem d_Tb_init_5 : decode M_Tb_init.2.1 5 = .ok (.new 7, 3) := by decide +kernel
theorem d_Tb_init_8 : decode M_Tb_init.2.1 8 = .ok (.dup, 1) := by decide +kernel
theorem d_Tb_init_9 : decode M_Tb_init.2.1 9 = .ok (.invokespecial 9, 3) := by decide +kernel
theorem d_Tb_init_12 : decode M_Tb_init.2.1 12 = .ok (.putfield 10, 3) := by decide +kernel
theorem d_Tb_init_15 : decode M_Tb_init.2.1 15 = .ok (.aload_n 0, 1) := by decide +kernel
theorem d_Tb_init_16 : decode M_Tb_init.2.1 16 = .ok (.new 16, 3) := by decide +kernel
theorem d_Tb_init_19 : decode M_Tb_init.2.1 19 = .ok (.dup, 1) := by decide +kernel
theorem d_Tb_init_20 : decode M_Tb_init.2.1 20 = .ok (.invokespecial 18, 3) := by decide +kernel
theorem d_Tb_init_23 : decode M_Tb_init.2.1 23 = .ok (.putfield 19, 3) := by decide +kernel
theorem d_Tb_init_26 : decode M_Tb_init.2.1 26 = .ok (.aload_n 0, 1) := by decide +kernel
theorem d_Tb_init_27 : decode M_Tb_init.2.1 27 = .ok (.new 16, 3) := by decide +kernel
theorem d_Tb_init_30 : decode M_Tb_init.2.1 30 = .ok (.dup, 1) := by decide +kernel
theorem d_Tb_init_31 : decode M_Tb_init.2.1 31 = .ok (.invokespecial 18, 3) := by decide +kernel
theorem d_Tb_init_34 : decode M_Tb_init.2.1 34 = .ok (.putfield 23, 3) := by decide +kernel
theorem d_Tb_init_37 : decode M_Tb_init.2.1 37 = .ok (.aload_n 0, 1) := by decide +kernel
theorem d_Tb_init_38 : decode M_Tb_init.2.1 38 = .ok (.new 26, 3) := by decide +kernel
theorem d_Tb_init_41 : decode M_Tb_init.2.1 41 = .ok (.dup, 1) := by decide +kernel
theorem d_Tb_init_42 : decode M_Tb_init.2.1 42 = .ok (.invokespecial 28, 3) := by decide +kernel
theorem d_Tb_init_45 : decode M_Tb_init.2.1 45 = .ok (.putfield 29, 3) := by decide +kernel
theorem d_Tb_init_48 : decode M_Tb_init.2.1 48 = .ok (.aload_n 0, 1) := by decide +kernel
theorem d_Tb_init_49 : decode M_Tb_init.2.1 49 = .ok (.new 26, 3) := by decide +kernel
theorem d_Tb_init_52 : decode M_Tb_init.2.1 52 = .ok (.dup, 1) := by decide +kernel
theorem d_Tb_init_53 : decode M_Tb_init.2.1 53 = .ok (.invokespecial 28, 3) := by decide +kernel
theorem d_Tb_init_56 : decode M_Tb_init.2.1 56 = .ok (.putfield 33, 3) := by decide +kernel
theorem d_Tb_init_59 : decode M_Tb_init.2.1 59 = .ok (.aload_n 0, 1) := by decide +kernel
theorem d_Tb_init_60 : decode M_Tb_init.2.1 60 = .ok (.new 36, 3) := by decide +kernel
theorem d_Tb_init_63 : decode M_Tb_init.2.1 63 = .ok (.dup, 1) := by decide +kernel
theorem d_Tb_init_64 : decode M_Tb_init.2.1 64 = .ok (.invokespecial 38, 3) := by decide +kernel
theorem d_Tb_init_67 : decode M_Tb_init.2.1 67 = .ok (.putfield 39, 3) := by decide +kernel
theorem d_Tb_init_70 : decode M_Tb_init.2.1 70 = .ok (.aload_n 0, 1) := by decide +kernel
theorem d_Tb_init_71 : decode M_Tb_init.2.1 71 = .ok (.iconst 2, 1) := by decide +kernel
theorem d_Tb_init_72 : decode M_Tb_init.2.1 72 = .ok (.anewarray 43, 3) := by decide +kernel
theorem d_Tb_init_75 : decode M_Tb_init.2.1 75 = .ok (.putfield 45, 3) := by decide +kernel
theorem d_Tb_init_78 : decode M_Tb_init.2.1 78 = .ok (.aload_n 0, 1) := by decide +kernel
theorem d_Tb_init_79 : decode M_Tb_init.2.1 79 = .ok (.new 49, 3) := by decide +kernel
theorem d_Tb_init_82 : decode M_Tb_init.2.1 82 = .ok (.dup, 1) := by decide +kernel
theorem d_Tb_init_83 : decode M_Tb_init.2.1 83 = .ok (.aload_n 0, 1) := by decide +kernel
theorem d_Tb_init_84 : decode M_Tb_init.2.1 84 = .ok (.getfield 19, 3) := by decide +kernel
theorem d_Tb_init_87 : decode M_Tb_init.2.1 87 = .ok (.invokespecial 51, 3) := by decide +kernel
theorem d_Tb_init_90 : decode M_Tb_init.2.1 90 = .ok (.putfield 54, 3) := by decide +kernel
theorem d_Tb_init_93 : decode M_Tb_init.2.1 93 = .ok (.aload_n 0, 1) := by decide +kernel
theorem d_Tb_init_94 : decode M_Tb_init.2.1 94 = .ok (.new 58, 3) := by decide +kernel
theorem d_Tb_init_97 : decode M_Tb_init.2.1 97 = .ok (.dup, 1) := by decide +kernel
theorem d_Tb_init_98 : decode M_Tb_init.2.1 98 = .ok (.invokespecial 60, 3) := by decide +kernel
theorem d_Tb_init_101 : decode M_Tb_init.2.1 101 = .ok (.putfield 61, 3) := by decide +kernel
theorem d_Tb_init_104 : decode M_Tb_init.2.1 104 = .ok (.aload_n 0, 1) := by decide +kernel
theorem d_Tb_init_105 : decode M_Tb_init.2.1 105 = .ok (.new 65, 3) := by decide +kernel
theorem d_Tb_init_108 : decode M_Tb_init.2.1 108 = .ok (.dup, 1) := by decide +kernel
theorem d_Tb_init_109 : decode M_Tb_init.2.1 109 = .ok (.invokespecial 67, 3) := by decide +kernel
theorem d_Tb_init_112 : decode M_Tb_init.2.1 112 = .ok (.putfield 68, 3) := by decide +kernel
theorem d_Tb_init_115 : decode M_Tb_init.2.1 115 = .ok (.aload_n 0, 1) := by decide +kernel
theorem d_Tb_init_116 : decode M_Tb_init.2.1 116 = .ok (.new 65, 3) := by decide +kernel
theorem d_Tb_init_119 : decode M_Tb_init.2.1 119 = .ok (.dup, 1) := by decide +kernel
theorem d_Tb_init_120 : decode M_Tb_init.2.1 120 = .ok (.invokespecial 67, 3) := by decide +kernel
theorem d_Tb_init_123 : decode M_Tb_init.2.1 123 = .ok (.putfield 72, 3) := by decide +kernel
theorem d_Tb_init_126 : decode M_Tb_init.2.1 126 = .ok (.aload_n 0, 1) := by decide +kernel
theorem d_Tb_init_127 : decode M_Tb_init.2.1 127 = .ok (.bipush 10, 2) := by decide +kernel
theorem d_Tb_init_129 : decode M_Tb_init.2.1 129 = .ok (.newarray .int, 2) := by decide +kernel
theorem d_Tb_init_131 : decode M_Tb_init.2.1 131 = .ok (.putfield 75, 3) := by decide +kernel
theorem d_Tb_init_134 : decode M_Tb_init.2.1 134 = .ok (.aload_n 0, 1) := by decide +kernel
theorem d_Tb_init_135 : decode M_Tb_init.2.1 135 = .ok (.lconst 0, 1) := by decide +kernel
theorem d_Tb_init_136 : decode M_Tb_init.2.1 136 = .ok (.putfield 79, 3) := by decide +kernel
theorem d_Tb_init_139 : decode M_Tb_init.2.1 139 = .ok (.iconst 0, 1) := by decide +kernel
theorem d_Tb_init_140 : decode M_Tb_init.2.1 140 = .ok (.istore_n 1, 1) := by decide +kernel
theorem d_Tb_init_141 : decode M_Tb_init.2.1 141 = .ok (.iload_n 1, 1) := by decide +kernel
theorem d_Tb_init_142 : decode M_Tb_init.2.1 142 = .ok (.iconst 2, 1) := by decide +kernel
theorem d_Tb_init_143 : decode M_Tb_init.2.1 143 = .ok (.if_icmp .ge 22, 3) := by decide +kernel
theorem d_Tb_init_146 : decode M_Tb_init.2.1 146 = .ok (.aload_n 0, 1) := by decide +kernel
theorem d_Tb_init_147 : decode M_Tb_init.2.1 147 = .ok (.getfield 45, 3) := by decide +kernel
theorem d_Tb_init_150 : decode M_Tb_init.2.1 150 = .ok (.iload_n 1, 1) := by decide +kernel
theorem d_Tb_init_151 : decode M_Tb_init.2.1 151 = .ok (.new 43, 3) := by decide +kernel
theorem d_Tb_init_154 : decode M_Tb_init.2.1 154 = .ok (.dup, 1) := by decide +kernel
theorem d_Tb_init_155 : decode M_Tb_init.2.1 155 = .ok (.invokespecial 83, 3) := by decide +kernel
theorem d_Tb_init_158 : decode M_Tb_init.2.1 158 = .ok (.aastore, 1) := by decide +kernel
theorem d_Tb_init_159 : decode M_Tb_init.2.1 159 = .ok (.iinc 1 1, 3) := by decide +kernel
theorem d_Tb_init_162 : decode M_Tb_init.2.1 162 = .ok (.goto (-21), 3) := by decide +kernel
theorem d_Tb_init_165 : decode M_Tb_init.2.1 165 = .ok (.aload_n 0, 1) := by decide +kernel
theorem d_Tb_init_166 : decode M_Tb_init.2.1 166 = .ok (.invokevirtual 84, 3) := by decide +kernel
theorem d_Tb_init_169 : decode M_Tb_init.2.1 169 = .ok (.return_, 1) := by decide +kernel
theorem d_Tb_type_0 : decode M_Tb_type.2.1 0 = .ok (.iload_n 1, 1) := by decide +kernel
theorem d_Tb_type_1 : decode M_Tb_type.2.1 1 = .ok (.iconst 0, 1) := by decide +kernel
theorem d_Tb_type_2 : decode M_Tb_type.2.1 2 = .ok (.sipush 255, 3) := by decide +kernel
theorem d_Tb_type_5 : decode M_Tb_type.2.1 5 = .ok (.invokestatic 87, 3) := by decide +kernel
theorem d_Tb_type_8 : decode M_Tb_type.2.1 8 = .ok (.ifCond .ne 5, 3) := by decide +kernel
theorem d_Tb_type_11 : decode M_Tb_type.2.1 11 = .ok (.iconst (-1), 1) := by decide +kernel
theorem d_Tb_type_12 : decode M_Tb_type.2.1 12 = .ok (.ireturn, 1) := by decide +kernel
theorem d_Tb_type_13 : decode M_Tb_type.2.1 13 = .ok (.aload_n 0, 1) := by decide +kernel
theorem d_Tb_type_14 : decode M_Tb_type.2.1 14 = .ok (.getfield 10, 3) := by decide +kernel
theorem d_Tb_type_17 : decode M_Tb_type.2.1 17 = .ok (.iload_n 1, 1) := by decide +kernel
theorem d_Tb_type_18 : decode M_Tb_type.2.1 18 = .ok (.invokevirtual 91, 3) := by decide +kernel
theorem d_Tb_type_21 : decode M_Tb_type.2.1 21 = .ok (.ireturn, 1) := by decide +kernel
theorem d_Tb_clear_0 : decode M_Tb_clear.2.1 0 = .ok (.aload_n 0, 1) := by decide +kernel
theorem d_Tb_clear_1 : decode M_Tb_clear.2.1 1 = .ok (.getfield 10, 3) := by decide +kernel
theorem d_Tb_clear_4 : decode M_Tb_clear.2.1 4 = .ok (.invokevirtual 95, 3) := by decide +kernel
theorem d_Tb_clear_7 : decode M_Tb_clear.2.1 7 = .ok (.ireturn, 1) := by decide +kernel
theorem d_Tb_sheds_0 : decode M_Tb_sheds.2.1 0 = .ok (.aload_n 0, 1) := by decide +kernel
theorem d_Tb_sheds_1 : decode M_Tb_sheds.2.1 1 = .ok (.getfield 10, 3) := by decide +kernel
theorem d_Tb_sheds_4 : decode M_Tb_sheds.2.1 4 = .ok (.aload_n 0, 1) := by decide +kernel
theorem d_Tb_sheds_5 : decode M_Tb_sheds.2.1 5 = .ok (.getfield 23, 3) := by decide +kernel
theorem d_Tb_sheds_8 : decode M_Tb_sheds.2.1 8 = .ok (.invokevirtual 99, 3) := by decide +kernel
theorem d_Tb_sheds_11 : decode M_Tb_sheds.2.1 11 = .ok (.istore_n 1, 1) := by decide +kernel
theorem d_Tb_sheds_12 : decode M_Tb_sheds.2.1 12 = .ok (.iload_n 1, 1) := by decide +kernel
theorem d_Tb_sheds_13 : decode M_Tb_sheds.2.1 13 = .ok (.ifCond .ge 5, 3) := by decide +kernel
theorem d_Tb_sheds_16 : decode M_Tb_sheds.2.1 16 = .ok (.iload_n 1, 1) := by decide +kernel
theorem d_Tb_sheds_17 : decode M_Tb_sheds.2.1 17 = .ok (.ireturn, 1) := by decide +kernel
theorem d_Tb_sheds_18 : decode M_Tb_sheds.2.1 18 = .ok (.aload_n 0, 1) := by decide +kernel
theorem d_Tb_sheds_19 : decode M_Tb_sheds.2.1 19 = .ok (.getfield 19, 3) := by decide +kernel
theorem d_Tb_sheds_22 : decode M_Tb_sheds.2.1 22 = .ok (.aload_n 0, 1) := by decide +kernel
theorem d_Tb_sheds_23 : decode M_Tb_sheds.2.1 23 = .ok (.getfield 23, 3) := by decide +kernel
theorem d_Tb_sheds_26 : decode M_Tb_sheds.2.1 26 = .ok (.invokevirtual 103, 3) := by decide +kernel
theorem d_Tb_sheds_29 : decode M_Tb_sheds.2.1 29 = .ok (.aload_n 0, 1) := by decide +kernel
theorem d_Tb_sheds_30 : decode M_Tb_sheds.2.1 30 = .ok (.getfield 10, 3) := by decide +kernel
theorem d_Tb_sheds_33 : decode M_Tb_sheds.2.1 33 = .ok (.invokevirtual 95, 3) := by decide +kernel
theorem d_Tb_sheds_36 : decode M_Tb_sheds.2.1 36 = .ok (.pop, 1) := by decide +kernel
theorem d_Tb_sheds_37 : decode M_Tb_sheds.2.1 37 = .ok (.aload_n 0, 1) := by decide +kernel
theorem d_Tb_sheds_38 : decode M_Tb_sheds.2.1 38 = .ok (.invokevirtual 84, 3) := by decide +kernel
theorem d_Tb_sheds_41 : decode M_Tb_sheds.2.1 41 = .ok (.iload_n 1, 1) := by decide +kernel
theorem d_Tb_sheds_42 : decode M_Tb_sheds.2.1 42 = .ok (.ireturn, 1) := by decide +kernel
theorem d_Tb_wind_0 : decode M_Tb_wind.2.1 0 = .ok (.iload_n 1, 1) := by decide +kernel
theorem d_Tb_wind_1 : decode M_Tb_wind.2.1 1 = .ok (.iconst 0, 1) := by decide +kernel
theorem d_Tb_wind_2 : decode M_Tb_wind.2.1 2 = .ok (.bipush 9, 2) := by decide +kernel
theorem d_Tb_wind_4 : decode M_Tb_wind.2.1 4 = .ok (.invokestatic 87, 3) := by decide +kernel
theorem d_Tb_wind_7 : decode M_Tb_wind.2.1 7 = .ok (.ifCond .eq 14, 3) := by decide +kernel
theorem d_Tb_wind_10 : decode M_Tb_wind.2.1 10 = .ok (.aload_n 0, 1) := by decide +kernel
theorem d_Tb_wind_11 : decode M_Tb_wind.2.1 11 = .ok (.getfield 19, 3) := by decide +kernel
theorem d_Tb_wind_14 : decode M_Tb_wind.2.1 14 = .ok (.iload_n 1, 1) := by decide +kernel
theorem d_Tb_wind_15 : decode M_Tb_wind.2.1 15 = .ok (.invokevirtual 106, 3) := by decide +kernel
theorem d_Tb_wind_18 : decode M_Tb_wind.2.1 18 = .ok (.goto 5, 3) := by decide +kernel
theorem d_Tb_wind_21 : decode M_Tb_wind.2.1 21 = .ok (.ldc 109, 2) := by decide +kernel
theorem d_Tb_wind_23 : decode M_Tb_wind.2.1 23 = .ok (.ireturn, 1) := by decide +kernel
theorem d_Tb_one_0 : decode M_Tb_one.2.1 0 = .ok (.aload_n 0, 1) := by decide +kernel
theorem d_Tb_one_1 : decode M_Tb_one.2.1 1 = .ok (.getfield 19, 3) := by decide +kernel
theorem d_Tb_one_4 : decode M_Tb_one.2.1 4 = .ok (.iload_n 1, 1) := by decide +kernel
theorem d_Tb_one_5 : decode M_Tb_one.2.1 5 = .ok (.invokevirtual 110, 3) := by decide +kernel
theorem d_Tb_one_8 : decode M_Tb_one.2.1 8 = .ok (.ifCond .ne 5, 3) := by decide +kernel
theorem d_Tb_one_11 : decode M_Tb_one.2.1 11 = .ok (.iconst (-1), 1) := by decide +kernel
theorem d_Tb_one_12 : decode M_Tb_one.2.1 12 = .ok (.ireturn, 1) := by decide +kernel
theorem d_Tb_one_13 : decode M_Tb_one.2.1 13 = .ok (.iload_n 2, 1) := by decide +kernel
theorem d_Tb_one_14 : decode M_Tb_one.2.1 14 = .ok (.tableswitch 89 0 4 #[34, 44, 54, 71, 80], 34) := by decide +kernel
theorem d_Tb_one_48 : decode M_Tb_one.2.1 48 = .ok (.aload_n 0, 1) := by decide +kernel
theorem d_Tb_one_49 : decode M_Tb_one.2.1 49 = .ok (.getfield 19, 3) := by decide +kernel
theorem d_Tb_one_52 : decode M_Tb_one.2.1 52 = .ok (.getfield 114, 3) := by decide +kernel
theorem d_Tb_one_55 : decode M_Tb_one.2.1 55 = .ok (.iload_n 1, 1) := by decide +kernel
theorem d_Tb_one_56 : decode M_Tb_one.2.1 56 = .ok (.iaload, 1) := by decide +kernel
theorem d_Tb_one_57 : decode M_Tb_one.2.1 57 = .ok (.ireturn, 1) := by decide +kernel
theorem d_Tb_one_58 : decode M_Tb_one.2.1 58 = .ok (.aload_n 0, 1) := by decide +kernel
theorem d_Tb_one_59 : decode M_Tb_one.2.1 59 = .ok (.getfield 19, 3) := by decide +kernel
theorem d_Tb_one_62 : decode M_Tb_one.2.1 62 = .ok (.getfield 117, 3) := by decide +kernel
theorem d_Tb_one_65 : decode M_Tb_one.2.1 65 = .ok (.iload_n 1, 1) := by decide +kernel
theorem d_Tb_one_66 : decode M_Tb_one.2.1 66 = .ok (.iaload, 1) := by decide +kernel
theorem d_Tb_one_67 : decode M_Tb_one.2.1 67 = .ok (.ireturn, 1) := by decide +kernel
theorem d_Tb_one_68 : decode M_Tb_one.2.1 68 = .ok (.aload_n 0, 1) := by decide +kernel
theorem d_Tb_one_69 : decode M_Tb_one.2.1 69 = .ok (.getfield 29, 3) := by decide +kernel
theorem d_Tb_one_72 : decode M_Tb_one.2.1 72 = .ok (.iload_n 1, 1) := by decide +kernel
theorem d_Tb_one_73 : decode M_Tb_one.2.1 73 = .ok (.invokevirtual 120, 3) := by decide +kernel
theorem d_Tb_one_76 : decode M_Tb_one.2.1 76 = .ok (.ifCond .eq 7, 3) := by decide +kernel
theorem d_Tb_one_79 : decode M_Tb_one.2.1 79 = .ok (.iconst 1, 1) := by decide +kernel
theorem d_Tb_one_80 : decode M_Tb_one.2.1 80 = .ok (.goto 4, 3) := by decide +kernel
theorem d_Tb_one_83 : decode M_Tb_one.2.1 83 = .ok (.iconst 0, 1) := by decide +kernel
theorem d_Tb_one_84 : decode M_Tb_one.2.1 84 = .ok (.ireturn, 1) := by decide +kernel
theorem d_Tb_one_85 : decode M_Tb_one.2.1 85 = .ok (.aload_n 0, 1) := by decide +kernel
theorem d_Tb_one_86 : decode M_Tb_one.2.1 86 = .ok (.getfield 29, 3) := by decide +kernel
theorem d_Tb_one_89 : decode M_Tb_one.2.1 89 = .ok (.iload_n 1, 1) := by decide +kernel
theorem d_Tb_one_90 : decode M_Tb_one.2.1 90 = .ok (.invokevirtual 123, 3) := by decide +kernel
theorem d_Tb_one_93 : decode M_Tb_one.2.1 93 = .ok (.ireturn, 1) := by decide +kernel
theorem d_Tb_one_94 : decode M_Tb_one.2.1 94 = .ok (.aload_n 0, 1) := by decide +kernel
theorem d_Tb_one_95 : decode M_Tb_one.2.1 95 = .ok (.getfield 19, 3) := by decide +kernel
theorem d_Tb_one_98 : decode M_Tb_one.2.1 98 = .ok (.iload_n 1, 1) := by decide +kernel
theorem d_Tb_one_99 : decode M_Tb_one.2.1 99 = .ok (.invokevirtual 126, 3) := by decide +kernel
theorem d_Tb_one_102 : decode M_Tb_one.2.1 102 = .ok (.ireturn, 1) := by decide +kernel
theorem d_Tb_one_103 : decode M_Tb_one.2.1 103 = .ok (.iconst (-1), 1) := by decide +kernel
theorem d_Tb_one_104 : decode M_Tb_one.2.1 104 = .ok (.ireturn, 1) := by decide +kernel
theorem d_Tb_thought_0 : decode M_Tb_thought.2.1 0 = .ok (.aload_n 0, 1) := by decide +kernel
theorem d_Tb_thought_1 : decode M_Tb_thought.2.1 1 = .ok (.getfield 19, 3) := by decide +kernel
theorem d_Tb_thought_4 : decode M_Tb_thought.2.1 4 = .ok (.iload_n 1, 1) := by decide +kernel
theorem d_Tb_thought_5 : decode M_Tb_thought.2.1 5 = .ok (.invokevirtual 129, 3) := by decide +kernel
theorem d_Tb_thought_8 : decode M_Tb_thought.2.1 8 = .ok (.ifCond .ne 5, 3) := by decide +kernel
theorem d_Tb_thought_11 : decode M_Tb_thought.2.1 11 = .ok (.iconst (-1), 1) := by decide +kernel
theorem d_Tb_thought_12 : decode M_Tb_thought.2.1 12 = .ok (.ireturn, 1) := by decide +kernel
theorem d_Tb_thought_13 : decode M_Tb_thought.2.1 13 = .ok (.iload_n 2, 1) := by decide +kernel
theorem d_Tb_thought_14 : decode M_Tb_thought.2.1 14 = .ok (.lookupswitch 46 #[(0, 26), (1, 36)], 26) := by decide +kernel
theorem d_Tb_thought_40 : decode M_Tb_thought.2.1 40 = .ok (.aload_n 0, 1) := by decide +kernel
theorem d_Tb_thought_41 : decode M_Tb_thought.2.1 41 = .ok (.getfield 19, 3) := by decide +kernel
theorem d_Tb_thought_44 : decode M_Tb_thought.2.1 44 = .ok (.getfield 132, 3) := by decide +kernel
theorem d_Tb_thought_47 : decode M_Tb_thought.2.1 47 = .ok (.iload_n 1, 1) := by decide +kernel
theorem d_Tb_thought_48 : decode M_Tb_thought.2.1 48 = .ok (.iaload, 1) := by decide +kernel
theorem d_Tb_thought_49 : decode M_Tb_thought.2.1 49 = .ok (.ireturn, 1) := by decide +kernel
theorem d_Tb_thought_50 : decode M_Tb_thought.2.1 50 = .ok (.aload_n 0, 1) := by decide +kernel
theorem d_Tb_thought_51 : decode M_Tb_thought.2.1 51 = .ok (.getfield 19, 3) := by decide +kernel
theorem d_Tb_thought_54 : decode M_Tb_thought.2.1 54 = .ok (.getfield 135, 3) := by decide +kernel
theorem d_Tb_thought_57 : decode M_Tb_thought.2.1 57 = .ok (.iload_n 1, 1) := by decide +kernel
theorem d_Tb_thought_58 : decode M_Tb_thought.2.1 58 = .ok (.iaload, 1) := by decide +kernel
theorem d_Tb_thought_59 : decode M_Tb_thought.2.1 59 = .ok (.ireturn, 1) := by decide +kernel
theorem d_Tb_thought_60 : decode M_Tb_thought.2.1 60 = .ok (.iconst (-1), 1) := by decide +kernel
theorem d_Tb_thought_61 : decode M_Tb_thought.2.1 61 = .ok (.ireturn, 1) := by decide +kernel
theorem d_Tb_begins_0 : decode M_Tb_begins.2.1 0 = .ok (.aload_n 0, 1) := by decide +kernel
theorem d_Tb_begins_1 : decode M_Tb_begins.2.1 1 = .ok (.getfield 19, 3) := by decide +kernel
theorem d_Tb_begins_4 : decode M_Tb_begins.2.1 4 = .ok (.iload_n 1, 1) := by decide +kernel
theorem d_Tb_begins_5 : decode M_Tb_begins.2.1 5 = .ok (.invokevirtual 110, 3) := by decide +kernel
theorem d_Tb_begins_8 : decode M_Tb_begins.2.1 8 = .ok (.ifCond .eq 14, 3) := by decide +kernel
theorem d_Tb_begins_11 : decode M_Tb_begins.2.1 11 = .ok (.aload_n 0, 1) := by decide +kernel
theorem d_Tb_begins_12 : decode M_Tb_begins.2.1 12 = .ok (.getfield 19, 3) := by decide +kernel
theorem d_Tb_begins_15 : decode M_Tb_begins.2.1 15 = .ok (.iload_n 2, 1) := by decide +kernel
theorem d_Tb_begins_16 : decode M_Tb_begins.2.1 16 = .ok (.invokevirtual 129, 3) := by decide +kernel
theorem d_Tb_begins_19 : decode M_Tb_begins.2.1 19 = .ok (.ifCond .ne 5, 3) := by decide +kernel
theorem d_Tb_begins_22 : decode M_Tb_begins.2.1 22 = .ok (.iconst (-1), 1) := by decide +kernel
theorem d_Tb_begins_23 : decode M_Tb_begins.2.1 23 = .ok (.ireturn, 1) := by decide +kernel
theorem d_Tb_begins_24 : decode M_Tb_begins.2.1 24 = .ok (.aload_n 0, 1) := by decide +kernel
theorem d_Tb_begins_25 : decode M_Tb_begins.2.1 25 = .ok (.getfield 29, 3) := by decide +kernel
theorem d_Tb_begins_28 : decode M_Tb_begins.2.1 28 = .ok (.getfield 138, 3) := by decide +kernel
theorem d_Tb_begins_31 : decode M_Tb_begins.2.1 31 = .ok (.ifCond .ne 15, 3) := by decide +kernel
theorem d_Tb_begins_34 : decode M_Tb_begins.2.1 34 = .ok (.aload_n 0, 1) := by decide +kernel
theorem d_Tb_begins_35 : decode M_Tb_begins.2.1 35 = .ok (.getfield 29, 3) := by decide +kernel
theorem d_Tb_begins_38 : decode M_Tb_begins.2.1 38 = .ok (.iload_n 1, 1) := by decide +kernel
theorem d_Tb_begins_39 : decode M_Tb_begins.2.1 39 = .ok (.iload_n 2, 1) := by decide +kernel
theorem d_Tb_begins_40 : decode M_Tb_begins.2.1 40 = .ok (.invokevirtual 142, 3) := by decide +kernel
theorem d_Tb_begins_43 : decode M_Tb_begins.2.1 43 = .ok (.ifCond .ne 6, 3) := by decide +kernel
theorem d_Tb_begins_46 : decode M_Tb_begins.2.1 46 = .ok (.bipush (-2), 2) := by decide +kernel
theorem d_Tb_begins_48 : decode M_Tb_begins.2.1 48 = .ok (.ireturn, 1) := by decide +kernel
theorem d_Tb_begins_49 : decode M_Tb_begins.2.1 49 = .ok (.aload_n 0, 1) := by decide +kernel
theorem d_Tb_begins_50 : decode M_Tb_begins.2.1 50 = .ok (.getfield 39, 3) := by decide +kernel
theorem d_Tb_begins_53 : decode M_Tb_begins.2.1 53 = .ok (.aload_n 0, 1) := by decide +kernel
theorem d_Tb_begins_54 : decode M_Tb_begins.2.1 54 = .ok (.getfield 29, 3) := by decide +kernel
theorem d_Tb_begins_57 : decode M_Tb_begins.2.1 57 = .ok (.invokevirtual 146, 3) := by decide +kernel
theorem d_Tb_begins_60 : decode M_Tb_begins.2.1 60 = .ok (.aload_n 0, 1) := by decide +kernel
theorem d_Tb_begins_61 : decode M_Tb_begins.2.1 61 = .ok (.getfield 29, 3) := by decide +kernel
theorem d_Tb_begins_64 : decode M_Tb_begins.2.1 64 = .ok (.iload_n 1, 1) := by decide +kernel
theorem d_Tb_begins_65 : decode M_Tb_begins.2.1 65 = .ok (.iload_n 2, 1) := by decide +kernel
theorem d_Tb_begins_66 : decode M_Tb_begins.2.1 66 = .ok (.invokevirtual 150, 3) := by decide +kernel
theorem d_Tb_begins_69 : decode M_Tb_begins.2.1 69 = .ok (.aload_n 0, 1) := by decide +kernel
theorem d_Tb_begins_70 : decode M_Tb_begins.2.1 70 = .ok (.getfield 19, 3) := by decide +kernel
theorem d_Tb_begins_73 : decode M_Tb_begins.2.1 73 = .ok (.aload_n 0, 1) := by decide +kernel
theorem d_Tb_begins_74 : decode M_Tb_begins.2.1 74 = .ok (.getfield 29, 3) := by decide +kernel
theorem d_Tb_begins_77 : decode M_Tb_begins.2.1 77 = .ok (.invokevirtual 154, 3) := by decide +kernel
theorem d_Tb_begins_80 : decode M_Tb_begins.2.1 80 = .ok (.ireturn, 1) := by decide +kernel
theorem d_Tb_minutes_0 : decode M_Tb_minutes.2.1 0 = .ok (.iload_n 1, 1) := by decide +kernel
theorem d_Tb_minutes_1 : decode M_Tb_minutes.2.1 1 = .ok (.iconst 1, 1) := by decide +kernel
theorem d_Tb_minutes_2 : decode M_Tb_minutes.2.1 2 = .ok (.bipush 9, 2) := by decide +kernel
theorem d_Tb_minutes_4 : decode M_Tb_minutes.2.1 4 = .ok (.invokestatic 87, 3) := by decide +kernel
theorem d_Tb_minutes_7 : decode M_Tb_minutes.2.1 7 = .ok (.ifCond .ne 5, 3) := by decide +kernel
theorem d_Tb_minutes_10 : decode M_Tb_minutes.2.1 10 = .ok (.iconst (-1), 1) := by decide +kernel
theorem d_Tb_minutes_11 : decode M_Tb_minutes.2.1 11 = .ok (.ireturn, 1) := by decide +kernel
theorem d_Tb_minutes_12 : decode M_Tb_minutes.2.1 12 = .ok (.aload_n 0, 1) := by decide +kernel
theorem d_Tb_minutes_13 : decode M_Tb_minutes.2.1 13 = .ok (.getfield 29, 3) := by decide +kernel
theorem d_Tb_minutes_16 : decode M_Tb_minutes.2.1 16 = .ok (.getfield 158, 3) := by decide +kernel
theorem d_Tb_minutes_19 : decode M_Tb_minutes.2.1 19 = .ok (.iload_n 1, 1) := by decide +kernel
theorem d_Tb_minutes_20 : decode M_Tb_minutes.2.1 20 = .ok (.iadd, 1) := by decide +kernel
theorem d_Tb_minutes_21 : decode M_Tb_minutes.2.1 21 = .ok (.bipush 99, 2) := by decide +kernel
theorem d_Tb_minutes_23 : decode M_Tb_minutes.2.1 23 = .ok (.if_icmp .le 6, 3) := by decide +kernel
theorem d_Tb_minutes_26 : decode M_Tb_minutes.2.1 26 = .ok (.bipush (-2), 2) := by decide +kernel
theorem d_Tb_minutes_28 : decode M_Tb_minutes.2.1 28 = .ok (.ireturn, 1) := by decide +kernel
theorem d_Tb_minutes_29 : decode M_Tb_minutes.2.1 29 = .ok (.aload_n 0, 1) := by decide +kernel
theorem d_Tb_minutes_30 : decode M_Tb_minutes.2.1 30 = .ok (.getfield 39, 3) := by decide +kernel
theorem d_Tb_minutes_33 : decode M_Tb_minutes.2.1 33 = .ok (.aload_n 0, 1) := by decide +kernel
theorem d_Tb_minutes_34 : decode M_Tb_minutes.2.1 34 = .ok (.getfield 29, 3) := by decide +kernel
theorem d_Tb_minutes_37 : decode M_Tb_minutes.2.1 37 = .ok (.invokevirtual 146, 3) := by decide +kernel
theorem d_Tb_minutes_40 : decode M_Tb_minutes.2.1 40 = .ok (.aload_n 0, 1) := by decide +kernel
theorem d_Tb_minutes_41 : decode M_Tb_minutes.2.1 41 = .ok (.getfield 19, 3) := by decide +kernel
theorem d_Tb_minutes_44 : decode M_Tb_minutes.2.1 44 = .ok (.aload_n 0, 1) := by decide +kernel
theorem d_Tb_minutes_45 : decode M_Tb_minutes.2.1 45 = .ok (.getfield 29, 3) := by decide +kernel
theorem d_Tb_minutes_48 : decode M_Tb_minutes.2.1 48 = .ok (.iload_n 1, 1) := by decide +kernel
theorem d_Tb_minutes_49 : decode M_Tb_minutes.2.1 49 = .ok (.invokevirtual 162, 3) := by decide +kernel
theorem d_Tb_minutes_52 : decode M_Tb_minutes.2.1 52 = .ok (.aload_n 0, 1) := by decide +kernel
theorem d_Tb_minutes_53 : decode M_Tb_minutes.2.1 53 = .ok (.getfield 29, 3) := by decide +kernel
theorem d_Tb_minutes_56 : decode M_Tb_minutes.2.1 56 = .ok (.getfield 166, 3) := by decide +kernel
theorem d_Tb_minutes_59 : decode M_Tb_minutes.2.1 59 = .ok (.ireturn, 1) := by decide +kernel
theorem d_Tb_enters_0 : decode M_Tb_enters.2.1 0 = .ok (.aload_n 0, 1) := by decide +kernel
theorem d_Tb_enters_1 : decode M_Tb_enters.2.1 1 = .ok (.getfield 19, 3) := by decide +kernel
theorem d_Tb_enters_4 : decode M_Tb_enters.2.1 4 = .ok (.iload_n 1, 1) := by decide +kernel
theorem d_Tb_enters_5 : decode M_Tb_enters.2.1 5 = .ok (.invokevirtual 110, 3) := by decide +kernel
theorem d_Tb_enters_8 : decode M_Tb_enters.2.1 8 = .ok (.ifCond .ne 5, 3) := by decide +kernel
theorem d_Tb_enters_11 : decode M_Tb_enters.2.1 11 = .ok (.iconst (-1), 1) := by decide +kernel
theorem d_Tb_enters_12 : decode M_Tb_enters.2.1 12 = .ok (.ireturn, 1) := by decide +kernel
theorem d_Tb_enters_13 : decode M_Tb_enters.2.1 13 = .ok (.aload_n 0, 1) := by decide +kernel
theorem d_Tb_enters_14 : decode M_Tb_enters.2.1 14 = .ok (.getfield 29, 3) := by decide +kernel
theorem d_Tb_enters_17 : decode M_Tb_enters.2.1 17 = .ok (.iload_n 1, 1) := by decide +kernel
theorem d_Tb_enters_18 : decode M_Tb_enters.2.1 18 = .ok (.invokevirtual 120, 3) := by decide +kernel
theorem d_Tb_enters_21 : decode M_Tb_enters.2.1 21 = .ok (.ifCond .ne 13, 3) := by decide +kernel
theorem d_Tb_enters_24 : decode M_Tb_enters.2.1 24 = .ok (.aload_n 0, 1) := by decide +kernel
theorem d_Tb_enters_25 : decode M_Tb_enters.2.1 25 = .ok (.getfield 29, 3) := by decide +kernel
theorem d_Tb_enters_28 : decode M_Tb_enters.2.1 28 = .ok (.invokevirtual 169, 3) := by decide +kernel
theorem d_Tb_enters_31 : decode M_Tb_enters.2.1 31 = .ok (.ifCond .ne 6, 3) := by decide +kernel
theorem d_Tb_enters_34 : decode M_Tb_enters.2.1 34 = .ok (.bipush (-2), 2) := by decide +kernel
theorem d_Tb_enters_36 : decode M_Tb_enters.2.1 36 = .ok (.ireturn, 1) := by decide +kernel
theorem d_Tb_enters_37 : decode M_Tb_enters.2.1 37 = .ok (.aload_n 0, 1) := by decide +kernel
theorem d_Tb_enters_38 : decode M_Tb_enters.2.1 38 = .ok (.getfield 39, 3) := by decide +kernel
theorem d_Tb_enters_41 : decode M_Tb_enters.2.1 41 = .ok (.aload_n 0, 1) := by decide +kernel
theorem d_Tb_enters_42 : decode M_Tb_enters.2.1 42 = .ok (.getfield 29, 3) := by decide +kernel
theorem d_Tb_enters_45 : decode M_Tb_enters.2.1 45 = .ok (.invokevirtual 146, 3) := by decide +kernel
theorem d_Tb_enters_48 : decode M_Tb_enters.2.1 48 = .ok (.aload_n 0, 1) := by decide +kernel
theorem d_Tb_enters_49 : decode M_Tb_enters.2.1 49 = .ok (.getfield 29, 3) := by decide +kernel
theorem d_Tb_enters_52 : decode M_Tb_enters.2.1 52 = .ok (.iload_n 1, 1) := by decide +kernel
theorem d_Tb_enters_53 : decode M_Tb_enters.2.1 53 = .ok (.invokevirtual 173, 3) := by decide +kernel
theorem d_Tb_enters_56 : decode M_Tb_enters.2.1 56 = .ok (.aload_n 0, 1) := by decide +kernel
theorem d_Tb_enters_57 : decode M_Tb_enters.2.1 57 = .ok (.getfield 29, 3) := by decide +kernel
theorem d_Tb_enters_60 : decode M_Tb_enters.2.1 60 = .ok (.getfield 177, 3) := by decide +kernel
theorem d_Tb_enters_63 : decode M_Tb_enters.2.1 63 = .ok (.invokestatic 180, 3) := by decide +kernel
theorem d_Tb_enters_66 : decode M_Tb_enters.2.1 66 = .ok (.ireturn, 1) := by decide +kernel
theorem d_Tb_leaves_0 : decode M_Tb_leaves.2.1 0 = .ok (.aload_n 0, 1) := by decide +kernel
theorem d_Tb_leaves_1 : decode M_Tb_leaves.2.1 1 = .ok (.getfield 19, 3) := by decide +kernel
theorem d_Tb_leaves_4 : decode M_Tb_leaves.2.1 4 = .ok (.iload_n 1, 1) := by decide +kernel
theorem d_Tb_leaves_5 : decode M_Tb_leaves.2.1 5 = .ok (.invokevirtual 110, 3) := by decide +kernel
theorem d_Tb_leaves_8 : decode M_Tb_leaves.2.1 8 = .ok (.ifCond .ne 5, 3) := by decide +kernel
theorem d_Tb_leaves_11 : decode M_Tb_leaves.2.1 11 = .ok (.iconst (-1), 1) := by decide +kernel
theorem d_Tb_leaves_12 : decode M_Tb_leaves.2.1 12 = .ok (.ireturn, 1) := by decide +kernel
theorem d_Tb_leaves_13 : decode M_Tb_leaves.2.1 13 = .ok (.aload_n 0, 1) := by decide +kernel
theorem d_Tb_leaves_14 : decode M_Tb_leaves.2.1 14 = .ok (.getfield 29, 3) := by decide +kernel
theorem d_Tb_leaves_17 : decode M_Tb_leaves.2.1 17 = .ok (.iload_n 1, 1) := by decide +kernel
theorem d_Tb_leaves_18 : decode M_Tb_leaves.2.1 18 = .ok (.invokevirtual 120, 3) := by decide +kernel
theorem d_Tb_leaves_21 : decode M_Tb_leaves.2.1 21 = .ok (.ifCond .eq 13, 3) := by decide +kernel
theorem d_Tb_leaves_24 : decode M_Tb_leaves.2.1 24 = .ok (.aload_n 0, 1) := by decide +kernel
theorem d_Tb_leaves_25 : decode M_Tb_leaves.2.1 25 = .ok (.getfield 29, 3) := by decide +kernel
theorem d_Tb_leaves_28 : decode M_Tb_leaves.2.1 28 = .ok (.invokevirtual 169, 3) := by decide +kernel
theorem d_Tb_leaves_31 : decode M_Tb_leaves.2.1 31 = .ok (.ifCond .ne 6, 3) := by decide +kernel
theorem d_Tb_leaves_34 : decode M_Tb_leaves.2.1 34 = .ok (.bipush (-2), 2) := by decide +kernel
theorem d_Tb_leaves_36 : decode M_Tb_leaves.2.1 36 = .ok (.ireturn, 1) := by decide +kernel
theorem d_Tb_leaves_37 : decode M_Tb_leaves.2.1 37 = .ok (.aload_n 0, 1) := by decide +kernel
theorem d_Tb_leaves_38 : decode M_Tb_leaves.2.1 38 = .ok (.getfield 39, 3) := by decide +kernel
theorem d_Tb_leaves_41 : decode M_Tb_leaves.2.1 41 = .ok (.aload_n 0, 1) := by decide +kernel
theorem d_Tb_leaves_42 : decode M_Tb_leaves.2.1 42 = .ok (.getfield 29, 3) := by decide +kernel
theorem d_Tb_leaves_45 : decode M_Tb_leaves.2.1 45 = .ok (.invokevirtual 146, 3) := by decide +kernel
theorem d_Tb_leaves_48 : decode M_Tb_leaves.2.1 48 = .ok (.aload_n 0, 1) := by decide +kernel
theorem d_Tb_leaves_49 : decode M_Tb_leaves.2.1 49 = .ok (.getfield 29, 3) := by decide +kernel
theorem d_Tb_leaves_52 : decode M_Tb_leaves.2.1 52 = .ok (.iload_n 1, 1) := by decide +kernel
theorem d_Tb_leaves_53 : decode M_Tb_leaves.2.1 53 = .ok (.invokevirtual 185, 3) := by decide +kernel
theorem d_Tb_leaves_56 : decode M_Tb_leaves.2.1 56 = .ok (.aload_n 0, 1) := by decide +kernel
theorem d_Tb_leaves_57 : decode M_Tb_leaves.2.1 57 = .ok (.getfield 29, 3) := by decide +kernel
theorem d_Tb_leaves_60 : decode M_Tb_leaves.2.1 60 = .ok (.getfield 177, 3) := by decide +kernel
theorem d_Tb_leaves_63 : decode M_Tb_leaves.2.1 63 = .ok (.invokestatic 180, 3) := by decide +kernel
theorem d_Tb_leaves_66 : decode M_Tb_leaves.2.1 66 = .ok (.ireturn, 1) := by decide +kernel
theorem d_Tb_undo_0 : decode M_Tb_undo.2.1 0 = .ok (.aload_n 0, 1) := by decide +kernel
theorem d_Tb_undo_1 : decode M_Tb_undo.2.1 1 = .ok (.getfield 39, 3) := by decide +kernel
theorem d_Tb_undo_4 : decode M_Tb_undo.2.1 4 = .ok (.getfield 188, 3) := by decide +kernel
theorem d_Tb_undo_7 : decode M_Tb_undo.2.1 7 = .ok (.ifCond .ne 6, 3) := by decide +kernel
theorem d_Tb_undo_10 : decode M_Tb_undo.2.1 10 = .ok (.bipush (-2), 2) := by decide +kernel
theorem d_Tb_undo_12 : decode M_Tb_undo.2.1 12 = .ok (.ireturn, 1) := by decide +kernel
theorem d_Tb_undo_13 : decode M_Tb_undo.2.1 13 = .ok (.aload_n 0, 1) := by decide +kernel
theorem d_Tb_undo_14 : decode M_Tb_undo.2.1 14 = .ok (.getfield 39, 3) := by decide +kernel
theorem d_Tb_undo_17 : decode M_Tb_undo.2.1 17 = .ok (.aload_n 0, 1) := by decide +kernel
theorem d_Tb_undo_18 : decode M_Tb_undo.2.1 18 = .ok (.getfield 29, 3) := by decide +kernel
theorem d_Tb_undo_21 : decode M_Tb_undo.2.1 21 = .ok (.invokevirtual 191, 3) := by decide +kernel
theorem d_Tb_undo_24 : decode M_Tb_undo.2.1 24 = .ok (.aload_n 0, 1) := by decide +kernel
theorem d_Tb_undo_25 : decode M_Tb_undo.2.1 25 = .ok (.getfield 39, 3) := by decide +kernel
theorem d_Tb_undo_28 : decode M_Tb_undo.2.1 28 = .ok (.getfield 188, 3) := by decide +kernel
theorem d_Tb_undo_31 : decode M_Tb_undo.2.1 31 = .ok (.ireturn, 1) := by decide +kernel
theorem d_Tb_now_0 : decode M_Tb_now.2.1 0 = .ok (.iload_n 1, 1) := by decide +kernel
theorem d_Tb_now_1 : decode M_Tb_now.2.1 1 = .ok (.tableswitch 139 0 8 #[51, 59, 67, 75, 83, 91, 103, 115, 131], 51) := by decide +kernel
theorem d_Tb_now_52 : decode M_Tb_now.2.1 52 = .ok (.aload_n 0, 1) := by decide +kernel
theorem d_Tb_now_53 : decode M_Tb_now.2.1 53 = .ok (.getfield 29, 3) := by decide +kernel
theorem d_Tb_now_56 : decode M_Tb_now.2.1 56 = .ok (.getfield 158, 3) := by decide +kernel
theorem d_Tb_now_59 : decode M_Tb_now.2.1 59 = .ok (.ireturn, 1) := by decide +kernel
theorem d_Tb_now_60 : decode M_Tb_now.2.1 60 = .ok (.aload_n 0, 1) := by decide +kernel
theorem d_Tb_now_61 : decode M_Tb_now.2.1 61 = .ok (.getfield 29, 3) := by decide +kernel
theorem d_Tb_now_64 : decode M_Tb_now.2.1 64 = .ok (.getfield 166, 3) := by decide +kernel
theorem d_Tb_now_67 : decode M_Tb_now.2.1 67 = .ok (.ireturn, 1) := by decide +kernel
theorem d_Tb_now_68 : decode M_Tb_now.2.1 68 = .ok (.aload_n 0, 1) := by decide +kernel
theorem d_Tb_now_69 : decode M_Tb_now.2.1 69 = .ok (.getfield 29, 3) := by decide +kernel
theorem d_Tb_now_72 : decode M_Tb_now.2.1 72 = .ok (.getfield 194, 3) := by decide +kernel
theorem d_Tb_now_75 : decode M_Tb_now.2.1 75 = .ok (.ireturn, 1) := by decide +kernel
theorem d_Tb_now_76 : decode M_Tb_now.2.1 76 = .ok (.aload_n 0, 1) := by decide +kernel
theorem d_Tb_now_77 : decode M_Tb_now.2.1 77 = .ok (.getfield 29, 3) := by decide +kernel
theorem d_Tb_now_80 : decode M_Tb_now.2.1 80 = .ok (.getfield 197, 3) := by decide +kernel
theorem d_Tb_now_83 : decode M_Tb_now.2.1 83 = .ok (.ireturn, 1) := by decide +kernel
theorem d_Tb_now_84 : decode M_Tb_now.2.1 84 = .ok (.aload_n 0, 1) := by decide +kernel
theorem d_Tb_now_85 : decode M_Tb_now.2.1 85 = .ok (.getfield 29, 3) := by decide +kernel
theorem d_Tb_now_88 : decode M_Tb_now.2.1 88 = .ok (.getfield 200, 3) := by decide +kernel
theorem d_Tb_now_91 : decode M_Tb_now.2.1 91 = .ok (.ireturn, 1) := by decide +kernel
theorem d_Tb_now_92 : decode M_Tb_now.2.1 92 = .ok (.aload_n 0, 1) := by decide +kernel
theorem d_Tb_now_93 : decode M_Tb_now.2.1 93 = .ok (.getfield 19, 3) := by decide +kernel
theorem d_Tb_now_96 : decode M_Tb_now.2.1 96 = .ok (.aload_n 0, 1) := by decide +kernel
theorem d_Tb_now_97 : decode M_Tb_now.2.1 97 = .ok (.getfield 29, 3) := by decide +kernel
theorem d_Tb_now_100 : decode M_Tb_now.2.1 100 = .ok (.invokevirtual 154, 3) := by decide +kernel
theorem d_Tb_now_103 : decode M_Tb_now.2.1 103 = .ok (.ireturn, 1) := by decide +kernel
theorem d_Tb_now_104 : decode M_Tb_now.2.1 104 = .ok (.aload_n 0, 1) := by decide +kernel
theorem d_Tb_now_105 : decode M_Tb_now.2.1 105 = .ok (.getfield 19, 3) := by decide +kernel
theorem d_Tb_now_108 : decode M_Tb_now.2.1 108 = .ok (.aload_n 0, 1) := by decide +kernel
theorem d_Tb_now_109 : decode M_Tb_now.2.1 109 = .ok (.getfield 29, 3) := by decide +kernel
theorem d_Tb_now_112 : decode M_Tb_now.2.1 112 = .ok (.invokevirtual 203, 3) := by decide +kernel
theorem d_Tb_now_115 : decode M_Tb_now.2.1 115 = .ok (.ireturn, 1) := by decide +kernel
theorem d_Tb_now_116 : decode M_Tb_now.2.1 116 = .ok (.aload_n 0, 1) := by decide +kernel
theorem d_Tb_now_117 : decode M_Tb_now.2.1 117 = .ok (.getfield 29, 3) := by decide +kernel
theorem d_Tb_now_120 : decode M_Tb_now.2.1 120 = .ok (.getfield 138, 3) := by decide +kernel
theorem d_Tb_now_123 : decode M_Tb_now.2.1 123 = .ok (.ifCond .eq 7, 3) := by decide +kernel
theorem d_Tb_now_126 : decode M_Tb_now.2.1 126 = .ok (.iconst 1, 1) := by decide +kernel
theorem d_Tb_now_127 : decode M_Tb_now.2.1 127 = .ok (.goto 4, 3) := by decide +kernel
theorem d_Tb_now_130 : decode M_Tb_now.2.1 130 = .ok (.iconst 0, 1) := by decide +kernel
theorem d_Tb_now_131 : decode M_Tb_now.2.1 131 = .ok (.ireturn, 1) := by decide +kernel
theorem d_Tb_now_132 : decode M_Tb_now.2.1 132 = .ok (.aload_n 0, 1) := by decide +kernel
theorem d_Tb_now_133 : decode M_Tb_now.2.1 133 = .ok (.getfield 19, 3) := by decide +kernel
theorem d_Tb_now_136 : decode M_Tb_now.2.1 136 = .ok (.invokevirtual 206, 3) := by decide +kernel
theorem d_Tb_now_139 : decode M_Tb_now.2.1 139 = .ok (.ireturn, 1) := by decide +kernel
theorem d_Tb_now_140 : decode M_Tb_now.2.1 140 = .ok (.iconst (-1), 1) := by decide +kernel
theorem d_Tb_now_141 : decode M_Tb_now.2.1 141 = .ok (.ireturn, 1) := by decide +kernel
theorem d_Tb_after_0 : decode M_Tb_after.2.1 0 = .ok (.iload_n 1, 1) := by decide +kernel
theorem d_Tb_after_1 : decode M_Tb_after.2.1 1 = .ok (.iconst 0, 1) := by decide +kernel
theorem d_Tb_after_2 : decode M_Tb_after.2.1 2 = .ok (.bipush 30, 2) := by decide +kernel
theorem d_Tb_after_4 : decode M_Tb_after.2.1 4 = .ok (.invokestatic 87, 3) := by decide +kernel
theorem d_Tb_after_7 : decode M_Tb_after.2.1 7 = .ok (.ifCond .eq 12, 3) := by decide +kernel
theorem d_Tb_after_10 : decode M_Tb_after.2.1 10 = .ok (.iload_n 2, 1) := by decide +kernel
theorem d_Tb_after_11 : decode M_Tb_after.2.1 11 = .ok (.iconst 0, 1) := by decide +kernel
theorem d_Tb_after_12 : decode M_Tb_after.2.1 12 = .ok (.iconst 1, 1) := by decide +kernel
theorem d_Tb_after_13 : decode M_Tb_after.2.1 13 = .ok (.invokestatic 87, 3) := by decide +kernel
theorem d_Tb_after_16 : decode M_Tb_after.2.1 16 = .ok (.ifCond .ne 5, 3) := by decide +kernel
theorem d_Tb_after_19 : decode M_Tb_after.2.1 19 = .ok (.iconst (-1), 1) := by decide +kernel
theorem d_Tb_after_20 : decode M_Tb_after.2.1 20 = .ok (.ireturn, 1) := by decide +kernel
theorem d_Tb_after_21 : decode M_Tb_after.2.1 21 = .ok (.aload_n 0, 1) := by decide +kernel
theorem d_Tb_after_22 : decode M_Tb_after.2.1 22 = .ok (.getfield 33, 3) := by decide +kernel
theorem d_Tb_after_25 : decode M_Tb_after.2.1 25 = .ok (.aload_n 0, 1) := by decide +kernel
theorem d_Tb_after_26 : decode M_Tb_after.2.1 26 = .ok (.getfield 29, 3) := by decide +kernel
theorem d_Tb_after_29 : decode M_Tb_after.2.1 29 = .ok (.invokevirtual 209, 3) := by decide +kernel
theorem d_Tb_after_32 : decode M_Tb_after.2.1 32 = .ok (.aload_n 0, 1) := by decide +kernel
theorem d_Tb_after_33 : decode M_Tb_after.2.1 33 = .ok (.getfield 19, 3) := by decide +kernel
theorem d_Tb_after_36 : decode M_Tb_after.2.1 36 = .ok (.aload_n 0, 1) := by decide +kernel
theorem d_Tb_after_37 : decode M_Tb_after.2.1 37 = .ok (.getfield 33, 3) := by decide +kernel
theorem d_Tb_after_40 : decode M_Tb_after.2.1 40 = .ok (.iload_n 1, 1) := by decide +kernel
theorem d_Tb_after_41 : decode M_Tb_after.2.1 41 = .ok (.invokevirtual 162, 3) := by decide +kernel
theorem d_Tb_after_44 : decode M_Tb_after.2.1 44 = .ok (.iload_n 2, 1) := by decide +kernel
theorem d_Tb_after_45 : decode M_Tb_after.2.1 45 = .ok (.ifCond .ne 13, 3) := by decide +kernel
theorem d_Tb_after_48 : decode M_Tb_after.2.1 48 = .ok (.aload_n 0, 1) := by decide +kernel
theorem d_Tb_after_49 : decode M_Tb_after.2.1 49 = .ok (.getfield 33, 3) := by decide +kernel
theorem d_Tb_after_52 : decode M_Tb_after.2.1 52 = .ok (.getfield 166, 3) := by decide +kernel
theorem d_Tb_after_55 : decode M_Tb_after.2.1 55 = .ok (.goto 10, 3) := by decide +kernel
theorem d_Tb_after_58 : decode M_Tb_after.2.1 58 = .ok (.aload_n 0, 1) := by decide +kernel
theorem d_Tb_after_59 : decode M_Tb_after.2.1 59 = .ok (.getfield 33, 3) := by decide +kernel
theorem d_Tb_after_62 : decode M_Tb_after.2.1 62 = .ok (.getfield 194, 3) := by decide +kernel
theorem d_Tb_after_65 : decode M_Tb_after.2.1 65 = .ok (.ireturn, 1) := by decide +kernel
theorem d_Tb_down_0 : decode M_Tb_down.2.1 0 = .ok (.aload_n 0, 1) := by decide +kernel
theorem d_Tb_down_1 : decode M_Tb_down.2.1 1 = .ok (.getfield 33, 3) := by decide +kernel
theorem d_Tb_down_4 : decode M_Tb_down.2.1 4 = .ok (.aload_n 0, 1) := by decide +kernel
theorem d_Tb_down_5 : decode M_Tb_down.2.1 5 = .ok (.getfield 29, 3) := by decide +kernel
theorem d_Tb_down_8 : decode M_Tb_down.2.1 8 = .ok (.invokevirtual 209, 3) := by decide +kernel
theorem d_Tb_down_11 : decode M_Tb_down.2.1 11 = .ok (.iconst 1, 1) := by decide +kernel
theorem d_Tb_down_12 : decode M_Tb_down.2.1 12 = .ok (.istore_n 1, 1) := by decide +kernel
theorem d_Tb_down_13 : decode M_Tb_down.2.1 13 = .ok (.iload_n 1, 1) := by decide +kernel
theorem d_Tb_down_14 : decode M_Tb_down.2.1 14 = .ok (.bipush 60, 2) := by decide +kernel
theorem d_Tb_down_16 : decode M_Tb_down.2.1 16 = .ok (.if_icmp .gt 45, 3) := by decide +kernel
theorem d_Tb_down_19 : decode M_Tb_down.2.1 19 = .ok (.aload_n 0, 1) := by decide +kernel
theorem d_Tb_down_20 : decode M_Tb_down.2.1 20 = .ok (.getfield 19, 3) := by decide +kernel
theorem d_Tb_down_23 : decode M_Tb_down.2.1 23 = .ok (.aload_n 0, 1) := by decide +kernel
theorem d_Tb_down_24 : decode M_Tb_down.2.1 24 = .ok (.getfield 33, 3) := by decide +kernel
theorem d_Tb_down_27 : decode M_Tb_down.2.1 27 = .ok (.invokevirtual 211, 3) := by decide +kernel
theorem d_Tb_down_30 : decode M_Tb_down.2.1 30 = .ok (.aload_n 0, 1) := by decide +kernel
theorem d_Tb_down_31 : decode M_Tb_down.2.1 31 = .ok (.getfield 33, 3) := by decide +kernel
theorem d_Tb_down_34 : decode M_Tb_down.2.1 34 = .ok (.getfield 138, 3) := by decide +kernel
theorem d_Tb_down_37 : decode M_Tb_down.2.1 37 = .ok (.ifCond .eq 6, 3) := by decide +kernel
theorem d_Tb_down_40 : decode M_Tb_down.2.1 40 = .ok (.bipush (-9), 2) := by decide +kernel
theorem d_Tb_down_42 : decode M_Tb_down.2.1 42 = .ok (.ireturn, 1) := by decide +kernel
theorem d_Tb_down_43 : decode M_Tb_down.2.1 43 = .ok (.aload_n 0, 1) := by decide +kernel
theorem d_Tb_down_44 : decode M_Tb_down.2.1 44 = .ok (.getfield 33, 3) := by decide +kernel
theorem d_Tb_down_47 : decode M_Tb_down.2.1 47 = .ok (.getfield 194, 3) := by decide +kernel
theorem d_Tb_down_50 : decode M_Tb_down.2.1 50 = .ok (.ifCond .ne 5, 3) := by decide +kernel
theorem d_Tb_down_53 : decode M_Tb_down.2.1 53 = .ok (.iload_n 1, 1) := by decide +kernel
theorem d_Tb_down_54 : decode M_Tb_down.2.1 54 = .ok (.ireturn, 1) := by decide +kernel
theorem d_Tb_down_55 : decode M_Tb_down.2.1 55 = .ok (.iinc 1 1, 3) := by decide +kernel
theorem d_Tb_down_58 : decode M_Tb_down.2.1 58 = .ok (.goto (-45), 3) := by decide +kernel
theorem d_Tb_down_61 : decode M_Tb_down.2.1 61 = .ok (.bipush (-9), 2) := by decide +kernel
theorem d_Tb_down_63 : decode M_Tb_down.2.1 63 = .ok (.ireturn, 1) := by decide +kernel
theorem d_Tb_best_0 : decode M_Tb_best.2.1 0 = .ok (.iload_n 1, 1) := by decide +kernel
theorem d_Tb_best_1 : decode M_Tb_best.2.1 1 = .ok (.iconst 0, 1) := by decide +kernel
theorem d_Tb_best_2 : decode M_Tb_best.2.1 2 = .ok (.iconst 4, 1) := by decide +kernel
theorem d_Tb_best_3 : decode M_Tb_best.2.1 3 = .ok (.invokestatic 87, 3) := by decide +kernel
theorem d_Tb_best_6 : decode M_Tb_best.2.1 6 = .ok (.ifCond .eq 21, 3) := by decide +kernel
theorem d_Tb_best_9 : decode M_Tb_best.2.1 9 = .ok (.iload_n 2, 1) := by decide +kernel
theorem d_Tb_best_10 : decode M_Tb_best.2.1 10 = .ok (.iconst 0, 1) := by decide +kernel
theorem d_Tb_best_11 : decode M_Tb_best.2.1 11 = .ok (.iconst 1, 1) := by decide +kernel
theorem d_Tb_best_12 : decode M_Tb_best.2.1 12 = .ok (.invokestatic 87, 3) := by decide +kernel
theorem d_Tb_best_15 : decode M_Tb_best.2.1 15 = .ok (.ifCond .eq 12, 3) := by decide +kernel
theorem d_Tb_best_18 : decode M_Tb_best.2.1 18 = .ok (.iload_n 3, 1) := by decide +kernel
theorem d_Tb_best_19 : decode M_Tb_best.2.1 19 = .ok (.iconst (-1), 1) := by decide +kernel
theorem d_Tb_best_20 : decode M_Tb_best.2.1 20 = .ok (.iconst 3, 1) := by decide +kernel
theorem d_Tb_best_21 : decode M_Tb_best.2.1 21 = .ok (.invokestatic 87, 3) := by decide +kernel
theorem d_Tb_best_24 : decode M_Tb_best.2.1 24 = .ok (.ifCond .ne 5, 3) := by decide +kernel
theorem d_Tb_best_27 : decode M_Tb_best.2.1 27 = .ok (.iconst (-1), 1) := by decide +kernel
theorem d_Tb_best_28 : decode M_Tb_best.2.1 28 = .ok (.ireturn, 1) := by decide +kernel
theorem d_Tb_best_29 : decode M_Tb_best.2.1 29 = .ok (.aload_n 0, 1) := by decide +kernel
theorem d_Tb_best_30 : decode M_Tb_best.2.1 30 = .ok (.getfield 54, 3) := by decide +kernel
theorem d_Tb_best_33 : decode M_Tb_best.2.1 33 = .ok (.aload_n 0, 1) := by decide +kernel
theorem d_Tb_best_34 : decode M_Tb_best.2.1 34 = .ok (.getfield 29, 3) := by decide +kernel
theorem d_Tb_best_37 : decode M_Tb_best.2.1 37 = .ok (.iload_n 1, 1) := by decide +kernel
theorem d_Tb_best_38 : decode M_Tb_best.2.1 38 = .ok (.iload_n 2, 1) := by decide +kernel
theorem d_Tb_best_39 : decode M_Tb_best.2.1 39 = .ok (.invokevirtual 214, 3) := by decide +kernel
theorem d_Tb_best_42 : decode M_Tb_best.2.1 42 = .ok (.iload_n 3, 1) := by decide +kernel
theorem d_Tb_best_43 : decode M_Tb_best.2.1 43 = .ok (.iconst (-1), 1) := by decide +kernel
theorem d_Tb_best_44 : decode M_Tb_best.2.1 44 = .ok (.if_icmp .ne 11, 3) := by decide +kernel
theorem d_Tb_best_47 : decode M_Tb_best.2.1 47 = .ok (.aload_n 0, 1) := by decide +kernel
theorem d_Tb_best_48 : decode M_Tb_best.2.1 48 = .ok (.getfield 54, 3) := by decide +kernel
theorem d_Tb_best_51 : decode M_Tb_best.2.1 51 = .ok (.getfield 218, 3) := by decide +kernel
theorem d_Tb_best_54 : decode M_Tb_best.2.1 54 = .ok (.ireturn, 1) := by decide +kernel
theorem d_Tb_best_55 : decode M_Tb_best.2.1 55 = .ok (.iload_n 3, 1) := by decide +kernel
theorem d_Tb_best_56 : decode M_Tb_best.2.1 56 = .ok (.iload_n 1, 1) := by decide +kernel
theorem d_Tb_best_57 : decode M_Tb_best.2.1 57 = .ok (.if_icmp .ge 15, 3) := by decide +kernel
theorem d_Tb_best_60 : decode M_Tb_best.2.1 60 = .ok (.aload_n 0, 1) := by decide +kernel
theorem d_Tb_best_61 : decode M_Tb_best.2.1 61 = .ok (.getfield 54, 3) := by decide +kernel
theorem d_Tb_best_64 : decode M_Tb_best.2.1 64 = .ok (.getfield 221, 3) := by decide +kernel
theorem d_Tb_best_67 : decode M_Tb_best.2.1 67 = .ok (.iload_n 3, 1) := by decide +kernel
theorem d_Tb_best_68 : decode M_Tb_best.2.1 68 = .ok (.iaload, 1) := by decide +kernel
theorem d_Tb_best_69 : decode M_Tb_best.2.1 69 = .ok (.goto 5, 3) := by decide +kernel
theorem d_Tb_best_72 : decode M_Tb_best.2.1 72 = .ok (.bipush (-9), 2) := by decide +kernel
theorem d_Tb_best_74 : decode M_Tb_best.2.1 74 = .ok (.ireturn, 1) := by decide +kernel
theorem d_Tb_own_0 : decode M_Tb_own.2.1 0 = .ok (.iload_n 1, 1) := by decide +kernel
theorem d_Tb_own_1 : decode M_Tb_own.2.1 1 = .ok (.iconst (-1), 1) := by decide +kernel
theorem d_Tb_own_2 : decode M_Tb_own.2.1 2 = .ok (.if_icmp .eq 16, 3) := by decide +kernel
theorem d_Tb_own_5 : decode M_Tb_own.2.1 5 = .ok (.aload_n 0, 1) := by decide +kernel
theorem d_Tb_own_6 : decode M_Tb_own.2.1 6 = .ok (.getfield 19, 3) := by decide +kernel
theorem d_Tb_own_9 : decode M_Tb_own.2.1 9 = .ok (.iload_n 1, 1) := by decide +kernel
theorem d_Tb_own_10 : decode M_Tb_own.2.1 10 = .ok (.invokevirtual 110, 3) := by decide +kernel
theorem d_Tb_own_13 : decode M_Tb_own.2.1 13 = .ok (.ifCond .ne 5, 3) := by decide +kernel
theorem d_Tb_own_16 : decode M_Tb_own.2.1 16 = .ok (.iconst (-1), 1) := by decide +kernel
theorem d_Tb_own_17 : decode M_Tb_own.2.1 17 = .ok (.ireturn, 1) := by decide +kernel
theorem d_Tb_own_18 : decode M_Tb_own.2.1 18 = .ok (.aload_n 0, 1) := by decide +kernel
theorem d_Tb_own_19 : decode M_Tb_own.2.1 19 = .ok (.getfield 19, 3) := by decide +kernel
theorem d_Tb_own_22 : decode M_Tb_own.2.1 22 = .ok (.invokevirtual 224, 3) := by decide +kernel
theorem d_Tb_own_25 : decode M_Tb_own.2.1 25 = .ok (.istore_n 2, 1) := by decide +kernel
theorem d_Tb_own_26 : decode M_Tb_own.2.1 26 = .ok (.iload_n 1, 1) := by decide +kernel
theorem d_Tb_own_27 : decode M_Tb_own.2.1 27 = .ok (.iconst (-1), 1) := by decide +kernel
theorem d_Tb_own_28 : decode M_Tb_own.2.1 28 = .ok (.if_icmp .ne 14, 3) := by decide +kernel
theorem d_Tb_own_31 : decode M_Tb_own.2.1 31 = .ok (.aload_n 0, 1) := by decide +kernel
theorem d_Tb_own_32 : decode M_Tb_own.2.1 32 = .ok (.getfield 19, 3) := by decide +kernel
theorem d_Tb_own_35 : decode M_Tb_own.2.1 35 = .ok (.iload_n 2, 1) := by decide +kernel
theorem d_Tb_own_36 : decode M_Tb_own.2.1 36 = .ok (.invokevirtual 227, 3) := by decide +kernel
theorem d_Tb_own_39 : decode M_Tb_own.2.1 39 = .ok (.goto 12, 3) := by decide +kernel
theorem d_Tb_own_42 : decode M_Tb_own.2.1 42 = .ok (.aload_n 0, 1) := by decide +kernel
theorem d_Tb_own_43 : decode M_Tb_own.2.1 43 = .ok (.getfield 19, 3) := by decide +kernel
theorem d_Tb_own_46 : decode M_Tb_own.2.1 46 = .ok (.iload_n 2, 1) := by decide +kernel
theorem d_Tb_own_47 : decode M_Tb_own.2.1 47 = .ok (.iload_n 1, 1) := by decide +kernel
theorem d_Tb_own_48 : decode M_Tb_own.2.1 48 = .ok (.invokevirtual 230, 3) := by decide +kernel
theorem d_Tb_own_51 : decode M_Tb_own.2.1 51 = .ok (.ireturn, 1) := by decide +kernel
theorem d_Tb_odds_0 : decode M_Tb_odds.2.1 0 = .ok (.iload_n 1, 1) := by decide +kernel
theorem d_Tb_odds_1 : decode M_Tb_odds.2.1 1 = .ok (.iconst 1, 1) := by decide +kernel
theorem d_Tb_odds_2 : decode M_Tb_odds.2.1 2 = .ok (.bipush 9, 2) := by decide +kernel
theorem d_Tb_odds_4 : decode M_Tb_odds.2.1 4 = .ok (.invokestatic 87, 3) := by decide +kernel
theorem d_Tb_odds_7 : decode M_Tb_odds.2.1 7 = .ok (.ifCond .eq 23, 3) := by decide +kernel
theorem d_Tb_odds_10 : decode M_Tb_odds.2.1 10 = .ok (.iload_n 2, 1) := by decide +kernel
theorem d_Tb_odds_11 : decode M_Tb_odds.2.1 11 = .ok (.iconst 0, 1) := by decide +kernel
theorem d_Tb_odds_12 : decode M_Tb_odds.2.1 12 = .ok (.bipush 40, 2) := by decide +kernel
theorem d_Tb_odds_14 : decode M_Tb_odds.2.1 14 = .ok (.invokestatic 87, 3) := by decide +kernel
theorem d_Tb_odds_17 : decode M_Tb_odds.2.1 17 = .ok (.ifCond .eq 13, 3) := by decide +kernel
theorem d_Tb_odds_20 : decode M_Tb_odds.2.1 20 = .ok (.iload_n 3, 1) := by decide +kernel
theorem d_Tb_odds_21 : decode M_Tb_odds.2.1 21 = .ok (.iconst 0, 1) := by decide +kernel
theorem d_Tb_odds_22 : decode M_Tb_odds.2.1 22 = .ok (.bipush 6, 2) := by decide +kernel
theorem d_Tb_odds_24 : decode M_Tb_odds.2.1 24 = .ok (.invokestatic 87, 3) := by decide +kernel
theorem d_Tb_odds_27 : decode M_Tb_odds.2.1 27 = .ok (.ifCond .ne 5, 3) := by decide +kernel
theorem d_Tb_odds_30 : decode M_Tb_odds.2.1 30 = .ok (.iconst (-1), 1) := by decide +kernel
theorem d_Tb_odds_31 : decode M_Tb_odds.2.1 31 = .ok (.ireturn, 1) := by decide +kernel
theorem d_Tb_odds_32 : decode M_Tb_odds.2.1 32 = .ok (.iload 4, 2) := by decide +kernel
theorem d_Tb_odds_34 : decode M_Tb_odds.2.1 34 = .ok (.iconst 0, 1) := by decide +kernel
theorem d_Tb_odds_35 : decode M_Tb_odds.2.1 35 = .ok (.bipush 10, 2) := by decide +kernel
theorem d_Tb_odds_37 : decode M_Tb_odds.2.1 37 = .ok (.invokestatic 87, 3) := by decide +kernel
theorem d_Tb_odds_40 : decode M_Tb_odds.2.1 40 = .ok (.ifCond .eq 13, 3) := by decide +kernel
theorem d_Tb_odds_43 : decode M_Tb_odds.2.1 43 = .ok (.iload 5, 2) := by decide +kernel
theorem d_Tb_odds_45 : decode M_Tb_odds.2.1 45 = .ok (.iconst 0, 1) := by decide +kernel
theorem d_Tb_odds_46 : decode M_Tb_odds.2.1 46 = .ok (.iconst 1, 1) := by decide +kernel
theorem d_Tb_odds_47 : decode M_Tb_odds.2.1 47 = .ok (.invokestatic 87, 3) := by decide +kernel
theorem d_Tb_odds_50 : decode M_Tb_odds.2.1 50 = .ok (.ifCond .ne 5, 3) := by decide +kernel
theorem d_Tb_odds_53 : decode M_Tb_odds.2.1 53 = .ok (.iconst (-1), 1) := by decide +kernel
theorem d_Tb_odds_54 : decode M_Tb_odds.2.1 54 = .ok (.ireturn, 1) := by decide +kernel
theorem d_Tb_odds_55 : decode M_Tb_odds.2.1 55 = .ok (.aload_n 0, 1) := by decide +kernel
theorem d_Tb_odds_56 : decode M_Tb_odds.2.1 56 = .ok (.getfield 61, 3) := by decide +kernel
theorem d_Tb_odds_59 : decode M_Tb_odds.2.1 59 = .ok (.aload_n 0, 1) := by decide +kernel
theorem d_Tb_odds_60 : decode M_Tb_odds.2.1 60 = .ok (.getfield 29, 3) := by decide +kernel
theorem d_Tb_odds_63 : decode M_Tb_odds.2.1 63 = .ok (.getfield 166, 3) := by decide +kernel
theorem d_Tb_odds_66 : decode M_Tb_odds.2.1 66 = .ok (.invokevirtual 234, 3) := by decide +kernel
theorem d_Tb_odds_69 : decode M_Tb_odds.2.1 69 = .ok (.iconst 0, 1) := by decide +kernel
theorem d_Tb_odds_70 : decode M_Tb_odds.2.1 70 = .ok (.istore 6, 2) := by decide +kernel
theorem d_Tb_odds_72 : decode M_Tb_odds.2.1 72 = .ok (.iload 6, 2) := by decide +kernel
theorem d_Tb_odds_74 : decode M_Tb_odds.2.1 74 = .ok (.iload_n 3, 1) := by decide +kernel
theorem d_Tb_odds_75 : decode M_Tb_odds.2.1 75 = .ok (.if_icmp .ge 26, 3) := by decide +kernel
theorem d_Tb_odds_78 : decode M_Tb_odds.2.1 78 = .ok (.aload_n 0, 1) := by decide +kernel
theorem d_Tb_odds_79 : decode M_Tb_odds.2.1 79 = .ok (.getfield 61, 3) := by decide +kernel
theorem d_Tb_odds_82 : decode M_Tb_odds.2.1 82 = .ok (.aload_n 0, 1) := by decide +kernel
theorem d_Tb_odds_83 : decode M_Tb_odds.2.1 83 = .ok (.getfield 19, 3) := by decide +kernel
theorem d_Tb_odds_86 : decode M_Tb_odds.2.1 86 = .ok (.iload_n 1, 1) := by decide +kernel
theorem d_Tb_odds_87 : decode M_Tb_odds.2.1 87 = .ok (.invokevirtual 106, 3) := by decide +kernel
theorem d_Tb_odds_90 : decode M_Tb_odds.2.1 90 = .ok (.iload 4, 2) := by decide +kernel
theorem d_Tb_odds_92 : decode M_Tb_odds.2.1 92 = .ok (.invokevirtual 237, 3) := by decide +kernel
theorem d_Tb_odds_95 : decode M_Tb_odds.2.1 95 = .ok (.iinc 6 1, 3) := by decide +kernel
theorem d_Tb_odds_98 : decode M_Tb_odds.2.1 98 = .ok (.goto (-26), 3) := by decide +kernel
theorem d_Tb_odds_101 : decode M_Tb_odds.2.1 101 = .ok (.iload 5, 2) := by decide +kernel
theorem d_Tb_odds_103 : decode M_Tb_odds.2.1 103 = .ok (.ifCond .ne 14, 3) := by decide +kernel
theorem d_Tb_odds_106 : decode M_Tb_odds.2.1 106 = .ok (.aload_n 0, 1) := by decide +kernel
theorem d_Tb_odds_107 : decode M_Tb_odds.2.1 107 = .ok (.getfield 61, 3) := by decide +kernel
theorem d_Tb_odds_110 : decode M_Tb_odds.2.1 110 = .ok (.iload_n 2, 1) := by decide +kernel
theorem d_Tb_odds_111 : decode M_Tb_odds.2.1 111 = .ok (.invokevirtual 240, 3) := by decide +kernel
theorem d_Tb_odds_114 : decode M_Tb_odds.2.1 114 = .ok (.goto 11, 3) := by decide +kernel
theorem d_Tb_odds_117 : decode M_Tb_odds.2.1 117 = .ok (.aload_n 0, 1) := by decide +kernel
theorem d_Tb_odds_118 : decode M_Tb_odds.2.1 118 = .ok (.getfield 61, 3) := by decide +kernel
theorem d_Tb_odds_121 : decode M_Tb_odds.2.1 121 = .ok (.iload_n 2, 1) := by decide +kernel
theorem d_Tb_odds_122 : decode M_Tb_odds.2.1 122 = .ok (.invokevirtual 243, 3) := by decide +kernel
theorem d_Tb_odds_125 : decode M_Tb_odds.2.1 125 = .ok (.ireturn, 1) := by decide +kernel
theorem d_Tb_saw_0 : decode M_Tb_saw.2.1 0 = .ok (.aload_n 0, 1) := by decide +kernel
theorem d_Tb_saw_1 : decode M_Tb_saw.2.1 1 = .ok (.getfield 19, 3) := by decide +kernel
theorem d_Tb_saw_4 : decode M_Tb_saw.2.1 4 = .ok (.iload_n 1, 1) := by decide +kernel
theorem d_Tb_saw_5 : decode M_Tb_saw.2.1 5 = .ok (.invokevirtual 110, 3) := by decide +kernel
theorem d_Tb_saw_8 : decode M_Tb_saw.2.1 8 = .ok (.ifCond .eq 23, 3) := by decide +kernel
theorem d_Tb_saw_11 : decode M_Tb_saw.2.1 11 = .ok (.iload_n 2, 1) := by decide +kernel
theorem d_Tb_saw_12 : decode M_Tb_saw.2.1 12 = .ok (.iconst 1, 1) := by decide +kernel
theorem d_Tb_saw_13 : decode M_Tb_saw.2.1 13 = .ok (.bipush 9, 2) := by decide +kernel
theorem d_Tb_saw_15 : decode M_Tb_saw.2.1 15 = .ok (.invokestatic 87, 3) := by decide +kernel
theorem d_Tb_saw_18 : decode M_Tb_saw.2.1 18 = .ok (.ifCond .eq 13, 3) := by decide +kernel
theorem d_Tb_saw_21 : decode M_Tb_saw.2.1 21 = .ok (.iload_n 3, 1) := by decide +kernel
theorem d_Tb_saw_22 : decode M_Tb_saw.2.1 22 = .ok (.iconst 0, 1) := by decide +kernel
theorem d_Tb_saw_23 : decode M_Tb_saw.2.1 23 = .ok (.bipush 9, 2) := by decide +kernel
theorem d_Tb_saw_25 : decode M_Tb_saw.2.1 25 = .ok (.invokestatic 87, 3) := by decide +kernel
theorem d_Tb_saw_28 : decode M_Tb_saw.2.1 28 = .ok (.ifCond .ne 5, 3) := by decide +kernel
theorem d_Tb_saw_31 : decode M_Tb_saw.2.1 31 = .ok (.iconst (-1), 1) := by decide +kernel
theorem d_Tb_saw_32 : decode M_Tb_saw.2.1 32 = .ok (.ireturn, 1) := by decide +kernel
theorem d_Tb_saw_33 : decode M_Tb_saw.2.1 33 = .ok (.aload_n 0, 1) := by decide +kernel
theorem d_Tb_saw_34 : decode M_Tb_saw.2.1 34 = .ok (.getfield 68, 3) := by decide +kernel
theorem d_Tb_saw_37 : decode M_Tb_saw.2.1 37 = .ok (.iload_n 1, 1) := by decide +kernel
theorem d_Tb_saw_38 : decode M_Tb_saw.2.1 38 = .ok (.iload_n 2, 1) := by decide +kernel
theorem d_Tb_saw_39 : decode M_Tb_saw.2.1 39 = .ok (.iload_n 3, 1) := by decide +kernel
theorem d_Tb_saw_40 : decode M_Tb_saw.2.1 40 = .ok (.invokevirtual 246, 3) := by decide +kernel
theorem d_Tb_saw_43 : decode M_Tb_saw.2.1 43 = .ok (.ireturn, 1) := by decide +kernel
theorem d_Tb_which_0 : decode M_Tb_which.2.1 0 = .ok (.aload_n 0, 1) := by decide +kernel
theorem d_Tb_which_1 : decode M_Tb_which.2.1 1 = .ok (.getfield 19, 3) := by decide +kernel
theorem d_Tb_which_4 : decode M_Tb_which.2.1 4 = .ok (.iload_n 1, 1) := by decide +kernel
theorem d_Tb_which_5 : decode M_Tb_which.2.1 5 = .ok (.invokevirtual 110, 3) := by decide +kernel
theorem d_Tb_which_8 : decode M_Tb_which.2.1 8 = .ok (.ifCond .eq 11, 3) := by decide +kernel
theorem d_Tb_which_11 : decode M_Tb_which.2.1 11 = .ok (.aload_n 0, 1) := by decide +kernel
theorem d_Tb_which_12 : decode M_Tb_which.2.1 12 = .ok (.iload_n 1, 1) := by decide +kernel
theorem d_Tb_which_13 : decode M_Tb_which.2.1 13 = .ok (.invokevirtual 249, 3) := by decide +kernel
theorem d_Tb_which_16 : decode M_Tb_which.2.1 16 = .ok (.goto 4, 3) := by decide +kernel
theorem d_Tb_which_19 : decode M_Tb_which.2.1 19 = .ok (.iconst (-1), 1) := by decide +kernel
theorem d_Tb_which_20 : decode M_Tb_which.2.1 20 = .ok (.ireturn, 1) := by decide +kernel
theorem d_Tb_look_0 : decode M_Tb_look.2.1 0 = .ok (.aload_n 0, 1) := by decide +kernel
theorem d_Tb_look_1 : decode M_Tb_look.2.1 1 = .ok (.getfield 19, 3) := by decide +kernel
theorem d_Tb_look_4 : decode M_Tb_look.2.1 4 = .ok (.iload_n 1, 1) := by decide +kernel
theorem d_Tb_look_5 : decode M_Tb_look.2.1 5 = .ok (.invokevirtual 110, 3) := by decide +kernel
theorem d_Tb_look_8 : decode M_Tb_look.2.1 8 = .ok (.ifCond .ne 5, 3) := by decide +kernel
theorem d_Tb_look_11 : decode M_Tb_look.2.1 11 = .ok (.iconst (-1), 1) := by decide +kernel
theorem d_Tb_look_12 : decode M_Tb_look.2.1 12 = .ok (.ireturn, 1) := by decide +kernel
theorem d_Tb_look_13 : decode M_Tb_look.2.1 13 = .ok (.aload_n 0, 1) := by decide +kernel
theorem d_Tb_look_14 : decode M_Tb_look.2.1 14 = .ok (.iload_n 1, 1) := by decide +kernel
theorem d_Tb_look_15 : decode M_Tb_look.2.1 15 = .ok (.invokevirtual 249, 3) := by decide +kernel
theorem d_Tb_look_18 : decode M_Tb_look.2.1 18 = .ok (.istore_n 2, 1) := by decide +kernel
theorem d_Tb_look_19 : decode M_Tb_look.2.1 19 = .ok (.iload_n 2, 1) := by decide +kernel
theorem d_Tb_look_20 : decode M_Tb_look.2.1 20 = .ok (.ifCond .ne 6, 3) := by decide +kernel
theorem d_Tb_look_23 : decode M_Tb_look.2.1 23 = .ok (.bipush (-9), 2) := by decide +kernel
theorem d_Tb_look_25 : decode M_Tb_look.2.1 25 = .ok (.ireturn, 1) := by decide +kernel
theorem d_Tb_look_26 : decode M_Tb_look.2.1 26 = .ok (.iconst 1, 1) := by decide +kernel
theorem d_Tb_look_27 : decode M_Tb_look.2.1 27 = .ok (.istore_n 3, 1) := by decide +kernel
theorem d_Tb_look_28 : decode M_Tb_look.2.1 28 = .ok (.aload_n 0, 1) := by decide +kernel
theorem d_Tb_look_29 : decode M_Tb_look.2.1 29 = .ok (.iload_n 1, 1) := by decide +kernel
theorem d_Tb_look_30 : decode M_Tb_look.2.1 30 = .ok (.iload_n 2, 1) := by decide +kernel
theorem d_Tb_look_31 : decode M_Tb_look.2.1 31 = .ok (.iconst 1, 1) := by decide +kernel
theorem d_Tb_look_32 : decode M_Tb_look.2.1 32 = .ok (.invokevirtual 252, 3) := by decide +kernel
theorem d_Tb_look_35 : decode M_Tb_look.2.1 35 = .ok (.istore 4, 2) := by decide +kernel
theorem d_Tb_look_37 : decode M_Tb_look.2.1 37 = .ok (.iconst 2, 1) := by decide +kernel
theorem d_Tb_look_38 : decode M_Tb_look.2.1 38 = .ok (.istore 5, 2) := by decide +kernel
theorem d_Tb_look_40 : decode M_Tb_look.2.1 40 = .ok (.iload 5, 2) := by decide +kernel
theorem d_Tb_look_42 : decode M_Tb_look.2.1 42 = .ok (.bipush 9, 2) := by decide +kernel
theorem d_Tb_look_44 : decode M_Tb_look.2.1 44 = .ok (.if_icmp .gt 33, 3) := by decide +kernel
theorem d_Tb_look_47 : decode M_Tb_look.2.1 47 = .ok (.aload_n 0, 1) := by decide +kernel
theorem d_Tb_look_48 : decode M_Tb_look.2.1 48 = .ok (.iload_n 1, 1) := by decide +kernel
theorem d_Tb_look_49 : decode M_Tb_look.2.1 49 = .ok (.iload_n 2, 1) := by decide +kernel
theorem d_Tb_look_50 : decode M_Tb_look.2.1 50 = .ok (.iload 5, 2) := by decide +kernel
theorem d_Tb_look_52 : decode M_Tb_look.2.1 52 = .ok (.invokevirtual 252, 3) := by decide +kernel
theorem d_Tb_look_55 : decode M_Tb_look.2.1 55 = .ok (.istore 6, 2) := by decide +kernel
theorem d_Tb_look_57 : decode M_Tb_look.2.1 57 = .ok (.iload 6, 2) := by decide +kernel
theorem d_Tb_look_59 : decode M_Tb_look.2.1 59 = .ok (.iload 4, 2) := by decide +kernel
theorem d_Tb_look_61 : decode M_Tb_look.2.1 61 = .ok (.if_icmp .ge 10, 3) := by decide +kernel
theorem d_Tb_look_64 : decode M_Tb_look.2.1 64 = .ok (.iload 6, 2) := by decide +kernel
theorem d_Tb_look_66 : decode M_Tb_look.2.1 66 = .ok (.istore 4, 2) := by decide +kernel
theorem d_Tb_look_68 : decode M_Tb_look.2.1 68 = .ok (.iload 5, 2) := by decide +kernel
theorem d_Tb_look_70 : decode M_Tb_look.2.1 70 = .ok (.istore_n 3, 1) := by decide +kernel
theorem d_Tb_look_71 : decode M_Tb_look.2.1 71 = .ok (.iinc 5 1, 3) := by decide +kernel
theorem d_Tb_look_74 : decode M_Tb_look.2.1 74 = .ok (.goto (-34), 3) := by decide +kernel
theorem d_Tb_look_77 : decode M_Tb_look.2.1 77 = .ok (.iload_n 3, 1) := by decide +kernel
theorem d_Tb_look_78 : decode M_Tb_look.2.1 78 = .ok (.ireturn, 1) := by decide +kernel
theorem d_Tb_hears_0 : decode M_Tb_hears.2.1 0 = .ok (.iload_n 1, 1) := by decide +kernel
theorem d_Tb_hears_1 : decode M_Tb_hears.2.1 1 = .ok (.iconst 0, 1) := by decide +kernel
theorem d_Tb_hears_2 : decode M_Tb_hears.2.1 2 = .ok (.bipush 9, 2) := by decide +kernel
theorem d_Tb_hears_4 : decode M_Tb_hears.2.1 4 = .ok (.invokestatic 87, 3) := by decide +kernel
theorem d_Tb_hears_7 : decode M_Tb_hears.2.1 7 = .ok (.ifCond .eq 13, 3) := by decide +kernel
theorem d_Tb_hears_10 : decode M_Tb_hears.2.1 10 = .ok (.iload_n 2, 1) := by decide +kernel
theorem d_Tb_hears_11 : decode M_Tb_hears.2.1 11 = .ok (.iconst 0, 1) := by decide +kernel
theorem d_Tb_hears_12 : decode M_Tb_hears.2.1 12 = .ok (.bipush 30, 2) := by decide +kernel
theorem d_Tb_hears_14 : decode M_Tb_hears.2.1 14 = .ok (.invokestatic 87, 3) := by decide +kernel
theorem d_Tb_hears_17 : decode M_Tb_hears.2.1 17 = .ok (.ifCond .ne 5, 3) := by decide +kernel
theorem d_Tb_hears_20 : decode M_Tb_hears.2.1 20 = .ok (.iconst (-1), 1) := by decide +kernel
theorem d_Tb_hears_21 : decode M_Tb_hears.2.1 21 = .ok (.ireturn, 1) := by decide +kernel
theorem d_Tb_hears_22 : decode M_Tb_hears.2.1 22 = .ok (.aload_n 0, 1) := by decide +kernel
theorem d_Tb_hears_23 : decode M_Tb_hears.2.1 23 = .ok (.getfield 72, 3) := by decide +kernel
theorem d_Tb_hears_26 : decode M_Tb_hears.2.1 26 = .ok (.bipush (-9), 2) := by decide +kernel
theorem d_Tb_hears_28 : decode M_Tb_hears.2.1 28 = .ok (.iload_n 1, 1) := by decide +kernel
theorem d_Tb_hears_29 : decode M_Tb_hears.2.1 29 = .ok (.iload_n 2, 1) := by decide +kernel
theorem d_Tb_hears_30 : decode M_Tb_hears.2.1 30 = .ok (.invokevirtual 246, 3) := by decide +kernel
theorem d_Tb_hears_33 : decode M_Tb_hears.2.1 33 = .ok (.ireturn, 1) := by decide +kernel
theorem d_Tb_laws_0 : decode M_Tb_laws.2.1 0 = .ok (.iload_n 1, 1) := by decide +kernel
theorem d_Tb_laws_1 : decode M_Tb_laws.2.1 1 = .ok (.iconst 0, 1) := by decide +kernel
theorem d_Tb_laws_2 : decode M_Tb_laws.2.1 2 = .ok (.iconst 1, 1) := by decide +kernel
theorem d_Tb_laws_3 : decode M_Tb_laws.2.1 3 = .ok (.invokestatic 87, 3) := by decide +kernel
theorem d_Tb_laws_6 : decode M_Tb_laws.2.1 6 = .ok (.ifCond .ne 5, 3) := by decide +kernel
theorem d_Tb_laws_9 : decode M_Tb_laws.2.1 9 = .ok (.iconst (-1), 1) := by decide +kernel
theorem d_Tb_laws_10 : decode M_Tb_laws.2.1 10 = .ok (.ireturn, 1) := by decide +kernel
theorem d_Tb_laws_11 : decode M_Tb_laws.2.1 11 = .ok (.iconst 0, 1) := by decide +kernel
theorem d_Tb_laws_12 : decode M_Tb_laws.2.1 12 = .ok (.istore_n 2, 1) := by decide +kernel
theorem d_Tb_laws_13 : decode M_Tb_laws.2.1 13 = .ok (.bipush (-9), 2) := by decide +kernel
theorem d_Tb_laws_15 : decode M_Tb_laws.2.1 15 = .ok (.istore_n 3, 1) := by decide +kernel
theorem d_Tb_laws_16 : decode M_Tb_laws.2.1 16 = .ok (.iconst 1, 1) := by decide +kernel
theorem d_Tb_laws_17 : decode M_Tb_laws.2.1 17 = .ok (.istore 4, 2) := by decide +kernel
theorem d_Tb_laws_19 : decode M_Tb_laws.2.1 19 = .ok (.iload 4, 2) := by decide +kernel
theorem d_Tb_laws_21 : decode M_Tb_laws.2.1 21 = .ok (.bipush 30, 2) := by decide +kernel
theorem d_Tb_laws_23 : decode M_Tb_laws.2.1 23 = .ok (.if_icmp .gt 57, 3) := by decide +kernel
theorem d_Tb_laws_26 : decode M_Tb_laws.2.1 26 = .ok (.iconst 0, 1) := by decide +kernel
theorem d_Tb_laws_27 : decode M_Tb_laws.2.1 27 = .ok (.istore 5, 2) := by decide +kernel
theorem d_Tb_laws_29 : decode M_Tb_laws.2.1 29 = .ok (.iload 5, 2) := by decide +kernel
theorem d_Tb_laws_31 : decode M_Tb_laws.2.1 31 = .ok (.iconst 5, 1) := by decide +kernel
theorem d_Tb_laws_32 : decode M_Tb_laws.2.1 32 = .ok (.if_icmp .gt 42, 3) := by decide +kernel
theorem d_Tb_laws_35 : decode M_Tb_laws.2.1 35 = .ok (.aload_n 0, 1) := by decide +kernel
theorem d_Tb_laws_36 : decode M_Tb_laws.2.1 36 = .ok (.iload 4, 2) := by decide +kernel
theorem d_Tb_laws_38 : decode M_Tb_laws.2.1 38 = .ok (.iload 5, 2) := by decide +kernel
theorem d_Tb_laws_40 : decode M_Tb_laws.2.1 40 = .ok (.invokevirtual 255, 3) := by decide +kernel
theorem d_Tb_laws_43 : decode M_Tb_laws.2.1 43 = .ok (.ifCond .eq 25, 3) := by decide +kernel
theorem d_Tb_laws_46 : decode M_Tb_laws.2.1 46 = .ok (.iinc 2 1, 3) := by decide +kernel
theorem d_Tb_laws_49 : decode M_Tb_laws.2.1 49 = .ok (.iload_n 3, 1) := by decide +kernel
theorem d_Tb_laws_50 : decode M_Tb_laws.2.1 50 = .ok (.bipush (-9), 2) := by decide +kernel
theorem d_Tb_laws_52 : decode M_Tb_laws.2.1 52 = .ok (.if_icmp .ne 14, 3) := by decide +kernel
theorem d_Tb_laws_55 : decode M_Tb_laws.2.1 55 = .ok (.bipush 10, 2) := by decide +kernel
theorem d_Tb_laws_57 : decode M_Tb_laws.2.1 57 = .ok (.iload 4, 2) := by decide +kernel
theorem d_Tb_laws_59 : decode M_Tb_laws.2.1 59 = .ok (.imul, 1) := by decide +kernel
theorem d_Tb_laws_60 : decode M_Tb_laws.2.1 60 = .ok (.iload 5, 2) := by decide +kernel
theorem d_Tb_laws_62 : decode M_Tb_laws.2.1 62 = .ok (.iadd, 1) := by decide +kernel
theorem d_Tb_laws_63 : decode M_Tb_laws.2.1 63 = .ok (.goto 4, 3) := by decide +kernel
theorem d_Tb_laws_66 : decode M_Tb_laws.2.1 66 = .ok (.iload_n 3, 1) := by decide +kernel
theorem d_Tb_laws_67 : decode M_Tb_laws.2.1 67 = .ok (.istore_n 3, 1) := by decide +kernel
theorem d_Tb_laws_68 : decode M_Tb_laws.2.1 68 = .ok (.iinc 5 1, 3) := by decide +kernel
theorem d_Tb_laws_71 : decode M_Tb_laws.2.1 71 = .ok (.goto (-42), 3) := by decide +kernel
theorem d_Tb_laws_74 : decode M_Tb_laws.2.1 74 = .ok (.iinc 4 1, 3) := by decide +kernel
theorem d_Tb_laws_77 : decode M_Tb_laws.2.1 77 = .ok (.goto (-58), 3) := by decide +kernel
theorem d_Tb_laws_80 : decode M_Tb_laws.2.1 80 = .ok (.iload_n 1, 1) := by decide +kernel
theorem d_Tb_laws_81 : decode M_Tb_laws.2.1 81 = .ok (.ifCond .ne 7, 3) := by decide +kernel
theorem d_Tb_laws_84 : decode M_Tb_laws.2.1 84 = .ok (.iload_n 2, 1) := by decide +kernel
theorem d_Tb_laws_85 : decode M_Tb_laws.2.1 85 = .ok (.goto 4, 3) := by decide +kernel
theorem d_Tb_laws_88 : decode M_Tb_laws.2.1 88 = .ok (.iload_n 3, 1) := by decide +kernel
theorem d_Tb_laws_89 : decode M_Tb_laws.2.1 89 = .ok (.ireturn, 1) := by decide +kernel
theorem d_Tb_forget_0 : decode M_Tb_forget.2.1 0 = .ok (.aload_n 0, 1) := by decide +kernel
theorem d_Tb_forget_1 : decode M_Tb_forget.2.1 1 = .ok (.getfield 68, 3) := by decide +kernel
theorem d_Tb_forget_4 : decode M_Tb_forget.2.1 4 = .ok (.invokevirtual 258, 3) := by decide +kernel
theorem d_Tb_forget_7 : decode M_Tb_forget.2.1 7 = .ok (.aload_n 0, 1) := by decide +kernel
theorem d_Tb_forget_8 : decode M_Tb_forget.2.1 8 = .ok (.getfield 72, 3) := by decide +kernel
theorem d_Tb_forget_11 : decode M_Tb_forget.2.1 11 = .ok (.invokevirtual 258, 3) := by decide +kernel
theorem d_Tb_forget_14 : decode M_Tb_forget.2.1 14 = .ok (.iadd, 1) := by decide +kernel
theorem d_Tb_forget_15 : decode M_Tb_forget.2.1 15 = .ok (.ireturn, 1) := by decide +kernel
theorem d_Tb_mark_0 : decode M_Tb_mark.2.1 0 = .ok (.iload_n 1, 1) := by decide +kernel
theorem d_Tb_mark_1 : decode M_Tb_mark.2.1 1 = .ok (.iconst 0, 1) := by decide +kernel
theorem d_Tb_mark_2 : decode M_Tb_mark.2.1 2 = .ok (.iconst 5, 1) := by decide +kernel
theorem d_Tb_mark_3 : decode M_Tb_mark.2.1 3 = .ok (.invokestatic 87, 3) := by decide +kernel
theorem d_Tb_mark_6 : decode M_Tb_mark.2.1 6 = .ok (.ifCond .eq 14, 3) := by decide +kernel
theorem d_Tb_mark_9 : decode M_Tb_mark.2.1 9 = .ok (.aload_n 0, 1) := by decide +kernel
theorem d_Tb_mark_10 : decode M_Tb_mark.2.1 10 = .ok (.getfield 19, 3) := by decide +kernel
theorem d_Tb_mark_13 : decode M_Tb_mark.2.1 13 = .ok (.iload_n 2, 1) := by decide +kernel
theorem d_Tb_mark_14 : decode M_Tb_mark.2.1 14 = .ok (.invokevirtual 110, 3) := by decide +kernel
theorem d_Tb_mark_17 : decode M_Tb_mark.2.1 17 = .ok (.ifCond .ne 6, 3) := by decide +kernel
theorem d_Tb_mark_20 : decode M_Tb_mark.2.1 20 = .ok (.ldc 109, 2) := by decide +kernel
theorem d_Tb_mark_22 : decode M_Tb_mark.2.1 22 = .ok (.ireturn, 1) := by decide +kernel
theorem d_Tb_mark_23 : decode M_Tb_mark.2.1 23 = .ok (.iload_n 1, 1) := by decide +kernel
theorem d_Tb_mark_24 : decode M_Tb_mark.2.1 24 = .ok (.tableswitch 66 1 5 #[36, 42, 48, 54, 60], 36) := by decide +kernel
theorem d_Tb_mark_60 : decode M_Tb_mark.2.1 60 = .ok (.aload_n 0, 1) := by decide +kernel
theorem d_Tb_mark_61 : decode M_Tb_mark.2.1 61 = .ok (.iload_n 2, 1) := by decide +kernel
theorem d_Tb_mark_62 : decode M_Tb_mark.2.1 62 = .ok (.invokevirtual 259, 3) := by decide +kernel
theorem d_Tb_mark_65 : decode M_Tb_mark.2.1 65 = .ok (.ireturn, 1) := by decide +kernel
theorem d_Tb_mark_66 : decode M_Tb_mark.2.1 66 = .ok (.aload_n 0, 1) := by decide +kernel
theorem d_Tb_mark_67 : decode M_Tb_mark.2.1 67 = .ok (.iload_n 2, 1) := by decide +kernel
theorem d_Tb_mark_68 : decode M_Tb_mark.2.1 68 = .ok (.invokevirtual 262, 3) := by decide +kernel
theorem d_Tb_mark_71 : decode M_Tb_mark.2.1 71 = .ok (.ireturn, 1) := by decide +kernel
theorem d_Tb_mark_72 : decode M_Tb_mark.2.1 72 = .ok (.aload_n 0, 1) := by decide +kernel
theorem d_Tb_mark_73 : decode M_Tb_mark.2.1 73 = .ok (.iload_n 2, 1) := by decide +kernel
theorem d_Tb_mark_74 : decode M_Tb_mark.2.1 74 = .ok (.invokevirtual 265, 3) := by decide +kernel
theorem d_Tb_mark_77 : decode M_Tb_mark.2.1 77 = .ok (.ireturn, 1) := by decide +kernel
theorem d_Tb_mark_78 : decode M_Tb_mark.2.1 78 = .ok (.aload_n 0, 1) := by decide +kernel
theorem d_Tb_mark_79 : decode M_Tb_mark.2.1 79 = .ok (.iload_n 2, 1) := by decide +kernel
theorem d_Tb_mark_80 : decode M_Tb_mark.2.1 80 = .ok (.invokevirtual 268, 3) := by decide +kernel
theorem d_Tb_mark_83 : decode M_Tb_mark.2.1 83 = .ok (.ireturn, 1) := by decide +kernel
theorem d_Tb_mark_84 : decode M_Tb_mark.2.1 84 = .ok (.aload_n 0, 1) := by decide +kernel
theorem d_Tb_mark_85 : decode M_Tb_mark.2.1 85 = .ok (.iload_n 2, 1) := by decide +kernel
theorem d_Tb_mark_86 : decode M_Tb_mark.2.1 86 = .ok (.invokevirtual 271, 3) := by decide +kernel
theorem d_Tb_mark_89 : decode M_Tb_mark.2.1 89 = .ok (.ireturn, 1) := by decide +kernel
theorem d_Tb_mark_90 : decode M_Tb_mark.2.1 90 = .ok (.aload_n 0, 1) := by decide +kernel
theorem d_Tb_mark_91 : decode M_Tb_mark.2.1 91 = .ok (.iload_n 2, 1) := by decide +kernel
theorem d_Tb_mark_92 : decode M_Tb_mark.2.1 92 = .ok (.invokevirtual 274, 3) := by decide +kernel
theorem d_Tb_mark_95 : decode M_Tb_mark.2.1 95 = .ok (.ireturn, 1) := by decide +kernel
theorem d_Tb_keep_0 : decode M_Tb_keep.2.1 0 = .ok (.iload_n 1, 1) := by decide +kernel
theorem d_Tb_keep_1 : decode M_Tb_keep.2.1 1 = .ok (.iconst 0, 1) := by decide +kernel
theorem d_Tb_keep_2 : decode M_Tb_keep.2.1 2 = .ok (.iconst 1, 1) := by decide +kernel
theorem d_Tb_keep_3 : decode M_Tb_keep.2.1 3 = .ok (.invokestatic 87, 3) := by decide +kernel
theorem d_Tb_keep_6 : decode M_Tb_keep.2.1 6 = .ok (.ifCond .ne 5, 3) := by decide +kernel
theorem d_Tb_keep_9 : decode M_Tb_keep.2.1 9 = .ok (.iconst (-1), 1) := by decide +kernel
theorem d_Tb_keep_10 : decode M_Tb_keep.2.1 10 = .ok (.ireturn, 1) := by decide +kernel
theorem d_Tb_keep_11 : decode M_Tb_keep.2.1 11 = .ok (.aload_n 0, 1) := by decide +kernel
theorem d_Tb_keep_12 : decode M_Tb_keep.2.1 12 = .ok (.getfield 45, 3) := by decide +kernel
theorem d_Tb_keep_15 : decode M_Tb_keep.2.1 15 = .ok (.iload_n 1, 1) := by decide +kernel
theorem d_Tb_keep_16 : decode M_Tb_keep.2.1 16 = .ok (.aaload, 1) := by decide +kernel
theorem d_Tb_keep_17 : decode M_Tb_keep.2.1 17 = .ok (.aload_n 0, 1) := by decide +kernel
theorem d_Tb_keep_18 : decode M_Tb_keep.2.1 18 = .ok (.getfield 29, 3) := by decide +kernel
theorem d_Tb_keep_21 : decode M_Tb_keep.2.1 21 = .ok (.aload_n 0, 1) := by decide +kernel
theorem d_Tb_keep_22 : decode M_Tb_keep.2.1 22 = .ok (.getfield 39, 3) := by decide +kernel
theorem d_Tb_keep_25 : decode M_Tb_keep.2.1 25 = .ok (.invokevirtual 277, 3) := by decide +kernel
theorem d_Tb_keep_28 : decode M_Tb_keep.2.1 28 = .ok (.aload_n 0, 1) := by decide +kernel
theorem d_Tb_keep_29 : decode M_Tb_keep.2.1 29 = .ok (.getfield 29, 3) := by decide +kernel
theorem d_Tb_keep_32 : decode M_Tb_keep.2.1 32 = .ok (.getfield 158, 3) := by decide +kernel
theorem d_Tb_keep_35 : decode M_Tb_keep.2.1 35 = .ok (.ireturn, 1) := by decide +kernel
theorem d_Tb_back_0 : decode M_Tb_back.2.1 0 = .ok (.iload_n 1, 1) := by decide +kernel
theorem d_Tb_back_1 : decode M_Tb_back.2.1 1 = .ok (.iconst 0, 1) := by decide +kernel
theorem d_Tb_back_2 : decode M_Tb_back.2.1 2 = .ok (.iconst 1, 1) := by decide +kernel
theorem d_Tb_back_3 : decode M_Tb_back.2.1 3 = .ok (.invokestatic 87, 3) := by decide +kernel
theorem d_Tb_back_6 : decode M_Tb_back.2.1 6 = .ok (.ifCond .ne 5, 3) := by decide +kernel
theorem d_Tb_back_9 : decode M_Tb_back.2.1 9 = .ok (.iconst (-1), 1) := by decide +kernel
theorem d_Tb_back_10 : decode M_Tb_back.2.1 10 = .ok (.ireturn, 1) := by decide +kernel
theorem d_Tb_back_11 : decode M_Tb_back.2.1 11 = .ok (.aload_n 0, 1) := by decide +kernel
theorem d_Tb_back_12 : decode M_Tb_back.2.1 12 = .ok (.getfield 45, 3) := by decide +kernel
theorem d_Tb_back_15 : decode M_Tb_back.2.1 15 = .ok (.iload_n 1, 1) := by decide +kernel
theorem d_Tb_back_16 : decode M_Tb_back.2.1 16 = .ok (.aaload, 1) := by decide +kernel
theorem d_Tb_back_17 : decode M_Tb_back.2.1 17 = .ok (.getfield 281, 3) := by decide +kernel
theorem d_Tb_back_20 : decode M_Tb_back.2.1 20 = .ok (.ifCond .ne 6, 3) := by decide +kernel
theorem d_Tb_back_23 : decode M_Tb_back.2.1 23 = .ok (.bipush (-2), 2) := by decide +kernel
theorem d_Tb_back_25 : decode M_Tb_back.2.1 25 = .ok (.ireturn, 1) := by decide +kernel
theorem d_Tb_back_26 : decode M_Tb_back.2.1 26 = .ok (.aload_n 0, 1) := by decide +kernel
theorem d_Tb_back_27 : decode M_Tb_back.2.1 27 = .ok (.getfield 45, 3) := by decide +kernel
theorem d_Tb_back_30 : decode M_Tb_back.2.1 30 = .ok (.iload_n 1, 1) := by decide +kernel
theorem d_Tb_back_31 : decode M_Tb_back.2.1 31 = .ok (.aaload, 1) := by decide +kernel
theorem d_Tb_back_32 : decode M_Tb_back.2.1 32 = .ok (.aload_n 0, 1) := by decide +kernel
theorem d_Tb_back_33 : decode M_Tb_back.2.1 33 = .ok (.getfield 29, 3) := by decide +kernel
theorem d_Tb_back_36 : decode M_Tb_back.2.1 36 = .ok (.aload_n 0, 1) := by decide +kernel
theorem d_Tb_back_37 : decode M_Tb_back.2.1 37 = .ok (.getfield 39, 3) := by decide +kernel
theorem d_Tb_back_40 : decode M_Tb_back.2.1 40 = .ok (.invokevirtual 284, 3) := by decide +kernel
theorem d_Tb_back_43 : decode M_Tb_back.2.1 43 = .ok (.aload_n 0, 1) := by decide +kernel
theorem d_Tb_back_44 : decode M_Tb_back.2.1 44 = .ok (.getfield 29, 3) := by decide +kernel
theorem d_Tb_back_47 : decode M_Tb_back.2.1 47 = .ok (.getfield 158, 3) := by decide +kernel
theorem d_Tb_back_50 : decode M_Tb_back.2.1 50 = .ok (.ireturn, 1) := by decide +kernel
theorem d_Tb_count_0 : decode M_Tb_count.2.1 0 = .ok (.iload_n 1, 1) := by decide +kernel
theorem d_Tb_count_1 : decode M_Tb_count.2.1 1 = .ok (.tableswitch 99 0 6 #[43, 51, 59, 67, 75, 83, 91], 43) := by decide +kernel
theorem d_Tb_count_44 : decode M_Tb_count.2.1 44 = .ok (.aload_n 0, 1) := by decide +kernel
theorem d_Tb_count_45 : decode M_Tb_count.2.1 45 = .ok (.getfield 19, 3) := by decide +kernel
theorem d_Tb_count_48 : decode M_Tb_count.2.1 48 = .ok (.getfield 287, 3) := by decide +kernel
theorem d_Tb_count_51 : decode M_Tb_count.2.1 51 = .ok (.ireturn, 1) := by decide +kernel
theorem d_Tb_count_52 : decode M_Tb_count.2.1 52 = .ok (.aload_n 0, 1) := by decide +kernel
theorem d_Tb_count_53 : decode M_Tb_count.2.1 53 = .ok (.getfield 19, 3) := by decide +kernel
theorem d_Tb_count_56 : decode M_Tb_count.2.1 56 = .ok (.getfield 290, 3) := by decide +kernel
theorem d_Tb_count_59 : decode M_Tb_count.2.1 59 = .ok (.ireturn, 1) := by decide +kernel
theorem d_Tb_count_60 : decode M_Tb_count.2.1 60 = .ok (.aload_n 0, 1) := by decide +kernel
theorem d_Tb_count_61 : decode M_Tb_count.2.1 61 = .ok (.getfield 19, 3) := by decide +kernel
theorem d_Tb_count_64 : decode M_Tb_count.2.1 64 = .ok (.getfield 293, 3) := by decide +kernel
theorem d_Tb_count_67 : decode M_Tb_count.2.1 67 = .ok (.ireturn, 1) := by decide +kernel
theorem d_Tb_count_68 : decode M_Tb_count.2.1 68 = .ok (.aload_n 0, 1) := by decide +kernel
theorem d_Tb_count_69 : decode M_Tb_count.2.1 69 = .ok (.getfield 68, 3) := by decide +kernel
theorem d_Tb_count_72 : decode M_Tb_count.2.1 72 = .ok (.getfield 296, 3) := by decide +kernel
theorem d_Tb_count_75 : decode M_Tb_count.2.1 75 = .ok (.ireturn, 1) := by decide +kernel
theorem d_Tb_count_76 : decode M_Tb_count.2.1 76 = .ok (.aload_n 0, 1) := by decide +kernel
theorem d_Tb_count_77 : decode M_Tb_count.2.1 77 = .ok (.getfield 72, 3) := by decide +kernel
theorem d_Tb_count_80 : decode M_Tb_count.2.1 80 = .ok (.getfield 296, 3) := by decide +kernel
theorem d_Tb_count_83 : decode M_Tb_count.2.1 83 = .ok (.ireturn, 1) := by decide +kernel
theorem d_Tb_count_84 : decode M_Tb_count.2.1 84 = .ok (.aload_n 0, 1) := by decide +kernel
theorem d_Tb_count_85 : decode M_Tb_count.2.1 85 = .ok (.getfield 39, 3) := by decide +kernel
theorem d_Tb_count_88 : decode M_Tb_count.2.1 88 = .ok (.getfield 188, 3) := by decide +kernel
theorem d_Tb_count_91 : decode M_Tb_count.2.1 91 = .ok (.ireturn, 1) := by decide +kernel
theorem d_Tb_count_92 : decode M_Tb_count.2.1 92 = .ok (.aload_n 0, 1) := by decide +kernel
theorem d_Tb_count_93 : decode M_Tb_count.2.1 93 = .ok (.getfield 10, 3) := by decide +kernel
theorem d_Tb_count_96 : decode M_Tb_count.2.1 96 = .ok (.getfield 297, 3) := by decide +kernel
theorem d_Tb_count_99 : decode M_Tb_count.2.1 99 = .ok (.ireturn, 1) := by decide +kernel
theorem d_Tb_count_100 : decode M_Tb_count.2.1 100 = .ok (.iconst (-1), 1) := by decide +kernel
theorem d_Tb_count_101 : decode M_Tb_count.2.1 101 = .ok (.ireturn, 1) := by decide +kernel
theorem d_Tb_trace_0 : decode M_Tb_trace.2.1 0 = .ok (.aload_n 0, 1) := by decide +kernel
theorem d_Tb_trace_1 : decode M_Tb_trace.2.1 1 = .ok (.getfield 79, 3) := by decide +kernel
theorem d_Tb_trace_4 : decode M_Tb_trace.2.1 4 = .ok (.lreturn, 1) := by decide +kernel
theorem d_Tb_within_0 : decode M_Tb_within.2.1 0 = .ok (.iload_n 0, 1) := by decide +kernel
theorem d_Tb_within_1 : decode M_Tb_within.2.1 1 = .ok (.iload_n 1, 1) := by decide +kernel
theorem d_Tb_within_2 : decode M_Tb_within.2.1 2 = .ok (.if_icmp .lt 12, 3) := by decide +kernel
theorem d_Tb_within_5 : decode M_Tb_within.2.1 5 = .ok (.iload_n 0, 1) := by decide +kernel
theorem d_Tb_within_6 : decode M_Tb_within.2.1 6 = .ok (.iload_n 2, 1) := by decide +kernel
theorem d_Tb_within_7 : decode M_Tb_within.2.1 7 = .ok (.if_icmp .gt 7, 3) := by decide +kernel
theorem d_Tb_within_10 : decode M_Tb_within.2.1 10 = .ok (.iconst 1, 1) := by decide +kernel
theorem d_Tb_within_11 : decode M_Tb_within.2.1 11 = .ok (.goto 4, 3) := by decide +kernel
theorem d_Tb_within_14 : decode M_Tb_within.2.1 14 = .ok (.iconst 0, 1) := by decide +kernel
theorem d_Tb_within_15 : decode M_Tb_within.2.1 15 = .ok (.ireturn, 1) := by decide +kernel
theorem d_Tb_startAnew_0 : decode M_Tb_startAnew.2.1 0 = .ok (.aload_n 0, 1) := by decide +kernel
theorem d_Tb_startAnew_1 : decode M_Tb_startAnew.2.1 1 = .ok (.getfield 29, 3) := by decide +kernel
theorem d_Tb_startAnew_4 : decode M_Tb_startAnew.2.1 4 = .ok (.aload_n 0, 1) := by decide +kernel
theorem d_Tb_startAnew_5 : decode M_Tb_startAnew.2.1 5 = .ok (.getfield 19, 3) := by decide +kernel
theorem d_Tb_startAnew_8 : decode M_Tb_startAnew.2.1 8 = .ok (.getfield 293, 3) := by decide +kernel
theorem d_Tb_startAnew_11 : decode M_Tb_startAnew.2.1 11 = .ok (.aload_n 0, 1) := by decide +kernel
theorem d_Tb_startAnew_12 : decode M_Tb_startAnew.2.1 12 = .ok (.getfield 19, 3) := by decide +kernel
theorem d_Tb_startAnew_15 : decode M_Tb_startAnew.2.1 15 = .ok (.getfield 300, 3) := by decide +kernel
theorem d_Tb_startAnew_18 : decode M_Tb_startAnew.2.1 18 = .ok (.invokevirtual 303, 3) := by decide +kernel
theorem d_Tb_startAnew_21 : decode M_Tb_startAnew.2.1 21 = .ok (.aload_n 0, 1) := by decide +kernel
theorem d_Tb_startAnew_22 : decode M_Tb_startAnew.2.1 22 = .ok (.getfield 39, 3) := by decide +kernel
theorem d_Tb_startAnew_25 : decode M_Tb_startAnew.2.1 25 = .ok (.iconst 0, 1) := by decide +kernel
theorem d_Tb_startAnew_26 : decode M_Tb_startAnew.2.1 26 = .ok (.putfield 188, 3) := by decide +kernel
theorem d_Tb_startAnew_29 : decode M_Tb_startAnew.2.1 29 = .ok (.aload_n 0, 1) := by decide +kernel
theorem d_Tb_startAnew_30 : decode M_Tb_startAnew.2.1 30 = .ok (.getfield 68, 3) := by decide +kernel
theorem d_Tb_startAnew_33 : decode M_Tb_startAnew.2.1 33 = .ok (.invokevirtual 258, 3) := by decide +kernel
theorem d_Tb_startAnew_36 : decode M_Tb_startAnew.2.1 36 = .ok (.pop, 1) := by decide +kernel
theorem d_Tb_startAnew_37 : decode M_Tb_startAnew.2.1 37 = .ok (.aload_n 0, 1) := by decide +kernel
theorem d_Tb_startAnew_38 : decode M_Tb_startAnew.2.1 38 = .ok (.getfield 72, 3) := by decide +kernel
theorem d_Tb_startAnew_41 : decode M_Tb_startAnew.2.1 41 = .ok (.invokevirtual 258, 3) := by decide +kernel
theorem d_Tb_startAnew_44 : decode M_Tb_startAnew.2.1 44 = .ok (.pop, 1) := by decide +kernel
theorem d_Tb_startAnew_45 : decode M_Tb_startAnew.2.1 45 = .ok (.iconst 0, 1) := by decide +kernel
theorem d_Tb_startAnew_46 : decode M_Tb_startAnew.2.1 46 = .ok (.istore_n 1, 1) := by decide +kernel
theorem d_Tb_startAnew_47 : decode M_Tb_startAnew.2.1 47 = .ok (.iload_n 1, 1) := by decide +kernel
theorem d_Tb_startAnew_48 : decode M_Tb_startAnew.2.1 48 = .ok (.iconst 2, 1) := by decide +kernel
theorem d_Tb_startAnew_49 : decode M_Tb_startAnew.2.1 49 = .ok (.if_icmp .ge 19, 3) := by decide +kernel
theorem d_Tb_startAnew_52 : decode M_Tb_startAnew.2.1 52 = .ok (.aload_n 0, 1) := by decide +kernel
theorem d_Tb_startAnew_53 : decode M_Tb_startAnew.2.1 53 = .ok (.getfield 45, 3) := by decide +kernel
theorem d_Tb_startAnew_56 : decode M_Tb_startAnew.2.1 56 = .ok (.iload_n 1, 1) := by decide +kernel
theorem d_Tb_startAnew_57 : decode M_Tb_startAnew.2.1 57 = .ok (.aaload, 1) := by decide +kernel
theorem d_Tb_startAnew_58 : decode M_Tb_startAnew.2.1 58 = .ok (.iconst 0, 1) := by decide +kernel
theorem d_Tb_startAnew_59 : decode M_Tb_startAnew.2.1 59 = .ok (.putfield 281, 3) := by decide +kernel
theorem d_Tb_startAnew_62 : decode M_Tb_startAnew.2.1 62 = .ok (.iinc 1 1, 3) := by decide +kernel
theorem d_Tb_startAnew_65 : decode M_Tb_startAnew.2.1 65 = .ok (.goto (-18), 3) := by decide +kernel
theorem d_Tb_startAnew_68 : decode M_Tb_startAnew.2.1 68 = .ok (.return_, 1) := by decide +kernel
theorem d_Tb_fitting_0 : decode M_Tb_fitting.2.1 0 = .ok (.iconst 0, 1) := by decide +kernel
theorem d_Tb_fitting_1 : decode M_Tb_fitting.2.1 1 = .ok (.istore_n 2, 1) := by decide +kernel
theorem d_Tb_fitting_2 : decode M_Tb_fitting.2.1 2 = .ok (.iconst 0, 1) := by decide +kernel
theorem d_Tb_fitting_3 : decode M_Tb_fitting.2.1 3 = .ok (.istore_n 3, 1) := by decide +kernel
theorem d_Tb_fitting_4 : decode M_Tb_fitting.2.1 4 = .ok (.iload_n 3, 1) := by decide +kernel
theorem d_Tb_fitting_5 : decode M_Tb_fitting.2.1 5 = .ok (.aload_n 0, 1) := by decide +kernel
theorem d_Tb_fitting_6 : decode M_Tb_fitting.2.1 6 = .ok (.getfield 19, 3) := by decide +kernel
theorem d_Tb_fitting_9 : decode M_Tb_fitting.2.1 9 = .ok (.getfield 290, 3) := by decide +kernel
theorem d_Tb_fitting_12 : decode M_Tb_fitting.2.1 12 = .ok (.if_icmp .ge 24, 3) := by decide +kernel
theorem d_Tb_fitting_15 : decode M_Tb_fitting.2.1 15 = .ok (.aload_n 0, 1) := by decide +kernel
theorem d_Tb_fitting_16 : decode M_Tb_fitting.2.1 16 = .ok (.iload_n 1, 1) := by decide +kernel
theorem d_Tb_fitting_17 : decode M_Tb_fitting.2.1 17 = .ok (.iload_n 3, 1) := by decide +kernel
theorem d_Tb_fitting_18 : decode M_Tb_fitting.2.1 18 = .ok (.invokevirtual 305, 3) := by decide +kernel
theorem d_Tb_fitting_21 : decode M_Tb_fitting.2.1 21 = .ok (.ifCond .eq 9, 3) := by decide +kernel
theorem d_Tb_fitting_24 : decode M_Tb_fitting.2.1 24 = .ok (.iload_n 2, 1) := by decide +kernel
theorem d_Tb_fitting_25 : decode M_Tb_fitting.2.1 25 = .ok (.iconst 1, 1) := by decide +kernel
theorem d_Tb_fitting_26 : decode M_Tb_fitting.2.1 26 = .ok (.iload_n 3, 1) := by decide +kernel
theorem d_Tb_fitting_27 : decode M_Tb_fitting.2.1 27 = .ok (.ishl, 1) := by decide +kernel
theorem d_Tb_fitting_28 : decode M_Tb_fitting.2.1 28 = .ok (.ior, 1) := by decide +kernel
theorem d_Tb_fitting_29 : decode M_Tb_fitting.2.1 29 = .ok (.istore_n 2, 1) := by decide +kernel
theorem d_Tb_fitting_30 : decode M_Tb_fitting.2.1 30 = .ok (.iinc 3 1, 3) := by decide +kernel
theorem d_Tb_fitting_33 : decode M_Tb_fitting.2.1 33 = .ok (.goto (-29), 3) := by decide +kernel
theorem d_Tb_fitting_36 : decode M_Tb_fitting.2.1 36 = .ok (.iload_n 2, 1) := by decide +kernel
theorem d_Tb_fitting_37 : decode M_Tb_fitting.2.1 37 = .ok (.ireturn, 1) := by decide +kernel
theorem d_Tb_fits_0 : decode M_Tb_fits.2.1 0 = .ok (.iconst 0, 1) := by decide +kernel
theorem d_Tb_fits_1 : decode M_Tb_fits.2.1 1 = .ok (.istore_n 3, 1) := by decide +kernel
theorem d_Tb_fits_2 : decode M_Tb_fits.2.1 2 = .ok (.iload_n 3, 1) := by decide +kernel
theorem d_Tb_fits_3 : decode M_Tb_fits.2.1 3 = .ok (.aload_n 0, 1) := by decide +kernel
theorem d_Tb_fits_4 : decode M_Tb_fits.2.1 4 = .ok (.getfield 68, 3) := by decide +kernel
theorem d_Tb_fits_7 : decode M_Tb_fits.2.1 7 = .ok (.getfield 296, 3) := by decide +kernel
theorem d_Tb_fits_10 : decode M_Tb_fits.2.1 10 = .ok (.if_icmp .ge 51, 3) := by decide +kernel
theorem d_Tb_fits_13 : decode M_Tb_fits.2.1 13 = .ok (.aload_n 0, 1) := by decide +kernel
theorem d_Tb_fits_14 : decode M_Tb_fits.2.1 14 = .ok (.getfield 68, 3) := by decide +kernel
theorem d_Tb_fits_17 : decode M_Tb_fits.2.1 17 = .ok (.getfield 308, 3) := by decide +kernel
theorem d_Tb_fits_20 : decode M_Tb_fits.2.1 20 = .ok (.iload_n 3, 1) := by decide +kernel
theorem d_Tb_fits_21 : decode M_Tb_fits.2.1 21 = .ok (.iaload, 1) := by decide +kernel
theorem d_Tb_fits_22 : decode M_Tb_fits.2.1 22 = .ok (.iload_n 1, 1) := by decide +kernel
theorem d_Tb_fits_23 : decode M_Tb_fits.2.1 23 = .ok (.if_icmp .ne 32, 3) := by decide +kernel
theorem d_Tb_fits_26 : decode M_Tb_fits.2.1 26 = .ok (.aload_n 0, 1) := by decide +kernel
theorem d_Tb_fits_27 : decode M_Tb_fits.2.1 27 = .ok (.iload_n 1, 1) := by decide +kernel
theorem d_Tb_fits_28 : decode M_Tb_fits.2.1 28 = .ok (.iload_n 2, 1) := by decide +kernel
theorem d_Tb_fits_29 : decode M_Tb_fits.2.1 29 = .ok (.aload_n 0, 1) := by decide +kernel
theorem d_Tb_fits_30 : decode M_Tb_fits.2.1 30 = .ok (.getfield 68, 3) := by decide +kernel
theorem d_Tb_fits_33 : decode M_Tb_fits.2.1 33 = .ok (.getfield 310, 3) := by decide +kernel
theorem d_Tb_fits_36 : decode M_Tb_fits.2.1 36 = .ok (.iload_n 3, 1) := by decide +kernel
theorem d_Tb_fits_37 : decode M_Tb_fits.2.1 37 = .ok (.iaload, 1) := by decide +kernel
theorem d_Tb_fits_38 : decode M_Tb_fits.2.1 38 = .ok (.invokevirtual 313, 3) := by decide +kernel
theorem d_Tb_fits_41 : decode M_Tb_fits.2.1 41 = .ok (.aload_n 0, 1) := by decide +kernel
theorem d_Tb_fits_42 : decode M_Tb_fits.2.1 42 = .ok (.getfield 68, 3) := by decide +kernel
theorem d_Tb_fits_45 : decode M_Tb_fits.2.1 45 = .ok (.getfield 316, 3) := by decide +kernel
theorem d_Tb_fits_48 : decode M_Tb_fits.2.1 48 = .ok (.iload_n 3, 1) := by decide +kernel
theorem d_Tb_fits_49 : decode M_Tb_fits.2.1 49 = .ok (.iaload, 1) := by decide +kernel
theorem d_Tb_fits_50 : decode M_Tb_fits.2.1 50 = .ok (.if_icmp .eq 5, 3) := by decide +kernel
theorem d_Tb_fits_53 : decode M_Tb_fits.2.1 53 = .ok (.iconst 0, 1) := by decide +kernel
theorem d_Tb_fits_54 : decode M_Tb_fits.2.1 54 = .ok (.ireturn, 1) := by decide +kernel
theorem d_Tb_fits_55 : decode M_Tb_fits.2.1 55 = .ok (.iinc 3 1, 3) := by decide +kernel
theorem d_Tb_fits_58 : decode M_Tb_fits.2.1 58 = .ok (.goto (-56), 3) := by decide +kernel
theorem d_Tb_fits_61 : decode M_Tb_fits.2.1 61 = .ok (.iconst 1, 1) := by decide +kernel
theorem d_Tb_fits_62 : decode M_Tb_fits.2.1 62 = .ok (.ireturn, 1) := by decide +kernel
theorem d_Tb_heightLater_0 : decode M_Tb_heightLater.2.1 0 = .ok (.aload_n 0, 1) := by decide +kernel
theorem d_Tb_heightLater_1 : decode M_Tb_heightLater.2.1 1 = .ok (.getfield 33, 3) := by decide +kernel
theorem d_Tb_heightLater_4 : decode M_Tb_heightLater.2.1 4 = .ok (.aload_n 0, 1) := by decide +kernel
theorem d_Tb_heightLater_5 : decode M_Tb_heightLater.2.1 5 = .ok (.getfield 29, 3) := by decide +kernel
theorem d_Tb_heightLater_8 : decode M_Tb_heightLater.2.1 8 = .ok (.invokevirtual 209, 3) := by decide +kernel
theorem d_Tb_heightLater_11 : decode M_Tb_heightLater.2.1 11 = .ok (.aload_n 0, 1) := by decide +kernel
theorem d_Tb_heightLater_12 : decode M_Tb_heightLater.2.1 12 = .ok (.getfield 33, 3) := by decide +kernel
theorem d_Tb_heightLater_15 : decode M_Tb_heightLater.2.1 15 = .ok (.iload_n 1, 1) := by decide +kernel
theorem d_Tb_heightLater_16 : decode M_Tb_heightLater.2.1 16 = .ok (.iload_n 2, 1) := by decide +kernel
theorem d_Tb_heightLater_17 : decode M_Tb_heightLater.2.1 17 = .ok (.invokevirtual 319, 3) := by decide +kernel
theorem d_Tb_heightLater_20 : decode M_Tb_heightLater.2.1 20 = .ok (.iconst 0, 1) := by decide +kernel
theorem d_Tb_heightLater_21 : decode M_Tb_heightLater.2.1 21 = .ok (.istore 4, 2) := by decide +kernel
theorem d_Tb_heightLater_23 : decode M_Tb_heightLater.2.1 23 = .ok (.iload 4, 2) := by decide +kernel
theorem d_Tb_heightLater_25 : decode M_Tb_heightLater.2.1 25 = .ok (.iload_n 3, 1) := by decide +kernel
theorem d_Tb_heightLater_26 : decode M_Tb_heightLater.2.1 26 = .ok (.if_icmp .ge 20, 3) := by decide +kernel
theorem d_Tb_heightLater_29 : decode M_Tb_heightLater.2.1 29 = .ok (.aload_n 0, 1) := by decide +kernel
theorem d_Tb_heightLater_30 : decode M_Tb_heightLater.2.1 30 = .ok (.getfield 19, 3) := by decide +kernel
theorem d_Tb_heightLater_33 : decode M_Tb_heightLater.2.1 33 = .ok (.aload_n 0, 1) := by decide +kernel
theorem d_Tb_heightLater_34 : decode M_Tb_heightLater.2.1 34 = .ok (.getfield 33, 3) := by decide +kernel
theorem d_Tb_heightLater_37 : decode M_Tb_heightLater.2.1 37 = .ok (.invokevirtual 211, 3) := by decide +kernel
theorem d_Tb_heightLater_40 : decode M_Tb_heightLater.2.1 40 = .ok (.iinc 4 1, 3) := by decide +kernel
theorem d_Tb_heightLater_43 : decode M_Tb_heightLater.2.1 43 = .ok (.goto (-20), 3) := by decide +kernel
theorem d_Tb_heightLater_46 : decode M_Tb_heightLater.2.1 46 = .ok (.aload_n 0, 1) := by decide +kernel
theorem d_Tb_heightLater_47 : decode M_Tb_heightLater.2.1 47 = .ok (.getfield 33, 3) := by decide +kernel
theorem d_Tb_heightLater_50 : decode M_Tb_heightLater.2.1 50 = .ok (.getfield 194, 3) := by decide +kernel
theorem d_Tb_heightLater_53 : decode M_Tb_heightLater.2.1 53 = .ok (.ireturn, 1) := by decide +kernel
theorem d_Tb_greatestAlike_0 : decode M_Tb_greatestAlike.2.1 0 = .ok (.aload_n 0, 1) := by decide +kernel
theorem d_Tb_greatestAlike_1 : decode M_Tb_greatestAlike.2.1 1 = .ok (.getfield 75, 3) := by decide +kernel
theorem d_Tb_greatestAlike_4 : decode M_Tb_greatestAlike.2.1 4 = .ok (.iconst 0, 1) := by decide +kernel
theorem d_Tb_greatestAlike_5 : decode M_Tb_greatestAlike.2.1 5 = .ok (.invokestatic 322, 3) := by decide +kernel
theorem d_Tb_greatestAlike_8 : decode M_Tb_greatestAlike.2.1 8 = .ok (.iconst 0, 1) := by decide +kernel
theorem d_Tb_greatestAlike_9 : decode M_Tb_greatestAlike.2.1 9 = .ok (.istore 4, 2) := by decide +kernel
theorem d_Tb_greatestAlike_11 : decode M_Tb_greatestAlike.2.1 11 = .ok (.iconst 0, 1) := by decide +kernel
theorem d_Tb_greatestAlike_12 : decode M_Tb_greatestAlike.2.1 12 = .ok (.istore 5, 2) := by decide +kernel
theorem d_Tb_greatestAlike_14 : decode M_Tb_greatestAlike.2.1 14 = .ok (.iload 5, 2) := by decide +kernel
theorem d_Tb_greatestAlike_16 : decode M_Tb_greatestAlike.2.1 16 = .ok (.aload_n 0, 1) := by decide +kernel
theorem d_Tb_greatestAlike_17 : decode M_Tb_greatestAlike.2.1 17 = .ok (.getfield 19, 3) := by decide +kernel
theorem d_Tb_greatestAlike_20 : decode M_Tb_greatestAlike.2.1 20 = .ok (.getfield 290, 3) := by decide +kernel
theorem d_Tb_greatestAlike_23 : decode M_Tb_greatestAlike.2.1 23 = .ok (.if_icmp .ge 54, 3) := by decide +kernel
theorem d_Tb_greatestAlike_26 : decode M_Tb_greatestAlike.2.1 26 = .ok (.iload_n 2, 1) := by decide +kernel
theorem d_Tb_greatestAlike_27 : decode M_Tb_greatestAlike.2.1 27 = .ok (.iload 5, 2) := by decide +kernel
theorem d_Tb_greatestAlike_29 : decode M_Tb_greatestAlike.2.1 29 = .ok (.ishr, 1) := by decide +kernel
theorem d_Tb_greatestAlike_30 : decode M_Tb_greatestAlike.2.1 30 = .ok (.iconst 1, 1) := by decide +kernel
theorem d_Tb_greatestAlike_31 : decode M_Tb_greatestAlike.2.1 31 = .ok (.iand, 1) := by decide +kernel
theorem d_Tb_greatestAlike_32 : decode M_Tb_greatestAlike.2.1 32 = .ok (.iconst 1, 1) := by decide +kernel
theorem d_Tb_greatestAlike_33 : decode M_Tb_greatestAlike.2.1 33 = .ok (.if_icmp .ne 38, 3) := by decide +kernel
theorem d_Tb_greatestAlike_36 : decode M_Tb_greatestAlike.2.1 36 = .ok (.aload_n 0, 1) := by decide +kernel
theorem d_Tb_greatestAlike_37 : decode M_Tb_greatestAlike.2.1 37 = .ok (.iload_n 1, 1) := by decide +kernel
theorem d_Tb_greatestAlike_38 : decode M_Tb_greatestAlike.2.1 38 = .ok (.iload 5, 2) := by decide +kernel
theorem d_Tb_greatestAlike_40 : decode M_Tb_greatestAlike.2.1 40 = .ok (.iload_n 3, 1) := by decide +kernel
theorem d_Tb_greatestAlike_41 : decode M_Tb_greatestAlike.2.1 41 = .ok (.invokevirtual 313, 3) := by decide +kernel
theorem d_Tb_greatestAlike_44 : decode M_Tb_greatestAlike.2.1 44 = .ok (.istore 6, 2) := by decide +kernel
theorem d_Tb_greatestAlike_46 : decode M_Tb_greatestAlike.2.1 46 = .ok (.aload_n 0, 1) := by decide +kernel
theorem d_Tb_greatestAlike_47 : decode M_Tb_greatestAlike.2.1 47 = .ok (.getfield 75, 3) := by decide +kernel
theorem d_Tb_greatestAlike_50 : decode M_Tb_greatestAlike.2.1 50 = .ok (.iload 6, 2) := by decide +kernel
theorem d_Tb_greatestAlike_52 : decode M_Tb_greatestAlike.2.1 52 = .ok (.dup2, 1) := by decide +kernel
theorem d_Tb_greatestAlike_53 : decode M_Tb_greatestAlike.2.1 53 = .ok (.iaload, 1) := by decide +kernel
theorem d_Tb_greatestAlike_54 : decode M_Tb_greatestAlike.2.1 54 = .ok (.iconst 1, 1) := by decide +kernel
theorem d_Tb_greatestAlike_55 : decode M_Tb_greatestAlike.2.1 55 = .ok (.iadd, 1) := by decide +kernel
theorem d_Tb_greatestAlike_56 : decode M_Tb_greatestAlike.2.1 56 = .ok (.iastore, 1) := by decide +kernel
theorem d_Tb_greatestAlike_57 : decode M_Tb_greatestAlike.2.1 57 = .ok (.iload 4, 2) := by decide +kernel
theorem d_Tb_greatestAlike_59 : decode M_Tb_greatestAlike.2.1 59 = .ok (.aload_n 0, 1) := by decide +kernel
theorem d_Tb_greatestAlike_60 : decode M_Tb_greatestAlike.2.1 60 = .ok (.getfield 75, 3) := by decide +kernel
theorem d_Tb_greatestAlike_63 : decode M_Tb_greatestAlike.2.1 63 = .ok (.iload 6, 2) := by decide +kernel
theorem d_Tb_greatestAlike_65 : decode M_Tb_greatestAlike.2.1 65 = .ok (.iaload, 1) := by decide +kernel
theorem d_Tb_greatestAlike_66 : decode M_Tb_greatestAlike.2.1 66 = .ok (.invokestatic 328, 3) := by decide +kernel
theorem d_Tb_greatestAlike_69 : decode M_Tb_greatestAlike.2.1 69 = .ok (.istore 4, 2) := by decide +kernel
theorem d_Tb_greatestAlike_71 : decode M_Tb_greatestAlike.2.1 71 = .ok (.iinc 5 1, 3) := by decide +kernel
theorem d_Tb_greatestAlike_74 : decode M_Tb_greatestAlike.2.1 74 = .ok (.goto (-60), 3) := by decide +kernel
theorem d_Tb_greatestAlike_77 : decode M_Tb_greatestAlike.2.1 77 = .ok (.iload 4, 2) := by decide +kernel
theorem d_Tb_greatestAlike_79 : decode M_Tb_greatestAlike.2.1 79 = .ok (.ireturn, 1) := by decide +kernel
theorem d_Tb_isLaw_0 : decode M_Tb_isLaw.2.1 0 = .ok (.iconst 0, 1) := by decide +kernel
theorem d_Tb_isLaw_1 : decode M_Tb_isLaw.2.1 1 = .ok (.istore_n 3, 1) := by decide +kernel
theorem d_Tb_isLaw_2 : decode M_Tb_isLaw.2.1 2 = .ok (.iload_n 3, 1) := by decide +kernel
theorem d_Tb_isLaw_3 : decode M_Tb_isLaw.2.1 3 = .ok (.aload_n 0, 1) := by decide +kernel
theorem d_Tb_isLaw_4 : decode M_Tb_isLaw.2.1 4 = .ok (.getfield 72, 3) := by decide +kernel
theorem d_Tb_isLaw_7 : decode M_Tb_isLaw.2.1 7 = .ok (.getfield 296, 3) := by decide +kernel
theorem d_Tb_isLaw_10 : decode M_Tb_isLaw.2.1 10 = .ok (.if_icmp .ge 37, 3) := by decide +kernel
theorem d_Tb_isLaw_13 : decode M_Tb_isLaw.2.1 13 = .ok (.iload_n 1, 1) := by decide +kernel
theorem d_Tb_isLaw_14 : decode M_Tb_isLaw.2.1 14 = .ok (.iload_n 2, 1) := by decide +kernel
theorem d_Tb_isLaw_15 : decode M_Tb_isLaw.2.1 15 = .ok (.aload_n 0, 1) := by decide +kernel
theorem d_Tb_isLaw_16 : decode M_Tb_isLaw.2.1 16 = .ok (.getfield 72, 3) := by decide +kernel
theorem d_Tb_isLaw_19 : decode M_Tb_isLaw.2.1 19 = .ok (.getfield 310, 3) := by decide +kernel
theorem d_Tb_isLaw_22 : decode M_Tb_isLaw.2.1 22 = .ok (.iload_n 3, 1) := by decide +kernel
theorem d_Tb_isLaw_23 : decode M_Tb_isLaw.2.1 23 = .ok (.iaload, 1) := by decide +kernel
theorem d_Tb_isLaw_24 : decode M_Tb_isLaw.2.1 24 = .ok (.invokestatic 333, 3) := by decide +kernel
theorem d_Tb_isLaw_27 : decode M_Tb_isLaw.2.1 27 = .ok (.aload_n 0, 1) := by decide +kernel
theorem d_Tb_isLaw_28 : decode M_Tb_isLaw.2.1 28 = .ok (.getfield 72, 3) := by decide +kernel
theorem d_Tb_isLaw_31 : decode M_Tb_isLaw.2.1 31 = .ok (.getfield 316, 3) := by decide +kernel
theorem d_Tb_isLaw_34 : decode M_Tb_isLaw.2.1 34 = .ok (.iload_n 3, 1) := by decide +kernel
theorem d_Tb_isLaw_35 : decode M_Tb_isLaw.2.1 35 = .ok (.iaload, 1) := by decide +kernel
theorem d_Tb_isLaw_36 : decode M_Tb_isLaw.2.1 36 = .ok (.if_icmp .eq 5, 3) := by decide +kernel
theorem d_Tb_isLaw_39 : decode M_Tb_isLaw.2.1 39 = .ok (.iconst 0, 1) := by decide +kernel
theorem d_Tb_isLaw_40 : decode M_Tb_isLaw.2.1 40 = .ok (.ireturn, 1) := by decide +kernel
theorem d_Tb_isLaw_41 : decode M_Tb_isLaw.2.1 41 = .ok (.iinc 3 1, 3) := by decide +kernel
theorem d_Tb_isLaw_44 : decode M_Tb_isLaw.2.1 44 = .ok (.goto (-42), 3) := by decide +kernel
theorem d_Tb_isLaw_47 : decode M_Tb_isLaw.2.1 47 = .ok (.iconst 1, 1) := by decide +kernel
theorem d_Tb_isLaw_48 : decode M_Tb_isLaw.2.1 48 = .ok (.ireturn, 1) := by decide +kernel
theorem d_Tb_markOne_0 : decode M_Tb_markOne.2.1 0 = .ok (.aload_n 0, 1) := by decide +kernel
theorem d_Tb_markOne_1 : decode M_Tb_markOne.2.1 1 = .ok (.dup, 1) := by decide +kernel
theorem d_Tb_markOne_2 : decode M_Tb_markOne.2.1 2 = .ok (.getfield 79, 3) := by decide +kernel
theorem d_Tb_markOne_5 : decode M_Tb_markOne.2.1 5 = .ok (.lconst 1, 1) := by decide +kernel
theorem d_Tb_markOne_6 : decode M_Tb_markOne.2.1 6 = .ok (.ladd, 1) := by decide +kernel
theorem d_Tb_markOne_7 : decode M_Tb_markOne.2.1 7 = .ok (.putfield 79, 3) := by decide +kernel
theorem d_Tb_markOne_10 : decode M_Tb_markOne.2.1 10 = .ok (.aload_n 0, 1) := by decide +kernel
theorem d_Tb_markOne_11 : decode M_Tb_markOne.2.1 11 = .ok (.getfield 19, 3) := by decide +kernel
theorem d_Tb_markOne_14 : decode M_Tb_markOne.2.1 14 = .ok (.getfield 114, 3) := by decide +kernel
theorem d_Tb_markOne_17 : decode M_Tb_markOne.2.1 17 = .ok (.iload_n 1, 1) := by decide +kernel
theorem d_Tb_markOne_18 : decode M_Tb_markOne.2.1 18 = .ok (.iaload, 1) := by decide +kernel
theorem d_Tb_markOne_19 : decode M_Tb_markOne.2.1 19 = .ok (.ireturn, 1) := by decide +kernel
theorem d_Tb_markLover_0 : decode M_Tb_markLover.2.1 0 = .ok (.aload_n 0, 1) := by decide +kernel
theorem d_Tb_markLover_1 : decode M_Tb_markLover.2.1 1 = .ok (.dup, 1) := by decide +kernel
theorem d_Tb_markLover_2 : decode M_Tb_markLover.2.1 2 = .ok (.getfield 79, 3) := by decide +kernel
theorem d_Tb_markLover_5 : decode M_Tb_markLover.2.1 5 = .ok (.ldc2_w 336, 3) := by decide +kernel
theorem d_Tb_markLover_8 : decode M_Tb_markLover.2.1 8 = .ok (.ladd, 1) := by decide +kernel
theorem d_Tb_markLover_9 : decode M_Tb_markLover.2.1 9 = .ok (.putfield 79, 3) := by decide +kernel
theorem d_Tb_markLover_12 : decode M_Tb_markLover.2.1 12 = .ok (.aload_n 0, 1) := by decide +kernel
theorem d_Tb_markLover_13 : decode M_Tb_markLover.2.1 13 = .ok (.iload_n 1, 1) := by decide +kernel
theorem d_Tb_markLover_14 : decode M_Tb_markLover.2.1 14 = .ok (.invokevirtual 274, 3) := by decide +kernel
theorem d_Tb_markLover_17 : decode M_Tb_markLover.2.1 17 = .ok (.aload_n 0, 1) := by decide +kernel
theorem d_Tb_markLover_18 : decode M_Tb_markLover.2.1 18 = .ok (.getfield 29, 3) := by decide +kernel
theorem d_Tb_markLover_21 : decode M_Tb_markLover.2.1 21 = .ok (.iload_n 1, 1) := by decide +kernel
theorem d_Tb_markLover_22 : decode M_Tb_markLover.2.1 22 = .ok (.invokevirtual 123, 3) := by decide +kernel
theorem d_Tb_markLover_25 : decode M_Tb_markLover.2.1 25 = .ok (.invokestatic 180, 3) := by decide +kernel
theorem d_Tb_markLover_28 : decode M_Tb_markLover.2.1 28 = .ok (.iadd, 1) := by decide +kernel
theorem d_Tb_markLover_29 : decode M_Tb_markLover.2.1 29 = .ok (.ireturn, 1) := by decide +kernel
theorem d_Tb_markGrudge_0 : decode M_Tb_markGrudge.2.1 0 = .ok (.aload_n 0, 1) := by decide +kernel
theorem d_Tb_markGrudge_1 : decode M_Tb_markGrudge.2.1 1 = .ok (.dup, 1) := by decide +kernel
theorem d_Tb_markGrudge_2 : decode M_Tb_markGrudge.2.1 2 = .ok (.getfield 79, 3) := by decide +kernel
theorem d_Tb_markGrudge_5 : decode M_Tb_markGrudge.2.1 5 = .ok (.ldc2_w 338, 3) := by decide +kernel
theorem d_Tb_markGrudge_8 : decode M_Tb_markGrudge.2.1 8 = .ok (.ladd, 1) := by decide +kernel
theorem d_Tb_markGrudge_9 : decode M_Tb_markGrudge.2.1 9 = .ok (.putfield 79, 3) := by decide +kernel
theorem d_Tb_markGrudge_12 : decode M_Tb_markGrudge.2.1 12 = .ok (.aload_n 0, 1) := by decide +kernel
theorem d_Tb_markGrudge_13 : decode M_Tb_markGrudge.2.1 13 = .ok (.iload_n 1, 1) := by decide +kernel
theorem d_Tb_markGrudge_14 : decode M_Tb_markGrudge.2.1 14 = .ok (.invokevirtual 274, 3) := by decide +kernel
theorem d_Tb_markGrudge_17 : decode M_Tb_markGrudge.2.1 17 = .ok (.aload_n 0, 1) := by decide +kernel
theorem d_Tb_markGrudge_18 : decode M_Tb_markGrudge.2.1 18 = .ok (.getfield 19, 3) := by decide +kernel
theorem d_Tb_markGrudge_21 : decode M_Tb_markGrudge.2.1 21 = .ok (.aload_n 0, 1) := by decide +kernel
theorem d_Tb_markGrudge_22 : decode M_Tb_markGrudge.2.1 22 = .ok (.getfield 29, 3) := by decide +kernel
theorem d_Tb_markGrudge_25 : decode M_Tb_markGrudge.2.1 25 = .ok (.invokevirtual 154, 3) := by decide +kernel
theorem d_Tb_markGrudge_28 : decode M_Tb_markGrudge.2.1 28 = .ok (.isub, 1) := by decide +kernel
theorem d_Tb_markGrudge_29 : decode M_Tb_markGrudge.2.1 29 = .ok (.ireturn, 1) := by decide +kernel
theorem d_Tb_markPoet_0 : decode M_Tb_markPoet.2.1 0 = .ok (.aload_n 0, 1) := by decide +kernel
theorem d_Tb_markPoet_1 : decode M_Tb_markPoet.2.1 1 = .ok (.dup, 1) := by decide +kernel
theorem d_Tb_markPoet_2 : decode M_Tb_markPoet.2.1 2 = .ok (.getfield 79, 3) := by decide +kernel
theorem d_Tb_markPoet_5 : decode M_Tb_markPoet.2.1 5 = .ok (.ldc2_w 340, 3) := by decide +kernel
theorem d_Tb_markPoet_8 : decode M_Tb_markPoet.2.1 8 = .ok (.ladd, 1) := by decide +kernel
theorem d_Tb_markPoet_9 : decode M_Tb_markPoet.2.1 9 = .ok (.putfield 79, 3) := by decide +kernel
theorem d_Tb_markPoet_12 : decode M_Tb_markPoet.2.1 12 = .ok (.aload_n 0, 1) := by decide +kernel
theorem d_Tb_markPoet_13 : decode M_Tb_markPoet.2.1 13 = .ok (.iload_n 1, 1) := by decide +kernel
theorem d_Tb_markPoet_14 : decode M_Tb_markPoet.2.1 14 = .ok (.invokevirtual 259, 3) := by decide +kernel
theorem d_Tb_markPoet_17 : decode M_Tb_markPoet.2.1 17 = .ok (.iconst 2, 1) := by decide +kernel
theorem d_Tb_markPoet_18 : decode M_Tb_markPoet.2.1 18 = .ok (.imul, 1) := by decide +kernel
theorem d_Tb_markPoet_19 : decode M_Tb_markPoet.2.1 19 = .ok (.ireturn, 1) := by decide +kernel
theorem d_Tb_markMiser_0 : decode M_Tb_markMiser.2.1 0 = .ok (.aload_n 0, 1) := by decide +kernel
theorem d_Tb_markMiser_1 : decode M_Tb_markMiser.2.1 1 = .ok (.dup, 1) := by decide +kernel
theorem d_Tb_markMiser_2 : decode M_Tb_markMiser.2.1 2 = .ok (.getfield 79, 3) := by decide +kernel
theorem d_Tb_markMiser_5 : decode M_Tb_markMiser.2.1 5 = .ok (.ldc2_w 342, 3) := by decide +kernel
theorem d_Tb_markMiser_8 : decode M_Tb_markMiser.2.1 8 = .ok (.ladd, 1) := by decide +kernel
theorem d_Tb_markMiser_9 : decode M_Tb_markMiser.2.1 9 = .ok (.putfield 79, 3) := by decide +kernel
theorem d_Tb_markMiser_12 : decode M_Tb_markMiser.2.1 12 = .ok (.aload_n 0, 1) := by decide +kernel
theorem d_Tb_markMiser_13 : decode M_Tb_markMiser.2.1 13 = .ok (.iload_n 1, 1) := by decide +kernel
theorem d_Tb_markMiser_14 : decode M_Tb_markMiser.2.1 14 = .ok (.invokevirtual 262, 3) := by decide +kernel
theorem d_Tb_markMiser_17 : decode M_Tb_markMiser.2.1 17 = .ok (.iload_n 1, 1) := by decide +kernel
theorem d_Tb_markMiser_18 : decode M_Tb_markMiser.2.1 18 = .ok (.iadd, 1) := by decide +kernel
theorem d_Tb_markMiser_19 : decode M_Tb_markMiser.2.1 19 = .ok (.ireturn, 1) := by decide +kernel
theorem d_Tb_markWife_0 : decode M_Tb_markWife.2.1 0 = .ok (.aload_n 0, 1) := by decide +kernel
theorem d_Tb_markWife_1 : decode M_Tb_markWife.2.1 1 = .ok (.dup, 1) := by decide +kernel
theorem d_Tb_markWife_2 : decode M_Tb_markWife.2.1 2 = .ok (.getfield 79, 3) := by decide +kernel
theorem d_Tb_markWife_5 : decode M_Tb_markWife.2.1 5 = .ok (.ldc2_w 344, 3) := by decide +kernel
theorem d_Tb_markWife_8 : decode M_Tb_markWife.2.1 8 = .ok (.ladd, 1) := by decide +kernel
theorem d_Tb_markWife_9 : decode M_Tb_markWife.2.1 9 = .ok (.putfield 79, 3) := by decide +kernel
theorem d_Tb_markWife_12 : decode M_Tb_markWife.2.1 12 = .ok (.aload_n 0, 1) := by decide +kernel
theorem d_Tb_markWife_13 : decode M_Tb_markWife.2.1 13 = .ok (.iload_n 1, 1) := by decide +kernel
theorem d_Tb_markWife_14 : decode M_Tb_markWife.2.1 14 = .ok (.invokevirtual 274, 3) := by decide +kernel
theorem d_Tb_markWife_17 : decode M_Tb_markWife.2.1 17 = .ok (.aload_n 0, 1) := by decide +kernel
theorem d_Tb_markWife_18 : decode M_Tb_markWife.2.1 18 = .ok (.getfield 29, 3) := by decide +kernel
theorem d_Tb_markWife_21 : decode M_Tb_markWife.2.1 21 = .ok (.getfield 194, 3) := by decide +kernel
theorem d_Tb_markWife_24 : decode M_Tb_markWife.2.1 24 = .ok (.iadd, 1) := by decide +kernel
theorem d_Tb_markWife_25 : decode M_Tb_markWife.2.1 25 = .ok (.ireturn, 1) := by decide +kernel
end
section
theorem d_Mo_init_0 : decode M_Mo_init.2.1 0 = .ok (.aload_n 0, 1) := by decide +kernel
theorem d_Mo_init_1 : decode M_Mo_init.2.1 1 = .ok (.invokespecial 1, 3) := by decide +kernel
theorem d_Mo_init_4 : decode M_Mo_init.2.1 4 = .ok (.aload_n 0, 1) := by decide +kernel
theorem d_Mo_init_5 : decode M_Mo_init.2.1 5 = .ok (.bipush 120, 2) := by decide +kernel
theorem d_Mo_init_7 : decode M_Mo_init.2.1 7 = .ok (.newarray .byte, 2) := by decide +kernel
theorem d_Mo_init_9 : decode M_Mo_init.2.1 9 = .ok (.putfield 7, 3) := by decide +kernel
theorem d_Mo_init_12 : decode M_Mo_init.2.1 12 = .ok (.aload_n 0, 1) := by decide +kernel
theorem d_Mo_init_13 : decode M_Mo_init.2.1 13 = .ok (.bipush 20, 2) := by decide +kernel
theorem d_Mo_init_15 : decode M_Mo_init.2.1 15 = .ok (.newarray .int, 2) := by decide +kernel
theorem d_Mo_init_17 : decode M_Mo_init.2.1 17 = .ok (.putfield 13, 3) := by decide +kernel
theorem d_Mo_init_20 : decode M_Mo_init.2.1 20 = .ok (.aload_n 0, 1) := by decide +kernel
theorem d_Mo_init_21 : decode M_Mo_init.2.1 21 = .ok (.iconst 2, 1) := by decide +kernel
theorem d_Mo_init_22 : decode M_Mo_init.2.1 22 = .ok (.newarray .int, 2) := by decide +kernel
theorem d_Mo_init_24 : decode M_Mo_init.2.1 24 = .ok (.putfield 17, 3) := by decide +kernel
theorem d_Mo_init_27 : decode M_Mo_init.2.1 27 = .ok (.aload_n 0, 1) := by decide +kernel
theorem d_Mo_init_28 : decode M_Mo_init.2.1 28 = .ok (.bipush 6, 2) := by decide +kernel
theorem d_Mo_init_30 : decode M_Mo_init.2.1 30 = .ok (.newarray .int, 2) := by decide +kernel
theorem d_Mo_init_32 : decode M_Mo_init.2.1 32 = .ok (.putfield 20, 3) := by decide +kernel
theorem d_Mo_init_35 : decode M_Mo_init.2.1 35 = .ok (.aload_n 0, 1) := by decide +kernel
theorem d_Mo_init_36 : decode M_Mo_init.2.1 36 = .ok (.bipush 6, 2) := by decide +kernel
theorem d_Mo_init_38 : decode M_Mo_init.2.1 38 = .ok (.newarray .int, 2) := by decide +kernel
theorem d_Mo_init_40 : decode M_Mo_init.2.1 40 = .ok (.putfield 23, 3) := by decide +kernel
theorem d_Mo_init_43 : decode M_Mo_init.2.1 43 = .ok (.aload_n 0, 1) := by decide +kernel
theorem d_Mo_init_44 : decode M_Mo_init.2.1 44 = .ok (.bipush 6, 2) := by decide +kernel
theorem d_Mo_init_46 : decode M_Mo_init.2.1 46 = .ok (.newarray .int, 2) := by decide +kernel
theorem d_Mo_init_48 : decode M_Mo_init.2.1 48 = .ok (.putfield 26, 3) := by decide +kernel
theorem d_Mo_init_51 : decode M_Mo_init.2.1 51 = .ok (.aload_n 0, 1) := by decide +kernel
theorem d_Mo_init_52 : decode M_Mo_init.2.1 52 = .ok (.iconst 2, 1) := by decide +kernel
theorem d_Mo_init_53 : decode M_Mo_init.2.1 53 = .ok (.newarray .int, 2) := by decide +kernel
theorem d_Mo_init_55 : decode M_Mo_init.2.1 55 = .ok (.putfield 29, 3) := by decide +kernel
theorem d_Mo_init_58 : decode M_Mo_init.2.1 58 = .ok (.aload_n 0, 1) := by decide +kernel
theorem d_Mo_init_59 : decode M_Mo_init.2.1 59 = .ok (.bipush 8, 2) := by decide +kernel
theorem d_Mo_init_61 : decode M_Mo_init.2.1 61 = .ok (.newarray .int, 2) := by decide +kernel
theorem d_Mo_init_63 : decode M_Mo_init.2.1 63 = .ok (.putfield 32, 3) := by decide +kernel
theorem d_Mo_init_66 : decode M_Mo_init.2.1 66 = .ok (.aload_n 0, 1) := by decide +kernel
theorem d_Mo_init_67 : decode M_Mo_init.2.1 67 = .ok (.bipush 8, 2) := by decide +kernel
theorem d_Mo_init_69 : decode M_Mo_init.2.1 69 = .ok (.newarray .int, 2) := by decide +kernel
theorem d_Mo_init_71 : decode M_Mo_init.2.1 71 = .ok (.putfield 35, 3) := by decide +kernel
theorem d_Mo_init_74 : decode M_Mo_init.2.1 74 = .ok (.aload_n 0, 1) := by decide +kernel
theorem d_Mo_init_75 : decode M_Mo_init.2.1 75 = .ok (.iconst 2, 1) := by decide +kernel
theorem d_Mo_init_76 : decode M_Mo_init.2.1 76 = .ok (.newarray .int, 2) := by decide +kernel
theorem d_Mo_init_78 : decode M_Mo_init.2.1 78 = .ok (.putfield 38, 3) := by decide +kernel
theorem d_Mo_init_81 : decode M_Mo_init.2.1 81 = .ok (.aload_n 0, 1) := by decide +kernel
theorem d_Mo_init_82 : decode M_Mo_init.2.1 82 = .ok (.bipush 11, 2) := by decide +kernel
theorem d_Mo_init_84 : decode M_Mo_init.2.1 84 = .ok (.newarray .int, 2) := by decide +kernel
theorem d_Mo_init_86 : decode M_Mo_init.2.1 86 = .ok (.putfield 41, 3) := by decide +kernel
theorem d_Mo_init_89 : decode M_Mo_init.2.1 89 = .ok (.aload_n 0, 1) := by decide +kernel
theorem d_Mo_init_90 : decode M_Mo_init.2.1 90 = .ok (.iconst 3, 1) := by decide +kernel
theorem d_Mo_init_91 : decode M_Mo_init.2.1 91 = .ok (.newarray .int, 2) := by decide +kernel
theorem d_Mo_init_93 : decode M_Mo_init.2.1 93 = .ok (.putfield 44, 3) := by decide +kernel
theorem d_Mo_init_96 : decode M_Mo_init.2.1 96 = .ok (.aload_n 0, 1) := by decide +kernel
theorem d_Mo_init_97 : decode M_Mo_init.2.1 97 = .ok (.sipush 330, 3) := by decide +kernel
theorem d_Mo_init_100 : decode M_Mo_init.2.1 100 = .ok (.newarray .int, 2) := by decide +kernel
theorem d_Mo_init_102 : decode M_Mo_init.2.1 102 = .ok (.putfield 47, 3) := by decide +kernel
theorem d_Mo_init_105 : decode M_Mo_init.2.1 105 = .ok (.aload_n 0, 1) := by decide +kernel
theorem d_Mo_init_106 : decode M_Mo_init.2.1 106 = .ok (.bipush 22, 2) := by decide +kernel
theorem d_Mo_init_108 : decode M_Mo_init.2.1 108 = .ok (.newarray .int, 2) := by decide +kernel
theorem d_Mo_init_110 : decode M_Mo_init.2.1 110 = .ok (.putfield 50, 3) := by decide +kernel
theorem d_Mo_init_113 : decode M_Mo_init.2.1 113 = .ok (.aload_n 0, 1) := by decide +kernel
theorem d_Mo_init_114 : decode M_Mo_init.2.1 114 = .ok (.iconst 2, 1) := by decide +kernel
theorem d_Mo_init_115 : decode M_Mo_init.2.1 115 = .ok (.newarray .boolean, 2) := by decide +kernel
theorem d_Mo_init_117 : decode M_Mo_init.2.1 117 = .ok (.putfield 53, 3) := by decide +kernel
theorem d_Mo_init_120 : decode M_Mo_init.2.1 120 = .ok (.aload_n 0, 1) := by decide +kernel
theorem d_Mo_init_121 : decode M_Mo_init.2.1 121 = .ok (.bipush 11, 2) := by decide +kernel
theorem d_Mo_init_123 : decode M_Mo_init.2.1 123 = .ok (.newarray .int, 2) := by decide +kernel
theorem d_Mo_init_125 : decode M_Mo_init.2.1 125 = .ok (.putfield 57, 3) := by decide +kernel
theorem d_Mo_init_128 : decode M_Mo_init.2.1 128 = .ok (.aload_n 0, 1) := by decide +kernel
theorem d_Mo_init_129 : decode M_Mo_init.2.1 129 = .ok (.bipush 64, 2) := by decide +kernel
theorem d_Mo_init_131 : decode M_Mo_init.2.1 131 = .ok (.newarray .int, 2) := by decide +kernel
theorem d_Mo_init_133 : decode M_Mo_init.2.1 133 = .ok (.putfield 60, 3) := by decide +kernel
theorem d_Mo_init_136 : decode M_Mo_init.2.1 136 = .ok (.aload_n 0, 1) := by decide +kernel
theorem d_Mo_init_137 : decode M_Mo_init.2.1 137 = .ok (.bipush 6, 2) := by decide +kernel
theorem d_Mo_init_139 : decode M_Mo_init.2.1 139 = .ok (.newarray .int, 2) := by decide +kernel
theorem d_Mo_init_141 : decode M_Mo_init.2.1 141 = .ok (.putfield 63, 3) := by decide +kernel
theorem d_Mo_init_144 : decode M_Mo_init.2.1 144 = .ok (.aload_n 0, 1) := by decide +kernel
theorem d_Mo_init_145 : decode M_Mo_init.2.1 145 = .ok (.bipush 6, 2) := by decide +kernel
theorem d_Mo_init_147 : decode M_Mo_init.2.1 147 = .ok (.newarray .int, 2) := by decide +kernel
theorem d_Mo_init_149 : decode M_Mo_init.2.1 149 = .ok (.putfield 66, 3) := by decide +kernel
theorem d_Mo_init_152 : decode M_Mo_init.2.1 152 = .ok (.aload_n 0, 1) := by decide +kernel
theorem d_Mo_init_153 : decode M_Mo_init.2.1 153 = .ok (.bipush 6, 2) := by decide +kernel
theorem d_Mo_init_155 : decode M_Mo_init.2.1 155 = .ok (.newarray .int, 2) := by decide +kernel
theorem d_Mo_init_157 : decode M_Mo_init.2.1 157 = .ok (.putfield 69, 3) := by decide +kernel
theorem d_Mo_init_160 : decode M_Mo_init.2.1 160 = .ok (.aload_n 0, 1) := by decide +kernel
theorem d_Mo_init_161 : decode M_Mo_init.2.1 161 = .ok (.bipush 6, 2) := by decide +kernel
theorem d_Mo_init_163 : decode M_Mo_init.2.1 163 = .ok (.newarray .int, 2) := by decide +kernel
theorem d_Mo_init_165 : decode M_Mo_init.2.1 165 = .ok (.putfield 72, 3) := by decide +kernel
theorem d_Mo_init_168 : decode M_Mo_init.2.1 168 = .ok (.aload_n 0, 1) := by decide +kernel
theorem d_Mo_init_169 : decode M_Mo_init.2.1 169 = .ok (.bipush 6, 2) := by decide +kernel
theorem d_Mo_init_171 : decode M_Mo_init.2.1 171 = .ok (.newarray .int, 2) := by decide +kernel
theorem d_Mo_init_173 : decode M_Mo_init.2.1 173 = .ok (.putfield 75, 3) := by decide +kernel
theorem d_Mo_init_176 : decode M_Mo_init.2.1 176 = .ok (.aload_n 0, 1) := by decide +kernel
theorem d_Mo_init_177 : decode M_Mo_init.2.1 177 = .ok (.getfield 38, 3) := by decide +kernel
theorem d_Mo_init_180 : decode M_Mo_init.2.1 180 = .ok (.iconst 0, 1) := by decide +kernel
theorem d_Mo_init_181 : decode M_Mo_init.2.1 181 = .ok (.bipush 20, 2) := by decide +kernel
theorem d_Mo_init_183 : decode M_Mo_init.2.1 183 = .ok (.iastore, 1) := by decide +kernel
theorem d_Mo_init_184 : decode M_Mo_init.2.1 184 = .ok (.aload_n 0, 1) := by decide +kernel
theorem d_Mo_init_185 : decode M_Mo_init.2.1 185 = .ok (.getfield 41, 3) := by decide +kernel
theorem d_Mo_init_188 : decode M_Mo_init.2.1 188 = .ok (.iconst 1, 1) := by decide +kernel
theorem d_Mo_init_189 : decode M_Mo_init.2.1 189 = .ok (.bipush 20, 2) := by decide +kernel
theorem d_Mo_init_191 : decode M_Mo_init.2.1 191 = .ok (.iastore, 1) := by decide +kernel
theorem d_Mo_init_192 : decode M_Mo_init.2.1 192 = .ok (.aload_n 0, 1) := by decide +kernel
theorem d_Mo_init_193 : decode M_Mo_init.2.1 193 = .ok (.getfield 41, 3) := by decide +kernel
theorem d_Mo_init_196 : decode M_Mo_init.2.1 196 = .ok (.iconst 3, 1) := by decide +kernel
theorem d_Mo_init_197 : decode M_Mo_init.2.1 197 = .ok (.bipush (-9), 2) := by decide +kernel
theorem d_Mo_init_199 : decode M_Mo_init.2.1 199 = .ok (.iastore, 1) := by decide +kernel
theorem d_Mo_init_200 : decode M_Mo_init.2.1 200 = .ok (.aload_n 0, 1) := by decide +kernel
theorem d_Mo_init_201 : decode M_Mo_init.2.1 201 = .ok (.getfield 41, 3) := by decide +kernel
theorem d_Mo_init_204 : decode M_Mo_init.2.1 204 = .ok (.iconst 4, 1) := by decide +kernel
theorem d_Mo_init_205 : decode M_Mo_init.2.1 205 = .ok (.bipush (-9), 2) := by decide +kernel
theorem d_Mo_init_207 : decode M_Mo_init.2.1 207 = .ok (.iastore, 1) := by decide +kernel
theorem d_Mo_init_208 : decode M_Mo_init.2.1 208 = .ok (.return_, 1) := by decide +kernel
theorem d_Mo_in_0 : decode M_Mo_in.2.1 0 = .ok (.iload_n 0, 1) := by decide +kernel
theorem d_Mo_in_1 : decode M_Mo_in.2.1 1 = .ok (.iload_n 1, 1) := by decide +kernel
theorem d_Mo_in_2 : decode M_Mo_in.2.1 2 = .ok (.if_icmp .lt 12, 3) := by decide +kernel
theorem d_Mo_in_5 : decode M_Mo_in.2.1 5 = .ok (.iload_n 0, 1) := by decide +kernel
theorem d_Mo_in_6 : decode M_Mo_in.2.1 6 = .ok (.iload_n 2, 1) := by decide +kernel
theorem d_Mo_in_7 : decode M_Mo_in.2.1 7 = .ok (.if_icmp .gt 7, 3) := by decide +kernel
theorem d_Mo_in_10 : decode M_Mo_in.2.1 10 = .ok (.iconst 1, 1) := by decide +kernel
theorem d_Mo_in_11 : decode M_Mo_in.2.1 11 = .ok (.goto 4, 3) := by decide +kernel
theorem d_Mo_in_14 : decode M_Mo_in.2.1 14 = .ok (.iconst 0, 1) := by decide +kernel
theorem d_Mo_in_15 : decode M_Mo_in.2.1 15 = .ok (.ireturn, 1) := by decide +kernel
theorem d_Mo_has_0 : decode M_Mo_has.2.1 0 = .ok (.iload_n 0, 1) := by decide +kernel
theorem d_Mo_has_1 : decode M_Mo_has.2.1 1 = .ok (.iload_n 1, 1) := by decide +kernel
theorem d_Mo_has_2 : decode M_Mo_has.2.1 2 = .ok (.ishr, 1) := by decide +kernel
theorem d_Mo_has_3 : decode M_Mo_has.2.1 3 = .ok (.iconst 1, 1) := by decide +kernel
theorem d_Mo_has_4 : decode M_Mo_has.2.1 4 = .ok (.iand, 1) := by decide +kernel
theorem d_Mo_has_5 : decode M_Mo_has.2.1 5 = .ok (.iconst 1, 1) := by decide +kernel
theorem d_Mo_has_6 : decode M_Mo_has.2.1 6 = .ok (.if_icmp .ne 7, 3) := by decide +kernel
theorem d_Mo_has_9 : decode M_Mo_has.2.1 9 = .ok (.iconst 1, 1) := by decide +kernel
theorem d_Mo_has_10 : decode M_Mo_has.2.1 10 = .ok (.goto 4, 3) := by decide +kernel
theorem d_Mo_has_13 : decode M_Mo_has.2.1 13 = .ok (.iconst 0, 1) := by decide +kernel
theorem d_Mo_has_14 : decode M_Mo_has.2.1 14 = .ok (.ireturn, 1) := by decide +kernel
theorem d_Mo_bitsOf_0 : decode M_Mo_bitsOf.2.1 0 = .ok (.iconst 0, 1) := by decide +kernel
theorem d_Mo_bitsOf_1 : decode M_Mo_bitsOf.2.1 1 = .ok (.istore_n 1, 1) := by decide +kernel
theorem d_Mo_bitsOf_2 : decode M_Mo_bitsOf.2.1 2 = .ok (.iconst 0, 1) := by decide +kernel
theorem d_Mo_bitsOf_3 : decode M_Mo_bitsOf.2.1 3 = .ok (.istore_n 2, 1) := by decide +kernel
theorem d_Mo_bitsOf_4 : decode M_Mo_bitsOf.2.1 4 = .ok (.iload_n 2, 1) := by decide +kernel
theorem d_Mo_bitsOf_5 : decode M_Mo_bitsOf.2.1 5 = .ok (.bipush 8, 2) := by decide +kernel
theorem d_Mo_bitsOf_7 : decode M_Mo_bitsOf.2.1 7 = .ok (.if_icmp .ge 17, 3) := by decide +kernel
theorem d_Mo_bitsOf_10 : decode M_Mo_bitsOf.2.1 10 = .ok (.iload_n 1, 1) := by decide +kernel
theorem d_Mo_bitsOf_11 : decode M_Mo_bitsOf.2.1 11 = .ok (.iload_n 0, 1) := by decide +kernel
theorem d_Mo_bitsOf_12 : decode M_Mo_bitsOf.2.1 12 = .ok (.iload_n 2, 1) := by decide +kernel
theorem d_Mo_bitsOf_13 : decode M_Mo_bitsOf.2.1 13 = .ok (.ishr, 1) := by decide +kernel
theorem d_Mo_bitsOf_14 : decode M_Mo_bitsOf.2.1 14 = .ok (.iconst 1, 1) := by decide +kernel
theorem d_Mo_bitsOf_15 : decode M_Mo_bitsOf.2.1 15 = .ok (.iand, 1) := by decide +kernel
theorem d_Mo_bitsOf_16 : decode M_Mo_bitsOf.2.1 16 = .ok (.iadd, 1) := by decide +kernel
theorem d_Mo_bitsOf_17 : decode M_Mo_bitsOf.2.1 17 = .ok (.istore_n 1, 1) := by decide +kernel
theorem d_Mo_bitsOf_18 : decode M_Mo_bitsOf.2.1 18 = .ok (.iinc 2 1, 3) := by decide +kernel
theorem d_Mo_bitsOf_21 : decode M_Mo_bitsOf.2.1 21 = .ok (.goto (-17), 3) := by decide +kernel
theorem d_Mo_bitsOf_24 : decode M_Mo_bitsOf.2.1 24 = .ok (.iload_n 1, 1) := by decide +kernel
theorem d_Mo_bitsOf_25 : decode M_Mo_bitsOf.2.1 25 = .ok (.ireturn, 1) := by decide +kernel
theorem d_Mo_type_0 : decode M_Mo_type.2.1 0 = .ok (.iload_n 1, 1) := by decide +kernel
theorem d_Mo_type_1 : decode M_Mo_type.2.1 1 = .ok (.iconst 0, 1) := by decide +kernel
theorem d_Mo_type_2 : decode M_Mo_type.2.1 2 = .ok (.sipush 255, 3) := by decide +kernel
theorem d_Mo_type_5 : decode M_Mo_type.2.1 5 = .ok (.invokestatic 78, 3) := by decide +kernel
theorem d_Mo_type_8 : decode M_Mo_type.2.1 8 = .ok (.ifCond .ne 5, 3) := by decide +kernel
theorem d_Mo_type_11 : decode M_Mo_type.2.1 11 = .ok (.iconst (-1), 1) := by decide +kernel
theorem d_Mo_type_12 : decode M_Mo_type.2.1 12 = .ok (.ireturn, 1) := by decide +kernel
theorem d_Mo_type_13 : decode M_Mo_type.2.1 13 = .ok (.aload_n 0, 1) := by decide +kernel
theorem d_Mo_type_14 : decode M_Mo_type.2.1 14 = .ok (.getfield 82, 3) := by decide +kernel
theorem d_Mo_type_17 : decode M_Mo_type.2.1 17 = .ok (.bipush 120, 2) := by decide +kernel
theorem d_Mo_type_19 : decode M_Mo_type.2.1 19 = .ok (.if_icmp .ne 6, 3) := by decide +kernel
theorem d_Mo_type_22 : decode M_Mo_type.2.1 22 = .ok (.bipush (-3), 2) := by decide +kernel
theorem d_Mo_type_24 : decode M_Mo_type.2.1 24 = .ok (.ireturn, 1) := by decide +kernel
theorem d_Mo_type_25 : decode M_Mo_type.2.1 25 = .ok (.aload_n 0, 1) := by decide +kernel
theorem d_Mo_type_26 : decode M_Mo_type.2.1 26 = .ok (.getfield 7, 3) := by decide +kernel
theorem d_Mo_type_29 : decode M_Mo_type.2.1 29 = .ok (.aload_n 0, 1) := by decide +kernel
theorem d_Mo_type_30 : decode M_Mo_type.2.1 30 = .ok (.getfield 82, 3) := by decide +kernel
theorem d_Mo_type_33 : decode M_Mo_type.2.1 33 = .ok (.iload_n 1, 1) := by decide +kernel
theorem d_Mo_type_34 : decode M_Mo_type.2.1 34 = .ok (.i2b, 1) := by decide +kernel
theorem d_Mo_type_35 : decode M_Mo_type.2.1 35 = .ok (.bastore, 1) := by decide +kernel
theorem d_Mo_type_36 : decode M_Mo_type.2.1 36 = .ok (.aload_n 0, 1) := by decide +kernel
theorem d_Mo_type_37 : decode M_Mo_type.2.1 37 = .ok (.dup, 1) := by decide +kernel
theorem d_Mo_type_38 : decode M_Mo_type.2.1 38 = .ok (.getfield 82, 3) := by decide +kernel
theorem d_Mo_type_41 : decode M_Mo_type.2.1 41 = .ok (.iconst 1, 1) := by decide +kernel
theorem d_Mo_type_42 : decode M_Mo_type.2.1 42 = .ok (.iadd, 1) := by decide +kernel
theorem d_Mo_type_43 : decode M_Mo_type.2.1 43 = .ok (.putfield 82, 3) := by decide +kernel
theorem d_Mo_type_46 : decode M_Mo_type.2.1 46 = .ok (.aload_n 0, 1) := by decide +kernel
theorem d_Mo_type_47 : decode M_Mo_type.2.1 47 = .ok (.getfield 82, 3) := by decide +kernel
theorem d_Mo_type_50 : decode M_Mo_type.2.1 50 = .ok (.ireturn, 1) := by decide +kernel
theorem d_Mo_clear_0 : decode M_Mo_clear.2.1 0 = .ok (.aload_n 0, 1) := by decide +kernel
theorem d_Mo_clear_1 : decode M_Mo_clear.2.1 1 = .ok (.getfield 82, 3) := by decide +kernel
theorem d_Mo_clear_4 : decode M_Mo_clear.2.1 4 = .ok (.istore_n 1, 1) := by decide +kernel
theorem d_Mo_clear_5 : decode M_Mo_clear.2.1 5 = .ok (.aload_n 0, 1) := by decide +kernel
theorem d_Mo_clear_6 : decode M_Mo_clear.2.1 6 = .ok (.iconst 0, 1) := by decide +kernel
theorem d_Mo_clear_7 : decode M_Mo_clear.2.1 7 = .ok (.putfield 82, 3) := by decide +kernel
theorem d_Mo_clear_10 : decode M_Mo_clear.2.1 10 = .ok (.iload_n 1, 1) := by decide +kernel
theorem d_Mo_clear_11 : decode M_Mo_clear.2.1 11 = .ok (.ireturn, 1) := by decide +kernel
theorem d_Mo_here_0 : decode M_Mo_here.2.1 0 = .ok (.aload_n 0, 1) := by decide +kernel
theorem d_Mo_here_1 : decode M_Mo_here.2.1 1 = .ok (.getfield 86, 3) := by decide +kernel
theorem d_Mo_here_4 : decode M_Mo_here.2.1 4 = .ok (.aload_n 0, 1) := by decide +kernel
theorem d_Mo_here_5 : decode M_Mo_here.2.1 5 = .ok (.getfield 82, 3) := by decide +kernel
theorem d_Mo_here_8 : decode M_Mo_here.2.1 8 = .ok (.if_icmp .ge 19, 3) := by decide +kernel
theorem d_Mo_here_11 : decode M_Mo_here.2.1 11 = .ok (.aload_n 0, 1) := by decide +kernel
theorem d_Mo_here_12 : decode M_Mo_here.2.1 12 = .ok (.getfield 7, 3) := by decide +kernel
theorem d_Mo_here_15 : decode M_Mo_here.2.1 15 = .ok (.aload_n 0, 1) := by decide +kernel
theorem d_Mo_here_16 : decode M_Mo_here.2.1 16 = .ok (.getfield 86, 3) := by decide +kernel
theorem d_Mo_here_19 : decode M_Mo_here.2.1 19 = .ok (.baload, 1) := by decide +kernel
theorem d_Mo_here_20 : decode M_Mo_here.2.1 20 = .ok (.sipush 255, 3) := by decide +kernel
theorem d_Mo_here_23 : decode M_Mo_here.2.1 23 = .ok (.iand, 1) := by decide +kernel
theorem d_Mo_here_24 : decode M_Mo_here.2.1 24 = .ok (.goto 5, 3) := by decide +kernel
theorem d_Mo_here_27 : decode M_Mo_here.2.1 27 = .ok (.bipush (-9), 2) := by decide +kernel
theorem d_Mo_here_29 : decode M_Mo_here.2.1 29 = .ok (.ireturn, 1) := by decide +kernel
theorem d_Mo_step_0 : decode M_Mo_step.2.1 0 = .ok (.aload_n 0, 1) := by decide +kernel
theorem d_Mo_step_1 : decode M_Mo_step.2.1 1 = .ok (.invokevirtual 89, 3) := by decide +kernel
theorem d_Mo_step_4 : decode M_Mo_step.2.1 4 = .ok (.bipush 32, 2) := by decide +kernel
theorem d_Mo_step_6 : decode M_Mo_step.2.1 6 = .ok (.if_icmp .ne 16, 3) := by decide +kernel
theorem d_Mo_step_9 : decode M_Mo_step.2.1 9 = .ok (.aload_n 0, 1) := by decide +kernel
theorem d_Mo_step_10 : decode M_Mo_step.2.1 10 = .ok (.dup, 1) := by decide +kernel
theorem d_Mo_step_11 : decode M_Mo_step.2.1 11 = .ok (.getfield 86, 3) := by decide +kernel
theorem d_Mo_step_14 : decode M_Mo_step.2.1 14 = .ok (.iconst 1, 1) := by decide +kernel
theorem d_Mo_step_15 : decode M_Mo_step.2.1 15 = .ok (.iadd, 1) := by decide +kernel
theorem d_Mo_step_16 : decode M_Mo_step.2.1 16 = .ok (.putfield 86, 3) := by decide +kernel
theorem d_Mo_step_19 : decode M_Mo_step.2.1 19 = .ok (.goto (-19), 3) := by decide +kernel
theorem d_Mo_step_22 : decode M_Mo_step.2.1 22 = .ok (.aload_n 0, 1) := by decide +kernel
theorem d_Mo_step_23 : decode M_Mo_step.2.1 23 = .ok (.aload_n 0, 1) := by decide +kernel
theorem d_Mo_step_24 : decode M_Mo_step.2.1 24 = .ok (.getfield 86, 3) := by decide +kernel
theorem d_Mo_step_27 : decode M_Mo_step.2.1 27 = .ok (.putfield 93, 3) := by decide +kernel
theorem d_Mo_step_30 : decode M_Mo_step.2.1 30 = .ok (.aload_n 0, 1) := by decide +kernel
theorem d_Mo_step_31 : decode M_Mo_step.2.1 31 = .ok (.iconst 0, 1) := by decide +kernel
theorem d_Mo_step_32 : decode M_Mo_step.2.1 32 = .ok (.putfield 96, 3) := by decide +kernel
theorem d_Mo_step_35 : decode M_Mo_step.2.1 35 = .ok (.aload_n 0, 1) := by decide +kernel
theorem d_Mo_step_36 : decode M_Mo_step.2.1 36 = .ok (.invokevirtual 89, 3) := by decide +kernel
theorem d_Mo_step_39 : decode M_Mo_step.2.1 39 = .ok (.istore_n 1, 1) := by decide +kernel
theorem d_Mo_step_40 : decode M_Mo_step.2.1 40 = .ok (.iload_n 1, 1) := by decide +kernel
theorem d_Mo_step_41 : decode M_Mo_step.2.1 41 = .ok (.bipush (-9), 2) := by decide +kernel
theorem d_Mo_step_43 : decode M_Mo_step.2.1 43 = .ok (.if_icmp .ne 11, 3) := by decide +kernel
theorem d_Mo_step_46 : decode M_Mo_step.2.1 46 = .ok (.aload_n 0, 1) := by decide +kernel
theorem d_Mo_step_47 : decode M_Mo_step.2.1 47 = .ok (.iconst 4, 1) := by decide +kernel
theorem d_Mo_step_48 : decode M_Mo_step.2.1 48 = .ok (.putfield 99, 3) := by decide +kernel
theorem d_Mo_step_51 : decode M_Mo_step.2.1 51 = .ok (.goto 209, 3) := by decide +kernel
theorem d_Mo_step_54 : decode M_Mo_step.2.1 54 = .ok (.iload_n 1, 1) := by decide +kernel
theorem d_Mo_step_55 : decode M_Mo_step.2.1 55 = .ok (.bipush 48, 2) := by decide +kernel
theorem d_Mo_step_57 : decode M_Mo_step.2.1 57 = .ok (.bipush 57, 2) := by decide +kernel
theorem d_Mo_step_59 : decode M_Mo_step.2.1 59 = .ok (.invokestatic 78, 3) := by decide +kernel
theorem d_Mo_step_62 : decode M_Mo_step.2.1 62 = .ok (.ifCond .eq 105, 3) := by decide +kernel
theorem d_Mo_step_65 : decode M_Mo_step.2.1 65 = .ok (.aload_n 0, 1) := by decide +kernel
theorem d_Mo_step_66 : decode M_Mo_step.2.1 66 = .ok (.invokevirtual 89, 3) := by decide +kernel
theorem d_Mo_step_69 : decode M_Mo_step.2.1 69 = .ok (.bipush 48, 2) := by decide +kernel
theorem d_Mo_step_71 : decode M_Mo_step.2.1 71 = .ok (.bipush 57, 2) := by decide +kernel
theorem d_Mo_step_73 : decode M_Mo_step.2.1 73 = .ok (.invokestatic 78, 3) := by decide +kernel
theorem d_Mo_step_76 : decode M_Mo_step.2.1 76 = .ok (.ifCond .eq 51, 3) := by decide +kernel
theorem d_Mo_step_79 : decode M_Mo_step.2.1 79 = .ok (.aload_n 0, 1) := by decide +kernel
theorem d_Mo_step_80 : decode M_Mo_step.2.1 80 = .ok (.aload_n 0, 1) := by decide +kernel
theorem d_Mo_step_81 : decode M_Mo_step.2.1 81 = .ok (.getfield 96, 3) := by decide +kernel
theorem d_Mo_step_84 : decode M_Mo_step.2.1 84 = .ok (.bipush 99, 2) := by decide +kernel
theorem d_Mo_step_86 : decode M_Mo_step.2.1 86 = .ok (.if_icmp .le 10, 3) := by decide +kernel
theorem d_Mo_step_89 : decode M_Mo_step.2.1 89 = .ok (.aload_n 0, 1) := by decide +kernel
theorem d_Mo_step_90 : decode M_Mo_step.2.1 90 = .ok (.getfield 96, 3) := by decide +kernel
theorem d_Mo_step_93 : decode M_Mo_step.2.1 93 = .ok (.goto 18, 3) := by decide +kernel
theorem d_Mo_step_96 : decode M_Mo_step.2.1 96 = .ok (.bipush 10, 2) := by decide +kernel
theorem d_Mo_step_98 : decode M_Mo_step.2.1 98 = .ok (.aload_n 0, 1) := by decide +kernel
theorem d_Mo_step_99 : decode M_Mo_step.2.1 99 = .ok (.getfield 96, 3) := by decide +kernel
theorem d_Mo_step_102 : decode M_Mo_step.2.1 102 = .ok (.imul, 1) := by decide +kernel
theorem d_Mo_step_103 : decode M_Mo_step.2.1 103 = .ok (.aload_n 0, 1) := by decide +kernel
theorem d_Mo_step_104 : decode M_Mo_step.2.1 104 = .ok (.invokevirtual 89, 3) := by decide +kernel
theorem d_Mo_step_107 : decode M_Mo_step.2.1 107 = .ok (.iadd, 1) := by decide +kernel
theorem d_Mo_step_108 : decode M_Mo_step.2.1 108 = .ok (.bipush 48, 2) := by decide +kernel
theorem d_Mo_step_110 : decode M_Mo_step.2.1 110 = .ok (.isub, 1) := by decide +kernel
theorem d_Mo_step_111 : decode M_Mo_step.2.1 111 = .ok (.putfield 96, 3) := by decide +kernel
theorem d_Mo_step_114 : decode M_Mo_step.2.1 114 = .ok (.aload_n 0, 1) := by decide +kernel
theorem d_Mo_step_115 : decode M_Mo_step.2.1 115 = .ok (.dup, 1) := by decide +kernel
theorem d_Mo_step_116 : decode M_Mo_step.2.1 116 = .ok (.getfield 86, 3) := by decide +kernel
theorem d_Mo_step_119 : decode M_Mo_step.2.1 119 = .ok (.iconst 1, 1) := by decide +kernel
theorem d_Mo_step_120 : decode M_Mo_step.2.1 120 = .ok (.iadd, 1) := by decide +kernel
theorem d_Mo_step_121 : decode M_Mo_step.2.1 121 = .ok (.putfield 86, 3) := by decide +kernel
theorem d_Mo_step_124 : decode M_Mo_step.2.1 124 = .ok (.goto (-59), 3) := by decide +kernel
theorem d_Mo_step_127 : decode M_Mo_step.2.1 127 = .ok (.aload_n 0, 1) := by decide +kernel
theorem d_Mo_step_128 : decode M_Mo_step.2.1 128 = .ok (.aload_n 0, 1) := by decide +kernel
theorem d_Mo_step_129 : decode M_Mo_step.2.1 129 = .ok (.getfield 96, 3) := by decide +kernel
theorem d_Mo_step_132 : decode M_Mo_step.2.1 132 = .ok (.bipush 99, 2) := by decide +kernel
theorem d_Mo_step_134 : decode M_Mo_step.2.1 134 = .ok (.if_icmp .gt 22, 3) := by decide +kernel
theorem d_Mo_step_137 : decode M_Mo_step.2.1 137 = .ok (.iload_n 1, 1) := by decide +kernel
theorem d_Mo_step_138 : decode M_Mo_step.2.1 138 = .ok (.bipush 48, 2) := by decide +kernel
theorem d_Mo_step_140 : decode M_Mo_step.2.1 140 = .ok (.if_icmp .ne 20, 3) := by decide +kernel
theorem d_Mo_step_143 : decode M_Mo_step.2.1 143 = .ok (.aload_n 0, 1) := by decide +kernel
theorem d_Mo_step_144 : decode M_Mo_step.2.1 144 = .ok (.getfield 86, 3) := by decide +kernel
theorem d_Mo_step_147 : decode M_Mo_step.2.1 147 = .ok (.aload_n 0, 1) := by decide +kernel
theorem d_Mo_step_148 : decode M_Mo_step.2.1 148 = .ok (.getfield 93, 3) := by decide +kernel
theorem d_Mo_step_151 : decode M_Mo_step.2.1 151 = .ok (.isub, 1) := by decide +kernel
theorem d_Mo_step_152 : decode M_Mo_step.2.1 152 = .ok (.iconst 1, 1) := by decide +kernel
theorem d_Mo_step_153 : decode M_Mo_step.2.1 153 = .ok (.if_icmp .le 7, 3) := by decide +kernel
theorem d_Mo_step_156 : decode M_Mo_step.2.1 156 = .ok (.iconst 5, 1) := by decide +kernel
theorem d_Mo_step_157 : decode M_Mo_step.2.1 157 = .ok (.goto 4, 3) := by decide +kernel
theorem d_Mo_step_160 : decode M_Mo_step.2.1 160 = .ok (.iconst 2, 1) := by decide +kernel
theorem d_Mo_step_161 : decode M_Mo_step.2.1 161 = .ok (.putfield 99, 3) := by decide +kernel
theorem d_Mo_step_164 : decode M_Mo_step.2.1 164 = .ok (.goto 96, 3) := by decide +kernel
theorem d_Mo_step_167 : decode M_Mo_step.2.1 167 = .ok (.iload_n 1, 1) := by decide +kernel
theorem d_Mo_step_168 : decode M_Mo_step.2.1 168 = .ok (.bipush 97, 2) := by decide +kernel
theorem d_Mo_step_170 : decode M_Mo_step.2.1 170 = .ok (.bipush 122, 2) := by decide +kernel
theorem d_Mo_step_172 : decode M_Mo_step.2.1 172 = .ok (.invokestatic 78, 3) := by decide +kernel
theorem d_Mo_step_175 : decode M_Mo_step.2.1 175 = .ok (.ifCond .eq 60, 3) := by decide +kernel
theorem d_Mo_step_178 : decode M_Mo_step.2.1 178 = .ok (.aload_n 0, 1) := by decide +kernel
theorem d_Mo_step_179 : decode M_Mo_step.2.1 179 = .ok (.invokevirtual 89, 3) := by decide +kernel
theorem d_Mo_step_182 : decode M_Mo_step.2.1 182 = .ok (.bipush 97, 2) := by decide +kernel
theorem d_Mo_step_184 : decode M_Mo_step.2.1 184 = .ok (.bipush 122, 2) := by decide +kernel
theorem d_Mo_step_186 : decode M_Mo_step.2.1 186 = .ok (.invokestatic 78, 3) := by decide +kernel
theorem d_Mo_step_189 : decode M_Mo_step.2.1 189 = .ok (.ifCond .eq 16, 3) := by decide +kernel
theorem d_Mo_step_192 : decode M_Mo_step.2.1 192 = .ok (.aload_n 0, 1) := by decide +kernel
theorem d_Mo_step_193 : decode M_Mo_step.2.1 193 = .ok (.dup, 1) := by decide +kernel
theorem d_Mo_step_194 : decode M_Mo_step.2.1 194 = .ok (.getfield 86, 3) := by decide +kernel
theorem d_Mo_step_197 : decode M_Mo_step.2.1 197 = .ok (.iconst 1, 1) := by decide +kernel
theorem d_Mo_step_198 : decode M_Mo_step.2.1 198 = .ok (.iadd, 1) := by decide +kernel
theorem d_Mo_step_199 : decode M_Mo_step.2.1 199 = .ok (.putfield 86, 3) := by decide +kernel
theorem d_Mo_step_202 : decode M_Mo_step.2.1 202 = .ok (.goto (-24), 3) := by decide +kernel
theorem d_Mo_step_205 : decode M_Mo_step.2.1 205 = .ok (.aload_n 0, 1) := by decide +kernel
theorem d_Mo_step_206 : decode M_Mo_step.2.1 206 = .ok (.aload_n 0, 1) := by decide +kernel
theorem d_Mo_step_207 : decode M_Mo_step.2.1 207 = .ok (.getfield 86, 3) := by decide +kernel
theorem d_Mo_step_210 : decode M_Mo_step.2.1 210 = .ok (.aload_n 0, 1) := by decide +kernel
theorem d_Mo_step_211 : decode M_Mo_step.2.1 211 = .ok (.getfield 93, 3) := by decide +kernel
theorem d_Mo_step_214 : decode M_Mo_step.2.1 214 = .ok (.isub, 1) := by decide +kernel
theorem d_Mo_step_215 : decode M_Mo_step.2.1 215 = .ok (.iconst 1, 1) := by decide +kernel
theorem d_Mo_step_216 : decode M_Mo_step.2.1 216 = .ok (.if_icmp .ne 7, 3) := by decide +kernel
theorem d_Mo_step_219 : decode M_Mo_step.2.1 219 = .ok (.iload_n 1, 1) := by decide +kernel
theorem d_Mo_step_220 : decode M_Mo_step.2.1 220 = .ok (.goto 4, 3) := by decide +kernel
theorem d_Mo_step_223 : decode M_Mo_step.2.1 223 = .ok (.iconst 0, 1) := by decide +kernel
theorem d_Mo_step_224 : decode M_Mo_step.2.1 224 = .ok (.putfield 96, 3) := by decide +kernel
theorem d_Mo_step_227 : decode M_Mo_step.2.1 227 = .ok (.aload_n 0, 1) := by decide +kernel
theorem d_Mo_step_228 : decode M_Mo_step.2.1 228 = .ok (.iconst 1, 1) := by decide +kernel
theorem d_Mo_step_229 : decode M_Mo_step.2.1 229 = .ok (.putfield 99, 3) := by decide +kernel
theorem d_Mo_step_232 : decode M_Mo_step.2.1 232 = .ok (.goto 28, 3) := by decide +kernel
theorem d_Mo_step_235 : decode M_Mo_step.2.1 235 = .ok (.aload_n 0, 1) := by decide +kernel
theorem d_Mo_step_236 : decode M_Mo_step.2.1 236 = .ok (.dup, 1) := by decide +kernel
theorem d_Mo_step_237 : decode M_Mo_step.2.1 237 = .ok (.getfield 86, 3) := by decide +kernel
theorem d_Mo_step_240 : decode M_Mo_step.2.1 240 = .ok (.iconst 1, 1) := by decide +kernel
theorem d_Mo_step_241 : decode M_Mo_step.2.1 241 = .ok (.iadd, 1) := by decide +kernel
theorem d_Mo_step_242 : decode M_Mo_step.2.1 242 = .ok (.putfield 86, 3) := by decide +kernel
theorem d_Mo_step_245 : decode M_Mo_step.2.1 245 = .ok (.aload_n 0, 1) := by decide +kernel
theorem d_Mo_step_246 : decode M_Mo_step.2.1 246 = .ok (.iload_n 1, 1) := by decide +kernel
theorem d_Mo_step_247 : decode M_Mo_step.2.1 247 = .ok (.bipush 59, 2) := by decide +kernel
theorem d_Mo_step_249 : decode M_Mo_step.2.1 249 = .ok (.if_icmp .ne 7, 3) := by decide +kernel
theorem d_Mo_step_252 : decode M_Mo_step.2.1 252 = .ok (.iconst 3, 1) := by decide +kernel
theorem d_Mo_step_253 : decode M_Mo_step.2.1 253 = .ok (.goto 4, 3) := by decide +kernel
theorem d_Mo_step_256 : decode M_Mo_step.2.1 256 = .ok (.iconst 5, 1) := by decide +kernel
theorem d_Mo_step_257 : decode M_Mo_step.2.1 257 = .ok (.putfield 99, 3) := by decide +kernel
theorem d_Mo_step_260 : decode M_Mo_step.2.1 260 = .ok (.return_, 1) := by decide +kernel
theorem d_Mo_due_0 : decode M_Mo_due.2.1 0 = .ok (.aload_n 0, 1) := by decide +kernel
theorem d_Mo_due_1 : decode M_Mo_due.2.1 1 = .ok (.getfield 102, 3) := by decide +kernel
theorem d_Mo_due_4 : decode M_Mo_due.2.1 4 = .ok (.ifCond .eq 4, 3) := by decide +kernel
theorem d_Mo_due_7 : decode M_Mo_due.2.1 7 = .ok (.return_, 1) := by decide +kernel
theorem d_Mo_due_8 : decode M_Mo_due.2.1 8 = .ok (.iload_n 1, 1) := by decide +kernel
theorem d_Mo_due_9 : decode M_Mo_due.2.1 9 = .ok (.ifCond .eq 10, 3) := by decide +kernel
theorem d_Mo_due_12 : decode M_Mo_due.2.1 12 = .ok (.aload_n 0, 1) := by decide +kernel
theorem d_Mo_due_13 : decode M_Mo_due.2.1 13 = .ok (.invokevirtual 106, 3) := by decide +kernel
theorem d_Mo_due_16 : decode M_Mo_due.2.1 16 = .ok (.goto 8, 3) := by decide +kernel
theorem d_Mo_due_19 : decode M_Mo_due.2.1 19 = .ok (.aload_n 0, 1) := by decide +kernel
theorem d_Mo_due_20 : decode M_Mo_due.2.1 20 = .ok (.iconst 1, 1) := by decide +kernel
theorem d_Mo_due_21 : decode M_Mo_due.2.1 21 = .ok (.putfield 102, 3) := by decide +kernel
theorem d_Mo_due_24 : decode M_Mo_due.2.1 24 = .ok (.return_, 1) := by decide +kernel
theorem d_Mo_number_0 : decode M_Mo_number.2.1 0 = .ok (.aload_n 0, 1) := by decide +kernel
theorem d_Mo_number_1 : decode M_Mo_number.2.1 1 = .ok (.getfield 96, 3) := by decide +kernel
theorem d_Mo_number_4 : decode M_Mo_number.2.1 4 = .ok (.istore_n 3, 1) := by decide +kernel
theorem d_Mo_number_5 : decode M_Mo_number.2.1 5 = .ok (.aload_n 0, 1) := by decide +kernel
theorem d_Mo_number_6 : decode M_Mo_number.2.1 6 = .ok (.aload_n 0, 1) := by decide +kernel
theorem d_Mo_number_7 : decode M_Mo_number.2.1 7 = .ok (.getfield 99, 3) := by decide +kernel
theorem d_Mo_number_10 : decode M_Mo_number.2.1 10 = .ok (.iconst 2, 1) := by decide +kernel
theorem d_Mo_number_11 : decode M_Mo_number.2.1 11 = .ok (.if_icmp .ne 16, 3) := by decide +kernel
theorem d_Mo_number_14 : decode M_Mo_number.2.1 14 = .ok (.iload_n 3, 1) := by decide +kernel
theorem d_Mo_number_15 : decode M_Mo_number.2.1 15 = .ok (.iload_n 1, 1) := by decide +kernel
theorem d_Mo_number_16 : decode M_Mo_number.2.1 16 = .ok (.iload_n 2, 1) := by decide +kernel
theorem d_Mo_number_17 : decode M_Mo_number.2.1 17 = .ok (.invokestatic 78, 3) := by decide +kernel
theorem d_Mo_number_20 : decode M_Mo_number.2.1 20 = .ok (.ifCond .eq 7, 3) := by decide +kernel
theorem d_Mo_number_23 : decode M_Mo_number.2.1 23 = .ok (.iconst 1, 1) := by decide +kernel
theorem d_Mo_number_24 : decode M_Mo_number.2.1 24 = .ok (.goto 4, 3) := by decide +kernel
theorem d_Mo_number_27 : decode M_Mo_number.2.1 27 = .ok (.iconst 0, 1) := by decide +kernel
theorem d_Mo_number_28 : decode M_Mo_number.2.1 28 = .ok (.invokevirtual 109, 3) := by decide +kernel
theorem d_Mo_number_31 : decode M_Mo_number.2.1 31 = .ok (.iload_n 3, 1) := by decide +kernel
theorem d_Mo_number_32 : decode M_Mo_number.2.1 32 = .ok (.ireturn, 1) := by decide +kernel
theorem d_Mo_item_0 : decode M_Mo_item.2.1 0 = .ok (.iload_n 1, 1) := by decide +kernel
theorem d_Mo_item_1 : decode M_Mo_item.2.1 1 = .ok (.lookupswitch 187 #[(112, 73), (116, 137), (119, 35)], 35) := by decide +kernel
theorem d_Mo_item_36 : decode M_Mo_item.2.1 36 = .ok (.aload_n 0, 1) := by decide +kernel
theorem d_Mo_item_37 : decode M_Mo_item.2.1 37 = .ok (.iconst 1, 1) := by decide +kernel
theorem d_Mo_item_38 : decode M_Mo_item.2.1 38 = .ok (.bipush 9, 2) := by decide +kernel
theorem d_Mo_item_40 : decode M_Mo_item.2.1 40 = .ok (.invokevirtual 113, 3) := by decide +kernel
theorem d_Mo_item_43 : decode M_Mo_item.2.1 43 = .ok (.istore_n 2, 1) := by decide +kernel
theorem d_Mo_item_44 : decode M_Mo_item.2.1 44 = .ok (.aload_n 0, 1) := by decide +kernel
theorem d_Mo_item_45 : decode M_Mo_item.2.1 45 = .ok (.iconst 0, 1) := by decide +kernel
theorem d_Mo_item_46 : decode M_Mo_item.2.1 46 = .ok (.bipush 6, 2) := by decide +kernel
theorem d_Mo_item_48 : decode M_Mo_item.2.1 48 = .ok (.invokevirtual 113, 3) := by decide +kernel
theorem d_Mo_item_51 : decode M_Mo_item.2.1 51 = .ok (.istore_n 3, 1) := by decide +kernel
theorem d_Mo_item_52 : decode M_Mo_item.2.1 52 = .ok (.aload_n 0, 1) := by decide +kernel
theorem d_Mo_item_53 : decode M_Mo_item.2.1 53 = .ok (.getfield 102, 3) := by decide +kernel
theorem d_Mo_item_56 : decode M_Mo_item.2.1 56 = .ok (.ifCond .ne 150, 3) := by decide +kernel
theorem d_Mo_item_59 : decode M_Mo_item.2.1 59 = .ok (.aload_n 0, 1) := by decide +kernel
theorem d_Mo_item_60 : decode M_Mo_item.2.1 60 = .ok (.getfield 13, 3) := by decide +kernel
theorem d_Mo_item_63 : decode M_Mo_item.2.1 63 = .ok (.bipush 10, 2) := by decide +kernel
theorem d_Mo_item_65 : decode M_Mo_item.2.1 65 = .ok (.iload_n 2, 1) := by decide +kernel
theorem d_Mo_item_66 : decode M_Mo_item.2.1 66 = .ok (.iadd, 1) := by decide +kernel
theorem d_Mo_item_67 : decode M_Mo_item.2.1 67 = .ok (.iload_n 3, 1) := by decide +kernel
theorem d_Mo_item_68 : decode M_Mo_item.2.1 68 = .ok (.iconst 3, 1) := by decide +kernel
theorem d_Mo_item_69 : decode M_Mo_item.2.1 69 = .ok (.isub, 1) := by decide +kernel
theorem d_Mo_item_70 : decode M_Mo_item.2.1 70 = .ok (.iastore, 1) := by decide +kernel
theorem d_Mo_item_71 : decode M_Mo_item.2.1 71 = .ok (.goto 135, 3) := by decide +kernel
theorem d_Mo_item_74 : decode M_Mo_item.2.1 74 = .ok (.iconst 3, 1) := by decide +kernel
theorem d_Mo_item_75 : decode M_Mo_item.2.1 75 = .ok (.aload_n 0, 1) := by decide +kernel
theorem d_Mo_item_76 : decode M_Mo_item.2.1 76 = .ok (.getfield 17, 3) := by decide +kernel
theorem d_Mo_item_79 : decode M_Mo_item.2.1 79 = .ok (.iconst 1, 1) := by decide +kernel
theorem d_Mo_item_80 : decode M_Mo_item.2.1 80 = .ok (.iaload, 1) := by decide +kernel
theorem d_Mo_item_81 : decode M_Mo_item.2.1 81 = .ok (.iadd, 1) := by decide +kernel
theorem d_Mo_item_82 : decode M_Mo_item.2.1 82 = .ok (.istore 4, 2) := by decide +kernel
theorem d_Mo_item_84 : decode M_Mo_item.2.1 84 = .ok (.aload_n 0, 1) := by decide +kernel
theorem d_Mo_item_85 : decode M_Mo_item.2.1 85 = .ok (.getfield 20, 3) := by decide +kernel
theorem d_Mo_item_88 : decode M_Mo_item.2.1 88 = .ok (.iload 4, 2) := by decide +kernel
theorem d_Mo_item_90 : decode M_Mo_item.2.1 90 = .ok (.aload_n 0, 1) := by decide +kernel
theorem d_Mo_item_91 : decode M_Mo_item.2.1 91 = .ok (.iconst 0, 1) := by decide +kernel
theorem d_Mo_item_92 : decode M_Mo_item.2.1 92 = .ok (.bipush 9, 2) := by decide +kernel
theorem d_Mo_item_94 : decode M_Mo_item.2.1 94 = .ok (.invokevirtual 113, 3) := by decide +kernel
theorem d_Mo_item_97 : decode M_Mo_item.2.1 97 = .ok (.iastore, 1) := by decide +kernel
theorem d_Mo_item_98 : decode M_Mo_item.2.1 98 = .ok (.aload_n 0, 1) := by decide +kernel
theorem d_Mo_item_99 : decode M_Mo_item.2.1 99 = .ok (.getfield 23, 3) := by decide +kernel
theorem d_Mo_item_102 : decode M_Mo_item.2.1 102 = .ok (.iload 4, 2) := by decide +kernel
theorem d_Mo_item_104 : decode M_Mo_item.2.1 104 = .ok (.aload_n 0, 1) := by decide +kernel
theorem d_Mo_item_105 : decode M_Mo_item.2.1 105 = .ok (.iconst 1, 1) := by decide +kernel
theorem d_Mo_item_106 : decode M_Mo_item.2.1 106 = .ok (.bipush 9, 2) := by decide +kernel
theorem d_Mo_item_108 : decode M_Mo_item.2.1 108 = .ok (.invokevirtual 113, 3) := by decide +kernel
theorem d_Mo_item_111 : decode M_Mo_item.2.1 111 = .ok (.iastore, 1) := by decide +kernel
theorem d_Mo_item_112 : decode M_Mo_item.2.1 112 = .ok (.aload_n 0, 1) := by decide +kernel
theorem d_Mo_item_113 : decode M_Mo_item.2.1 113 = .ok (.getfield 26, 3) := by decide +kernel
theorem d_Mo_item_116 : decode M_Mo_item.2.1 116 = .ok (.iload 4, 2) := by decide +kernel
theorem d_Mo_item_118 : decode M_Mo_item.2.1 118 = .ok (.aload_n 0, 1) := by decide +kernel
theorem d_Mo_item_119 : decode M_Mo_item.2.1 119 = .ok (.iconst 0, 1) := by decide +kernel
theorem d_Mo_item_120 : decode M_Mo_item.2.1 120 = .ok (.iconst 1, 1) := by decide +kernel
theorem d_Mo_item_121 : decode M_Mo_item.2.1 121 = .ok (.invokevirtual 113, 3) := by decide +kernel
theorem d_Mo_item_124 : decode M_Mo_item.2.1 124 = .ok (.iastore, 1) := by decide +kernel
theorem d_Mo_item_125 : decode M_Mo_item.2.1 125 = .ok (.aload_n 0, 1) := by decide +kernel
theorem d_Mo_item_126 : decode M_Mo_item.2.1 126 = .ok (.getfield 17, 3) := by decide +kernel
theorem d_Mo_item_129 : decode M_Mo_item.2.1 129 = .ok (.iconst 1, 1) := by decide +kernel
theorem d_Mo_item_130 : decode M_Mo_item.2.1 130 = .ok (.dup2, 1) := by decide +kernel
theorem d_Mo_item_131 : decode M_Mo_item.2.1 131 = .ok (.iaload, 1) := by decide +kernel
theorem d_Mo_item_132 : decode M_Mo_item.2.1 132 = .ok (.iconst 1, 1) := by decide +kernel
theorem d_Mo_item_133 : decode M_Mo_item.2.1 133 = .ok (.iadd, 1) := by decide +kernel
theorem d_Mo_item_134 : decode M_Mo_item.2.1 134 = .ok (.iastore, 1) := by decide +kernel
theorem d_Mo_item_135 : decode M_Mo_item.2.1 135 = .ok (.goto 71, 3) := by decide +kernel
theorem d_Mo_item_138 : decode M_Mo_item.2.1 138 = .ok (.iconst 4, 1) := by decide +kernel
theorem d_Mo_item_139 : decode M_Mo_item.2.1 139 = .ok (.aload_n 0, 1) := by decide +kernel
theorem d_Mo_item_140 : decode M_Mo_item.2.1 140 = .ok (.getfield 29, 3) := by decide +kernel
theorem d_Mo_item_143 : decode M_Mo_item.2.1 143 = .ok (.iconst 1, 1) := by decide +kernel
theorem d_Mo_item_144 : decode M_Mo_item.2.1 144 = .ok (.iaload, 1) := by decide +kernel
theorem d_Mo_item_145 : decode M_Mo_item.2.1 145 = .ok (.iadd, 1) := by decide +kernel
theorem d_Mo_item_146 : decode M_Mo_item.2.1 146 = .ok (.istore 5, 2) := by decide +kernel
theorem d_Mo_item_148 : decode M_Mo_item.2.1 148 = .ok (.aload_n 0, 1) := by decide +kernel
theorem d_Mo_item_149 : decode M_Mo_item.2.1 149 = .ok (.getfield 32, 3) := by decide +kernel
theorem d_Mo_item_152 : decode M_Mo_item.2.1 152 = .ok (.iload 5, 2) := by decide +kernel
theorem d_Mo_item_154 : decode M_Mo_item.2.1 154 = .ok (.aload_n 0, 1) := by decide +kernel
theorem d_Mo_item_155 : decode M_Mo_item.2.1 155 = .ok (.iconst 1, 1) := by decide +kernel
theorem d_Mo_item_156 : decode M_Mo_item.2.1 156 = .ok (.bipush 30, 2) := by decide +kernel
theorem d_Mo_item_158 : decode M_Mo_item.2.1 158 = .ok (.invokevirtual 113, 3) := by decide +kernel
theorem d_Mo_item_161 : decode M_Mo_item.2.1 161 = .ok (.iastore, 1) := by decide +kernel
theorem d_Mo_item_162 : decode M_Mo_item.2.1 162 = .ok (.aload_n 0, 1) := by decide +kernel
theorem d_Mo_item_163 : decode M_Mo_item.2.1 163 = .ok (.getfield 35, 3) := by decide +kernel
theorem d_Mo_item_166 : decode M_Mo_item.2.1 166 = .ok (.iload 5, 2) := by decide +kernel
theorem d_Mo_item_168 : decode M_Mo_item.2.1 168 = .ok (.aload_n 0, 1) := by decide +kernel
theorem d_Mo_item_169 : decode M_Mo_item.2.1 169 = .ok (.iconst 0, 1) := by decide +kernel
theorem d_Mo_item_170 : decode M_Mo_item.2.1 170 = .ok (.iconst 5, 1) := by decide +kernel
theorem d_Mo_item_171 : decode M_Mo_item.2.1 171 = .ok (.invokevirtual 113, 3) := by decide +kernel
theorem d_Mo_item_174 : decode M_Mo_item.2.1 174 = .ok (.iastore, 1) := by decide +kernel
theorem d_Mo_item_175 : decode M_Mo_item.2.1 175 = .ok (.aload_n 0, 1) := by decide +kernel
theorem d_Mo_item_176 : decode M_Mo_item.2.1 176 = .ok (.getfield 29, 3) := by decide +kernel
theorem d_Mo_item_179 : decode M_Mo_item.2.1 179 = .ok (.iconst 1, 1) := by decide +kernel
theorem d_Mo_item_180 : decode M_Mo_item.2.1 180 = .ok (.dup2, 1) := by decide +kernel
theorem d_Mo_item_181 : decode M_Mo_item.2.1 181 = .ok (.iaload, 1) := by decide +kernel
theorem d_Mo_item_182 : decode M_Mo_item.2.1 182 = .ok (.iconst 1, 1) := by decide +kernel
theorem d_Mo_item_183 : decode M_Mo_item.2.1 183 = .ok (.iadd, 1) := by decide +kernel
theorem d_Mo_item_184 : decode M_Mo_item.2.1 184 = .ok (.iastore, 1) := by decide +kernel
theorem d_Mo_item_185 : decode M_Mo_item.2.1 185 = .ok (.goto 21, 3) := by decide +kernel
theorem d_Mo_item_188 : decode M_Mo_item.2.1 188 = .ok (.aload_n 0, 1) := by decide +kernel
theorem d_Mo_item_189 : decode M_Mo_item.2.1 189 = .ok (.getfield 38, 3) := by decide +kernel
theorem d_Mo_item_192 : decode M_Mo_item.2.1 192 = .ok (.iconst 1, 1) := by decide +kernel
theorem d_Mo_item_193 : decode M_Mo_item.2.1 193 = .ok (.aload_n 0, 1) := by decide +kernel
theorem d_Mo_item_194 : decode M_Mo_item.2.1 194 = .ok (.iconst 0, 1) := by decide +kernel
theorem d_Mo_item_195 : decode M_Mo_item.2.1 195 = .ok (.bipush 40, 2) := by decide +kernel
theorem d_Mo_item_197 : decode M_Mo_item.2.1 197 = .ok (.invokevirtual 113, 3) := by decide +kernel
theorem d_Mo_item_200 : decode M_Mo_item.2.1 200 = .ok (.iastore, 1) := by decide +kernel
theorem d_Mo_item_201 : decode M_Mo_item.2.1 201 = .ok (.aload_n 0, 1) := by decide +kernel
theorem d_Mo_item_202 : decode M_Mo_item.2.1 202 = .ok (.iconst 1, 1) := by decide +kernel
theorem d_Mo_item_203 : decode M_Mo_item.2.1 203 = .ok (.putfield 117, 3) := by decide +kernel
theorem d_Mo_item_206 : decode M_Mo_item.2.1 206 = .ok (.return_, 1) := by decide +kernel
theorem d_Mo_may_0 : decode M_Mo_may.2.1 0 = .ok (.iload_n 1, 1) := by decide +kernel
theorem d_Mo_may_1 : decode M_Mo_may.2.1 1 = .ok (.lookupswitch 69 #[(112, 37), (116, 53), (119, 35)], 35) := by decide +kernel
theorem d_Mo_may_36 : decode M_Mo_may.2.1 36 = .ok (.iconst 1, 1) := by decide +kernel
theorem d_Mo_may_37 : decode M_Mo_may.2.1 37 = .ok (.ireturn, 1) := by decide +kernel
theorem d_Mo_may_38 : decode M_Mo_may.2.1 38 = .ok (.aload_n 0, 1) := by decide +kernel
theorem d_Mo_may_39 : decode M_Mo_may.2.1 39 = .ok (.getfield 17, 3) := by decide +kernel
theorem d_Mo_may_42 : decode M_Mo_may.2.1 42 = .ok (.iconst 1, 1) := by decide +kernel
theorem d_Mo_may_43 : decode M_Mo_may.2.1 43 = .ok (.iaload, 1) := by decide +kernel
theorem d_Mo_may_44 : decode M_Mo_may.2.1 44 = .ok (.iconst 3, 1) := by decide +kernel
theorem d_Mo_may_45 : decode M_Mo_may.2.1 45 = .ok (.if_icmp .ge 7, 3) := by decide +kernel
theorem d_Mo_may_48 : decode M_Mo_may.2.1 48 = .ok (.iconst 1, 1) := by decide +kernel
theorem d_Mo_may_49 : decode M_Mo_may.2.1 49 = .ok (.goto 4, 3) := by decide +kernel
theorem d_Mo_may_52 : decode M_Mo_may.2.1 52 = .ok (.iconst 0, 1) := by decide +kernel
theorem d_Mo_may_53 : decode M_Mo_may.2.1 53 = .ok (.ireturn, 1) := by decide +kernel
theorem d_Mo_may_54 : decode M_Mo_may.2.1 54 = .ok (.aload_n 0, 1) := by decide +kernel
theorem d_Mo_may_55 : decode M_Mo_may.2.1 55 = .ok (.getfield 29, 3) := by decide +kernel
theorem d_Mo_may_58 : decode M_Mo_may.2.1 58 = .ok (.iconst 1, 1) := by decide +kernel
theorem d_Mo_may_59 : decode M_Mo_may.2.1 59 = .ok (.iaload, 1) := by decide +kernel
theorem d_Mo_may_60 : decode M_Mo_may.2.1 60 = .ok (.iconst 4, 1) := by decide +kernel
theorem d_Mo_may_61 : decode M_Mo_may.2.1 61 = .ok (.if_icmp .ge 7, 3) := by decide +kernel
theorem d_Mo_may_64 : decode M_Mo_may.2.1 64 = .ok (.iconst 1, 1) := by decide +kernel
theorem d_Mo_may_65 : decode M_Mo_may.2.1 65 = .ok (.goto 4, 3) := by decide +kernel
theorem d_Mo_may_68 : decode M_Mo_may.2.1 68 = .ok (.iconst 0, 1) := by decide +kernel
theorem d_Mo_may_69 : decode M_Mo_may.2.1 69 = .ok (.ireturn, 1) := by decide +kernel
theorem d_Mo_may_70 : decode M_Mo_may.2.1 70 = .ok (.iload_n 1, 1) := by decide +kernel
theorem d_Mo_may_71 : decode M_Mo_may.2.1 71 = .ok (.bipush 120, 2) := by decide +kernel
theorem d_Mo_may_73 : decode M_Mo_may.2.1 73 = .ok (.if_icmp .ne 14, 3) := by decide +kernel
theorem d_Mo_may_76 : decode M_Mo_may.2.1 76 = .ok (.aload_n 0, 1) := by decide +kernel
theorem d_Mo_may_77 : decode M_Mo_may.2.1 77 = .ok (.getfield 117, 3) := by decide +kernel
theorem d_Mo_may_80 : decode M_Mo_may.2.1 80 = .ok (.ifCond .ne 7, 3) := by decide +kernel
theorem d_Mo_may_83 : decode M_Mo_may.2.1 83 = .ok (.iconst 1, 1) := by decide +kernel
theorem d_Mo_may_84 : decode M_Mo_may.2.1 84 = .ok (.goto 4, 3) := by decide +kernel
theorem d_Mo_may_87 : decode M_Mo_may.2.1 87 = .ok (.iconst 0, 1) := by decide +kernel
theorem d_Mo_may_88 : decode M_Mo_may.2.1 88 = .ok (.ireturn, 1) := by decide +kernel
theorem d_Mo_read_0 : decode M_Mo_read.2.1 0 = .ok (.aload_n 0, 1) := by decide +kernel
theorem d_Mo_read_1 : decode M_Mo_read.2.1 1 = .ok (.iconst 0, 1) := by decide +kernel
theorem d_Mo_read_2 : decode M_Mo_read.2.1 2 = .ok (.putfield 86, 3) := by decide +kernel
theorem d_Mo_read_5 : decode M_Mo_read.2.1 5 = .ok (.aload_n 0, 1) := by decide +kernel
theorem d_Mo_read_6 : decode M_Mo_read.2.1 6 = .ok (.iconst 0, 1) := by decide +kernel
theorem d_Mo_read_7 : decode M_Mo_read.2.1 7 = .ok (.putfield 102, 3) := by decide +kernel
theorem d_Mo_read_10 : decode M_Mo_read.2.1 10 = .ok (.aload_n 0, 1) := by decide +kernel
theorem d_Mo_read_11 : decode M_Mo_read.2.1 11 = .ok (.iconst 0, 1) := by decide +kernel
theorem d_Mo_read_12 : decode M_Mo_read.2.1 12 = .ok (.putfield 120, 3) := by decide +kernel
theorem d_Mo_read_15 : decode M_Mo_read.2.1 15 = .ok (.aload_n 0, 1) := by decide +kernel
theorem d_Mo_read_16 : decode M_Mo_read.2.1 16 = .ok (.iconst 0, 1) := by decide +kernel
theorem d_Mo_read_17 : decode M_Mo_read.2.1 17 = .ok (.putfield 117, 3) := by decide +kernel
theorem d_Mo_read_20 : decode M_Mo_read.2.1 20 = .ok (.aload_n 0, 1) := by decide +kernel
theorem d_Mo_read_21 : decode M_Mo_read.2.1 21 = .ok (.getfield 17, 3) := by decide +kernel
theorem d_Mo_read_24 : decode M_Mo_read.2.1 24 = .ok (.iconst 1, 1) := by decide +kernel
theorem d_Mo_read_25 : decode M_Mo_read.2.1 25 = .ok (.iconst 0, 1) := by decide +kernel
theorem d_Mo_read_26 : decode M_Mo_read.2.1 26 = .ok (.iastore, 1) := by decide +kernel
theorem d_Mo_read_27 : decode M_Mo_read.2.1 27 = .ok (.aload_n 0, 1) := by decide +kernel
theorem d_Mo_read_28 : decode M_Mo_read.2.1 28 = .ok (.getfield 29, 3) := by decide +kernel
theorem d_Mo_read_31 : decode M_Mo_read.2.1 31 = .ok (.iconst 1, 1) := by decide +kernel
theorem d_Mo_read_32 : decode M_Mo_read.2.1 32 = .ok (.iconst 0, 1) := by decide +kernel
theorem d_Mo_read_33 : decode M_Mo_read.2.1 33 = .ok (.iastore, 1) := by decide +kernel
theorem d_Mo_read_34 : decode M_Mo_read.2.1 34 = .ok (.aload_n 0, 1) := by decide +kernel
theorem d_Mo_read_35 : decode M_Mo_read.2.1 35 = .ok (.getfield 38, 3) := by decide +kernel
theorem d_Mo_read_38 : decode M_Mo_read.2.1 38 = .ok (.iconst 1, 1) := by decide +kernel
theorem d_Mo_read_39 : decode M_Mo_read.2.1 39 = .ok (.bipush 20, 2) := by decide +kernel
theorem d_Mo_read_41 : decode M_Mo_read.2.1 41 = .ok (.iastore, 1) := by decide +kernel
theorem d_Mo_read_42 : decode M_Mo_read.2.1 42 = .ok (.iconst 0, 1) := by decide +kernel
theorem d_Mo_read_43 : decode M_Mo_read.2.1 43 = .ok (.istore_n 1, 1) := by decide +kernel
theorem d_Mo_read_44 : decode M_Mo_read.2.1 44 = .ok (.iload_n 1, 1) := by decide +kernel
theorem d_Mo_read_45 : decode M_Mo_read.2.1 45 = .ok (.bipush 9, 2) := by decide +kernel
theorem d_Mo_read_47 : decode M_Mo_read.2.1 47 = .ok (.if_icmp .gt 19, 3) := by decide +kernel
theorem d_Mo_read_50 : decode M_Mo_read.2.1 50 = .ok (.aload_n 0, 1) := by decide +kernel
theorem d_Mo_read_51 : decode M_Mo_read.2.1 51 = .ok (.getfield 13, 3) := by decide +kernel
theorem d_Mo_read_54 : decode M_Mo_read.2.1 54 = .ok (.bipush 10, 2) := by decide +kernel
theorem d_Mo_read_56 : decode M_Mo_read.2.1 56 = .ok (.iload_n 1, 1) := by decide +kernel
theorem d_Mo_read_57 : decode M_Mo_read.2.1 57 = .ok (.iadd, 1) := by decide +kernel
theorem d_Mo_read_58 : decode M_Mo_read.2.1 58 = .ok (.iconst 0, 1) := by decide +kernel
theorem d_Mo_read_59 : decode M_Mo_read.2.1 59 = .ok (.iastore, 1) := by decide +kernel
theorem d_Mo_read_60 : decode M_Mo_read.2.1 60 = .ok (.iinc 1 1, 3) := by decide +kernel
theorem d_Mo_read_63 : decode M_Mo_read.2.1 63 = .ok (.goto (-19), 3) := by decide +kernel
theorem d_Mo_read_66 : decode M_Mo_read.2.1 66 = .ok (.aload_n 0, 1) := by decide +kernel
theorem d_Mo_read_67 : decode M_Mo_read.2.1 67 = .ok (.invokevirtual 106, 3) := by decide +kernel
theorem d_Mo_read_70 : decode M_Mo_read.2.1 70 = .ok (.aload_n 0, 1) := by decide +kernel
theorem d_Mo_read_71 : decode M_Mo_read.2.1 71 = .ok (.getfield 99, 3) := by decide +kernel
theorem d_Mo_read_74 : decode M_Mo_read.2.1 74 = .ok (.iconst 4, 1) := by decide +kernel
theorem d_Mo_read_75 : decode M_Mo_read.2.1 75 = .ok (.if_icmp .eq 94, 3) := by decide +kernel
theorem d_Mo_read_78 : decode M_Mo_read.2.1 78 = .ok (.aload_n 0, 1) := by decide +kernel
theorem d_Mo_read_79 : decode M_Mo_read.2.1 79 = .ok (.getfield 102, 3) := by decide +kernel
theorem d_Mo_read_82 : decode M_Mo_read.2.1 82 = .ok (.ifCond .ne 87, 3) := by decide +kernel
theorem d_Mo_read_85 : decode M_Mo_read.2.1 85 = .ok (.aload_n 0, 1) := by decide +kernel
theorem d_Mo_read_86 : decode M_Mo_read.2.1 86 = .ok (.getfield 99, 3) := by decide +kernel
theorem d_Mo_read_89 : decode M_Mo_read.2.1 89 = .ok (.iconst 1, 1) := by decide +kernel
theorem d_Mo_read_90 : decode M_Mo_read.2.1 90 = .ok (.if_icmp .ne 10, 3) := by decide +kernel
theorem d_Mo_read_93 : decode M_Mo_read.2.1 93 = .ok (.aload_n 0, 1) := by decide +kernel
theorem d_Mo_read_94 : decode M_Mo_read.2.1 94 = .ok (.getfield 96, 3) := by decide +kernel
theorem d_Mo_read_97 : decode M_Mo_read.2.1 97 = .ok (.goto 4, 3) := by decide +kernel
theorem d_Mo_read_100 : decode M_Mo_read.2.1 100 = .ok (.iconst 0, 1) := by decide +kernel
theorem d_Mo_read_101 : decode M_Mo_read.2.1 101 = .ok (.istore_n 1, 1) := by decide +kernel
theorem d_Mo_read_102 : decode M_Mo_read.2.1 102 = .ok (.aload_n 0, 1) := by decide +kernel
theorem d_Mo_read_103 : decode M_Mo_read.2.1 103 = .ok (.aload_n 0, 1) := by decide +kernel
theorem d_Mo_read_104 : decode M_Mo_read.2.1 104 = .ok (.getfield 99, 3) := by decide +kernel
theorem d_Mo_read_107 : decode M_Mo_read.2.1 107 = .ok (.iconst 1, 1) := by decide +kernel
theorem d_Mo_read_108 : decode M_Mo_read.2.1 108 = .ok (.if_icmp .ne 15, 3) := by decide +kernel
theorem d_Mo_read_111 : decode M_Mo_read.2.1 111 = .ok (.aload_n 0, 1) := by decide +kernel
theorem d_Mo_read_112 : decode M_Mo_read.2.1 112 = .ok (.iload_n 1, 1) := by decide +kernel
theorem d_Mo_read_113 : decode M_Mo_read.2.1 113 = .ok (.invokevirtual 123, 3) := by decide +kernel
theorem d_Mo_read_116 : decode M_Mo_read.2.1 116 = .ok (.ifCond .eq 7, 3) := by decide +kernel
theorem d_Mo_read_119 : decode M_Mo_read.2.1 119 = .ok (.iconst 1, 1) := by decide +kernel
theorem d_Mo_read_120 : decode M_Mo_read.2.1 120 = .ok (.goto 4, 3) := by decide +kernel
theorem d_Mo_read_123 : decode M_Mo_read.2.1 123 = .ok (.iconst 0, 1) := by decide +kernel
theorem d_Mo_read_124 : decode M_Mo_read.2.1 124 = .ok (.invokevirtual 109, 3) := by decide +kernel
theorem d_Mo_read_127 : decode M_Mo_read.2.1 127 = .ok (.aload_n 0, 1) := by decide +kernel
theorem d_Mo_read_128 : decode M_Mo_read.2.1 128 = .ok (.getfield 102, 3) := by decide +kernel
theorem d_Mo_read_131 : decode M_Mo_read.2.1 131 = .ok (.ifCond .ne 35, 3) := by decide +kernel
theorem d_Mo_read_134 : decode M_Mo_read.2.1 134 = .ok (.aload_n 0, 1) := by decide +kernel
theorem d_Mo_read_135 : decode M_Mo_read.2.1 135 = .ok (.iload_n 1, 1) := by decide +kernel
theorem d_Mo_read_136 : decode M_Mo_read.2.1 136 = .ok (.invokevirtual 127, 3) := by decide +kernel
theorem d_Mo_read_139 : decode M_Mo_read.2.1 139 = .ok (.aload_n 0, 1) := by decide +kernel
theorem d_Mo_read_140 : decode M_Mo_read.2.1 140 = .ok (.aload_n 0, 1) := by decide +kernel
theorem d_Mo_read_141 : decode M_Mo_read.2.1 141 = .ok (.getfield 99, 3) := by decide +kernel
theorem d_Mo_read_144 : decode M_Mo_read.2.1 144 = .ok (.iconst 3, 1) := by decide +kernel
theorem d_Mo_read_145 : decode M_Mo_read.2.1 145 = .ok (.if_icmp .ne 7, 3) := by decide +kernel
theorem d_Mo_read_148 : decode M_Mo_read.2.1 148 = .ok (.iconst 1, 1) := by decide +kernel
theorem d_Mo_read_149 : decode M_Mo_read.2.1 149 = .ok (.goto 4, 3) := by decide +kernel
theorem d_Mo_read_152 : decode M_Mo_read.2.1 152 = .ok (.iconst 0, 1) := by decide +kernel
theorem d_Mo_read_153 : decode M_Mo_read.2.1 153 = .ok (.invokevirtual 109, 3) := by decide +kernel
theorem d_Mo_read_156 : decode M_Mo_read.2.1 156 = .ok (.aload_n 0, 1) := by decide +kernel
theorem d_Mo_read_157 : decode M_Mo_read.2.1 157 = .ok (.dup, 1) := by decide +kernel
theorem d_Mo_read_158 : decode M_Mo_read.2.1 158 = .ok (.getfield 120, 3) := by decide +kernel
theorem d_Mo_read_161 : decode M_Mo_read.2.1 161 = .ok (.iconst 1, 1) := by decide +kernel
theorem d_Mo_read_162 : decode M_Mo_read.2.1 162 = .ok (.iadd, 1) := by decide +kernel
theorem d_Mo_read_163 : decode M_Mo_read.2.1 163 = .ok (.putfield 120, 3) := by decide +kernel
theorem d_Mo_read_166 : decode M_Mo_read.2.1 166 = .ok (.goto (-96), 3) := by decide +kernel
theorem d_Mo_read_169 : decode M_Mo_read.2.1 169 = .ok (.return_, 1) := by decide +kernel
theorem d_Mo_sheds_0 : decode M_Mo_sheds.2.1 0 = .ok (.aload_n 0, 1) := by decide +kernel
theorem d_Mo_sheds_1 : decode M_Mo_sheds.2.1 1 = .ok (.invokevirtual 131, 3) := by decide +kernel
theorem d_Mo_sheds_4 : decode M_Mo_sheds.2.1 4 = .ok (.aload_n 0, 1) := by decide +kernel
theorem d_Mo_sheds_5 : decode M_Mo_sheds.2.1 5 = .ok (.getfield 102, 3) := by decide +kernel
theorem d_Mo_sheds_8 : decode M_Mo_sheds.2.1 8 = .ok (.ifCond .eq 11, 3) := by decide +kernel
theorem d_Mo_sheds_11 : decode M_Mo_sheds.2.1 11 = .ok (.bipush (-10), 2) := by decide +kernel
theorem d_Mo_sheds_13 : decode M_Mo_sheds.2.1 13 = .ok (.aload_n 0, 1) := by decide +kernel
theorem d_Mo_sheds_14 : decode M_Mo_sheds.2.1 14 = .ok (.getfield 93, 3) := by decide +kernel
theorem d_Mo_sheds_17 : decode M_Mo_sheds.2.1 17 = .ok (.isub, 1) := by decide +kernel
theorem d_Mo_sheds_18 : decode M_Mo_sheds.2.1 18 = .ok (.ireturn, 1) := by decide +kernel
theorem d_Mo_sheds_19 : decode M_Mo_sheds.2.1 19 = .ok (.aload_n 0, 1) := by decide +kernel
theorem d_Mo_sheds_20 : decode M_Mo_sheds.2.1 20 = .ok (.getfield 17, 3) := by decide +kernel
theorem d_Mo_sheds_23 : decode M_Mo_sheds.2.1 23 = .ok (.iconst 0, 1) := by decide +kernel
theorem d_Mo_sheds_24 : decode M_Mo_sheds.2.1 24 = .ok (.aload_n 0, 1) := by decide +kernel
theorem d_Mo_sheds_25 : decode M_Mo_sheds.2.1 25 = .ok (.getfield 17, 3) := by decide +kernel
theorem d_Mo_sheds_28 : decode M_Mo_sheds.2.1 28 = .ok (.iconst 1, 1) := by decide +kernel
theorem d_Mo_sheds_29 : decode M_Mo_sheds.2.1 29 = .ok (.iaload, 1) := by decide +kernel
theorem d_Mo_sheds_30 : decode M_Mo_sheds.2.1 30 = .ok (.iastore, 1) := by decide +kernel
theorem d_Mo_sheds_31 : decode M_Mo_sheds.2.1 31 = .ok (.aload_n 0, 1) := by decide +kernel
theorem d_Mo_sheds_32 : decode M_Mo_sheds.2.1 32 = .ok (.getfield 29, 3) := by decide +kernel
theorem d_Mo_sheds_35 : decode M_Mo_sheds.2.1 35 = .ok (.iconst 0, 1) := by decide +kernel
theorem d_Mo_sheds_36 : decode M_Mo_sheds.2.1 36 = .ok (.aload_n 0, 1) := by decide +kernel
theorem d_Mo_sheds_37 : decode M_Mo_sheds.2.1 37 = .ok (.getfield 29, 3) := by decide +kernel
theorem d_Mo_sheds_40 : decode M_Mo_sheds.2.1 40 = .ok (.iconst 1, 1) := by decide +kernel
theorem d_Mo_sheds_41 : decode M_Mo_sheds.2.1 41 = .ok (.iaload, 1) := by decide +kernel
theorem d_Mo_sheds_42 : decode M_Mo_sheds.2.1 42 = .ok (.iastore, 1) := by decide +kernel
theorem d_Mo_sheds_43 : decode M_Mo_sheds.2.1 43 = .ok (.aload_n 0, 1) := by decide +kernel
theorem d_Mo_sheds_44 : decode M_Mo_sheds.2.1 44 = .ok (.getfield 38, 3) := by decide +kernel
theorem d_Mo_sheds_47 : decode M_Mo_sheds.2.1 47 = .ok (.iconst 0, 1) := by decide +kernel
theorem d_Mo_sheds_48 : decode M_Mo_sheds.2.1 48 = .ok (.aload_n 0, 1) := by decide +kernel
theorem d_Mo_sheds_49 : decode M_Mo_sheds.2.1 49 = .ok (.getfield 38, 3) := by decide +kernel
theorem d_Mo_sheds_52 : decode M_Mo_sheds.2.1 52 = .ok (.iconst 1, 1) := by decide +kernel
theorem d_Mo_sheds_53 : decode M_Mo_sheds.2.1 53 = .ok (.iaload, 1) := by decide +kernel
theorem d_Mo_sheds_54 : decode M_Mo_sheds.2.1 54 = .ok (.iastore, 1) := by decide +kernel
theorem d_Mo_sheds_55 : decode M_Mo_sheds.2.1 55 = .ok (.iconst 0, 1) := by decide +kernel
theorem d_Mo_sheds_56 : decode M_Mo_sheds.2.1 56 = .ok (.istore_n 1, 1) := by decide +kernel
theorem d_Mo_sheds_57 : decode M_Mo_sheds.2.1 57 = .ok (.iload_n 1, 1) := by decide +kernel
theorem d_Mo_sheds_58 : decode M_Mo_sheds.2.1 58 = .ok (.bipush 9, 2) := by decide +kernel
theorem d_Mo_sheds_60 : decode M_Mo_sheds.2.1 60 = .ok (.if_icmp .gt 24, 3) := by decide +kernel
theorem d_Mo_sheds_63 : decode M_Mo_sheds.2.1 63 = .ok (.aload_n 0, 1) := by decide +kernel
theorem d_Mo_sheds_64 : decode M_Mo_sheds.2.1 64 = .ok (.getfield 13, 3) := by decide +kernel
theorem d_Mo_sheds_67 : decode M_Mo_sheds.2.1 67 = .ok (.iload_n 1, 1) := by decide +kernel
theorem d_Mo_sheds_68 : decode M_Mo_sheds.2.1 68 = .ok (.aload_n 0, 1) := by decide +kernel
theorem d_Mo_sheds_69 : decode M_Mo_sheds.2.1 69 = .ok (.getfield 13, 3) := by decide +kernel
theorem d_Mo_sheds_72 : decode M_Mo_sheds.2.1 72 = .ok (.bipush 10, 2) := by decide +kernel
theorem d_Mo_sheds_74 : decode M_Mo_sheds.2.1 74 = .ok (.iload_n 1, 1) := by decide +kernel
theorem d_Mo_sheds_75 : decode M_Mo_sheds.2.1 75 = .ok (.iadd, 1) := by decide +kernel
theorem d_Mo_sheds_76 : decode M_Mo_sheds.2.1 76 = .ok (.iaload, 1) := by decide +kernel
theorem d_Mo_sheds_77 : decode M_Mo_sheds.2.1 77 = .ok (.iastore, 1) := by decide +kernel
theorem d_Mo_sheds_78 : decode M_Mo_sheds.2.1 78 = .ok (.iinc 1 1, 3) := by decide +kernel
theorem d_Mo_sheds_81 : decode M_Mo_sheds.2.1 81 = .ok (.goto (-24), 3) := by decide +kernel
theorem d_Mo_sheds_84 : decode M_Mo_sheds.2.1 84 = .ok (.iconst 0, 1) := by decide +kernel
theorem d_Mo_sheds_85 : decode M_Mo_sheds.2.1 85 = .ok (.istore_n 1, 1) := by decide +kernel
theorem d_Mo_sheds_86 : decode M_Mo_sheds.2.1 86 = .ok (.iload_n 1, 1) := by decide +kernel
theorem d_Mo_sheds_87 : decode M_Mo_sheds.2.1 87 = .ok (.bipush 11, 2) := by decide +kernel
theorem d_Mo_sheds_89 : decode M_Mo_sheds.2.1 89 = .ok (.if_icmp .ge 16, 3) := by decide +kernel
theorem d_Mo_sheds_92 : decode M_Mo_sheds.2.1 92 = .ok (.aload_n 0, 1) := by decide +kernel
theorem d_Mo_sheds_93 : decode M_Mo_sheds.2.1 93 = .ok (.getfield 41, 3) := by decide +kernel
theorem d_Mo_sheds_96 : decode M_Mo_sheds.2.1 96 = .ok (.iload_n 1, 1) := by decide +kernel
theorem d_Mo_sheds_97 : decode M_Mo_sheds.2.1 97 = .ok (.iconst 0, 1) := by decide +kernel
theorem d_Mo_sheds_98 : decode M_Mo_sheds.2.1 98 = .ok (.iastore, 1) := by decide +kernel
theorem d_Mo_sheds_99 : decode M_Mo_sheds.2.1 99 = .ok (.iinc 1 1, 3) := by decide +kernel
theorem d_Mo_sheds_102 : decode M_Mo_sheds.2.1 102 = .ok (.goto (-16), 3) := by decide +kernel
theorem d_Mo_sheds_105 : decode M_Mo_sheds.2.1 105 = .ok (.iconst 0, 1) := by decide +kernel
theorem d_Mo_sheds_106 : decode M_Mo_sheds.2.1 106 = .ok (.istore_n 1, 1) := by decide +kernel
theorem d_Mo_sheds_107 : decode M_Mo_sheds.2.1 107 = .ok (.iload_n 1, 1) := by decide +kernel
theorem d_Mo_sheds_108 : decode M_Mo_sheds.2.1 108 = .ok (.iconst 3, 1) := by decide +kernel
theorem d_Mo_sheds_109 : decode M_Mo_sheds.2.1 109 = .ok (.if_icmp .ge 76, 3) := by decide +kernel
theorem d_Mo_sheds_112 : decode M_Mo_sheds.2.1 112 = .ok (.aload_n 0, 1) := by decide +kernel
theorem d_Mo_sheds_113 : decode M_Mo_sheds.2.1 113 = .ok (.getfield 20, 3) := by decide +kernel
theorem d_Mo_sheds_116 : decode M_Mo_sheds.2.1 116 = .ok (.iload_n 1, 1) := by decide +kernel
theorem d_Mo_sheds_117 : decode M_Mo_sheds.2.1 117 = .ok (.aload_n 0, 1) := by decide +kernel
theorem d_Mo_sheds_118 : decode M_Mo_sheds.2.1 118 = .ok (.getfield 20, 3) := by decide +kernel
theorem d_Mo_sheds_121 : decode M_Mo_sheds.2.1 121 = .ok (.iconst 3, 1) := by decide +kernel
theorem d_Mo_sheds_122 : decode M_Mo_sheds.2.1 122 = .ok (.iload_n 1, 1) := by decide +kernel
theorem d_Mo_sheds_123 : decode M_Mo_sheds.2.1 123 = .ok (.iadd, 1) := by decide +kernel
theorem d_Mo_sheds_124 : decode M_Mo_sheds.2.1 124 = .ok (.iaload, 1) := by decide +kernel
theorem d_Mo_sheds_125 : decode M_Mo_sheds.2.1 125 = .ok (.iastore, 1) := by decide +kernel
theorem d_Mo_sheds_126 : decode M_Mo_sheds.2.1 126 = .ok (.aload_n 0, 1) := by decide +kernel
theorem d_Mo_sheds_127 : decode M_Mo_sheds.2.1 127 = .ok (.getfield 23, 3) := by decide +kernel
theorem d_Mo_sheds_130 : decode M_Mo_sheds.2.1 130 = .ok (.iload_n 1, 1) := by decide +kernel
theorem d_Mo_sheds_131 : decode M_Mo_sheds.2.1 131 = .ok (.aload_n 0, 1) := by decide +kernel
theorem d_Mo_sheds_132 : decode M_Mo_sheds.2.1 132 = .ok (.getfield 23, 3) := by decide +kernel
theorem d_Mo_sheds_135 : decode M_Mo_sheds.2.1 135 = .ok (.iconst 3, 1) := by decide +kernel
theorem d_Mo_sheds_136 : decode M_Mo_sheds.2.1 136 = .ok (.iload_n 1, 1) := by decide +kernel
theorem d_Mo_sheds_137 : decode M_Mo_sheds.2.1 137 = .ok (.iadd, 1) := by decide +kernel
theorem d_Mo_sheds_138 : decode M_Mo_sheds.2.1 138 = .ok (.iaload, 1) := by decide +kernel
theorem d_Mo_sheds_139 : decode M_Mo_sheds.2.1 139 = .ok (.iastore, 1) := by decide +kernel
theorem d_Mo_sheds_140 : decode M_Mo_sheds.2.1 140 = .ok (.aload_n 0, 1) := by decide +kernel
theorem d_Mo_sheds_141 : decode M_Mo_sheds.2.1 141 = .ok (.getfield 41, 3) := by decide +kernel
theorem d_Mo_sheds_144 : decode M_Mo_sheds.2.1 144 = .ok (.bipush 6, 2) := by decide +kernel
theorem d_Mo_sheds_146 : decode M_Mo_sheds.2.1 146 = .ok (.dup2, 1) := by decide +kernel
theorem d_Mo_sheds_147 : decode M_Mo_sheds.2.1 147 = .ok (.iaload, 1) := by decide +kernel
theorem d_Mo_sheds_148 : decode M_Mo_sheds.2.1 148 = .ok (.iload_n 1, 1) := by decide +kernel
theorem d_Mo_sheds_149 : decode M_Mo_sheds.2.1 149 = .ok (.aload_n 0, 1) := by decide +kernel
theorem d_Mo_sheds_150 : decode M_Mo_sheds.2.1 150 = .ok (.getfield 17, 3) := by decide +kernel
theorem d_Mo_sheds_153 : decode M_Mo_sheds.2.1 153 = .ok (.iconst 0, 1) := by decide +kernel
theorem d_Mo_sheds_154 : decode M_Mo_sheds.2.1 154 = .ok (.iaload, 1) := by decide +kernel
theorem d_Mo_sheds_155 : decode M_Mo_sheds.2.1 155 = .ok (.if_icmp .ge 21, 3) := by decide +kernel
theorem d_Mo_sheds_158 : decode M_Mo_sheds.2.1 158 = .ok (.aload_n 0, 1) := by decide +kernel
theorem d_Mo_sheds_159 : decode M_Mo_sheds.2.1 159 = .ok (.getfield 26, 3) := by decide +kernel
theorem d_Mo_sheds_162 : decode M_Mo_sheds.2.1 162 = .ok (.iconst 3, 1) := by decide +kernel
theorem d_Mo_sheds_163 : decode M_Mo_sheds.2.1 163 = .ok (.iload_n 1, 1) := by decide +kernel
theorem d_Mo_sheds_164 : decode M_Mo_sheds.2.1 164 = .ok (.iadd, 1) := by decide +kernel
theorem d_Mo_sheds_165 : decode M_Mo_sheds.2.1 165 = .ok (.iaload, 1) := by decide +kernel
theorem d_Mo_sheds_166 : decode M_Mo_sheds.2.1 166 = .ok (.iconst 1, 1) := by decide +kernel
theorem d_Mo_sheds_167 : decode M_Mo_sheds.2.1 167 = .ok (.if_icmp .ne 9, 3) := by decide +kernel
theorem d_Mo_sheds_170 : decode M_Mo_sheds.2.1 170 = .ok (.iconst 1, 1) := by decide +kernel
theorem d_Mo_sheds_171 : decode M_Mo_sheds.2.1 171 = .ok (.iload_n 1, 1) := by decide +kernel
theorem d_Mo_sheds_172 : decode M_Mo_sheds.2.1 172 = .ok (.ishl, 1) := by decide +kernel
theorem d_Mo_sheds_173 : decode M_Mo_sheds.2.1 173 = .ok (.goto 4, 3) := by decide +kernel
theorem d_Mo_sheds_176 : decode M_Mo_sheds.2.1 176 = .ok (.iconst 0, 1) := by decide +kernel
theorem d_Mo_sheds_177 : decode M_Mo_sheds.2.1 177 = .ok (.ior, 1) := by decide +kernel
theorem d_Mo_sheds_178 : decode M_Mo_sheds.2.1 178 = .ok (.iastore, 1) := by decide +kernel
theorem d_Mo_sheds_179 : decode M_Mo_sheds.2.1 179 = .ok (.iinc 1 1, 3) := by decide +kernel
theorem d_Mo_sheds_182 : decode M_Mo_sheds.2.1 182 = .ok (.goto (-75), 3) := by decide +kernel
theorem d_Mo_sheds_185 : decode M_Mo_sheds.2.1 185 = .ok (.iconst 0, 1) := by decide +kernel
theorem d_Mo_sheds_186 : decode M_Mo_sheds.2.1 186 = .ok (.istore_n 1, 1) := by decide +kernel
theorem d_Mo_sheds_187 : decode M_Mo_sheds.2.1 187 = .ok (.iload_n 1, 1) := by decide +kernel
theorem d_Mo_sheds_188 : decode M_Mo_sheds.2.1 188 = .ok (.iconst 4, 1) := by decide +kernel
theorem d_Mo_sheds_189 : decode M_Mo_sheds.2.1 189 = .ok (.if_icmp .ge 37, 3) := by decide +kernel
theorem d_Mo_sheds_192 : decode M_Mo_sheds.2.1 192 = .ok (.aload_n 0, 1) := by decide +kernel
theorem d_Mo_sheds_193 : decode M_Mo_sheds.2.1 193 = .ok (.getfield 32, 3) := by decide +kernel
theorem d_Mo_sheds_196 : decode M_Mo_sheds.2.1 196 = .ok (.iload_n 1, 1) := by decide +kernel
theorem d_Mo_sheds_197 : decode M_Mo_sheds.2.1 197 = .ok (.aload_n 0, 1) := by decide +kernel
theorem d_Mo_sheds_198 : decode M_Mo_sheds.2.1 198 = .ok (.getfield 32, 3) := by decide +kernel
theorem d_Mo_sheds_201 : decode M_Mo_sheds.2.1 201 = .ok (.iconst 4, 1) := by decide +kernel
theorem d_Mo_sheds_202 : decode M_Mo_sheds.2.1 202 = .ok (.iload_n 1, 1) := by decide +kernel
theorem d_Mo_sheds_203 : decode M_Mo_sheds.2.1 203 = .ok (.iadd, 1) := by decide +kernel
theorem d_Mo_sheds_204 : decode M_Mo_sheds.2.1 204 = .ok (.iaload, 1) := by decide +kernel
theorem d_Mo_sheds_205 : decode M_Mo_sheds.2.1 205 = .ok (.iastore, 1) := by decide +kernel
theorem d_Mo_sheds_206 : decode M_Mo_sheds.2.1 206 = .ok (.aload_n 0, 1) := by decide +kernel
theorem d_Mo_sheds_207 : decode M_Mo_sheds.2.1 207 = .ok (.getfield 35, 3) := by decide +kernel
theorem d_Mo_sheds_210 : decode M_Mo_sheds.2.1 210 = .ok (.iload_n 1, 1) := by decide +kernel
theorem d_Mo_sheds_211 : decode M_Mo_sheds.2.1 211 = .ok (.aload_n 0, 1) := by decide +kernel
theorem d_Mo_sheds_212 : decode M_Mo_sheds.2.1 212 = .ok (.getfield 35, 3) := by decide +kernel
theorem d_Mo_sheds_215 : decode M_Mo_sheds.2.1 215 = .ok (.iconst 4, 1) := by decide +kernel
theorem d_Mo_sheds_216 : decode M_Mo_sheds.2.1 216 = .ok (.iload_n 1, 1) := by decide +kernel
theorem d_Mo_sheds_217 : decode M_Mo_sheds.2.1 217 = .ok (.iadd, 1) := by decide +kernel
theorem d_Mo_sheds_218 : decode M_Mo_sheds.2.1 218 = .ok (.iaload, 1) := by decide +kernel
theorem d_Mo_sheds_219 : decode M_Mo_sheds.2.1 219 = .ok (.iastore, 1) := by decide +kernel
theorem d_Mo_sheds_220 : decode M_Mo_sheds.2.1 220 = .ok (.iinc 1 1, 3) := by decide +kernel
theorem d_Mo_sheds_223 : decode M_Mo_sheds.2.1 223 = .ok (.goto (-36), 3) := by decide +kernel
theorem d_Mo_sheds_226 : decode M_Mo_sheds.2.1 226 = .ok (.aload_n 0, 1) := by decide +kernel
theorem d_Mo_sheds_227 : decode M_Mo_sheds.2.1 227 = .ok (.getfield 41, 3) := by decide +kernel
theorem d_Mo_sheds_230 : decode M_Mo_sheds.2.1 230 = .ok (.iconst 1, 1) := by decide +kernel
theorem d_Mo_sheds_231 : decode M_Mo_sheds.2.1 231 = .ok (.aload_n 0, 1) := by decide +kernel
theorem d_Mo_sheds_232 : decode M_Mo_sheds.2.1 232 = .ok (.getfield 38, 3) := by decide +kernel
theorem d_Mo_sheds_235 : decode M_Mo_sheds.2.1 235 = .ok (.iconst 0, 1) := by decide +kernel
theorem d_Mo_sheds_236 : decode M_Mo_sheds.2.1 236 = .ok (.iaload, 1) := by decide +kernel
theorem d_Mo_sheds_237 : decode M_Mo_sheds.2.1 237 = .ok (.iastore, 1) := by decide +kernel
theorem d_Mo_sheds_238 : decode M_Mo_sheds.2.1 238 = .ok (.aload_n 0, 1) := by decide +kernel
theorem d_Mo_sheds_239 : decode M_Mo_sheds.2.1 239 = .ok (.getfield 41, 3) := by decide +kernel
theorem d_Mo_sheds_242 : decode M_Mo_sheds.2.1 242 = .ok (.iconst 3, 1) := by decide +kernel
theorem d_Mo_sheds_243 : decode M_Mo_sheds.2.1 243 = .ok (.bipush (-9), 2) := by decide +kernel
theorem d_Mo_sheds_245 : decode M_Mo_sheds.2.1 245 = .ok (.iastore, 1) := by decide +kernel
theorem d_Mo_sheds_246 : decode M_Mo_sheds.2.1 246 = .ok (.aload_n 0, 1) := by decide +kernel
theorem d_Mo_sheds_247 : decode M_Mo_sheds.2.1 247 = .ok (.getfield 41, 3) := by decide +kernel
theorem d_Mo_sheds_250 : decode M_Mo_sheds.2.1 250 = .ok (.iconst 4, 1) := by decide +kernel
theorem d_Mo_sheds_251 : decode M_Mo_sheds.2.1 251 = .ok (.bipush (-9), 2) := by decide +kernel
theorem d_Mo_sheds_253 : decode M_Mo_sheds.2.1 253 = .ok (.iastore, 1) := by decide +kernel
theorem d_Mo_sheds_254 : decode M_Mo_sheds.2.1 254 = .ok (.aload_n 0, 1) := by decide +kernel
theorem d_Mo_sheds_255 : decode M_Mo_sheds.2.1 255 = .ok (.getfield 44, 3) := by decide +kernel
theorem d_Mo_sheds_258 : decode M_Mo_sheds.2.1 258 = .ok (.iconst 0, 1) := by decide +kernel
theorem d_Mo_sheds_259 : decode M_Mo_sheds.2.1 259 = .ok (.iconst 0, 1) := by decide +kernel
theorem d_Mo_sheds_260 : decode M_Mo_sheds.2.1 260 = .ok (.iastore, 1) := by decide +kernel
theorem d_Mo_sheds_261 : decode M_Mo_sheds.2.1 261 = .ok (.aload_n 0, 1) := by decide +kernel
theorem d_Mo_sheds_262 : decode M_Mo_sheds.2.1 262 = .ok (.getfield 53, 3) := by decide +kernel
theorem d_Mo_sheds_265 : decode M_Mo_sheds.2.1 265 = .ok (.iconst 0, 1) := by decide +kernel
theorem d_Mo_sheds_266 : decode M_Mo_sheds.2.1 266 = .ok (.iconst 0, 1) := by decide +kernel
theorem d_Mo_sheds_267 : decode M_Mo_sheds.2.1 267 = .ok (.bastore, 1) := by decide +kernel
theorem d_Mo_sheds_268 : decode M_Mo_sheds.2.1 268 = .ok (.aload_n 0, 1) := by decide +kernel
theorem d_Mo_sheds_269 : decode M_Mo_sheds.2.1 269 = .ok (.getfield 53, 3) := by decide +kernel
theorem d_Mo_sheds_272 : decode M_Mo_sheds.2.1 272 = .ok (.iconst 1, 1) := by decide +kernel
theorem d_Mo_sheds_273 : decode M_Mo_sheds.2.1 273 = .ok (.iconst 0, 1) := by decide +kernel
theorem d_Mo_sheds_274 : decode M_Mo_sheds.2.1 274 = .ok (.bastore, 1) := by decide +kernel
theorem d_Mo_sheds_275 : decode M_Mo_sheds.2.1 275 = .ok (.aload_n 0, 1) := by decide +kernel
theorem d_Mo_sheds_276 : decode M_Mo_sheds.2.1 276 = .ok (.iconst 0, 1) := by decide +kernel
theorem d_Mo_sheds_277 : decode M_Mo_sheds.2.1 277 = .ok (.putfield 134, 3) := by decide +kernel
theorem d_Mo_sheds_280 : decode M_Mo_sheds.2.1 280 = .ok (.aload_n 0, 1) := by decide +kernel
theorem d_Mo_sheds_281 : decode M_Mo_sheds.2.1 281 = .ok (.iconst 0, 1) := by decide +kernel
theorem d_Mo_sheds_282 : decode M_Mo_sheds.2.1 282 = .ok (.putfield 137, 3) := by decide +kernel
theorem d_Mo_sheds_285 : decode M_Mo_sheds.2.1 285 = .ok (.aload_n 0, 1) := by decide +kernel
theorem d_Mo_sheds_286 : decode M_Mo_sheds.2.1 286 = .ok (.iconst 0, 1) := by decide +kernel
theorem d_Mo_sheds_287 : decode M_Mo_sheds.2.1 287 = .ok (.putfield 82, 3) := by decide +kernel
theorem d_Mo_sheds_290 : decode M_Mo_sheds.2.1 290 = .ok (.aload_n 0, 1) := by decide +kernel
theorem d_Mo_sheds_291 : decode M_Mo_sheds.2.1 291 = .ok (.getfield 120, 3) := by decide +kernel
theorem d_Mo_sheds_294 : decode M_Mo_sheds.2.1 294 = .ok (.ireturn, 1) := by decide +kernel
theorem d_Mo_take_0 : decode M_Mo_take.2.1 0 = .ok (.iconst 0, 1) := by decide +kernel
theorem d_Mo_take_1 : decode M_Mo_take.2.1 1 = .ok (.istore_n 1, 1) := by decide +kernel
theorem d_Mo_take_2 : decode M_Mo_take.2.1 2 = .ok (.iload_n 1, 1) := by decide +kernel
theorem d_Mo_take_3 : decode M_Mo_take.2.1 3 = .ok (.bipush 11, 2) := by decide +kernel
theorem d_Mo_take_5 : decode M_Mo_take.2.1 5 = .ok (.if_icmp .ge 21, 3) := by decide +kernel
theorem d_Mo_take_8 : decode M_Mo_take.2.1 8 = .ok (.aload_n 0, 1) := by decide +kernel
theorem d_Mo_take_9 : decode M_Mo_take.2.1 9 = .ok (.getfield 57, 3) := by decide +kernel
theorem d_Mo_take_12 : decode M_Mo_take.2.1 12 = .ok (.iload_n 1, 1) := by decide +kernel
theorem d_Mo_take_13 : decode M_Mo_take.2.1 13 = .ok (.aload_n 0, 1) := by decide +kernel
theorem d_Mo_take_14 : decode M_Mo_take.2.1 14 = .ok (.getfield 41, 3) := by decide +kernel
theorem d_Mo_take_17 : decode M_Mo_take.2.1 17 = .ok (.iload_n 1, 1) := by decide +kernel
theorem d_Mo_take_18 : decode M_Mo_take.2.1 18 = .ok (.iaload, 1) := by decide +kernel
theorem d_Mo_take_19 : decode M_Mo_take.2.1 19 = .ok (.iastore, 1) := by decide +kernel
theorem d_Mo_take_20 : decode M_Mo_take.2.1 20 = .ok (.iinc 1 1, 3) := by decide +kernel
theorem d_Mo_take_23 : decode M_Mo_take.2.1 23 = .ok (.goto (-21), 3) := by decide +kernel
theorem d_Mo_take_26 : decode M_Mo_take.2.1 26 = .ok (.return_, 1) := by decide +kernel
theorem d_Mo_isOne_0 : decode M_Mo_isOne.2.1 0 = .ok (.iload_n 1, 1) := by decide +kernel
theorem d_Mo_isOne_1 : decode M_Mo_isOne.2.1 1 = .ok (.iconst 0, 1) := by decide +kernel
theorem d_Mo_isOne_2 : decode M_Mo_isOne.2.1 2 = .ok (.aload_n 0, 1) := by decide +kernel
theorem d_Mo_isOne_3 : decode M_Mo_isOne.2.1 3 = .ok (.getfield 17, 3) := by decide +kernel
theorem d_Mo_isOne_6 : decode M_Mo_isOne.2.1 6 = .ok (.iconst 0, 1) := by decide +kernel
theorem d_Mo_isOne_7 : decode M_Mo_isOne.2.1 7 = .ok (.iaload, 1) := by decide +kernel
theorem d_Mo_isOne_8 : decode M_Mo_isOne.2.1 8 = .ok (.iconst 1, 1) := by decide +kernel
theorem d_Mo_isOne_9 : decode M_Mo_isOne.2.1 9 = .ok (.isub, 1) := by decide +kernel
theorem d_Mo_isOne_10 : decode M_Mo_isOne.2.1 10 = .ok (.invokestatic 78, 3) := by decide +kernel
theorem d_Mo_isOne_13 : decode M_Mo_isOne.2.1 13 = .ok (.ireturn, 1) := by decide +kernel
theorem d_Mo_isThought_0 : decode M_Mo_isThought.2.1 0 = .ok (.iload_n 1, 1) := by decide +kernel
theorem d_Mo_isThought_1 : decode M_Mo_isThought.2.1 1 = .ok (.iconst 0, 1) := by decide +kernel
theorem d_Mo_isThought_2 : decode M_Mo_isThought.2.1 2 = .ok (.aload_n 0, 1) := by decide +kernel
theorem d_Mo_isThought_3 : decode M_Mo_isThought.2.1 3 = .ok (.getfield 29, 3) := by decide +kernel
theorem d_Mo_isThought_6 : decode M_Mo_isThought.2.1 6 = .ok (.iconst 0, 1) := by decide +kernel
theorem d_Mo_isThought_7 : decode M_Mo_isThought.2.1 7 = .ok (.iaload, 1) := by decide +kernel
theorem d_Mo_isThought_8 : decode M_Mo_isThought.2.1 8 = .ok (.iconst 1, 1) := by decide +kernel
theorem d_Mo_isThought_9 : decode M_Mo_isThought.2.1 9 = .ok (.isub, 1) := by decide +kernel
theorem d_Mo_isThought_10 : decode M_Mo_isThought.2.1 10 = .ok (.invokestatic 78, 3) := by decide +kernel
theorem d_Mo_isThought_13 : decode M_Mo_isThought.2.1 13 = .ok (.ireturn, 1) := by decide +kernel
theorem d_Mo_hold_0 : decode M_Mo_hold.2.1 0 = .ok (.aload_n 1, 1) := by decide +kernel
theorem d_Mo_hold_1 : decode M_Mo_hold.2.1 1 = .ok (.iconst 3, 1) := by decide +kernel
theorem d_Mo_hold_2 : decode M_Mo_hold.2.1 2 = .ok (.iaload, 1) := by decide +kernel
theorem d_Mo_hold_3 : decode M_Mo_hold.2.1 3 = .ok (.bipush (-9), 2) := by decide +kernel
theorem d_Mo_hold_5 : decode M_Mo_hold.2.1 5 = .ok (.if_icmp .eq 17, 3) := by decide +kernel
theorem d_Mo_hold_8 : decode M_Mo_hold.2.1 8 = .ok (.aload_n 1, 1) := by decide +kernel
theorem d_Mo_hold_9 : decode M_Mo_hold.2.1 9 = .ok (.iconst 5, 1) := by decide +kernel
theorem d_Mo_hold_10 : decode M_Mo_hold.2.1 10 = .ok (.iaload, 1) := by decide +kernel
theorem d_Mo_hold_11 : decode M_Mo_hold.2.1 11 = .ok (.aload_n 0, 1) := by decide +kernel
theorem d_Mo_hold_12 : decode M_Mo_hold.2.1 12 = .ok (.getfield 23, 3) := by decide +kernel
theorem d_Mo_hold_15 : decode M_Mo_hold.2.1 15 = .ok (.aload_n 1, 1) := by decide +kernel
theorem d_Mo_hold_16 : decode M_Mo_hold.2.1 16 = .ok (.iconst 3, 1) := by decide +kernel
theorem d_Mo_hold_17 : decode M_Mo_hold.2.1 17 = .ok (.iaload, 1) := by decide +kernel
theorem d_Mo_hold_18 : decode M_Mo_hold.2.1 18 = .ok (.iaload, 1) := by decide +kernel
theorem d_Mo_hold_19 : decode M_Mo_hold.2.1 19 = .ok (.if_icmp .le 5, 3) := by decide +kernel
theorem d_Mo_hold_22 : decode M_Mo_hold.2.1 22 = .ok (.iconst 0, 1) := by decide +kernel
theorem d_Mo_hold_23 : decode M_Mo_hold.2.1 23 = .ok (.ireturn, 1) := by decide +kernel
theorem d_Mo_hold_24 : decode M_Mo_hold.2.1 24 = .ok (.aload_n 0, 1) := by decide +kernel
theorem d_Mo_hold_25 : decode M_Mo_hold.2.1 25 = .ok (.getfield 32, 3) := by decide +kernel
theorem d_Mo_hold_28 : decode M_Mo_hold.2.1 28 = .ok (.aload_n 1, 1) := by decide +kernel
theorem d_Mo_hold_29 : decode M_Mo_hold.2.1 29 = .ok (.iconst 4, 1) := by decide +kernel
theorem d_Mo_hold_30 : decode M_Mo_hold.2.1 30 = .ok (.iaload, 1) := by decide +kernel
theorem d_Mo_hold_31 : decode M_Mo_hold.2.1 31 = .ok (.iaload, 1) := by decide +kernel
theorem d_Mo_hold_32 : decode M_Mo_hold.2.1 32 = .ok (.aload_n 1, 1) := by decide +kernel
theorem d_Mo_hold_33 : decode M_Mo_hold.2.1 33 = .ok (.iconst 5, 1) := by decide +kernel
theorem d_Mo_hold_34 : decode M_Mo_hold.2.1 34 = .ok (.iaload, 1) := by decide +kernel
theorem d_Mo_hold_35 : decode M_Mo_hold.2.1 35 = .ok (.aload_n 0, 1) := by decide +kernel
theorem d_Mo_hold_36 : decode M_Mo_hold.2.1 36 = .ok (.getfield 35, 3) := by decide +kernel
theorem d_Mo_hold_39 : decode M_Mo_hold.2.1 39 = .ok (.aload_n 1, 1) := by decide +kernel
theorem d_Mo_hold_40 : decode M_Mo_hold.2.1 40 = .ok (.iconst 4, 1) := by decide +kernel
theorem d_Mo_hold_41 : decode M_Mo_hold.2.1 41 = .ok (.iaload, 1) := by decide +kernel
theorem d_Mo_hold_42 : decode M_Mo_hold.2.1 42 = .ok (.iaload, 1) := by decide +kernel
theorem d_Mo_hold_43 : decode M_Mo_hold.2.1 43 = .ok (.imul, 1) := by decide +kernel
theorem d_Mo_hold_44 : decode M_Mo_hold.2.1 44 = .ok (.isub, 1) := by decide +kernel
theorem d_Mo_hold_45 : decode M_Mo_hold.2.1 45 = .ok (.istore_n 2, 1) := by decide +kernel
theorem d_Mo_hold_46 : decode M_Mo_hold.2.1 46 = .ok (.iload_n 2, 1) := by decide +kernel
theorem d_Mo_hold_47 : decode M_Mo_hold.2.1 47 = .ok (.ifCond .ge 7, 3) := by decide +kernel
theorem d_Mo_hold_50 : decode M_Mo_hold.2.1 50 = .ok (.iconst 0, 1) := by decide +kernel
theorem d_Mo_hold_51 : decode M_Mo_hold.2.1 51 = .ok (.goto 4, 3) := by decide +kernel
theorem d_Mo_hold_54 : decode M_Mo_hold.2.1 54 = .ok (.iload_n 2, 1) := by decide +kernel
theorem d_Mo_hold_55 : decode M_Mo_hold.2.1 55 = .ok (.ireturn, 1) := by decide +kernel
theorem d_Mo_weights_0 : decode M_Mo_weights.2.1 0 = .ok (.iconst 0, 1) := by decide +kernel
theorem d_Mo_weights_1 : decode M_Mo_weights.2.1 1 = .ok (.istore_n 2, 1) := by decide +kernel
theorem d_Mo_weights_2 : decode M_Mo_weights.2.1 2 = .ok (.iconst 0, 1) := by decide +kernel
theorem d_Mo_weights_3 : decode M_Mo_weights.2.1 3 = .ok (.istore_n 3, 1) := by decide +kernel
theorem d_Mo_weights_4 : decode M_Mo_weights.2.1 4 = .ok (.iload_n 3, 1) := by decide +kernel
theorem d_Mo_weights_5 : decode M_Mo_weights.2.1 5 = .ok (.aload_n 0, 1) := by decide +kernel
theorem d_Mo_weights_6 : decode M_Mo_weights.2.1 6 = .ok (.getfield 17, 3) := by decide +kernel
theorem d_Mo_weights_9 : decode M_Mo_weights.2.1 9 = .ok (.iconst 0, 1) := by decide +kernel
theorem d_Mo_weights_10 : decode M_Mo_weights.2.1 10 = .ok (.iaload, 1) := by decide +kernel
theorem d_Mo_weights_11 : decode M_Mo_weights.2.1 11 = .ok (.if_icmp .ge 33, 3) := by decide +kernel
theorem d_Mo_weights_14 : decode M_Mo_weights.2.1 14 = .ok (.iload_n 2, 1) := by decide +kernel
theorem d_Mo_weights_15 : decode M_Mo_weights.2.1 15 = .ok (.aload_n 1, 1) := by decide +kernel
theorem d_Mo_weights_16 : decode M_Mo_weights.2.1 16 = .ok (.bipush 6, 2) := by decide +kernel
theorem d_Mo_weights_18 : decode M_Mo_weights.2.1 18 = .ok (.iaload, 1) := by decide +kernel
theorem d_Mo_weights_19 : decode M_Mo_weights.2.1 19 = .ok (.iload_n 3, 1) := by decide +kernel
theorem d_Mo_weights_20 : decode M_Mo_weights.2.1 20 = .ok (.invokestatic 140, 3) := by decide +kernel
theorem d_Mo_weights_23 : decode M_Mo_weights.2.1 23 = .ok (.ifCond .eq 12, 3) := by decide +kernel
theorem d_Mo_weights_26 : decode M_Mo_weights.2.1 26 = .ok (.aload_n 0, 1) := by decide +kernel
theorem d_Mo_weights_27 : decode M_Mo_weights.2.1 27 = .ok (.getfield 20, 3) := by decide +kernel
theorem d_Mo_weights_30 : decode M_Mo_weights.2.1 30 = .ok (.iload_n 3, 1) := by decide +kernel
theorem d_Mo_weights_31 : decode M_Mo_weights.2.1 31 = .ok (.iaload, 1) := by decide +kernel
theorem d_Mo_weights_32 : decode M_Mo_weights.2.1 32 = .ok (.goto 4, 3) := by decide +kernel
theorem d_Mo_weights_35 : decode M_Mo_weights.2.1 35 = .ok (.iconst 0, 1) := by decide +kernel
theorem d_Mo_weights_36 : decode M_Mo_weights.2.1 36 = .ok (.iadd, 1) := by decide +kernel
theorem d_Mo_weights_37 : decode M_Mo_weights.2.1 37 = .ok (.istore_n 2, 1) := by decide +kernel
theorem d_Mo_weights_38 : decode M_Mo_weights.2.1 38 = .ok (.iinc 3 1, 3) := by decide +kernel
theorem d_Mo_weights_41 : decode M_Mo_weights.2.1 41 = .ok (.goto (-37), 3) := by decide +kernel
theorem d_Mo_weights_44 : decode M_Mo_weights.2.1 44 = .ok (.iload_n 2, 1) := by decide +kernel
theorem d_Mo_weights_45 : decode M_Mo_weights.2.1 45 = .ok (.ireturn, 1) := by decide +kernel
theorem d_Mo_passOn_0 : decode M_Mo_passOn.2.1 0 = .ok (.aload_n 1, 1) := by decide +kernel
theorem d_Mo_passOn_1 : decode M_Mo_passOn.2.1 1 = .ok (.iconst 0, 1) := by decide +kernel
theorem d_Mo_passOn_2 : decode M_Mo_passOn.2.1 2 = .ok (.dup2, 1) := by decide +kernel
theorem d_Mo_passOn_3 : decode M_Mo_passOn.2.1 3 = .ok (.iaload, 1) := by decide +kernel
theorem d_Mo_passOn_4 : decode M_Mo_passOn.2.1 4 = .ok (.iconst 1, 1) := by decide +kernel
theorem d_Mo_passOn_5 : decode M_Mo_passOn.2.1 5 = .ok (.iadd, 1) := by decide +kernel
theorem d_Mo_passOn_6 : decode M_Mo_passOn.2.1 6 = .ok (.iastore, 1) := by decide +kernel
theorem d_Mo_passOn_7 : decode M_Mo_passOn.2.1 7 = .ok (.aload_n 1, 1) := by decide +kernel
theorem d_Mo_passOn_8 : decode M_Mo_passOn.2.1 8 = .ok (.iconst 5, 1) := by decide +kernel
theorem d_Mo_passOn_9 : decode M_Mo_passOn.2.1 9 = .ok (.dup2, 1) := by decide +kernel
theorem d_Mo_passOn_10 : decode M_Mo_passOn.2.1 10 = .ok (.iaload, 1) := by decide +kernel
theorem d_Mo_passOn_11 : decode M_Mo_passOn.2.1 11 = .ok (.iconst 1, 1) := by decide +kernel
theorem d_Mo_passOn_12 : decode M_Mo_passOn.2.1 12 = .ok (.iadd, 1) := by decide +kernel
theorem d_Mo_passOn_13 : decode M_Mo_passOn.2.1 13 = .ok (.iastore, 1) := by decide +kernel
theorem d_Mo_passOn_14 : decode M_Mo_passOn.2.1 14 = .ok (.aload_n 1, 1) := by decide +kernel
theorem d_Mo_passOn_15 : decode M_Mo_passOn.2.1 15 = .ok (.bipush 10, 2) := by decide +kernel
theorem d_Mo_passOn_17 : decode M_Mo_passOn.2.1 17 = .ok (.iaload, 1) := by decide +kernel
theorem d_Mo_passOn_18 : decode M_Mo_passOn.2.1 18 = .ok (.iconst 1, 1) := by decide +kernel
theorem d_Mo_passOn_19 : decode M_Mo_passOn.2.1 19 = .ok (.if_icmp .ne 4, 3) := by decide +kernel
theorem d_Mo_passOn_22 : decode M_Mo_passOn.2.1 22 = .ok (.return_, 1) := by decide +kernel
theorem d_Mo_passOn_23 : decode M_Mo_passOn.2.1 23 = .ok (.aload_n 0, 1) := by decide +kernel
theorem d_Mo_passOn_24 : decode M_Mo_passOn.2.1 24 = .ok (.aload_n 1, 1) := by decide +kernel
theorem d_Mo_passOn_25 : decode M_Mo_passOn.2.1 25 = .ok (.invokevirtual 144, 3) := by decide +kernel
theorem d_Mo_passOn_28 : decode M_Mo_passOn.2.1 28 = .ok (.aload_n 0, 1) := by decide +kernel
theorem d_Mo_passOn_29 : decode M_Mo_passOn.2.1 29 = .ok (.aload_n 1, 1) := by decide +kernel
theorem d_Mo_passOn_30 : decode M_Mo_passOn.2.1 30 = .ok (.invokevirtual 148, 3) := by decide +kernel
theorem d_Mo_passOn_33 : decode M_Mo_passOn.2.1 33 = .ok (.isub, 1) := by decide +kernel
theorem d_Mo_passOn_34 : decode M_Mo_passOn.2.1 34 = .ok (.istore_n 2, 1) := by decide +kernel
theorem d_Mo_passOn_35 : decode M_Mo_passOn.2.1 35 = .ok (.iload_n 2, 1) := by decide +kernel
theorem d_Mo_passOn_36 : decode M_Mo_passOn.2.1 36 = .ok (.ifCond .le 18, 3) := by decide +kernel
theorem d_Mo_passOn_39 : decode M_Mo_passOn.2.1 39 = .ok (.aload_n 1, 1) := by decide +kernel
theorem d_Mo_passOn_40 : decode M_Mo_passOn.2.1 40 = .ok (.iconst 2, 1) := by decide +kernel
theorem d_Mo_passOn_41 : decode M_Mo_passOn.2.1 41 = .ok (.iaload, 1) := by decide +kernel
theorem d_Mo_passOn_42 : decode M_Mo_passOn.2.1 42 = .ok (.bipush 9, 2) := by decide +kernel
theorem d_Mo_passOn_44 : decode M_Mo_passOn.2.1 44 = .ok (.if_icmp .ge 10, 3) := by decide +kernel
theorem d_Mo_passOn_47 : decode M_Mo_passOn.2.1 47 = .ok (.aload_n 1, 1) := by decide +kernel
theorem d_Mo_passOn_48 : decode M_Mo_passOn.2.1 48 = .ok (.iconst 2, 1) := by decide +kernel
theorem d_Mo_passOn_49 : decode M_Mo_passOn.2.1 49 = .ok (.dup2, 1) := by decide +kernel
theorem d_Mo_passOn_50 : decode M_Mo_passOn.2.1 50 = .ok (.iaload, 1) := by decide +kernel
theorem d_Mo_passOn_51 : decode M_Mo_passOn.2.1 51 = .ok (.iconst 1, 1) := by decide +kernel
theorem d_Mo_passOn_52 : decode M_Mo_passOn.2.1 52 = .ok (.iadd, 1) := by decide +kernel
theorem d_Mo_passOn_53 : decode M_Mo_passOn.2.1 53 = .ok (.iastore, 1) := by decide +kernel
theorem d_Mo_passOn_54 : decode M_Mo_passOn.2.1 54 = .ok (.iload_n 2, 1) := by decide +kernel
theorem d_Mo_passOn_55 : decode M_Mo_passOn.2.1 55 = .ok (.ifCond .ge 16, 3) := by decide +kernel
theorem d_Mo_passOn_58 : decode M_Mo_passOn.2.1 58 = .ok (.aload_n 1, 1) := by decide +kernel
theorem d_Mo_passOn_59 : decode M_Mo_passOn.2.1 59 = .ok (.iconst 2, 1) := by decide +kernel
theorem d_Mo_passOn_60 : decode M_Mo_passOn.2.1 60 = .ok (.iaload, 1) := by decide +kernel
theorem d_Mo_passOn_61 : decode M_Mo_passOn.2.1 61 = .ok (.ifCond .le 10, 3) := by decide +kernel
theorem d_Mo_passOn_64 : decode M_Mo_passOn.2.1 64 = .ok (.aload_n 1, 1) := by decide +kernel
theorem d_Mo_passOn_65 : decode M_Mo_passOn.2.1 65 = .ok (.iconst 2, 1) := by decide +kernel
theorem d_Mo_passOn_66 : decode M_Mo_passOn.2.1 66 = .ok (.dup2, 1) := by decide +kernel
theorem d_Mo_passOn_67 : decode M_Mo_passOn.2.1 67 = .ok (.iaload, 1) := by decide +kernel
theorem d_Mo_passOn_68 : decode M_Mo_passOn.2.1 68 = .ok (.iconst 1, 1) := by decide +kernel
theorem d_Mo_passOn_69 : decode M_Mo_passOn.2.1 69 = .ok (.isub, 1) := by decide +kernel
theorem d_Mo_passOn_70 : decode M_Mo_passOn.2.1 70 = .ok (.iastore, 1) := by decide +kernel
theorem d_Mo_passOn_71 : decode M_Mo_passOn.2.1 71 = .ok (.aload_n 1, 1) := by decide +kernel
theorem d_Mo_passOn_72 : decode M_Mo_passOn.2.1 72 = .ok (.iconst 1, 1) := by decide +kernel
theorem d_Mo_passOn_73 : decode M_Mo_passOn.2.1 73 = .ok (.iaload, 1) := by decide +kernel
theorem d_Mo_passOn_74 : decode M_Mo_passOn.2.1 74 = .ok (.aload_n 1, 1) := by decide +kernel
theorem d_Mo_passOn_75 : decode M_Mo_passOn.2.1 75 = .ok (.iconst 2, 1) := by decide +kernel
theorem d_Mo_passOn_76 : decode M_Mo_passOn.2.1 76 = .ok (.iaload, 1) := by decide +kernel
theorem d_Mo_passOn_77 : decode M_Mo_passOn.2.1 77 = .ok (.ifCond .ne 7, 3) := by decide +kernel
theorem d_Mo_passOn_80 : decode M_Mo_passOn.2.1 80 = .ok (.iconst 0, 1) := by decide +kernel
theorem d_Mo_passOn_81 : decode M_Mo_passOn.2.1 81 = .ok (.goto 11, 3) := by decide +kernel
theorem d_Mo_passOn_84 : decode M_Mo_passOn.2.1 84 = .ok (.aload_n 0, 1) := by decide +kernel
theorem d_Mo_passOn_85 : decode M_Mo_passOn.2.1 85 = .ok (.getfield 13, 3) := by decide +kernel
theorem d_Mo_passOn_88 : decode M_Mo_passOn.2.1 88 = .ok (.aload_n 1, 1) := by decide +kernel
theorem d_Mo_passOn_89 : decode M_Mo_passOn.2.1 89 = .ok (.iconst 2, 1) := by decide +kernel
theorem d_Mo_passOn_90 : decode M_Mo_passOn.2.1 90 = .ok (.iaload, 1) := by decide +kernel
theorem d_Mo_passOn_91 : decode M_Mo_passOn.2.1 91 = .ok (.iaload, 1) := by decide +kernel
theorem d_Mo_passOn_92 : decode M_Mo_passOn.2.1 92 = .ok (.iadd, 1) := by decide +kernel
theorem d_Mo_passOn_93 : decode M_Mo_passOn.2.1 93 = .ok (.istore_n 3, 1) := by decide +kernel
theorem d_Mo_passOn_94 : decode M_Mo_passOn.2.1 94 = .ok (.aload_n 1, 1) := by decide +kernel
theorem d_Mo_passOn_95 : decode M_Mo_passOn.2.1 95 = .ok (.bipush 10, 2) := by decide +kernel
theorem d_Mo_passOn_97 : decode M_Mo_passOn.2.1 97 = .ok (.iload_n 3, 1) := by decide +kernel
theorem d_Mo_passOn_98 : decode M_Mo_passOn.2.1 98 = .ok (.iconst 0, 1) := by decide +kernel
theorem d_Mo_passOn_99 : decode M_Mo_passOn.2.1 99 = .ok (.bipush 40, 2) := by decide +kernel
theorem d_Mo_passOn_101 : decode M_Mo_passOn.2.1 101 = .ok (.invokestatic 78, 3) := by decide +kernel
theorem d_Mo_passOn_104 : decode M_Mo_passOn.2.1 104 = .ok (.ifCond .eq 7, 3) := by decide +kernel
theorem d_Mo_passOn_107 : decode M_Mo_passOn.2.1 107 = .ok (.iconst 0, 1) := by decide +kernel
theorem d_Mo_passOn_108 : decode M_Mo_passOn.2.1 108 = .ok (.goto 4, 3) := by decide +kernel
theorem d_Mo_passOn_111 : decode M_Mo_passOn.2.1 111 = .ok (.iconst 1, 1) := by decide +kernel
theorem d_Mo_passOn_112 : decode M_Mo_passOn.2.1 112 = .ok (.iastore, 1) := by decide +kernel
theorem d_Mo_passOn_113 : decode M_Mo_passOn.2.1 113 = .ok (.aload_n 1, 1) := by decide +kernel
theorem d_Mo_passOn_114 : decode M_Mo_passOn.2.1 114 = .ok (.iconst 1, 1) := by decide +kernel
theorem d_Mo_passOn_115 : decode M_Mo_passOn.2.1 115 = .ok (.iload_n 3, 1) := by decide +kernel
theorem d_Mo_passOn_116 : decode M_Mo_passOn.2.1 116 = .ok (.ifCond .ge 7, 3) := by decide +kernel
theorem d_Mo_passOn_119 : decode M_Mo_passOn.2.1 119 = .ok (.iconst 0, 1) := by decide +kernel
theorem d_Mo_passOn_120 : decode M_Mo_passOn.2.1 120 = .ok (.goto 15, 3) := by decide +kernel
theorem d_Mo_passOn_123 : decode M_Mo_passOn.2.1 123 = .ok (.iload_n 3, 1) := by decide +kernel
theorem d_Mo_passOn_124 : decode M_Mo_passOn.2.1 124 = .ok (.bipush 40, 2) := by decide +kernel
theorem d_Mo_passOn_126 : decode M_Mo_passOn.2.1 126 = .ok (.if_icmp .le 8, 3) := by decide +kernel
theorem d_Mo_passOn_129 : decode M_Mo_passOn.2.1 129 = .ok (.bipush 40, 2) := by decide +kernel
theorem d_Mo_passOn_131 : decode M_Mo_passOn.2.1 131 = .ok (.goto 4, 3) := by decide +kernel
theorem d_Mo_passOn_134 : decode M_Mo_passOn.2.1 134 = .ok (.iload_n 3, 1) := by decide +kernel
theorem d_Mo_passOn_135 : decode M_Mo_passOn.2.1 135 = .ok (.iastore, 1) := by decide +kernel
theorem d_Mo_passOn_136 : decode M_Mo_passOn.2.1 136 = .ok (.return_, 1) := by decide +kernel
theorem d_Mo_begin_0 : decode M_Mo_begin.2.1 0 = .ok (.aload_n 0, 1) := by decide +kernel
theorem d_Mo_begin_1 : decode M_Mo_begin.2.1 1 = .ok (.iconst 3, 1) := by decide +kernel
theorem d_Mo_begin_2 : decode M_Mo_begin.2.1 2 = .ok (.iload_n 1, 1) := by decide +kernel
theorem d_Mo_begin_3 : decode M_Mo_begin.2.1 3 = .ok (.iastore, 1) := by decide +kernel
theorem d_Mo_begin_4 : decode M_Mo_begin.2.1 4 = .ok (.aload_n 0, 1) := by decide +kernel
theorem d_Mo_begin_5 : decode M_Mo_begin.2.1 5 = .ok (.iconst 4, 1) := by decide +kernel
theorem d_Mo_begin_6 : decode M_Mo_begin.2.1 6 = .ok (.iload_n 2, 1) := by decide +kernel
theorem d_Mo_begin_7 : decode M_Mo_begin.2.1 7 = .ok (.iastore, 1) := by decide +kernel
theorem d_Mo_begin_8 : decode M_Mo_begin.2.1 8 = .ok (.aload_n 0, 1) := by decide +kernel
theorem d_Mo_begin_9 : decode M_Mo_begin.2.1 9 = .ok (.iconst 5, 1) := by decide +kernel
theorem d_Mo_begin_10 : decode M_Mo_begin.2.1 10 = .ok (.iconst 0, 1) := by decide +kernel
theorem d_Mo_begin_11 : decode M_Mo_begin.2.1 11 = .ok (.iastore, 1) := by decide +kernel
theorem d_Mo_begin_12 : decode M_Mo_begin.2.1 12 = .ok (.aload_n 0, 1) := by decide +kernel
theorem d_Mo_begin_13 : decode M_Mo_begin.2.1 13 = .ok (.bipush 7, 2) := by decide +kernel
theorem d_Mo_begin_15 : decode M_Mo_begin.2.1 15 = .ok (.iload_n 1, 1) := by decide +kernel
theorem d_Mo_begin_16 : decode M_Mo_begin.2.1 16 = .ok (.iadd, 1) := by decide +kernel
theorem d_Mo_begin_17 : decode M_Mo_begin.2.1 17 = .ok (.dup2, 1) := by decide +kernel
theorem d_Mo_begin_18 : decode M_Mo_begin.2.1 18 = .ok (.iaload, 1) := by decide +kernel
theorem d_Mo_begin_19 : decode M_Mo_begin.2.1 19 = .ok (.iconst 1, 1) := by decide +kernel
theorem d_Mo_begin_20 : decode M_Mo_begin.2.1 20 = .ok (.iload_n 2, 1) := by decide +kernel
theorem d_Mo_begin_21 : decode M_Mo_begin.2.1 21 = .ok (.ishl, 1) := by decide +kernel
theorem d_Mo_begin_22 : decode M_Mo_begin.2.1 22 = .ok (.ior, 1) := by decide +kernel
theorem d_Mo_begin_23 : decode M_Mo_begin.2.1 23 = .ok (.iastore, 1) := by decide +kernel
theorem d_Mo_begin_24 : decode M_Mo_begin.2.1 24 = .ok (.return_, 1) := by decide +kernel
theorem d_Mo_canBegin_0 : decode M_Mo_canBegin.2.1 0 = .ok (.aload_n 0, 1) := by decide +kernel
theorem d_Mo_canBegin_1 : decode M_Mo_canBegin.2.1 1 = .ok (.bipush 6, 2) := by decide +kernel
theorem d_Mo_canBegin_3 : decode M_Mo_canBegin.2.1 3 = .ok (.iaload, 1) := by decide +kernel
theorem d_Mo_canBegin_4 : decode M_Mo_canBegin.2.1 4 = .ok (.iload_n 1, 1) := by decide +kernel
theorem d_Mo_canBegin_5 : decode M_Mo_canBegin.2.1 5 = .ok (.invokestatic 140, 3) := by decide +kernel
theorem d_Mo_canBegin_8 : decode M_Mo_canBegin.2.1 8 = .ok (.ifCond .eq 27, 3) := by decide +kernel
theorem d_Mo_canBegin_11 : decode M_Mo_canBegin.2.1 11 = .ok (.aload_n 0, 1) := by decide +kernel
theorem d_Mo_canBegin_12 : decode M_Mo_canBegin.2.1 12 = .ok (.bipush 7, 2) := by decide +kernel
theorem d_Mo_canBegin_14 : decode M_Mo_canBegin.2.1 14 = .ok (.iload_n 1, 1) := by decide +kernel
theorem d_Mo_canBegin_15 : decode M_Mo_canBegin.2.1 15 = .ok (.iadd, 1) := by decide +kernel
theorem d_Mo_canBegin_16 : decode M_Mo_canBegin.2.1 16 = .ok (.iaload, 1) := by decide +kernel
theorem d_Mo_canBegin_17 : decode M_Mo_canBegin.2.1 17 = .ok (.iload_n 2, 1) := by decide +kernel
theorem d_Mo_canBegin_18 : decode M_Mo_canBegin.2.1 18 = .ok (.invokestatic 140, 3) := by decide +kernel
theorem d_Mo_canBegin_21 : decode M_Mo_canBegin.2.1 21 = .ok (.ifCond .ne 14, 3) := by decide +kernel
theorem d_Mo_canBegin_24 : decode M_Mo_canBegin.2.1 24 = .ok (.aload_n 0, 1) := by decide +kernel
theorem d_Mo_canBegin_25 : decode M_Mo_canBegin.2.1 25 = .ok (.bipush 10, 2) := by decide +kernel
theorem d_Mo_canBegin_27 : decode M_Mo_canBegin.2.1 27 = .ok (.iaload, 1) := by decide +kernel
theorem d_Mo_canBegin_28 : decode M_Mo_canBegin.2.1 28 = .ok (.ifCond .ne 7, 3) := by decide +kernel
theorem d_Mo_canBegin_31 : decode M_Mo_canBegin.2.1 31 = .ok (.iconst 1, 1) := by decide +kernel
theorem d_Mo_canBegin_32 : decode M_Mo_canBegin.2.1 32 = .ok (.goto 4, 3) := by decide +kernel
theorem d_Mo_canBegin_35 : decode M_Mo_canBegin.2.1 35 = .ok (.iconst 0, 1) := by decide +kernel
theorem d_Mo_canBegin_36 : decode M_Mo_canBegin.2.1 36 = .ok (.ireturn, 1) := by decide +kernel
theorem d_Mo_liftsOf_0 : decode M_Mo_liftsOf.2.1 0 = .ok (.iconst 0, 1) := by decide +kernel
theorem d_Mo_liftsOf_1 : decode M_Mo_liftsOf.2.1 1 = .ok (.istore_n 2, 1) := by decide +kernel
theorem d_Mo_liftsOf_2 : decode M_Mo_liftsOf.2.1 2 = .ok (.iconst 0, 1) := by decide +kernel
theorem d_Mo_liftsOf_3 : decode M_Mo_liftsOf.2.1 3 = .ok (.istore_n 3, 1) := by decide +kernel
theorem d_Mo_liftsOf_4 : decode M_Mo_liftsOf.2.1 4 = .ok (.iload_n 3, 1) := by decide +kernel
theorem d_Mo_liftsOf_5 : decode M_Mo_liftsOf.2.1 5 = .ok (.aload_n 0, 1) := by decide +kernel
theorem d_Mo_liftsOf_6 : decode M_Mo_liftsOf.2.1 6 = .ok (.getfield 29, 3) := by decide +kernel
theorem d_Mo_liftsOf_9 : decode M_Mo_liftsOf.2.1 9 = .ok (.iconst 0, 1) := by decide +kernel
theorem d_Mo_liftsOf_10 : decode M_Mo_liftsOf.2.1 10 = .ok (.iaload, 1) := by decide +kernel
theorem d_Mo_liftsOf_11 : decode M_Mo_liftsOf.2.1 11 = .ok (.if_icmp .ge 34, 3) := by decide +kernel
theorem d_Mo_liftsOf_14 : decode M_Mo_liftsOf.2.1 14 = .ok (.iload_n 2, 1) := by decide +kernel
theorem d_Mo_liftsOf_15 : decode M_Mo_liftsOf.2.1 15 = .ok (.aload_n 0, 1) := by decide +kernel
theorem d_Mo_liftsOf_16 : decode M_Mo_liftsOf.2.1 16 = .ok (.getfield 32, 3) := by decide +kernel
theorem d_Mo_liftsOf_19 : decode M_Mo_liftsOf.2.1 19 = .ok (.iload_n 3, 1) := by decide +kernel
theorem d_Mo_liftsOf_20 : decode M_Mo_liftsOf.2.1 20 = .ok (.iaload, 1) := by decide +kernel
theorem d_Mo_liftsOf_21 : decode M_Mo_liftsOf.2.1 21 = .ok (.aload_n 0, 1) := by decide +kernel
theorem d_Mo_liftsOf_22 : decode M_Mo_liftsOf.2.1 22 = .ok (.getfield 20, 3) := by decide +kernel
theorem d_Mo_liftsOf_25 : decode M_Mo_liftsOf.2.1 25 = .ok (.iload_n 1, 1) := by decide +kernel
theorem d_Mo_liftsOf_26 : decode M_Mo_liftsOf.2.1 26 = .ok (.iaload, 1) := by decide +kernel
theorem d_Mo_liftsOf_27 : decode M_Mo_liftsOf.2.1 27 = .ok (.if_icmp .le 9, 3) := by decide +kernel
theorem d_Mo_liftsOf_30 : decode M_Mo_liftsOf.2.1 30 = .ok (.iconst 1, 1) := by decide +kernel
theorem d_Mo_liftsOf_31 : decode M_Mo_liftsOf.2.1 31 = .ok (.iload_n 3, 1) := by decide +kernel
theorem d_Mo_liftsOf_32 : decode M_Mo_liftsOf.2.1 32 = .ok (.ishl, 1) := by decide +kernel
theorem d_Mo_liftsOf_33 : decode M_Mo_liftsOf.2.1 33 = .ok (.goto 4, 3) := by decide +kernel
theorem d_Mo_liftsOf_36 : decode M_Mo_liftsOf.2.1 36 = .ok (.iconst 0, 1) := by decide +kernel
theorem d_Mo_liftsOf_37 : decode M_Mo_liftsOf.2.1 37 = .ok (.ior, 1) := by decide +kernel
theorem d_Mo_liftsOf_38 : decode M_Mo_liftsOf.2.1 38 = .ok (.istore_n 2, 1) := by decide +kernel
theorem d_Mo_liftsOf_39 : decode M_Mo_liftsOf.2.1 39 = .ok (.iinc 3 1, 3) := by decide +kernel
theorem d_Mo_liftsOf_42 : decode M_Mo_liftsOf.2.1 42 = .ok (.goto (-38), 3) := by decide +kernel
theorem d_Mo_liftsOf_45 : decode M_Mo_liftsOf.2.1 45 = .ok (.iload_n 2, 1) := by decide +kernel
theorem d_Mo_liftsOf_46 : decode M_Mo_liftsOf.2.1 46 = .ok (.ireturn, 1) := by decide +kernel
theorem d_Mo_wind_0 : decode M_Mo_wind.2.1 0 = .ok (.iload_n 1, 1) := by decide +kernel
theorem d_Mo_wind_1 : decode M_Mo_wind.2.1 1 = .ok (.iconst 0, 1) := by decide +kernel
theorem d_Mo_wind_2 : decode M_Mo_wind.2.1 2 = .ok (.bipush 9, 2) := by decide +kernel
theorem d_Mo_wind_4 : decode M_Mo_wind.2.1 4 = .ok (.invokestatic 78, 3) := by decide +kernel
theorem d_Mo_wind_7 : decode M_Mo_wind.2.1 7 = .ok (.ifCond .eq 20, 3) := by decide +kernel
theorem d_Mo_wind_10 : decode M_Mo_wind.2.1 10 = .ok (.iload_n 1, 1) := by decide +kernel
theorem d_Mo_wind_11 : decode M_Mo_wind.2.1 11 = .ok (.ifCond .ne 7, 3) := by decide +kernel
theorem d_Mo_wind_14 : decode M_Mo_wind.2.1 14 = .ok (.iconst 0, 1) := by decide +kernel
theorem d_Mo_wind_15 : decode M_Mo_wind.2.1 15 = .ok (.goto 14, 3) := by decide +kernel
theorem d_Mo_wind_18 : decode M_Mo_wind.2.1 18 = .ok (.aload_n 0, 1) := by decide +kernel
theorem d_Mo_wind_19 : decode M_Mo_wind.2.1 19 = .ok (.getfield 13, 3) := by decide +kernel
theorem d_Mo_wind_22 : decode M_Mo_wind.2.1 22 = .ok (.iload_n 1, 1) := by decide +kernel
theorem d_Mo_wind_23 : decode M_Mo_wind.2.1 23 = .ok (.iaload, 1) := by decide +kernel
theorem d_Mo_wind_24 : decode M_Mo_wind.2.1 24 = .ok (.goto 5, 3) := by decide +kernel
theorem d_Mo_wind_27 : decode M_Mo_wind.2.1 27 = .ok (.ldc 151, 2) := by decide +kernel
theorem d_Mo_wind_29 : decode M_Mo_wind.2.1 29 = .ok (.ireturn, 1) := by decide +kernel
theorem d_Mo_one_0 : decode M_Mo_one.2.1 0 = .ok (.aload_n 0, 1) := by decide +kernel
theorem d_Mo_one_1 : decode M_Mo_one.2.1 1 = .ok (.iload_n 1, 1) := by decide +kernel
theorem d_Mo_one_2 : decode M_Mo_one.2.1 2 = .ok (.invokevirtual 152, 3) := by decide +kernel
theorem d_Mo_one_5 : decode M_Mo_one.2.1 5 = .ok (.ifCond .ne 5, 3) := by decide +kernel
theorem d_Mo_one_8 : decode M_Mo_one.2.1 8 = .ok (.iconst (-1), 1) := by decide +kernel
theorem d_Mo_one_9 : decode M_Mo_one.2.1 9 = .ok (.ireturn, 1) := by decide +kernel
theorem d_Mo_one_10 : decode M_Mo_one.2.1 10 = .ok (.iload_n 2, 1) := by decide +kernel
theorem d_Mo_one_11 : decode M_Mo_one.2.1 11 = .ok (.tableswitch 83 0 4 #[33, 40, 47, 67, 77], 33) := by decide +kernel
theorem d_Mo_one_44 : decode M_Mo_one.2.1 44 = .ok (.aload_n 0, 1) := by decide +kernel
theorem d_Mo_one_45 : decode M_Mo_one.2.1 45 = .ok (.getfield 20, 3) := by decide +kernel
theorem d_Mo_one_48 : decode M_Mo_one.2.1 48 = .ok (.iload_n 1, 1) := by decide +kernel
theorem d_Mo_one_49 : decode M_Mo_one.2.1 49 = .ok (.iaload, 1) := by decide +kernel
theorem d_Mo_one_50 : decode M_Mo_one.2.1 50 = .ok (.ireturn, 1) := by decide +kernel
theorem d_Mo_one_51 : decode M_Mo_one.2.1 51 = .ok (.aload_n 0, 1) := by decide +kernel
theorem d_Mo_one_52 : decode M_Mo_one.2.1 52 = .ok (.getfield 23, 3) := by decide +kernel
theorem d_Mo_one_55 : decode M_Mo_one.2.1 55 = .ok (.iload_n 1, 1) := by decide +kernel
theorem d_Mo_one_56 : decode M_Mo_one.2.1 56 = .ok (.iaload, 1) := by decide +kernel
theorem d_Mo_one_57 : decode M_Mo_one.2.1 57 = .ok (.ireturn, 1) := by decide +kernel
theorem d_Mo_one_58 : decode M_Mo_one.2.1 58 = .ok (.aload_n 0, 1) := by decide +kernel
theorem d_Mo_one_59 : decode M_Mo_one.2.1 59 = .ok (.getfield 41, 3) := by decide +kernel
theorem d_Mo_one_62 : decode M_Mo_one.2.1 62 = .ok (.bipush 6, 2) := by decide +kernel
theorem d_Mo_one_64 : decode M_Mo_one.2.1 64 = .ok (.iaload, 1) := by decide +kernel
theorem d_Mo_one_65 : decode M_Mo_one.2.1 65 = .ok (.iload_n 1, 1) := by decide +kernel
theorem d_Mo_one_66 : decode M_Mo_one.2.1 66 = .ok (.invokestatic 140, 3) := by decide +kernel
theorem d_Mo_one_69 : decode M_Mo_one.2.1 69 = .ok (.ifCond .eq 7, 3) := by decide +kernel
theorem d_Mo_one_72 : decode M_Mo_one.2.1 72 = .ok (.iconst 1, 1) := by decide +kernel
theorem d_Mo_one_73 : decode M_Mo_one.2.1 73 = .ok (.goto 4, 3) := by decide +kernel
theorem d_Mo_one_76 : decode M_Mo_one.2.1 76 = .ok (.iconst 0, 1) := by decide +kernel
theorem d_Mo_one_77 : decode M_Mo_one.2.1 77 = .ok (.ireturn, 1) := by decide +kernel
theorem d_Mo_one_78 : decode M_Mo_one.2.1 78 = .ok (.aload_n 0, 1) := by decide +kernel
theorem d_Mo_one_79 : decode M_Mo_one.2.1 79 = .ok (.getfield 41, 3) := by decide +kernel
theorem d_Mo_one_82 : decode M_Mo_one.2.1 82 = .ok (.bipush 7, 2) := by decide +kernel
theorem d_Mo_one_84 : decode M_Mo_one.2.1 84 = .ok (.iload_n 1, 1) := by decide +kernel
theorem d_Mo_one_85 : decode M_Mo_one.2.1 85 = .ok (.iadd, 1) := by decide +kernel
theorem d_Mo_one_86 : decode M_Mo_one.2.1 86 = .ok (.iaload, 1) := by decide +kernel
theorem d_Mo_one_87 : decode M_Mo_one.2.1 87 = .ok (.ireturn, 1) := by decide +kernel
theorem d_Mo_one_88 : decode M_Mo_one.2.1 88 = .ok (.aload_n 0, 1) := by decide +kernel
theorem d_Mo_one_89 : decode M_Mo_one.2.1 89 = .ok (.iload_n 1, 1) := by decide +kernel
theorem d_Mo_one_90 : decode M_Mo_one.2.1 90 = .ok (.invokevirtual 155, 3) := by decide +kernel
theorem d_Mo_one_93 : decode M_Mo_one.2.1 93 = .ok (.ireturn, 1) := by decide +kernel
theorem d_Mo_one_94 : decode M_Mo_one.2.1 94 = .ok (.iconst (-1), 1) := by decide +kernel
theorem d_Mo_one_95 : decode M_Mo_one.2.1 95 = .ok (.ireturn, 1) := by decide +kernel
theorem d_Mo_thought_0 : decode M_Mo_thought.2.1 0 = .ok (.aload_n 0, 1) := by decide +kernel
theorem d_Mo_thought_1 : decode M_Mo_thought.2.1 1 = .ok (.iload_n 1, 1) := by decide +kernel
theorem d_Mo_thought_2 : decode M_Mo_thought.2.1 2 = .ok (.invokevirtual 159, 3) := by decide +kernel
theorem d_Mo_thought_5 : decode M_Mo_thought.2.1 5 = .ok (.ifCond .eq 12, 3) := by decide +kernel
theorem d_Mo_thought_8 : decode M_Mo_thought.2.1 8 = .ok (.iload_n 2, 1) := by decide +kernel
theorem d_Mo_thought_9 : decode M_Mo_thought.2.1 9 = .ok (.iconst 0, 1) := by decide +kernel
theorem d_Mo_thought_10 : decode M_Mo_thought.2.1 10 = .ok (.iconst 1, 1) := by decide +kernel
theorem d_Mo_thought_11 : decode M_Mo_thought.2.1 11 = .ok (.invokestatic 78, 3) := by decide +kernel
theorem d_Mo_thought_14 : decode M_Mo_thought.2.1 14 = .ok (.ifCond .ne 5, 3) := by decide +kernel
theorem d_Mo_thought_17 : decode M_Mo_thought.2.1 17 = .ok (.iconst (-1), 1) := by decide +kernel
theorem d_Mo_thought_18 : decode M_Mo_thought.2.1 18 = .ok (.ireturn, 1) := by decide +kernel
theorem d_Mo_thought_19 : decode M_Mo_thought.2.1 19 = .ok (.iload_n 2, 1) := by decide +kernel
theorem d_Mo_thought_20 : decode M_Mo_thought.2.1 20 = .ok (.ifCond .ne 12, 3) := by decide +kernel
theorem d_Mo_thought_23 : decode M_Mo_thought.2.1 23 = .ok (.aload_n 0, 1) := by decide +kernel
theorem d_Mo_thought_24 : decode M_Mo_thought.2.1 24 = .ok (.getfield 32, 3) := by decide +kernel
theorem d_Mo_thought_27 : decode M_Mo_thought.2.1 27 = .ok (.iload_n 1, 1) := by decide +kernel
theorem d_Mo_thought_28 : decode M_Mo_thought.2.1 28 = .ok (.iaload, 1) := by decide +kernel
theorem d_Mo_thought_29 : decode M_Mo_thought.2.1 29 = .ok (.goto 9, 3) := by decide +kernel
theorem d_Mo_thought_32 : decode M_Mo_thought.2.1 32 = .ok (.aload_n 0, 1) := by decide +kernel
theorem d_Mo_thought_33 : decode M_Mo_thought.2.1 33 = .ok (.getfield 35, 3) := by decide +kernel
theorem d_Mo_thought_36 : decode M_Mo_thought.2.1 36 = .ok (.iload_n 1, 1) := by decide +kernel
theorem d_Mo_thought_37 : decode M_Mo_thought.2.1 37 = .ok (.iaload, 1) := by decide +kernel
theorem d_Mo_thought_38 : decode M_Mo_thought.2.1 38 = .ok (.ireturn, 1) := by decide +kernel
theorem d_Mo_know_0 : decode M_Mo_know.2.1 0 = .ok (.aload_n 0, 1) := by decide +kernel
theorem d_Mo_know_1 : decode M_Mo_know.2.1 1 = .ok (.getfield 44, 3) := by decide +kernel
theorem d_Mo_know_4 : decode M_Mo_know.2.1 4 = .ok (.iconst 0, 1) := by decide +kernel
theorem d_Mo_know_5 : decode M_Mo_know.2.1 5 = .ok (.iaload, 1) := by decide +kernel
theorem d_Mo_know_6 : decode M_Mo_know.2.1 6 = .ok (.bipush 10, 2) := by decide +kernel
theorem d_Mo_know_8 : decode M_Mo_know.2.1 8 = .ok (.if_icmp .ne 42, 3) := by decide +kernel
theorem d_Mo_know_11 : decode M_Mo_know.2.1 11 = .ok (.iconst 0, 1) := by decide +kernel
theorem d_Mo_know_12 : decode M_Mo_know.2.1 12 = .ok (.istore_n 1, 1) := by decide +kernel
theorem d_Mo_know_13 : decode M_Mo_know.2.1 13 = .ok (.iload_n 1, 1) := by decide +kernel
theorem d_Mo_know_14 : decode M_Mo_know.2.1 14 = .ok (.bipush 99, 2) := by decide +kernel
theorem d_Mo_know_16 : decode M_Mo_know.2.1 16 = .ok (.if_icmp .ge 24, 3) := by decide +kernel
theorem d_Mo_know_19 : decode M_Mo_know.2.1 19 = .ok (.aload_n 0, 1) := by decide +kernel
theorem d_Mo_know_20 : decode M_Mo_know.2.1 20 = .ok (.getfield 47, 3) := by decide +kernel
theorem d_Mo_know_23 : decode M_Mo_know.2.1 23 = .ok (.iload_n 1, 1) := by decide +kernel
theorem d_Mo_know_24 : decode M_Mo_know.2.1 24 = .ok (.aload_n 0, 1) := by decide +kernel
theorem d_Mo_know_25 : decode M_Mo_know.2.1 25 = .ok (.getfield 47, 3) := by decide +kernel
theorem d_Mo_know_28 : decode M_Mo_know.2.1 28 = .ok (.bipush 11, 2) := by decide +kernel
theorem d_Mo_know_30 : decode M_Mo_know.2.1 30 = .ok (.iload_n 1, 1) := by decide +kernel
theorem d_Mo_know_31 : decode M_Mo_know.2.1 31 = .ok (.iadd, 1) := by decide +kernel
theorem d_Mo_know_32 : decode M_Mo_know.2.1 32 = .ok (.iaload, 1) := by decide +kernel
theorem d_Mo_know_33 : decode M_Mo_know.2.1 33 = .ok (.iastore, 1) := by decide +kernel
theorem d_Mo_know_34 : decode M_Mo_know.2.1 34 = .ok (.iinc 1 1, 3) := by decide +kernel
theorem d_Mo_know_37 : decode M_Mo_know.2.1 37 = .ok (.goto (-24), 3) := by decide +kernel
theorem d_Mo_know_40 : decode M_Mo_know.2.1 40 = .ok (.aload_n 0, 1) := by decide +kernel
theorem d_Mo_know_41 : decode M_Mo_know.2.1 41 = .ok (.getfield 44, 3) := by decide +kernel
theorem d_Mo_know_44 : decode M_Mo_know.2.1 44 = .ok (.iconst 0, 1) := by decide +kernel
theorem d_Mo_know_45 : decode M_Mo_know.2.1 45 = .ok (.dup2, 1) := by decide +kernel
theorem d_Mo_know_46 : decode M_Mo_know.2.1 46 = .ok (.iaload, 1) := by decide +kernel
theorem d_Mo_know_47 : decode M_Mo_know.2.1 47 = .ok (.iconst 1, 1) := by decide +kernel
theorem d_Mo_know_48 : decode M_Mo_know.2.1 48 = .ok (.isub, 1) := by decide +kernel
theorem d_Mo_know_49 : decode M_Mo_know.2.1 49 = .ok (.iastore, 1) := by decide +kernel
theorem d_Mo_know_50 : decode M_Mo_know.2.1 50 = .ok (.iconst 0, 1) := by decide +kernel
theorem d_Mo_know_51 : decode M_Mo_know.2.1 51 = .ok (.istore_n 1, 1) := by decide +kernel
theorem d_Mo_know_52 : decode M_Mo_know.2.1 52 = .ok (.iload_n 1, 1) := by decide +kernel
theorem d_Mo_know_53 : decode M_Mo_know.2.1 53 = .ok (.bipush 11, 2) := by decide +kernel
theorem d_Mo_know_55 : decode M_Mo_know.2.1 55 = .ok (.if_icmp .ge 31, 3) := by decide +kernel
theorem d_Mo_know_58 : decode M_Mo_know.2.1 58 = .ok (.aload_n 0, 1) := by decide +kernel
theorem d_Mo_know_59 : decode M_Mo_know.2.1 59 = .ok (.getfield 47, 3) := by decide +kernel
theorem d_Mo_know_62 : decode M_Mo_know.2.1 62 = .ok (.bipush 11, 2) := by decide +kernel
theorem d_Mo_know_64 : decode M_Mo_know.2.1 64 = .ok (.aload_n 0, 1) := by decide +kernel
theorem d_Mo_know_65 : decode M_Mo_know.2.1 65 = .ok (.getfield 44, 3) := by decide +kernel
theorem d_Mo_know_68 : decode M_Mo_know.2.1 68 = .ok (.iconst 0, 1) := by decide +kernel
theorem d_Mo_know_69 : decode M_Mo_know.2.1 69 = .ok (.iaload, 1) := by decide +kernel
theorem d_Mo_know_70 : decode M_Mo_know.2.1 70 = .ok (.imul, 1) := by decide +kernel
theorem d_Mo_know_71 : decode M_Mo_know.2.1 71 = .ok (.iload_n 1, 1) := by decide +kernel
theorem d_Mo_know_72 : decode M_Mo_know.2.1 72 = .ok (.iadd, 1) := by decide +kernel
theorem d_Mo_know_73 : decode M_Mo_know.2.1 73 = .ok (.aload_n 0, 1) := by decide +kernel
theorem d_Mo_know_74 : decode M_Mo_know.2.1 74 = .ok (.getfield 41, 3) := by decide +kernel
theorem d_Mo_know_77 : decode M_Mo_know.2.1 77 = .ok (.iload_n 1, 1) := by decide +kernel
theorem d_Mo_know_78 : decode M_Mo_know.2.1 78 = .ok (.iaload, 1) := by decide +kernel
theorem d_Mo_know_79 : decode M_Mo_know.2.1 79 = .ok (.iastore, 1) := by decide +kernel
theorem d_Mo_know_80 : decode M_Mo_know.2.1 80 = .ok (.iinc 1 1, 3) := by decide +kernel
theorem d_Mo_know_83 : decode M_Mo_know.2.1 83 = .ok (.goto (-31), 3) := by decide +kernel
theorem d_Mo_know_86 : decode M_Mo_know.2.1 86 = .ok (.aload_n 0, 1) := by decide +kernel
theorem d_Mo_know_87 : decode M_Mo_know.2.1 87 = .ok (.getfield 44, 3) := by decide +kernel
theorem d_Mo_know_90 : decode M_Mo_know.2.1 90 = .ok (.iconst 0, 1) := by decide +kernel
theorem d_Mo_know_91 : decode M_Mo_know.2.1 91 = .ok (.dup2, 1) := by decide +kernel
theorem d_Mo_know_92 : decode M_Mo_know.2.1 92 = .ok (.iaload, 1) := by decide +kernel
theorem d_Mo_know_93 : decode M_Mo_know.2.1 93 = .ok (.iconst 1, 1) := by decide +kernel
theorem d_Mo_know_94 : decode M_Mo_know.2.1 94 = .ok (.iadd, 1) := by decide +kernel
theorem d_Mo_know_95 : decode M_Mo_know.2.1 95 = .ok (.iastore, 1) := by decide +kernel
theorem d_Mo_know_96 : decode M_Mo_know.2.1 96 = .ok (.return_, 1) := by decide +kernel
theorem d_Mo_begins_0 : decode M_Mo_begins.2.1 0 = .ok (.aload_n 0, 1) := by decide +kernel
theorem d_Mo_begins_1 : decode M_Mo_begins.2.1 1 = .ok (.iload_n 1, 1) := by decide +kernel
theorem d_Mo_begins_2 : decode M_Mo_begins.2.1 2 = .ok (.invokevirtual 152, 3) := by decide +kernel
theorem d_Mo_begins_5 : decode M_Mo_begins.2.1 5 = .ok (.ifCond .eq 11, 3) := by decide +kernel
theorem d_Mo_begins_8 : decode M_Mo_begins.2.1 8 = .ok (.aload_n 0, 1) := by decide +kernel
theorem d_Mo_begins_9 : decode M_Mo_begins.2.1 9 = .ok (.iload_n 2, 1) := by decide +kernel
theorem d_Mo_begins_10 : decode M_Mo_begins.2.1 10 = .ok (.invokevirtual 159, 3) := by decide +kernel
theorem d_Mo_begins_13 : decode M_Mo_begins.2.1 13 = .ok (.ifCond .ne 5, 3) := by decide +kernel
theorem d_Mo_begins_16 : decode M_Mo_begins.2.1 16 = .ok (.iconst (-1), 1) := by decide +kernel
theorem d_Mo_begins_17 : decode M_Mo_begins.2.1 17 = .ok (.ireturn, 1) := by decide +kernel
theorem d_Mo_begins_18 : decode M_Mo_begins.2.1 18 = .ok (.aload_n 0, 1) := by decide +kernel
theorem d_Mo_begins_19 : decode M_Mo_begins.2.1 19 = .ok (.getfield 41, 3) := by decide +kernel
theorem d_Mo_begins_22 : decode M_Mo_begins.2.1 22 = .ok (.iload_n 1, 1) := by decide +kernel
theorem d_Mo_begins_23 : decode M_Mo_begins.2.1 23 = .ok (.iload_n 2, 1) := by decide +kernel
theorem d_Mo_begins_24 : decode M_Mo_begins.2.1 24 = .ok (.invokestatic 162, 3) := by decide +kernel
theorem d_Mo_begins_27 : decode M_Mo_begins.2.1 27 = .ok (.ifCond .ne 6, 3) := by decide +kernel
theorem d_Mo_begins_30 : decode M_Mo_begins.2.1 30 = .ok (.bipush (-2), 2) := by decide +kernel
theorem d_Mo_begins_32 : decode M_Mo_begins.2.1 32 = .ok (.ireturn, 1) := by decide +kernel
theorem d_Mo_begins_33 : decode M_Mo_begins.2.1 33 = .ok (.aload_n 0, 1) := by decide +kernel
theorem d_Mo_begins_34 : decode M_Mo_begins.2.1 34 = .ok (.invokevirtual 166, 3) := by decide +kernel
theorem d_Mo_begins_37 : decode M_Mo_begins.2.1 37 = .ok (.aload_n 0, 1) := by decide +kernel
theorem d_Mo_begins_38 : decode M_Mo_begins.2.1 38 = .ok (.getfield 41, 3) := by decide +kernel
theorem d_Mo_begins_41 : decode M_Mo_begins.2.1 41 = .ok (.iload_n 1, 1) := by decide +kernel
theorem d_Mo_begins_42 : decode M_Mo_begins.2.1 42 = .ok (.iload_n 2, 1) := by decide +kernel
theorem d_Mo_begins_43 : decode M_Mo_begins.2.1 43 = .ok (.invokestatic 169, 3) := by decide +kernel
theorem d_Mo_begins_46 : decode M_Mo_begins.2.1 46 = .ok (.aload_n 0, 1) := by decide +kernel
theorem d_Mo_begins_47 : decode M_Mo_begins.2.1 47 = .ok (.aload_n 0, 1) := by decide +kernel
theorem d_Mo_begins_48 : decode M_Mo_begins.2.1 48 = .ok (.getfield 41, 3) := by decide +kernel
theorem d_Mo_begins_51 : decode M_Mo_begins.2.1 51 = .ok (.invokevirtual 144, 3) := by decide +kernel
theorem d_Mo_begins_54 : decode M_Mo_begins.2.1 54 = .ok (.ireturn, 1) := by decide +kernel
theorem d_Mo_minutes_0 : decode M_Mo_minutes.2.1 0 = .ok (.iload_n 1, 1) := by decide +kernel
theorem d_Mo_minutes_1 : decode M_Mo_minutes.2.1 1 = .ok (.iconst 1, 1) := by decide +kernel
theorem d_Mo_minutes_2 : decode M_Mo_minutes.2.1 2 = .ok (.bipush 9, 2) := by decide +kernel
theorem d_Mo_minutes_4 : decode M_Mo_minutes.2.1 4 = .ok (.invokestatic 78, 3) := by decide +kernel
theorem d_Mo_minutes_7 : decode M_Mo_minutes.2.1 7 = .ok (.ifCond .ne 5, 3) := by decide +kernel
theorem d_Mo_minutes_10 : decode M_Mo_minutes.2.1 10 = .ok (.iconst (-1), 1) := by decide +kernel
theorem d_Mo_minutes_11 : decode M_Mo_minutes.2.1 11 = .ok (.ireturn, 1) := by decide +kernel
theorem d_Mo_minutes_12 : decode M_Mo_minutes.2.1 12 = .ok (.aload_n 0, 1) := by decide +kernel
theorem d_Mo_minutes_13 : decode M_Mo_minutes.2.1 13 = .ok (.getfield 41, 3) := by decide +kernel
theorem d_Mo_minutes_16 : decode M_Mo_minutes.2.1 16 = .ok (.iconst 0, 1) := by decide +kernel
theorem d_Mo_minutes_17 : decode M_Mo_minutes.2.1 17 = .ok (.iaload, 1) := by decide +kernel
theorem d_Mo_minutes_18 : decode M_Mo_minutes.2.1 18 = .ok (.iload_n 1, 1) := by decide +kernel
theorem d_Mo_minutes_19 : decode M_Mo_minutes.2.1 19 = .ok (.iadd, 1) := by decide +kernel
theorem d_Mo_minutes_20 : decode M_Mo_minutes.2.1 20 = .ok (.bipush 99, 2) := by decide +kernel
theorem d_Mo_minutes_22 : decode M_Mo_minutes.2.1 22 = .ok (.if_icmp .le 6, 3) := by decide +kernel
theorem d_Mo_minutes_25 : decode M_Mo_minutes.2.1 25 = .ok (.bipush (-2), 2) := by decide +kernel
theorem d_Mo_minutes_27 : decode M_Mo_minutes.2.1 27 = .ok (.ireturn, 1) := by decide +kernel
theorem d_Mo_minutes_28 : decode M_Mo_minutes.2.1 28 = .ok (.aload_n 0, 1) := by decide +kernel
theorem d_Mo_minutes_29 : decode M_Mo_minutes.2.1 29 = .ok (.invokevirtual 166, 3) := by decide +kernel
theorem d_Mo_minutes_32 : decode M_Mo_minutes.2.1 32 = .ok (.iconst 0, 1) := by decide +kernel
theorem d_Mo_minutes_33 : decode M_Mo_minutes.2.1 33 = .ok (.istore_n 2, 1) := by decide +kernel
theorem d_Mo_minutes_34 : decode M_Mo_minutes.2.1 34 = .ok (.iload_n 2, 1) := by decide +kernel
theorem d_Mo_minutes_35 : decode M_Mo_minutes.2.1 35 = .ok (.iload_n 1, 1) := by decide +kernel
theorem d_Mo_minutes_36 : decode M_Mo_minutes.2.1 36 = .ok (.if_icmp .ge 17, 3) := by decide +kernel
theorem d_Mo_minutes_39 : decode M_Mo_minutes.2.1 39 = .ok (.aload_n 0, 1) := by decide +kernel
theorem d_Mo_minutes_40 : decode M_Mo_minutes.2.1 40 = .ok (.aload_n 0, 1) := by decide +kernel
theorem d_Mo_minutes_41 : decode M_Mo_minutes.2.1 41 = .ok (.getfield 41, 3) := by decide +kernel
theorem d_Mo_minutes_44 : decode M_Mo_minutes.2.1 44 = .ok (.invokevirtual 173, 3) := by decide +kernel
theorem d_Mo_minutes_47 : decode M_Mo_minutes.2.1 47 = .ok (.iinc 2 1, 3) := by decide +kernel
theorem d_Mo_minutes_50 : decode M_Mo_minutes.2.1 50 = .ok (.goto (-16), 3) := by decide +kernel
theorem d_Mo_minutes_53 : decode M_Mo_minutes.2.1 53 = .ok (.aload_n 0, 1) := by decide +kernel
theorem d_Mo_minutes_54 : decode M_Mo_minutes.2.1 54 = .ok (.getfield 41, 3) := by decide +kernel
theorem d_Mo_minutes_57 : decode M_Mo_minutes.2.1 57 = .ok (.iconst 1, 1) := by decide +kernel
theorem d_Mo_minutes_58 : decode M_Mo_minutes.2.1 58 = .ok (.iaload, 1) := by decide +kernel
theorem d_Mo_minutes_59 : decode M_Mo_minutes.2.1 59 = .ok (.ireturn, 1) := by decide +kernel
theorem d_Mo_isAtRest_0 : decode M_Mo_isAtRest.2.1 0 = .ok (.aload_n 0, 1) := by decide +kernel
theorem d_Mo_isAtRest_1 : decode M_Mo_isAtRest.2.1 1 = .ok (.getfield 41, 3) := by decide +kernel
theorem d_Mo_isAtRest_4 : decode M_Mo_isAtRest.2.1 4 = .ok (.iconst 2, 1) := by decide +kernel
theorem d_Mo_isAtRest_5 : decode M_Mo_isAtRest.2.1 5 = .ok (.iaload, 1) := by decide +kernel
theorem d_Mo_isAtRest_6 : decode M_Mo_isAtRest.2.1 6 = .ok (.ifCond .ne 17, 3) := by decide +kernel
theorem d_Mo_isAtRest_9 : decode M_Mo_isAtRest.2.1 9 = .ok (.aload_n 0, 1) := by decide +kernel
theorem d_Mo_isAtRest_10 : decode M_Mo_isAtRest.2.1 10 = .ok (.getfield 41, 3) := by decide +kernel
theorem d_Mo_isAtRest_13 : decode M_Mo_isAtRest.2.1 13 = .ok (.bipush 10, 2) := by decide +kernel
theorem d_Mo_isAtRest_15 : decode M_Mo_isAtRest.2.1 15 = .ok (.iaload, 1) := by decide +kernel
theorem d_Mo_isAtRest_16 : decode M_Mo_isAtRest.2.1 16 = .ok (.ifCond .ne 7, 3) := by decide +kernel
theorem d_Mo_isAtRest_19 : decode M_Mo_isAtRest.2.1 19 = .ok (.iconst 1, 1) := by decide +kernel
theorem d_Mo_isAtRest_20 : decode M_Mo_isAtRest.2.1 20 = .ok (.goto 4, 3) := by decide +kernel
theorem d_Mo_isAtRest_23 : decode M_Mo_isAtRest.2.1 23 = .ok (.iconst 0, 1) := by decide +kernel
theorem d_Mo_isAtRest_24 : decode M_Mo_isAtRest.2.1 24 = .ok (.ireturn, 1) := by decide +kernel
theorem d_Mo_enters_0 : decode M_Mo_enters.2.1 0 = .ok (.aload_n 0, 1) := by decide +kernel
theorem d_Mo_enters_1 : decode M_Mo_enters.2.1 1 = .ok (.iload_n 1, 1) := by decide +kernel
theorem d_Mo_enters_2 : decode M_Mo_enters.2.1 2 = .ok (.invokevirtual 152, 3) := by decide +kernel
theorem d_Mo_enters_5 : decode M_Mo_enters.2.1 5 = .ok (.ifCond .ne 5, 3) := by decide +kernel
theorem d_Mo_enters_8 : decode M_Mo_enters.2.1 8 = .ok (.iconst (-1), 1) := by decide +kernel
theorem d_Mo_enters_9 : decode M_Mo_enters.2.1 9 = .ok (.ireturn, 1) := by decide +kernel
theorem d_Mo_enters_10 : decode M_Mo_enters.2.1 10 = .ok (.aload_n 0, 1) := by decide +kernel
theorem d_Mo_enters_11 : decode M_Mo_enters.2.1 11 = .ok (.getfield 41, 3) := by decide +kernel
theorem d_Mo_enters_14 : decode M_Mo_enters.2.1 14 = .ok (.bipush 6, 2) := by decide +kernel
theorem d_Mo_enters_16 : decode M_Mo_enters.2.1 16 = .ok (.iaload, 1) := by decide +kernel
theorem d_Mo_enters_17 : decode M_Mo_enters.2.1 17 = .ok (.iload_n 1, 1) := by decide +kernel
theorem d_Mo_enters_18 : decode M_Mo_enters.2.1 18 = .ok (.invokestatic 140, 3) := by decide +kernel
theorem d_Mo_enters_21 : decode M_Mo_enters.2.1 21 = .ok (.ifCond .ne 10, 3) := by decide +kernel
theorem d_Mo_enters_24 : decode M_Mo_enters.2.1 24 = .ok (.aload_n 0, 1) := by decide +kernel
theorem d_Mo_enters_25 : decode M_Mo_enters.2.1 25 = .ok (.invokevirtual 177, 3) := by decide +kernel
theorem d_Mo_enters_28 : decode M_Mo_enters.2.1 28 = .ok (.ifCond .ne 6, 3) := by decide +kernel
theorem d_Mo_enters_31 : decode M_Mo_enters.2.1 31 = .ok (.bipush (-2), 2) := by decide +kernel
theorem d_Mo_enters_33 : decode M_Mo_enters.2.1 33 = .ok (.ireturn, 1) := by decide +kernel
theorem d_Mo_enters_34 : decode M_Mo_enters.2.1 34 = .ok (.aload_n 0, 1) := by decide +kernel
theorem d_Mo_enters_35 : decode M_Mo_enters.2.1 35 = .ok (.invokevirtual 166, 3) := by decide +kernel
theorem d_Mo_enters_38 : decode M_Mo_enters.2.1 38 = .ok (.aload_n 0, 1) := by decide +kernel
theorem d_Mo_enters_39 : decode M_Mo_enters.2.1 39 = .ok (.getfield 41, 3) := by decide +kernel
theorem d_Mo_enters_42 : decode M_Mo_enters.2.1 42 = .ok (.bipush 6, 2) := by decide +kernel
theorem d_Mo_enters_44 : decode M_Mo_enters.2.1 44 = .ok (.dup2, 1) := by decide +kernel
theorem d_Mo_enters_45 : decode M_Mo_enters.2.1 45 = .ok (.iaload, 1) := by decide +kernel
theorem d_Mo_enters_46 : decode M_Mo_enters.2.1 46 = .ok (.iconst 1, 1) := by decide +kernel
theorem d_Mo_enters_47 : decode M_Mo_enters.2.1 47 = .ok (.iload_n 1, 1) := by decide +kernel
theorem d_Mo_enters_48 : decode M_Mo_enters.2.1 48 = .ok (.ishl, 1) := by decide +kernel
theorem d_Mo_enters_49 : decode M_Mo_enters.2.1 49 = .ok (.ior, 1) := by decide +kernel
theorem d_Mo_enters_50 : decode M_Mo_enters.2.1 50 = .ok (.iastore, 1) := by decide +kernel
theorem d_Mo_enters_51 : decode M_Mo_enters.2.1 51 = .ok (.aload_n 0, 1) := by decide +kernel
theorem d_Mo_enters_52 : decode M_Mo_enters.2.1 52 = .ok (.getfield 41, 3) := by decide +kernel
theorem d_Mo_enters_55 : decode M_Mo_enters.2.1 55 = .ok (.bipush 6, 2) := by decide +kernel
theorem d_Mo_enters_57 : decode M_Mo_enters.2.1 57 = .ok (.iaload, 1) := by decide +kernel
theorem d_Mo_enters_58 : decode M_Mo_enters.2.1 58 = .ok (.invokestatic 181, 3) := by decide +kernel
theorem d_Mo_enters_61 : decode M_Mo_enters.2.1 61 = .ok (.ireturn, 1) := by decide +kernel
theorem d_Mo_leaves_0 : decode M_Mo_leaves.2.1 0 = .ok (.aload_n 0, 1) := by decide +kernel
theorem d_Mo_leaves_1 : decode M_Mo_leaves.2.1 1 = .ok (.iload_n 1, 1) := by decide +kernel
theorem d_Mo_leaves_2 : decode M_Mo_leaves.2.1 2 = .ok (.invokevirtual 152, 3) := by decide +kernel
theorem d_Mo_leaves_5 : decode M_Mo_leaves.2.1 5 = .ok (.ifCond .ne 5, 3) := by decide +kernel
theorem d_Mo_leaves_8 : decode M_Mo_leaves.2.1 8 = .ok (.iconst (-1), 1) := by decide +kernel
theorem d_Mo_leaves_9 : decode M_Mo_leaves.2.1 9 = .ok (.ireturn, 1) := by decide +kernel
theorem d_Mo_leaves_10 : decode M_Mo_leaves.2.1 10 = .ok (.aload_n 0, 1) := by decide +kernel
theorem d_Mo_leaves_11 : decode M_Mo_leaves.2.1 11 = .ok (.getfield 41, 3) := by decide +kernel
theorem d_Mo_leaves_14 : decode M_Mo_leaves.2.1 14 = .ok (.bipush 6, 2) := by decide +kernel
theorem d_Mo_leaves_16 : decode M_Mo_leaves.2.1 16 = .ok (.iaload, 1) := by decide +kernel
theorem d_Mo_leaves_17 : decode M_Mo_leaves.2.1 17 = .ok (.iload_n 1, 1) := by decide +kernel
theorem d_Mo_leaves_18 : decode M_Mo_leaves.2.1 18 = .ok (.invokestatic 140, 3) := by decide +kernel
theorem d_Mo_leaves_21 : decode M_Mo_leaves.2.1 21 = .ok (.ifCond .eq 10, 3) := by decide +kernel
theorem d_Mo_leaves_24 : decode M_Mo_leaves.2.1 24 = .ok (.aload_n 0, 1) := by decide +kernel
theorem d_Mo_leaves_25 : decode M_Mo_leaves.2.1 25 = .ok (.invokevirtual 177, 3) := by decide +kernel
theorem d_Mo_leaves_28 : decode M_Mo_leaves.2.1 28 = .ok (.ifCond .ne 6, 3) := by decide +kernel
theorem d_Mo_leaves_31 : decode M_Mo_leaves.2.1 31 = .ok (.bipush (-2), 2) := by decide +kernel
theorem d_Mo_leaves_33 : decode M_Mo_leaves.2.1 33 = .ok (.ireturn, 1) := by decide +kernel
theorem d_Mo_leaves_34 : decode M_Mo_leaves.2.1 34 = .ok (.aload_n 0, 1) := by decide +kernel
theorem d_Mo_leaves_35 : decode M_Mo_leaves.2.1 35 = .ok (.invokevirtual 166, 3) := by decide +kernel
theorem d_Mo_leaves_38 : decode M_Mo_leaves.2.1 38 = .ok (.aload_n 0, 1) := by decide +kernel
theorem d_Mo_leaves_39 : decode M_Mo_leaves.2.1 39 = .ok (.getfield 41, 3) := by decide +kernel
theorem d_Mo_leaves_42 : decode M_Mo_leaves.2.1 42 = .ok (.bipush 6, 2) := by decide +kernel
theorem d_Mo_leaves_44 : decode M_Mo_leaves.2.1 44 = .ok (.dup2, 1) := by decide +kernel
theorem d_Mo_leaves_45 : decode M_Mo_leaves.2.1 45 = .ok (.iaload, 1) := by decide +kernel
theorem d_Mo_leaves_46 : decode M_Mo_leaves.2.1 46 = .ok (.iconst 1, 1) := by decide +kernel
theorem d_Mo_leaves_47 : decode M_Mo_leaves.2.1 47 = .ok (.iload_n 1, 1) := by decide +kernel
theorem d_Mo_leaves_48 : decode M_Mo_leaves.2.1 48 = .ok (.ishl, 1) := by decide +kernel
theorem d_Mo_leaves_49 : decode M_Mo_leaves.2.1 49 = .ok (.iconst (-1), 1) := by decide +kernel
theorem d_Mo_leaves_50 : decode M_Mo_leaves.2.1 50 = .ok (.ixor, 1) := by decide +kernel
theorem d_Mo_leaves_51 : decode M_Mo_leaves.2.1 51 = .ok (.iand, 1) := by decide +kernel
theorem d_Mo_leaves_52 : decode M_Mo_leaves.2.1 52 = .ok (.iastore, 1) := by decide +kernel
theorem d_Mo_leaves_53 : decode M_Mo_leaves.2.1 53 = .ok (.aload_n 0, 1) := by decide +kernel
theorem d_Mo_leaves_54 : decode M_Mo_leaves.2.1 54 = .ok (.getfield 41, 3) := by decide +kernel
theorem d_Mo_leaves_57 : decode M_Mo_leaves.2.1 57 = .ok (.iconst 3, 1) := by decide +kernel
theorem d_Mo_leaves_58 : decode M_Mo_leaves.2.1 58 = .ok (.iaload, 1) := by decide +kernel
theorem d_Mo_leaves_59 : decode M_Mo_leaves.2.1 59 = .ok (.iload_n 1, 1) := by decide +kernel
theorem d_Mo_leaves_60 : decode M_Mo_leaves.2.1 60 = .ok (.if_icmp .ne 19, 3) := by decide +kernel
theorem d_Mo_leaves_63 : decode M_Mo_leaves.2.1 63 = .ok (.aload_n 0, 1) := by decide +kernel
theorem d_Mo_leaves_64 : decode M_Mo_leaves.2.1 64 = .ok (.getfield 41, 3) := by decide +kernel
theorem d_Mo_leaves_67 : decode M_Mo_leaves.2.1 67 = .ok (.iconst 3, 1) := by decide +kernel
theorem d_Mo_leaves_68 : decode M_Mo_leaves.2.1 68 = .ok (.bipush (-9), 2) := by decide +kernel
theorem d_Mo_leaves_70 : decode M_Mo_leaves.2.1 70 = .ok (.iastore, 1) := by decide +kernel
theorem d_Mo_leaves_71 : decode M_Mo_leaves.2.1 71 = .ok (.aload_n 0, 1) := by decide +kernel
theorem d_Mo_leaves_72 : decode M_Mo_leaves.2.1 72 = .ok (.getfield 41, 3) := by decide +kernel
theorem d_Mo_leaves_75 : decode M_Mo_leaves.2.1 75 = .ok (.iconst 4, 1) := by decide +kernel
theorem d_Mo_leaves_76 : decode M_Mo_leaves.2.1 76 = .ok (.bipush (-9), 2) := by decide +kernel
theorem d_Mo_leaves_78 : decode M_Mo_leaves.2.1 78 = .ok (.iastore, 1) := by decide +kernel
theorem d_Mo_leaves_79 : decode M_Mo_leaves.2.1 79 = .ok (.aload_n 0, 1) := by decide +kernel
theorem d_Mo_leaves_80 : decode M_Mo_leaves.2.1 80 = .ok (.getfield 41, 3) := by decide +kernel
theorem d_Mo_leaves_83 : decode M_Mo_leaves.2.1 83 = .ok (.bipush 6, 2) := by decide +kernel
theorem d_Mo_leaves_85 : decode M_Mo_leaves.2.1 85 = .ok (.iaload, 1) := by decide +kernel
theorem d_Mo_leaves_86 : decode M_Mo_leaves.2.1 86 = .ok (.invokestatic 181, 3) := by decide +kernel
theorem d_Mo_leaves_89 : decode M_Mo_leaves.2.1 89 = .ok (.ireturn, 1) := by decide +kernel
theorem d_Mo_undo_0 : decode M_Mo_undo.2.1 0 = .ok (.aload_n 0, 1) := by decide +kernel
theorem d_Mo_undo_1 : decode M_Mo_undo.2.1 1 = .ok (.getfield 44, 3) := by decide +kernel
theorem d_Mo_undo_4 : decode M_Mo_undo.2.1 4 = .ok (.iconst 0, 1) := by decide +kernel
theorem d_Mo_undo_5 : decode M_Mo_undo.2.1 5 = .ok (.iaload, 1) := by decide +kernel
theorem d_Mo_undo_6 : decode M_Mo_undo.2.1 6 = .ok (.ifCond .ne 6, 3) := by decide +kernel
theorem d_Mo_undo_9 : decode M_Mo_undo.2.1 9 = .ok (.bipush (-2), 2) := by decide +kernel
theorem d_Mo_undo_11 : decode M_Mo_undo.2.1 11 = .ok (.ireturn, 1) := by decide +kernel
theorem d_Mo_undo_12 : decode M_Mo_undo.2.1 12 = .ok (.aload_n 0, 1) := by decide +kernel
theorem d_Mo_undo_13 : decode M_Mo_undo.2.1 13 = .ok (.getfield 44, 3) := by decide +kernel
theorem d_Mo_undo_16 : decode M_Mo_undo.2.1 16 = .ok (.iconst 0, 1) := by decide +kernel
theorem d_Mo_undo_17 : decode M_Mo_undo.2.1 17 = .ok (.dup2, 1) := by decide +kernel
theorem d_Mo_undo_18 : decode M_Mo_undo.2.1 18 = .ok (.iaload, 1) := by decide +kernel
theorem d_Mo_undo_19 : decode M_Mo_undo.2.1 19 = .ok (.iconst 1, 1) := by decide +kernel
theorem d_Mo_undo_20 : decode M_Mo_undo.2.1 20 = .ok (.isub, 1) := by decide +kernel
theorem d_Mo_undo_21 : decode M_Mo_undo.2.1 21 = .ok (.iastore, 1) := by decide +kernel
theorem d_Mo_undo_22 : decode M_Mo_undo.2.1 22 = .ok (.iconst 0, 1) := by decide +kernel
theorem d_Mo_undo_23 : decode M_Mo_undo.2.1 23 = .ok (.istore_n 1, 1) := by decide +kernel
theorem d_Mo_undo_24 : decode M_Mo_undo.2.1 24 = .ok (.iload_n 1, 1) := by decide +kernel
theorem d_Mo_undo_25 : decode M_Mo_undo.2.1 25 = .ok (.bipush 11, 2) := by decide +kernel
theorem d_Mo_undo_27 : decode M_Mo_undo.2.1 27 = .ok (.if_icmp .ge 31, 3) := by decide +kernel
theorem d_Mo_undo_30 : decode M_Mo_undo.2.1 30 = .ok (.aload_n 0, 1) := by decide +kernel
theorem d_Mo_undo_31 : decode M_Mo_undo.2.1 31 = .ok (.getfield 41, 3) := by decide +kernel
theorem d_Mo_undo_34 : decode M_Mo_undo.2.1 34 = .ok (.iload_n 1, 1) := by decide +kernel
theorem d_Mo_undo_35 : decode M_Mo_undo.2.1 35 = .ok (.aload_n 0, 1) := by decide +kernel
theorem d_Mo_undo_36 : decode M_Mo_undo.2.1 36 = .ok (.getfield 47, 3) := by decide +kernel
theorem d_Mo_undo_39 : decode M_Mo_undo.2.1 39 = .ok (.bipush 11, 2) := by decide +kernel
theorem d_Mo_undo_41 : decode M_Mo_undo.2.1 41 = .ok (.aload_n 0, 1) := by decide +kernel
theorem d_Mo_undo_42 : decode M_Mo_undo.2.1 42 = .ok (.getfield 44, 3) := by decide +kernel
theorem d_Mo_undo_45 : decode M_Mo_undo.2.1 45 = .ok (.iconst 0, 1) := by decide +kernel
theorem d_Mo_undo_46 : decode M_Mo_undo.2.1 46 = .ok (.iaload, 1) := by decide +kernel
theorem d_Mo_undo_47 : decode M_Mo_undo.2.1 47 = .ok (.imul, 1) := by decide +kernel
theorem d_Mo_undo_48 : decode M_Mo_undo.2.1 48 = .ok (.iload_n 1, 1) := by decide +kernel
theorem d_Mo_undo_49 : decode M_Mo_undo.2.1 49 = .ok (.iadd, 1) := by decide +kernel
theorem d_Mo_undo_50 : decode M_Mo_undo.2.1 50 = .ok (.iaload, 1) := by decide +kernel
theorem d_Mo_undo_51 : decode M_Mo_undo.2.1 51 = .ok (.iastore, 1) := by decide +kernel
theorem d_Mo_undo_52 : decode M_Mo_undo.2.1 52 = .ok (.iinc 1 1, 3) := by decide +kernel
theorem d_Mo_undo_55 : decode M_Mo_undo.2.1 55 = .ok (.goto (-31), 3) := by decide +kernel
theorem d_Mo_undo_58 : decode M_Mo_undo.2.1 58 = .ok (.aload_n 0, 1) := by decide +kernel
theorem d_Mo_undo_59 : decode M_Mo_undo.2.1 59 = .ok (.getfield 44, 3) := by decide +kernel
theorem d_Mo_undo_62 : decode M_Mo_undo.2.1 62 = .ok (.iconst 0, 1) := by decide +kernel
theorem d_Mo_undo_63 : decode M_Mo_undo.2.1 63 = .ok (.iaload, 1) := by decide +kernel
theorem d_Mo_undo_64 : decode M_Mo_undo.2.1 64 = .ok (.ireturn, 1) := by decide +kernel
theorem d_Mo_cover_0 : decode M_Mo_cover.2.1 0 = .ok (.bipush (-9), 2) := by decide +kernel
theorem d_Mo_cover_2 : decode M_Mo_cover.2.1 2 = .ok (.istore_n 1, 1) := by decide +kernel
theorem d_Mo_cover_3 : decode M_Mo_cover.2.1 3 = .ok (.iconst 0, 1) := by decide +kernel
theorem d_Mo_cover_4 : decode M_Mo_cover.2.1 4 = .ok (.istore_n 2, 1) := by decide +kernel
theorem d_Mo_cover_5 : decode M_Mo_cover.2.1 5 = .ok (.iload_n 2, 1) := by decide +kernel
theorem d_Mo_cover_6 : decode M_Mo_cover.2.1 6 = .ok (.iconst 1, 1) := by decide +kernel
theorem d_Mo_cover_7 : decode M_Mo_cover.2.1 7 = .ok (.aload_n 0, 1) := by decide +kernel
theorem d_Mo_cover_8 : decode M_Mo_cover.2.1 8 = .ok (.getfield 29, 3) := by decide +kernel
theorem d_Mo_cover_11 : decode M_Mo_cover.2.1 11 = .ok (.iconst 0, 1) := by decide +kernel
theorem d_Mo_cover_12 : decode M_Mo_cover.2.1 12 = .ok (.iaload, 1) := by decide +kernel
theorem d_Mo_cover_13 : decode M_Mo_cover.2.1 13 = .ok (.ishl, 1) := by decide +kernel
theorem d_Mo_cover_14 : decode M_Mo_cover.2.1 14 = .ok (.if_icmp .ge 83, 3) := by decide +kernel
theorem d_Mo_cover_17 : decode M_Mo_cover.2.1 17 = .ok (.iload_n 1, 1) := by decide +kernel
theorem d_Mo_cover_18 : decode M_Mo_cover.2.1 18 = .ok (.bipush (-9), 2) := by decide +kernel
theorem d_Mo_cover_20 : decode M_Mo_cover.2.1 20 = .ok (.if_icmp .eq 14, 3) := by decide +kernel
theorem d_Mo_cover_23 : decode M_Mo_cover.2.1 23 = .ok (.iload_n 2, 1) := by decide +kernel
theorem d_Mo_cover_24 : decode M_Mo_cover.2.1 24 = .ok (.invokestatic 181, 3) := by decide +kernel
theorem d_Mo_cover_27 : decode M_Mo_cover.2.1 27 = .ok (.iload_n 1, 1) := by decide +kernel
theorem d_Mo_cover_28 : decode M_Mo_cover.2.1 28 = .ok (.invokestatic 181, 3) := by decide +kernel
theorem d_Mo_cover_31 : decode M_Mo_cover.2.1 31 = .ok (.if_icmp .ge 7, 3) := by decide +kernel
theorem d_Mo_cover_34 : decode M_Mo_cover.2.1 34 = .ok (.iconst 1, 1) := by decide +kernel
theorem d_Mo_cover_35 : decode M_Mo_cover.2.1 35 = .ok (.goto 4, 3) := by decide +kernel
theorem d_Mo_cover_38 : decode M_Mo_cover.2.1 38 = .ok (.iconst 0, 1) := by decide +kernel
theorem d_Mo_cover_39 : decode M_Mo_cover.2.1 39 = .ok (.istore_n 3, 1) := by decide +kernel
theorem d_Mo_cover_40 : decode M_Mo_cover.2.1 40 = .ok (.iconst 0, 1) := by decide +kernel
theorem d_Mo_cover_41 : decode M_Mo_cover.2.1 41 = .ok (.istore 4, 2) := by decide +kernel
theorem d_Mo_cover_43 : decode M_Mo_cover.2.1 43 = .ok (.iload 4, 2) := by decide +kernel
theorem d_Mo_cover_45 : decode M_Mo_cover.2.1 45 = .ok (.aload_n 0, 1) := by decide +kernel
theorem d_Mo_cover_46 : decode M_Mo_cover.2.1 46 = .ok (.getfield 17, 3) := by decide +kernel
theorem d_Mo_cover_49 : decode M_Mo_cover.2.1 49 = .ok (.iconst 0, 1) := by decide +kernel
theorem d_Mo_cover_50 : decode M_Mo_cover.2.1 50 = .ok (.iaload, 1) := by decide +kernel
theorem d_Mo_cover_51 : decode M_Mo_cover.2.1 51 = .ok (.if_icmp .ge 30, 3) := by decide +kernel
theorem d_Mo_cover_54 : decode M_Mo_cover.2.1 54 = .ok (.iload_n 3, 1) := by decide +kernel
theorem d_Mo_cover_55 : decode M_Mo_cover.2.1 55 = .ok (.ifCond .eq 18, 3) := by decide +kernel
theorem d_Mo_cover_58 : decode M_Mo_cover.2.1 58 = .ok (.aload_n 0, 1) := by decide +kernel
theorem d_Mo_cover_59 : decode M_Mo_cover.2.1 59 = .ok (.iload 4, 2) := by decide +kernel
theorem d_Mo_cover_61 : decode M_Mo_cover.2.1 61 = .ok (.invokevirtual 155, 3) := by decide +kernel
theorem d_Mo_cover_64 : decode M_Mo_cover.2.1 64 = .ok (.iload_n 2, 1) := by decide +kernel
theorem d_Mo_cover_65 : decode M_Mo_cover.2.1 65 = .ok (.iand, 1) := by decide +kernel
theorem d_Mo_cover_66 : decode M_Mo_cover.2.1 66 = .ok (.ifCond .eq 7, 3) := by decide +kernel
theorem d_Mo_cover_69 : decode M_Mo_cover.2.1 69 = .ok (.iconst 1, 1) := by decide +kernel
theorem d_Mo_cover_70 : decode M_Mo_cover.2.1 70 = .ok (.goto 4, 3) := by decide +kernel
theorem d_Mo_cover_73 : decode M_Mo_cover.2.1 73 = .ok (.iconst 0, 1) := by decide +kernel
theorem d_Mo_cover_74 : decode M_Mo_cover.2.1 74 = .ok (.istore_n 3, 1) := by decide +kernel
theorem d_Mo_cover_75 : decode M_Mo_cover.2.1 75 = .ok (.iinc 4 1, 3) := by decide +kernel
theorem d_Mo_cover_78 : decode M_Mo_cover.2.1 78 = .ok (.goto (-35), 3) := by decide +kernel
theorem d_Mo_cover_81 : decode M_Mo_cover.2.1 81 = .ok (.iload_n 3, 1) := by decide +kernel
theorem d_Mo_cover_82 : decode M_Mo_cover.2.1 82 = .ok (.ifCond .eq 7, 3) := by decide +kernel
theorem d_Mo_cover_85 : decode M_Mo_cover.2.1 85 = .ok (.iload_n 2, 1) := by decide +kernel
theorem d_Mo_cover_86 : decode M_Mo_cover.2.1 86 = .ok (.goto 4, 3) := by decide +kernel
theorem d_Mo_cover_89 : decode M_Mo_cover.2.1 89 = .ok (.iload_n 1, 1) := by decide +kernel
theorem d_Mo_cover_90 : decode M_Mo_cover.2.1 90 = .ok (.istore_n 1, 1) := by decide +kernel
theorem d_Mo_cover_91 : decode M_Mo_cover.2.1 91 = .ok (.iinc 2 1, 3) := by decide +kernel
theorem d_Mo_cover_94 : decode M_Mo_cover.2.1 94 = .ok (.goto (-89), 3) := by decide +kernel
theorem d_Mo_cover_97 : decode M_Mo_cover.2.1 97 = .ok (.iload_n 1, 1) := by decide +kernel
theorem d_Mo_cover_98 : decode M_Mo_cover.2.1 98 = .ok (.ireturn, 1) := by decide +kernel
theorem d_Mo_now_0 : decode M_Mo_now.2.1 0 = .ok (.iload_n 1, 1) := by decide +kernel
theorem d_Mo_now_1 : decode M_Mo_now.2.1 1 = .ok (.tableswitch 89 0 8 #[51, 51, 51, 51, 51, 58, 67, 76, 84], 51) := by decide +kernel
theorem d_Mo_now_52 : decode M_Mo_now.2.1 52 = .ok (.aload_n 0, 1) := by decide +kernel
theorem d_Mo_now_53 : decode M_Mo_now.2.1 53 = .ok (.getfield 41, 3) := by decide +kernel
theorem d_Mo_now_56 : decode M_Mo_now.2.1 56 = .ok (.iload_n 1, 1) := by decide +kernel
theorem d_Mo_now_57 : decode M_Mo_now.2.1 57 = .ok (.iaload, 1) := by decide +kernel
theorem d_Mo_now_58 : decode M_Mo_now.2.1 58 = .ok (.ireturn, 1) := by decide +kernel
theorem d_Mo_now_59 : decode M_Mo_now.2.1 59 = .ok (.aload_n 0, 1) := by decide +kernel
theorem d_Mo_now_60 : decode M_Mo_now.2.1 60 = .ok (.aload_n 0, 1) := by decide +kernel
theorem d_Mo_now_61 : decode M_Mo_now.2.1 61 = .ok (.getfield 41, 3) := by decide +kernel
theorem d_Mo_now_64 : decode M_Mo_now.2.1 64 = .ok (.invokevirtual 144, 3) := by decide +kernel
theorem d_Mo_now_67 : decode M_Mo_now.2.1 67 = .ok (.ireturn, 1) := by decide +kernel
theorem d_Mo_now_68 : decode M_Mo_now.2.1 68 = .ok (.aload_n 0, 1) := by decide +kernel
theorem d_Mo_now_69 : decode M_Mo_now.2.1 69 = .ok (.aload_n 0, 1) := by decide +kernel
theorem d_Mo_now_70 : decode M_Mo_now.2.1 70 = .ok (.getfield 41, 3) := by decide +kernel
theorem d_Mo_now_73 : decode M_Mo_now.2.1 73 = .ok (.invokevirtual 148, 3) := by decide +kernel
theorem d_Mo_now_76 : decode M_Mo_now.2.1 76 = .ok (.ireturn, 1) := by decide +kernel
theorem d_Mo_now_77 : decode M_Mo_now.2.1 77 = .ok (.aload_n 0, 1) := by decide +kernel
theorem d_Mo_now_78 : decode M_Mo_now.2.1 78 = .ok (.getfield 41, 3) := by decide +kernel
theorem d_Mo_now_81 : decode M_Mo_now.2.1 81 = .ok (.bipush 10, 2) := by decide +kernel
theorem d_Mo_now_83 : decode M_Mo_now.2.1 83 = .ok (.iaload, 1) := by decide +kernel
theorem d_Mo_now_84 : decode M_Mo_now.2.1 84 = .ok (.ireturn, 1) := by decide +kernel
theorem d_Mo_now_85 : decode M_Mo_now.2.1 85 = .ok (.aload_n 0, 1) := by decide +kernel
theorem d_Mo_now_86 : decode M_Mo_now.2.1 86 = .ok (.invokevirtual 184, 3) := by decide +kernel
theorem d_Mo_now_89 : decode M_Mo_now.2.1 89 = .ok (.ireturn, 1) := by decide +kernel
theorem d_Mo_now_90 : decode M_Mo_now.2.1 90 = .ok (.iconst (-1), 1) := by decide +kernel
theorem d_Mo_now_91 : decode M_Mo_now.2.1 91 = .ok (.ireturn, 1) := by decide +kernel
theorem d_Mo_after_0 : decode M_Mo_after.2.1 0 = .ok (.iload_n 1, 1) := by decide +kernel
theorem d_Mo_after_1 : decode M_Mo_after.2.1 1 = .ok (.iconst 0, 1) := by decide +kernel
theorem d_Mo_after_2 : decode M_Mo_after.2.1 2 = .ok (.bipush 30, 2) := by decide +kernel
theorem d_Mo_after_4 : decode M_Mo_after.2.1 4 = .ok (.invokestatic 78, 3) := by decide +kernel
theorem d_Mo_after_7 : decode M_Mo_after.2.1 7 = .ok (.ifCond .eq 12, 3) := by decide +kernel
theorem d_Mo_after_10 : decode M_Mo_after.2.1 10 = .ok (.iload_n 2, 1) := by decide +kernel
theorem d_Mo_after_11 : decode M_Mo_after.2.1 11 = .ok (.iconst 0, 1) := by decide +kernel
theorem d_Mo_after_12 : decode M_Mo_after.2.1 12 = .ok (.iconst 1, 1) := by decide +kernel
theorem d_Mo_after_13 : decode M_Mo_after.2.1 13 = .ok (.invokestatic 78, 3) := by decide +kernel
theorem d_Mo_after_16 : decode M_Mo_after.2.1 16 = .ok (.ifCond .ne 5, 3) := by decide +kernel
theorem d_Mo_after_19 : decode M_Mo_after.2.1 19 = .ok (.iconst (-1), 1) := by decide +kernel
theorem d_Mo_after_20 : decode M_Mo_after.2.1 20 = .ok (.ireturn, 1) := by decide +kernel
theorem d_Mo_after_21 : decode M_Mo_after.2.1 21 = .ok (.aload_n 0, 1) := by decide +kernel
theorem d_Mo_after_22 : decode M_Mo_after.2.1 22 = .ok (.invokevirtual 187, 3) := by decide +kernel
theorem d_Mo_after_25 : decode M_Mo_after.2.1 25 = .ok (.iconst 0, 1) := by decide +kernel
theorem d_Mo_after_26 : decode M_Mo_after.2.1 26 = .ok (.istore_n 3, 1) := by decide +kernel
theorem d_Mo_after_27 : decode M_Mo_after.2.1 27 = .ok (.iload_n 3, 1) := by decide +kernel
theorem d_Mo_after_28 : decode M_Mo_after.2.1 28 = .ok (.iload_n 1, 1) := by decide +kernel
theorem d_Mo_after_29 : decode M_Mo_after.2.1 29 = .ok (.if_icmp .ge 17, 3) := by decide +kernel
theorem d_Mo_after_32 : decode M_Mo_after.2.1 32 = .ok (.aload_n 0, 1) := by decide +kernel
theorem d_Mo_after_33 : decode M_Mo_after.2.1 33 = .ok (.aload_n 0, 1) := by decide +kernel
theorem d_Mo_after_34 : decode M_Mo_after.2.1 34 = .ok (.getfield 57, 3) := by decide +kernel
theorem d_Mo_after_37 : decode M_Mo_after.2.1 37 = .ok (.invokevirtual 173, 3) := by decide +kernel
theorem d_Mo_after_40 : decode M_Mo_after.2.1 40 = .ok (.iinc 3 1, 3) := by decide +kernel
theorem d_Mo_after_43 : decode M_Mo_after.2.1 43 = .ok (.goto (-16), 3) := by decide +kernel
theorem d_Mo_after_46 : decode M_Mo_after.2.1 46 = .ok (.iload_n 2, 1) := by decide +kernel
theorem d_Mo_after_47 : decode M_Mo_after.2.1 47 = .ok (.ifCond .ne 12, 3) := by decide +kernel
theorem d_Mo_after_50 : decode M_Mo_after.2.1 50 = .ok (.aload_n 0, 1) := by decide +kernel
theorem d_Mo_after_51 : decode M_Mo_after.2.1 51 = .ok (.getfield 57, 3) := by decide +kernel
theorem d_Mo_after_54 : decode M_Mo_after.2.1 54 = .ok (.iconst 1, 1) := by decide +kernel
theorem d_Mo_after_55 : decode M_Mo_after.2.1 55 = .ok (.iaload, 1) := by decide +kernel
theorem d_Mo_after_56 : decode M_Mo_after.2.1 56 = .ok (.goto 9, 3) := by decide +kernel
theorem d_Mo_after_59 : decode M_Mo_after.2.1 59 = .ok (.aload_n 0, 1) := by decide +kernel
theorem d_Mo_after_60 : decode M_Mo_after.2.1 60 = .ok (.getfield 57, 3) := by decide +kernel
theorem d_Mo_after_63 : decode M_Mo_after.2.1 63 = .ok (.iconst 2, 1) := by decide +kernel
theorem d_Mo_after_64 : decode M_Mo_after.2.1 64 = .ok (.iaload, 1) := by decide +kernel
theorem d_Mo_after_65 : decode M_Mo_after.2.1 65 = .ok (.ireturn, 1) := by decide +kernel
theorem d_Mo_down_0 : decode M_Mo_down.2.1 0 = .ok (.aload_n 0, 1) := by decide +kernel
theorem d_Mo_down_1 : decode M_Mo_down.2.1 1 = .ok (.invokevirtual 187, 3) := by decide +kernel
theorem d_Mo_down_4 : decode M_Mo_down.2.1 4 = .ok (.iconst 1, 1) := by decide +kernel
theorem d_Mo_down_5 : decode M_Mo_down.2.1 5 = .ok (.istore_n 1, 1) := by decide +kernel
theorem d_Mo_down_6 : decode M_Mo_down.2.1 6 = .ok (.iload_n 1, 1) := by decide +kernel
theorem d_Mo_down_7 : decode M_Mo_down.2.1 7 = .ok (.bipush 60, 2) := by decide +kernel
theorem d_Mo_down_9 : decode M_Mo_down.2.1 9 = .ok (.if_icmp .gt 42, 3) := by decide +kernel
theorem d_Mo_down_12 : decode M_Mo_down.2.1 12 = .ok (.aload_n 0, 1) := by decide +kernel
theorem d_Mo_down_13 : decode M_Mo_down.2.1 13 = .ok (.aload_n 0, 1) := by decide +kernel
theorem d_Mo_down_14 : decode M_Mo_down.2.1 14 = .ok (.getfield 57, 3) := by decide +kernel
theorem d_Mo_down_17 : decode M_Mo_down.2.1 17 = .ok (.invokevirtual 173, 3) := by decide +kernel
theorem d_Mo_down_20 : decode M_Mo_down.2.1 20 = .ok (.aload_n 0, 1) := by decide +kernel
theorem d_Mo_down_21 : decode M_Mo_down.2.1 21 = .ok (.getfield 57, 3) := by decide +kernel
theorem d_Mo_down_24 : decode M_Mo_down.2.1 24 = .ok (.bipush 10, 2) := by decide +kernel
theorem d_Mo_down_26 : decode M_Mo_down.2.1 26 = .ok (.iaload, 1) := by decide +kernel
theorem d_Mo_down_27 : decode M_Mo_down.2.1 27 = .ok (.iconst 1, 1) := by decide +kernel
theorem d_Mo_down_28 : decode M_Mo_down.2.1 28 = .ok (.if_icmp .ne 6, 3) := by decide +kernel
theorem d_Mo_down_31 : decode M_Mo_down.2.1 31 = .ok (.bipush (-9), 2) := by decide +kernel
theorem d_Mo_down_33 : decode M_Mo_down.2.1 33 = .ok (.ireturn, 1) := by decide +kernel
theorem d_Mo_down_34 : decode M_Mo_down.2.1 34 = .ok (.aload_n 0, 1) := by decide +kernel
theorem d_Mo_down_35 : decode M_Mo_down.2.1 35 = .ok (.getfield 57, 3) := by decide +kernel
theorem d_Mo_down_38 : decode M_Mo_down.2.1 38 = .ok (.iconst 2, 1) := by decide +kernel
theorem d_Mo_down_39 : decode M_Mo_down.2.1 39 = .ok (.iaload, 1) := by decide +kernel
theorem d_Mo_down_40 : decode M_Mo_down.2.1 40 = .ok (.ifCond .ne 5, 3) := by decide +kernel
theorem d_Mo_down_43 : decode M_Mo_down.2.1 43 = .ok (.iload_n 1, 1) := by decide +kernel
theorem d_Mo_down_44 : decode M_Mo_down.2.1 44 = .ok (.ireturn, 1) := by decide +kernel
theorem d_Mo_down_45 : decode M_Mo_down.2.1 45 = .ok (.iinc 1 1, 3) := by decide +kernel
theorem d_Mo_down_48 : decode M_Mo_down.2.1 48 = .ok (.goto (-42), 3) := by decide +kernel
theorem d_Mo_down_51 : decode M_Mo_down.2.1 51 = .ok (.bipush (-9), 2) := by decide +kernel
theorem d_Mo_down_53 : decode M_Mo_down.2.1 53 = .ok (.ireturn, 1) := by decide +kernel
theorem d_Mo_goBy_0 : decode M_Mo_goBy.2.1 0 = .ok (.aload_n 0, 1) := by decide +kernel
theorem d_Mo_goBy_1 : decode M_Mo_goBy.2.1 1 = .ok (.invokevirtual 187, 3) := by decide +kernel
theorem d_Mo_goBy_4 : decode M_Mo_goBy.2.1 4 = .ok (.iload_n 2, 1) := by decide +kernel
theorem d_Mo_goBy_5 : decode M_Mo_goBy.2.1 5 = .ok (.istore 5, 2) := by decide +kernel
theorem d_Mo_goBy_7 : decode M_Mo_goBy.2.1 7 = .ok (.iconst 0, 1) := by decide +kernel
theorem d_Mo_goBy_8 : decode M_Mo_goBy.2.1 8 = .ok (.istore 6, 2) := by decide +kernel
theorem d_Mo_goBy_10 : decode M_Mo_goBy.2.1 10 = .ok (.iload 6, 2) := by decide +kernel
theorem d_Mo_goBy_12 : decode M_Mo_goBy.2.1 12 = .ok (.iload_n 3, 1) := by decide +kernel
theorem d_Mo_goBy_13 : decode M_Mo_goBy.2.1 13 = .ok (.if_icmp .ge 98, 3) := by decide +kernel
theorem d_Mo_goBy_16 : decode M_Mo_goBy.2.1 16 = .ok (.iload 5, 2) := by decide +kernel
theorem d_Mo_goBy_18 : decode M_Mo_goBy.2.1 18 = .ok (.bipush 13, 2) := by decide +kernel
theorem d_Mo_goBy_20 : decode M_Mo_goBy.2.1 20 = .ok (.idiv, 1) := by decide +kernel
theorem d_Mo_goBy_21 : decode M_Mo_goBy.2.1 21 = .ok (.istore 5, 2) := by decide +kernel
theorem d_Mo_goBy_23 : decode M_Mo_goBy.2.1 23 = .ok (.iload_n 1, 1) := by decide +kernel
theorem d_Mo_goBy_24 : decode M_Mo_goBy.2.1 24 = .ok (.iload 5, 2) := by decide +kernel
theorem d_Mo_goBy_26 : decode M_Mo_goBy.2.1 26 = .ok (.idiv, 1) := by decide +kernel
theorem d_Mo_goBy_27 : decode M_Mo_goBy.2.1 27 = .ok (.bipush 13, 2) := by decide +kernel
theorem d_Mo_goBy_29 : decode M_Mo_goBy.2.1 29 = .ok (.irem, 1) := by decide +kernel
theorem d_Mo_goBy_30 : decode M_Mo_goBy.2.1 30 = .ok (.iconst 1, 1) := by decide +kernel
theorem d_Mo_goBy_31 : decode M_Mo_goBy.2.1 31 = .ok (.isub, 1) := by decide +kernel
theorem d_Mo_goBy_32 : decode M_Mo_goBy.2.1 32 = .ok (.istore 7, 2) := by decide +kernel
theorem d_Mo_goBy_34 : decode M_Mo_goBy.2.1 34 = .ok (.iload 7, 2) := by decide +kernel
theorem d_Mo_goBy_36 : decode M_Mo_goBy.2.1 36 = .ok (.ifCond .lt 61, 3) := by decide +kernel
theorem d_Mo_goBy_39 : decode M_Mo_goBy.2.1 39 = .ok (.iload 7, 2) := by decide +kernel
theorem d_Mo_goBy_41 : decode M_Mo_goBy.2.1 41 = .ok (.iconst 4, 1) := by decide +kernel
theorem d_Mo_goBy_42 : decode M_Mo_goBy.2.1 42 = .ok (.idiv, 1) := by decide +kernel
theorem d_Mo_goBy_43 : decode M_Mo_goBy.2.1 43 = .ok (.istore 8, 2) := by decide +kernel
theorem d_Mo_goBy_45 : decode M_Mo_goBy.2.1 45 = .ok (.iload 7, 2) := by decide +kernel
theorem d_Mo_goBy_47 : decode M_Mo_goBy.2.1 47 = .ok (.iconst 4, 1) := by decide +kernel
theorem d_Mo_goBy_48 : decode M_Mo_goBy.2.1 48 = .ok (.irem, 1) := by decide +kernel
theorem d_Mo_goBy_49 : decode M_Mo_goBy.2.1 49 = .ok (.istore 9, 2) := by decide +kernel
theorem d_Mo_goBy_51 : decode M_Mo_goBy.2.1 51 = .ok (.aload_n 0, 1) := by decide +kernel
theorem d_Mo_goBy_52 : decode M_Mo_goBy.2.1 52 = .ok (.iload 8, 2) := by decide +kernel
theorem d_Mo_goBy_54 : decode M_Mo_goBy.2.1 54 = .ok (.invokevirtual 152, 3) := by decide +kernel
theorem d_Mo_goBy_57 : decode M_Mo_goBy.2.1 57 = .ok (.ifCond .eq 26, 3) := by decide +kernel
theorem d_Mo_goBy_60 : decode M_Mo_goBy.2.1 60 = .ok (.aload_n 0, 1) := by decide +kernel
theorem d_Mo_goBy_61 : decode M_Mo_goBy.2.1 61 = .ok (.iload 9, 2) := by decide +kernel
theorem d_Mo_goBy_63 : decode M_Mo_goBy.2.1 63 = .ok (.invokevirtual 159, 3) := by decide +kernel
theorem d_Mo_goBy_66 : decode M_Mo_goBy.2.1 66 = .ok (.ifCond .eq 17, 3) := by decide +kernel
theorem d_Mo_goBy_69 : decode M_Mo_goBy.2.1 69 = .ok (.aload_n 0, 1) := by decide +kernel
theorem d_Mo_goBy_70 : decode M_Mo_goBy.2.1 70 = .ok (.getfield 57, 3) := by decide +kernel
theorem d_Mo_goBy_73 : decode M_Mo_goBy.2.1 73 = .ok (.iload 8, 2) := by decide +kernel
theorem d_Mo_goBy_75 : decode M_Mo_goBy.2.1 75 = .ok (.iload 9, 2) := by decide +kernel
theorem d_Mo_goBy_77 : decode M_Mo_goBy.2.1 77 = .ok (.invokestatic 162, 3) := by decide +kernel
theorem d_Mo_goBy_80 : decode M_Mo_goBy.2.1 80 = .ok (.ifCond .ne 6, 3) := by decide +kernel
theorem d_Mo_goBy_83 : decode M_Mo_goBy.2.1 83 = .ok (.bipush (-9), 2) := by decide +kernel
theorem d_Mo_goBy_85 : decode M_Mo_goBy.2.1 85 = .ok (.ireturn, 1) := by decide +kernel
theorem d_Mo_goBy_86 : decode M_Mo_goBy.2.1 86 = .ok (.aload_n 0, 1) := by decide +kernel
theorem d_Mo_goBy_87 : decode M_Mo_goBy.2.1 87 = .ok (.getfield 57, 3) := by decide +kernel
theorem d_Mo_goBy_90 : decode M_Mo_goBy.2.1 90 = .ok (.iload 8, 2) := by decide +kernel
theorem d_Mo_goBy_92 : decode M_Mo_goBy.2.1 92 = .ok (.iload 9, 2) := by decide +kernel
theorem d_Mo_goBy_94 : decode M_Mo_goBy.2.1 94 = .ok (.invokestatic 169, 3) := by decide +kernel
theorem d_Mo_goBy_97 : decode M_Mo_goBy.2.1 97 = .ok (.aload_n 0, 1) := by decide +kernel
theorem d_Mo_goBy_98 : decode M_Mo_goBy.2.1 98 = .ok (.aload_n 0, 1) := by decide +kernel
theorem d_Mo_goBy_99 : decode M_Mo_goBy.2.1 99 = .ok (.getfield 57, 3) := by decide +kernel
theorem d_Mo_goBy_102 : decode M_Mo_goBy.2.1 102 = .ok (.invokevirtual 173, 3) := by decide +kernel
theorem d_Mo_goBy_105 : decode M_Mo_goBy.2.1 105 = .ok (.iinc 6 1, 3) := by decide +kernel
theorem d_Mo_goBy_108 : decode M_Mo_goBy.2.1 108 = .ok (.goto (-98), 3) := by decide +kernel
theorem d_Mo_goBy_111 : decode M_Mo_goBy.2.1 111 = .ok (.iload 4, 2) := by decide +kernel
theorem d_Mo_goBy_113 : decode M_Mo_goBy.2.1 113 = .ok (.ifCond .ne 12, 3) := by decide +kernel
theorem d_Mo_goBy_116 : decode M_Mo_goBy.2.1 116 = .ok (.aload_n 0, 1) := by decide +kernel
theorem d_Mo_goBy_117 : decode M_Mo_goBy.2.1 117 = .ok (.getfield 57, 3) := by decide +kernel
theorem d_Mo_goBy_120 : decode M_Mo_goBy.2.1 120 = .ok (.iconst 1, 1) := by decide +kernel
theorem d_Mo_goBy_121 : decode M_Mo_goBy.2.1 121 = .ok (.iaload, 1) := by decide +kernel
theorem d_Mo_goBy_122 : decode M_Mo_goBy.2.1 122 = .ok (.goto 9, 3) := by decide +kernel
theorem d_Mo_goBy_125 : decode M_Mo_goBy.2.1 125 = .ok (.aload_n 0, 1) := by decide +kernel
theorem d_Mo_goBy_126 : decode M_Mo_goBy.2.1 126 = .ok (.getfield 57, 3) := by decide +kernel
theorem d_Mo_goBy_129 : decode M_Mo_goBy.2.1 129 = .ok (.iconst 2, 1) := by decide +kernel
theorem d_Mo_goBy_130 : decode M_Mo_goBy.2.1 130 = .ok (.iaload, 1) := by decide +kernel
theorem d_Mo_goBy_131 : decode M_Mo_goBy.2.1 131 = .ok (.ireturn, 1) := by decide +kernel
theorem d_Mo_best_0 : decode M_Mo_best.2.1 0 = .ok (.iload_n 1, 1) := by decide +kernel
theorem d_Mo_best_1 : decode M_Mo_best.2.1 1 = .ok (.iconst 0, 1) := by decide +kernel
theorem d_Mo_best_2 : decode M_Mo_best.2.1 2 = .ok (.iconst 4, 1) := by decide +kernel
theorem d_Mo_best_3 : decode M_Mo_best.2.1 3 = .ok (.invokestatic 78, 3) := by decide +kernel
theorem d_Mo_best_6 : decode M_Mo_best.2.1 6 = .ok (.ifCond .eq 21, 3) := by decide +kernel
theorem d_Mo_best_9 : decode M_Mo_best.2.1 9 = .ok (.iload_n 2, 1) := by decide +kernel
theorem d_Mo_best_10 : decode M_Mo_best.2.1 10 = .ok (.iconst 0, 1) := by decide +kernel
theorem d_Mo_best_11 : decode M_Mo_best.2.1 11 = .ok (.iconst 1, 1) := by decide +kernel
theorem d_Mo_best_12 : decode M_Mo_best.2.1 12 = .ok (.invokestatic 78, 3) := by decide +kernel
theorem d_Mo_best_15 : decode M_Mo_best.2.1 15 = .ok (.ifCond .eq 12, 3) := by decide +kernel
theorem d_Mo_best_18 : decode M_Mo_best.2.1 18 = .ok (.iload_n 3, 1) := by decide +kernel
theorem d_Mo_best_19 : decode M_Mo_best.2.1 19 = .ok (.iconst (-1), 1) := by decide +kernel
theorem d_Mo_best_20 : decode M_Mo_best.2.1 20 = .ok (.iconst 3, 1) := by decide +kernel
theorem d_Mo_best_21 : decode M_Mo_best.2.1 21 = .ok (.invokestatic 78, 3) := by decide +kernel
theorem d_Mo_best_24 : decode M_Mo_best.2.1 24 = .ok (.ifCond .ne 5, 3) := by decide +kernel
theorem d_Mo_best_27 : decode M_Mo_best.2.1 27 = .ok (.iconst (-1), 1) := by decide +kernel
theorem d_Mo_best_28 : decode M_Mo_best.2.1 28 = .ok (.ireturn, 1) := by decide +kernel
theorem d_Mo_best_29 : decode M_Mo_best.2.1 29 = .ok (.iconst 1, 1) := by decide +kernel
theorem d_Mo_best_30 : decode M_Mo_best.2.1 30 = .ok (.istore 4, 2) := by decide +kernel
theorem d_Mo_best_32 : decode M_Mo_best.2.1 32 = .ok (.iconst 0, 1) := by decide +kernel
theorem d_Mo_best_33 : decode M_Mo_best.2.1 33 = .ok (.istore 5, 2) := by decide +kernel
theorem d_Mo_best_35 : decode M_Mo_best.2.1 35 = .ok (.iload 5, 2) := by decide +kernel
theorem d_Mo_best_37 : decode M_Mo_best.2.1 37 = .ok (.iload_n 1, 1) := by decide +kernel
theorem d_Mo_best_38 : decode M_Mo_best.2.1 38 = .ok (.if_icmp .ge 16, 3) := by decide +kernel
theorem d_Mo_best_41 : decode M_Mo_best.2.1 41 = .ok (.iload 4, 2) := by decide +kernel
theorem d_Mo_best_43 : decode M_Mo_best.2.1 43 = .ok (.bipush 13, 2) := by decide +kernel
theorem d_Mo_best_45 : decode M_Mo_best.2.1 45 = .ok (.imul, 1) := by decide +kernel
theorem d_Mo_best_46 : decode M_Mo_best.2.1 46 = .ok (.istore 4, 2) := by decide +kernel
theorem d_Mo_best_48 : decode M_Mo_best.2.1 48 = .ok (.iinc 5 1, 3) := by decide +kernel
theorem d_Mo_best_51 : decode M_Mo_best.2.1 51 = .ok (.goto (-16), 3) := by decide +kernel
theorem d_Mo_best_54 : decode M_Mo_best.2.1 54 = .ok (.iconst 0, 1) := by decide +kernel
theorem d_Mo_best_55 : decode M_Mo_best.2.1 55 = .ok (.istore 5, 2) := by decide +kernel
theorem d_Mo_best_57 : decode M_Mo_best.2.1 57 = .ok (.iconst (-1), 1) := by decide +kernel
theorem d_Mo_best_58 : decode M_Mo_best.2.1 58 = .ok (.istore 6, 2) := by decide +kernel
theorem d_Mo_best_60 : decode M_Mo_best.2.1 60 = .ok (.iconst 0, 1) := by decide +kernel
theorem d_Mo_best_61 : decode M_Mo_best.2.1 61 = .ok (.istore 7, 2) := by decide +kernel
theorem d_Mo_best_63 : decode M_Mo_best.2.1 63 = .ok (.iload 7, 2) := by decide +kernel
theorem d_Mo_best_65 : decode M_Mo_best.2.1 65 = .ok (.iload 4, 2) := by decide +kernel
theorem d_Mo_best_67 : decode M_Mo_best.2.1 67 = .ok (.if_icmp .ge 36, 3) := by decide +kernel
theorem d_Mo_best_70 : decode M_Mo_best.2.1 70 = .ok (.aload_n 0, 1) := by decide +kernel
theorem d_Mo_best_71 : decode M_Mo_best.2.1 71 = .ok (.iload 7, 2) := by decide +kernel
theorem d_Mo_best_73 : decode M_Mo_best.2.1 73 = .ok (.iload 4, 2) := by decide +kernel
theorem d_Mo_best_75 : decode M_Mo_best.2.1 75 = .ok (.iload_n 1, 1) := by decide +kernel
theorem d_Mo_best_76 : decode M_Mo_best.2.1 76 = .ok (.iload_n 2, 1) := by decide +kernel
theorem d_Mo_best_77 : decode M_Mo_best.2.1 77 = .ok (.invokevirtual 190, 3) := by decide +kernel
theorem d_Mo_best_80 : decode M_Mo_best.2.1 80 = .ok (.istore 8, 2) := by decide +kernel
theorem d_Mo_best_82 : decode M_Mo_best.2.1 82 = .ok (.iload 8, 2) := by decide +kernel
theorem d_Mo_best_84 : decode M_Mo_best.2.1 84 = .ok (.iload 6, 2) := by decide +kernel
theorem d_Mo_best_86 : decode M_Mo_best.2.1 86 = .ok (.if_icmp .le 11, 3) := by decide +kernel
theorem d_Mo_best_89 : decode M_Mo_best.2.1 89 = .ok (.iload 7, 2) := by decide +kernel
theorem d_Mo_best_91 : decode M_Mo_best.2.1 91 = .ok (.istore 5, 2) := by decide +kernel
theorem d_Mo_best_93 : decode M_Mo_best.2.1 93 = .ok (.iload 8, 2) := by decide +kernel
theorem d_Mo_best_95 : decode M_Mo_best.2.1 95 = .ok (.istore 6, 2) := by decide +kernel
theorem d_Mo_best_97 : decode M_Mo_best.2.1 97 = .ok (.iinc 7 1, 3) := by decide +kernel
theorem d_Mo_best_100 : decode M_Mo_best.2.1 100 = .ok (.goto (-37), 3) := by decide +kernel
theorem d_Mo_best_103 : decode M_Mo_best.2.1 103 = .ok (.iload_n 3, 1) := by decide +kernel
theorem d_Mo_best_104 : decode M_Mo_best.2.1 104 = .ok (.iconst (-1), 1) := by decide +kernel
theorem d_Mo_best_105 : decode M_Mo_best.2.1 105 = .ok (.if_icmp .ne 6, 3) := by decide +kernel
theorem d_Mo_best_108 : decode M_Mo_best.2.1 108 = .ok (.iload 6, 2) := by decide +kernel
theorem d_Mo_best_110 : decode M_Mo_best.2.1 110 = .ok (.ireturn, 1) := by decide +kernel
theorem d_Mo_best_111 : decode M_Mo_best.2.1 111 = .ok (.iload 4, 2) := by decide +kernel
theorem d_Mo_best_113 : decode M_Mo_best.2.1 113 = .ok (.istore 7, 2) := by decide +kernel
theorem d_Mo_best_115 : decode M_Mo_best.2.1 115 = .ok (.iconst 0, 1) := by decide +kernel
theorem d_Mo_best_116 : decode M_Mo_best.2.1 116 = .ok (.istore 8, 2) := by decide +kernel
theorem d_Mo_best_118 : decode M_Mo_best.2.1 118 = .ok (.iload 8, 2) := by decide +kernel
theorem d_Mo_best_120 : decode M_Mo_best.2.1 120 = .ok (.iload_n 3, 1) := by decide +kernel
theorem d_Mo_best_121 : decode M_Mo_best.2.1 121 = .ok (.if_icmp .gt 22, 3) := by decide +kernel
theorem d_Mo_best_124 : decode M_Mo_best.2.1 124 = .ok (.iload 8, 2) := by decide +kernel
theorem d_Mo_best_126 : decode M_Mo_best.2.1 126 = .ok (.iload_n 1, 1) := by decide +kernel
theorem d_Mo_best_127 : decode M_Mo_best.2.1 127 = .ok (.if_icmp .ge 16, 3) := by decide +kernel
theorem d_Mo_best_130 : decode M_Mo_best.2.1 130 = .ok (.iload 7, 2) := by decide +kernel
theorem d_Mo_best_132 : decode M_Mo_best.2.1 132 = .ok (.bipush 13, 2) := by decide +kernel
theorem d_Mo_best_134 : decode M_Mo_best.2.1 134 = .ok (.idiv, 1) := by decide +kernel
theorem d_Mo_best_135 : decode M_Mo_best.2.1 135 = .ok (.istore 7, 2) := by decide +kernel
theorem d_Mo_best_137 : decode M_Mo_best.2.1 137 = .ok (.iinc 8 1, 3) := by decide +kernel
theorem d_Mo_best_140 : decode M_Mo_best.2.1 140 = .ok (.goto (-22), 3) := by decide +kernel
theorem d_Mo_best_143 : decode M_Mo_best.2.1 143 = .ok (.iload_n 3, 1) := by decide +kernel
theorem d_Mo_best_144 : decode M_Mo_best.2.1 144 = .ok (.iload_n 1, 1) := by decide +kernel
theorem d_Mo_best_145 : decode M_Mo_best.2.1 145 = .ok (.if_icmp .ge 16, 3) := by decide +kernel
theorem d_Mo_best_148 : decode M_Mo_best.2.1 148 = .ok (.iload 5, 2) := by decide +kernel
theorem d_Mo_best_150 : decode M_Mo_best.2.1 150 = .ok (.iload 7, 2) := by decide +kernel
theorem d_Mo_best_152 : decode M_Mo_best.2.1 152 = .ok (.idiv, 1) := by decide +kernel
theorem d_Mo_best_153 : decode M_Mo_best.2.1 153 = .ok (.bipush 13, 2) := by decide +kernel
theorem d_Mo_best_155 : decode M_Mo_best.2.1 155 = .ok (.irem, 1) := by decide +kernel
theorem d_Mo_best_156 : decode M_Mo_best.2.1 156 = .ok (.iconst 1, 1) := by decide +kernel
theorem d_Mo_best_157 : decode M_Mo_best.2.1 157 = .ok (.isub, 1) := by decide +kernel
theorem d_Mo_best_158 : decode M_Mo_best.2.1 158 = .ok (.goto 4, 3) := by decide +kernel
theorem d_Mo_best_161 : decode M_Mo_best.2.1 161 = .ok (.iconst (-1), 1) := by decide +kernel
theorem d_Mo_best_162 : decode M_Mo_best.2.1 162 = .ok (.istore 8, 2) := by decide +kernel
theorem d_Mo_best_164 : decode M_Mo_best.2.1 164 = .ok (.iload 8, 2) := by decide +kernel
theorem d_Mo_best_166 : decode M_Mo_best.2.1 166 = .ok (.ifCond .ge 8, 3) := by decide +kernel
theorem d_Mo_best_169 : decode M_Mo_best.2.1 169 = .ok (.bipush (-9), 2) := by decide +kernel
theorem d_Mo_best_171 : decode M_Mo_best.2.1 171 = .ok (.goto 5, 3) := by decide +kernel
theorem d_Mo_best_174 : decode M_Mo_best.2.1 174 = .ok (.iload 8, 2) := by decide +kernel
theorem d_Mo_best_176 : decode M_Mo_best.2.1 176 = .ok (.ireturn, 1) := by decide +kernel
theorem d_Mo_own_0 : decode M_Mo_own.2.1 0 = .ok (.iload_n 1, 1) := by decide +kernel
theorem d_Mo_own_1 : decode M_Mo_own.2.1 1 = .ok (.iconst (-1), 1) := by decide +kernel
theorem d_Mo_own_2 : decode M_Mo_own.2.1 2 = .ok (.if_icmp .eq 13, 3) := by decide +kernel
theorem d_Mo_own_5 : decode M_Mo_own.2.1 5 = .ok (.aload_n 0, 1) := by decide +kernel
theorem d_Mo_own_6 : decode M_Mo_own.2.1 6 = .ok (.iload_n 1, 1) := by decide +kernel
theorem d_Mo_own_7 : decode M_Mo_own.2.1 7 = .ok (.invokevirtual 152, 3) := by decide +kernel
theorem d_Mo_own_10 : decode M_Mo_own.2.1 10 = .ok (.ifCond .ne 5, 3) := by decide +kernel
theorem d_Mo_own_13 : decode M_Mo_own.2.1 13 = .ok (.iconst (-1), 1) := by decide +kernel
theorem d_Mo_own_14 : decode M_Mo_own.2.1 14 = .ok (.ireturn, 1) := by decide +kernel
theorem d_Mo_own_15 : decode M_Mo_own.2.1 15 = .ok (.iconst 0, 1) := by decide +kernel
theorem d_Mo_own_16 : decode M_Mo_own.2.1 16 = .ok (.istore_n 2, 1) := by decide +kernel
theorem d_Mo_own_17 : decode M_Mo_own.2.1 17 = .ok (.iload_n 2, 1) := by decide +kernel
theorem d_Mo_own_18 : decode M_Mo_own.2.1 18 = .ok (.bipush 16, 2) := by decide +kernel
theorem d_Mo_own_20 : decode M_Mo_own.2.1 20 = .ok (.if_icmp .ge 26, 3) := by decide +kernel
theorem d_Mo_own_23 : decode M_Mo_own.2.1 23 = .ok (.aload_n 0, 1) := by decide +kernel
theorem d_Mo_own_24 : decode M_Mo_own.2.1 24 = .ok (.getfield 60, 3) := by decide +kernel
theorem d_Mo_own_27 : decode M_Mo_own.2.1 27 = .ok (.bipush 16, 2) := by decide +kernel
theorem d_Mo_own_29 : decode M_Mo_own.2.1 29 = .ok (.aload_n 0, 1) := by decide +kernel
theorem d_Mo_own_30 : decode M_Mo_own.2.1 30 = .ok (.getfield 17, 3) := by decide +kernel
theorem d_Mo_own_33 : decode M_Mo_own.2.1 33 = .ok (.iconst 0, 1) := by decide +kernel
theorem d_Mo_own_34 : decode M_Mo_own.2.1 34 = .ok (.iaload, 1) := by decide +kernel
theorem d_Mo_own_35 : decode M_Mo_own.2.1 35 = .ok (.imul, 1) := by decide +kernel
theorem d_Mo_own_36 : decode M_Mo_own.2.1 36 = .ok (.iload_n 2, 1) := by decide +kernel
theorem d_Mo_own_37 : decode M_Mo_own.2.1 37 = .ok (.iadd, 1) := by decide +kernel
theorem d_Mo_own_38 : decode M_Mo_own.2.1 38 = .ok (.iconst 0, 1) := by decide +kernel
theorem d_Mo_own_39 : decode M_Mo_own.2.1 39 = .ok (.iastore, 1) := by decide +kernel
theorem d_Mo_own_40 : decode M_Mo_own.2.1 40 = .ok (.iinc 2 1, 3) := by decide +kernel
theorem d_Mo_own_43 : decode M_Mo_own.2.1 43 = .ok (.goto (-26), 3) := by decide +kernel
theorem d_Mo_own_46 : decode M_Mo_own.2.1 46 = .ok (.aload_n 0, 1) := by decide +kernel
theorem d_Mo_own_47 : decode M_Mo_own.2.1 47 = .ok (.getfield 17, 3) := by decide +kernel
theorem d_Mo_own_50 : decode M_Mo_own.2.1 50 = .ok (.iconst 0, 1) := by decide +kernel
theorem d_Mo_own_51 : decode M_Mo_own.2.1 51 = .ok (.iaload, 1) := by decide +kernel
theorem d_Mo_own_52 : decode M_Mo_own.2.1 52 = .ok (.iconst 1, 1) := by decide +kernel
theorem d_Mo_own_53 : decode M_Mo_own.2.1 53 = .ok (.isub, 1) := by decide +kernel
theorem d_Mo_own_54 : decode M_Mo_own.2.1 54 = .ok (.istore_n 2, 1) := by decide +kernel
theorem d_Mo_own_55 : decode M_Mo_own.2.1 55 = .ok (.iload_n 2, 1) := by decide +kernel
theorem d_Mo_own_56 : decode M_Mo_own.2.1 56 = .ok (.ifCond .lt 147, 3) := by decide +kernel
theorem d_Mo_own_59 : decode M_Mo_own.2.1 59 = .ok (.iconst 0, 1) := by decide +kernel
theorem d_Mo_own_60 : decode M_Mo_own.2.1 60 = .ok (.istore_n 3, 1) := by decide +kernel
theorem d_Mo_own_61 : decode M_Mo_own.2.1 61 = .ok (.iload_n 3, 1) := by decide +kernel
theorem d_Mo_own_62 : decode M_Mo_own.2.1 62 = .ok (.bipush 16, 2) := by decide +kernel
theorem d_Mo_own_64 : decode M_Mo_own.2.1 64 = .ok (.if_icmp .ge 133, 3) := by decide +kernel
theorem d_Mo_own_67 : decode M_Mo_own.2.1 67 = .ok (.aload_n 0, 1) := by decide +kernel
theorem d_Mo_own_68 : decode M_Mo_own.2.1 68 = .ok (.getfield 60, 3) := by decide +kernel
theorem d_Mo_own_71 : decode M_Mo_own.2.1 71 = .ok (.bipush 16, 2) := by decide +kernel
theorem d_Mo_own_73 : decode M_Mo_own.2.1 73 = .ok (.iload_n 2, 1) := by decide +kernel
theorem d_Mo_own_74 : decode M_Mo_own.2.1 74 = .ok (.iconst 1, 1) := by decide +kernel
theorem d_Mo_own_75 : decode M_Mo_own.2.1 75 = .ok (.iadd, 1) := by decide +kernel
theorem d_Mo_own_76 : decode M_Mo_own.2.1 76 = .ok (.imul, 1) := by decide +kernel
theorem d_Mo_own_77 : decode M_Mo_own.2.1 77 = .ok (.iload_n 3, 1) := by decide +kernel
theorem d_Mo_own_78 : decode M_Mo_own.2.1 78 = .ok (.iadd, 1) := by decide +kernel
theorem d_Mo_own_79 : decode M_Mo_own.2.1 79 = .ok (.iaload, 1) := by decide +kernel
theorem d_Mo_own_80 : decode M_Mo_own.2.1 80 = .ok (.istore 4, 2) := by decide +kernel
theorem d_Mo_own_82 : decode M_Mo_own.2.1 82 = .ok (.iconst 0, 1) := by decide +kernel
theorem d_Mo_own_83 : decode M_Mo_own.2.1 83 = .ok (.istore 5, 2) := by decide +kernel
theorem d_Mo_own_85 : decode M_Mo_own.2.1 85 = .ok (.iload 5, 2) := by decide +kernel
theorem d_Mo_own_87 : decode M_Mo_own.2.1 87 = .ok (.aload_n 0, 1) := by decide +kernel
theorem d_Mo_own_88 : decode M_Mo_own.2.1 88 = .ok (.getfield 29, 3) := by decide +kernel
theorem d_Mo_own_91 : decode M_Mo_own.2.1 91 = .ok (.iconst 0, 1) := by decide +kernel
theorem d_Mo_own_92 : decode M_Mo_own.2.1 92 = .ok (.iaload, 1) := by decide +kernel
theorem d_Mo_own_93 : decode M_Mo_own.2.1 93 = .ok (.if_icmp .ge 85, 3) := by decide +kernel
theorem d_Mo_own_96 : decode M_Mo_own.2.1 96 = .ok (.aload_n 0, 1) := by decide +kernel
theorem d_Mo_own_97 : decode M_Mo_own.2.1 97 = .ok (.iload_n 2, 1) := by decide +kernel
theorem d_Mo_own_98 : decode M_Mo_own.2.1 98 = .ok (.invokevirtual 155, 3) := by decide +kernel
theorem d_Mo_own_101 : decode M_Mo_own.2.1 101 = .ok (.iload 5, 2) := by decide +kernel
theorem d_Mo_own_103 : decode M_Mo_own.2.1 103 = .ok (.invokestatic 140, 3) := by decide +kernel
theorem d_Mo_own_106 : decode M_Mo_own.2.1 106 = .ok (.ifCond .eq 16, 3) := by decide +kernel
theorem d_Mo_own_109 : decode M_Mo_own.2.1 109 = .ok (.iload_n 3, 1) := by decide +kernel
theorem d_Mo_own_110 : decode M_Mo_own.2.1 110 = .ok (.iload 5, 2) := by decide +kernel
theorem d_Mo_own_112 : decode M_Mo_own.2.1 112 = .ok (.invokestatic 140, 3) := by decide +kernel
theorem d_Mo_own_115 : decode M_Mo_own.2.1 115 = .ok (.ifCond .ne 7, 3) := by decide +kernel
theorem d_Mo_own_118 : decode M_Mo_own.2.1 118 = .ok (.iconst 1, 1) := by decide +kernel
theorem d_Mo_own_119 : decode M_Mo_own.2.1 119 = .ok (.goto 4, 3) := by decide +kernel
theorem d_Mo_own_122 : decode M_Mo_own.2.1 122 = .ok (.iconst 0, 1) := by decide +kernel
theorem d_Mo_own_123 : decode M_Mo_own.2.1 123 = .ok (.istore 6, 2) := by decide +kernel
theorem d_Mo_own_125 : decode M_Mo_own.2.1 125 = .ok (.iload 6, 2) := by decide +kernel
theorem d_Mo_own_127 : decode M_Mo_own.2.1 127 = .ok (.ifCond .eq 26, 3) := by decide +kernel
theorem d_Mo_own_130 : decode M_Mo_own.2.1 130 = .ok (.iconst 1, 1) := by decide +kernel
theorem d_Mo_own_131 : decode M_Mo_own.2.1 131 = .ok (.aload_n 0, 1) := by decide +kernel
theorem d_Mo_own_132 : decode M_Mo_own.2.1 132 = .ok (.getfield 60, 3) := by decide +kernel
theorem d_Mo_own_135 : decode M_Mo_own.2.1 135 = .ok (.bipush 16, 2) := by decide +kernel
theorem d_Mo_own_137 : decode M_Mo_own.2.1 137 = .ok (.iload_n 2, 1) := by decide +kernel
theorem d_Mo_own_138 : decode M_Mo_own.2.1 138 = .ok (.iconst 1, 1) := by decide +kernel
theorem d_Mo_own_139 : decode M_Mo_own.2.1 139 = .ok (.iadd, 1) := by decide +kernel
theorem d_Mo_own_140 : decode M_Mo_own.2.1 140 = .ok (.imul, 1) := by decide +kernel
theorem d_Mo_own_141 : decode M_Mo_own.2.1 141 = .ok (.iload_n 3, 1) := by decide +kernel
theorem d_Mo_own_142 : decode M_Mo_own.2.1 142 = .ok (.iconst 1, 1) := by decide +kernel
theorem d_Mo_own_143 : decode M_Mo_own.2.1 143 = .ok (.iload 5, 2) := by decide +kernel
theorem d_Mo_own_145 : decode M_Mo_own.2.1 145 = .ok (.ishl, 1) := by decide +kernel
theorem d_Mo_own_146 : decode M_Mo_own.2.1 146 = .ok (.ior, 1) := by decide +kernel
theorem d_Mo_own_147 : decode M_Mo_own.2.1 147 = .ok (.iadd, 1) := by decide +kernel
theorem d_Mo_own_148 : decode M_Mo_own.2.1 148 = .ok (.iaload, 1) := by decide +kernel
theorem d_Mo_own_149 : decode M_Mo_own.2.1 149 = .ok (.iadd, 1) := by decide +kernel
theorem d_Mo_own_150 : decode M_Mo_own.2.1 150 = .ok (.goto 4, 3) := by decide +kernel
theorem d_Mo_own_153 : decode M_Mo_own.2.1 153 = .ok (.iconst 0, 1) := by decide +kernel
theorem d_Mo_own_154 : decode M_Mo_own.2.1 154 = .ok (.istore 7, 2) := by decide +kernel
theorem d_Mo_own_156 : decode M_Mo_own.2.1 156 = .ok (.iload 7, 2) := by decide +kernel
theorem d_Mo_own_158 : decode M_Mo_own.2.1 158 = .ok (.iload 4, 2) := by decide +kernel
theorem d_Mo_own_160 : decode M_Mo_own.2.1 160 = .ok (.if_icmp .le 8, 3) := by decide +kernel
theorem d_Mo_own_163 : decode M_Mo_own.2.1 163 = .ok (.iload 7, 2) := by decide +kernel
theorem d_Mo_own_165 : decode M_Mo_own.2.1 165 = .ok (.goto 5, 3) := by decide +kernel
theorem d_Mo_own_168 : decode M_Mo_own.2.1 168 = .ok (.iload 4, 2) := by decide +kernel
theorem d_Mo_own_170 : decode M_Mo_own.2.1 170 = .ok (.istore 4, 2) := by decide +kernel
theorem d_Mo_own_172 : decode M_Mo_own.2.1 172 = .ok (.iinc 5 1, 3) := by decide +kernel
theorem d_Mo_own_175 : decode M_Mo_own.2.1 175 = .ok (.goto (-90), 3) := by decide +kernel
theorem d_Mo_own_178 : decode M_Mo_own.2.1 178 = .ok (.aload_n 0, 1) := by decide +kernel
theorem d_Mo_own_179 : decode M_Mo_own.2.1 179 = .ok (.getfield 60, 3) := by decide +kernel
theorem d_Mo_own_182 : decode M_Mo_own.2.1 182 = .ok (.bipush 16, 2) := by decide +kernel
theorem d_Mo_own_184 : decode M_Mo_own.2.1 184 = .ok (.iload_n 2, 1) := by decide +kernel
theorem d_Mo_own_185 : decode M_Mo_own.2.1 185 = .ok (.imul, 1) := by decide +kernel
theorem d_Mo_own_186 : decode M_Mo_own.2.1 186 = .ok (.iload_n 3, 1) := by decide +kernel
theorem d_Mo_own_187 : decode M_Mo_own.2.1 187 = .ok (.iadd, 1) := by decide +kernel
theorem d_Mo_own_188 : decode M_Mo_own.2.1 188 = .ok (.iload 4, 2) := by decide +kernel
theorem d_Mo_own_190 : decode M_Mo_own.2.1 190 = .ok (.iastore, 1) := by decide +kernel
theorem d_Mo_own_191 : decode M_Mo_own.2.1 191 = .ok (.iinc 3 1, 3) := by decide +kernel
theorem d_Mo_own_194 : decode M_Mo_own.2.1 194 = .ok (.goto (-133), 3) := by decide +kernel
theorem d_Mo_own_197 : decode M_Mo_own.2.1 197 = .ok (.iinc 2 (-1), 3) := by decide +kernel
theorem d_Mo_own_200 : decode M_Mo_own.2.1 200 = .ok (.goto (-145), 3) := by decide +kernel
theorem d_Mo_own_203 : decode M_Mo_own.2.1 203 = .ok (.iload_n 1, 1) := by decide +kernel
theorem d_Mo_own_204 : decode M_Mo_own.2.1 204 = .ok (.iconst (-1), 1) := by decide +kernel
theorem d_Mo_own_205 : decode M_Mo_own.2.1 205 = .ok (.if_icmp .ne 10, 3) := by decide +kernel
theorem d_Mo_own_208 : decode M_Mo_own.2.1 208 = .ok (.aload_n 0, 1) := by decide +kernel
theorem d_Mo_own_209 : decode M_Mo_own.2.1 209 = .ok (.getfield 60, 3) := by decide +kernel
theorem d_Mo_own_212 : decode M_Mo_own.2.1 212 = .ok (.iconst 0, 1) := by decide +kernel
theorem d_Mo_own_213 : decode M_Mo_own.2.1 213 = .ok (.iaload, 1) := by decide +kernel
theorem d_Mo_own_214 : decode M_Mo_own.2.1 214 = .ok (.ireturn, 1) := by decide +kernel
theorem d_Mo_own_215 : decode M_Mo_own.2.1 215 = .ok (.iconst 0, 1) := by decide +kernel
theorem d_Mo_own_216 : decode M_Mo_own.2.1 216 = .ok (.istore_n 2, 1) := by decide +kernel
theorem d_Mo_own_217 : decode M_Mo_own.2.1 217 = .ok (.bipush (-9), 2) := by decide +kernel
theorem d_Mo_own_219 : decode M_Mo_own.2.1 219 = .ok (.istore_n 3, 1) := by decide +kernel
theorem d_Mo_own_220 : decode M_Mo_own.2.1 220 = .ok (.iconst 0, 1) := by decide +kernel
theorem d_Mo_own_221 : decode M_Mo_own.2.1 221 = .ok (.istore 4, 2) := by decide +kernel
theorem d_Mo_own_223 : decode M_Mo_own.2.1 223 = .ok (.iload 4, 2) := by decide +kernel
theorem d_Mo_own_225 : decode M_Mo_own.2.1 225 = .ok (.iload_n 1, 1) := by decide +kernel
theorem d_Mo_own_226 : decode M_Mo_own.2.1 226 = .ok (.if_icmp .gt 127, 3) := by decide +kernel
theorem d_Mo_own_229 : decode M_Mo_own.2.1 229 = .ok (.bipush (-9), 2) := by decide +kernel
theorem d_Mo_own_231 : decode M_Mo_own.2.1 231 = .ok (.istore_n 3, 1) := by decide +kernel
theorem d_Mo_own_232 : decode M_Mo_own.2.1 232 = .ok (.aload_n 0, 1) := by decide +kernel
theorem d_Mo_own_233 : decode M_Mo_own.2.1 233 = .ok (.getfield 29, 3) := by decide +kernel
theorem d_Mo_own_236 : decode M_Mo_own.2.1 236 = .ok (.iconst 0, 1) := by decide +kernel
theorem d_Mo_own_237 : decode M_Mo_own.2.1 237 = .ok (.iaload, 1) := by decide +kernel
theorem d_Mo_own_238 : decode M_Mo_own.2.1 238 = .ok (.iconst 1, 1) := by decide +kernel
theorem d_Mo_own_239 : decode M_Mo_own.2.1 239 = .ok (.isub, 1) := by decide +kernel
theorem d_Mo_own_240 : decode M_Mo_own.2.1 240 = .ok (.istore 5, 2) := by decide +kernel
theorem d_Mo_own_242 : decode M_Mo_own.2.1 242 = .ok (.iload 5, 2) := by decide +kernel
theorem d_Mo_own_244 : decode M_Mo_own.2.1 244 = .ok (.ifCond .lt 87, 3) := by decide +kernel
theorem d_Mo_own_247 : decode M_Mo_own.2.1 247 = .ok (.aload_n 0, 1) := by decide +kernel
theorem d_Mo_own_248 : decode M_Mo_own.2.1 248 = .ok (.iload 4, 2) := by decide +kernel
theorem d_Mo_own_250 : decode M_Mo_own.2.1 250 = .ok (.invokevirtual 155, 3) := by decide +kernel
theorem d_Mo_own_253 : decode M_Mo_own.2.1 253 = .ok (.iload 5, 2) := by decide +kernel
theorem d_Mo_own_255 : decode M_Mo_own.2.1 255 = .ok (.invokestatic 140, 3) := by decide +kernel
theorem d_Mo_own_258 : decode M_Mo_own.2.1 258 = .ok (.ifCond .eq 16, 3) := by decide +kernel
theorem d_Mo_own_261 : decode M_Mo_own.2.1 261 = .ok (.iload_n 2, 1) := by decide +kernel
theorem d_Mo_own_262 : decode M_Mo_own.2.1 262 = .ok (.iload 5, 2) := by decide +kernel
theorem d_Mo_own_264 : decode M_Mo_own.2.1 264 = .ok (.invokestatic 140, 3) := by decide +kernel
theorem d_Mo_own_267 : decode M_Mo_own.2.1 267 = .ok (.ifCond .ne 7, 3) := by decide +kernel
theorem d_Mo_own_270 : decode M_Mo_own.2.1 270 = .ok (.iconst 1, 1) := by decide +kernel
theorem d_Mo_own_271 : decode M_Mo_own.2.1 271 = .ok (.goto 4, 3) := by decide +kernel
theorem d_Mo_own_274 : decode M_Mo_own.2.1 274 = .ok (.iconst 0, 1) := by decide +kernel
theorem d_Mo_own_275 : decode M_Mo_own.2.1 275 = .ok (.istore 6, 2) := by decide +kernel
theorem d_Mo_own_277 : decode M_Mo_own.2.1 277 = .ok (.iload 6, 2) := by decide +kernel
theorem d_Mo_own_279 : decode M_Mo_own.2.1 279 = .ok (.ifCond .eq 44, 3) := by decide +kernel
theorem d_Mo_own_282 : decode M_Mo_own.2.1 282 = .ok (.iconst 1, 1) := by decide +kernel
theorem d_Mo_own_283 : decode M_Mo_own.2.1 283 = .ok (.aload_n 0, 1) := by decide +kernel
theorem d_Mo_own_284 : decode M_Mo_own.2.1 284 = .ok (.getfield 60, 3) := by decide +kernel
theorem d_Mo_own_287 : decode M_Mo_own.2.1 287 = .ok (.bipush 16, 2) := by decide +kernel
theorem d_Mo_own_289 : decode M_Mo_own.2.1 289 = .ok (.iload 4, 2) := by decide +kernel
theorem d_Mo_own_291 : decode M_Mo_own.2.1 291 = .ok (.iconst 1, 1) := by decide +kernel
theorem d_Mo_own_292 : decode M_Mo_own.2.1 292 = .ok (.iadd, 1) := by decide +kernel
theorem d_Mo_own_293 : decode M_Mo_own.2.1 293 = .ok (.imul, 1) := by decide +kernel
theorem d_Mo_own_294 : decode M_Mo_own.2.1 294 = .ok (.iload_n 2, 1) := by decide +kernel
theorem d_Mo_own_295 : decode M_Mo_own.2.1 295 = .ok (.iconst 1, 1) := by decide +kernel
theorem d_Mo_own_296 : decode M_Mo_own.2.1 296 = .ok (.iload 5, 2) := by decide +kernel
theorem d_Mo_own_298 : decode M_Mo_own.2.1 298 = .ok (.ishl, 1) := by decide +kernel
theorem d_Mo_own_299 : decode M_Mo_own.2.1 299 = .ok (.ior, 1) := by decide +kernel
theorem d_Mo_own_300 : decode M_Mo_own.2.1 300 = .ok (.iadd, 1) := by decide +kernel
theorem d_Mo_own_301 : decode M_Mo_own.2.1 301 = .ok (.iaload, 1) := by decide +kernel
theorem d_Mo_own_302 : decode M_Mo_own.2.1 302 = .ok (.iadd, 1) := by decide +kernel
theorem d_Mo_own_303 : decode M_Mo_own.2.1 303 = .ok (.aload_n 0, 1) := by decide +kernel
theorem d_Mo_own_304 : decode M_Mo_own.2.1 304 = .ok (.getfield 60, 3) := by decide +kernel
theorem d_Mo_own_307 : decode M_Mo_own.2.1 307 = .ok (.bipush 16, 2) := by decide +kernel
theorem d_Mo_own_309 : decode M_Mo_own.2.1 309 = .ok (.iload 4, 2) := by decide +kernel
theorem d_Mo_own_311 : decode M_Mo_own.2.1 311 = .ok (.imul, 1) := by decide +kernel
theorem d_Mo_own_312 : decode M_Mo_own.2.1 312 = .ok (.iload_n 2, 1) := by decide +kernel
theorem d_Mo_own_313 : decode M_Mo_own.2.1 313 = .ok (.iadd, 1) := by decide +kernel
theorem d_Mo_own_314 : decode M_Mo_own.2.1 314 = .ok (.iaload, 1) := by decide +kernel
theorem d_Mo_own_315 : decode M_Mo_own.2.1 315 = .ok (.if_icmp .ne 8, 3) := by decide +kernel
theorem d_Mo_own_318 : decode M_Mo_own.2.1 318 = .ok (.iload 5, 2) := by decide +kernel
theorem d_Mo_own_320 : decode M_Mo_own.2.1 320 = .ok (.goto 4, 3) := by decide +kernel
theorem d_Mo_own_323 : decode M_Mo_own.2.1 323 = .ok (.iload_n 3, 1) := by decide +kernel
theorem d_Mo_own_324 : decode M_Mo_own.2.1 324 = .ok (.istore_n 3, 1) := by decide +kernel
theorem d_Mo_own_325 : decode M_Mo_own.2.1 325 = .ok (.iinc 5 (-1), 3) := by decide +kernel
theorem d_Mo_own_328 : decode M_Mo_own.2.1 328 = .ok (.goto (-86), 3) := by decide +kernel
theorem d_Mo_own_331 : decode M_Mo_own.2.1 331 = .ok (.iload_n 2, 1) := by decide +kernel
theorem d_Mo_own_332 : decode M_Mo_own.2.1 332 = .ok (.iload_n 3, 1) := by decide +kernel
theorem d_Mo_own_333 : decode M_Mo_own.2.1 333 = .ok (.bipush (-9), 2) := by decide +kernel
theorem d_Mo_own_335 : decode M_Mo_own.2.1 335 = .ok (.if_icmp .ne 7, 3) := by decide +kernel
theorem d_Mo_own_338 : decode M_Mo_own.2.1 338 = .ok (.iconst 0, 1) := by decide +kernel
theorem d_Mo_own_339 : decode M_Mo_own.2.1 339 = .ok (.goto 6, 3) := by decide +kernel
theorem d_Mo_own_342 : decode M_Mo_own.2.1 342 = .ok (.iconst 1, 1) := by decide +kernel
theorem d_Mo_own_343 : decode M_Mo_own.2.1 343 = .ok (.iload_n 3, 1) := by decide +kernel
theorem d_Mo_own_344 : decode M_Mo_own.2.1 344 = .ok (.ishl, 1) := by decide +kernel
theorem d_Mo_own_345 : decode M_Mo_own.2.1 345 = .ok (.ior, 1) := by decide +kernel
theorem d_Mo_own_346 : decode M_Mo_own.2.1 346 = .ok (.istore_n 2, 1) := by decide +kernel
theorem d_Mo_own_347 : decode M_Mo_own.2.1 347 = .ok (.iinc 4 1, 3) := by decide +kernel
theorem d_Mo_own_350 : decode M_Mo_own.2.1 350 = .ok (.goto (-127), 3) := by decide +kernel
theorem d_Mo_own_353 : decode M_Mo_own.2.1 353 = .ok (.iload_n 3, 1) := by decide +kernel
theorem d_Mo_own_354 : decode M_Mo_own.2.1 354 = .ok (.ireturn, 1) := by decide +kernel
theorem d_Mo_odds_0 : decode M_Mo_odds.2.1 0 = .ok (.iload_n 1, 1) := by decide +kernel
theorem d_Mo_odds_1 : decode M_Mo_odds.2.1 1 = .ok (.iconst 1, 1) := by decide +kernel
theorem d_Mo_odds_2 : decode M_Mo_odds.2.1 2 = .ok (.bipush 9, 2) := by decide +kernel
theorem d_Mo_odds_4 : decode M_Mo_odds.2.1 4 = .ok (.invokestatic 78, 3) := by decide +kernel
theorem d_Mo_odds_7 : decode M_Mo_odds.2.1 7 = .ok (.ifCond .eq 44, 3) := by decide +kernel
theorem d_Mo_odds_10 : decode M_Mo_odds.2.1 10 = .ok (.iload_n 2, 1) := by decide +kernel
theorem d_Mo_odds_11 : decode M_Mo_odds.2.1 11 = .ok (.iconst 0, 1) := by decide +kernel
theorem d_Mo_odds_12 : decode M_Mo_odds.2.1 12 = .ok (.bipush 40, 2) := by decide +kernel
theorem d_Mo_odds_14 : decode M_Mo_odds.2.1 14 = .ok (.invokestatic 78, 3) := by decide +kernel
theorem d_Mo_odds_17 : decode M_Mo_odds.2.1 17 = .ok (.ifCond .eq 34, 3) := by decide +kernel
theorem d_Mo_odds_20 : decode M_Mo_odds.2.1 20 = .ok (.iload_n 3, 1) := by decide +kernel
theorem d_Mo_odds_21 : decode M_Mo_odds.2.1 21 = .ok (.iconst 0, 1) := by decide +kernel
theorem d_Mo_odds_22 : decode M_Mo_odds.2.1 22 = .ok (.bipush 6, 2) := by decide +kernel
theorem d_Mo_odds_24 : decode M_Mo_odds.2.1 24 = .ok (.invokestatic 78, 3) := by decide +kernel
theorem d_Mo_odds_27 : decode M_Mo_odds.2.1 27 = .ok (.ifCond .eq 24, 3) := by decide +kernel
theorem d_Mo_odds_30 : decode M_Mo_odds.2.1 30 = .ok (.iload 4, 2) := by decide +kernel
theorem d_Mo_odds_32 : decode M_Mo_odds.2.1 32 = .ok (.iconst 0, 1) := by decide +kernel
theorem d_Mo_odds_33 : decode M_Mo_odds.2.1 33 = .ok (.bipush 10, 2) := by decide +kernel
theorem d_Mo_odds_35 : decode M_Mo_odds.2.1 35 = .ok (.invokestatic 78, 3) := by decide +kernel
theorem d_Mo_odds_38 : decode M_Mo_odds.2.1 38 = .ok (.ifCond .eq 13, 3) := by decide +kernel
theorem d_Mo_odds_41 : decode M_Mo_odds.2.1 41 = .ok (.iload 5, 2) := by decide +kernel
theorem d_Mo_odds_43 : decode M_Mo_odds.2.1 43 = .ok (.iconst 0, 1) := by decide +kernel
theorem d_Mo_odds_44 : decode M_Mo_odds.2.1 44 = .ok (.iconst 1, 1) := by decide +kernel
theorem d_Mo_odds_45 : decode M_Mo_odds.2.1 45 = .ok (.invokestatic 78, 3) := by decide +kernel
theorem d_Mo_odds_48 : decode M_Mo_odds.2.1 48 = .ok (.ifCond .ne 5, 3) := by decide +kernel
theorem d_Mo_odds_51 : decode M_Mo_odds.2.1 51 = .ok (.iconst (-1), 1) := by decide +kernel
theorem d_Mo_odds_52 : decode M_Mo_odds.2.1 52 = .ok (.ireturn, 1) := by decide +kernel
theorem d_Mo_odds_53 : decode M_Mo_odds.2.1 53 = .ok (.iconst 0, 1) := by decide +kernel
theorem d_Mo_odds_54 : decode M_Mo_odds.2.1 54 = .ok (.istore 6, 2) := by decide +kernel
theorem d_Mo_odds_56 : decode M_Mo_odds.2.1 56 = .ok (.iconst 1, 1) := by decide +kernel
theorem d_Mo_odds_57 : decode M_Mo_odds.2.1 57 = .ok (.istore 7, 2) := by decide +kernel
theorem d_Mo_odds_59 : decode M_Mo_odds.2.1 59 = .ok (.iconst 0, 1) := by decide +kernel
theorem d_Mo_odds_60 : decode M_Mo_odds.2.1 60 = .ok (.istore 8, 2) := by decide +kernel
theorem d_Mo_odds_62 : decode M_Mo_odds.2.1 62 = .ok (.iload 8, 2) := by decide +kernel
theorem d_Mo_odds_64 : decode M_Mo_odds.2.1 64 = .ok (.iconst 1, 1) := by decide +kernel
theorem d_Mo_odds_65 : decode M_Mo_odds.2.1 65 = .ok (.iload_n 3, 1) := by decide +kernel
theorem d_Mo_odds_66 : decode M_Mo_odds.2.1 66 = .ok (.ishl, 1) := by decide +kernel
theorem d_Mo_odds_67 : decode M_Mo_odds.2.1 67 = .ok (.if_icmp .ge 127, 3) := by decide +kernel
theorem d_Mo_odds_70 : decode M_Mo_odds.2.1 70 = .ok (.iconst 1, 1) := by decide +kernel
theorem d_Mo_odds_71 : decode M_Mo_odds.2.1 71 = .ok (.istore 9, 2) := by decide +kernel
theorem d_Mo_odds_73 : decode M_Mo_odds.2.1 73 = .ok (.aload_n 0, 1) := by decide +kernel
theorem d_Mo_odds_74 : decode M_Mo_odds.2.1 74 = .ok (.getfield 41, 3) := by decide +kernel
theorem d_Mo_odds_77 : decode M_Mo_odds.2.1 77 = .ok (.iconst 1, 1) := by decide +kernel
theorem d_Mo_odds_78 : decode M_Mo_odds.2.1 78 = .ok (.iaload, 1) := by decide +kernel
theorem d_Mo_odds_79 : decode M_Mo_odds.2.1 79 = .ok (.istore 10, 2) := by decide +kernel
theorem d_Mo_odds_81 : decode M_Mo_odds.2.1 81 = .ok (.iconst 0, 1) := by decide +kernel
theorem d_Mo_odds_82 : decode M_Mo_odds.2.1 82 = .ok (.istore 11, 2) := by decide +kernel
theorem d_Mo_odds_84 : decode M_Mo_odds.2.1 84 = .ok (.iload 11, 2) := by decide +kernel
theorem d_Mo_odds_86 : decode M_Mo_odds.2.1 86 = .ok (.iload_n 3, 1) := by decide +kernel
theorem d_Mo_odds_87 : decode M_Mo_odds.2.1 87 = .ok (.if_icmp .ge 84, 3) := by decide +kernel
theorem d_Mo_odds_90 : decode M_Mo_odds.2.1 90 = .ok (.iload 9, 2) := by decide +kernel
theorem d_Mo_odds_92 : decode M_Mo_odds.2.1 92 = .ok (.iload 8, 2) := by decide +kernel
theorem d_Mo_odds_94 : decode M_Mo_odds.2.1 94 = .ok (.iload 11, 2) := by decide +kernel
theorem d_Mo_odds_96 : decode M_Mo_odds.2.1 96 = .ok (.invokestatic 140, 3) := by decide +kernel
theorem d_Mo_odds_99 : decode M_Mo_odds.2.1 99 = .ok (.ifCond .eq 8, 3) := by decide +kernel
theorem d_Mo_odds_102 : decode M_Mo_odds.2.1 102 = .ok (.iload 4, 2) := by decide +kernel
theorem d_Mo_odds_104 : decode M_Mo_odds.2.1 104 = .ok (.goto 8, 3) := by decide +kernel
theorem d_Mo_odds_107 : decode M_Mo_odds.2.1 107 = .ok (.bipush 10, 2) := by decide +kernel
theorem d_Mo_odds_109 : decode M_Mo_odds.2.1 109 = .ok (.iload 4, 2) := by decide +kernel
theorem d_Mo_odds_111 : decode M_Mo_odds.2.1 111 = .ok (.isub, 1) := by decide +kernel
theorem d_Mo_odds_112 : decode M_Mo_odds.2.1 112 = .ok (.imul, 1) := by decide +kernel
theorem d_Mo_odds_113 : decode M_Mo_odds.2.1 113 = .ok (.istore 9, 2) := by decide +kernel
theorem d_Mo_odds_115 : decode M_Mo_odds.2.1 115 = .ok (.iload 10, 2) := by decide +kernel
theorem d_Mo_odds_117 : decode M_Mo_odds.2.1 117 = .ok (.iload 8, 2) := by decide +kernel
theorem d_Mo_odds_119 : decode M_Mo_odds.2.1 119 = .ok (.iload 11, 2) := by decide +kernel
theorem d_Mo_odds_121 : decode M_Mo_odds.2.1 121 = .ok (.invokestatic 140, 3) := by decide +kernel
theorem d_Mo_odds_124 : decode M_Mo_odds.2.1 124 = .ok (.ifCond .eq 13, 3) := by decide +kernel
theorem d_Mo_odds_127 : decode M_Mo_odds.2.1 127 = .ok (.aload_n 0, 1) := by decide +kernel
theorem d_Mo_odds_128 : decode M_Mo_odds.2.1 128 = .ok (.getfield 13, 3) := by decide +kernel
theorem d_Mo_odds_131 : decode M_Mo_odds.2.1 131 = .ok (.iload_n 1, 1) := by decide +kernel
theorem d_Mo_odds_132 : decode M_Mo_odds.2.1 132 = .ok (.iaload, 1) := by decide +kernel
theorem d_Mo_odds_133 : decode M_Mo_odds.2.1 133 = .ok (.ineg, 1) := by decide +kernel
theorem d_Mo_odds_134 : decode M_Mo_odds.2.1 134 = .ok (.goto 9, 3) := by decide +kernel
theorem d_Mo_odds_137 : decode M_Mo_odds.2.1 137 = .ok (.aload_n 0, 1) := by decide +kernel
theorem d_Mo_odds_138 : decode M_Mo_odds.2.1 138 = .ok (.getfield 13, 3) := by decide +kernel
theorem d_Mo_odds_141 : decode M_Mo_odds.2.1 141 = .ok (.iload_n 1, 1) := by decide +kernel
theorem d_Mo_odds_142 : decode M_Mo_odds.2.1 142 = .ok (.iaload, 1) := by decide +kernel
theorem d_Mo_odds_143 : decode M_Mo_odds.2.1 143 = .ok (.iadd, 1) := by decide +kernel
theorem d_Mo_odds_144 : decode M_Mo_odds.2.1 144 = .ok (.istore 10, 2) := by decide +kernel
theorem d_Mo_odds_146 : decode M_Mo_odds.2.1 146 = .ok (.iload 10, 2) := by decide +kernel
theorem d_Mo_odds_148 : decode M_Mo_odds.2.1 148 = .ok (.iconst 0, 1) := by decide +kernel
theorem d_Mo_odds_149 : decode M_Mo_odds.2.1 149 = .ok (.bipush 40, 2) := by decide +kernel
theorem d_Mo_odds_151 : decode M_Mo_odds.2.1 151 = .ok (.invokestatic 78, 3) := by decide +kernel
theorem d_Mo_odds_154 : decode M_Mo_odds.2.1 154 = .ok (.ifCond .eq 8, 3) := by decide +kernel
theorem d_Mo_odds_157 : decode M_Mo_odds.2.1 157 = .ok (.iload 9, 2) := by decide +kernel
theorem d_Mo_odds_159 : decode M_Mo_odds.2.1 159 = .ok (.goto 4, 3) := by decide +kernel
theorem d_Mo_odds_162 : decode M_Mo_odds.2.1 162 = .ok (.iconst 0, 1) := by decide +kernel
theorem d_Mo_odds_163 : decode M_Mo_odds.2.1 163 = .ok (.istore 9, 2) := by decide +kernel
theorem d_Mo_odds_165 : decode M_Mo_odds.2.1 165 = .ok (.iinc 11 1, 3) := by decide +kernel
theorem d_Mo_odds_168 : decode M_Mo_odds.2.1 168 = .ok (.goto (-84), 3) := by decide +kernel
theorem d_Mo_odds_171 : decode M_Mo_odds.2.1 171 = .ok (.iload 6, 2) := by decide +kernel
theorem d_Mo_odds_173 : decode M_Mo_odds.2.1 173 = .ok (.iload 10, 2) := by decide +kernel
theorem d_Mo_odds_175 : decode M_Mo_odds.2.1 175 = .ok (.iload_n 2, 1) := by decide +kernel
theorem d_Mo_odds_176 : decode M_Mo_odds.2.1 176 = .ok (.if_icmp .ne 8, 3) := by decide +kernel
theorem d_Mo_odds_179 : decode M_Mo_odds.2.1 179 = .ok (.iload 9, 2) := by decide +kernel
theorem d_Mo_odds_181 : decode M_Mo_odds.2.1 181 = .ok (.goto 4, 3) := by decide +kernel
theorem d_Mo_odds_184 : decode M_Mo_odds.2.1 184 = .ok (.iconst 0, 1) := by decide +kernel
theorem d_Mo_odds_185 : decode M_Mo_odds.2.1 185 = .ok (.iadd, 1) := by decide +kernel
theorem d_Mo_odds_186 : decode M_Mo_odds.2.1 186 = .ok (.istore 6, 2) := by decide +kernel
theorem d_Mo_odds_188 : decode M_Mo_odds.2.1 188 = .ok (.iinc 8 1, 3) := by decide +kernel
theorem d_Mo_odds_191 : decode M_Mo_odds.2.1 191 = .ok (.goto (-129), 3) := by decide +kernel
theorem d_Mo_odds_194 : decode M_Mo_odds.2.1 194 = .ok (.iconst 0, 1) := by decide +kernel
theorem d_Mo_odds_195 : decode M_Mo_odds.2.1 195 = .ok (.istore 8, 2) := by decide +kernel
theorem d_Mo_odds_197 : decode M_Mo_odds.2.1 197 = .ok (.iload 8, 2) := by decide +kernel
theorem d_Mo_odds_199 : decode M_Mo_odds.2.1 199 = .ok (.iload_n 3, 1) := by decide +kernel
theorem d_Mo_odds_200 : decode M_Mo_odds.2.1 200 = .ok (.if_icmp .ge 16, 3) := by decide +kernel
theorem d_Mo_odds_203 : decode M_Mo_odds.2.1 203 = .ok (.iload 7, 2) := by decide +kernel
theorem d_Mo_odds_205 : decode M_Mo_odds.2.1 205 = .ok (.bipush 10, 2) := by decide +kernel
theorem d_Mo_odds_207 : decode M_Mo_odds.2.1 207 = .ok (.imul, 1) := by decide +kernel
theorem d_Mo_odds_208 : decode M_Mo_odds.2.1 208 = .ok (.istore 7, 2) := by decide +kernel
theorem d_Mo_odds_210 : decode M_Mo_odds.2.1 210 = .ok (.iinc 8 1, 3) := by decide +kernel
theorem d_Mo_odds_213 : decode M_Mo_odds.2.1 213 = .ok (.goto (-16), 3) := by decide +kernel
theorem d_Mo_odds_216 : decode M_Mo_odds.2.1 216 = .ok (.iload 6, 2) := by decide +kernel
theorem d_Mo_odds_218 : decode M_Mo_odds.2.1 218 = .ok (.istore 8, 2) := by decide +kernel
theorem d_Mo_odds_220 : decode M_Mo_odds.2.1 220 = .ok (.iload 7, 2) := by decide +kernel
theorem d_Mo_odds_222 : decode M_Mo_odds.2.1 222 = .ok (.istore 9, 2) := by decide +kernel
theorem d_Mo_odds_224 : decode M_Mo_odds.2.1 224 = .ok (.iload 9, 2) := by decide +kernel
theorem d_Mo_odds_226 : decode M_Mo_odds.2.1 226 = .ok (.ifCond .eq 21, 3) := by decide +kernel
theorem d_Mo_odds_229 : decode M_Mo_odds.2.1 229 = .ok (.iload 8, 2) := by decide +kernel
theorem d_Mo_odds_231 : decode M_Mo_odds.2.1 231 = .ok (.iload 9, 2) := by decide +kernel
theorem d_Mo_odds_233 : decode M_Mo_odds.2.1 233 = .ok (.irem, 1) := by decide +kernel
theorem d_Mo_odds_234 : decode M_Mo_odds.2.1 234 = .ok (.istore 10, 2) := by decide +kernel
theorem d_Mo_odds_236 : decode M_Mo_odds.2.1 236 = .ok (.iload 9, 2) := by decide +kernel
theorem d_Mo_odds_238 : decode M_Mo_odds.2.1 238 = .ok (.istore 8, 2) := by decide +kernel
theorem d_Mo_odds_240 : decode M_Mo_odds.2.1 240 = .ok (.iload 10, 2) := by decide +kernel
theorem d_Mo_odds_242 : decode M_Mo_odds.2.1 242 = .ok (.istore 9, 2) := by decide +kernel
theorem d_Mo_odds_244 : decode M_Mo_odds.2.1 244 = .ok (.goto (-20), 3) := by decide +kernel
theorem d_Mo_odds_247 : decode M_Mo_odds.2.1 247 = .ok (.iload 5, 2) := by decide +kernel
theorem d_Mo_odds_249 : decode M_Mo_odds.2.1 249 = .ok (.ifCond .ne 11, 3) := by decide +kernel
theorem d_Mo_odds_252 : decode M_Mo_odds.2.1 252 = .ok (.iload 6, 2) := by decide +kernel
theorem d_Mo_odds_254 : decode M_Mo_odds.2.1 254 = .ok (.iload 8, 2) := by decide +kernel
theorem d_Mo_odds_256 : decode M_Mo_odds.2.1 256 = .ok (.idiv, 1) := by decide +kernel
theorem d_Mo_odds_257 : decode M_Mo_odds.2.1 257 = .ok (.goto 8, 3) := by decide +kernel
theorem d_Mo_odds_260 : decode M_Mo_odds.2.1 260 = .ok (.iload 7, 2) := by decide +kernel
theorem d_Mo_odds_262 : decode M_Mo_odds.2.1 262 = .ok (.iload 8, 2) := by decide +kernel
theorem d_Mo_odds_264 : decode M_Mo_odds.2.1 264 = .ok (.idiv, 1) := by decide +kernel
theorem d_Mo_odds_265 : decode M_Mo_odds.2.1 265 = .ok (.ireturn, 1) := by decide +kernel
theorem d_Mo_saw_0 : decode M_Mo_saw.2.1 0 = .ok (.aload_n 0, 1) := by decide +kernel
theorem d_Mo_saw_1 : decode M_Mo_saw.2.1 1 = .ok (.iload_n 1, 1) := by decide +kernel
theorem d_Mo_saw_2 : decode M_Mo_saw.2.1 2 = .ok (.invokevirtual 152, 3) := by decide +kernel
theorem d_Mo_saw_5 : decode M_Mo_saw.2.1 5 = .ok (.ifCond .eq 23, 3) := by decide +kernel
theorem d_Mo_saw_8 : decode M_Mo_saw.2.1 8 = .ok (.iload_n 2, 1) := by decide +kernel
theorem d_Mo_saw_9 : decode M_Mo_saw.2.1 9 = .ok (.iconst 1, 1) := by decide +kernel
theorem d_Mo_saw_10 : decode M_Mo_saw.2.1 10 = .ok (.bipush 9, 2) := by decide +kernel
theorem d_Mo_saw_12 : decode M_Mo_saw.2.1 12 = .ok (.invokestatic 78, 3) := by decide +kernel
theorem d_Mo_saw_15 : decode M_Mo_saw.2.1 15 = .ok (.ifCond .eq 13, 3) := by decide +kernel
theorem d_Mo_saw_18 : decode M_Mo_saw.2.1 18 = .ok (.iload_n 3, 1) := by decide +kernel
theorem d_Mo_saw_19 : decode M_Mo_saw.2.1 19 = .ok (.iconst 0, 1) := by decide +kernel
theorem d_Mo_saw_20 : decode M_Mo_saw.2.1 20 = .ok (.bipush 9, 2) := by decide +kernel
theorem d_Mo_saw_22 : decode M_Mo_saw.2.1 22 = .ok (.invokestatic 78, 3) := by decide +kernel
theorem d_Mo_saw_25 : decode M_Mo_saw.2.1 25 = .ok (.ifCond .ne 5, 3) := by decide +kernel
theorem d_Mo_saw_28 : decode M_Mo_saw.2.1 28 = .ok (.iconst (-1), 1) := by decide +kernel
theorem d_Mo_saw_29 : decode M_Mo_saw.2.1 29 = .ok (.ireturn, 1) := by decide +kernel
theorem d_Mo_saw_30 : decode M_Mo_saw.2.1 30 = .ok (.aload_n 0, 1) := by decide +kernel
theorem d_Mo_saw_31 : decode M_Mo_saw.2.1 31 = .ok (.getfield 134, 3) := by decide +kernel
theorem d_Mo_saw_34 : decode M_Mo_saw.2.1 34 = .ok (.bipush 6, 2) := by decide +kernel
theorem d_Mo_saw_36 : decode M_Mo_saw.2.1 36 = .ok (.if_icmp .ne 6, 3) := by decide +kernel
theorem d_Mo_saw_39 : decode M_Mo_saw.2.1 39 = .ok (.bipush (-3), 2) := by decide +kernel
theorem d_Mo_saw_41 : decode M_Mo_saw.2.1 41 = .ok (.ireturn, 1) := by decide +kernel
theorem d_Mo_saw_42 : decode M_Mo_saw.2.1 42 = .ok (.aload_n 0, 1) := by decide +kernel
theorem d_Mo_saw_43 : decode M_Mo_saw.2.1 43 = .ok (.getfield 63, 3) := by decide +kernel
theorem d_Mo_saw_46 : decode M_Mo_saw.2.1 46 = .ok (.aload_n 0, 1) := by decide +kernel
theorem d_Mo_saw_47 : decode M_Mo_saw.2.1 47 = .ok (.getfield 134, 3) := by decide +kernel
theorem d_Mo_saw_50 : decode M_Mo_saw.2.1 50 = .ok (.iload_n 1, 1) := by decide +kernel
theorem d_Mo_saw_51 : decode M_Mo_saw.2.1 51 = .ok (.iastore, 1) := by decide +kernel
theorem d_Mo_saw_52 : decode M_Mo_saw.2.1 52 = .ok (.aload_n 0, 1) := by decide +kernel
theorem d_Mo_saw_53 : decode M_Mo_saw.2.1 53 = .ok (.getfield 66, 3) := by decide +kernel
theorem d_Mo_saw_56 : decode M_Mo_saw.2.1 56 = .ok (.aload_n 0, 1) := by decide +kernel
theorem d_Mo_saw_57 : decode M_Mo_saw.2.1 57 = .ok (.getfield 134, 3) := by decide +kernel
theorem d_Mo_saw_60 : decode M_Mo_saw.2.1 60 = .ok (.iload_n 2, 1) := by decide +kernel
theorem d_Mo_saw_61 : decode M_Mo_saw.2.1 61 = .ok (.iastore, 1) := by decide +kernel
theorem d_Mo_saw_62 : decode M_Mo_saw.2.1 62 = .ok (.aload_n 0, 1) := by decide +kernel
theorem d_Mo_saw_63 : decode M_Mo_saw.2.1 63 = .ok (.getfield 69, 3) := by decide +kernel
theorem d_Mo_saw_66 : decode M_Mo_saw.2.1 66 = .ok (.aload_n 0, 1) := by decide +kernel
theorem d_Mo_saw_67 : decode M_Mo_saw.2.1 67 = .ok (.getfield 134, 3) := by decide +kernel
theorem d_Mo_saw_70 : decode M_Mo_saw.2.1 70 = .ok (.iload_n 3, 1) := by decide +kernel
theorem d_Mo_saw_71 : decode M_Mo_saw.2.1 71 = .ok (.iastore, 1) := by decide +kernel
theorem d_Mo_saw_72 : decode M_Mo_saw.2.1 72 = .ok (.aload_n 0, 1) := by decide +kernel
theorem d_Mo_saw_73 : decode M_Mo_saw.2.1 73 = .ok (.dup, 1) := by decide +kernel
theorem d_Mo_saw_74 : decode M_Mo_saw.2.1 74 = .ok (.getfield 134, 3) := by decide +kernel
theorem d_Mo_saw_77 : decode M_Mo_saw.2.1 77 = .ok (.iconst 1, 1) := by decide +kernel
theorem d_Mo_saw_78 : decode M_Mo_saw.2.1 78 = .ok (.iadd, 1) := by decide +kernel
theorem d_Mo_saw_79 : decode M_Mo_saw.2.1 79 = .ok (.putfield 134, 3) := by decide +kernel
theorem d_Mo_saw_82 : decode M_Mo_saw.2.1 82 = .ok (.aload_n 0, 1) := by decide +kernel
theorem d_Mo_saw_83 : decode M_Mo_saw.2.1 83 = .ok (.getfield 134, 3) := by decide +kernel
theorem d_Mo_saw_86 : decode M_Mo_saw.2.1 86 = .ok (.ireturn, 1) := by decide +kernel
theorem d_Mo_heightBy_0 : decode M_Mo_heightBy.2.1 0 = .ok (.aload_n 0, 1) := by decide +kernel
theorem d_Mo_heightBy_1 : decode M_Mo_heightBy.2.1 1 = .ok (.invokevirtual 187, 3) := by decide +kernel
theorem d_Mo_heightBy_4 : decode M_Mo_heightBy.2.1 4 = .ok (.aload_n 0, 1) := by decide +kernel
theorem d_Mo_heightBy_5 : decode M_Mo_heightBy.2.1 5 = .ok (.getfield 57, 3) := by decide +kernel
theorem d_Mo_heightBy_8 : decode M_Mo_heightBy.2.1 8 = .ok (.iload_n 1, 1) := by decide +kernel
theorem d_Mo_heightBy_9 : decode M_Mo_heightBy.2.1 9 = .ok (.iload_n 2, 1) := by decide +kernel
theorem d_Mo_heightBy_10 : decode M_Mo_heightBy.2.1 10 = .ok (.invokestatic 169, 3) := by decide +kernel
theorem d_Mo_heightBy_13 : decode M_Mo_heightBy.2.1 13 = .ok (.iconst 0, 1) := by decide +kernel
theorem d_Mo_heightBy_14 : decode M_Mo_heightBy.2.1 14 = .ok (.istore 4, 2) := by decide +kernel
theorem d_Mo_heightBy_16 : decode M_Mo_heightBy.2.1 16 = .ok (.iload 4, 2) := by decide +kernel
theorem d_Mo_heightBy_18 : decode M_Mo_heightBy.2.1 18 = .ok (.iload_n 3, 1) := by decide +kernel
theorem d_Mo_heightBy_19 : decode M_Mo_heightBy.2.1 19 = .ok (.if_icmp .ge 17, 3) := by decide +kernel
theorem d_Mo_heightBy_22 : decode M_Mo_heightBy.2.1 22 = .ok (.aload_n 0, 1) := by decide +kernel
theorem d_Mo_heightBy_23 : decode M_Mo_heightBy.2.1 23 = .ok (.aload_n 0, 1) := by decide +kernel
theorem d_Mo_heightBy_24 : decode M_Mo_heightBy.2.1 24 = .ok (.getfield 57, 3) := by decide +kernel
theorem d_Mo_heightBy_27 : decode M_Mo_heightBy.2.1 27 = .ok (.invokevirtual 173, 3) := by decide +kernel
theorem d_Mo_heightBy_30 : decode M_Mo_heightBy.2.1 30 = .ok (.iinc 4 1, 3) := by decide +kernel
theorem d_Mo_heightBy_33 : decode M_Mo_heightBy.2.1 33 = .ok (.goto (-17), 3) := by decide +kernel
theorem d_Mo_heightBy_36 : decode M_Mo_heightBy.2.1 36 = .ok (.aload_n 0, 1) := by decide +kernel
theorem d_Mo_heightBy_37 : decode M_Mo_heightBy.2.1 37 = .ok (.getfield 57, 3) := by decide +kernel
theorem d_Mo_heightBy_40 : decode M_Mo_heightBy.2.1 40 = .ok (.iconst 2, 1) := by decide +kernel
theorem d_Mo_heightBy_41 : decode M_Mo_heightBy.2.1 41 = .ok (.iaload, 1) := by decide +kernel
theorem d_Mo_heightBy_42 : decode M_Mo_heightBy.2.1 42 = .ok (.ireturn, 1) := by decide +kernel
theorem d_Mo_whichBy_0 : decode M_Mo_whichBy.2.1 0 = .ok (.iconst 0, 1) := by decide +kernel
theorem d_Mo_whichBy_1 : decode M_Mo_whichBy.2.1 1 = .ok (.istore_n 2, 1) := by decide +kernel
theorem d_Mo_whichBy_2 : decode M_Mo_whichBy.2.1 2 = .ok (.iconst 0, 1) := by decide +kernel
theorem d_Mo_whichBy_3 : decode M_Mo_whichBy.2.1 3 = .ok (.istore_n 3, 1) := by decide +kernel
theorem d_Mo_whichBy_4 : decode M_Mo_whichBy.2.1 4 = .ok (.iload_n 3, 1) := by decide +kernel
theorem d_Mo_whichBy_5 : decode M_Mo_whichBy.2.1 5 = .ok (.aload_n 0, 1) := by decide +kernel
theorem d_Mo_whichBy_6 : decode M_Mo_whichBy.2.1 6 = .ok (.getfield 29, 3) := by decide +kernel
theorem d_Mo_whichBy_9 : decode M_Mo_whichBy.2.1 9 = .ok (.iconst 0, 1) := by decide +kernel
theorem d_Mo_whichBy_10 : decode M_Mo_whichBy.2.1 10 = .ok (.iaload, 1) := by decide +kernel
theorem d_Mo_whichBy_11 : decode M_Mo_whichBy.2.1 11 = .ok (.if_icmp .ge 91, 3) := by decide +kernel
theorem d_Mo_whichBy_14 : decode M_Mo_whichBy.2.1 14 = .ok (.iconst 1, 1) := by decide +kernel
theorem d_Mo_whichBy_15 : decode M_Mo_whichBy.2.1 15 = .ok (.istore 4, 2) := by decide +kernel
theorem d_Mo_whichBy_17 : decode M_Mo_whichBy.2.1 17 = .ok (.iconst 0, 1) := by decide +kernel
theorem d_Mo_whichBy_18 : decode M_Mo_whichBy.2.1 18 = .ok (.istore 5, 2) := by decide +kernel
theorem d_Mo_whichBy_20 : decode M_Mo_whichBy.2.1 20 = .ok (.iload 5, 2) := by decide +kernel
theorem d_Mo_whichBy_22 : decode M_Mo_whichBy.2.1 22 = .ok (.aload_n 0, 1) := by decide +kernel
theorem d_Mo_whichBy_23 : decode M_Mo_whichBy.2.1 23 = .ok (.getfield 134, 3) := by decide +kernel
theorem d_Mo_whichBy_26 : decode M_Mo_whichBy.2.1 26 = .ok (.if_icmp .ge 55, 3) := by decide +kernel
theorem d_Mo_whichBy_29 : decode M_Mo_whichBy.2.1 29 = .ok (.iload 4, 2) := by decide +kernel
theorem d_Mo_whichBy_31 : decode M_Mo_whichBy.2.1 31 = .ok (.ifCond .eq 41, 3) := by decide +kernel
theorem d_Mo_whichBy_34 : decode M_Mo_whichBy.2.1 34 = .ok (.aload_n 0, 1) := by decide +kernel
theorem d_Mo_whichBy_35 : decode M_Mo_whichBy.2.1 35 = .ok (.getfield 63, 3) := by decide +kernel
theorem d_Mo_whichBy_38 : decode M_Mo_whichBy.2.1 38 = .ok (.iload 5, 2) := by decide +kernel
theorem d_Mo_whichBy_40 : decode M_Mo_whichBy.2.1 40 = .ok (.iaload, 1) := by decide +kernel
theorem d_Mo_whichBy_41 : decode M_Mo_whichBy.2.1 41 = .ok (.iload_n 1, 1) := by decide +kernel
theorem d_Mo_whichBy_42 : decode M_Mo_whichBy.2.1 42 = .ok (.if_icmp .ne 26, 3) := by decide +kernel
theorem d_Mo_whichBy_45 : decode M_Mo_whichBy.2.1 45 = .ok (.aload_n 0, 1) := by decide +kernel
theorem d_Mo_whichBy_46 : decode M_Mo_whichBy.2.1 46 = .ok (.iload_n 1, 1) := by decide +kernel
theorem d_Mo_whichBy_47 : decode M_Mo_whichBy.2.1 47 = .ok (.iload_n 3, 1) := by decide +kernel
theorem d_Mo_whichBy_48 : decode M_Mo_whichBy.2.1 48 = .ok (.aload_n 0, 1) := by decide +kernel
theorem d_Mo_whichBy_49 : decode M_Mo_whichBy.2.1 49 = .ok (.getfield 66, 3) := by decide +kernel
theorem d_Mo_whichBy_52 : decode M_Mo_whichBy.2.1 52 = .ok (.iload 5, 2) := by decide +kernel
theorem d_Mo_whichBy_54 : decode M_Mo_whichBy.2.1 54 = .ok (.iaload, 1) := by decide +kernel
theorem d_Mo_whichBy_55 : decode M_Mo_whichBy.2.1 55 = .ok (.invokevirtual 194, 3) := by decide +kernel
theorem d_Mo_whichBy_58 : decode M_Mo_whichBy.2.1 58 = .ok (.aload_n 0, 1) := by decide +kernel
theorem d_Mo_whichBy_59 : decode M_Mo_whichBy.2.1 59 = .ok (.getfield 69, 3) := by decide +kernel
theorem d_Mo_whichBy_62 : decode M_Mo_whichBy.2.1 62 = .ok (.iload 5, 2) := by decide +kernel
theorem d_Mo_whichBy_64 : decode M_Mo_whichBy.2.1 64 = .ok (.iaload, 1) := by decide +kernel
theorem d_Mo_whichBy_65 : decode M_Mo_whichBy.2.1 65 = .ok (.if_icmp .ne 7, 3) := by decide +kernel
theorem d_Mo_whichBy_68 : decode M_Mo_whichBy.2.1 68 = .ok (.iconst 1, 1) := by decide +kernel
theorem d_Mo_whichBy_69 : decode M_Mo_whichBy.2.1 69 = .ok (.goto 4, 3) := by decide +kernel
theorem d_Mo_whichBy_72 : decode M_Mo_whichBy.2.1 72 = .ok (.iconst 0, 1) := by decide +kernel
theorem d_Mo_whichBy_73 : decode M_Mo_whichBy.2.1 73 = .ok (.istore 4, 2) := by decide +kernel
theorem d_Mo_whichBy_75 : decode M_Mo_whichBy.2.1 75 = .ok (.iinc 5 1, 3) := by decide +kernel
theorem d_Mo_whichBy_78 : decode M_Mo_whichBy.2.1 78 = .ok (.goto (-58), 3) := by decide +kernel
theorem d_Mo_whichBy_81 : decode M_Mo_whichBy.2.1 81 = .ok (.iload_n 2, 1) := by decide +kernel
theorem d_Mo_whichBy_82 : decode M_Mo_whichBy.2.1 82 = .ok (.iload 4, 2) := by decide +kernel
theorem d_Mo_whichBy_84 : decode M_Mo_whichBy.2.1 84 = .ok (.ifCond .eq 9, 3) := by decide +kernel
theorem d_Mo_whichBy_87 : decode M_Mo_whichBy.2.1 87 = .ok (.iconst 1, 1) := by decide +kernel
theorem d_Mo_whichBy_88 : decode M_Mo_whichBy.2.1 88 = .ok (.iload_n 3, 1) := by decide +kernel
theorem d_Mo_whichBy_89 : decode M_Mo_whichBy.2.1 89 = .ok (.ishl, 1) := by decide +kernel
theorem d_Mo_whichBy_90 : decode M_Mo_whichBy.2.1 90 = .ok (.goto 4, 3) := by decide +kernel
theorem d_Mo_whichBy_93 : decode M_Mo_whichBy.2.1 93 = .ok (.iconst 0, 1) := by decide +kernel
theorem d_Mo_whichBy_94 : decode M_Mo_whichBy.2.1 94 = .ok (.ior, 1) := by decide +kernel
theorem d_Mo_whichBy_95 : decode M_Mo_whichBy.2.1 95 = .ok (.istore_n 2, 1) := by decide +kernel
theorem d_Mo_whichBy_96 : decode M_Mo_whichBy.2.1 96 = .ok (.iinc 3 1, 3) := by decide +kernel
theorem d_Mo_whichBy_99 : decode M_Mo_whichBy.2.1 99 = .ok (.goto (-95), 3) := by decide +kernel
theorem d_Mo_whichBy_102 : decode M_Mo_whichBy.2.1 102 = .ok (.iload_n 2, 1) := by decide +kernel
theorem d_Mo_whichBy_103 : decode M_Mo_whichBy.2.1 103 = .ok (.ireturn, 1) := by decide +kernel
theorem d_Mo_which_0 : decode M_Mo_which.2.1 0 = .ok (.aload_n 0, 1) := by decide +kernel
theorem d_Mo_which_1 : decode M_Mo_which.2.1 1 = .ok (.iload_n 1, 1) := by decide +kernel
theorem d_Mo_which_2 : decode M_Mo_which.2.1 2 = .ok (.invokevirtual 152, 3) := by decide +kernel
theorem d_Mo_which_5 : decode M_Mo_which.2.1 5 = .ok (.ifCond .eq 11, 3) := by decide +kernel
theorem d_Mo_which_8 : decode M_Mo_which.2.1 8 = .ok (.aload_n 0, 1) := by decide +kernel
theorem d_Mo_which_9 : decode M_Mo_which.2.1 9 = .ok (.iload_n 1, 1) := by decide +kernel
theorem d_Mo_which_10 : decode M_Mo_which.2.1 10 = .ok (.invokevirtual 198, 3) := by decide +kernel
theorem d_Mo_which_13 : decode M_Mo_which.2.1 13 = .ok (.goto 4, 3) := by decide +kernel
theorem d_Mo_which_16 : decode M_Mo_which.2.1 16 = .ok (.iconst (-1), 1) := by decide +kernel
theorem d_Mo_which_17 : decode M_Mo_which.2.1 17 = .ok (.ireturn, 1) := by decide +kernel
theorem d_Mo_look_0 : decode M_Mo_look.2.1 0 = .ok (.aload_n 0, 1) := by decide +kernel
theorem d_Mo_look_1 : decode M_Mo_look.2.1 1 = .ok (.iload_n 1, 1) := by decide +kernel
theorem d_Mo_look_2 : decode M_Mo_look.2.1 2 = .ok (.invokevirtual 152, 3) := by decide +kernel
theorem d_Mo_look_5 : decode M_Mo_look.2.1 5 = .ok (.ifCond .ne 5, 3) := by decide +kernel
theorem d_Mo_look_8 : decode M_Mo_look.2.1 8 = .ok (.iconst (-1), 1) := by decide +kernel
theorem d_Mo_look_9 : decode M_Mo_look.2.1 9 = .ok (.ireturn, 1) := by decide +kernel
theorem d_Mo_look_10 : decode M_Mo_look.2.1 10 = .ok (.aload_n 0, 1) := by decide +kernel
theorem d_Mo_look_11 : decode M_Mo_look.2.1 11 = .ok (.iload_n 1, 1) := by decide +kernel
theorem d_Mo_look_12 : decode M_Mo_look.2.1 12 = .ok (.invokevirtual 198, 3) := by decide +kernel
theorem d_Mo_look_15 : decode M_Mo_look.2.1 15 = .ok (.istore_n 2, 1) := by decide +kernel
theorem d_Mo_look_16 : decode M_Mo_look.2.1 16 = .ok (.bipush (-9), 2) := by decide +kernel
theorem d_Mo_look_18 : decode M_Mo_look.2.1 18 = .ok (.istore_n 3, 1) := by decide +kernel
theorem d_Mo_look_19 : decode M_Mo_look.2.1 19 = .ok (.iconst 0, 1) := by decide +kernel
theorem d_Mo_look_20 : decode M_Mo_look.2.1 20 = .ok (.istore 4, 2) := by decide +kernel
theorem d_Mo_look_22 : decode M_Mo_look.2.1 22 = .ok (.iconst 1, 1) := by decide +kernel
theorem d_Mo_look_23 : decode M_Mo_look.2.1 23 = .ok (.istore 5, 2) := by decide +kernel
theorem d_Mo_look_25 : decode M_Mo_look.2.1 25 = .ok (.iload 5, 2) := by decide +kernel
theorem d_Mo_look_27 : decode M_Mo_look.2.1 27 = .ok (.bipush 9, 2) := by decide +kernel
theorem d_Mo_look_29 : decode M_Mo_look.2.1 29 = .ok (.if_icmp .gt 144, 3) := by decide +kernel
theorem d_Mo_look_32 : decode M_Mo_look.2.1 32 = .ok (.iload_n 2, 1) := by decide +kernel
theorem d_Mo_look_33 : decode M_Mo_look.2.1 33 = .ok (.ifCond .eq 140, 3) := by decide +kernel
theorem d_Mo_look_36 : decode M_Mo_look.2.1 36 = .ok (.iconst 0, 1) := by decide +kernel
theorem d_Mo_look_37 : decode M_Mo_look.2.1 37 = .ok (.istore 6, 2) := by decide +kernel
theorem d_Mo_look_39 : decode M_Mo_look.2.1 39 = .ok (.iconst 0, 1) := by decide +kernel
theorem d_Mo_look_40 : decode M_Mo_look.2.1 40 = .ok (.istore 7, 2) := by decide +kernel
theorem d_Mo_look_42 : decode M_Mo_look.2.1 42 = .ok (.iload 7, 2) := by decide +kernel
theorem d_Mo_look_44 : decode M_Mo_look.2.1 44 = .ok (.aload_n 0, 1) := by decide +kernel
theorem d_Mo_look_45 : decode M_Mo_look.2.1 45 = .ok (.getfield 29, 3) := by decide +kernel
theorem d_Mo_look_48 : decode M_Mo_look.2.1 48 = .ok (.iconst 0, 1) := by decide +kernel
theorem d_Mo_look_49 : decode M_Mo_look.2.1 49 = .ok (.iaload, 1) := by decide +kernel
theorem d_Mo_look_50 : decode M_Mo_look.2.1 50 = .ok (.if_icmp .ge 97, 3) := by decide +kernel
theorem d_Mo_look_53 : decode M_Mo_look.2.1 53 = .ok (.iconst 0, 1) := by decide +kernel
theorem d_Mo_look_54 : decode M_Mo_look.2.1 54 = .ok (.istore 8, 2) := by decide +kernel
theorem d_Mo_look_56 : decode M_Mo_look.2.1 56 = .ok (.iconst 0, 1) := by decide +kernel
theorem d_Mo_look_57 : decode M_Mo_look.2.1 57 = .ok (.istore 9, 2) := by decide +kernel
theorem d_Mo_look_59 : decode M_Mo_look.2.1 59 = .ok (.iload 9, 2) := by decide +kernel
theorem d_Mo_look_61 : decode M_Mo_look.2.1 61 = .ok (.aload_n 0, 1) := by decide +kernel
theorem d_Mo_look_62 : decode M_Mo_look.2.1 62 = .ok (.getfield 29, 3) := by decide +kernel
theorem d_Mo_look_65 : decode M_Mo_look.2.1 65 = .ok (.iconst 0, 1) := by decide +kernel
theorem d_Mo_look_66 : decode M_Mo_look.2.1 66 = .ok (.iaload, 1) := by decide +kernel
theorem d_Mo_look_67 : decode M_Mo_look.2.1 67 = .ok (.if_icmp .ge 58, 3) := by decide +kernel
theorem d_Mo_look_70 : decode M_Mo_look.2.1 70 = .ok (.iload 8, 2) := by decide +kernel
theorem d_Mo_look_72 : decode M_Mo_look.2.1 72 = .ok (.iload_n 2, 1) := by decide +kernel
theorem d_Mo_look_73 : decode M_Mo_look.2.1 73 = .ok (.iload 7, 2) := by decide +kernel
theorem d_Mo_look_75 : decode M_Mo_look.2.1 75 = .ok (.invokestatic 140, 3) := by decide +kernel
theorem d_Mo_look_78 : decode M_Mo_look.2.1 78 = .ok (.ifCond .eq 37, 3) := by decide +kernel
theorem d_Mo_look_81 : decode M_Mo_look.2.1 81 = .ok (.iload_n 2, 1) := by decide +kernel
theorem d_Mo_look_82 : decode M_Mo_look.2.1 82 = .ok (.iload 9, 2) := by decide +kernel
theorem d_Mo_look_84 : decode M_Mo_look.2.1 84 = .ok (.invokestatic 140, 3) := by decide +kernel
theorem d_Mo_look_87 : decode M_Mo_look.2.1 87 = .ok (.ifCond .eq 28, 3) := by decide +kernel
theorem d_Mo_look_90 : decode M_Mo_look.2.1 90 = .ok (.aload_n 0, 1) := by decide +kernel
theorem d_Mo_look_91 : decode M_Mo_look.2.1 91 = .ok (.iload_n 1, 1) := by decide +kernel
theorem d_Mo_look_92 : decode M_Mo_look.2.1 92 = .ok (.iload 9, 2) := by decide +kernel
theorem d_Mo_look_94 : decode M_Mo_look.2.1 94 = .ok (.iload 5, 2) := by decide +kernel
theorem d_Mo_look_96 : decode M_Mo_look.2.1 96 = .ok (.invokevirtual 194, 3) := by decide +kernel
theorem d_Mo_look_99 : decode M_Mo_look.2.1 99 = .ok (.aload_n 0, 1) := by decide +kernel
theorem d_Mo_look_100 : decode M_Mo_look.2.1 100 = .ok (.iload_n 1, 1) := by decide +kernel
theorem d_Mo_look_101 : decode M_Mo_look.2.1 101 = .ok (.iload 7, 2) := by decide +kernel
theorem d_Mo_look_103 : decode M_Mo_look.2.1 103 = .ok (.iload 5, 2) := by decide +kernel
theorem d_Mo_look_105 : decode M_Mo_look.2.1 105 = .ok (.invokevirtual 194, 3) := by decide +kernel
theorem d_Mo_look_108 : decode M_Mo_look.2.1 108 = .ok (.if_icmp .ne 7, 3) := by decide +kernel
theorem d_Mo_look_111 : decode M_Mo_look.2.1 111 = .ok (.iconst 1, 1) := by decide +kernel
theorem d_Mo_look_112 : decode M_Mo_look.2.1 112 = .ok (.goto 4, 3) := by decide +kernel
theorem d_Mo_look_115 : decode M_Mo_look.2.1 115 = .ok (.iconst 0, 1) := by decide +kernel
theorem d_Mo_look_116 : decode M_Mo_look.2.1 116 = .ok (.iadd, 1) := by decide +kernel
theorem d_Mo_look_117 : decode M_Mo_look.2.1 117 = .ok (.istore 8, 2) := by decide +kernel
theorem d_Mo_look_119 : decode M_Mo_look.2.1 119 = .ok (.iinc 9 1, 3) := by decide +kernel
theorem d_Mo_look_122 : decode M_Mo_look.2.1 122 = .ok (.goto (-63), 3) := by decide +kernel
theorem d_Mo_look_125 : decode M_Mo_look.2.1 125 = .ok (.iload 8, 2) := by decide +kernel
theorem d_Mo_look_127 : decode M_Mo_look.2.1 127 = .ok (.iload 6, 2) := by decide +kernel
theorem d_Mo_look_129 : decode M_Mo_look.2.1 129 = .ok (.if_icmp .le 8, 3) := by decide +kernel
theorem d_Mo_look_132 : decode M_Mo_look.2.1 132 = .ok (.iload 8, 2) := by decide +kernel
theorem d_Mo_look_134 : decode M_Mo_look.2.1 134 = .ok (.goto 5, 3) := by decide +kernel
theorem d_Mo_look_137 : decode M_Mo_look.2.1 137 = .ok (.iload 6, 2) := by decide +kernel
theorem d_Mo_look_139 : decode M_Mo_look.2.1 139 = .ok (.istore 6, 2) := by decide +kernel
theorem d_Mo_look_141 : decode M_Mo_look.2.1 141 = .ok (.iinc 7 1, 3) := by decide +kernel
theorem d_Mo_look_144 : decode M_Mo_look.2.1 144 = .ok (.goto (-102), 3) := by decide +kernel
theorem d_Mo_look_147 : decode M_Mo_look.2.1 147 = .ok (.iload_n 3, 1) := by decide +kernel
theorem d_Mo_look_148 : decode M_Mo_look.2.1 148 = .ok (.bipush (-9), 2) := by decide +kernel
theorem d_Mo_look_150 : decode M_Mo_look.2.1 150 = .ok (.if_icmp .eq 10, 3) := by decide +kernel
theorem d_Mo_look_153 : decode M_Mo_look.2.1 153 = .ok (.iload 6, 2) := by decide +kernel
theorem d_Mo_look_155 : decode M_Mo_look.2.1 155 = .ok (.iload 4, 2) := by decide +kernel
theorem d_Mo_look_157 : decode M_Mo_look.2.1 157 = .ok (.if_icmp .ge 10, 3) := by decide +kernel
theorem d_Mo_look_160 : decode M_Mo_look.2.1 160 = .ok (.iload 5, 2) := by decide +kernel
theorem d_Mo_look_162 : decode M_Mo_look.2.1 162 = .ok (.istore_n 3, 1) := by decide +kernel
theorem d_Mo_look_163 : decode M_Mo_look.2.1 163 = .ok (.iload 6, 2) := by decide +kernel
theorem d_Mo_look_165 : decode M_Mo_look.2.1 165 = .ok (.istore 4, 2) := by decide +kernel
theorem d_Mo_look_167 : decode M_Mo_look.2.1 167 = .ok (.iinc 5 1, 3) := by decide +kernel
theorem d_Mo_look_170 : decode M_Mo_look.2.1 170 = .ok (.goto (-145), 3) := by decide +kernel
theorem d_Mo_look_173 : decode M_Mo_look.2.1 173 = .ok (.iload_n 3, 1) := by decide +kernel
theorem d_Mo_look_174 : decode M_Mo_look.2.1 174 = .ok (.ireturn, 1) := by decide +kernel
theorem d_Mo_hears_0 : decode M_Mo_hears.2.1 0 = .ok (.iload_n 1, 1) := by decide +kernel
theorem d_Mo_hears_1 : decode M_Mo_hears.2.1 1 = .ok (.iconst 0, 1) := by decide +kernel
theorem d_Mo_hears_2 : decode M_Mo_hears.2.1 2 = .ok (.bipush 9, 2) := by decide +kernel
theorem d_Mo_hears_4 : decode M_Mo_hears.2.1 4 = .ok (.invokestatic 78, 3) := by decide +kernel
theorem d_Mo_hears_7 : decode M_Mo_hears.2.1 7 = .ok (.ifCond .eq 13, 3) := by decide +kernel
theorem d_Mo_hears_10 : decode M_Mo_hears.2.1 10 = .ok (.iload_n 2, 1) := by decide +kernel
theorem d_Mo_hears_11 : decode M_Mo_hears.2.1 11 = .ok (.iconst 0, 1) := by decide +kernel
theorem d_Mo_hears_12 : decode M_Mo_hears.2.1 12 = .ok (.bipush 30, 2) := by decide +kernel
theorem d_Mo_hears_14 : decode M_Mo_hears.2.1 14 = .ok (.invokestatic 78, 3) := by decide +kernel
theorem d_Mo_hears_17 : decode M_Mo_hears.2.1 17 = .ok (.ifCond .ne 5, 3) := by decide +kernel
theorem d_Mo_hears_20 : decode M_Mo_hears.2.1 20 = .ok (.iconst (-1), 1) := by decide +kernel
theorem d_Mo_hears_21 : decode M_Mo_hears.2.1 21 = .ok (.ireturn, 1) := by decide +kernel
theorem d_Mo_hears_22 : decode M_Mo_hears.2.1 22 = .ok (.aload_n 0, 1) := by decide +kernel
theorem d_Mo_hears_23 : decode M_Mo_hears.2.1 23 = .ok (.getfield 137, 3) := by decide +kernel
theorem d_Mo_hears_26 : decode M_Mo_hears.2.1 26 = .ok (.bipush 6, 2) := by decide +kernel
theorem d_Mo_hears_28 : decode M_Mo_hears.2.1 28 = .ok (.if_icmp .ne 6, 3) := by decide +kernel
theorem d_Mo_hears_31 : decode M_Mo_hears.2.1 31 = .ok (.bipush (-3), 2) := by decide +kernel
theorem d_Mo_hears_33 : decode M_Mo_hears.2.1 33 = .ok (.ireturn, 1) := by decide +kernel
theorem d_Mo_hears_34 : decode M_Mo_hears.2.1 34 = .ok (.aload_n 0, 1) := by decide +kernel
theorem d_Mo_hears_35 : decode M_Mo_hears.2.1 35 = .ok (.getfield 72, 3) := by decide +kernel
theorem d_Mo_hears_38 : decode M_Mo_hears.2.1 38 = .ok (.aload_n 0, 1) := by decide +kernel
theorem d_Mo_hears_39 : decode M_Mo_hears.2.1 39 = .ok (.getfield 137, 3) := by decide +kernel
theorem d_Mo_hears_42 : decode M_Mo_hears.2.1 42 = .ok (.iload_n 1, 1) := by decide +kernel
theorem d_Mo_hears_43 : decode M_Mo_hears.2.1 43 = .ok (.iastore, 1) := by decide +kernel
theorem d_Mo_hears_44 : decode M_Mo_hears.2.1 44 = .ok (.aload_n 0, 1) := by decide +kernel
theorem d_Mo_hears_45 : decode M_Mo_hears.2.1 45 = .ok (.getfield 75, 3) := by decide +kernel
theorem d_Mo_hears_48 : decode M_Mo_hears.2.1 48 = .ok (.aload_n 0, 1) := by decide +kernel
theorem d_Mo_hears_49 : decode M_Mo_hears.2.1 49 = .ok (.getfield 137, 3) := by decide +kernel
theorem d_Mo_hears_52 : decode M_Mo_hears.2.1 52 = .ok (.iload_n 2, 1) := by decide +kernel
theorem d_Mo_hears_53 : decode M_Mo_hears.2.1 53 = .ok (.iastore, 1) := by decide +kernel
theorem d_Mo_hears_54 : decode M_Mo_hears.2.1 54 = .ok (.aload_n 0, 1) := by decide +kernel
theorem d_Mo_hears_55 : decode M_Mo_hears.2.1 55 = .ok (.dup, 1) := by decide +kernel
theorem d_Mo_hears_56 : decode M_Mo_hears.2.1 56 = .ok (.getfield 137, 3) := by decide +kernel
theorem d_Mo_hears_59 : decode M_Mo_hears.2.1 59 = .ok (.iconst 1, 1) := by decide +kernel
theorem d_Mo_hears_60 : decode M_Mo_hears.2.1 60 = .ok (.iadd, 1) := by decide +kernel
theorem d_Mo_hears_61 : decode M_Mo_hears.2.1 61 = .ok (.putfield 137, 3) := by decide +kernel
theorem d_Mo_hears_64 : decode M_Mo_hears.2.1 64 = .ok (.aload_n 0, 1) := by decide +kernel
theorem d_Mo_hears_65 : decode M_Mo_hears.2.1 65 = .ok (.getfield 137, 3) := by decide +kernel
theorem d_Mo_hears_68 : decode M_Mo_hears.2.1 68 = .ok (.ireturn, 1) := by decide +kernel
theorem d_Mo_laws_0 : decode M_Mo_laws.2.1 0 = .ok (.iload_n 1, 1) := by decide +kernel
theorem d_Mo_laws_1 : decode M_Mo_laws.2.1 1 = .ok (.iconst 0, 1) := by decide +kernel
theorem d_Mo_laws_2 : decode M_Mo_laws.2.1 2 = .ok (.iconst 1, 1) := by decide +kernel
theorem d_Mo_laws_3 : decode M_Mo_laws.2.1 3 = .ok (.invokestatic 78, 3) := by decide +kernel
theorem d_Mo_laws_6 : decode M_Mo_laws.2.1 6 = .ok (.ifCond .ne 5, 3) := by decide +kernel
theorem d_Mo_laws_9 : decode M_Mo_laws.2.1 9 = .ok (.iconst (-1), 1) := by decide +kernel
theorem d_Mo_laws_10 : decode M_Mo_laws.2.1 10 = .ok (.ireturn, 1) := by decide +kernel
theorem d_Mo_laws_11 : decode M_Mo_laws.2.1 11 = .ok (.iconst 0, 1) := by decide +kernel
theorem d_Mo_laws_12 : decode M_Mo_laws.2.1 12 = .ok (.istore_n 2, 1) := by decide +kernel
theorem d_Mo_laws_13 : decode M_Mo_laws.2.1 13 = .ok (.bipush (-9), 2) := by decide +kernel
theorem d_Mo_laws_15 : decode M_Mo_laws.2.1 15 = .ok (.istore_n 3, 1) := by decide +kernel
theorem d_Mo_laws_16 : decode M_Mo_laws.2.1 16 = .ok (.iconst 1, 1) := by decide +kernel
theorem d_Mo_laws_17 : decode M_Mo_laws.2.1 17 = .ok (.istore 4, 2) := by decide +kernel
theorem d_Mo_laws_19 : decode M_Mo_laws.2.1 19 = .ok (.iload 4, 2) := by decide +kernel
theorem d_Mo_laws_21 : decode M_Mo_laws.2.1 21 = .ok (.bipush 30, 2) := by decide +kernel
theorem d_Mo_laws_23 : decode M_Mo_laws.2.1 23 = .ok (.if_icmp .gt 128, 3) := by decide +kernel
theorem d_Mo_laws_26 : decode M_Mo_laws.2.1 26 = .ok (.iconst 0, 1) := by decide +kernel
theorem d_Mo_laws_27 : decode M_Mo_laws.2.1 27 = .ok (.istore 5, 2) := by decide +kernel
theorem d_Mo_laws_29 : decode M_Mo_laws.2.1 29 = .ok (.iload 5, 2) := by decide +kernel
theorem d_Mo_laws_31 : decode M_Mo_laws.2.1 31 = .ok (.iconst 5, 1) := by decide +kernel
theorem d_Mo_laws_32 : decode M_Mo_laws.2.1 32 = .ok (.if_icmp .gt 113, 3) := by decide +kernel
theorem d_Mo_laws_35 : decode M_Mo_laws.2.1 35 = .ok (.iconst 1, 1) := by decide +kernel
theorem d_Mo_laws_36 : decode M_Mo_laws.2.1 36 = .ok (.istore 6, 2) := by decide +kernel
theorem d_Mo_laws_38 : decode M_Mo_laws.2.1 38 = .ok (.iconst 0, 1) := by decide +kernel
theorem d_Mo_laws_39 : decode M_Mo_laws.2.1 39 = .ok (.istore 7, 2) := by decide +kernel
theorem d_Mo_laws_41 : decode M_Mo_laws.2.1 41 = .ok (.iload 7, 2) := by decide +kernel
theorem d_Mo_laws_43 : decode M_Mo_laws.2.1 43 = .ok (.aload_n 0, 1) := by decide +kernel
theorem d_Mo_laws_44 : decode M_Mo_laws.2.1 44 = .ok (.getfield 137, 3) := by decide +kernel
theorem d_Mo_laws_47 : decode M_Mo_laws.2.1 47 = .ok (.if_icmp .ge 57, 3) := by decide +kernel
theorem d_Mo_laws_50 : decode M_Mo_laws.2.1 50 = .ok (.iload 4, 2) := by decide +kernel
theorem d_Mo_laws_52 : decode M_Mo_laws.2.1 52 = .ok (.aload_n 0, 1) := by decide +kernel
theorem d_Mo_laws_53 : decode M_Mo_laws.2.1 53 = .ok (.getfield 72, 3) := by decide +kernel
theorem d_Mo_laws_56 : decode M_Mo_laws.2.1 56 = .ok (.iload 7, 2) := by decide +kernel
theorem d_Mo_laws_58 : decode M_Mo_laws.2.1 58 = .ok (.iaload, 1) := by decide +kernel
theorem d_Mo_laws_59 : decode M_Mo_laws.2.1 59 = .ok (.iload 5, 2) := by decide +kernel
theorem d_Mo_laws_61 : decode M_Mo_laws.2.1 61 = .ok (.imul, 1) := by decide +kernel
theorem d_Mo_laws_62 : decode M_Mo_laws.2.1 62 = .ok (.isub, 1) := by decide +kernel
theorem d_Mo_laws_63 : decode M_Mo_laws.2.1 63 = .ok (.istore 8, 2) := by decide +kernel
theorem d_Mo_laws_65 : decode M_Mo_laws.2.1 65 = .ok (.iload 6, 2) := by decide +kernel
theorem d_Mo_laws_67 : decode M_Mo_laws.2.1 67 = .ok (.ifCond .eq 28, 3) := by decide +kernel
theorem d_Mo_laws_70 : decode M_Mo_laws.2.1 70 = .ok (.iload 8, 2) := by decide +kernel
theorem d_Mo_laws_72 : decode M_Mo_laws.2.1 72 = .ok (.ifCond .ge 7, 3) := by decide +kernel
theorem d_Mo_laws_75 : decode M_Mo_laws.2.1 75 = .ok (.iconst 0, 1) := by decide +kernel
theorem d_Mo_laws_76 : decode M_Mo_laws.2.1 76 = .ok (.goto 5, 3) := by decide +kernel
theorem d_Mo_laws_79 : decode M_Mo_laws.2.1 79 = .ok (.iload 8, 2) := by decide +kernel
theorem d_Mo_laws_81 : decode M_Mo_laws.2.1 81 = .ok (.aload_n 0, 1) := by decide +kernel
theorem d_Mo_laws_82 : decode M_Mo_laws.2.1 82 = .ok (.getfield 75, 3) := by decide +kernel
theorem d_Mo_laws_85 : decode M_Mo_laws.2.1 85 = .ok (.iload 7, 2) := by decide +kernel
theorem d_Mo_laws_87 : decode M_Mo_laws.2.1 87 = .ok (.iaload, 1) := by decide +kernel
theorem d_Mo_laws_88 : decode M_Mo_laws.2.1 88 = .ok (.if_icmp .ne 7, 3) := by decide +kernel
theorem d_Mo_laws_91 : decode M_Mo_laws.2.1 91 = .ok (.iconst 1, 1) := by decide +kernel
theorem d_Mo_laws_92 : decode M_Mo_laws.2.1 92 = .ok (.goto 4, 3) := by decide +kernel
theorem d_Mo_laws_95 : decode M_Mo_laws.2.1 95 = .ok (.iconst 0, 1) := by decide +kernel
theorem d_Mo_laws_96 : decode M_Mo_laws.2.1 96 = .ok (.istore 6, 2) := by decide +kernel
theorem d_Mo_laws_98 : decode M_Mo_laws.2.1 98 = .ok (.iinc 7 1, 3) := by decide +kernel
theorem d_Mo_laws_101 : decode M_Mo_laws.2.1 101 = .ok (.goto (-60), 3) := by decide +kernel
theorem d_Mo_laws_104 : decode M_Mo_laws.2.1 104 = .ok (.iload 6, 2) := by decide +kernel
theorem d_Mo_laws_106 : decode M_Mo_laws.2.1 106 = .ok (.ifCond .eq 18, 3) := by decide +kernel
theorem d_Mo_laws_109 : decode M_Mo_laws.2.1 109 = .ok (.iload_n 2, 1) := by decide +kernel
theorem d_Mo_laws_110 : decode M_Mo_laws.2.1 110 = .ok (.ifCond .ne 14, 3) := by decide +kernel
theorem d_Mo_laws_113 : decode M_Mo_laws.2.1 113 = .ok (.bipush 10, 2) := by decide +kernel
theorem d_Mo_laws_115 : decode M_Mo_laws.2.1 115 = .ok (.iload 4, 2) := by decide +kernel
theorem d_Mo_laws_117 : decode M_Mo_laws.2.1 117 = .ok (.imul, 1) := by decide +kernel
theorem d_Mo_laws_118 : decode M_Mo_laws.2.1 118 = .ok (.iload 5, 2) := by decide +kernel
theorem d_Mo_laws_120 : decode M_Mo_laws.2.1 120 = .ok (.iadd, 1) := by decide +kernel
theorem d_Mo_laws_121 : decode M_Mo_laws.2.1 121 = .ok (.goto 4, 3) := by decide +kernel
theorem d_Mo_laws_124 : decode M_Mo_laws.2.1 124 = .ok (.iload_n 3, 1) := by decide +kernel
theorem d_Mo_laws_125 : decode M_Mo_laws.2.1 125 = .ok (.istore_n 3, 1) := by decide +kernel
theorem d_Mo_laws_126 : decode M_Mo_laws.2.1 126 = .ok (.iload_n 2, 1) := by decide +kernel
theorem d_Mo_laws_127 : decode M_Mo_laws.2.1 127 = .ok (.iload 6, 2) := by decide +kernel
theorem d_Mo_laws_129 : decode M_Mo_laws.2.1 129 = .ok (.ifCond .eq 7, 3) := by decide +kernel
theorem d_Mo_laws_132 : decode M_Mo_laws.2.1 132 = .ok (.iconst 1, 1) := by decide +kernel
theorem d_Mo_laws_133 : decode M_Mo_laws.2.1 133 = .ok (.goto 4, 3) := by decide +kernel
theorem d_Mo_laws_136 : decode M_Mo_laws.2.1 136 = .ok (.iconst 0, 1) := by decide +kernel
theorem d_Mo_laws_137 : decode M_Mo_laws.2.1 137 = .ok (.iadd, 1) := by decide +kernel
theorem d_Mo_laws_138 : decode M_Mo_laws.2.1 138 = .ok (.istore_n 2, 1) := by decide +kernel
theorem d_Mo_laws_139 : decode M_Mo_laws.2.1 139 = .ok (.iinc 5 1, 3) := by decide +kernel
theorem d_Mo_laws_142 : decode M_Mo_laws.2.1 142 = .ok (.goto (-113), 3) := by decide +kernel
theorem d_Mo_laws_145 : decode M_Mo_laws.2.1 145 = .ok (.iinc 4 1, 3) := by decide +kernel
theorem d_Mo_laws_148 : decode M_Mo_laws.2.1 148 = .ok (.goto (-129), 3) := by decide +kernel
theorem d_Mo_laws_151 : decode M_Mo_laws.2.1 151 = .ok (.iload_n 1, 1) := by decide +kernel
theorem d_Mo_laws_152 : decode M_Mo_laws.2.1 152 = .ok (.ifCond .ne 7, 3) := by decide +kernel
theorem d_Mo_laws_155 : decode M_Mo_laws.2.1 155 = .ok (.iload_n 2, 1) := by decide +kernel
theorem d_Mo_laws_156 : decode M_Mo_laws.2.1 156 = .ok (.goto 4, 3) := by decide +kernel
theorem d_Mo_laws_159 : decode M_Mo_laws.2.1 159 = .ok (.iload_n 3, 1) := by decide +kernel
theorem d_Mo_laws_160 : decode M_Mo_laws.2.1 160 = .ok (.ireturn, 1) := by decide +kernel
theorem d_Mo_forget_0 : decode M_Mo_forget.2.1 0 = .ok (.aload_n 0, 1) := by decide +kernel
theorem d_Mo_forget_1 : decode M_Mo_forget.2.1 1 = .ok (.getfield 134, 3) := by decide +kernel
theorem d_Mo_forget_4 : decode M_Mo_forget.2.1 4 = .ok (.aload_n 0, 1) := by decide +kernel
theorem d_Mo_forget_5 : decode M_Mo_forget.2.1 5 = .ok (.getfield 137, 3) := by decide +kernel
theorem d_Mo_forget_8 : decode M_Mo_forget.2.1 8 = .ok (.iadd, 1) := by decide +kernel
theorem d_Mo_forget_9 : decode M_Mo_forget.2.1 9 = .ok (.istore_n 1, 1) := by decide +kernel
theorem d_Mo_forget_10 : decode M_Mo_forget.2.1 10 = .ok (.aload_n 0, 1) := by decide +kernel
theorem d_Mo_forget_11 : decode M_Mo_forget.2.1 11 = .ok (.iconst 0, 1) := by decide +kernel
theorem d_Mo_forget_12 : decode M_Mo_forget.2.1 12 = .ok (.putfield 134, 3) := by decide +kernel
theorem d_Mo_forget_15 : decode M_Mo_forget.2.1 15 = .ok (.aload_n 0, 1) := by decide +kernel
theorem d_Mo_forget_16 : decode M_Mo_forget.2.1 16 = .ok (.iconst 0, 1) := by decide +kernel
theorem d_Mo_forget_17 : decode M_Mo_forget.2.1 17 = .ok (.putfield 137, 3) := by decide +kernel
theorem d_Mo_forget_20 : decode M_Mo_forget.2.1 20 = .ok (.iload_n 1, 1) := by decide +kernel
theorem d_Mo_forget_21 : decode M_Mo_forget.2.1 21 = .ok (.ireturn, 1) := by decide +kernel
theorem d_Mo_bodiesOf_0 : decode M_Mo_bodiesOf.2.1 0 = .ok (.iload_n 0, 1) := by decide +kernel
theorem d_Mo_bodiesOf_1 : decode M_Mo_bodiesOf.2.1 1 = .ok (.tableswitch 47 0 4 #[35, 37, 39, 41, 44], 35) := by decide +kernel
theorem d_Mo_bodiesOf_36 : decode M_Mo_bodiesOf.2.1 36 = .ok (.iconst 1, 1) := by decide +kernel
theorem d_Mo_bodiesOf_37 : decode M_Mo_bodiesOf.2.1 37 = .ok (.ireturn, 1) := by decide +kernel
theorem d_Mo_bodiesOf_38 : decode M_Mo_bodiesOf.2.1 38 = .ok (.iconst 3, 1) := by decide +kernel
theorem d_Mo_bodiesOf_39 : decode M_Mo_bodiesOf.2.1 39 = .ok (.ireturn, 1) := by decide +kernel
theorem d_Mo_bodiesOf_40 : decode M_Mo_bodiesOf.2.1 40 = .ok (.iconst 5, 1) := by decide +kernel
theorem d_Mo_bodiesOf_41 : decode M_Mo_bodiesOf.2.1 41 = .ok (.ireturn, 1) := by decide +kernel
theorem d_Mo_bodiesOf_42 : decode M_Mo_bodiesOf.2.1 42 = .ok (.bipush 11, 2) := by decide +kernel
theorem d_Mo_bodiesOf_44 : decode M_Mo_bodiesOf.2.1 44 = .ok (.ireturn, 1) := by decide +kernel
theorem d_Mo_bodiesOf_45 : decode M_Mo_bodiesOf.2.1 45 = .ok (.bipush 21, 2) := by decide +kernel
theorem d_Mo_bodiesOf_47 : decode M_Mo_bodiesOf.2.1 47 = .ok (.ireturn, 1) := by decide +kernel
theorem d_Mo_bodiesOf_48 : decode M_Mo_bodiesOf.2.1 48 = .ok (.bipush 33, 2) := by decide +kernel
theorem d_Mo_bodiesOf_50 : decode M_Mo_bodiesOf.2.1 50 = .ok (.ireturn, 1) := by decide +kernel
theorem d_Mo_mark_0 : decode M_Mo_mark.2.1 0 = .ok (.iload_n 1, 1) := by decide +kernel
theorem d_Mo_mark_1 : decode M_Mo_mark.2.1 1 = .ok (.iconst 0, 1) := by decide +kernel
theorem d_Mo_mark_2 : decode M_Mo_mark.2.1 2 = .ok (.iconst 5, 1) := by decide +kernel
theorem d_Mo_mark_3 : decode M_Mo_mark.2.1 3 = .ok (.invokestatic 78, 3) := by decide +kernel
theorem d_Mo_mark_6 : decode M_Mo_mark.2.1 6 = .ok (.ifCond .eq 11, 3) := by decide +kernel
theorem d_Mo_mark_9 : decode M_Mo_mark.2.1 9 = .ok (.aload_n 0, 1) := by decide +kernel
theorem d_Mo_mark_10 : decode M_Mo_mark.2.1 10 = .ok (.iload_n 2, 1) := by decide +kernel
theorem d_Mo_mark_11 : decode M_Mo_mark.2.1 11 = .ok (.invokevirtual 152, 3) := by decide +kernel
theorem d_Mo_mark_14 : decode M_Mo_mark.2.1 14 = .ok (.ifCond .ne 6, 3) := by decide +kernel
theorem d_Mo_mark_17 : decode M_Mo_mark.2.1 17 = .ok (.ldc 151, 2) := by decide +kernel
theorem d_Mo_mark_19 : decode M_Mo_mark.2.1 19 = .ok (.ireturn, 1) := by decide +kernel
theorem d_Mo_mark_20 : decode M_Mo_mark.2.1 20 = .ok (.iload_n 1, 1) := by decide +kernel
theorem d_Mo_mark_21 : decode M_Mo_mark.2.1 21 = .ok (.invokestatic 201, 3) := by decide +kernel
theorem d_Mo_mark_24 : decode M_Mo_mark.2.1 24 = .ok (.istore_n 3, 1) := by decide +kernel
theorem d_Mo_mark_25 : decode M_Mo_mark.2.1 25 = .ok (.lconst 1, 1) := by decide +kernel
theorem d_Mo_mark_26 : decode M_Mo_mark.2.1 26 = .ok (.lstore 4, 2) := by decide +kernel
theorem d_Mo_mark_28 : decode M_Mo_mark.2.1 28 = .ok (.iconst 0, 1) := by decide +kernel
theorem d_Mo_mark_29 : decode M_Mo_mark.2.1 29 = .ok (.istore 6, 2) := by decide +kernel
theorem d_Mo_mark_31 : decode M_Mo_mark.2.1 31 = .ok (.iload 6, 2) := by decide +kernel
theorem d_Mo_mark_33 : decode M_Mo_mark.2.1 33 = .ok (.bipush 6, 2) := by decide +kernel
theorem d_Mo_mark_35 : decode M_Mo_mark.2.1 35 = .ok (.if_icmp .ge 41, 3) := by decide +kernel
theorem d_Mo_mark_38 : decode M_Mo_mark.2.1 38 = .ok (.aload_n 0, 1) := by decide +kernel
theorem d_Mo_mark_39 : decode M_Mo_mark.2.1 39 = .ok (.dup, 1) := by decide +kernel
theorem d_Mo_mark_40 : decode M_Mo_mark.2.1 40 = .ok (.getfield 204, 3) := by decide +kernel
theorem d_Mo_mark_43 : decode M_Mo_mark.2.1 43 = .ok (.iload_n 3, 1) := by decide +kernel
theorem d_Mo_mark_44 : decode M_Mo_mark.2.1 44 = .ok (.iload 6, 2) := by decide +kernel
theorem d_Mo_mark_46 : decode M_Mo_mark.2.1 46 = .ok (.invokestatic 140, 3) := by decide +kernel
theorem d_Mo_mark_49 : decode M_Mo_mark.2.1 49 = .ok (.ifCond .eq 8, 3) := by decide +kernel
theorem d_Mo_mark_52 : decode M_Mo_mark.2.1 52 = .ok (.lload 4, 2) := by decide +kernel
theorem d_Mo_mark_54 : decode M_Mo_mark.2.1 54 = .ok (.goto 4, 3) := by decide +kernel
theorem d_Mo_mark_57 : decode M_Mo_mark.2.1 57 = .ok (.lconst 0, 1) := by decide +kernel
theorem d_Mo_mark_58 : decode M_Mo_mark.2.1 58 = .ok (.ladd, 1) := by decide +kernel
theorem d_Mo_mark_59 : decode M_Mo_mark.2.1 59 = .ok (.putfield 204, 3) := by decide +kernel
theorem d_Mo_mark_62 : decode M_Mo_mark.2.1 62 = .ok (.lload 4, 2) := by decide +kernel
theorem d_Mo_mark_64 : decode M_Mo_mark.2.1 64 = .ok (.ldc2_w 208, 3) := by decide +kernel
theorem d_Mo_mark_67 : decode M_Mo_mark.2.1 67 = .ok (.lmul, 1) := by decide +kernel
theorem d_Mo_mark_68 : decode M_Mo_mark.2.1 68 = .ok (.lstore 4, 2) := by decide +kernel
theorem d_Mo_mark_70 : decode M_Mo_mark.2.1 70 = .ok (.iinc 6 1, 3) := by decide +kernel
theorem d_Mo_mark_73 : decode M_Mo_mark.2.1 73 = .ok (.goto (-42), 3) := by decide +kernel
theorem d_Mo_mark_76 : decode M_Mo_mark.2.1 76 = .ok (.aload_n 0, 1) := by decide +kernel
theorem d_Mo_mark_77 : decode M_Mo_mark.2.1 77 = .ok (.getfield 20, 3) := by decide +kernel
theorem d_Mo_mark_80 : decode M_Mo_mark.2.1 80 = .ok (.iload_n 2, 1) := by decide +kernel
theorem d_Mo_mark_81 : decode M_Mo_mark.2.1 81 = .ok (.iaload, 1) := by decide +kernel
theorem d_Mo_mark_82 : decode M_Mo_mark.2.1 82 = .ok (.istore 6, 2) := by decide +kernel
theorem d_Mo_mark_84 : decode M_Mo_mark.2.1 84 = .ok (.iload 6, 2) := by decide +kernel
theorem d_Mo_mark_86 : decode M_Mo_mark.2.1 86 = .ok (.iload_n 3, 1) := by decide +kernel
theorem d_Mo_mark_87 : decode M_Mo_mark.2.1 87 = .ok (.iconst 1, 1) := by decide +kernel
theorem d_Mo_mark_88 : decode M_Mo_mark.2.1 88 = .ok (.invokestatic 140, 3) := by decide +kernel
theorem d_Mo_mark_91 : decode M_Mo_mark.2.1 91 = .ok (.ifCond .eq 18, 3) := by decide +kernel
theorem d_Mo_mark_94 : decode M_Mo_mark.2.1 94 = .ok (.aload_n 0, 1) := by decide +kernel
theorem d_Mo_mark_95 : decode M_Mo_mark.2.1 95 = .ok (.getfield 41, 3) := by decide +kernel
theorem d_Mo_mark_98 : decode M_Mo_mark.2.1 98 = .ok (.bipush 7, 2) := by decide +kernel
theorem d_Mo_mark_100 : decode M_Mo_mark.2.1 100 = .ok (.iload_n 2, 1) := by decide +kernel
theorem d_Mo_mark_101 : decode M_Mo_mark.2.1 101 = .ok (.iadd, 1) := by decide +kernel
theorem d_Mo_mark_102 : decode M_Mo_mark.2.1 102 = .ok (.iaload, 1) := by decide +kernel
theorem d_Mo_mark_103 : decode M_Mo_mark.2.1 103 = .ok (.invokestatic 181, 3) := by decide +kernel
theorem d_Mo_mark_106 : decode M_Mo_mark.2.1 106 = .ok (.goto 4, 3) := by decide +kernel
theorem d_Mo_mark_109 : decode M_Mo_mark.2.1 109 = .ok (.iconst 0, 1) := by decide +kernel
theorem d_Mo_mark_110 : decode M_Mo_mark.2.1 110 = .ok (.iadd, 1) := by decide +kernel
theorem d_Mo_mark_111 : decode M_Mo_mark.2.1 111 = .ok (.istore 6, 2) := by decide +kernel
theorem d_Mo_mark_113 : decode M_Mo_mark.2.1 113 = .ok (.iload 6, 2) := by decide +kernel
theorem d_Mo_mark_115 : decode M_Mo_mark.2.1 115 = .ok (.iload_n 3, 1) := by decide +kernel
theorem d_Mo_mark_116 : decode M_Mo_mark.2.1 116 = .ok (.iconst 2, 1) := by decide +kernel
theorem d_Mo_mark_117 : decode M_Mo_mark.2.1 117 = .ok (.invokestatic 140, 3) := by decide +kernel
theorem d_Mo_mark_120 : decode M_Mo_mark.2.1 120 = .ok (.ifCond .eq 14, 3) := by decide +kernel
theorem d_Mo_mark_123 : decode M_Mo_mark.2.1 123 = .ok (.aload_n 0, 1) := by decide +kernel
theorem d_Mo_mark_124 : decode M_Mo_mark.2.1 124 = .ok (.aload_n 0, 1) := by decide +kernel
theorem d_Mo_mark_125 : decode M_Mo_mark.2.1 125 = .ok (.getfield 41, 3) := by decide +kernel
theorem d_Mo_mark_128 : decode M_Mo_mark.2.1 128 = .ok (.invokevirtual 144, 3) := by decide +kernel
theorem d_Mo_mark_131 : decode M_Mo_mark.2.1 131 = .ok (.goto 4, 3) := by decide +kernel
theorem d_Mo_mark_134 : decode M_Mo_mark.2.1 134 = .ok (.iconst 0, 1) := by decide +kernel
theorem d_Mo_mark_135 : decode M_Mo_mark.2.1 135 = .ok (.isub, 1) := by decide +kernel
theorem d_Mo_mark_136 : decode M_Mo_mark.2.1 136 = .ok (.istore 6, 2) := by decide +kernel
theorem d_Mo_mark_138 : decode M_Mo_mark.2.1 138 = .ok (.iload_n 3, 1) := by decide +kernel
theorem d_Mo_mark_139 : decode M_Mo_mark.2.1 139 = .ok (.iconst 3, 1) := by decide +kernel
theorem d_Mo_mark_140 : decode M_Mo_mark.2.1 140 = .ok (.invokestatic 140, 3) := by decide +kernel
theorem d_Mo_mark_143 : decode M_Mo_mark.2.1 143 = .ok (.ifCond .eq 10, 3) := by decide +kernel
theorem d_Mo_mark_146 : decode M_Mo_mark.2.1 146 = .ok (.iconst 2, 1) := by decide +kernel
theorem d_Mo_mark_147 : decode M_Mo_mark.2.1 147 = .ok (.iload 6, 2) := by decide +kernel
theorem d_Mo_mark_149 : decode M_Mo_mark.2.1 149 = .ok (.imul, 1) := by decide +kernel
theorem d_Mo_mark_150 : decode M_Mo_mark.2.1 150 = .ok (.goto 5, 3) := by decide +kernel
theorem d_Mo_mark_153 : decode M_Mo_mark.2.1 153 = .ok (.iload 6, 2) := by decide +kernel
theorem d_Mo_mark_155 : decode M_Mo_mark.2.1 155 = .ok (.istore 6, 2) := by decide +kernel
theorem d_Mo_mark_157 : decode M_Mo_mark.2.1 157 = .ok (.iload 6, 2) := by decide +kernel
theorem d_Mo_mark_159 : decode M_Mo_mark.2.1 159 = .ok (.iload_n 3, 1) := by decide +kernel
theorem d_Mo_mark_160 : decode M_Mo_mark.2.1 160 = .ok (.iconst 4, 1) := by decide +kernel
theorem d_Mo_mark_161 : decode M_Mo_mark.2.1 161 = .ok (.invokestatic 140, 3) := by decide +kernel
theorem d_Mo_mark_164 : decode M_Mo_mark.2.1 164 = .ok (.ifCond .eq 7, 3) := by decide +kernel
theorem d_Mo_mark_167 : decode M_Mo_mark.2.1 167 = .ok (.iload_n 2, 1) := by decide +kernel
theorem d_Mo_mark_168 : decode M_Mo_mark.2.1 168 = .ok (.goto 4, 3) := by decide +kernel
theorem d_Mo_mark_171 : decode M_Mo_mark.2.1 171 = .ok (.iconst 0, 1) := by decide +kernel
theorem d_Mo_mark_172 : decode M_Mo_mark.2.1 172 = .ok (.iadd, 1) := by decide +kernel
theorem d_Mo_mark_173 : decode M_Mo_mark.2.1 173 = .ok (.istore 6, 2) := by decide +kernel
theorem d_Mo_mark_175 : decode M_Mo_mark.2.1 175 = .ok (.iload 6, 2) := by decide +kernel
theorem d_Mo_mark_177 : decode M_Mo_mark.2.1 177 = .ok (.iload_n 3, 1) := by decide +kernel
theorem d_Mo_mark_178 : decode M_Mo_mark.2.1 178 = .ok (.iconst 5, 1) := by decide +kernel
theorem d_Mo_mark_179 : decode M_Mo_mark.2.1 179 = .ok (.invokestatic 140, 3) := by decide +kernel
theorem d_Mo_mark_182 : decode M_Mo_mark.2.1 182 = .ok (.ifCond .eq 12, 3) := by decide +kernel
theorem d_Mo_mark_185 : decode M_Mo_mark.2.1 185 = .ok (.aload_n 0, 1) := by decide +kernel
theorem d_Mo_mark_186 : decode M_Mo_mark.2.1 186 = .ok (.getfield 41, 3) := by decide +kernel
theorem d_Mo_mark_189 : decode M_Mo_mark.2.1 189 = .ok (.iconst 2, 1) := by decide +kernel
theorem d_Mo_mark_190 : decode M_Mo_mark.2.1 190 = .ok (.iaload, 1) := by decide +kernel
theorem d_Mo_mark_191 : decode M_Mo_mark.2.1 191 = .ok (.goto 4, 3) := by decide +kernel
theorem d_Mo_mark_194 : decode M_Mo_mark.2.1 194 = .ok (.iconst 0, 1) := by decide +kernel
theorem d_Mo_mark_195 : decode M_Mo_mark.2.1 195 = .ok (.iadd, 1) := by decide +kernel
theorem d_Mo_mark_196 : decode M_Mo_mark.2.1 196 = .ok (.istore 6, 2) := by decide +kernel
theorem d_Mo_mark_198 : decode M_Mo_mark.2.1 198 = .ok (.iload 6, 2) := by decide +kernel
theorem d_Mo_mark_200 : decode M_Mo_mark.2.1 200 = .ok (.ireturn, 1) := by decide +kernel
theorem d_Mo_trace_0 : decode M_Mo_trace.2.1 0 = .ok (.aload_n 0, 1) := by decide +kernel
theorem d_Mo_trace_1 : decode M_Mo_trace.2.1 1 = .ok (.getfield 204, 3) := by decide +kernel
theorem d_Mo_trace_4 : decode M_Mo_trace.2.1 4 = .ok (.lreturn, 1) := by decide +kernel
theorem d_Mo_keep_0 : decode M_Mo_keep.2.1 0 = .ok (.iload_n 1, 1) := by decide +kernel
theorem d_Mo_keep_1 : decode M_Mo_keep.2.1 1 = .ok (.iconst 0, 1) := by decide +kernel
theorem d_Mo_keep_2 : decode M_Mo_keep.2.1 2 = .ok (.iconst 1, 1) := by decide +kernel
theorem d_Mo_keep_3 : decode M_Mo_keep.2.1 3 = .ok (.invokestatic 78, 3) := by decide +kernel
theorem d_Mo_keep_6 : decode M_Mo_keep.2.1 6 = .ok (.ifCond .ne 5, 3) := by decide +kernel
theorem d_Mo_keep_9 : decode M_Mo_keep.2.1 9 = .ok (.iconst (-1), 1) := by decide +kernel
theorem d_Mo_keep_10 : decode M_Mo_keep.2.1 10 = .ok (.ireturn, 1) := by decide +kernel
theorem d_Mo_keep_11 : decode M_Mo_keep.2.1 11 = .ok (.iconst 0, 1) := by decide +kernel
theorem d_Mo_keep_12 : decode M_Mo_keep.2.1 12 = .ok (.istore_n 2, 1) := by decide +kernel
theorem d_Mo_keep_13 : decode M_Mo_keep.2.1 13 = .ok (.iload_n 2, 1) := by decide +kernel
theorem d_Mo_keep_14 : decode M_Mo_keep.2.1 14 = .ok (.bipush 11, 2) := by decide +kernel
theorem d_Mo_keep_16 : decode M_Mo_keep.2.1 16 = .ok (.if_icmp .ge 26, 3) := by decide +kernel
theorem d_Mo_keep_19 : decode M_Mo_keep.2.1 19 = .ok (.aload_n 0, 1) := by decide +kernel
theorem d_Mo_keep_20 : decode M_Mo_keep.2.1 20 = .ok (.getfield 50, 3) := by decide +kernel
theorem d_Mo_keep_23 : decode M_Mo_keep.2.1 23 = .ok (.bipush 11, 2) := by decide +kernel
theorem d_Mo_keep_25 : decode M_Mo_keep.2.1 25 = .ok (.iload_n 1, 1) := by decide +kernel
theorem d_Mo_keep_26 : decode M_Mo_keep.2.1 26 = .ok (.imul, 1) := by decide +kernel
theorem d_Mo_keep_27 : decode M_Mo_keep.2.1 27 = .ok (.iload_n 2, 1) := by decide +kernel
theorem d_Mo_keep_28 : decode M_Mo_keep.2.1 28 = .ok (.iadd, 1) := by decide +kernel
theorem d_Mo_keep_29 : decode M_Mo_keep.2.1 29 = .ok (.aload_n 0, 1) := by decide +kernel
theorem d_Mo_keep_30 : decode M_Mo_keep.2.1 30 = .ok (.getfield 41, 3) := by decide +kernel
theorem d_Mo_keep_33 : decode M_Mo_keep.2.1 33 = .ok (.iload_n 2, 1) := by decide +kernel
theorem d_Mo_keep_34 : decode M_Mo_keep.2.1 34 = .ok (.iaload, 1) := by decide +kernel
theorem d_Mo_keep_35 : decode M_Mo_keep.2.1 35 = .ok (.iastore, 1) := by decide +kernel
theorem d_Mo_keep_36 : decode M_Mo_keep.2.1 36 = .ok (.iinc 2 1, 3) := by decide +kernel
theorem d_Mo_keep_39 : decode M_Mo_keep.2.1 39 = .ok (.goto (-26), 3) := by decide +kernel
theorem d_Mo_keep_42 : decode M_Mo_keep.2.1 42 = .ok (.iconst 0, 1) := by decide +kernel
theorem d_Mo_keep_43 : decode M_Mo_keep.2.1 43 = .ok (.istore_n 2, 1) := by decide +kernel
theorem d_Mo_keep_44 : decode M_Mo_keep.2.1 44 = .ok (.iload_n 2, 1) := by decide +kernel
theorem d_Mo_keep_45 : decode M_Mo_keep.2.1 45 = .ok (.bipush 110, 2) := by decide +kernel
theorem d_Mo_keep_47 : decode M_Mo_keep.2.1 47 = .ok (.if_icmp .ge 28, 3) := by decide +kernel
theorem d_Mo_keep_50 : decode M_Mo_keep.2.1 50 = .ok (.aload_n 0, 1) := by decide +kernel
theorem d_Mo_keep_51 : decode M_Mo_keep.2.1 51 = .ok (.getfield 47, 3) := by decide +kernel
theorem d_Mo_keep_54 : decode M_Mo_keep.2.1 54 = .ok (.bipush 110, 2) := by decide +kernel
theorem d_Mo_keep_56 : decode M_Mo_keep.2.1 56 = .ok (.iconst 1, 1) := by decide +kernel
theorem d_Mo_keep_57 : decode M_Mo_keep.2.1 57 = .ok (.iload_n 1, 1) := by decide +kernel
theorem d_Mo_keep_58 : decode M_Mo_keep.2.1 58 = .ok (.iadd, 1) := by decide +kernel
theorem d_Mo_keep_59 : decode M_Mo_keep.2.1 59 = .ok (.imul, 1) := by decide +kernel
theorem d_Mo_keep_60 : decode M_Mo_keep.2.1 60 = .ok (.iload_n 2, 1) := by decide +kernel
theorem d_Mo_keep_61 : decode M_Mo_keep.2.1 61 = .ok (.iadd, 1) := by decide +kernel
theorem d_Mo_keep_62 : decode M_Mo_keep.2.1 62 = .ok (.aload_n 0, 1) := by decide +kernel
theorem d_Mo_keep_63 : decode M_Mo_keep.2.1 63 = .ok (.getfield 47, 3) := by decide +kernel
theorem d_Mo_keep_66 : decode M_Mo_keep.2.1 66 = .ok (.iload_n 2, 1) := by decide +kernel
theorem d_Mo_keep_67 : decode M_Mo_keep.2.1 67 = .ok (.iaload, 1) := by decide +kernel
theorem d_Mo_keep_68 : decode M_Mo_keep.2.1 68 = .ok (.iastore, 1) := by decide +kernel
theorem d_Mo_keep_69 : decode M_Mo_keep.2.1 69 = .ok (.iinc 2 1, 3) := by decide +kernel
theorem d_Mo_keep_72 : decode M_Mo_keep.2.1 72 = .ok (.goto (-28), 3) := by decide +kernel
theorem d_Mo_keep_75 : decode M_Mo_keep.2.1 75 = .ok (.aload_n 0, 1) := by decide +kernel
theorem d_Mo_keep_76 : decode M_Mo_keep.2.1 76 = .ok (.getfield 44, 3) := by decide +kernel
theorem d_Mo_keep_79 : decode M_Mo_keep.2.1 79 = .ok (.iconst 1, 1) := by decide +kernel
theorem d_Mo_keep_80 : decode M_Mo_keep.2.1 80 = .ok (.iload_n 1, 1) := by decide +kernel
theorem d_Mo_keep_81 : decode M_Mo_keep.2.1 81 = .ok (.iadd, 1) := by decide +kernel
theorem d_Mo_keep_82 : decode M_Mo_keep.2.1 82 = .ok (.aload_n 0, 1) := by decide +kernel
theorem d_Mo_keep_83 : decode M_Mo_keep.2.1 83 = .ok (.getfield 44, 3) := by decide +kernel
theorem d_Mo_keep_86 : decode M_Mo_keep.2.1 86 = .ok (.iconst 0, 1) := by decide +kernel
theorem d_Mo_keep_87 : decode M_Mo_keep.2.1 87 = .ok (.iaload, 1) := by decide +kernel
theorem d_Mo_keep_88 : decode M_Mo_keep.2.1 88 = .ok (.iastore, 1) := by decide +kernel
theorem d_Mo_keep_89 : decode M_Mo_keep.2.1 89 = .ok (.aload_n 0, 1) := by decide +kernel
theorem d_Mo_keep_90 : decode M_Mo_keep.2.1 90 = .ok (.getfield 53, 3) := by decide +kernel
theorem d_Mo_keep_93 : decode M_Mo_keep.2.1 93 = .ok (.iload_n 1, 1) := by decide +kernel
theorem d_Mo_keep_94 : decode M_Mo_keep.2.1 94 = .ok (.iconst 1, 1) := by decide +kernel
theorem d_Mo_keep_95 : decode M_Mo_keep.2.1 95 = .ok (.bastore, 1) := by decide +kernel
theorem d_Mo_keep_96 : decode M_Mo_keep.2.1 96 = .ok (.aload_n 0, 1) := by decide +kernel
theorem d_Mo_keep_97 : decode M_Mo_keep.2.1 97 = .ok (.getfield 41, 3) := by decide +kernel
theorem d_Mo_keep_100 : decode M_Mo_keep.2.1 100 = .ok (.iconst 0, 1) := by decide +kernel
theorem d_Mo_keep_101 : decode M_Mo_keep.2.1 101 = .ok (.iaload, 1) := by decide +kernel
theorem d_Mo_keep_102 : decode M_Mo_keep.2.1 102 = .ok (.ireturn, 1) := by decide +kernel
theorem d_Mo_back_0 : decode M_Mo_back.2.1 0 = .ok (.iload_n 1, 1) := by decide +kernel
theorem d_Mo_back_1 : decode M_Mo_back.2.1 1 = .ok (.iconst 0, 1) := by decide +kernel
theorem d_Mo_back_2 : decode M_Mo_back.2.1 2 = .ok (.iconst 1, 1) := by decide +kernel
theorem d_Mo_back_3 : decode M_Mo_back.2.1 3 = .ok (.invokestatic 78, 3) := by decide +kernel
theorem d_Mo_back_6 : decode M_Mo_back.2.1 6 = .ok (.ifCond .ne 5, 3) := by decide +kernel
theorem d_Mo_back_9 : decode M_Mo_back.2.1 9 = .ok (.iconst (-1), 1) := by decide +kernel
theorem d_Mo_back_10 : decode M_Mo_back.2.1 10 = .ok (.ireturn, 1) := by decide +kernel
theorem d_Mo_back_11 : decode M_Mo_back.2.1 11 = .ok (.aload_n 0, 1) := by decide +kernel
theorem d_Mo_back_12 : decode M_Mo_back.2.1 12 = .ok (.getfield 53, 3) := by decide +kernel
theorem d_Mo_back_15 : decode M_Mo_back.2.1 15 = .ok (.iload_n 1, 1) := by decide +kernel
theorem d_Mo_back_16 : decode M_Mo_back.2.1 16 = .ok (.baload, 1) := by decide +kernel
theorem d_Mo_back_17 : decode M_Mo_back.2.1 17 = .ok (.ifCond .ne 6, 3) := by decide +kernel
theorem d_Mo_back_20 : decode M_Mo_back.2.1 20 = .ok (.bipush (-2), 2) := by decide +kernel
theorem d_Mo_back_22 : decode M_Mo_back.2.1 22 = .ok (.ireturn, 1) := by decide +kernel
theorem d_Mo_back_23 : decode M_Mo_back.2.1 23 = .ok (.iconst 0, 1) := by decide +kernel
theorem d_Mo_back_24 : decode M_Mo_back.2.1 24 = .ok (.istore_n 2, 1) := by decide +kernel
theorem d_Mo_back_25 : decode M_Mo_back.2.1 25 = .ok (.iload_n 2, 1) := by decide +kernel
theorem d_Mo_back_26 : decode M_Mo_back.2.1 26 = .ok (.bipush 11, 2) := by decide +kernel
theorem d_Mo_back_28 : decode M_Mo_back.2.1 28 = .ok (.if_icmp .ge 26, 3) := by decide +kernel
theorem d_Mo_back_31 : decode M_Mo_back.2.1 31 = .ok (.aload_n 0, 1) := by decide +kernel
theorem d_Mo_back_32 : decode M_Mo_back.2.1 32 = .ok (.getfield 41, 3) := by decide +kernel
theorem d_Mo_back_35 : decode M_Mo_back.2.1 35 = .ok (.iload_n 2, 1) := by decide +kernel
theorem d_Mo_back_36 : decode M_Mo_back.2.1 36 = .ok (.aload_n 0, 1) := by decide +kernel
theorem d_Mo_back_37 : decode M_Mo_back.2.1 37 = .ok (.getfield 50, 3) := by decide +kernel
theorem d_Mo_back_40 : decode M_Mo_back.2.1 40 = .ok (.bipush 11, 2) := by decide +kernel
theorem d_Mo_back_42 : decode M_Mo_back.2.1 42 = .ok (.iload_n 1, 1) := by decide +kernel
theorem d_Mo_back_43 : decode M_Mo_back.2.1 43 = .ok (.imul, 1) := by decide +kernel
theorem d_Mo_back_44 : decode M_Mo_back.2.1 44 = .ok (.iload_n 2, 1) := by decide +kernel
theorem d_Mo_back_45 : decode M_Mo_back.2.1 45 = .ok (.iadd, 1) := by decide +kernel
theorem d_Mo_back_46 : decode M_Mo_back.2.1 46 = .ok (.iaload, 1) := by decide +kernel
theorem d_Mo_back_47 : decode M_Mo_back.2.1 47 = .ok (.iastore, 1) := by decide +kernel
theorem d_Mo_back_48 : decode M_Mo_back.2.1 48 = .ok (.iinc 2 1, 3) := by decide +kernel
theorem d_Mo_back_51 : decode M_Mo_back.2.1 51 = .ok (.goto (-26), 3) := by decide +kernel
theorem d_Mo_back_54 : decode M_Mo_back.2.1 54 = .ok (.iconst 0, 1) := by decide +kernel
theorem d_Mo_back_55 : decode M_Mo_back.2.1 55 = .ok (.istore_n 2, 1) := by decide +kernel
theorem d_Mo_back_56 : decode M_Mo_back.2.1 56 = .ok (.iload_n 2, 1) := by decide +kernel
theorem d_Mo_back_57 : decode M_Mo_back.2.1 57 = .ok (.bipush 110, 2) := by decide +kernel
theorem d_Mo_back_59 : decode M_Mo_back.2.1 59 = .ok (.if_icmp .ge 28, 3) := by decide +kernel
theorem d_Mo_back_62 : decode M_Mo_back.2.1 62 = .ok (.aload_n 0, 1) := by decide +kernel
theorem d_Mo_back_63 : decode M_Mo_back.2.1 63 = .ok (.getfield 47, 3) := by decide +kernel
theorem d_Mo_back_66 : decode M_Mo_back.2.1 66 = .ok (.iload_n 2, 1) := by decide +kernel
theorem d_Mo_back_67 : decode M_Mo_back.2.1 67 = .ok (.aload_n 0, 1) := by decide +kernel
theorem d_Mo_back_68 : decode M_Mo_back.2.1 68 = .ok (.getfield 47, 3) := by decide +kernel
theorem d_Mo_back_71 : decode M_Mo_back.2.1 71 = .ok (.bipush 110, 2) := by decide +kernel
theorem d_Mo_back_73 : decode M_Mo_back.2.1 73 = .ok (.iconst 1, 1) := by decide +kernel
theorem d_Mo_back_74 : decode M_Mo_back.2.1 74 = .ok (.iload_n 1, 1) := by decide +kernel
theorem d_Mo_back_75 : decode M_Mo_back.2.1 75 = .ok (.iadd, 1) := by decide +kernel
theorem d_Mo_back_76 : decode M_Mo_back.2.1 76 = .ok (.imul, 1) := by decide +kernel
theorem d_Mo_back_77 : decode M_Mo_back.2.1 77 = .ok (.iload_n 2, 1) := by decide +kernel
theorem d_Mo_back_78 : decode M_Mo_back.2.1 78 = .ok (.iadd, 1) := by decide +kernel
theorem d_Mo_back_79 : decode M_Mo_back.2.1 79 = .ok (.iaload, 1) := by decide +kernel
theorem d_Mo_back_80 : decode M_Mo_back.2.1 80 = .ok (.iastore, 1) := by decide +kernel
theorem d_Mo_back_81 : decode M_Mo_back.2.1 81 = .ok (.iinc 2 1, 3) := by decide +kernel
theorem d_Mo_back_84 : decode M_Mo_back.2.1 84 = .ok (.goto (-28), 3) := by decide +kernel
theorem d_Mo_back_87 : decode M_Mo_back.2.1 87 = .ok (.aload_n 0, 1) := by decide +kernel
theorem d_Mo_back_88 : decode M_Mo_back.2.1 88 = .ok (.getfield 44, 3) := by decide +kernel
theorem d_Mo_back_91 : decode M_Mo_back.2.1 91 = .ok (.iconst 0, 1) := by decide +kernel
theorem d_Mo_back_92 : decode M_Mo_back.2.1 92 = .ok (.aload_n 0, 1) := by decide +kernel
theorem d_Mo_back_93 : decode M_Mo_back.2.1 93 = .ok (.getfield 44, 3) := by decide +kernel
theorem d_Mo_back_96 : decode M_Mo_back.2.1 96 = .ok (.iconst 1, 1) := by decide +kernel
theorem d_Mo_back_97 : decode M_Mo_back.2.1 97 = .ok (.iload_n 1, 1) := by decide +kernel
theorem d_Mo_back_98 : decode M_Mo_back.2.1 98 = .ok (.iadd, 1) := by decide +kernel
theorem d_Mo_back_99 : decode M_Mo_back.2.1 99 = .ok (.iaload, 1) := by decide +kernel
theorem d_Mo_back_100 : decode M_Mo_back.2.1 100 = .ok (.iastore, 1) := by decide +kernel
theorem d_Mo_back_101 : decode M_Mo_back.2.1 101 = .ok (.aload_n 0, 1) := by decide +kernel
theorem d_Mo_back_102 : decode M_Mo_back.2.1 102 = .ok (.getfield 41, 3) := by decide +kernel
theorem d_Mo_back_105 : decode M_Mo_back.2.1 105 = .ok (.iconst 0, 1) := by decide +kernel
theorem d_Mo_back_106 : decode M_Mo_back.2.1 106 = .ok (.iaload, 1) := by decide +kernel
theorem d_Mo_back_107 : decode M_Mo_back.2.1 107 = .ok (.ireturn, 1) := by decide +kernel
theorem d_Mo_count_0 : decode M_Mo_count.2.1 0 = .ok (.iload_n 1, 1) := by decide +kernel
theorem d_Mo_count_1 : decode M_Mo_count.2.1 1 = .ok (.tableswitch 86 0 6 #[43, 50, 57, 64, 69, 74, 81], 43) := by decide +kernel
theorem d_Mo_count_44 : decode M_Mo_count.2.1 44 = .ok (.aload_n 0, 1) := by decide +kernel
theorem d_Mo_count_45 : decode M_Mo_count.2.1 45 = .ok (.getfield 17, 3) := by decide +kernel
theorem d_Mo_count_48 : decode M_Mo_count.2.1 48 = .ok (.iconst 0, 1) := by decide +kernel
theorem d_Mo_count_49 : decode M_Mo_count.2.1 49 = .ok (.iaload, 1) := by decide +kernel
theorem d_Mo_count_50 : decode M_Mo_count.2.1 50 = .ok (.ireturn, 1) := by decide +kernel
theorem d_Mo_count_51 : decode M_Mo_count.2.1 51 = .ok (.aload_n 0, 1) := by decide +kernel
theorem d_Mo_count_52 : decode M_Mo_count.2.1 52 = .ok (.getfield 29, 3) := by decide +kernel
theorem d_Mo_count_55 : decode M_Mo_count.2.1 55 = .ok (.iconst 0, 1) := by decide +kernel
theorem d_Mo_count_56 : decode M_Mo_count.2.1 56 = .ok (.iaload, 1) := by decide +kernel
theorem d_Mo_count_57 : decode M_Mo_count.2.1 57 = .ok (.ireturn, 1) := by decide +kernel
theorem d_Mo_count_58 : decode M_Mo_count.2.1 58 = .ok (.aload_n 0, 1) := by decide +kernel
theorem d_Mo_count_59 : decode M_Mo_count.2.1 59 = .ok (.getfield 38, 3) := by decide +kernel
theorem d_Mo_count_62 : decode M_Mo_count.2.1 62 = .ok (.iconst 0, 1) := by decide +kernel
theorem d_Mo_count_63 : decode M_Mo_count.2.1 63 = .ok (.iaload, 1) := by decide +kernel
theorem d_Mo_count_64 : decode M_Mo_count.2.1 64 = .ok (.ireturn, 1) := by decide +kernel
theorem d_Mo_count_65 : decode M_Mo_count.2.1 65 = .ok (.aload_n 0, 1) := by decide +kernel
theorem d_Mo_count_66 : decode M_Mo_count.2.1 66 = .ok (.getfield 134, 3) := by decide +kernel
theorem d_Mo_count_69 : decode M_Mo_count.2.1 69 = .ok (.ireturn, 1) := by decide +kernel
theorem d_Mo_count_70 : decode M_Mo_count.2.1 70 = .ok (.aload_n 0, 1) := by decide +kernel
theorem d_Mo_count_71 : decode M_Mo_count.2.1 71 = .ok (.getfield 137, 3) := by decide +kernel
theorem d_Mo_count_74 : decode M_Mo_count.2.1 74 = .ok (.ireturn, 1) := by decide +kernel
theorem d_Mo_count_75 : decode M_Mo_count.2.1 75 = .ok (.aload_n 0, 1) := by decide +kernel
theorem d_Mo_count_76 : decode M_Mo_count.2.1 76 = .ok (.getfield 44, 3) := by decide +kernel
theorem d_Mo_count_79 : decode M_Mo_count.2.1 79 = .ok (.iconst 0, 1) := by decide +kernel
theorem d_Mo_count_80 : decode M_Mo_count.2.1 80 = .ok (.iaload, 1) := by decide +kernel
theorem d_Mo_count_81 : decode M_Mo_count.2.1 81 = .ok (.ireturn, 1) := by decide +kernel
theorem d_Mo_count_82 : decode M_Mo_count.2.1 82 = .ok (.aload_n 0, 1) := by decide +kernel
theorem d_Mo_count_83 : decode M_Mo_count.2.1 83 = .ok (.getfield 82, 3) := by decide +kernel
theorem d_Mo_count_86 : decode M_Mo_count.2.1 86 = .ok (.ireturn, 1) := by decide +kernel
theorem d_Mo_count_87 : decode M_Mo_count.2.1 87 = .ok (.iconst (-1), 1) := by decide +kernel
theorem d_Mo_count_88 : decode M_Mo_count.2.1 88 = .ok (.ireturn, 1) := by decide +kernel
end
section
theorem d_La_law_0 : decode M_La_law.2.1 0 = .ok (.new 7, 3) := by decide +kernel
theorem d_La_law_3 : decode M_La_law.2.1 3 = .ok (.dup, 1) := by decide +kernel
theorem d_La_law_4 : decode M_La_law.2.1 4 = .ok (.invokespecial 9, 3) := by decide +kernel
theorem d_La_law_7 : decode M_La_law.2.1 7 = .ok (.astore_n 1, 1) := by decide +kernel
theorem d_La_law_8 : decode M_La_law.2.1 8 = .ok (.new 10, 3) := by decide +kernel
theorem d_La_law_11 : decode M_La_law.2.1 11 = .ok (.dup, 1) := by decide +kernel
theorem d_La_law_12 : decode M_La_law.2.1 12 = .ok (.invokespecial 12, 3) := by decide +kernel
theorem d_La_law_15 : decode M_La_law.2.1 15 = .ok (.astore_n 2, 1) := by decide +kernel
theorem d_La_law_16 : decode M_La_law.2.1 16 = .ok (.iconst 0, 1) := by decide +kernel
theorem d_La_law_17 : decode M_La_law.2.1 17 = .ok (.istore_n 3, 1) := by decide +kernel
theorem d_La_law_18 : decode M_La_law.2.1 18 = .ok (.iload_n 3, 1) := by decide +kernel
theorem d_La_law_19 : decode M_La_law.2.1 19 = .ok (.aload_n 0, 1) := by decide +kernel
theorem d_La_law_20 : decode M_La_law.2.1 20 = .ok (.arraylength, 1) := by decide +kernel
theorem d_La_law_21 : decode M_La_law.2.1 21 = .ok (.bipush 6, 2) := by decide +kernel
theorem d_La_law_23 : decode M_La_law.2.1 23 = .ok (.isub, 1) := by decide +kernel
theorem d_La_law_24 : decode M_La_law.2.1 24 = .ok (.if_icmp .gt 867, 3) := by decide +kernel
theorem d_La_law_27 : decode M_La_law.2.1 27 = .ok (.aload_n 0, 1) := by decide +kernel
theorem d_La_law_28 : decode M_La_law.2.1 28 = .ok (.iload_n 3, 1) := by decide +kernel
theorem d_La_law_29 : decode M_La_law.2.1 29 = .ok (.iaload, 1) := by decide +kernel
theorem d_La_law_30 : decode M_La_law.2.1 30 = .ok (.bipush 31, 2) := by decide +kernel
theorem d_La_law_32 : decode M_La_law.2.1 32 = .ok (.iand, 1) := by decide +kernel
theorem d_La_law_33 : decode M_La_law.2.1 33 = .ok (.tableswitch 852 0 27 #[127, 150, 163, 176, 199, 232, 265, 298, 321, 344, 367, 380, 403, 436, 449, 492, 515, 578, 621, 644, 667, 700, 723, 736, 769, 792, 815, 838], 127) := by decide +kernel
theorem d_La_law_160 : decode M_La_law.2.1 160 = .ok (.aload_n 1, 1) := by decide +kernel
theorem d_La_law_161 : decode M_La_law.2.1 161 = .ok (.aload_n 0, 1) := by decide +kernel
theorem d_La_law_162 : decode M_La_law.2.1 162 = .ok (.iload_n 3, 1) := by decide +kernel
theorem d_La_law_163 : decode M_La_law.2.1 163 = .ok (.iconst 1, 1) := by decide +kernel
theorem d_La_law_164 : decode M_La_law.2.1 164 = .ok (.iadd, 1) := by decide +kernel
theorem d_La_law_165 : decode M_La_law.2.1 165 = .ok (.iaload, 1) := by decide +kernel
theorem d_La_law_166 : decode M_La_law.2.1 166 = .ok (.invokevirtual 13, 3) := by decide +kernel
theorem d_La_law_169 : decode M_La_law.2.1 169 = .ok (.aload_n 2, 1) := by decide +kernel
theorem d_La_law_170 : decode M_La_law.2.1 170 = .ok (.aload_n 0, 1) := by decide +kernel
theorem d_La_law_171 : decode M_La_law.2.1 171 = .ok (.iload_n 3, 1) := by decide +kernel
theorem d_La_law_172 : decode M_La_law.2.1 172 = .ok (.iconst 1, 1) := by decide +kernel
theorem d_La_law_173 : decode M_La_law.2.1 173 = .ok (.iadd, 1) := by decide +kernel
theorem d_La_law_174 : decode M_La_law.2.1 174 = .ok (.iaload, 1) := by decide +kernel
theorem d_La_law_175 : decode M_La_law.2.1 175 = .ok (.invokevirtual 17, 3) := by decide +kernel
theorem d_La_law_178 : decode M_La_law.2.1 178 = .ok (.if_icmp .eq 707, 3) := by decide +kernel
theorem d_La_law_181 : decode M_La_law.2.1 181 = .ok (.iconst 0, 1) := by decide +kernel
theorem d_La_law_182 : decode M_La_law.2.1 182 = .ok (.ireturn, 1) := by decide +kernel
theorem d_La_law_183 : decode M_La_law.2.1 183 = .ok (.aload_n 1, 1) := by decide +kernel
theorem d_La_law_184 : decode M_La_law.2.1 184 = .ok (.invokevirtual 18, 3) := by decide +kernel
theorem d_La_law_187 : decode M_La_law.2.1 187 = .ok (.aload_n 2, 1) := by decide +kernel
theorem d_La_law_188 : decode M_La_law.2.1 188 = .ok (.invokevirtual 22, 3) := by decide +kernel
theorem d_La_law_191 : decode M_La_law.2.1 191 = .ok (.if_icmp .eq 694, 3) := by decide +kernel
theorem d_La_law_194 : decode M_La_law.2.1 194 = .ok (.iconst 0, 1) := by decide +kernel
theorem d_La_law_195 : decode M_La_law.2.1 195 = .ok (.ireturn, 1) := by decide +kernel
theorem d_La_law_196 : decode M_La_law.2.1 196 = .ok (.aload_n 1, 1) := by decide +kernel
theorem d_La_law_197 : decode M_La_law.2.1 197 = .ok (.invokevirtual 23, 3) := by decide +kernel
theorem d_La_law_200 : decode M_La_law.2.1 200 = .ok (.aload_n 2, 1) := by decide +kernel
theorem d_La_law_201 : decode M_La_law.2.1 201 = .ok (.invokevirtual 26, 3) := by decide +kernel
theorem d_La_law_204 : decode M_La_law.2.1 204 = .ok (.if_icmp .eq 681, 3) := by decide +kernel
theorem d_La_law_207 : decode M_La_law.2.1 207 = .ok (.iconst 0, 1) := by decide +kernel
theorem d_La_law_208 : decode M_La_law.2.1 208 = .ok (.ireturn, 1) := by decide +kernel
theorem d_La_law_209 : decode M_La_law.2.1 209 = .ok (.aload_n 1, 1) := by decide +kernel
theorem d_La_law_210 : decode M_La_law.2.1 210 = .ok (.aload_n 0, 1) := by decide +kernel
theorem d_La_law_211 : decode M_La_law.2.1 211 = .ok (.iload_n 3, 1) := by decide +kernel
theorem d_La_law_212 : decode M_La_law.2.1 212 = .ok (.iconst 1, 1) := by decide +kernel
theorem d_La_law_213 : decode M_La_law.2.1 213 = .ok (.iadd, 1) := by decide +kernel
theorem d_La_law_214 : decode M_La_law.2.1 214 = .ok (.iaload, 1) := by decide +kernel
theorem d_La_law_215 : decode M_La_law.2.1 215 = .ok (.invokevirtual 27, 3) := by decide +kernel
theorem d_La_law_218 : decode M_La_law.2.1 218 = .ok (.aload_n 2, 1) := by decide +kernel
theorem d_La_law_219 : decode M_La_law.2.1 219 = .ok (.aload_n 0, 1) := by decide +kernel
theorem d_La_law_220 : decode M_La_law.2.1 220 = .ok (.iload_n 3, 1) := by decide +kernel
theorem d_La_law_221 : decode M_La_law.2.1 221 = .ok (.iconst 1, 1) := by decide +kernel
theorem d_La_law_222 : decode M_La_law.2.1 222 = .ok (.iadd, 1) := by decide +kernel
theorem d_La_law_223 : decode M_La_law.2.1 223 = .ok (.iaload, 1) := by decide +kernel
theorem d_La_law_224 : decode M_La_law.2.1 224 = .ok (.invokevirtual 30, 3) := by decide +kernel
theorem d_La_law_227 : decode M_La_law.2.1 227 = .ok (.if_icmp .eq 658, 3) := by decide +kernel
theorem d_La_law_230 : decode M_La_law.2.1 230 = .ok (.iconst 0, 1) := by decide +kernel
theorem d_La_law_231 : decode M_La_law.2.1 231 = .ok (.ireturn, 1) := by decide +kernel
theorem d_La_law_232 : decode M_La_law.2.1 232 = .ok (.aload_n 1, 1) := by decide +kernel
theorem d_La_law_233 : decode M_La_law.2.1 233 = .ok (.aload_n 0, 1) := by decide +kernel
theorem d_La_law_234 : decode M_La_law.2.1 234 = .ok (.iload_n 3, 1) := by decide +kernel
theorem d_La_law_235 : decode M_La_law.2.1 235 = .ok (.iconst 1, 1) := by decide +kernel
theorem d_La_law_236 : decode M_La_law.2.1 236 = .ok (.iadd, 1) := by decide +kernel
theorem d_La_law_237 : decode M_La_law.2.1 237 = .ok (.iaload, 1) := by decide +kernel
theorem d_La_law_238 : decode M_La_law.2.1 238 = .ok (.aload_n 0, 1) := by decide +kernel
theorem d_La_law_239 : decode M_La_law.2.1 239 = .ok (.iload_n 3, 1) := by decide +kernel
theorem d_La_law_240 : decode M_La_law.2.1 240 = .ok (.iconst 2, 1) := by decide +kernel
theorem d_La_law_241 : decode M_La_law.2.1 241 = .ok (.iadd, 1) := by decide +kernel
theorem d_La_law_242 : decode M_La_law.2.1 242 = .ok (.iaload, 1) := by decide +kernel
theorem d_La_law_243 : decode M_La_law.2.1 243 = .ok (.invokevirtual 31, 3) := by decide +kernel
theorem d_La_law_246 : decode M_La_law.2.1 246 = .ok (.aload_n 2, 1) := by decide +kernel
theorem d_La_law_247 : decode M_La_law.2.1 247 = .ok (.aload_n 0, 1) := by decide +kernel
theorem d_La_law_248 : decode M_La_law.2.1 248 = .ok (.iload_n 3, 1) := by decide +kernel
theorem d_La_law_249 : decode M_La_law.2.1 249 = .ok (.iconst 1, 1) := by decide +kernel
theorem d_La_law_250 : decode M_La_law.2.1 250 = .ok (.iadd, 1) := by decide +kernel
theorem d_La_law_251 : decode M_La_law.2.1 251 = .ok (.iaload, 1) := by decide +kernel
theorem d_La_law_252 : decode M_La_law.2.1 252 = .ok (.aload_n 0, 1) := by decide +kernel
theorem d_La_law_253 : decode M_La_law.2.1 253 = .ok (.iload_n 3, 1) := by decide +kernel
theorem d_La_law_254 : decode M_La_law.2.1 254 = .ok (.iconst 2, 1) := by decide +kernel
theorem d_La_law_255 : decode M_La_law.2.1 255 = .ok (.iadd, 1) := by decide +kernel
theorem d_La_law_256 : decode M_La_law.2.1 256 = .ok (.iaload, 1) := by decide +kernel
theorem d_La_law_257 : decode M_La_law.2.1 257 = .ok (.invokevirtual 35, 3) := by decide +kernel
theorem d_La_law_260 : decode M_La_law.2.1 260 = .ok (.if_icmp .eq 625, 3) := by decide +kernel
theorem d_La_law_263 : decode M_La_law.2.1 263 = .ok (.iconst 0, 1) := by decide +kernel
theorem d_La_law_264 : decode M_La_law.2.1 264 = .ok (.ireturn, 1) := by decide +kernel
theorem d_La_law_265 : decode M_La_law.2.1 265 = .ok (.aload_n 1, 1) := by decide +kernel
theorem d_La_law_266 : decode M_La_law.2.1 266 = .ok (.aload_n 0, 1) := by decide +kernel
theorem d_La_law_267 : decode M_La_law.2.1 267 = .ok (.iload_n 3, 1) := by decide +kernel
theorem d_La_law_268 : decode M_La_law.2.1 268 = .ok (.iconst 1, 1) := by decide +kernel
theorem d_La_law_269 : decode M_La_law.2.1 269 = .ok (.iadd, 1) := by decide +kernel
theorem d_La_law_270 : decode M_La_law.2.1 270 = .ok (.iaload, 1) := by decide +kernel
theorem d_La_law_271 : decode M_La_law.2.1 271 = .ok (.aload_n 0, 1) := by decide +kernel
theorem d_La_law_272 : decode M_La_law.2.1 272 = .ok (.iload_n 3, 1) := by decide +kernel
theorem d_La_law_273 : decode M_La_law.2.1 273 = .ok (.iconst 2, 1) := by decide +kernel
theorem d_La_law_274 : decode M_La_law.2.1 274 = .ok (.iadd, 1) := by decide +kernel
theorem d_La_law_275 : decode M_La_law.2.1 275 = .ok (.iaload, 1) := by decide +kernel
theorem d_La_law_276 : decode M_La_law.2.1 276 = .ok (.invokevirtual 36, 3) := by decide +kernel
theorem d_La_law_279 : decode M_La_law.2.1 279 = .ok (.aload_n 2, 1) := by decide +kernel
theorem d_La_law_280 : decode M_La_law.2.1 280 = .ok (.aload_n 0, 1) := by decide +kernel
theorem d_La_law_281 : decode M_La_law.2.1 281 = .ok (.iload_n 3, 1) := by decide +kernel
theorem d_La_law_282 : decode M_La_law.2.1 282 = .ok (.iconst 1, 1) := by decide +kernel
theorem d_La_law_283 : decode M_La_law.2.1 283 = .ok (.iadd, 1) := by decide +kernel
theorem d_La_law_284 : decode M_La_law.2.1 284 = .ok (.iaload, 1) := by decide +kernel
theorem d_La_law_285 : decode M_La_law.2.1 285 = .ok (.aload_n 0, 1) := by decide +kernel
theorem d_La_law_286 : decode M_La_law.2.1 286 = .ok (.iload_n 3, 1) := by decide +kernel
theorem d_La_law_287 : decode M_La_law.2.1 287 = .ok (.iconst 2, 1) := by decide +kernel
theorem d_La_law_288 : decode M_La_law.2.1 288 = .ok (.iadd, 1) := by decide +kernel
theorem d_La_law_289 : decode M_La_law.2.1 289 = .ok (.iaload, 1) := by decide +kernel
theorem d_La_law_290 : decode M_La_law.2.1 290 = .ok (.invokevirtual 39, 3) := by decide +kernel
theorem d_La_law_293 : decode M_La_law.2.1 293 = .ok (.if_icmp .eq 592, 3) := by decide +kernel
theorem d_La_law_296 : decode M_La_law.2.1 296 = .ok (.iconst 0, 1) := by decide +kernel
theorem d_La_law_297 : decode M_La_law.2.1 297 = .ok (.ireturn, 1) := by decide +kernel
theorem d_La_law_298 : decode M_La_law.2.1 298 = .ok (.aload_n 1, 1) := by decide +kernel
theorem d_La_law_299 : decode M_La_law.2.1 299 = .ok (.aload_n 0, 1) := by decide +kernel
theorem d_La_law_300 : decode M_La_law.2.1 300 = .ok (.iload_n 3, 1) := by decide +kernel
theorem d_La_law_301 : decode M_La_law.2.1 301 = .ok (.iconst 1, 1) := by decide +kernel
theorem d_La_law_302 : decode M_La_law.2.1 302 = .ok (.iadd, 1) := by decide +kernel
theorem d_La_law_303 : decode M_La_law.2.1 303 = .ok (.iaload, 1) := by decide +kernel
theorem d_La_law_304 : decode M_La_law.2.1 304 = .ok (.aload_n 0, 1) := by decide +kernel
theorem d_La_law_305 : decode M_La_law.2.1 305 = .ok (.iload_n 3, 1) := by decide +kernel
theorem d_La_law_306 : decode M_La_law.2.1 306 = .ok (.iconst 2, 1) := by decide +kernel
theorem d_La_law_307 : decode M_La_law.2.1 307 = .ok (.iadd, 1) := by decide +kernel
theorem d_La_law_308 : decode M_La_law.2.1 308 = .ok (.iaload, 1) := by decide +kernel
theorem d_La_law_309 : decode M_La_law.2.1 309 = .ok (.invokevirtual 40, 3) := by decide +kernel
theorem d_La_law_312 : decode M_La_law.2.1 312 = .ok (.aload_n 2, 1) := by decide +kernel
theorem d_La_law_313 : decode M_La_law.2.1 313 = .ok (.aload_n 0, 1) := by decide +kernel
theorem d_La_law_314 : decode M_La_law.2.1 314 = .ok (.iload_n 3, 1) := by decide +kernel
theorem d_La_law_315 : decode M_La_law.2.1 315 = .ok (.iconst 1, 1) := by decide +kernel
theorem d_La_law_316 : decode M_La_law.2.1 316 = .ok (.iadd, 1) := by decide +kernel
theorem d_La_law_317 : decode M_La_law.2.1 317 = .ok (.iaload, 1) := by decide +kernel
theorem d_La_law_318 : decode M_La_law.2.1 318 = .ok (.aload_n 0, 1) := by decide +kernel
theorem d_La_law_319 : decode M_La_law.2.1 319 = .ok (.iload_n 3, 1) := by decide +kernel
theorem d_La_law_320 : decode M_La_law.2.1 320 = .ok (.iconst 2, 1) := by decide +kernel
theorem d_La_law_321 : decode M_La_law.2.1 321 = .ok (.iadd, 1) := by decide +kernel
theorem d_La_law_322 : decode M_La_law.2.1 322 = .ok (.iaload, 1) := by decide +kernel
theorem d_La_law_323 : decode M_La_law.2.1 323 = .ok (.invokevirtual 43, 3) := by decide +kernel
theorem d_La_law_326 : decode M_La_law.2.1 326 = .ok (.if_icmp .eq 559, 3) := by decide +kernel
theorem d_La_law_329 : decode M_La_law.2.1 329 = .ok (.iconst 0, 1) := by decide +kernel
theorem d_La_law_330 : decode M_La_law.2.1 330 = .ok (.ireturn, 1) := by decide +kernel
theorem d_La_law_331 : decode M_La_law.2.1 331 = .ok (.aload_n 1, 1) := by decide +kernel
theorem d_La_law_332 : decode M_La_law.2.1 332 = .ok (.aload_n 0, 1) := by decide +kernel
theorem d_La_law_333 : decode M_La_law.2.1 333 = .ok (.iload_n 3, 1) := by decide +kernel
theorem d_La_law_334 : decode M_La_law.2.1 334 = .ok (.iconst 1, 1) := by decide +kernel
theorem d_La_law_335 : decode M_La_law.2.1 335 = .ok (.iadd, 1) := by decide +kernel
theorem d_La_law_336 : decode M_La_law.2.1 336 = .ok (.iaload, 1) := by decide +kernel
theorem d_La_law_337 : decode M_La_law.2.1 337 = .ok (.invokevirtual 44, 3) := by decide +kernel
theorem d_La_law_340 : decode M_La_law.2.1 340 = .ok (.aload_n 2, 1) := by decide +kernel
theorem d_La_law_341 : decode M_La_law.2.1 341 = .ok (.aload_n 0, 1) := by decide +kernel
theorem d_La_law_342 : decode M_La_law.2.1 342 = .ok (.iload_n 3, 1) := by decide +kernel
theorem d_La_law_343 : decode M_La_law.2.1 343 = .ok (.iconst 1, 1) := by decide +kernel
theorem d_La_law_344 : decode M_La_law.2.1 344 = .ok (.iadd, 1) := by decide +kernel
theorem d_La_law_345 : decode M_La_law.2.1 345 = .ok (.iaload, 1) := by decide +kernel
theorem d_La_law_346 : decode M_La_law.2.1 346 = .ok (.invokevirtual 47, 3) := by decide +kernel
theorem d_La_law_349 : decode M_La_law.2.1 349 = .ok (.if_icmp .eq 536, 3) := by decide +kernel
theorem d_La_law_352 : decode M_La_law.2.1 352 = .ok (.iconst 0, 1) := by decide +kernel
theorem d_La_law_353 : decode M_La_law.2.1 353 = .ok (.ireturn, 1) := by decide +kernel
theorem d_La_law_354 : decode M_La_law.2.1 354 = .ok (.aload_n 1, 1) := by decide +kernel
theorem d_La_law_355 : decode M_La_law.2.1 355 = .ok (.aload_n 0, 1) := by decide +kernel
theorem d_La_law_356 : decode M_La_law.2.1 356 = .ok (.iload_n 3, 1) := by decide +kernel
theorem d_La_law_357 : decode M_La_law.2.1 357 = .ok (.iconst 1, 1) := by decide +kernel
theorem d_La_law_358 : decode M_La_law.2.1 358 = .ok (.iadd, 1) := by decide +kernel
theorem d_La_law_359 : decode M_La_law.2.1 359 = .ok (.iaload, 1) := by decide +kernel
theorem d_La_law_360 : decode M_La_law.2.1 360 = .ok (.invokevirtual 48, 3) := by decide +kernel
theorem d_La_law_363 : decode M_La_law.2.1 363 = .ok (.aload_n 2, 1) := by decide +kernel
theorem d_La_law_364 : decode M_La_law.2.1 364 = .ok (.aload_n 0, 1) := by decide +kernel
theorem d_La_law_365 : decode M_La_law.2.1 365 = .ok (.iload_n 3, 1) := by decide +kernel
theorem d_La_law_366 : decode M_La_law.2.1 366 = .ok (.iconst 1, 1) := by decide +kernel
theorem d_La_law_367 : decode M_La_law.2.1 367 = .ok (.iadd, 1) := by decide +kernel
theorem d_La_law_368 : decode M_La_law.2.1 368 = .ok (.iaload, 1) := by decide +kernel
theorem d_La_law_369 : decode M_La_law.2.1 369 = .ok (.invokevirtual 51, 3) := by decide +kernel
theorem d_La_law_372 : decode M_La_law.2.1 372 = .ok (.if_icmp .eq 513, 3) := by decide +kernel
theorem d_La_law_375 : decode M_La_law.2.1 375 = .ok (.iconst 0, 1) := by decide +kernel
theorem d_La_law_376 : decode M_La_law.2.1 376 = .ok (.ireturn, 1) := by decide +kernel
theorem d_La_law_377 : decode M_La_law.2.1 377 = .ok (.aload_n 1, 1) := by decide +kernel
theorem d_La_law_378 : decode M_La_law.2.1 378 = .ok (.aload_n 0, 1) := by decide +kernel
theorem d_La_law_379 : decode M_La_law.2.1 379 = .ok (.iload_n 3, 1) := by decide +kernel
theorem d_La_law_380 : decode M_La_law.2.1 380 = .ok (.iconst 1, 1) := by decide +kernel
theorem d_La_law_381 : decode M_La_law.2.1 381 = .ok (.iadd, 1) := by decide +kernel
theorem d_La_law_382 : decode M_La_law.2.1 382 = .ok (.iaload, 1) := by decide +kernel
theorem d_La_law_383 : decode M_La_law.2.1 383 = .ok (.invokevirtual 52, 3) := by decide +kernel
theorem d_La_law_386 : decode M_La_law.2.1 386 = .ok (.aload_n 2, 1) := by decide +kernel
theorem d_La_law_387 : decode M_La_law.2.1 387 = .ok (.aload_n 0, 1) := by decide +kernel
theorem d_La_law_388 : decode M_La_law.2.1 388 = .ok (.iload_n 3, 1) := by decide +kernel
theorem d_La_law_389 : decode M_La_law.2.1 389 = .ok (.iconst 1, 1) := by decide +kernel
theorem d_La_law_390 : decode M_La_law.2.1 390 = .ok (.iadd, 1) := by decide +kernel
theorem d_La_law_391 : decode M_La_law.2.1 391 = .ok (.iaload, 1) := by decide +kernel
theorem d_La_law_392 : decode M_La_law.2.1 392 = .ok (.invokevirtual 55, 3) := by decide +kernel
theorem d_La_law_395 : decode M_La_law.2.1 395 = .ok (.if_icmp .eq 490, 3) := by decide +kernel
theorem d_La_law_398 : decode M_La_law.2.1 398 = .ok (.iconst 0, 1) := by decide +kernel
theorem d_La_law_399 : decode M_La_law.2.1 399 = .ok (.ireturn, 1) := by decide +kernel
theorem d_La_law_400 : decode M_La_law.2.1 400 = .ok (.aload_n 1, 1) := by decide +kernel
theorem d_La_law_401 : decode M_La_law.2.1 401 = .ok (.invokevirtual 56, 3) := by decide +kernel
theorem d_La_law_404 : decode M_La_law.2.1 404 = .ok (.aload_n 2, 1) := by decide +kernel
theorem d_La_law_405 : decode M_La_law.2.1 405 = .ok (.invokevirtual 59, 3) := by decide +kernel
theorem d_La_law_408 : decode M_La_law.2.1 408 = .ok (.if_icmp .eq 477, 3) := by decide +kernel
theorem d_La_law_411 : decode M_La_law.2.1 411 = .ok (.iconst 0, 1) := by decide +kernel
theorem d_La_law_412 : decode M_La_law.2.1 412 = .ok (.ireturn, 1) := by decide +kernel
theorem d_La_law_413 : decode M_La_law.2.1 413 = .ok (.aload_n 1, 1) := by decide +kernel
theorem d_La_law_414 : decode M_La_law.2.1 414 = .ok (.aload_n 0, 1) := by decide +kernel
theorem d_La_law_415 : decode M_La_law.2.1 415 = .ok (.iload_n 3, 1) := by decide +kernel
theorem d_La_law_416 : decode M_La_law.2.1 416 = .ok (.iconst 1, 1) := by decide +kernel
theorem d_La_law_417 : decode M_La_law.2.1 417 = .ok (.iadd, 1) := by decide +kernel
theorem d_La_law_418 : decode M_La_law.2.1 418 = .ok (.iaload, 1) := by decide +kernel
theorem d_La_law_419 : decode M_La_law.2.1 419 = .ok (.invokevirtual 60, 3) := by decide +kernel
theorem d_La_law_422 : decode M_La_law.2.1 422 = .ok (.aload_n 2, 1) := by decide +kernel
theorem d_La_law_423 : decode M_La_law.2.1 423 = .ok (.aload_n 0, 1) := by decide +kernel
theorem d_La_law_424 : decode M_La_law.2.1 424 = .ok (.iload_n 3, 1) := by decide +kernel
theorem d_La_law_425 : decode M_La_law.2.1 425 = .ok (.iconst 1, 1) := by decide +kernel
theorem d_La_law_426 : decode M_La_law.2.1 426 = .ok (.iadd, 1) := by decide +kernel
theorem d_La_law_427 : decode M_La_law.2.1 427 = .ok (.iaload, 1) := by decide +kernel
theorem d_La_law_428 : decode M_La_law.2.1 428 = .ok (.invokevirtual 63, 3) := by decide +kernel
theorem d_La_law_431 : decode M_La_law.2.1 431 = .ok (.if_icmp .eq 454, 3) := by decide +kernel
theorem d_La_law_434 : decode M_La_law.2.1 434 = .ok (.iconst 0, 1) := by decide +kernel
theorem d_La_law_435 : decode M_La_law.2.1 435 = .ok (.ireturn, 1) := by decide +kernel
theorem d_La_law_436 : decode M_La_law.2.1 436 = .ok (.aload_n 1, 1) := by decide +kernel
theorem d_La_law_437 : decode M_La_law.2.1 437 = .ok (.aload_n 0, 1) := by decide +kernel
theorem d_La_law_438 : decode M_La_law.2.1 438 = .ok (.iload_n 3, 1) := by decide +kernel
theorem d_La_law_439 : decode M_La_law.2.1 439 = .ok (.iconst 1, 1) := by decide +kernel
theorem d_La_law_440 : decode M_La_law.2.1 440 = .ok (.iadd, 1) := by decide +kernel
theorem d_La_law_441 : decode M_La_law.2.1 441 = .ok (.iaload, 1) := by decide +kernel
theorem d_La_law_442 : decode M_La_law.2.1 442 = .ok (.aload_n 0, 1) := by decide +kernel
theorem d_La_law_443 : decode M_La_law.2.1 443 = .ok (.iload_n 3, 1) := by decide +kernel
theorem d_La_law_444 : decode M_La_law.2.1 444 = .ok (.iconst 2, 1) := by decide +kernel
theorem d_La_law_445 : decode M_La_law.2.1 445 = .ok (.iadd, 1) := by decide +kernel
theorem d_La_law_446 : decode M_La_law.2.1 446 = .ok (.iaload, 1) := by decide +kernel
theorem d_La_law_447 : decode M_La_law.2.1 447 = .ok (.invokevirtual 64, 3) := by decide +kernel
theorem d_La_law_450 : decode M_La_law.2.1 450 = .ok (.aload_n 2, 1) := by decide +kernel
theorem d_La_law_451 : decode M_La_law.2.1 451 = .ok (.aload_n 0, 1) := by decide +kernel
theorem d_La_law_452 : decode M_La_law.2.1 452 = .ok (.iload_n 3, 1) := by decide +kernel
theorem d_La_law_453 : decode M_La_law.2.1 453 = .ok (.iconst 1, 1) := by decide +kernel
theorem d_La_law_454 : decode M_La_law.2.1 454 = .ok (.iadd, 1) := by decide +kernel
theorem d_La_law_455 : decode M_La_law.2.1 455 = .ok (.iaload, 1) := by decide +kernel
theorem d_La_law_456 : decode M_La_law.2.1 456 = .ok (.aload_n 0, 1) := by decide +kernel
theorem d_La_law_457 : decode M_La_law.2.1 457 = .ok (.iload_n 3, 1) := by decide +kernel
theorem d_La_law_458 : decode M_La_law.2.1 458 = .ok (.iconst 2, 1) := by decide +kernel
theorem d_La_law_459 : decode M_La_law.2.1 459 = .ok (.iadd, 1) := by decide +kernel
theorem d_La_law_460 : decode M_La_law.2.1 460 = .ok (.iaload, 1) := by decide +kernel
theorem d_La_law_461 : decode M_La_law.2.1 461 = .ok (.invokevirtual 67, 3) := by decide +kernel
theorem d_La_law_464 : decode M_La_law.2.1 464 = .ok (.if_icmp .eq 421, 3) := by decide +kernel
theorem d_La_law_467 : decode M_La_law.2.1 467 = .ok (.iconst 0, 1) := by decide +kernel
theorem d_La_law_468 : decode M_La_law.2.1 468 = .ok (.ireturn, 1) := by decide +kernel
theorem d_La_law_469 : decode M_La_law.2.1 469 = .ok (.aload_n 1, 1) := by decide +kernel
theorem d_La_law_470 : decode M_La_law.2.1 470 = .ok (.invokevirtual 68, 3) := by decide +kernel
theorem d_La_law_473 : decode M_La_law.2.1 473 = .ok (.aload_n 2, 1) := by decide +kernel
theorem d_La_law_474 : decode M_La_law.2.1 474 = .ok (.invokevirtual 71, 3) := by decide +kernel
theorem d_La_law_477 : decode M_La_law.2.1 477 = .ok (.if_icmp .eq 408, 3) := by decide +kernel
theorem d_La_law_480 : decode M_La_law.2.1 480 = .ok (.iconst 0, 1) := by decide +kernel
theorem d_La_law_481 : decode M_La_law.2.1 481 = .ok (.ireturn, 1) := by decide +kernel
theorem d_La_law_482 : decode M_La_law.2.1 482 = .ok (.aload_n 1, 1) := by decide +kernel
theorem d_La_law_483 : decode M_La_law.2.1 483 = .ok (.aload_n 0, 1) := by decide +kernel
theorem d_La_law_484 : decode M_La_law.2.1 484 = .ok (.iload_n 3, 1) := by decide +kernel
theorem d_La_law_485 : decode M_La_law.2.1 485 = .ok (.iconst 1, 1) := by decide +kernel
theorem d_La_law_486 : decode M_La_law.2.1 486 = .ok (.iadd, 1) := by decide +kernel
theorem d_La_law_487 : decode M_La_law.2.1 487 = .ok (.iaload, 1) := by decide +kernel
theorem d_La_law_488 : decode M_La_law.2.1 488 = .ok (.aload_n 0, 1) := by decide +kernel
theorem d_La_law_489 : decode M_La_law.2.1 489 = .ok (.iload_n 3, 1) := by decide +kernel
theorem d_La_law_490 : decode M_La_law.2.1 490 = .ok (.iconst 2, 1) := by decide +kernel
theorem d_La_law_491 : decode M_La_law.2.1 491 = .ok (.iadd, 1) := by decide +kernel
theorem d_La_law_492 : decode M_La_law.2.1 492 = .ok (.iaload, 1) := by decide +kernel
theorem d_La_law_493 : decode M_La_law.2.1 493 = .ok (.aload_n 0, 1) := by decide +kernel
theorem d_La_law_494 : decode M_La_law.2.1 494 = .ok (.iload_n 3, 1) := by decide +kernel
theorem d_La_law_495 : decode M_La_law.2.1 495 = .ok (.iconst 3, 1) := by decide +kernel
theorem d_La_law_496 : decode M_La_law.2.1 496 = .ok (.iadd, 1) := by decide +kernel
theorem d_La_law_497 : decode M_La_law.2.1 497 = .ok (.iaload, 1) := by decide +kernel
theorem d_La_law_498 : decode M_La_law.2.1 498 = .ok (.invokevirtual 72, 3) := by decide +kernel
theorem d_La_law_501 : decode M_La_law.2.1 501 = .ok (.aload_n 2, 1) := by decide +kernel
theorem d_La_law_502 : decode M_La_law.2.1 502 = .ok (.aload_n 0, 1) := by decide +kernel
theorem d_La_law_503 : decode M_La_law.2.1 503 = .ok (.iload_n 3, 1) := by decide +kernel
theorem d_La_law_504 : decode M_La_law.2.1 504 = .ok (.iconst 1, 1) := by decide +kernel
theorem d_La_law_505 : decode M_La_law.2.1 505 = .ok (.iadd, 1) := by decide +kernel
theorem d_La_law_506 : decode M_La_law.2.1 506 = .ok (.iaload, 1) := by decide +kernel
theorem d_La_law_507 : decode M_La_law.2.1 507 = .ok (.aload_n 0, 1) := by decide +kernel
theorem d_La_law_508 : decode M_La_law.2.1 508 = .ok (.iload_n 3, 1) := by decide +kernel
theorem d_La_law_509 : decode M_La_law.2.1 509 = .ok (.iconst 2, 1) := by decide +kernel
theorem d_La_law_510 : decode M_La_law.2.1 510 = .ok (.iadd, 1) := by decide +kernel
theorem d_La_law_511 : decode M_La_law.2.1 511 = .ok (.iaload, 1) := by decide +kernel
theorem d_La_law_512 : decode M_La_law.2.1 512 = .ok (.aload_n 0, 1) := by decide +kernel
theorem d_La_law_513 : decode M_La_law.2.1 513 = .ok (.iload_n 3, 1) := by decide +kernel
theorem d_La_law_514 : decode M_La_law.2.1 514 = .ok (.iconst 3, 1) := by decide +kernel
theorem d_La_law_515 : decode M_La_law.2.1 515 = .ok (.iadd, 1) := by decide +kernel
theorem d_La_law_516 : decode M_La_law.2.1 516 = .ok (.iaload, 1) := by decide +kernel
theorem d_La_law_517 : decode M_La_law.2.1 517 = .ok (.invokevirtual 76, 3) := by decide +kernel
theorem d_La_law_520 : decode M_La_law.2.1 520 = .ok (.if_icmp .eq 365, 3) := by decide +kernel
theorem d_La_law_523 : decode M_La_law.2.1 523 = .ok (.iconst 0, 1) := by decide +kernel
theorem d_La_law_524 : decode M_La_law.2.1 524 = .ok (.ireturn, 1) := by decide +kernel
theorem d_La_law_525 : decode M_La_law.2.1 525 = .ok (.aload_n 1, 1) := by decide +kernel
theorem d_La_law_526 : decode M_La_law.2.1 526 = .ok (.aload_n 0, 1) := by decide +kernel
theorem d_La_law_527 : decode M_La_law.2.1 527 = .ok (.iload_n 3, 1) := by decide +kernel
theorem d_La_law_528 : decode M_La_law.2.1 528 = .ok (.iconst 1, 1) := by decide +kernel
theorem d_La_law_529 : decode M_La_law.2.1 529 = .ok (.iadd, 1) := by decide +kernel
theorem d_La_law_530 : decode M_La_law.2.1 530 = .ok (.iaload, 1) := by decide +kernel
theorem d_La_law_531 : decode M_La_law.2.1 531 = .ok (.invokevirtual 77, 3) := by decide +kernel
theorem d_La_law_534 : decode M_La_law.2.1 534 = .ok (.aload_n 2, 1) := by decide +kernel
theorem d_La_law_535 : decode M_La_law.2.1 535 = .ok (.aload_n 0, 1) := by decide +kernel
theorem d_La_law_536 : decode M_La_law.2.1 536 = .ok (.iload_n 3, 1) := by decide +kernel
theorem d_La_law_537 : decode M_La_law.2.1 537 = .ok (.iconst 1, 1) := by decide +kernel
theorem d_La_law_538 : decode M_La_law.2.1 538 = .ok (.iadd, 1) := by decide +kernel
theorem d_La_law_539 : decode M_La_law.2.1 539 = .ok (.iaload, 1) := by decide +kernel
theorem d_La_law_540 : decode M_La_law.2.1 540 = .ok (.invokevirtual 80, 3) := by decide +kernel
theorem d_La_law_543 : decode M_La_law.2.1 543 = .ok (.if_icmp .eq 342, 3) := by decide +kernel
theorem d_La_law_546 : decode M_La_law.2.1 546 = .ok (.iconst 0, 1) := by decide +kernel
theorem d_La_law_547 : decode M_La_law.2.1 547 = .ok (.ireturn, 1) := by decide +kernel
theorem d_La_law_548 : decode M_La_law.2.1 548 = .ok (.aload_n 1, 1) := by decide +kernel
theorem d_La_law_549 : decode M_La_law.2.1 549 = .ok (.aload_n 0, 1) := by decide +kernel
theorem d_La_law_550 : decode M_La_law.2.1 550 = .ok (.iload_n 3, 1) := by decide +kernel
theorem d_La_law_551 : decode M_La_law.2.1 551 = .ok (.iconst 1, 1) := by decide +kernel
theorem d_La_law_552 : decode M_La_law.2.1 552 = .ok (.iadd, 1) := by decide +kernel
theorem d_La_law_553 : decode M_La_law.2.1 553 = .ok (.iaload, 1) := by decide +kernel
theorem d_La_law_554 : decode M_La_law.2.1 554 = .ok (.aload_n 0, 1) := by decide +kernel
theorem d_La_law_555 : decode M_La_law.2.1 555 = .ok (.iload_n 3, 1) := by decide +kernel
theorem d_La_law_556 : decode M_La_law.2.1 556 = .ok (.iconst 2, 1) := by decide +kernel
theorem d_La_law_557 : decode M_La_law.2.1 557 = .ok (.iadd, 1) := by decide +kernel
theorem d_La_law_558 : decode M_La_law.2.1 558 = .ok (.iaload, 1) := by decide +kernel
theorem d_La_law_559 : decode M_La_law.2.1 559 = .ok (.aload_n 0, 1) := by decide +kernel
theorem d_La_law_560 : decode M_La_law.2.1 560 = .ok (.iload_n 3, 1) := by decide +kernel
theorem d_La_law_561 : decode M_La_law.2.1 561 = .ok (.iconst 3, 1) := by decide +kernel
theorem d_La_law_562 : decode M_La_law.2.1 562 = .ok (.iadd, 1) := by decide +kernel
theorem d_La_law_563 : decode M_La_law.2.1 563 = .ok (.iaload, 1) := by decide +kernel
theorem d_La_law_564 : decode M_La_law.2.1 564 = .ok (.aload_n 0, 1) := by decide +kernel
theorem d_La_law_565 : decode M_La_law.2.1 565 = .ok (.iload_n 3, 1) := by decide +kernel
theorem d_La_law_566 : decode M_La_law.2.1 566 = .ok (.iconst 4, 1) := by decide +kernel
theorem d_La_law_567 : decode M_La_law.2.1 567 = .ok (.iadd, 1) := by decide +kernel
theorem d_La_law_568 : decode M_La_law.2.1 568 = .ok (.iaload, 1) := by decide +kernel
theorem d_La_law_569 : decode M_La_law.2.1 569 = .ok (.aload_n 0, 1) := by decide +kernel
theorem d_La_law_570 : decode M_La_law.2.1 570 = .ok (.iload_n 3, 1) := by decide +kernel
theorem d_La_law_571 : decode M_La_law.2.1 571 = .ok (.iconst 5, 1) := by decide +kernel
theorem d_La_law_572 : decode M_La_law.2.1 572 = .ok (.iadd, 1) := by decide +kernel
theorem d_La_law_573 : decode M_La_law.2.1 573 = .ok (.iaload, 1) := by decide +kernel
theorem d_La_law_574 : decode M_La_law.2.1 574 = .ok (.invokevirtual 81, 3) := by decide +kernel
theorem d_La_law_577 : decode M_La_law.2.1 577 = .ok (.aload_n 2, 1) := by decide +kernel
theorem d_La_law_578 : decode M_La_law.2.1 578 = .ok (.aload_n 0, 1) := by decide +kernel
theorem d_La_law_579 : decode M_La_law.2.1 579 = .ok (.iload_n 3, 1) := by decide +kernel
theorem d_La_law_580 : decode M_La_law.2.1 580 = .ok (.iconst 1, 1) := by decide +kernel
theorem d_La_law_581 : decode M_La_law.2.1 581 = .ok (.iadd, 1) := by decide +kernel
theorem d_La_law_582 : decode M_La_law.2.1 582 = .ok (.iaload, 1) := by decide +kernel
theorem d_La_law_583 : decode M_La_law.2.1 583 = .ok (.aload_n 0, 1) := by decide +kernel
theorem d_La_law_584 : decode M_La_law.2.1 584 = .ok (.iload_n 3, 1) := by decide +kernel
theorem d_La_law_585 : decode M_La_law.2.1 585 = .ok (.iconst 2, 1) := by decide +kernel
theorem d_La_law_586 : decode M_La_law.2.1 586 = .ok (.iadd, 1) := by decide +kernel
theorem d_La_law_587 : decode M_La_law.2.1 587 = .ok (.iaload, 1) := by decide +kernel
theorem d_La_law_588 : decode M_La_law.2.1 588 = .ok (.aload_n 0, 1) := by decide +kernel
theorem d_La_law_589 : decode M_La_law.2.1 589 = .ok (.iload_n 3, 1) := by decide +kernel
theorem d_La_law_590 : decode M_La_law.2.1 590 = .ok (.iconst 3, 1) := by decide +kernel
theorem d_La_law_591 : decode M_La_law.2.1 591 = .ok (.iadd, 1) := by decide +kernel
theorem d_La_law_592 : decode M_La_law.2.1 592 = .ok (.iaload, 1) := by decide +kernel
theorem d_La_law_593 : decode M_La_law.2.1 593 = .ok (.aload_n 0, 1) := by decide +kernel
theorem d_La_law_594 : decode M_La_law.2.1 594 = .ok (.iload_n 3, 1) := by decide +kernel
theorem d_La_law_595 : decode M_La_law.2.1 595 = .ok (.iconst 4, 1) := by decide +kernel
theorem d_La_law_596 : decode M_La_law.2.1 596 = .ok (.iadd, 1) := by decide +kernel
theorem d_La_law_597 : decode M_La_law.2.1 597 = .ok (.iaload, 1) := by decide +kernel
theorem d_La_law_598 : decode M_La_law.2.1 598 = .ok (.aload_n 0, 1) := by decide +kernel
theorem d_La_law_599 : decode M_La_law.2.1 599 = .ok (.iload_n 3, 1) := by decide +kernel
theorem d_La_law_600 : decode M_La_law.2.1 600 = .ok (.iconst 5, 1) := by decide +kernel
theorem d_La_law_601 : decode M_La_law.2.1 601 = .ok (.iadd, 1) := by decide +kernel
theorem d_La_law_602 : decode M_La_law.2.1 602 = .ok (.iaload, 1) := by decide +kernel
theorem d_La_law_603 : decode M_La_law.2.1 603 = .ok (.invokevirtual 85, 3) := by decide +kernel
theorem d_La_law_606 : decode M_La_law.2.1 606 = .ok (.if_icmp .eq 279, 3) := by decide +kernel
theorem d_La_law_609 : decode M_La_law.2.1 609 = .ok (.iconst 0, 1) := by decide +kernel
theorem d_La_law_610 : decode M_La_law.2.1 610 = .ok (.ireturn, 1) := by decide +kernel
theorem d_La_law_611 : decode M_La_law.2.1 611 = .ok (.aload_n 1, 1) := by decide +kernel
theorem d_La_law_612 : decode M_La_law.2.1 612 = .ok (.aload_n 0, 1) := by decide +kernel
theorem d_La_law_613 : decode M_La_law.2.1 613 = .ok (.iload_n 3, 1) := by decide +kernel
theorem d_La_law_614 : decode M_La_law.2.1 614 = .ok (.iconst 1, 1) := by decide +kernel
theorem d_La_law_615 : decode M_La_law.2.1 615 = .ok (.iadd, 1) := by decide +kernel
theorem d_La_law_616 : decode M_La_law.2.1 616 = .ok (.iaload, 1) := by decide +kernel
theorem d_La_law_617 : decode M_La_law.2.1 617 = .ok (.aload_n 0, 1) := by decide +kernel
theorem d_La_law_618 : decode M_La_law.2.1 618 = .ok (.iload_n 3, 1) := by decide +kernel
theorem d_La_law_619 : decode M_La_law.2.1 619 = .ok (.iconst 2, 1) := by decide +kernel
theorem d_La_law_620 : decode M_La_law.2.1 620 = .ok (.iadd, 1) := by decide +kernel
theorem d_La_law_621 : decode M_La_law.2.1 621 = .ok (.iaload, 1) := by decide +kernel
theorem d_La_law_622 : decode M_La_law.2.1 622 = .ok (.aload_n 0, 1) := by decide +kernel
theorem d_La_law_623 : decode M_La_law.2.1 623 = .ok (.iload_n 3, 1) := by decide +kernel
theorem d_La_law_624 : decode M_La_law.2.1 624 = .ok (.iconst 3, 1) := by decide +kernel
theorem d_La_law_625 : decode M_La_law.2.1 625 = .ok (.iadd, 1) := by decide +kernel
theorem d_La_law_626 : decode M_La_law.2.1 626 = .ok (.iaload, 1) := by decide +kernel
theorem d_La_law_627 : decode M_La_law.2.1 627 = .ok (.invokevirtual 86, 3) := by decide +kernel
theorem d_La_law_630 : decode M_La_law.2.1 630 = .ok (.aload_n 2, 1) := by decide +kernel
theorem d_La_law_631 : decode M_La_law.2.1 631 = .ok (.aload_n 0, 1) := by decide +kernel
theorem d_La_law_632 : decode M_La_law.2.1 632 = .ok (.iload_n 3, 1) := by decide +kernel
theorem d_La_law_633 : decode M_La_law.2.1 633 = .ok (.iconst 1, 1) := by decide +kernel
theorem d_La_law_634 : decode M_La_law.2.1 634 = .ok (.iadd, 1) := by decide +kernel
theorem d_La_law_635 : decode M_La_law.2.1 635 = .ok (.iaload, 1) := by decide +kernel
theorem d_La_law_636 : decode M_La_law.2.1 636 = .ok (.aload_n 0, 1) := by decide +kernel
theorem d_La_law_637 : decode M_La_law.2.1 637 = .ok (.iload_n 3, 1) := by decide +kernel
theorem d_La_law_638 : decode M_La_law.2.1 638 = .ok (.iconst 2, 1) := by decide +kernel
theorem d_La_law_639 : decode M_La_law.2.1 639 = .ok (.iadd, 1) := by decide +kernel
theorem d_La_law_640 : decode M_La_law.2.1 640 = .ok (.iaload, 1) := by decide +kernel
theorem d_La_law_641 : decode M_La_law.2.1 641 = .ok (.aload_n 0, 1) := by decide +kernel
theorem d_La_law_642 : decode M_La_law.2.1 642 = .ok (.iload_n 3, 1) := by decide +kernel
theorem d_La_law_643 : decode M_La_law.2.1 643 = .ok (.iconst 3, 1) := by decide +kernel
theorem d_La_law_644 : decode M_La_law.2.1 644 = .ok (.iadd, 1) := by decide +kernel
theorem d_La_law_645 : decode M_La_law.2.1 645 = .ok (.iaload, 1) := by decide +kernel
theorem d_La_law_646 : decode M_La_law.2.1 646 = .ok (.invokevirtual 89, 3) := by decide +kernel
theorem d_La_law_649 : decode M_La_law.2.1 649 = .ok (.if_icmp .eq 236, 3) := by decide +kernel
theorem d_La_law_652 : decode M_La_law.2.1 652 = .ok (.iconst 0, 1) := by decide +kernel
theorem d_La_law_653 : decode M_La_law.2.1 653 = .ok (.ireturn, 1) := by decide +kernel
theorem d_La_law_654 : decode M_La_law.2.1 654 = .ok (.aload_n 1, 1) := by decide +kernel
theorem d_La_law_655 : decode M_La_law.2.1 655 = .ok (.aload_n 0, 1) := by decide +kernel
theorem d_La_law_656 : decode M_La_law.2.1 656 = .ok (.iload_n 3, 1) := by decide +kernel
theorem d_La_law_657 : decode M_La_law.2.1 657 = .ok (.iconst 1, 1) := by decide +kernel
theorem d_La_law_658 : decode M_La_law.2.1 658 = .ok (.iadd, 1) := by decide +kernel
theorem d_La_law_659 : decode M_La_law.2.1 659 = .ok (.iaload, 1) := by decide +kernel
theorem d_La_law_660 : decode M_La_law.2.1 660 = .ok (.invokevirtual 90, 3) := by decide +kernel
theorem d_La_law_663 : decode M_La_law.2.1 663 = .ok (.aload_n 2, 1) := by decide +kernel
theorem d_La_law_664 : decode M_La_law.2.1 664 = .ok (.aload_n 0, 1) := by decide +kernel
theorem d_La_law_665 : decode M_La_law.2.1 665 = .ok (.iload_n 3, 1) := by decide +kernel
theorem d_La_law_666 : decode M_La_law.2.1 666 = .ok (.iconst 1, 1) := by decide +kernel
theorem d_La_law_667 : decode M_La_law.2.1 667 = .ok (.iadd, 1) := by decide +kernel
theorem d_La_law_668 : decode M_La_law.2.1 668 = .ok (.iaload, 1) := by decide +kernel
theorem d_La_law_669 : decode M_La_law.2.1 669 = .ok (.invokevirtual 93, 3) := by decide +kernel
theorem d_La_law_672 : decode M_La_law.2.1 672 = .ok (.if_icmp .eq 213, 3) := by decide +kernel
theorem d_La_law_675 : decode M_La_law.2.1 675 = .ok (.iconst 0, 1) := by decide +kernel
theorem d_La_law_676 : decode M_La_law.2.1 676 = .ok (.ireturn, 1) := by decide +kernel
theorem d_La_law_677 : decode M_La_law.2.1 677 = .ok (.aload_n 1, 1) := by decide +kernel
theorem d_La_law_678 : decode M_La_law.2.1 678 = .ok (.aload_n 0, 1) := by decide +kernel
theorem d_La_law_679 : decode M_La_law.2.1 679 = .ok (.iload_n 3, 1) := by decide +kernel
theorem d_La_law_680 : decode M_La_law.2.1 680 = .ok (.iconst 1, 1) := by decide +kernel
theorem d_La_law_681 : decode M_La_law.2.1 681 = .ok (.iadd, 1) := by decide +kernel
theorem d_La_law_682 : decode M_La_law.2.1 682 = .ok (.iaload, 1) := by decide +kernel
theorem d_La_law_683 : decode M_La_law.2.1 683 = .ok (.invokevirtual 94, 3) := by decide +kernel
theorem d_La_law_686 : decode M_La_law.2.1 686 = .ok (.aload_n 2, 1) := by decide +kernel
theorem d_La_law_687 : decode M_La_law.2.1 687 = .ok (.aload_n 0, 1) := by decide +kernel
theorem d_La_law_688 : decode M_La_law.2.1 688 = .ok (.iload_n 3, 1) := by decide +kernel
theorem d_La_law_689 : decode M_La_law.2.1 689 = .ok (.iconst 1, 1) := by decide +kernel
theorem d_La_law_690 : decode M_La_law.2.1 690 = .ok (.iadd, 1) := by decide +kernel
theorem d_La_law_691 : decode M_La_law.2.1 691 = .ok (.iaload, 1) := by decide +kernel
theorem d_La_law_692 : decode M_La_law.2.1 692 = .ok (.invokevirtual 97, 3) := by decide +kernel
theorem d_La_law_695 : decode M_La_law.2.1 695 = .ok (.if_icmp .eq 190, 3) := by decide +kernel
theorem d_La_law_698 : decode M_La_law.2.1 698 = .ok (.iconst 0, 1) := by decide +kernel
theorem d_La_law_699 : decode M_La_law.2.1 699 = .ok (.ireturn, 1) := by decide +kernel
theorem d_La_law_700 : decode M_La_law.2.1 700 = .ok (.aload_n 1, 1) := by decide +kernel
theorem d_La_law_701 : decode M_La_law.2.1 701 = .ok (.aload_n 0, 1) := by decide +kernel
theorem d_La_law_702 : decode M_La_law.2.1 702 = .ok (.iload_n 3, 1) := by decide +kernel
theorem d_La_law_703 : decode M_La_law.2.1 703 = .ok (.iconst 1, 1) := by decide +kernel
theorem d_La_law_704 : decode M_La_law.2.1 704 = .ok (.iadd, 1) := by decide +kernel
theorem d_La_law_705 : decode M_La_law.2.1 705 = .ok (.iaload, 1) := by decide +kernel
theorem d_La_law_706 : decode M_La_law.2.1 706 = .ok (.aload_n 0, 1) := by decide +kernel
theorem d_La_law_707 : decode M_La_law.2.1 707 = .ok (.iload_n 3, 1) := by decide +kernel
theorem d_La_law_708 : decode M_La_law.2.1 708 = .ok (.iconst 2, 1) := by decide +kernel
theorem d_La_law_709 : decode M_La_law.2.1 709 = .ok (.iadd, 1) := by decide +kernel
theorem d_La_law_710 : decode M_La_law.2.1 710 = .ok (.iaload, 1) := by decide +kernel
theorem d_La_law_711 : decode M_La_law.2.1 711 = .ok (.invokevirtual 98, 3) := by decide +kernel
theorem d_La_law_714 : decode M_La_law.2.1 714 = .ok (.aload_n 2, 1) := by decide +kernel
theorem d_La_law_715 : decode M_La_law.2.1 715 = .ok (.aload_n 0, 1) := by decide +kernel
theorem d_La_law_716 : decode M_La_law.2.1 716 = .ok (.iload_n 3, 1) := by decide +kernel
theorem d_La_law_717 : decode M_La_law.2.1 717 = .ok (.iconst 1, 1) := by decide +kernel
theorem d_La_law_718 : decode M_La_law.2.1 718 = .ok (.iadd, 1) := by decide +kernel
theorem d_La_law_719 : decode M_La_law.2.1 719 = .ok (.iaload, 1) := by decide +kernel
theorem d_La_law_720 : decode M_La_law.2.1 720 = .ok (.aload_n 0, 1) := by decide +kernel
theorem d_La_law_721 : decode M_La_law.2.1 721 = .ok (.iload_n 3, 1) := by decide +kernel
theorem d_La_law_722 : decode M_La_law.2.1 722 = .ok (.iconst 2, 1) := by decide +kernel
theorem d_La_law_723 : decode M_La_law.2.1 723 = .ok (.iadd, 1) := by decide +kernel
theorem d_La_law_724 : decode M_La_law.2.1 724 = .ok (.iaload, 1) := by decide +kernel
theorem d_La_law_725 : decode M_La_law.2.1 725 = .ok (.invokevirtual 101, 3) := by decide +kernel
theorem d_La_law_728 : decode M_La_law.2.1 728 = .ok (.if_icmp .eq 157, 3) := by decide +kernel
theorem d_La_law_731 : decode M_La_law.2.1 731 = .ok (.iconst 0, 1) := by decide +kernel
theorem d_La_law_732 : decode M_La_law.2.1 732 = .ok (.ireturn, 1) := by decide +kernel
theorem d_La_law_733 : decode M_La_law.2.1 733 = .ok (.aload_n 1, 1) := by decide +kernel
theorem d_La_law_734 : decode M_La_law.2.1 734 = .ok (.aload_n 0, 1) := by decide +kernel
theorem d_La_law_735 : decode M_La_law.2.1 735 = .ok (.iload_n 3, 1) := by decide +kernel
theorem d_La_law_736 : decode M_La_law.2.1 736 = .ok (.iconst 1, 1) := by decide +kernel
theorem d_La_law_737 : decode M_La_law.2.1 737 = .ok (.iadd, 1) := by decide +kernel
theorem d_La_law_738 : decode M_La_law.2.1 738 = .ok (.iaload, 1) := by decide +kernel
theorem d_La_law_739 : decode M_La_law.2.1 739 = .ok (.invokevirtual 102, 3) := by decide +kernel
theorem d_La_law_742 : decode M_La_law.2.1 742 = .ok (.aload_n 2, 1) := by decide +kernel
theorem d_La_law_743 : decode M_La_law.2.1 743 = .ok (.aload_n 0, 1) := by decide +kernel
theorem d_La_law_744 : decode M_La_law.2.1 744 = .ok (.iload_n 3, 1) := by decide +kernel
theorem d_La_law_745 : decode M_La_law.2.1 745 = .ok (.iconst 1, 1) := by decide +kernel
theorem d_La_law_746 : decode M_La_law.2.1 746 = .ok (.iadd, 1) := by decide +kernel
theorem d_La_law_747 : decode M_La_law.2.1 747 = .ok (.iaload, 1) := by decide +kernel
theorem d_La_law_748 : decode M_La_law.2.1 748 = .ok (.invokevirtual 105, 3) := by decide +kernel
theorem d_La_law_751 : decode M_La_law.2.1 751 = .ok (.if_icmp .eq 134, 3) := by decide +kernel
theorem d_La_law_754 : decode M_La_law.2.1 754 = .ok (.iconst 0, 1) := by decide +kernel
theorem d_La_law_755 : decode M_La_law.2.1 755 = .ok (.ireturn, 1) := by decide +kernel
theorem d_La_law_756 : decode M_La_law.2.1 756 = .ok (.aload_n 1, 1) := by decide +kernel
theorem d_La_law_757 : decode M_La_law.2.1 757 = .ok (.invokevirtual 106, 3) := by decide +kernel
theorem d_La_law_760 : decode M_La_law.2.1 760 = .ok (.aload_n 2, 1) := by decide +kernel
theorem d_La_law_761 : decode M_La_law.2.1 761 = .ok (.invokevirtual 109, 3) := by decide +kernel
theorem d_La_law_764 : decode M_La_law.2.1 764 = .ok (.if_icmp .eq 121, 3) := by decide +kernel
theorem d_La_law_767 : decode M_La_law.2.1 767 = .ok (.iconst 0, 1) := by decide +kernel
theorem d_La_law_768 : decode M_La_law.2.1 768 = .ok (.ireturn, 1) := by decide +kernel
theorem d_La_law_769 : decode M_La_law.2.1 769 = .ok (.aload_n 1, 1) := by decide +kernel
theorem d_La_law_770 : decode M_La_law.2.1 770 = .ok (.aload_n 0, 1) := by decide +kernel
theorem d_La_law_771 : decode M_La_law.2.1 771 = .ok (.iload_n 3, 1) := by decide +kernel
theorem d_La_law_772 : decode M_La_law.2.1 772 = .ok (.iconst 1, 1) := by decide +kernel
theorem d_La_law_773 : decode M_La_law.2.1 773 = .ok (.iadd, 1) := by decide +kernel
theorem d_La_law_774 : decode M_La_law.2.1 774 = .ok (.iaload, 1) := by decide +kernel
theorem d_La_law_775 : decode M_La_law.2.1 775 = .ok (.aload_n 0, 1) := by decide +kernel
theorem d_La_law_776 : decode M_La_law.2.1 776 = .ok (.iload_n 3, 1) := by decide +kernel
theorem d_La_law_777 : decode M_La_law.2.1 777 = .ok (.iconst 2, 1) := by decide +kernel
theorem d_La_law_778 : decode M_La_law.2.1 778 = .ok (.iadd, 1) := by decide +kernel
theorem d_La_law_779 : decode M_La_law.2.1 779 = .ok (.iaload, 1) := by decide +kernel
theorem d_La_law_780 : decode M_La_law.2.1 780 = .ok (.invokevirtual 110, 3) := by decide +kernel
theorem d_La_law_783 : decode M_La_law.2.1 783 = .ok (.aload_n 2, 1) := by decide +kernel
theorem d_La_law_784 : decode M_La_law.2.1 784 = .ok (.aload_n 0, 1) := by decide +kernel
theorem d_La_law_785 : decode M_La_law.2.1 785 = .ok (.iload_n 3, 1) := by decide +kernel
theorem d_La_law_786 : decode M_La_law.2.1 786 = .ok (.iconst 1, 1) := by decide +kernel
theorem d_La_law_787 : decode M_La_law.2.1 787 = .ok (.iadd, 1) := by decide +kernel
theorem d_La_law_788 : decode M_La_law.2.1 788 = .ok (.iaload, 1) := by decide +kernel
theorem d_La_law_789 : decode M_La_law.2.1 789 = .ok (.aload_n 0, 1) := by decide +kernel
theorem d_La_law_790 : decode M_La_law.2.1 790 = .ok (.iload_n 3, 1) := by decide +kernel
theorem d_La_law_791 : decode M_La_law.2.1 791 = .ok (.iconst 2, 1) := by decide +kernel
theorem d_La_law_792 : decode M_La_law.2.1 792 = .ok (.iadd, 1) := by decide +kernel
theorem d_La_law_793 : decode M_La_law.2.1 793 = .ok (.iaload, 1) := by decide +kernel
theorem d_La_law_794 : decode M_La_law.2.1 794 = .ok (.invokevirtual 113, 3) := by decide +kernel
theorem d_La_law_797 : decode M_La_law.2.1 797 = .ok (.if_icmp .eq 88, 3) := by decide +kernel
theorem d_La_law_800 : decode M_La_law.2.1 800 = .ok (.iconst 0, 1) := by decide +kernel
theorem d_La_law_801 : decode M_La_law.2.1 801 = .ok (.ireturn, 1) := by decide +kernel
theorem d_La_law_802 : decode M_La_law.2.1 802 = .ok (.aload_n 1, 1) := by decide +kernel
theorem d_La_law_803 : decode M_La_law.2.1 803 = .ok (.aload_n 0, 1) := by decide +kernel
theorem d_La_law_804 : decode M_La_law.2.1 804 = .ok (.iload_n 3, 1) := by decide +kernel
theorem d_La_law_805 : decode M_La_law.2.1 805 = .ok (.iconst 1, 1) := by decide +kernel
theorem d_La_law_806 : decode M_La_law.2.1 806 = .ok (.iadd, 1) := by decide +kernel
theorem d_La_law_807 : decode M_La_law.2.1 807 = .ok (.iaload, 1) := by decide +kernel
theorem d_La_law_808 : decode M_La_law.2.1 808 = .ok (.invokevirtual 114, 3) := by decide +kernel
theorem d_La_law_811 : decode M_La_law.2.1 811 = .ok (.aload_n 2, 1) := by decide +kernel
theorem d_La_law_812 : decode M_La_law.2.1 812 = .ok (.aload_n 0, 1) := by decide +kernel
theorem d_La_law_813 : decode M_La_law.2.1 813 = .ok (.iload_n 3, 1) := by decide +kernel
theorem d_La_law_814 : decode M_La_law.2.1 814 = .ok (.iconst 1, 1) := by decide +kernel
theorem d_La_law_815 : decode M_La_law.2.1 815 = .ok (.iadd, 1) := by decide +kernel
theorem d_La_law_816 : decode M_La_law.2.1 816 = .ok (.iaload, 1) := by decide +kernel
theorem d_La_law_817 : decode M_La_law.2.1 817 = .ok (.invokevirtual 117, 3) := by decide +kernel
theorem d_La_law_820 : decode M_La_law.2.1 820 = .ok (.if_icmp .eq 65, 3) := by decide +kernel
theorem d_La_law_823 : decode M_La_law.2.1 823 = .ok (.iconst 0, 1) := by decide +kernel
theorem d_La_law_824 : decode M_La_law.2.1 824 = .ok (.ireturn, 1) := by decide +kernel
theorem d_La_law_825 : decode M_La_law.2.1 825 = .ok (.aload_n 1, 1) := by decide +kernel
theorem d_La_law_826 : decode M_La_law.2.1 826 = .ok (.aload_n 0, 1) := by decide +kernel
theorem d_La_law_827 : decode M_La_law.2.1 827 = .ok (.iload_n 3, 1) := by decide +kernel
theorem d_La_law_828 : decode M_La_law.2.1 828 = .ok (.iconst 1, 1) := by decide +kernel
theorem d_La_law_829 : decode M_La_law.2.1 829 = .ok (.iadd, 1) := by decide +kernel
theorem d_La_law_830 : decode M_La_law.2.1 830 = .ok (.iaload, 1) := by decide +kernel
theorem d_La_law_831 : decode M_La_law.2.1 831 = .ok (.invokevirtual 118, 3) := by decide +kernel
theorem d_La_law_834 : decode M_La_law.2.1 834 = .ok (.aload_n 2, 1) := by decide +kernel
theorem d_La_law_835 : decode M_La_law.2.1 835 = .ok (.aload_n 0, 1) := by decide +kernel
theorem d_La_law_836 : decode M_La_law.2.1 836 = .ok (.iload_n 3, 1) := by decide +kernel
theorem d_La_law_837 : decode M_La_law.2.1 837 = .ok (.iconst 1, 1) := by decide +kernel
theorem d_La_law_838 : decode M_La_law.2.1 838 = .ok (.iadd, 1) := by decide +kernel
theorem d_La_law_839 : decode M_La_law.2.1 839 = .ok (.iaload, 1) := by decide +kernel
theorem d_La_law_840 : decode M_La_law.2.1 840 = .ok (.invokevirtual 121, 3) := by decide +kernel
theorem d_La_law_843 : decode M_La_law.2.1 843 = .ok (.if_icmp .eq 42, 3) := by decide +kernel
theorem d_La_law_846 : decode M_La_law.2.1 846 = .ok (.iconst 0, 1) := by decide +kernel
theorem d_La_law_847 : decode M_La_law.2.1 847 = .ok (.ireturn, 1) := by decide +kernel
theorem d_La_law_848 : decode M_La_law.2.1 848 = .ok (.aload_n 1, 1) := by decide +kernel
theorem d_La_law_849 : decode M_La_law.2.1 849 = .ok (.aload_n 0, 1) := by decide +kernel
theorem d_La_law_850 : decode M_La_law.2.1 850 = .ok (.iload_n 3, 1) := by decide +kernel
theorem d_La_law_851 : decode M_La_law.2.1 851 = .ok (.iconst 1, 1) := by decide +kernel
theorem d_La_law_852 : decode M_La_law.2.1 852 = .ok (.iadd, 1) := by decide +kernel
theorem d_La_law_853 : decode M_La_law.2.1 853 = .ok (.iaload, 1) := by decide +kernel
theorem d_La_law_854 : decode M_La_law.2.1 854 = .ok (.invokevirtual 122, 3) := by decide +kernel
theorem d_La_law_857 : decode M_La_law.2.1 857 = .ok (.aload_n 2, 1) := by decide +kernel
theorem d_La_law_858 : decode M_La_law.2.1 858 = .ok (.aload_n 0, 1) := by decide +kernel
theorem d_La_law_859 : decode M_La_law.2.1 859 = .ok (.iload_n 3, 1) := by decide +kernel
theorem d_La_law_860 : decode M_La_law.2.1 860 = .ok (.iconst 1, 1) := by decide +kernel
theorem d_La_law_861 : decode M_La_law.2.1 861 = .ok (.iadd, 1) := by decide +kernel
theorem d_La_law_862 : decode M_La_law.2.1 862 = .ok (.iaload, 1) := by decide +kernel
theorem d_La_law_863 : decode M_La_law.2.1 863 = .ok (.invokevirtual 125, 3) := by decide +kernel
theorem d_La_law_866 : decode M_La_law.2.1 866 = .ok (.if_icmp .eq 19, 3) := by decide +kernel
theorem d_La_law_869 : decode M_La_law.2.1 869 = .ok (.iconst 0, 1) := by decide +kernel
theorem d_La_law_870 : decode M_La_law.2.1 870 = .ok (.ireturn, 1) := by decide +kernel
theorem d_La_law_871 : decode M_La_law.2.1 871 = .ok (.aload_n 1, 1) := by decide +kernel
theorem d_La_law_872 : decode M_La_law.2.1 872 = .ok (.invokevirtual 126, 3) := by decide +kernel
theorem d_La_law_875 : decode M_La_law.2.1 875 = .ok (.aload_n 2, 1) := by decide +kernel
theorem d_La_law_876 : decode M_La_law.2.1 876 = .ok (.invokevirtual 130, 3) := by decide +kernel
theorem d_La_law_879 : decode M_La_law.2.1 879 = .ok (.lcmp, 1) := by decide +kernel
theorem d_La_law_880 : decode M_La_law.2.1 880 = .ok (.ifCond .eq 5, 3) := by decide +kernel
theorem d_La_law_883 : decode M_La_law.2.1 883 = .ok (.iconst 0, 1) := by decide +kernel
theorem d_La_law_884 : decode M_La_law.2.1 884 = .ok (.ireturn, 1) := by decide +kernel
theorem d_La_law_885 : decode M_La_law.2.1 885 = .ok (.iinc 3 6, 3) := by decide +kernel
theorem d_La_law_888 : decode M_La_law.2.1 888 = .ok (.goto (-870), 3) := by decide +kernel
theorem d_La_law_891 : decode M_La_law.2.1 891 = .ok (.iconst 1, 1) := by decide +kernel
theorem d_La_law_892 : decode M_La_law.2.1 892 = .ok (.ireturn, 1) := by decide +kernel
end
section
/-! calls by the number of arguments; small rules -/
def Ci (X : EX) (d : Nat) (M : Mt) (av : List Value) (h : AH) (Q : Int32 → AH → Prop) : Prop := C X d M av h (fun r h1 => ∃ v : Int32, r = some (.int v) ∧ Q v h1)
def Cl (X : EX) (d : Nat) (M : Mt) (av : List Value) (h : AH) (Q : Int64 → AH → Prop) : Prop := C X d M av h (fun r h1 => ∃ v : Int64, r = some (.long v) ∧ Q v h1)
def Cv (X : EX) (d : Nat) (M : Mt) (av : List Value) (h : AH) (Q : AH → Prop) : Prop := C X d M av h (fun r h1 => r = none ∧ Q h1)
def VK (M' : Mt) (n ci : Nat) : Prop := MK M' n ∧ Cond.instanceMethod M'.1 ∈ e_gw ∧ Cond.selects M'.1.cls M'.1 M'.1 ∈ e_gw ∧ (e_cl[ci]?).map (fun r => r.1) = some M'.1.cls
def SK (M' : Mt) (n : Nat) : Prop := MK M' n ∧ Cond.static M'.1 ∈ e_gw
def IK (M' : Mt) (n : Nat) : Prop := MK M' n ∧ Cond.instanceMethod M'.1 ∈ e_gw ∧ M'.1.name = "<init>" ∧ M'.2.2.2 = none
section ENG8
variable {X : EX} {d : Nat} {M M' : Mt} {pc pc' idx b ci : Nat} {ls st fs rest : List Value} {a1 a2 a3 a4 a5 : Value} {h : AH} {Q : Option Value → AH → Prop} {Q1 : Int32 → AH → Prop} {Q2 : AH → Prop} {Q3 : Int64 → AH → Prop}
theorem T_V0i (hd : decode M.2.1 pc = .ok (.invokevirtual idx, 3)) (hn : pc + 3 = pc') (hl : CL M.1.cls idx M') (hv : VK M' 0 ci) (hb : h.2 b = some (.inr (.inr (ci, fs)))) (hW : (rest.map fun v => v.category).sum ≤ 8) (hc : Ci X d M' (.ref b :: []) h Q1) (kk : ∀ (v : Int32) (h1 : AH), Q1 v h1 → T X (d + 1) M pc' ls (.int v :: rest) h1 Q) : T X (d + 1) M pc ls (.ref b :: rest) h Q :=
  T_callV (As := []) hd hn hl hv.1 hv.2.1 hv.2.2.1 hv.2.2.2 hb rfl hW rfl hc (fun r h1 q => by obtain ⟨v, rfl, q⟩ := q; exact kk v h1 q)
theorem T_V0v (hd : decode M.2.1 pc = .ok (.invokevirtual idx, 3)) (hn : pc + 3 = pc') (hl : CL M.1.cls idx M') (hv : VK M' 0 ci) (hb : h.2 b = some (.inr (.inr (ci, fs)))) (hW : (rest.map fun v => v.category).sum ≤ 8) (hc : Cv X d M' (.ref b :: []) h Q2) (kk : ∀ (h1 : AH), Q2 h1 → T X (d + 1) M pc' ls (rest) h1 Q) : T X (d + 1) M pc ls (.ref b :: rest) h Q :=
  T_callV (As := []) hd hn hl hv.1 hv.2.1 hv.2.2.1 hv.2.2.2 hb rfl hW rfl hc (fun r h1 q => by obtain ⟨rfl, q⟩ := q; exact kk h1 q)
theorem T_V0l (hd : decode M.2.1 pc = .ok (.invokevirtual idx, 3)) (hn : pc + 3 = pc') (hl : CL M.1.cls idx M') (hv : VK M' 0 ci) (hb : h.2 b = some (.inr (.inr (ci, fs)))) (hW : (rest.map fun v => v.category).sum ≤ 8) (hc : Cl X d M' (.ref b :: []) h Q3) (kk : ∀ (v : Int64) (h1 : AH), Q3 v h1 → T X (d + 1) M pc' ls (.long v :: rest) h1 Q) : T X (d + 1) M pc ls (.ref b :: rest) h Q :=
  T_callV (As := []) hd hn hl hv.1 hv.2.1 hv.2.2.1 hv.2.2.2 hb rfl hW rfl hc (fun r h1 q => by obtain ⟨v, rfl, q⟩ := q; exact kk v h1 q)
theorem T_I0v (hd : decode M.2.1 pc = .ok (.invokespecial idx, 3)) (hn : pc + 3 = pc') (hl : CL M.1.cls idx M') (hv : IK M' 0) (hW : (rest.map fun v => v.category).sum ≤ 8) (hc : Cv X d M' (.ref b :: []) h Q2) (kk : ∀ (h1 : AH), Q2 h1 → T X (d + 1) M pc' ls rest h1 Q) : T X (d + 1) M pc ls (.ref b :: rest) h Q :=
  T_callI (As := []) hd hn hl hv.1 hv.2.1 hv.2.2 rfl hW rfl hc (fun r h1 q => by obtain ⟨rfl, q⟩ := q; exact kk h1 q)
theorem T_V1i (hd : decode M.2.1 pc = .ok (.invokevirtual idx, 3)) (hn : pc + 3 = pc') (hl : CL M.1.cls idx M') (hv : VK M' 1 ci) (hb : h.2 b = some (.inr (.inr (ci, fs)))) (hW : (rest.map fun v => v.category).sum ≤ 8) (hc : Ci X d M' (.ref b :: [a1]) h Q1) (kk : ∀ (v : Int32) (h1 : AH), Q1 v h1 → T X (d + 1) M pc' ls (.int v :: rest) h1 Q) : T X (d + 1) M pc ls (a1 :: .ref b :: rest) h Q :=
  T_callV (As := [a1]) hd hn hl hv.1 hv.2.1 hv.2.2.1 hv.2.2.2 hb rfl hW rfl hc (fun r h1 q => by obtain ⟨v, rfl, q⟩ := q; exact kk v h1 q)
theorem T_V1v (hd : decode M.2.1 pc = .ok (.invokevirtual idx, 3)) (hn : pc + 3 = pc') (hl : CL M.1.cls idx M') (hv : VK M' 1 ci) (hb : h.2 b = some (.inr (.inr (ci, fs)))) (hW : (rest.map fun v => v.category).sum ≤ 8) (hc : Cv X d M' (.ref b :: [a1]) h Q2) (kk : ∀ (h1 : AH), Q2 h1 → T X (d + 1) M pc' ls (rest) h1 Q) : T X (d + 1) M pc ls (a1 :: .ref b :: rest) h Q :=
  T_callV (As := [a1]) hd hn hl hv.1 hv.2.1 hv.2.2.1 hv.2.2.2 hb rfl hW rfl hc (fun r h1 q => by obtain ⟨rfl, q⟩ := q; exact kk h1 q)
theorem T_S1i (hd : decode M.2.1 pc = .ok (.invokestatic idx, 3)) (hn : pc + 3 = pc') (hl : CL M.1.cls idx M') (hv : SK M' 1) (hW : (rest.map fun v => v.category).sum ≤ 8) (hc : Ci X d M' [a1] h Q1) (kk : ∀ (v : Int32) (h1 : AH), Q1 v h1 → T X (d + 1) M pc' ls (.int v :: rest) h1 Q) : T X (d + 1) M pc ls (a1 :: rest) h Q :=
  T_callS (As := [a1]) hd hn hl hv.1 hv.2 rfl hW rfl hc (fun r h1 q => by obtain ⟨v, rfl, q⟩ := q; exact kk v h1 q)
theorem T_S1v (hd : decode M.2.1 pc = .ok (.invokestatic idx, 3)) (hn : pc + 3 = pc') (hl : CL M.1.cls idx M') (hv : SK M' 1) (hW : (rest.map fun v => v.category).sum ≤ 8) (hc : Cv X d M' [a1] h Q2) (kk : ∀ (h1 : AH), Q2 h1 → T X (d + 1) M pc' ls (rest) h1 Q) : T X (d + 1) M pc ls (a1 :: rest) h Q :=
  T_callS (As := [a1]) hd hn hl hv.1 hv.2 rfl hW rfl hc (fun r h1 q => by obtain ⟨rfl, q⟩ := q; exact kk h1 q)
theorem T_I1v (hd : decode M.2.1 pc = .ok (.invokespecial idx, 3)) (hn : pc + 3 = pc') (hl : CL M.1.cls idx M') (hv : IK M' 1) (hW : (rest.map fun v => v.category).sum ≤ 8) (hc : Cv X d M' (.ref b :: [a1]) h Q2) (kk : ∀ (h1 : AH), Q2 h1 → T X (d + 1) M pc' ls rest h1 Q) : T X (d + 1) M pc ls (a1 :: .ref b :: rest) h Q :=
  T_callI (As := [a1]) hd hn hl hv.1 hv.2.1 hv.2.2 rfl hW rfl hc (fun r h1 q => by obtain ⟨rfl, q⟩ := q; exact kk h1 q)
theorem T_V2i (hd : decode M.2.1 pc = .ok (.invokevirtual idx, 3)) (hn : pc + 3 = pc') (hl : CL M.1.cls idx M') (hv : VK M' 2 ci) (hb : h.2 b = some (.inr (.inr (ci, fs)))) (hW : (rest.map fun v => v.category).sum ≤ 8) (hc : Ci X d M' (.ref b :: [a1, a2]) h Q1) (kk : ∀ (v : Int32) (h1 : AH), Q1 v h1 → T X (d + 1) M pc' ls (.int v :: rest) h1 Q) : T X (d + 1) M pc ls (a2 :: a1 :: .ref b :: rest) h Q :=
  T_callV (As := [a1, a2]) hd hn hl hv.1 hv.2.1 hv.2.2.1 hv.2.2.2 hb rfl hW rfl hc (fun r h1 q => by obtain ⟨v, rfl, q⟩ := q; exact kk v h1 q)
theorem T_V2v (hd : decode M.2.1 pc = .ok (.invokevirtual idx, 3)) (hn : pc + 3 = pc') (hl : CL M.1.cls idx M') (hv : VK M' 2 ci) (hb : h.2 b = some (.inr (.inr (ci, fs)))) (hW : (rest.map fun v => v.category).sum ≤ 8) (hc : Cv X d M' (.ref b :: [a1, a2]) h Q2) (kk : ∀ (h1 : AH), Q2 h1 → T X (d + 1) M pc' ls (rest) h1 Q) : T X (d + 1) M pc ls (a2 :: a1 :: .ref b :: rest) h Q :=
  T_callV (As := [a1, a2]) hd hn hl hv.1 hv.2.1 hv.2.2.1 hv.2.2.2 hb rfl hW rfl hc (fun r h1 q => by obtain ⟨rfl, q⟩ := q; exact kk h1 q)
theorem T_S2i (hd : decode M.2.1 pc = .ok (.invokestatic idx, 3)) (hn : pc + 3 = pc') (hl : CL M.1.cls idx M') (hv : SK M' 2) (hW : (rest.map fun v => v.category).sum ≤ 8) (hc : Ci X d M' [a1, a2] h Q1) (kk : ∀ (v : Int32) (h1 : AH), Q1 v h1 → T X (d + 1) M pc' ls (.int v :: rest) h1 Q) : T X (d + 1) M pc ls (a2 :: a1 :: rest) h Q :=
  T_callS (As := [a1, a2]) hd hn hl hv.1 hv.2 rfl hW rfl hc (fun r h1 q => by obtain ⟨v, rfl, q⟩ := q; exact kk v h1 q)
theorem T_S2v (hd : decode M.2.1 pc = .ok (.invokestatic idx, 3)) (hn : pc + 3 = pc') (hl : CL M.1.cls idx M') (hv : SK M' 2) (hW : (rest.map fun v => v.category).sum ≤ 8) (hc : Cv X d M' [a1, a2] h Q2) (kk : ∀ (h1 : AH), Q2 h1 → T X (d + 1) M pc' ls (rest) h1 Q) : T X (d + 1) M pc ls (a2 :: a1 :: rest) h Q :=
  T_callS (As := [a1, a2]) hd hn hl hv.1 hv.2 rfl hW rfl hc (fun r h1 q => by obtain ⟨rfl, q⟩ := q; exact kk h1 q)
theorem T_V3i (hd : decode M.2.1 pc = .ok (.invokevirtual idx, 3)) (hn : pc + 3 = pc') (hl : CL M.1.cls idx M') (hv : VK M' 3 ci) (hb : h.2 b = some (.inr (.inr (ci, fs)))) (hW : (rest.map fun v => v.category).sum ≤ 8) (hc : Ci X d M' (.ref b :: [a1, a2, a3]) h Q1) (kk : ∀ (v : Int32) (h1 : AH), Q1 v h1 → T X (d + 1) M pc' ls (.int v :: rest) h1 Q) : T X (d + 1) M pc ls (a3 :: a2 :: a1 :: .ref b :: rest) h Q :=
  T_callV (As := [a1, a2, a3]) hd hn hl hv.1 hv.2.1 hv.2.2.1 hv.2.2.2 hb rfl hW rfl hc (fun r h1 q => by obtain ⟨v, rfl, q⟩ := q; exact kk v h1 q)
theorem T_V3v (hd : decode M.2.1 pc = .ok (.invokevirtual idx, 3)) (hn : pc + 3 = pc') (hl : CL M.1.cls idx M') (hv : VK M' 3 ci) (hb : h.2 b = some (.inr (.inr (ci, fs)))) (hW : (rest.map fun v => v.category).sum ≤ 8) (hc : Cv X d M' (.ref b :: [a1, a2, a3]) h Q2) (kk : ∀ (h1 : AH), Q2 h1 → T X (d + 1) M pc' ls (rest) h1 Q) : T X (d + 1) M pc ls (a3 :: a2 :: a1 :: .ref b :: rest) h Q :=
  T_callV (As := [a1, a2, a3]) hd hn hl hv.1 hv.2.1 hv.2.2.1 hv.2.2.2 hb rfl hW rfl hc (fun r h1 q => by obtain ⟨rfl, q⟩ := q; exact kk h1 q)
theorem T_S3i (hd : decode M.2.1 pc = .ok (.invokestatic idx, 3)) (hn : pc + 3 = pc') (hl : CL M.1.cls idx M') (hv : SK M' 3) (hW : (rest.map fun v => v.category).sum ≤ 8) (hc : Ci X d M' [a1, a2, a3] h Q1) (kk : ∀ (v : Int32) (h1 : AH), Q1 v h1 → T X (d + 1) M pc' ls (.int v :: rest) h1 Q) : T X (d + 1) M pc ls (a3 :: a2 :: a1 :: rest) h Q :=
  T_callS (As := [a1, a2, a3]) hd hn hl hv.1 hv.2 rfl hW rfl hc (fun r h1 q => by obtain ⟨v, rfl, q⟩ := q; exact kk v h1 q)
theorem T_S3v (hd : decode M.2.1 pc = .ok (.invokestatic idx, 3)) (hn : pc + 3 = pc') (hl : CL M.1.cls idx M') (hv : SK M' 3) (hW : (rest.map fun v => v.category).sum ≤ 8) (hc : Cv X d M' [a1, a2, a3] h Q2) (kk : ∀ (h1 : AH), Q2 h1 → T X (d + 1) M pc' ls (rest) h1 Q) : T X (d + 1) M pc ls (a3 :: a2 :: a1 :: rest) h Q :=
  T_callS (As := [a1, a2, a3]) hd hn hl hv.1 hv.2 rfl hW rfl hc (fun r h1 q => by obtain ⟨rfl, q⟩ := q; exact kk h1 q)
theorem T_V5i (hd : decode M.2.1 pc = .ok (.invokevirtual idx, 3)) (hn : pc + 3 = pc') (hl : CL M.1.cls idx M') (hv : VK M' 5 ci) (hb : h.2 b = some (.inr (.inr (ci, fs)))) (hW : (rest.map fun v => v.category).sum ≤ 8) (hc : Ci X d M' (.ref b :: [a1, a2, a3, a4, a5]) h Q1) (kk : ∀ (v : Int32) (h1 : AH), Q1 v h1 → T X (d + 1) M pc' ls (.int v :: rest) h1 Q) : T X (d + 1) M pc ls (a5 :: a4 :: a3 :: a2 :: a1 :: .ref b :: rest) h Q :=
  T_callV (As := [a1, a2, a3, a4, a5]) hd hn hl hv.1 hv.2.1 hv.2.2.1 hv.2.2.2 hb rfl hW rfl hc (fun r h1 q => by obtain ⟨v, rfl, q⟩ := q; exact kk v h1 q)
theorem T_puti {k a : Nat} {fin : Bool} {fs' : List Value} {x : Int32} (hd : decode M.2.1 pc = .ok (.putfield idx, 3)) (hn : pc + 3 = pc') (hf : FL M.1.cls idx ci k .int fin) (hfi : fin = true → M.1.name = "<init>") (ha : h.2 a = some (.inr (.inr (ci, fs)))) (hl0 : k < fs.length) (hfs : fs.set k (.int x) = fs') (kk : T X d M pc' ls st (e_put h a (.inr (.inr (ci, fs')))) Q) : T X d M pc ls (.int x :: .ref a :: st) h Q :=
  T_put hd hn hf hfi ha hl0 rfl rfl hfs kk
theorem T_putz {k a : Nat} {fin : Bool} {fs' : List Value} {x : Int32} (hd : decode M.2.1 pc = .ok (.putfield idx, 3)) (hn : pc + 3 = pc') (hf : FL M.1.cls idx ci k .boolean fin) (hfi : fin = true → M.1.name = "<init>") (ha : h.2 a = some (.inr (.inr (ci, fs)))) (hl0 : k < fs.length) (hx : x = 0 ∨ x = 1) (hfs : fs.set k (.int x) = fs') (kk : T X d M pc' ls st (e_put h a (.inr (.inr (ci, fs')))) Q) : T X d M pc ls (.int x :: .ref a :: st) h Q :=
  T_put hd hn hf hfi ha hl0 (by rcases hx with rfl | rfl <;> rfl) (by rcases hx with rfl | rfl <;> rfl) hfs kk
theorem T_putl {k a : Nat} {fin : Bool} {fs' : List Value} {x : Int64} (hd : decode M.2.1 pc = .ok (.putfield idx, 3)) (hn : pc + 3 = pc') (hf : FL M.1.cls idx ci k .long fin) (hfi : fin = true → M.1.name = "<init>") (ha : h.2 a = some (.inr (.inr (ci, fs)))) (hl0 : k < fs.length) (hfs : fs.set k (.long x) = fs') (kk : T X d M pc' ls st (e_put h a (.inr (.inr (ci, fs')))) Q) : T X d M pc ls (.long x :: .ref a :: st) h Q :=
  T_put hd hn hf hfi ha hl0 rfl rfl hfs kk
theorem T_puto {k a x : Nat} {fin : Bool} {fs' : List Value} {o : String} (hd : decode M.2.1 pc = .ok (.putfield idx, 3)) (hn : pc + 3 = pc') (hf : FL M.1.cls idx ci k (.object o) fin) (hfi : fin = true → M.1.name = "<init>") (ha : h.2 a = some (.inr (.inr (ci, fs)))) (hl0 : k < fs.length) (hfs : fs.set k (.ref x) = fs') (kk : T X d M pc' ls st (e_put h a (.inr (.inr (ci, fs')))) Q) : T X d M pc ls (.ref x :: .ref a :: st) h Q :=
  T_put hd hn hf hfi ha hl0 rfl rfl hfs kk
theorem T_puta {k a x : Nat} {fin : Bool} {fs' : List Value} {t : FieldType} (hd : decode M.2.1 pc = .ok (.putfield idx, 3)) (hn : pc + 3 = pc') (hf : FL M.1.cls idx ci k (.array t) fin) (hfi : fin = true → M.1.name = "<init>") (ha : h.2 a = some (.inr (.inr (ci, fs)))) (hl0 : k < fs.length) (hfs : fs.set k (.ref x) = fs') (kk : T X d M pc' ls st (e_put h a (.inr (.inr (ci, fs')))) Q) : T X d M pc ls (.ref x :: .ref a :: st) h Q :=
  T_put hd hn hf hfi ha hl0 rfl rfl hfs kk
theorem e_put_s {a : Nat} {c : AC} : (e_put h a c).2 a = some c := if_pos rfl
theorem e_put_n {a k : Nat} {c : AC} (hk : k ≠ a) : (e_put h a c).2 k = h.2 k := if_neg hk
theorem in_dec {i : Int32} {n : Nat} (hz : decide (¬ (i < 0 ∨ n ≤ i.toNatClampNeg)) = true) : vp_in i n := by
  have hz := of_decide_eq_true hz
  exact hz
theorem C_mono {av : List Value} {Q Q' : Option Value → AH → Prop} (hc : C X d M av h Q) (hq : ∀ r h1, Q r h1 → Q' r h1) : C X d M av h Q' := by
  obtain ⟨r, h1, q, w⟩ := hc
  exact ⟨r, h1, hq r h1 q, w⟩
theorem T_mono {Q' : Option Value → AH → Prop} (hc : T X d M pc ls st h Q) (hq : ∀ r h1, Q r h1 → Q' r h1) : T X d M pc ls st h Q' := by
  obtain ⟨r, h1, q, w⟩ := hc
  exact ⟨r, h1, hq r h1 q, w⟩
end ENG8
theorem v_Tb_init : IK M_Tb_init 0 := ⟨k_Tb_init, i_Tb_init, rfl, rfl⟩
theorem v_Tx_init : IK M_Tx_init 0 := ⟨k_Tx_init, i_Tx_init, rfl, rfl⟩
theorem v_To_init : IK M_To_init 0 := ⟨k_To_init, i_To_init, rfl, rfl⟩
theorem v_Fl_init : IK M_Fl_init 0 := ⟨k_Fl_init, i_Fl_init, rfl, rfl⟩
theorem v_Hi_init : IK M_Hi_init 0 := ⟨k_Hi_init, i_Hi_init, rfl, rfl⟩
theorem v_Se_init : IK M_Se_init 1 := ⟨k_Se_init, i_Se_init, rfl, rfl⟩
theorem v_Od_init : IK M_Od_init 0 := ⟨k_Od_init, i_Od_init, rfl, rfl⟩
theorem v_Re_init : IK M_Re_init 0 := ⟨k_Re_init, i_Re_init, rfl, rfl⟩
theorem v_Im_init : IK M_Im_init 0 := ⟨k_Im_init, i_Im_init, rfl, rfl⟩
theorem v_Tb_startAnew : VK M_Tb_startAnew 0 8 := ⟨k_Tb_startAnew, i_Tb_startAnew, s_Tb_startAnew, rfl⟩
theorem v_Fl_start : VK M_Fl_start 2 0 := ⟨k_Fl_start, i_Fl_start, s_Fl_start, rfl⟩
theorem v_Fl_thinkNothing : VK M_Fl_thinkNothing 0 0 := ⟨k_Fl_thinkNothing, i_Fl_thinkNothing, s_Fl_thinkNothing, rfl⟩
theorem v_Re_drop : VK M_Re_drop 0 4 := ⟨k_Re_drop, i_Re_drop, s_Re_drop, rfl⟩
theorem v_Tb_type : VK M_Tb_type 1 8 := ⟨k_Tb_type, i_Tb_type, s_Tb_type, rfl⟩
theorem v_Tb_within : SK M_Tb_within 3 := ⟨k_Tb_within, i_Tb_within⟩
theorem v_Tx_add : VK M_Tx_add 1 6 := ⟨k_Tx_add, i_Tx_add, s_Tx_add, rfl⟩
theorem v_Tb_clear : VK M_Tb_clear 0 8 := ⟨k_Tb_clear, i_Tb_clear, s_Tb_clear, rfl⟩
theorem v_Tx_drop : VK M_Tx_drop 0 6 := ⟨k_Tx_drop, i_Tx_drop, s_Tx_drop, rfl⟩
theorem v_Tb_sheds : VK M_Tb_sheds 0 8 := ⟨k_Tb_sheds, i_Tb_sheds, s_Tb_sheds, rfl⟩
theorem v_Tx_readInto : VK M_Tx_readInto 1 6 := ⟨k_Tx_readInto, i_Tx_readInto, s_Tx_readInto, rfl⟩
theorem v_To_tellNothing : VK M_To_tellNothing 0 7 := ⟨k_To_tellNothing, i_To_tellNothing, s_To_tellNothing, rfl⟩
theorem v_Ar_fill : SK M_Ar_fill 2 := ⟨k_Ar_fill, i_Ar_fill⟩
theorem v_Tx_readToken : VK M_Tx_readToken 0 6 := ⟨k_Tx_readToken, i_Tx_readToken, s_Tx_readToken, rfl⟩
theorem v_Tx_isLetter : SK M_Tx_isLetter 1 := ⟨k_Tx_isLetter, i_Tx_isLetter⟩
theorem v_Tx_readLetters : VK M_Tx_readLetters 0 6 := ⟨k_Tx_readLetters, i_Tx_readLetters, s_Tx_readLetters, rfl⟩
theorem v_Tx_isDigit : SK M_Tx_isDigit 1 := ⟨k_Tx_isDigit, i_Tx_isDigit⟩
theorem v_Tx_readNumber : VK M_Tx_readNumber 0 6 := ⟨k_Tx_readNumber, i_Tx_readNumber, s_Tx_readNumber, rfl⟩
theorem v_Ma_min : SK M_Ma_min 2 := ⟨k_Ma_min, i_Ma_min⟩
theorem v_Tx_readItem : VK M_Tx_readItem 1 6 := ⟨k_Tx_readItem, i_Tx_readItem, s_Tx_readItem, rfl⟩
theorem v_Tx_itemBegun : VK M_Tx_itemBegun 1 6 := ⟨k_Tx_itemBegun, i_Tx_itemBegun, s_Tx_itemBegun, rfl⟩
theorem v_Tx_tell : VK M_Tx_tell 2 6 := ⟨k_Tx_tell, i_Tx_tell, s_Tx_tell, rfl⟩
theorem v_To_tellWind : VK M_To_tellWind 2 7 := ⟨k_To_tellWind, i_To_tellWind, s_To_tellWind, rfl⟩
theorem v_To_tellPerson : VK M_To_tellPerson 3 7 := ⟨k_To_tellPerson, i_To_tellPerson, s_To_tellPerson, rfl⟩
theorem v_To_tellThought : VK M_To_tellThought 2 7 := ⟨k_To_tellThought, i_To_tellThought, s_To_tellThought, rfl⟩
theorem v_To_copyFrom : VK M_To_copyFrom 1 7 := ⟨k_To_copyFrom, i_To_copyFrom, s_To_copyFrom, rfl⟩
theorem v_Tb_wind : VK M_Tb_wind 1 8 := ⟨k_Tb_wind, i_Tb_wind, s_Tb_wind, rfl⟩
theorem v_To_windAt : VK M_To_windAt 1 7 := ⟨k_To_windAt, i_To_windAt, s_To_windAt, rfl⟩
theorem v_Tb_one : VK M_Tb_one 2 8 := ⟨k_Tb_one, i_Tb_one, s_Tb_one, rfl⟩
theorem v_To_hasPerson : VK M_To_hasPerson 1 7 := ⟨k_To_hasPerson, i_To_hasPerson, s_To_hasPerson, rfl⟩
theorem v_Fl_hasAboard : VK M_Fl_hasAboard 1 0 := ⟨k_Fl_hasAboard, i_Fl_hasAboard, s_Fl_hasAboard, rfl⟩
theorem v_Fl_usedBy : VK M_Fl_usedBy 1 0 := ⟨k_Fl_usedBy, i_Fl_usedBy, s_Fl_usedBy, rfl⟩
theorem v_To_liftsOf : VK M_To_liftsOf 1 7 := ⟨k_To_liftsOf, i_To_liftsOf, s_To_liftsOf, rfl⟩
theorem v_To_canLift : VK M_To_canLift 2 7 := ⟨k_To_canLift, i_To_canLift, s_To_canLift, rfl⟩
theorem v_Tb_thought : VK M_Tb_thought 2 8 := ⟨k_Tb_thought, i_Tb_thought, s_Tb_thought, rfl⟩
theorem v_To_hasThought : VK M_To_hasThought 1 7 := ⟨k_To_hasThought, i_To_hasThought, s_To_hasThought, rfl⟩
theorem v_Tb_begins : VK M_Tb_begins 2 8 := ⟨k_Tb_begins, i_Tb_begins, s_Tb_begins, rfl⟩
theorem v_Fl_mayBegin : VK M_Fl_mayBegin 2 0 := ⟨k_Fl_mayBegin, i_Fl_mayBegin, s_Fl_mayBegin, rfl⟩
theorem v_Hi_push : VK M_Hi_push 1 1 := ⟨k_Hi_push, i_Hi_push, s_Hi_push, rfl⟩
theorem v_Hi_dropOldest : VK M_Hi_dropOldest 0 1 := ⟨k_Hi_dropOldest, i_Hi_dropOldest, s_Hi_dropOldest, rfl⟩
theorem v_Fl_copyFrom : VK M_Fl_copyFrom 1 0 := ⟨k_Fl_copyFrom, i_Fl_copyFrom, s_Fl_copyFrom, rfl⟩
theorem v_Fl_begin : VK M_Fl_begin 2 0 := ⟨k_Fl_begin, i_Fl_begin, s_Fl_begin, rfl⟩
theorem v_Fl_think : VK M_Fl_think 2 0 := ⟨k_Fl_think, i_Fl_think, s_Fl_think, rfl⟩
theorem v_To_hold : VK M_To_hold 1 7 := ⟨k_To_hold, i_To_hold, s_To_hold, rfl⟩
theorem v_To_faded : SK M_To_faded 3 := ⟨k_To_faded, i_To_faded⟩
theorem v_Ma_max : SK M_Ma_max 2 := ⟨k_Ma_max, i_Ma_max⟩
theorem v_Tb_minutes : VK M_Tb_minutes 1 8 := ⟨k_Tb_minutes, i_Tb_minutes, s_Tb_minutes, rfl⟩
theorem v_To_passMinutes : VK M_To_passMinutes 2 7 := ⟨k_To_passMinutes, i_To_passMinutes, s_To_passMinutes, rfl⟩
theorem v_To_passMinute : VK M_To_passMinute 1 7 := ⟨k_To_passMinute, i_To_passMinute, s_To_passMinute, rfl⟩
theorem v_To_load : VK M_To_load 1 7 := ⟨k_To_load, i_To_load, s_To_load, rfl⟩
theorem v_Fl_climb : VK M_Fl_climb 1 0 := ⟨k_Fl_climb, i_Fl_climb, s_Fl_climb, rfl⟩
theorem v_Fl_drift : VK M_Fl_drift 1 0 := ⟨k_Fl_drift, i_Fl_drift, s_Fl_drift, rfl⟩
theorem v_Tb_enters : VK M_Tb_enters 1 8 := ⟨k_Tb_enters, i_Tb_enters, s_Tb_enters, rfl⟩
theorem v_Fl_mayBeBoarded : VK M_Fl_mayBeBoarded 0 0 := ⟨k_Fl_mayBeBoarded, i_Fl_mayBeBoarded, s_Fl_mayBeBoarded, rfl⟩
theorem v_Fl_takeIn : VK M_Fl_takeIn 1 0 := ⟨k_Fl_takeIn, i_Fl_takeIn, s_Fl_takeIn, rfl⟩
theorem v_In_bitCount : SK M_In_bitCount 1 := ⟨k_In_bitCount, i_In_bitCount⟩
theorem v_Tb_leaves : VK M_Tb_leaves 1 8 := ⟨k_Tb_leaves, i_Tb_leaves, s_Tb_leaves, rfl⟩
theorem v_Fl_letOut : VK M_Fl_letOut 1 0 := ⟨k_Fl_letOut, i_Fl_letOut, s_Fl_letOut, rfl⟩
theorem v_Tb_undo : VK M_Tb_undo 0 8 := ⟨k_Tb_undo, i_Tb_undo, s_Tb_undo, rfl⟩
theorem v_Hi_pop : VK M_Hi_pop 1 1 := ⟨k_Hi_pop, i_Hi_pop, s_Hi_pop, rfl⟩
theorem v_Tb_now : VK M_Tb_now 1 8 := ⟨k_Tb_now, i_Tb_now, s_Tb_now, rfl⟩
theorem v_To_cover : VK M_To_cover 0 7 := ⟨k_To_cover, i_To_cover, s_To_cover, rfl⟩
theorem v_To_covers : VK M_To_covers 1 7 := ⟨k_To_covers, i_To_covers, s_To_covers, rfl⟩
theorem v_Tb_after : VK M_Tb_after 2 8 := ⟨k_Tb_after, i_Tb_after, s_Tb_after, rfl⟩
theorem v_Tb_down : VK M_Tb_down 0 8 := ⟨k_Tb_down, i_Tb_down, s_Tb_down, rfl⟩
theorem v_Tb_best : VK M_Tb_best 3 8 := ⟨k_Tb_best, i_Tb_best, s_Tb_best, rfl⟩
theorem v_Se_run : VK M_Se_run 3 5 := ⟨k_Se_run, i_Se_run, s_Se_run, rfl⟩
theorem v_Se_fillReach : VK M_Se_fillReach 0 5 := ⟨k_Se_fillReach, i_Se_fillReach, s_Se_fillReach, rfl⟩
theorem v_Se_tryTurns : VK M_Se_tryTurns 1 5 := ⟨k_Se_tryTurns, i_Se_tryTurns, s_Se_tryTurns, rfl⟩
theorem v_Se_bound : VK M_Se_bound 1 5 := ⟨k_Se_bound, i_Se_bound, s_Se_bound, rfl⟩
theorem v_Se_tryTurn : VK M_Se_tryTurn 3 5 := ⟨k_Se_tryTurn, i_Se_tryTurn, s_Se_tryTurn, rfl⟩
theorem v_Tb_own : VK M_Tb_own 1 8 := ⟨k_Tb_own, i_Tb_own, s_Tb_own, rfl⟩
theorem v_To_firstOwnWay : VK M_To_firstOwnWay 0 7 := ⟨k_To_firstOwnWay, i_To_firstOwnWay, s_To_firstOwnWay, rfl⟩
theorem v_To_countOwn : VK M_To_countOwn 1 7 := ⟨k_To_countOwn, i_To_countOwn, s_To_countOwn, rfl⟩
theorem v_To_ownIn : VK M_To_ownIn 2 7 := ⟨k_To_ownIn, i_To_ownIn, s_To_ownIn, rfl⟩
theorem v_Tb_odds : VK M_Tb_odds 5 8 := ⟨k_Tb_odds, i_Tb_odds, s_Tb_odds, rfl⟩
theorem v_Od_startAt : VK M_Od_startAt 1 3 := ⟨k_Od_startAt, i_Od_startAt, s_Od_startAt, rfl⟩
theorem v_Od_spread : VK M_Od_spread 2 3 := ⟨k_Od_spread, i_Od_spread, s_Od_spread, rfl⟩
theorem v_Od_carry : VK M_Od_carry 2 3 := ⟨k_Od_carry, i_Od_carry, s_Od_carry, rfl⟩
theorem v_Od_upper : VK M_Od_upper 1 3 := ⟨k_Od_upper, i_Od_upper, s_Od_upper, rfl⟩
theorem v_Od_common : VK M_Od_common 1 3 := ⟨k_Od_common, i_Od_common, s_Od_common, rfl⟩
theorem v_Od_lower : VK M_Od_lower 1 3 := ⟨k_Od_lower, i_Od_lower, s_Od_lower, rfl⟩
theorem v_Tb_saw : VK M_Tb_saw 3 8 := ⟨k_Tb_saw, i_Tb_saw, s_Tb_saw, rfl⟩
theorem v_Re_add : VK M_Re_add 3 4 := ⟨k_Re_add, i_Re_add, s_Re_add, rfl⟩
theorem v_Tb_which : VK M_Tb_which 1 8 := ⟨k_Tb_which, i_Tb_which, s_Tb_which, rfl⟩
theorem v_Tb_fitting : VK M_Tb_fitting 1 8 := ⟨k_Tb_fitting, i_Tb_fitting, s_Tb_fitting, rfl⟩
theorem v_Tb_fits : VK M_Tb_fits 2 8 := ⟨k_Tb_fits, i_Tb_fits, s_Tb_fits, rfl⟩
theorem v_Tb_heightLater : VK M_Tb_heightLater 3 8 := ⟨k_Tb_heightLater, i_Tb_heightLater, s_Tb_heightLater, rfl⟩
theorem v_Tb_look : VK M_Tb_look 1 8 := ⟨k_Tb_look, i_Tb_look, s_Tb_look, rfl⟩
theorem v_Tb_greatestAlike : VK M_Tb_greatestAlike 3 8 := ⟨k_Tb_greatestAlike, i_Tb_greatestAlike, s_Tb_greatestAlike, rfl⟩
theorem v_Tb_hears : VK M_Tb_hears 2 8 := ⟨k_Tb_hears, i_Tb_hears, s_Tb_hears, rfl⟩
theorem v_Tb_laws : VK M_Tb_laws 1 8 := ⟨k_Tb_laws, i_Tb_laws, s_Tb_laws, rfl⟩
theorem v_Tb_isLaw : VK M_Tb_isLaw 2 8 := ⟨k_Tb_isLaw, i_Tb_isLaw, s_Tb_isLaw, rfl⟩
theorem v_Tb_forget : VK M_Tb_forget 0 8 := ⟨k_Tb_forget, i_Tb_forget, s_Tb_forget, rfl⟩
theorem v_Tb_mark : VK M_Tb_mark 2 8 := ⟨k_Tb_mark, i_Tb_mark, s_Tb_mark, rfl⟩
theorem v_Tb_markLover : VK M_Tb_markLover 1 8 := ⟨k_Tb_markLover, i_Tb_markLover, s_Tb_markLover, rfl⟩
theorem v_Tb_markOne : VK M_Tb_markOne 1 8 := ⟨k_Tb_markOne, i_Tb_markOne, s_Tb_markOne, rfl⟩
theorem v_Tb_markGrudge : VK M_Tb_markGrudge 1 8 := ⟨k_Tb_markGrudge, i_Tb_markGrudge, s_Tb_markGrudge, rfl⟩
theorem v_Tb_markPoet : VK M_Tb_markPoet 1 8 := ⟨k_Tb_markPoet, i_Tb_markPoet, s_Tb_markPoet, rfl⟩
theorem v_Tb_markMiser : VK M_Tb_markMiser 1 8 := ⟨k_Tb_markMiser, i_Tb_markMiser, s_Tb_markMiser, rfl⟩
theorem v_Tb_markWife : VK M_Tb_markWife 1 8 := ⟨k_Tb_markWife, i_Tb_markWife, s_Tb_markWife, rfl⟩
theorem v_Tb_keep : VK M_Tb_keep 1 8 := ⟨k_Tb_keep, i_Tb_keep, s_Tb_keep, rfl⟩
theorem v_Im_take : VK M_Im_take 2 2 := ⟨k_Im_take, i_Im_take, s_Im_take, rfl⟩
theorem v_Hi_copyFrom : VK M_Hi_copyFrom 1 1 := ⟨k_Hi_copyFrom, i_Hi_copyFrom, s_Hi_copyFrom, rfl⟩
theorem v_Tb_back : VK M_Tb_back 1 8 := ⟨k_Tb_back, i_Tb_back, s_Tb_back, rfl⟩
theorem v_Im_give : VK M_Im_give 2 2 := ⟨k_Im_give, i_Im_give, s_Im_give, rfl⟩
theorem v_Tb_count : VK M_Tb_count 1 8 := ⟨k_Tb_count, i_Tb_count, s_Tb_count, rfl⟩
theorem v_Tb_trace : VK M_Tb_trace 0 8 := ⟨k_Tb_trace, i_Tb_trace, s_Tb_trace, rfl⟩
theorem v_Mo_init : IK M_Mo_init 0 := ⟨k_Mo_init, i_Mo_init, rfl, rfl⟩
theorem v_Mo_type : VK M_Mo_type 1 9 := ⟨k_Mo_type, i_Mo_type, s_Mo_type, rfl⟩
theorem v_Mo_in : SK M_Mo_in 3 := ⟨k_Mo_in, i_Mo_in⟩
theorem v_Mo_clear : VK M_Mo_clear 0 9 := ⟨k_Mo_clear, i_Mo_clear, s_Mo_clear, rfl⟩
theorem v_Mo_sheds : VK M_Mo_sheds 0 9 := ⟨k_Mo_sheds, i_Mo_sheds, s_Mo_sheds, rfl⟩
theorem v_Mo_read : VK M_Mo_read 0 9 := ⟨k_Mo_read, i_Mo_read, s_Mo_read, rfl⟩
theorem v_Mo_step : VK M_Mo_step 0 9 := ⟨k_Mo_step, i_Mo_step, s_Mo_step, rfl⟩
theorem v_Mo_here : VK M_Mo_here 0 9 := ⟨k_Mo_here, i_Mo_here, s_Mo_here, rfl⟩
theorem v_Mo_may : VK M_Mo_may 1 9 := ⟨k_Mo_may, i_Mo_may, s_Mo_may, rfl⟩
theorem v_Mo_due : VK M_Mo_due 1 9 := ⟨k_Mo_due, i_Mo_due, s_Mo_due, rfl⟩
theorem v_Mo_item : VK M_Mo_item 1 9 := ⟨k_Mo_item, i_Mo_item, s_Mo_item, rfl⟩
theorem v_Mo_number : VK M_Mo_number 2 9 := ⟨k_Mo_number, i_Mo_number, s_Mo_number, rfl⟩
theorem v_Mo_wind : VK M_Mo_wind 1 9 := ⟨k_Mo_wind, i_Mo_wind, s_Mo_wind, rfl⟩
theorem v_Mo_one : VK M_Mo_one 2 9 := ⟨k_Mo_one, i_Mo_one, s_Mo_one, rfl⟩
theorem v_Mo_isOne : VK M_Mo_isOne 1 9 := ⟨k_Mo_isOne, i_Mo_isOne, s_Mo_isOne, rfl⟩
theorem v_Mo_has : SK M_Mo_has 2 := ⟨k_Mo_has, i_Mo_has⟩
theorem v_Mo_liftsOf : VK M_Mo_liftsOf 1 9 := ⟨k_Mo_liftsOf, i_Mo_liftsOf, s_Mo_liftsOf, rfl⟩
theorem v_Mo_thought : VK M_Mo_thought 2 9 := ⟨k_Mo_thought, i_Mo_thought, s_Mo_thought, rfl⟩
theorem v_Mo_isThought : VK M_Mo_isThought 1 9 := ⟨k_Mo_isThought, i_Mo_isThought, s_Mo_isThought, rfl⟩
theorem v_Mo_begins : VK M_Mo_begins 2 9 := ⟨k_Mo_begins, i_Mo_begins, s_Mo_begins, rfl⟩
theorem v_Mo_canBegin : SK M_Mo_canBegin 3 := ⟨k_Mo_canBegin, i_Mo_canBegin⟩
theorem v_Mo_know : VK M_Mo_know 0 9 := ⟨k_Mo_know, i_Mo_know, s_Mo_know, rfl⟩
theorem v_Mo_begin : SK M_Mo_begin 3 := ⟨k_Mo_begin, i_Mo_begin⟩
theorem v_Mo_hold : VK M_Mo_hold 1 9 := ⟨k_Mo_hold, i_Mo_hold, s_Mo_hold, rfl⟩
theorem v_Mo_minutes : VK M_Mo_minutes 1 9 := ⟨k_Mo_minutes, i_Mo_minutes, s_Mo_minutes, rfl⟩
theorem v_Mo_passOn : VK M_Mo_passOn 1 9 := ⟨k_Mo_passOn, i_Mo_passOn, s_Mo_passOn, rfl⟩
theorem v_Mo_weights : VK M_Mo_weights 1 9 := ⟨k_Mo_weights, i_Mo_weights, s_Mo_weights, rfl⟩
theorem v_Mo_enters : VK M_Mo_enters 1 9 := ⟨k_Mo_enters, i_Mo_enters, s_Mo_enters, rfl⟩
theorem v_Mo_isAtRest : VK M_Mo_isAtRest 0 9 := ⟨k_Mo_isAtRest, i_Mo_isAtRest, s_Mo_isAtRest, rfl⟩
theorem v_Mo_bitsOf : SK M_Mo_bitsOf 1 := ⟨k_Mo_bitsOf, i_Mo_bitsOf⟩
theorem v_Mo_leaves : VK M_Mo_leaves 1 9 := ⟨k_Mo_leaves, i_Mo_leaves, s_Mo_leaves, rfl⟩
theorem v_Mo_undo : VK M_Mo_undo 0 9 := ⟨k_Mo_undo, i_Mo_undo, s_Mo_undo, rfl⟩
theorem v_Mo_now : VK M_Mo_now 1 9 := ⟨k_Mo_now, i_Mo_now, s_Mo_now, rfl⟩
theorem v_Mo_cover : VK M_Mo_cover 0 9 := ⟨k_Mo_cover, i_Mo_cover, s_Mo_cover, rfl⟩
theorem v_Mo_after : VK M_Mo_after 2 9 := ⟨k_Mo_after, i_Mo_after, s_Mo_after, rfl⟩
theorem v_Mo_take : VK M_Mo_take 0 9 := ⟨k_Mo_take, i_Mo_take, s_Mo_take, rfl⟩
theorem v_Mo_down : VK M_Mo_down 0 9 := ⟨k_Mo_down, i_Mo_down, s_Mo_down, rfl⟩
theorem v_Mo_best : VK M_Mo_best 3 9 := ⟨k_Mo_best, i_Mo_best, s_Mo_best, rfl⟩
theorem v_Mo_goBy : VK M_Mo_goBy 4 9 := ⟨k_Mo_goBy, i_Mo_goBy, s_Mo_goBy, rfl⟩
theorem v_Mo_own : VK M_Mo_own 1 9 := ⟨k_Mo_own, i_Mo_own, s_Mo_own, rfl⟩
theorem v_Mo_odds : VK M_Mo_odds 5 9 := ⟨k_Mo_odds, i_Mo_odds, s_Mo_odds, rfl⟩
theorem v_Mo_saw : VK M_Mo_saw 3 9 := ⟨k_Mo_saw, i_Mo_saw, s_Mo_saw, rfl⟩
theorem v_Mo_which : VK M_Mo_which 1 9 := ⟨k_Mo_which, i_Mo_which, s_Mo_which, rfl⟩
theorem v_Mo_whichBy : VK M_Mo_whichBy 1 9 := ⟨k_Mo_whichBy, i_Mo_whichBy, s_Mo_whichBy, rfl⟩
theorem v_Mo_heightBy : VK M_Mo_heightBy 3 9 := ⟨k_Mo_heightBy, i_Mo_heightBy, s_Mo_heightBy, rfl⟩
theorem v_Mo_look : VK M_Mo_look 1 9 := ⟨k_Mo_look, i_Mo_look, s_Mo_look, rfl⟩
theorem v_Mo_hears : VK M_Mo_hears 2 9 := ⟨k_Mo_hears, i_Mo_hears, s_Mo_hears, rfl⟩
theorem v_Mo_laws : VK M_Mo_laws 1 9 := ⟨k_Mo_laws, i_Mo_laws, s_Mo_laws, rfl⟩
theorem v_Mo_forget : VK M_Mo_forget 0 9 := ⟨k_Mo_forget, i_Mo_forget, s_Mo_forget, rfl⟩
theorem v_Mo_mark : VK M_Mo_mark 2 9 := ⟨k_Mo_mark, i_Mo_mark, s_Mo_mark, rfl⟩
theorem v_Mo_bodiesOf : SK M_Mo_bodiesOf 1 := ⟨k_Mo_bodiesOf, i_Mo_bodiesOf⟩
theorem v_Mo_trace : VK M_Mo_trace 0 9 := ⟨k_Mo_trace, i_Mo_trace, s_Mo_trace, rfl⟩
theorem v_Mo_keep : VK M_Mo_keep 1 9 := ⟨k_Mo_keep, i_Mo_keep, s_Mo_keep, rfl⟩
theorem v_Mo_back : VK M_Mo_back 1 9 := ⟨k_Mo_back, i_Mo_back, s_Mo_back, rfl⟩
theorem v_Mo_count : VK M_Mo_count 1 9 := ⟨k_Mo_count, i_Mo_count, s_Mo_count, rfl⟩
end
section
/-! stores into locals that are written out; locals that are forgotten; Math.max, Math.min -/
section ENG9
variable {X : EX} {d : Nat} {M : Mt} {pc pc' : Nat} {st t : List Value} {h : AH} {Q : Option Value → AH → Prop}
theorem T_is_n0 {k : Fin 4} {x : Int32} {w0 : Value} (hd : decode M.2.1 pc = .ok (.istore_n k, 1)) (hn : pc + 1 = pc') (hk : (k : Nat) = 0) (hi : 0 < M.2.2.1) (hok : e_ok (w0 :: t) 0 = true) (kk : T X d M pc' (.int x :: t) st h Q) : T X d M pc (w0 :: t) (.int x :: st) h Q :=
  T_istore_n hd hn hk hi hok rfl kk
theorem T_is0 {x : Int32} {w0 : Value} (hd : decode M.2.1 pc = .ok (.istore 0, 2)) (hn : pc + 2 = pc') (hi : 0 < M.2.2.1) (hok : e_ok (w0 :: t) 0 = true) (kk : T X d M pc' (.int x :: t) st h Q) : T X d M pc (w0 :: t) (.int x :: st) h Q :=
  T_istore hd hn hi hok rfl kk
theorem T_as_n0 {k : Fin 4} {x : Nat} {w0 : Value} (hd : decode M.2.1 pc = .ok (.astore_n k, 1)) (hn : pc + 1 = pc') (hk : (k : Nat) = 0) (hi : 0 < M.2.2.1) (hok : e_ok (w0 :: t) 0 = true) (kk : T X d M pc' (.ref x :: t) st h Q) : T X d M pc (w0 :: t) (.ref x :: st) h Q :=
  T_astore_n hd hn hk hi hok rfl kk
theorem T_as0 {x : Nat} {w0 : Value} (hd : decode M.2.1 pc = .ok (.astore 0, 2)) (hn : pc + 2 = pc') (hi : 0 < M.2.2.1) (hok : e_ok (w0 :: t) 0 = true) (kk : T X d M pc' (.ref x :: t) st h Q) : T X d M pc (w0 :: t) (.ref x :: st) h Q :=
  T_astore hd hn hi hok rfl kk
theorem T_ii0 {n : Int} {c x : Int32} (hd : decode M.2.1 pc = .ok (.iinc 0 n, 3)) (hn : pc + 3 = pc') (hc : Int32.ofInt n = c) (hi : 0 < M.2.2.1) (hok : e_ok (.int x :: t) 0 = true) (kk : T X d M pc' (.int (x + c) :: t) st h Q) : T X d M pc (.int x :: t) st h Q :=
  T_iinc hd hn rfl (by rw [hc]) hi hok rfl kk
theorem T_is_n1 {k : Fin 4} {x : Int32} {w0 w1 : Value} (hd : decode M.2.1 pc = .ok (.istore_n k, 1)) (hn : pc + 1 = pc') (hk : (k : Nat) = 1) (hi : 1 < M.2.2.1) (hok : e_ok (w0 :: w1 :: t) 1 = true) (kk : T X d M pc' (w0 :: .int x :: t) st h Q) : T X d M pc (w0 :: w1 :: t) (.int x :: st) h Q :=
  T_istore_n hd hn hk hi hok rfl kk
theorem T_is1 {x : Int32} {w0 w1 : Value} (hd : decode M.2.1 pc = .ok (.istore 1, 2)) (hn : pc + 2 = pc') (hi : 1 < M.2.2.1) (hok : e_ok (w0 :: w1 :: t) 1 = true) (kk : T X d M pc' (w0 :: .int x :: t) st h Q) : T X d M pc (w0 :: w1 :: t) (.int x :: st) h Q :=
  T_istore hd hn hi hok rfl kk
theorem T_as_n1 {k : Fin 4} {x : Nat} {w0 w1 : Value} (hd : decode M.2.1 pc = .ok (.astore_n k, 1)) (hn : pc + 1 = pc') (hk : (k : Nat) = 1) (hi : 1 < M.2.2.1) (hok : e_ok (w0 :: w1 :: t) 1 = true) (kk : T X d M pc' (w0 :: .ref x :: t) st h Q) : T X d M pc (w0 :: w1 :: t) (.ref x :: st) h Q :=
  T_astore_n hd hn hk hi hok rfl kk
theorem T_as1 {x : Nat} {w0 w1 : Value} (hd : decode M.2.1 pc = .ok (.astore 1, 2)) (hn : pc + 2 = pc') (hi : 1 < M.2.2.1) (hok : e_ok (w0 :: w1 :: t) 1 = true) (kk : T X d M pc' (w0 :: .ref x :: t) st h Q) : T X d M pc (w0 :: w1 :: t) (.ref x :: st) h Q :=
  T_astore hd hn hi hok rfl kk
theorem T_ii1 {n : Int} {c x : Int32} {w0 : Value} (hd : decode M.2.1 pc = .ok (.iinc 1 n, 3)) (hn : pc + 3 = pc') (hc : Int32.ofInt n = c) (hi : 1 < M.2.2.1) (hok : e_ok (w0 :: .int x :: t) 1 = true) (kk : T X d M pc' (w0 :: .int (x + c) :: t) st h Q) : T X d M pc (w0 :: .int x :: t) st h Q :=
  T_iinc hd hn rfl (by rw [hc]) hi hok rfl kk
theorem T_is_n2 {k : Fin 4} {x : Int32} {w0 w1 w2 : Value} (hd : decode M.2.1 pc = .ok (.istore_n k, 1)) (hn : pc + 1 = pc') (hk : (k : Nat) = 2) (hi : 2 < M.2.2.1) (hok : e_ok (w0 :: w1 :: w2 :: t) 2 = true) (kk : T X d M pc' (w0 :: w1 :: .int x :: t) st h Q) : T X d M pc (w0 :: w1 :: w2 :: t) (.int x :: st) h Q :=
  T_istore_n hd hn hk hi hok rfl kk
theorem T_is2 {x : Int32} {w0 w1 w2 : Value} (hd : decode M.2.1 pc = .ok (.istore 2, 2)) (hn : pc + 2 = pc') (hi : 2 < M.2.2.1) (hok : e_ok (w0 :: w1 :: w2 :: t) 2 = true) (kk : T X d M pc' (w0 :: w1 :: .int x :: t) st h Q) : T X d M pc (w0 :: w1 :: w2 :: t) (.int x :: st) h Q :=
  T_istore hd hn hi hok rfl kk
theorem T_as_n2 {k : Fin 4} {x : Nat} {w0 w1 w2 : Value} (hd : decode M.2.1 pc = .ok (.astore_n k, 1)) (hn : pc + 1 = pc') (hk : (k : Nat) = 2) (hi : 2 < M.2.2.1) (hok : e_ok (w0 :: w1 :: w2 :: t) 2 = true) (kk : T X d M pc' (w0 :: w1 :: .ref x :: t) st h Q) : T X d M pc (w0 :: w1 :: w2 :: t) (.ref x :: st) h Q :=
  T_astore_n hd hn hk hi hok rfl kk
theorem T_as2 {x : Nat} {w0 w1 w2 : Value} (hd : decode M.2.1 pc = .ok (.astore 2, 2)) (hn : pc + 2 = pc') (hi : 2 < M.2.2.1) (hok : e_ok (w0 :: w1 :: w2 :: t) 2 = true) (kk : T X d M pc' (w0 :: w1 :: .ref x :: t) st h Q) : T X d M pc (w0 :: w1 :: w2 :: t) (.ref x :: st) h Q :=
  T_astore hd hn hi hok rfl kk
theorem T_ii2 {n : Int} {c x : Int32} {w0 w1 : Value} (hd : decode M.2.1 pc = .ok (.iinc 2 n, 3)) (hn : pc + 3 = pc') (hc : Int32.ofInt n = c) (hi : 2 < M.2.2.1) (hok : e_ok (w0 :: w1 :: .int x :: t) 2 = true) (kk : T X d M pc' (w0 :: w1 :: .int (x + c) :: t) st h Q) : T X d M pc (w0 :: w1 :: .int x :: t) st h Q :=
  T_iinc hd hn rfl (by rw [hc]) hi hok rfl kk
theorem T_is_n3 {k : Fin 4} {x : Int32} {w0 w1 w2 w3 : Value} (hd : decode M.2.1 pc = .ok (.istore_n k, 1)) (hn : pc + 1 = pc') (hk : (k : Nat) = 3) (hi : 3 < M.2.2.1) (hok : e_ok (w0 :: w1 :: w2 :: w3 :: t) 3 = true) (kk : T X d M pc' (w0 :: w1 :: w2 :: .int x :: t) st h Q) : T X d M pc (w0 :: w1 :: w2 :: w3 :: t) (.int x :: st) h Q :=
  T_istore_n hd hn hk hi hok rfl kk
theorem T_is3 {x : Int32} {w0 w1 w2 w3 : Value} (hd : decode M.2.1 pc = .ok (.istore 3, 2)) (hn : pc + 2 = pc') (hi : 3 < M.2.2.1) (hok : e_ok (w0 :: w1 :: w2 :: w3 :: t) 3 = true) (kk : T X d M pc' (w0 :: w1 :: w2 :: .int x :: t) st h Q) : T X d M pc (w0 :: w1 :: w2 :: w3 :: t) (.int x :: st) h Q :=
  T_istore hd hn hi hok rfl kk
theorem T_as_n3 {k : Fin 4} {x : Nat} {w0 w1 w2 w3 : Value} (hd : decode M.2.1 pc = .ok (.astore_n k, 1)) (hn : pc + 1 = pc') (hk : (k : Nat) = 3) (hi : 3 < M.2.2.1) (hok : e_ok (w0 :: w1 :: w2 :: w3 :: t) 3 = true) (kk : T X d M pc' (w0 :: w1 :: w2 :: .ref x :: t) st h Q) : T X d M pc (w0 :: w1 :: w2 :: w3 :: t) (.ref x :: st) h Q :=
  T_astore_n hd hn hk hi hok rfl kk
theorem T_as3 {x : Nat} {w0 w1 w2 w3 : Value} (hd : decode M.2.1 pc = .ok (.astore 3, 2)) (hn : pc + 2 = pc') (hi : 3 < M.2.2.1) (hok : e_ok (w0 :: w1 :: w2 :: w3 :: t) 3 = true) (kk : T X d M pc' (w0 :: w1 :: w2 :: .ref x :: t) st h Q) : T X d M pc (w0 :: w1 :: w2 :: w3 :: t) (.ref x :: st) h Q :=
  T_astore hd hn hi hok rfl kk
theorem T_ii3 {n : Int} {c x : Int32} {w0 w1 w2 : Value} (hd : decode M.2.1 pc = .ok (.iinc 3 n, 3)) (hn : pc + 3 = pc') (hc : Int32.ofInt n = c) (hi : 3 < M.2.2.1) (hok : e_ok (w0 :: w1 :: w2 :: .int x :: t) 3 = true) (kk : T X d M pc' (w0 :: w1 :: w2 :: .int (x + c) :: t) st h Q) : T X d M pc (w0 :: w1 :: w2 :: .int x :: t) st h Q :=
  T_iinc hd hn rfl (by rw [hc]) hi hok rfl kk
theorem T_is4 {x : Int32} {w0 w1 w2 w3 w4 : Value} (hd : decode M.2.1 pc = .ok (.istore 4, 2)) (hn : pc + 2 = pc') (hi : 4 < M.2.2.1) (hok : e_ok (w0 :: w1 :: w2 :: w3 :: w4 :: t) 4 = true) (kk : T X d M pc' (w0 :: w1 :: w2 :: w3 :: .int x :: t) st h Q) : T X d M pc (w0 :: w1 :: w2 :: w3 :: w4 :: t) (.int x :: st) h Q :=
  T_istore hd hn hi hok rfl kk
theorem T_as4 {x : Nat} {w0 w1 w2 w3 w4 : Value} (hd : decode M.2.1 pc = .ok (.astore 4, 2)) (hn : pc + 2 = pc') (hi : 4 < M.2.2.1) (hok : e_ok (w0 :: w1 :: w2 :: w3 :: w4 :: t) 4 = true) (kk : T X d M pc' (w0 :: w1 :: w2 :: w3 :: .ref x :: t) st h Q) : T X d M pc (w0 :: w1 :: w2 :: w3 :: w4 :: t) (.ref x :: st) h Q :=
  T_astore hd hn hi hok rfl kk
theorem T_ii4 {n : Int} {c x : Int32} {w0 w1 w2 w3 : Value} (hd : decode M.2.1 pc = .ok (.iinc 4 n, 3)) (hn : pc + 3 = pc') (hc : Int32.ofInt n = c) (hi : 4 < M.2.2.1) (hok : e_ok (w0 :: w1 :: w2 :: w3 :: .int x :: t) 4 = true) (kk : T X d M pc' (w0 :: w1 :: w2 :: w3 :: .int (x + c) :: t) st h Q) : T X d M pc (w0 :: w1 :: w2 :: w3 :: .int x :: t) st h Q :=
  T_iinc hd hn rfl (by rw [hc]) hi hok rfl kk
theorem T_is5 {x : Int32} {w0 w1 w2 w3 w4 w5 : Value} (hd : decode M.2.1 pc = .ok (.istore 5, 2)) (hn : pc + 2 = pc') (hi : 5 < M.2.2.1) (hok : e_ok (w0 :: w1 :: w2 :: w3 :: w4 :: w5 :: t) 5 = true) (kk : T X d M pc' (w0 :: w1 :: w2 :: w3 :: w4 :: .int x :: t) st h Q) : T X d M pc (w0 :: w1 :: w2 :: w3 :: w4 :: w5 :: t) (.int x :: st) h Q :=
  T_istore hd hn hi hok rfl kk
theorem T_as5 {x : Nat} {w0 w1 w2 w3 w4 w5 : Value} (hd : decode M.2.1 pc = .ok (.astore 5, 2)) (hn : pc + 2 = pc') (hi : 5 < M.2.2.1) (hok : e_ok (w0 :: w1 :: w2 :: w3 :: w4 :: w5 :: t) 5 = true) (kk : T X d M pc' (w0 :: w1 :: w2 :: w3 :: w4 :: .ref x :: t) st h Q) : T X d M pc (w0 :: w1 :: w2 :: w3 :: w4 :: w5 :: t) (.ref x :: st) h Q :=
  T_astore hd hn hi hok rfl kk
theorem T_ii5 {n : Int} {c x : Int32} {w0 w1 w2 w3 w4 : Value} (hd : decode M.2.1 pc = .ok (.iinc 5 n, 3)) (hn : pc + 3 = pc') (hc : Int32.ofInt n = c) (hi : 5 < M.2.2.1) (hok : e_ok (w0 :: w1 :: w2 :: w3 :: w4 :: .int x :: t) 5 = true) (kk : T X d M pc' (w0 :: w1 :: w2 :: w3 :: w4 :: .int (x + c) :: t) st h Q) : T X d M pc (w0 :: w1 :: w2 :: w3 :: w4 :: .int x :: t) st h Q :=
  T_iinc hd hn rfl (by rw [hc]) hi hok rfl kk
theorem T_is6 {x : Int32} {w0 w1 w2 w3 w4 w5 w6 : Value} (hd : decode M.2.1 pc = .ok (.istore 6, 2)) (hn : pc + 2 = pc') (hi : 6 < M.2.2.1) (hok : e_ok (w0 :: w1 :: w2 :: w3 :: w4 :: w5 :: w6 :: t) 6 = true) (kk : T X d M pc' (w0 :: w1 :: w2 :: w3 :: w4 :: w5 :: .int x :: t) st h Q) : T X d M pc (w0 :: w1 :: w2 :: w3 :: w4 :: w5 :: w6 :: t) (.int x :: st) h Q :=
  T_istore hd hn hi hok rfl kk
theorem T_as6 {x : Nat} {w0 w1 w2 w3 w4 w5 w6 : Value} (hd : decode M.2.1 pc = .ok (.astore 6, 2)) (hn : pc + 2 = pc') (hi : 6 < M.2.2.1) (hok : e_ok (w0 :: w1 :: w2 :: w3 :: w4 :: w5 :: w6 :: t) 6 = true) (kk : T X d M pc' (w0 :: w1 :: w2 :: w3 :: w4 :: w5 :: .ref x :: t) st h Q) : T X d M pc (w0 :: w1 :: w2 :: w3 :: w4 :: w5 :: w6 :: t) (.ref x :: st) h Q :=
  T_astore hd hn hi hok rfl kk
theorem T_ii6 {n : Int} {c x : Int32} {w0 w1 w2 w3 w4 w5 : Value} (hd : decode M.2.1 pc = .ok (.iinc 6 n, 3)) (hn : pc + 3 = pc') (hc : Int32.ofInt n = c) (hi : 6 < M.2.2.1) (hok : e_ok (w0 :: w1 :: w2 :: w3 :: w4 :: w5 :: .int x :: t) 6 = true) (kk : T X d M pc' (w0 :: w1 :: w2 :: w3 :: w4 :: w5 :: .int (x + c) :: t) st h Q) : T X d M pc (w0 :: w1 :: w2 :: w3 :: w4 :: w5 :: .int x :: t) st h Q :=
  T_iinc hd hn rfl (by rw [hc]) hi hok rfl kk
theorem T_is7 {x : Int32} {w0 w1 w2 w3 w4 w5 w6 w7 : Value} (hd : decode M.2.1 pc = .ok (.istore 7, 2)) (hn : pc + 2 = pc') (hi : 7 < M.2.2.1) (hok : e_ok (w0 :: w1 :: w2 :: w3 :: w4 :: w5 :: w6 :: w7 :: t) 7 = true) (kk : T X d M pc' (w0 :: w1 :: w2 :: w3 :: w4 :: w5 :: w6 :: .int x :: t) st h Q) : T X d M pc (w0 :: w1 :: w2 :: w3 :: w4 :: w5 :: w6 :: w7 :: t) (.int x :: st) h Q :=
  T_istore hd hn hi hok rfl kk
theorem T_as7 {x : Nat} {w0 w1 w2 w3 w4 w5 w6 w7 : Value} (hd : decode M.2.1 pc = .ok (.astore 7, 2)) (hn : pc + 2 = pc') (hi : 7 < M.2.2.1) (hok : e_ok (w0 :: w1 :: w2 :: w3 :: w4 :: w5 :: w6 :: w7 :: t) 7 = true) (kk : T X d M pc' (w0 :: w1 :: w2 :: w3 :: w4 :: w5 :: w6 :: .ref x :: t) st h Q) : T X d M pc (w0 :: w1 :: w2 :: w3 :: w4 :: w5 :: w6 :: w7 :: t) (.ref x :: st) h Q :=
  T_astore hd hn hi hok rfl kk
theorem T_ii7 {n : Int} {c x : Int32} {w0 w1 w2 w3 w4 w5 w6 : Value} (hd : decode M.2.1 pc = .ok (.iinc 7 n, 3)) (hn : pc + 3 = pc') (hc : Int32.ofInt n = c) (hi : 7 < M.2.2.1) (hok : e_ok (w0 :: w1 :: w2 :: w3 :: w4 :: w5 :: w6 :: .int x :: t) 7 = true) (kk : T X d M pc' (w0 :: w1 :: w2 :: w3 :: w4 :: w5 :: w6 :: .int (x + c) :: t) st h Q) : T X d M pc (w0 :: w1 :: w2 :: w3 :: w4 :: w5 :: w6 :: .int x :: t) st h Q :=
  T_iinc hd hn rfl (by rw [hc]) hi hok rfl kk
theorem T_is8 {x : Int32} {w0 w1 w2 w3 w4 w5 w6 w7 w8 : Value} (hd : decode M.2.1 pc = .ok (.istore 8, 2)) (hn : pc + 2 = pc') (hi : 8 < M.2.2.1) (hok : e_ok (w0 :: w1 :: w2 :: w3 :: w4 :: w5 :: w6 :: w7 :: w8 :: t) 8 = true) (kk : T X d M pc' (w0 :: w1 :: w2 :: w3 :: w4 :: w5 :: w6 :: w7 :: .int x :: t) st h Q) : T X d M pc (w0 :: w1 :: w2 :: w3 :: w4 :: w5 :: w6 :: w7 :: w8 :: t) (.int x :: st) h Q :=
  T_istore hd hn hi hok rfl kk
theorem T_as8 {x : Nat} {w0 w1 w2 w3 w4 w5 w6 w7 w8 : Value} (hd : decode M.2.1 pc = .ok (.astore 8, 2)) (hn : pc + 2 = pc') (hi : 8 < M.2.2.1) (hok : e_ok (w0 :: w1 :: w2 :: w3 :: w4 :: w5 :: w6 :: w7 :: w8 :: t) 8 = true) (kk : T X d M pc' (w0 :: w1 :: w2 :: w3 :: w4 :: w5 :: w6 :: w7 :: .ref x :: t) st h Q) : T X d M pc (w0 :: w1 :: w2 :: w3 :: w4 :: w5 :: w6 :: w7 :: w8 :: t) (.ref x :: st) h Q :=
  T_astore hd hn hi hok rfl kk
theorem T_ii8 {n : Int} {c x : Int32} {w0 w1 w2 w3 w4 w5 w6 w7 : Value} (hd : decode M.2.1 pc = .ok (.iinc 8 n, 3)) (hn : pc + 3 = pc') (hc : Int32.ofInt n = c) (hi : 8 < M.2.2.1) (hok : e_ok (w0 :: w1 :: w2 :: w3 :: w4 :: w5 :: w6 :: w7 :: .int x :: t) 8 = true) (kk : T X d M pc' (w0 :: w1 :: w2 :: w3 :: w4 :: w5 :: w6 :: w7 :: .int (x + c) :: t) st h Q) : T X d M pc (w0 :: w1 :: w2 :: w3 :: w4 :: w5 :: w6 :: w7 :: .int x :: t) st h Q :=
  T_iinc hd hn rfl (by rw [hc]) hi hok rfl kk
theorem T_is9 {x : Int32} {w0 w1 w2 w3 w4 w5 w6 w7 w8 w9 : Value} (hd : decode M.2.1 pc = .ok (.istore 9, 2)) (hn : pc + 2 = pc') (hi : 9 < M.2.2.1) (hok : e_ok (w0 :: w1 :: w2 :: w3 :: w4 :: w5 :: w6 :: w7 :: w8 :: w9 :: t) 9 = true) (kk : T X d M pc' (w0 :: w1 :: w2 :: w3 :: w4 :: w5 :: w6 :: w7 :: w8 :: .int x :: t) st h Q) : T X d M pc (w0 :: w1 :: w2 :: w3 :: w4 :: w5 :: w6 :: w7 :: w8 :: w9 :: t) (.int x :: st) h Q :=
  T_istore hd hn hi hok rfl kk
theorem T_as9 {x : Nat} {w0 w1 w2 w3 w4 w5 w6 w7 w8 w9 : Value} (hd : decode M.2.1 pc = .ok (.astore 9, 2)) (hn : pc + 2 = pc') (hi : 9 < M.2.2.1) (hok : e_ok (w0 :: w1 :: w2 :: w3 :: w4 :: w5 :: w6 :: w7 :: w8 :: w9 :: t) 9 = true) (kk : T X d M pc' (w0 :: w1 :: w2 :: w3 :: w4 :: w5 :: w6 :: w7 :: w8 :: .ref x :: t) st h Q) : T X d M pc (w0 :: w1 :: w2 :: w3 :: w4 :: w5 :: w6 :: w7 :: w8 :: w9 :: t) (.ref x :: st) h Q :=
  T_astore hd hn hi hok rfl kk
theorem T_ii9 {n : Int} {c x : Int32} {w0 w1 w2 w3 w4 w5 w6 w7 w8 : Value} (hd : decode M.2.1 pc = .ok (.iinc 9 n, 3)) (hn : pc + 3 = pc') (hc : Int32.ofInt n = c) (hi : 9 < M.2.2.1) (hok : e_ok (w0 :: w1 :: w2 :: w3 :: w4 :: w5 :: w6 :: w7 :: w8 :: .int x :: t) 9 = true) (kk : T X d M pc' (w0 :: w1 :: w2 :: w3 :: w4 :: w5 :: w6 :: w7 :: w8 :: .int (x + c) :: t) st h Q) : T X d M pc (w0 :: w1 :: w2 :: w3 :: w4 :: w5 :: w6 :: w7 :: w8 :: .int x :: t) st h Q :=
  T_iinc hd hn rfl (by rw [hc]) hi hok rfl kk
theorem T_is10 {x : Int32} {w0 w1 w2 w3 w4 w5 w6 w7 w8 w9 w10 : Value} (hd : decode M.2.1 pc = .ok (.istore 10, 2)) (hn : pc + 2 = pc') (hi : 10 < M.2.2.1) (hok : e_ok (w0 :: w1 :: w2 :: w3 :: w4 :: w5 :: w6 :: w7 :: w8 :: w9 :: w10 :: t) 10 = true) (kk : T X d M pc' (w0 :: w1 :: w2 :: w3 :: w4 :: w5 :: w6 :: w7 :: w8 :: w9 :: .int x :: t) st h Q) : T X d M pc (w0 :: w1 :: w2 :: w3 :: w4 :: w5 :: w6 :: w7 :: w8 :: w9 :: w10 :: t) (.int x :: st) h Q :=
  T_istore hd hn hi hok rfl kk
theorem T_as10 {x : Nat} {w0 w1 w2 w3 w4 w5 w6 w7 w8 w9 w10 : Value} (hd : decode M.2.1 pc = .ok (.astore 10, 2)) (hn : pc + 2 = pc') (hi : 10 < M.2.2.1) (hok : e_ok (w0 :: w1 :: w2 :: w3 :: w4 :: w5 :: w6 :: w7 :: w8 :: w9 :: w10 :: t) 10 = true) (kk : T X d M pc' (w0 :: w1 :: w2 :: w3 :: w4 :: w5 :: w6 :: w7 :: w8 :: w9 :: .ref x :: t) st h Q) : T X d M pc (w0 :: w1 :: w2 :: w3 :: w4 :: w5 :: w6 :: w7 :: w8 :: w9 :: w10 :: t) (.ref x :: st) h Q :=
  T_astore hd hn hi hok rfl kk
theorem T_ii10 {n : Int} {c x : Int32} {w0 w1 w2 w3 w4 w5 w6 w7 w8 w9 : Value} (hd : decode M.2.1 pc = .ok (.iinc 10 n, 3)) (hn : pc + 3 = pc') (hc : Int32.ofInt n = c) (hi : 10 < M.2.2.1) (hok : e_ok (w0 :: w1 :: w2 :: w3 :: w4 :: w5 :: w6 :: w7 :: w8 :: w9 :: .int x :: t) 10 = true) (kk : T X d M pc' (w0 :: w1 :: w2 :: w3 :: w4 :: w5 :: w6 :: w7 :: w8 :: w9 :: .int (x + c) :: t) st h Q) : T X d M pc (w0 :: w1 :: w2 :: w3 :: w4 :: w5 :: w6 :: w7 :: w8 :: w9 :: .int x :: t) st h Q :=
  T_iinc hd hn rfl (by rw [hc]) hi hok rfl kk
theorem T_is11 {x : Int32} {w0 w1 w2 w3 w4 w5 w6 w7 w8 w9 w10 w11 : Value} (hd : decode M.2.1 pc = .ok (.istore 11, 2)) (hn : pc + 2 = pc') (hi : 11 < M.2.2.1) (hok : e_ok (w0 :: w1 :: w2 :: w3 :: w4 :: w5 :: w6 :: w7 :: w8 :: w9 :: w10 :: w11 :: t) 11 = true) (kk : T X d M pc' (w0 :: w1 :: w2 :: w3 :: w4 :: w5 :: w6 :: w7 :: w8 :: w9 :: w10 :: .int x :: t) st h Q) : T X d M pc (w0 :: w1 :: w2 :: w3 :: w4 :: w5 :: w6 :: w7 :: w8 :: w9 :: w10 :: w11 :: t) (.int x :: st) h Q :=
  T_istore hd hn hi hok rfl kk
theorem T_as11 {x : Nat} {w0 w1 w2 w3 w4 w5 w6 w7 w8 w9 w10 w11 : Value} (hd : decode M.2.1 pc = .ok (.astore 11, 2)) (hn : pc + 2 = pc') (hi : 11 < M.2.2.1) (hok : e_ok (w0 :: w1 :: w2 :: w3 :: w4 :: w5 :: w6 :: w7 :: w8 :: w9 :: w10 :: w11 :: t) 11 = true) (kk : T X d M pc' (w0 :: w1 :: w2 :: w3 :: w4 :: w5 :: w6 :: w7 :: w8 :: w9 :: w10 :: .ref x :: t) st h Q) : T X d M pc (w0 :: w1 :: w2 :: w3 :: w4 :: w5 :: w6 :: w7 :: w8 :: w9 :: w10 :: w11 :: t) (.ref x :: st) h Q :=
  T_astore hd hn hi hok rfl kk
theorem T_ii11 {n : Int} {c x : Int32} {w0 w1 w2 w3 w4 w5 w6 w7 w8 w9 w10 : Value} (hd : decode M.2.1 pc = .ok (.iinc 11 n, 3)) (hn : pc + 3 = pc') (hc : Int32.ofInt n = c) (hi : 11 < M.2.2.1) (hok : e_ok (w0 :: w1 :: w2 :: w3 :: w4 :: w5 :: w6 :: w7 :: w8 :: w9 :: w10 :: .int x :: t) 11 = true) (kk : T X d M pc' (w0 :: w1 :: w2 :: w3 :: w4 :: w5 :: w6 :: w7 :: w8 :: w9 :: w10 :: .int (x + c) :: t) st h Q) : T X d M pc (w0 :: w1 :: w2 :: w3 :: w4 :: w5 :: w6 :: w7 :: w8 :: w9 :: w10 :: .int x :: t) st h Q :=
  T_iinc hd hn rfl (by rw [hc]) hi hok rfl kk
theorem T_is12 {x : Int32} {w0 w1 w2 w3 w4 w5 w6 w7 w8 w9 w10 w11 w12 : Value} (hd : decode M.2.1 pc = .ok (.istore 12, 2)) (hn : pc + 2 = pc') (hi : 12 < M.2.2.1) (hok : e_ok (w0 :: w1 :: w2 :: w3 :: w4 :: w5 :: w6 :: w7 :: w8 :: w9 :: w10 :: w11 :: w12 :: t) 12 = true) (kk : T X d M pc' (w0 :: w1 :: w2 :: w3 :: w4 :: w5 :: w6 :: w7 :: w8 :: w9 :: w10 :: w11 :: .int x :: t) st h Q) : T X d M pc (w0 :: w1 :: w2 :: w3 :: w4 :: w5 :: w6 :: w7 :: w8 :: w9 :: w10 :: w11 :: w12 :: t) (.int x :: st) h Q :=
  T_istore hd hn hi hok rfl kk
theorem T_as12 {x : Nat} {w0 w1 w2 w3 w4 w5 w6 w7 w8 w9 w10 w11 w12 : Value} (hd : decode M.2.1 pc = .ok (.astore 12, 2)) (hn : pc + 2 = pc') (hi : 12 < M.2.2.1) (hok : e_ok (w0 :: w1 :: w2 :: w3 :: w4 :: w5 :: w6 :: w7 :: w8 :: w9 :: w10 :: w11 :: w12 :: t) 12 = true) (kk : T X d M pc' (w0 :: w1 :: w2 :: w3 :: w4 :: w5 :: w6 :: w7 :: w8 :: w9 :: w10 :: w11 :: .ref x :: t) st h Q) : T X d M pc (w0 :: w1 :: w2 :: w3 :: w4 :: w5 :: w6 :: w7 :: w8 :: w9 :: w10 :: w11 :: w12 :: t) (.ref x :: st) h Q :=
  T_astore hd hn hi hok rfl kk
theorem T_ii12 {n : Int} {c x : Int32} {w0 w1 w2 w3 w4 w5 w6 w7 w8 w9 w10 w11 : Value} (hd : decode M.2.1 pc = .ok (.iinc 12 n, 3)) (hn : pc + 3 = pc') (hc : Int32.ofInt n = c) (hi : 12 < M.2.2.1) (hok : e_ok (w0 :: w1 :: w2 :: w3 :: w4 :: w5 :: w6 :: w7 :: w8 :: w9 :: w10 :: w11 :: .int x :: t) 12 = true) (kk : T X d M pc' (w0 :: w1 :: w2 :: w3 :: w4 :: w5 :: w6 :: w7 :: w8 :: w9 :: w10 :: w11 :: .int (x + c) :: t) st h Q) : T X d M pc (w0 :: w1 :: w2 :: w3 :: w4 :: w5 :: w6 :: w7 :: w8 :: w9 :: w10 :: w11 :: .int x :: t) st h Q :=
  T_iinc hd hn rfl (by rw [hc]) hi hok rfl kk
theorem T_is13 {x : Int32} {w0 w1 w2 w3 w4 w5 w6 w7 w8 w9 w10 w11 w12 w13 : Value} (hd : decode M.2.1 pc = .ok (.istore 13, 2)) (hn : pc + 2 = pc') (hi : 13 < M.2.2.1) (hok : e_ok (w0 :: w1 :: w2 :: w3 :: w4 :: w5 :: w6 :: w7 :: w8 :: w9 :: w10 :: w11 :: w12 :: w13 :: t) 13 = true) (kk : T X d M pc' (w0 :: w1 :: w2 :: w3 :: w4 :: w5 :: w6 :: w7 :: w8 :: w9 :: w10 :: w11 :: w12 :: .int x :: t) st h Q) : T X d M pc (w0 :: w1 :: w2 :: w3 :: w4 :: w5 :: w6 :: w7 :: w8 :: w9 :: w10 :: w11 :: w12 :: w13 :: t) (.int x :: st) h Q :=
  T_istore hd hn hi hok rfl kk
theorem T_as13 {x : Nat} {w0 w1 w2 w3 w4 w5 w6 w7 w8 w9 w10 w11 w12 w13 : Value} (hd : decode M.2.1 pc = .ok (.astore 13, 2)) (hn : pc + 2 = pc') (hi : 13 < M.2.2.1) (hok : e_ok (w0 :: w1 :: w2 :: w3 :: w4 :: w5 :: w6 :: w7 :: w8 :: w9 :: w10 :: w11 :: w12 :: w13 :: t) 13 = true) (kk : T X d M pc' (w0 :: w1 :: w2 :: w3 :: w4 :: w5 :: w6 :: w7 :: w8 :: w9 :: w10 :: w11 :: w12 :: .ref x :: t) st h Q) : T X d M pc (w0 :: w1 :: w2 :: w3 :: w4 :: w5 :: w6 :: w7 :: w8 :: w9 :: w10 :: w11 :: w12 :: w13 :: t) (.ref x :: st) h Q :=
  T_astore hd hn hi hok rfl kk
theorem T_ii13 {n : Int} {c x : Int32} {w0 w1 w2 w3 w4 w5 w6 w7 w8 w9 w10 w11 w12 : Value} (hd : decode M.2.1 pc = .ok (.iinc 13 n, 3)) (hn : pc + 3 = pc') (hc : Int32.ofInt n = c) (hi : 13 < M.2.2.1) (hok : e_ok (w0 :: w1 :: w2 :: w3 :: w4 :: w5 :: w6 :: w7 :: w8 :: w9 :: w10 :: w11 :: w12 :: .int x :: t) 13 = true) (kk : T X d M pc' (w0 :: w1 :: w2 :: w3 :: w4 :: w5 :: w6 :: w7 :: w8 :: w9 :: w10 :: w11 :: w12 :: .int (x + c) :: t) st h Q) : T X d M pc (w0 :: w1 :: w2 :: w3 :: w4 :: w5 :: w6 :: w7 :: w8 :: w9 :: w10 :: w11 :: w12 :: .int x :: t) st h Q :=
  T_iinc hd hn rfl (by rw [hc]) hi hok rfl kk
theorem T_weak {ls ls' : List Value} (hl : ls'.length = ls.length) (hw : ∀ (i : Nat) (v : Value), ls'[i]? = some v → v ≠ .null → ls[i]? = some v) (k : T X d M pc ls' st h Q) : T X d M pc ls st h Q :=
  T_pure (fun p e R s m args below meth c H locs cells slots Q l hC _ _ _ _ _ _ hL hk => hk l ⟨by rw [hl]; exact hL.1, hL.2.1, hL.2.2.1, fun i v hi hv => hL.2.2.2 i v (hw i v hi hv) hv⟩) k
def e_le : List Value → List Value → Prop
  | [], [] => True
  | a :: t, b :: u => (a = .null ∨ a = b) ∧ e_le t u
  | _, _ => False
theorem e_le_len : ∀ {a b : List Value}, e_le a b → a.length = b.length
  | [], [], _ => rfl
  | _ :: _, _ :: _, h => by simp [e_le_len h.2]
theorem e_le_at : ∀ {a b : List Value}, e_le a b → ∀ (i : Nat) (v : Value), a[i]? = some v → v ≠ .null → b[i]? = some v
  | [], [], _, i, v, hi, _ => by simp at hi
  | x :: _, y :: _, h, 0, v, hi, hv => by
    have hx : x = v := by simpa using hi
    subst hx
    rcases h.1 with rfl | rfl
    · exact absurd rfl hv
    · rfl
  | _ :: _, _ :: _, h, i + 1, v, hi, hv => e_le_at h.2 i v (by simpa using hi) hv
/-- locals that are no more needed are forgotten -/
theorem T_fg {ls ls' : List Value} (hl : e_le ls' ls) (k : T X d M pc ls' st h Q) : T X d M pc ls st h Q := T_weak (e_le_len hl) (e_le_at hl) k
theorem T_mmax {idx : Nat} {x y : Int32} (hd : decode M.2.1 pc = .ok (.invokestatic idx, 3)) (hn : pc + 3 = pc') (hl : CL M.1.cls idx M_Ma_max) (hW : (st.map fun v => v.category).sum ≤ 40) (kk : T X (d + 1) M pc' t (.int (if x < y then y else x) :: st) h Q) : T X (d + 1) M pc t (.int y :: .int x :: st) h Q := by
  refine T_pure (fun p e R s m args below meth c H locs cells slots Q l hC g1 g2 g3 g4 hP hS hL hq => ?_) kk
  obtain ⟨hx, hb, hml, hown, hts, -, -, -, hE⟩ := hC
  have hl' : Cond.methodLink M.1.cls idx M_Ma_max.1 ∈ e_gw := by
    rcases hl with z | ⟨host, z⟩
    · exact z
    · exact absurd (List.mem_filter.mp z).1 (fun q => by
        have hz : ∀ w ∈ e_nw, (match w with | .methodLinkNest _ _ y _ => !(y.cls == "java/lang/Math") | _ => true) = true := by decide +kernel
        have := hz _ z
        exact absurd (show (!(M_Ma_max.1.cls == "java/lang/Math")) = true from this) (by decide))
  have e1 : ((st.map (e_tr X)).map fun v => v.category) = st.map fun v => v.category := by rw [List.map_map]; exact List.map_congr_left (fun v _ => e_cat v)
  exact va_mmax hx hb (by rw [hml]; exact hL.2.1.symm) hown (hts _ hl') (hts _ i_Ma_max) (hts _ k_Ma_max.2.1) (hts _ k_Ma_max.1) (by omega) (by rw [e1]; omega) g3 g4 hd (by rw [hn]; exact hq l hL)
theorem T_mmin {idx : Nat} {x y : Int32} (hd : decode M.2.1 pc = .ok (.invokestatic idx, 3)) (hn : pc + 3 = pc') (hl : CL M.1.cls idx M_Ma_min) (hW : (st.map fun v => v.category).sum ≤ 40) (kk : T X (d + 1) M pc' t (.int (if y < x then y else x) :: st) h Q) : T X (d + 1) M pc t (.int y :: .int x :: st) h Q := by
  refine T_pure (fun p e R s m args below meth c H locs cells slots Q l hC g1 g2 g3 g4 hP hS hL hq => ?_) kk
  obtain ⟨hx, hb, hml, hown, hts, -, -, -, hE⟩ := hC
  have hl' : Cond.methodLink M.1.cls idx M_Ma_min.1 ∈ e_gw := by
    rcases hl with z | ⟨host, z⟩
    · exact z
    · exact absurd (List.mem_filter.mp z).1 (fun q => by
        have hz : ∀ w ∈ e_nw, (match w with | .methodLinkNest _ _ y _ => !(y.cls == "java/lang/Math") | _ => true) = true := by decide +kernel
        have := hz _ z
        exact absurd (show (!(M_Ma_min.1.cls == "java/lang/Math")) = true from this) (by decide))
  have e1 : ((st.map (e_tr X)).map fun v => v.category) = st.map fun v => v.category := by rw [List.map_map]; exact List.map_congr_left (fun v _ => e_cat v)
  exact va_mmin hx hb (by rw [hml]; exact hL.2.1.symm) hown (hts _ hl') (hts _ i_Ma_min) (hts _ k_Ma_min.2.1) (hts _ k_Ma_min.1) (by omega) (by rw [e1]; omega) g3 g4 hd (by rw [hn]; exact hq l hL)
end ENG9
end
section
/-! stores into fields that are written out -/
section ENG10
variable {X : EX} {d : Nat} {M : Mt} {pc pc' idx ci a : Nat} {ls st t : List Value} {h : AH} {Q : Option Value → AH → Prop} {fin : Bool}
theorem T_puti0 {x : Int32} {w0 : Value} (hd : decode M.2.1 pc = .ok (.putfield idx, 3)) (hn : pc + 3 = pc') (hf : FL M.1.cls idx ci 0 .int fin) (hfi : fin = true → M.1.name = "<init>") (ha : h.2 a = some (.inr (.inr (ci, w0 :: t)))) (kk : T X d M pc' ls st (e_put h a (.inr (.inr (ci, .int x :: t)))) Q) : T X d M pc ls (.int x :: .ref a :: st) h Q :=
  T_puti hd hn hf hfi ha (by simp only [List.length_cons]; omega) rfl kk
theorem T_puti1 {x : Int32} {w0 w1 : Value} (hd : decode M.2.1 pc = .ok (.putfield idx, 3)) (hn : pc + 3 = pc') (hf : FL M.1.cls idx ci 1 .int fin) (hfi : fin = true → M.1.name = "<init>") (ha : h.2 a = some (.inr (.inr (ci, w0 :: w1 :: t)))) (kk : T X d M pc' ls st (e_put h a (.inr (.inr (ci, w0 :: .int x :: t)))) Q) : T X d M pc ls (.int x :: .ref a :: st) h Q :=
  T_puti hd hn hf hfi ha (by simp only [List.length_cons]; omega) rfl kk
theorem T_puti2 {x : Int32} {w0 w1 w2 : Value} (hd : decode M.2.1 pc = .ok (.putfield idx, 3)) (hn : pc + 3 = pc') (hf : FL M.1.cls idx ci 2 .int fin) (hfi : fin = true → M.1.name = "<init>") (ha : h.2 a = some (.inr (.inr (ci, w0 :: w1 :: w2 :: t)))) (kk : T X d M pc' ls st (e_put h a (.inr (.inr (ci, w0 :: w1 :: .int x :: t)))) Q) : T X d M pc ls (.int x :: .ref a :: st) h Q :=
  T_puti hd hn hf hfi ha (by simp only [List.length_cons]; omega) rfl kk
theorem T_puti3 {x : Int32} {w0 w1 w2 w3 : Value} (hd : decode M.2.1 pc = .ok (.putfield idx, 3)) (hn : pc + 3 = pc') (hf : FL M.1.cls idx ci 3 .int fin) (hfi : fin = true → M.1.name = "<init>") (ha : h.2 a = some (.inr (.inr (ci, w0 :: w1 :: w2 :: w3 :: t)))) (kk : T X d M pc' ls st (e_put h a (.inr (.inr (ci, w0 :: w1 :: w2 :: .int x :: t)))) Q) : T X d M pc ls (.int x :: .ref a :: st) h Q :=
  T_puti hd hn hf hfi ha (by simp only [List.length_cons]; omega) rfl kk
theorem T_puti4 {x : Int32} {w0 w1 w2 w3 w4 : Value} (hd : decode M.2.1 pc = .ok (.putfield idx, 3)) (hn : pc + 3 = pc') (hf : FL M.1.cls idx ci 4 .int fin) (hfi : fin = true → M.1.name = "<init>") (ha : h.2 a = some (.inr (.inr (ci, w0 :: w1 :: w2 :: w3 :: w4 :: t)))) (kk : T X d M pc' ls st (e_put h a (.inr (.inr (ci, w0 :: w1 :: w2 :: w3 :: .int x :: t)))) Q) : T X d M pc ls (.int x :: .ref a :: st) h Q :=
  T_puti hd hn hf hfi ha (by simp only [List.length_cons]; omega) rfl kk
theorem T_puti5 {x : Int32} {w0 w1 w2 w3 w4 w5 : Value} (hd : decode M.2.1 pc = .ok (.putfield idx, 3)) (hn : pc + 3 = pc') (hf : FL M.1.cls idx ci 5 .int fin) (hfi : fin = true → M.1.name = "<init>") (ha : h.2 a = some (.inr (.inr (ci, w0 :: w1 :: w2 :: w3 :: w4 :: w5 :: t)))) (kk : T X d M pc' ls st (e_put h a (.inr (.inr (ci, w0 :: w1 :: w2 :: w3 :: w4 :: .int x :: t)))) Q) : T X d M pc ls (.int x :: .ref a :: st) h Q :=
  T_puti hd hn hf hfi ha (by simp only [List.length_cons]; omega) rfl kk
theorem T_puti6 {x : Int32} {w0 w1 w2 w3 w4 w5 w6 : Value} (hd : decode M.2.1 pc = .ok (.putfield idx, 3)) (hn : pc + 3 = pc') (hf : FL M.1.cls idx ci 6 .int fin) (hfi : fin = true → M.1.name = "<init>") (ha : h.2 a = some (.inr (.inr (ci, w0 :: w1 :: w2 :: w3 :: w4 :: w5 :: w6 :: t)))) (kk : T X d M pc' ls st (e_put h a (.inr (.inr (ci, w0 :: w1 :: w2 :: w3 :: w4 :: w5 :: .int x :: t)))) Q) : T X d M pc ls (.int x :: .ref a :: st) h Q :=
  T_puti hd hn hf hfi ha (by simp only [List.length_cons]; omega) rfl kk
theorem T_puti7 {x : Int32} {w0 w1 w2 w3 w4 w5 w6 w7 : Value} (hd : decode M.2.1 pc = .ok (.putfield idx, 3)) (hn : pc + 3 = pc') (hf : FL M.1.cls idx ci 7 .int fin) (hfi : fin = true → M.1.name = "<init>") (ha : h.2 a = some (.inr (.inr (ci, w0 :: w1 :: w2 :: w3 :: w4 :: w5 :: w6 :: w7 :: t)))) (kk : T X d M pc' ls st (e_put h a (.inr (.inr (ci, w0 :: w1 :: w2 :: w3 :: w4 :: w5 :: w6 :: .int x :: t)))) Q) : T X d M pc ls (.int x :: .ref a :: st) h Q :=
  T_puti hd hn hf hfi ha (by simp only [List.length_cons]; omega) rfl kk
theorem T_puti8 {x : Int32} {w0 w1 w2 w3 w4 w5 w6 w7 w8 : Value} (hd : decode M.2.1 pc = .ok (.putfield idx, 3)) (hn : pc + 3 = pc') (hf : FL M.1.cls idx ci 8 .int fin) (hfi : fin = true → M.1.name = "<init>") (ha : h.2 a = some (.inr (.inr (ci, w0 :: w1 :: w2 :: w3 :: w4 :: w5 :: w6 :: w7 :: w8 :: t)))) (kk : T X d M pc' ls st (e_put h a (.inr (.inr (ci, w0 :: w1 :: w2 :: w3 :: w4 :: w5 :: w6 :: w7 :: .int x :: t)))) Q) : T X d M pc ls (.int x :: .ref a :: st) h Q :=
  T_puti hd hn hf hfi ha (by simp only [List.length_cons]; omega) rfl kk
theorem T_puti11 {x : Int32} {w0 w1 w2 w3 w4 w5 w6 w7 w8 w9 w10 w11 : Value} (hd : decode M.2.1 pc = .ok (.putfield idx, 3)) (hn : pc + 3 = pc') (hf : FL M.1.cls idx ci 11 .int fin) (hfi : fin = true → M.1.name = "<init>") (ha : h.2 a = some (.inr (.inr (ci, w0 :: w1 :: w2 :: w3 :: w4 :: w5 :: w6 :: w7 :: w8 :: w9 :: w10 :: w11 :: t)))) (kk : T X d M pc' ls st (e_put h a (.inr (.inr (ci, w0 :: w1 :: w2 :: w3 :: w4 :: w5 :: w6 :: w7 :: w8 :: w9 :: w10 :: .int x :: t)))) Q) : T X d M pc ls (.int x :: .ref a :: st) h Q :=
  T_puti hd hn hf hfi ha (by simp only [List.length_cons]; omega) rfl kk
theorem T_puti12 {x : Int32} {w0 w1 w2 w3 w4 w5 w6 w7 w8 w9 w10 w11 w12 : Value} (hd : decode M.2.1 pc = .ok (.putfield idx, 3)) (hn : pc + 3 = pc') (hf : FL M.1.cls idx ci 12 .int fin) (hfi : fin = true → M.1.name = "<init>") (ha : h.2 a = some (.inr (.inr (ci, w0 :: w1 :: w2 :: w3 :: w4 :: w5 :: w6 :: w7 :: w8 :: w9 :: w10 :: w11 :: w12 :: t)))) (kk : T X d M pc' ls st (e_put h a (.inr (.inr (ci, w0 :: w1 :: w2 :: w3 :: w4 :: w5 :: w6 :: w7 :: w8 :: w9 :: w10 :: w11 :: .int x :: t)))) Q) : T X d M pc ls (.int x :: .ref a :: st) h Q :=
  T_puti hd hn hf hfi ha (by simp only [List.length_cons]; omega) rfl kk
theorem T_puti13 {x : Int32} {w0 w1 w2 w3 w4 w5 w6 w7 w8 w9 w10 w11 w12 w13 : Value} (hd : decode M.2.1 pc = .ok (.putfield idx, 3)) (hn : pc + 3 = pc') (hf : FL M.1.cls idx ci 13 .int fin) (hfi : fin = true → M.1.name = "<init>") (ha : h.2 a = some (.inr (.inr (ci, w0 :: w1 :: w2 :: w3 :: w4 :: w5 :: w6 :: w7 :: w8 :: w9 :: w10 :: w11 :: w12 :: w13 :: t)))) (kk : T X d M pc' ls st (e_put h a (.inr (.inr (ci, w0 :: w1 :: w2 :: w3 :: w4 :: w5 :: w6 :: w7 :: w8 :: w9 :: w10 :: w11 :: w12 :: .int x :: t)))) Q) : T X d M pc ls (.int x :: .ref a :: st) h Q :=
  T_puti hd hn hf hfi ha (by simp only [List.length_cons]; omega) rfl kk
theorem T_puti14 {x : Int32} {w0 w1 w2 w3 w4 w5 w6 w7 w8 w9 w10 w11 w12 w13 w14 : Value} (hd : decode M.2.1 pc = .ok (.putfield idx, 3)) (hn : pc + 3 = pc') (hf : FL M.1.cls idx ci 14 .int fin) (hfi : fin = true → M.1.name = "<init>") (ha : h.2 a = some (.inr (.inr (ci, w0 :: w1 :: w2 :: w3 :: w4 :: w5 :: w6 :: w7 :: w8 :: w9 :: w10 :: w11 :: w12 :: w13 :: w14 :: t)))) (kk : T X d M pc' ls st (e_put h a (.inr (.inr (ci, w0 :: w1 :: w2 :: w3 :: w4 :: w5 :: w6 :: w7 :: w8 :: w9 :: w10 :: w11 :: w12 :: w13 :: .int x :: t)))) Q) : T X d M pc ls (.int x :: .ref a :: st) h Q :=
  T_puti hd hn hf hfi ha (by simp only [List.length_cons]; omega) rfl kk
theorem T_puti16 {x : Int32} {w0 w1 w2 w3 w4 w5 w6 w7 w8 w9 w10 w11 w12 w13 w14 w15 w16 : Value} (hd : decode M.2.1 pc = .ok (.putfield idx, 3)) (hn : pc + 3 = pc') (hf : FL M.1.cls idx ci 16 .int fin) (hfi : fin = true → M.1.name = "<init>") (ha : h.2 a = some (.inr (.inr (ci, w0 :: w1 :: w2 :: w3 :: w4 :: w5 :: w6 :: w7 :: w8 :: w9 :: w10 :: w11 :: w12 :: w13 :: w14 :: w15 :: w16 :: t)))) (kk : T X d M pc' ls st (e_put h a (.inr (.inr (ci, w0 :: w1 :: w2 :: w3 :: w4 :: w5 :: w6 :: w7 :: w8 :: w9 :: w10 :: w11 :: w12 :: w13 :: w14 :: w15 :: .int x :: t)))) Q) : T X d M pc ls (.int x :: .ref a :: st) h Q :=
  T_puti hd hn hf hfi ha (by simp only [List.length_cons]; omega) rfl kk
theorem T_puti28 {x : Int32} {w0 w1 w2 w3 w4 w5 w6 w7 w8 w9 w10 w11 w12 w13 w14 w15 w16 w17 w18 w19 w20 w21 w22 w23 w24 w25 w26 w27 w28 : Value} (hd : decode M.2.1 pc = .ok (.putfield idx, 3)) (hn : pc + 3 = pc') (hf : FL M.1.cls idx ci 28 .int fin) (hfi : fin = true → M.1.name = "<init>") (ha : h.2 a = some (.inr (.inr (ci, w0 :: w1 :: w2 :: w3 :: w4 :: w5 :: w6 :: w7 :: w8 :: w9 :: w10 :: w11 :: w12 :: w13 :: w14 :: w15 :: w16 :: w17 :: w18 :: w19 :: w20 :: w21 :: w22 :: w23 :: w24 :: w25 :: w26 :: w27 :: w28 :: t)))) (kk : T X d M pc' ls st (e_put h a (.inr (.inr (ci, w0 :: w1 :: w2 :: w3 :: w4 :: w5 :: w6 :: w7 :: w8 :: w9 :: w10 :: w11 :: w12 :: w13 :: w14 :: w15 :: w16 :: w17 :: w18 :: w19 :: w20 :: w21 :: w22 :: w23 :: w24 :: w25 :: w26 :: w27 :: .int x :: t)))) Q) : T X d M pc ls (.int x :: .ref a :: st) h Q :=
  T_puti hd hn hf hfi ha (by simp only [List.length_cons]; omega) rfl kk
theorem T_puti31 {x : Int32} {w0 w1 w2 w3 w4 w5 w6 w7 w8 w9 w10 w11 w12 w13 w14 w15 w16 w17 w18 w19 w20 w21 w22 w23 w24 w25 w26 w27 w28 w29 w30 w31 : Value} (hd : decode M.2.1 pc = .ok (.putfield idx, 3)) (hn : pc + 3 = pc') (hf : FL M.1.cls idx ci 31 .int fin) (hfi : fin = true → M.1.name = "<init>") (ha : h.2 a = some (.inr (.inr (ci, w0 :: w1 :: w2 :: w3 :: w4 :: w5 :: w6 :: w7 :: w8 :: w9 :: w10 :: w11 :: w12 :: w13 :: w14 :: w15 :: w16 :: w17 :: w18 :: w19 :: w20 :: w21 :: w22 :: w23 :: w24 :: w25 :: w26 :: w27 :: w28 :: w29 :: w30 :: w31 :: t)))) (kk : T X d M pc' ls st (e_put h a (.inr (.inr (ci, w0 :: w1 :: w2 :: w3 :: w4 :: w5 :: w6 :: w7 :: w8 :: w9 :: w10 :: w11 :: w12 :: w13 :: w14 :: w15 :: w16 :: w17 :: w18 :: w19 :: w20 :: w21 :: w22 :: w23 :: w24 :: w25 :: w26 :: w27 :: w28 :: w29 :: w30 :: .int x :: t)))) Q) : T X d M pc ls (.int x :: .ref a :: st) h Q :=
  T_puti hd hn hf hfi ha (by simp only [List.length_cons]; omega) rfl kk
theorem T_putz2 {x : Int32} {w0 w1 w2 : Value} (hd : decode M.2.1 pc = .ok (.putfield idx, 3)) (hn : pc + 3 = pc') (hf : FL M.1.cls idx ci 2 .boolean fin) (hfi : fin = true → M.1.name = "<init>") (ha : h.2 a = some (.inr (.inr (ci, w0 :: w1 :: w2 :: t)))) (hx : x = 0 ∨ x = 1) (kk : T X d M pc' ls st (e_put h a (.inr (.inr (ci, w0 :: w1 :: .int x :: t)))) Q) : T X d M pc ls (.int x :: .ref a :: st) h Q :=
  T_putz hd hn hf hfi ha (by simp only [List.length_cons]; omega) hx rfl kk
theorem T_putz7 {x : Int32} {w0 w1 w2 w3 w4 w5 w6 w7 : Value} (hd : decode M.2.1 pc = .ok (.putfield idx, 3)) (hn : pc + 3 = pc') (hf : FL M.1.cls idx ci 7 .boolean fin) (hfi : fin = true → M.1.name = "<init>") (ha : h.2 a = some (.inr (.inr (ci, w0 :: w1 :: w2 :: w3 :: w4 :: w5 :: w6 :: w7 :: t)))) (hx : x = 0 ∨ x = 1) (kk : T X d M pc' ls st (e_put h a (.inr (.inr (ci, w0 :: w1 :: w2 :: w3 :: w4 :: w5 :: w6 :: .int x :: t)))) Q) : T X d M pc ls (.int x :: .ref a :: st) h Q :=
  T_putz hd hn hf hfi ha (by simp only [List.length_cons]; omega) hx rfl kk
theorem T_putz8 {x : Int32} {w0 w1 w2 w3 w4 w5 w6 w7 w8 : Value} (hd : decode M.2.1 pc = .ok (.putfield idx, 3)) (hn : pc + 3 = pc') (hf : FL M.1.cls idx ci 8 .boolean fin) (hfi : fin = true → M.1.name = "<init>") (ha : h.2 a = some (.inr (.inr (ci, w0 :: w1 :: w2 :: w3 :: w4 :: w5 :: w6 :: w7 :: w8 :: t)))) (hx : x = 0 ∨ x = 1) (kk : T X d M pc' ls st (e_put h a (.inr (.inr (ci, w0 :: w1 :: w2 :: w3 :: w4 :: w5 :: w6 :: w7 :: .int x :: t)))) Q) : T X d M pc ls (.int x :: .ref a :: st) h Q :=
  T_putz hd hn hf hfi ha (by simp only [List.length_cons]; omega) hx rfl kk
theorem T_putz15 {x : Int32} {w0 w1 w2 w3 w4 w5 w6 w7 w8 w9 w10 w11 w12 w13 w14 w15 : Value} (hd : decode M.2.1 pc = .ok (.putfield idx, 3)) (hn : pc + 3 = pc') (hf : FL M.1.cls idx ci 15 .boolean fin) (hfi : fin = true → M.1.name = "<init>") (ha : h.2 a = some (.inr (.inr (ci, w0 :: w1 :: w2 :: w3 :: w4 :: w5 :: w6 :: w7 :: w8 :: w9 :: w10 :: w11 :: w12 :: w13 :: w14 :: w15 :: t)))) (hx : x = 0 ∨ x = 1) (kk : T X d M pc' ls st (e_put h a (.inr (.inr (ci, w0 :: w1 :: w2 :: w3 :: w4 :: w5 :: w6 :: w7 :: w8 :: w9 :: w10 :: w11 :: w12 :: w13 :: w14 :: .int x :: t)))) Q) : T X d M pc ls (.int x :: .ref a :: st) h Q :=
  T_putz hd hn hf hfi ha (by simp only [List.length_cons]; omega) hx rfl kk
theorem T_putz17 {x : Int32} {w0 w1 w2 w3 w4 w5 w6 w7 w8 w9 w10 w11 w12 w13 w14 w15 w16 w17 : Value} (hd : decode M.2.1 pc = .ok (.putfield idx, 3)) (hn : pc + 3 = pc') (hf : FL M.1.cls idx ci 17 .boolean fin) (hfi : fin = true → M.1.name = "<init>") (ha : h.2 a = some (.inr (.inr (ci, w0 :: w1 :: w2 :: w3 :: w4 :: w5 :: w6 :: w7 :: w8 :: w9 :: w10 :: w11 :: w12 :: w13 :: w14 :: w15 :: w16 :: w17 :: t)))) (hx : x = 0 ∨ x = 1) (kk : T X d M pc' ls st (e_put h a (.inr (.inr (ci, w0 :: w1 :: w2 :: w3 :: w4 :: w5 :: w6 :: w7 :: w8 :: w9 :: w10 :: w11 :: w12 :: w13 :: w14 :: w15 :: w16 :: .int x :: t)))) Q) : T X d M pc ls (.int x :: .ref a :: st) h Q :=
  T_putz hd hn hf hfi ha (by simp only [List.length_cons]; omega) hx rfl kk
theorem T_putl12 {x : Int64} {w0 w1 w2 w3 w4 w5 w6 w7 w8 w9 w10 w11 w12 : Value} (hd : decode M.2.1 pc = .ok (.putfield idx, 3)) (hn : pc + 3 = pc') (hf : FL M.1.cls idx ci 12 .long fin) (hfi : fin = true → M.1.name = "<init>") (ha : h.2 a = some (.inr (.inr (ci, w0 :: w1 :: w2 :: w3 :: w4 :: w5 :: w6 :: w7 :: w8 :: w9 :: w10 :: w11 :: w12 :: t)))) (kk : T X d M pc' ls st (e_put h a (.inr (.inr (ci, w0 :: w1 :: w2 :: w3 :: w4 :: w5 :: w6 :: w7 :: w8 :: w9 :: w10 :: w11 :: .long x :: t)))) Q) : T X d M pc ls (.long x :: .ref a :: st) h Q :=
  T_putl hd hn hf hfi ha (by simp only [List.length_cons]; omega) rfl kk
theorem T_putl32 {x : Int64} {w0 w1 w2 w3 w4 w5 w6 w7 w8 w9 w10 w11 w12 w13 w14 w15 w16 w17 w18 w19 w20 w21 w22 w23 w24 w25 w26 w27 w28 w29 w30 w31 w32 : Value} (hd : decode M.2.1 pc = .ok (.putfield idx, 3)) (hn : pc + 3 = pc') (hf : FL M.1.cls idx ci 32 .long fin) (hfi : fin = true → M.1.name = "<init>") (ha : h.2 a = some (.inr (.inr (ci, w0 :: w1 :: w2 :: w3 :: w4 :: w5 :: w6 :: w7 :: w8 :: w9 :: w10 :: w11 :: w12 :: w13 :: w14 :: w15 :: w16 :: w17 :: w18 :: w19 :: w20 :: w21 :: w22 :: w23 :: w24 :: w25 :: w26 :: w27 :: w28 :: w29 :: w30 :: w31 :: w32 :: t)))) (kk : T X d M pc' ls st (e_put h a (.inr (.inr (ci, w0 :: w1 :: w2 :: w3 :: w4 :: w5 :: w6 :: w7 :: w8 :: w9 :: w10 :: w11 :: w12 :: w13 :: w14 :: w15 :: w16 :: w17 :: w18 :: w19 :: w20 :: w21 :: w22 :: w23 :: w24 :: w25 :: w26 :: w27 :: w28 :: w29 :: w30 :: w31 :: .long x :: t)))) Q) : T X d M pc ls (.long x :: .ref a :: st) h Q :=
  T_putl hd hn hf hfi ha (by simp only [List.length_cons]; omega) rfl kk
theorem T_puto0 {x : Nat} {o : String} {w0 : Value} (hd : decode M.2.1 pc = .ok (.putfield idx, 3)) (hn : pc + 3 = pc') (hf : FL M.1.cls idx ci 0 (.object o) fin) (hfi : fin = true → M.1.name = "<init>") (ha : h.2 a = some (.inr (.inr (ci, w0 :: t)))) (kk : T X d M pc' ls st (e_put h a (.inr (.inr (ci, .ref x :: t)))) Q) : T X d M pc ls (.ref x :: .ref a :: st) h Q :=
  T_puto hd hn hf hfi ha (by simp only [List.length_cons]; omega) rfl kk
theorem T_puto1 {x : Nat} {o : String} {w0 w1 : Value} (hd : decode M.2.1 pc = .ok (.putfield idx, 3)) (hn : pc + 3 = pc') (hf : FL M.1.cls idx ci 1 (.object o) fin) (hfi : fin = true → M.1.name = "<init>") (ha : h.2 a = some (.inr (.inr (ci, w0 :: w1 :: t)))) (kk : T X d M pc' ls st (e_put h a (.inr (.inr (ci, w0 :: .ref x :: t)))) Q) : T X d M pc ls (.ref x :: .ref a :: st) h Q :=
  T_puto hd hn hf hfi ha (by simp only [List.length_cons]; omega) rfl kk
theorem T_puto2 {x : Nat} {o : String} {w0 w1 w2 : Value} (hd : decode M.2.1 pc = .ok (.putfield idx, 3)) (hn : pc + 3 = pc') (hf : FL M.1.cls idx ci 2 (.object o) fin) (hfi : fin = true → M.1.name = "<init>") (ha : h.2 a = some (.inr (.inr (ci, w0 :: w1 :: w2 :: t)))) (kk : T X d M pc' ls st (e_put h a (.inr (.inr (ci, w0 :: w1 :: .ref x :: t)))) Q) : T X d M pc ls (.ref x :: .ref a :: st) h Q :=
  T_puto hd hn hf hfi ha (by simp only [List.length_cons]; omega) rfl kk
theorem T_puto3 {x : Nat} {o : String} {w0 w1 w2 w3 : Value} (hd : decode M.2.1 pc = .ok (.putfield idx, 3)) (hn : pc + 3 = pc') (hf : FL M.1.cls idx ci 3 (.object o) fin) (hfi : fin = true → M.1.name = "<init>") (ha : h.2 a = some (.inr (.inr (ci, w0 :: w1 :: w2 :: w3 :: t)))) (kk : T X d M pc' ls st (e_put h a (.inr (.inr (ci, w0 :: w1 :: w2 :: .ref x :: t)))) Q) : T X d M pc ls (.ref x :: .ref a :: st) h Q :=
  T_puto hd hn hf hfi ha (by simp only [List.length_cons]; omega) rfl kk
theorem T_puto4 {x : Nat} {o : String} {w0 w1 w2 w3 w4 : Value} (hd : decode M.2.1 pc = .ok (.putfield idx, 3)) (hn : pc + 3 = pc') (hf : FL M.1.cls idx ci 4 (.object o) fin) (hfi : fin = true → M.1.name = "<init>") (ha : h.2 a = some (.inr (.inr (ci, w0 :: w1 :: w2 :: w3 :: w4 :: t)))) (kk : T X d M pc' ls st (e_put h a (.inr (.inr (ci, w0 :: w1 :: w2 :: w3 :: .ref x :: t)))) Q) : T X d M pc ls (.ref x :: .ref a :: st) h Q :=
  T_puto hd hn hf hfi ha (by simp only [List.length_cons]; omega) rfl kk
theorem T_puto5 {x : Nat} {o : String} {w0 w1 w2 w3 w4 w5 : Value} (hd : decode M.2.1 pc = .ok (.putfield idx, 3)) (hn : pc + 3 = pc') (hf : FL M.1.cls idx ci 5 (.object o) fin) (hfi : fin = true → M.1.name = "<init>") (ha : h.2 a = some (.inr (.inr (ci, w0 :: w1 :: w2 :: w3 :: w4 :: w5 :: t)))) (kk : T X d M pc' ls st (e_put h a (.inr (.inr (ci, w0 :: w1 :: w2 :: w3 :: w4 :: .ref x :: t)))) Q) : T X d M pc ls (.ref x :: .ref a :: st) h Q :=
  T_puto hd hn hf hfi ha (by simp only [List.length_cons]; omega) rfl kk
theorem T_puto7 {x : Nat} {o : String} {w0 w1 w2 w3 w4 w5 w6 w7 : Value} (hd : decode M.2.1 pc = .ok (.putfield idx, 3)) (hn : pc + 3 = pc') (hf : FL M.1.cls idx ci 7 (.object o) fin) (hfi : fin = true → M.1.name = "<init>") (ha : h.2 a = some (.inr (.inr (ci, w0 :: w1 :: w2 :: w3 :: w4 :: w5 :: w6 :: w7 :: t)))) (kk : T X d M pc' ls st (e_put h a (.inr (.inr (ci, w0 :: w1 :: w2 :: w3 :: w4 :: w5 :: w6 :: .ref x :: t)))) Q) : T X d M pc ls (.ref x :: .ref a :: st) h Q :=
  T_puto hd hn hf hfi ha (by simp only [List.length_cons]; omega) rfl kk
theorem T_puto8 {x : Nat} {o : String} {w0 w1 w2 w3 w4 w5 w6 w7 w8 : Value} (hd : decode M.2.1 pc = .ok (.putfield idx, 3)) (hn : pc + 3 = pc') (hf : FL M.1.cls idx ci 8 (.object o) fin) (hfi : fin = true → M.1.name = "<init>") (ha : h.2 a = some (.inr (.inr (ci, w0 :: w1 :: w2 :: w3 :: w4 :: w5 :: w6 :: w7 :: w8 :: t)))) (kk : T X d M pc' ls st (e_put h a (.inr (.inr (ci, w0 :: w1 :: w2 :: w3 :: w4 :: w5 :: w6 :: w7 :: .ref x :: t)))) Q) : T X d M pc ls (.ref x :: .ref a :: st) h Q :=
  T_puto hd hn hf hfi ha (by simp only [List.length_cons]; omega) rfl kk
theorem T_puto9 {x : Nat} {o : String} {w0 w1 w2 w3 w4 w5 w6 w7 w8 w9 : Value} (hd : decode M.2.1 pc = .ok (.putfield idx, 3)) (hn : pc + 3 = pc') (hf : FL M.1.cls idx ci 9 (.object o) fin) (hfi : fin = true → M.1.name = "<init>") (ha : h.2 a = some (.inr (.inr (ci, w0 :: w1 :: w2 :: w3 :: w4 :: w5 :: w6 :: w7 :: w8 :: w9 :: t)))) (kk : T X d M pc' ls st (e_put h a (.inr (.inr (ci, w0 :: w1 :: w2 :: w3 :: w4 :: w5 :: w6 :: w7 :: w8 :: .ref x :: t)))) Q) : T X d M pc ls (.ref x :: .ref a :: st) h Q :=
  T_puto hd hn hf hfi ha (by simp only [List.length_cons]; omega) rfl kk
theorem T_puto10 {x : Nat} {o : String} {w0 w1 w2 w3 w4 w5 w6 w7 w8 w9 w10 : Value} (hd : decode M.2.1 pc = .ok (.putfield idx, 3)) (hn : pc + 3 = pc') (hf : FL M.1.cls idx ci 10 (.object o) fin) (hfi : fin = true → M.1.name = "<init>") (ha : h.2 a = some (.inr (.inr (ci, w0 :: w1 :: w2 :: w3 :: w4 :: w5 :: w6 :: w7 :: w8 :: w9 :: w10 :: t)))) (kk : T X d M pc' ls st (e_put h a (.inr (.inr (ci, w0 :: w1 :: w2 :: w3 :: w4 :: w5 :: w6 :: w7 :: w8 :: w9 :: .ref x :: t)))) Q) : T X d M pc ls (.ref x :: .ref a :: st) h Q :=
  T_puto hd hn hf hfi ha (by simp only [List.length_cons]; omega) rfl kk
theorem T_puta0 {x : Nat} {ty : FieldType} {w0 : Value} (hd : decode M.2.1 pc = .ok (.putfield idx, 3)) (hn : pc + 3 = pc') (hf : FL M.1.cls idx ci 0 (.array ty) fin) (hfi : fin = true → M.1.name = "<init>") (ha : h.2 a = some (.inr (.inr (ci, w0 :: t)))) (kk : T X d M pc' ls st (e_put h a (.inr (.inr (ci, .ref x :: t)))) Q) : T X d M pc ls (.ref x :: .ref a :: st) h Q :=
  T_puta hd hn hf hfi ha (by simp only [List.length_cons]; omega) rfl kk
theorem T_puta1 {x : Nat} {ty : FieldType} {w0 w1 : Value} (hd : decode M.2.1 pc = .ok (.putfield idx, 3)) (hn : pc + 3 = pc') (hf : FL M.1.cls idx ci 1 (.array ty) fin) (hfi : fin = true → M.1.name = "<init>") (ha : h.2 a = some (.inr (.inr (ci, w0 :: w1 :: t)))) (kk : T X d M pc' ls st (e_put h a (.inr (.inr (ci, w0 :: .ref x :: t)))) Q) : T X d M pc ls (.ref x :: .ref a :: st) h Q :=
  T_puta hd hn hf hfi ha (by simp only [List.length_cons]; omega) rfl kk
theorem T_puta2 {x : Nat} {ty : FieldType} {w0 w1 w2 : Value} (hd : decode M.2.1 pc = .ok (.putfield idx, 3)) (hn : pc + 3 = pc') (hf : FL M.1.cls idx ci 2 (.array ty) fin) (hfi : fin = true → M.1.name = "<init>") (ha : h.2 a = some (.inr (.inr (ci, w0 :: w1 :: w2 :: t)))) (kk : T X d M pc' ls st (e_put h a (.inr (.inr (ci, w0 :: w1 :: .ref x :: t)))) Q) : T X d M pc ls (.ref x :: .ref a :: st) h Q :=
  T_puta hd hn hf hfi ha (by simp only [List.length_cons]; omega) rfl kk
theorem T_puta3 {x : Nat} {ty : FieldType} {w0 w1 w2 w3 : Value} (hd : decode M.2.1 pc = .ok (.putfield idx, 3)) (hn : pc + 3 = pc') (hf : FL M.1.cls idx ci 3 (.array ty) fin) (hfi : fin = true → M.1.name = "<init>") (ha : h.2 a = some (.inr (.inr (ci, w0 :: w1 :: w2 :: w3 :: t)))) (kk : T X d M pc' ls st (e_put h a (.inr (.inr (ci, w0 :: w1 :: w2 :: .ref x :: t)))) Q) : T X d M pc ls (.ref x :: .ref a :: st) h Q :=
  T_puta hd hn hf hfi ha (by simp only [List.length_cons]; omega) rfl kk
theorem T_puta4 {x : Nat} {ty : FieldType} {w0 w1 w2 w3 w4 : Value} (hd : decode M.2.1 pc = .ok (.putfield idx, 3)) (hn : pc + 3 = pc') (hf : FL M.1.cls idx ci 4 (.array ty) fin) (hfi : fin = true → M.1.name = "<init>") (ha : h.2 a = some (.inr (.inr (ci, w0 :: w1 :: w2 :: w3 :: w4 :: t)))) (kk : T X d M pc' ls st (e_put h a (.inr (.inr (ci, w0 :: w1 :: w2 :: w3 :: .ref x :: t)))) Q) : T X d M pc ls (.ref x :: .ref a :: st) h Q :=
  T_puta hd hn hf hfi ha (by simp only [List.length_cons]; omega) rfl kk
theorem T_puta5 {x : Nat} {ty : FieldType} {w0 w1 w2 w3 w4 w5 : Value} (hd : decode M.2.1 pc = .ok (.putfield idx, 3)) (hn : pc + 3 = pc') (hf : FL M.1.cls idx ci 5 (.array ty) fin) (hfi : fin = true → M.1.name = "<init>") (ha : h.2 a = some (.inr (.inr (ci, w0 :: w1 :: w2 :: w3 :: w4 :: w5 :: t)))) (kk : T X d M pc' ls st (e_put h a (.inr (.inr (ci, w0 :: w1 :: w2 :: w3 :: w4 :: .ref x :: t)))) Q) : T X d M pc ls (.ref x :: .ref a :: st) h Q :=
  T_puta hd hn hf hfi ha (by simp only [List.length_cons]; omega) rfl kk
theorem T_puta6 {x : Nat} {ty : FieldType} {w0 w1 w2 w3 w4 w5 w6 : Value} (hd : decode M.2.1 pc = .ok (.putfield idx, 3)) (hn : pc + 3 = pc') (hf : FL M.1.cls idx ci 6 (.array ty) fin) (hfi : fin = true → M.1.name = "<init>") (ha : h.2 a = some (.inr (.inr (ci, w0 :: w1 :: w2 :: w3 :: w4 :: w5 :: w6 :: t)))) (kk : T X d M pc' ls st (e_put h a (.inr (.inr (ci, w0 :: w1 :: w2 :: w3 :: w4 :: w5 :: .ref x :: t)))) Q) : T X d M pc ls (.ref x :: .ref a :: st) h Q :=
  T_puta hd hn hf hfi ha (by simp only [List.length_cons]; omega) rfl kk
theorem T_puta7 {x : Nat} {ty : FieldType} {w0 w1 w2 w3 w4 w5 w6 w7 : Value} (hd : decode M.2.1 pc = .ok (.putfield idx, 3)) (hn : pc + 3 = pc') (hf : FL M.1.cls idx ci 7 (.array ty) fin) (hfi : fin = true → M.1.name = "<init>") (ha : h.2 a = some (.inr (.inr (ci, w0 :: w1 :: w2 :: w3 :: w4 :: w5 :: w6 :: w7 :: t)))) (kk : T X d M pc' ls st (e_put h a (.inr (.inr (ci, w0 :: w1 :: w2 :: w3 :: w4 :: w5 :: w6 :: .ref x :: t)))) Q) : T X d M pc ls (.ref x :: .ref a :: st) h Q :=
  T_puta hd hn hf hfi ha (by simp only [List.length_cons]; omega) rfl kk
theorem T_puta8 {x : Nat} {ty : FieldType} {w0 w1 w2 w3 w4 w5 w6 w7 w8 : Value} (hd : decode M.2.1 pc = .ok (.putfield idx, 3)) (hn : pc + 3 = pc') (hf : FL M.1.cls idx ci 8 (.array ty) fin) (hfi : fin = true → M.1.name = "<init>") (ha : h.2 a = some (.inr (.inr (ci, w0 :: w1 :: w2 :: w3 :: w4 :: w5 :: w6 :: w7 :: w8 :: t)))) (kk : T X d M pc' ls st (e_put h a (.inr (.inr (ci, w0 :: w1 :: w2 :: w3 :: w4 :: w5 :: w6 :: w7 :: .ref x :: t)))) Q) : T X d M pc ls (.ref x :: .ref a :: st) h Q :=
  T_puta hd hn hf hfi ha (by simp only [List.length_cons]; omega) rfl kk
theorem T_puta9 {x : Nat} {ty : FieldType} {w0 w1 w2 w3 w4 w5 w6 w7 w8 w9 : Value} (hd : decode M.2.1 pc = .ok (.putfield idx, 3)) (hn : pc + 3 = pc') (hf : FL M.1.cls idx ci 9 (.array ty) fin) (hfi : fin = true → M.1.name = "<init>") (ha : h.2 a = some (.inr (.inr (ci, w0 :: w1 :: w2 :: w3 :: w4 :: w5 :: w6 :: w7 :: w8 :: w9 :: t)))) (kk : T X d M pc' ls st (e_put h a (.inr (.inr (ci, w0 :: w1 :: w2 :: w3 :: w4 :: w5 :: w6 :: w7 :: w8 :: .ref x :: t)))) Q) : T X d M pc ls (.ref x :: .ref a :: st) h Q :=
  T_puta hd hn hf hfi ha (by simp only [List.length_cons]; omega) rfl kk
theorem T_puta10 {x : Nat} {ty : FieldType} {w0 w1 w2 w3 w4 w5 w6 w7 w8 w9 w10 : Value} (hd : decode M.2.1 pc = .ok (.putfield idx, 3)) (hn : pc + 3 = pc') (hf : FL M.1.cls idx ci 10 (.array ty) fin) (hfi : fin = true → M.1.name = "<init>") (ha : h.2 a = some (.inr (.inr (ci, w0 :: w1 :: w2 :: w3 :: w4 :: w5 :: w6 :: w7 :: w8 :: w9 :: w10 :: t)))) (kk : T X d M pc' ls st (e_put h a (.inr (.inr (ci, w0 :: w1 :: w2 :: w3 :: w4 :: w5 :: w6 :: w7 :: w8 :: w9 :: .ref x :: t)))) Q) : T X d M pc ls (.ref x :: .ref a :: st) h Q :=
  T_puta hd hn hf hfi ha (by simp only [List.length_cons]; omega) rfl kk
theorem T_puta11 {x : Nat} {ty : FieldType} {w0 w1 w2 w3 w4 w5 w6 w7 w8 w9 w10 w11 : Value} (hd : decode M.2.1 pc = .ok (.putfield idx, 3)) (hn : pc + 3 = pc') (hf : FL M.1.cls idx ci 11 (.array ty) fin) (hfi : fin = true → M.1.name = "<init>") (ha : h.2 a = some (.inr (.inr (ci, w0 :: w1 :: w2 :: w3 :: w4 :: w5 :: w6 :: w7 :: w8 :: w9 :: w10 :: w11 :: t)))) (kk : T X d M pc' ls st (e_put h a (.inr (.inr (ci, w0 :: w1 :: w2 :: w3 :: w4 :: w5 :: w6 :: w7 :: w8 :: w9 :: w10 :: .ref x :: t)))) Q) : T X d M pc ls (.ref x :: .ref a :: st) h Q :=
  T_puta hd hn hf hfi ha (by simp only [List.length_cons]; omega) rfl kk
theorem T_puta18 {x : Nat} {ty : FieldType} {w0 w1 w2 w3 w4 w5 w6 w7 w8 w9 w10 w11 w12 w13 w14 w15 w16 w17 w18 : Value} (hd : decode M.2.1 pc = .ok (.putfield idx, 3)) (hn : pc + 3 = pc') (hf : FL M.1.cls idx ci 18 (.array ty) fin) (hfi : fin = true → M.1.name = "<init>") (ha : h.2 a = some (.inr (.inr (ci, w0 :: w1 :: w2 :: w3 :: w4 :: w5 :: w6 :: w7 :: w8 :: w9 :: w10 :: w11 :: w12 :: w13 :: w14 :: w15 :: w16 :: w17 :: w18 :: t)))) (kk : T X d M pc' ls st (e_put h a (.inr (.inr (ci, w0 :: w1 :: w2 :: w3 :: w4 :: w5 :: w6 :: w7 :: w8 :: w9 :: w10 :: w11 :: w12 :: w13 :: w14 :: w15 :: w16 :: w17 :: .ref x :: t)))) Q) : T X d M pc ls (.ref x :: .ref a :: st) h Q :=
  T_puta hd hn hf hfi ha (by simp only [List.length_cons]; omega) rfl kk
theorem T_puta19 {x : Nat} {ty : FieldType} {w0 w1 w2 w3 w4 w5 w6 w7 w8 w9 w10 w11 w12 w13 w14 w15 w16 w17 w18 w19 : Value} (hd : decode M.2.1 pc = .ok (.putfield idx, 3)) (hn : pc + 3 = pc') (hf : FL M.1.cls idx ci 19 (.array ty) fin) (hfi : fin = true → M.1.name = "<init>") (ha : h.2 a = some (.inr (.inr (ci, w0 :: w1 :: w2 :: w3 :: w4 :: w5 :: w6 :: w7 :: w8 :: w9 :: w10 :: w11 :: w12 :: w13 :: w14 :: w15 :: w16 :: w17 :: w18 :: w19 :: t)))) (kk : T X d M pc' ls st (e_put h a (.inr (.inr (ci, w0 :: w1 :: w2 :: w3 :: w4 :: w5 :: w6 :: w7 :: w8 :: w9 :: w10 :: w11 :: w12 :: w13 :: w14 :: w15 :: w16 :: w17 :: w18 :: .ref x :: t)))) Q) : T X d M pc ls (.ref x :: .ref a :: st) h Q :=
  T_puta hd hn hf hfi ha (by simp only [List.length_cons]; omega) rfl kk
theorem T_puta20 {x : Nat} {ty : FieldType} {w0 w1 w2 w3 w4 w5 w6 w7 w8 w9 w10 w11 w12 w13 w14 w15 w16 w17 w18 w19 w20 : Value} (hd : decode M.2.1 pc = .ok (.putfield idx, 3)) (hn : pc + 3 = pc') (hf : FL M.1.cls idx ci 20 (.array ty) fin) (hfi : fin = true → M.1.name = "<init>") (ha : h.2 a = some (.inr (.inr (ci, w0 :: w1 :: w2 :: w3 :: w4 :: w5 :: w6 :: w7 :: w8 :: w9 :: w10 :: w11 :: w12 :: w13 :: w14 :: w15 :: w16 :: w17 :: w18 :: w19 :: w20 :: t)))) (kk : T X d M pc' ls st (e_put h a (.inr (.inr (ci, w0 :: w1 :: w2 :: w3 :: w4 :: w5 :: w6 :: w7 :: w8 :: w9 :: w10 :: w11 :: w12 :: w13 :: w14 :: w15 :: w16 :: w17 :: w18 :: w19 :: .ref x :: t)))) Q) : T X d M pc ls (.ref x :: .ref a :: st) h Q :=
  T_puta hd hn hf hfi ha (by simp only [List.length_cons]; omega) rfl kk
theorem T_puta21 {x : Nat} {ty : FieldType} {w0 w1 w2 w3 w4 w5 w6 w7 w8 w9 w10 w11 w12 w13 w14 w15 w16 w17 w18 w19 w20 w21 : Value} (hd : decode M.2.1 pc = .ok (.putfield idx, 3)) (hn : pc + 3 = pc') (hf : FL M.1.cls idx ci 21 (.array ty) fin) (hfi : fin = true → M.1.name = "<init>") (ha : h.2 a = some (.inr (.inr (ci, w0 :: w1 :: w2 :: w3 :: w4 :: w5 :: w6 :: w7 :: w8 :: w9 :: w10 :: w11 :: w12 :: w13 :: w14 :: w15 :: w16 :: w17 :: w18 :: w19 :: w20 :: w21 :: t)))) (kk : T X d M pc' ls st (e_put h a (.inr (.inr (ci, w0 :: w1 :: w2 :: w3 :: w4 :: w5 :: w6 :: w7 :: w8 :: w9 :: w10 :: w11 :: w12 :: w13 :: w14 :: w15 :: w16 :: w17 :: w18 :: w19 :: w20 :: .ref x :: t)))) Q) : T X d M pc ls (.ref x :: .ref a :: st) h Q :=
  T_puta hd hn hf hfi ha (by simp only [List.length_cons]; omega) rfl kk
theorem T_puta22 {x : Nat} {ty : FieldType} {w0 w1 w2 w3 w4 w5 w6 w7 w8 w9 w10 w11 w12 w13 w14 w15 w16 w17 w18 w19 w20 w21 w22 : Value} (hd : decode M.2.1 pc = .ok (.putfield idx, 3)) (hn : pc + 3 = pc') (hf : FL M.1.cls idx ci 22 (.array ty) fin) (hfi : fin = true → M.1.name = "<init>") (ha : h.2 a = some (.inr (.inr (ci, w0 :: w1 :: w2 :: w3 :: w4 :: w5 :: w6 :: w7 :: w8 :: w9 :: w10 :: w11 :: w12 :: w13 :: w14 :: w15 :: w16 :: w17 :: w18 :: w19 :: w20 :: w21 :: w22 :: t)))) (kk : T X d M pc' ls st (e_put h a (.inr (.inr (ci, w0 :: w1 :: w2 :: w3 :: w4 :: w5 :: w6 :: w7 :: w8 :: w9 :: w10 :: w11 :: w12 :: w13 :: w14 :: w15 :: w16 :: w17 :: w18 :: w19 :: w20 :: w21 :: .ref x :: t)))) Q) : T X d M pc ls (.ref x :: .ref a :: st) h Q :=
  T_puta hd hn hf hfi ha (by simp only [List.length_cons]; omega) rfl kk
theorem T_puta23 {x : Nat} {ty : FieldType} {w0 w1 w2 w3 w4 w5 w6 w7 w8 w9 w10 w11 w12 w13 w14 w15 w16 w17 w18 w19 w20 w21 w22 w23 : Value} (hd : decode M.2.1 pc = .ok (.putfield idx, 3)) (hn : pc + 3 = pc') (hf : FL M.1.cls idx ci 23 (.array ty) fin) (hfi : fin = true → M.1.name = "<init>") (ha : h.2 a = some (.inr (.inr (ci, w0 :: w1 :: w2 :: w3 :: w4 :: w5 :: w6 :: w7 :: w8 :: w9 :: w10 :: w11 :: w12 :: w13 :: w14 :: w15 :: w16 :: w17 :: w18 :: w19 :: w20 :: w21 :: w22 :: w23 :: t)))) (kk : T X d M pc' ls st (e_put h a (.inr (.inr (ci, w0 :: w1 :: w2 :: w3 :: w4 :: w5 :: w6 :: w7 :: w8 :: w9 :: w10 :: w11 :: w12 :: w13 :: w14 :: w15 :: w16 :: w17 :: w18 :: w19 :: w20 :: w21 :: w22 :: .ref x :: t)))) Q) : T X d M pc ls (.ref x :: .ref a :: st) h Q :=
  T_puta hd hn hf hfi ha (by simp only [List.length_cons]; omega) rfl kk
theorem T_puta24 {x : Nat} {ty : FieldType} {w0 w1 w2 w3 w4 w5 w6 w7 w8 w9 w10 w11 w12 w13 w14 w15 w16 w17 w18 w19 w20 w21 w22 w23 w24 : Value} (hd : decode M.2.1 pc = .ok (.putfield idx, 3)) (hn : pc + 3 = pc') (hf : FL M.1.cls idx ci 24 (.array ty) fin) (hfi : fin = true → M.1.name = "<init>") (ha : h.2 a = some (.inr (.inr (ci, w0 :: w1 :: w2 :: w3 :: w4 :: w5 :: w6 :: w7 :: w8 :: w9 :: w10 :: w11 :: w12 :: w13 :: w14 :: w15 :: w16 :: w17 :: w18 :: w19 :: w20 :: w21 :: w22 :: w23 :: w24 :: t)))) (kk : T X d M pc' ls st (e_put h a (.inr (.inr (ci, w0 :: w1 :: w2 :: w3 :: w4 :: w5 :: w6 :: w7 :: w8 :: w9 :: w10 :: w11 :: w12 :: w13 :: w14 :: w15 :: w16 :: w17 :: w18 :: w19 :: w20 :: w21 :: w22 :: w23 :: .ref x :: t)))) Q) : T X d M pc ls (.ref x :: .ref a :: st) h Q :=
  T_puta hd hn hf hfi ha (by simp only [List.length_cons]; omega) rfl kk
theorem T_puta25 {x : Nat} {ty : FieldType} {w0 w1 w2 w3 w4 w5 w6 w7 w8 w9 w10 w11 w12 w13 w14 w15 w16 w17 w18 w19 w20 w21 w22 w23 w24 w25 : Value} (hd : decode M.2.1 pc = .ok (.putfield idx, 3)) (hn : pc + 3 = pc') (hf : FL M.1.cls idx ci 25 (.array ty) fin) (hfi : fin = true → M.1.name = "<init>") (ha : h.2 a = some (.inr (.inr (ci, w0 :: w1 :: w2 :: w3 :: w4 :: w5 :: w6 :: w7 :: w8 :: w9 :: w10 :: w11 :: w12 :: w13 :: w14 :: w15 :: w16 :: w17 :: w18 :: w19 :: w20 :: w21 :: w22 :: w23 :: w24 :: w25 :: t)))) (kk : T X d M pc' ls st (e_put h a (.inr (.inr (ci, w0 :: w1 :: w2 :: w3 :: w4 :: w5 :: w6 :: w7 :: w8 :: w9 :: w10 :: w11 :: w12 :: w13 :: w14 :: w15 :: w16 :: w17 :: w18 :: w19 :: w20 :: w21 :: w22 :: w23 :: w24 :: .ref x :: t)))) Q) : T X d M pc ls (.ref x :: .ref a :: st) h Q :=
  T_puta hd hn hf hfi ha (by simp only [List.length_cons]; omega) rfl kk
theorem T_puta26 {x : Nat} {ty : FieldType} {w0 w1 w2 w3 w4 w5 w6 w7 w8 w9 w10 w11 w12 w13 w14 w15 w16 w17 w18 w19 w20 w21 w22 w23 w24 w25 w26 : Value} (hd : decode M.2.1 pc = .ok (.putfield idx, 3)) (hn : pc + 3 = pc') (hf : FL M.1.cls idx ci 26 (.array ty) fin) (hfi : fin = true → M.1.name = "<init>") (ha : h.2 a = some (.inr (.inr (ci, w0 :: w1 :: w2 :: w3 :: w4 :: w5 :: w6 :: w7 :: w8 :: w9 :: w10 :: w11 :: w12 :: w13 :: w14 :: w15 :: w16 :: w17 :: w18 :: w19 :: w20 :: w21 :: w22 :: w23 :: w24 :: w25 :: w26 :: t)))) (kk : T X d M pc' ls st (e_put h a (.inr (.inr (ci, w0 :: w1 :: w2 :: w3 :: w4 :: w5 :: w6 :: w7 :: w8 :: w9 :: w10 :: w11 :: w12 :: w13 :: w14 :: w15 :: w16 :: w17 :: w18 :: w19 :: w20 :: w21 :: w22 :: w23 :: w24 :: w25 :: .ref x :: t)))) Q) : T X d M pc ls (.ref x :: .ref a :: st) h Q :=
  T_puta hd hn hf hfi ha (by simp only [List.length_cons]; omega) rfl kk
theorem T_puta27 {x : Nat} {ty : FieldType} {w0 w1 w2 w3 w4 w5 w6 w7 w8 w9 w10 w11 w12 w13 w14 w15 w16 w17 w18 w19 w20 w21 w22 w23 w24 w25 w26 w27 : Value} (hd : decode M.2.1 pc = .ok (.putfield idx, 3)) (hn : pc + 3 = pc') (hf : FL M.1.cls idx ci 27 (.array ty) fin) (hfi : fin = true → M.1.name = "<init>") (ha : h.2 a = some (.inr (.inr (ci, w0 :: w1 :: w2 :: w3 :: w4 :: w5 :: w6 :: w7 :: w8 :: w9 :: w10 :: w11 :: w12 :: w13 :: w14 :: w15 :: w16 :: w17 :: w18 :: w19 :: w20 :: w21 :: w22 :: w23 :: w24 :: w25 :: w26 :: w27 :: t)))) (kk : T X d M pc' ls st (e_put h a (.inr (.inr (ci, w0 :: w1 :: w2 :: w3 :: w4 :: w5 :: w6 :: w7 :: w8 :: w9 :: w10 :: w11 :: w12 :: w13 :: w14 :: w15 :: w16 :: w17 :: w18 :: w19 :: w20 :: w21 :: w22 :: w23 :: w24 :: w25 :: w26 :: .ref x :: t)))) Q) : T X d M pc ls (.ref x :: .ref a :: st) h Q :=
  T_puta hd hn hf hfi ha (by simp only [List.length_cons]; omega) rfl kk
theorem T_puta29 {x : Nat} {ty : FieldType} {w0 w1 w2 w3 w4 w5 w6 w7 w8 w9 w10 w11 w12 w13 w14 w15 w16 w17 w18 w19 w20 w21 w22 w23 w24 w25 w26 w27 w28 w29 : Value} (hd : decode M.2.1 pc = .ok (.putfield idx, 3)) (hn : pc + 3 = pc') (hf : FL M.1.cls idx ci 29 (.array ty) fin) (hfi : fin = true → M.1.name = "<init>") (ha : h.2 a = some (.inr (.inr (ci, w0 :: w1 :: w2 :: w3 :: w4 :: w5 :: w6 :: w7 :: w8 :: w9 :: w10 :: w11 :: w12 :: w13 :: w14 :: w15 :: w16 :: w17 :: w18 :: w19 :: w20 :: w21 :: w22 :: w23 :: w24 :: w25 :: w26 :: w27 :: w28 :: w29 :: t)))) (kk : T X d M pc' ls st (e_put h a (.inr (.inr (ci, w0 :: w1 :: w2 :: w3 :: w4 :: w5 :: w6 :: w7 :: w8 :: w9 :: w10 :: w11 :: w12 :: w13 :: w14 :: w15 :: w16 :: w17 :: w18 :: w19 :: w20 :: w21 :: w22 :: w23 :: w24 :: w25 :: w26 :: w27 :: w28 :: .ref x :: t)))) Q) : T X d M pc ls (.ref x :: .ref a :: st) h Q :=
  T_puta hd hn hf hfi ha (by simp only [List.length_cons]; omega) rfl kk
theorem T_puta30 {x : Nat} {ty : FieldType} {w0 w1 w2 w3 w4 w5 w6 w7 w8 w9 w10 w11 w12 w13 w14 w15 w16 w17 w18 w19 w20 w21 w22 w23 w24 w25 w26 w27 w28 w29 w30 : Value} (hd : decode M.2.1 pc = .ok (.putfield idx, 3)) (hn : pc + 3 = pc') (hf : FL M.1.cls idx ci 30 (.array ty) fin) (hfi : fin = true → M.1.name = "<init>") (ha : h.2 a = some (.inr (.inr (ci, w0 :: w1 :: w2 :: w3 :: w4 :: w5 :: w6 :: w7 :: w8 :: w9 :: w10 :: w11 :: w12 :: w13 :: w14 :: w15 :: w16 :: w17 :: w18 :: w19 :: w20 :: w21 :: w22 :: w23 :: w24 :: w25 :: w26 :: w27 :: w28 :: w29 :: w30 :: t)))) (kk : T X d M pc' ls st (e_put h a (.inr (.inr (ci, w0 :: w1 :: w2 :: w3 :: w4 :: w5 :: w6 :: w7 :: w8 :: w9 :: w10 :: w11 :: w12 :: w13 :: w14 :: w15 :: w16 :: w17 :: w18 :: w19 :: w20 :: w21 :: w22 :: w23 :: w24 :: w25 :: w26 :: w27 :: w28 :: w29 :: .ref x :: t)))) Q) : T X d M pc ls (.ref x :: .ref a :: st) h Q :=
  T_puta hd hn hf hfi ha (by simp only [List.length_cons]; omega) rfl kk
end ENG10
end
section
/-! small things: bounds, bits, Math, Integer.bitCount, Arrays.fill -/
theorem e_pp {h : AH} {a : Nat} {c c' : AC} : e_put (e_put h a c) a c' = e_put h a c' := by
  unfold e_put
  refine congrArg (Prod.mk h.1) (funext fun k => ?_)
  by_cases hk : k = a
  · simp [hk]
  · simp [hk]
section BASE
variable (X : EX) (d : Nat) (h : AH)
theorem c_Tb_within (x lo hi : Int32) : Ci X d M_Tb_within [.int x, .int lo, .int hi] h (fun v h1 => h1 = h ∧ ((lo ≤ x ∧ x ≤ hi) ∧ v = 1 ∨ ¬ (lo ≤ x ∧ x ≤ hi) ∧ v = 0)) := by
  refine C_of_T rfl rfl (Nat.le_of_ble_eq_true rfl) rfl ?_
  refine T_iload_n (pc' := 1) d_Tb_within_0 rfl rfl rfl ?_
  refine T_iload_n (pc' := 2) d_Tb_within_1 rfl rfl rfl ?_
  refine T_icmp_lt (pc' := 5) (tgt := 14) d_Tb_within_2 rfl (by decide) (fun hc => ?_) (fun hc => ?_)
  · refine T_iconst (v := 0) (pc' := 15) d_Tb_within_14 rfl (by decide) ?_
    refine T_zret d_Tb_within_15 rfl (by first | assumption | exact Or.inl rfl | exact Or.inr rfl) ?_
    exact ⟨_, rfl, rfl, Or.inr ⟨fun q => absurd q.1 (Int32.not_le.mpr hc), rfl⟩⟩
  · refine T_iload_n (pc' := 6) d_Tb_within_5 rfl rfl rfl ?_
    refine T_iload_n (pc' := 7) d_Tb_within_6 rfl rfl rfl ?_
    refine T_icmp_gt (pc' := 10) (tgt := 14) d_Tb_within_7 rfl (by decide) (fun hc => ?_) (fun hc => ?_)
    · refine T_iconst (v := 0) (pc' := 15) d_Tb_within_14 rfl (by decide) ?_
      refine T_zret d_Tb_within_15 rfl (by first | assumption | exact Or.inl rfl | exact Or.inr rfl) ?_
      exact ⟨_, rfl, rfl, Or.inr ⟨fun q => absurd q.2 (Int32.not_le.mpr hc), rfl⟩⟩
    · refine T_iconst (v := 1) (pc' := 11) d_Tb_within_10 rfl (by decide) ?_
      refine T_goto (pc' := 15) d_Tb_within_11 (by decide) ?_
      refine T_zret d_Tb_within_15 rfl (by first | assumption | exact Or.inl rfl | exact Or.inr rfl) ?_
      exact ⟨_, rfl, rfl, Or.inl ⟨⟨by simpa using Int32.not_lt.mp ‹_›, Int32.not_lt.mp hc⟩, rfl⟩⟩
theorem c_Mo_in (x lo hi : Int32) : Ci X d M_Mo_in [.int x, .int lo, .int hi] h (fun v h1 => h1 = h ∧ ((lo ≤ x ∧ x ≤ hi) ∧ v = 1 ∨ ¬ (lo ≤ x ∧ x ≤ hi) ∧ v = 0)) := by
  refine C_of_T rfl rfl (Nat.le_of_ble_eq_true rfl) rfl ?_
  refine T_iload_n (pc' := 1) d_Mo_in_0 rfl rfl rfl ?_
  refine T_iload_n (pc' := 2) d_Mo_in_1 rfl rfl rfl ?_
  refine T_icmp_lt (pc' := 5) (tgt := 14) d_Mo_in_2 rfl (by decide) (fun hc => ?_) (fun hc => ?_)
  · refine T_iconst (v := 0) (pc' := 15) d_Mo_in_14 rfl (by decide) ?_
    refine T_zret d_Mo_in_15 rfl (by first | assumption | exact Or.inl rfl | exact Or.inr rfl) ?_
    exact ⟨_, rfl, rfl, Or.inr ⟨fun q => absurd q.1 (Int32.not_le.mpr hc), rfl⟩⟩
  · refine T_iload_n (pc' := 6) d_Mo_in_5 rfl rfl rfl ?_
    refine T_iload_n (pc' := 7) d_Mo_in_6 rfl rfl rfl ?_
    refine T_icmp_gt (pc' := 10) (tgt := 14) d_Mo_in_7 rfl (by decide) (fun hc => ?_) (fun hc => ?_)
    · refine T_iconst (v := 0) (pc' := 15) d_Mo_in_14 rfl (by decide) ?_
      refine T_zret d_Mo_in_15 rfl (by first | assumption | exact Or.inl rfl | exact Or.inr rfl) ?_
      exact ⟨_, rfl, rfl, Or.inr ⟨fun q => absurd q.2 (Int32.not_le.mpr hc), rfl⟩⟩
    · refine T_iconst (v := 1) (pc' := 11) d_Mo_in_10 rfl (by decide) ?_
      refine T_goto (pc' := 15) d_Mo_in_11 (by decide) ?_
      refine T_zret d_Mo_in_15 rfl (by first | assumption | exact Or.inl rfl | exact Or.inr rfl) ?_
      exact ⟨_, rfl, rfl, Or.inl ⟨⟨by simpa using Int32.not_lt.mp ‹_›, Int32.not_lt.mp hc⟩, rfl⟩⟩
/-- bit k of a set -/
def sHas (set k : Int32) : Prop := set >>> (k &&& 31) &&& 1 = 1
theorem c_Mo_has (set k : Int32) : Ci X d M_Mo_has [.int set, .int k] h (fun v h1 => h1 = h ∧ (sHas set k ∧ v = 1 ∨ ¬ sHas set k ∧ v = 0)) := by
  refine C_of_T rfl rfl (Nat.le_of_ble_eq_true rfl) rfl ?_
  refine T_iload_n (pc' := 1) d_Mo_has_0 rfl rfl rfl ?_
  refine T_iload_n (pc' := 2) d_Mo_has_1 rfl rfl rfl ?_
  refine T_ishr (pc' := 3) d_Mo_has_2 rfl ?_
  refine T_iconst (v := 1) (pc' := 4) d_Mo_has_3 rfl (by decide) ?_
  refine T_iand (pc' := 5) d_Mo_has_4 rfl ?_
  refine T_iconst (v := 1) (pc' := 6) d_Mo_has_5 rfl (by decide) ?_
  refine T_icmp_ne (pc' := 9) (tgt := 13) d_Mo_has_6 rfl (by decide) (fun hc => ?_) (fun hc => ?_)
  · refine T_iconst (v := 0) (pc' := 14) d_Mo_has_13 rfl (by decide) ?_
    refine T_zret d_Mo_has_14 rfl (by first | assumption | exact Or.inl rfl | exact Or.inr rfl) ?_
    exact ⟨_, rfl, rfl, Or.inr ⟨hc, rfl⟩⟩
  · refine T_iconst (v := 1) (pc' := 10) d_Mo_has_9 rfl (by decide) ?_
    refine T_goto (pc' := 14) d_Mo_has_10 (by decide) ?_
    refine T_zret d_Mo_has_14 rfl (by first | assumption | exact Or.inl rfl | exact Or.inr rfl) ?_
    exact ⟨_, rfl, rfl, Or.inl ⟨hc, rfl⟩⟩
def sU (x : Int32) (k : Int32) : Int32 := (x.toUInt32 >>> (k.toUInt32 &&& Int32.toUInt32 31)).toInt32
def sBC1 (x : Int32) : Int32 := x - (sU x 1 &&& 1431655765)
def sBC2 (x : Int32) : Int32 := (x &&& 858993459) + (sU x 2 &&& 858993459)
def sBC3 (x : Int32) : Int32 := (x + sU x 4) &&& 252645135
def sBC4 (x : Int32) : Int32 := x + sU x 8
def sBC5 (x : Int32) : Int32 := x + sU x 16
def sBC (x : Int32) : Int32 := sBC5 (sBC4 (sBC3 (sBC2 (sBC1 x)))) &&& 63
theorem c_In_bitCount (x : Int32) : Ci X d M_In_bitCount [.int x] h (fun v h1 => h1 = h ∧ v = sBC x) := by
  refine C_of_T rfl rfl (Nat.le_of_ble_eq_true rfl) rfl ?_
  refine T_iload_n (pc' := 1) d_In_bitCount_0 rfl rfl rfl ?_
  refine T_iload_n (pc' := 2) d_In_bitCount_1 rfl rfl rfl ?_
  refine T_iconst (v := 1) (pc' := 3) d_In_bitCount_2 rfl (by decide) ?_
  refine T_iushr (pc' := 4) d_In_bitCount_3 rfl ?_
  refine T_ldcw (pc' := 7) d_In_bitCount_4 rfl ck_In_265 ?_
  refine T_iand (pc' := 8) d_In_bitCount_7 rfl ?_
  refine T_isub (pc' := 9) d_In_bitCount_8 rfl ?_
  refine T_is_n0 (pc' := 10) d_In_bitCount_9 rfl rfl (Nat.le_of_ble_eq_true rfl) rfl ?_
  refine T_iload_n (pc' := 11) d_In_bitCount_10 rfl rfl rfl ?_
  refine T_ldcw (pc' := 14) d_In_bitCount_11 rfl ck_In_266 ?_
  refine T_iand (pc' := 15) d_In_bitCount_14 rfl ?_
  refine T_iload_n (pc' := 16) d_In_bitCount_15 rfl rfl rfl ?_
  refine T_iconst (v := 2) (pc' := 17) d_In_bitCount_16 rfl (by decide) ?_
  refine T_iushr (pc' := 18) d_In_bitCount_17 rfl ?_
  refine T_ldcw (pc' := 21) d_In_bitCount_18 rfl ck_In_266 ?_
  refine T_iand (pc' := 22) d_In_bitCount_21 rfl ?_
  refine T_iadd (pc' := 23) d_In_bitCount_22 rfl ?_
  refine T_is_n0 (pc' := 24) d_In_bitCount_23 rfl rfl (Nat.le_of_ble_eq_true rfl) rfl ?_
  refine T_iload_n (pc' := 25) d_In_bitCount_24 rfl rfl rfl ?_
  refine T_iload_n (pc' := 26) d_In_bitCount_25 rfl rfl rfl ?_
  refine T_iconst (v := 4) (pc' := 27) d_In_bitCount_26 rfl (by decide) ?_
  refine T_iushr (pc' := 28) d_In_bitCount_27 rfl ?_
  refine T_iadd (pc' := 29) d_In_bitCount_28 rfl ?_
  refine T_ldcw (pc' := 32) d_In_bitCount_29 rfl ck_In_267 ?_
  refine T_iand (pc' := 33) d_In_bitCount_32 rfl ?_
  refine T_is_n0 (pc' := 34) d_In_bitCount_33 rfl rfl (Nat.le_of_ble_eq_true rfl) rfl ?_
  refine T_iload_n (pc' := 35) d_In_bitCount_34 rfl rfl rfl ?_
  refine T_iload_n (pc' := 36) d_In_bitCount_35 rfl rfl rfl ?_
  refine T_bipush (v := 8) (pc' := 38) d_In_bitCount_36 rfl (by decide) ?_
  refine T_iushr (pc' := 39) d_In_bitCount_38 rfl ?_
  refine T_iadd (pc' := 40) d_In_bitCount_39 rfl ?_
  refine T_is_n0 (pc' := 41) d_In_bitCount_40 rfl rfl (Nat.le_of_ble_eq_true rfl) rfl ?_
  refine T_iload_n (pc' := 42) d_In_bitCount_41 rfl rfl rfl ?_
  refine T_iload_n (pc' := 43) d_In_bitCount_42 rfl rfl rfl ?_
  refine T_bipush (v := 16) (pc' := 45) d_In_bitCount_43 rfl (by decide) ?_
  refine T_iushr (pc' := 46) d_In_bitCount_45 rfl ?_
  refine T_iadd (pc' := 47) d_In_bitCount_46 rfl ?_
  refine T_is_n0 (pc' := 48) d_In_bitCount_47 rfl rfl (Nat.le_of_ble_eq_true rfl) rfl ?_
  refine T_iload_n (pc' := 49) d_In_bitCount_48 rfl rfl rfl ?_
  refine T_bipush (v := 63) (pc' := 51) d_In_bitCount_49 rfl (by decide) ?_
  refine T_iand (pc' := 52) d_In_bitCount_51 rfl ?_
  refine T_iret d_In_bitCount_52 rfl ?_
  exact ⟨_, rfl, rfl, rfl⟩
def sBOk (x : Int32) : Nat → Int32
  | 0 => 0
  | k + 1 => sBOk x k + (x >>> (nI k &&& 31) &&& 1)
def sBO (x : Int32) : Int32 := sBOk x 8
theorem l_Mo_bitsOf (x : Int32) (Q : Option Value → AH → Prop) (hQ : Q (some (.int (sBO x))) h) : ∀ (k i : Nat), i + k = 8 → T X d M_Mo_bitsOf 4 [.int x, .int (sBOk x i), .int (nI i)] [] h Q
  | 0, i, hi => by
    have : i = 8 := by omega
    subst this
    refine T_iload_n (pc' := 5) d_Mo_bitsOf_4 rfl rfl rfl ?_
    refine T_bipush (v := 8) (pc' := 7) d_Mo_bitsOf_5 rfl (by decide) ?_
    refine T_icmp_ge (pc' := 10) (tgt := 24) d_Mo_bitsOf_7 rfl (by decide) (fun _ => ?_) (fun hz => absurd (by decide) hz)
    refine T_iload_n (pc' := 25) d_Mo_bitsOf_24 rfl rfl rfl ?_
    refine T_iret d_Mo_bitsOf_25 rfl ?_
    exact hQ
  | k + 1, i, hi => by
    refine T_iload_n (pc' := 5) d_Mo_bitsOf_4 rfl rfl rfl ?_
    refine T_bipush (v := 8) (pc' := 7) d_Mo_bitsOf_5 rfl (by decide) ?_
    refine T_icmp_ge (pc' := 10) (tgt := 24) d_Mo_bitsOf_7 rfl (by decide) (fun hz => absurd hz (nI_ge (a := i) (b := 8) (by omega) (by decide))) (fun _ => ?_)
    refine T_iload_n (pc' := 11) d_Mo_bitsOf_10 rfl rfl rfl ?_
    refine T_iload_n (pc' := 12) d_Mo_bitsOf_11 rfl rfl rfl ?_
    refine T_iload_n (pc' := 13) d_Mo_bitsOf_12 rfl rfl rfl ?_
    refine T_ishr (pc' := 14) d_Mo_bitsOf_13 rfl ?_
    refine T_iconst (v := 1) (pc' := 15) d_Mo_bitsOf_14 rfl (by decide) ?_
    refine T_iand (pc' := 16) d_Mo_bitsOf_15 rfl ?_
    refine T_iadd (pc' := 17) d_Mo_bitsOf_16 rfl ?_
    refine T_is_n1 (pc' := 18) d_Mo_bitsOf_17 rfl rfl (Nat.le_of_ble_eq_true rfl) rfl ?_
    refine T_ii2 (c := 1) (pc' := 21) d_Mo_bitsOf_18 rfl (by decide) (Nat.le_of_ble_eq_true rfl) rfl ?_
    refine T_goto (pc' := 4) d_Mo_bitsOf_21 (by decide) ?_
    rw [nI_1]
    exact l_Mo_bitsOf x Q hQ k (i + 1) (by omega)
theorem c_Mo_bitsOf (x : Int32) : Ci X d M_Mo_bitsOf [.int x] h (fun v h1 => h1 = h ∧ v = sBO x) := by
  refine C_of_T rfl rfl (Nat.le_of_ble_eq_true rfl) rfl ?_
  refine T_iconst (v := 0) (pc' := 1) d_Mo_bitsOf_0 rfl (by decide) ?_
  refine T_is_n1 (pc' := 2) d_Mo_bitsOf_1 rfl rfl (Nat.le_of_ble_eq_true rfl) rfl ?_
  refine T_iconst (v := 0) (pc' := 3) d_Mo_bitsOf_2 rfl (by decide) ?_
  refine T_is_n2 (pc' := 4) d_Mo_bitsOf_3 rfl rfl (Nat.le_of_ble_eq_true rfl) rfl ?_
  exact l_Mo_bitsOf X d h x _ ⟨_, rfl, rfl, rfl⟩ 8 0 rfl
theorem sBC_BO : ∀ i : Nat, i < 16 → sBC (nI i) = sBO (nI i) := by decide +kernel
/-- the first i of f are v -/
def sFill (f : Nat → Int32) (v : Int32) (i : Nat) : Nat → Int32 := fun j => if j < i then v else f j
theorem sFill_s (f : Nat → Int32) (v : Int32) (i : Nat) : e_up (sFill f v i) i v = sFill f v (i + 1) := by
  funext j
  by_cases h1 : j = i
  · subst h1; simp [e_up, sFill]
  · by_cases h2 : j < i
    · simp [e_up, sFill, h1, h2, Nat.lt_succ_of_lt h2]
    · simp [e_up, sFill, h1, h2, show ¬ j < i + 1 by omega]
theorem l_Ar_fill (a n : Nat) (f : Nat → Int32) (v : Int32) (hn : n < 2 ^ 31) (ha : h.2 a = some (.inl (0, n, f))) (Q : Option Value → AH → Prop) (hQ : Q none (e_put h a (.inl (0, n, sFill f v n)))) : ∀ (k i : Nat), i + k = n → T X d M_Ar_fill 5 [.ref a, .int v, .int (nI i), .int (nI n)] [] (e_put h a (.inl (0, n, sFill f v i))) Q
  | 0, i, hi => by
    have : i = n := by omega
    subst this
    refine T_iload_n (pc' := 6) d_Ar_fill_5 rfl rfl rfl ?_
    refine T_iload_n (pc' := 7) d_Ar_fill_6 rfl rfl rfl ?_
    refine T_icmp_ge (pc' := 10) (tgt := 20) d_Ar_fill_7 rfl (by decide) (fun _ => ?_) (fun hz => absurd (Int32.le_refl _) hz)
    refine T_vret d_Ar_fill_20 rfl ?_
    exact hQ
  | k + 1, i, hi => by
    refine T_iload_n (pc' := 6) d_Ar_fill_5 rfl rfl rfl ?_
    refine T_iload_n (pc' := 7) d_Ar_fill_6 rfl rfl rfl ?_
    refine T_icmp_ge (pc' := 10) (tgt := 20) d_Ar_fill_7 rfl (by decide) (fun hz => absurd hz (nI_ge (by omega) hn)) (fun _ => ?_)
    have hin : vp_in (nI i) n := vp_in_nI (by omega) hn
    refine T_aload_n (pc' := 11) d_Ar_fill_10 rfl rfl rfl ?_
    refine T_iload_n (pc' := 12) d_Ar_fill_11 rfl rfl rfl ?_
    refine T_iload_n (pc' := 13) d_Ar_fill_12 rfl rfl rfl ?_
    refine T_iastore (pc' := 14) d_Ar_fill_13 rfl (by first | assumption | exact e_put_s | simp [e_put, *]) (by first | assumption | exact in_dec rfl) ?_
    refine T_ii2 (c := 1) (pc' := 17) d_Ar_fill_14 rfl (by decide) (Nat.le_of_ble_eq_true rfl) rfl ?_
    refine T_goto (pc' := 5) d_Ar_fill_17 (by decide) ?_
    rw [e_pp, nI_clamp (by omega), sFill_s]
    rw [nI_1]
    exact l_Ar_fill a n f v hn ha Q hQ k (i + 1) (by omega)
theorem c_Ar_fill (a n : Nat) (f : Nat → Int32) (v : Int32) (hn : n < 2 ^ 31) (ha : h.2 a = some (.inl (0, n, f))) : Cv X d M_Ar_fill [.ref a, .int v] h (fun h1 => h1 = e_put h a (.inl (0, n, sFill f v n))) := by
  refine C_of_T rfl rfl (Nat.le_of_ble_eq_true rfl) rfl ?_
  refine T_iconst (v := 0) (pc' := 1) d_Ar_fill_0 rfl (by decide) ?_
  refine T_is_n2 (pc' := 2) d_Ar_fill_1 rfl rfl (Nat.le_of_ble_eq_true rfl) rfl ?_
  refine T_aload_n (pc' := 3) d_Ar_fill_2 rfl rfl rfl ?_
  refine T_alen (pc' := 4) d_Ar_fill_3 rfl (by first | assumption | exact e_put_s | simp [e_put, *]) ?_
  refine T_is_n3 (pc' := 5) d_Ar_fill_4 rfl rfl (Nat.le_of_ble_eq_true rfl) rfl ?_
  have hs : e_put h a (.inl (0, n, sFill f v 0)) = h := by
    unfold e_put
    refine Prod.ext rfl (funext fun k => ?_)
    by_cases hk : k = a
    · subst hk
      have : sFill f v 0 = f := by funext j; simp [sFill]
      simp [this, ha]
    · simp [hk]
  have := l_Ar_fill X d h a n f v hn ha (fun r h1 => r = none ∧ h1 = e_put h a (.inl (0, n, sFill f v n))) ⟨rfl, rfl⟩ n 0 (by omega)
  rw [hs] at this
  exact this
end BASE
end
section
/-! Flight: a cell of nine numbers -/
/-- the fields: minute, cell, height, thinker, idea, since, aboard, used, lost -/
abbrev oFl (mi ce he th id si ab us lo : Int32) : AC := .inr (.inr (0, [.int mi, .int ce, .int he, .int th, .int id, .int si, .int ab, .int us, .int lo]))
def sClamp (lo hi x : Int32) : Int32 := if lo < (if x < hi then x else hi) then (if x < hi then x else hi) else lo
section FL
variable (X : EX) (d : Nat) (h : AH) (a : Nat) (mi ce he th id si ab us lo : Int32)
theorem c_Fl_usedBy (p : Int32) (ha : h.2 a = some (oFl mi ce he th id si ab us lo)) : Ci X d M_Fl_usedBy [.ref a, .int p] h (fun v h1 => h1 = h ∧ v = us >>> ((4 * p) &&& 31) &&& 15) := by
  refine C_of_T rfl rfl (Nat.le_of_ble_eq_true rfl) rfl ?_
  refine T_aload_n (pc' := 1) d_Fl_usedBy_0 rfl rfl rfl ?_
  refine T_get (pc' := 4) d_Fl_usedBy_1 rfl g_Fl_27 (by first | assumption | exact e_put_s | simp [e_put, *]) rfl ?_
  refine T_iconst (v := 4) (pc' := 5) d_Fl_usedBy_4 rfl (by decide) ?_
  refine T_iload_n (pc' := 6) d_Fl_usedBy_5 rfl rfl rfl ?_
  refine T_imul (pc' := 7) d_Fl_usedBy_6 rfl ?_
  refine T_ishr (pc' := 8) d_Fl_usedBy_7 rfl ?_
  refine T_bipush (v := 15) (pc' := 10) d_Fl_usedBy_8 rfl (by decide) ?_
  refine T_iand (pc' := 11) d_Fl_usedBy_10 rfl ?_
  refine T_iret d_Fl_usedBy_11 rfl ?_
  exact ⟨_, rfl, rfl, rfl⟩
theorem c_Fl_hasAboard (p : Int32) (ha : h.2 a = some (oFl mi ce he th id si ab us lo)) : Ci X d M_Fl_hasAboard [.ref a, .int p] h (fun v h1 => h1 = h ∧ (sHas ab p ∧ v = 1 ∨ ¬ sHas ab p ∧ v = 0)) := by
  refine C_of_T rfl rfl (Nat.le_of_ble_eq_true rfl) rfl ?_
  refine T_aload_n (pc' := 1) d_Fl_hasAboard_0 rfl rfl rfl ?_
  refine T_get (pc' := 4) d_Fl_hasAboard_1 rfl g_Fl_24 (by first | assumption | exact e_put_s | simp [e_put, *]) rfl ?_
  refine T_iload_n (pc' := 5) d_Fl_hasAboard_4 rfl rfl rfl ?_
  refine T_ishr (pc' := 6) d_Fl_hasAboard_5 rfl ?_
  refine T_iconst (v := 1) (pc' := 7) d_Fl_hasAboard_6 rfl (by decide) ?_
  refine T_iand (pc' := 8) d_Fl_hasAboard_7 rfl ?_
  refine T_iconst (v := 1) (pc' := 9) d_Fl_hasAboard_8 rfl (by decide) ?_
  refine T_icmp_ne (pc' := 12) (tgt := 16) d_Fl_hasAboard_9 rfl (by decide) (fun hc => ?_) (fun hc => ?_)
  · refine T_iconst (v := 0) (pc' := 17) d_Fl_hasAboard_16 rfl (by decide) ?_
    refine T_zret d_Fl_hasAboard_17 rfl (by first | assumption | exact Or.inl rfl | exact Or.inr rfl) ?_
    exact ⟨_, rfl, rfl, Or.inr ⟨hc, rfl⟩⟩
  · refine T_iconst (v := 1) (pc' := 13) d_Fl_hasAboard_12 rfl (by decide) ?_
    refine T_goto (pc' := 17) d_Fl_hasAboard_13 (by decide) ?_
    refine T_zret d_Fl_hasAboard_17 rfl (by first | assumption | exact Or.inl rfl | exact Or.inr rfl) ?_
    exact ⟨_, rfl, rfl, Or.inl ⟨hc, rfl⟩⟩
theorem c_Fl_thinkNothing (ha : h.2 a = some (oFl mi ce he th id si ab us lo)) : Cv X d M_Fl_thinkNothing [.ref a] h (fun h1 => h1 = e_put h a (oFl mi ce he (-9) (-9) 0 ab us lo)) := by
  refine C_of_T rfl rfl (Nat.le_of_ble_eq_true rfl) rfl ?_
  refine T_aload_n (pc' := 1) d_Fl_thinkNothing_0 rfl rfl rfl ?_
  refine T_bipush (v := (-9)) (pc' := 3) d_Fl_thinkNothing_1 rfl (by decide) ?_
  refine T_puti3 (pc' := 6) d_Fl_thinkNothing_3 rfl f_Fl_34 (fun z => absurd z Bool.false_ne_true) (by first | assumption | exact e_put_s | simp [e_put, *]) ?_
  refine T_aload_n (pc' := 7) d_Fl_thinkNothing_6 rfl rfl rfl ?_
  refine T_bipush (v := (-9)) (pc' := 9) d_Fl_thinkNothing_7 rfl (by decide) ?_
  refine T_puti4 (pc' := 12) d_Fl_thinkNothing_9 rfl f_Fl_37 (fun z => absurd z Bool.false_ne_true) (by first | assumption | exact e_put_s | simp [e_put, *]) ?_
  refine T_aload_n (pc' := 13) d_Fl_thinkNothing_12 rfl rfl rfl ?_
  refine T_iconst (v := 0) (pc' := 14) d_Fl_thinkNothing_13 rfl (by decide) ?_
  refine T_puti5 (pc' := 17) d_Fl_thinkNothing_14 rfl f_Fl_40 (fun z => absurd z Bool.false_ne_true) (by first | assumption | exact e_put_s | simp [e_put, *]) ?_
  refine T_vret d_Fl_thinkNothing_17 rfl ?_
  exact ⟨rfl, by rw [e_pp, e_pp]⟩
theorem c_Fl_start (c b : Int32) (ha : h.2 a = some (oFl mi ce he th id si ab us lo)) : Cv X (d + 1) M_Fl_start [.ref a, .int c, .int b] h (fun h1 => h1 = e_put h a (oFl 0 c 0 (-9) (-9) 0 b 0 0)) := by
  refine C_of_T rfl rfl (Nat.le_of_ble_eq_true rfl) rfl ?_
  refine T_aload_n (pc' := 1) d_Fl_start_0 rfl rfl rfl ?_
  refine T_iconst (v := 0) (pc' := 2) d_Fl_start_1 rfl (by decide) ?_
  refine T_puti0 (pc' := 5) d_Fl_start_2 rfl f_Fl_9 (fun z => absurd z Bool.false_ne_true) (by first | assumption | exact e_put_s | simp [e_put, *]) ?_
  refine T_aload_n (pc' := 6) d_Fl_start_5 rfl rfl rfl ?_
  refine T_iload_n (pc' := 7) d_Fl_start_6 rfl rfl rfl ?_
  refine T_puti1 (pc' := 10) d_Fl_start_7 rfl f_Fl_15 (fun z => absurd z Bool.false_ne_true) (by first | assumption | exact e_put_s | simp [e_put, *]) ?_
  refine T_aload_n (pc' := 11) d_Fl_start_10 rfl rfl rfl ?_
  refine T_iconst (v := 0) (pc' := 12) d_Fl_start_11 rfl (by decide) ?_
  refine T_puti2 (pc' := 15) d_Fl_start_12 rfl f_Fl_18 (fun z => absurd z Bool.false_ne_true) (by first | assumption | exact e_put_s | simp [e_put, *]) ?_
  refine T_aload_n (pc' := 16) d_Fl_start_15 rfl rfl rfl ?_
  refine T_V0v (pc' := 19) d_Fl_start_16 rfl l_Fl_21 v_Fl_thinkNothing (by first | assumption | exact e_put_s | simp [e_put, *]) (Nat.le_of_ble_eq_true rfl) (c_Fl_thinkNothing X d _ a _ _ _ _ _ _ _ _ _ e_put_s) (fun h1 hq => ?_)
  subst hq
  refine T_aload_n (pc' := 20) d_Fl_start_19 rfl rfl rfl ?_
  refine T_iload_n (pc' := 21) d_Fl_start_20 rfl rfl rfl ?_
  refine T_puti6 (pc' := 24) d_Fl_start_21 rfl f_Fl_24 (fun z => absurd z Bool.false_ne_true) (by first | assumption | exact e_put_s | simp [e_put, *]) ?_
  refine T_aload_n (pc' := 25) d_Fl_start_24 rfl rfl rfl ?_
  refine T_iconst (v := 0) (pc' := 26) d_Fl_start_25 rfl (by decide) ?_
  refine T_puti7 (pc' := 29) d_Fl_start_26 rfl f_Fl_27 (fun z => absurd z Bool.false_ne_true) (by first | assumption | exact e_put_s | simp [e_put, *]) ?_
  refine T_aload_n (pc' := 30) d_Fl_start_29 rfl rfl rfl ?_
  refine T_iconst (v := 0) (pc' := 31) d_Fl_start_30 rfl (by decide) ?_
  refine T_putz8 (pc' := 34) d_Fl_start_31 rfl f_Fl_30 (fun z => absurd z Bool.false_ne_true) (by first | assumption | exact e_put_s | simp [e_put, *]) (by first | assumption | exact Or.inl rfl | exact Or.inr rfl) ?_
  refine T_vret d_Fl_start_34 rfl ?_
  exact ⟨rfl, by simp only [e_pp]⟩
theorem c_Fl_copyFrom (b : Nat) (mi' ce' he' th' id' si' ab' us' lo' : Int32) (hab : b ≠ a) (hlo : lo' = 0 ∨ lo' = 1) (ha : h.2 a = some (oFl mi ce he th id si ab us lo)) (hb : h.2 b = some (oFl mi' ce' he' th' id' si' ab' us' lo')) : Cv X d M_Fl_copyFrom [.ref a, .ref b] h (fun h1 => h1 = e_put h a (oFl mi' ce' he' th' id' si' ab' us' lo')) := by
  have hb' : ∀ c, (e_put h a c).2 b = some (oFl mi' ce' he' th' id' si' ab' us' lo') := fun c => (e_put_n hab).trans hb
  refine C_of_T rfl rfl (Nat.le_of_ble_eq_true rfl) rfl ?_
  refine T_aload_n (pc' := 1) d_Fl_copyFrom_0 rfl rfl rfl ?_
  refine T_aload_n (pc' := 2) d_Fl_copyFrom_1 rfl rfl rfl ?_
  refine T_get (pc' := 5) d_Fl_copyFrom_2 rfl g_Fl_9 (by first | assumption | exact e_put_s | simp [e_put, *]) rfl ?_
  refine T_puti0 (pc' := 8) d_Fl_copyFrom_5 rfl f_Fl_9 (fun z => absurd z Bool.false_ne_true) (by first | assumption | exact e_put_s | simp [e_put, *]) ?_
  refine T_aload_n (pc' := 9) d_Fl_copyFrom_8 rfl rfl rfl ?_
  refine T_aload_n (pc' := 10) d_Fl_copyFrom_9 rfl rfl rfl ?_
  refine T_get (pc' := 13) d_Fl_copyFrom_10 rfl g_Fl_15 (hb' _) rfl ?_
  refine T_puti1 (pc' := 16) d_Fl_copyFrom_13 rfl f_Fl_15 (fun z => absurd z Bool.false_ne_true) e_put_s ?_
  rw [e_pp]
  refine T_aload_n (pc' := 17) d_Fl_copyFrom_16 rfl rfl rfl ?_
  refine T_aload_n (pc' := 18) d_Fl_copyFrom_17 rfl rfl rfl ?_
  refine T_get (pc' := 21) d_Fl_copyFrom_18 rfl g_Fl_18 (hb' _) rfl ?_
  refine T_puti2 (pc' := 24) d_Fl_copyFrom_21 rfl f_Fl_18 (fun z => absurd z Bool.false_ne_true) e_put_s ?_
  rw [e_pp]
  refine T_aload_n (pc' := 25) d_Fl_copyFrom_24 rfl rfl rfl ?_
  refine T_aload_n (pc' := 26) d_Fl_copyFrom_25 rfl rfl rfl ?_
  refine T_get (pc' := 29) d_Fl_copyFrom_26 rfl g_Fl_34 (hb' _) rfl ?_
  refine T_puti3 (pc' := 32) d_Fl_copyFrom_29 rfl f_Fl_34 (fun z => absurd z Bool.false_ne_true) e_put_s ?_
  rw [e_pp]
  refine T_aload_n (pc' := 33) d_Fl_copyFrom_32 rfl rfl rfl ?_
  refine T_aload_n (pc' := 34) d_Fl_copyFrom_33 rfl rfl rfl ?_
  refine T_get (pc' := 37) d_Fl_copyFrom_34 rfl g_Fl_37 (hb' _) rfl ?_
  refine T_puti4 (pc' := 40) d_Fl_copyFrom_37 rfl f_Fl_37 (fun z => absurd z Bool.false_ne_true) e_put_s ?_
  rw [e_pp]
  refine T_aload_n (pc' := 41) d_Fl_copyFrom_40 rfl rfl rfl ?_
  refine T_aload_n (pc' := 42) d_Fl_copyFrom_41 rfl rfl rfl ?_
  refine T_get (pc' := 45) d_Fl_copyFrom_42 rfl g_Fl_40 (hb' _) rfl ?_
  refine T_puti5 (pc' := 48) d_Fl_copyFrom_45 rfl f_Fl_40 (fun z => absurd z Bool.false_ne_true) e_put_s ?_
  rw [e_pp]
  refine T_aload_n (pc' := 49) d_Fl_copyFrom_48 rfl rfl rfl ?_
  refine T_aload_n (pc' := 50) d_Fl_copyFrom_49 rfl rfl rfl ?_
  refine T_get (pc' := 53) d_Fl_copyFrom_50 rfl g_Fl_24 (hb' _) rfl ?_
  refine T_puti6 (pc' := 56) d_Fl_copyFrom_53 rfl f_Fl_24 (fun z => absurd z Bool.false_ne_true) e_put_s ?_
  rw [e_pp]
  refine T_aload_n (pc' := 57) d_Fl_copyFrom_56 rfl rfl rfl ?_
  refine T_aload_n (pc' := 58) d_Fl_copyFrom_57 rfl rfl rfl ?_
  refine T_get (pc' := 61) d_Fl_copyFrom_58 rfl g_Fl_27 (hb' _) rfl ?_
  refine T_puti7 (pc' := 64) d_Fl_copyFrom_61 rfl f_Fl_27 (fun z => absurd z Bool.false_ne_true) e_put_s ?_
  rw [e_pp]
  refine T_aload_n (pc' := 65) d_Fl_copyFrom_64 rfl rfl rfl ?_
  refine T_aload_n (pc' := 66) d_Fl_copyFrom_65 rfl rfl rfl ?_
  refine T_get (pc' := 69) d_Fl_copyFrom_66 rfl g_Fl_30 (hb' _) rfl ?_
  refine T_putz8 (pc' := 72) d_Fl_copyFrom_69 rfl f_Fl_30 (fun z => absurd z Bool.false_ne_true) e_put_s (by first | assumption | exact Or.inl rfl | exact Or.inr rfl) ?_
  rw [e_pp]
  refine T_vret d_Fl_copyFrom_72 rfl ?_
  exact ⟨rfl, rfl⟩
/-- thought t is not used, and the person is in -/
def sMay (ab us p t : Int32) : Prop := sHas ab p ∧ (us >>> ((4 * p) &&& 31) &&& 15) >>> (t &&& 31) &&& 1 = 0
theorem c_Fl_mayBegin (p t : Int32) (ha : h.2 a = some (oFl mi ce he th id si ab us lo)) : Ci X (d + 1) M_Fl_mayBegin [.ref a, .int p, .int t] h (fun v h1 => h1 = h ∧ (sMay ab us p t ∧ v = 1 ∨ ¬ sMay ab us p t ∧ v = 0)) := by
  refine C_of_T rfl rfl (Nat.le_of_ble_eq_true rfl) rfl ?_
  refine T_aload_n (pc' := 1) d_Fl_mayBegin_0 rfl rfl rfl ?_
  refine T_iload_n (pc' := 2) d_Fl_mayBegin_1 rfl rfl rfl ?_
  refine T_V1i (pc' := 5) d_Fl_mayBegin_2 rfl l_Fl_43 v_Fl_hasAboard (by first | assumption | exact e_put_s | simp [e_put, *]) (Nat.le_of_ble_eq_true rfl) (c_Fl_hasAboard X d h a _ _ _ _ _ _ _ _ _ p ha) (fun v h1 hq => ?_)
  obtain ⟨rfl, ⟨hp, rfl⟩ | ⟨hp, rfl⟩⟩ := hq
  · refine T_if_eq (pc' := 8) (tgt := 24) d_Fl_mayBegin_5 rfl (by decide) (fun hz => absurd hz (by decide)) (fun _ => ?_)
    refine T_aload_n (pc' := 9) d_Fl_mayBegin_8 rfl rfl rfl ?_
    refine T_iload_n (pc' := 10) d_Fl_mayBegin_9 rfl rfl rfl ?_
    refine T_V1i (pc' := 13) d_Fl_mayBegin_10 rfl l_Fl_47 v_Fl_usedBy (by first | assumption | exact e_put_s | simp [e_put, *]) (Nat.le_of_ble_eq_true rfl) (c_Fl_usedBy X d h1 a _ _ _ _ _ _ _ _ _ p ha) (fun v h2 hq => ?_)
    obtain ⟨rfl, rfl⟩ := hq
    refine T_iload_n (pc' := 14) d_Fl_mayBegin_13 rfl rfl rfl ?_
    refine T_ishr (pc' := 15) d_Fl_mayBegin_14 rfl ?_
    refine T_iconst (v := 1) (pc' := 16) d_Fl_mayBegin_15 rfl (by decide) ?_
    refine T_iand (pc' := 17) d_Fl_mayBegin_16 rfl ?_
    refine T_if_ne (pc' := 20) (tgt := 24) d_Fl_mayBegin_17 rfl (by decide) (fun hc => ?_) (fun hc => ?_)
    · refine T_iconst (v := 0) (pc' := 25) d_Fl_mayBegin_24 rfl (by decide) ?_
      refine T_zret d_Fl_mayBegin_25 rfl (by first | assumption | exact Or.inl rfl | exact Or.inr rfl) ?_
      exact ⟨_, rfl, rfl, Or.inr ⟨fun q => hc q.2, rfl⟩⟩
    · refine T_iconst (v := 1) (pc' := 21) d_Fl_mayBegin_20 rfl (by decide) ?_
      refine T_goto (pc' := 25) d_Fl_mayBegin_21 (by decide) ?_
      refine T_zret d_Fl_mayBegin_25 rfl (by first | assumption | exact Or.inl rfl | exact Or.inr rfl) ?_
      exact ⟨_, rfl, rfl, Or.inl ⟨⟨hp, hc⟩, rfl⟩⟩
  · refine T_if_eq (pc' := 8) (tgt := 24) d_Fl_mayBegin_5 rfl (by decide) (fun _ => ?_) (fun hz => absurd (by decide) hz)
    refine T_iconst (v := 0) (pc' := 25) d_Fl_mayBegin_24 rfl (by decide) ?_
    refine T_zret d_Fl_mayBegin_25 rfl (by first | assumption | exact Or.inl rfl | exact Or.inr rfl) ?_
    exact ⟨_, rfl, rfl, Or.inr ⟨fun q => hp q.1, rfl⟩⟩
theorem c_Fl_mayBeBoarded (ha : h.2 a = some (oFl mi ce he th id si ab us lo)) : Ci X d M_Fl_mayBeBoarded [.ref a] h (fun v h1 => h1 = h ∧ ((he = 0 ∧ lo = 0) ∧ v = 1 ∨ ¬ (he = 0 ∧ lo = 0) ∧ v = 0)) := by
  refine C_of_T rfl rfl (Nat.le_of_ble_eq_true rfl) rfl ?_
  refine T_aload_n (pc' := 1) d_Fl_mayBeBoarded_0 rfl rfl rfl ?_
  refine T_get (pc' := 4) d_Fl_mayBeBoarded_1 rfl g_Fl_18 (by first | assumption | exact e_put_s | simp [e_put, *]) rfl ?_
  refine T_if_ne (pc' := 7) (tgt := 18) d_Fl_mayBeBoarded_4 rfl (by decide) (fun hc => ?_) (fun hc => ?_)
  · refine T_iconst (v := 0) (pc' := 19) d_Fl_mayBeBoarded_18 rfl (by decide) ?_
    refine T_zret d_Fl_mayBeBoarded_19 rfl (by first | assumption | exact Or.inl rfl | exact Or.inr rfl) ?_
    exact ⟨_, rfl, rfl, Or.inr ⟨fun q => hc q.1, rfl⟩⟩
  · refine T_aload_n (pc' := 8) d_Fl_mayBeBoarded_7 rfl rfl rfl ?_
    refine T_get (pc' := 11) d_Fl_mayBeBoarded_8 rfl g_Fl_30 (by first | assumption | exact e_put_s | simp [e_put, *]) rfl ?_
    refine T_if_ne (pc' := 14) (tgt := 18) d_Fl_mayBeBoarded_11 rfl (by decide) (fun hc => ?_) (fun hc => ?_)
    · refine T_iconst (v := 0) (pc' := 19) d_Fl_mayBeBoarded_18 rfl (by decide) ?_
      refine T_zret d_Fl_mayBeBoarded_19 rfl (by first | assumption | exact Or.inl rfl | exact Or.inr rfl) ?_
      exact ⟨_, rfl, rfl, Or.inr ⟨fun q => by first | exact hc q.2, rfl⟩⟩
    · refine T_iconst (v := 1) (pc' := 15) d_Fl_mayBeBoarded_14 rfl (by decide) ?_
      refine T_goto (pc' := 19) d_Fl_mayBeBoarded_15 (by decide) ?_
      refine T_zret d_Fl_mayBeBoarded_19 rfl (by first | assumption | exact Or.inl rfl | exact Or.inr rfl) ?_
      exact ⟨_, rfl, rfl, Or.inl ⟨⟨by first | assumption, hc⟩, rfl⟩⟩
theorem c_Fl_think (p t : Int32) (ha : h.2 a = some (oFl mi ce he th id si ab us lo)) : Cv X d M_Fl_think [.ref a, .int p, .int t] h (fun h1 => h1 = e_put h a (oFl mi ce he p t mi ab us lo)) := by
  refine C_of_T rfl rfl (Nat.le_of_ble_eq_true rfl) rfl ?_
  refine T_aload_n (pc' := 1) d_Fl_think_0 rfl rfl rfl ?_
  refine T_iload_n (pc' := 2) d_Fl_think_1 rfl rfl rfl ?_
  refine T_puti3 (pc' := 5) d_Fl_think_2 rfl f_Fl_34 (fun z => absurd z Bool.false_ne_true) (by first | assumption | exact e_put_s | simp [e_put, *]) ?_
  refine T_aload_n (pc' := 6) d_Fl_think_5 rfl rfl rfl ?_
  refine T_iload_n (pc' := 7) d_Fl_think_6 rfl rfl rfl ?_
  refine T_puti4 (pc' := 10) d_Fl_think_7 rfl f_Fl_37 (fun z => absurd z Bool.false_ne_true) (by first | assumption | exact e_put_s | simp [e_put, *]) ?_
  refine T_aload_n (pc' := 11) d_Fl_think_10 rfl rfl rfl ?_
  refine T_aload_n (pc' := 12) d_Fl_think_11 rfl rfl rfl ?_
  refine T_get (pc' := 15) d_Fl_think_12 rfl g_Fl_9 (by first | assumption | exact e_put_s | simp [e_put, *]) rfl ?_
  refine T_puti5 (pc' := 18) d_Fl_think_15 rfl f_Fl_40 (fun z => absurd z Bool.false_ne_true) (by first | assumption | exact e_put_s | simp [e_put, *]) ?_
  refine T_vret d_Fl_think_18 rfl ?_
  exact ⟨rfl, by simp only [e_pp]⟩
theorem c_Fl_begin (p t : Int32) (ha : h.2 a = some (oFl mi ce he th id si ab us lo)) : Cv X (d + 1) M_Fl_begin [.ref a, .int p, .int t] h (fun h1 => h1 = e_put h a (oFl mi ce he p t mi ab (us ||| (1 <<< ((4 * p + t) &&& 31))) lo)) := by
  refine C_of_T rfl rfl (Nat.le_of_ble_eq_true rfl) rfl ?_
  refine T_aload_n (pc' := 1) d_Fl_begin_0 rfl rfl rfl ?_
  refine T_iload_n (pc' := 2) d_Fl_begin_1 rfl rfl rfl ?_
  refine T_iload_n (pc' := 3) d_Fl_begin_2 rfl rfl rfl ?_
  refine T_V2v (pc' := 6) d_Fl_begin_3 rfl l_Fl_51 v_Fl_think (by first | assumption | exact e_put_s | simp [e_put, *]) (Nat.le_of_ble_eq_true rfl) (c_Fl_think X d h a _ _ _ _ _ _ _ _ _ p t ha) (fun h1 hq => ?_)
  subst hq
  refine T_aload_n (pc' := 7) d_Fl_begin_6 rfl rfl rfl ?_
  refine T_dup (pc' := 8) d_Fl_begin_7 rfl rfl ?_
  refine T_get (pc' := 11) d_Fl_begin_8 rfl g_Fl_27 (by first | assumption | exact e_put_s | simp [e_put, *]) rfl ?_
  refine T_iconst (v := 1) (pc' := 12) d_Fl_begin_11 rfl (by decide) ?_
  refine T_iconst (v := 4) (pc' := 13) d_Fl_begin_12 rfl (by decide) ?_
  refine T_iload_n (pc' := 14) d_Fl_begin_13 rfl rfl rfl ?_
  refine T_imul (pc' := 15) d_Fl_begin_14 rfl ?_
  refine T_iload_n (pc' := 16) d_Fl_begin_15 rfl rfl rfl ?_
  refine T_iadd (pc' := 17) d_Fl_begin_16 rfl ?_
  refine T_ishl (pc' := 18) d_Fl_begin_17 rfl ?_
  refine T_ior (pc' := 19) d_Fl_begin_18 rfl ?_
  refine T_puti7 (pc' := 22) d_Fl_begin_19 rfl f_Fl_27 (fun z => absurd z Bool.false_ne_true) (by first | assumption | exact e_put_s | simp [e_put, *]) ?_
  refine T_vret d_Fl_begin_22 rfl ?_
  exact ⟨rfl, by simp only [e_pp]⟩
theorem c_Fl_takeIn (p : Int32) (ha : h.2 a = some (oFl mi ce he th id si ab us lo)) : Cv X d M_Fl_takeIn [.ref a, .int p] h (fun h1 => h1 = e_put h a (oFl mi ce he th id si (ab ||| (1 <<< (p &&& 31))) us lo)) := by
  refine C_of_T rfl rfl (Nat.le_of_ble_eq_true rfl) rfl ?_
  refine T_aload_n (pc' := 1) d_Fl_takeIn_0 rfl rfl rfl ?_
  refine T_dup (pc' := 2) d_Fl_takeIn_1 rfl rfl ?_
  refine T_get (pc' := 5) d_Fl_takeIn_2 rfl g_Fl_24 (by first | assumption | exact e_put_s | simp [e_put, *]) rfl ?_
  refine T_iconst (v := 1) (pc' := 6) d_Fl_takeIn_5 rfl (by decide) ?_
  refine T_iload_n (pc' := 7) d_Fl_takeIn_6 rfl rfl rfl ?_
  refine T_ishl (pc' := 8) d_Fl_takeIn_7 rfl ?_
  refine T_ior (pc' := 9) d_Fl_takeIn_8 rfl ?_
  refine T_puti6 (pc' := 12) d_Fl_takeIn_9 rfl f_Fl_24 (fun z => absurd z Bool.false_ne_true) (by first | assumption | exact e_put_s | simp [e_put, *]) ?_
  refine T_vret d_Fl_takeIn_12 rfl ?_
  exact ⟨rfl, rfl⟩
theorem c_Fl_letOut (p : Int32) (ha : h.2 a = some (oFl mi ce he th id si ab us lo)) : Cv X (d + 1) M_Fl_letOut [.ref a, .int p] h (fun h1 => (th = p ∧ h1 = e_put h a (oFl mi ce he (-9) (-9) 0 (ab &&& ((1 <<< (p &&& 31)) ^^^ (-1))) us lo)) ∨ (¬ th = p ∧ h1 = e_put h a (oFl mi ce he th id si (ab &&& ((1 <<< (p &&& 31)) ^^^ (-1))) us lo))) := by
  refine C_of_T rfl rfl (Nat.le_of_ble_eq_true rfl) rfl ?_
  refine T_aload_n (pc' := 1) d_Fl_letOut_0 rfl rfl rfl ?_
  refine T_dup (pc' := 2) d_Fl_letOut_1 rfl rfl ?_
  refine T_get (pc' := 5) d_Fl_letOut_2 rfl g_Fl_24 (by first | assumption | exact e_put_s | simp [e_put, *]) rfl ?_
  refine T_iconst (v := 1) (pc' := 6) d_Fl_letOut_5 rfl (by decide) ?_
  refine T_iload_n (pc' := 7) d_Fl_letOut_6 rfl rfl rfl ?_
  refine T_ishl (pc' := 8) d_Fl_letOut_7 rfl ?_
  refine T_iconst (v := (-1)) (pc' := 9) d_Fl_letOut_8 rfl (by decide) ?_
  refine T_ixor (pc' := 10) d_Fl_letOut_9 rfl ?_
  refine T_iand (pc' := 11) d_Fl_letOut_10 rfl ?_
  refine T_puti6 (pc' := 14) d_Fl_letOut_11 rfl f_Fl_24 (fun z => absurd z Bool.false_ne_true) (by first | assumption | exact e_put_s | simp [e_put, *]) ?_
  refine T_aload_n (pc' := 15) d_Fl_letOut_14 rfl rfl rfl ?_
  refine T_get (pc' := 18) d_Fl_letOut_15 rfl g_Fl_34 (by first | assumption | exact e_put_s | simp [e_put, *]) rfl ?_
  refine T_iload_n (pc' := 19) d_Fl_letOut_18 rfl rfl rfl ?_
  refine T_icmp_ne (pc' := 22) (tgt := 26) d_Fl_letOut_19 rfl (by decide) (fun hc => ?_) (fun hc => ?_)
  · refine T_vret d_Fl_letOut_26 rfl ?_
    exact ⟨rfl, Or.inr ⟨hc, rfl⟩⟩
  · refine T_aload_n (pc' := 23) d_Fl_letOut_22 rfl rfl rfl ?_
    refine T_V0v (pc' := 26) d_Fl_letOut_23 rfl l_Fl_21 v_Fl_thinkNothing (by first | assumption | exact e_put_s | simp [e_put, *]) (Nat.le_of_ble_eq_true rfl) (c_Fl_thinkNothing X d _ a _ _ _ _ _ _ _ _ _ e_put_s) (fun h1 hq => ?_)
    subst hq
    refine T_vret d_Fl_letOut_26 rfl ?_
    exact ⟨rfl, Or.inl ⟨hc, by simp only [e_pp]⟩⟩
theorem c_Fl_climb (by_ : Int32) (ha : h.2 a = some (oFl mi ce he th id si ab us lo)) : Cv X (d + 1) M_Fl_climb [.ref a, .int by_] h (fun h1 => h1 = e_put h a (oFl mi ce (sClamp 0 9 (he + by_)) th id si ab us lo)) := by
  refine C_of_T rfl rfl (Nat.le_of_ble_eq_true rfl) rfl ?_
  refine T_aload_n (pc' := 1) d_Fl_climb_0 rfl rfl rfl ?_
  refine T_iconst (v := 0) (pc' := 2) d_Fl_climb_1 rfl (by decide) ?_
  refine T_bipush (v := 9) (pc' := 4) d_Fl_climb_2 rfl (by decide) ?_
  refine T_aload_n (pc' := 5) d_Fl_climb_4 rfl rfl rfl ?_
  refine T_get (pc' := 8) d_Fl_climb_5 rfl g_Fl_18 (by first | assumption | exact e_put_s | simp [e_put, *]) rfl ?_
  refine T_iload_n (pc' := 9) d_Fl_climb_8 rfl rfl rfl ?_
  refine T_iadd (pc' := 10) d_Fl_climb_9 rfl ?_
  refine T_mmin (pc' := 13) d_Fl_climb_10 rfl l_Fl_55 (Nat.le_of_ble_eq_true rfl) ?_
  refine T_mmax (pc' := 16) d_Fl_climb_13 rfl l_Fl_61 (Nat.le_of_ble_eq_true rfl) ?_
  refine T_puti2 (pc' := 19) d_Fl_climb_16 rfl f_Fl_18 (fun z => absurd z Bool.false_ne_true) (by first | assumption | exact e_put_s | simp [e_put, *]) ?_
  refine T_vret d_Fl_climb_19 rfl ?_
  exact ⟨rfl, rfl⟩
theorem c_Fl_drift (by_ : Int32) (ha : h.2 a = some (oFl mi ce he th id si ab us lo)) : Cv X (d + 1) M_Fl_drift [.ref a, .int by_] h (fun h1 => h1 = e_put h a (oFl mi (sClamp 0 40 (ce + by_)) he th id si ab us (if sClamp 0 40 (ce + by_) = ce + by_ then 0 else 1))) := by
  refine C_of_T rfl rfl (Nat.le_of_ble_eq_true rfl) rfl ?_
  refine T_aload_n (pc' := 1) d_Fl_drift_0 rfl rfl rfl ?_
  refine T_get (pc' := 4) d_Fl_drift_1 rfl g_Fl_15 (by first | assumption | exact e_put_s | simp [e_put, *]) rfl ?_
  refine T_iload_n (pc' := 5) d_Fl_drift_4 rfl rfl rfl ?_
  refine T_iadd (pc' := 6) d_Fl_drift_5 rfl ?_
  refine T_is_n2 (pc' := 7) d_Fl_drift_6 rfl rfl (Nat.le_of_ble_eq_true rfl) rfl ?_
  refine T_aload_n (pc' := 8) d_Fl_drift_7 rfl rfl rfl ?_
  refine T_iconst (v := 0) (pc' := 9) d_Fl_drift_8 rfl (by decide) ?_
  refine T_bipush (v := 40) (pc' := 11) d_Fl_drift_9 rfl (by decide) ?_
  refine T_iload_n (pc' := 12) d_Fl_drift_11 rfl rfl rfl ?_
  refine T_mmin (pc' := 15) d_Fl_drift_12 rfl l_Fl_55 (Nat.le_of_ble_eq_true rfl) ?_
  refine T_mmax (pc' := 18) d_Fl_drift_15 rfl l_Fl_61 (Nat.le_of_ble_eq_true rfl) ?_
  refine T_puti1 (pc' := 21) d_Fl_drift_18 rfl f_Fl_15 (fun z => absurd z Bool.false_ne_true) (by first | assumption | exact e_put_s | simp [e_put, *]) ?_
  refine T_aload_n (pc' := 22) d_Fl_drift_21 rfl rfl rfl ?_
  refine T_aload_n (pc' := 23) d_Fl_drift_22 rfl rfl rfl ?_
  refine T_get (pc' := 26) d_Fl_drift_23 rfl g_Fl_15 (by first | assumption | exact e_put_s | simp [e_put, *]) rfl ?_
  refine T_iload_n (pc' := 27) d_Fl_drift_26 rfl rfl rfl ?_
  refine T_icmp_eq (pc' := 30) (tgt := 34) d_Fl_drift_27 rfl (by decide) (fun hc => ?_) (fun hc => ?_)
  · refine T_iconst (v := 0) (pc' := 35) d_Fl_drift_34 rfl (by decide) ?_
    refine T_putz8 (pc' := 38) d_Fl_drift_35 rfl f_Fl_30 (fun z => absurd z Bool.false_ne_true) (by first | assumption | exact e_put_s | simp [e_put, *]) (by first | assumption | exact Or.inl rfl | exact Or.inr rfl) ?_
    refine T_vret d_Fl_drift_38 rfl ?_
    exact ⟨rfl, by rw [e_pp, if_pos (show sClamp 0 40 (ce + by_) = ce + by_ from hc)]; rfl⟩
  · refine T_iconst (v := 1) (pc' := 31) d_Fl_drift_30 rfl (by decide) ?_
    refine T_goto (pc' := 35) d_Fl_drift_31 (by decide) ?_
    refine T_putz8 (pc' := 38) d_Fl_drift_35 rfl f_Fl_30 (fun z => absurd z Bool.false_ne_true) (by first | assumption | exact e_put_s | simp [e_put, *]) (by first | assumption | exact Or.inl rfl | exact Or.inr rfl) ?_
    refine T_vret d_Fl_drift_38 rfl ?_
    exact ⟨rfl, by rw [e_pp, if_neg (show ¬ sClamp 0 40 (ce + by_) = ce + by_ from hc)]; rfl⟩
theorem c_Fl_init (hb : h.2 a = some (oFl mi ce he th id si ab us lo)) : Cv X (d + 1) M_Fl_init [.ref a] h (fun h1 => h1 = h) := by
  refine C_of_T rfl rfl (Nat.le_of_ble_eq_true rfl) rfl ?_
  refine T_aload_n (pc' := 1) d_Fl_init_0 rfl rfl rfl ?_
  refine T_objInit (pc' := 4) d_Fl_init_1 rfl ol_Fl_3 oi_i oi_c ?_
  refine T_vret d_Fl_init_4 rfl ?_
  exact ⟨rfl, rfl⟩
end FL
end
