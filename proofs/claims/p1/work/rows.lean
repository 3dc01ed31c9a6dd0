section
-- ===== PART A: goes FIRST, ahead of the names: the tables' words, and 'selects' of the private methods out of them =====
/-- a private method of a class that the tables say can be made, by its rows of tables_1 -/
def lw_okq (q : MethodName × Nat) : Prop := (q.1.cls ≠ "java/lang/invoke/MethodHandle" ∧ q.1.cls ≠ "java/lang/invoke/VarHandle") ∧ Cond.instantiable q.1.cls q.2 ∈ tables_1 ∧ Cond.privateMethod q.1 ∈ tables_1 ∧ Cond.instanceMethod q.1 ∈ tables_1
theorem lw_p0 : lw_okq (⟨"PressAndWait", "refuse", "(I)I"⟩, 16) := ⟨⟨by decide +kernel, by decide +kernel⟩, List.mem_of_getElem? (i := 21) (by decide +kernel), List.mem_of_getElem? (i := 436) (by decide +kernel), List.mem_of_getElem? (i := 437) (by decide +kernel)⟩
theorem lw_p1 : lw_okq (⟨"PressAndWait", "putBytes", "(I)V"⟩, 16) := ⟨⟨by decide +kernel, by decide +kernel⟩, List.mem_of_getElem? (i := 21) (by decide +kernel), List.mem_of_getElem? (i := 440) (by decide +kernel), List.mem_of_getElem? (i := 441) (by decide +kernel)⟩
theorem lw_p2 : lw_okq (⟨"PressAndWait", "deny", "(I)Z"⟩, 16) := ⟨⟨by decide +kernel, by decide +kernel⟩, List.mem_of_getElem? (i := 21) (by decide +kernel), List.mem_of_getElem? (i := 448) (by decide +kernel), List.mem_of_getElem? (i := 449) (by decide +kernel)⟩
theorem lw_p3 : lw_okq (⟨"PressAndWait", "takeTape", "()I"⟩, 16) := ⟨⟨by decide +kernel, by decide +kernel⟩, List.mem_of_getElem? (i := 21) (by decide +kernel), List.mem_of_getElem? (i := 456) (by decide +kernel), List.mem_of_getElem? (i := 457) (by decide +kernel)⟩
theorem lw_p4 : lw_okq (⟨"PressAndWait$Reader", "begin", "(LPressAndWait$Plan;I)V"⟩, 9) := ⟨⟨by decide +kernel, by decide +kernel⟩, List.mem_of_getElem? (i := 194) (by decide +kernel), List.mem_of_getElem? (i := 464) (by decide +kernel), List.mem_of_getElem? (i := 465) (by decide +kernel)⟩
theorem lw_p5 : lw_okq (⟨"PressAndWait$Reader", "moveTo", "(I)V"⟩, 9) := ⟨⟨by decide +kernel, by decide +kernel⟩, List.mem_of_getElem? (i := 194) (by decide +kernel), List.mem_of_getElem? (i := 478) (by decide +kernel), List.mem_of_getElem? (i := 479) (by decide +kernel)⟩
theorem lw_p6 : lw_okq (⟨"PressAndWait$Reader", "sortOf", "(I)I"⟩, 9) := ⟨⟨by decide +kernel, by decide +kernel⟩, List.mem_of_getElem? (i := 194) (by decide +kernel), List.mem_of_getElem? (i := 482) (by decide +kernel), List.mem_of_getElem? (i := 483) (by decide +kernel)⟩
theorem lw_p7 : lw_okq (⟨"PressAndWait$Reader", "firstStatement", "()V"⟩, 9) := ⟨⟨by decide +kernel, by decide +kernel⟩, List.mem_of_getElem? (i := 194) (by decide +kernel), List.mem_of_getElem? (i := 486) (by decide +kernel), List.mem_of_getElem? (i := 487) (by decide +kernel)⟩
theorem lw_p8 : lw_okq (⟨"PressAndWait$Reader", "numberBehind", "(Ljava/lang/String;II)I"⟩, 9) := ⟨⟨by decide +kernel, by decide +kernel⟩, List.mem_of_getElem? (i := 194) (by decide +kernel), List.mem_of_getElem? (i := 491) (by decide +kernel), List.mem_of_getElem? (i := 492) (by decide +kernel)⟩
theorem lw_p9 : lw_okq (⟨"PressAndWait$Reader", "needWord", "(Ljava/lang/String;)V"⟩, 9) := ⟨⟨by decide +kernel, by decide +kernel⟩, List.mem_of_getElem? (i := 194) (by decide +kernel), List.mem_of_getElem? (i := 495) (by decide +kernel), List.mem_of_getElem? (i := 496) (by decide +kernel)⟩
theorem lw_p10 : lw_okq (⟨"PressAndWait$Reader", "wordIn", "(Ljava/lang/String;)I"⟩, 9) := ⟨⟨by decide +kernel, by decide +kernel⟩, List.mem_of_getElem? (i := 194) (by decide +kernel), List.mem_of_getElem? (i := 499) (by decide +kernel), List.mem_of_getElem? (i := 500) (by decide +kernel)⟩
theorem lw_p11 : lw_okq (⟨"PressAndWait$Reader", "fail", "(II)V"⟩, 9) := ⟨⟨by decide +kernel, by decide +kernel⟩, List.mem_of_getElem? (i := 194) (by decide +kernel), List.mem_of_getElem? (i := 551) (by decide +kernel), List.mem_of_getElem? (i := 552) (by decide +kernel)⟩
theorem lw_p12 : lw_okq (⟨"PressAndWait$Reader", "number", "(II)I"⟩, 9) := ⟨⟨by decide +kernel, by decide +kernel⟩, List.mem_of_getElem? (i := 194) (by decide +kernel), List.mem_of_getElem? (i := 555) (by decide +kernel), List.mem_of_getElem? (i := 556) (by decide +kernel)⟩
theorem lw_p13 : lw_okq (⟨"PressAndWait$Reader", "need", "(C)V"⟩, 9) := ⟨⟨by decide +kernel, by decide +kernel⟩, List.mem_of_getElem? (i := 194) (by decide +kernel), List.mem_of_getElem? (i := 562) (by decide +kernel), List.mem_of_getElem? (i := 563) (by decide +kernel)⟩
theorem lw_p14 : lw_okq (⟨"PressAndWait$Reader", "sees", "(C)Z"⟩, 9) := ⟨⟨by decide +kernel, by decide +kernel⟩, List.mem_of_getElem? (i := 194) (by decide +kernel), List.mem_of_getElem? (i := 566) (by decide +kernel), List.mem_of_getElem? (i := 567) (by decide +kernel)⟩
theorem lw_p15 : lw_okq (⟨"PressAndWait$Reader", "kindStatement", "()V"⟩, 9) := ⟨⟨by decide +kernel, by decide +kernel⟩, List.mem_of_getElem? (i := 194) (by decide +kernel), List.mem_of_getElem? (i := 571) (by decide +kernel), List.mem_of_getElem? (i := 572) (by decide +kernel)⟩
def lw_privs_1 : List (MethodName × Nat) := [(⟨"PressAndWait", "refuse", "(I)I"⟩, 16), (⟨"PressAndWait", "putBytes", "(I)V"⟩, 16), (⟨"PressAndWait", "deny", "(I)Z"⟩, 16), (⟨"PressAndWait", "takeTape", "()I"⟩, 16), (⟨"PressAndWait$Reader", "begin", "(LPressAndWait$Plan;I)V"⟩, 9), (⟨"PressAndWait$Reader", "moveTo", "(I)V"⟩, 9), (⟨"PressAndWait$Reader", "sortOf", "(I)I"⟩, 9), (⟨"PressAndWait$Reader", "firstStatement", "()V"⟩, 9), (⟨"PressAndWait$Reader", "numberBehind", "(Ljava/lang/String;II)I"⟩, 9), (⟨"PressAndWait$Reader", "needWord", "(Ljava/lang/String;)V"⟩, 9), (⟨"PressAndWait$Reader", "wordIn", "(Ljava/lang/String;)I"⟩, 9), (⟨"PressAndWait$Reader", "fail", "(II)V"⟩, 9), (⟨"PressAndWait$Reader", "number", "(II)I"⟩, 9), (⟨"PressAndWait$Reader", "need", "(C)V"⟩, 9), (⟨"PressAndWait$Reader", "sees", "(C)Z"⟩, 9), (⟨"PressAndWait$Reader", "kindStatement", "()V"⟩, 9)]
theorem lw_r1 : ∀ q ∈ lw_privs_1, lw_okq q := List.forall_mem_cons.mpr ⟨lw_p0, List.forall_mem_cons.mpr ⟨lw_p1, List.forall_mem_cons.mpr ⟨lw_p2, List.forall_mem_cons.mpr ⟨lw_p3, List.forall_mem_cons.mpr ⟨lw_p4, List.forall_mem_cons.mpr ⟨lw_p5, List.forall_mem_cons.mpr ⟨lw_p6, List.forall_mem_cons.mpr ⟨lw_p7, List.forall_mem_cons.mpr ⟨lw_p8, List.forall_mem_cons.mpr ⟨lw_p9, List.forall_mem_cons.mpr ⟨lw_p10, List.forall_mem_cons.mpr ⟨lw_p11, List.forall_mem_cons.mpr ⟨lw_p12, List.forall_mem_cons.mpr ⟨lw_p13, List.forall_mem_cons.mpr ⟨lw_p14, List.forall_mem_cons.mpr ⟨lw_p15, fun _ h => absurd h List.not_mem_nil⟩⟩⟩⟩⟩⟩⟩⟩⟩⟩⟩⟩⟩⟩⟩⟩
theorem lw_p16 : lw_okq (⟨"PressAndWait$Reader", "newName", "(I)V"⟩, 9) := ⟨⟨by decide +kernel, by decide +kernel⟩, List.mem_of_getElem? (i := 194) (by decide +kernel), List.mem_of_getElem? (i := 575) (by decide +kernel), List.mem_of_getElem? (i := 576) (by decide +kernel)⟩
theorem lw_p17 : lw_okq (⟨"PressAndWait$Reader", "isName", "()Z"⟩, 9) := ⟨⟨by decide +kernel, by decide +kernel⟩, List.mem_of_getElem? (i := 194) (by decide +kernel), List.mem_of_getElem? (i := 579) (by decide +kernel), List.mem_of_getElem? (i := 580) (by decide +kernel)⟩
theorem lw_p18 : lw_okq (⟨"PressAndWait$Reader", "wrongInName", "()I"⟩, 9) := ⟨⟨by decide +kernel, by decide +kernel⟩, List.mem_of_getElem? (i := 194) (by decide +kernel), List.mem_of_getElem? (i := 584) (by decide +kernel), List.mem_of_getElem? (i := 585) (by decide +kernel)⟩
theorem lw_p19 : lw_okq (⟨"PressAndWait$Reader", "slotOf", "(II)I"⟩, 9) := ⟨⟨by decide +kernel, by decide +kernel⟩, List.mem_of_getElem? (i := 194) (by decide +kernel), List.mem_of_getElem? (i := 588) (by decide +kernel), List.mem_of_getElem? (i := 589) (by decide +kernel)⟩
theorem lw_p20 : lw_okq (⟨"PressAndWait$Reader", "nameLetter", "(I)I"⟩, 9) := ⟨⟨by decide +kernel, by decide +kernel⟩, List.mem_of_getElem? (i := 194) (by decide +kernel), List.mem_of_getElem? (i := 592) (by decide +kernel), List.mem_of_getElem? (i := 593) (by decide +kernel)⟩
theorem lw_p21 : lw_okq (⟨"PressAndWait$Reader", "comesStatement", "()V"⟩, 9) := ⟨⟨by decide +kernel, by decide +kernel⟩, List.mem_of_getElem? (i := 194) (by decide +kernel), List.mem_of_getElem? (i := 599) (by decide +kernel), List.mem_of_getElem? (i := 600) (by decide +kernel)⟩
theorem lw_p22 : lw_okq (⟨"PressAndWait$Reader", "knownKind", "()I"⟩, 9) := ⟨⟨by decide +kernel, by decide +kernel⟩, List.mem_of_getElem? (i := 194) (by decide +kernel), List.mem_of_getElem? (i := 604) (by decide +kernel), List.mem_of_getElem? (i := 605) (by decide +kernel)⟩
theorem lw_p23 : lw_okq (⟨"PressAndWait$Reader", "codeStatement", "(II)V"⟩, 9) := ⟨⟨by decide +kernel, by decide +kernel⟩, List.mem_of_getElem? (i := 194) (by decide +kernel), List.mem_of_getElem? (i := 609) (by decide +kernel), List.mem_of_getElem? (i := 610) (by decide +kernel)⟩
theorem lw_p24 : lw_okq (⟨"PressAndWait$Reader", "sum", "(I)V"⟩, 9) := ⟨⟨by decide +kernel, by decide +kernel⟩, List.mem_of_getElem? (i := 194) (by decide +kernel), List.mem_of_getElem? (i := 613) (by decide +kernel), List.mem_of_getElem? (i := 614) (by decide +kernel)⟩
theorem lw_p25 : lw_okq (⟨"PressAndWait$Reader", "product", "(I)V"⟩, 9) := ⟨⟨by decide +kernel, by decide +kernel⟩, List.mem_of_getElem? (i := 194) (by decide +kernel), List.mem_of_getElem? (i := 617) (by decide +kernel), List.mem_of_getElem? (i := 618) (by decide +kernel)⟩
theorem lw_p26 : lw_okq (⟨"PressAndWait$Reader", "part", "(I)V"⟩, 9) := ⟨⟨by decide +kernel, by decide +kernel⟩, List.mem_of_getElem? (i := 194) (by decide +kernel), List.mem_of_getElem? (i := 621) (by decide +kernel), List.mem_of_getElem? (i := 622) (by decide +kernel)⟩
theorem lw_p27 : lw_okq (⟨"PressAndWait$Reader", "emit", "(I)V"⟩, 9) := ⟨⟨by decide +kernel, by decide +kernel⟩, List.mem_of_getElem? (i := 194) (by decide +kernel), List.mem_of_getElem? (i := 625) (by decide +kernel), List.mem_of_getElem? (i := 626) (by decide +kernel)⟩
theorem lw_p28 : lw_okq (⟨"PressAndWait$Reader", "enters", "(I)Z"⟩, 9) := ⟨⟨by decide +kernel, by decide +kernel⟩, List.mem_of_getElem? (i := 194) (by decide +kernel), List.mem_of_getElem? (i := 629) (by decide +kernel), List.mem_of_getElem? (i := 630) (by decide +kernel)⟩
theorem lw_p29 : lw_okq (⟨"PressAndWait$Reader", "takeWord", "(Ljava/lang/String;)Z"⟩, 9) := ⟨⟨by decide +kernel, by decide +kernel⟩, List.mem_of_getElem? (i := 194) (by decide +kernel), List.mem_of_getElem? (i := 634) (by decide +kernel), List.mem_of_getElem? (i := 635) (by decide +kernel)⟩
theorem lw_p30 : lw_okq (⟨"PressAndWait$Reader", "pair", "(II)V"⟩, 9) := ⟨⟨by decide +kernel, by decide +kernel⟩, List.mem_of_getElem? (i := 194) (by decide +kernel), List.mem_of_getElem? (i := 638) (by decide +kernel), List.mem_of_getElem? (i := 639) (by decide +kernel)⟩
theorem lw_p31 : lw_okq (⟨"PressAndWait$Reader", "partWord", "()V"⟩, 9) := ⟨⟨by decide +kernel, by decide +kernel⟩, List.mem_of_getElem? (i := 194) (by decide +kernel), List.mem_of_getElem? (i := 644) (by decide +kernel), List.mem_of_getElem? (i := 645) (by decide +kernel)⟩
def lw_privs_2 : List (MethodName × Nat) := [(⟨"PressAndWait$Reader", "newName", "(I)V"⟩, 9), (⟨"PressAndWait$Reader", "isName", "()Z"⟩, 9), (⟨"PressAndWait$Reader", "wrongInName", "()I"⟩, 9), (⟨"PressAndWait$Reader", "slotOf", "(II)I"⟩, 9), (⟨"PressAndWait$Reader", "nameLetter", "(I)I"⟩, 9), (⟨"PressAndWait$Reader", "comesStatement", "()V"⟩, 9), (⟨"PressAndWait$Reader", "knownKind", "()I"⟩, 9), (⟨"PressAndWait$Reader", "codeStatement", "(II)V"⟩, 9), (⟨"PressAndWait$Reader", "sum", "(I)V"⟩, 9), (⟨"PressAndWait$Reader", "product", "(I)V"⟩, 9), (⟨"PressAndWait$Reader", "part", "(I)V"⟩, 9), (⟨"PressAndWait$Reader", "emit", "(I)V"⟩, 9), (⟨"PressAndWait$Reader", "enters", "(I)Z"⟩, 9), (⟨"PressAndWait$Reader", "takeWord", "(Ljava/lang/String;)Z"⟩, 9), (⟨"PressAndWait$Reader", "pair", "(II)V"⟩, 9), (⟨"PressAndWait$Reader", "partWord", "()V"⟩, 9)]
theorem lw_r2 : ∀ q ∈ lw_privs_2, lw_okq q := List.forall_mem_cons.mpr ⟨lw_p16, List.forall_mem_cons.mpr ⟨lw_p17, List.forall_mem_cons.mpr ⟨lw_p18, List.forall_mem_cons.mpr ⟨lw_p19, List.forall_mem_cons.mpr ⟨lw_p20, List.forall_mem_cons.mpr ⟨lw_p21, List.forall_mem_cons.mpr ⟨lw_p22, List.forall_mem_cons.mpr ⟨lw_p23, List.forall_mem_cons.mpr ⟨lw_p24, List.forall_mem_cons.mpr ⟨lw_p25, List.forall_mem_cons.mpr ⟨lw_p26, List.forall_mem_cons.mpr ⟨lw_p27, List.forall_mem_cons.mpr ⟨lw_p28, List.forall_mem_cons.mpr ⟨lw_p29, List.forall_mem_cons.mpr ⟨lw_p30, List.forall_mem_cons.mpr ⟨lw_p31, fun _ h => absurd h List.not_mem_nil⟩⟩⟩⟩⟩⟩⟩⟩⟩⟩⟩⟩⟩⟩⟩⟩
theorem lw_p32 : lw_okq (⟨"PressAndWait$Reader", "test", "(I)V"⟩, 9) := ⟨⟨by decide +kernel, by decide +kernel⟩, List.mem_of_getElem? (i := 194) (by decide +kernel), List.mem_of_getElem? (i := 649) (by decide +kernel), List.mem_of_getElem? (i := 650) (by decide +kernel)⟩
theorem lw_p33 : lw_okq (⟨"PressAndWait$Reader", "both", "(I)V"⟩, 9) := ⟨⟨by decide +kernel, by decide +kernel⟩, List.mem_of_getElem? (i := 194) (by decide +kernel), List.mem_of_getElem? (i := 653) (by decide +kernel), List.mem_of_getElem? (i := 654) (by decide +kernel)⟩
theorem lw_p34 : lw_okq (⟨"PressAndWait$Reader", "fact", "(I)V"⟩, 9) := ⟨⟨by decide +kernel, by decide +kernel⟩, List.mem_of_getElem? (i := 194) (by decide +kernel), List.mem_of_getElem? (i := 657) (by decide +kernel), List.mem_of_getElem? (i := 658) (by decide +kernel)⟩
theorem lw_p35 : lw_okq (⟨"PressAndWait$Reader", "signHere", "()I"⟩, 9) := ⟨⟨by decide +kernel, by decide +kernel⟩, List.mem_of_getElem? (i := 194) (by decide +kernel), List.mem_of_getElem? (i := 663) (by decide +kernel), List.mem_of_getElem? (i := 664) (by decide +kernel)⟩
theorem lw_p36 : lw_okq (⟨"PressAndWait", "changed", "()V"⟩, 16) := ⟨⟨by decide +kernel, by decide +kernel⟩, List.mem_of_getElem? (i := 21) (by decide +kernel), List.mem_of_getElem? (i := 693) (by decide +kernel), List.mem_of_getElem? (i := 694) (by decide +kernel)⟩
theorem lw_p37 : lw_okq (⟨"PressAndWait", "isKind", "(I)Z"⟩, 16) := ⟨⟨by decide +kernel, by decide +kernel⟩, List.mem_of_getElem? (i := 21) (by decide +kernel), List.mem_of_getElem? (i := 722) (by decide +kernel), List.mem_of_getElem? (i := 723) (by decide +kernel)⟩
theorem lw_p38 : lw_okq (⟨"PressAndWait", "isWalker", "(I)Z"⟩, 16) := ⟨⟨by decide +kernel, by decide +kernel⟩, List.mem_of_getElem? (i := 21) (by decide +kernel), List.mem_of_getElem? (i := 726) (by decide +kernel), List.mem_of_getElem? (i := 727) (by decide +kernel)⟩
theorem lw_p39 : lw_okq (⟨"PressAndWait", "layToday", "()V"⟩, 16) := ⟨⟨by decide +kernel, by decide +kernel⟩, List.mem_of_getElem? (i := 21) (by decide +kernel), List.mem_of_getElem? (i := 742) (by decide +kernel), List.mem_of_getElem? (i := 743) (by decide +kernel)⟩
theorem lw_p40 : lw_okq (⟨"PressAndWait$Street", "prepare", "(LPressAndWait$State;)V"⟩, 17) := ⟨⟨by decide +kernel, by decide +kernel⟩, List.mem_of_getElem? (i := 230) (by decide +kernel), List.mem_of_getElem? (i := 750) (by decide +kernel), List.mem_of_getElem? (i := 751) (by decide +kernel)⟩
theorem lw_p41 : lw_okq (⟨"PressAndWait$Street", "drive", "()V"⟩, 17) := ⟨⟨by decide +kernel, by decide +kernel⟩, List.mem_of_getElem? (i := 230) (by decide +kernel), List.mem_of_getElem? (i := 754) (by decide +kernel), List.mem_of_getElem? (i := 755) (by decide +kernel)⟩
theorem lw_p42 : lw_okq (⟨"PressAndWait$Street", "shine", "()V"⟩, 17) := ⟨⟨by decide +kernel, by decide +kernel⟩, List.mem_of_getElem? (i := 230) (by decide +kernel), List.mem_of_getElem? (i := 777) (by decide +kernel), List.mem_of_getElem? (i := 778) (by decide +kernel)⟩
theorem lw_p43 : lw_okq (⟨"PressAndWait$Street", "willing", "()I"⟩, 17) := ⟨⟨by decide +kernel, by decide +kernel⟩, List.mem_of_getElem? (i := 230) (by decide +kernel), List.mem_of_getElem? (i := 781) (by decide +kernel), List.mem_of_getElem? (i := 782) (by decide +kernel)⟩
theorem lw_p44 : lw_okq (⟨"PressAndWait$Street", "walk", "()V"⟩, 17) := ⟨⟨by decide +kernel, by decide +kernel⟩, List.mem_of_getElem? (i := 230) (by decide +kernel), List.mem_of_getElem? (i := 792) (by decide +kernel), List.mem_of_getElem? (i := 793) (by decide +kernel)⟩
theorem lw_p45 : lw_okq (⟨"PressAndWait$Street", "goes", "(III)Z"⟩, 17) := ⟨⟨by decide +kernel, by decide +kernel⟩, List.mem_of_getElem? (i := 230) (by decide +kernel), List.mem_of_getElem? (i := 800) (by decide +kernel), List.mem_of_getElem? (i := 801) (by decide +kernel)⟩
theorem lw_p46 : lw_okq (⟨"PressAndWait$Street", "describe", "(IIII)V"⟩, 17) := ⟨⟨by decide +kernel, by decide +kernel⟩, List.mem_of_getElem? (i := 230) (by decide +kernel), List.mem_of_getElem? (i := 804) (by decide +kernel), List.mem_of_getElem? (i := 805) (by decide +kernel)⟩
theorem lw_p47 : lw_okq (⟨"PressAndWait", "stands", "()Z"⟩, 16) := ⟨⟨by decide +kernel, by decide +kernel⟩, List.mem_of_getElem? (i := 21) (by decide +kernel), List.mem_of_getElem? (i := 819) (by decide +kernel), List.mem_of_getElem? (i := 820) (by decide +kernel)⟩
def lw_privs_3 : List (MethodName × Nat) := [(⟨"PressAndWait$Reader", "test", "(I)V"⟩, 9), (⟨"PressAndWait$Reader", "both", "(I)V"⟩, 9), (⟨"PressAndWait$Reader", "fact", "(I)V"⟩, 9), (⟨"PressAndWait$Reader", "signHere", "()I"⟩, 9), (⟨"PressAndWait", "changed", "()V"⟩, 16), (⟨"PressAndWait", "isKind", "(I)Z"⟩, 16), (⟨"PressAndWait", "isWalker", "(I)Z"⟩, 16), (⟨"PressAndWait", "layToday", "()V"⟩, 16), (⟨"PressAndWait$Street", "prepare", "(LPressAndWait$State;)V"⟩, 17), (⟨"PressAndWait$Street", "drive", "()V"⟩, 17), (⟨"PressAndWait$Street", "shine", "()V"⟩, 17), (⟨"PressAndWait$Street", "willing", "()I"⟩, 17), (⟨"PressAndWait$Street", "walk", "()V"⟩, 17), (⟨"PressAndWait$Street", "goes", "(III)Z"⟩, 17), (⟨"PressAndWait$Street", "describe", "(IIII)V"⟩, 17), (⟨"PressAndWait", "stands", "()Z"⟩, 16)]
theorem lw_r3 : ∀ q ∈ lw_privs_3, lw_okq q := List.forall_mem_cons.mpr ⟨lw_p32, List.forall_mem_cons.mpr ⟨lw_p33, List.forall_mem_cons.mpr ⟨lw_p34, List.forall_mem_cons.mpr ⟨lw_p35, List.forall_mem_cons.mpr ⟨lw_p36, List.forall_mem_cons.mpr ⟨lw_p37, List.forall_mem_cons.mpr ⟨lw_p38, List.forall_mem_cons.mpr ⟨lw_p39, List.forall_mem_cons.mpr ⟨lw_p40, List.forall_mem_cons.mpr ⟨lw_p41, List.forall_mem_cons.mpr ⟨lw_p42, List.forall_mem_cons.mpr ⟨lw_p43, List.forall_mem_cons.mpr ⟨lw_p44, List.forall_mem_cons.mpr ⟨lw_p45, List.forall_mem_cons.mpr ⟨lw_p46, List.forall_mem_cons.mpr ⟨lw_p47, fun _ h => absurd h List.not_mem_nil⟩⟩⟩⟩⟩⟩⟩⟩⟩⟩⟩⟩⟩⟩⟩⟩
theorem lw_p48 : lw_okq (⟨"PressAndWait$Street", "waitedByAll", "()I"⟩, 17) := ⟨⟨by decide +kernel, by decide +kernel⟩, List.mem_of_getElem? (i := 230) (by decide +kernel), List.mem_of_getElem? (i := 835) (by decide +kernel), List.mem_of_getElem? (i := 836) (by decide +kernel)⟩
theorem lw_p49 : lw_okq (⟨"PressAndWait$Street", "greensForNobody", "()I"⟩, 17) := ⟨⟨by decide +kernel, by decide +kernel⟩, List.mem_of_getElem? (i := 230) (by decide +kernel), List.mem_of_getElem? (i := 846) (by decide +kernel), List.mem_of_getElem? (i := 847) (by decide +kernel)⟩
theorem lw_p50 : lw_okq (⟨"PressAndWait$Street", "someoneCrosses", "(I)Z"⟩, 17) := ⟨⟨by decide +kernel, by decide +kernel⟩, List.mem_of_getElem? (i := 230) (by decide +kernel), List.mem_of_getElem? (i := 850) (by decide +kernel), List.mem_of_getElem? (i := 851) (by decide +kernel)⟩
theorem lw_p51 : lw_okq (⟨"PressAndWait$Choice", "enter", "(II)V"⟩, 3) := ⟨⟨by decide +kernel, by decide +kernel⟩, List.mem_of_getElem? (i := 295) (by decide +kernel), List.mem_of_getElem? (i := 868) (by decide +kernel), List.mem_of_getElem? (i := 869) (by decide +kernel)⟩
theorem lw_p52 : lw_okq (⟨"PressAndWait$Watch", "isSo", "()Z"⟩, 11) := ⟨⟨by decide +kernel, by decide +kernel⟩, List.mem_of_getElem? (i := 337) (by decide +kernel), List.mem_of_getElem? (i := 945) (by decide +kernel), List.mem_of_getElem? (i := 946) (by decide +kernel)⟩
theorem lw_p53 : lw_okq (⟨"PressAndWait$Watch", "choose", "()V"⟩, 11) := ⟨⟨by decide +kernel, by decide +kernel⟩, List.mem_of_getElem? (i := 337) (by decide +kernel), List.mem_of_getElem? (i := 950) (by decide +kernel), List.mem_of_getElem? (i := 951) (by decide +kernel)⟩
theorem lw_p54 : lw_okq (⟨"PressAndWait$Watch", "mostLeft", "(I)I"⟩, 11) := ⟨⟨by decide +kernel, by decide +kernel⟩, List.mem_of_getElem? (i := 337) (by decide +kernel), List.mem_of_getElem? (i := 958) (by decide +kernel), List.mem_of_getElem? (i := 959) (by decide +kernel)⟩
theorem lw_p55 : lw_okq (⟨"PressAndWait", "act", "()V"⟩, 16) := ⟨⟨by decide +kernel, by decide +kernel⟩, List.mem_of_getElem? (i := 21) (by decide +kernel), List.mem_of_getElem? (i := 971) (by decide +kernel), List.mem_of_getElem? (i := 972) (by decide +kernel)⟩
theorem lw_p56 : lw_okq (⟨"PressAndWait", "canLive", "(I)Z"⟩, 16) := ⟨⟨by decide +kernel, by decide +kernel⟩, List.mem_of_getElem? (i := 21) (by decide +kernel), List.mem_of_getElem? (i := 997) (by decide +kernel), List.mem_of_getElem? (i := 998) (by decide +kernel)⟩
theorem lw_p57 : lw_okq (⟨"PressAndWait", "drawAbsent", "()I"⟩, 16) := ⟨⟨by decide +kernel, by decide +kernel⟩, List.mem_of_getElem? (i := 21) (by decide +kernel), List.mem_of_getElem? (i := 1006) (by decide +kernel), List.mem_of_getElem? (i := 1007) (by decide +kernel)⟩
theorem lw_p58 : lw_okq (⟨"PressAndWait", "answer", "(I)J"⟩, 16) := ⟨⟨by decide +kernel, by decide +kernel⟩, List.mem_of_getElem? (i := 21) (by decide +kernel), List.mem_of_getElem? (i := 1038) (by decide +kernel), List.mem_of_getElem? (i := 1039) (by decide +kernel)⟩
theorem lw_p59 : lw_okq (⟨"PressAndWait", "isImage", "(I)Z"⟩, 16) := ⟨⟨by decide +kernel, by decide +kernel⟩, List.mem_of_getElem? (i := 21) (by decide +kernel), List.mem_of_getElem? (i := 1063) (by decide +kernel), List.mem_of_getElem? (i := 1064) (by decide +kernel)⟩
theorem lw_p60 : lw_okq (⟨"PressAndWaitModel", "barTold", "()V"⟩, 122) := ⟨⟨by decide +kernel, by decide +kernel⟩, List.mem_of_getElem? (i := 1072) (by decide +kernel), List.mem_of_getElem? (i := 1460) (by decide +kernel), List.mem_of_getElem? (i := 1461) (by decide +kernel)⟩
theorem lw_p61 : lw_okq (⟨"PressAndWaitModel", "asks", "([C)V"⟩, 122) := ⟨⟨by decide +kernel, by decide +kernel⟩, List.mem_of_getElem? (i := 1072) (by decide +kernel), List.mem_of_getElem? (i := 1464) (by decide +kernel), List.mem_of_getElem? (i := 1465) (by decide +kernel)⟩
theorem lw_p62 : lw_okq (⟨"PressAndWaitModel", "takes", "([C)Z"⟩, 122) := ⟨⟨by decide +kernel, by decide +kernel⟩, List.mem_of_getElem? (i := 1072) (by decide +kernel), List.mem_of_getElem? (i := 1468) (by decide +kernel), List.mem_of_getElem? (i := 1469) (by decide +kernel)⟩
theorem lw_p63 : lw_okq (⟨"PressAndWaitModel", "isHere", "([C)Z"⟩, 122) := ⟨⟨by decide +kernel, by decide +kernel⟩, List.mem_of_getElem? (i := 1072) (by decide +kernel), List.mem_of_getElem? (i := 1472) (by decide +kernel), List.mem_of_getElem? (i := 1473) (by decide +kernel)⟩
def lw_privs_4 : List (MethodName × Nat) := [(⟨"PressAndWait$Street", "waitedByAll", "()I"⟩, 17), (⟨"PressAndWait$Street", "greensForNobody", "()I"⟩, 17), (⟨"PressAndWait$Street", "someoneCrosses", "(I)Z"⟩, 17), (⟨"PressAndWait$Choice", "enter", "(II)V"⟩, 3), (⟨"PressAndWait$Watch", "isSo", "()Z"⟩, 11), (⟨"PressAndWait$Watch", "choose", "()V"⟩, 11), (⟨"PressAndWait$Watch", "mostLeft", "(I)I"⟩, 11), (⟨"PressAndWait", "act", "()V"⟩, 16), (⟨"PressAndWait", "canLive", "(I)Z"⟩, 16), (⟨"PressAndWait", "drawAbsent", "()I"⟩, 16), (⟨"PressAndWait", "answer", "(I)J"⟩, 16), (⟨"PressAndWait", "isImage", "(I)Z"⟩, 16), (⟨"PressAndWaitModel", "barTold", "()V"⟩, 122), (⟨"PressAndWaitModel", "asks", "([C)V"⟩, 122), (⟨"PressAndWaitModel", "takes", "([C)Z"⟩, 122), (⟨"PressAndWaitModel", "isHere", "([C)Z"⟩, 122)]
theorem lw_r4 : ∀ q ∈ lw_privs_4, lw_okq q := List.forall_mem_cons.mpr ⟨lw_p48, List.forall_mem_cons.mpr ⟨lw_p49, List.forall_mem_cons.mpr ⟨lw_p50, List.forall_mem_cons.mpr ⟨lw_p51, List.forall_mem_cons.mpr ⟨lw_p52, List.forall_mem_cons.mpr ⟨lw_p53, List.forall_mem_cons.mpr ⟨lw_p54, List.forall_mem_cons.mpr ⟨lw_p55, List.forall_mem_cons.mpr ⟨lw_p56, List.forall_mem_cons.mpr ⟨lw_p57, List.forall_mem_cons.mpr ⟨lw_p58, List.forall_mem_cons.mpr ⟨lw_p59, List.forall_mem_cons.mpr ⟨lw_p60, List.forall_mem_cons.mpr ⟨lw_p61, List.forall_mem_cons.mpr ⟨lw_p62, List.forall_mem_cons.mpr ⟨lw_p63, fun _ h => absurd h List.not_mem_nil⟩⟩⟩⟩⟩⟩⟩⟩⟩⟩⟩⟩⟩⟩⟩⟩
theorem lw_p64 : lw_okq (⟨"PressAndWaitModel", "look", "()I"⟩, 122) := ⟨⟨by decide +kernel, by decide +kernel⟩, List.mem_of_getElem? (i := 1072) (by decide +kernel), List.mem_of_getElem? (i := 1476) (by decide +kernel), List.mem_of_getElem? (i := 1477) (by decide +kernel)⟩
theorem lw_p65 : lw_okq (⟨"PressAndWaitModel", "fail", "(II)V"⟩, 122) := ⟨⟨by decide +kernel, by decide +kernel⟩, List.mem_of_getElem? (i := 1072) (by decide +kernel), List.mem_of_getElem? (i := 1483) (by decide +kernel), List.mem_of_getElem? (i := 1484) (by decide +kernel)⟩
theorem lw_p66 : lw_okq (⟨"PressAndWaitModel", "number", "(II)I"⟩, 122) := ⟨⟨by decide +kernel, by decide +kernel⟩, List.mem_of_getElem? (i := 1072) (by decide +kernel), List.mem_of_getElem? (i := 1487) (by decide +kernel), List.mem_of_getElem? (i := 1488) (by decide +kernel)⟩
theorem lw_p67 : lw_okq (⟨"PressAndWaitModel", "asksSign", "(I)V"⟩, 122) := ⟨⟨by decide +kernel, by decide +kernel⟩, List.mem_of_getElem? (i := 1072) (by decide +kernel), List.mem_of_getElem? (i := 1497) (by decide +kernel), List.mem_of_getElem? (i := 1498) (by decide +kernel)⟩
theorem lw_p68 : lw_okq (⟨"PressAndWaitModel", "takesSign", "(I)Z"⟩, 122) := ⟨⟨by decide +kernel, by decide +kernel⟩, List.mem_of_getElem? (i := 1072) (by decide +kernel), List.mem_of_getElem? (i := 1501) (by decide +kernel), List.mem_of_getElem? (i := 1502) (by decide +kernel)⟩
theorem lw_p69 : lw_okq (⟨"PressAndWaitModel", "statementTold", "()V"⟩, 122) := ⟨⟨by decide +kernel, by decide +kernel⟩, List.mem_of_getElem? (i := 1072) (by decide +kernel), List.mem_of_getElem? (i := 1505) (by decide +kernel), List.mem_of_getElem? (i := 1506) (by decide +kernel)⟩
theorem lw_p70 : lw_okq (⟨"PressAndWaitModel", "kindTold", "(I)V"⟩, 122) := ⟨⟨by decide +kernel, by decide +kernel⟩, List.mem_of_getElem? (i := 1072) (by decide +kernel), List.mem_of_getElem? (i := 1509) (by decide +kernel), List.mem_of_getElem? (i := 1510) (by decide +kernel)⟩
theorem lw_p71 : lw_okq (⟨"PressAndWaitModel", "isFull", "(III)Z"⟩, 122) := ⟨⟨by decide +kernel, by decide +kernel⟩, List.mem_of_getElem? (i := 1072) (by decide +kernel), List.mem_of_getElem? (i := 1513) (by decide +kernel), List.mem_of_getElem? (i := 1514) (by decide +kernel)⟩
theorem lw_p72 : lw_okq (⟨"PressAndWaitModel", "newName", "()J"⟩, 122) := ⟨⟨by decide +kernel, by decide +kernel⟩, List.mem_of_getElem? (i := 1072) (by decide +kernel), List.mem_of_getElem? (i := 1517) (by decide +kernel), List.mem_of_getElem? (i := 1518) (by decide +kernel)⟩
theorem lw_p73 : lw_okq (⟨"PressAndWaitModel", "name", "()J"⟩, 122) := ⟨⟨by decide +kernel, by decide +kernel⟩, List.mem_of_getElem? (i := 1072) (by decide +kernel), List.mem_of_getElem? (i := 1521) (by decide +kernel), List.mem_of_getElem? (i := 1522) (by decide +kernel)⟩
theorem lw_p74 : lw_okq (⟨"PressAndWaitModel", "isOwnHere", "()Z"⟩, 122) := ⟨⟨by decide +kernel, by decide +kernel⟩, List.mem_of_getElem? (i := 1072) (by decide +kernel), List.mem_of_getElem? (i := 1525) (by decide +kernel), List.mem_of_getElem? (i := 1526) (by decide +kernel)⟩
theorem lw_p75 : lw_okq (⟨"PressAndWaitModel", "nameOf", "(IJ)I"⟩, 122) := ⟨⟨by decide +kernel, by decide +kernel⟩, List.mem_of_getElem? (i := 1072) (by decide +kernel), List.mem_of_getElem? (i := 1531) (by decide +kernel), List.mem_of_getElem? (i := 1532) (by decide +kernel)⟩
theorem lw_p76 : lw_okq (⟨"PressAndWaitModel", "walkerTold", "(I)V"⟩, 122) := ⟨⟨by decide +kernel, by decide +kernel⟩, List.mem_of_getElem? (i := 1072) (by decide +kernel), List.mem_of_getElem? (i := 1535) (by decide +kernel), List.mem_of_getElem? (i := 1536) (by decide +kernel)⟩
theorem lw_p77 : lw_okq (⟨"PressAndWaitModel", "codesTold", "(II)V"⟩, 122) := ⟨⟨by decide +kernel, by decide +kernel⟩, List.mem_of_getElem? (i := 1072) (by decide +kernel), List.mem_of_getElem? (i := 1539) (by decide +kernel), List.mem_of_getElem? (i := 1540) (by decide +kernel)⟩
theorem lw_p78 : lw_okq (⟨"PressAndWaitModel", "qSums", "()V"⟩, 122) := ⟨⟨by decide +kernel, by decide +kernel⟩, List.mem_of_getElem? (i := 1072) (by decide +kernel), List.mem_of_getElem? (i := 1543) (by decide +kernel), List.mem_of_getElem? (i := 1544) (by decide +kernel)⟩
theorem lw_p79 : lw_okq (⟨"PressAndWaitModel", "qPartTold", "()V"⟩, 122) := ⟨⟨by decide +kernel, by decide +kernel⟩, List.mem_of_getElem? (i := 1072) (by decide +kernel), List.mem_of_getElem? (i := 1547) (by decide +kernel), List.mem_of_getElem? (i := 1548) (by decide +kernel)⟩
def lw_privs_5 : List (MethodName × Nat) := [(⟨"PressAndWaitModel", "look", "()I"⟩, 122), (⟨"PressAndWaitModel", "fail", "(II)V"⟩, 122), (⟨"PressAndWaitModel", "number", "(II)I"⟩, 122), (⟨"PressAndWaitModel", "asksSign", "(I)V"⟩, 122), (⟨"PressAndWaitModel", "takesSign", "(I)Z"⟩, 122), (⟨"PressAndWaitModel", "statementTold", "()V"⟩, 122), (⟨"PressAndWaitModel", "kindTold", "(I)V"⟩, 122), (⟨"PressAndWaitModel", "isFull", "(III)Z"⟩, 122), (⟨"PressAndWaitModel", "newName", "()J"⟩, 122), (⟨"PressAndWaitModel", "name", "()J"⟩, 122), (⟨"PressAndWaitModel", "isOwnHere", "()Z"⟩, 122), (⟨"PressAndWaitModel", "nameOf", "(IJ)I"⟩, 122), (⟨"PressAndWaitModel", "walkerTold", "(I)V"⟩, 122), (⟨"PressAndWaitModel", "codesTold", "(II)V"⟩, 122), (⟨"PressAndWaitModel", "qSums", "()V"⟩, 122), (⟨"PressAndWaitModel", "qPartTold", "()V"⟩, 122)]
theorem lw_r5 : ∀ q ∈ lw_privs_5, lw_okq q := List.forall_mem_cons.mpr ⟨lw_p64, List.forall_mem_cons.mpr ⟨lw_p65, List.forall_mem_cons.mpr ⟨lw_p66, List.forall_mem_cons.mpr ⟨lw_p67, List.forall_mem_cons.mpr ⟨lw_p68, List.forall_mem_cons.mpr ⟨lw_p69, List.forall_mem_cons.mpr ⟨lw_p70, List.forall_mem_cons.mpr ⟨lw_p71, List.forall_mem_cons.mpr ⟨lw_p72, List.forall_mem_cons.mpr ⟨lw_p73, List.forall_mem_cons.mpr ⟨lw_p74, List.forall_mem_cons.mpr ⟨lw_p75, List.forall_mem_cons.mpr ⟨lw_p76, List.forall_mem_cons.mpr ⟨lw_p77, List.forall_mem_cons.mpr ⟨lw_p78, List.forall_mem_cons.mpr ⟨lw_p79, fun _ h => absurd h List.not_mem_nil⟩⟩⟩⟩⟩⟩⟩⟩⟩⟩⟩⟩⟩⟩⟩⟩
theorem lw_p80 : lw_okq (⟨"PressAndWaitModel", "qWordOf", "(II)I"⟩, 122) := ⟨⟨by decide +kernel, by decide +kernel⟩, List.mem_of_getElem? (i := 1072) (by decide +kernel), List.mem_of_getElem? (i := 1551) (by decide +kernel), List.mem_of_getElem? (i := 1552) (by decide +kernel)⟩
theorem lw_p81 : lw_okq (⟨"PressAndWaitModel", "qWordHere", "()I"⟩, 122) := ⟨⟨by decide +kernel, by decide +kernel⟩, List.mem_of_getElem? (i := 1072) (by decide +kernel), List.mem_of_getElem? (i := 1555) (by decide +kernel), List.mem_of_getElem? (i := 1556) (by decide +kernel)⟩
theorem lw_p82 : lw_okq (⟨"PressAndWaitModel", "isAllowed", "(I)Z"⟩, 122) := ⟨⟨by decide +kernel, by decide +kernel⟩, List.mem_of_getElem? (i := 1072) (by decide +kernel), List.mem_of_getElem? (i := 1559) (by decide +kernel), List.mem_of_getElem? (i := 1560) (by decide +kernel)⟩
theorem lw_p83 : lw_okq (⟨"PressAndWaitModel", "qOpens", "(II)V"⟩, 122) := ⟨⟨by decide +kernel, by decide +kernel⟩, List.mem_of_getElem? (i := 1072) (by decide +kernel), List.mem_of_getElem? (i := 1566) (by decide +kernel), List.mem_of_getElem? (i := 1567) (by decide +kernel)⟩
theorem lw_p84 : lw_okq (⟨"PressAndWaitModel", "qAsksWord", "(I)V"⟩, 122) := ⟨⟨by decide +kernel, by decide +kernel⟩, List.mem_of_getElem? (i := 1072) (by decide +kernel), List.mem_of_getElem? (i := 1570) (by decide +kernel), List.mem_of_getElem? (i := 1571) (by decide +kernel)⟩
theorem lw_p85 : lw_okq (⟨"PressAndWaitModel", "qCode", "(I)V"⟩, 122) := ⟨⟨by decide +kernel, by decide +kernel⟩, List.mem_of_getElem? (i := 1072) (by decide +kernel), List.mem_of_getElem? (i := 1574) (by decide +kernel), List.mem_of_getElem? (i := 1575) (by decide +kernel)⟩
theorem lw_p86 : lw_okq (⟨"PressAndWaitModel", "qEndsPart", "()V"⟩, 122) := ⟨⟨by decide +kernel, by decide +kernel⟩, List.mem_of_getElem? (i := 1072) (by decide +kernel), List.mem_of_getElem? (i := 1578) (by decide +kernel), List.mem_of_getElem? (i := 1579) (by decide +kernel)⟩
theorem lw_p87 : lw_okq (⟨"PressAndWaitModel", "qDrops", "()V"⟩, 122) := ⟨⟨by decide +kernel, by decide +kernel⟩, List.mem_of_getElem? (i := 1072) (by decide +kernel), List.mem_of_getElem? (i := 1582) (by decide +kernel), List.mem_of_getElem? (i := 1583) (by decide +kernel)⟩
theorem lw_p88 : lw_okq (⟨"PressAndWaitModel", "qGoesOn", "()Z"⟩, 122) := ⟨⟨by decide +kernel, by decide +kernel⟩, List.mem_of_getElem? (i := 1072) (by decide +kernel), List.mem_of_getElem? (i := 1586) (by decide +kernel), List.mem_of_getElem? (i := 1587) (by decide +kernel)⟩
theorem lw_p89 : lw_okq (⟨"PressAndWaitModel", "qBracket", "()I"⟩, 122) := ⟨⟨by decide +kernel, by decide +kernel⟩, List.mem_of_getElem? (i := 1072) (by decide +kernel), List.mem_of_getElem? (i := 1590) (by decide +kernel), List.mem_of_getElem? (i := 1591) (by decide +kernel)⟩
theorem lw_p90 : lw_okq (⟨"PressAndWaitModel", "qDropsToBracket", "()V"⟩, 122) := ⟨⟨by decide +kernel, by decide +kernel⟩, List.mem_of_getElem? (i := 1072) (by decide +kernel), List.mem_of_getElem? (i := 1597) (by decide +kernel), List.mem_of_getElem? (i := 1598) (by decide +kernel)⟩
theorem lw_p91 : lw_okq (⟨"PressAndWaitModel", "qIsOn", "(I)Z"⟩, 122) := ⟨⟨by decide +kernel, by decide +kernel⟩, List.mem_of_getElem? (i := 1072) (by decide +kernel), List.mem_of_getElem? (i := 1601) (by decide +kernel), List.mem_of_getElem? (i := 1602) (by decide +kernel)⟩
theorem lw_p92 : lw_okq (⟨"PressAndWaitModel", "qTest", "()V"⟩, 122) := ⟨⟨by decide +kernel, by decide +kernel⟩, List.mem_of_getElem? (i := 1072) (by decide +kernel), List.mem_of_getElem? (i := 1605) (by decide +kernel), List.mem_of_getElem? (i := 1606) (by decide +kernel)⟩
theorem lw_p93 : lw_okq (⟨"PressAndWaitModel", "qFact", "()V"⟩, 122) := ⟨⟨by decide +kernel, by decide +kernel⟩, List.mem_of_getElem? (i := 1072) (by decide +kernel), List.mem_of_getElem? (i := 1609) (by decide +kernel), List.mem_of_getElem? (i := 1610) (by decide +kernel)⟩
theorem lw_p94 : lw_okq (⟨"PressAndWaitModel", "qDropsNots", "()V"⟩, 122) := ⟨⟨by decide +kernel, by decide +kernel⟩, List.mem_of_getElem? (i := 1072) (by decide +kernel), List.mem_of_getElem? (i := 1613) (by decide +kernel), List.mem_of_getElem? (i := 1614) (by decide +kernel)⟩
theorem lw_p95 : lw_okq (⟨"PressAndWaitModel", "qGoesOnTest", "()Z"⟩, 122) := ⟨⟨by decide +kernel, by decide +kernel⟩, List.mem_of_getElem? (i := 1072) (by decide +kernel), List.mem_of_getElem? (i := 1617) (by decide +kernel), List.mem_of_getElem? (i := 1618) (by decide +kernel)⟩
def lw_privs_6 : List (MethodName × Nat) := [(⟨"PressAndWaitModel", "qWordOf", "(II)I"⟩, 122), (⟨"PressAndWaitModel", "qWordHere", "()I"⟩, 122), (⟨"PressAndWaitModel", "isAllowed", "(I)Z"⟩, 122), (⟨"PressAndWaitModel", "qOpens", "(II)V"⟩, 122), (⟨"PressAndWaitModel", "qAsksWord", "(I)V"⟩, 122), (⟨"PressAndWaitModel", "qCode", "(I)V"⟩, 122), (⟨"PressAndWaitModel", "qEndsPart", "()V"⟩, 122), (⟨"PressAndWaitModel", "qDrops", "()V"⟩, 122), (⟨"PressAndWaitModel", "qGoesOn", "()Z"⟩, 122), (⟨"PressAndWaitModel", "qBracket", "()I"⟩, 122), (⟨"PressAndWaitModel", "qDropsToBracket", "()V"⟩, 122), (⟨"PressAndWaitModel", "qIsOn", "(I)Z"⟩, 122), (⟨"PressAndWaitModel", "qTest", "()V"⟩, 122), (⟨"PressAndWaitModel", "qFact", "()V"⟩, 122), (⟨"PressAndWaitModel", "qDropsNots", "()V"⟩, 122), (⟨"PressAndWaitModel", "qGoesOnTest", "()Z"⟩, 122)]
theorem lw_r6 : ∀ q ∈ lw_privs_6, lw_okq q := List.forall_mem_cons.mpr ⟨lw_p80, List.forall_mem_cons.mpr ⟨lw_p81, List.forall_mem_cons.mpr ⟨lw_p82, List.forall_mem_cons.mpr ⟨lw_p83, List.forall_mem_cons.mpr ⟨lw_p84, List.forall_mem_cons.mpr ⟨lw_p85, List.forall_mem_cons.mpr ⟨lw_p86, List.forall_mem_cons.mpr ⟨lw_p87, List.forall_mem_cons.mpr ⟨lw_p88, List.forall_mem_cons.mpr ⟨lw_p89, List.forall_mem_cons.mpr ⟨lw_p90, List.forall_mem_cons.mpr ⟨lw_p91, List.forall_mem_cons.mpr ⟨lw_p92, List.forall_mem_cons.mpr ⟨lw_p93, List.forall_mem_cons.mpr ⟨lw_p94, List.forall_mem_cons.mpr ⟨lw_p95, fun _ h => absurd h List.not_mem_nil⟩⟩⟩⟩⟩⟩⟩⟩⟩⟩⟩⟩⟩⟩⟩⟩
theorem lw_p96 : lw_okq (⟨"PressAndWaitModel", "qHasSquare", "()Z"⟩, 122) := ⟨⟨by decide +kernel, by decide +kernel⟩, List.mem_of_getElem? (i := 1072) (by decide +kernel), List.mem_of_getElem? (i := 1621) (by decide +kernel), List.mem_of_getElem? (i := 1622) (by decide +kernel)⟩
theorem lw_p97 : lw_okq (⟨"PressAndWaitModel", "stands", "()V"⟩, 122) := ⟨⟨by decide +kernel, by decide +kernel⟩, List.mem_of_getElem? (i := 1072) (by decide +kernel), List.mem_of_getElem? (i := 1625) (by decide +kernel), List.mem_of_getElem? (i := 1626) (by decide +kernel)⟩
theorem lw_p98 : lw_okq (⟨"PressAndWaitModel", "kindMany", "()I"⟩, 122) := ⟨⟨by decide +kernel, by decide +kernel⟩, List.mem_of_getElem? (i := 1072) (by decide +kernel), List.mem_of_getElem? (i := 1637) (by decide +kernel), List.mem_of_getElem? (i := 1638) (by decide +kernel)⟩
theorem lw_p99 : lw_okq (⟨"PressAndWaitModel", "walkerMany", "()I"⟩, 122) := ⟨⟨by decide +kernel, by decide +kernel⟩, List.mem_of_getElem? (i := 1072) (by decide +kernel), List.mem_of_getElem? (i := 1641) (by decide +kernel), List.mem_of_getElem? (i := 1642) (by decide +kernel)⟩
theorem lw_p100 : lw_okq (⟨"PressAndWaitModel", "isKind", "(I)Z"⟩, 122) := ⟨⟨by decide +kernel, by decide +kernel⟩, List.mem_of_getElem? (i := 1072) (by decide +kernel), List.mem_of_getElem? (i := 1654) (by decide +kernel), List.mem_of_getElem? (i := 1655) (by decide +kernel)⟩
theorem lw_p101 : lw_okq (⟨"PressAndWaitModel", "kindOf", "(I)I"⟩, 122) := ⟨⟨by decide +kernel, by decide +kernel⟩, List.mem_of_getElem? (i := 1072) (by decide +kernel), List.mem_of_getElem? (i := 1658) (by decide +kernel), List.mem_of_getElem? (i := 1659) (by decide +kernel)⟩
theorem lw_p102 : lw_okq (⟨"PressAndWaitModel", "trustsOf", "(I)I"⟩, 122) := ⟨⟨by decide +kernel, by decide +kernel⟩, List.mem_of_getElem? (i := 1072) (by decide +kernel), List.mem_of_getElem? (i := 1662) (by decide +kernel), List.mem_of_getElem? (i := 1663) (by decide +kernel)⟩
theorem lw_p103 : lw_okq (⟨"PressAndWaitModel", "isWalker", "(I)Z"⟩, 122) := ⟨⟨by decide +kernel, by decide +kernel⟩, List.mem_of_getElem? (i := 1072) (by decide +kernel), List.mem_of_getElem? (i := 1670) (by decide +kernel), List.mem_of_getElem? (i := 1671) (by decide +kernel)⟩
theorem lw_p104 : lw_okq (⟨"PressAndWaitModel", "dayNow", "()V"⟩, 122) := ⟨⟨by decide +kernel, by decide +kernel⟩, List.mem_of_getElem? (i := 1072) (by decide +kernel), List.mem_of_getElem? (i := 1674) (by decide +kernel), List.mem_of_getElem? (i := 1675) (by decide +kernel)⟩
theorem lw_p105 : lw_okq (⟨"PressAndWaitModel", "laysCars", "()V"⟩, 122) := ⟨⟨by decide +kernel, by decide +kernel⟩, List.mem_of_getElem? (i := 1072) (by decide +kernel), List.mem_of_getElem? (i := 1678) (by decide +kernel), List.mem_of_getElem? (i := 1679) (by decide +kernel)⟩
theorem lw_p106 : lw_okq (⟨"PressAndWaitModel", "codesTell", "(II)J"⟩, 122) := ⟨⟨by decide +kernel, by decide +kernel⟩, List.mem_of_getElem? (i := 1072) (by decide +kernel), List.mem_of_getElem? (i := 1682) (by decide +kernel), List.mem_of_getElem? (i := 1683) (by decide +kernel)⟩
theorem lw_p107 : lw_okq (⟨"PressAndWaitModel", "qPuts", "(J)V"⟩, 122) := ⟨⟨by decide +kernel, by decide +kernel⟩, List.mem_of_getElem? (i := 1072) (by decide +kernel), List.mem_of_getElem? (i := 1686) (by decide +kernel), List.mem_of_getElem? (i := 1687) (by decide +kernel)⟩
theorem lw_p108 : lw_okq (⟨"PressAndWaitModel", "qPartOf", "(II)J"⟩, 122) := ⟨⟨by decide +kernel, by decide +kernel⟩, List.mem_of_getElem? (i := 1072) (by decide +kernel), List.mem_of_getElem? (i := 1690) (by decide +kernel), List.mem_of_getElem? (i := 1691) (by decide +kernel)⟩
theorem lw_p109 : lw_okq (⟨"PressAndWaitModel", "paceOf", "(I)I"⟩, 122) := ⟨⟨by decide +kernel, by decide +kernel⟩, List.mem_of_getElem? (i := 1072) (by decide +kernel), List.mem_of_getElem? (i := 1694) (by decide +kernel), List.mem_of_getElem? (i := 1695) (by decide +kernel)⟩
theorem lw_p110 : lw_okq (⟨"PressAndWaitModel", "qJoins", "(I)V"⟩, 122) := ⟨⟨by decide +kernel, by decide +kernel⟩, List.mem_of_getElem? (i := 1072) (by decide +kernel), List.mem_of_getElem? (i := 1698) (by decide +kernel), List.mem_of_getElem? (i := 1699) (by decide +kernel)⟩
theorem lw_p111 : lw_okq (⟨"PressAndWaitModel", "dayBy", "(IIII)V"⟩, 122) := ⟨⟨by decide +kernel, by decide +kernel⟩, List.mem_of_getElem? (i := 1072) (by decide +kernel), List.mem_of_getElem? (i := 1710) (by decide +kernel), List.mem_of_getElem? (i := 1711) (by decide +kernel)⟩
def lw_privs_7 : List (MethodName × Nat) := [(⟨"PressAndWaitModel", "qHasSquare", "()Z"⟩, 122), (⟨"PressAndWaitModel", "stands", "()V"⟩, 122), (⟨"PressAndWaitModel", "kindMany", "()I"⟩, 122), (⟨"PressAndWaitModel", "walkerMany", "()I"⟩, 122), (⟨"PressAndWaitModel", "isKind", "(I)Z"⟩, 122), (⟨"PressAndWaitModel", "kindOf", "(I)I"⟩, 122), (⟨"PressAndWaitModel", "trustsOf", "(I)I"⟩, 122), (⟨"PressAndWaitModel", "isWalker", "(I)Z"⟩, 122), (⟨"PressAndWaitModel", "dayNow", "()V"⟩, 122), (⟨"PressAndWaitModel", "laysCars", "()V"⟩, 122), (⟨"PressAndWaitModel", "codesTell", "(II)J"⟩, 122), (⟨"PressAndWaitModel", "qPuts", "(J)V"⟩, 122), (⟨"PressAndWaitModel", "qPartOf", "(II)J"⟩, 122), (⟨"PressAndWaitModel", "paceOf", "(I)I"⟩, 122), (⟨"PressAndWaitModel", "qJoins", "(I)V"⟩, 122), (⟨"PressAndWaitModel", "dayBy", "(IIII)V"⟩, 122)]
theorem lw_r7 : ∀ q ∈ lw_privs_7, lw_okq q := List.forall_mem_cons.mpr ⟨lw_p96, List.forall_mem_cons.mpr ⟨lw_p97, List.forall_mem_cons.mpr ⟨lw_p98, List.forall_mem_cons.mpr ⟨lw_p99, List.forall_mem_cons.mpr ⟨lw_p100, List.forall_mem_cons.mpr ⟨lw_p101, List.forall_mem_cons.mpr ⟨lw_p102, List.forall_mem_cons.mpr ⟨lw_p103, List.forall_mem_cons.mpr ⟨lw_p104, List.forall_mem_cons.mpr ⟨lw_p105, List.forall_mem_cons.mpr ⟨lw_p106, List.forall_mem_cons.mpr ⟨lw_p107, List.forall_mem_cons.mpr ⟨lw_p108, List.forall_mem_cons.mpr ⟨lw_p109, List.forall_mem_cons.mpr ⟨lw_p110, List.forall_mem_cons.mpr ⟨lw_p111, fun _ h => absurd h List.not_mem_nil⟩⟩⟩⟩⟩⟩⟩⟩⟩⟩⟩⟩⟩⟩⟩⟩
theorem lw_p112 : lw_okq (⟨"PressAndWaitModel", "arrive", "(II)V"⟩, 122) := ⟨⟨by decide +kernel, by decide +kernel⟩, List.mem_of_getElem? (i := 1072) (by decide +kernel), List.mem_of_getElem? (i := 1714) (by decide +kernel), List.mem_of_getElem? (i := 1715) (by decide +kernel)⟩
theorem lw_p113 : lw_okq (⟨"PressAndWaitModel", "secondOf", "(I)I"⟩, 122) := ⟨⟨by decide +kernel, by decide +kernel⟩, List.mem_of_getElem? (i := 1072) (by decide +kernel), List.mem_of_getElem? (i := 1718) (by decide +kernel), List.mem_of_getElem? (i := 1719) (by decide +kernel)⟩
theorem lw_p114 : lw_okq (⟨"PressAndWaitModel", "isLit", "(III)Z"⟩, 122) := ⟨⟨by decide +kernel, by decide +kernel⟩, List.mem_of_getElem? (i := 1072) (by decide +kernel), List.mem_of_getElem? (i := 1722) (by decide +kernel), List.mem_of_getElem? (i := 1723) (by decide +kernel)⟩
theorem lw_p115 : lw_okq (⟨"PressAndWaitModel", "acts", "(III)V"⟩, 122) := ⟨⟨by decide +kernel, by decide +kernel⟩, List.mem_of_getElem? (i := 1072) (by decide +kernel), List.mem_of_getElem? (i := 1726) (by decide +kernel), List.mem_of_getElem? (i := 1727) (by decide +kernel)⟩
theorem lw_p116 : lw_okq (⟨"PressAndWaitModel", "isHarmed", "(II)Z"⟩, 122) := ⟨⟨by decide +kernel, by decide +kernel⟩, List.mem_of_getElem? (i := 1072) (by decide +kernel), List.mem_of_getElem? (i := 1730) (by decide +kernel), List.mem_of_getElem? (i := 1731) (by decide +kernel)⟩
theorem lw_p117 : lw_okq (⟨"PressAndWaitModel", "toldOfDay", "(I)I"⟩, 122) := ⟨⟨by decide +kernel, by decide +kernel⟩, List.mem_of_getElem? (i := 1072) (by decide +kernel), List.mem_of_getElem? (i := 1748) (by decide +kernel), List.mem_of_getElem? (i := 1749) (by decide +kernel)⟩
theorem lw_p118 : lw_okq (⟨"PressAndWaitModel", "waitedAll", "()I"⟩, 122) := ⟨⟨by decide +kernel, by decide +kernel⟩, List.mem_of_getElem? (i := 1072) (by decide +kernel), List.mem_of_getElem? (i := 1752) (by decide +kernel), List.mem_of_getElem? (i := 1753) (by decide +kernel)⟩
theorem lw_p119 : lw_okq (⟨"PressAndWaitModel", "notCrossed", "()I"⟩, 122) := ⟨⟨by decide +kernel, by decide +kernel⟩, List.mem_of_getElem? (i := 1072) (by decide +kernel), List.mem_of_getElem? (i := 1759) (by decide +kernel), List.mem_of_getElem? (i := 1760) (by decide +kernel)⟩
theorem lw_p120 : lw_okq (⟨"PressAndWaitModel", "forNobody", "()I"⟩, 122) := ⟨⟨by decide +kernel, by decide +kernel⟩, List.mem_of_getElem? (i := 1072) (by decide +kernel), List.mem_of_getElem? (i := 1763) (by decide +kernel), List.mem_of_getElem? (i := 1764) (by decide +kernel)⟩
theorem lw_p121 : lw_okq (⟨"PressAndWaitModel", "isGreenLong", "(II)Z"⟩, 122) := ⟨⟨by decide +kernel, by decide +kernel⟩, List.mem_of_getElem? (i := 1072) (by decide +kernel), List.mem_of_getElem? (i := 1773) (by decide +kernel), List.mem_of_getElem? (i := 1774) (by decide +kernel)⟩
theorem lw_p122 : lw_okq (⟨"PressAndWaitModel", "isAhead", "(III)Z"⟩, 122) := ⟨⟨by decide +kernel, by decide +kernel⟩, List.mem_of_getElem? (i := 1072) (by decide +kernel), List.mem_of_getElem? (i := 1792) (by decide +kernel), List.mem_of_getElem? (i := 1793) (by decide +kernel)⟩
theorem lw_p123 : lw_okq (⟨"PressAndWaitModel", "putsAside", "()V"⟩, 122) := ⟨⟨by decide +kernel, by decide +kernel⟩, List.mem_of_getElem? (i := 1072) (by decide +kernel), List.mem_of_getElem? (i := 1796) (by decide +kernel), List.mem_of_getElem? (i := 1797) (by decide +kernel)⟩
theorem lw_p124 : lw_okq (⟨"PressAndWaitModel", "dayGoes", "(I)I"⟩, 122) := ⟨⟨by decide +kernel, by decide +kernel⟩, List.mem_of_getElem? (i := 1072) (by decide +kernel), List.mem_of_getElem? (i := 1800) (by decide +kernel), List.mem_of_getElem? (i := 1801) (by decide +kernel)⟩
theorem lw_p125 : lw_okq (⟨"PressAndWaitModel", "learn", "(I)V"⟩, 122) := ⟨⟨by decide +kernel, by decide +kernel⟩, List.mem_of_getElem? (i := 1072) (by decide +kernel), List.mem_of_getElem? (i := 1804) (by decide +kernel), List.mem_of_getElem? (i := 1805) (by decide +kernel)⟩
theorem lw_p126 : lw_okq (⟨"PressAndWaitModel", "takesBack", "()V"⟩, 122) := ⟨⟨by decide +kernel, by decide +kernel⟩, List.mem_of_getElem? (i := 1072) (by decide +kernel), List.mem_of_getElem? (i := 1809) (by decide +kernel), List.mem_of_getElem? (i := 1810) (by decide +kernel)⟩
theorem lw_p127 : lw_okq (⟨"PressAndWaitModel", "refuses", "(I)I"⟩, 122) := ⟨⟨by decide +kernel, by decide +kernel⟩, List.mem_of_getElem? (i := 1072) (by decide +kernel), List.mem_of_getElem? (i := 1822) (by decide +kernel), List.mem_of_getElem? (i := 1823) (by decide +kernel)⟩
def lw_privs_8 : List (MethodName × Nat) := [(⟨"PressAndWaitModel", "arrive", "(II)V"⟩, 122), (⟨"PressAndWaitModel", "secondOf", "(I)I"⟩, 122), (⟨"PressAndWaitModel", "isLit", "(III)Z"⟩, 122), (⟨"PressAndWaitModel", "acts", "(III)V"⟩, 122), (⟨"PressAndWaitModel", "isHarmed", "(II)Z"⟩, 122), (⟨"PressAndWaitModel", "toldOfDay", "(I)I"⟩, 122), (⟨"PressAndWaitModel", "waitedAll", "()I"⟩, 122), (⟨"PressAndWaitModel", "notCrossed", "()I"⟩, 122), (⟨"PressAndWaitModel", "forNobody", "()I"⟩, 122), (⟨"PressAndWaitModel", "isGreenLong", "(II)Z"⟩, 122), (⟨"PressAndWaitModel", "isAhead", "(III)Z"⟩, 122), (⟨"PressAndWaitModel", "putsAside", "()V"⟩, 122), (⟨"PressAndWaitModel", "dayGoes", "(I)I"⟩, 122), (⟨"PressAndWaitModel", "learn", "(I)V"⟩, 122), (⟨"PressAndWaitModel", "takesBack", "()V"⟩, 122), (⟨"PressAndWaitModel", "refuses", "(I)I"⟩, 122)]
theorem lw_r8 : ∀ q ∈ lw_privs_8, lw_okq q := List.forall_mem_cons.mpr ⟨lw_p112, List.forall_mem_cons.mpr ⟨lw_p113, List.forall_mem_cons.mpr ⟨lw_p114, List.forall_mem_cons.mpr ⟨lw_p115, List.forall_mem_cons.mpr ⟨lw_p116, List.forall_mem_cons.mpr ⟨lw_p117, List.forall_mem_cons.mpr ⟨lw_p118, List.forall_mem_cons.mpr ⟨lw_p119, List.forall_mem_cons.mpr ⟨lw_p120, List.forall_mem_cons.mpr ⟨lw_p121, List.forall_mem_cons.mpr ⟨lw_p122, List.forall_mem_cons.mpr ⟨lw_p123, List.forall_mem_cons.mpr ⟨lw_p124, List.forall_mem_cons.mpr ⟨lw_p125, List.forall_mem_cons.mpr ⟨lw_p126, List.forall_mem_cons.mpr ⟨lw_p127, fun _ h => absurd h List.not_mem_nil⟩⟩⟩⟩⟩⟩⟩⟩⟩⟩⟩⟩⟩⟩⟩⟩
theorem lw_p128 : lw_okq (⟨"PressAndWaitModel", "laysFits", "()V"⟩, 122) := ⟨⟨by decide +kernel, by decide +kernel⟩, List.mem_of_getElem? (i := 1072) (by decide +kernel), List.mem_of_getElem? (i := 1830) (by decide +kernel), List.mem_of_getElem? (i := 1831) (by decide +kernel)⟩
theorem lw_p129 : lw_okq (⟨"PressAndWaitModel", "isAsSeen", "()Z"⟩, 122) := ⟨⟨by decide +kernel, by decide +kernel⟩, List.mem_of_getElem? (i := 1072) (by decide +kernel), List.mem_of_getElem? (i := 1834) (by decide +kernel), List.mem_of_getElem? (i := 1835) (by decide +kernel)⟩
theorem lw_p130 : lw_okq (⟨"PressAndWaitModel", "mostAlike", "(I)I"⟩, 122) := ⟨⟨by decide +kernel, by decide +kernel⟩, List.mem_of_getElem? (i := 1072) (by decide +kernel), List.mem_of_getElem? (i := 1842) (by decide +kernel), List.mem_of_getElem? (i := 1843) (by decide +kernel)⟩
theorem lw_p131 : lw_okq (⟨"PressAndWaitModel", "isRefused", "()Z"⟩, 122) := ⟨⟨by decide +kernel, by decide +kernel⟩, List.mem_of_getElem? (i := 1072) (by decide +kernel), List.mem_of_getElem? (i := 1854) (by decide +kernel), List.mem_of_getElem? (i := 1855) (by decide +kernel)⟩
theorem lw_p132 : lw_okq (⟨"PressAndWaitModel", "keeps", "()V"⟩, 122) := ⟨⟨by decide +kernel, by decide +kernel⟩, List.mem_of_getElem? (i := 1072) (by decide +kernel), List.mem_of_getElem? (i := 1858) (by decide +kernel), List.mem_of_getElem? (i := 1859) (by decide +kernel)⟩
theorem lw_p133 : lw_okq (⟨"PressAndWaitModel", "drawOf", "(I)I"⟩, 122) := ⟨⟨by decide +kernel, by decide +kernel⟩, List.mem_of_getElem? (i := 1072) (by decide +kernel), List.mem_of_getElem? (i := 1882) (by decide +kernel), List.mem_of_getElem? (i := 1883) (by decide +kernel)⟩
theorem lw_p134 : lw_okq (⟨"PressAndWaitModel", "qKind", "()I"⟩, 122) := ⟨⟨by decide +kernel, by decide +kernel⟩, List.mem_of_getElem? (i := 1072) (by decide +kernel), List.mem_of_getElem? (i := 1895) (by decide +kernel), List.mem_of_getElem? (i := 1896) (by decide +kernel)⟩
theorem lw_p135 : lw_okq (⟨"PressAndWaitModel", "qTold", "(I)J"⟩, 122) := ⟨⟨by decide +kernel, by decide +kernel⟩, List.mem_of_getElem? (i := 1072) (by decide +kernel), List.mem_of_getElem? (i := 1900) (by decide +kernel), List.mem_of_getElem? (i := 1901) (by decide +kernel)⟩
theorem lw_p136 : lw_okq (⟨"PressAndWaitModel", "qOf", "(IJI)J"⟩, 122) := ⟨⟨by decide +kernel, by decide +kernel⟩, List.mem_of_getElem? (i := 1072) (by decide +kernel), List.mem_of_getElem? (i := 1904) (by decide +kernel), List.mem_of_getElem? (i := 1905) (by decide +kernel)⟩
theorem lw_p137 : lw_okq (⟨"PressAndWaitModel", "qTakes", "(IJI)V"⟩, 122) := ⟨⟨by decide +kernel, by decide +kernel⟩, List.mem_of_getElem? (i := 1072) (by decide +kernel), List.mem_of_getElem? (i := 1908) (by decide +kernel), List.mem_of_getElem? (i := 1909) (by decide +kernel)⟩
theorem lw_p138 : lw_okq (⟨"PressAndWaitModel", "writes", "(I)V"⟩, 122) := ⟨⟨by decide +kernel, by decide +kernel⟩, List.mem_of_getElem? (i := 1072) (by decide +kernel), List.mem_of_getElem? (i := 1916) (by decide +kernel), List.mem_of_getElem? (i := 1917) (by decide +kernel)⟩
theorem lw_p139 : lw_okq (⟨"PressAndWaitModel", "isImage", "(I)Z"⟩, 122) := ⟨⟨by decide +kernel, by decide +kernel⟩, List.mem_of_getElem? (i := 1072) (by decide +kernel), List.mem_of_getElem? (i := 1931) (by decide +kernel), List.mem_of_getElem? (i := 1932) (by decide +kernel)⟩
def lw_privs_9 : List (MethodName × Nat) := [(⟨"PressAndWaitModel", "laysFits", "()V"⟩, 122), (⟨"PressAndWaitModel", "isAsSeen", "()Z"⟩, 122), (⟨"PressAndWaitModel", "mostAlike", "(I)I"⟩, 122), (⟨"PressAndWaitModel", "isRefused", "()Z"⟩, 122), (⟨"PressAndWaitModel", "keeps", "()V"⟩, 122), (⟨"PressAndWaitModel", "drawOf", "(I)I"⟩, 122), (⟨"PressAndWaitModel", "qKind", "()I"⟩, 122), (⟨"PressAndWaitModel", "qTold", "(I)J"⟩, 122), (⟨"PressAndWaitModel", "qOf", "(IJI)J"⟩, 122), (⟨"PressAndWaitModel", "qTakes", "(IJI)V"⟩, 122), (⟨"PressAndWaitModel", "writes", "(I)V"⟩, 122), (⟨"PressAndWaitModel", "isImage", "(I)Z"⟩, 122)]
theorem lw_r9 : ∀ q ∈ lw_privs_9, lw_okq q := List.forall_mem_cons.mpr ⟨lw_p128, List.forall_mem_cons.mpr ⟨lw_p129, List.forall_mem_cons.mpr ⟨lw_p130, List.forall_mem_cons.mpr ⟨lw_p131, List.forall_mem_cons.mpr ⟨lw_p132, List.forall_mem_cons.mpr ⟨lw_p133, List.forall_mem_cons.mpr ⟨lw_p134, List.forall_mem_cons.mpr ⟨lw_p135, List.forall_mem_cons.mpr ⟨lw_p136, List.forall_mem_cons.mpr ⟨lw_p137, List.forall_mem_cons.mpr ⟨lw_p138, List.forall_mem_cons.mpr ⟨lw_p139, fun _ h => absurd h List.not_mem_nil⟩⟩⟩⟩⟩⟩⟩⟩⟩⟩⟩⟩
def lw_privs : List (MethodName × Nat) := lw_privs_1 ++ (lw_privs_2 ++ (lw_privs_3 ++ (lw_privs_4 ++ (lw_privs_5 ++ (lw_privs_6 ++ (lw_privs_7 ++ (lw_privs_8 ++ (lw_privs_9))))))))
def lw_tbl : List Cond := k2_sels lw_privs ++ tables_1
theorem lw_privs_ok : ∀ q ∈ lw_privs, lw_okq q := by
  show ∀ q ∈ lw_privs_1 ++ (lw_privs_2 ++ (lw_privs_3 ++ (lw_privs_4 ++ (lw_privs_5 ++ (lw_privs_6 ++ (lw_privs_7 ++ (lw_privs_8 ++ (lw_privs_9)))))))), lw_okq q
  exact List.forall_mem_append.mpr ⟨lw_r1, List.forall_mem_append.mpr ⟨lw_r2, List.forall_mem_append.mpr ⟨lw_r3, List.forall_mem_append.mpr ⟨lw_r4, List.forall_mem_append.mpr ⟨lw_r5, List.forall_mem_append.mpr ⟨lw_r6, List.forall_mem_append.mpr ⟨lw_r7, List.forall_mem_append.mpr ⟨lw_r8, lw_r9⟩⟩⟩⟩⟩⟩⟩⟩
-- ===== end of PART A; then your names; then what follows =====
end
section
/-! ===== BEGIN words of one list among another's, by their places ===== -/
theorem goodIn_r {big : List Cond} (ws : List Cond) (ps : List Nat) (hp : ws = ps.filterMap (fun i => big[i]?)) (h : ws.all goodWord = true) : GoodIn big ws := by
  intro w hw
  have h1 := List.all_eq_true.mp h w hw
  rw [hp] at hw
  obtain ⟨i, -, hi⟩ := List.mem_filterMap.mp hw
  have hm : w ∈ big := by first | exact List.mem_of_getElem? hi | exact List.getElem?_mem hi
  exact ⟨hm, good_of_word h1⟩
theorem goodIn_app {big a b : List Cond} (ha : GoodIn big a) (hb : GoodIn big b) : GoodIn big (a ++ b) := fun w h => (List.mem_append.mp h).elim (ha w) (hb w)
theorem goodIn_ca {big a b : List Cond} {c : Cond} (ha : GoodIn big (c :: a)) (hb : GoodIn big b) : GoodIn big (c :: (a ++ b)) := fun w h => (List.mem_cons.mp h).elim (fun e => ha w (List.mem_cons.mpr (Or.inl e))) (fun h => (List.mem_append.mp h).elim (fun h => ha w (List.mem_cons.mpr (Or.inr h))) (hb w))
theorem goodIn_sub {big ws : List Cond} (hm : ∀ w ∈ ws, w ∈ big) (h : ws.all goodWord = true) : GoodIn big ws := fun w hw => ⟨hm w hw, good_of_word (List.all_eq_true.mp h w hw)⟩
/-! ===== END ===== -/

/-! ===== BEGIN printed: names, fields, word lists, decode rows ===== -/
def RX0 : String := "PressAndWait$Ahead"
def TX0 : u_T := fun k => match k with
  | 0 => ("PressAndWait$Ahead", "street", "LPressAndWait$Street;", true)
  | 1 => ("PressAndWait$Ahead", "state", "LPressAndWait$State;", true)
  | 2 => ("PressAndWait$Ahead", "told", "[I", true)
  | 3 => ("PressAndWait$Ahead", "trusts", "[I", true)
  | _ => ("PressAndWait$Ahead", "known", "I", false)
def tyX0 : Nat → FieldType := fun k => match k with
  | 0 => .object "PressAndWait$Street"
  | 1 => .object "PressAndWait$State"
  | 2 => .array .int
  | 3 => .array .int
  | _ => .int
abbrev wsX00 : List Cond := u_ws RX0 TX0 5
theorem nmX0 : ∀ a, a < 5 → ∀ b, b < 5 → a ≠ b → (TX0 a).2.1 ≠ (TX0 b).2.1 := by decide +kernel
theorem tyX0_ok : ∀ k, k < 5 → parseFieldDescriptor (TX0 k).2.2.1 = some (tyX0 k) := by decide +kernel
abbrev cX0_init : ByteArray := prog_2_method_1_code
def yX0_init : MethodName := ⟨RX0, "<init>", "(LPressAndWait$Street;)V"⟩
abbrev cX0_forget : ByteArray := prog_2_method_2_code
def yX0_forget : MethodName := ⟨RX0, "forget", "()V"⟩
abbrev cX0_goTo : ByteArray := prog_2_method_3_code
def yX0_goTo : MethodName := ⟨RX0, "goTo", "(LPressAndWait$State;I)V"⟩
def RX1 : String := "PressAndWait$Choice"
def TX1 : u_T := fun k => match k with
  | 0 => ("PressAndWait$Choice", "street", "LPressAndWait$Street;", true)
  | 1 => ("PressAndWait$Choice", "table", "[I", true)
  | _ => ("PressAndWait$Choice", "tableKnown", "Z", false)
def tyX1 : Nat → FieldType := fun k => match k with
  | 0 => .object "PressAndWait$Street"
  | 1 => .array .int
  | _ => .boolean
abbrev wsX10 : List Cond := u_ws RX1 TX1 3
theorem nmX1 : ∀ a, a < 3 → ∀ b, b < 3 → a ≠ b → (TX1 a).2.1 ≠ (TX1 b).2.1 := by decide +kernel
theorem tyX1_ok : ∀ k, k < 3 → parseFieldDescriptor (TX1 k).2.2.1 = some (tyX1 k) := by decide +kernel
abbrev cX1_init : ByteArray := prog_3_method_1_code
def yX1_init : MethodName := ⟨RX1, "<init>", "(LPressAndWait$Street;)V"⟩
abbrev cX1_forget : ByteArray := prog_3_method_2_code
def yX1_forget : MethodName := ⟨RX1, "forget", "()V"⟩
abbrev cX1_bestOf : ByteArray := prog_3_method_3_code
def yX1_bestOf : MethodName := ⟨RX1, "bestOf", "(LPressAndWait$State;II)I"⟩
abbrev cX1_enter : ByteArray := prog_3_method_4_code
def yX1_enter : MethodName := ⟨RX1, "enter", "(II)V"⟩
abbrev cX1_leastGreen : ByteArray := prog_3_method_5_code
def yX1_leastGreen : MethodName := ⟨RX1, "leastGreen", "(LPressAndWait$State;)I"⟩
abbrev cX1_holders : ByteArray := prog_3_method_6_code
def yX1_holders : MethodName := ⟨RX1, "holders", "()I"⟩
def RX2 : String := "PressAndWait$History"
def TX2 : u_T := fun k => match k with
  | 0 => ("PressAndWait$History", "ring", "[LPressAndWait$State;", true)
  | 1 => ("PressAndWait$History", "next", "I", false)
  | _ => ("PressAndWait$History", "count", "I", false)
def tyX2 : Nat → FieldType := fun k => match k with
  | 0 => .array (.object "PressAndWait$State")
  | 1 => .int
  | _ => .int
abbrev wsX20 : List Cond := u_ws RX2 TX2 3
theorem nmX2 : ∀ a, a < 3 → ∀ b, b < 3 → a ≠ b → (TX2 a).2.1 ≠ (TX2 b).2.1 := by decide +kernel
theorem tyX2_ok : ∀ k, k < 3 → parseFieldDescriptor (TX2 k).2.2.1 = some (tyX2 k) := by decide +kernel
abbrev cX2_init : ByteArray := prog_4_method_1_code
def yX2_init : MethodName := ⟨RX2, "<init>", "()V"⟩
abbrev cX2_clear : ByteArray := prog_4_method_2_code
def yX2_clear : MethodName := ⟨RX2, "clear", "()V"⟩
abbrev cX2_keep : ByteArray := prog_4_method_3_code
def yX2_keep : MethodName := ⟨RX2, "keep", "(LPressAndWait$State;)V"⟩
abbrev cX2_giveBack : ByteArray := prog_4_method_4_code
def yX2_giveBack : MethodName := ⟨RX2, "giveBack", "(LPressAndWait$State;)Z"⟩
def RX3 : String := "PressAndWait$Machine"
def TX3 : u_T := fun k => match k with
  | 0 => ("PressAndWait$Machine", "facts", "[I", true)
  | _ => ("PressAndWait$Machine", "stack", "[I", true)
def tyX3 : Nat → FieldType := fun k => match k with
  | 0 => .array .int
  | _ => .array .int
abbrev wsX30 : List Cond := u_ws RX3 TX3 2
theorem nmX3 : ∀ a, a < 2 → ∀ b, b < 2 → a ≠ b → (TX3 a).2.1 ≠ (TX3 b).2.1 := by decide +kernel
theorem tyX3_ok : ∀ k, k < 2 → parseFieldDescriptor (TX3 k).2.2.1 = some (tyX3 k) := by decide +kernel
abbrev cX3_init : ByteArray := prog_5_method_1_code
def yX3_init : MethodName := ⟨RX3, "<init>", "()V"⟩
abbrev cX3_value : ByteArray := prog_5_method_2_code
def yX3_value : MethodName := ⟨RX3, "value", "([III)I"⟩
abbrev cX3_operate : ByteArray := prog_5_method_3_code
def yX3_operate : MethodName := ⟨RX3, "operate", "(III)I"⟩
abbrev cX3_within : ByteArray := prog_5_method_4_code
def yX3_within : MethodName := ⟨RX3, "within", "(J)I"⟩
def RX4 : String := "PressAndWait$Plan"
def TX4 : u_T := fun k => match k with
  | 0 => ("PressAndWait$Plan", "cycle", "I", false)
  | 1 => ("PressAndWait$Plan", "green", "I", false)
  | 2 => ("PressAndWait$Plan", "rule", "I", false)
  | 3 => ("PressAndWait$Plan", "least", "I", false)
  | 4 => ("PressAndWait$Plan", "away", "I", false)
  | 5 => ("PressAndWait$Plan", "statements", "I", false)
  | 6 => ("PressAndWait$Plan", "kinds", "I", false)
  | 7 => ("PressAndWait$Plan", "calm", "[I", true)
  | 8 => ("PressAndWait$Plan", "pace", "[I", true)
  | 9 => ("PressAndWait$Plan", "trusts", "[I", true)
  | 10 => ("PressAndWait$Plan", "walkers", "I", false)
  | 11 => ("PressAndWait$Plan", "kindOf", "[I", true)
  | 12 => ("PressAndWait$Plan", "comesAt", "[I", true)
  | 13 => ("PressAndWait$Plan", "comers", "[I", true)
  | 14 => ("PressAndWait$Plan", "names", "[I", true)
  | 15 => ("PressAndWait$Plan", "code", "[I", true)
  | 16 => ("PressAndWait$Plan", "size", "I", false)
  | _ => ("PressAndWait$Plan", "spans", "[I", true)
def tyX4 : Nat → FieldType := fun k => match k with
  | 0 => .int
  | 1 => .int
  | 2 => .int
  | 3 => .int
  | 4 => .int
  | 5 => .int
  | 6 => .int
  | 7 => .array .int
  | 8 => .array .int
  | 9 => .array .int
  | 10 => .int
  | 11 => .array .int
  | 12 => .array .int
  | 13 => .array .int
  | 14 => .array .int
  | 15 => .array .int
  | 16 => .int
  | _ => .array .int
abbrev wsX40 : List Cond := u_ws RX4 TX4 18
theorem nmX4 : ∀ a, a < 18 → ∀ b, b < 18 → a ≠ b → (TX4 a).2.1 ≠ (TX4 b).2.1 := by decide +kernel
theorem tyX4_ok : ∀ k, k < 18 → parseFieldDescriptor (TX4 k).2.2.1 = some (tyX4 k) := by decide +kernel
abbrev cX4_init : ByteArray := prog_6_method_1_code
def yX4_init : MethodName := ⟨RX4, "<init>", "()V"⟩
abbrev cX4_clear : ByteArray := prog_6_method_2_code
def yX4_clear : MethodName := ⟨RX4, "clear", "()V"⟩
abbrev cX4_walkersOf : ByteArray := prog_6_method_3_code
def yX4_walkersOf : MethodName := ⟨RX4, "walkersOf", "(I)I"⟩
abbrev cX4_comersIn : ByteArray := prog_6_method_4_code
def yX4_comersIn : MethodName := ⟨RX4, "comersIn", "(I)I"⟩
abbrev cX4_everyone : ByteArray := prog_6_method_5_code
def yX4_everyone : MethodName := ⟨RX4, "everyone", "()I"⟩
abbrev cX4_allowsGreen : ByteArray := prog_6_method_6_code
def yX4_allowsGreen : MethodName := ⟨RX4, "allowsGreen", "(I)Z"⟩
abbrev cX4_uses : ByteArray := prog_6_method_7_code
def yX4_uses : MethodName := ⟨RX4, "uses", "(II)Z"⟩
def RX5 : String := "PressAndWait$Reader"
def TX5 : u_T := fun k => match k with
  | 0 => ("PressAndWait$Reader", "text", "[I", true)
  | 1 => ("PressAndWait$Reader", "length", "I", false)
  | 2 => ("PressAndWait$Reader", "at", "I", false)
  | 3 => ("PressAndWait$Reader", "behind", "I", false)
  | 4 => ("PressAndWait$Reader", "sort", "I", false)
  | 5 => ("PressAndWait$Reader", "allowed", "I", false)
  | 6 => ("PressAndWait$Reader", "plan", "LPressAndWait$Plan;", false)
  | 7 => ("PressAndWait$Reader", "fault", "I", false)
  | _ => ("PressAndWait$Reader", "place", "I", false)
def tyX5 : Nat → FieldType := fun k => match k with
  | 0 => .array .int
  | 1 => .int
  | 2 => .int
  | 3 => .int
  | 4 => .int
  | 5 => .int
  | 6 => .object "PressAndWait$Plan"
  | 7 => .int
  | _ => .int
abbrev wsX50 : List Cond := u_ws RX5 TX5 9
theorem nmX5 : ∀ a, a < 9 → ∀ b, b < 9 → a ≠ b → (TX5 a).2.1 ≠ (TX5 b).2.1 := by decide +kernel
theorem tyX5_ok : ∀ k, k < 9 → parseFieldDescriptor (TX5 k).2.2.1 = some (tyX5 k) := by decide +kernel
abbrev cX5_init : ByteArray := prog_7_method_1_code
def yX5_init : MethodName := ⟨RX5, "<init>", "([ILPressAndWait$Plan;)V"⟩
abbrev cX5_readCrossing : ByteArray := prog_7_method_2_code
def yX5_readCrossing : MethodName := ⟨RX5, "readCrossing", "(LPressAndWait$Plan;I)V"⟩
abbrev cX5_readQuestion : ByteArray := prog_7_method_3_code
def yX5_readQuestion : MethodName := ⟨RX5, "readQuestion", "(LPressAndWait$Plan;I)I"⟩
abbrev cX5_begin : ByteArray := prog_7_method_4_code
def yX5_begin : MethodName := ⟨RX5, "begin", "(LPressAndWait$Plan;I)V"⟩
abbrev cX5_fail : ByteArray := prog_7_method_5_code
def yX5_fail : MethodName := ⟨RX5, "fail", "(II)V"⟩
abbrev cX5_firstStatement : ByteArray := prog_7_method_6_code
def yX5_firstStatement : MethodName := ⟨RX5, "firstStatement", "()V"⟩
abbrev cX5_kindStatement : ByteArray := prog_7_method_7_code
def yX5_kindStatement : MethodName := ⟨RX5, "kindStatement", "()V"⟩
abbrev cX5_comesStatement : ByteArray := prog_7_method_8_code
def yX5_comesStatement : MethodName := ⟨RX5, "comesStatement", "()V"⟩
abbrev cX5_codeStatement : ByteArray := prog_7_method_9_code
def yX5_codeStatement : MethodName := ⟨RX5, "codeStatement", "(II)V"⟩
abbrev cX5_numberBehind : ByteArray := prog_7_method_10_code
def yX5_numberBehind : MethodName := ⟨RX5, "numberBehind", "(Ljava/lang/String;II)I"⟩
abbrev cX5_newName : ByteArray := prog_7_method_11_code
def yX5_newName : MethodName := ⟨RX5, "newName", "(I)V"⟩
abbrev cX5_knownKind : ByteArray := prog_7_method_12_code
def yX5_knownKind : MethodName := ⟨RX5, "knownKind", "()I"⟩
abbrev cX5_isName : ByteArray := prog_7_method_13_code
def yX5_isName : MethodName := ⟨RX5, "isName", "()Z"⟩
abbrev cX5_wrongInName : ByteArray := prog_7_method_14_code
def yX5_wrongInName : MethodName := ⟨RX5, "wrongInName", "()I"⟩
abbrev cX5_nameLetter : ByteArray := prog_7_method_15_code
def yX5_nameLetter : MethodName := ⟨RX5, "nameLetter", "(I)I"⟩
abbrev cX5_slotOf : ByteArray := prog_7_method_16_code
def yX5_slotOf : MethodName := ⟨RX5, "slotOf", "(II)I"⟩
abbrev cX5_test : ByteArray := prog_7_method_17_code
def yX5_test : MethodName := ⟨RX5, "test", "(I)V"⟩
abbrev cX5_both : ByteArray := prog_7_method_18_code
def yX5_both : MethodName := ⟨RX5, "both", "(I)V"⟩
abbrev cX5_fact : ByteArray := prog_7_method_19_code
def yX5_fact : MethodName := ⟨RX5, "fact", "(I)V"⟩
abbrev cX5_sum : ByteArray := prog_7_method_20_code
def yX5_sum : MethodName := ⟨RX5, "sum", "(I)V"⟩
abbrev cX5_product : ByteArray := prog_7_method_21_code
def yX5_product : MethodName := ⟨RX5, "product", "(I)V"⟩
abbrev cX5_part : ByteArray := prog_7_method_22_code
def yX5_part : MethodName := ⟨RX5, "part", "(I)V"⟩
abbrev cX5_pair : ByteArray := prog_7_method_23_code
def yX5_pair : MethodName := ⟨RX5, "pair", "(II)V"⟩
abbrev cX5_partWord : ByteArray := prog_7_method_24_code
def yX5_partWord : MethodName := ⟨RX5, "partWord", "()V"⟩
abbrev cX5_enters : ByteArray := prog_7_method_25_code
def yX5_enters : MethodName := ⟨RX5, "enters", "(I)Z"⟩
abbrev cX5_signHere : ByteArray := prog_7_method_26_code
def yX5_signHere : MethodName := ⟨RX5, "signHere", "()I"⟩
abbrev cX5_emit : ByteArray := prog_7_method_27_code
def yX5_emit : MethodName := ⟨RX5, "emit", "(I)V"⟩
abbrev cX5_number : ByteArray := prog_7_method_28_code
def yX5_number : MethodName := ⟨RX5, "number", "(II)I"⟩
abbrev cX5_needWord : ByteArray := prog_7_method_29_code
def yX5_needWord : MethodName := ⟨RX5, "needWord", "(Ljava/lang/String;)V"⟩
abbrev cX5_takeWord : ByteArray := prog_7_method_30_code
def yX5_takeWord : MethodName := ⟨RX5, "takeWord", "(Ljava/lang/String;)Z"⟩
abbrev cX5_wordIn : ByteArray := prog_7_method_31_code
def yX5_wordIn : MethodName := ⟨RX5, "wordIn", "(Ljava/lang/String;)I"⟩
abbrev cX5_need : ByteArray := prog_7_method_32_code
def yX5_need : MethodName := ⟨RX5, "need", "(C)V"⟩
abbrev cX5_sees : ByteArray := prog_7_method_33_code
def yX5_sees : MethodName := ⟨RX5, "sees", "(C)Z"⟩
abbrev cX5_moveTo : ByteArray := prog_7_method_34_code
def yX5_moveTo : MethodName := ⟨RX5, "moveTo", "(I)V"⟩
abbrev cX5_sortOf : ByteArray := prog_7_method_35_code
def yX5_sortOf : MethodName := ⟨RX5, "sortOf", "(I)I"⟩
def RX6 : String := "PressAndWait$State"
def TX6 : u_T := fun k => match k with
  | 0 => ("PressAndWait$State", "day", "I", false)
  | 1 => ("PressAndWait$State", "rule", "I", false)
  | 2 => ("PressAndWait$State", "green", "I", false)
  | _ => ("PressAndWait$State", "trusts", "[I", true)
def tyX6 : Nat → FieldType := fun k => match k with
  | 0 => .int
  | 1 => .int
  | 2 => .int
  | _ => .array .int
abbrev wsX60 : List Cond := u_ws RX6 TX6 4
theorem nmX6 : ∀ a, a < 4 → ∀ b, b < 4 → a ≠ b → (TX6 a).2.1 ≠ (TX6 b).2.1 := by decide +kernel
theorem tyX6_ok : ∀ k, k < 4 → parseFieldDescriptor (TX6 k).2.2.1 = some (tyX6 k) := by decide +kernel
abbrev cX6_init : ByteArray := prog_8_method_1_code
def yX6_init : MethodName := ⟨RX6, "<init>", "()V"⟩
abbrev cX6_begin : ByteArray := prog_8_method_2_code
def yX6_begin : MethodName := ⟨RX6, "begin", "(LPressAndWait$Plan;)V"⟩
abbrev cX6_copy : ByteArray := prog_8_method_3_code
def yX6_copy : MethodName := ⟨RX6, "copy", "(LPressAndWait$State;)V"⟩
def RX7 : String := "PressAndWait$Street"
def TX7 : u_T := fun k => match k with
  | 0 => ("PressAndWait$Street", "machine", "LPressAndWait$Machine;", true)
  | 1 => ("PressAndWait$Street", "plan", "LPressAndWait$Plan;", false)
  | 2 => ("PressAndWait$Street", "day", "I", false)
  | 3 => ("PressAndWait$Street", "trusts", "[I", true)
  | 4 => ("PressAndWait$Street", "rule", "I", false)
  | 5 => ("PressAndWait$Street", "green", "I", false)
  | 6 => ("PressAndWait$Street", "absent", "I", false)
  | 7 => ("PressAndWait$Street", "asksReds", "Z", false)
  | 8 => ("PressAndWait$Street", "cars", "[I", true)
  | 9 => ("PressAndWait$Street", "gaps", "[I", true)
  | 10 => ("PressAndWait$Street", "known", "[I", true)
  | 11 => ("PressAndWait$Street", "left", "[I", true)
  | 12 => ("PressAndWait$Street", "leaves", "[I", true)
  | 13 => ("PressAndWait$Street", "pressed", "I", false)
  | 14 => ("PressAndWait$Street", "crossed", "I", false)
  | 15 => ("PressAndWait$Street", "went", "I", false)
  | _ => ("PressAndWait$Street", "harmed", "I", false)
def tyX7 : Nat → FieldType := fun k => match k with
  | 0 => .object "PressAndWait$Machine"
  | 1 => .object "PressAndWait$Plan"
  | 2 => .int
  | 3 => .array .int
  | 4 => .int
  | 5 => .int
  | 6 => .int
  | 7 => .boolean
  | 8 => .array .int
  | 9 => .array .int
  | 10 => .array .int
  | 11 => .array .int
  | 12 => .array .int
  | 13 => .int
  | 14 => .int
  | 15 => .int
  | _ => .int
abbrev wsX70 : List Cond := u_ws RX7 TX7 17
theorem nmX7 : ∀ a, a < 17 → ∀ b, b < 17 → a ≠ b → (TX7 a).2.1 ≠ (TX7 b).2.1 := by decide +kernel
theorem tyX7_ok : ∀ k, k < 17 → parseFieldDescriptor (TX7 k).2.2.1 = some (tyX7 k) := by decide +kernel
abbrev cX7_init : ByteArray := prog_9_method_1_code
def yX7_init : MethodName := ⟨RX7, "<init>", "(LPressAndWait$Machine;LPressAndWait$Plan;)V"⟩
abbrev cX7_take : ByteArray := prog_9_method_2_code
def yX7_take : MethodName := ⟨RX7, "take", "(LPressAndWait$Plan;)V"⟩
abbrev cX7_lay : ByteArray := prog_9_method_3_code
def yX7_lay : MethodName := ⟨RX7, "lay", "(LPressAndWait$State;III)V"⟩
abbrev cX7_prepare : ByteArray := prog_9_method_4_code
def yX7_prepare : MethodName := ⟨RX7, "prepare", "(LPressAndWait$State;)V"⟩
abbrev cX7_drive : ByteArray := prog_9_method_5_code
def yX7_drive : MethodName := ⟨RX7, "drive", "()V"⟩
abbrev cX7_shine : ByteArray := prog_9_method_6_code
def yX7_shine : MethodName := ⟨RX7, "shine", "()V"⟩
abbrev cX7_willing : ByteArray := prog_9_method_7_code
def yX7_willing : MethodName := ⟨RX7, "willing", "()I"⟩
abbrev cX7_walk : ByteArray := prog_9_method_8_code
def yX7_walk : MethodName := ⟨RX7, "walk", "()V"⟩
abbrev cX7_goes : ByteArray := prog_9_method_9_code
def yX7_goes : MethodName := ⟨RX7, "goes", "(III)Z"⟩
abbrev cX7_describe : ByteArray := prog_9_method_10_code
def yX7_describe : MethodName := ⟨RX7, "describe", "(IIII)V"⟩
abbrev cX7_describeWhole : ByteArray := prog_9_method_11_code
def yX7_describeWhole : MethodName := ⟨RX7, "describeWhole", "(I)V"⟩
abbrev cX7_waitedBy : ByteArray := prog_9_method_12_code
def yX7_waitedBy : MethodName := ⟨RX7, "waitedBy", "(I)I"⟩
abbrev cX7_pass : ByteArray := prog_9_method_13_code
def yX7_pass : MethodName := ⟨RX7, "pass", "(LPressAndWait$State;)V"⟩
abbrev cX7_told : ByteArray := prog_9_method_14_code
def yX7_told : MethodName := ⟨RX7, "told", "(I)I"⟩
abbrev cX7_waitedByAll : ByteArray := prog_9_method_15_code
def yX7_waitedByAll : MethodName := ⟨RX7, "waitedByAll", "()I"⟩
abbrev cX7_greensForNobody : ByteArray := prog_9_method_16_code
def yX7_greensForNobody : MethodName := ⟨RX7, "greensForNobody", "()I"⟩
abbrev cX7_someoneCrosses : ByteArray := prog_9_method_17_code
def yX7_someoneCrosses : MethodName := ⟨RX7, "someoneCrosses", "(I)Z"⟩
abbrev cX7_allCross : ByteArray := prog_9_method_18_code
def yX7_allCross : MethodName := ⟨RX7, "allCross", "()Z"⟩
abbrev cX7_greensUpTo : ByteArray := prog_9_method_19_code
def yX7_greensUpTo : MethodName := ⟨RX7, "greensUpTo", "(I)I"⟩
abbrev cX7_walkers : ByteArray := prog_9_method_20_code
def yX7_walkers : MethodName := ⟨RX7, "walkers", "()I"⟩
abbrev cX7_goersByThemselves : ByteArray := prog_9_method_21_code
def yX7_goersByThemselves : MethodName := ⟨RX7, "goersByThemselves", "()I"⟩
def RX8 : String := "PressAndWait$Watch"
def TX8 : u_T := fun k => match k with
  | 0 => ("PressAndWait$Watch", "street", "LPressAndWait$Street;", true)
  | 1 => ("PressAndWait$Watch", "seenWalker", "[I", true)
  | 2 => ("PressAndWait$Watch", "seenSecond", "[I", true)
  | 3 => ("PressAndWait$Watch", "rows", "I", false)
  | 4 => ("PressAndWait$Watch", "compared", "Z", false)
  | 5 => ("PressAndWait$Watch", "seconds", "[I", true)
  | 6 => ("PressAndWait$Watch", "found", "I", false)
  | 7 => ("PressAndWait$Watch", "foundRules", "I", false)
  | 8 => ("PressAndWait$Watch", "foundGreen", "I", false)
  | 9 => ("PressAndWait$Watch", "chosen", "I", false)
  | _ => ("PressAndWait$Watch", "chosenLeft", "I", false)
def tyX8 : Nat → FieldType := fun k => match k with
  | 0 => .object "PressAndWait$Street"
  | 1 => .array .int
  | 2 => .array .int
  | 3 => .int
  | 4 => .boolean
  | 5 => .array .int
  | 6 => .int
  | 7 => .int
  | 8 => .int
  | 9 => .int
  | _ => .int
abbrev wsX80 : List Cond := u_ws RX8 TX8 11
theorem nmX8 : ∀ a, a < 11 → ∀ b, b < 11 → a ≠ b → (TX8 a).2.1 ≠ (TX8 b).2.1 := by decide +kernel
theorem tyX8_ok : ∀ k, k < 11 → parseFieldDescriptor (TX8 k).2.2.1 = some (tyX8 k) := by decide +kernel
abbrev cX8_init : ByteArray := prog_10_method_1_code
def yX8_init : MethodName := ⟨RX8, "<init>", "(LPressAndWait$Street;)V"⟩
abbrev cX8_clear : ByteArray := prog_10_method_2_code
def yX8_clear : MethodName := ⟨RX8, "clear", "()V"⟩
abbrev cX8_forget : ByteArray := prog_10_method_3_code
def yX8_forget : MethodName := ⟨RX8, "forget", "()V"⟩
abbrev cX8_accepts : ByteArray := prog_10_method_4_code
def yX8_accepts : MethodName := ⟨RX8, "accepts", "([III)Z"⟩
abbrev cX8_keep : ByteArray := prog_10_method_5_code
def yX8_keep : MethodName := ⟨RX8, "keep", "([II)I"⟩
abbrev cX8_compare : ByteArray := prog_10_method_6_code
def yX8_compare : MethodName := ⟨RX8, "compare", "(LPressAndWait$State;)V"⟩
abbrev cX8_isSo : ByteArray := prog_10_method_7_code
def yX8_isSo : MethodName := ⟨RX8, "isSo", "()Z"⟩
abbrev cX8_choose : ByteArray := prog_10_method_8_code
def yX8_choose : MethodName := ⟨RX8, "choose", "()V"⟩
abbrev cX8_mostLeft : ByteArray := prog_10_method_9_code
def yX8_mostLeft : MethodName := ⟨RX8, "mostLeft", "(I)I"⟩
def RX9 : String := "PressAndWait"
def TX9 : u_T := fun k => match k with
  | 0 => ("PressAndWait", "tape", "[I", true)
  | 1 => ("PressAndWait", "tapeSize", "I", false)
  | 2 => ("PressAndWait", "plan", "LPressAndWait$Plan;", false)
  | 3 => ("PressAndWait", "spare", "LPressAndWait$Plan;", false)
  | 4 => ("PressAndWait", "now", "LPressAndWait$State;", true)
  | 5 => ("PressAndWait", "history", "LPressAndWait$History;", true)
  | 6 => ("PressAndWait", "machine", "LPressAndWait$Machine;", true)
  | 7 => ("PressAndWait", "reader", "LPressAndWait$Reader;", true)
  | 8 => ("PressAndWait", "street", "LPressAndWait$Street;", true)
  | 9 => ("PressAndWait", "choice", "LPressAndWait$Choice;", true)
  | 10 => ("PressAndWait", "ahead", "LPressAndWait$Ahead;", true)
  | 11 => ("PressAndWait", "watch", "LPressAndWait$Watch;", true)
  | 12 => ("PressAndWait", "octets", "[I", true)
  | 13 => ("PressAndWait", "octetCount", "I", false)
  | 14 => ("PressAndWait", "refusals", "[I", true)
  | _ => ("PressAndWait", "drawn", "J", false)
def tyX9 : Nat → FieldType := fun k => match k with
  | 0 => .array .int
  | 1 => .int
  | 2 => .object "PressAndWait$Plan"
  | 3 => .object "PressAndWait$Plan"
  | 4 => .object "PressAndWait$State"
  | 5 => .object "PressAndWait$History"
  | 6 => .object "PressAndWait$Machine"
  | 7 => .object "PressAndWait$Reader"
  | 8 => .object "PressAndWait$Street"
  | 9 => .object "PressAndWait$Choice"
  | 10 => .object "PressAndWait$Ahead"
  | 11 => .object "PressAndWait$Watch"
  | 12 => .array .int
  | 13 => .int
  | 14 => .array .int
  | _ => .long
abbrev wsX90 : List Cond := u_ws RX9 TX9 16
theorem nmX9 : ∀ a, a < 16 → ∀ b, b < 16 → a ≠ b → (TX9 a).2.1 ≠ (TX9 b).2.1 := by decide +kernel
theorem tyX9_ok : ∀ k, k < 16 → parseFieldDescriptor (TX9 k).2.2.1 = some (tyX9 k) := by decide +kernel
abbrev cX9_init : ByteArray := prog_1_method_1_code
def yX9_init : MethodName := ⟨RX9, "<init>", "()V"⟩
abbrev cX9_feed : ByteArray := prog_1_method_2_code
def yX9_feed : MethodName := ⟨RX9, "feed", "(IIIII)I"⟩
abbrev cX9_end : ByteArray := prog_1_method_3_code
def yX9_end : MethodName := ⟨RX9, "end", "(I)Z"⟩
abbrev cX9_crossing : ByteArray := prog_1_method_4_code
def yX9_crossing : MethodName := ⟨RX9, "crossing", "()I"⟩
abbrev cX9_fault : ByteArray := prog_1_method_5_code
def yX9_fault : MethodName := ⟨RX9, "fault", "(I)I"⟩
abbrev cX9_has : ByteArray := prog_1_method_6_code
def yX9_has : MethodName := ⟨RX9, "has", "(I)I"⟩
abbrev cX9_letter : ByteArray := prog_1_method_7_code
def yX9_letter : MethodName := ⟨RX9, "letter", "(III)I"⟩
abbrev cX9_kind : ByteArray := prog_1_method_8_code
def yX9_kind : MethodName := ⟨RX9, "kind", "(II)I"⟩
abbrev cX9_walker : ByteArray := prog_1_method_9_code
def yX9_walker : MethodName := ⟨RX9, "walker", "(II)I"⟩
abbrev cX9_light : ByteArray := prog_1_method_10_code
def yX9_light : MethodName := ⟨RX9, "light", "(I)I"⟩
abbrev cX9_car : ByteArray := prog_1_method_11_code
def yX9_car : MethodName := ⟨RX9, "car", "(I)I"⟩
abbrev cX9_day : ByteArray := prog_1_method_12_code
def yX9_day : MethodName := ⟨RX9, "day", "(I)I"⟩
abbrev cX9_best : ByteArray := prog_1_method_13_code
def yX9_best : MethodName := ⟨RX9, "best", "(II)I"⟩
abbrev cX9_least : ByteArray := prog_1_method_14_code
def yX9_least : MethodName := ⟨RX9, "least", "()I"⟩
abbrev cX9_hold : ByteArray := prog_1_method_15_code
def yX9_hold : MethodName := ⟨RX9, "hold", "()I"⟩
abbrev cX9_later : ByteArray := prog_1_method_16_code
def yX9_later : MethodName := ⟨RX9, "later", "(II)I"⟩
abbrev cX9_doubts : ByteArray := prog_1_method_17_code
def yX9_doubts : MethodName := ⟨RX9, "doubts", "(I)I"⟩
abbrev cX9_see : ByteArray := prog_1_method_18_code
def yX9_see : MethodName := ⟨RX9, "see", "()I"⟩
abbrev cX9_fits : ByteArray := prog_1_method_19_code
def yX9_fits : MethodName := ⟨RX9, "fits", "(I)I"⟩
abbrev cX9_watched : ByteArray := prog_1_method_20_code
def yX9_watched : MethodName := ⟨RX9, "watched", "(I)I"⟩
abbrev cX9_rule : ByteArray := prog_1_method_21_code
def yX9_rule : MethodName := ⟨RX9, "rule", "(I)Z"⟩
abbrev cX9_green : ByteArray := prog_1_method_22_code
def yX9_green : MethodName := ⟨RX9, "green", "(I)Z"⟩
abbrev cX9_trust : ByteArray := prog_1_method_23_code
def yX9_trust : MethodName := ⟨RX9, "trust", "(II)Z"⟩
abbrev cX9_days : ByteArray := prog_1_method_24_code
def yX9_days : MethodName := ⟨RX9, "days", "(I)I"⟩
abbrev cX9_chance : ByteArray := prog_1_method_25_code
def yX9_chance : MethodName := ⟨RX9, "chance", "(I)I"⟩
abbrev cX9_undo : ByteArray := prog_1_method_26_code
def yX9_undo : MethodName := ⟨RX9, "undo", "()Z"⟩
abbrev cX9_seed : ByteArray := prog_1_method_27_code
def yX9_seed : MethodName := ⟨RX9, "seed", "(I)Z"⟩
abbrev cX9_ask : ByteArray := prog_1_method_28_code
def yX9_ask : MethodName := ⟨RX9, "ask", "()J"⟩
abbrev cX9_image : ByteArray := prog_1_method_29_code
def yX9_image : MethodName := ⟨RX9, "image", "()I"⟩
abbrev cX9_octet : ByteArray := prog_1_method_30_code
def yX9_octet : MethodName := ⟨RX9, "octet", "(I)I"⟩
abbrev cX9_on : ByteArray := prog_1_method_31_code
def yX9_on : MethodName := ⟨RX9, "on", "()Z"⟩
abbrev cX9_status : ByteArray := prog_1_method_32_code
def yX9_status : MethodName := ⟨RX9, "status", "(I)I"⟩
abbrev cX9_bit : ByteArray := prog_1_method_33_code
def yX9_bit : MethodName := ⟨RX9, "bit", "(II)I"⟩
abbrev cX9_check : ByteArray := prog_1_method_34_code
def yX9_check : MethodName := ⟨RX9, "check", "([II)I"⟩
abbrev cX9_refuse : ByteArray := prog_1_method_35_code
def yX9_refuse : MethodName := ⟨RX9, "refuse", "(I)I"⟩
abbrev cX9_deny : ByteArray := prog_1_method_36_code
def yX9_deny : MethodName := ⟨RX9, "deny", "(I)Z"⟩
abbrev cX9_stands : ByteArray := prog_1_method_37_code
def yX9_stands : MethodName := ⟨RX9, "stands", "()Z"⟩
abbrev cX9_isKind : ByteArray := prog_1_method_38_code
def yX9_isKind : MethodName := ⟨RX9, "isKind", "(I)Z"⟩
abbrev cX9_isWalker : ByteArray := prog_1_method_39_code
def yX9_isWalker : MethodName := ⟨RX9, "isWalker", "(I)Z"⟩
abbrev cX9_canLive : ByteArray := prog_1_method_40_code
def yX9_canLive : MethodName := ⟨RX9, "canLive", "(I)Z"⟩
abbrev cX9_putBytes : ByteArray := prog_1_method_41_code
def yX9_putBytes : MethodName := ⟨RX9, "putBytes", "(I)V"⟩
abbrev cX9_takeTape : ByteArray := prog_1_method_42_code
def yX9_takeTape : MethodName := ⟨RX9, "takeTape", "()I"⟩
abbrev cX9_act : ByteArray := prog_1_method_43_code
def yX9_act : MethodName := ⟨RX9, "act", "()V"⟩
abbrev cX9_changed : ByteArray := prog_1_method_44_code
def yX9_changed : MethodName := ⟨RX9, "changed", "()V"⟩
abbrev cX9_drawAbsent : ByteArray := prog_1_method_45_code
def yX9_drawAbsent : MethodName := ⟨RX9, "drawAbsent", "()I"⟩
abbrev cX9_isImage : ByteArray := prog_1_method_46_code
def yX9_isImage : MethodName := ⟨RX9, "isImage", "(I)Z"⟩
abbrev cX9_layToday : ByteArray := prog_1_method_47_code
def yX9_layToday : MethodName := ⟨RX9, "layToday", "()V"⟩
abbrev cX9_answer : ByteArray := prog_1_method_48_code
def yX9_answer : MethodName := ⟨RX9, "answer", "(I)J"⟩
def RX10 : String := "PressAndWaitModel"
def TX10 : u_T := fun k => match k with
  | 0 => ("PressAndWaitModel", "tape", "[I", true)
  | 1 => ("PressAndWaitModel", "taped", "I", false)
  | 2 => ("PressAndWaitModel", "at", "I", false)
  | 3 => ("PressAndWaitModel", "end", "I", false)
  | 4 => ("PressAndWaitModel", "ended", "I", false)
  | 5 => ("PressAndWaitModel", "bad", "I", false)
  | 6 => ("PressAndWaitModel", "badPlace", "I", false)
  | 7 => ("PressAndWaitModel", "fault", "I", false)
  | 8 => ("PressAndWaitModel", "faultPlace", "I", false)
  | 9 => ("PressAndWaitModel", "refused", "[I", true)
  | 10 => ("PressAndWaitModel", "cycleWord", "[C", true)
  | 11 => ("PressAndWaitModel", "greenWord", "[C", true)
  | 12 => ("PressAndWaitModel", "ruleWord", "[C", true)
  | 13 => ("PressAndWaitModel", "leastWord", "[C", true)
  | 14 => ("PressAndWaitModel", "kindWord", "[C", true)
  | 15 => ("PressAndWaitModel", "calmWord", "[C", true)
  | 16 => ("PressAndWaitModel", "paceWord", "[C", true)
  | 17 => ("PressAndWaitModel", "trustsWord", "[C", true)
  | 18 => ("PressAndWaitModel", "comesWord", "[C", true)
  | 19 => ("PressAndWaitModel", "isWord", "[C", true)
  | 20 => ("PressAndWaitModel", "atWord", "[C", true)
  | 21 => ("PressAndWaitModel", "carWord", "[C", true)
  | 22 => ("PressAndWaitModel", "redWord", "[C", true)
  | 23 => ("PressAndWaitModel", "learnsWord", "[C", true)
  | 24 => ("PressAndWaitModel", "awayWord", "[C", true)
  | 25 => ("PressAndWaitModel", "secondWord", "[C", true)
  | 26 => ("PressAndWaitModel", "dayWord", "[C", true)
  | 27 => ("PressAndWaitModel", "phaseWord", "[C", true)
  | 28 => ("PressAndWaitModel", "waitedWord", "[C", true)
  | 29 => ("PressAndWaitModel", "gapWord", "[C", true)
  | 30 => ("PressAndWaitModel", "redsWord", "[C", true)
  | 31 => ("PressAndWaitModel", "numberWord", "[C", true)
  | 32 => ("PressAndWaitModel", "wentWord", "[C", true)
  | 33 => ("PressAndWaitModel", "harmWord", "[C", true)
  | 34 => ("PressAndWaitModel", "orWord", "[C", true)
  | 35 => ("PressAndWaitModel", "andWord", "[C", true)
  | 36 => ("PressAndWaitModel", "notWord", "[C", true)
  | 37 => ("PressAndWaitModel", "allWord", "[C", true)
  | 38 => ("PressAndWaitModel", "minWord", "[C", true)
  | 39 => ("PressAndWaitModel", "maxWord", "[C", true)
  | 40 => ("PressAndWaitModel", "namePlace", "I", false)
  | 41 => ("PressAndWaitModel", "many", "[I", true)
  | 42 => ("PressAndWaitModel", "names", "[J", true)
  | 43 => ("PressAndWaitModel", "bar", "[I", true)
  | 44 => ("PressAndWaitModel", "kinds", "[I", true)
  | 45 => ("PressAndWaitModel", "trusted", "[I", true)
  | 46 => ("PressAndWaitModel", "walkers", "[I", true)
  | 47 => ("PressAndWaitModel", "awayTold", "I", false)
  | 48 => ("PressAndWaitModel", "away", "I", false)
  | 49 => ("PressAndWaitModel", "codeFrom", "[I", true)
  | 50 => ("PressAndWaitModel", "codeEnd", "[I", true)
  | 51 => ("PressAndWaitModel", "codes", "[I", true)
  | 52 => ("PressAndWaitModel", "coded", "I", false)
  | 53 => ("PressAndWaitModel", "statements", "I", false)
  | 54 => ("PressAndWaitModel", "isCrossing", "Z", false)
  | 55 => ("PressAndWaitModel", "textKind", "I", false)
  | 56 => ("PressAndWaitModel", "now", "[I", true)
  | 57 => ("PressAndWaitModel", "aside", "[I", true)
  | 58 => ("PressAndWaitModel", "askSecond", "I", false)
  | 59 => ("PressAndWaitModel", "redMany", "I", false)
  | 60 => ("PressAndWaitModel", "isCar", "[Z", true)
  | 61 => ("PressAndWaitModel", "gaps", "[I", true)
  | 62 => ("PressAndWaitModel", "isGreen", "[Z", true)
  | 63 => ("PressAndWaitModel", "isHere", "[Z", true)
  | 64 => ("PressAndWaitModel", "crosses", "[I", true)
  | 65 => ("PressAndWaitModel", "waits", "[I", true)
  | 66 => ("PressAndWaitModel", "goes", "[Z", true)
  | 67 => ("PressAndWaitModel", "harms", "[Z", true)
  | 68 => ("PressAndWaitModel", "presses", "[Z", true)
  | 69 => ("PressAndWaitModel", "crossedIn", "[Z", true)
  | 70 => ("PressAndWaitModel", "isOpen", "Z", false)
  | 71 => ("PressAndWaitModel", "lastGreen", "I", false)
  | 72 => ("PressAndWaitModel", "greenTo", "I", false)
  | 73 => ("PressAndWaitModel", "isCycleGreen", "Z", false)
  | 74 => ("PressAndWaitModel", "stillGreen", "I", false)
  | 75 => ("PressAndWaitModel", "rowMany", "I", false)
  | 76 => ("PressAndWaitModel", "rows", "[I", true)
  | 77 => ("PressAndWaitModel", "when", "[I", true)
  | 78 => ("PressAndWaitModel", "fitMany", "I", false)
  | 79 => ("PressAndWaitModel", "fitRules", "I", false)
  | 80 => ("PressAndWaitModel", "fitGreen", "I", false)
  | 81 => ("PressAndWaitModel", "kept0", "[I", true)
  | 82 => ("PressAndWaitModel", "undoable", "I", false)
  | 83 => ("PressAndWaitModel", "newest", "I", false)
  | 84 => ("PressAndWaitModel", "seeded", "J", false)
  | 85 => ("PressAndWaitModel", "firstAsked", "[C", true)
  | 86 => ("PressAndWaitModel", "lastAsked", "[C", true)
  | 87 => ("PressAndWaitModel", "oftenAsked", "[C", true)
  | 88 => ("PressAndWaitModel", "totalAsked", "[C", true)
  | 89 => ("PressAndWaitModel", "mostAsked", "[C", true)
  | 90 => ("PressAndWaitModel", "leastAsked", "[C", true)
  | 91 => ("PressAndWaitModel", "notAsked", "[C", true)
  | 92 => ("PressAndWaitModel", "andAsked", "[C", true)
  | 93 => ("PressAndWaitModel", "orAsked", "[C", true)
  | 94 => ("PressAndWaitModel", "allAsked", "[C", true)
  | 95 => ("PressAndWaitModel", "minAsked", "[C", true)
  | 96 => ("PressAndWaitModel", "maxAsked", "[C", true)
  | 97 => ("PressAndWaitModel", "secondAsked", "[C", true)
  | 98 => ("PressAndWaitModel", "dayAsked", "[C", true)
  | 99 => ("PressAndWaitModel", "phaseAsked", "[C", true)
  | 100 => ("PressAndWaitModel", "waitedAsked", "[C", true)
  | 101 => ("PressAndWaitModel", "calmAsked", "[C", true)
  | 102 => ("PressAndWaitModel", "paceAsked", "[C", true)
  | 103 => ("PressAndWaitModel", "trustsAsked", "[C", true)
  | 104 => ("PressAndWaitModel", "gapAsked", "[C", true)
  | 105 => ("PressAndWaitModel", "redsAsked", "[C", true)
  | 106 => ("PressAndWaitModel", "numberAsked", "[C", true)
  | 107 => ("PressAndWaitModel", "wentAsked", "[C", true)
  | 108 => ("PressAndWaitModel", "harmAsked", "[C", true)
  | 109 => ("PressAndWaitModel", "kindofAsked", "[C", true)
  | 110 => ("PressAndWaitModel", "qCodes", "[I", true)
  | 111 => ("PressAndWaitModel", "qCoded", "I", false)
  | 112 => ("PressAndWaitModel", "qWait", "[I", true)
  | 113 => ("PressAndWaitModel", "qWaits", "I", false)
  | 114 => ("PressAndWaitModel", "qOpened", "I", false)
  | 115 => ("PressAndWaitModel", "qBase", "I", false)
  | 116 => ("PressAndWaitModel", "qPile", "[J", true)
  | 117 => ("PressAndWaitModel", "qPiled", "I", false)
  | 118 => ("PressAndWaitModel", "qAnswer", "J", false)
  | 119 => ("PressAndWaitModel", "qIsNew", "Z", false)
  | 120 => ("PressAndWaitModel", "octet", "[I", true)
  | _ => ("PressAndWaitModel", "octets", "I", false)
def tyX10 : Nat → FieldType := fun k => match k with
  | 0 => .array .int
  | 1 => .int
  | 2 => .int
  | 3 => .int
  | 4 => .int
  | 5 => .int
  | 6 => .int
  | 7 => .int
  | 8 => .int
  | 9 => .array .int
  | 10 => .array .char
  | 11 => .array .char
  | 12 => .array .char
  | 13 => .array .char
  | 14 => .array .char
  | 15 => .array .char
  | 16 => .array .char
  | 17 => .array .char
  | 18 => .array .char
  | 19 => .array .char
  | 20 => .array .char
  | 21 => .array .char
  | 22 => .array .char
  | 23 => .array .char
  | 24 => .array .char
  | 25 => .array .char
  | 26 => .array .char
  | 27 => .array .char
  | 28 => .array .char
  | 29 => .array .char
  | 30 => .array .char
  | 31 => .array .char
  | 32 => .array .char
  | 33 => .array .char
  | 34 => .array .char
  | 35 => .array .char
  | 36 => .array .char
  | 37 => .array .char
  | 38 => .array .char
  | 39 => .array .char
  | 40 => .int
  | 41 => .array .int
  | 42 => .array .long
  | 43 => .array .int
  | 44 => .array .int
  | 45 => .array .int
  | 46 => .array .int
  | 47 => .int
  | 48 => .int
  | 49 => .array .int
  | 50 => .array .int
  | 51 => .array .int
  | 52 => .int
  | 53 => .int
  | 54 => .boolean
  | 55 => .int
  | 56 => .array .int
  | 57 => .array .int
  | 58 => .int
  | 59 => .int
  | 60 => .array .boolean
  | 61 => .array .int
  | 62 => .array .boolean
  | 63 => .array .boolean
  | 64 => .array .int
  | 65 => .array .int
  | 66 => .array .boolean
  | 67 => .array .boolean
  | 68 => .array .boolean
  | 69 => .array .boolean
  | 70 => .boolean
  | 71 => .int
  | 72 => .int
  | 73 => .boolean
  | 74 => .int
  | 75 => .int
  | 76 => .array .int
  | 77 => .array .int
  | 78 => .int
  | 79 => .int
  | 80 => .int
  | 81 => .array .int
  | 82 => .int
  | 83 => .int
  | 84 => .long
  | 85 => .array .char
  | 86 => .array .char
  | 87 => .array .char
  | 88 => .array .char
  | 89 => .array .char
  | 90 => .array .char
  | 91 => .array .char
  | 92 => .array .char
  | 93 => .array .char
  | 94 => .array .char
  | 95 => .array .char
  | 96 => .array .char
  | 97 => .array .char
  | 98 => .array .char
  | 99 => .array .char
  | 100 => .array .char
  | 101 => .array .char
  | 102 => .array .char
  | 103 => .array .char
  | 104 => .array .char
  | 105 => .array .char
  | 106 => .array .char
  | 107 => .array .char
  | 108 => .array .char
  | 109 => .array .char
  | 110 => .array .int
  | 111 => .int
  | 112 => .array .int
  | 113 => .int
  | 114 => .int
  | 115 => .int
  | 116 => .array .long
  | 117 => .int
  | 118 => .long
  | 119 => .boolean
  | 120 => .array .int
  | _ => .int
abbrev wsX100 : List Cond := u_ws RX10 TX10 122
theorem nmX10 : ∀ a, a < 122 → ∀ b, b < 122 → a ≠ b → (TX10 a).2.1 ≠ (TX10 b).2.1 := by decide +kernel
theorem tyX10_ok : ∀ k, k < 122 → parseFieldDescriptor (TX10 k).2.2.1 = some (tyX10 k) := by decide +kernel
abbrev cX10_init : ByteArray := prog_12_method_1_code
def yX10_init : MethodName := ⟨RX10, "<init>", "()V"⟩
abbrev cX10_isIn : ByteArray := prog_12_method_2_code
def yX10_isIn : MethodName := ⟨RX10, "isIn", "(JJJ)Z"⟩
abbrev cX10_feed : ByteArray := prog_12_method_3_code
def yX10_feed : MethodName := ⟨RX10, "feed", "(IIIII)I"⟩
abbrev cX10_end : ByteArray := prog_12_method_4_code
def yX10_end : MethodName := ⟨RX10, "end", "(I)Z"⟩
abbrev cX10_fail : ByteArray := prog_12_method_5_code
def yX10_fail : MethodName := ⟨RX10, "fail", "(II)V"⟩
abbrev cX10_isLetter : ByteArray := prog_12_method_6_code
def yX10_isLetter : MethodName := ⟨RX10, "isLetter", "(I)Z"⟩
abbrev cX10_isDigit : ByteArray := prog_12_method_7_code
def yX10_isDigit : MethodName := ⟨RX10, "isDigit", "(I)Z"⟩
abbrev cX10_look : ByteArray := prog_12_method_8_code
def yX10_look : MethodName := ⟨RX10, "look", "()I"⟩
abbrev cX10_isHere : ByteArray := prog_12_method_9_code
def yX10_isHere : MethodName := ⟨RX10, "isHere", "([C)Z"⟩
abbrev cX10_takes : ByteArray := prog_12_method_10_code
def yX10_takes : MethodName := ⟨RX10, "takes", "([C)Z"⟩
abbrev cX10_asks : ByteArray := prog_12_method_11_code
def yX10_asks : MethodName := ⟨RX10, "asks", "([C)V"⟩
abbrev cX10_takesSign : ByteArray := prog_12_method_12_code
def yX10_takesSign : MethodName := ⟨RX10, "takesSign", "(I)Z"⟩
abbrev cX10_asksSign : ByteArray := prog_12_method_13_code
def yX10_asksSign : MethodName := ⟨RX10, "asksSign", "(I)V"⟩
abbrev cX10_number : ByteArray := prog_12_method_14_code
def yX10_number : MethodName := ⟨RX10, "number", "(II)I"⟩
abbrev cX10_isOwnHere : ByteArray := prog_12_method_15_code
def yX10_isOwnHere : MethodName := ⟨RX10, "isOwnHere", "()Z"⟩
abbrev cX10_name : ByteArray := prog_12_method_16_code
def yX10_name : MethodName := ⟨RX10, "name", "()J"⟩
abbrev cX10_isAllowed : ByteArray := prog_12_method_17_code
def yX10_isAllowed : MethodName := ⟨RX10, "isAllowed", "(I)Z"⟩
abbrev cX10_isFull : ByteArray := prog_12_method_18_code
def yX10_isFull : MethodName := ⟨RX10, "isFull", "(III)Z"⟩
abbrev cX10_nameOf : ByteArray := prog_12_method_19_code
def yX10_nameOf : MethodName := ⟨RX10, "nameOf", "(IJ)I"⟩
abbrev cX10_newName : ByteArray := prog_12_method_20_code
def yX10_newName : MethodName := ⟨RX10, "newName", "()J"⟩
abbrev cX10_barTold : ByteArray := prog_12_method_21_code
def yX10_barTold : MethodName := ⟨RX10, "barTold", "()V"⟩
abbrev cX10_kindTold : ByteArray := prog_12_method_22_code
def yX10_kindTold : MethodName := ⟨RX10, "kindTold", "(I)V"⟩
abbrev cX10_walkerTold : ByteArray := prog_12_method_23_code
def yX10_walkerTold : MethodName := ⟨RX10, "walkerTold", "(I)V"⟩
abbrev cX10_codesTold : ByteArray := prog_12_method_24_code
def yX10_codesTold : MethodName := ⟨RX10, "codesTold", "(II)V"⟩
abbrev cX10_statementTold : ByteArray := prog_12_method_25_code
def yX10_statementTold : MethodName := ⟨RX10, "statementTold", "()V"⟩
abbrev cX10_crossing : ByteArray := prog_12_method_26_code
def yX10_crossing : MethodName := ⟨RX10, "crossing", "()I"⟩
abbrev cX10_stands : ByteArray := prog_12_method_27_code
def yX10_stands : MethodName := ⟨RX10, "stands", "()V"⟩
abbrev cX10_fault : ByteArray := prog_12_method_28_code
def yX10_fault : MethodName := ⟨RX10, "fault", "(I)I"⟩
abbrev cX10_kindMany : ByteArray := prog_12_method_29_code
def yX10_kindMany : MethodName := ⟨RX10, "kindMany", "()I"⟩
abbrev cX10_walkerMany : ByteArray := prog_12_method_30_code
def yX10_walkerMany : MethodName := ⟨RX10, "walkerMany", "()I"⟩
abbrev cX10_isKind : ByteArray := prog_12_method_31_code
def yX10_isKind : MethodName := ⟨RX10, "isKind", "(I)Z"⟩
abbrev cX10_isWalker : ByteArray := prog_12_method_32_code
def yX10_isWalker : MethodName := ⟨RX10, "isWalker", "(I)Z"⟩
abbrev cX10_kindOf : ByteArray := prog_12_method_33_code
def yX10_kindOf : MethodName := ⟨RX10, "kindOf", "(I)I"⟩
abbrev cX10_secondOf : ByteArray := prog_12_method_34_code
def yX10_secondOf : MethodName := ⟨RX10, "secondOf", "(I)I"⟩
abbrev cX10_paceOf : ByteArray := prog_12_method_35_code
def yX10_paceOf : MethodName := ⟨RX10, "paceOf", "(I)I"⟩
abbrev cX10_trustsOf : ByteArray := prog_12_method_36_code
def yX10_trustsOf : MethodName := ⟨RX10, "trustsOf", "(I)I"⟩
abbrev cX10_codesTell : ByteArray := prog_12_method_37_code
def yX10_codesTell : MethodName := ⟨RX10, "codesTell", "(II)J"⟩
abbrev cX10_laysCars : ByteArray := prog_12_method_38_code
def yX10_laysCars : MethodName := ⟨RX10, "laysCars", "()V"⟩
abbrev cX10_arrive : ByteArray := prog_12_method_39_code
def yX10_arrive : MethodName := ⟨RX10, "arrive", "(II)V"⟩
abbrev cX10_isLit : ByteArray := prog_12_method_40_code
def yX10_isLit : MethodName := ⟨RX10, "isLit", "(III)Z"⟩
abbrev cX10_isHarmed : ByteArray := prog_12_method_41_code
def yX10_isHarmed : MethodName := ⟨RX10, "isHarmed", "(II)Z"⟩
abbrev cX10_acts : ByteArray := prog_12_method_42_code
def yX10_acts : MethodName := ⟨RX10, "acts", "(III)V"⟩
abbrev cX10_dayBy : ByteArray := prog_12_method_43_code
def yX10_dayBy : MethodName := ⟨RX10, "dayBy", "(IIII)V"⟩
abbrev cX10_dayNow : ByteArray := prog_12_method_44_code
def yX10_dayNow : MethodName := ⟨RX10, "dayNow", "()V"⟩
abbrev cX10_waitedAll : ByteArray := prog_12_method_45_code
def yX10_waitedAll : MethodName := ⟨RX10, "waitedAll", "()I"⟩
abbrev cX10_counted : ByteArray := prog_12_method_46_code
def yX10_counted : MethodName := ⟨RX10, "counted", "([ZI)I"⟩
abbrev cX10_notCrossed : ByteArray := prog_12_method_47_code
def yX10_notCrossed : MethodName := ⟨RX10, "notCrossed", "()I"⟩
abbrev cX10_forNobody : ByteArray := prog_12_method_48_code
def yX10_forNobody : MethodName := ⟨RX10, "forNobody", "()I"⟩
abbrev cX10_toldOfDay : ByteArray := prog_12_method_49_code
def yX10_toldOfDay : MethodName := ⟨RX10, "toldOfDay", "(I)I"⟩
abbrev cX10_learn : ByteArray := prog_12_method_50_code
def yX10_learn : MethodName := ⟨RX10, "learn", "(I)V"⟩
abbrev cX10_dayGoes : ByteArray := prog_12_method_51_code
def yX10_dayGoes : MethodName := ⟨RX10, "dayGoes", "(I)I"⟩
abbrev cX10_putsAside : ByteArray := prog_12_method_52_code
def yX10_putsAside : MethodName := ⟨RX10, "putsAside", "()V"⟩
abbrev cX10_takesBack : ByteArray := prog_12_method_53_code
def yX10_takesBack : MethodName := ⟨RX10, "takesBack", "()V"⟩
abbrev cX10_isAhead : ByteArray := prog_12_method_54_code
def yX10_isAhead : MethodName := ⟨RX10, "isAhead", "(III)Z"⟩
abbrev cX10_isGreenLong : ByteArray := prog_12_method_55_code
def yX10_isGreenLong : MethodName := ⟨RX10, "isGreenLong", "(II)Z"⟩
abbrev cX10_has : ByteArray := prog_12_method_56_code
def yX10_has : MethodName := ⟨RX10, "has", "(I)I"⟩
abbrev cX10_letter : ByteArray := prog_12_method_57_code
def yX10_letter : MethodName := ⟨RX10, "letter", "(III)I"⟩
abbrev cX10_kind : ByteArray := prog_12_method_58_code
def yX10_kind : MethodName := ⟨RX10, "kind", "(II)I"⟩
abbrev cX10_walker : ByteArray := prog_12_method_59_code
def yX10_walker : MethodName := ⟨RX10, "walker", "(II)I"⟩
abbrev cX10_light : ByteArray := prog_12_method_60_code
def yX10_light : MethodName := ⟨RX10, "light", "(I)I"⟩
abbrev cX10_car : ByteArray := prog_12_method_61_code
def yX10_car : MethodName := ⟨RX10, "car", "(I)I"⟩
abbrev cX10_day : ByteArray := prog_12_method_62_code
def yX10_day : MethodName := ⟨RX10, "day", "(I)I"⟩
abbrev cX10_best : ByteArray := prog_12_method_63_code
def yX10_best : MethodName := ⟨RX10, "best", "(II)I"⟩
abbrev cX10_least : ByteArray := prog_12_method_64_code
def yX10_least : MethodName := ⟨RX10, "least", "()I"⟩
abbrev cX10_bits : ByteArray := prog_12_method_65_code
def yX10_bits : MethodName := ⟨RX10, "bits", "(I)I"⟩
abbrev cX10_hold : ByteArray := prog_12_method_66_code
def yX10_hold : MethodName := ⟨RX10, "hold", "()I"⟩
abbrev cX10_later : ByteArray := prog_12_method_67_code
def yX10_later : MethodName := ⟨RX10, "later", "(II)I"⟩
abbrev cX10_doubts : ByteArray := prog_12_method_68_code
def yX10_doubts : MethodName := ⟨RX10, "doubts", "(I)I"⟩
abbrev cX10_refuses : ByteArray := prog_12_method_69_code
def yX10_refuses : MethodName := ⟨RX10, "refuses", "(I)I"⟩
abbrev cX10_see : ByteArray := prog_12_method_70_code
def yX10_see : MethodName := ⟨RX10, "see", "()I"⟩
abbrev cX10_isAsSeen : ByteArray := prog_12_method_71_code
def yX10_isAsSeen : MethodName := ⟨RX10, "isAsSeen", "()Z"⟩
abbrev cX10_laysFits : ByteArray := prog_12_method_72_code
def yX10_laysFits : MethodName := ⟨RX10, "laysFits", "()V"⟩
abbrev cX10_fits : ByteArray := prog_12_method_73_code
def yX10_fits : MethodName := ⟨RX10, "fits", "(I)I"⟩
abbrev cX10_mostAlike : ByteArray := prog_12_method_74_code
def yX10_mostAlike : MethodName := ⟨RX10, "mostAlike", "(I)I"⟩
abbrev cX10_watched : ByteArray := prog_12_method_75_code
def yX10_watched : MethodName := ⟨RX10, "watched", "(I)I"⟩
abbrev cX10_keeps : ByteArray := prog_12_method_76_code
def yX10_keeps : MethodName := ⟨RX10, "keeps", "()V"⟩
abbrev cX10_undo : ByteArray := prog_12_method_77_code
def yX10_undo : MethodName := ⟨RX10, "undo", "()Z"⟩
abbrev cX10_isRefused : ByteArray := prog_12_method_78_code
def yX10_isRefused : MethodName := ⟨RX10, "isRefused", "()Z"⟩
abbrev cX10_rule : ByteArray := prog_12_method_79_code
def yX10_rule : MethodName := ⟨RX10, "rule", "(I)Z"⟩
abbrev cX10_green : ByteArray := prog_12_method_80_code
def yX10_green : MethodName := ⟨RX10, "green", "(I)Z"⟩
abbrev cX10_trust : ByteArray := prog_12_method_81_code
def yX10_trust : MethodName := ⟨RX10, "trust", "(II)Z"⟩
abbrev cX10_days : ByteArray := prog_12_method_82_code
def yX10_days : MethodName := ⟨RX10, "days", "(I)I"⟩
abbrev cX10_seed : ByteArray := prog_12_method_83_code
def yX10_seed : MethodName := ⟨RX10, "seed", "(I)Z"⟩
abbrev cX10_drawOf : ByteArray := prog_12_method_84_code
def yX10_drawOf : MethodName := ⟨RX10, "drawOf", "(I)I"⟩
abbrev cX10_chance : ByteArray := prog_12_method_85_code
def yX10_chance : MethodName := ⟨RX10, "chance", "(I)I"⟩
abbrev cX10_qCode : ByteArray := prog_12_method_86_code
def yX10_qCode : MethodName := ⟨RX10, "qCode", "(I)V"⟩
abbrev cX10_qOpens : ByteArray := prog_12_method_87_code
def yX10_qOpens : MethodName := ⟨RX10, "qOpens", "(II)V"⟩
abbrev cX10_qIsOn : ByteArray := prog_12_method_88_code
def yX10_qIsOn : MethodName := ⟨RX10, "qIsOn", "(I)Z"⟩
abbrev cX10_qDrops : ByteArray := prog_12_method_89_code
def yX10_qDrops : MethodName := ⟨RX10, "qDrops", "()V"⟩
abbrev cX10_qIsBracket : ByteArray := prog_12_method_90_code
def yX10_qIsBracket : MethodName := ⟨RX10, "qIsBracket", "(I)Z"⟩
abbrev cX10_qBracket : ByteArray := prog_12_method_91_code
def yX10_qBracket : MethodName := ⟨RX10, "qBracket", "()I"⟩
abbrev cX10_qDropsToBracket : ByteArray := prog_12_method_92_code
def yX10_qDropsToBracket : MethodName := ⟨RX10, "qDropsToBracket", "()V"⟩
abbrev cX10_qWordHere : ByteArray := prog_12_method_93_code
def yX10_qWordHere : MethodName := ⟨RX10, "qWordHere", "()I"⟩
abbrev cX10_qWordOf : ByteArray := prog_12_method_94_code
def yX10_qWordOf : MethodName := ⟨RX10, "qWordOf", "(II)I"⟩
abbrev cX10_qAsksWord : ByteArray := prog_12_method_95_code
def yX10_qAsksWord : MethodName := ⟨RX10, "qAsksWord", "(I)V"⟩
abbrev cX10_qEndsPart : ByteArray := prog_12_method_96_code
def yX10_qEndsPart : MethodName := ⟨RX10, "qEndsPart", "()V"⟩
abbrev cX10_qPartTold : ByteArray := prog_12_method_97_code
def yX10_qPartTold : MethodName := ⟨RX10, "qPartTold", "()V"⟩
abbrev cX10_qGoesOn : ByteArray := prog_12_method_98_code
def yX10_qGoesOn : MethodName := ⟨RX10, "qGoesOn", "()Z"⟩
abbrev cX10_qSums : ByteArray := prog_12_method_99_code
def yX10_qSums : MethodName := ⟨RX10, "qSums", "()V"⟩
abbrev cX10_qFact : ByteArray := prog_12_method_100_code
def yX10_qFact : MethodName := ⟨RX10, "qFact", "()V"⟩
abbrev cX10_qHasSquare : ByteArray := prog_12_method_101_code
def yX10_qHasSquare : MethodName := ⟨RX10, "qHasSquare", "()Z"⟩
abbrev cX10_qDropsNots : ByteArray := prog_12_method_102_code
def yX10_qDropsNots : MethodName := ⟨RX10, "qDropsNots", "()V"⟩
abbrev cX10_qTest : ByteArray := prog_12_method_103_code
def yX10_qTest : MethodName := ⟨RX10, "qTest", "()V"⟩
abbrev cX10_qGoesOnTest : ByteArray := prog_12_method_104_code
def yX10_qGoesOnTest : MethodName := ⟨RX10, "qGoesOnTest", "()Z"⟩
abbrev cX10_qClip : ByteArray := prog_12_method_105_code
def yX10_qClip : MethodName := ⟨RX10, "qClip", "(J)J"⟩
abbrev cX10_qFloor : ByteArray := prog_12_method_106_code
def yX10_qFloor : MethodName := ⟨RX10, "qFloor", "(JJ)J"⟩
abbrev cX10_qPuts : ByteArray := prog_12_method_107_code
def yX10_qPuts : MethodName := ⟨RX10, "qPuts", "(J)V"⟩
abbrev cX10_qJoins : ByteArray := prog_12_method_108_code
def yX10_qJoins : MethodName := ⟨RX10, "qJoins", "(I)V"⟩
abbrev cX10_qPartOf : ByteArray := prog_12_method_109_code
def yX10_qPartOf : MethodName := ⟨RX10, "qPartOf", "(II)J"⟩
abbrev cX10_qOf : ByteArray := prog_12_method_110_code
def yX10_qOf : MethodName := ⟨RX10, "qOf", "(IJI)J"⟩
abbrev cX10_qTold : ByteArray := prog_12_method_111_code
def yX10_qTold : MethodName := ⟨RX10, "qTold", "(I)J"⟩
abbrev cX10_qKind : ByteArray := prog_12_method_112_code
def yX10_qKind : MethodName := ⟨RX10, "qKind", "()I"⟩
abbrev cX10_qTakes : ByteArray := prog_12_method_113_code
def yX10_qTakes : MethodName := ⟨RX10, "qTakes", "(IJI)V"⟩
abbrev cX10_ask : ByteArray := prog_12_method_114_code
def yX10_ask : MethodName := ⟨RX10, "ask", "()J"⟩
abbrev cX10_checked : ByteArray := prog_12_method_115_code
def yX10_checked : MethodName := ⟨RX10, "checked", "([II)I"⟩
abbrev cX10_writes : ByteArray := prog_12_method_116_code
def yX10_writes : MethodName := ⟨RX10, "writes", "(I)V"⟩
abbrev cX10_image : ByteArray := prog_12_method_117_code
def yX10_image : MethodName := ⟨RX10, "image", "()I"⟩
abbrev cX10_octet : ByteArray := prog_12_method_118_code
def yX10_octet : MethodName := ⟨RX10, "octet", "(I)I"⟩
abbrev cX10_isImage : ByteArray := prog_12_method_119_code
def yX10_isImage : MethodName := ⟨RX10, "isImage", "(I)Z"⟩
abbrev cX10_on : ByteArray := prog_12_method_120_code
def yX10_on : MethodName := ⟨RX10, "on", "()Z"⟩
abbrev cX10_status : ByteArray := prog_12_method_121_code
def yX10_status : MethodName := ⟨RX10, "status", "(I)I"⟩
def RJx145de : String := "java/io/Serializable"
def TJx145de : u_T := fun k => match k with
  | _ => ("", "", "", false)
def tyJx145de : Nat → FieldType := fun k => match k with
  | _ => .int
abbrev wsJx145de0 : List Cond := u_ws RJx145de TJx145de 0
def RJx9f9b0 : String := "java/lang/CharSequence"
def TJx9f9b0 : u_T := fun k => match k with
  | _ => ("", "", "", false)
def tyJx9f9b0 : Nat → FieldType := fun k => match k with
  | _ => .int
abbrev wsJx9f9b00 : List Cond := u_ws RJx9f9b0 TJx9f9b0 0
def RJxb160c : String := "java/lang/Comparable"
def TJxb160c : u_T := fun k => match k with
  | _ => ("", "", "", false)
def tyJxb160c : Nat → FieldType := fun k => match k with
  | _ => .int
abbrev wsJxb160c0 : List Cond := u_ws RJxb160c TJxb160c 0
def RJ6 : String := "java/lang/Integer"
def TJ6 : u_T := fun k => match k with
  | _ => ("", "", "", false)
def tyJ6 : Nat → FieldType := fun k => match k with
  | _ => .int
abbrev wsJ60 : List Cond := u_ws RJ6 TJ6 0
abbrev cJ6_bitCount_0f7a4 : ByteArray := prog_13_method_49_code
def yJ6_bitCount_0f7a4 : MethodName := ⟨RJ6, "bitCount", "(I)I"⟩
def RJ9 : String := "java/lang/Math"
def TJ9 : u_T := fun k => match k with
  | _ => ("", "", "", false)
def tyJ9 : Nat → FieldType := fun k => match k with
  | _ => .int
abbrev wsJ90 : List Cond := u_ws RJ9 TJ9 0
abbrev cJ9_floorDiv_7cf53 : ByteArray := prog_14_method_47_code
def yJ9_floorDiv_7cf53 : MethodName := ⟨RJ9, "floorDiv", "(II)I"⟩
abbrev cJ9_max_7cf53 : ByteArray := prog_14_method_65_code
def yJ9_max_7cf53 : MethodName := ⟨RJ9, "max", "(II)I"⟩
abbrev cJ9_min_7cf53 : ByteArray := prog_14_method_69_code
def yJ9_min_7cf53 : MethodName := ⟨RJ9, "min", "(II)I"⟩
def RJ0 : String := "java/lang/String"
def TJ0 : u_T := fun k => match k with
  | _ => ("", "", "", false)
def tyJ0 : Nat → FieldType := fun k => match k with
  | _ => .int
abbrev wsJ00 : List Cond := u_ws RJ0 TJ0 0
abbrev cJ0_length_8abf5 : ByteArray := prog_15_method_54_code
def yJ0_length_8abf5 : MethodName := ⟨RJ0, "length", "()I"⟩
abbrev cJ0_charAt_5068e : ByteArray := prog_15_method_56_code
def yJ0_charAt_5068e : MethodName := ⟨RJ0, "charAt", "(I)C"⟩
abbrev cJ0_coder_7d493 : ByteArray := prog_15_method_152_code
def yJ0_coder_7d493 : MethodName := ⟨RJ0, "coder", "()B"⟩
abbrev cJ0_isLatin1_aae02 : ByteArray := prog_15_method_154_code
def yJ0_isLatin1_aae02 : MethodName := ⟨RJ0, "isLatin1", "()Z"⟩
abbrev cJ0_checkIndex_df160 : ByteArray := prog_15_method_155_code
def yJ0_checkIndex_df160 : MethodName := ⟨RJ0, "checkIndex", "(II)V"⟩
def RJ1 : String := "java/lang/StringLatin1"
def TJ1 : u_T := fun k => match k with
  | _ => ("", "", "", false)
def tyJ1 : Nat → FieldType := fun k => match k with
  | _ => .int
abbrev wsJ10 : List Cond := u_ws RJ1 TJ1 0
abbrev cJ1_charAt_3b067 : ByteArray := prog_16_method_2_code
def yJ1_charAt_3b067 : MethodName := ⟨RJ1, "charAt", "([BI)C"⟩
def RJ2 : String := "java/lang/StringUTF16"
def TJ2 : u_T := fun k => match k with
  | _ => ("", "", "", false)
def tyJ2 : Nat → FieldType := fun k => match k with
  | _ => .int
abbrev wsJ20 : List Cond := u_ws RJ2 TJ2 0
abbrev cJ2_getChar_3b067 : ByteArray := prog_17_method_5_code
def yJ2_getChar_3b067 : MethodName := ⟨RJ2, "getChar", "([BI)C"⟩
abbrev cJ2_length_9d52b : ByteArray := prog_17_method_6_code
def yJ2_length_9d52b : MethodName := ⟨RJ2, "length", "([B)I"⟩
abbrev cJ2_charAt_3b067 : ByteArray := prog_17_method_83_code
def yJ2_charAt_3b067 : MethodName := ⟨RJ2, "charAt", "([BI)C"⟩
abbrev cJ2_checkIndex_2214a : ByteArray := prog_17_method_91_code
def yJ2_checkIndex_2214a : MethodName := ⟨RJ2, "checkIndex", "(I[B)V"⟩
def RJ10 : String := "java/lang/System"
def TJ10 : u_T := fun k => match k with
  | _ => ("", "", "", false)
def tyJ10 : Nat → FieldType := fun k => match k with
  | _ => .int
abbrev wsJ100 : List Cond := u_ws RJ10 TJ10 0
def RJxfd54e : String := "java/lang/constant/Constable"
def TJxfd54e : u_T := fun k => match k with
  | _ => ("", "", "", false)
def tyJxfd54e : Nat → FieldType := fun k => match k with
  | _ => .int
abbrev wsJxfd54e0 : List Cond := u_ws RJxfd54e TJxfd54e 0
def RJx3cf43 : String := "java/lang/constant/ConstantDesc"
def TJx3cf43 : u_T := fun k => match k with
  | _ => ("", "", "", false)
def tyJx3cf43 : Nat → FieldType := fun k => match k with
  | _ => .int
abbrev wsJx3cf430 : List Cond := u_ws RJx3cf43 TJx3cf43 0
def RJ7 : String := "java/util/Arrays"
def TJ7 : u_T := fun k => match k with
  | _ => ("", "", "", false)
def tyJ7 : Nat → FieldType := fun k => match k with
  | _ => .int
abbrev wsJ70 : List Cond := u_ws RJ7 TJ7 0
abbrev cJ7_fill_53178 : ByteArray := prog_19_method_103_code
def yJ7_fill_53178 : MethodName := ⟨RJ7, "fill", "([II)V"⟩
def RJ3 : String := "jdk/internal/util/Preconditions"
def TJ3 : u_T := fun k => match k with
  | _ => ("", "", "", false)
def tyJ3 : Nat → FieldType := fun k => match k with
  | _ => .int
abbrev wsJ30 : List Cond := u_ws RJ3 TJ3 0
abbrev cJ3_checkIndex_8e157 : ByteArray := prog_20_method_11_code
def yJ3_checkIndex_8e157 : MethodName := ⟨RJ3, "checkIndex", "(IILjava/util/function/BiFunction;)I"⟩
def RL : String := "PressAndWaitLaw"
abbrev cL_law : ByteArray := code
def yL_law : MethodName := ⟨RL, "law", "([I)Z"⟩
def wsL_law : List Cond := lw_tbl.filter goodWord
theorem wsL_law_in : ∀ w ∈ wsL_law, w ∈ lw_tbl := fun w h => (List.mem_filter.mp h).1
theorem k_places {ws : List Cond} (ps : List Nat) (hp : ws = ps.filterMap (fun i => tables_1[i]?)) (hg : ws.all goodWord = true) : ∀ w ∈ ws, w ∈ wsL_law := by
  intro w hw
  have h1 := List.all_eq_true.mp hg w hw
  rw [hp] at hw
  obtain ⟨i, -, hi⟩ := List.mem_filterMap.mp hw
  exact List.mem_filter.mpr ⟨List.mem_append_right _ (List.mem_of_getElem? hi), h1⟩
set_option maxRecDepth 20000 in
theorem inlX0 : ∀ w ∈ u_ws RX0 TX0 5, w ∈ wsL_law := k_places [325, 327, 329, 331, 333] (by decide +kernel) (by decide +kernel)
set_option maxRecDepth 20000 in
theorem inlX1 : ∀ w ∈ u_ws RX1 TX1 3, w ∈ wsL_law := k_places [303, 305, 307] (by decide +kernel) (by decide +kernel)
set_option maxRecDepth 20000 in
theorem inlX2 : ∀ w ∈ u_ws RX2 TX2 3, w ∈ wsL_law := k_places [172, 174, 176] (by decide +kernel) (by decide +kernel)
set_option maxRecDepth 20000 in
theorem inlX3 : ∀ w ∈ u_ws RX3 TX3 2, w ∈ wsL_law := k_places [188, 190] (by decide +kernel) (by decide +kernel)
set_option maxRecDepth 20000 in
theorem inlX4 : ∀ w ∈ u_ws RX4 TX4 18, w ∈ wsL_law := k_places [92, 94, 96, 98, 100, 102, 104, 106, 108, 110, 112, 114, 116, 118, 120, 122, 124, 126] (by decide +kernel) (by decide +kernel)
set_option maxRecDepth 20000 in
theorem inlX5 : ∀ w ∈ u_ws RX5 TX5 9, w ∈ wsL_law := k_places [210, 212, 214, 216, 218, 220, 222, 224, 226] (by decide +kernel) (by decide +kernel)
set_option maxRecDepth 20000 in
theorem inlX6 : ∀ w ∈ u_ws RX6 TX6 4, w ∈ wsL_law := k_places [150, 152, 154, 156] (by decide +kernel) (by decide +kernel)
set_option maxRecDepth 20000 in
theorem inlX7 : ∀ w ∈ u_ws RX7 TX7 17, w ∈ wsL_law := k_places [259, 261, 263, 265, 267, 269, 271, 273, 275, 277, 279, 281, 283, 285, 287, 289, 291] (by decide +kernel) (by decide +kernel)
set_option maxRecDepth 20000 in
theorem inlX8 : ∀ w ∈ u_ws RX8 TX8 11, w ∈ wsL_law := k_places [359, 361, 363, 365, 367, 369, 371, 373, 375, 377, 379] (by decide +kernel) (by decide +kernel)
set_option maxRecDepth 20000 in
theorem inlX9 : ∀ w ∈ u_ws RX9 TX9 16, w ∈ wsL_law := k_places [398, 400, 402, 404, 406, 408, 410, 412, 414, 416, 418, 420, 422, 424, 426, 428] (by decide +kernel) (by decide +kernel)
set_option maxRecDepth 20000 in
theorem inlX10 : ∀ w ∈ u_ws RX10 TX10 122, w ∈ wsL_law := k_places [1199, 1201, 1203, 1205, 1207, 1209, 1211, 1213, 1215, 1217, 1219, 1221, 1223, 1225, 1227, 1229, 1231, 1233, 1235, 1237, 1239, 1241, 1243, 1245, 1247, 1249, 1251, 1253, 1255, 1257, 1259, 1261, 1263, 1265, 1267, 1269, 1271, 1273, 1275, 1277, 1279, 1281, 1283, 1285, 1287, 1289, 1291, 1293, 1295, 1297, 1299, 1301, 1303, 1305, 1307, 1309, 1311, 1313, 1315, 1317, 1319, 1321, 1323, 1325, 1327, 1329, 1331, 1333, 1335, 1337, 1339, 1341, 1343, 1345, 1347, 1349, 1351, 1353, 1355, 1357, 1359, 1361, 1363, 1365, 1367, 1369, 1371, 1373, 1375, 1377, 1379, 1381, 1383, 1385, 1387, 1389, 1391, 1393, 1395, 1397, 1399, 1401, 1403, 1405, 1407, 1409, 1411, 1413, 1415, 1417, 1419, 1421, 1423, 1425, 1427, 1429, 1431, 1433, 1435, 1437, 1439, 1441] (by decide +kernel) (by decide +kernel)
abbrev vwCl : List vw_C := [(RX0, TX0, 5), (RX1, TX1, 3), (RX2, TX2, 3), (RX3, TX3, 2), (RX4, TX4, 18), (RX5, TX5, 9), (RX6, TX6, 4), (RX7, TX7, 17), (RX8, TX8, 11), (RX9, TX9, 16), (RX10, TX10, 122)]
end
section
/-! my own rows over the kit's: one list of words (wsL_law) for every method, one pack of table facts (k_K) for every contract -/
abbrev k_tys (cy : Nat → ClassId) : List (ClassId × FieldType) := [(cy 0, .int), (cy 1, .long), (cy 2, .char), (cy 3, .boolean), (cy 4, .object RX6)]
def k_xw (sq : Nat → Nat) (U : State) : Prop := va_Nw (.methodLinkNest RX9 19 yX4_init RX9) U ∧ va_Nw (.methodLinkNest RX9 29 yX6_init RX9) U ∧ va_Nw (.methodLinkNest RX9 43 yX3_init RX9) U ∧ va_Nw (.methodLinkNest RX0 11 yX6_init RX9) U ∧ va_Nw (.methodLinkNest RX2 24 yX6_init RX9) U ∧ va_AO RX6 U ∧ vk_R RX5 105 "cycle" (sq 0) U ∧ vk_R RX5 109 "green" (sq 1) U ∧ vk_R RX5 113 "rule" (sq 2) U ∧ vk_R RX5 117 "least" (sq 3) U
theorem k_xw.warm {sq : Nat → Nat} {s U : State} (hW : s.WarmedH U.vm) (h : k_xw sq s) : k_xw sq U := by
  obtain ⟨h1, h2, h3, h4, h5, h6, h7, h8, h9, h10⟩ := h
  exact ⟨va_Nw.warmM hW h1, va_Nw.warmM hW h2, va_Nw.warmM hW h3, va_Nw.warmM hW h4, va_Nw.warmM hW h5, va_AO.moved hW.alike h6, vk_R.warm hW h7, vk_R.warm hW h8, vk_R.warm hW h9, vk_R.warm hW h10⟩
theorem k_xw.same {sq : Nat → Nat} {u U : State} (hv : U.vm = u.vm) (h : k_xw sq u) : k_xw sq U := by
  obtain ⟨h1, h2, h3, h4, h5, h6, h7, h8, h9, h10⟩ := h
  exact ⟨va_Nw.same rfl hv.symm h1, va_Nw.same rfl hv.symm h2, va_Nw.same rfl hv.symm h3, va_Nw.same rfl hv.symm h4, va_Nw.same rfl hv.symm h5, va_AO.moved (by rw [hv]; exact Vm.Alike.refl _) h6, vk_R.same hv h7, vk_R.same hv h8, vk_R.same hv h9, vk_R.same hv h10⟩
def k_K (dC : Nat → ClassId) (dI : Nat → Nat → Nat) (cy : Nat → ClassId) (sq : Nat → Nat) (U : State) : Prop := va_K (dC, dI) vwCl (k_tys cy) U ∧ k_xw sq U
theorem k_K.warm {dC : Nat → ClassId} {dI : Nat → Nat → Nat} {cy : Nat → ClassId} {sq : Nat → Nat} {s U : State} (hW : s.WarmedH U.vm) (h : k_K dC dI cy sq s) : k_K dC dI cy sq U := ⟨va_K.moved hW.alike h.1, h.2.warm hW⟩
theorem k_K.calling {dC : Nat → ClassId} {dI : Nat → Nat → Nat} {cy : Nat → ClassId} {sq : Nat → Nat} {U : State} {g : JFrame} {mk : MethodId} {a : Array Value} (h : k_K dC dI cy sq U) : k_K dC dI cy sq (U.calling g mk a) := ⟨va_K.moved (u := U) (U := U.calling g mk a) (Vm.Alike.refl U.vm) h.1, k_xw.same (u := U) (U := U.calling g mk a) rfl h.2⟩
theorem ky_same {D : va_G} {cl : List vw_C} {tys : List (ClassId × FieldType)} {U : State} {c1 c2 : ClassId} {ty : FieldType} (h : va_K D cl tys U) (i j : Nat) (hi : tys[i]? = some (c1, ty)) (hj : tys[j]? = some (c2, ty)) : c2 = c1 := by
  have h1 := (h.2 i _ hi).2
  have h2 := (h.2 j _ hj).2
  cases ty with
  | object C =>
    obtain ⟨_, _, _, _, _, e1⟩ := h1
    obtain ⟨_, _, _, _, _, e2⟩ := h2
    rw [e1] at e2
    exact (Option.some.inj e2).symm
  | _ =>
    exact Option.some.inj (Eq.trans (Eq.symm h2) h1)
/-- what stands fixed while a method is walked -/
def k_cx (p : Program) (s : State) (m : MethodId) (args : Array Value) (c : Code) (cc : ByteArray) (nL : Nat) (own : String) (dC : Nat → ClassId) (dI : Nat → Nat → Nat) (cy : Nat → ClassId) (sq : Nat → Nat) : Prop :=
  p.tables.exec = Jvm.exec ∧ c.code = cc ∧ c.maxLocals = nL ∧ s.vm.findClass own = some m.cls ∧ (∀ w ∈ wsL_law, w.before args s = true) ∧ k_K dC dI cy sq s
abbrev k_Pre (dC : Nat → ClassId) (dI : Nat → Nat → Nat) (cy : Nat → ClassId) (sq : Nat → Nat) (sz : Nat) (ws : va_W) (U : State) : Prop := U.heap.size = sz ∧ va_P (dC, dI) vwCl ws U.heap ∧ k_K dC dI cy sq U ∧ va_D (fun _ => True) ws
abbrev k_B {S : Type} (dC : Nat → ClassId) (dI : Nat → Nat → Nat) (A : Nat → Prop) (B : S → va_W) : S → State → Prop := fun u t => va_P (dC, dI) vwCl (B u) t.heap ∧ va_D A (B u)
/-- a class's facts: number, fields, words, types -/
def k_cl (ci : Nat) (C : String) (T : u_T) (N : Nat) (ty0 : Nat → FieldType) : Prop := vwCl[ci]? = some (C, T, N) ∧ (∀ w ∈ u_ws C T N, w ∈ wsL_law) ∧ (∀ k, k < N → parseFieldDescriptor (T k).2.2.1 = some (ty0 k)) ∧ (∀ a, a < N → ∀ b, b < N → a ≠ b → (T a).2.1 ≠ (T b).2.1)
/-- a field as an instruction names it -/
def k_fl (own : String) (index ci k : Nat) (fin : Bool) (ty : FieldType) : Prop := ∃ (C : String) (T : u_T) (N : Nat) (ty0 : Nat → FieldType), k_cl ci C T N ty0 ∧ k < N ∧ Cond.fieldLink own index (T k).1 (T k).2.1 (T k).2.2.1 ∈ wsL_law ∧ (T k).2.2.2 = fin ∧ parseFieldDescriptor (T k).2.2.1 = some ty ∧ (fin = true → (T k).1 = own)
def k_fg (own : String) (index ci k : Nat) : Prop := ∃ (C : String) (T : u_T) (N : Nat) (ty0 : Nat → FieldType), k_cl ci C T N ty0 ∧ k < N ∧ Cond.fieldLink own index (T k).1 (T k).2.1 (T k).2.2.1 ∈ wsL_law
def k_nw (own : String) (index ci N : Nat) (fs : List Value) : Prop := ∃ (C : String) (T : u_T) (ty0 : Nat → FieldType), k_cl ci C T N ty0 ∧ Cond.classLink own index C ∈ wsL_law ∧ Cond.instantiable C N ∈ wsL_law ∧ Cond.initialized C ∈ wsL_law ∧ (∀ j, j < N → defaultValue (ty0 j) = vp_V fs j)
/-- a method as an instruction names it: virtual; a constructor; static -/
def k_mv (own : String) (index : Nat) (C : String) (y : MethodName) (bytes : ByteArray) (maxL : Nat) (ret : Option FieldType) (n : Nat) : Prop := Cond.methodLink own index y ∈ wsL_law ∧ Cond.instanceMethod y ∈ wsL_law ∧ Cond.selects C y y ∈ wsL_law ∧ Cond.initialized C ∈ wsL_law ∧ Cond.code y bytes maxL ret ∈ wsL_law ∧ (y.cls = C ∧ y.cls ≠ "java/lang/invoke/MethodHandle" ∧ y.cls ≠ "java/lang/invoke/VarHandle" ∧ (parseMethodDescriptor y.desc).map (fun d => d.parameters.length) = some n)
def k_mi (own : String) (index : Nat) (y : MethodName) (bytes : ByteArray) (maxL : Nat) (n : Nat) : Prop := Cond.methodLink own index y ∈ wsL_law ∧ Cond.instanceMethod y ∈ wsL_law ∧ Cond.initialized y.cls ∈ wsL_law ∧ Cond.code y bytes maxL none ∈ wsL_law ∧ y.name = "<init>" ∧ (y.cls ≠ "java/lang/invoke/MethodHandle" ∧ y.cls ≠ "java/lang/invoke/VarHandle" ∧ (parseMethodDescriptor y.desc).map (fun d => d.parameters.length) = some n)
/-- a constructor of a nest mate: the link stands in k_xw -/
def k_mn (y : MethodName) (bytes : ByteArray) (maxL : Nat) (n : Nat) : Prop := Cond.instanceMethod y ∈ wsL_law ∧ Cond.initialized y.cls ∈ wsL_law ∧ Cond.code y bytes maxL none ∈ wsL_law ∧ y.name = "<init>" ∧ (y.cls ≠ "java/lang/invoke/MethodHandle" ∧ y.cls ≠ "java/lang/invoke/VarHandle" ∧ (parseMethodDescriptor y.desc).map (fun d => d.parameters.length) = some n)
def k_ms (own : String) (index : Nat) (y : MethodName) (bytes : ByteArray) (maxL : Nat) (ret : Option FieldType) (n : Nat) : Prop := Cond.methodLink own index y ∈ wsL_law ∧ Cond.static y ∈ wsL_law ∧ Cond.initialized y.cls ∈ wsL_law ∧ Cond.code y bytes maxL ret ∈ wsL_law ∧ (y.cls ≠ "java/lang/invoke/MethodHandle" ∧ y.cls ≠ "java/lang/invoke/VarHandle" ∧ (parseMethodDescriptor y.desc).map (fun d => d.parameters.length) = some n)
theorem k_good : wsL_law.all goodWord = true := List.all_eq_true.mpr (fun w h => (List.mem_filter.mp h).2)
theorem k_goodIn {ws : List Cond} (h : ∀ w ∈ ws, w ∈ wsL_law) : GoodIn wsL_law ws := fun w hw => ⟨h w hw, good_of_word (List.all_eq_true.mp k_good w (h w hw))⟩
theorem k_goodC {y : MethodName} {b : ByteArray} {n : Nat} {r : Option FieldType} (h : Cond.code y b n r ∈ wsL_law) : GoodIn wsL_law (Cond.code y b n r :: wsL_law) := k_goodIn (fun w hw => (List.mem_cons.mp hw).elim (fun e => e ▸ h) id)
section KW
variable {p : Program} {l : Launch} {e : Env} {R : Room} {s : State} {m : MethodId} {args : Array Value} {below : List Frame} {meth : Method} {c : Code} {H : Heap} {locs : List Loc} {cells slots : Nat} {Q : State → Prop}
variable {cc : ByteArray} {pc : Nat} {ls : Array Slot} {rest : List Value} {A : Nat → Prop} {a : Nat} {ws : va_W} {H0 : Heap} {nL : Nat} {own : String} {dC : Nat → ClassId} {dI : Nat → Nat → Nat} {cy : Nat → ClassId} {sq : Nat → Nat}
theorem k_topi {x y : Int32} (h : x = y) (k : W p l e R s m args below meth c H locs cells slots Q (F0 m pc ls (.int y :: rest))) : W p l e R s m args below meth c H locs cells slots Q (F0 m pc ls (.int x :: rest)) := by subst h; exact k
theorem k_topl {x y : Int64} (h : x = y) (k : W p l e R s m args below meth c H locs cells slots Q (F0 m pc ls (.long y :: rest))) : W p l e R s m args below meth c H locs cells slots Q (F0 m pc ls (.long x :: rest)) := by subst h; exact k
theorem k_get (C0 : k_cx p s m args c cc nL own dC dI cy sq) {index ci k : Nat} (hf : k_fg own index ci k) (hP : va_P (dC, dI) vwCl ws H) (q0 : Nat) {fs : List Value} (he : ws[q0]? = some (a, .inr (ci, fs))) {v : Value} (hv : fs[k]? = some v) (hdg : decode cc pc = .ok (.getfield index, 3))
    (kk : W p l e R s m args below meth c H locs cells slots Q (F0 m (pc + 3) ls (v :: rest))) : W p l e R s m args below meth c H locs cells slots Q (F0 m pc ls (.ref a :: rest)) := by
  obtain ⟨C, T, N, ty0, ⟨h1, h2, h3, h4⟩, h5, h6⟩ := hf
  obtain ⟨hx, hb, hml, hown, hts, hK⟩ := C0
  exact va_get hx hb hts h2 hown hK.1 hP q0 he h1 k h5 (hts _ h6) (fun _ h => h) hv hdg kk
theorem k_put (C0 : k_cx p s m args c cc nL own dC dI cy sq) {index ci k : Nat} {ty : FieldType} (hf : k_fl own index ci k false ty) (hP : va_P (dC, dI) vwCl ws H) (hD : va_D A ws) (hS : va_S A H0 H locs) (q0 : Nat) {fs : List Value} (he : ws[q0]? = some (a, .inr (ci, fs))) {v : Value} (hn : narrow ty v = v) (hfit : fits ty v = true) (hl : k < fs.length) (hdg : decode cc pc = .ok (.putfield index, 3))
    (kk : ∀ (H1 : Heap) (locs1 : List Loc), va_P (dC, dI) vwCl (ws.set q0 (a, .inr (ci, fs.set k v))) H1 → va_D A (ws.set q0 (a, .inr (ci, fs.set k v))) → va_S A H0 H1 locs1 → W p l e R s m args below meth c H1 locs1 cells slots Q (F0 m (pc + 3) ls rest)) : W p l e R s m args below meth c H locs cells slots Q (F0 m pc ls (v :: .ref a :: rest)) := by
  obtain ⟨C, T, N, ty0, ⟨h1, h2, h3, h4⟩, h5, h6, h7, h8, h9⟩ := hf
  obtain ⟨hx, hb, hml, hown, hts, hK⟩ := C0
  exact va_put hx hb hts h2 ty0 h3 h4 hown hK.1 hP hD hS q0 he h1 k h5 (hts _ h6) (fun _ h => h) h7 h8 hn hfit hl hdg kk
theorem k_putF (C0 : k_cx p s m args c cc nL own dC dI cy sq) (hin : meth.name = "<init>") {index ci k : Nat} {ty : FieldType} (hf : k_fl own index ci k true ty) (hP : va_P (dC, dI) vwCl ws H) (hD : va_D A ws) (hS : va_S A H0 H locs) (q0 : Nat) {fs : List Value} (he : ws[q0]? = some (a, .inr (ci, fs))) {v : Value} (hn : narrow ty v = v) (hfit : fits ty v = true) (hl : k < fs.length) (hdg : decode cc pc = .ok (.putfield index, 3))
    (kk : ∀ (H1 : Heap) (locs1 : List Loc), va_P (dC, dI) vwCl (ws.set q0 (a, .inr (ci, fs.set k v))) H1 → va_D A (ws.set q0 (a, .inr (ci, fs.set k v))) → va_S A H0 H1 locs1 → W p l e R s m args below meth c H1 locs1 cells slots Q (F0 m (pc + 3) ls rest)) : W p l e R s m args below meth c H locs cells slots Q (F0 m pc ls (v :: .ref a :: rest)) := by
  obtain ⟨C, T, N, ty0, ⟨h1, h2, h3, h4⟩, h5, h6, h7, h8, h9⟩ := hf
  obtain ⟨hx, hb, hml, hown, hts, hK⟩ := C0
  exact va_putF hx hb hts h2 ty0 h3 h4 hown hK.1 hP hD hS q0 he h1 k h5 (hts _ h6) (fun _ h => h) h7 hin (h9 rfl) h8 hn hfit hl hdg kk
theorem k_new (C0 : k_cx p s m args c cc nL own dC dI cy sq) {index ci N : Nat} {fs : List Value} (hf : k_nw own index ci N fs) (hP : va_P (dC, dI) vwCl ws H) (hD : va_D A ws) (hS : va_S A H0 H locs) (hA : ∀ q, H0.size ≤ q → A q) (k n : Nat) (h1 : cells + 1 ≤ k) (h2 : slots + N ≤ n) (h3 : k ≤ R.cells) (h4 : n ≤ R.slots) (hdg : decode cc pc = .ok (.new index, 3))
    (kk : ∀ (q : Nat) (H1 : Heap), va_P (dC, dI) vwCl (ws ++ [(q, .inr (ci, fs))]) H1 → va_D A (ws ++ [(q, .inr (ci, fs))]) → va_S A H0 H1 locs → W p l e R s m args below meth c H1 locs k n Q (F0 m (pc + 3) ls (.ref q :: rest))) : W p l e R s m args below meth c H locs cells slots Q (F0 m pc ls rest) := by
  obtain ⟨C, T, ty0, ⟨g1, g2, g3, g4⟩, g5, g6, g7, g8⟩ := hf
  obtain ⟨hx, hb, hml, hown, hts, hK⟩ := C0
  exact va_new hx hb hts g2 ty0 g3 hown (hts _ g5) (hts _ g6) (hts _ g7) hK.1 hP hD hS hA g1 g8 (Nat.le_trans h1 h3) (Nat.le_trans h2 h4) hdg (fun q H1 a1 a2 a3 => W.widen h1 h2 (kk q H1 a1 a2 a3))
theorem k_newa (C0 : k_cx p s m args c cc nL own dC dI cy sq) (t0 : Nat) {cA : ClassId} {ty : FieldType} (ht : (k_tys cy)[t0]? = some (cA, ty)) {atype : ArrayType} (hty : newarray.typeOf atype = ty) (harr : Cond.arrayClass (newarray.typeOf atype) ∈ wsL_law) (hP : va_P (dC, dI) vwCl ws H) (hD : va_D A ws) (hS : va_S A H0 H locs) (hA : ∀ q, H0.size ≤ q → A q) {n : Int32} {N' : Nat} {a0 : vp_A} (ha : ∀ cB : ClassId, vp_cell cB a0 = arrV cB N' (fun _ => defaultValue ty)) (hn : ¬ n < 0) (hN : n.toNatClampNeg = N') (hbytes : N' * componentBytes ty ≤ 536870912) (k j : Nat) (h1 : cells + 1 ≤ k) (h2 : slots + N' ≤ j) (h3 : k ≤ R.cells) (h4 : j ≤ R.slots) (hdg : decode cc pc = .ok (.newarray atype, 2))
    (kk : ∀ (q : Nat) (H1 : Heap), va_P (dC, dI) vwCl (ws ++ [(q, .inl (cA, a0))]) H1 → va_D A (ws ++ [(q, .inl (cA, a0))]) → va_S A H0 H1 locs → W p l e R s m args below meth c H1 locs k j Q (F0 m (pc + 2) ls (.ref q :: rest))) : W p l e R s m args below meth c H locs cells slots Q (F0 m pc ls (.int n :: rest)) := by
  obtain ⟨hx, hb, hml, hown, hts, hK⟩ := C0
  refine va_newa hx hb (hts _ harr) hty hK.1 hP hD hS hA ha hn hN hbytes (Nat.le_trans h1 h3) (Nat.le_trans h2 h4) hdg (fun q cB H1 hK2 a1 a2 a3 => ?_)
  obtain rfl : cB = cA := ky_same hK2 t0 5 (by rw [List.getElem?_append_left (List.getElem?_eq_some_iff.mp ht).1]; exact ht) rfl
  exact W.widen h1 h2 (kk q H1 a1 a2 a3)
theorem k_newq (C0 : k_cx p s m args c cc nL own dC dI cy sq) {index : Nat} (hcl : Cond.classLink own index RX6 ∈ wsL_law) (hP : va_P (dC, dI) vwCl ws H) (hD : va_D A ws) (hS : va_S A H0 H locs) (hA : ∀ q, H0.size ≤ q → A q) {n : Int32} {N' : Nat} (hn : ¬ n < 0) (hN : n.toNatClampNeg = N') (hbytes : N' * 4 ≤ 536870912) (k j : Nat) (h1 : cells + 1 ≤ k) (h2 : slots + N' ≤ j) (h3 : k ≤ R.cells) (h4 : j ≤ R.slots) (hdg : decode cc pc = .ok (.anewarray index, 3))
    (kk : ∀ (q : Nat) (H1 : Heap), va_P (dC, dI) vwCl (ws ++ [(q, .inl (cy 4, N', .inr (.inr (.inr (.inr (fun _ => none))))))]) H1 → va_D A (ws ++ [(q, .inl (cy 4, N', .inr (.inr (.inr (.inr (fun _ => none))))))]) → va_S A H0 H1 locs → W p l e R s m args below meth c H1 locs k j Q (F0 m (pc + 3) ls (.ref q :: rest))) : W p l e R s m args below meth c H locs cells slots Q (F0 m pc ls (.int n :: rest)) := by
  obtain ⟨hx, hb, hml, hown, hts, hK⟩ := C0
  refine va_newq hx hb hown (hts _ hcl) hK.2.2.2.2.2.2.1 hK.1 hP hD hS hA hn hN hbytes (Nat.le_trans h1 h3) (Nat.le_trans h2 h4) hdg (fun q cB H1 hK2 a1 a2 a3 => ?_)
  obtain rfl : cB = cy 4 := ky_same hK2 4 5 rfl rfl
  exact W.widen h1 h2 (kk q H1 a1 a2 a3)
theorem k_obj (C0 : k_cx p s m args c cc nL own dC dI cy sq) {idx : Nat} (h1 : Cond.methodLink own idx objectInit ∈ wsL_law) (h2 : Cond.instanceMethod objectInit ∈ wsL_law) (h3 : Cond.code objectInit ⟨#[0xb1]⟩ 1 none ∈ wsL_law) {lv : List (Nat × Value)} (hl : lv_has ls nL lv) (hdg : decode cc pc = .ok (.invokespecial idx, 3)) (hfr : 1 ≤ R.frames) (hlo : (rest.map fun v => v.category).sum + 12 ≤ R.locals)
    (kk : W p l e R s m args below meth c H locs cells slots Q (F0 m (pc + 3) ls rest)) : W p l e R s m args below meth c H locs cells slots Q (F0 m pc ls (.ref a :: rest)) := by
  obtain ⟨hx, hb, hml, hown, hts, hK⟩ := C0
  refine W.objInit hx hb hown (hts _ h1) (hts _ h2) (hts _ h3) rfl (by rw [hml]; exact hl.1) rfl hdg hfr (by show 2 * 0 + _ + 12 ≤ _; omega) ?_
  exact W.eq (g2 := F0 m (pc + 3) ls rest) rfl kk
end KW
theorem k_in (i : Int32) (n : Nat) (h : (decide (i < 0) || decide (n ≤ i.toNatClampNeg)) = false) : vp_in i n := by
  intro hh
  rcases hh with hh | hh <;> simp [hh] at h
theorem k_nb (x : Int32) (h : narrow .boolean (.int x) = .int x) : narrow .boolean (.int x) = .int x := h
theorem k_fb (x : Int32) (h : fits .boolean (.int x) = true) : fits .boolean (.int x) = true := h
section KX
variable {p : Program} {l : Launch} {e : Env} {R : Room} {s : State} {m : MethodId} {args : Array Value} {below : List Frame} {meth : Method} {c : Code} {H : Heap} {locs : List Loc} {cells slots : Nat} {Q : State → Prop}
variable {cc : ByteArray} {pc : Nat} {ls : Array Slot} {rest : List Value} {A : Nat → Prop} {a : Nat} {H0 : Heap} {nL : Nat} {own : String} {dC : Nat → ClassId} {dI : Nat → Nat → Nat} {cy : Nat → ClassId} {sq : Nat → Nat}
/-- a store into the row made last, whatever the rest of the world is -/
theorem k_castX (C0 : k_cx p s m args c cc nL own dC dI cy sq) {X : va_W} {n : Nat} {f : Nat → Int32} (hP : va_P (dC, dI) vwCl (X ++ [(a, .inl (cy 2, n, .inl f))]) H) (hD : va_D A (X ++ [(a, .inl (cy 2, n, .inl f))])) (hS : va_S A H0 H locs) {i x : Int32} (hin : vp_in i n) (hdg : decode cc pc = .ok (.castore, 1))
    (kk : ∀ (g : Nat → Int32) (H1 : Heap) (locs1 : List Loc), va_P (dC, dI) vwCl (X ++ [(a, .inl (cy 2, n, .inl g))]) H1 → va_D A (X ++ [(a, .inl (cy 2, n, .inl g))]) → va_S A H0 H1 locs1 → W p l e R s m args below meth c H1 locs1 cells slots Q (F0 m (pc + 1) ls rest)) : W p l e R s m args below meth c H locs cells slots Q (F0 m pc ls (.int x :: .int i :: .ref a :: rest)) := by
  refine va_cast (n := n) (f := f) (cA := cy 2) C0.1 C0.2.1 C0.2.2.2.2.2.1 hP hD hS X.length 2 (by simp) rfl hin hdg (fun H1 locs1 h1 h2 h3 => ?_)
  have e1 : ∀ u z : Nat × va_E, (X ++ [u]).set X.length z = X ++ [z] := fun u z => by simp
  rw [e1] at h1 h2
  exact kk _ H1 locs1 h1 h2 h3
end KX
end
section
/-! calls by contract, the world split and joined in one row -/
abbrev k_Qi {S : Type} (dC : Nat → ClassId) (dI : Nat → Nat → Nat) (post : Int32 → S → Prop) (B : S → va_W) : (Nat → Prop) → Array Value → State → Outcome → State → Prop := fun A => va_Qi post (k_B dC dI A B) A
abbrev k_Ql {S : Type} (dC : Nat → ClassId) (dI : Nat → Nat → Nat) (post : Int64 → S → Prop) (B : S → va_W) : (Nat → Prop) → Array Value → State → Outcome → State → Prop := fun A => va_Ql post (k_B dC dI A B) A
abbrev k_Qv {S : Type} (dC : Nat → ClassId) (dI : Nat → Nat → Nat) (post : S → Prop) (B : S → va_W) : (Nat → Prop) → Array Value → State → Outcome → State → Prop := fun A => va_Qv post (k_B dC dI A B) A
/-- a contract -/
def k_Met (l : Launch) (y : MethodName) (bytes : ByteArray) (maxL : Nat) (ret : Option FieldType) (rm : Room) (dC : Nat → ClassId) (dI : Nat → Nat → Nat) (cy : Nat → ClassId) (sq : Nat → Nat) (av : List Value) (wc : va_W) (Qc : (Nat → Prop) → Array Value → State → Outcome → State → Prop) : Prop :=
  ∀ sz : Nat, Met l y (Cond.code y bytes maxL ret :: wsL_law) rm (va_Pc av (k_Pre dC dI cy sq sz wc)) (Qc (va_A wc sz)) rm.cells rm.slots (va_A wc sz)
theorem k_P_sub {D : va_G} {cl : List vw_C} {ws wc : va_W} {H : Heap} (hP : va_P D cl ws H) (is : List Nat) (hC : is.map (fun i => ws[i]?) = wc.map some) : va_P D cl wc H := by
  intro k q hq
  have h1 : (is.map (fun i => ws[i]?))[k]? = some (some q) := by rw [hC, List.getElem?_map, hq]; rfl
  rw [List.getElem?_map] at h1
  cases hi : is[k]? with
  | none => rw [hi] at h1; cases h1
  | some i => rw [hi] at h1; exact hP i q (Option.some.inj h1)
section KC
variable {p : Program} {l : Launch} {e : Env} {R : Room} {s : State} {m : MethodId} {args : Array Value} {below : List Frame} {meth : Method} {c : Code} {H : Heap} {locs : List Loc} {cells slots : Nat} {Q : State → Prop}
variable {cc : ByteArray} {pc : Nat} {ls : Array Slot} {rest st0 : List Value} {A : Nat → Prop} {ws : va_W} {H0 : Heap} {nL : Nat} {own : String} {dC : Nat → ClassId} {dI : Nat → Nat → Nat} {cy : Nat → ClassId} {sq : Nat → Nat}
variable {y : MethodName} {bytes : ByteArray} {maxL n index mc ms : Nat} {ret : Option FieldType} {rm : Room} {C host : String} {b : Nat} {As av : List Value} {wc wr : va_W} {S : Type} {Qc : (Nat → Prop) → Array Value → State → Outcome → State → Prop}
theorem k_preS (C0 : k_cx p s m args c cc nL own dC dI cy sq) (hP : va_P (dC, dI) vwCl wc H) (hD : va_D A wc) : PreS s H (va_Pc av (k_Pre dC dI cy sq H.size wc)) av :=
  ⟨fun a U g mk q => ⟨q.1, q.2.1, q.2.2.1, q.2.2.2.1.calling, q.2.2.2.2⟩, fun U hU hW => ⟨rfl, by rw [hU], by rw [hU]; exact hP, C0.2.2.2.2.2.warm hW, hD.weaken (fun _ _ _ _ => trivial)⟩⟩
theorem k_runV (C0 : k_cx p s m args c cc nL own dC dI cy sq) (hM : k_Met l y bytes maxL ret rm dC dI cy sq (.ref b :: As) wc Qc) (hm : k_mv own index C y bytes maxL ret n) (hP : va_P (dC, dI) vwCl wc H) (hD : va_D A wc) {ci : Nat} {cq : vw_C} {fs : List Value} (hci : vwCl[ci]? = some cq) (hcq : cq.1 = C) (hrv : wc[0]? = some (b, .inr (ci, fs))) {lv : List (Nat × Value)} (hl : lv_has ls nL lv) (hn : As.length = n) (hst : st0 = As.reverse ++ .ref b :: rest) (hrest : (rest.map fun v => v.category).sum ≤ 8) (hR : rm.frames + 1 ≤ R.frames ∧ 8 + (maxL + 11) + rm.locals ≤ R.locals) (hf : cells + rm.cells ≤ R.cells ∧ slots + rm.slots ≤ R.slots) (hdg : decode cc pc = .ok (.invokevirtual index, 3)) :
    va_Run p l e R s m args below meth c H locs cells slots rm.cells rm.slots (F0 m pc ls st0) rest (Qc (va_A wc H.size) (Value.ref b :: As).toArray) (va_A wc H.size) := by
  have C1 := C0
  obtain ⟨hx, hb, hml, hown, hts, hK⟩ := C1
  obtain ⟨m1, m2, m3, m4, m5, m6, m7⟩ := hm
  subst m6
  subst hst
  have hr := va_recv hK.1 hP hci hrv
  rw [hcq] at hr
  have hps := k_preS (av := .ref b :: As) C0 hP hD
  exact va_runV (n := n) (index := index) (bytes := bytes) (maxL := maxL) (ret := ret) (As := As) (rest := rest) ⟨hx, hb, hml, hown, hts⟩ (hM H.size) ⟨callB_of n hts (k_goodC m5) rfl rfl rfl (hts _ m4) (hts _ m1) m7 hR, hts _ m2, hts _ m3⟩ ⟨hps.1, hr, hps.2⟩ rfl hn hl.1 rfl (lv_room hrest) hdg hf
theorem k_runI (C0 : k_cx p s m args c cc nL own dC dI cy sq) (hM : k_Met l y bytes maxL none rm dC dI cy sq (.ref b :: As) wc Qc) (hm : k_mi own index y bytes maxL n) (hP : va_P (dC, dI) vwCl wc H) (hD : va_D A wc) {lv : List (Nat × Value)} (hl : lv_has ls nL lv) (hn : As.length = n) (hst : st0 = As.reverse ++ .ref b :: rest) (hrest : (rest.map fun v => v.category).sum ≤ 8) (hR : rm.frames + 1 ≤ R.frames ∧ 8 + (maxL + 11) + rm.locals ≤ R.locals) (hf : cells + rm.cells ≤ R.cells ∧ slots + rm.slots ≤ R.slots) (hdg : decode cc pc = .ok (.invokespecial index, 3)) :
    va_Run p l e R s m args below meth c H locs cells slots rm.cells rm.slots (F0 m pc ls st0) rest (Qc (va_A wc H.size) (Value.ref b :: As).toArray) (va_A wc H.size) := by
  have C1 := C0
  obtain ⟨hx, hb, hml, hown, hts, hK⟩ := C1
  obtain ⟨m1, m2, m3, m4, m5, m6⟩ := hm
  subst hst
  exact va_runI (n := n) (index := index) (bytes := bytes) (maxL := maxL) (As := As) (rest := rest) ⟨hx, hb, hml, hown, hts⟩ (hM H.size) ⟨callB_of n hts (k_goodC m4) rfl rfl rfl (hts _ m3) (hts _ m1) m6 hR, m5, hts _ m2⟩ (k_preS (av := .ref b :: As) C0 hP hD) rfl hn hl.1 rfl (lv_room hrest) hdg hf
theorem k_runN (C0 : k_cx p s m args c cc nL own dC dI cy sq) (hM : k_Met l y bytes maxL none rm dC dI cy sq (.ref b :: As) wc Qc) (hm : k_mn y bytes maxL n) (hlk : va_Nw (.methodLinkNest own index y host) s) (hP : va_P (dC, dI) vwCl wc H) (hD : va_D A wc) {lv : List (Nat × Value)} (hl : lv_has ls nL lv) (hn : As.length = n) (hst : st0 = As.reverse ++ .ref b :: rest) (hrest : (rest.map fun v => v.category).sum ≤ 8) (hR : rm.frames + 1 ≤ R.frames ∧ 8 + (maxL + 11) + rm.locals ≤ R.locals) (hf : cells + rm.cells ≤ R.cells ∧ slots + rm.slots ≤ R.slots) (hdg : decode cc pc = .ok (.invokespecial index, 3)) :
    va_Run p l e R s m args below meth c H locs cells slots rm.cells rm.slots (F0 m pc ls st0) rest (Qc (va_A wc H.size) (Value.ref b :: As).toArray) (va_A wc H.size) := by
  have C1 := C0
  obtain ⟨hx, hb, hml, hown, hts, hK⟩ := C1
  obtain ⟨m2, m3, m4, m5, m6⟩ := hm
  subst hst
  exact va_runIN (n := n) (index := index) (bytes := bytes) (maxL := maxL) (host := host) (As := As) (rest := rest) ⟨hx, hb, hml, hown, hts⟩ (hM H.size) ⟨va_cnB n hts (k_goodC m4) rfl rfl rfl hlk (hts _ m3) m6 hR, m5, hts _ m2⟩ (k_preS (av := .ref b :: As) C0 hP hD) rfl hn hl.1 rfl (lv_room hrest) hdg hf
theorem k_runS (C0 : k_cx p s m args c cc nL own dC dI cy sq) (hM : k_Met l y bytes maxL ret rm dC dI cy sq As wc Qc) (hm : k_ms own index y bytes maxL ret n) (hP : va_P (dC, dI) vwCl wc H) (hD : va_D A wc) {lv : List (Nat × Value)} (hl : lv_has ls nL lv) (hn : As.length = n) (hst : st0 = As.reverse ++ rest) (hrest : (rest.map fun v => v.category).sum ≤ 8) (hR : rm.frames + 1 ≤ R.frames ∧ 8 + (maxL + 11) + rm.locals ≤ R.locals) (hf : cells + rm.cells ≤ R.cells ∧ slots + rm.slots ≤ R.slots) (hdg : decode cc pc = .ok (.invokestatic index, 3)) :
    va_Run p l e R s m args below meth c H locs cells slots rm.cells rm.slots (F0 m pc ls st0) rest (Qc (va_A wc H.size) As.toArray) (va_A wc H.size) := by
  have C1 := C0
  obtain ⟨hx, hb, hml, hown, hts, hK⟩ := C1
  obtain ⟨m1, m2, m3, m4, m6⟩ := hm
  subst hst
  exact va_runS (n := n) (index := index) (bytes := bytes) (maxL := maxL) (ret := ret) (As := As) (rest := rest) ⟨hx, hb, hml, hown, hts⟩ (hM H.size) ⟨callB_of n hts (k_goodC m4) rfl rfl rfl (hts _ m3) (hts _ m1) m6 hR, hts _ m2⟩ (k_preS (av := As) C0 hP hD) rfl hn hl.1 rfl (lv_room hrest) hdg hf
/-- the world split by places, a call, the world joined: an int, a long, nothing comes back -/
theorem k_ji {post : Int32 → S → Prop} {B : S → va_W} {a : Array Value} (hP : va_P (dC, dI) vwCl ws H) (hD : va_D A ws) (hS : va_S A H0 H locs) (hA : ∀ q, H0.size ≤ q → A q) (isC isR : List Nat) (hC : isC.map (fun i => ws[i]?) = wc.map some) (hRr : isR.map (fun i => ws[i]?) = wr.map some) (hnC : va_nd isC = true) (hnR : va_nd isR = true) (hdis : ∀ i ∈ isR, i ∉ isC) (k j : Nat) (h1 : cells + mc ≤ k) (h2 : slots + ms ≤ j)
    (hr : va_P (dC, dI) vwCl wc H → va_D A wc → va_Run p l e R s m args below meth c H locs cells slots mc ms (F0 m pc ls st0) rest (k_Qi dC dI post B (va_A wc H.size) a) (va_A wc H.size))
    (kk : ∀ (r : Int32) (u : S) (H1 : Heap) (locs1 : List Loc), post r u → va_P (dC, dI) vwCl (wr ++ B u) H1 → va_D A (wr ++ B u) → va_S A H0 H1 locs1 → W p l e R s m args below meth c H1 locs1 k j Q (F0 m (pc + 3) ls (.int r :: rest))) : W p l e R s m args below meth c H locs cells slots Q (F0 m pc ls st0) := by
  have hFc := va_free (wc := wc) hD hS hA isC hC
  refine va_calli (hr (k_P_sub hP isC hC) (hD.sub isC hnC hC)) hS (fun q _ h => hFc q h) hFc (fun r u t H1 locs1 ht hvm hw hB hz hk hS1 => ?_)
  obtain ⟨hP1, hD1⟩ := hB
  rw [ht] at hP1
  obtain ⟨hP2, hD2⟩ := va_join hP hD isC isR hC hRr hnR hdis hk hFc hP1 hD1
  exact W.widen h1 h2 (kk r u H1 locs1 hw hP2 hD2 hS1)
theorem k_jl {post : Int64 → S → Prop} {B : S → va_W} {a : Array Value} (hP : va_P (dC, dI) vwCl ws H) (hD : va_D A ws) (hS : va_S A H0 H locs) (hA : ∀ q, H0.size ≤ q → A q) (isC isR : List Nat) (hC : isC.map (fun i => ws[i]?) = wc.map some) (hRr : isR.map (fun i => ws[i]?) = wr.map some) (hnC : va_nd isC = true) (hnR : va_nd isR = true) (hdis : ∀ i ∈ isR, i ∉ isC) (k j : Nat) (h1 : cells + mc ≤ k) (h2 : slots + ms ≤ j)
    (hr : va_P (dC, dI) vwCl wc H → va_D A wc → va_Run p l e R s m args below meth c H locs cells slots mc ms (F0 m pc ls st0) rest (k_Ql dC dI post B (va_A wc H.size) a) (va_A wc H.size))
    (kk : ∀ (r : Int64) (u : S) (H1 : Heap) (locs1 : List Loc), post r u → va_P (dC, dI) vwCl (wr ++ B u) H1 → va_D A (wr ++ B u) → va_S A H0 H1 locs1 → W p l e R s m args below meth c H1 locs1 k j Q (F0 m (pc + 3) ls (.long r :: rest))) : W p l e R s m args below meth c H locs cells slots Q (F0 m pc ls st0) := by
  have hFc := va_free (wc := wc) hD hS hA isC hC
  refine va_calll (hr (k_P_sub hP isC hC) (hD.sub isC hnC hC)) hS (fun q _ h => hFc q h) hFc (fun r u t H1 locs1 ht hvm hw hB hz hk hS1 => ?_)
  obtain ⟨hP1, hD1⟩ := hB
  rw [ht] at hP1
  obtain ⟨hP2, hD2⟩ := va_join hP hD isC isR hC hRr hnR hdis hk hFc hP1 hD1
  exact W.widen h1 h2 (kk r u H1 locs1 hw hP2 hD2 hS1)
theorem k_jv {post : S → Prop} {B : S → va_W} {a : Array Value} (hP : va_P (dC, dI) vwCl ws H) (hD : va_D A ws) (hS : va_S A H0 H locs) (hA : ∀ q, H0.size ≤ q → A q) (isC isR : List Nat) (hC : isC.map (fun i => ws[i]?) = wc.map some) (hRr : isR.map (fun i => ws[i]?) = wr.map some) (hnC : va_nd isC = true) (hnR : va_nd isR = true) (hdis : ∀ i ∈ isR, i ∉ isC) (k j : Nat) (h1 : cells + mc ≤ k) (h2 : slots + ms ≤ j)
    (hr : va_P (dC, dI) vwCl wc H → va_D A wc → va_Run p l e R s m args below meth c H locs cells slots mc ms (F0 m pc ls st0) rest (k_Qv dC dI post B (va_A wc H.size) a) (va_A wc H.size))
    (kk : ∀ (u : S) (H1 : Heap) (locs1 : List Loc), post u → va_P (dC, dI) vwCl (wr ++ B u) H1 → va_D A (wr ++ B u) → va_S A H0 H1 locs1 → W p l e R s m args below meth c H1 locs1 k j Q (F0 m (pc + 3) ls rest)) : W p l e R s m args below meth c H locs cells slots Q (F0 m pc ls st0) := by
  have hFc := va_free (wc := wc) hD hS hA isC hC
  refine va_callv (hr (k_P_sub hP isC hC) (hD.sub isC hnC hC)) hS (fun q _ h => hFc q h) hFc (fun u t H1 locs1 ht hvm hw hB hz hk hS1 => ?_)
  obtain ⟨hP1, hD1⟩ := hB
  rw [ht] at hP1
  obtain ⟨hP2, hD2⟩ := va_join hP hD isC isR hC hRr hnR hdis hk hFc hP1 hD1
  exact W.widen h1 h2 (kk u H1 locs1 hw hP2 hD2 hS1)
/-- a method's return -/
theorem k_iret (hx : p.tables.exec = Jvm.exec) (hb : c.code = cc) {ty : FieldType} (hr : meth.sig.returnType = some ty) (hlk : meth.locks = false) {post : Int32 → S → Prop} {B : S → va_W} {v : Int32} (hn : narrow ty (.int v) = .int v) (u : S) (hS : va_S A s.heap H locs) (hp : post v u) (hP : va_P (dC, dI) vwCl (B u) H) (hD : va_D A (B u)) (h1 : cells ≤ mc) (h2 : slots ≤ ms) (hdg : decode cc pc = .ok (.ireturn, 1)) :
    W p l e R s m args below meth c H locs cells slots (MQ below (k_Qi dC dI post B A) args s mc ms A) (F0 m pc ls [.int v]) :=
  W.widen h1 h2 (W.zret hx hb hr hn (fun t ht hW => ⟨⟨v, u, rfl, hp, by rw [ht]; exact hP, hD⟩, hS.F ht⟩) hS.2.2 hdg hlk)
theorem k_lret (hx : p.tables.exec = Jvm.exec) (hb : c.code = cc) (hr : meth.sig.returnType = some .long) (hlk : meth.locks = false) {post : Int64 → S → Prop} {B : S → va_W} {v : Int64} (u : S) (hS : va_S A s.heap H locs) (hp : post v u) (hP : va_P (dC, dI) vwCl (B u) H) (hD : va_D A (B u)) (h1 : cells ≤ mc) (h2 : slots ≤ ms) (hdg : decode cc pc = .ok (.lreturn, 1)) :
    W p l e R s m args below meth c H locs cells slots (MQ below (k_Ql dC dI post B A) args s mc ms A) (F0 m pc ls [.long v]) :=
  W.widen h1 h2 (W.lret hx hb hr (fun t ht hW => ⟨⟨v, u, rfl, hp, by rw [ht]; exact hP, hD⟩, hS.F ht⟩) hS.2.2 hdg hlk)
theorem k_vret (hx : p.tables.exec = Jvm.exec) (hb : c.code = cc) (hr : meth.sig.returnType = none) (hlk : meth.locks = false) {post : S → Prop} {B : S → va_W} (u : S) (hS : va_S A s.heap H locs) (hp : post u) (hP : va_P (dC, dI) vwCl (B u) H) (hD : va_D A (B u)) (h1 : cells ≤ mc) (h2 : slots ≤ ms) (hdg : decode cc pc = .ok (.return_, 1)) :
    W p l e R s m args below meth c H locs cells slots (MQ below (k_Qv dC dI post B A) args s mc ms A) (F0 m pc ls []) :=
  W.widen h1 h2 (W.vret hx hb hr (fun t ht hW => ⟨⟨u, rfl, hp, by rw [ht]; exact hP, hD⟩, hS.F ht⟩) hS.2.2 hdg hlk)
end KC
/-- a contract out of the walk of its body -/
theorem k_ofW {l : Launch} {y : MethodName} {bytes : ByteArray} {maxL : Nat} {ret : Option FieldType} {rm : Room} {dC : Nat → ClassId} {dI : Nat → Nat → Nat} {cy : Nat → ClassId} {sq : Nat → Nat} {av : List Value} {wc : va_W} {Qc : (Nat → Prop) → Array Value → State → Outcome → State → Prop} (hy : plainName y.cls = true) (hlen : (lg_sl av).length ≤ maxL)
    (body : ∀ (p : Program) (e : Env) (s : State) (m : MethodId) (below : List Frame) (meth : Method) (c : Code) (A : Nat → Prop) (ls : Array Slot) (H : Heap) (locs : List Loc), k_cx p s m av.toArray c bytes maxL y.cls dC dI cy sq → meth.sig.returnType = ret → meth.locks = false → meth.name = y.name → va_P (dC, dI) vwCl wc H → va_D A wc → (∀ q, s.heap.size ≤ q → A q) → va_S A s.heap H locs → lv_has ls maxL (lv_args 0 av) → W p l e rm s m av.toArray below meth c H locs 0 0 (MQ below (Qc A) av.toArray s rm.cells rm.slots A) (F0 m 0 ls [])) :
    k_Met l y bytes maxL ret rm dC dI cy sq av wc Qc := by
  intro sz
  refine Met.ofW (cc := bytes) (maxL := maxL) (ret := ret) hy rfl ?_
  intro p e s m args below meth c s₁ B hml hv
  obtain ⟨rfl, hsz, hP, hK, hD0⟩ := hv
  have hts := atoms_spec (ws := Cond.code y bytes maxL ret :: wsL_law) B.pre
  subst hsz
  have hl := lv_entry av (n := maxL) hlen
  rw [lg_entry_eq]
  exact body p e s m below meth c _ _ s.heap [] ⟨B.exec, B.bytes, hml, findClass_of_methodNamed B.named, fun w h => hts w (List.mem_cons_of_mem _ h), hK⟩ B.returns B.notSynchronized (name_of_methodNamed B.named B.method).1 hP hD0.self (fun q h => Or.inr h) va_S.rf hl
end
section
theorem wd0 : Cond.classLink RL 7 RX9 ∈ wsL_law := List.mem_filter.mpr ⟨List.mem_append_right _ (List.mem_append_left _ (List.mem_of_getElem? (i := 20) (by decide +kernel))), by decide +kernel⟩
theorem wd1 : Cond.instantiable RX9 16 ∈ wsL_law := List.mem_filter.mpr ⟨List.mem_append_right _ (List.mem_append_left _ (List.mem_of_getElem? (i := 21) (by decide +kernel))), by decide +kernel⟩
theorem wd2 : Cond.initialized RX9 ∈ wsL_law := List.mem_filter.mpr ⟨List.mem_append_right _ (List.mem_append_left _ (List.mem_of_getElem? (i := 1) (by decide +kernel))), by decide +kernel⟩
theorem wd3 : Cond.classLink RL 10 RX10 ∈ wsL_law := List.mem_filter.mpr ⟨List.mem_append_right _ (List.mem_append_right _ (List.mem_append_right _ (List.mem_append_right _ (List.mem_append_right _ (List.mem_append_left _ (List.mem_of_getElem? (i := 111) (by decide +kernel))))))), by decide +kernel⟩
theorem wd4 : Cond.instantiable RX10 122 ∈ wsL_law := List.mem_filter.mpr ⟨List.mem_append_right _ (List.mem_append_right _ (List.mem_append_right _ (List.mem_append_right _ (List.mem_append_right _ (List.mem_append_left _ (List.mem_of_getElem? (i := 112) (by decide +kernel))))))), by decide +kernel⟩
theorem wd5 : Cond.initialized RX10 ∈ wsL_law := List.mem_filter.mpr ⟨List.mem_append_right _ (List.mem_append_left _ (List.mem_of_getElem? (i := 11) (by decide +kernel))), by decide +kernel⟩
theorem wd6 : Cond.methodLink RL 9 yX9_init ∈ wsL_law := List.mem_filter.mpr ⟨List.mem_append_right _ (List.mem_append_left _ (List.mem_of_getElem? (i := 22) (by decide +kernel))), by decide +kernel⟩
theorem wd7 : Cond.instanceMethod yX9_init ∈ wsL_law := List.mem_filter.mpr ⟨List.mem_append_right _ (List.mem_append_left _ (List.mem_of_getElem? (i := 23) (by decide +kernel))), by decide +kernel⟩
theorem wd9 : Cond.methodLink RX9 1 objectInit ∈ wsL_law := List.mem_filter.mpr ⟨List.mem_append_right _ (List.mem_append_left _ (List.mem_of_getElem? (i := 25) (by decide +kernel))), by decide +kernel⟩
theorem wd10 : Cond.instanceMethod objectInit ∈ wsL_law := List.mem_filter.mpr ⟨List.mem_append_right _ (List.mem_append_left _ (List.mem_of_getElem? (i := 26) (by decide +kernel))), by decide +kernel⟩
theorem wd12 : Cond.arrayClass .int ∈ wsL_law := List.mem_filter.mpr ⟨List.mem_append_right _ (List.mem_append_left _ (List.mem_of_getElem? (i := 129) (by decide +kernel))), by decide +kernel⟩
theorem wd13 : Cond.fieldLink RX9 9 "PressAndWait" "tape" "[I" ∈ wsL_law := List.mem_filter.mpr ⟨List.mem_append_right _ (List.mem_append_right _ (List.mem_append_left _ (List.mem_of_getElem? (i := 142) (by decide +kernel)))), by decide +kernel⟩
theorem wd14 : Cond.fieldLink RX9 13 "PressAndWait" "tapeSize" "I" ∈ wsL_law := List.mem_filter.mpr ⟨List.mem_append_right _ (List.mem_append_right _ (List.mem_append_left _ (List.mem_of_getElem? (i := 143) (by decide +kernel)))), by decide +kernel⟩
theorem wd15 : Cond.classLink RX9 17 RX4 ∈ wsL_law := List.mem_filter.mpr ⟨List.mem_append_right _ (List.mem_append_left _ (List.mem_of_getElem? (i := 28) (by decide +kernel))), by decide +kernel⟩
theorem wd16 : Cond.instantiable RX4 18 ∈ wsL_law := List.mem_filter.mpr ⟨List.mem_append_right _ (List.mem_append_left _ (List.mem_of_getElem? (i := 29) (by decide +kernel))), by decide +kernel⟩
theorem wd17 : Cond.initialized RX4 ∈ wsL_law := List.mem_filter.mpr ⟨List.mem_append_right _ (List.mem_append_left _ (List.mem_of_getElem? (i := 2) (by decide +kernel))), by decide +kernel⟩
theorem wd18 : Cond.fieldLink RX9 20 "PressAndWait" "plan" "LPressAndWait$Plan;" ∈ wsL_law := List.mem_filter.mpr ⟨List.mem_append_right _ (List.mem_append_right _ (List.mem_append_left _ (List.mem_of_getElem? (i := 144) (by decide +kernel)))), by decide +kernel⟩
theorem wd19 : Cond.fieldLink RX9 24 "PressAndWait" "spare" "LPressAndWait$Plan;" ∈ wsL_law := List.mem_filter.mpr ⟨List.mem_append_right _ (List.mem_append_right _ (List.mem_append_left _ (List.mem_of_getElem? (i := 145) (by decide +kernel)))), by decide +kernel⟩
theorem wd20 : Cond.classLink RX9 27 RX6 ∈ wsL_law := List.mem_filter.mpr ⟨List.mem_append_right _ (List.mem_append_left _ (List.mem_of_getElem? (i := 130) (by decide +kernel))), by decide +kernel⟩
theorem wd21 : Cond.instantiable RX6 4 ∈ wsL_law := List.mem_filter.mpr ⟨List.mem_append_right _ (List.mem_append_left _ (List.mem_of_getElem? (i := 131) (by decide +kernel))), by decide +kernel⟩
theorem wd22 : Cond.initialized RX6 ∈ wsL_law := List.mem_filter.mpr ⟨List.mem_append_right _ (List.mem_append_left _ (List.mem_of_getElem? (i := 3) (by decide +kernel))), by decide +kernel⟩
theorem wd23 : Cond.fieldLink RX9 30 "PressAndWait" "now" "LPressAndWait$State;" ∈ wsL_law := List.mem_filter.mpr ⟨List.mem_append_right _ (List.mem_append_right _ (List.mem_append_left _ (List.mem_of_getElem? (i := 146) (by decide +kernel)))), by decide +kernel⟩
theorem wd24 : Cond.classLink RX9 34 RX2 ∈ wsL_law := List.mem_filter.mpr ⟨List.mem_append_right _ (List.mem_append_left _ (List.mem_of_getElem? (i := 159) (by decide +kernel))), by decide +kernel⟩
theorem wd25 : Cond.instantiable RX2 3 ∈ wsL_law := List.mem_filter.mpr ⟨List.mem_append_right _ (List.mem_append_left _ (List.mem_of_getElem? (i := 160) (by decide +kernel))), by decide +kernel⟩
theorem wd26 : Cond.initialized RX2 ∈ wsL_law := List.mem_filter.mpr ⟨List.mem_append_right _ (List.mem_append_left _ (List.mem_of_getElem? (i := 4) (by decide +kernel))), by decide +kernel⟩
theorem wd27 : Cond.fieldLink RX9 37 "PressAndWait" "history" "LPressAndWait$History;" ∈ wsL_law := List.mem_filter.mpr ⟨List.mem_append_right _ (List.mem_append_right _ (List.mem_append_left _ (List.mem_of_getElem? (i := 147) (by decide +kernel)))), by decide +kernel⟩
theorem wd28 : Cond.classLink RX9 41 RX3 ∈ wsL_law := List.mem_filter.mpr ⟨List.mem_append_right _ (List.mem_append_left _ (List.mem_of_getElem? (i := 179) (by decide +kernel))), by decide +kernel⟩
theorem wd29 : Cond.instantiable RX3 2 ∈ wsL_law := List.mem_filter.mpr ⟨List.mem_append_right _ (List.mem_append_left _ (List.mem_of_getElem? (i := 180) (by decide +kernel))), by decide +kernel⟩
theorem wd30 : Cond.initialized RX3 ∈ wsL_law := List.mem_filter.mpr ⟨List.mem_append_right _ (List.mem_append_left _ (List.mem_of_getElem? (i := 5) (by decide +kernel))), by decide +kernel⟩
theorem wd31 : Cond.fieldLink RX9 44 "PressAndWait" "machine" "LPressAndWait$Machine;" ∈ wsL_law := List.mem_filter.mpr ⟨List.mem_append_right _ (List.mem_append_right _ (List.mem_append_left _ (List.mem_of_getElem? (i := 148) (by decide +kernel)))), by decide +kernel⟩
theorem wd32 : Cond.classLink RX9 48 RX5 ∈ wsL_law := List.mem_filter.mpr ⟨List.mem_append_right _ (List.mem_append_left _ (List.mem_of_getElem? (i := 193) (by decide +kernel))), by decide +kernel⟩
theorem wd33 : Cond.instantiable RX5 9 ∈ wsL_law := List.mem_filter.mpr ⟨List.mem_append_right _ (List.mem_append_left _ (List.mem_of_getElem? (i := 194) (by decide +kernel))), by decide +kernel⟩
theorem wd34 : Cond.initialized RX5 ∈ wsL_law := List.mem_filter.mpr ⟨List.mem_append_right _ (List.mem_append_left _ (List.mem_of_getElem? (i := 6) (by decide +kernel))), by decide +kernel⟩
theorem wd35 : Cond.fieldLink RX9 53 "PressAndWait" "reader" "LPressAndWait$Reader;" ∈ wsL_law := List.mem_filter.mpr ⟨List.mem_append_right _ (List.mem_append_right _ (List.mem_append_left _ (List.mem_of_getElem? (i := 149) (by decide +kernel)))), by decide +kernel⟩
theorem wd36 : Cond.classLink RX9 57 RX7 ∈ wsL_law := List.mem_filter.mpr ⟨List.mem_append_right _ (List.mem_append_left _ (List.mem_of_getElem? (i := 229) (by decide +kernel))), by decide +kernel⟩
theorem wd37 : Cond.instantiable RX7 17 ∈ wsL_law := List.mem_filter.mpr ⟨List.mem_append_right _ (List.mem_append_left _ (List.mem_of_getElem? (i := 230) (by decide +kernel))), by decide +kernel⟩
theorem wd38 : Cond.initialized RX7 ∈ wsL_law := List.mem_filter.mpr ⟨List.mem_append_right _ (List.mem_append_left _ (List.mem_of_getElem? (i := 7) (by decide +kernel))), by decide +kernel⟩
theorem wd39 : Cond.fieldLink RX9 62 "PressAndWait" "street" "LPressAndWait$Street;" ∈ wsL_law := List.mem_filter.mpr ⟨List.mem_append_right _ (List.mem_append_right _ (List.mem_append_left _ (List.mem_of_getElem? (i := 150) (by decide +kernel)))), by decide +kernel⟩
theorem wd40 : Cond.classLink RX9 66 RX1 ∈ wsL_law := List.mem_filter.mpr ⟨List.mem_append_right _ (List.mem_append_right _ (List.mem_append_left _ (List.mem_of_getElem? (i := 54) (by decide +kernel)))), by decide +kernel⟩
theorem wd41 : Cond.instantiable RX1 3 ∈ wsL_law := List.mem_filter.mpr ⟨List.mem_append_right _ (List.mem_append_right _ (List.mem_append_left _ (List.mem_of_getElem? (i := 55) (by decide +kernel)))), by decide +kernel⟩
theorem wd42 : Cond.initialized RX1 ∈ wsL_law := List.mem_filter.mpr ⟨List.mem_append_right _ (List.mem_append_left _ (List.mem_of_getElem? (i := 8) (by decide +kernel))), by decide +kernel⟩
theorem wd43 : Cond.fieldLink RX9 71 "PressAndWait" "choice" "LPressAndWait$Choice;" ∈ wsL_law := List.mem_filter.mpr ⟨List.mem_append_right _ (List.mem_append_right _ (List.mem_append_left _ (List.mem_of_getElem? (i := 151) (by decide +kernel)))), by decide +kernel⟩
theorem wd44 : Cond.classLink RX9 75 RX0 ∈ wsL_law := List.mem_filter.mpr ⟨List.mem_append_right _ (List.mem_append_right _ (List.mem_append_left _ (List.mem_of_getElem? (i := 70) (by decide +kernel)))), by decide +kernel⟩
theorem wd45 : Cond.instantiable RX0 5 ∈ wsL_law := List.mem_filter.mpr ⟨List.mem_append_right _ (List.mem_append_right _ (List.mem_append_left _ (List.mem_of_getElem? (i := 71) (by decide +kernel)))), by decide +kernel⟩
theorem wd46 : Cond.initialized RX0 ∈ wsL_law := List.mem_filter.mpr ⟨List.mem_append_right _ (List.mem_append_left _ (List.mem_of_getElem? (i := 9) (by decide +kernel))), by decide +kernel⟩
theorem wd47 : Cond.fieldLink RX9 78 "PressAndWait" "ahead" "LPressAndWait$Ahead;" ∈ wsL_law := List.mem_filter.mpr ⟨List.mem_append_right _ (List.mem_append_right _ (List.mem_append_left _ (List.mem_of_getElem? (i := 152) (by decide +kernel)))), by decide +kernel⟩
theorem wd48 : Cond.classLink RX9 82 RX8 ∈ wsL_law := List.mem_filter.mpr ⟨List.mem_append_right _ (List.mem_append_right _ (List.mem_append_left _ (List.mem_of_getElem? (i := 96) (by decide +kernel)))), by decide +kernel⟩
theorem wd49 : Cond.instantiable RX8 11 ∈ wsL_law := List.mem_filter.mpr ⟨List.mem_append_right _ (List.mem_append_right _ (List.mem_append_left _ (List.mem_of_getElem? (i := 97) (by decide +kernel)))), by decide +kernel⟩
theorem wd50 : Cond.initialized RX8 ∈ wsL_law := List.mem_filter.mpr ⟨List.mem_append_right _ (List.mem_append_left _ (List.mem_of_getElem? (i := 10) (by decide +kernel))), by decide +kernel⟩
theorem wd51 : Cond.fieldLink RX9 85 "PressAndWait" "watch" "LPressAndWait$Watch;" ∈ wsL_law := List.mem_filter.mpr ⟨List.mem_append_right _ (List.mem_append_right _ (List.mem_append_left _ (List.mem_of_getElem? (i := 153) (by decide +kernel)))), by decide +kernel⟩
theorem wd52 : Cond.fieldLink RX9 89 "PressAndWait" "octets" "[I" ∈ wsL_law := List.mem_filter.mpr ⟨List.mem_append_right _ (List.mem_append_right _ (List.mem_append_left _ (List.mem_of_getElem? (i := 154) (by decide +kernel)))), by decide +kernel⟩
theorem wd53 : Cond.fieldLink RX9 92 "PressAndWait" "octetCount" "I" ∈ wsL_law := List.mem_filter.mpr ⟨List.mem_append_right _ (List.mem_append_right _ (List.mem_append_left _ (List.mem_of_getElem? (i := 155) (by decide +kernel)))), by decide +kernel⟩
theorem wd54 : Cond.fieldLink RX9 95 "PressAndWait" "refusals" "[I" ∈ wsL_law := List.mem_filter.mpr ⟨List.mem_append_right _ (List.mem_append_right _ (List.mem_append_left _ (List.mem_of_getElem? (i := 156) (by decide +kernel)))), by decide +kernel⟩
theorem wd55 : Cond.fieldLink RX9 98 "PressAndWait" "drawn" "J" ∈ wsL_law := List.mem_filter.mpr ⟨List.mem_append_right _ (List.mem_append_right _ (List.mem_append_left _ (List.mem_of_getElem? (i := 157) (by decide +kernel)))), by decide +kernel⟩
theorem wd56 : Cond.instanceMethod yX4_init ∈ wsL_law := List.mem_filter.mpr ⟨List.mem_append_right _ (List.mem_append_left _ (List.mem_of_getElem? (i := 31) (by decide +kernel))), by decide +kernel⟩
theorem wd58 : Cond.methodLink RX4 3 objectInit ∈ wsL_law := List.mem_filter.mpr ⟨List.mem_append_right _ (List.mem_append_left _ (List.mem_of_getElem? (i := 33) (by decide +kernel))), by decide +kernel⟩
theorem wd59 : Cond.fieldLink RX4 9 "PressAndWait$Plan" "calm" "[I" ∈ wsL_law := List.mem_filter.mpr ⟨List.mem_append_right _ (List.mem_append_left _ (List.mem_of_getElem? (i := 54) (by decide +kernel))), by decide +kernel⟩
theorem wd60 : Cond.fieldLink RX4 15 "PressAndWait$Plan" "pace" "[I" ∈ wsL_law := List.mem_filter.mpr ⟨List.mem_append_right _ (List.mem_append_left _ (List.mem_of_getElem? (i := 58) (by decide +kernel))), by decide +kernel⟩
theorem wd61 : Cond.fieldLink RX4 18 "PressAndWait$Plan" "trusts" "[I" ∈ wsL_law := List.mem_filter.mpr ⟨List.mem_append_right _ (List.mem_append_left _ (List.mem_of_getElem? (i := 62) (by decide +kernel))), by decide +kernel⟩
theorem wd62 : Cond.fieldLink RX4 21 "PressAndWait$Plan" "kindOf" "[I" ∈ wsL_law := List.mem_filter.mpr ⟨List.mem_append_right _ (List.mem_append_left _ (List.mem_of_getElem? (i := 69) (by decide +kernel))), by decide +kernel⟩
theorem wd63 : Cond.fieldLink RX4 24 "PressAndWait$Plan" "comesAt" "[I" ∈ wsL_law := List.mem_filter.mpr ⟨List.mem_append_right _ (List.mem_append_left _ (List.mem_of_getElem? (i := 73) (by decide +kernel))), by decide +kernel⟩
theorem wd64 : Cond.fieldLink RX4 27 "PressAndWait$Plan" "comers" "[I" ∈ wsL_law := List.mem_filter.mpr ⟨List.mem_append_right _ (List.mem_append_left _ (List.mem_of_getElem? (i := 77) (by decide +kernel))), by decide +kernel⟩
theorem wd65 : Cond.fieldLink RX4 30 "PressAndWait$Plan" "names" "[I" ∈ wsL_law := List.mem_filter.mpr ⟨List.mem_append_right _ (List.mem_append_left _ (List.mem_of_getElem? (i := 79) (by decide +kernel))), by decide +kernel⟩
theorem wd66 : Cond.fieldLink RX4 33 "PressAndWait$Plan" "code" "[I" ∈ wsL_law := List.mem_filter.mpr ⟨List.mem_append_right _ (List.mem_append_left _ (List.mem_of_getElem? (i := 82) (by decide +kernel))), by decide +kernel⟩
theorem wd67 : Cond.fieldLink RX4 36 "PressAndWait$Plan" "spans" "[I" ∈ wsL_law := List.mem_filter.mpr ⟨List.mem_append_right _ (List.mem_append_left _ (List.mem_of_getElem? (i := 89) (by decide +kernel))), by decide +kernel⟩
theorem wd68 : Cond.instanceMethod yX6_init ∈ wsL_law := List.mem_filter.mpr ⟨List.mem_append_right _ (List.mem_append_left _ (List.mem_of_getElem? (i := 133) (by decide +kernel))), by decide +kernel⟩
theorem wd70 : Cond.methodLink RX6 3 objectInit ∈ wsL_law := List.mem_filter.mpr ⟨List.mem_append_right _ (List.mem_append_left _ (List.mem_of_getElem? (i := 135) (by decide +kernel))), by decide +kernel⟩
theorem wd71 : Cond.fieldLink RX6 9 "PressAndWait$State" "day" "I" ∈ wsL_law := List.mem_filter.mpr ⟨List.mem_append_right _ (List.mem_append_left _ (List.mem_of_getElem? (i := 136) (by decide +kernel))), by decide +kernel⟩
theorem wd72 : Cond.fieldLink RX6 15 "PressAndWait$State" "rule" "I" ∈ wsL_law := List.mem_filter.mpr ⟨List.mem_append_right _ (List.mem_append_left _ (List.mem_of_getElem? (i := 139) (by decide +kernel))), by decide +kernel⟩
theorem wd73 : Cond.fieldLink RX6 18 "PressAndWait$State" "green" "I" ∈ wsL_law := List.mem_filter.mpr ⟨List.mem_append_right _ (List.mem_append_left _ (List.mem_of_getElem? (i := 143) (by decide +kernel))), by decide +kernel⟩
theorem wd74 : Cond.fieldLink RX6 21 "PressAndWait$State" "trusts" "[I" ∈ wsL_law := List.mem_filter.mpr ⟨List.mem_append_right _ (List.mem_append_left _ (List.mem_of_getElem? (i := 146) (by decide +kernel))), by decide +kernel⟩
theorem wd75 : Cond.methodLink RX9 36 yX2_init ∈ wsL_law := List.mem_filter.mpr ⟨List.mem_append_right _ (List.mem_append_left _ (List.mem_of_getElem? (i := 161) (by decide +kernel))), by decide +kernel⟩
theorem wd76 : Cond.instanceMethod yX2_init ∈ wsL_law := List.mem_filter.mpr ⟨List.mem_append_right _ (List.mem_append_left _ (List.mem_of_getElem? (i := 162) (by decide +kernel))), by decide +kernel⟩
theorem wd78 : Cond.methodLink RX2 3 objectInit ∈ wsL_law := List.mem_filter.mpr ⟨List.mem_append_right _ (List.mem_append_left _ (List.mem_of_getElem? (i := 164) (by decide +kernel))), by decide +kernel⟩
theorem wd79 : Cond.classLink RX2 9 RX6 ∈ wsL_law := List.mem_filter.mpr ⟨List.mem_append_right _ (List.mem_append_left _ (List.mem_of_getElem? (i := 165) (by decide +kernel))), by decide +kernel⟩
theorem wd80 : Cond.fieldLink RX2 11 "PressAndWait$History" "ring" "[LPressAndWait$State;" ∈ wsL_law := List.mem_filter.mpr ⟨List.mem_append_right _ (List.mem_append_left _ (List.mem_of_getElem? (i := 168) (by decide +kernel))), by decide +kernel⟩
theorem wd81 : Cond.fieldLink RX2 17 "PressAndWait$History" "next" "I" ∈ wsL_law := List.mem_filter.mpr ⟨List.mem_append_right _ (List.mem_append_left _ (List.mem_of_getElem? (i := 169) (by decide +kernel))), by decide +kernel⟩
theorem wd82 : Cond.fieldLink RX2 21 "PressAndWait$History" "count" "I" ∈ wsL_law := List.mem_filter.mpr ⟨List.mem_append_right _ (List.mem_append_left _ (List.mem_of_getElem? (i := 170) (by decide +kernel))), by decide +kernel⟩
theorem wd83 : Cond.instanceMethod yX3_init ∈ wsL_law := List.mem_filter.mpr ⟨List.mem_append_right _ (List.mem_append_left _ (List.mem_of_getElem? (i := 182) (by decide +kernel))), by decide +kernel⟩
theorem wd85 : Cond.methodLink RX3 3 objectInit ∈ wsL_law := List.mem_filter.mpr ⟨List.mem_append_right _ (List.mem_append_left _ (List.mem_of_getElem? (i := 184) (by decide +kernel))), by decide +kernel⟩
theorem wd86 : Cond.fieldLink RX3 9 "PressAndWait$Machine" "facts" "[I" ∈ wsL_law := List.mem_filter.mpr ⟨List.mem_append_right _ (List.mem_append_left _ (List.mem_of_getElem? (i := 185) (by decide +kernel))), by decide +kernel⟩
theorem wd87 : Cond.fieldLink RX3 15 "PressAndWait$Machine" "stack" "[I" ∈ wsL_law := List.mem_filter.mpr ⟨List.mem_append_right _ (List.mem_append_left _ (List.mem_of_getElem? (i := 187) (by decide +kernel))), by decide +kernel⟩
theorem wd88 : Cond.methodLink RX9 50 yX5_init ∈ wsL_law := List.mem_filter.mpr ⟨List.mem_append_right _ (List.mem_append_left _ (List.mem_of_getElem? (i := 195) (by decide +kernel))), by decide +kernel⟩
theorem wd89 : Cond.instanceMethod yX5_init ∈ wsL_law := List.mem_filter.mpr ⟨List.mem_append_right _ (List.mem_append_left _ (List.mem_of_getElem? (i := 196) (by decide +kernel))), by decide +kernel⟩
theorem wd91 : Cond.methodLink RX5 5 objectInit ∈ wsL_law := List.mem_filter.mpr ⟨List.mem_append_right _ (List.mem_append_left _ (List.mem_of_getElem? (i := 198) (by decide +kernel))), by decide +kernel⟩
theorem wd92 : Cond.fieldLink RX5 11 "PressAndWait$Reader" "length" "I" ∈ wsL_law := List.mem_filter.mpr ⟨List.mem_append_right _ (List.mem_append_left _ (List.mem_of_getElem? (i := 200) (by decide +kernel))), by decide +kernel⟩
theorem wd93 : Cond.fieldLink RX5 15 "PressAndWait$Reader" "at" "I" ∈ wsL_law := List.mem_filter.mpr ⟨List.mem_append_right _ (List.mem_append_left _ (List.mem_of_getElem? (i := 201) (by decide +kernel))), by decide +kernel⟩
theorem wd94 : Cond.fieldLink RX5 18 "PressAndWait$Reader" "behind" "I" ∈ wsL_law := List.mem_filter.mpr ⟨List.mem_append_right _ (List.mem_append_left _ (List.mem_of_getElem? (i := 202) (by decide +kernel))), by decide +kernel⟩
theorem wd95 : Cond.fieldLink RX5 21 "PressAndWait$Reader" "sort" "I" ∈ wsL_law := List.mem_filter.mpr ⟨List.mem_append_right _ (List.mem_append_left _ (List.mem_of_getElem? (i := 203) (by decide +kernel))), by decide +kernel⟩
theorem wd96 : Cond.fieldLink RX5 24 "PressAndWait$Reader" "allowed" "I" ∈ wsL_law := List.mem_filter.mpr ⟨List.mem_append_right _ (List.mem_append_left _ (List.mem_of_getElem? (i := 204) (by decide +kernel))), by decide +kernel⟩
theorem wd97 : Cond.fieldLink RX5 27 "PressAndWait$Reader" "fault" "I" ∈ wsL_law := List.mem_filter.mpr ⟨List.mem_append_right _ (List.mem_append_left _ (List.mem_of_getElem? (i := 206) (by decide +kernel))), by decide +kernel⟩
theorem wd98 : Cond.fieldLink RX5 30 "PressAndWait$Reader" "place" "I" ∈ wsL_law := List.mem_filter.mpr ⟨List.mem_append_right _ (List.mem_append_left _ (List.mem_of_getElem? (i := 208) (by decide +kernel))), by decide +kernel⟩
theorem wd99 : Cond.fieldLink RX5 33 "PressAndWait$Reader" "text" "[I" ∈ wsL_law := List.mem_filter.mpr ⟨List.mem_append_right _ (List.mem_append_left _ (List.mem_of_getElem? (i := 199) (by decide +kernel))), by decide +kernel⟩
theorem wd100 : Cond.fieldLink RX5 37 "PressAndWait$Reader" "plan" "LPressAndWait$Plan;" ∈ wsL_law := List.mem_filter.mpr ⟨List.mem_append_right _ (List.mem_append_left _ (List.mem_of_getElem? (i := 205) (by decide +kernel))), by decide +kernel⟩
theorem wd101 : Cond.methodLink RX9 59 yX7_init ∈ wsL_law := List.mem_filter.mpr ⟨List.mem_append_right _ (List.mem_append_left _ (List.mem_of_getElem? (i := 231) (by decide +kernel))), by decide +kernel⟩
theorem wd102 : Cond.instanceMethod yX7_init ∈ wsL_law := List.mem_filter.mpr ⟨List.mem_append_right _ (List.mem_append_left _ (List.mem_of_getElem? (i := 232) (by decide +kernel))), by decide +kernel⟩
theorem wd104 : Cond.methodLink RX7 3 objectInit ∈ wsL_law := List.mem_filter.mpr ⟨List.mem_append_right _ (List.mem_append_left _ (List.mem_of_getElem? (i := 234) (by decide +kernel))), by decide +kernel⟩
theorem wd105 : Cond.fieldLink RX7 9 "PressAndWait$Street" "day" "I" ∈ wsL_law := List.mem_filter.mpr ⟨List.mem_append_right _ (List.mem_append_left _ (List.mem_of_getElem? (i := 237) (by decide +kernel))), by decide +kernel⟩
theorem wd106 : Cond.fieldLink RX7 15 "PressAndWait$Street" "trusts" "[I" ∈ wsL_law := List.mem_filter.mpr ⟨List.mem_append_right _ (List.mem_append_left _ (List.mem_of_getElem? (i := 238) (by decide +kernel))), by decide +kernel⟩
theorem wd107 : Cond.fieldLink RX7 19 "PressAndWait$Street" "rule" "I" ∈ wsL_law := List.mem_filter.mpr ⟨List.mem_append_right _ (List.mem_append_left _ (List.mem_of_getElem? (i := 239) (by decide +kernel))), by decide +kernel⟩
theorem wd108 : Cond.fieldLink RX7 22 "PressAndWait$Street" "green" "I" ∈ wsL_law := List.mem_filter.mpr ⟨List.mem_append_right _ (List.mem_append_right _ (List.mem_append_left _ (List.mem_of_getElem? (i := 0) (by decide +kernel)))), by decide +kernel⟩
theorem wd109 : Cond.fieldLink RX7 25 "PressAndWait$Street" "absent" "I" ∈ wsL_law := List.mem_filter.mpr ⟨List.mem_append_right _ (List.mem_append_right _ (List.mem_append_left _ (List.mem_of_getElem? (i := 1) (by decide +kernel)))), by decide +kernel⟩
theorem wd110 : Cond.fieldLink RX7 28 "PressAndWait$Street" "asksReds" "Z" ∈ wsL_law := List.mem_filter.mpr ⟨List.mem_append_right _ (List.mem_append_right _ (List.mem_append_left _ (List.mem_of_getElem? (i := 2) (by decide +kernel)))), by decide +kernel⟩
theorem wd111 : Cond.fieldLink RX7 32 "PressAndWait$Street" "cars" "[I" ∈ wsL_law := List.mem_filter.mpr ⟨List.mem_append_right _ (List.mem_append_right _ (List.mem_append_left _ (List.mem_of_getElem? (i := 3) (by decide +kernel)))), by decide +kernel⟩
theorem wd112 : Cond.fieldLink RX7 35 "PressAndWait$Street" "gaps" "[I" ∈ wsL_law := List.mem_filter.mpr ⟨List.mem_append_right _ (List.mem_append_right _ (List.mem_append_left _ (List.mem_of_getElem? (i := 5) (by decide +kernel)))), by decide +kernel⟩
theorem wd113 : Cond.fieldLink RX7 38 "PressAndWait$Street" "known" "[I" ∈ wsL_law := List.mem_filter.mpr ⟨List.mem_append_right _ (List.mem_append_right _ (List.mem_append_left _ (List.mem_of_getElem? (i := 6) (by decide +kernel)))), by decide +kernel⟩
theorem wd114 : Cond.fieldLink RX7 41 "PressAndWait$Street" "left" "[I" ∈ wsL_law := List.mem_filter.mpr ⟨List.mem_append_right _ (List.mem_append_right _ (List.mem_append_left _ (List.mem_of_getElem? (i := 7) (by decide +kernel)))), by decide +kernel⟩
theorem wd115 : Cond.fieldLink RX7 44 "PressAndWait$Street" "leaves" "[I" ∈ wsL_law := List.mem_filter.mpr ⟨List.mem_append_right _ (List.mem_append_right _ (List.mem_append_left _ (List.mem_of_getElem? (i := 9) (by decide +kernel)))), by decide +kernel⟩
theorem wd116 : Cond.fieldLink RX7 47 "PressAndWait$Street" "pressed" "I" ∈ wsL_law := List.mem_filter.mpr ⟨List.mem_append_right _ (List.mem_append_right _ (List.mem_append_left _ (List.mem_of_getElem? (i := 12) (by decide +kernel)))), by decide +kernel⟩
theorem wd117 : Cond.fieldLink RX7 50 "PressAndWait$Street" "crossed" "I" ∈ wsL_law := List.mem_filter.mpr ⟨List.mem_append_right _ (List.mem_append_right _ (List.mem_append_left _ (List.mem_of_getElem? (i := 14) (by decide +kernel)))), by decide +kernel⟩
theorem wd118 : Cond.fieldLink RX7 53 "PressAndWait$Street" "went" "I" ∈ wsL_law := List.mem_filter.mpr ⟨List.mem_append_right _ (List.mem_append_right _ (List.mem_append_left _ (List.mem_of_getElem? (i := 15) (by decide +kernel)))), by decide +kernel⟩
theorem wd119 : Cond.fieldLink RX7 56 "PressAndWait$Street" "harmed" "I" ∈ wsL_law := List.mem_filter.mpr ⟨List.mem_append_right _ (List.mem_append_right _ (List.mem_append_left _ (List.mem_of_getElem? (i := 17) (by decide +kernel)))), by decide +kernel⟩
theorem wd120 : Cond.fieldLink RX7 59 "PressAndWait$Street" "machine" "LPressAndWait$Machine;" ∈ wsL_law := List.mem_filter.mpr ⟨List.mem_append_right _ (List.mem_append_left _ (List.mem_of_getElem? (i := 235) (by decide +kernel))), by decide +kernel⟩
theorem wd121 : Cond.fieldLink RX7 63 "PressAndWait$Street" "plan" "LPressAndWait$Plan;" ∈ wsL_law := List.mem_filter.mpr ⟨List.mem_append_right _ (List.mem_append_left _ (List.mem_of_getElem? (i := 236) (by decide +kernel))), by decide +kernel⟩
theorem wd122 : Cond.methodLink RX9 68 yX1_init ∈ wsL_law := List.mem_filter.mpr ⟨List.mem_append_right _ (List.mem_append_right _ (List.mem_append_left _ (List.mem_of_getElem? (i := 56) (by decide +kernel)))), by decide +kernel⟩
theorem wd123 : Cond.instanceMethod yX1_init ∈ wsL_law := List.mem_filter.mpr ⟨List.mem_append_right _ (List.mem_append_right _ (List.mem_append_left _ (List.mem_of_getElem? (i := 57) (by decide +kernel)))), by decide +kernel⟩
theorem wd125 : Cond.methodLink RX1 3 objectInit ∈ wsL_law := List.mem_filter.mpr ⟨List.mem_append_right _ (List.mem_append_right _ (List.mem_append_left _ (List.mem_of_getElem? (i := 59) (by decide +kernel)))), by decide +kernel⟩
theorem wd126 : Cond.fieldLink RX1 11 "PressAndWait$Choice" "table" "[I" ∈ wsL_law := List.mem_filter.mpr ⟨List.mem_append_right _ (List.mem_append_right _ (List.mem_append_left _ (List.mem_of_getElem? (i := 61) (by decide +kernel)))), by decide +kernel⟩
theorem wd127 : Cond.fieldLink RX1 15 "PressAndWait$Choice" "tableKnown" "Z" ∈ wsL_law := List.mem_filter.mpr ⟨List.mem_append_right _ (List.mem_append_right _ (List.mem_append_left _ (List.mem_of_getElem? (i := 62) (by decide +kernel)))), by decide +kernel⟩
theorem wd128 : Cond.fieldLink RX1 19 "PressAndWait$Choice" "street" "LPressAndWait$Street;" ∈ wsL_law := List.mem_filter.mpr ⟨List.mem_append_right _ (List.mem_append_right _ (List.mem_append_left _ (List.mem_of_getElem? (i := 60) (by decide +kernel)))), by decide +kernel⟩
theorem wd129 : Cond.methodLink RX9 77 yX0_init ∈ wsL_law := List.mem_filter.mpr ⟨List.mem_append_right _ (List.mem_append_right _ (List.mem_append_left _ (List.mem_of_getElem? (i := 72) (by decide +kernel)))), by decide +kernel⟩
theorem wd130 : Cond.instanceMethod yX0_init ∈ wsL_law := List.mem_filter.mpr ⟨List.mem_append_right _ (List.mem_append_right _ (List.mem_append_left _ (List.mem_of_getElem? (i := 73) (by decide +kernel)))), by decide +kernel⟩
theorem wd132 : Cond.methodLink RX0 3 objectInit ∈ wsL_law := List.mem_filter.mpr ⟨List.mem_append_right _ (List.mem_append_right _ (List.mem_append_left _ (List.mem_of_getElem? (i := 75) (by decide +kernel)))), by decide +kernel⟩
theorem wd133 : Cond.classLink RX0 9 RX6 ∈ wsL_law := List.mem_filter.mpr ⟨List.mem_append_right _ (List.mem_append_right _ (List.mem_append_left _ (List.mem_of_getElem? (i := 76) (by decide +kernel)))), by decide +kernel⟩
theorem wd134 : Cond.fieldLink RX0 12 "PressAndWait$Ahead" "state" "LPressAndWait$State;" ∈ wsL_law := List.mem_filter.mpr ⟨List.mem_append_right _ (List.mem_append_right _ (List.mem_append_left _ (List.mem_of_getElem? (i := 79) (by decide +kernel)))), by decide +kernel⟩
theorem wd135 : Cond.fieldLink RX0 18 "PressAndWait$Ahead" "told" "[I" ∈ wsL_law := List.mem_filter.mpr ⟨List.mem_append_right _ (List.mem_append_right _ (List.mem_append_left _ (List.mem_of_getElem? (i := 80) (by decide +kernel)))), by decide +kernel⟩
theorem wd136 : Cond.fieldLink RX0 22 "PressAndWait$Ahead" "trusts" "[I" ∈ wsL_law := List.mem_filter.mpr ⟨List.mem_append_right _ (List.mem_append_right _ (List.mem_append_left _ (List.mem_of_getElem? (i := 82) (by decide +kernel)))), by decide +kernel⟩
theorem wd137 : Cond.fieldLink RX0 25 "PressAndWait$Ahead" "known" "I" ∈ wsL_law := List.mem_filter.mpr ⟨List.mem_append_right _ (List.mem_append_right _ (List.mem_append_left _ (List.mem_of_getElem? (i := 84) (by decide +kernel)))), by decide +kernel⟩
theorem wd138 : Cond.fieldLink RX0 29 "PressAndWait$Ahead" "street" "LPressAndWait$Street;" ∈ wsL_law := List.mem_filter.mpr ⟨List.mem_append_right _ (List.mem_append_right _ (List.mem_append_left _ (List.mem_of_getElem? (i := 78) (by decide +kernel)))), by decide +kernel⟩
theorem wd139 : Cond.methodLink RX9 84 yX8_init ∈ wsL_law := List.mem_filter.mpr ⟨List.mem_append_right _ (List.mem_append_right _ (List.mem_append_left _ (List.mem_of_getElem? (i := 98) (by decide +kernel)))), by decide +kernel⟩
theorem wd140 : Cond.instanceMethod yX8_init ∈ wsL_law := List.mem_filter.mpr ⟨List.mem_append_right _ (List.mem_append_right _ (List.mem_append_left _ (List.mem_of_getElem? (i := 99) (by decide +kernel)))), by decide +kernel⟩
theorem wd142 : Cond.methodLink RX8 3 objectInit ∈ wsL_law := List.mem_filter.mpr ⟨List.mem_append_right _ (List.mem_append_right _ (List.mem_append_left _ (List.mem_of_getElem? (i := 101) (by decide +kernel)))), by decide +kernel⟩
theorem wd143 : Cond.fieldLink RX8 9 "PressAndWait$Watch" "seenWalker" "[I" ∈ wsL_law := List.mem_filter.mpr ⟨List.mem_append_right _ (List.mem_append_right _ (List.mem_append_left _ (List.mem_of_getElem? (i := 103) (by decide +kernel)))), by decide +kernel⟩
theorem wd144 : Cond.fieldLink RX8 15 "PressAndWait$Watch" "seenSecond" "[I" ∈ wsL_law := List.mem_filter.mpr ⟨List.mem_append_right _ (List.mem_append_right _ (List.mem_append_left _ (List.mem_of_getElem? (i := 104) (by decide +kernel)))), by decide +kernel⟩
theorem wd145 : Cond.fieldLink RX8 18 "PressAndWait$Watch" "rows" "I" ∈ wsL_law := List.mem_filter.mpr ⟨List.mem_append_right _ (List.mem_append_right _ (List.mem_append_left _ (List.mem_of_getElem? (i := 105) (by decide +kernel)))), by decide +kernel⟩
theorem wd146 : Cond.fieldLink RX8 22 "PressAndWait$Watch" "compared" "Z" ∈ wsL_law := List.mem_filter.mpr ⟨List.mem_append_right _ (List.mem_append_right _ (List.mem_append_left _ (List.mem_of_getElem? (i := 107) (by decide +kernel)))), by decide +kernel⟩
theorem wd147 : Cond.fieldLink RX8 26 "PressAndWait$Watch" "seconds" "[I" ∈ wsL_law := List.mem_filter.mpr ⟨List.mem_append_right _ (List.mem_append_right _ (List.mem_append_left _ (List.mem_of_getElem? (i := 108) (by decide +kernel)))), by decide +kernel⟩
theorem wd148 : Cond.fieldLink RX8 29 "PressAndWait$Watch" "found" "I" ∈ wsL_law := List.mem_filter.mpr ⟨List.mem_append_right _ (List.mem_append_right _ (List.mem_append_left _ (List.mem_of_getElem? (i := 109) (by decide +kernel)))), by decide +kernel⟩
theorem wd149 : Cond.fieldLink RX8 32 "PressAndWait$Watch" "foundRules" "I" ∈ wsL_law := List.mem_filter.mpr ⟨List.mem_append_right _ (List.mem_append_right _ (List.mem_append_left _ (List.mem_of_getElem? (i := 111) (by decide +kernel)))), by decide +kernel⟩
theorem wd150 : Cond.fieldLink RX8 35 "PressAndWait$Watch" "foundGreen" "I" ∈ wsL_law := List.mem_filter.mpr ⟨List.mem_append_right _ (List.mem_append_right _ (List.mem_append_left _ (List.mem_of_getElem? (i := 113) (by decide +kernel)))), by decide +kernel⟩
theorem wd151 : Cond.fieldLink RX8 38 "PressAndWait$Watch" "chosen" "I" ∈ wsL_law := List.mem_filter.mpr ⟨List.mem_append_right _ (List.mem_append_right _ (List.mem_append_left _ (List.mem_of_getElem? (i := 115) (by decide +kernel)))), by decide +kernel⟩
theorem wd152 : Cond.fieldLink RX8 41 "PressAndWait$Watch" "chosenLeft" "I" ∈ wsL_law := List.mem_filter.mpr ⟨List.mem_append_right _ (List.mem_append_right _ (List.mem_append_left _ (List.mem_of_getElem? (i := 117) (by decide +kernel)))), by decide +kernel⟩
theorem wd153 : Cond.fieldLink RX8 44 "PressAndWait$Watch" "street" "LPressAndWait$Street;" ∈ wsL_law := List.mem_filter.mpr ⟨List.mem_append_right _ (List.mem_append_right _ (List.mem_append_left _ (List.mem_of_getElem? (i := 102) (by decide +kernel)))), by decide +kernel⟩
theorem wd154 : Cond.methodLink RL 12 yX10_init ∈ wsL_law := List.mem_filter.mpr ⟨List.mem_append_right _ (List.mem_append_right _ (List.mem_append_right _ (List.mem_append_right _ (List.mem_append_right _ (List.mem_append_left _ (List.mem_of_getElem? (i := 113) (by decide +kernel))))))), by decide +kernel⟩
theorem wd155 : Cond.instanceMethod yX10_init ∈ wsL_law := List.mem_filter.mpr ⟨List.mem_append_right _ (List.mem_append_right _ (List.mem_append_right _ (List.mem_append_right _ (List.mem_append_right _ (List.mem_append_left _ (List.mem_of_getElem? (i := 114) (by decide +kernel))))))), by decide +kernel⟩
theorem wd157 : Cond.methodLink RX10 1 objectInit ∈ wsL_law := List.mem_filter.mpr ⟨List.mem_append_right _ (List.mem_append_right _ (List.mem_append_right _ (List.mem_append_right _ (List.mem_append_right _ (List.mem_append_left _ (List.mem_of_getElem? (i := 116) (by decide +kernel))))))), by decide +kernel⟩
theorem wd158 : Cond.fieldLink RX10 7 "PressAndWaitModel" "tape" "[I" ∈ wsL_law := List.mem_filter.mpr ⟨List.mem_append_right _ (List.mem_append_right _ (List.mem_append_right _ (List.mem_append_right _ (List.mem_append_right _ (List.mem_append_left _ (List.mem_of_getElem? (i := 117) (by decide +kernel))))))), by decide +kernel⟩
theorem wd159 : Cond.fieldLink RX10 13 "PressAndWaitModel" "faultPlace" "I" ∈ wsL_law := List.mem_filter.mpr ⟨List.mem_append_right _ (List.mem_append_right _ (List.mem_append_right _ (List.mem_append_right _ (List.mem_append_right _ (List.mem_append_left _ (List.mem_of_getElem? (i := 125) (by decide +kernel))))))), by decide +kernel⟩
theorem wd160 : Cond.fieldLink RX10 17 "PressAndWaitModel" "refused" "[I" ∈ wsL_law := List.mem_filter.mpr ⟨List.mem_append_right _ (List.mem_append_right _ (List.mem_append_right _ (List.mem_append_right _ (List.mem_append_right _ (List.mem_append_left _ (List.mem_of_getElem? (i := 126) (by decide +kernel))))))), by decide +kernel⟩
theorem wd161 : Cond.arrayClass .char ∈ wsL_law := List.mem_filter.mpr ⟨List.mem_append_right _ (List.mem_append_right _ (List.mem_append_right _ (List.mem_append_right _ (List.mem_append_right _ (List.mem_append_right _ (List.mem_append_right _ (List.mem_append_left _ (List.mem_of_getElem? (i := 4) (by decide +kernel))))))))), by decide +kernel⟩
theorem wd162 : Cond.fieldLink RX10 20 "PressAndWaitModel" "cycleWord" "[C" ∈ wsL_law := List.mem_filter.mpr ⟨List.mem_append_right _ (List.mem_append_right _ (List.mem_append_right _ (List.mem_append_right _ (List.mem_append_right _ (List.mem_append_left _ (List.mem_of_getElem? (i := 127) (by decide +kernel))))))), by decide +kernel⟩
theorem wd163 : Cond.fieldLink RX10 24 "PressAndWaitModel" "greenWord" "[C" ∈ wsL_law := List.mem_filter.mpr ⟨List.mem_append_right _ (List.mem_append_right _ (List.mem_append_right _ (List.mem_append_right _ (List.mem_append_right _ (List.mem_append_left _ (List.mem_of_getElem? (i := 128) (by decide +kernel))))))), by decide +kernel⟩
theorem wd164 : Cond.fieldLink RX10 27 "PressAndWaitModel" "ruleWord" "[C" ∈ wsL_law := List.mem_filter.mpr ⟨List.mem_append_right _ (List.mem_append_right _ (List.mem_append_right _ (List.mem_append_right _ (List.mem_append_right _ (List.mem_append_left _ (List.mem_of_getElem? (i := 129) (by decide +kernel))))))), by decide +kernel⟩
theorem wd165 : Cond.fieldLink RX10 30 "PressAndWaitModel" "leastWord" "[C" ∈ wsL_law := List.mem_filter.mpr ⟨List.mem_append_right _ (List.mem_append_right _ (List.mem_append_right _ (List.mem_append_right _ (List.mem_append_right _ (List.mem_append_left _ (List.mem_of_getElem? (i := 130) (by decide +kernel))))))), by decide +kernel⟩
theorem wd166 : Cond.fieldLink RX10 33 "PressAndWaitModel" "kindWord" "[C" ∈ wsL_law := List.mem_filter.mpr ⟨List.mem_append_right _ (List.mem_append_right _ (List.mem_append_right _ (List.mem_append_right _ (List.mem_append_right _ (List.mem_append_left _ (List.mem_of_getElem? (i := 131) (by decide +kernel))))))), by decide +kernel⟩
theorem wd167 : Cond.fieldLink RX10 36 "PressAndWaitModel" "calmWord" "[C" ∈ wsL_law := List.mem_filter.mpr ⟨List.mem_append_right _ (List.mem_append_right _ (List.mem_append_right _ (List.mem_append_right _ (List.mem_append_right _ (List.mem_append_left _ (List.mem_of_getElem? (i := 132) (by decide +kernel))))))), by decide +kernel⟩
theorem wd168 : Cond.fieldLink RX10 39 "PressAndWaitModel" "paceWord" "[C" ∈ wsL_law := List.mem_filter.mpr ⟨List.mem_append_right _ (List.mem_append_right _ (List.mem_append_right _ (List.mem_append_right _ (List.mem_append_right _ (List.mem_append_left _ (List.mem_of_getElem? (i := 133) (by decide +kernel))))))), by decide +kernel⟩
theorem wd169 : Cond.fieldLink RX10 42 "PressAndWaitModel" "trustsWord" "[C" ∈ wsL_law := List.mem_filter.mpr ⟨List.mem_append_right _ (List.mem_append_right _ (List.mem_append_right _ (List.mem_append_right _ (List.mem_append_right _ (List.mem_append_left _ (List.mem_of_getElem? (i := 134) (by decide +kernel))))))), by decide +kernel⟩
theorem wd170 : Cond.fieldLink RX10 45 "PressAndWaitModel" "comesWord" "[C" ∈ wsL_law := List.mem_filter.mpr ⟨List.mem_append_right _ (List.mem_append_right _ (List.mem_append_right _ (List.mem_append_right _ (List.mem_append_right _ (List.mem_append_left _ (List.mem_of_getElem? (i := 135) (by decide +kernel))))))), by decide +kernel⟩
theorem wd171 : Cond.fieldLink RX10 48 "PressAndWaitModel" "isWord" "[C" ∈ wsL_law := List.mem_filter.mpr ⟨List.mem_append_right _ (List.mem_append_right _ (List.mem_append_right _ (List.mem_append_right _ (List.mem_append_right _ (List.mem_append_left _ (List.mem_of_getElem? (i := 136) (by decide +kernel))))))), by decide +kernel⟩
theorem wd172 : Cond.fieldLink RX10 51 "PressAndWaitModel" "atWord" "[C" ∈ wsL_law := List.mem_filter.mpr ⟨List.mem_append_right _ (List.mem_append_right _ (List.mem_append_right _ (List.mem_append_right _ (List.mem_append_right _ (List.mem_append_left _ (List.mem_of_getElem? (i := 137) (by decide +kernel))))))), by decide +kernel⟩
theorem wd173 : Cond.fieldLink RX10 54 "PressAndWaitModel" "carWord" "[C" ∈ wsL_law := List.mem_filter.mpr ⟨List.mem_append_right _ (List.mem_append_right _ (List.mem_append_right _ (List.mem_append_right _ (List.mem_append_right _ (List.mem_append_left _ (List.mem_of_getElem? (i := 138) (by decide +kernel))))))), by decide +kernel⟩
theorem wd174 : Cond.fieldLink RX10 57 "PressAndWaitModel" "redWord" "[C" ∈ wsL_law := List.mem_filter.mpr ⟨List.mem_append_right _ (List.mem_append_right _ (List.mem_append_right _ (List.mem_append_right _ (List.mem_append_right _ (List.mem_append_left _ (List.mem_of_getElem? (i := 139) (by decide +kernel))))))), by decide +kernel⟩
theorem wd175 : Cond.fieldLink RX10 60 "PressAndWaitModel" "learnsWord" "[C" ∈ wsL_law := List.mem_filter.mpr ⟨List.mem_append_right _ (List.mem_append_right _ (List.mem_append_right _ (List.mem_append_right _ (List.mem_append_right _ (List.mem_append_left _ (List.mem_of_getElem? (i := 140) (by decide +kernel))))))), by decide +kernel⟩
theorem wd176 : Cond.fieldLink RX10 63 "PressAndWaitModel" "awayWord" "[C" ∈ wsL_law := List.mem_filter.mpr ⟨List.mem_append_right _ (List.mem_append_right _ (List.mem_append_right _ (List.mem_append_right _ (List.mem_append_right _ (List.mem_append_left _ (List.mem_of_getElem? (i := 141) (by decide +kernel))))))), by decide +kernel⟩
theorem wd177 : Cond.fieldLink RX10 66 "PressAndWaitModel" "secondWord" "[C" ∈ wsL_law := List.mem_filter.mpr ⟨List.mem_append_right _ (List.mem_append_right _ (List.mem_append_right _ (List.mem_append_right _ (List.mem_append_right _ (List.mem_append_left _ (List.mem_of_getElem? (i := 142) (by decide +kernel))))))), by decide +kernel⟩
theorem wd178 : Cond.fieldLink RX10 69 "PressAndWaitModel" "dayWord" "[C" ∈ wsL_law := List.mem_filter.mpr ⟨List.mem_append_right _ (List.mem_append_right _ (List.mem_append_right _ (List.mem_append_right _ (List.mem_append_right _ (List.mem_append_left _ (List.mem_of_getElem? (i := 143) (by decide +kernel))))))), by decide +kernel⟩
theorem wd179 : Cond.fieldLink RX10 72 "PressAndWaitModel" "phaseWord" "[C" ∈ wsL_law := List.mem_filter.mpr ⟨List.mem_append_right _ (List.mem_append_right _ (List.mem_append_right _ (List.mem_append_right _ (List.mem_append_right _ (List.mem_append_left _ (List.mem_of_getElem? (i := 144) (by decide +kernel))))))), by decide +kernel⟩
theorem wd180 : Cond.fieldLink RX10 75 "PressAndWaitModel" "waitedWord" "[C" ∈ wsL_law := List.mem_filter.mpr ⟨List.mem_append_right _ (List.mem_append_right _ (List.mem_append_right _ (List.mem_append_right _ (List.mem_append_right _ (List.mem_append_left _ (List.mem_of_getElem? (i := 145) (by decide +kernel))))))), by decide +kernel⟩
theorem wd181 : Cond.fieldLink RX10 78 "PressAndWaitModel" "gapWord" "[C" ∈ wsL_law := List.mem_filter.mpr ⟨List.mem_append_right _ (List.mem_append_right _ (List.mem_append_right _ (List.mem_append_right _ (List.mem_append_right _ (List.mem_append_left _ (List.mem_of_getElem? (i := 146) (by decide +kernel))))))), by decide +kernel⟩
theorem wd182 : Cond.fieldLink RX10 81 "PressAndWaitModel" "redsWord" "[C" ∈ wsL_law := List.mem_filter.mpr ⟨List.mem_append_right _ (List.mem_append_right _ (List.mem_append_right _ (List.mem_append_right _ (List.mem_append_right _ (List.mem_append_left _ (List.mem_of_getElem? (i := 147) (by decide +kernel))))))), by decide +kernel⟩
theorem wd183 : Cond.fieldLink RX10 84 "PressAndWaitModel" "numberWord" "[C" ∈ wsL_law := List.mem_filter.mpr ⟨List.mem_append_right _ (List.mem_append_right _ (List.mem_append_right _ (List.mem_append_right _ (List.mem_append_right _ (List.mem_append_left _ (List.mem_of_getElem? (i := 148) (by decide +kernel))))))), by decide +kernel⟩
theorem wd184 : Cond.fieldLink RX10 87 "PressAndWaitModel" "wentWord" "[C" ∈ wsL_law := List.mem_filter.mpr ⟨List.mem_append_right _ (List.mem_append_right _ (List.mem_append_right _ (List.mem_append_right _ (List.mem_append_right _ (List.mem_append_left _ (List.mem_of_getElem? (i := 149) (by decide +kernel))))))), by decide +kernel⟩
theorem wd185 : Cond.fieldLink RX10 90 "PressAndWaitModel" "harmWord" "[C" ∈ wsL_law := List.mem_filter.mpr ⟨List.mem_append_right _ (List.mem_append_right _ (List.mem_append_right _ (List.mem_append_right _ (List.mem_append_right _ (List.mem_append_left _ (List.mem_of_getElem? (i := 150) (by decide +kernel))))))), by decide +kernel⟩
theorem wd186 : Cond.fieldLink RX10 93 "PressAndWaitModel" "orWord" "[C" ∈ wsL_law := List.mem_filter.mpr ⟨List.mem_append_right _ (List.mem_append_right _ (List.mem_append_right _ (List.mem_append_right _ (List.mem_append_right _ (List.mem_append_left _ (List.mem_of_getElem? (i := 151) (by decide +kernel))))))), by decide +kernel⟩
theorem wd187 : Cond.fieldLink RX10 96 "PressAndWaitModel" "andWord" "[C" ∈ wsL_law := List.mem_filter.mpr ⟨List.mem_append_right _ (List.mem_append_right _ (List.mem_append_right _ (List.mem_append_right _ (List.mem_append_right _ (List.mem_append_left _ (List.mem_of_getElem? (i := 152) (by decide +kernel))))))), by decide +kernel⟩
theorem wd188 : Cond.fieldLink RX10 99 "PressAndWaitModel" "notWord" "[C" ∈ wsL_law := List.mem_filter.mpr ⟨List.mem_append_right _ (List.mem_append_right _ (List.mem_append_right _ (List.mem_append_right _ (List.mem_append_right _ (List.mem_append_left _ (List.mem_of_getElem? (i := 153) (by decide +kernel))))))), by decide +kernel⟩
theorem wd189 : Cond.fieldLink RX10 102 "PressAndWaitModel" "allWord" "[C" ∈ wsL_law := List.mem_filter.mpr ⟨List.mem_append_right _ (List.mem_append_right _ (List.mem_append_right _ (List.mem_append_right _ (List.mem_append_right _ (List.mem_append_left _ (List.mem_of_getElem? (i := 154) (by decide +kernel))))))), by decide +kernel⟩
theorem wd190 : Cond.fieldLink RX10 105 "PressAndWaitModel" "minWord" "[C" ∈ wsL_law := List.mem_filter.mpr ⟨List.mem_append_right _ (List.mem_append_right _ (List.mem_append_right _ (List.mem_append_right _ (List.mem_append_right _ (List.mem_append_left _ (List.mem_of_getElem? (i := 155) (by decide +kernel))))))), by decide +kernel⟩
theorem wd191 : Cond.fieldLink RX10 108 "PressAndWaitModel" "maxWord" "[C" ∈ wsL_law := List.mem_filter.mpr ⟨List.mem_append_right _ (List.mem_append_right _ (List.mem_append_right _ (List.mem_append_right _ (List.mem_append_right _ (List.mem_append_left _ (List.mem_of_getElem? (i := 156) (by decide +kernel))))))), by decide +kernel⟩
theorem wd192 : Cond.fieldLink RX10 111 "PressAndWaitModel" "many" "[I" ∈ wsL_law := List.mem_filter.mpr ⟨List.mem_append_right _ (List.mem_append_right _ (List.mem_append_right _ (List.mem_append_right _ (List.mem_append_right _ (List.mem_append_left _ (List.mem_of_getElem? (i := 158) (by decide +kernel))))))), by decide +kernel⟩
theorem wd193 : Cond.arrayClass .long ∈ wsL_law := List.mem_filter.mpr ⟨List.mem_append_right _ (List.mem_append_right _ (List.mem_append_right _ (List.mem_append_right _ (List.mem_append_right _ (List.mem_append_right _ (List.mem_append_right _ (List.mem_append_left _ (List.mem_of_getElem? (i := 5) (by decide +kernel))))))))), by decide +kernel⟩
theorem wd194 : Cond.fieldLink RX10 114 "PressAndWaitModel" "names" "[J" ∈ wsL_law := List.mem_filter.mpr ⟨List.mem_append_right _ (List.mem_append_right _ (List.mem_append_right _ (List.mem_append_right _ (List.mem_append_right _ (List.mem_append_left _ (List.mem_of_getElem? (i := 159) (by decide +kernel))))))), by decide +kernel⟩
theorem wd195 : Cond.fieldLink RX10 118 "PressAndWaitModel" "bar" "[I" ∈ wsL_law := List.mem_filter.mpr ⟨List.mem_append_right _ (List.mem_append_right _ (List.mem_append_right _ (List.mem_append_right _ (List.mem_append_right _ (List.mem_append_left _ (List.mem_of_getElem? (i := 160) (by decide +kernel))))))), by decide +kernel⟩
theorem wd196 : Cond.fieldLink RX10 121 "PressAndWaitModel" "kinds" "[I" ∈ wsL_law := List.mem_filter.mpr ⟨List.mem_append_right _ (List.mem_append_right _ (List.mem_append_right _ (List.mem_append_right _ (List.mem_append_right _ (List.mem_append_left _ (List.mem_of_getElem? (i := 161) (by decide +kernel))))))), by decide +kernel⟩
theorem wd197 : Cond.fieldLink RX10 124 "PressAndWaitModel" "trusted" "[I" ∈ wsL_law := List.mem_filter.mpr ⟨List.mem_append_right _ (List.mem_append_right _ (List.mem_append_right _ (List.mem_append_right _ (List.mem_append_right _ (List.mem_append_left _ (List.mem_of_getElem? (i := 162) (by decide +kernel))))))), by decide +kernel⟩
theorem wd198 : Cond.fieldLink RX10 127 "PressAndWaitModel" "walkers" "[I" ∈ wsL_law := List.mem_filter.mpr ⟨List.mem_append_right _ (List.mem_append_right _ (List.mem_append_right _ (List.mem_append_right _ (List.mem_append_right _ (List.mem_append_left _ (List.mem_of_getElem? (i := 163) (by decide +kernel))))))), by decide +kernel⟩
theorem wd199 : Cond.fieldLink RX10 130 "PressAndWaitModel" "codeFrom" "[I" ∈ wsL_law := List.mem_filter.mpr ⟨List.mem_append_right _ (List.mem_append_right _ (List.mem_append_right _ (List.mem_append_right _ (List.mem_append_right _ (List.mem_append_left _ (List.mem_of_getElem? (i := 166) (by decide +kernel))))))), by decide +kernel⟩
theorem wd200 : Cond.fieldLink RX10 133 "PressAndWaitModel" "codeEnd" "[I" ∈ wsL_law := List.mem_filter.mpr ⟨List.mem_append_right _ (List.mem_append_right _ (List.mem_append_right _ (List.mem_append_right _ (List.mem_append_right _ (List.mem_append_left _ (List.mem_of_getElem? (i := 167) (by decide +kernel))))))), by decide +kernel⟩
theorem wd201 : Cond.fieldLink RX10 136 "PressAndWaitModel" "codes" "[I" ∈ wsL_law := List.mem_filter.mpr ⟨List.mem_append_right _ (List.mem_append_right _ (List.mem_append_right _ (List.mem_append_right _ (List.mem_append_right _ (List.mem_append_left _ (List.mem_of_getElem? (i := 168) (by decide +kernel))))))), by decide +kernel⟩
theorem wd202 : Cond.fieldLink RX10 139 "PressAndWaitModel" "now" "[I" ∈ wsL_law := List.mem_filter.mpr ⟨List.mem_append_right _ (List.mem_append_right _ (List.mem_append_right _ (List.mem_append_right _ (List.mem_append_right _ (List.mem_append_left _ (List.mem_of_getElem? (i := 173) (by decide +kernel))))))), by decide +kernel⟩
theorem wd203 : Cond.fieldLink RX10 142 "PressAndWaitModel" "aside" "[I" ∈ wsL_law := List.mem_filter.mpr ⟨List.mem_append_right _ (List.mem_append_right _ (List.mem_append_right _ (List.mem_append_right _ (List.mem_append_right _ (List.mem_append_left _ (List.mem_of_getElem? (i := 174) (by decide +kernel))))))), by decide +kernel⟩
theorem wd204 : Cond.arrayClass .boolean ∈ wsL_law := List.mem_filter.mpr ⟨List.mem_append_right _ (List.mem_append_right _ (List.mem_append_right _ (List.mem_append_right _ (List.mem_append_right _ (List.mem_append_right _ (List.mem_append_right _ (List.mem_append_left _ (List.mem_of_getElem? (i := 6) (by decide +kernel))))))))), by decide +kernel⟩
theorem wd205 : Cond.fieldLink RX10 145 "PressAndWaitModel" "isCar" "[Z" ∈ wsL_law := List.mem_filter.mpr ⟨List.mem_append_right _ (List.mem_append_right _ (List.mem_append_right _ (List.mem_append_right _ (List.mem_append_right _ (List.mem_append_left _ (List.mem_of_getElem? (i := 177) (by decide +kernel))))))), by decide +kernel⟩
theorem wd206 : Cond.fieldLink RX10 149 "PressAndWaitModel" "gaps" "[I" ∈ wsL_law := List.mem_filter.mpr ⟨List.mem_append_right _ (List.mem_append_right _ (List.mem_append_right _ (List.mem_append_right _ (List.mem_append_right _ (List.mem_append_left _ (List.mem_of_getElem? (i := 178) (by decide +kernel))))))), by decide +kernel⟩
theorem wd207 : Cond.fieldLink RX10 152 "PressAndWaitModel" "isGreen" "[Z" ∈ wsL_law := List.mem_filter.mpr ⟨List.mem_append_right _ (List.mem_append_right _ (List.mem_append_right _ (List.mem_append_right _ (List.mem_append_right _ (List.mem_append_left _ (List.mem_of_getElem? (i := 179) (by decide +kernel))))))), by decide +kernel⟩
theorem wd208 : Cond.fieldLink RX10 155 "PressAndWaitModel" "isHere" "[Z" ∈ wsL_law := List.mem_filter.mpr ⟨List.mem_append_right _ (List.mem_append_right _ (List.mem_append_right _ (List.mem_append_right _ (List.mem_append_right _ (List.mem_append_left _ (List.mem_of_getElem? (i := 180) (by decide +kernel))))))), by decide +kernel⟩
theorem wd209 : Cond.fieldLink RX10 158 "PressAndWaitModel" "crosses" "[I" ∈ wsL_law := List.mem_filter.mpr ⟨List.mem_append_right _ (List.mem_append_right _ (List.mem_append_right _ (List.mem_append_right _ (List.mem_append_right _ (List.mem_append_left _ (List.mem_of_getElem? (i := 181) (by decide +kernel))))))), by decide +kernel⟩
theorem wd210 : Cond.fieldLink RX10 161 "PressAndWaitModel" "waits" "[I" ∈ wsL_law := List.mem_filter.mpr ⟨List.mem_append_right _ (List.mem_append_right _ (List.mem_append_right _ (List.mem_append_right _ (List.mem_append_right _ (List.mem_append_left _ (List.mem_of_getElem? (i := 182) (by decide +kernel))))))), by decide +kernel⟩
theorem wd211 : Cond.fieldLink RX10 164 "PressAndWaitModel" "goes" "[Z" ∈ wsL_law := List.mem_filter.mpr ⟨List.mem_append_right _ (List.mem_append_right _ (List.mem_append_right _ (List.mem_append_right _ (List.mem_append_right _ (List.mem_append_left _ (List.mem_of_getElem? (i := 183) (by decide +kernel))))))), by decide +kernel⟩
theorem wd212 : Cond.fieldLink RX10 167 "PressAndWaitModel" "harms" "[Z" ∈ wsL_law := List.mem_filter.mpr ⟨List.mem_append_right _ (List.mem_append_right _ (List.mem_append_right _ (List.mem_append_right _ (List.mem_append_right _ (List.mem_append_left _ (List.mem_of_getElem? (i := 184) (by decide +kernel))))))), by decide +kernel⟩
theorem wd213 : Cond.fieldLink RX10 170 "PressAndWaitModel" "presses" "[Z" ∈ wsL_law := List.mem_filter.mpr ⟨List.mem_append_right _ (List.mem_append_right _ (List.mem_append_right _ (List.mem_append_right _ (List.mem_append_right _ (List.mem_append_left _ (List.mem_of_getElem? (i := 185) (by decide +kernel))))))), by decide +kernel⟩
theorem wd214 : Cond.fieldLink RX10 173 "PressAndWaitModel" "crossedIn" "[Z" ∈ wsL_law := List.mem_filter.mpr ⟨List.mem_append_right _ (List.mem_append_right _ (List.mem_append_right _ (List.mem_append_right _ (List.mem_append_right _ (List.mem_append_left _ (List.mem_of_getElem? (i := 186) (by decide +kernel))))))), by decide +kernel⟩
theorem wd215 : Cond.fieldLink RX10 176 "PressAndWaitModel" "rows" "[I" ∈ wsL_law := List.mem_filter.mpr ⟨List.mem_append_right _ (List.mem_append_right _ (List.mem_append_right _ (List.mem_append_right _ (List.mem_append_right _ (List.mem_append_left _ (List.mem_of_getElem? (i := 193) (by decide +kernel))))))), by decide +kernel⟩
theorem wd216 : Cond.fieldLink RX10 179 "PressAndWaitModel" "when" "[I" ∈ wsL_law := List.mem_filter.mpr ⟨List.mem_append_right _ (List.mem_append_right _ (List.mem_append_right _ (List.mem_append_right _ (List.mem_append_right _ (List.mem_append_left _ (List.mem_of_getElem? (i := 194) (by decide +kernel))))))), by decide +kernel⟩
theorem wd217 : Cond.fieldLink RX10 182 "PressAndWaitModel" "kept0" "[I" ∈ wsL_law := List.mem_filter.mpr ⟨List.mem_append_right _ (List.mem_append_right _ (List.mem_append_right _ (List.mem_append_right _ (List.mem_append_right _ (List.mem_append_left _ (List.mem_of_getElem? (i := 198) (by decide +kernel))))))), by decide +kernel⟩
theorem wd218 : Cond.fieldLink RX10 185 "PressAndWaitModel" "seeded" "J" ∈ wsL_law := List.mem_filter.mpr ⟨List.mem_append_right _ (List.mem_append_right _ (List.mem_append_right _ (List.mem_append_right _ (List.mem_append_right _ (List.mem_append_left _ (List.mem_of_getElem? (i := 201) (by decide +kernel))))))), by decide +kernel⟩
theorem wd219 : Cond.fieldLink RX10 189 "PressAndWaitModel" "firstAsked" "[C" ∈ wsL_law := List.mem_filter.mpr ⟨List.mem_append_right _ (List.mem_append_right _ (List.mem_append_right _ (List.mem_append_right _ (List.mem_append_right _ (List.mem_append_left _ (List.mem_of_getElem? (i := 202) (by decide +kernel))))))), by decide +kernel⟩
theorem wd220 : Cond.fieldLink RX10 192 "PressAndWaitModel" "lastAsked" "[C" ∈ wsL_law := List.mem_filter.mpr ⟨List.mem_append_right _ (List.mem_append_right _ (List.mem_append_right _ (List.mem_append_right _ (List.mem_append_right _ (List.mem_append_left _ (List.mem_of_getElem? (i := 203) (by decide +kernel))))))), by decide +kernel⟩
theorem wd221 : Cond.fieldLink RX10 195 "PressAndWaitModel" "oftenAsked" "[C" ∈ wsL_law := List.mem_filter.mpr ⟨List.mem_append_right _ (List.mem_append_right _ (List.mem_append_right _ (List.mem_append_right _ (List.mem_append_right _ (List.mem_append_left _ (List.mem_of_getElem? (i := 204) (by decide +kernel))))))), by decide +kernel⟩
theorem wd222 : Cond.fieldLink RX10 198 "PressAndWaitModel" "totalAsked" "[C" ∈ wsL_law := List.mem_filter.mpr ⟨List.mem_append_right _ (List.mem_append_right _ (List.mem_append_right _ (List.mem_append_right _ (List.mem_append_right _ (List.mem_append_left _ (List.mem_of_getElem? (i := 205) (by decide +kernel))))))), by decide +kernel⟩
theorem wd223 : Cond.fieldLink RX10 201 "PressAndWaitModel" "mostAsked" "[C" ∈ wsL_law := List.mem_filter.mpr ⟨List.mem_append_right _ (List.mem_append_right _ (List.mem_append_right _ (List.mem_append_right _ (List.mem_append_right _ (List.mem_append_left _ (List.mem_of_getElem? (i := 206) (by decide +kernel))))))), by decide +kernel⟩
theorem wd224 : Cond.fieldLink RX10 204 "PressAndWaitModel" "leastAsked" "[C" ∈ wsL_law := List.mem_filter.mpr ⟨List.mem_append_right _ (List.mem_append_right _ (List.mem_append_right _ (List.mem_append_right _ (List.mem_append_right _ (List.mem_append_left _ (List.mem_of_getElem? (i := 207) (by decide +kernel))))))), by decide +kernel⟩
theorem wd225 : Cond.fieldLink RX10 207 "PressAndWaitModel" "notAsked" "[C" ∈ wsL_law := List.mem_filter.mpr ⟨List.mem_append_right _ (List.mem_append_right _ (List.mem_append_right _ (List.mem_append_right _ (List.mem_append_right _ (List.mem_append_left _ (List.mem_of_getElem? (i := 208) (by decide +kernel))))))), by decide +kernel⟩
theorem wd226 : Cond.fieldLink RX10 210 "PressAndWaitModel" "andAsked" "[C" ∈ wsL_law := List.mem_filter.mpr ⟨List.mem_append_right _ (List.mem_append_right _ (List.mem_append_right _ (List.mem_append_right _ (List.mem_append_right _ (List.mem_append_left _ (List.mem_of_getElem? (i := 209) (by decide +kernel))))))), by decide +kernel⟩
theorem wd227 : Cond.fieldLink RX10 213 "PressAndWaitModel" "orAsked" "[C" ∈ wsL_law := List.mem_filter.mpr ⟨List.mem_append_right _ (List.mem_append_right _ (List.mem_append_right _ (List.mem_append_right _ (List.mem_append_right _ (List.mem_append_left _ (List.mem_of_getElem? (i := 210) (by decide +kernel))))))), by decide +kernel⟩
theorem wd228 : Cond.fieldLink RX10 216 "PressAndWaitModel" "allAsked" "[C" ∈ wsL_law := List.mem_filter.mpr ⟨List.mem_append_right _ (List.mem_append_right _ (List.mem_append_right _ (List.mem_append_right _ (List.mem_append_right _ (List.mem_append_left _ (List.mem_of_getElem? (i := 211) (by decide +kernel))))))), by decide +kernel⟩
theorem wd229 : Cond.fieldLink RX10 219 "PressAndWaitModel" "minAsked" "[C" ∈ wsL_law := List.mem_filter.mpr ⟨List.mem_append_right _ (List.mem_append_right _ (List.mem_append_right _ (List.mem_append_right _ (List.mem_append_right _ (List.mem_append_left _ (List.mem_of_getElem? (i := 212) (by decide +kernel))))))), by decide +kernel⟩
theorem wd230 : Cond.fieldLink RX10 222 "PressAndWaitModel" "maxAsked" "[C" ∈ wsL_law := List.mem_filter.mpr ⟨List.mem_append_right _ (List.mem_append_right _ (List.mem_append_right _ (List.mem_append_right _ (List.mem_append_right _ (List.mem_append_left _ (List.mem_of_getElem? (i := 213) (by decide +kernel))))))), by decide +kernel⟩
theorem wd231 : Cond.fieldLink RX10 225 "PressAndWaitModel" "secondAsked" "[C" ∈ wsL_law := List.mem_filter.mpr ⟨List.mem_append_right _ (List.mem_append_right _ (List.mem_append_right _ (List.mem_append_right _ (List.mem_append_right _ (List.mem_append_left _ (List.mem_of_getElem? (i := 214) (by decide +kernel))))))), by decide +kernel⟩
theorem wd232 : Cond.fieldLink RX10 228 "PressAndWaitModel" "dayAsked" "[C" ∈ wsL_law := List.mem_filter.mpr ⟨List.mem_append_right _ (List.mem_append_right _ (List.mem_append_right _ (List.mem_append_right _ (List.mem_append_right _ (List.mem_append_left _ (List.mem_of_getElem? (i := 215) (by decide +kernel))))))), by decide +kernel⟩
theorem wd233 : Cond.fieldLink RX10 231 "PressAndWaitModel" "phaseAsked" "[C" ∈ wsL_law := List.mem_filter.mpr ⟨List.mem_append_right _ (List.mem_append_right _ (List.mem_append_right _ (List.mem_append_right _ (List.mem_append_right _ (List.mem_append_left _ (List.mem_of_getElem? (i := 216) (by decide +kernel))))))), by decide +kernel⟩
theorem wd234 : Cond.fieldLink RX10 234 "PressAndWaitModel" "waitedAsked" "[C" ∈ wsL_law := List.mem_filter.mpr ⟨List.mem_append_right _ (List.mem_append_right _ (List.mem_append_right _ (List.mem_append_right _ (List.mem_append_right _ (List.mem_append_left _ (List.mem_of_getElem? (i := 217) (by decide +kernel))))))), by decide +kernel⟩
theorem wd235 : Cond.fieldLink RX10 237 "PressAndWaitModel" "calmAsked" "[C" ∈ wsL_law := List.mem_filter.mpr ⟨List.mem_append_right _ (List.mem_append_right _ (List.mem_append_right _ (List.mem_append_right _ (List.mem_append_right _ (List.mem_append_left _ (List.mem_of_getElem? (i := 218) (by decide +kernel))))))), by decide +kernel⟩
theorem wd236 : Cond.fieldLink RX10 240 "PressAndWaitModel" "paceAsked" "[C" ∈ wsL_law := List.mem_filter.mpr ⟨List.mem_append_right _ (List.mem_append_right _ (List.mem_append_right _ (List.mem_append_right _ (List.mem_append_right _ (List.mem_append_left _ (List.mem_of_getElem? (i := 219) (by decide +kernel))))))), by decide +kernel⟩
theorem wd237 : Cond.fieldLink RX10 243 "PressAndWaitModel" "trustsAsked" "[C" ∈ wsL_law := List.mem_filter.mpr ⟨List.mem_append_right _ (List.mem_append_right _ (List.mem_append_right _ (List.mem_append_right _ (List.mem_append_right _ (List.mem_append_left _ (List.mem_of_getElem? (i := 220) (by decide +kernel))))))), by decide +kernel⟩
theorem wd238 : Cond.fieldLink RX10 246 "PressAndWaitModel" "gapAsked" "[C" ∈ wsL_law := List.mem_filter.mpr ⟨List.mem_append_right _ (List.mem_append_right _ (List.mem_append_right _ (List.mem_append_right _ (List.mem_append_right _ (List.mem_append_left _ (List.mem_of_getElem? (i := 221) (by decide +kernel))))))), by decide +kernel⟩
theorem wd239 : Cond.fieldLink RX10 249 "PressAndWaitModel" "redsAsked" "[C" ∈ wsL_law := List.mem_filter.mpr ⟨List.mem_append_right _ (List.mem_append_right _ (List.mem_append_right _ (List.mem_append_right _ (List.mem_append_right _ (List.mem_append_left _ (List.mem_of_getElem? (i := 222) (by decide +kernel))))))), by decide +kernel⟩
theorem wd240 : Cond.fieldLink RX10 252 "PressAndWaitModel" "numberAsked" "[C" ∈ wsL_law := List.mem_filter.mpr ⟨List.mem_append_right _ (List.mem_append_right _ (List.mem_append_right _ (List.mem_append_right _ (List.mem_append_right _ (List.mem_append_left _ (List.mem_of_getElem? (i := 223) (by decide +kernel))))))), by decide +kernel⟩
theorem wd241 : Cond.fieldLink RX10 255 "PressAndWaitModel" "wentAsked" "[C" ∈ wsL_law := List.mem_filter.mpr ⟨List.mem_append_right _ (List.mem_append_right _ (List.mem_append_right _ (List.mem_append_right _ (List.mem_append_right _ (List.mem_append_left _ (List.mem_of_getElem? (i := 224) (by decide +kernel))))))), by decide +kernel⟩
theorem wd242 : Cond.fieldLink RX10 258 "PressAndWaitModel" "harmAsked" "[C" ∈ wsL_law := List.mem_filter.mpr ⟨List.mem_append_right _ (List.mem_append_right _ (List.mem_append_right _ (List.mem_append_right _ (List.mem_append_right _ (List.mem_append_left _ (List.mem_of_getElem? (i := 225) (by decide +kernel))))))), by decide +kernel⟩
theorem wd243 : Cond.fieldLink RX10 261 "PressAndWaitModel" "kindofAsked" "[C" ∈ wsL_law := List.mem_filter.mpr ⟨List.mem_append_right _ (List.mem_append_right _ (List.mem_append_right _ (List.mem_append_right _ (List.mem_append_right _ (List.mem_append_left _ (List.mem_of_getElem? (i := 226) (by decide +kernel))))))), by decide +kernel⟩
theorem wd244 : Cond.fieldLink RX10 264 "PressAndWaitModel" "qCodes" "[I" ∈ wsL_law := List.mem_filter.mpr ⟨List.mem_append_right _ (List.mem_append_right _ (List.mem_append_right _ (List.mem_append_right _ (List.mem_append_right _ (List.mem_append_left _ (List.mem_of_getElem? (i := 227) (by decide +kernel))))))), by decide +kernel⟩
theorem wd245 : Cond.fieldLink RX10 267 "PressAndWaitModel" "qWait" "[I" ∈ wsL_law := List.mem_filter.mpr ⟨List.mem_append_right _ (List.mem_append_right _ (List.mem_append_right _ (List.mem_append_right _ (List.mem_append_right _ (List.mem_append_left _ (List.mem_of_getElem? (i := 229) (by decide +kernel))))))), by decide +kernel⟩
theorem wd246 : Cond.fieldLink RX10 270 "PressAndWaitModel" "qPile" "[J" ∈ wsL_law := List.mem_filter.mpr ⟨List.mem_append_right _ (List.mem_append_right _ (List.mem_append_right _ (List.mem_append_right _ (List.mem_append_right _ (List.mem_append_left _ (List.mem_of_getElem? (i := 233) (by decide +kernel))))))), by decide +kernel⟩
theorem wd247 : Cond.fieldLink RX10 273 "PressAndWaitModel" "octet" "[I" ∈ wsL_law := List.mem_filter.mpr ⟨List.mem_append_right _ (List.mem_append_right _ (List.mem_append_right _ (List.mem_append_right _ (List.mem_append_right _ (List.mem_append_left _ (List.mem_of_getElem? (i := 237) (by decide +kernel))))))), by decide +kernel⟩
theorem wd248 : Cond.methodLink RL 13 yX9_feed ∈ wsL_law := List.mem_filter.mpr ⟨List.mem_append_right _ (List.mem_append_right _ (List.mem_append_left _ (List.mem_of_getElem? (i := 191) (by decide +kernel)))), by decide +kernel⟩
theorem wd249 : Cond.instanceMethod yX9_feed ∈ wsL_law := List.mem_filter.mpr ⟨List.mem_append_right _ (List.mem_append_right _ (List.mem_append_left _ (List.mem_of_getElem? (i := 192) (by decide +kernel)))), by decide +kernel⟩
theorem wd250 : Cond.selects RX9 yX9_feed yX9_feed ∈ wsL_law := List.mem_filter.mpr ⟨List.mem_append_right _ (List.mem_append_right _ (List.mem_append_left _ (List.mem_of_getElem? (i := 193) (by decide +kernel)))), by decide +kernel⟩
theorem wd252 : Cond.methodLink RX9 102 yX9_refuse ∈ wsL_law := List.mem_filter.mpr ⟨List.mem_append_right _ (List.mem_append_right _ (List.mem_append_left _ (List.mem_of_getElem? (i := 195) (by decide +kernel)))), by decide +kernel⟩
theorem wd253 : Cond.instanceMethod yX9_refuse ∈ wsL_law := List.mem_filter.mpr ⟨List.mem_append_right _ (List.mem_append_right _ (List.mem_append_left _ (List.mem_of_getElem? (i := 197) (by decide +kernel)))), by decide +kernel⟩
theorem wd254 : Cond.selects RX9 yX9_refuse yX9_refuse ∈ wsL_law := List.mem_filter.mpr ⟨List.mem_append_left _ (List.mem_of_getElem? (i := 0) (by decide +kernel)), by decide +kernel⟩
theorem wd256 : Cond.methodLink RX9 106 yX9_putBytes ∈ wsL_law := List.mem_filter.mpr ⟨List.mem_append_right _ (List.mem_append_right _ (List.mem_append_left _ (List.mem_of_getElem? (i := 199) (by decide +kernel)))), by decide +kernel⟩
theorem wd257 : Cond.instanceMethod yX9_putBytes ∈ wsL_law := List.mem_filter.mpr ⟨List.mem_append_right _ (List.mem_append_right _ (List.mem_append_left _ (List.mem_of_getElem? (i := 201) (by decide +kernel)))), by decide +kernel⟩
theorem wd258 : Cond.selects RX9 yX9_putBytes yX9_putBytes ∈ wsL_law := List.mem_filter.mpr ⟨List.mem_append_left _ (List.mem_of_getElem? (i := 1) (by decide +kernel)), by decide +kernel⟩
theorem wd260 : Cond.methodLink RL 17 yX10_feed ∈ wsL_law := List.mem_filter.mpr ⟨List.mem_append_right _ (List.mem_append_right _ (List.mem_append_right _ (List.mem_append_right _ (List.mem_append_right _ (List.mem_append_right _ (List.mem_append_right _ (List.mem_append_left _ (List.mem_of_getElem? (i := 7) (by decide +kernel))))))))), by decide +kernel⟩
theorem wd261 : Cond.instanceMethod yX10_feed ∈ wsL_law := List.mem_filter.mpr ⟨List.mem_append_right _ (List.mem_append_right _ (List.mem_append_right _ (List.mem_append_right _ (List.mem_append_right _ (List.mem_append_right _ (List.mem_append_right _ (List.mem_append_left _ (List.mem_of_getElem? (i := 8) (by decide +kernel))))))))), by decide +kernel⟩
theorem wd262 : Cond.selects RX10 yX10_feed yX10_feed ∈ wsL_law := List.mem_filter.mpr ⟨List.mem_append_right _ (List.mem_append_right _ (List.mem_append_right _ (List.mem_append_right _ (List.mem_append_right _ (List.mem_append_right _ (List.mem_append_right _ (List.mem_append_left _ (List.mem_of_getElem? (i := 9) (by decide +kernel))))))))), by decide +kernel⟩
theorem wd264 : Cond.fieldLink RX10 276 "PressAndWaitModel" "taped" "I" ∈ wsL_law := List.mem_filter.mpr ⟨List.mem_append_right _ (List.mem_append_right _ (List.mem_append_right _ (List.mem_append_right _ (List.mem_append_right _ (List.mem_append_left _ (List.mem_of_getElem? (i := 118) (by decide +kernel))))))), by decide +kernel⟩
theorem wd265 : Cond.methodLink RL 18 yX9_end ∈ wsL_law := List.mem_filter.mpr ⟨List.mem_append_right _ (List.mem_append_right _ (List.mem_append_left _ (List.mem_of_getElem? (i := 203) (by decide +kernel)))), by decide +kernel⟩
theorem wd266 : Cond.instanceMethod yX9_end ∈ wsL_law := List.mem_filter.mpr ⟨List.mem_append_right _ (List.mem_append_right _ (List.mem_append_left _ (List.mem_of_getElem? (i := 204) (by decide +kernel)))), by decide +kernel⟩
theorem wd267 : Cond.selects RX9 yX9_end yX9_end ∈ wsL_law := List.mem_filter.mpr ⟨List.mem_append_right _ (List.mem_append_right _ (List.mem_append_left _ (List.mem_of_getElem? (i := 205) (by decide +kernel)))), by decide +kernel⟩
theorem wd269 : Cond.methodLink RX9 110 yX9_deny ∈ wsL_law := List.mem_filter.mpr ⟨List.mem_append_right _ (List.mem_append_right _ (List.mem_append_left _ (List.mem_of_getElem? (i := 207) (by decide +kernel)))), by decide +kernel⟩
theorem wd270 : Cond.instanceMethod yX9_deny ∈ wsL_law := List.mem_filter.mpr ⟨List.mem_append_right _ (List.mem_append_right _ (List.mem_append_left _ (List.mem_of_getElem? (i := 209) (by decide +kernel)))), by decide +kernel⟩
theorem wd271 : Cond.selects RX9 yX9_deny yX9_deny ∈ wsL_law := List.mem_filter.mpr ⟨List.mem_append_left _ (List.mem_of_getElem? (i := 2) (by decide +kernel)), by decide +kernel⟩
theorem wd273 : Cond.methodLink RL 22 yX10_end ∈ wsL_law := List.mem_filter.mpr ⟨List.mem_append_right _ (List.mem_append_right _ (List.mem_append_right _ (List.mem_append_right _ (List.mem_append_right _ (List.mem_append_right _ (List.mem_append_right _ (List.mem_append_left _ (List.mem_of_getElem? (i := 11) (by decide +kernel))))))))), by decide +kernel⟩
theorem wd274 : Cond.instanceMethod yX10_end ∈ wsL_law := List.mem_filter.mpr ⟨List.mem_append_right _ (List.mem_append_right _ (List.mem_append_right _ (List.mem_append_right _ (List.mem_append_right _ (List.mem_append_right _ (List.mem_append_right _ (List.mem_append_left _ (List.mem_of_getElem? (i := 12) (by decide +kernel))))))))), by decide +kernel⟩
theorem wd275 : Cond.selects RX10 yX10_end yX10_end ∈ wsL_law := List.mem_filter.mpr ⟨List.mem_append_right _ (List.mem_append_right _ (List.mem_append_right _ (List.mem_append_right _ (List.mem_append_right _ (List.mem_append_right _ (List.mem_append_right _ (List.mem_append_left _ (List.mem_of_getElem? (i := 13) (by decide +kernel))))))))), by decide +kernel⟩
theorem wd277 : Cond.methodLink RL 23 yX9_crossing ∈ wsL_law := List.mem_filter.mpr ⟨List.mem_append_right _ (List.mem_append_right _ (List.mem_append_left _ (List.mem_of_getElem? (i := 211) (by decide +kernel)))), by decide +kernel⟩
theorem wd278 : Cond.instanceMethod yX9_crossing ∈ wsL_law := List.mem_filter.mpr ⟨List.mem_append_right _ (List.mem_append_right _ (List.mem_append_left _ (List.mem_of_getElem? (i := 212) (by decide +kernel)))), by decide +kernel⟩
theorem wd279 : Cond.selects RX9 yX9_crossing yX9_crossing ∈ wsL_law := List.mem_filter.mpr ⟨List.mem_append_right _ (List.mem_append_right _ (List.mem_append_left _ (List.mem_of_getElem? (i := 213) (by decide +kernel)))), by decide +kernel⟩
theorem wd281 : Cond.fieldLink RX9 122 "PressAndWait$Reader" "fault" "I" ∈ wsL_law := List.mem_filter.mpr ⟨List.mem_append_right _ (List.mem_append_left _ (List.mem_of_getElem? (i := 207) (by decide +kernel))), by decide +kernel⟩
theorem wd283 : Cond.methodLink RX9 114 yX9_takeTape ∈ wsL_law := List.mem_filter.mpr ⟨List.mem_append_right _ (List.mem_append_right _ (List.mem_append_left _ (List.mem_of_getElem? (i := 215) (by decide +kernel)))), by decide +kernel⟩
theorem wd284 : Cond.instanceMethod yX9_takeTape ∈ wsL_law := List.mem_filter.mpr ⟨List.mem_append_right _ (List.mem_append_right _ (List.mem_append_left _ (List.mem_of_getElem? (i := 217) (by decide +kernel)))), by decide +kernel⟩
theorem wd285 : Cond.selects RX9 yX9_takeTape yX9_takeTape ∈ wsL_law := List.mem_filter.mpr ⟨List.mem_append_left _ (List.mem_of_getElem? (i := 3) (by decide +kernel)), by decide +kernel⟩
theorem wd287 : Cond.methodLink RX9 118 yX5_readCrossing ∈ wsL_law := List.mem_filter.mpr ⟨List.mem_append_right _ (List.mem_append_right _ (List.mem_append_left _ (List.mem_of_getElem? (i := 219) (by decide +kernel)))), by decide +kernel⟩
theorem wd288 : Cond.instanceMethod yX5_readCrossing ∈ wsL_law := List.mem_filter.mpr ⟨List.mem_append_right _ (List.mem_append_right _ (List.mem_append_left _ (List.mem_of_getElem? (i := 220) (by decide +kernel)))), by decide +kernel⟩
theorem wd289 : Cond.selects RX5 yX5_readCrossing yX5_readCrossing ∈ wsL_law := List.mem_filter.mpr ⟨List.mem_append_right _ (List.mem_append_right _ (List.mem_append_left _ (List.mem_of_getElem? (i := 221) (by decide +kernel)))), by decide +kernel⟩
theorem wd292 : Cond.fieldLink RX5 81 "PressAndWait$Plan" "statements" "I" ∈ wsL_law := List.mem_filter.mpr ⟨List.mem_append_right _ (List.mem_append_left _ (List.mem_of_getElem? (i := 48) (by decide +kernel))), by decide +kernel⟩
theorem wd293 : Cond.methodLink RX5 41 yX5_begin ∈ wsL_law := List.mem_filter.mpr ⟨List.mem_append_right _ (List.mem_append_right _ (List.mem_append_left _ (List.mem_of_getElem? (i := 223) (by decide +kernel)))), by decide +kernel⟩
theorem wd294 : Cond.instanceMethod yX5_begin ∈ wsL_law := List.mem_filter.mpr ⟨List.mem_append_right _ (List.mem_append_right _ (List.mem_append_left _ (List.mem_of_getElem? (i := 225) (by decide +kernel)))), by decide +kernel⟩
theorem wd295 : Cond.selects RX5 yX5_begin yX5_begin ∈ wsL_law := List.mem_filter.mpr ⟨List.mem_append_left _ (List.mem_of_getElem? (i := 4) (by decide +kernel)), by decide +kernel⟩
theorem wd297 : Cond.methodLink RX5 99 Lib.Math.min.name ∈ wsL_law := List.mem_filter.mpr ⟨List.mem_append_right _ (List.mem_append_right _ (List.mem_append_left _ (List.mem_of_getElem? (i := 234) (by decide +kernel)))), by decide +kernel⟩
theorem wd298 : Cond.static Lib.Math.min.name ∈ wsL_law := List.mem_filter.mpr ⟨List.mem_append_right _ (List.mem_append_right _ (List.mem_append_left _ (List.mem_of_getElem? (i := 235) (by decide +kernel)))), by decide +kernel⟩
theorem wd299 : Cond.initialized "java/lang/Math" ∈ wsL_law := List.mem_filter.mpr ⟨List.mem_append_right _ (List.mem_append_left _ (List.mem_of_getElem? (i := 13) (by decide +kernel))), by decide +kernel⟩
theorem wd301 : Cond.methodLink RX5 96 yX4_clear ∈ wsL_law := List.mem_filter.mpr ⟨List.mem_append_right _ (List.mem_append_right _ (List.mem_append_left _ (List.mem_of_getElem? (i := 227) (by decide +kernel)))), by decide +kernel⟩
theorem wd302 : Cond.instanceMethod yX4_clear ∈ wsL_law := List.mem_filter.mpr ⟨List.mem_append_right _ (List.mem_append_right _ (List.mem_append_left _ (List.mem_of_getElem? (i := 228) (by decide +kernel)))), by decide +kernel⟩
theorem wd303 : Cond.selects RX4 yX4_clear yX4_clear ∈ wsL_law := List.mem_filter.mpr ⟨List.mem_append_right _ (List.mem_append_right _ (List.mem_append_left _ (List.mem_of_getElem? (i := 229) (by decide +kernel)))), by decide +kernel⟩
theorem wd305 : Cond.fieldLink RX4 39 "PressAndWait$Plan" "cycle" "I" ∈ wsL_law := List.mem_filter.mpr ⟨List.mem_append_right _ (List.mem_append_left _ (List.mem_of_getElem? (i := 34) (by decide +kernel))), by decide +kernel⟩
theorem wd306 : Cond.fieldLink RX4 43 "PressAndWait$Plan" "away" "I" ∈ wsL_law := List.mem_filter.mpr ⟨List.mem_append_right _ (List.mem_append_left _ (List.mem_of_getElem? (i := 44) (by decide +kernel))), by decide +kernel⟩
theorem wd307 : Cond.fieldLink RX4 46 "PressAndWait$Plan" "statements" "I" ∈ wsL_law := List.mem_filter.mpr ⟨List.mem_append_right _ (List.mem_append_left _ (List.mem_of_getElem? (i := 47) (by decide +kernel))), by decide +kernel⟩
theorem wd308 : Cond.fieldLink RX4 49 "PressAndWait$Plan" "kinds" "I" ∈ wsL_law := List.mem_filter.mpr ⟨List.mem_append_right _ (List.mem_append_left _ (List.mem_of_getElem? (i := 50) (by decide +kernel))), by decide +kernel⟩
theorem wd309 : Cond.fieldLink RX4 52 "PressAndWait$Plan" "walkers" "I" ∈ wsL_law := List.mem_filter.mpr ⟨List.mem_append_right _ (List.mem_append_left _ (List.mem_of_getElem? (i := 65) (by decide +kernel))), by decide +kernel⟩
theorem wd310 : Cond.fieldLink RX4 55 "PressAndWait$Plan" "size" "I" ∈ wsL_law := List.mem_filter.mpr ⟨List.mem_append_right _ (List.mem_append_left _ (List.mem_of_getElem? (i := 86) (by decide +kernel))), by decide +kernel⟩
theorem wd311 : Cond.methodLink RX4 58 yJ7_fill_53178 ∈ wsL_law := List.mem_filter.mpr ⟨List.mem_append_right _ (List.mem_append_right _ (List.mem_append_left _ (List.mem_of_getElem? (i := 231) (by decide +kernel)))), by decide +kernel⟩
theorem wd312 : Cond.static yJ7_fill_53178 ∈ wsL_law := List.mem_filter.mpr ⟨List.mem_append_right _ (List.mem_append_right _ (List.mem_append_left _ (List.mem_of_getElem? (i := 232) (by decide +kernel)))), by decide +kernel⟩
theorem wd313 : Cond.initialized RJ7 ∈ wsL_law := List.mem_filter.mpr ⟨List.mem_append_right _ (List.mem_append_left _ (List.mem_of_getElem? (i := 12) (by decide +kernel))), by decide +kernel⟩
theorem wd315 : Cond.methodLink RX5 86 yX5_moveTo ∈ wsL_law := List.mem_filter.mpr ⟨List.mem_append_right _ (List.mem_append_right _ (List.mem_append_left _ (List.mem_of_getElem? (i := 237) (by decide +kernel)))), by decide +kernel⟩
theorem wd316 : Cond.instanceMethod yX5_moveTo ∈ wsL_law := List.mem_filter.mpr ⟨List.mem_append_right _ (List.mem_append_right _ (List.mem_append_left _ (List.mem_of_getElem? (i := 239) (by decide +kernel)))), by decide +kernel⟩
theorem wd317 : Cond.selects RX5 yX5_moveTo yX5_moveTo ∈ wsL_law := List.mem_filter.mpr ⟨List.mem_append_left _ (List.mem_of_getElem? (i := 5) (by decide +kernel)), by decide +kernel⟩
theorem wd319 : Cond.methodLink RX5 252 yX5_sortOf ∈ wsL_law := List.mem_filter.mpr ⟨List.mem_append_right _ (List.mem_append_right _ (List.mem_append_right _ (List.mem_append_left _ (List.mem_of_getElem? (i := 1) (by decide +kernel))))), by decide +kernel⟩
theorem wd320 : Cond.instanceMethod yX5_sortOf ∈ wsL_law := List.mem_filter.mpr ⟨List.mem_append_right _ (List.mem_append_right _ (List.mem_append_right _ (List.mem_append_left _ (List.mem_of_getElem? (i := 3) (by decide +kernel))))), by decide +kernel⟩
theorem wd321 : Cond.selects RX5 yX5_sortOf yX5_sortOf ∈ wsL_law := List.mem_filter.mpr ⟨List.mem_append_left _ (List.mem_of_getElem? (i := 6) (by decide +kernel)), by decide +kernel⟩
theorem wd323 : Cond.methodLink RX5 45 yX5_firstStatement ∈ wsL_law := List.mem_filter.mpr ⟨List.mem_append_right _ (List.mem_append_right _ (List.mem_append_right _ (List.mem_append_left _ (List.mem_of_getElem? (i := 5) (by decide +kernel))))), by decide +kernel⟩
theorem wd324 : Cond.instanceMethod yX5_firstStatement ∈ wsL_law := List.mem_filter.mpr ⟨List.mem_append_right _ (List.mem_append_right _ (List.mem_append_right _ (List.mem_append_left _ (List.mem_of_getElem? (i := 7) (by decide +kernel))))), by decide +kernel⟩
theorem wd325 : Cond.selects RX5 yX5_firstStatement yX5_firstStatement ∈ wsL_law := List.mem_filter.mpr ⟨List.mem_append_left _ (List.mem_of_getElem? (i := 7) (by decide +kernel)), by decide +kernel⟩
theorem wd327 : Cond.fieldLink RX5 107 "PressAndWait$Plan" "cycle" "I" ∈ wsL_law := List.mem_filter.mpr ⟨List.mem_append_right _ (List.mem_append_left _ (List.mem_of_getElem? (i := 36) (by decide +kernel))), by decide +kernel⟩
theorem wd328 : Cond.fieldLink RX5 111 "PressAndWait$Plan" "green" "I" ∈ wsL_law := List.mem_filter.mpr ⟨List.mem_append_right _ (List.mem_append_left _ (List.mem_of_getElem? (i := 39) (by decide +kernel))), by decide +kernel⟩
theorem wd329 : Cond.fieldLink RX5 115 "PressAndWait$Plan" "rule" "I" ∈ wsL_law := List.mem_filter.mpr ⟨List.mem_append_right _ (List.mem_append_left _ (List.mem_of_getElem? (i := 41) (by decide +kernel))), by decide +kernel⟩
theorem wd330 : Cond.fieldLink RX5 119 "PressAndWait$Plan" "least" "I" ∈ wsL_law := List.mem_filter.mpr ⟨List.mem_append_right _ (List.mem_append_left _ (List.mem_of_getElem? (i := 42) (by decide +kernel))), by decide +kernel⟩
theorem wd331 : Cond.methodLink RX5 70 yX5_numberBehind ∈ wsL_law := List.mem_filter.mpr ⟨List.mem_append_right _ (List.mem_append_right _ (List.mem_append_right _ (List.mem_append_left _ (List.mem_of_getElem? (i := 10) (by decide +kernel))))), by decide +kernel⟩
theorem wd332 : Cond.instanceMethod yX5_numberBehind ∈ wsL_law := List.mem_filter.mpr ⟨List.mem_append_right _ (List.mem_append_right _ (List.mem_append_right _ (List.mem_append_left _ (List.mem_of_getElem? (i := 12) (by decide +kernel))))), by decide +kernel⟩
theorem wd333 : Cond.selects RX5 yX5_numberBehind yX5_numberBehind ∈ wsL_law := List.mem_filter.mpr ⟨List.mem_append_left _ (List.mem_of_getElem? (i := 8) (by decide +kernel)), by decide +kernel⟩
theorem wd335 : Cond.methodLink RX5 144 yX5_needWord ∈ wsL_law := List.mem_filter.mpr ⟨List.mem_append_right _ (List.mem_append_right _ (List.mem_append_right _ (List.mem_append_left _ (List.mem_of_getElem? (i := 14) (by decide +kernel))))), by decide +kernel⟩
theorem wd336 : Cond.instanceMethod yX5_needWord ∈ wsL_law := List.mem_filter.mpr ⟨List.mem_append_right _ (List.mem_append_right _ (List.mem_append_right _ (List.mem_append_left _ (List.mem_of_getElem? (i := 16) (by decide +kernel))))), by decide +kernel⟩
theorem wd337 : Cond.selects RX5 yX5_needWord yX5_needWord ∈ wsL_law := List.mem_filter.mpr ⟨List.mem_append_left _ (List.mem_of_getElem? (i := 9) (by decide +kernel)), by decide +kernel⟩
theorem wd339 : Cond.methodLink RX5 54 yX5_wordIn ∈ wsL_law := List.mem_filter.mpr ⟨List.mem_append_right _ (List.mem_append_right _ (List.mem_append_right _ (List.mem_append_left _ (List.mem_of_getElem? (i := 18) (by decide +kernel))))), by decide +kernel⟩
theorem wd340 : Cond.instanceMethod yX5_wordIn ∈ wsL_law := List.mem_filter.mpr ⟨List.mem_append_right _ (List.mem_append_right _ (List.mem_append_right _ (List.mem_append_left _ (List.mem_of_getElem? (i := 20) (by decide +kernel))))), by decide +kernel⟩
theorem wd341 : Cond.selects RX5 yX5_wordIn yX5_wordIn ∈ wsL_law := List.mem_filter.mpr ⟨List.mem_append_left _ (List.mem_of_getElem? (i := 10) (by decide +kernel)), by decide +kernel⟩
theorem wd392 : Cond.methodLink RX5 78 yX5_fail ∈ wsL_law := List.mem_filter.mpr ⟨List.mem_append_right _ (List.mem_append_right _ (List.mem_append_right _ (List.mem_append_left _ (List.mem_of_getElem? (i := 70) (by decide +kernel))))), by decide +kernel⟩
theorem wd393 : Cond.instanceMethod yX5_fail ∈ wsL_law := List.mem_filter.mpr ⟨List.mem_append_right _ (List.mem_append_right _ (List.mem_append_right _ (List.mem_append_left _ (List.mem_of_getElem? (i := 72) (by decide +kernel))))), by decide +kernel⟩
theorem wd394 : Cond.selects RX5 yX5_fail yX5_fail ∈ wsL_law := List.mem_filter.mpr ⟨List.mem_append_left _ (List.mem_of_getElem? (i := 11) (by decide +kernel)), by decide +kernel⟩
theorem wd396 : Cond.methodLink RX5 168 yX5_number ∈ wsL_law := List.mem_filter.mpr ⟨List.mem_append_right _ (List.mem_append_right _ (List.mem_append_right _ (List.mem_append_left _ (List.mem_of_getElem? (i := 74) (by decide +kernel))))), by decide +kernel⟩
theorem wd397 : Cond.instanceMethod yX5_number ∈ wsL_law := List.mem_filter.mpr ⟨List.mem_append_right _ (List.mem_append_right _ (List.mem_append_right _ (List.mem_append_left _ (List.mem_of_getElem? (i := 76) (by decide +kernel))))), by decide +kernel⟩
theorem wd398 : Cond.selects RX5 yX5_number yX5_number ∈ wsL_law := List.mem_filter.mpr ⟨List.mem_append_left _ (List.mem_of_getElem? (i := 12) (by decide +kernel)), by decide +kernel⟩
theorem wd400 : Cond.methodLink RX5 48 yX5_need ∈ wsL_law := List.mem_filter.mpr ⟨List.mem_append_right _ (List.mem_append_right _ (List.mem_append_right _ (List.mem_append_left _ (List.mem_of_getElem? (i := 81) (by decide +kernel))))), by decide +kernel⟩
theorem wd401 : Cond.instanceMethod yX5_need ∈ wsL_law := List.mem_filter.mpr ⟨List.mem_append_right _ (List.mem_append_right _ (List.mem_append_right _ (List.mem_append_left _ (List.mem_of_getElem? (i := 83) (by decide +kernel))))), by decide +kernel⟩
theorem wd402 : Cond.selects RX5 yX5_need yX5_need ∈ wsL_law := List.mem_filter.mpr ⟨List.mem_append_left _ (List.mem_of_getElem? (i := 13) (by decide +kernel)), by decide +kernel⟩
theorem wd404 : Cond.methodLink RX5 213 yX5_sees ∈ wsL_law := List.mem_filter.mpr ⟨List.mem_append_right _ (List.mem_append_right _ (List.mem_append_right _ (List.mem_append_left _ (List.mem_of_getElem? (i := 85) (by decide +kernel))))), by decide +kernel⟩
theorem wd405 : Cond.instanceMethod yX5_sees ∈ wsL_law := List.mem_filter.mpr ⟨List.mem_append_right _ (List.mem_append_right _ (List.mem_append_right _ (List.mem_append_left _ (List.mem_of_getElem? (i := 87) (by decide +kernel))))), by decide +kernel⟩
theorem wd406 : Cond.selects RX5 yX5_sees yX5_sees ∈ wsL_law := List.mem_filter.mpr ⟨List.mem_append_left _ (List.mem_of_getElem? (i := 14) (by decide +kernel)), by decide +kernel⟩
theorem wd547 : Cond.methodLink RL 27 yX10_crossing ∈ wsL_law := List.mem_filter.mpr ⟨List.mem_append_right _ (List.mem_append_right _ (List.mem_append_right _ (List.mem_append_right _ (List.mem_append_right _ (List.mem_append_right _ (List.mem_append_right _ (List.mem_append_left _ (List.mem_of_getElem? (i := 15) (by decide +kernel))))))))), by decide +kernel⟩
theorem wd548 : Cond.instanceMethod yX10_crossing ∈ wsL_law := List.mem_filter.mpr ⟨List.mem_append_right _ (List.mem_append_right _ (List.mem_append_right _ (List.mem_append_right _ (List.mem_append_right _ (List.mem_append_right _ (List.mem_append_right _ (List.mem_append_left _ (List.mem_of_getElem? (i := 16) (by decide +kernel))))))))), by decide +kernel⟩
theorem wd549 : Cond.selects RX10 yX10_crossing yX10_crossing ∈ wsL_law := List.mem_filter.mpr ⟨List.mem_append_right _ (List.mem_append_right _ (List.mem_append_right _ (List.mem_append_right _ (List.mem_append_right _ (List.mem_append_right _ (List.mem_append_right _ (List.mem_append_left _ (List.mem_of_getElem? (i := 17) (by decide +kernel))))))))), by decide +kernel⟩
theorem wd551 : Cond.fieldLink RX10 288 "PressAndWaitModel" "end" "I" ∈ wsL_law := List.mem_filter.mpr ⟨List.mem_append_right _ (List.mem_append_right _ (List.mem_append_right _ (List.mem_append_right _ (List.mem_append_right _ (List.mem_append_left _ (List.mem_of_getElem? (i := 120) (by decide +kernel))))))), by decide +kernel⟩
theorem wd552 : Cond.fieldLink RX10 285 "PressAndWaitModel" "at" "I" ∈ wsL_law := List.mem_filter.mpr ⟨List.mem_append_right _ (List.mem_append_right _ (List.mem_append_right _ (List.mem_append_right _ (List.mem_append_right _ (List.mem_append_left _ (List.mem_of_getElem? (i := 119) (by decide +kernel))))))), by decide +kernel⟩
theorem wd553 : Cond.fieldLink RX10 299 "PressAndWaitModel" "ended" "I" ∈ wsL_law := List.mem_filter.mpr ⟨List.mem_append_right _ (List.mem_append_right _ (List.mem_append_right _ (List.mem_append_right _ (List.mem_append_right _ (List.mem_append_left _ (List.mem_of_getElem? (i := 121) (by decide +kernel))))))), by decide +kernel⟩
theorem wd554 : Cond.fieldLink RX10 279 "PressAndWaitModel" "bad" "I" ∈ wsL_law := List.mem_filter.mpr ⟨List.mem_append_right _ (List.mem_append_right _ (List.mem_append_right _ (List.mem_append_right _ (List.mem_append_right _ (List.mem_append_left _ (List.mem_of_getElem? (i := 122) (by decide +kernel))))))), by decide +kernel⟩
theorem wd555 : Cond.fieldLink RX10 282 "PressAndWaitModel" "badPlace" "I" ∈ wsL_law := List.mem_filter.mpr ⟨List.mem_append_right _ (List.mem_append_right _ (List.mem_append_right _ (List.mem_append_right _ (List.mem_append_right _ (List.mem_append_left _ (List.mem_of_getElem? (i := 123) (by decide +kernel))))))), by decide +kernel⟩
theorem wd556 : Cond.fieldLink RX10 387 "PressAndWaitModel" "coded" "I" ∈ wsL_law := List.mem_filter.mpr ⟨List.mem_append_right _ (List.mem_append_right _ (List.mem_append_right _ (List.mem_append_right _ (List.mem_append_right _ (List.mem_append_left _ (List.mem_of_getElem? (i := 169) (by decide +kernel))))))), by decide +kernel⟩
theorem wd557 : Cond.fieldLink RX10 402 "PressAndWaitModel" "awayTold" "I" ∈ wsL_law := List.mem_filter.mpr ⟨List.mem_append_right _ (List.mem_append_right _ (List.mem_append_right _ (List.mem_append_right _ (List.mem_append_right _ (List.mem_append_left _ (List.mem_of_getElem? (i := 164) (by decide +kernel))))))), by decide +kernel⟩
theorem wd558 : Cond.fieldLink RX10 390 "PressAndWaitModel" "statements" "I" ∈ wsL_law := List.mem_filter.mpr ⟨List.mem_append_right _ (List.mem_append_right _ (List.mem_append_right _ (List.mem_append_right _ (List.mem_append_right _ (List.mem_append_left _ (List.mem_of_getElem? (i := 170) (by decide +kernel))))))), by decide +kernel⟩
theorem wd559 : Cond.fieldLink RX10 411 "PressAndWaitModel" "fault" "I" ∈ wsL_law := List.mem_filter.mpr ⟨List.mem_append_right _ (List.mem_append_right _ (List.mem_append_right _ (List.mem_append_right _ (List.mem_append_right _ (List.mem_append_left _ (List.mem_of_getElem? (i := 124) (by decide +kernel))))))), by decide +kernel⟩
theorem wd560 : Cond.methodLink RX10 405 yX10_barTold ∈ wsL_law := List.mem_filter.mpr ⟨List.mem_append_right _ (List.mem_append_right _ (List.mem_append_right _ (List.mem_append_right _ (List.mem_append_right _ (List.mem_append_right _ (List.mem_append_right _ (List.mem_append_left _ (List.mem_of_getElem? (i := 19) (by decide +kernel))))))))), by decide +kernel⟩
theorem wd561 : Cond.instanceMethod yX10_barTold ∈ wsL_law := List.mem_filter.mpr ⟨List.mem_append_right _ (List.mem_append_right _ (List.mem_append_right _ (List.mem_append_right _ (List.mem_append_right _ (List.mem_append_right _ (List.mem_append_right _ (List.mem_append_left _ (List.mem_of_getElem? (i := 21) (by decide +kernel))))))))), by decide +kernel⟩
theorem wd562 : Cond.selects RX10 yX10_barTold yX10_barTold ∈ wsL_law := List.mem_filter.mpr ⟨List.mem_append_left _ (List.mem_of_getElem? (i := 60) (by decide +kernel)), by decide +kernel⟩
theorem wd564 : Cond.methodLink RX10 350 yX10_asks ∈ wsL_law := List.mem_filter.mpr ⟨List.mem_append_right _ (List.mem_append_right _ (List.mem_append_right _ (List.mem_append_right _ (List.mem_append_right _ (List.mem_append_right _ (List.mem_append_right _ (List.mem_append_left _ (List.mem_of_getElem? (i := 23) (by decide +kernel))))))))), by decide +kernel⟩
theorem wd565 : Cond.instanceMethod yX10_asks ∈ wsL_law := List.mem_filter.mpr ⟨List.mem_append_right _ (List.mem_append_right _ (List.mem_append_right _ (List.mem_append_right _ (List.mem_append_right _ (List.mem_append_right _ (List.mem_append_right _ (List.mem_append_left _ (List.mem_of_getElem? (i := 25) (by decide +kernel))))))))), by decide +kernel⟩
theorem wd566 : Cond.selects RX10 yX10_asks yX10_asks ∈ wsL_law := List.mem_filter.mpr ⟨List.mem_append_left _ (List.mem_of_getElem? (i := 61) (by decide +kernel)), by decide +kernel⟩
theorem wd568 : Cond.methodLink RX10 305 yX10_takes ∈ wsL_law := List.mem_filter.mpr ⟨List.mem_append_right _ (List.mem_append_right _ (List.mem_append_right _ (List.mem_append_right _ (List.mem_append_right _ (List.mem_append_right _ (List.mem_append_right _ (List.mem_append_left _ (List.mem_of_getElem? (i := 27) (by decide +kernel))))))))), by decide +kernel⟩
theorem wd569 : Cond.instanceMethod yX10_takes ∈ wsL_law := List.mem_filter.mpr ⟨List.mem_append_right _ (List.mem_append_right _ (List.mem_append_right _ (List.mem_append_right _ (List.mem_append_right _ (List.mem_append_right _ (List.mem_append_right _ (List.mem_append_left _ (List.mem_of_getElem? (i := 29) (by decide +kernel))))))))), by decide +kernel⟩
theorem wd570 : Cond.selects RX10 yX10_takes yX10_takes ∈ wsL_law := List.mem_filter.mpr ⟨List.mem_append_left _ (List.mem_of_getElem? (i := 62) (by decide +kernel)), by decide +kernel⟩
theorem wd572 : Cond.methodLink RX10 302 yX10_isHere ∈ wsL_law := List.mem_filter.mpr ⟨List.mem_append_right _ (List.mem_append_right _ (List.mem_append_right _ (List.mem_append_right _ (List.mem_append_right _ (List.mem_append_right _ (List.mem_append_right _ (List.mem_append_left _ (List.mem_of_getElem? (i := 31) (by decide +kernel))))))))), by decide +kernel⟩
theorem wd573 : Cond.instanceMethod yX10_isHere ∈ wsL_law := List.mem_filter.mpr ⟨List.mem_append_right _ (List.mem_append_right _ (List.mem_append_right _ (List.mem_append_right _ (List.mem_append_right _ (List.mem_append_right _ (List.mem_append_right _ (List.mem_append_left _ (List.mem_of_getElem? (i := 33) (by decide +kernel))))))))), by decide +kernel⟩
theorem wd574 : Cond.selects RX10 yX10_isHere yX10_isHere ∈ wsL_law := List.mem_filter.mpr ⟨List.mem_append_left _ (List.mem_of_getElem? (i := 63) (by decide +kernel)), by decide +kernel⟩
theorem wd576 : Cond.methodLink RX10 291 yX10_look ∈ wsL_law := List.mem_filter.mpr ⟨List.mem_append_right _ (List.mem_append_right _ (List.mem_append_right _ (List.mem_append_right _ (List.mem_append_right _ (List.mem_append_right _ (List.mem_append_right _ (List.mem_append_left _ (List.mem_of_getElem? (i := 35) (by decide +kernel))))))))), by decide +kernel⟩
theorem wd577 : Cond.instanceMethod yX10_look ∈ wsL_law := List.mem_filter.mpr ⟨List.mem_append_right _ (List.mem_append_right _ (List.mem_append_right _ (List.mem_append_right _ (List.mem_append_right _ (List.mem_append_right _ (List.mem_append_right _ (List.mem_append_left _ (List.mem_of_getElem? (i := 37) (by decide +kernel))))))))), by decide +kernel⟩
theorem wd578 : Cond.selects RX10 yX10_look yX10_look ∈ wsL_law := List.mem_filter.mpr ⟨List.mem_append_left _ (List.mem_of_getElem? (i := 64) (by decide +kernel)), by decide +kernel⟩
theorem wd580 : Cond.methodLink RX10 295 yX10_isLetter ∈ wsL_law := List.mem_filter.mpr ⟨List.mem_append_right _ (List.mem_append_right _ (List.mem_append_right _ (List.mem_append_right _ (List.mem_append_right _ (List.mem_append_right _ (List.mem_append_right _ (List.mem_append_left _ (List.mem_of_getElem? (i := 39) (by decide +kernel))))))))), by decide +kernel⟩
theorem wd581 : Cond.static yX10_isLetter ∈ wsL_law := List.mem_filter.mpr ⟨List.mem_append_right _ (List.mem_append_right _ (List.mem_append_right _ (List.mem_append_right _ (List.mem_append_right _ (List.mem_append_right _ (List.mem_append_right _ (List.mem_append_left _ (List.mem_of_getElem? (i := 40) (by decide +kernel))))))))), by decide +kernel⟩
theorem wd583 : Cond.methodLink RX10 308 yX10_fail ∈ wsL_law := List.mem_filter.mpr ⟨List.mem_append_right _ (List.mem_append_right _ (List.mem_append_right _ (List.mem_append_right _ (List.mem_append_right _ (List.mem_append_right _ (List.mem_append_right _ (List.mem_append_left _ (List.mem_of_getElem? (i := 42) (by decide +kernel))))))))), by decide +kernel⟩
theorem wd584 : Cond.instanceMethod yX10_fail ∈ wsL_law := List.mem_filter.mpr ⟨List.mem_append_right _ (List.mem_append_right _ (List.mem_append_right _ (List.mem_append_right _ (List.mem_append_right _ (List.mem_append_right _ (List.mem_append_right _ (List.mem_append_left _ (List.mem_of_getElem? (i := 44) (by decide +kernel))))))))), by decide +kernel⟩
theorem wd585 : Cond.selects RX10 yX10_fail yX10_fail ∈ wsL_law := List.mem_filter.mpr ⟨List.mem_append_left _ (List.mem_of_getElem? (i := 65) (by decide +kernel)), by decide +kernel⟩
theorem wd587 : Cond.methodLink RX10 354 yX10_number ∈ wsL_law := List.mem_filter.mpr ⟨List.mem_append_right _ (List.mem_append_right _ (List.mem_append_right _ (List.mem_append_right _ (List.mem_append_right _ (List.mem_append_right _ (List.mem_append_right _ (List.mem_append_left _ (List.mem_of_getElem? (i := 46) (by decide +kernel))))))))), by decide +kernel⟩
theorem wd588 : Cond.instanceMethod yX10_number ∈ wsL_law := List.mem_filter.mpr ⟨List.mem_append_right _ (List.mem_append_right _ (List.mem_append_right _ (List.mem_append_right _ (List.mem_append_right _ (List.mem_append_right _ (List.mem_append_right _ (List.mem_append_left _ (List.mem_of_getElem? (i := 48) (by decide +kernel))))))))), by decide +kernel⟩
theorem wd589 : Cond.selects RX10 yX10_number yX10_number ∈ wsL_law := List.mem_filter.mpr ⟨List.mem_append_left _ (List.mem_of_getElem? (i := 66) (by decide +kernel)), by decide +kernel⟩
theorem wd594 : Cond.methodLink RX10 318 yX10_isIn ∈ wsL_law := List.mem_filter.mpr ⟨List.mem_append_right _ (List.mem_append_right _ (List.mem_append_right _ (List.mem_append_right _ (List.mem_append_right _ (List.mem_append_right _ (List.mem_append_right _ (List.mem_append_left _ (List.mem_of_getElem? (i := 53) (by decide +kernel))))))))), by decide +kernel⟩
theorem wd595 : Cond.static yX10_isIn ∈ wsL_law := List.mem_filter.mpr ⟨List.mem_append_right _ (List.mem_append_right _ (List.mem_append_right _ (List.mem_append_right _ (List.mem_append_right _ (List.mem_append_right _ (List.mem_append_right _ (List.mem_append_left _ (List.mem_of_getElem? (i := 54) (by decide +kernel))))))))), by decide +kernel⟩
theorem wd597 : Cond.methodLink RX10 358 yX10_asksSign ∈ wsL_law := List.mem_filter.mpr ⟨List.mem_append_right _ (List.mem_append_right _ (List.mem_append_right _ (List.mem_append_right _ (List.mem_append_right _ (List.mem_append_right _ (List.mem_append_right _ (List.mem_append_left _ (List.mem_of_getElem? (i := 56) (by decide +kernel))))))))), by decide +kernel⟩
theorem wd598 : Cond.instanceMethod yX10_asksSign ∈ wsL_law := List.mem_filter.mpr ⟨List.mem_append_right _ (List.mem_append_right _ (List.mem_append_right _ (List.mem_append_right _ (List.mem_append_right _ (List.mem_append_right _ (List.mem_append_right _ (List.mem_append_left _ (List.mem_of_getElem? (i := 58) (by decide +kernel))))))))), by decide +kernel⟩
theorem wd599 : Cond.selects RX10 yX10_asksSign yX10_asksSign ∈ wsL_law := List.mem_filter.mpr ⟨List.mem_append_left _ (List.mem_of_getElem? (i := 67) (by decide +kernel)), by decide +kernel⟩
theorem wd735 : Cond.fieldLink RX10 417 "PressAndWaitModel" "isCrossing" "Z" ∈ wsL_law := List.mem_filter.mpr ⟨List.mem_append_right _ (List.mem_append_right _ (List.mem_append_right _ (List.mem_append_right _ (List.mem_append_right _ (List.mem_append_left _ (List.mem_of_getElem? (i := 171) (by decide +kernel))))))), by decide +kernel⟩
theorem wd737 : Cond.fieldLink RX10 424 "PressAndWaitModel" "undoable" "I" ∈ wsL_law := List.mem_filter.mpr ⟨List.mem_append_right _ (List.mem_append_right _ (List.mem_append_right _ (List.mem_append_right _ (List.mem_append_right _ (List.mem_append_left _ (List.mem_of_getElem? (i := 199) (by decide +kernel))))))), by decide +kernel⟩
theorem wd738 : Cond.fieldLink RX10 427 "PressAndWaitModel" "rowMany" "I" ∈ wsL_law := List.mem_filter.mpr ⟨List.mem_append_right _ (List.mem_append_right _ (List.mem_append_right _ (List.mem_append_right _ (List.mem_append_right _ (List.mem_append_left _ (List.mem_of_getElem? (i := 192) (by decide +kernel))))))), by decide +kernel⟩
theorem wd739 : Cond.methodLink RL 28 yX9_fault ∈ wsL_law := List.mem_filter.mpr ⟨List.mem_append_right _ (List.mem_append_right _ (List.mem_append_right _ (List.mem_append_left _ (List.mem_of_getElem? (i := 229) (by decide +kernel))))), by decide +kernel⟩
theorem wd740 : Cond.instanceMethod yX9_fault ∈ wsL_law := List.mem_filter.mpr ⟨List.mem_append_right _ (List.mem_append_right _ (List.mem_append_right _ (List.mem_append_left _ (List.mem_of_getElem? (i := 230) (by decide +kernel))))), by decide +kernel⟩
theorem wd741 : Cond.selects RX9 yX9_fault yX9_fault ∈ wsL_law := List.mem_filter.mpr ⟨List.mem_append_right _ (List.mem_append_right _ (List.mem_append_right _ (List.mem_append_left _ (List.mem_of_getElem? (i := 231) (by decide +kernel))))), by decide +kernel⟩
theorem wd743 : Cond.fieldLink RX9 142 "PressAndWait$Reader" "place" "I" ∈ wsL_law := List.mem_filter.mpr ⟨List.mem_append_right _ (List.mem_append_left _ (List.mem_of_getElem? (i := 209) (by decide +kernel))), by decide +kernel⟩
theorem wd744 : Cond.methodLink RL 32 yX10_fault ∈ wsL_law := List.mem_filter.mpr ⟨List.mem_append_right _ (List.mem_append_right _ (List.mem_append_right _ (List.mem_append_right _ (List.mem_append_right _ (List.mem_append_right _ (List.mem_append_right _ (List.mem_append_left _ (List.mem_of_getElem? (i := 188) (by decide +kernel))))))))), by decide +kernel⟩
theorem wd745 : Cond.instanceMethod yX10_fault ∈ wsL_law := List.mem_filter.mpr ⟨List.mem_append_right _ (List.mem_append_right _ (List.mem_append_right _ (List.mem_append_right _ (List.mem_append_right _ (List.mem_append_right _ (List.mem_append_right _ (List.mem_append_left _ (List.mem_of_getElem? (i := 189) (by decide +kernel))))))))), by decide +kernel⟩
theorem wd746 : Cond.selects RX10 yX10_fault yX10_fault ∈ wsL_law := List.mem_filter.mpr ⟨List.mem_append_right _ (List.mem_append_right _ (List.mem_append_right _ (List.mem_append_right _ (List.mem_append_right _ (List.mem_append_right _ (List.mem_append_right _ (List.mem_append_left _ (List.mem_of_getElem? (i := 190) (by decide +kernel))))))))), by decide +kernel⟩
theorem wd748 : Cond.methodLink RL 33 yX9_has ∈ wsL_law := List.mem_filter.mpr ⟨List.mem_append_right _ (List.mem_append_right _ (List.mem_append_right _ (List.mem_append_left _ (List.mem_of_getElem? (i := 233) (by decide +kernel))))), by decide +kernel⟩
theorem wd749 : Cond.instanceMethod yX9_has ∈ wsL_law := List.mem_filter.mpr ⟨List.mem_append_right _ (List.mem_append_right _ (List.mem_append_right _ (List.mem_append_left _ (List.mem_of_getElem? (i := 234) (by decide +kernel))))), by decide +kernel⟩
theorem wd750 : Cond.selects RX9 yX9_has yX9_has ∈ wsL_law := List.mem_filter.mpr ⟨List.mem_append_right _ (List.mem_append_right _ (List.mem_append_right _ (List.mem_append_left _ (List.mem_of_getElem? (i := 235) (by decide +kernel))))), by decide +kernel⟩
theorem wd752 : Cond.fieldLink RX9 145 "PressAndWait$Plan" "cycle" "I" ∈ wsL_law := List.mem_filter.mpr ⟨List.mem_append_right _ (List.mem_append_left _ (List.mem_of_getElem? (i := 37) (by decide +kernel))), by decide +kernel⟩
theorem wd753 : Cond.fieldLink RX9 148 "PressAndWait$Plan" "kinds" "I" ∈ wsL_law := List.mem_filter.mpr ⟨List.mem_append_right _ (List.mem_append_left _ (List.mem_of_getElem? (i := 52) (by decide +kernel))), by decide +kernel⟩
theorem wd754 : Cond.fieldLink RX9 151 "PressAndWait$Plan" "walkers" "I" ∈ wsL_law := List.mem_filter.mpr ⟨List.mem_append_right _ (List.mem_append_left _ (List.mem_of_getElem? (i := 66) (by decide +kernel))), by decide +kernel⟩
theorem wd755 : Cond.fieldLink RX9 154 "PressAndWait$State" "day" "I" ∈ wsL_law := List.mem_filter.mpr ⟨List.mem_append_right _ (List.mem_append_left _ (List.mem_of_getElem? (i := 138) (by decide +kernel))), by decide +kernel⟩
theorem wd756 : Cond.fieldLink RX9 157 "PressAndWait$State" "rule" "I" ∈ wsL_law := List.mem_filter.mpr ⟨List.mem_append_right _ (List.mem_append_left _ (List.mem_of_getElem? (i := 142) (by decide +kernel))), by decide +kernel⟩
theorem wd757 : Cond.fieldLink RX9 160 "PressAndWait$State" "green" "I" ∈ wsL_law := List.mem_filter.mpr ⟨List.mem_append_right _ (List.mem_append_left _ (List.mem_of_getElem? (i := 145) (by decide +kernel))), by decide +kernel⟩
theorem wd758 : Cond.fieldLink RX9 163 "PressAndWait$Watch" "rows" "I" ∈ wsL_law := List.mem_filter.mpr ⟨List.mem_append_right _ (List.mem_append_right _ (List.mem_append_left _ (List.mem_of_getElem? (i := 106) (by decide +kernel)))), by decide +kernel⟩
theorem wd759 : Cond.fieldLink RX9 166 "PressAndWait$History" "count" "I" ∈ wsL_law := List.mem_filter.mpr ⟨List.mem_append_right _ (List.mem_append_left _ (List.mem_of_getElem? (i := 171) (by decide +kernel))), by decide +kernel⟩
theorem wd760 : Cond.methodLink RL 36 yX10_has ∈ wsL_law := List.mem_filter.mpr ⟨List.mem_append_right _ (List.mem_append_right _ (List.mem_append_right _ (List.mem_append_right _ (List.mem_append_right _ (List.mem_append_right _ (List.mem_append_right _ (List.mem_append_left _ (List.mem_of_getElem? (i := 192) (by decide +kernel))))))))), by decide +kernel⟩
theorem wd761 : Cond.instanceMethod yX10_has ∈ wsL_law := List.mem_filter.mpr ⟨List.mem_append_right _ (List.mem_append_right _ (List.mem_append_right _ (List.mem_append_right _ (List.mem_append_right _ (List.mem_append_right _ (List.mem_append_right _ (List.mem_append_left _ (List.mem_of_getElem? (i := 193) (by decide +kernel))))))))), by decide +kernel⟩
theorem wd762 : Cond.selects RX10 yX10_has yX10_has ∈ wsL_law := List.mem_filter.mpr ⟨List.mem_append_right _ (List.mem_append_right _ (List.mem_append_right _ (List.mem_append_right _ (List.mem_append_right _ (List.mem_append_right _ (List.mem_append_right _ (List.mem_append_left _ (List.mem_of_getElem? (i := 194) (by decide +kernel))))))))), by decide +kernel⟩
theorem wd764 : Cond.methodLink RX10 430 yX10_kindMany ∈ wsL_law := List.mem_filter.mpr ⟨List.mem_append_right _ (List.mem_append_right _ (List.mem_append_right _ (List.mem_append_right _ (List.mem_append_right _ (List.mem_append_right _ (List.mem_append_right _ (List.mem_append_left _ (List.mem_of_getElem? (i := 196) (by decide +kernel))))))))), by decide +kernel⟩
theorem wd765 : Cond.instanceMethod yX10_kindMany ∈ wsL_law := List.mem_filter.mpr ⟨List.mem_append_right _ (List.mem_append_right _ (List.mem_append_right _ (List.mem_append_right _ (List.mem_append_right _ (List.mem_append_right _ (List.mem_append_right _ (List.mem_append_left _ (List.mem_of_getElem? (i := 198) (by decide +kernel))))))))), by decide +kernel⟩
theorem wd766 : Cond.selects RX10 yX10_kindMany yX10_kindMany ∈ wsL_law := List.mem_filter.mpr ⟨List.mem_append_left _ (List.mem_of_getElem? (i := 98) (by decide +kernel)), by decide +kernel⟩
theorem wd768 : Cond.methodLink RX10 433 yX10_walkerMany ∈ wsL_law := List.mem_filter.mpr ⟨List.mem_append_right _ (List.mem_append_right _ (List.mem_append_right _ (List.mem_append_right _ (List.mem_append_right _ (List.mem_append_right _ (List.mem_append_right _ (List.mem_append_left _ (List.mem_of_getElem? (i := 200) (by decide +kernel))))))))), by decide +kernel⟩
theorem wd769 : Cond.instanceMethod yX10_walkerMany ∈ wsL_law := List.mem_filter.mpr ⟨List.mem_append_right _ (List.mem_append_right _ (List.mem_append_right _ (List.mem_append_right _ (List.mem_append_right _ (List.mem_append_right _ (List.mem_append_right _ (List.mem_append_left _ (List.mem_of_getElem? (i := 202) (by decide +kernel))))))))), by decide +kernel⟩
theorem wd770 : Cond.selects RX10 yX10_walkerMany yX10_walkerMany ∈ wsL_law := List.mem_filter.mpr ⟨List.mem_append_left _ (List.mem_of_getElem? (i := 99) (by decide +kernel)), by decide +kernel⟩
theorem wd772 : Cond.methodLink RL 37 yX9_letter ∈ wsL_law := List.mem_filter.mpr ⟨List.mem_append_right _ (List.mem_append_right _ (List.mem_append_right _ (List.mem_append_left _ (List.mem_of_getElem? (i := 237) (by decide +kernel))))), by decide +kernel⟩
theorem wd773 : Cond.instanceMethod yX9_letter ∈ wsL_law := List.mem_filter.mpr ⟨List.mem_append_right _ (List.mem_append_right _ (List.mem_append_right _ (List.mem_append_left _ (List.mem_of_getElem? (i := 238) (by decide +kernel))))), by decide +kernel⟩
theorem wd774 : Cond.selects RX9 yX9_letter yX9_letter ∈ wsL_law := List.mem_filter.mpr ⟨List.mem_append_right _ (List.mem_append_right _ (List.mem_append_right _ (List.mem_append_left _ (List.mem_of_getElem? (i := 239) (by decide +kernel))))), by decide +kernel⟩
theorem wd777 : Cond.methodLink RX9 169 yX9_isKind ∈ wsL_law := List.mem_filter.mpr ⟨List.mem_append_right _ (List.mem_append_right _ (List.mem_append_right _ (List.mem_append_right _ (List.mem_append_left _ (List.mem_of_getElem? (i := 1) (by decide +kernel)))))), by decide +kernel⟩
theorem wd778 : Cond.instanceMethod yX9_isKind ∈ wsL_law := List.mem_filter.mpr ⟨List.mem_append_right _ (List.mem_append_right _ (List.mem_append_right _ (List.mem_append_right _ (List.mem_append_left _ (List.mem_of_getElem? (i := 3) (by decide +kernel)))))), by decide +kernel⟩
theorem wd779 : Cond.selects RX9 yX9_isKind yX9_isKind ∈ wsL_law := List.mem_filter.mpr ⟨List.mem_append_left _ (List.mem_of_getElem? (i := 37) (by decide +kernel)), by decide +kernel⟩
theorem wd781 : Cond.methodLink RX9 172 yX9_isWalker ∈ wsL_law := List.mem_filter.mpr ⟨List.mem_append_right _ (List.mem_append_right _ (List.mem_append_right _ (List.mem_append_right _ (List.mem_append_left _ (List.mem_of_getElem? (i := 5) (by decide +kernel)))))), by decide +kernel⟩
theorem wd782 : Cond.instanceMethod yX9_isWalker ∈ wsL_law := List.mem_filter.mpr ⟨List.mem_append_right _ (List.mem_append_right _ (List.mem_append_right _ (List.mem_append_right _ (List.mem_append_left _ (List.mem_of_getElem? (i := 7) (by decide +kernel)))))), by decide +kernel⟩
theorem wd783 : Cond.selects RX9 yX9_isWalker yX9_isWalker ∈ wsL_law := List.mem_filter.mpr ⟨List.mem_append_left _ (List.mem_of_getElem? (i := 38) (by decide +kernel)), by decide +kernel⟩
theorem wd785 : Cond.methodLink RL 41 yX10_letter ∈ wsL_law := List.mem_filter.mpr ⟨List.mem_append_right _ (List.mem_append_right _ (List.mem_append_right _ (List.mem_append_right _ (List.mem_append_right _ (List.mem_append_right _ (List.mem_append_right _ (List.mem_append_left _ (List.mem_of_getElem? (i := 204) (by decide +kernel))))))))), by decide +kernel⟩
theorem wd786 : Cond.instanceMethod yX10_letter ∈ wsL_law := List.mem_filter.mpr ⟨List.mem_append_right _ (List.mem_append_right _ (List.mem_append_right _ (List.mem_append_right _ (List.mem_append_right _ (List.mem_append_right _ (List.mem_append_right _ (List.mem_append_left _ (List.mem_of_getElem? (i := 205) (by decide +kernel))))))))), by decide +kernel⟩
theorem wd787 : Cond.selects RX10 yX10_letter yX10_letter ∈ wsL_law := List.mem_filter.mpr ⟨List.mem_append_right _ (List.mem_append_right _ (List.mem_append_right _ (List.mem_append_right _ (List.mem_append_right _ (List.mem_append_right _ (List.mem_append_right _ (List.mem_append_left _ (List.mem_of_getElem? (i := 206) (by decide +kernel))))))))), by decide +kernel⟩
theorem wd789 : Cond.constantLong RX10 526 (5) ∈ wsL_law := List.mem_filter.mpr ⟨List.mem_append_right _ (List.mem_append_right _ (List.mem_append_right _ (List.mem_append_right _ (List.mem_append_right _ (List.mem_append_right _ (List.mem_append_right _ (List.mem_append_left _ (List.mem_of_getElem? (i := 208) (by decide +kernel))))))))), by decide +kernel⟩
theorem wd790 : Cond.methodLink RL 42 yX9_kind ∈ wsL_law := List.mem_filter.mpr ⟨List.mem_append_right _ (List.mem_append_right _ (List.mem_append_right _ (List.mem_append_right _ (List.mem_append_left _ (List.mem_of_getElem? (i := 9) (by decide +kernel)))))), by decide +kernel⟩
theorem wd791 : Cond.instanceMethod yX9_kind ∈ wsL_law := List.mem_filter.mpr ⟨List.mem_append_right _ (List.mem_append_right _ (List.mem_append_right _ (List.mem_append_right _ (List.mem_append_left _ (List.mem_of_getElem? (i := 10) (by decide +kernel)))))), by decide +kernel⟩
theorem wd792 : Cond.selects RX9 yX9_kind yX9_kind ∈ wsL_law := List.mem_filter.mpr ⟨List.mem_append_right _ (List.mem_append_right _ (List.mem_append_right _ (List.mem_append_right _ (List.mem_append_left _ (List.mem_of_getElem? (i := 11) (by decide +kernel)))))), by decide +kernel⟩
theorem wd801 : Cond.methodLink RL 46 yX10_kind ∈ wsL_law := List.mem_filter.mpr ⟨List.mem_append_right _ (List.mem_append_right _ (List.mem_append_right _ (List.mem_append_right _ (List.mem_append_right _ (List.mem_append_right _ (List.mem_append_right _ (List.mem_append_left _ (List.mem_of_getElem? (i := 209) (by decide +kernel))))))))), by decide +kernel⟩
theorem wd802 : Cond.instanceMethod yX10_kind ∈ wsL_law := List.mem_filter.mpr ⟨List.mem_append_right _ (List.mem_append_right _ (List.mem_append_right _ (List.mem_append_right _ (List.mem_append_right _ (List.mem_append_right _ (List.mem_append_right _ (List.mem_append_left _ (List.mem_of_getElem? (i := 210) (by decide +kernel))))))))), by decide +kernel⟩
theorem wd803 : Cond.selects RX10 yX10_kind yX10_kind ∈ wsL_law := List.mem_filter.mpr ⟨List.mem_append_right _ (List.mem_append_right _ (List.mem_append_right _ (List.mem_append_right _ (List.mem_append_right _ (List.mem_append_right _ (List.mem_append_right _ (List.mem_append_left _ (List.mem_of_getElem? (i := 211) (by decide +kernel))))))))), by decide +kernel⟩
theorem wd805 : Cond.methodLink RX10 528 yX10_isKind ∈ wsL_law := List.mem_filter.mpr ⟨List.mem_append_right _ (List.mem_append_right _ (List.mem_append_right _ (List.mem_append_right _ (List.mem_append_right _ (List.mem_append_right _ (List.mem_append_right _ (List.mem_append_left _ (List.mem_of_getElem? (i := 213) (by decide +kernel))))))))), by decide +kernel⟩
theorem wd806 : Cond.instanceMethod yX10_isKind ∈ wsL_law := List.mem_filter.mpr ⟨List.mem_append_right _ (List.mem_append_right _ (List.mem_append_right _ (List.mem_append_right _ (List.mem_append_right _ (List.mem_append_right _ (List.mem_append_right _ (List.mem_append_left _ (List.mem_of_getElem? (i := 215) (by decide +kernel))))))))), by decide +kernel⟩
theorem wd807 : Cond.selects RX10 yX10_isKind yX10_isKind ∈ wsL_law := List.mem_filter.mpr ⟨List.mem_append_left _ (List.mem_of_getElem? (i := 100) (by decide +kernel)), by decide +kernel⟩
theorem wd817 : Cond.methodLink RL 47 yX9_walker ∈ wsL_law := List.mem_filter.mpr ⟨List.mem_append_right _ (List.mem_append_right _ (List.mem_append_right _ (List.mem_append_right _ (List.mem_append_left _ (List.mem_of_getElem? (i := 17) (by decide +kernel)))))), by decide +kernel⟩
theorem wd818 : Cond.instanceMethod yX9_walker ∈ wsL_law := List.mem_filter.mpr ⟨List.mem_append_right _ (List.mem_append_right _ (List.mem_append_right _ (List.mem_append_right _ (List.mem_append_left _ (List.mem_of_getElem? (i := 18) (by decide +kernel)))))), by decide +kernel⟩
theorem wd819 : Cond.selects RX9 yX9_walker yX9_walker ∈ wsL_law := List.mem_filter.mpr ⟨List.mem_append_right _ (List.mem_append_right _ (List.mem_append_right _ (List.mem_append_right _ (List.mem_append_left _ (List.mem_of_getElem? (i := 19) (by decide +kernel)))))), by decide +kernel⟩
theorem wd914 : Cond.methodLink RL 50 yX10_walker ∈ wsL_law := List.mem_filter.mpr ⟨List.mem_append_right _ (List.mem_append_right _ (List.mem_append_right _ (List.mem_append_right _ (List.mem_append_right _ (List.mem_append_right _ (List.mem_append_right _ (List.mem_append_left _ (List.mem_of_getElem? (i := 225) (by decide +kernel))))))))), by decide +kernel⟩
theorem wd915 : Cond.instanceMethod yX10_walker ∈ wsL_law := List.mem_filter.mpr ⟨List.mem_append_right _ (List.mem_append_right _ (List.mem_append_right _ (List.mem_append_right _ (List.mem_append_right _ (List.mem_append_right _ (List.mem_append_right _ (List.mem_append_left _ (List.mem_of_getElem? (i := 226) (by decide +kernel))))))))), by decide +kernel⟩
theorem wd916 : Cond.selects RX10 yX10_walker yX10_walker ∈ wsL_law := List.mem_filter.mpr ⟨List.mem_append_right _ (List.mem_append_right _ (List.mem_append_right _ (List.mem_append_right _ (List.mem_append_right _ (List.mem_append_right _ (List.mem_append_right _ (List.mem_append_left _ (List.mem_of_getElem? (i := 227) (by decide +kernel))))))))), by decide +kernel⟩
theorem wd918 : Cond.methodLink RX10 531 yX10_isWalker ∈ wsL_law := List.mem_filter.mpr ⟨List.mem_append_right _ (List.mem_append_right _ (List.mem_append_right _ (List.mem_append_right _ (List.mem_append_right _ (List.mem_append_right _ (List.mem_append_right _ (List.mem_append_left _ (List.mem_of_getElem? (i := 229) (by decide +kernel))))))))), by decide +kernel⟩
theorem wd919 : Cond.instanceMethod yX10_isWalker ∈ wsL_law := List.mem_filter.mpr ⟨List.mem_append_right _ (List.mem_append_right _ (List.mem_append_right _ (List.mem_append_right _ (List.mem_append_right _ (List.mem_append_right _ (List.mem_append_right _ (List.mem_append_left _ (List.mem_of_getElem? (i := 231) (by decide +kernel))))))))), by decide +kernel⟩
theorem wd920 : Cond.selects RX10 yX10_isWalker yX10_isWalker ∈ wsL_law := List.mem_filter.mpr ⟨List.mem_append_left _ (List.mem_of_getElem? (i := 103) (by decide +kernel)), by decide +kernel⟩
theorem wd990 : Cond.methodLink RL 51 yX9_light ∈ wsL_law := List.mem_filter.mpr ⟨List.mem_append_right _ (List.mem_append_right _ (List.mem_append_right _ (List.mem_append_right _ (List.mem_append_left _ (List.mem_of_getElem? (i := 94) (by decide +kernel)))))), by decide +kernel⟩
theorem wd991 : Cond.instanceMethod yX9_light ∈ wsL_law := List.mem_filter.mpr ⟨List.mem_append_right _ (List.mem_append_right _ (List.mem_append_right _ (List.mem_append_right _ (List.mem_append_left _ (List.mem_of_getElem? (i := 95) (by decide +kernel)))))), by decide +kernel⟩
theorem wd992 : Cond.selects RX9 yX9_light yX9_light ∈ wsL_law := List.mem_filter.mpr ⟨List.mem_append_right _ (List.mem_append_right _ (List.mem_append_right _ (List.mem_append_right _ (List.mem_append_left _ (List.mem_of_getElem? (i := 96) (by decide +kernel)))))), by decide +kernel⟩
theorem wd995 : Cond.methodLink RX9 218 yX9_stands ∈ wsL_law := List.mem_filter.mpr ⟨List.mem_append_right _ (List.mem_append_right _ (List.mem_append_right _ (List.mem_append_right _ (List.mem_append_left _ (List.mem_of_getElem? (i := 98) (by decide +kernel)))))), by decide +kernel⟩
theorem wd996 : Cond.instanceMethod yX9_stands ∈ wsL_law := List.mem_filter.mpr ⟨List.mem_append_right _ (List.mem_append_right _ (List.mem_append_right _ (List.mem_append_right _ (List.mem_append_left _ (List.mem_of_getElem? (i := 100) (by decide +kernel)))))), by decide +kernel⟩
theorem wd997 : Cond.selects RX9 yX9_stands yX9_stands ∈ wsL_law := List.mem_filter.mpr ⟨List.mem_append_left _ (List.mem_of_getElem? (i := 47) (by decide +kernel)), by decide +kernel⟩
theorem wd999 : Cond.methodLink RL 54 yX10_light ∈ wsL_law := List.mem_filter.mpr ⟨List.mem_append_right _ (List.mem_append_right _ (List.mem_append_right _ (List.mem_append_right _ (List.mem_append_right _ (List.mem_append_right _ (List.mem_append_right _ (List.mem_append_right _ (List.mem_append_left _ (List.mem_of_getElem? (i := 53) (by decide +kernel)))))))))), by decide +kernel⟩
theorem wd1000 : Cond.instanceMethod yX10_light ∈ wsL_law := List.mem_filter.mpr ⟨List.mem_append_right _ (List.mem_append_right _ (List.mem_append_right _ (List.mem_append_right _ (List.mem_append_right _ (List.mem_append_right _ (List.mem_append_right _ (List.mem_append_right _ (List.mem_append_left _ (List.mem_of_getElem? (i := 54) (by decide +kernel)))))))))), by decide +kernel⟩
theorem wd1001 : Cond.selects RX10 yX10_light yX10_light ∈ wsL_law := List.mem_filter.mpr ⟨List.mem_append_right _ (List.mem_append_right _ (List.mem_append_right _ (List.mem_append_right _ (List.mem_append_right _ (List.mem_append_right _ (List.mem_append_right _ (List.mem_append_right _ (List.mem_append_left _ (List.mem_of_getElem? (i := 55) (by decide +kernel)))))))))), by decide +kernel⟩
theorem wd1004 : Cond.methodLink RL 55 yX9_car ∈ wsL_law := List.mem_filter.mpr ⟨List.mem_append_right _ (List.mem_append_right _ (List.mem_append_right _ (List.mem_append_right _ (List.mem_append_left _ (List.mem_of_getElem? (i := 102) (by decide +kernel)))))), by decide +kernel⟩
theorem wd1005 : Cond.instanceMethod yX9_car ∈ wsL_law := List.mem_filter.mpr ⟨List.mem_append_right _ (List.mem_append_right _ (List.mem_append_right _ (List.mem_append_right _ (List.mem_append_left _ (List.mem_of_getElem? (i := 103) (by decide +kernel)))))), by decide +kernel⟩
theorem wd1006 : Cond.selects RX9 yX9_car yX9_car ∈ wsL_law := List.mem_filter.mpr ⟨List.mem_append_right _ (List.mem_append_right _ (List.mem_append_right _ (List.mem_append_right _ (List.mem_append_left _ (List.mem_of_getElem? (i := 104) (by decide +kernel)))))), by decide +kernel⟩
theorem wd1009 : Cond.methodLink RL 58 yX10_car ∈ wsL_law := List.mem_filter.mpr ⟨List.mem_append_right _ (List.mem_append_right _ (List.mem_append_right _ (List.mem_append_right _ (List.mem_append_right _ (List.mem_append_right _ (List.mem_append_right _ (List.mem_append_right _ (List.mem_append_left _ (List.mem_of_getElem? (i := 58) (by decide +kernel)))))))))), by decide +kernel⟩
theorem wd1010 : Cond.instanceMethod yX10_car ∈ wsL_law := List.mem_filter.mpr ⟨List.mem_append_right _ (List.mem_append_right _ (List.mem_append_right _ (List.mem_append_right _ (List.mem_append_right _ (List.mem_append_right _ (List.mem_append_right _ (List.mem_append_right _ (List.mem_append_left _ (List.mem_of_getElem? (i := 59) (by decide +kernel)))))))))), by decide +kernel⟩
theorem wd1011 : Cond.selects RX10 yX10_car yX10_car ∈ wsL_law := List.mem_filter.mpr ⟨List.mem_append_right _ (List.mem_append_right _ (List.mem_append_right _ (List.mem_append_right _ (List.mem_append_right _ (List.mem_append_right _ (List.mem_append_right _ (List.mem_append_right _ (List.mem_append_left _ (List.mem_of_getElem? (i := 60) (by decide +kernel)))))))))), by decide +kernel⟩
theorem wd1014 : Cond.methodLink RL 59 yX9_day ∈ wsL_law := List.mem_filter.mpr ⟨List.mem_append_right _ (List.mem_append_right _ (List.mem_append_right _ (List.mem_append_right _ (List.mem_append_left _ (List.mem_of_getElem? (i := 106) (by decide +kernel)))))), by decide +kernel⟩
theorem wd1015 : Cond.instanceMethod yX9_day ∈ wsL_law := List.mem_filter.mpr ⟨List.mem_append_right _ (List.mem_append_right _ (List.mem_append_right _ (List.mem_append_right _ (List.mem_append_left _ (List.mem_of_getElem? (i := 107) (by decide +kernel)))))), by decide +kernel⟩
theorem wd1016 : Cond.selects RX9 yX9_day yX9_day ∈ wsL_law := List.mem_filter.mpr ⟨List.mem_append_right _ (List.mem_append_right _ (List.mem_append_right _ (List.mem_append_right _ (List.mem_append_left _ (List.mem_of_getElem? (i := 108) (by decide +kernel)))))), by decide +kernel⟩
theorem wd1042 : Cond.methodLink RL 62 yX10_day ∈ wsL_law := List.mem_filter.mpr ⟨List.mem_append_right _ (List.mem_append_right _ (List.mem_append_right _ (List.mem_append_right _ (List.mem_append_right _ (List.mem_append_right _ (List.mem_append_right _ (List.mem_append_right _ (List.mem_append_left _ (List.mem_of_getElem? (i := 63) (by decide +kernel)))))))))), by decide +kernel⟩
theorem wd1043 : Cond.instanceMethod yX10_day ∈ wsL_law := List.mem_filter.mpr ⟨List.mem_append_right _ (List.mem_append_right _ (List.mem_append_right _ (List.mem_append_right _ (List.mem_append_right _ (List.mem_append_right _ (List.mem_append_right _ (List.mem_append_right _ (List.mem_append_left _ (List.mem_of_getElem? (i := 64) (by decide +kernel)))))))))), by decide +kernel⟩
theorem wd1044 : Cond.selects RX10 yX10_day yX10_day ∈ wsL_law := List.mem_filter.mpr ⟨List.mem_append_right _ (List.mem_append_right _ (List.mem_append_right _ (List.mem_append_right _ (List.mem_append_right _ (List.mem_append_right _ (List.mem_append_right _ (List.mem_append_right _ (List.mem_append_left _ (List.mem_of_getElem? (i := 65) (by decide +kernel)))))))))), by decide +kernel⟩
theorem wd1065 : Cond.methodLink RL 63 yX9_best ∈ wsL_law := List.mem_filter.mpr ⟨List.mem_append_right _ (List.mem_append_right _ (List.mem_append_right _ (List.mem_append_right _ (List.mem_append_left _ (List.mem_of_getElem? (i := 133) (by decide +kernel)))))), by decide +kernel⟩
theorem wd1066 : Cond.instanceMethod yX9_best ∈ wsL_law := List.mem_filter.mpr ⟨List.mem_append_right _ (List.mem_append_right _ (List.mem_append_right _ (List.mem_append_right _ (List.mem_append_left _ (List.mem_of_getElem? (i := 134) (by decide +kernel)))))), by decide +kernel⟩
theorem wd1067 : Cond.selects RX9 yX9_best yX9_best ∈ wsL_law := List.mem_filter.mpr ⟨List.mem_append_right _ (List.mem_append_right _ (List.mem_append_right _ (List.mem_append_right _ (List.mem_append_left _ (List.mem_of_getElem? (i := 135) (by decide +kernel)))))), by decide +kernel⟩
theorem wd1084 : Cond.methodLink RL 66 yX10_best ∈ wsL_law := List.mem_filter.mpr ⟨List.mem_append_right _ (List.mem_append_right _ (List.mem_append_right _ (List.mem_append_right _ (List.mem_append_right _ (List.mem_append_right _ (List.mem_append_right _ (List.mem_append_right _ (List.mem_append_left _ (List.mem_of_getElem? (i := 86) (by decide +kernel)))))))))), by decide +kernel⟩
theorem wd1085 : Cond.instanceMethod yX10_best ∈ wsL_law := List.mem_filter.mpr ⟨List.mem_append_right _ (List.mem_append_right _ (List.mem_append_right _ (List.mem_append_right _ (List.mem_append_right _ (List.mem_append_right _ (List.mem_append_right _ (List.mem_append_right _ (List.mem_append_left _ (List.mem_of_getElem? (i := 87) (by decide +kernel)))))))))), by decide +kernel⟩
theorem wd1086 : Cond.selects RX10 yX10_best yX10_best ∈ wsL_law := List.mem_filter.mpr ⟨List.mem_append_right _ (List.mem_append_right _ (List.mem_append_right _ (List.mem_append_right _ (List.mem_append_right _ (List.mem_append_right _ (List.mem_append_right _ (List.mem_append_right _ (List.mem_append_left _ (List.mem_of_getElem? (i := 88) (by decide +kernel)))))))))), by decide +kernel⟩
theorem wd1094 : Cond.methodLink RL 67 yX9_least ∈ wsL_law := List.mem_filter.mpr ⟨List.mem_append_right _ (List.mem_append_right _ (List.mem_append_right _ (List.mem_append_right _ (List.mem_append_left _ (List.mem_of_getElem? (i := 152) (by decide +kernel)))))), by decide +kernel⟩
theorem wd1095 : Cond.instanceMethod yX9_least ∈ wsL_law := List.mem_filter.mpr ⟨List.mem_append_right _ (List.mem_append_right _ (List.mem_append_right _ (List.mem_append_right _ (List.mem_append_left _ (List.mem_of_getElem? (i := 153) (by decide +kernel)))))), by decide +kernel⟩
theorem wd1096 : Cond.selects RX9 yX9_least yX9_least ∈ wsL_law := List.mem_filter.mpr ⟨List.mem_append_right _ (List.mem_append_right _ (List.mem_append_right _ (List.mem_append_right _ (List.mem_append_left _ (List.mem_of_getElem? (i := 154) (by decide +kernel)))))), by decide +kernel⟩
theorem wd1107 : Cond.methodLink RL 70 yX10_least ∈ wsL_law := List.mem_filter.mpr ⟨List.mem_append_right _ (List.mem_append_right _ (List.mem_append_right _ (List.mem_append_right _ (List.mem_append_right _ (List.mem_append_right _ (List.mem_append_right _ (List.mem_append_right _ (List.mem_append_left _ (List.mem_of_getElem? (i := 96) (by decide +kernel)))))))))), by decide +kernel⟩
theorem wd1108 : Cond.instanceMethod yX10_least ∈ wsL_law := List.mem_filter.mpr ⟨List.mem_append_right _ (List.mem_append_right _ (List.mem_append_right _ (List.mem_append_right _ (List.mem_append_right _ (List.mem_append_right _ (List.mem_append_right _ (List.mem_append_right _ (List.mem_append_left _ (List.mem_of_getElem? (i := 97) (by decide +kernel)))))))))), by decide +kernel⟩
theorem wd1109 : Cond.selects RX10 yX10_least yX10_least ∈ wsL_law := List.mem_filter.mpr ⟨List.mem_append_right _ (List.mem_append_right _ (List.mem_append_right _ (List.mem_append_right _ (List.mem_append_right _ (List.mem_append_right _ (List.mem_append_right _ (List.mem_append_right _ (List.mem_append_left _ (List.mem_of_getElem? (i := 98) (by decide +kernel)))))))))), by decide +kernel⟩
theorem wd1111 : Cond.methodLink RL 71 yX9_hold ∈ wsL_law := List.mem_filter.mpr ⟨List.mem_append_right _ (List.mem_append_right _ (List.mem_append_right _ (List.mem_append_right _ (List.mem_append_left _ (List.mem_of_getElem? (i := 164) (by decide +kernel)))))), by decide +kernel⟩
theorem wd1112 : Cond.instanceMethod yX9_hold ∈ wsL_law := List.mem_filter.mpr ⟨List.mem_append_right _ (List.mem_append_right _ (List.mem_append_right _ (List.mem_append_right _ (List.mem_append_left _ (List.mem_of_getElem? (i := 165) (by decide +kernel)))))), by decide +kernel⟩
theorem wd1113 : Cond.selects RX9 yX9_hold yX9_hold ∈ wsL_law := List.mem_filter.mpr ⟨List.mem_append_right _ (List.mem_append_right _ (List.mem_append_right _ (List.mem_append_right _ (List.mem_append_left _ (List.mem_of_getElem? (i := 166) (by decide +kernel)))))), by decide +kernel⟩
theorem wd1124 : Cond.methodLink RL 74 yX10_hold ∈ wsL_law := List.mem_filter.mpr ⟨List.mem_append_right _ (List.mem_append_right _ (List.mem_append_right _ (List.mem_append_right _ (List.mem_append_right _ (List.mem_append_right _ (List.mem_append_right _ (List.mem_append_right _ (List.mem_append_left _ (List.mem_of_getElem? (i := 100) (by decide +kernel)))))))))), by decide +kernel⟩
theorem wd1125 : Cond.instanceMethod yX10_hold ∈ wsL_law := List.mem_filter.mpr ⟨List.mem_append_right _ (List.mem_append_right _ (List.mem_append_right _ (List.mem_append_right _ (List.mem_append_right _ (List.mem_append_right _ (List.mem_append_right _ (List.mem_append_right _ (List.mem_append_left _ (List.mem_of_getElem? (i := 101) (by decide +kernel)))))))))), by decide +kernel⟩
theorem wd1126 : Cond.selects RX10 yX10_hold yX10_hold ∈ wsL_law := List.mem_filter.mpr ⟨List.mem_append_right _ (List.mem_append_right _ (List.mem_append_right _ (List.mem_append_right _ (List.mem_append_right _ (List.mem_append_right _ (List.mem_append_right _ (List.mem_append_right _ (List.mem_append_left _ (List.mem_of_getElem? (i := 102) (by decide +kernel)))))))))), by decide +kernel⟩
theorem wd1131 : Cond.methodLink RL 75 yX9_later ∈ wsL_law := List.mem_filter.mpr ⟨List.mem_append_right _ (List.mem_append_right _ (List.mem_append_right _ (List.mem_append_right _ (List.mem_append_left _ (List.mem_of_getElem? (i := 177) (by decide +kernel)))))), by decide +kernel⟩
theorem wd1132 : Cond.instanceMethod yX9_later ∈ wsL_law := List.mem_filter.mpr ⟨List.mem_append_right _ (List.mem_append_right _ (List.mem_append_right _ (List.mem_append_right _ (List.mem_append_left _ (List.mem_of_getElem? (i := 178) (by decide +kernel)))))), by decide +kernel⟩
theorem wd1133 : Cond.selects RX9 yX9_later yX9_later ∈ wsL_law := List.mem_filter.mpr ⟨List.mem_append_right _ (List.mem_append_right _ (List.mem_append_right _ (List.mem_append_right _ (List.mem_append_left _ (List.mem_of_getElem? (i := 179) (by decide +kernel)))))), by decide +kernel⟩
theorem wd1154 : Cond.methodLink RL 78 yX10_later ∈ wsL_law := List.mem_filter.mpr ⟨List.mem_append_right _ (List.mem_append_right _ (List.mem_append_right _ (List.mem_append_right _ (List.mem_append_right _ (List.mem_append_right _ (List.mem_append_right _ (List.mem_append_right _ (List.mem_append_left _ (List.mem_of_getElem? (i := 107) (by decide +kernel)))))))))), by decide +kernel⟩
theorem wd1155 : Cond.instanceMethod yX10_later ∈ wsL_law := List.mem_filter.mpr ⟨List.mem_append_right _ (List.mem_append_right _ (List.mem_append_right _ (List.mem_append_right _ (List.mem_append_right _ (List.mem_append_right _ (List.mem_append_right _ (List.mem_append_right _ (List.mem_append_left _ (List.mem_of_getElem? (i := 108) (by decide +kernel)))))))))), by decide +kernel⟩
theorem wd1156 : Cond.selects RX10 yX10_later yX10_later ∈ wsL_law := List.mem_filter.mpr ⟨List.mem_append_right _ (List.mem_append_right _ (List.mem_append_right _ (List.mem_append_right _ (List.mem_append_right _ (List.mem_append_right _ (List.mem_append_right _ (List.mem_append_right _ (List.mem_append_left _ (List.mem_of_getElem? (i := 109) (by decide +kernel)))))))))), by decide +kernel⟩
theorem wd1158 : Cond.methodLink RX10 554 yX10_isAhead ∈ wsL_law := List.mem_filter.mpr ⟨List.mem_append_right _ (List.mem_append_right _ (List.mem_append_right _ (List.mem_append_right _ (List.mem_append_right _ (List.mem_append_right _ (List.mem_append_right _ (List.mem_append_right _ (List.mem_append_left _ (List.mem_of_getElem? (i := 111) (by decide +kernel)))))))))), by decide +kernel⟩
theorem wd1159 : Cond.instanceMethod yX10_isAhead ∈ wsL_law := List.mem_filter.mpr ⟨List.mem_append_right _ (List.mem_append_right _ (List.mem_append_right _ (List.mem_append_right _ (List.mem_append_right _ (List.mem_append_right _ (List.mem_append_right _ (List.mem_append_right _ (List.mem_append_left _ (List.mem_of_getElem? (i := 113) (by decide +kernel)))))))))), by decide +kernel⟩
theorem wd1160 : Cond.selects RX10 yX10_isAhead yX10_isAhead ∈ wsL_law := List.mem_filter.mpr ⟨List.mem_append_left _ (List.mem_of_getElem? (i := 122) (by decide +kernel)), by decide +kernel⟩
theorem wd1179 : Cond.methodLink RL 79 yX9_doubts ∈ wsL_law := List.mem_filter.mpr ⟨List.mem_append_right _ (List.mem_append_right _ (List.mem_append_right _ (List.mem_append_right _ (List.mem_append_left _ (List.mem_of_getElem? (i := 196) (by decide +kernel)))))), by decide +kernel⟩
theorem wd1180 : Cond.instanceMethod yX9_doubts ∈ wsL_law := List.mem_filter.mpr ⟨List.mem_append_right _ (List.mem_append_right _ (List.mem_append_right _ (List.mem_append_right _ (List.mem_append_left _ (List.mem_of_getElem? (i := 197) (by decide +kernel)))))), by decide +kernel⟩
theorem wd1181 : Cond.selects RX9 yX9_doubts yX9_doubts ∈ wsL_law := List.mem_filter.mpr ⟨List.mem_append_right _ (List.mem_append_right _ (List.mem_append_right _ (List.mem_append_right _ (List.mem_append_left _ (List.mem_of_getElem? (i := 198) (by decide +kernel)))))), by decide +kernel⟩
theorem wd1185 : Cond.methodLink RL 82 yX10_doubts ∈ wsL_law := List.mem_filter.mpr ⟨List.mem_append_right _ (List.mem_append_right _ (List.mem_append_right _ (List.mem_append_right _ (List.mem_append_right _ (List.mem_append_right _ (List.mem_append_right _ (List.mem_append_right _ (List.mem_append_left _ (List.mem_of_getElem? (i := 132) (by decide +kernel)))))))))), by decide +kernel⟩
theorem wd1186 : Cond.instanceMethod yX10_doubts ∈ wsL_law := List.mem_filter.mpr ⟨List.mem_append_right _ (List.mem_append_right _ (List.mem_append_right _ (List.mem_append_right _ (List.mem_append_right _ (List.mem_append_right _ (List.mem_append_right _ (List.mem_append_right _ (List.mem_append_left _ (List.mem_of_getElem? (i := 133) (by decide +kernel)))))))))), by decide +kernel⟩
theorem wd1187 : Cond.selects RX10 yX10_doubts yX10_doubts ∈ wsL_law := List.mem_filter.mpr ⟨List.mem_append_right _ (List.mem_append_right _ (List.mem_append_right _ (List.mem_append_right _ (List.mem_append_right _ (List.mem_append_right _ (List.mem_append_right _ (List.mem_append_right _ (List.mem_append_left _ (List.mem_of_getElem? (i := 134) (by decide +kernel)))))))))), by decide +kernel⟩
theorem wd1189 : Cond.methodLink RL 83 yX9_see ∈ wsL_law := List.mem_filter.mpr ⟨List.mem_append_right _ (List.mem_append_right _ (List.mem_append_right _ (List.mem_append_right _ (List.mem_append_left _ (List.mem_of_getElem? (i := 201) (by decide +kernel)))))), by decide +kernel⟩
theorem wd1190 : Cond.instanceMethod yX9_see ∈ wsL_law := List.mem_filter.mpr ⟨List.mem_append_right _ (List.mem_append_right _ (List.mem_append_right _ (List.mem_append_right _ (List.mem_append_left _ (List.mem_of_getElem? (i := 202) (by decide +kernel)))))), by decide +kernel⟩
theorem wd1191 : Cond.selects RX9 yX9_see yX9_see ∈ wsL_law := List.mem_filter.mpr ⟨List.mem_append_right _ (List.mem_append_right _ (List.mem_append_right _ (List.mem_append_right _ (List.mem_append_left _ (List.mem_of_getElem? (i := 203) (by decide +kernel)))))), by decide +kernel⟩
theorem wd1193 : Cond.methodLink RX9 254 yX8_accepts ∈ wsL_law := List.mem_filter.mpr ⟨List.mem_append_right _ (List.mem_append_right _ (List.mem_append_right _ (List.mem_append_right _ (List.mem_append_left _ (List.mem_of_getElem? (i := 205) (by decide +kernel)))))), by decide +kernel⟩
theorem wd1194 : Cond.instanceMethod yX8_accepts ∈ wsL_law := List.mem_filter.mpr ⟨List.mem_append_right _ (List.mem_append_right _ (List.mem_append_right _ (List.mem_append_right _ (List.mem_append_left _ (List.mem_of_getElem? (i := 206) (by decide +kernel)))))), by decide +kernel⟩
theorem wd1195 : Cond.selects RX8 yX8_accepts yX8_accepts ∈ wsL_law := List.mem_filter.mpr ⟨List.mem_append_right _ (List.mem_append_right _ (List.mem_append_right _ (List.mem_append_right _ (List.mem_append_left _ (List.mem_of_getElem? (i := 207) (by decide +kernel)))))), by decide +kernel⟩
theorem wd1202 : Cond.methodLink RL 86 yX10_see ∈ wsL_law := List.mem_filter.mpr ⟨List.mem_append_right _ (List.mem_append_right _ (List.mem_append_right _ (List.mem_append_right _ (List.mem_append_right _ (List.mem_append_right _ (List.mem_append_right _ (List.mem_append_right _ (List.mem_append_left _ (List.mem_of_getElem? (i := 136) (by decide +kernel)))))))))), by decide +kernel⟩
theorem wd1203 : Cond.instanceMethod yX10_see ∈ wsL_law := List.mem_filter.mpr ⟨List.mem_append_right _ (List.mem_append_right _ (List.mem_append_right _ (List.mem_append_right _ (List.mem_append_right _ (List.mem_append_right _ (List.mem_append_right _ (List.mem_append_right _ (List.mem_append_left _ (List.mem_of_getElem? (i := 137) (by decide +kernel)))))))))), by decide +kernel⟩
theorem wd1204 : Cond.selects RX10 yX10_see yX10_see ∈ wsL_law := List.mem_filter.mpr ⟨List.mem_append_right _ (List.mem_append_right _ (List.mem_append_right _ (List.mem_append_right _ (List.mem_append_right _ (List.mem_append_right _ (List.mem_append_right _ (List.mem_append_right _ (List.mem_append_left _ (List.mem_of_getElem? (i := 138) (by decide +kernel)))))))))), by decide +kernel⟩
theorem wd1207 : Cond.methodLink RX10 567 yX10_refuses ∈ wsL_law := List.mem_filter.mpr ⟨List.mem_append_right _ (List.mem_append_right _ (List.mem_append_right _ (List.mem_append_right _ (List.mem_append_right _ (List.mem_append_right _ (List.mem_append_right _ (List.mem_append_right _ (List.mem_append_left _ (List.mem_of_getElem? (i := 141) (by decide +kernel)))))))))), by decide +kernel⟩
theorem wd1208 : Cond.instanceMethod yX10_refuses ∈ wsL_law := List.mem_filter.mpr ⟨List.mem_append_right _ (List.mem_append_right _ (List.mem_append_right _ (List.mem_append_right _ (List.mem_append_right _ (List.mem_append_right _ (List.mem_append_right _ (List.mem_append_right _ (List.mem_append_left _ (List.mem_of_getElem? (i := 143) (by decide +kernel)))))))))), by decide +kernel⟩
theorem wd1209 : Cond.selects RX10 yX10_refuses yX10_refuses ∈ wsL_law := List.mem_filter.mpr ⟨List.mem_append_left _ (List.mem_of_getElem? (i := 127) (by decide +kernel)), by decide +kernel⟩
theorem wd1211 : Cond.methodLink RL 87 yX9_fits ∈ wsL_law := List.mem_filter.mpr ⟨List.mem_append_right _ (List.mem_append_right _ (List.mem_append_right _ (List.mem_append_right _ (List.mem_append_left _ (List.mem_of_getElem? (i := 214) (by decide +kernel)))))), by decide +kernel⟩
theorem wd1212 : Cond.instanceMethod yX9_fits ∈ wsL_law := List.mem_filter.mpr ⟨List.mem_append_right _ (List.mem_append_right _ (List.mem_append_right _ (List.mem_append_right _ (List.mem_append_left _ (List.mem_of_getElem? (i := 215) (by decide +kernel)))))), by decide +kernel⟩
theorem wd1213 : Cond.selects RX9 yX9_fits yX9_fits ∈ wsL_law := List.mem_filter.mpr ⟨List.mem_append_right _ (List.mem_append_right _ (List.mem_append_right _ (List.mem_append_right _ (List.mem_append_left _ (List.mem_of_getElem? (i := 216) (by decide +kernel)))))), by decide +kernel⟩
theorem wd1243 : Cond.methodLink RL 90 yX10_fits ∈ wsL_law := List.mem_filter.mpr ⟨List.mem_append_right _ (List.mem_append_right _ (List.mem_append_right _ (List.mem_append_right _ (List.mem_append_right _ (List.mem_append_right _ (List.mem_append_right _ (List.mem_append_right _ (List.mem_append_left _ (List.mem_of_getElem? (i := 145) (by decide +kernel)))))))))), by decide +kernel⟩
theorem wd1244 : Cond.instanceMethod yX10_fits ∈ wsL_law := List.mem_filter.mpr ⟨List.mem_append_right _ (List.mem_append_right _ (List.mem_append_right _ (List.mem_append_right _ (List.mem_append_right _ (List.mem_append_right _ (List.mem_append_right _ (List.mem_append_right _ (List.mem_append_left _ (List.mem_of_getElem? (i := 146) (by decide +kernel)))))))))), by decide +kernel⟩
theorem wd1245 : Cond.selects RX10 yX10_fits yX10_fits ∈ wsL_law := List.mem_filter.mpr ⟨List.mem_append_right _ (List.mem_append_right _ (List.mem_append_right _ (List.mem_append_right _ (List.mem_append_right _ (List.mem_append_right _ (List.mem_append_right _ (List.mem_append_right _ (List.mem_append_left _ (List.mem_of_getElem? (i := 147) (by decide +kernel)))))))))), by decide +kernel⟩
theorem wd1258 : Cond.methodLink RL 91 yX9_watched ∈ wsL_law := List.mem_filter.mpr ⟨List.mem_append_right _ (List.mem_append_right _ (List.mem_append_right _ (List.mem_append_right _ (List.mem_append_right _ (List.mem_append_left _ (List.mem_of_getElem? (i := 2) (by decide +kernel))))))), by decide +kernel⟩
theorem wd1259 : Cond.instanceMethod yX9_watched ∈ wsL_law := List.mem_filter.mpr ⟨List.mem_append_right _ (List.mem_append_right _ (List.mem_append_right _ (List.mem_append_right _ (List.mem_append_right _ (List.mem_append_left _ (List.mem_of_getElem? (i := 3) (by decide +kernel))))))), by decide +kernel⟩
theorem wd1260 : Cond.selects RX9 yX9_watched yX9_watched ∈ wsL_law := List.mem_filter.mpr ⟨List.mem_append_right _ (List.mem_append_right _ (List.mem_append_right _ (List.mem_append_right _ (List.mem_append_right _ (List.mem_append_left _ (List.mem_of_getElem? (i := 4) (by decide +kernel))))))), by decide +kernel⟩
theorem wd1264 : Cond.methodLink RL 94 yX10_watched ∈ wsL_law := List.mem_filter.mpr ⟨List.mem_append_right _ (List.mem_append_right _ (List.mem_append_right _ (List.mem_append_right _ (List.mem_append_right _ (List.mem_append_right _ (List.mem_append_right _ (List.mem_append_right _ (List.mem_append_left _ (List.mem_of_getElem? (i := 157) (by decide +kernel)))))))))), by decide +kernel⟩
theorem wd1265 : Cond.instanceMethod yX10_watched ∈ wsL_law := List.mem_filter.mpr ⟨List.mem_append_right _ (List.mem_append_right _ (List.mem_append_right _ (List.mem_append_right _ (List.mem_append_right _ (List.mem_append_right _ (List.mem_append_right _ (List.mem_append_right _ (List.mem_append_left _ (List.mem_of_getElem? (i := 158) (by decide +kernel)))))))))), by decide +kernel⟩
theorem wd1266 : Cond.selects RX10 yX10_watched yX10_watched ∈ wsL_law := List.mem_filter.mpr ⟨List.mem_append_right _ (List.mem_append_right _ (List.mem_append_right _ (List.mem_append_right _ (List.mem_append_right _ (List.mem_append_right _ (List.mem_append_right _ (List.mem_append_right _ (List.mem_append_left _ (List.mem_of_getElem? (i := 159) (by decide +kernel)))))))))), by decide +kernel⟩
theorem wd1272 : Cond.methodLink RL 95 yX9_rule ∈ wsL_law := List.mem_filter.mpr ⟨List.mem_append_right _ (List.mem_append_right _ (List.mem_append_right _ (List.mem_append_right _ (List.mem_append_right _ (List.mem_append_left _ (List.mem_of_getElem? (i := 6) (by decide +kernel))))))), by decide +kernel⟩
theorem wd1273 : Cond.instanceMethod yX9_rule ∈ wsL_law := List.mem_filter.mpr ⟨List.mem_append_right _ (List.mem_append_right _ (List.mem_append_right _ (List.mem_append_right _ (List.mem_append_right _ (List.mem_append_left _ (List.mem_of_getElem? (i := 7) (by decide +kernel))))))), by decide +kernel⟩
theorem wd1274 : Cond.selects RX9 yX9_rule yX9_rule ∈ wsL_law := List.mem_filter.mpr ⟨List.mem_append_right _ (List.mem_append_right _ (List.mem_append_right _ (List.mem_append_right _ (List.mem_append_right _ (List.mem_append_left _ (List.mem_of_getElem? (i := 8) (by decide +kernel))))))), by decide +kernel⟩
theorem wd1286 : Cond.methodLink RL 98 yX10_rule ∈ wsL_law := List.mem_filter.mpr ⟨List.mem_append_right _ (List.mem_append_right _ (List.mem_append_right _ (List.mem_append_right _ (List.mem_append_right _ (List.mem_append_right _ (List.mem_append_right _ (List.mem_append_right _ (List.mem_append_left _ (List.mem_of_getElem? (i := 169) (by decide +kernel)))))))))), by decide +kernel⟩
theorem wd1287 : Cond.instanceMethod yX10_rule ∈ wsL_law := List.mem_filter.mpr ⟨List.mem_append_right _ (List.mem_append_right _ (List.mem_append_right _ (List.mem_append_right _ (List.mem_append_right _ (List.mem_append_right _ (List.mem_append_right _ (List.mem_append_right _ (List.mem_append_left _ (List.mem_of_getElem? (i := 170) (by decide +kernel)))))))))), by decide +kernel⟩
theorem wd1288 : Cond.selects RX10 yX10_rule yX10_rule ∈ wsL_law := List.mem_filter.mpr ⟨List.mem_append_right _ (List.mem_append_right _ (List.mem_append_right _ (List.mem_append_right _ (List.mem_append_right _ (List.mem_append_right _ (List.mem_append_right _ (List.mem_append_right _ (List.mem_append_left _ (List.mem_of_getElem? (i := 171) (by decide +kernel)))))))))), by decide +kernel⟩
theorem wd1290 : Cond.methodLink RX10 591 yX10_isRefused ∈ wsL_law := List.mem_filter.mpr ⟨List.mem_append_right _ (List.mem_append_right _ (List.mem_append_right _ (List.mem_append_right _ (List.mem_append_right _ (List.mem_append_right _ (List.mem_append_right _ (List.mem_append_right _ (List.mem_append_left _ (List.mem_of_getElem? (i := 173) (by decide +kernel)))))))))), by decide +kernel⟩
theorem wd1291 : Cond.instanceMethod yX10_isRefused ∈ wsL_law := List.mem_filter.mpr ⟨List.mem_append_right _ (List.mem_append_right _ (List.mem_append_right _ (List.mem_append_right _ (List.mem_append_right _ (List.mem_append_right _ (List.mem_append_right _ (List.mem_append_right _ (List.mem_append_left _ (List.mem_of_getElem? (i := 175) (by decide +kernel)))))))))), by decide +kernel⟩
theorem wd1292 : Cond.selects RX10 yX10_isRefused yX10_isRefused ∈ wsL_law := List.mem_filter.mpr ⟨List.mem_append_left _ (List.mem_of_getElem? (i := 131) (by decide +kernel)), by decide +kernel⟩
theorem wd1299 : Cond.methodLink RL 99 yX9_green ∈ wsL_law := List.mem_filter.mpr ⟨List.mem_append_right _ (List.mem_append_right _ (List.mem_append_right _ (List.mem_append_right _ (List.mem_append_right _ (List.mem_append_left _ (List.mem_of_getElem? (i := 20) (by decide +kernel))))))), by decide +kernel⟩
theorem wd1300 : Cond.instanceMethod yX9_green ∈ wsL_law := List.mem_filter.mpr ⟨List.mem_append_right _ (List.mem_append_right _ (List.mem_append_right _ (List.mem_append_right _ (List.mem_append_right _ (List.mem_append_left _ (List.mem_of_getElem? (i := 21) (by decide +kernel))))))), by decide +kernel⟩
theorem wd1301 : Cond.selects RX9 yX9_green yX9_green ∈ wsL_law := List.mem_filter.mpr ⟨List.mem_append_right _ (List.mem_append_right _ (List.mem_append_right _ (List.mem_append_right _ (List.mem_append_right _ (List.mem_append_left _ (List.mem_of_getElem? (i := 22) (by decide +kernel))))))), by decide +kernel⟩
theorem wd1303 : Cond.methodLink RX9 284 yX4_allowsGreen ∈ wsL_law := List.mem_filter.mpr ⟨List.mem_append_right _ (List.mem_append_right _ (List.mem_append_right _ (List.mem_append_right _ (List.mem_append_right _ (List.mem_append_left _ (List.mem_of_getElem? (i := 24) (by decide +kernel))))))), by decide +kernel⟩
theorem wd1304 : Cond.instanceMethod yX4_allowsGreen ∈ wsL_law := List.mem_filter.mpr ⟨List.mem_append_right _ (List.mem_append_right _ (List.mem_append_right _ (List.mem_append_right _ (List.mem_append_right _ (List.mem_append_left _ (List.mem_of_getElem? (i := 25) (by decide +kernel))))))), by decide +kernel⟩
theorem wd1305 : Cond.selects RX4 yX4_allowsGreen yX4_allowsGreen ∈ wsL_law := List.mem_filter.mpr ⟨List.mem_append_right _ (List.mem_append_right _ (List.mem_append_right _ (List.mem_append_right _ (List.mem_append_right _ (List.mem_append_left _ (List.mem_of_getElem? (i := 26) (by decide +kernel))))))), by decide +kernel⟩
theorem wd1307 : Cond.methodLink RL 102 yX10_green ∈ wsL_law := List.mem_filter.mpr ⟨List.mem_append_right _ (List.mem_append_right _ (List.mem_append_right _ (List.mem_append_right _ (List.mem_append_right _ (List.mem_append_right _ (List.mem_append_right _ (List.mem_append_right _ (List.mem_append_left _ (List.mem_of_getElem? (i := 181) (by decide +kernel)))))))))), by decide +kernel⟩
theorem wd1308 : Cond.instanceMethod yX10_green ∈ wsL_law := List.mem_filter.mpr ⟨List.mem_append_right _ (List.mem_append_right _ (List.mem_append_right _ (List.mem_append_right _ (List.mem_append_right _ (List.mem_append_right _ (List.mem_append_right _ (List.mem_append_right _ (List.mem_append_left _ (List.mem_of_getElem? (i := 182) (by decide +kernel)))))))))), by decide +kernel⟩
theorem wd1309 : Cond.selects RX10 yX10_green yX10_green ∈ wsL_law := List.mem_filter.mpr ⟨List.mem_append_right _ (List.mem_append_right _ (List.mem_append_right _ (List.mem_append_right _ (List.mem_append_right _ (List.mem_append_right _ (List.mem_append_right _ (List.mem_append_right _ (List.mem_append_left _ (List.mem_of_getElem? (i := 183) (by decide +kernel)))))))))), by decide +kernel⟩
theorem wd1311 : Cond.methodLink RL 103 yX9_trust ∈ wsL_law := List.mem_filter.mpr ⟨List.mem_append_right _ (List.mem_append_right _ (List.mem_append_right _ (List.mem_append_right _ (List.mem_append_right _ (List.mem_append_left _ (List.mem_of_getElem? (i := 28) (by decide +kernel))))))), by decide +kernel⟩
theorem wd1312 : Cond.instanceMethod yX9_trust ∈ wsL_law := List.mem_filter.mpr ⟨List.mem_append_right _ (List.mem_append_right _ (List.mem_append_right _ (List.mem_append_right _ (List.mem_append_right _ (List.mem_append_left _ (List.mem_of_getElem? (i := 29) (by decide +kernel))))))), by decide +kernel⟩
theorem wd1313 : Cond.selects RX9 yX9_trust yX9_trust ∈ wsL_law := List.mem_filter.mpr ⟨List.mem_append_right _ (List.mem_append_right _ (List.mem_append_right _ (List.mem_append_right _ (List.mem_append_right _ (List.mem_append_left _ (List.mem_of_getElem? (i := 30) (by decide +kernel))))))), by decide +kernel⟩
theorem wd1315 : Cond.methodLink RL 107 yX10_trust ∈ wsL_law := List.mem_filter.mpr ⟨List.mem_append_right _ (List.mem_append_right _ (List.mem_append_right _ (List.mem_append_right _ (List.mem_append_right _ (List.mem_append_right _ (List.mem_append_right _ (List.mem_append_right _ (List.mem_append_left _ (List.mem_of_getElem? (i := 185) (by decide +kernel)))))))))), by decide +kernel⟩
theorem wd1316 : Cond.instanceMethod yX10_trust ∈ wsL_law := List.mem_filter.mpr ⟨List.mem_append_right _ (List.mem_append_right _ (List.mem_append_right _ (List.mem_append_right _ (List.mem_append_right _ (List.mem_append_right _ (List.mem_append_right _ (List.mem_append_right _ (List.mem_append_left _ (List.mem_of_getElem? (i := 186) (by decide +kernel)))))))))), by decide +kernel⟩
theorem wd1317 : Cond.selects RX10 yX10_trust yX10_trust ∈ wsL_law := List.mem_filter.mpr ⟨List.mem_append_right _ (List.mem_append_right _ (List.mem_append_right _ (List.mem_append_right _ (List.mem_append_right _ (List.mem_append_right _ (List.mem_append_right _ (List.mem_append_right _ (List.mem_append_left _ (List.mem_of_getElem? (i := 187) (by decide +kernel)))))))))), by decide +kernel⟩
theorem wd1319 : Cond.methodLink RL 108 yX9_days ∈ wsL_law := List.mem_filter.mpr ⟨List.mem_append_right _ (List.mem_append_right _ (List.mem_append_right _ (List.mem_append_right _ (List.mem_append_right _ (List.mem_append_left _ (List.mem_of_getElem? (i := 32) (by decide +kernel))))))), by decide +kernel⟩
theorem wd1320 : Cond.instanceMethod yX9_days ∈ wsL_law := List.mem_filter.mpr ⟨List.mem_append_right _ (List.mem_append_right _ (List.mem_append_right _ (List.mem_append_right _ (List.mem_append_right _ (List.mem_append_left _ (List.mem_of_getElem? (i := 33) (by decide +kernel))))))), by decide +kernel⟩
theorem wd1321 : Cond.selects RX9 yX9_days yX9_days ∈ wsL_law := List.mem_filter.mpr ⟨List.mem_append_right _ (List.mem_append_right _ (List.mem_append_right _ (List.mem_append_right _ (List.mem_append_right _ (List.mem_append_left _ (List.mem_of_getElem? (i := 34) (by decide +kernel))))))), by decide +kernel⟩
theorem wd1323 : Cond.methodLink RX9 287 yX9_canLive ∈ wsL_law := List.mem_filter.mpr ⟨List.mem_append_right _ (List.mem_append_right _ (List.mem_append_right _ (List.mem_append_right _ (List.mem_append_right _ (List.mem_append_left _ (List.mem_of_getElem? (i := 36) (by decide +kernel))))))), by decide +kernel⟩
theorem wd1324 : Cond.instanceMethod yX9_canLive ∈ wsL_law := List.mem_filter.mpr ⟨List.mem_append_right _ (List.mem_append_right _ (List.mem_append_right _ (List.mem_append_right _ (List.mem_append_right _ (List.mem_append_left _ (List.mem_of_getElem? (i := 38) (by decide +kernel))))))), by decide +kernel⟩
theorem wd1325 : Cond.selects RX9 yX9_canLive yX9_canLive ∈ wsL_law := List.mem_filter.mpr ⟨List.mem_append_left _ (List.mem_of_getElem? (i := 56) (by decide +kernel)), by decide +kernel⟩
theorem wd1328 : Cond.methodLink RL 111 yX10_days ∈ wsL_law := List.mem_filter.mpr ⟨List.mem_append_right _ (List.mem_append_right _ (List.mem_append_right _ (List.mem_append_right _ (List.mem_append_right _ (List.mem_append_right _ (List.mem_append_right _ (List.mem_append_right _ (List.mem_append_left _ (List.mem_of_getElem? (i := 189) (by decide +kernel)))))))))), by decide +kernel⟩
theorem wd1329 : Cond.instanceMethod yX10_days ∈ wsL_law := List.mem_filter.mpr ⟨List.mem_append_right _ (List.mem_append_right _ (List.mem_append_right _ (List.mem_append_right _ (List.mem_append_right _ (List.mem_append_right _ (List.mem_append_right _ (List.mem_append_right _ (List.mem_append_left _ (List.mem_of_getElem? (i := 190) (by decide +kernel)))))))))), by decide +kernel⟩
theorem wd1330 : Cond.selects RX10 yX10_days yX10_days ∈ wsL_law := List.mem_filter.mpr ⟨List.mem_append_right _ (List.mem_append_right _ (List.mem_append_right _ (List.mem_append_right _ (List.mem_append_right _ (List.mem_append_right _ (List.mem_append_right _ (List.mem_append_right _ (List.mem_append_left _ (List.mem_of_getElem? (i := 191) (by decide +kernel)))))))))), by decide +kernel⟩
theorem wd1332 : Cond.methodLink RL 112 yX9_chance ∈ wsL_law := List.mem_filter.mpr ⟨List.mem_append_right _ (List.mem_append_right _ (List.mem_append_right _ (List.mem_append_right _ (List.mem_append_right _ (List.mem_append_left _ (List.mem_of_getElem? (i := 41) (by decide +kernel))))))), by decide +kernel⟩
theorem wd1333 : Cond.instanceMethod yX9_chance ∈ wsL_law := List.mem_filter.mpr ⟨List.mem_append_right _ (List.mem_append_right _ (List.mem_append_right _ (List.mem_append_right _ (List.mem_append_right _ (List.mem_append_left _ (List.mem_of_getElem? (i := 42) (by decide +kernel))))))), by decide +kernel⟩
theorem wd1334 : Cond.selects RX9 yX9_chance yX9_chance ∈ wsL_law := List.mem_filter.mpr ⟨List.mem_append_right _ (List.mem_append_right _ (List.mem_append_right _ (List.mem_append_right _ (List.mem_append_right _ (List.mem_append_left _ (List.mem_of_getElem? (i := 43) (by decide +kernel))))))), by decide +kernel⟩
theorem wd1347 : Cond.methodLink RL 115 yX10_chance ∈ wsL_law := List.mem_filter.mpr ⟨List.mem_append_right _ (List.mem_append_right _ (List.mem_append_right _ (List.mem_append_right _ (List.mem_append_right _ (List.mem_append_right _ (List.mem_append_right _ (List.mem_append_right _ (List.mem_append_left _ (List.mem_of_getElem? (i := 197) (by decide +kernel)))))))))), by decide +kernel⟩
theorem wd1348 : Cond.instanceMethod yX10_chance ∈ wsL_law := List.mem_filter.mpr ⟨List.mem_append_right _ (List.mem_append_right _ (List.mem_append_right _ (List.mem_append_right _ (List.mem_append_right _ (List.mem_append_right _ (List.mem_append_right _ (List.mem_append_right _ (List.mem_append_left _ (List.mem_of_getElem? (i := 198) (by decide +kernel)))))))))), by decide +kernel⟩
theorem wd1349 : Cond.selects RX10 yX10_chance yX10_chance ∈ wsL_law := List.mem_filter.mpr ⟨List.mem_append_right _ (List.mem_append_right _ (List.mem_append_right _ (List.mem_append_right _ (List.mem_append_right _ (List.mem_append_right _ (List.mem_append_right _ (List.mem_append_right _ (List.mem_append_left _ (List.mem_of_getElem? (i := 199) (by decide +kernel)))))))))), by decide +kernel⟩
theorem wd1359 : Cond.methodLink RL 116 yX9_undo ∈ wsL_law := List.mem_filter.mpr ⟨List.mem_append_right _ (List.mem_append_right _ (List.mem_append_right _ (List.mem_append_right _ (List.mem_append_right _ (List.mem_append_left _ (List.mem_of_getElem? (i := 55) (by decide +kernel))))))), by decide +kernel⟩
theorem wd1360 : Cond.instanceMethod yX9_undo ∈ wsL_law := List.mem_filter.mpr ⟨List.mem_append_right _ (List.mem_append_right _ (List.mem_append_right _ (List.mem_append_right _ (List.mem_append_right _ (List.mem_append_left _ (List.mem_of_getElem? (i := 56) (by decide +kernel))))))), by decide +kernel⟩
theorem wd1361 : Cond.selects RX9 yX9_undo yX9_undo ∈ wsL_law := List.mem_filter.mpr ⟨List.mem_append_right _ (List.mem_append_right _ (List.mem_append_right _ (List.mem_append_right _ (List.mem_append_right _ (List.mem_append_left _ (List.mem_of_getElem? (i := 57) (by decide +kernel))))))), by decide +kernel⟩
theorem wd1363 : Cond.methodLink RX9 305 yX2_giveBack ∈ wsL_law := List.mem_filter.mpr ⟨List.mem_append_right _ (List.mem_append_right _ (List.mem_append_right _ (List.mem_append_right _ (List.mem_append_right _ (List.mem_append_left _ (List.mem_of_getElem? (i := 59) (by decide +kernel))))))), by decide +kernel⟩
theorem wd1364 : Cond.instanceMethod yX2_giveBack ∈ wsL_law := List.mem_filter.mpr ⟨List.mem_append_right _ (List.mem_append_right _ (List.mem_append_right _ (List.mem_append_right _ (List.mem_append_right _ (List.mem_append_left _ (List.mem_of_getElem? (i := 60) (by decide +kernel))))))), by decide +kernel⟩
theorem wd1365 : Cond.selects RX2 yX2_giveBack yX2_giveBack ∈ wsL_law := List.mem_filter.mpr ⟨List.mem_append_right _ (List.mem_append_right _ (List.mem_append_right _ (List.mem_append_right _ (List.mem_append_right _ (List.mem_append_left _ (List.mem_of_getElem? (i := 61) (by decide +kernel))))))), by decide +kernel⟩
theorem wd1367 : Cond.methodLink RL 120 yX10_undo ∈ wsL_law := List.mem_filter.mpr ⟨List.mem_append_right _ (List.mem_append_right _ (List.mem_append_right _ (List.mem_append_right _ (List.mem_append_right _ (List.mem_append_right _ (List.mem_append_right _ (List.mem_append_right _ (List.mem_append_left _ (List.mem_of_getElem? (i := 165) (by decide +kernel)))))))))), by decide +kernel⟩
theorem wd1368 : Cond.instanceMethod yX10_undo ∈ wsL_law := List.mem_filter.mpr ⟨List.mem_append_right _ (List.mem_append_right _ (List.mem_append_right _ (List.mem_append_right _ (List.mem_append_right _ (List.mem_append_right _ (List.mem_append_right _ (List.mem_append_right _ (List.mem_append_left _ (List.mem_of_getElem? (i := 166) (by decide +kernel)))))))))), by decide +kernel⟩
theorem wd1369 : Cond.selects RX10 yX10_undo yX10_undo ∈ wsL_law := List.mem_filter.mpr ⟨List.mem_append_right _ (List.mem_append_right _ (List.mem_append_right _ (List.mem_append_right _ (List.mem_append_right _ (List.mem_append_right _ (List.mem_append_right _ (List.mem_append_right _ (List.mem_append_left _ (List.mem_of_getElem? (i := 167) (by decide +kernel)))))))))), by decide +kernel⟩
theorem wd1371 : Cond.methodLink RL 121 yX9_seed ∈ wsL_law := List.mem_filter.mpr ⟨List.mem_append_right _ (List.mem_append_right _ (List.mem_append_right _ (List.mem_append_right _ (List.mem_append_right _ (List.mem_append_left _ (List.mem_of_getElem? (i := 63) (by decide +kernel))))))), by decide +kernel⟩
theorem wd1372 : Cond.instanceMethod yX9_seed ∈ wsL_law := List.mem_filter.mpr ⟨List.mem_append_right _ (List.mem_append_right _ (List.mem_append_right _ (List.mem_append_right _ (List.mem_append_right _ (List.mem_append_left _ (List.mem_of_getElem? (i := 64) (by decide +kernel))))))), by decide +kernel⟩
theorem wd1373 : Cond.selects RX9 yX9_seed yX9_seed ∈ wsL_law := List.mem_filter.mpr ⟨List.mem_append_right _ (List.mem_append_right _ (List.mem_append_right _ (List.mem_append_right _ (List.mem_append_right _ (List.mem_append_left _ (List.mem_of_getElem? (i := 65) (by decide +kernel))))))), by decide +kernel⟩
theorem wd1375 : Cond.methodLink RL 124 yX10_seed ∈ wsL_law := List.mem_filter.mpr ⟨List.mem_append_right _ (List.mem_append_right _ (List.mem_append_right _ (List.mem_append_right _ (List.mem_append_right _ (List.mem_append_right _ (List.mem_append_right _ (List.mem_append_right _ (List.mem_append_left _ (List.mem_of_getElem? (i := 193) (by decide +kernel)))))))))), by decide +kernel⟩
theorem wd1376 : Cond.instanceMethod yX10_seed ∈ wsL_law := List.mem_filter.mpr ⟨List.mem_append_right _ (List.mem_append_right _ (List.mem_append_right _ (List.mem_append_right _ (List.mem_append_right _ (List.mem_append_right _ (List.mem_append_right _ (List.mem_append_right _ (List.mem_append_left _ (List.mem_of_getElem? (i := 194) (by decide +kernel)))))))))), by decide +kernel⟩
theorem wd1377 : Cond.selects RX10 yX10_seed yX10_seed ∈ wsL_law := List.mem_filter.mpr ⟨List.mem_append_right _ (List.mem_append_right _ (List.mem_append_right _ (List.mem_append_right _ (List.mem_append_right _ (List.mem_append_right _ (List.mem_append_right _ (List.mem_append_right _ (List.mem_append_left _ (List.mem_of_getElem? (i := 195) (by decide +kernel)))))))))), by decide +kernel⟩
theorem wd1379 : Cond.methodLink RL 125 yX9_ask ∈ wsL_law := List.mem_filter.mpr ⟨List.mem_append_right _ (List.mem_append_right _ (List.mem_append_right _ (List.mem_append_right _ (List.mem_append_right _ (List.mem_append_left _ (List.mem_of_getElem? (i := 67) (by decide +kernel))))))), by decide +kernel⟩
theorem wd1380 : Cond.instanceMethod yX9_ask ∈ wsL_law := List.mem_filter.mpr ⟨List.mem_append_right _ (List.mem_append_right _ (List.mem_append_right _ (List.mem_append_right _ (List.mem_append_right _ (List.mem_append_left _ (List.mem_of_getElem? (i := 68) (by decide +kernel))))))), by decide +kernel⟩
theorem wd1381 : Cond.selects RX9 yX9_ask yX9_ask ∈ wsL_law := List.mem_filter.mpr ⟨List.mem_append_right _ (List.mem_append_right _ (List.mem_append_right _ (List.mem_append_right _ (List.mem_append_right _ (List.mem_append_left _ (List.mem_of_getElem? (i := 69) (by decide +kernel))))))), by decide +kernel⟩
theorem wd1383 : Cond.constantLong RX9 309 (-1000000000000000) ∈ wsL_law := List.mem_filter.mpr ⟨List.mem_append_right _ (List.mem_append_right _ (List.mem_append_right _ (List.mem_append_right _ (List.mem_append_right _ (List.mem_append_left _ (List.mem_of_getElem? (i := 71) (by decide +kernel))))))), by decide +kernel⟩
theorem wd1400 : Cond.methodLink RL 129 yX10_ask ∈ wsL_law := List.mem_filter.mpr ⟨List.mem_append_right _ (List.mem_append_right _ (List.mem_append_right _ (List.mem_append_right _ (List.mem_append_right _ (List.mem_append_right _ (List.mem_append_right _ (List.mem_append_right _ (List.mem_append_left _ (List.mem_of_getElem? (i := 209) (by decide +kernel)))))))))), by decide +kernel⟩
theorem wd1401 : Cond.instanceMethod yX10_ask ∈ wsL_law := List.mem_filter.mpr ⟨List.mem_append_right _ (List.mem_append_right _ (List.mem_append_right _ (List.mem_append_right _ (List.mem_append_right _ (List.mem_append_right _ (List.mem_append_right _ (List.mem_append_right _ (List.mem_append_left _ (List.mem_of_getElem? (i := 210) (by decide +kernel)))))))))), by decide +kernel⟩
theorem wd1402 : Cond.selects RX10 yX10_ask yX10_ask ∈ wsL_law := List.mem_filter.mpr ⟨List.mem_append_right _ (List.mem_append_right _ (List.mem_append_right _ (List.mem_append_right _ (List.mem_append_right _ (List.mem_append_right _ (List.mem_append_right _ (List.mem_append_right _ (List.mem_append_left _ (List.mem_of_getElem? (i := 211) (by decide +kernel)))))))))), by decide +kernel⟩
theorem wd1404 : Cond.constantLong RX10 686 (-1000000000000000) ∈ wsL_law := List.mem_filter.mpr ⟨List.mem_append_right _ (List.mem_append_right _ (List.mem_append_right _ (List.mem_append_right _ (List.mem_append_right _ (List.mem_append_right _ (List.mem_append_right _ (List.mem_append_right _ (List.mem_append_left _ (List.mem_of_getElem? (i := 213) (by decide +kernel)))))))))), by decide +kernel⟩
theorem wd1424 : Cond.methodLink RL 130 yX9_image ∈ wsL_law := List.mem_filter.mpr ⟨List.mem_append_right _ (List.mem_append_right _ (List.mem_append_right _ (List.mem_append_right _ (List.mem_append_right _ (List.mem_append_left _ (List.mem_of_getElem? (i := 87) (by decide +kernel))))))), by decide +kernel⟩
theorem wd1425 : Cond.instanceMethod yX9_image ∈ wsL_law := List.mem_filter.mpr ⟨List.mem_append_right _ (List.mem_append_right _ (List.mem_append_right _ (List.mem_append_right _ (List.mem_append_right _ (List.mem_append_left _ (List.mem_of_getElem? (i := 88) (by decide +kernel))))))), by decide +kernel⟩
theorem wd1426 : Cond.selects RX9 yX9_image yX9_image ∈ wsL_law := List.mem_filter.mpr ⟨List.mem_append_right _ (List.mem_append_right _ (List.mem_append_right _ (List.mem_append_right _ (List.mem_append_right _ (List.mem_append_left _ (List.mem_of_getElem? (i := 89) (by decide +kernel))))))), by decide +kernel⟩
theorem wd1428 : Cond.methodLink RX9 319 yX9_check ∈ wsL_law := List.mem_filter.mpr ⟨List.mem_append_right _ (List.mem_append_right _ (List.mem_append_right _ (List.mem_append_right _ (List.mem_append_right _ (List.mem_append_left _ (List.mem_of_getElem? (i := 91) (by decide +kernel))))))), by decide +kernel⟩
theorem wd1429 : Cond.static yX9_check ∈ wsL_law := List.mem_filter.mpr ⟨List.mem_append_right _ (List.mem_append_right _ (List.mem_append_right _ (List.mem_append_right _ (List.mem_append_right _ (List.mem_append_left _ (List.mem_of_getElem? (i := 92) (by decide +kernel))))))), by decide +kernel⟩
theorem wd1431 : Cond.methodLink RL 133 yX10_image ∈ wsL_law := List.mem_filter.mpr ⟨List.mem_append_right _ (List.mem_append_right _ (List.mem_append_right _ (List.mem_append_right _ (List.mem_append_right _ (List.mem_append_right _ (List.mem_append_right _ (List.mem_append_right _ (List.mem_append_left _ (List.mem_of_getElem? (i := 231) (by decide +kernel)))))))))), by decide +kernel⟩
theorem wd1432 : Cond.instanceMethod yX10_image ∈ wsL_law := List.mem_filter.mpr ⟨List.mem_append_right _ (List.mem_append_right _ (List.mem_append_right _ (List.mem_append_right _ (List.mem_append_right _ (List.mem_append_right _ (List.mem_append_right _ (List.mem_append_right _ (List.mem_append_left _ (List.mem_of_getElem? (i := 232) (by decide +kernel)))))))))), by decide +kernel⟩
theorem wd1433 : Cond.selects RX10 yX10_image yX10_image ∈ wsL_law := List.mem_filter.mpr ⟨List.mem_append_right _ (List.mem_append_right _ (List.mem_append_right _ (List.mem_append_right _ (List.mem_append_right _ (List.mem_append_right _ (List.mem_append_right _ (List.mem_append_right _ (List.mem_append_left _ (List.mem_of_getElem? (i := 233) (by decide +kernel)))))))))), by decide +kernel⟩
theorem wd1435 : Cond.fieldLink RX10 699 "PressAndWaitModel" "octets" "I" ∈ wsL_law := List.mem_filter.mpr ⟨List.mem_append_right _ (List.mem_append_right _ (List.mem_append_right _ (List.mem_append_right _ (List.mem_append_right _ (List.mem_append_left _ (List.mem_of_getElem? (i := 238) (by decide +kernel))))))), by decide +kernel⟩
theorem wd1436 : Cond.methodLink RX10 702 yX10_writes ∈ wsL_law := List.mem_filter.mpr ⟨List.mem_append_right _ (List.mem_append_right _ (List.mem_append_right _ (List.mem_append_right _ (List.mem_append_right _ (List.mem_append_right _ (List.mem_append_right _ (List.mem_append_right _ (List.mem_append_left _ (List.mem_of_getElem? (i := 235) (by decide +kernel)))))))))), by decide +kernel⟩
theorem wd1437 : Cond.instanceMethod yX10_writes ∈ wsL_law := List.mem_filter.mpr ⟨List.mem_append_right _ (List.mem_append_right _ (List.mem_append_right _ (List.mem_append_right _ (List.mem_append_right _ (List.mem_append_right _ (List.mem_append_right _ (List.mem_append_right _ (List.mem_append_left _ (List.mem_of_getElem? (i := 237) (by decide +kernel)))))))))), by decide +kernel⟩
theorem wd1438 : Cond.selects RX10 yX10_writes yX10_writes ∈ wsL_law := List.mem_filter.mpr ⟨List.mem_append_left _ (List.mem_of_getElem? (i := 138) (by decide +kernel)), by decide +kernel⟩
theorem wd1440 : Cond.methodLink RX10 705 yX10_checked ∈ wsL_law := List.mem_filter.mpr ⟨List.mem_append_right _ (List.mem_append_right _ (List.mem_append_right _ (List.mem_append_right _ (List.mem_append_right _ (List.mem_append_right _ (List.mem_append_right _ (List.mem_append_right _ (List.mem_append_left _ (List.mem_of_getElem? (i := 239) (by decide +kernel)))))))))), by decide +kernel⟩
theorem wd1441 : Cond.static yX10_checked ∈ wsL_law := List.mem_filter.mpr ⟨List.mem_append_right _ (List.mem_append_right _ (List.mem_append_right _ (List.mem_append_right _ (List.mem_append_right _ (List.mem_append_right _ (List.mem_append_right _ (List.mem_append_right _ (List.mem_append_right _ (List.mem_of_getElem? (i := 0) (by decide +kernel)))))))))), by decide +kernel⟩
theorem wd1443 : Cond.methodLink RL 134 yX9_octet ∈ wsL_law := List.mem_filter.mpr ⟨List.mem_append_right _ (List.mem_append_right _ (List.mem_append_right _ (List.mem_append_right _ (List.mem_append_right _ (List.mem_append_left _ (List.mem_of_getElem? (i := 94) (by decide +kernel))))))), by decide +kernel⟩
theorem wd1444 : Cond.instanceMethod yX9_octet ∈ wsL_law := List.mem_filter.mpr ⟨List.mem_append_right _ (List.mem_append_right _ (List.mem_append_right _ (List.mem_append_right _ (List.mem_append_right _ (List.mem_append_left _ (List.mem_of_getElem? (i := 95) (by decide +kernel))))))), by decide +kernel⟩
theorem wd1445 : Cond.selects RX9 yX9_octet yX9_octet ∈ wsL_law := List.mem_filter.mpr ⟨List.mem_append_right _ (List.mem_append_right _ (List.mem_append_right _ (List.mem_append_right _ (List.mem_append_right _ (List.mem_append_left _ (List.mem_of_getElem? (i := 96) (by decide +kernel))))))), by decide +kernel⟩
theorem wd1447 : Cond.methodLink RL 137 yX10_octet ∈ wsL_law := List.mem_filter.mpr ⟨List.mem_append_right _ (List.mem_append_right _ (List.mem_append_right _ (List.mem_append_right _ (List.mem_append_right _ (List.mem_append_right _ (List.mem_append_right _ (List.mem_append_right _ (List.mem_append_right _ (List.mem_of_getElem? (i := 2) (by decide +kernel)))))))))), by decide +kernel⟩
theorem wd1448 : Cond.instanceMethod yX10_octet ∈ wsL_law := List.mem_filter.mpr ⟨List.mem_append_right _ (List.mem_append_right _ (List.mem_append_right _ (List.mem_append_right _ (List.mem_append_right _ (List.mem_append_right _ (List.mem_append_right _ (List.mem_append_right _ (List.mem_append_right _ (List.mem_of_getElem? (i := 3) (by decide +kernel)))))))))), by decide +kernel⟩
theorem wd1449 : Cond.selects RX10 yX10_octet yX10_octet ∈ wsL_law := List.mem_filter.mpr ⟨List.mem_append_right _ (List.mem_append_right _ (List.mem_append_right _ (List.mem_append_right _ (List.mem_append_right _ (List.mem_append_right _ (List.mem_append_right _ (List.mem_append_right _ (List.mem_append_right _ (List.mem_of_getElem? (i := 4) (by decide +kernel)))))))))), by decide +kernel⟩
theorem wd1451 : Cond.methodLink RL 138 yX9_on ∈ wsL_law := List.mem_filter.mpr ⟨List.mem_append_right _ (List.mem_append_right _ (List.mem_append_right _ (List.mem_append_right _ (List.mem_append_right _ (List.mem_append_left _ (List.mem_of_getElem? (i := 98) (by decide +kernel))))))), by decide +kernel⟩
theorem wd1452 : Cond.instanceMethod yX9_on ∈ wsL_law := List.mem_filter.mpr ⟨List.mem_append_right _ (List.mem_append_right _ (List.mem_append_right _ (List.mem_append_right _ (List.mem_append_right _ (List.mem_append_left _ (List.mem_of_getElem? (i := 99) (by decide +kernel))))))), by decide +kernel⟩
theorem wd1453 : Cond.selects RX9 yX9_on yX9_on ∈ wsL_law := List.mem_filter.mpr ⟨List.mem_append_right _ (List.mem_append_right _ (List.mem_append_right _ (List.mem_append_right _ (List.mem_append_right _ (List.mem_append_left _ (List.mem_of_getElem? (i := 100) (by decide +kernel))))))), by decide +kernel⟩
theorem wd1456 : Cond.methodLink RX9 322 yX9_isImage ∈ wsL_law := List.mem_filter.mpr ⟨List.mem_append_right _ (List.mem_append_right _ (List.mem_append_right _ (List.mem_append_right _ (List.mem_append_right _ (List.mem_append_left _ (List.mem_of_getElem? (i := 102) (by decide +kernel))))))), by decide +kernel⟩
theorem wd1457 : Cond.instanceMethod yX9_isImage ∈ wsL_law := List.mem_filter.mpr ⟨List.mem_append_right _ (List.mem_append_right _ (List.mem_append_right _ (List.mem_append_right _ (List.mem_append_right _ (List.mem_append_left _ (List.mem_of_getElem? (i := 104) (by decide +kernel))))))), by decide +kernel⟩
theorem wd1458 : Cond.selects RX9 yX9_isImage yX9_isImage ∈ wsL_law := List.mem_filter.mpr ⟨List.mem_append_left _ (List.mem_of_getElem? (i := 59) (by decide +kernel)), by decide +kernel⟩
theorem wd1460 : Cond.methodLink RL 141 yX10_on ∈ wsL_law := List.mem_filter.mpr ⟨List.mem_append_right _ (List.mem_append_right _ (List.mem_append_right _ (List.mem_append_right _ (List.mem_append_right _ (List.mem_append_right _ (List.mem_append_right _ (List.mem_append_right _ (List.mem_append_right _ (List.mem_of_getElem? (i := 6) (by decide +kernel)))))))))), by decide +kernel⟩
theorem wd1461 : Cond.instanceMethod yX10_on ∈ wsL_law := List.mem_filter.mpr ⟨List.mem_append_right _ (List.mem_append_right _ (List.mem_append_right _ (List.mem_append_right _ (List.mem_append_right _ (List.mem_append_right _ (List.mem_append_right _ (List.mem_append_right _ (List.mem_append_right _ (List.mem_of_getElem? (i := 7) (by decide +kernel)))))))))), by decide +kernel⟩
theorem wd1462 : Cond.selects RX10 yX10_on yX10_on ∈ wsL_law := List.mem_filter.mpr ⟨List.mem_append_right _ (List.mem_append_right _ (List.mem_append_right _ (List.mem_append_right _ (List.mem_append_right _ (List.mem_append_right _ (List.mem_append_right _ (List.mem_append_right _ (List.mem_append_right _ (List.mem_of_getElem? (i := 8) (by decide +kernel)))))))))), by decide +kernel⟩
theorem wd1464 : Cond.methodLink RX10 709 yX10_isImage ∈ wsL_law := List.mem_filter.mpr ⟨List.mem_append_right _ (List.mem_append_right _ (List.mem_append_right _ (List.mem_append_right _ (List.mem_append_right _ (List.mem_append_right _ (List.mem_append_right _ (List.mem_append_right _ (List.mem_append_right _ (List.mem_of_getElem? (i := 10) (by decide +kernel)))))))))), by decide +kernel⟩
theorem wd1465 : Cond.instanceMethod yX10_isImage ∈ wsL_law := List.mem_filter.mpr ⟨List.mem_append_right _ (List.mem_append_right _ (List.mem_append_right _ (List.mem_append_right _ (List.mem_append_right _ (List.mem_append_right _ (List.mem_append_right _ (List.mem_append_right _ (List.mem_append_right _ (List.mem_of_getElem? (i := 12) (by decide +kernel)))))))))), by decide +kernel⟩
theorem wd1466 : Cond.selects RX10 yX10_isImage yX10_isImage ∈ wsL_law := List.mem_filter.mpr ⟨List.mem_append_left _ (List.mem_of_getElem? (i := 139) (by decide +kernel)), by decide +kernel⟩
theorem wd1468 : Cond.methodLink RL 142 yX9_status ∈ wsL_law := List.mem_filter.mpr ⟨List.mem_append_right _ (List.mem_append_right _ (List.mem_append_right _ (List.mem_append_right _ (List.mem_append_right _ (List.mem_append_left _ (List.mem_of_getElem? (i := 107) (by decide +kernel))))))), by decide +kernel⟩
theorem wd1469 : Cond.instanceMethod yX9_status ∈ wsL_law := List.mem_filter.mpr ⟨List.mem_append_right _ (List.mem_append_right _ (List.mem_append_right _ (List.mem_append_right _ (List.mem_append_right _ (List.mem_append_left _ (List.mem_of_getElem? (i := 108) (by decide +kernel))))))), by decide +kernel⟩
theorem wd1470 : Cond.selects RX9 yX9_status yX9_status ∈ wsL_law := List.mem_filter.mpr ⟨List.mem_append_right _ (List.mem_append_right _ (List.mem_append_right _ (List.mem_append_right _ (List.mem_append_right _ (List.mem_append_left _ (List.mem_of_getElem? (i := 109) (by decide +kernel))))))), by decide +kernel⟩
theorem wd1472 : Cond.methodLink RL 145 yX10_status ∈ wsL_law := List.mem_filter.mpr ⟨List.mem_append_right _ (List.mem_append_right _ (List.mem_append_right _ (List.mem_append_right _ (List.mem_append_right _ (List.mem_append_right _ (List.mem_append_right _ (List.mem_append_right _ (List.mem_append_right _ (List.mem_of_getElem? (i := 14) (by decide +kernel)))))))))), by decide +kernel⟩
theorem wd1473 : Cond.instanceMethod yX10_status ∈ wsL_law := List.mem_filter.mpr ⟨List.mem_append_right _ (List.mem_append_right _ (List.mem_append_right _ (List.mem_append_right _ (List.mem_append_right _ (List.mem_append_right _ (List.mem_append_right _ (List.mem_append_right _ (List.mem_append_right _ (List.mem_of_getElem? (i := 15) (by decide +kernel)))))))))), by decide +kernel⟩
theorem wd1474 : Cond.selects RX10 yX10_status yX10_status ∈ wsL_law := List.mem_filter.mpr ⟨List.mem_append_right _ (List.mem_append_right _ (List.mem_append_right _ (List.mem_append_right _ (List.mem_append_right _ (List.mem_append_right _ (List.mem_append_right _ (List.mem_append_right _ (List.mem_append_right _ (List.mem_of_getElem? (i := 16) (by decide +kernel)))))))))), by decide +kernel⟩
end
section
set_option maxRecDepth 20000 in
theorem wd8 : Cond.code yX9_init cX9_init 1 none ∈ wsL_law := List.mem_filter.mpr ⟨List.mem_append_right _ (List.mem_append_left _ (List.mem_of_getElem? (i := 24) rfl)), by decide +kernel⟩
set_option maxRecDepth 20000 in
theorem wd11 : Cond.code objectInit ⟨#[0xb1]⟩ 1 none ∈ wsL_law := List.mem_filter.mpr ⟨List.mem_append_right _ (List.mem_append_left _ (List.mem_of_getElem? (i := 27) rfl)), by decide +kernel⟩
set_option maxRecDepth 20000 in
theorem wd57 : Cond.code yX4_init cX4_init 1 none ∈ wsL_law := List.mem_filter.mpr ⟨List.mem_append_right _ (List.mem_append_left _ (List.mem_of_getElem? (i := 32) rfl)), by decide +kernel⟩
set_option maxRecDepth 20000 in
theorem wd69 : Cond.code yX6_init cX6_init 1 none ∈ wsL_law := List.mem_filter.mpr ⟨List.mem_append_right _ (List.mem_append_left _ (List.mem_of_getElem? (i := 134) rfl)), by decide +kernel⟩
set_option maxRecDepth 20000 in
theorem wd77 : Cond.code yX2_init cX2_init 2 none ∈ wsL_law := List.mem_filter.mpr ⟨List.mem_append_right _ (List.mem_append_left _ (List.mem_of_getElem? (i := 163) rfl)), by decide +kernel⟩
set_option maxRecDepth 20000 in
theorem wd84 : Cond.code yX3_init cX3_init 1 none ∈ wsL_law := List.mem_filter.mpr ⟨List.mem_append_right _ (List.mem_append_left _ (List.mem_of_getElem? (i := 183) rfl)), by decide +kernel⟩
set_option maxRecDepth 20000 in
theorem wd90 : Cond.code yX5_init cX5_init 3 none ∈ wsL_law := List.mem_filter.mpr ⟨List.mem_append_right _ (List.mem_append_left _ (List.mem_of_getElem? (i := 197) rfl)), by decide +kernel⟩
set_option maxRecDepth 20000 in
theorem wd103 : Cond.code yX7_init cX7_init 3 none ∈ wsL_law := List.mem_filter.mpr ⟨List.mem_append_right _ (List.mem_append_left _ (List.mem_of_getElem? (i := 233) rfl)), by decide +kernel⟩
set_option maxRecDepth 20000 in
theorem wd124 : Cond.code yX1_init cX1_init 2 none ∈ wsL_law := List.mem_filter.mpr ⟨List.mem_append_right _ (List.mem_append_right _ (List.mem_append_left _ (List.mem_of_getElem? (i := 58) rfl))), by decide +kernel⟩
set_option maxRecDepth 20000 in
theorem wd131 : Cond.code yX0_init cX0_init 2 none ∈ wsL_law := List.mem_filter.mpr ⟨List.mem_append_right _ (List.mem_append_right _ (List.mem_append_left _ (List.mem_of_getElem? (i := 74) rfl))), by decide +kernel⟩
set_option maxRecDepth 20000 in
theorem wd141 : Cond.code yX8_init cX8_init 2 none ∈ wsL_law := List.mem_filter.mpr ⟨List.mem_append_right _ (List.mem_append_right _ (List.mem_append_left _ (List.mem_of_getElem? (i := 100) rfl))), by decide +kernel⟩
set_option maxRecDepth 20000 in
theorem wd156 : Cond.code yX10_init cX10_init 1 none ∈ wsL_law := List.mem_filter.mpr ⟨List.mem_append_right _ (List.mem_append_right _ (List.mem_append_right _ (List.mem_append_right _ (List.mem_append_right _ (List.mem_append_left _ (List.mem_of_getElem? (i := 115) rfl)))))), by decide +kernel⟩
set_option maxRecDepth 20000 in
theorem wd251 : Cond.code yX9_feed cX9_feed 6 (some .int) ∈ wsL_law := List.mem_filter.mpr ⟨List.mem_append_right _ (List.mem_append_right _ (List.mem_append_left _ (List.mem_of_getElem? (i := 194) rfl))), by decide +kernel⟩
set_option maxRecDepth 20000 in
theorem wd255 : Cond.code yX9_refuse cX9_refuse 2 (some .int) ∈ wsL_law := List.mem_filter.mpr ⟨List.mem_append_right _ (List.mem_append_right _ (List.mem_append_left _ (List.mem_of_getElem? (i := 198) rfl))), by decide +kernel⟩
set_option maxRecDepth 20000 in
theorem wd259 : Cond.code yX9_putBytes cX9_putBytes 3 none ∈ wsL_law := List.mem_filter.mpr ⟨List.mem_append_right _ (List.mem_append_right _ (List.mem_append_left _ (List.mem_of_getElem? (i := 202) rfl))), by decide +kernel⟩
set_option maxRecDepth 20000 in
theorem wd263 : Cond.code yX10_feed cX10_feed 8 (some .int) ∈ wsL_law := List.mem_filter.mpr ⟨List.mem_append_right _ (List.mem_append_right _ (List.mem_append_right _ (List.mem_append_right _ (List.mem_append_right _ (List.mem_append_right _ (List.mem_append_right _ (List.mem_append_left _ (List.mem_of_getElem? (i := 10) rfl)))))))), by decide +kernel⟩
set_option maxRecDepth 20000 in
theorem wd268 : Cond.code yX9_end cX9_end 2 (some .boolean) ∈ wsL_law := List.mem_filter.mpr ⟨List.mem_append_right _ (List.mem_append_right _ (List.mem_append_left _ (List.mem_of_getElem? (i := 206) rfl))), by decide +kernel⟩
set_option maxRecDepth 20000 in
theorem wd272 : Cond.code yX9_deny cX9_deny 2 (some .boolean) ∈ wsL_law := List.mem_filter.mpr ⟨List.mem_append_right _ (List.mem_append_right _ (List.mem_append_left _ (List.mem_of_getElem? (i := 210) rfl))), by decide +kernel⟩
set_option maxRecDepth 20000 in
theorem wd276 : Cond.code yX10_end cX10_end 2 (some .boolean) ∈ wsL_law := List.mem_filter.mpr ⟨List.mem_append_right _ (List.mem_append_right _ (List.mem_append_right _ (List.mem_append_right _ (List.mem_append_right _ (List.mem_append_right _ (List.mem_append_right _ (List.mem_append_left _ (List.mem_of_getElem? (i := 14) rfl)))))))), by decide +kernel⟩
set_option maxRecDepth 20000 in
theorem wd280 : Cond.code yX9_crossing cX9_crossing 2 (some .int) ∈ wsL_law := List.mem_filter.mpr ⟨List.mem_append_right _ (List.mem_append_right _ (List.mem_append_left _ (List.mem_of_getElem? (i := 214) rfl))), by decide +kernel⟩
set_option maxRecDepth 20000 in
theorem wd286 : Cond.code yX9_takeTape cX9_takeTape 2 (some .int) ∈ wsL_law := List.mem_filter.mpr ⟨List.mem_append_right _ (List.mem_append_right _ (List.mem_append_left _ (List.mem_of_getElem? (i := 218) rfl))), by decide +kernel⟩
set_option maxRecDepth 20000 in
theorem wd290 : Cond.code yX5_readCrossing cX5_readCrossing 4 none ∈ wsL_law := List.mem_filter.mpr ⟨List.mem_append_right _ (List.mem_append_right _ (List.mem_append_left _ (List.mem_of_getElem? (i := 222) rfl))), by decide +kernel⟩
set_option maxRecDepth 20000 in
theorem wd296 : Cond.code yX5_begin cX5_begin 3 none ∈ wsL_law := List.mem_filter.mpr ⟨List.mem_append_right _ (List.mem_append_right _ (List.mem_append_left _ (List.mem_of_getElem? (i := 226) rfl))), by decide +kernel⟩
set_option maxRecDepth 20000 in
theorem wd300 : Cond.code Lib.Math.min.name Lib.Math.min.code 2 (some .int) ∈ wsL_law := List.mem_filter.mpr ⟨List.mem_append_right _ (List.mem_append_right _ (List.mem_append_left _ (List.mem_of_getElem? (i := 236) rfl))), by decide +kernel⟩
set_option maxRecDepth 20000 in
theorem wd304 : Cond.code yX4_clear cX4_clear 1 none ∈ wsL_law := List.mem_filter.mpr ⟨List.mem_append_right _ (List.mem_append_right _ (List.mem_append_left _ (List.mem_of_getElem? (i := 230) rfl))), by decide +kernel⟩
set_option maxRecDepth 20000 in
theorem wd314 : Cond.code yJ7_fill_53178 cJ7_fill_53178 4 none ∈ wsL_law := List.mem_filter.mpr ⟨List.mem_append_right _ (List.mem_append_right _ (List.mem_append_left _ (List.mem_of_getElem? (i := 233) rfl))), by decide +kernel⟩
set_option maxRecDepth 20000 in
theorem wd318 : Cond.code yX5_moveTo cX5_moveTo 3 none ∈ wsL_law := List.mem_filter.mpr ⟨List.mem_append_right _ (List.mem_append_right _ (List.mem_append_right _ (List.mem_append_left _ (List.mem_of_getElem? (i := 0) rfl)))), by decide +kernel⟩
set_option maxRecDepth 20000 in
theorem wd322 : Cond.code yX5_sortOf cX5_sortOf 2 (some .int) ∈ wsL_law := List.mem_filter.mpr ⟨List.mem_append_right _ (List.mem_append_right _ (List.mem_append_right _ (List.mem_append_left _ (List.mem_of_getElem? (i := 4) rfl)))), by decide +kernel⟩
set_option maxRecDepth 20000 in
theorem wd326 : Cond.code yX5_firstStatement cX5_firstStatement 1 none ∈ wsL_law := List.mem_filter.mpr ⟨List.mem_append_right _ (List.mem_append_right _ (List.mem_append_right _ (List.mem_append_left _ (List.mem_of_getElem? (i := 8) rfl)))), by decide +kernel⟩
set_option maxRecDepth 20000 in
theorem wd334 : Cond.code yX5_numberBehind cX5_numberBehind 4 (some .int) ∈ wsL_law := List.mem_filter.mpr ⟨List.mem_append_right _ (List.mem_append_right _ (List.mem_append_right _ (List.mem_append_left _ (List.mem_of_getElem? (i := 13) rfl)))), by decide +kernel⟩
set_option maxRecDepth 20000 in
theorem wd338 : Cond.code yX5_needWord cX5_needWord 2 none ∈ wsL_law := List.mem_filter.mpr ⟨List.mem_append_right _ (List.mem_append_right _ (List.mem_append_right _ (List.mem_append_left _ (List.mem_of_getElem? (i := 17) rfl)))), by decide +kernel⟩
set_option maxRecDepth 20000 in
theorem wd342 : Cond.code yX5_wordIn cX5_wordIn 6 (some .int) ∈ wsL_law := List.mem_filter.mpr ⟨List.mem_append_right _ (List.mem_append_right _ (List.mem_append_right _ (List.mem_append_left _ (List.mem_of_getElem? (i := 21) rfl)))), by decide +kernel⟩
set_option maxRecDepth 20000 in
theorem wd395 : Cond.code yX5_fail cX5_fail 3 none ∈ wsL_law := List.mem_filter.mpr ⟨List.mem_append_right _ (List.mem_append_right _ (List.mem_append_right _ (List.mem_append_left _ (List.mem_of_getElem? (i := 73) rfl)))), by decide +kernel⟩
set_option maxRecDepth 20000 in
theorem wd399 : Cond.code yX5_number cX5_number 5 (some .int) ∈ wsL_law := List.mem_filter.mpr ⟨List.mem_append_right _ (List.mem_append_right _ (List.mem_append_right _ (List.mem_append_left _ (List.mem_of_getElem? (i := 77) rfl)))), by decide +kernel⟩
set_option maxRecDepth 20000 in
theorem wd403 : Cond.code yX5_need cX5_need 2 none ∈ wsL_law := List.mem_filter.mpr ⟨List.mem_append_right _ (List.mem_append_right _ (List.mem_append_right _ (List.mem_append_left _ (List.mem_of_getElem? (i := 84) rfl)))), by decide +kernel⟩
set_option maxRecDepth 20000 in
theorem wd407 : Cond.code yX5_sees cX5_sees 2 (some .boolean) ∈ wsL_law := List.mem_filter.mpr ⟨List.mem_append_right _ (List.mem_append_right _ (List.mem_append_right _ (List.mem_append_left _ (List.mem_of_getElem? (i := 88) rfl)))), by decide +kernel⟩
set_option maxRecDepth 20000 in
theorem wd550 : Cond.code yX10_crossing cX10_crossing 2 (some .int) ∈ wsL_law := List.mem_filter.mpr ⟨List.mem_append_right _ (List.mem_append_right _ (List.mem_append_right _ (List.mem_append_right _ (List.mem_append_right _ (List.mem_append_right _ (List.mem_append_right _ (List.mem_append_left _ (List.mem_of_getElem? (i := 18) rfl)))))))), by decide +kernel⟩
set_option maxRecDepth 20000 in
theorem wd563 : Cond.code yX10_barTold cX10_barTold 1 none ∈ wsL_law := List.mem_filter.mpr ⟨List.mem_append_right _ (List.mem_append_right _ (List.mem_append_right _ (List.mem_append_right _ (List.mem_append_right _ (List.mem_append_right _ (List.mem_append_right _ (List.mem_append_left _ (List.mem_of_getElem? (i := 22) rfl)))))))), by decide +kernel⟩
set_option maxRecDepth 20000 in
theorem wd567 : Cond.code yX10_asks cX10_asks 2 none ∈ wsL_law := List.mem_filter.mpr ⟨List.mem_append_right _ (List.mem_append_right _ (List.mem_append_right _ (List.mem_append_right _ (List.mem_append_right _ (List.mem_append_right _ (List.mem_append_right _ (List.mem_append_left _ (List.mem_of_getElem? (i := 26) rfl)))))))), by decide +kernel⟩
set_option maxRecDepth 20000 in
theorem wd571 : Cond.code yX10_takes cX10_takes 2 (some .boolean) ∈ wsL_law := List.mem_filter.mpr ⟨List.mem_append_right _ (List.mem_append_right _ (List.mem_append_right _ (List.mem_append_right _ (List.mem_append_right _ (List.mem_append_right _ (List.mem_append_right _ (List.mem_append_left _ (List.mem_of_getElem? (i := 30) rfl)))))))), by decide +kernel⟩
set_option maxRecDepth 20000 in
theorem wd575 : Cond.code yX10_isHere cX10_isHere 4 (some .boolean) ∈ wsL_law := List.mem_filter.mpr ⟨List.mem_append_right _ (List.mem_append_right _ (List.mem_append_right _ (List.mem_append_right _ (List.mem_append_right _ (List.mem_append_right _ (List.mem_append_right _ (List.mem_append_left _ (List.mem_of_getElem? (i := 34) rfl)))))))), by decide +kernel⟩
set_option maxRecDepth 20000 in
theorem wd579 : Cond.code yX10_look cX10_look 1 (some .int) ∈ wsL_law := List.mem_filter.mpr ⟨List.mem_append_right _ (List.mem_append_right _ (List.mem_append_right _ (List.mem_append_right _ (List.mem_append_right _ (List.mem_append_right _ (List.mem_append_right _ (List.mem_append_left _ (List.mem_of_getElem? (i := 38) rfl)))))))), by decide +kernel⟩
set_option maxRecDepth 20000 in
theorem wd582 : Cond.code yX10_isLetter cX10_isLetter 1 (some .boolean) ∈ wsL_law := List.mem_filter.mpr ⟨List.mem_append_right _ (List.mem_append_right _ (List.mem_append_right _ (List.mem_append_right _ (List.mem_append_right _ (List.mem_append_right _ (List.mem_append_right _ (List.mem_append_left _ (List.mem_of_getElem? (i := 41) rfl)))))))), by decide +kernel⟩
set_option maxRecDepth 20000 in
theorem wd586 : Cond.code yX10_fail cX10_fail 3 none ∈ wsL_law := List.mem_filter.mpr ⟨List.mem_append_right _ (List.mem_append_right _ (List.mem_append_right _ (List.mem_append_right _ (List.mem_append_right _ (List.mem_append_right _ (List.mem_append_right _ (List.mem_append_left _ (List.mem_of_getElem? (i := 45) rfl)))))))), by decide +kernel⟩
set_option maxRecDepth 20000 in
theorem wd590 : Cond.code yX10_number cX10_number 5 (some .int) ∈ wsL_law := List.mem_filter.mpr ⟨List.mem_append_right _ (List.mem_append_right _ (List.mem_append_right _ (List.mem_append_right _ (List.mem_append_right _ (List.mem_append_right _ (List.mem_append_right _ (List.mem_append_left _ (List.mem_of_getElem? (i := 49) rfl)))))))), by decide +kernel⟩
set_option maxRecDepth 20000 in
theorem wd596 : Cond.code yX10_isIn cX10_isIn 6 (some .boolean) ∈ wsL_law := List.mem_filter.mpr ⟨List.mem_append_right _ (List.mem_append_right _ (List.mem_append_right _ (List.mem_append_right _ (List.mem_append_right _ (List.mem_append_right _ (List.mem_append_right _ (List.mem_append_left _ (List.mem_of_getElem? (i := 55) rfl)))))))), by decide +kernel⟩
set_option maxRecDepth 20000 in
theorem wd600 : Cond.code yX10_asksSign cX10_asksSign 2 none ∈ wsL_law := List.mem_filter.mpr ⟨List.mem_append_right _ (List.mem_append_right _ (List.mem_append_right _ (List.mem_append_right _ (List.mem_append_right _ (List.mem_append_right _ (List.mem_append_right _ (List.mem_append_left _ (List.mem_of_getElem? (i := 59) rfl)))))))), by decide +kernel⟩
set_option maxRecDepth 20000 in
theorem wd742 : Cond.code yX9_fault cX9_fault 2 (some .int) ∈ wsL_law := List.mem_filter.mpr ⟨List.mem_append_right _ (List.mem_append_right _ (List.mem_append_right _ (List.mem_append_left _ (List.mem_of_getElem? (i := 232) rfl)))), by decide +kernel⟩
set_option maxRecDepth 20000 in
theorem wd747 : Cond.code yX10_fault cX10_fault 2 (some .int) ∈ wsL_law := List.mem_filter.mpr ⟨List.mem_append_right _ (List.mem_append_right _ (List.mem_append_right _ (List.mem_append_right _ (List.mem_append_right _ (List.mem_append_right _ (List.mem_append_right _ (List.mem_append_left _ (List.mem_of_getElem? (i := 191) rfl)))))))), by decide +kernel⟩
set_option maxRecDepth 20000 in
theorem wd751 : Cond.code yX9_has cX9_has 2 (some .int) ∈ wsL_law := List.mem_filter.mpr ⟨List.mem_append_right _ (List.mem_append_right _ (List.mem_append_right _ (List.mem_append_left _ (List.mem_of_getElem? (i := 236) rfl)))), by decide +kernel⟩
set_option maxRecDepth 20000 in
theorem wd763 : Cond.code yX10_has cX10_has 2 (some .int) ∈ wsL_law := List.mem_filter.mpr ⟨List.mem_append_right _ (List.mem_append_right _ (List.mem_append_right _ (List.mem_append_right _ (List.mem_append_right _ (List.mem_append_right _ (List.mem_append_right _ (List.mem_append_left _ (List.mem_of_getElem? (i := 195) rfl)))))))), by decide +kernel⟩
set_option maxRecDepth 20000 in
theorem wd767 : Cond.code yX10_kindMany cX10_kindMany 1 (some .int) ∈ wsL_law := List.mem_filter.mpr ⟨List.mem_append_right _ (List.mem_append_right _ (List.mem_append_right _ (List.mem_append_right _ (List.mem_append_right _ (List.mem_append_right _ (List.mem_append_right _ (List.mem_append_left _ (List.mem_of_getElem? (i := 199) rfl)))))))), by decide +kernel⟩
set_option maxRecDepth 20000 in
theorem wd771 : Cond.code yX10_walkerMany cX10_walkerMany 1 (some .int) ∈ wsL_law := List.mem_filter.mpr ⟨List.mem_append_right _ (List.mem_append_right _ (List.mem_append_right _ (List.mem_append_right _ (List.mem_append_right _ (List.mem_append_right _ (List.mem_append_right _ (List.mem_append_left _ (List.mem_of_getElem? (i := 203) rfl)))))))), by decide +kernel⟩
set_option maxRecDepth 20000 in
theorem wd775 : Cond.code yX9_letter cX9_letter 6 (some .int) ∈ wsL_law := List.mem_filter.mpr ⟨List.mem_append_right _ (List.mem_append_right _ (List.mem_append_right _ (List.mem_append_right _ (List.mem_append_left _ (List.mem_of_getElem? (i := 0) rfl))))), by decide +kernel⟩
set_option maxRecDepth 20000 in
theorem wd780 : Cond.code yX9_isKind cX9_isKind 2 (some .boolean) ∈ wsL_law := List.mem_filter.mpr ⟨List.mem_append_right _ (List.mem_append_right _ (List.mem_append_right _ (List.mem_append_right _ (List.mem_append_left _ (List.mem_of_getElem? (i := 4) rfl))))), by decide +kernel⟩
set_option maxRecDepth 20000 in
theorem wd784 : Cond.code yX9_isWalker cX9_isWalker 2 (some .boolean) ∈ wsL_law := List.mem_filter.mpr ⟨List.mem_append_right _ (List.mem_append_right _ (List.mem_append_right _ (List.mem_append_right _ (List.mem_append_left _ (List.mem_of_getElem? (i := 8) rfl))))), by decide +kernel⟩
set_option maxRecDepth 20000 in
theorem wd788 : Cond.code yX10_letter cX10_letter 9 (some .int) ∈ wsL_law := List.mem_filter.mpr ⟨List.mem_append_right _ (List.mem_append_right _ (List.mem_append_right _ (List.mem_append_right _ (List.mem_append_right _ (List.mem_append_right _ (List.mem_append_right _ (List.mem_append_left _ (List.mem_of_getElem? (i := 207) rfl)))))))), by decide +kernel⟩
set_option maxRecDepth 20000 in
theorem wd793 : Cond.code yX9_kind cX9_kind 3 (some .int) ∈ wsL_law := List.mem_filter.mpr ⟨List.mem_append_right _ (List.mem_append_right _ (List.mem_append_right _ (List.mem_append_right _ (List.mem_append_left _ (List.mem_of_getElem? (i := 12) rfl))))), by decide +kernel⟩
set_option maxRecDepth 20000 in
theorem wd804 : Cond.code yX10_kind cX10_kind 5 (some .int) ∈ wsL_law := List.mem_filter.mpr ⟨List.mem_append_right _ (List.mem_append_right _ (List.mem_append_right _ (List.mem_append_right _ (List.mem_append_right _ (List.mem_append_right _ (List.mem_append_right _ (List.mem_append_left _ (List.mem_of_getElem? (i := 212) rfl)))))))), by decide +kernel⟩
set_option maxRecDepth 20000 in
theorem wd808 : Cond.code yX10_isKind cX10_isKind 2 (some .boolean) ∈ wsL_law := List.mem_filter.mpr ⟨List.mem_append_right _ (List.mem_append_right _ (List.mem_append_right _ (List.mem_append_right _ (List.mem_append_right _ (List.mem_append_right _ (List.mem_append_right _ (List.mem_append_left _ (List.mem_of_getElem? (i := 216) rfl)))))))), by decide +kernel⟩
set_option maxRecDepth 20000 in
theorem wd820 : Cond.code yX9_walker cX9_walker 3 (some .int) ∈ wsL_law := List.mem_filter.mpr ⟨List.mem_append_right _ (List.mem_append_right _ (List.mem_append_right _ (List.mem_append_right _ (List.mem_append_left _ (List.mem_of_getElem? (i := 20) rfl))))), by decide +kernel⟩
set_option maxRecDepth 20000 in
theorem wd917 : Cond.code yX10_walker cX10_walker 3 (some .int) ∈ wsL_law := List.mem_filter.mpr ⟨List.mem_append_right _ (List.mem_append_right _ (List.mem_append_right _ (List.mem_append_right _ (List.mem_append_right _ (List.mem_append_right _ (List.mem_append_right _ (List.mem_append_left _ (List.mem_of_getElem? (i := 228) rfl)))))))), by decide +kernel⟩
set_option maxRecDepth 20000 in
theorem wd921 : Cond.code yX10_isWalker cX10_isWalker 2 (some .boolean) ∈ wsL_law := List.mem_filter.mpr ⟨List.mem_append_right _ (List.mem_append_right _ (List.mem_append_right _ (List.mem_append_right _ (List.mem_append_right _ (List.mem_append_right _ (List.mem_append_right _ (List.mem_append_left _ (List.mem_of_getElem? (i := 232) rfl)))))))), by decide +kernel⟩
set_option maxRecDepth 20000 in
theorem wd993 : Cond.code yX9_light cX9_light 2 (some .int) ∈ wsL_law := List.mem_filter.mpr ⟨List.mem_append_right _ (List.mem_append_right _ (List.mem_append_right _ (List.mem_append_right _ (List.mem_append_left _ (List.mem_of_getElem? (i := 97) rfl))))), by decide +kernel⟩
set_option maxRecDepth 20000 in
theorem wd998 : Cond.code yX9_stands cX9_stands 1 (some .boolean) ∈ wsL_law := List.mem_filter.mpr ⟨List.mem_append_right _ (List.mem_append_right _ (List.mem_append_right _ (List.mem_append_right _ (List.mem_append_left _ (List.mem_of_getElem? (i := 101) rfl))))), by decide +kernel⟩
set_option maxRecDepth 20000 in
theorem wd1002 : Cond.code yX10_light cX10_light 2 (some .int) ∈ wsL_law := List.mem_filter.mpr ⟨List.mem_append_right _ (List.mem_append_right _ (List.mem_append_right _ (List.mem_append_right _ (List.mem_append_right _ (List.mem_append_right _ (List.mem_append_right _ (List.mem_append_right _ (List.mem_append_left _ (List.mem_of_getElem? (i := 56) rfl))))))))), by decide +kernel⟩
set_option maxRecDepth 20000 in
theorem wd1007 : Cond.code yX9_car cX9_car 2 (some .int) ∈ wsL_law := List.mem_filter.mpr ⟨List.mem_append_right _ (List.mem_append_right _ (List.mem_append_right _ (List.mem_append_right _ (List.mem_append_left _ (List.mem_of_getElem? (i := 105) rfl))))), by decide +kernel⟩
set_option maxRecDepth 20000 in
theorem wd1012 : Cond.code yX10_car cX10_car 2 (some .int) ∈ wsL_law := List.mem_filter.mpr ⟨List.mem_append_right _ (List.mem_append_right _ (List.mem_append_right _ (List.mem_append_right _ (List.mem_append_right _ (List.mem_append_right _ (List.mem_append_right _ (List.mem_append_right _ (List.mem_append_left _ (List.mem_of_getElem? (i := 61) rfl))))))))), by decide +kernel⟩
set_option maxRecDepth 20000 in
theorem wd1017 : Cond.code yX9_day cX9_day 2 (some .int) ∈ wsL_law := List.mem_filter.mpr ⟨List.mem_append_right _ (List.mem_append_right _ (List.mem_append_right _ (List.mem_append_right _ (List.mem_append_left _ (List.mem_of_getElem? (i := 109) rfl))))), by decide +kernel⟩
set_option maxRecDepth 20000 in
theorem wd1045 : Cond.code yX10_day cX10_day 2 (some .int) ∈ wsL_law := List.mem_filter.mpr ⟨List.mem_append_right _ (List.mem_append_right _ (List.mem_append_right _ (List.mem_append_right _ (List.mem_append_right _ (List.mem_append_right _ (List.mem_append_right _ (List.mem_append_right _ (List.mem_append_left _ (List.mem_of_getElem? (i := 66) rfl))))))))), by decide +kernel⟩
set_option maxRecDepth 20000 in
theorem wd1068 : Cond.code yX9_best cX9_best 3 (some .int) ∈ wsL_law := List.mem_filter.mpr ⟨List.mem_append_right _ (List.mem_append_right _ (List.mem_append_right _ (List.mem_append_right _ (List.mem_append_left _ (List.mem_of_getElem? (i := 136) rfl))))), by decide +kernel⟩
set_option maxRecDepth 20000 in
theorem wd1087 : Cond.code yX10_best cX10_best 9 (some .int) ∈ wsL_law := List.mem_filter.mpr ⟨List.mem_append_right _ (List.mem_append_right _ (List.mem_append_right _ (List.mem_append_right _ (List.mem_append_right _ (List.mem_append_right _ (List.mem_append_right _ (List.mem_append_right _ (List.mem_append_left _ (List.mem_of_getElem? (i := 89) rfl))))))))), by decide +kernel⟩
set_option maxRecDepth 20000 in
theorem wd1097 : Cond.code yX9_least cX9_least 1 (some .int) ∈ wsL_law := List.mem_filter.mpr ⟨List.mem_append_right _ (List.mem_append_right _ (List.mem_append_right _ (List.mem_append_right _ (List.mem_append_left _ (List.mem_of_getElem? (i := 155) rfl))))), by decide +kernel⟩
set_option maxRecDepth 20000 in
theorem wd1110 : Cond.code yX10_least cX10_least 2 (some .int) ∈ wsL_law := List.mem_filter.mpr ⟨List.mem_append_right _ (List.mem_append_right _ (List.mem_append_right _ (List.mem_append_right _ (List.mem_append_right _ (List.mem_append_right _ (List.mem_append_right _ (List.mem_append_right _ (List.mem_append_left _ (List.mem_of_getElem? (i := 99) rfl))))))))), by decide +kernel⟩
set_option maxRecDepth 20000 in
theorem wd1114 : Cond.code yX9_hold cX9_hold 1 (some .int) ∈ wsL_law := List.mem_filter.mpr ⟨List.mem_append_right _ (List.mem_append_right _ (List.mem_append_right _ (List.mem_append_right _ (List.mem_append_left _ (List.mem_of_getElem? (i := 167) rfl))))), by decide +kernel⟩
set_option maxRecDepth 20000 in
theorem wd1127 : Cond.code yX10_hold cX10_hold 3 (some .int) ∈ wsL_law := List.mem_filter.mpr ⟨List.mem_append_right _ (List.mem_append_right _ (List.mem_append_right _ (List.mem_append_right _ (List.mem_append_right _ (List.mem_append_right _ (List.mem_append_right _ (List.mem_append_right _ (List.mem_append_left _ (List.mem_of_getElem? (i := 103) rfl))))))))), by decide +kernel⟩
set_option maxRecDepth 20000 in
theorem wd1134 : Cond.code yX9_later cX9_later 3 (some .int) ∈ wsL_law := List.mem_filter.mpr ⟨List.mem_append_right _ (List.mem_append_right _ (List.mem_append_right _ (List.mem_append_right _ (List.mem_append_left _ (List.mem_of_getElem? (i := 180) rfl))))), by decide +kernel⟩
set_option maxRecDepth 20000 in
theorem wd1157 : Cond.code yX10_later cX10_later 4 (some .int) ∈ wsL_law := List.mem_filter.mpr ⟨List.mem_append_right _ (List.mem_append_right _ (List.mem_append_right _ (List.mem_append_right _ (List.mem_append_right _ (List.mem_append_right _ (List.mem_append_right _ (List.mem_append_right _ (List.mem_append_left _ (List.mem_of_getElem? (i := 110) rfl))))))))), by decide +kernel⟩
set_option maxRecDepth 20000 in
theorem wd1161 : Cond.code yX10_isAhead cX10_isAhead 4 (some .boolean) ∈ wsL_law := List.mem_filter.mpr ⟨List.mem_append_right _ (List.mem_append_right _ (List.mem_append_right _ (List.mem_append_right _ (List.mem_append_right _ (List.mem_append_right _ (List.mem_append_right _ (List.mem_append_right _ (List.mem_append_left _ (List.mem_of_getElem? (i := 114) rfl))))))))), by decide +kernel⟩
set_option maxRecDepth 20000 in
theorem wd1182 : Cond.code yX9_doubts cX9_doubts 4 (some .int) ∈ wsL_law := List.mem_filter.mpr ⟨List.mem_append_right _ (List.mem_append_right _ (List.mem_append_right _ (List.mem_append_right _ (List.mem_append_left _ (List.mem_of_getElem? (i := 199) rfl))))), by decide +kernel⟩
set_option maxRecDepth 20000 in
theorem wd1188 : Cond.code yX10_doubts cX10_doubts 4 (some .int) ∈ wsL_law := List.mem_filter.mpr ⟨List.mem_append_right _ (List.mem_append_right _ (List.mem_append_right _ (List.mem_append_right _ (List.mem_append_right _ (List.mem_append_right _ (List.mem_append_right _ (List.mem_append_right _ (List.mem_append_left _ (List.mem_of_getElem? (i := 135) rfl))))))))), by decide +kernel⟩
set_option maxRecDepth 20000 in
theorem wd1192 : Cond.code yX9_see cX9_see 2 (some .int) ∈ wsL_law := List.mem_filter.mpr ⟨List.mem_append_right _ (List.mem_append_right _ (List.mem_append_right _ (List.mem_append_right _ (List.mem_append_left _ (List.mem_of_getElem? (i := 204) rfl))))), by decide +kernel⟩
set_option maxRecDepth 20000 in
theorem wd1196 : Cond.code yX8_accepts cX8_accepts 6 (some .boolean) ∈ wsL_law := List.mem_filter.mpr ⟨List.mem_append_right _ (List.mem_append_right _ (List.mem_append_right _ (List.mem_append_right _ (List.mem_append_left _ (List.mem_of_getElem? (i := 208) rfl))))), by decide +kernel⟩
set_option maxRecDepth 20000 in
theorem wd1205 : Cond.code yX10_see cX10_see 5 (some .int) ∈ wsL_law := List.mem_filter.mpr ⟨List.mem_append_right _ (List.mem_append_right _ (List.mem_append_right _ (List.mem_append_right _ (List.mem_append_right _ (List.mem_append_right _ (List.mem_append_right _ (List.mem_append_right _ (List.mem_append_left _ (List.mem_of_getElem? (i := 139) rfl))))))))), by decide +kernel⟩
set_option maxRecDepth 20000 in
theorem wd1210 : Cond.code yX10_refuses cX10_refuses 2 (some .int) ∈ wsL_law := List.mem_filter.mpr ⟨List.mem_append_right _ (List.mem_append_right _ (List.mem_append_right _ (List.mem_append_right _ (List.mem_append_right _ (List.mem_append_right _ (List.mem_append_right _ (List.mem_append_right _ (List.mem_append_left _ (List.mem_of_getElem? (i := 144) rfl))))))))), by decide +kernel⟩
set_option maxRecDepth 20000 in
theorem wd1214 : Cond.code yX9_fits cX9_fits 2 (some .int) ∈ wsL_law := List.mem_filter.mpr ⟨List.mem_append_right _ (List.mem_append_right _ (List.mem_append_right _ (List.mem_append_right _ (List.mem_append_left _ (List.mem_of_getElem? (i := 217) rfl))))), by decide +kernel⟩
set_option maxRecDepth 20000 in
theorem wd1246 : Cond.code yX10_fits cX10_fits 2 (some .int) ∈ wsL_law := List.mem_filter.mpr ⟨List.mem_append_right _ (List.mem_append_right _ (List.mem_append_right _ (List.mem_append_right _ (List.mem_append_right _ (List.mem_append_right _ (List.mem_append_right _ (List.mem_append_right _ (List.mem_append_left _ (List.mem_of_getElem? (i := 148) rfl))))))))), by decide +kernel⟩
set_option maxRecDepth 20000 in
theorem wd1261 : Cond.code yX9_watched cX9_watched 2 (some .int) ∈ wsL_law := List.mem_filter.mpr ⟨List.mem_append_right _ (List.mem_append_right _ (List.mem_append_right _ (List.mem_append_right _ (List.mem_append_right _ (List.mem_append_left _ (List.mem_of_getElem? (i := 5) rfl)))))), by decide +kernel⟩
set_option maxRecDepth 20000 in
theorem wd1267 : Cond.code yX10_watched cX10_watched 6 (some .int) ∈ wsL_law := List.mem_filter.mpr ⟨List.mem_append_right _ (List.mem_append_right _ (List.mem_append_right _ (List.mem_append_right _ (List.mem_append_right _ (List.mem_append_right _ (List.mem_append_right _ (List.mem_append_right _ (List.mem_append_left _ (List.mem_of_getElem? (i := 160) rfl))))))))), by decide +kernel⟩
set_option maxRecDepth 20000 in
theorem wd1275 : Cond.code yX9_rule cX9_rule 2 (some .boolean) ∈ wsL_law := List.mem_filter.mpr ⟨List.mem_append_right _ (List.mem_append_right _ (List.mem_append_right _ (List.mem_append_right _ (List.mem_append_right _ (List.mem_append_left _ (List.mem_of_getElem? (i := 9) rfl)))))), by decide +kernel⟩
set_option maxRecDepth 20000 in
theorem wd1289 : Cond.code yX10_rule cX10_rule 2 (some .boolean) ∈ wsL_law := List.mem_filter.mpr ⟨List.mem_append_right _ (List.mem_append_right _ (List.mem_append_right _ (List.mem_append_right _ (List.mem_append_right _ (List.mem_append_right _ (List.mem_append_right _ (List.mem_append_right _ (List.mem_append_left _ (List.mem_of_getElem? (i := 172) rfl))))))))), by decide +kernel⟩
set_option maxRecDepth 20000 in
theorem wd1293 : Cond.code yX10_isRefused cX10_isRefused 1 (some .boolean) ∈ wsL_law := List.mem_filter.mpr ⟨List.mem_append_right _ (List.mem_append_right _ (List.mem_append_right _ (List.mem_append_right _ (List.mem_append_right _ (List.mem_append_right _ (List.mem_append_right _ (List.mem_append_right _ (List.mem_append_left _ (List.mem_of_getElem? (i := 176) rfl))))))))), by decide +kernel⟩
set_option maxRecDepth 20000 in
theorem wd1302 : Cond.code yX9_green cX9_green 2 (some .boolean) ∈ wsL_law := List.mem_filter.mpr ⟨List.mem_append_right _ (List.mem_append_right _ (List.mem_append_right _ (List.mem_append_right _ (List.mem_append_right _ (List.mem_append_left _ (List.mem_of_getElem? (i := 23) rfl)))))), by decide +kernel⟩
set_option maxRecDepth 20000 in
theorem wd1306 : Cond.code yX4_allowsGreen cX4_allowsGreen 2 (some .boolean) ∈ wsL_law := List.mem_filter.mpr ⟨List.mem_append_right _ (List.mem_append_right _ (List.mem_append_right _ (List.mem_append_right _ (List.mem_append_right _ (List.mem_append_left _ (List.mem_of_getElem? (i := 27) rfl)))))), by decide +kernel⟩
set_option maxRecDepth 20000 in
theorem wd1310 : Cond.code yX10_green cX10_green 2 (some .boolean) ∈ wsL_law := List.mem_filter.mpr ⟨List.mem_append_right _ (List.mem_append_right _ (List.mem_append_right _ (List.mem_append_right _ (List.mem_append_right _ (List.mem_append_right _ (List.mem_append_right _ (List.mem_append_right _ (List.mem_append_left _ (List.mem_of_getElem? (i := 184) rfl))))))))), by decide +kernel⟩
set_option maxRecDepth 20000 in
theorem wd1314 : Cond.code yX9_trust cX9_trust 3 (some .boolean) ∈ wsL_law := List.mem_filter.mpr ⟨List.mem_append_right _ (List.mem_append_right _ (List.mem_append_right _ (List.mem_append_right _ (List.mem_append_right _ (List.mem_append_left _ (List.mem_of_getElem? (i := 31) rfl)))))), by decide +kernel⟩
set_option maxRecDepth 20000 in
theorem wd1318 : Cond.code yX10_trust cX10_trust 3 (some .boolean) ∈ wsL_law := List.mem_filter.mpr ⟨List.mem_append_right _ (List.mem_append_right _ (List.mem_append_right _ (List.mem_append_right _ (List.mem_append_right _ (List.mem_append_right _ (List.mem_append_right _ (List.mem_append_right _ (List.mem_append_left _ (List.mem_of_getElem? (i := 188) rfl))))))))), by decide +kernel⟩
set_option maxRecDepth 20000 in
theorem wd1322 : Cond.code yX9_days cX9_days 4 (some .int) ∈ wsL_law := List.mem_filter.mpr ⟨List.mem_append_right _ (List.mem_append_right _ (List.mem_append_right _ (List.mem_append_right _ (List.mem_append_right _ (List.mem_append_left _ (List.mem_of_getElem? (i := 35) rfl)))))), by decide +kernel⟩
set_option maxRecDepth 20000 in
theorem wd1326 : Cond.code yX9_canLive cX9_canLive 2 (some .boolean) ∈ wsL_law := List.mem_filter.mpr ⟨List.mem_append_right _ (List.mem_append_right _ (List.mem_append_right _ (List.mem_append_right _ (List.mem_append_right _ (List.mem_append_left _ (List.mem_of_getElem? (i := 39) rfl)))))), by decide +kernel⟩
set_option maxRecDepth 20000 in
theorem wd1331 : Cond.code yX10_days cX10_days 4 (some .int) ∈ wsL_law := List.mem_filter.mpr ⟨List.mem_append_right _ (List.mem_append_right _ (List.mem_append_right _ (List.mem_append_right _ (List.mem_append_right _ (List.mem_append_right _ (List.mem_append_right _ (List.mem_append_right _ (List.mem_append_left _ (List.mem_of_getElem? (i := 192) rfl))))))))), by decide +kernel⟩
set_option maxRecDepth 20000 in
theorem wd1335 : Cond.code yX9_chance cX9_chance 5 (some .int) ∈ wsL_law := List.mem_filter.mpr ⟨List.mem_append_right _ (List.mem_append_right _ (List.mem_append_right _ (List.mem_append_right _ (List.mem_append_right _ (List.mem_append_left _ (List.mem_of_getElem? (i := 44) rfl)))))), by decide +kernel⟩
set_option maxRecDepth 20000 in
theorem wd1350 : Cond.code yX10_chance cX10_chance 6 (some .int) ∈ wsL_law := List.mem_filter.mpr ⟨List.mem_append_right _ (List.mem_append_right _ (List.mem_append_right _ (List.mem_append_right _ (List.mem_append_right _ (List.mem_append_right _ (List.mem_append_right _ (List.mem_append_right _ (List.mem_append_left _ (List.mem_of_getElem? (i := 200) rfl))))))))), by decide +kernel⟩
set_option maxRecDepth 20000 in
theorem wd1362 : Cond.code yX9_undo cX9_undo 1 (some .boolean) ∈ wsL_law := List.mem_filter.mpr ⟨List.mem_append_right _ (List.mem_append_right _ (List.mem_append_right _ (List.mem_append_right _ (List.mem_append_right _ (List.mem_append_left _ (List.mem_of_getElem? (i := 58) rfl)))))), by decide +kernel⟩
set_option maxRecDepth 20000 in
theorem wd1366 : Cond.code yX2_giveBack cX2_giveBack 2 (some .boolean) ∈ wsL_law := List.mem_filter.mpr ⟨List.mem_append_right _ (List.mem_append_right _ (List.mem_append_right _ (List.mem_append_right _ (List.mem_append_right _ (List.mem_append_left _ (List.mem_of_getElem? (i := 62) rfl)))))), by decide +kernel⟩
set_option maxRecDepth 20000 in
theorem wd1370 : Cond.code yX10_undo cX10_undo 2 (some .boolean) ∈ wsL_law := List.mem_filter.mpr ⟨List.mem_append_right _ (List.mem_append_right _ (List.mem_append_right _ (List.mem_append_right _ (List.mem_append_right _ (List.mem_append_right _ (List.mem_append_right _ (List.mem_append_right _ (List.mem_append_left _ (List.mem_of_getElem? (i := 168) rfl))))))))), by decide +kernel⟩
set_option maxRecDepth 20000 in
theorem wd1374 : Cond.code yX9_seed cX9_seed 2 (some .boolean) ∈ wsL_law := List.mem_filter.mpr ⟨List.mem_append_right _ (List.mem_append_right _ (List.mem_append_right _ (List.mem_append_right _ (List.mem_append_right _ (List.mem_append_left _ (List.mem_of_getElem? (i := 66) rfl)))))), by decide +kernel⟩
set_option maxRecDepth 20000 in
theorem wd1378 : Cond.code yX10_seed cX10_seed 2 (some .boolean) ∈ wsL_law := List.mem_filter.mpr ⟨List.mem_append_right _ (List.mem_append_right _ (List.mem_append_right _ (List.mem_append_right _ (List.mem_append_right _ (List.mem_append_right _ (List.mem_append_right _ (List.mem_append_right _ (List.mem_append_left _ (List.mem_of_getElem? (i := 196) rfl))))))))), by decide +kernel⟩
set_option maxRecDepth 20000 in
theorem wd1382 : Cond.code yX9_ask cX9_ask 3 (some .long) ∈ wsL_law := List.mem_filter.mpr ⟨List.mem_append_right _ (List.mem_append_right _ (List.mem_append_right _ (List.mem_append_right _ (List.mem_append_right _ (List.mem_append_left _ (List.mem_of_getElem? (i := 70) rfl)))))), by decide +kernel⟩
set_option maxRecDepth 20000 in
theorem wd1403 : Cond.code yX10_ask cX10_ask 3 (some .long) ∈ wsL_law := List.mem_filter.mpr ⟨List.mem_append_right _ (List.mem_append_right _ (List.mem_append_right _ (List.mem_append_right _ (List.mem_append_right _ (List.mem_append_right _ (List.mem_append_right _ (List.mem_append_right _ (List.mem_append_left _ (List.mem_of_getElem? (i := 212) rfl))))))))), by decide +kernel⟩
set_option maxRecDepth 20000 in
theorem wd1427 : Cond.code yX9_image cX9_image 2 (some .int) ∈ wsL_law := List.mem_filter.mpr ⟨List.mem_append_right _ (List.mem_append_right _ (List.mem_append_right _ (List.mem_append_right _ (List.mem_append_right _ (List.mem_append_left _ (List.mem_of_getElem? (i := 90) rfl)))))), by decide +kernel⟩
set_option maxRecDepth 20000 in
theorem wd1430 : Cond.code yX9_check cX9_check 4 (some .int) ∈ wsL_law := List.mem_filter.mpr ⟨List.mem_append_right _ (List.mem_append_right _ (List.mem_append_right _ (List.mem_append_right _ (List.mem_append_right _ (List.mem_append_left _ (List.mem_of_getElem? (i := 93) rfl)))))), by decide +kernel⟩
set_option maxRecDepth 20000 in
theorem wd1434 : Cond.code yX10_image cX10_image 2 (some .int) ∈ wsL_law := List.mem_filter.mpr ⟨List.mem_append_right _ (List.mem_append_right _ (List.mem_append_right _ (List.mem_append_right _ (List.mem_append_right _ (List.mem_append_right _ (List.mem_append_right _ (List.mem_append_right _ (List.mem_append_left _ (List.mem_of_getElem? (i := 234) rfl))))))))), by decide +kernel⟩
set_option maxRecDepth 20000 in
theorem wd1439 : Cond.code yX10_writes cX10_writes 2 none ∈ wsL_law := List.mem_filter.mpr ⟨List.mem_append_right _ (List.mem_append_right _ (List.mem_append_right _ (List.mem_append_right _ (List.mem_append_right _ (List.mem_append_right _ (List.mem_append_right _ (List.mem_append_right _ (List.mem_append_left _ (List.mem_of_getElem? (i := 238) rfl))))))))), by decide +kernel⟩
set_option maxRecDepth 20000 in
theorem wd1442 : Cond.code yX10_checked cX10_checked 4 (some .int) ∈ wsL_law := List.mem_filter.mpr ⟨List.mem_append_right _ (List.mem_append_right _ (List.mem_append_right _ (List.mem_append_right _ (List.mem_append_right _ (List.mem_append_right _ (List.mem_append_right _ (List.mem_append_right _ (List.mem_append_right _ (List.mem_of_getElem? (i := 1) rfl))))))))), by decide +kernel⟩
set_option maxRecDepth 20000 in
theorem wd1446 : Cond.code yX9_octet cX9_octet 2 (some .int) ∈ wsL_law := List.mem_filter.mpr ⟨List.mem_append_right _ (List.mem_append_right _ (List.mem_append_right _ (List.mem_append_right _ (List.mem_append_right _ (List.mem_append_left _ (List.mem_of_getElem? (i := 97) rfl)))))), by decide +kernel⟩
set_option maxRecDepth 20000 in
theorem wd1450 : Cond.code yX10_octet cX10_octet 2 (some .int) ∈ wsL_law := List.mem_filter.mpr ⟨List.mem_append_right _ (List.mem_append_right _ (List.mem_append_right _ (List.mem_append_right _ (List.mem_append_right _ (List.mem_append_right _ (List.mem_append_right _ (List.mem_append_right _ (List.mem_append_right _ (List.mem_of_getElem? (i := 5) rfl))))))))), by decide +kernel⟩
set_option maxRecDepth 20000 in
theorem wd1454 : Cond.code yX9_on cX9_on 2 (some .boolean) ∈ wsL_law := List.mem_filter.mpr ⟨List.mem_append_right _ (List.mem_append_right _ (List.mem_append_right _ (List.mem_append_right _ (List.mem_append_right _ (List.mem_append_left _ (List.mem_of_getElem? (i := 101) rfl)))))), by decide +kernel⟩
set_option maxRecDepth 20000 in
theorem wd1459 : Cond.code yX9_isImage cX9_isImage 3 (some .boolean) ∈ wsL_law := List.mem_filter.mpr ⟨List.mem_append_right _ (List.mem_append_right _ (List.mem_append_right _ (List.mem_append_right _ (List.mem_append_right _ (List.mem_append_left _ (List.mem_of_getElem? (i := 105) rfl)))))), by decide +kernel⟩
set_option maxRecDepth 20000 in
theorem wd1463 : Cond.code yX10_on cX10_on 3 (some .boolean) ∈ wsL_law := List.mem_filter.mpr ⟨List.mem_append_right _ (List.mem_append_right _ (List.mem_append_right _ (List.mem_append_right _ (List.mem_append_right _ (List.mem_append_right _ (List.mem_append_right _ (List.mem_append_right _ (List.mem_append_right _ (List.mem_of_getElem? (i := 9) rfl))))))))), by decide +kernel⟩
set_option maxRecDepth 20000 in
theorem wd1467 : Cond.code yX10_isImage cX10_isImage 3 (some .boolean) ∈ wsL_law := List.mem_filter.mpr ⟨List.mem_append_right _ (List.mem_append_right _ (List.mem_append_right _ (List.mem_append_right _ (List.mem_append_right _ (List.mem_append_right _ (List.mem_append_right _ (List.mem_append_right _ (List.mem_append_right _ (List.mem_of_getElem? (i := 13) rfl))))))))), by decide +kernel⟩
set_option maxRecDepth 20000 in
theorem wd1471 : Cond.code yX9_status cX9_status 2 (some .int) ∈ wsL_law := List.mem_filter.mpr ⟨List.mem_append_right _ (List.mem_append_right _ (List.mem_append_right _ (List.mem_append_right _ (List.mem_append_right _ (List.mem_append_left _ (List.mem_of_getElem? (i := 110) rfl)))))), by decide +kernel⟩
set_option maxRecDepth 20000 in
theorem wd1475 : Cond.code yX10_status cX10_status 2 (some .int) ∈ wsL_law := List.mem_filter.mpr ⟨List.mem_append_right _ (List.mem_append_right _ (List.mem_append_right _ (List.mem_append_right _ (List.mem_append_right _ (List.mem_append_right _ (List.mem_append_right _ (List.mem_append_right _ (List.mem_append_right _ (List.mem_of_getElem? (i := 17) rfl))))))))), by decide +kernel⟩
end
section
theorem cl_X0 : k_cl 0 RX0 TX0 5 tyX0 := ⟨rfl, inlX0, tyX0_ok, nmX0⟩
theorem cl_X1 : k_cl 1 RX1 TX1 3 tyX1 := ⟨rfl, inlX1, tyX1_ok, nmX1⟩
theorem cl_X2 : k_cl 2 RX2 TX2 3 tyX2 := ⟨rfl, inlX2, tyX2_ok, nmX2⟩
theorem cl_X3 : k_cl 3 RX3 TX3 2 tyX3 := ⟨rfl, inlX3, tyX3_ok, nmX3⟩
theorem cl_X4 : k_cl 4 RX4 TX4 18 tyX4 := ⟨rfl, inlX4, tyX4_ok, nmX4⟩
theorem cl_X5 : k_cl 5 RX5 TX5 9 tyX5 := ⟨rfl, inlX5, tyX5_ok, nmX5⟩
theorem cl_X6 : k_cl 6 RX6 TX6 4 tyX6 := ⟨rfl, inlX6, tyX6_ok, nmX6⟩
theorem cl_X7 : k_cl 7 RX7 TX7 17 tyX7 := ⟨rfl, inlX7, tyX7_ok, nmX7⟩
theorem cl_X8 : k_cl 8 RX8 TX8 11 tyX8 := ⟨rfl, inlX8, tyX8_ok, nmX8⟩
theorem cl_X9 : k_cl 9 RX9 TX9 16 tyX9 := ⟨rfl, inlX9, tyX9_ok, nmX9⟩
theorem cl_X10 : k_cl 10 RX10 TX10 122 tyX10 := ⟨rfl, inlX10, tyX10_ok, nmX10⟩
theorem fp_X9_9 : k_fl RX9 9 9 0 true (.array .int) := ⟨RX9, TX9, 16, tyX9, cl_X9, by decide, wd13, rfl, tyX9_ok 0 (by decide), fun h => rfl⟩
theorem fp_X9_13 : k_fl RX9 13 9 1 false .int := ⟨RX9, TX9, 16, tyX9, cl_X9, by decide, wd14, rfl, tyX9_ok 1 (by decide), fun h => by cases h⟩
theorem z_X4 : ∀ j, j < 18 → defaultValue (tyX4 j) = vp_V [.int 0, .int 0, .int 0, .int 0, .int 0, .int 0, .int 0, .null, .null, .null, .int 0, .null, .null, .null, .null, .null, .int 0, .null] j := by decide +kernel
theorem n_X9_17 : k_nw RX9 17 4 18 [.int 0, .int 0, .int 0, .int 0, .int 0, .int 0, .int 0, .null, .null, .null, .int 0, .null, .null, .null, .null, .null, .int 0, .null] := ⟨RX4, TX4, tyX4, cl_X4, wd15, wd16, wd17, z_X4⟩
theorem mN_X4_init : k_mn yX4_init cX4_init 1 0 := ⟨wd56, wd17, wd57, rfl, by decide +kernel⟩
theorem fp_X4_9 : k_fl RX4 9 4 7 true (.array .int) := ⟨RX4, TX4, 18, tyX4, cl_X4, by decide, wd59, rfl, tyX4_ok 7 (by decide), fun h => rfl⟩
theorem fp_X4_15 : k_fl RX4 15 4 8 true (.array .int) := ⟨RX4, TX4, 18, tyX4, cl_X4, by decide, wd60, rfl, tyX4_ok 8 (by decide), fun h => rfl⟩
theorem fp_X4_18 : k_fl RX4 18 4 9 true (.array .int) := ⟨RX4, TX4, 18, tyX4, cl_X4, by decide, wd61, rfl, tyX4_ok 9 (by decide), fun h => rfl⟩
theorem fp_X4_21 : k_fl RX4 21 4 11 true (.array .int) := ⟨RX4, TX4, 18, tyX4, cl_X4, by decide, wd62, rfl, tyX4_ok 11 (by decide), fun h => rfl⟩
theorem fp_X4_24 : k_fl RX4 24 4 12 true (.array .int) := ⟨RX4, TX4, 18, tyX4, cl_X4, by decide, wd63, rfl, tyX4_ok 12 (by decide), fun h => rfl⟩
theorem fp_X4_27 : k_fl RX4 27 4 13 true (.array .int) := ⟨RX4, TX4, 18, tyX4, cl_X4, by decide, wd64, rfl, tyX4_ok 13 (by decide), fun h => rfl⟩
theorem fp_X4_30 : k_fl RX4 30 4 14 true (.array .int) := ⟨RX4, TX4, 18, tyX4, cl_X4, by decide, wd65, rfl, tyX4_ok 14 (by decide), fun h => rfl⟩
theorem fp_X4_33 : k_fl RX4 33 4 15 true (.array .int) := ⟨RX4, TX4, 18, tyX4, cl_X4, by decide, wd66, rfl, tyX4_ok 15 (by decide), fun h => rfl⟩
theorem fp_X4_36 : k_fl RX4 36 4 17 true (.array .int) := ⟨RX4, TX4, 18, tyX4, cl_X4, by decide, wd67, rfl, tyX4_ok 17 (by decide), fun h => rfl⟩
theorem fp_X9_20 : k_fl RX9 20 9 2 false (.object "PressAndWait$Plan") := ⟨RX9, TX9, 16, tyX9, cl_X9, by decide, wd18, rfl, tyX9_ok 2 (by decide), fun h => by cases h⟩
theorem fp_X9_24 : k_fl RX9 24 9 3 false (.object "PressAndWait$Plan") := ⟨RX9, TX9, 16, tyX9, cl_X9, by decide, wd19, rfl, tyX9_ok 3 (by decide), fun h => by cases h⟩
theorem z_X6 : ∀ j, j < 4 → defaultValue (tyX6 j) = vp_V [.int 0, .int 0, .int 0, .null] j := by decide +kernel
theorem n_X9_27 : k_nw RX9 27 6 4 [.int 0, .int 0, .int 0, .null] := ⟨RX6, TX6, tyX6, cl_X6, wd20, wd21, wd22, z_X6⟩
theorem mN_X6_init : k_mn yX6_init cX6_init 1 0 := ⟨wd68, wd22, wd69, rfl, by decide +kernel⟩
theorem fp_X6_9 : k_fl RX6 9 6 0 false .int := ⟨RX6, TX6, 4, tyX6, cl_X6, by decide, wd71, rfl, tyX6_ok 0 (by decide), fun h => by cases h⟩
theorem fp_X6_15 : k_fl RX6 15 6 1 false .int := ⟨RX6, TX6, 4, tyX6, cl_X6, by decide, wd72, rfl, tyX6_ok 1 (by decide), fun h => by cases h⟩
theorem fp_X6_18 : k_fl RX6 18 6 2 false .int := ⟨RX6, TX6, 4, tyX6, cl_X6, by decide, wd73, rfl, tyX6_ok 2 (by decide), fun h => by cases h⟩
theorem fp_X6_21 : k_fl RX6 21 6 3 true (.array .int) := ⟨RX6, TX6, 4, tyX6, cl_X6, by decide, wd74, rfl, tyX6_ok 3 (by decide), fun h => rfl⟩
theorem fp_X9_30 : k_fl RX9 30 9 4 true (.object "PressAndWait$State") := ⟨RX9, TX9, 16, tyX9, cl_X9, by decide, wd23, rfl, tyX9_ok 4 (by decide), fun h => rfl⟩
theorem z_X2 : ∀ j, j < 3 → defaultValue (tyX2 j) = vp_V [.null, .int 0, .int 0] j := by decide +kernel
theorem n_X9_34 : k_nw RX9 34 2 3 [.null, .int 0, .int 0] := ⟨RX2, TX2, tyX2, cl_X2, wd24, wd25, wd26, z_X2⟩
theorem mI_X9_36 : k_mi RX9 36 yX2_init cX2_init 2 0 := ⟨wd75, wd76, wd26, wd77, rfl, by decide +kernel⟩
theorem fp_X2_11 : k_fl RX2 11 2 0 true (.array (.object "PressAndWait$State")) := ⟨RX2, TX2, 3, tyX2, cl_X2, by decide, wd80, rfl, tyX2_ok 0 (by decide), fun h => rfl⟩
theorem fp_X2_17 : k_fl RX2 17 2 1 false .int := ⟨RX2, TX2, 3, tyX2, cl_X2, by decide, wd81, rfl, tyX2_ok 1 (by decide), fun h => by cases h⟩
theorem fp_X2_21 : k_fl RX2 21 2 2 false .int := ⟨RX2, TX2, 3, tyX2, cl_X2, by decide, wd82, rfl, tyX2_ok 2 (by decide), fun h => by cases h⟩
theorem fg_X2_11 : k_fg RX2 11 2 0 := ⟨RX2, TX2, 3, tyX2, cl_X2, by decide, wd80⟩
theorem n_X2_9 : k_nw RX2 9 6 4 [.int 0, .int 0, .int 0, .null] := ⟨RX6, TX6, tyX6, cl_X6, wd79, wd21, wd22, z_X6⟩
theorem fp_X9_37 : k_fl RX9 37 9 5 true (.object "PressAndWait$History") := ⟨RX9, TX9, 16, tyX9, cl_X9, by decide, wd27, rfl, tyX9_ok 5 (by decide), fun h => rfl⟩
theorem z_X3 : ∀ j, j < 2 → defaultValue (tyX3 j) = vp_V [.null, .null] j := by decide +kernel
theorem n_X9_41 : k_nw RX9 41 3 2 [.null, .null] := ⟨RX3, TX3, tyX3, cl_X3, wd28, wd29, wd30, z_X3⟩
theorem mN_X3_init : k_mn yX3_init cX3_init 1 0 := ⟨wd83, wd30, wd84, rfl, by decide +kernel⟩
theorem fp_X3_9 : k_fl RX3 9 3 0 true (.array .int) := ⟨RX3, TX3, 2, tyX3, cl_X3, by decide, wd86, rfl, tyX3_ok 0 (by decide), fun h => rfl⟩
theorem fp_X3_15 : k_fl RX3 15 3 1 true (.array .int) := ⟨RX3, TX3, 2, tyX3, cl_X3, by decide, wd87, rfl, tyX3_ok 1 (by decide), fun h => rfl⟩
theorem fp_X9_44 : k_fl RX9 44 9 6 true (.object "PressAndWait$Machine") := ⟨RX9, TX9, 16, tyX9, cl_X9, by decide, wd31, rfl, tyX9_ok 6 (by decide), fun h => rfl⟩
theorem z_X5 : ∀ j, j < 9 → defaultValue (tyX5 j) = vp_V [.null, .int 0, .int 0, .int 0, .int 0, .int 0, .null, .int 0, .int 0] j := by decide +kernel
theorem n_X9_48 : k_nw RX9 48 5 9 [.null, .int 0, .int 0, .int 0, .int 0, .int 0, .null, .int 0, .int 0] := ⟨RX5, TX5, tyX5, cl_X5, wd32, wd33, wd34, z_X5⟩
theorem fg_X9_9 : k_fg RX9 9 9 0 := ⟨RX9, TX9, 16, tyX9, cl_X9, by decide, wd13⟩
theorem fg_X9_24 : k_fg RX9 24 9 3 := ⟨RX9, TX9, 16, tyX9, cl_X9, by decide, wd19⟩
theorem mI_X9_50 : k_mi RX9 50 yX5_init cX5_init 3 2 := ⟨wd88, wd89, wd34, wd90, rfl, by decide +kernel⟩
theorem fp_X5_11 : k_fl RX5 11 5 1 false .int := ⟨RX5, TX5, 9, tyX5, cl_X5, by decide, wd92, rfl, tyX5_ok 1 (by decide), fun h => by cases h⟩
theorem fp_X5_15 : k_fl RX5 15 5 2 false .int := ⟨RX5, TX5, 9, tyX5, cl_X5, by decide, wd93, rfl, tyX5_ok 2 (by decide), fun h => by cases h⟩
theorem fp_X5_18 : k_fl RX5 18 5 3 false .int := ⟨RX5, TX5, 9, tyX5, cl_X5, by decide, wd94, rfl, tyX5_ok 3 (by decide), fun h => by cases h⟩
theorem fp_X5_21 : k_fl RX5 21 5 4 false .int := ⟨RX5, TX5, 9, tyX5, cl_X5, by decide, wd95, rfl, tyX5_ok 4 (by decide), fun h => by cases h⟩
theorem fp_X5_24 : k_fl RX5 24 5 5 false .int := ⟨RX5, TX5, 9, tyX5, cl_X5, by decide, wd96, rfl, tyX5_ok 5 (by decide), fun h => by cases h⟩
theorem fp_X5_27 : k_fl RX5 27 5 7 false .int := ⟨RX5, TX5, 9, tyX5, cl_X5, by decide, wd97, rfl, tyX5_ok 7 (by decide), fun h => by cases h⟩
theorem fp_X5_30 : k_fl RX5 30 5 8 false .int := ⟨RX5, TX5, 9, tyX5, cl_X5, by decide, wd98, rfl, tyX5_ok 8 (by decide), fun h => by cases h⟩
theorem fp_X5_33 : k_fl RX5 33 5 0 true (.array .int) := ⟨RX5, TX5, 9, tyX5, cl_X5, by decide, wd99, rfl, tyX5_ok 0 (by decide), fun h => rfl⟩
theorem fp_X5_37 : k_fl RX5 37 5 6 false (.object "PressAndWait$Plan") := ⟨RX5, TX5, 9, tyX5, cl_X5, by decide, wd100, rfl, tyX5_ok 6 (by decide), fun h => by cases h⟩
theorem fp_X9_53 : k_fl RX9 53 9 7 true (.object "PressAndWait$Reader") := ⟨RX9, TX9, 16, tyX9, cl_X9, by decide, wd35, rfl, tyX9_ok 7 (by decide), fun h => rfl⟩
theorem z_X7 : ∀ j, j < 17 → defaultValue (tyX7 j) = vp_V [.null, .null, .int 0, .null, .int 0, .int 0, .int 0, .int 0, .null, .null, .null, .null, .null, .int 0, .int 0, .int 0, .int 0] j := by decide +kernel
theorem n_X9_57 : k_nw RX9 57 7 17 [.null, .null, .int 0, .null, .int 0, .int 0, .int 0, .int 0, .null, .null, .null, .null, .null, .int 0, .int 0, .int 0, .int 0] := ⟨RX7, TX7, tyX7, cl_X7, wd36, wd37, wd38, z_X7⟩
theorem fg_X9_44 : k_fg RX9 44 9 6 := ⟨RX9, TX9, 16, tyX9, cl_X9, by decide, wd31⟩
theorem fg_X9_20 : k_fg RX9 20 9 2 := ⟨RX9, TX9, 16, tyX9, cl_X9, by decide, wd18⟩
theorem mI_X9_59 : k_mi RX9 59 yX7_init cX7_init 3 2 := ⟨wd101, wd102, wd38, wd103, rfl, by decide +kernel⟩
theorem fp_X7_9 : k_fl RX7 9 7 2 false .int := ⟨RX7, TX7, 17, tyX7, cl_X7, by decide, wd105, rfl, tyX7_ok 2 (by decide), fun h => by cases h⟩
theorem fp_X7_15 : k_fl RX7 15 7 3 true (.array .int) := ⟨RX7, TX7, 17, tyX7, cl_X7, by decide, wd106, rfl, tyX7_ok 3 (by decide), fun h => rfl⟩
theorem fp_X7_19 : k_fl RX7 19 7 4 false .int := ⟨RX7, TX7, 17, tyX7, cl_X7, by decide, wd107, rfl, tyX7_ok 4 (by decide), fun h => by cases h⟩
theorem fp_X7_22 : k_fl RX7 22 7 5 false .int := ⟨RX7, TX7, 17, tyX7, cl_X7, by decide, wd108, rfl, tyX7_ok 5 (by decide), fun h => by cases h⟩
theorem fp_X7_25 : k_fl RX7 25 7 6 false .int := ⟨RX7, TX7, 17, tyX7, cl_X7, by decide, wd109, rfl, tyX7_ok 6 (by decide), fun h => by cases h⟩
theorem fp_X7_28 : k_fl RX7 28 7 7 false .boolean := ⟨RX7, TX7, 17, tyX7, cl_X7, by decide, wd110, rfl, tyX7_ok 7 (by decide), fun h => by cases h⟩
theorem fp_X7_32 : k_fl RX7 32 7 8 true (.array .int) := ⟨RX7, TX7, 17, tyX7, cl_X7, by decide, wd111, rfl, tyX7_ok 8 (by decide), fun h => rfl⟩
theorem fp_X7_35 : k_fl RX7 35 7 9 true (.array .int) := ⟨RX7, TX7, 17, tyX7, cl_X7, by decide, wd112, rfl, tyX7_ok 9 (by decide), fun h => rfl⟩
theorem fp_X7_38 : k_fl RX7 38 7 10 true (.array .int) := ⟨RX7, TX7, 17, tyX7, cl_X7, by decide, wd113, rfl, tyX7_ok 10 (by decide), fun h => rfl⟩
theorem fp_X7_41 : k_fl RX7 41 7 11 true (.array .int) := ⟨RX7, TX7, 17, tyX7, cl_X7, by decide, wd114, rfl, tyX7_ok 11 (by decide), fun h => rfl⟩
theorem fp_X7_44 : k_fl RX7 44 7 12 true (.array .int) := ⟨RX7, TX7, 17, tyX7, cl_X7, by decide, wd115, rfl, tyX7_ok 12 (by decide), fun h => rfl⟩
theorem fp_X7_47 : k_fl RX7 47 7 13 false .int := ⟨RX7, TX7, 17, tyX7, cl_X7, by decide, wd116, rfl, tyX7_ok 13 (by decide), fun h => by cases h⟩
theorem fp_X7_50 : k_fl RX7 50 7 14 false .int := ⟨RX7, TX7, 17, tyX7, cl_X7, by decide, wd117, rfl, tyX7_ok 14 (by decide), fun h => by cases h⟩
theorem fp_X7_53 : k_fl RX7 53 7 15 false .int := ⟨RX7, TX7, 17, tyX7, cl_X7, by decide, wd118, rfl, tyX7_ok 15 (by decide), fun h => by cases h⟩
theorem fp_X7_56 : k_fl RX7 56 7 16 false .int := ⟨RX7, TX7, 17, tyX7, cl_X7, by decide, wd119, rfl, tyX7_ok 16 (by decide), fun h => by cases h⟩
theorem fp_X7_59 : k_fl RX7 59 7 0 true (.object "PressAndWait$Machine") := ⟨RX7, TX7, 17, tyX7, cl_X7, by decide, wd120, rfl, tyX7_ok 0 (by decide), fun h => rfl⟩
theorem fp_X7_63 : k_fl RX7 63 7 1 false (.object "PressAndWait$Plan") := ⟨RX7, TX7, 17, tyX7, cl_X7, by decide, wd121, rfl, tyX7_ok 1 (by decide), fun h => by cases h⟩
theorem fp_X9_62 : k_fl RX9 62 9 8 true (.object "PressAndWait$Street") := ⟨RX9, TX9, 16, tyX9, cl_X9, by decide, wd39, rfl, tyX9_ok 8 (by decide), fun h => rfl⟩
theorem z_X1 : ∀ j, j < 3 → defaultValue (tyX1 j) = vp_V [.null, .null, .int 0] j := by decide +kernel
theorem n_X9_66 : k_nw RX9 66 1 3 [.null, .null, .int 0] := ⟨RX1, TX1, tyX1, cl_X1, wd40, wd41, wd42, z_X1⟩
theorem fg_X9_62 : k_fg RX9 62 9 8 := ⟨RX9, TX9, 16, tyX9, cl_X9, by decide, wd39⟩
theorem mI_X9_68 : k_mi RX9 68 yX1_init cX1_init 2 1 := ⟨wd122, wd123, wd42, wd124, rfl, by decide +kernel⟩
theorem fp_X1_11 : k_fl RX1 11 1 1 true (.array .int) := ⟨RX1, TX1, 3, tyX1, cl_X1, by decide, wd126, rfl, tyX1_ok 1 (by decide), fun h => rfl⟩
theorem fp_X1_15 : k_fl RX1 15 1 2 false .boolean := ⟨RX1, TX1, 3, tyX1, cl_X1, by decide, wd127, rfl, tyX1_ok 2 (by decide), fun h => by cases h⟩
theorem fp_X1_19 : k_fl RX1 19 1 0 true (.object "PressAndWait$Street") := ⟨RX1, TX1, 3, tyX1, cl_X1, by decide, wd128, rfl, tyX1_ok 0 (by decide), fun h => rfl⟩
theorem fp_X9_71 : k_fl RX9 71 9 9 true (.object "PressAndWait$Choice") := ⟨RX9, TX9, 16, tyX9, cl_X9, by decide, wd43, rfl, tyX9_ok 9 (by decide), fun h => rfl⟩
theorem z_X0 : ∀ j, j < 5 → defaultValue (tyX0 j) = vp_V [.null, .null, .null, .null, .int 0] j := by decide +kernel
theorem n_X9_75 : k_nw RX9 75 0 5 [.null, .null, .null, .null, .int 0] := ⟨RX0, TX0, tyX0, cl_X0, wd44, wd45, wd46, z_X0⟩
theorem mI_X9_77 : k_mi RX9 77 yX0_init cX0_init 2 1 := ⟨wd129, wd130, wd46, wd131, rfl, by decide +kernel⟩
theorem n_X0_9 : k_nw RX0 9 6 4 [.int 0, .int 0, .int 0, .null] := ⟨RX6, TX6, tyX6, cl_X6, wd133, wd21, wd22, z_X6⟩
theorem fp_X0_12 : k_fl RX0 12 0 1 true (.object "PressAndWait$State") := ⟨RX0, TX0, 5, tyX0, cl_X0, by decide, wd134, rfl, tyX0_ok 1 (by decide), fun h => rfl⟩
theorem fp_X0_18 : k_fl RX0 18 0 2 true (.array .int) := ⟨RX0, TX0, 5, tyX0, cl_X0, by decide, wd135, rfl, tyX0_ok 2 (by decide), fun h => rfl⟩
theorem fp_X0_22 : k_fl RX0 22 0 3 true (.array .int) := ⟨RX0, TX0, 5, tyX0, cl_X0, by decide, wd136, rfl, tyX0_ok 3 (by decide), fun h => rfl⟩
theorem fp_X0_25 : k_fl RX0 25 0 4 false .int := ⟨RX0, TX0, 5, tyX0, cl_X0, by decide, wd137, rfl, tyX0_ok 4 (by decide), fun h => by cases h⟩
theorem fp_X0_29 : k_fl RX0 29 0 0 true (.object "PressAndWait$Street") := ⟨RX0, TX0, 5, tyX0, cl_X0, by decide, wd138, rfl, tyX0_ok 0 (by decide), fun h => rfl⟩
theorem fp_X9_78 : k_fl RX9 78 9 10 true (.object "PressAndWait$Ahead") := ⟨RX9, TX9, 16, tyX9, cl_X9, by decide, wd47, rfl, tyX9_ok 10 (by decide), fun h => rfl⟩
theorem z_X8 : ∀ j, j < 11 → defaultValue (tyX8 j) = vp_V [.null, .null, .null, .int 0, .int 0, .null, .int 0, .int 0, .int 0, .int 0, .int 0] j := by decide +kernel
theorem n_X9_82 : k_nw RX9 82 8 11 [.null, .null, .null, .int 0, .int 0, .null, .int 0, .int 0, .int 0, .int 0, .int 0] := ⟨RX8, TX8, tyX8, cl_X8, wd48, wd49, wd50, z_X8⟩
theorem mI_X9_84 : k_mi RX9 84 yX8_init cX8_init 2 1 := ⟨wd139, wd140, wd50, wd141, rfl, by decide +kernel⟩
theorem fp_X8_9 : k_fl RX8 9 8 1 true (.array .int) := ⟨RX8, TX8, 11, tyX8, cl_X8, by decide, wd143, rfl, tyX8_ok 1 (by decide), fun h => rfl⟩
theorem fp_X8_15 : k_fl RX8 15 8 2 true (.array .int) := ⟨RX8, TX8, 11, tyX8, cl_X8, by decide, wd144, rfl, tyX8_ok 2 (by decide), fun h => rfl⟩
theorem fp_X8_18 : k_fl RX8 18 8 3 false .int := ⟨RX8, TX8, 11, tyX8, cl_X8, by decide, wd145, rfl, tyX8_ok 3 (by decide), fun h => by cases h⟩
theorem fp_X8_22 : k_fl RX8 22 8 4 false .boolean := ⟨RX8, TX8, 11, tyX8, cl_X8, by decide, wd146, rfl, tyX8_ok 4 (by decide), fun h => by cases h⟩
theorem fp_X8_26 : k_fl RX8 26 8 5 true (.array .int) := ⟨RX8, TX8, 11, tyX8, cl_X8, by decide, wd147, rfl, tyX8_ok 5 (by decide), fun h => rfl⟩
theorem fp_X8_29 : k_fl RX8 29 8 6 false .int := ⟨RX8, TX8, 11, tyX8, cl_X8, by decide, wd148, rfl, tyX8_ok 6 (by decide), fun h => by cases h⟩
theorem fp_X8_32 : k_fl RX8 32 8 7 false .int := ⟨RX8, TX8, 11, tyX8, cl_X8, by decide, wd149, rfl, tyX8_ok 7 (by decide), fun h => by cases h⟩
theorem fp_X8_35 : k_fl RX8 35 8 8 false .int := ⟨RX8, TX8, 11, tyX8, cl_X8, by decide, wd150, rfl, tyX8_ok 8 (by decide), fun h => by cases h⟩
theorem fp_X8_38 : k_fl RX8 38 8 9 false .int := ⟨RX8, TX8, 11, tyX8, cl_X8, by decide, wd151, rfl, tyX8_ok 9 (by decide), fun h => by cases h⟩
theorem fp_X8_41 : k_fl RX8 41 8 10 false .int := ⟨RX8, TX8, 11, tyX8, cl_X8, by decide, wd152, rfl, tyX8_ok 10 (by decide), fun h => by cases h⟩
theorem fp_X8_44 : k_fl RX8 44 8 0 true (.object "PressAndWait$Street") := ⟨RX8, TX8, 11, tyX8, cl_X8, by decide, wd153, rfl, tyX8_ok 0 (by decide), fun h => rfl⟩
theorem fp_X9_85 : k_fl RX9 85 9 11 true (.object "PressAndWait$Watch") := ⟨RX9, TX9, 16, tyX9, cl_X9, by decide, wd51, rfl, tyX9_ok 11 (by decide), fun h => rfl⟩
theorem fp_X9_89 : k_fl RX9 89 9 12 true (.array .int) := ⟨RX9, TX9, 16, tyX9, cl_X9, by decide, wd52, rfl, tyX9_ok 12 (by decide), fun h => rfl⟩
theorem fp_X9_92 : k_fl RX9 92 9 13 false .int := ⟨RX9, TX9, 16, tyX9, cl_X9, by decide, wd53, rfl, tyX9_ok 13 (by decide), fun h => by cases h⟩
theorem fp_X9_95 : k_fl RX9 95 9 14 true (.array .int) := ⟨RX9, TX9, 16, tyX9, cl_X9, by decide, wd54, rfl, tyX9_ok 14 (by decide), fun h => rfl⟩
theorem fp_X9_98 : k_fl RX9 98 9 15 false .long := ⟨RX9, TX9, 16, tyX9, cl_X9, by decide, wd55, rfl, tyX9_ok 15 (by decide), fun h => by cases h⟩
theorem fp_X10_7 : k_fl RX10 7 10 0 true (.array .int) := ⟨RX10, TX10, 122, tyX10, cl_X10, by decide, wd158, rfl, tyX10_ok 0 (by decide), fun h => rfl⟩
theorem fp_X10_13 : k_fl RX10 13 10 8 false .int := ⟨RX10, TX10, 122, tyX10, cl_X10, by decide, wd159, rfl, tyX10_ok 8 (by decide), fun h => by cases h⟩
theorem fp_X10_17 : k_fl RX10 17 10 9 true (.array .int) := ⟨RX10, TX10, 122, tyX10, cl_X10, by decide, wd160, rfl, tyX10_ok 9 (by decide), fun h => rfl⟩
theorem fp_X10_20 : k_fl RX10 20 10 10 true (.array .char) := ⟨RX10, TX10, 122, tyX10, cl_X10, by decide, wd162, rfl, tyX10_ok 10 (by decide), fun h => rfl⟩
theorem fp_X10_24 : k_fl RX10 24 10 11 true (.array .char) := ⟨RX10, TX10, 122, tyX10, cl_X10, by decide, wd163, rfl, tyX10_ok 11 (by decide), fun h => rfl⟩
theorem fp_X10_27 : k_fl RX10 27 10 12 true (.array .char) := ⟨RX10, TX10, 122, tyX10, cl_X10, by decide, wd164, rfl, tyX10_ok 12 (by decide), fun h => rfl⟩
theorem fp_X10_30 : k_fl RX10 30 10 13 true (.array .char) := ⟨RX10, TX10, 122, tyX10, cl_X10, by decide, wd165, rfl, tyX10_ok 13 (by decide), fun h => rfl⟩
theorem fp_X10_33 : k_fl RX10 33 10 14 true (.array .char) := ⟨RX10, TX10, 122, tyX10, cl_X10, by decide, wd166, rfl, tyX10_ok 14 (by decide), fun h => rfl⟩
theorem fp_X10_36 : k_fl RX10 36 10 15 true (.array .char) := ⟨RX10, TX10, 122, tyX10, cl_X10, by decide, wd167, rfl, tyX10_ok 15 (by decide), fun h => rfl⟩
theorem fp_X10_39 : k_fl RX10 39 10 16 true (.array .char) := ⟨RX10, TX10, 122, tyX10, cl_X10, by decide, wd168, rfl, tyX10_ok 16 (by decide), fun h => rfl⟩
theorem fp_X10_42 : k_fl RX10 42 10 17 true (.array .char) := ⟨RX10, TX10, 122, tyX10, cl_X10, by decide, wd169, rfl, tyX10_ok 17 (by decide), fun h => rfl⟩
theorem fp_X10_45 : k_fl RX10 45 10 18 true (.array .char) := ⟨RX10, TX10, 122, tyX10, cl_X10, by decide, wd170, rfl, tyX10_ok 18 (by decide), fun h => rfl⟩
theorem fp_X10_48 : k_fl RX10 48 10 19 true (.array .char) := ⟨RX10, TX10, 122, tyX10, cl_X10, by decide, wd171, rfl, tyX10_ok 19 (by decide), fun h => rfl⟩
theorem fp_X10_51 : k_fl RX10 51 10 20 true (.array .char) := ⟨RX10, TX10, 122, tyX10, cl_X10, by decide, wd172, rfl, tyX10_ok 20 (by decide), fun h => rfl⟩
theorem fp_X10_54 : k_fl RX10 54 10 21 true (.array .char) := ⟨RX10, TX10, 122, tyX10, cl_X10, by decide, wd173, rfl, tyX10_ok 21 (by decide), fun h => rfl⟩
theorem fp_X10_57 : k_fl RX10 57 10 22 true (.array .char) := ⟨RX10, TX10, 122, tyX10, cl_X10, by decide, wd174, rfl, tyX10_ok 22 (by decide), fun h => rfl⟩
theorem fp_X10_60 : k_fl RX10 60 10 23 true (.array .char) := ⟨RX10, TX10, 122, tyX10, cl_X10, by decide, wd175, rfl, tyX10_ok 23 (by decide), fun h => rfl⟩
theorem fp_X10_63 : k_fl RX10 63 10 24 true (.array .char) := ⟨RX10, TX10, 122, tyX10, cl_X10, by decide, wd176, rfl, tyX10_ok 24 (by decide), fun h => rfl⟩
theorem fp_X10_66 : k_fl RX10 66 10 25 true (.array .char) := ⟨RX10, TX10, 122, tyX10, cl_X10, by decide, wd177, rfl, tyX10_ok 25 (by decide), fun h => rfl⟩
theorem fp_X10_69 : k_fl RX10 69 10 26 true (.array .char) := ⟨RX10, TX10, 122, tyX10, cl_X10, by decide, wd178, rfl, tyX10_ok 26 (by decide), fun h => rfl⟩
theorem fp_X10_72 : k_fl RX10 72 10 27 true (.array .char) := ⟨RX10, TX10, 122, tyX10, cl_X10, by decide, wd179, rfl, tyX10_ok 27 (by decide), fun h => rfl⟩
theorem fp_X10_75 : k_fl RX10 75 10 28 true (.array .char) := ⟨RX10, TX10, 122, tyX10, cl_X10, by decide, wd180, rfl, tyX10_ok 28 (by decide), fun h => rfl⟩
theorem fp_X10_78 : k_fl RX10 78 10 29 true (.array .char) := ⟨RX10, TX10, 122, tyX10, cl_X10, by decide, wd181, rfl, tyX10_ok 29 (by decide), fun h => rfl⟩
theorem fp_X10_81 : k_fl RX10 81 10 30 true (.array .char) := ⟨RX10, TX10, 122, tyX10, cl_X10, by decide, wd182, rfl, tyX10_ok 30 (by decide), fun h => rfl⟩
theorem fp_X10_84 : k_fl RX10 84 10 31 true (.array .char) := ⟨RX10, TX10, 122, tyX10, cl_X10, by decide, wd183, rfl, tyX10_ok 31 (by decide), fun h => rfl⟩
theorem fp_X10_87 : k_fl RX10 87 10 32 true (.array .char) := ⟨RX10, TX10, 122, tyX10, cl_X10, by decide, wd184, rfl, tyX10_ok 32 (by decide), fun h => rfl⟩
theorem fp_X10_90 : k_fl RX10 90 10 33 true (.array .char) := ⟨RX10, TX10, 122, tyX10, cl_X10, by decide, wd185, rfl, tyX10_ok 33 (by decide), fun h => rfl⟩
theorem fp_X10_93 : k_fl RX10 93 10 34 true (.array .char) := ⟨RX10, TX10, 122, tyX10, cl_X10, by decide, wd186, rfl, tyX10_ok 34 (by decide), fun h => rfl⟩
theorem fp_X10_96 : k_fl RX10 96 10 35 true (.array .char) := ⟨RX10, TX10, 122, tyX10, cl_X10, by decide, wd187, rfl, tyX10_ok 35 (by decide), fun h => rfl⟩
theorem fp_X10_99 : k_fl RX10 99 10 36 true (.array .char) := ⟨RX10, TX10, 122, tyX10, cl_X10, by decide, wd188, rfl, tyX10_ok 36 (by decide), fun h => rfl⟩
theorem fp_X10_102 : k_fl RX10 102 10 37 true (.array .char) := ⟨RX10, TX10, 122, tyX10, cl_X10, by decide, wd189, rfl, tyX10_ok 37 (by decide), fun h => rfl⟩
theorem fp_X10_105 : k_fl RX10 105 10 38 true (.array .char) := ⟨RX10, TX10, 122, tyX10, cl_X10, by decide, wd190, rfl, tyX10_ok 38 (by decide), fun h => rfl⟩
theorem fp_X10_108 : k_fl RX10 108 10 39 true (.array .char) := ⟨RX10, TX10, 122, tyX10, cl_X10, by decide, wd191, rfl, tyX10_ok 39 (by decide), fun h => rfl⟩
theorem fp_X10_111 : k_fl RX10 111 10 41 true (.array .int) := ⟨RX10, TX10, 122, tyX10, cl_X10, by decide, wd192, rfl, tyX10_ok 41 (by decide), fun h => rfl⟩
theorem fp_X10_114 : k_fl RX10 114 10 42 true (.array .long) := ⟨RX10, TX10, 122, tyX10, cl_X10, by decide, wd194, rfl, tyX10_ok 42 (by decide), fun h => rfl⟩
theorem fp_X10_118 : k_fl RX10 118 10 43 true (.array .int) := ⟨RX10, TX10, 122, tyX10, cl_X10, by decide, wd195, rfl, tyX10_ok 43 (by decide), fun h => rfl⟩
theorem fp_X10_121 : k_fl RX10 121 10 44 true (.array .int) := ⟨RX10, TX10, 122, tyX10, cl_X10, by decide, wd196, rfl, tyX10_ok 44 (by decide), fun h => rfl⟩
theorem fp_X10_124 : k_fl RX10 124 10 45 true (.array .int) := ⟨RX10, TX10, 122, tyX10, cl_X10, by decide, wd197, rfl, tyX10_ok 45 (by decide), fun h => rfl⟩
theorem fp_X10_127 : k_fl RX10 127 10 46 true (.array .int) := ⟨RX10, TX10, 122, tyX10, cl_X10, by decide, wd198, rfl, tyX10_ok 46 (by decide), fun h => rfl⟩
theorem fp_X10_130 : k_fl RX10 130 10 49 true (.array .int) := ⟨RX10, TX10, 122, tyX10, cl_X10, by decide, wd199, rfl, tyX10_ok 49 (by decide), fun h => rfl⟩
theorem fp_X10_133 : k_fl RX10 133 10 50 true (.array .int) := ⟨RX10, TX10, 122, tyX10, cl_X10, by decide, wd200, rfl, tyX10_ok 50 (by decide), fun h => rfl⟩
theorem fp_X10_136 : k_fl RX10 136 10 51 true (.array .int) := ⟨RX10, TX10, 122, tyX10, cl_X10, by decide, wd201, rfl, tyX10_ok 51 (by decide), fun h => rfl⟩
theorem fp_X10_139 : k_fl RX10 139 10 56 true (.array .int) := ⟨RX10, TX10, 122, tyX10, cl_X10, by decide, wd202, rfl, tyX10_ok 56 (by decide), fun h => rfl⟩
theorem fp_X10_142 : k_fl RX10 142 10 57 true (.array .int) := ⟨RX10, TX10, 122, tyX10, cl_X10, by decide, wd203, rfl, tyX10_ok 57 (by decide), fun h => rfl⟩
theorem fp_X10_145 : k_fl RX10 145 10 60 true (.array .boolean) := ⟨RX10, TX10, 122, tyX10, cl_X10, by decide, wd205, rfl, tyX10_ok 60 (by decide), fun h => rfl⟩
theorem fp_X10_149 : k_fl RX10 149 10 61 true (.array .int) := ⟨RX10, TX10, 122, tyX10, cl_X10, by decide, wd206, rfl, tyX10_ok 61 (by decide), fun h => rfl⟩
theorem fp_X10_152 : k_fl RX10 152 10 62 true (.array .boolean) := ⟨RX10, TX10, 122, tyX10, cl_X10, by decide, wd207, rfl, tyX10_ok 62 (by decide), fun h => rfl⟩
theorem fp_X10_155 : k_fl RX10 155 10 63 true (.array .boolean) := ⟨RX10, TX10, 122, tyX10, cl_X10, by decide, wd208, rfl, tyX10_ok 63 (by decide), fun h => rfl⟩
theorem fp_X10_158 : k_fl RX10 158 10 64 true (.array .int) := ⟨RX10, TX10, 122, tyX10, cl_X10, by decide, wd209, rfl, tyX10_ok 64 (by decide), fun h => rfl⟩
theorem fp_X10_161 : k_fl RX10 161 10 65 true (.array .int) := ⟨RX10, TX10, 122, tyX10, cl_X10, by decide, wd210, rfl, tyX10_ok 65 (by decide), fun h => rfl⟩
theorem fp_X10_164 : k_fl RX10 164 10 66 true (.array .boolean) := ⟨RX10, TX10, 122, tyX10, cl_X10, by decide, wd211, rfl, tyX10_ok 66 (by decide), fun h => rfl⟩
theorem fp_X10_167 : k_fl RX10 167 10 67 true (.array .boolean) := ⟨RX10, TX10, 122, tyX10, cl_X10, by decide, wd212, rfl, tyX10_ok 67 (by decide), fun h => rfl⟩
theorem fp_X10_170 : k_fl RX10 170 10 68 true (.array .boolean) := ⟨RX10, TX10, 122, tyX10, cl_X10, by decide, wd213, rfl, tyX10_ok 68 (by decide), fun h => rfl⟩
theorem fp_X10_173 : k_fl RX10 173 10 69 true (.array .boolean) := ⟨RX10, TX10, 122, tyX10, cl_X10, by decide, wd214, rfl, tyX10_ok 69 (by decide), fun h => rfl⟩
theorem fp_X10_176 : k_fl RX10 176 10 76 true (.array .int) := ⟨RX10, TX10, 122, tyX10, cl_X10, by decide, wd215, rfl, tyX10_ok 76 (by decide), fun h => rfl⟩
theorem fp_X10_179 : k_fl RX10 179 10 77 true (.array .int) := ⟨RX10, TX10, 122, tyX10, cl_X10, by decide, wd216, rfl, tyX10_ok 77 (by decide), fun h => rfl⟩
theorem fp_X10_182 : k_fl RX10 182 10 81 true (.array .int) := ⟨RX10, TX10, 122, tyX10, cl_X10, by decide, wd217, rfl, tyX10_ok 81 (by decide), fun h => rfl⟩
theorem fp_X10_185 : k_fl RX10 185 10 84 false .long := ⟨RX10, TX10, 122, tyX10, cl_X10, by decide, wd218, rfl, tyX10_ok 84 (by decide), fun h => by cases h⟩
theorem fp_X10_189 : k_fl RX10 189 10 85 true (.array .char) := ⟨RX10, TX10, 122, tyX10, cl_X10, by decide, wd219, rfl, tyX10_ok 85 (by decide), fun h => rfl⟩
theorem fp_X10_192 : k_fl RX10 192 10 86 true (.array .char) := ⟨RX10, TX10, 122, tyX10, cl_X10, by decide, wd220, rfl, tyX10_ok 86 (by decide), fun h => rfl⟩
theorem fp_X10_195 : k_fl RX10 195 10 87 true (.array .char) := ⟨RX10, TX10, 122, tyX10, cl_X10, by decide, wd221, rfl, tyX10_ok 87 (by decide), fun h => rfl⟩
theorem fp_X10_198 : k_fl RX10 198 10 88 true (.array .char) := ⟨RX10, TX10, 122, tyX10, cl_X10, by decide, wd222, rfl, tyX10_ok 88 (by decide), fun h => rfl⟩
theorem fp_X10_201 : k_fl RX10 201 10 89 true (.array .char) := ⟨RX10, TX10, 122, tyX10, cl_X10, by decide, wd223, rfl, tyX10_ok 89 (by decide), fun h => rfl⟩
theorem fp_X10_204 : k_fl RX10 204 10 90 true (.array .char) := ⟨RX10, TX10, 122, tyX10, cl_X10, by decide, wd224, rfl, tyX10_ok 90 (by decide), fun h => rfl⟩
theorem fp_X10_207 : k_fl RX10 207 10 91 true (.array .char) := ⟨RX10, TX10, 122, tyX10, cl_X10, by decide, wd225, rfl, tyX10_ok 91 (by decide), fun h => rfl⟩
theorem fp_X10_210 : k_fl RX10 210 10 92 true (.array .char) := ⟨RX10, TX10, 122, tyX10, cl_X10, by decide, wd226, rfl, tyX10_ok 92 (by decide), fun h => rfl⟩
theorem fp_X10_213 : k_fl RX10 213 10 93 true (.array .char) := ⟨RX10, TX10, 122, tyX10, cl_X10, by decide, wd227, rfl, tyX10_ok 93 (by decide), fun h => rfl⟩
theorem fp_X10_216 : k_fl RX10 216 10 94 true (.array .char) := ⟨RX10, TX10, 122, tyX10, cl_X10, by decide, wd228, rfl, tyX10_ok 94 (by decide), fun h => rfl⟩
theorem fp_X10_219 : k_fl RX10 219 10 95 true (.array .char) := ⟨RX10, TX10, 122, tyX10, cl_X10, by decide, wd229, rfl, tyX10_ok 95 (by decide), fun h => rfl⟩
theorem fp_X10_222 : k_fl RX10 222 10 96 true (.array .char) := ⟨RX10, TX10, 122, tyX10, cl_X10, by decide, wd230, rfl, tyX10_ok 96 (by decide), fun h => rfl⟩
theorem fp_X10_225 : k_fl RX10 225 10 97 true (.array .char) := ⟨RX10, TX10, 122, tyX10, cl_X10, by decide, wd231, rfl, tyX10_ok 97 (by decide), fun h => rfl⟩
theorem fp_X10_228 : k_fl RX10 228 10 98 true (.array .char) := ⟨RX10, TX10, 122, tyX10, cl_X10, by decide, wd232, rfl, tyX10_ok 98 (by decide), fun h => rfl⟩
theorem fp_X10_231 : k_fl RX10 231 10 99 true (.array .char) := ⟨RX10, TX10, 122, tyX10, cl_X10, by decide, wd233, rfl, tyX10_ok 99 (by decide), fun h => rfl⟩
theorem fp_X10_234 : k_fl RX10 234 10 100 true (.array .char) := ⟨RX10, TX10, 122, tyX10, cl_X10, by decide, wd234, rfl, tyX10_ok 100 (by decide), fun h => rfl⟩
theorem fp_X10_237 : k_fl RX10 237 10 101 true (.array .char) := ⟨RX10, TX10, 122, tyX10, cl_X10, by decide, wd235, rfl, tyX10_ok 101 (by decide), fun h => rfl⟩
theorem fp_X10_240 : k_fl RX10 240 10 102 true (.array .char) := ⟨RX10, TX10, 122, tyX10, cl_X10, by decide, wd236, rfl, tyX10_ok 102 (by decide), fun h => rfl⟩
theorem fp_X10_243 : k_fl RX10 243 10 103 true (.array .char) := ⟨RX10, TX10, 122, tyX10, cl_X10, by decide, wd237, rfl, tyX10_ok 103 (by decide), fun h => rfl⟩
theorem fp_X10_246 : k_fl RX10 246 10 104 true (.array .char) := ⟨RX10, TX10, 122, tyX10, cl_X10, by decide, wd238, rfl, tyX10_ok 104 (by decide), fun h => rfl⟩
theorem fp_X10_249 : k_fl RX10 249 10 105 true (.array .char) := ⟨RX10, TX10, 122, tyX10, cl_X10, by decide, wd239, rfl, tyX10_ok 105 (by decide), fun h => rfl⟩
theorem fp_X10_252 : k_fl RX10 252 10 106 true (.array .char) := ⟨RX10, TX10, 122, tyX10, cl_X10, by decide, wd240, rfl, tyX10_ok 106 (by decide), fun h => rfl⟩
theorem fp_X10_255 : k_fl RX10 255 10 107 true (.array .char) := ⟨RX10, TX10, 122, tyX10, cl_X10, by decide, wd241, rfl, tyX10_ok 107 (by decide), fun h => rfl⟩
theorem fp_X10_258 : k_fl RX10 258 10 108 true (.array .char) := ⟨RX10, TX10, 122, tyX10, cl_X10, by decide, wd242, rfl, tyX10_ok 108 (by decide), fun h => rfl⟩
theorem fp_X10_261 : k_fl RX10 261 10 109 true (.array .char) := ⟨RX10, TX10, 122, tyX10, cl_X10, by decide, wd243, rfl, tyX10_ok 109 (by decide), fun h => rfl⟩
theorem fp_X10_264 : k_fl RX10 264 10 110 true (.array .int) := ⟨RX10, TX10, 122, tyX10, cl_X10, by decide, wd244, rfl, tyX10_ok 110 (by decide), fun h => rfl⟩
theorem fp_X10_267 : k_fl RX10 267 10 112 true (.array .int) := ⟨RX10, TX10, 122, tyX10, cl_X10, by decide, wd245, rfl, tyX10_ok 112 (by decide), fun h => rfl⟩
theorem fp_X10_270 : k_fl RX10 270 10 116 true (.array .long) := ⟨RX10, TX10, 122, tyX10, cl_X10, by decide, wd246, rfl, tyX10_ok 116 (by decide), fun h => rfl⟩
theorem fp_X10_273 : k_fl RX10 273 10 120 true (.array .int) := ⟨RX10, TX10, 122, tyX10, cl_X10, by decide, wd247, rfl, tyX10_ok 120 (by decide), fun h => rfl⟩
theorem fg_X9_13 : k_fg RX9 13 9 1 := ⟨RX9, TX9, 16, tyX9, cl_X9, by decide, wd14⟩
theorem mV_X9_106 : k_mv RX9 106 RX9 yX9_putBytes cX9_putBytes 3 none 1 := ⟨wd256, wd257, wd258, wd2, wd259, by decide +kernel⟩
theorem mV_X9_110 : k_mv RX9 110 RX9 yX9_deny cX9_deny 2 (some .boolean) 1 := ⟨wd269, wd270, wd271, wd2, wd272, by decide +kernel⟩
theorem fg_X9_95 : k_fg RX9 95 9 14 := ⟨RX9, TX9, 16, tyX9, cl_X9, by decide, wd54⟩
theorem fg_X9_53 : k_fg RX9 53 9 7 := ⟨RX9, TX9, 16, tyX9, cl_X9, by decide, wd35⟩
theorem mV_X9_114 : k_mv RX9 114 RX9 yX9_takeTape cX9_takeTape 2 (some .int) 0 := ⟨wd283, wd284, wd285, wd2, wd286, by decide +kernel⟩
theorem mV_X9_118 : k_mv RX9 118 RX5 yX5_readCrossing cX5_readCrossing 4 none 2 := ⟨wd287, wd288, wd289, wd34, wd290, by decide +kernel⟩
theorem mV_X5_41 : k_mv RX5 41 RX5 yX5_begin cX5_begin 3 none 2 := ⟨wd293, wd294, wd295, wd34, wd296, by decide +kernel⟩
theorem mV_X5_96 : k_mv RX5 96 RX4 yX4_clear cX4_clear 1 none 0 := ⟨wd301, wd302, wd303, wd17, wd304, by decide +kernel⟩
theorem fp_X4_39 : k_fl RX4 39 4 0 false .int := ⟨RX4, TX4, 18, tyX4, cl_X4, by decide, wd305, rfl, tyX4_ok 0 (by decide), fun h => by cases h⟩
theorem fp_X4_43 : k_fl RX4 43 4 4 false .int := ⟨RX4, TX4, 18, tyX4, cl_X4, by decide, wd306, rfl, tyX4_ok 4 (by decide), fun h => by cases h⟩
theorem fp_X4_46 : k_fl RX4 46 4 5 false .int := ⟨RX4, TX4, 18, tyX4, cl_X4, by decide, wd307, rfl, tyX4_ok 5 (by decide), fun h => by cases h⟩
theorem fp_X4_49 : k_fl RX4 49 4 6 false .int := ⟨RX4, TX4, 18, tyX4, cl_X4, by decide, wd308, rfl, tyX4_ok 6 (by decide), fun h => by cases h⟩
theorem fp_X4_52 : k_fl RX4 52 4 10 false .int := ⟨RX4, TX4, 18, tyX4, cl_X4, by decide, wd309, rfl, tyX4_ok 10 (by decide), fun h => by cases h⟩
theorem fp_X4_55 : k_fl RX4 55 4 16 false .int := ⟨RX4, TX4, 18, tyX4, cl_X4, by decide, wd310, rfl, tyX4_ok 16 (by decide), fun h => by cases h⟩
theorem fg_X4_27 : k_fg RX4 27 4 13 := ⟨RX4, TX4, 18, tyX4, cl_X4, by decide, wd64⟩
theorem mS_X4_58 : k_ms RX4 58 yJ7_fill_53178 cJ7_fill_53178 4 none 2 := ⟨wd311, wd312, wd313, wd314, by decide +kernel⟩
theorem fg_X4_36 : k_fg RX4 36 4 17 := ⟨RX4, TX4, 18, tyX4, cl_X4, by decide, wd67⟩
theorem fg_X5_33 : k_fg RX5 33 5 0 := ⟨RX5, TX5, 9, tyX5, cl_X5, by decide, wd99⟩
theorem mV_X5_86 : k_mv RX5 86 RX5 yX5_moveTo cX5_moveTo 3 none 1 := ⟨wd315, wd316, wd317, wd34, wd318, by decide +kernel⟩
theorem fg_X5_15 : k_fg RX5 15 5 2 := ⟨RX5, TX5, 9, tyX5, cl_X5, by decide, wd93⟩
theorem fg_X5_11 : k_fg RX5 11 5 1 := ⟨RX5, TX5, 9, tyX5, cl_X5, by decide, wd92⟩
theorem mV_X5_252 : k_mv RX5 252 RX5 yX5_sortOf cX5_sortOf 2 (some .int) 1 := ⟨wd319, wd320, wd321, wd34, wd322, by decide +kernel⟩
theorem fg_X5_18 : k_fg RX5 18 5 3 := ⟨RX5, TX5, 9, tyX5, cl_X5, by decide, wd94⟩
theorem mV_X5_45 : k_mv RX5 45 RX5 yX5_firstStatement cX5_firstStatement 1 none 0 := ⟨wd323, wd324, wd325, wd34, wd326, by decide +kernel⟩
theorem fg_X5_37 : k_fg RX5 37 5 6 := ⟨RX5, TX5, 9, tyX5, cl_X5, by decide, wd100⟩
theorem mV_X5_70 : k_mv RX5 70 RX5 yX5_numberBehind cX5_numberBehind 4 (some .int) 3 := ⟨wd331, wd332, wd333, wd34, wd334, by decide +kernel⟩
theorem mV_X5_144 : k_mv RX5 144 RX5 yX5_needWord cX5_needWord 2 none 1 := ⟨wd335, wd336, wd337, wd34, wd338, by decide +kernel⟩
theorem mV_X5_54 : k_mv RX5 54 RX5 yX5_wordIn cX5_wordIn 6 (some .int) 1 := ⟨wd339, wd340, wd341, wd34, wd342, by decide +kernel⟩
theorem fg_X5_21 : k_fg RX5 21 5 4 := ⟨RX5, TX5, 9, tyX5, cl_X5, by decide, wd95⟩
theorem mV_X5_78 : k_mv RX5 78 RX5 yX5_fail cX5_fail 3 none 2 := ⟨wd392, wd393, wd394, wd34, wd395, by decide +kernel⟩
theorem fg_X5_27 : k_fg RX5 27 5 7 := ⟨RX5, TX5, 9, tyX5, cl_X5, by decide, wd97⟩
theorem mV_X5_168 : k_mv RX5 168 RX5 yX5_number cX5_number 5 (some .int) 2 := ⟨wd396, wd397, wd398, wd34, wd399, by decide +kernel⟩
theorem fp_X5_107 : k_fl RX5 107 4 0 false .int := ⟨RX4, TX4, 18, tyX4, cl_X4, by decide, wd327, rfl, tyX4_ok 0 (by decide), fun h => by cases h⟩
theorem fg_X5_107 : k_fg RX5 107 4 0 := ⟨RX4, TX4, 18, tyX4, cl_X4, by decide, wd327⟩
theorem fp_X5_111 : k_fl RX5 111 4 1 false .int := ⟨RX4, TX4, 18, tyX4, cl_X4, by decide, wd328, rfl, tyX4_ok 1 (by decide), fun h => by cases h⟩
theorem fp_X5_115 : k_fl RX5 115 4 2 false .int := ⟨RX4, TX4, 18, tyX4, cl_X4, by decide, wd329, rfl, tyX4_ok 2 (by decide), fun h => by cases h⟩
theorem fp_X5_119 : k_fl RX5 119 4 3 false .int := ⟨RX4, TX4, 18, tyX4, cl_X4, by decide, wd330, rfl, tyX4_ok 3 (by decide), fun h => by cases h⟩
theorem mV_X5_48 : k_mv RX5 48 RX5 yX5_need cX5_need 2 none 1 := ⟨wd400, wd401, wd402, wd34, wd403, by decide +kernel⟩
theorem mV_X5_213 : k_mv RX5 213 RX5 yX5_sees cX5_sees 2 (some .boolean) 1 := ⟨wd404, wd405, wd406, wd34, wd407, by decide +kernel⟩
theorem fp_X5_81 : k_fl RX5 81 4 5 false .int := ⟨RX4, TX4, 18, tyX4, cl_X4, by decide, wd292, rfl, tyX4_ok 5 (by decide), fun h => by cases h⟩
theorem fg_X9_122 : k_fg RX9 122 5 7 := ⟨RX5, TX5, 9, tyX5, cl_X5, by decide, wd281⟩
theorem mV_X9_102 : k_mv RX9 102 RX9 yX9_refuse cX9_refuse 2 (some .int) 1 := ⟨wd252, wd253, wd254, wd2, wd255, by decide +kernel⟩
theorem fg_X9_142 : k_fg RX9 142 5 8 := ⟨RX5, TX5, 9, tyX5, cl_X5, by decide, wd743⟩
theorem fg_X9_145 : k_fg RX9 145 4 0 := ⟨RX4, TX4, 18, tyX4, cl_X4, by decide, wd752⟩
theorem fg_X9_148 : k_fg RX9 148 4 6 := ⟨RX4, TX4, 18, tyX4, cl_X4, by decide, wd753⟩
theorem fg_X9_151 : k_fg RX9 151 4 10 := ⟨RX4, TX4, 18, tyX4, cl_X4, by decide, wd754⟩
theorem fg_X9_30 : k_fg RX9 30 9 4 := ⟨RX9, TX9, 16, tyX9, cl_X9, by decide, wd23⟩
theorem fg_X9_154 : k_fg RX9 154 6 0 := ⟨RX6, TX6, 4, tyX6, cl_X6, by decide, wd755⟩
theorem fg_X9_157 : k_fg RX9 157 6 1 := ⟨RX6, TX6, 4, tyX6, cl_X6, by decide, wd756⟩
theorem fg_X9_160 : k_fg RX9 160 6 2 := ⟨RX6, TX6, 4, tyX6, cl_X6, by decide, wd757⟩
theorem fg_X9_85 : k_fg RX9 85 9 11 := ⟨RX9, TX9, 16, tyX9, cl_X9, by decide, wd51⟩
theorem fg_X9_163 : k_fg RX9 163 8 3 := ⟨RX8, TX8, 11, tyX8, cl_X8, by decide, wd758⟩
theorem fg_X9_37 : k_fg RX9 37 9 5 := ⟨RX9, TX9, 16, tyX9, cl_X9, by decide, wd27⟩
theorem fg_X9_166 : k_fg RX9 166 2 2 := ⟨RX2, TX2, 3, tyX2, cl_X2, by decide, wd759⟩
theorem mV_X9_172 : k_mv RX9 172 RX9 yX9_isWalker cX9_isWalker 2 (some .boolean) 1 := ⟨wd781, wd782, wd783, wd2, wd784, by decide +kernel⟩
theorem mV_X9_169 : k_mv RX9 169 RX9 yX9_isKind cX9_isKind 2 (some .boolean) 1 := ⟨wd777, wd778, wd779, wd2, wd780, by decide +kernel⟩
theorem mV_X9_218 : k_mv RX9 218 RX9 yX9_stands cX9_stands 1 (some .boolean) 0 := ⟨wd995, wd996, wd997, wd2, wd998, by decide +kernel⟩
theorem mV_X9_254 : k_mv RX9 254 RX8 yX8_accepts cX8_accepts 6 (some .boolean) 3 := ⟨wd1193, wd1194, wd1195, wd50, wd1196, by decide +kernel⟩
theorem mV_X9_284 : k_mv RX9 284 RX4 yX4_allowsGreen cX4_allowsGreen 2 (some .boolean) 1 := ⟨wd1303, wd1304, wd1305, wd17, wd1306, by decide +kernel⟩
theorem fg_X4_39 : k_fg RX4 39 4 0 := ⟨RX4, TX4, 18, tyX4, cl_X4, by decide, wd305⟩
theorem mV_X9_287 : k_mv RX9 287 RX9 yX9_canLive cX9_canLive 2 (some .boolean) 1 := ⟨wd1323, wd1324, wd1325, wd2, wd1326, by decide +kernel⟩
theorem mV_X9_305 : k_mv RX9 305 RX2 yX2_giveBack cX2_giveBack 2 (some .boolean) 1 := ⟨wd1363, wd1364, wd1365, wd26, wd1366, by decide +kernel⟩
theorem fg_X2_21 : k_fg RX2 21 2 2 := ⟨RX2, TX2, 3, tyX2, cl_X2, by decide, wd82⟩
theorem fg_X9_89 : k_fg RX9 89 9 12 := ⟨RX9, TX9, 16, tyX9, cl_X9, by decide, wd52⟩
theorem mS_X9_319 : k_ms RX9 319 yX9_check cX9_check 4 (some .int) 2 := ⟨wd1428, wd1429, wd2, wd1430, by decide +kernel⟩
theorem fg_X9_92 : k_fg RX9 92 9 13 := ⟨RX9, TX9, 16, tyX9, cl_X9, by decide, wd53⟩
theorem mV_X9_322 : k_mv RX9 322 RX9 yX9_isImage cX9_isImage 3 (some .boolean) 1 := ⟨wd1456, wd1457, wd1458, wd2, wd1459, by decide +kernel⟩
theorem fg_X10_276 : k_fg RX10 276 10 1 := ⟨RX10, TX10, 122, tyX10, cl_X10, by decide, wd264⟩
theorem fg_X10_7 : k_fg RX10 7 10 0 := ⟨RX10, TX10, 122, tyX10, cl_X10, by decide, wd158⟩
theorem fp_X10_276 : k_fl RX10 276 10 1 false .int := ⟨RX10, TX10, 122, tyX10, cl_X10, by decide, wd264, rfl, tyX10_ok 1 (by decide), fun h => by cases h⟩
theorem fg_X10_17 : k_fg RX10 17 10 9 := ⟨RX10, TX10, 122, tyX10, cl_X10, by decide, wd160⟩
theorem fp_X10_288 : k_fl RX10 288 10 3 false .int := ⟨RX10, TX10, 122, tyX10, cl_X10, by decide, wd551, rfl, tyX10_ok 3 (by decide), fun h => by cases h⟩
theorem fp_X10_285 : k_fl RX10 285 10 2 false .int := ⟨RX10, TX10, 122, tyX10, cl_X10, by decide, wd552, rfl, tyX10_ok 2 (by decide), fun h => by cases h⟩
theorem fp_X10_299 : k_fl RX10 299 10 4 false .int := ⟨RX10, TX10, 122, tyX10, cl_X10, by decide, wd553, rfl, tyX10_ok 4 (by decide), fun h => by cases h⟩
theorem fp_X10_279 : k_fl RX10 279 10 5 false .int := ⟨RX10, TX10, 122, tyX10, cl_X10, by decide, wd554, rfl, tyX10_ok 5 (by decide), fun h => by cases h⟩
theorem fp_X10_282 : k_fl RX10 282 10 6 false .int := ⟨RX10, TX10, 122, tyX10, cl_X10, by decide, wd555, rfl, tyX10_ok 6 (by decide), fun h => by cases h⟩
theorem fp_X10_387 : k_fl RX10 387 10 52 false .int := ⟨RX10, TX10, 122, tyX10, cl_X10, by decide, wd556, rfl, tyX10_ok 52 (by decide), fun h => by cases h⟩
theorem fg_X10_111 : k_fg RX10 111 10 41 := ⟨RX10, TX10, 122, tyX10, cl_X10, by decide, wd192⟩
theorem fg_X10_130 : k_fg RX10 130 10 49 := ⟨RX10, TX10, 122, tyX10, cl_X10, by decide, wd199⟩
theorem fp_X10_402 : k_fl RX10 402 10 47 false .int := ⟨RX10, TX10, 122, tyX10, cl_X10, by decide, wd557, rfl, tyX10_ok 47 (by decide), fun h => by cases h⟩
theorem mV_X10_405 : k_mv RX10 405 RX10 yX10_barTold cX10_barTold 1 none 0 := ⟨wd560, wd561, wd562, wd5, wd563, by decide +kernel⟩
theorem fg_X10_20 : k_fg RX10 20 10 10 := ⟨RX10, TX10, 122, tyX10, cl_X10, by decide, wd162⟩
theorem mV_X10_350 : k_mv RX10 350 RX10 yX10_asks cX10_asks 2 none 1 := ⟨wd564, wd565, wd566, wd5, wd567, by decide +kernel⟩
theorem fg_X10_279 : k_fg RX10 279 10 5 := ⟨RX10, TX10, 122, tyX10, cl_X10, by decide, wd554⟩
theorem mV_X10_305 : k_mv RX10 305 RX10 yX10_takes cX10_takes 2 (some .boolean) 1 := ⟨wd568, wd569, wd570, wd5, wd571, by decide +kernel⟩
theorem mV_X10_302 : k_mv RX10 302 RX10 yX10_isHere cX10_isHere 4 (some .boolean) 1 := ⟨wd572, wd573, wd574, wd5, wd575, by decide +kernel⟩
theorem mV_X10_291 : k_mv RX10 291 RX10 yX10_look cX10_look 1 (some .int) 0 := ⟨wd576, wd577, wd578, wd5, wd579, by decide +kernel⟩
theorem fg_X10_285 : k_fg RX10 285 10 2 := ⟨RX10, TX10, 122, tyX10, cl_X10, by decide, wd552⟩
theorem fg_X10_288 : k_fg RX10 288 10 3 := ⟨RX10, TX10, 122, tyX10, cl_X10, by decide, wd551⟩
theorem mS_X10_295 : k_ms RX10 295 yX10_isLetter cX10_isLetter 1 (some .boolean) 1 := ⟨wd580, wd581, wd5, wd582, by decide +kernel⟩
theorem mV_X10_308 : k_mv RX10 308 RX10 yX10_fail cX10_fail 3 none 2 := ⟨wd583, wd584, wd585, wd5, wd586, by decide +kernel⟩
theorem fg_X10_118 : k_fg RX10 118 10 43 := ⟨RX10, TX10, 122, tyX10, cl_X10, by decide, wd195⟩
theorem mV_X10_354 : k_mv RX10 354 RX10 yX10_number cX10_number 5 (some .int) 2 := ⟨wd587, wd588, wd589, wd5, wd590, by decide +kernel⟩
theorem fg_X10_24 : k_fg RX10 24 10 11 := ⟨RX10, TX10, 122, tyX10, cl_X10, by decide, wd163⟩
theorem fg_X10_27 : k_fg RX10 27 10 12 := ⟨RX10, TX10, 122, tyX10, cl_X10, by decide, wd164⟩
theorem fg_X10_30 : k_fg RX10 30 10 13 := ⟨RX10, TX10, 122, tyX10, cl_X10, by decide, wd165⟩
theorem mV_X10_358 : k_mv RX10 358 RX10 yX10_asksSign cX10_asksSign 2 none 1 := ⟨wd597, wd598, wd599, wd5, wd600, by decide +kernel⟩
theorem fp_X10_390 : k_fl RX10 390 10 53 false .int := ⟨RX10, TX10, 122, tyX10, cl_X10, by decide, wd558, rfl, tyX10_ok 53 (by decide), fun h => by cases h⟩
theorem fp_X10_411 : k_fl RX10 411 10 7 false .int := ⟨RX10, TX10, 122, tyX10, cl_X10, by decide, wd559, rfl, tyX10_ok 7 (by decide), fun h => by cases h⟩
theorem fg_X10_282 : k_fg RX10 282 10 6 := ⟨RX10, TX10, 122, tyX10, cl_X10, by decide, wd555⟩
theorem fg_X10_13 : k_fg RX10 13 10 8 := ⟨RX10, TX10, 122, tyX10, cl_X10, by decide, wd159⟩
theorem fg_X10_411 : k_fg RX10 411 10 7 := ⟨RX10, TX10, 122, tyX10, cl_X10, by decide, wd559⟩
theorem mV_X10_430 : k_mv RX10 430 RX10 yX10_kindMany cX10_kindMany 1 (some .int) 0 := ⟨wd764, wd765, wd766, wd5, wd767, by decide +kernel⟩
theorem mV_X10_433 : k_mv RX10 433 RX10 yX10_walkerMany cX10_walkerMany 1 (some .int) 0 := ⟨wd768, wd769, wd770, wd5, wd771, by decide +kernel⟩
theorem fg_X10_139 : k_fg RX10 139 10 56 := ⟨RX10, TX10, 122, tyX10, cl_X10, by decide, wd202⟩
theorem fg_X10_427 : k_fg RX10 427 10 75 := ⟨RX10, TX10, 122, tyX10, cl_X10, by decide, wd738⟩
theorem fg_X10_424 : k_fg RX10 424 10 82 := ⟨RX10, TX10, 122, tyX10, cl_X10, by decide, wd737⟩
theorem mS_X10_318 : k_ms RX10 318 yX10_isIn cX10_isIn 6 (some .boolean) 3 := ⟨wd594, wd595, wd5, wd596, by decide +kernel⟩
theorem mV_X10_528 : k_mv RX10 528 RX10 yX10_isKind cX10_isKind 2 (some .boolean) 1 := ⟨wd805, wd806, wd807, wd5, wd808, by decide +kernel⟩
theorem mV_X10_531 : k_mv RX10 531 RX10 yX10_isWalker cX10_isWalker 2 (some .boolean) 1 := ⟨wd918, wd919, wd920, wd5, wd921, by decide +kernel⟩
theorem fg_X10_417 : k_fg RX10 417 10 54 := ⟨RX10, TX10, 122, tyX10, cl_X10, by decide, wd735⟩
theorem mV_X10_554 : k_mv RX10 554 RX10 yX10_isAhead cX10_isAhead 4 (some .boolean) 3 := ⟨wd1158, wd1159, wd1160, wd5, wd1161, by decide +kernel⟩
theorem mV_X10_567 : k_mv RX10 567 RX10 yX10_refuses cX10_refuses 2 (some .int) 1 := ⟨wd1207, wd1208, wd1209, wd5, wd1210, by decide +kernel⟩
theorem mV_X10_591 : k_mv RX10 591 RX10 yX10_isRefused cX10_isRefused 1 (some .boolean) 0 := ⟨wd1290, wd1291, wd1292, wd5, wd1293, by decide +kernel⟩
theorem fp_X10_699 : k_fl RX10 699 10 121 false .int := ⟨RX10, TX10, 122, tyX10, cl_X10, by decide, wd1435, rfl, tyX10_ok 121 (by decide), fun h => by cases h⟩
theorem mV_X10_702 : k_mv RX10 702 RX10 yX10_writes cX10_writes 2 none 1 := ⟨wd1436, wd1437, wd1438, wd5, wd1439, by decide +kernel⟩
theorem fg_X10_273 : k_fg RX10 273 10 120 := ⟨RX10, TX10, 122, tyX10, cl_X10, by decide, wd247⟩
theorem fg_X10_699 : k_fg RX10 699 10 121 := ⟨RX10, TX10, 122, tyX10, cl_X10, by decide, wd1435⟩
theorem mS_X10_705 : k_ms RX10 705 yX10_checked cX10_checked 4 (some .int) 2 := ⟨wd1440, wd1441, wd5, wd1442, by decide +kernel⟩
theorem mV_X10_709 : k_mv RX10 709 RX10 yX10_isImage cX10_isImage 3 (some .boolean) 1 := ⟨wd1464, wd1465, wd1466, wd5, wd1467, by decide +kernel⟩
theorem mV_L_13 : k_mv RL 13 RX9 yX9_feed cX9_feed 6 (some .int) 5 := ⟨wd248, wd249, wd250, wd2, wd251, by decide +kernel⟩
theorem mV_L_17 : k_mv RL 17 RX10 yX10_feed cX10_feed 8 (some .int) 5 := ⟨wd260, wd261, wd262, wd5, wd263, by decide +kernel⟩
theorem mV_L_18 : k_mv RL 18 RX9 yX9_end cX9_end 2 (some .boolean) 1 := ⟨wd265, wd266, wd267, wd2, wd268, by decide +kernel⟩
theorem mV_L_22 : k_mv RL 22 RX10 yX10_end cX10_end 2 (some .boolean) 1 := ⟨wd273, wd274, wd275, wd5, wd276, by decide +kernel⟩
theorem mV_L_23 : k_mv RL 23 RX9 yX9_crossing cX9_crossing 2 (some .int) 0 := ⟨wd277, wd278, wd279, wd2, wd280, by decide +kernel⟩
theorem mV_L_27 : k_mv RL 27 RX10 yX10_crossing cX10_crossing 2 (some .int) 0 := ⟨wd547, wd548, wd549, wd5, wd550, by decide +kernel⟩
theorem mV_L_28 : k_mv RL 28 RX9 yX9_fault cX9_fault 2 (some .int) 1 := ⟨wd739, wd740, wd741, wd2, wd742, by decide +kernel⟩
theorem mV_L_32 : k_mv RL 32 RX10 yX10_fault cX10_fault 2 (some .int) 1 := ⟨wd744, wd745, wd746, wd5, wd747, by decide +kernel⟩
theorem mV_L_33 : k_mv RL 33 RX9 yX9_has cX9_has 2 (some .int) 1 := ⟨wd748, wd749, wd750, wd2, wd751, by decide +kernel⟩
theorem mV_L_36 : k_mv RL 36 RX10 yX10_has cX10_has 2 (some .int) 1 := ⟨wd760, wd761, wd762, wd5, wd763, by decide +kernel⟩
theorem mV_L_37 : k_mv RL 37 RX9 yX9_letter cX9_letter 6 (some .int) 3 := ⟨wd772, wd773, wd774, wd2, wd775, by decide +kernel⟩
theorem mV_L_41 : k_mv RL 41 RX10 yX10_letter cX10_letter 9 (some .int) 3 := ⟨wd785, wd786, wd787, wd5, wd788, by decide +kernel⟩
theorem mV_L_42 : k_mv RL 42 RX9 yX9_kind cX9_kind 3 (some .int) 2 := ⟨wd790, wd791, wd792, wd2, wd793, by decide +kernel⟩
theorem mV_L_46 : k_mv RL 46 RX10 yX10_kind cX10_kind 5 (some .int) 2 := ⟨wd801, wd802, wd803, wd5, wd804, by decide +kernel⟩
theorem mV_L_47 : k_mv RL 47 RX9 yX9_walker cX9_walker 3 (some .int) 2 := ⟨wd817, wd818, wd819, wd2, wd820, by decide +kernel⟩
theorem mV_L_50 : k_mv RL 50 RX10 yX10_walker cX10_walker 3 (some .int) 2 := ⟨wd914, wd915, wd916, wd5, wd917, by decide +kernel⟩
theorem mV_L_51 : k_mv RL 51 RX9 yX9_light cX9_light 2 (some .int) 1 := ⟨wd990, wd991, wd992, wd2, wd993, by decide +kernel⟩
theorem mV_L_54 : k_mv RL 54 RX10 yX10_light cX10_light 2 (some .int) 1 := ⟨wd999, wd1000, wd1001, wd5, wd1002, by decide +kernel⟩
theorem mV_L_55 : k_mv RL 55 RX9 yX9_car cX9_car 2 (some .int) 1 := ⟨wd1004, wd1005, wd1006, wd2, wd1007, by decide +kernel⟩
theorem mV_L_58 : k_mv RL 58 RX10 yX10_car cX10_car 2 (some .int) 1 := ⟨wd1009, wd1010, wd1011, wd5, wd1012, by decide +kernel⟩
theorem mV_L_59 : k_mv RL 59 RX9 yX9_day cX9_day 2 (some .int) 1 := ⟨wd1014, wd1015, wd1016, wd2, wd1017, by decide +kernel⟩
theorem mV_L_62 : k_mv RL 62 RX10 yX10_day cX10_day 2 (some .int) 1 := ⟨wd1042, wd1043, wd1044, wd5, wd1045, by decide +kernel⟩
theorem mV_L_63 : k_mv RL 63 RX9 yX9_best cX9_best 3 (some .int) 2 := ⟨wd1065, wd1066, wd1067, wd2, wd1068, by decide +kernel⟩
theorem mV_L_66 : k_mv RL 66 RX10 yX10_best cX10_best 9 (some .int) 2 := ⟨wd1084, wd1085, wd1086, wd5, wd1087, by decide +kernel⟩
theorem mV_L_67 : k_mv RL 67 RX9 yX9_least cX9_least 1 (some .int) 0 := ⟨wd1094, wd1095, wd1096, wd2, wd1097, by decide +kernel⟩
theorem mV_L_70 : k_mv RL 70 RX10 yX10_least cX10_least 2 (some .int) 0 := ⟨wd1107, wd1108, wd1109, wd5, wd1110, by decide +kernel⟩
theorem mV_L_71 : k_mv RL 71 RX9 yX9_hold cX9_hold 1 (some .int) 0 := ⟨wd1111, wd1112, wd1113, wd2, wd1114, by decide +kernel⟩
theorem mV_L_74 : k_mv RL 74 RX10 yX10_hold cX10_hold 3 (some .int) 0 := ⟨wd1124, wd1125, wd1126, wd5, wd1127, by decide +kernel⟩
theorem mV_L_75 : k_mv RL 75 RX9 yX9_later cX9_later 3 (some .int) 2 := ⟨wd1131, wd1132, wd1133, wd2, wd1134, by decide +kernel⟩
theorem mV_L_78 : k_mv RL 78 RX10 yX10_later cX10_later 4 (some .int) 2 := ⟨wd1154, wd1155, wd1156, wd5, wd1157, by decide +kernel⟩
theorem mV_L_79 : k_mv RL 79 RX9 yX9_doubts cX9_doubts 4 (some .int) 1 := ⟨wd1179, wd1180, wd1181, wd2, wd1182, by decide +kernel⟩
theorem mV_L_82 : k_mv RL 82 RX10 yX10_doubts cX10_doubts 4 (some .int) 1 := ⟨wd1185, wd1186, wd1187, wd5, wd1188, by decide +kernel⟩
theorem mV_L_83 : k_mv RL 83 RX9 yX9_see cX9_see 2 (some .int) 0 := ⟨wd1189, wd1190, wd1191, wd2, wd1192, by decide +kernel⟩
theorem mV_L_86 : k_mv RL 86 RX10 yX10_see cX10_see 5 (some .int) 0 := ⟨wd1202, wd1203, wd1204, wd5, wd1205, by decide +kernel⟩
theorem mV_L_87 : k_mv RL 87 RX9 yX9_fits cX9_fits 2 (some .int) 1 := ⟨wd1211, wd1212, wd1213, wd2, wd1214, by decide +kernel⟩
theorem mV_L_90 : k_mv RL 90 RX10 yX10_fits cX10_fits 2 (some .int) 1 := ⟨wd1243, wd1244, wd1245, wd5, wd1246, by decide +kernel⟩
theorem mV_L_91 : k_mv RL 91 RX9 yX9_watched cX9_watched 2 (some .int) 1 := ⟨wd1258, wd1259, wd1260, wd2, wd1261, by decide +kernel⟩
theorem mV_L_94 : k_mv RL 94 RX10 yX10_watched cX10_watched 6 (some .int) 1 := ⟨wd1264, wd1265, wd1266, wd5, wd1267, by decide +kernel⟩
theorem mV_L_95 : k_mv RL 95 RX9 yX9_rule cX9_rule 2 (some .boolean) 1 := ⟨wd1272, wd1273, wd1274, wd2, wd1275, by decide +kernel⟩
theorem mV_L_98 : k_mv RL 98 RX10 yX10_rule cX10_rule 2 (some .boolean) 1 := ⟨wd1286, wd1287, wd1288, wd5, wd1289, by decide +kernel⟩
theorem mV_L_99 : k_mv RL 99 RX9 yX9_green cX9_green 2 (some .boolean) 1 := ⟨wd1299, wd1300, wd1301, wd2, wd1302, by decide +kernel⟩
theorem mV_L_102 : k_mv RL 102 RX10 yX10_green cX10_green 2 (some .boolean) 1 := ⟨wd1307, wd1308, wd1309, wd5, wd1310, by decide +kernel⟩
theorem mV_L_103 : k_mv RL 103 RX9 yX9_trust cX9_trust 3 (some .boolean) 2 := ⟨wd1311, wd1312, wd1313, wd2, wd1314, by decide +kernel⟩
theorem mV_L_107 : k_mv RL 107 RX10 yX10_trust cX10_trust 3 (some .boolean) 2 := ⟨wd1315, wd1316, wd1317, wd5, wd1318, by decide +kernel⟩
theorem mV_L_108 : k_mv RL 108 RX9 yX9_days cX9_days 4 (some .int) 1 := ⟨wd1319, wd1320, wd1321, wd2, wd1322, by decide +kernel⟩
theorem mV_L_111 : k_mv RL 111 RX10 yX10_days cX10_days 4 (some .int) 1 := ⟨wd1328, wd1329, wd1330, wd5, wd1331, by decide +kernel⟩
theorem mV_L_112 : k_mv RL 112 RX9 yX9_chance cX9_chance 5 (some .int) 1 := ⟨wd1332, wd1333, wd1334, wd2, wd1335, by decide +kernel⟩
theorem mV_L_115 : k_mv RL 115 RX10 yX10_chance cX10_chance 6 (some .int) 1 := ⟨wd1347, wd1348, wd1349, wd5, wd1350, by decide +kernel⟩
theorem mV_L_116 : k_mv RL 116 RX9 yX9_undo cX9_undo 1 (some .boolean) 0 := ⟨wd1359, wd1360, wd1361, wd2, wd1362, by decide +kernel⟩
theorem mV_L_120 : k_mv RL 120 RX10 yX10_undo cX10_undo 2 (some .boolean) 0 := ⟨wd1367, wd1368, wd1369, wd5, wd1370, by decide +kernel⟩
theorem mV_L_121 : k_mv RL 121 RX9 yX9_seed cX9_seed 2 (some .boolean) 1 := ⟨wd1371, wd1372, wd1373, wd2, wd1374, by decide +kernel⟩
theorem mV_L_124 : k_mv RL 124 RX10 yX10_seed cX10_seed 2 (some .boolean) 1 := ⟨wd1375, wd1376, wd1377, wd5, wd1378, by decide +kernel⟩
theorem mV_L_125 : k_mv RL 125 RX9 yX9_ask cX9_ask 3 (some .long) 0 := ⟨wd1379, wd1380, wd1381, wd2, wd1382, by decide +kernel⟩
theorem mV_L_129 : k_mv RL 129 RX10 yX10_ask cX10_ask 3 (some .long) 0 := ⟨wd1400, wd1401, wd1402, wd5, wd1403, by decide +kernel⟩
theorem mV_L_130 : k_mv RL 130 RX9 yX9_image cX9_image 2 (some .int) 0 := ⟨wd1424, wd1425, wd1426, wd2, wd1427, by decide +kernel⟩
theorem mV_L_133 : k_mv RL 133 RX10 yX10_image cX10_image 2 (some .int) 0 := ⟨wd1431, wd1432, wd1433, wd5, wd1434, by decide +kernel⟩
theorem mV_L_134 : k_mv RL 134 RX9 yX9_octet cX9_octet 2 (some .int) 1 := ⟨wd1443, wd1444, wd1445, wd2, wd1446, by decide +kernel⟩
theorem mV_L_137 : k_mv RL 137 RX10 yX10_octet cX10_octet 2 (some .int) 1 := ⟨wd1447, wd1448, wd1449, wd5, wd1450, by decide +kernel⟩
theorem mV_L_138 : k_mv RL 138 RX9 yX9_on cX9_on 2 (some .boolean) 0 := ⟨wd1451, wd1452, wd1453, wd2, wd1454, by decide +kernel⟩
theorem mV_L_141 : k_mv RL 141 RX10 yX10_on cX10_on 3 (some .boolean) 0 := ⟨wd1460, wd1461, wd1462, wd5, wd1463, by decide +kernel⟩
theorem mV_L_142 : k_mv RL 142 RX9 yX9_status cX9_status 2 (some .int) 1 := ⟨wd1468, wd1469, wd1470, wd2, wd1471, by decide +kernel⟩
theorem mV_L_145 : k_mv RL 145 RX10 yX10_status cX10_status 2 (some .int) 1 := ⟨wd1472, wd1473, wd1474, wd5, wd1475, by decide +kernel⟩
theorem z_X9 : ∀ j, j < 16 → defaultValue (tyX9 j) = vp_V [.null, .int 0, .null, .null, .null, .null, .null, .null, .null, .null, .null, .null, .null, .int 0, .null, .long 0] j := by decide +kernel
theorem n_L_7 : k_nw RL 7 9 16 [.null, .int 0, .null, .null, .null, .null, .null, .null, .null, .null, .null, .null, .null, .int 0, .null, .long 0] := ⟨RX9, TX9, tyX9, cl_X9, wd0, wd1, wd2, z_X9⟩
theorem mI_L_9 : k_mi RL 9 yX9_init cX9_init 1 0 := ⟨wd6, wd7, wd2, wd8, rfl, by decide +kernel⟩
theorem z_X10 : ∀ j, j < 122 → defaultValue (tyX10 j) = vp_V [.null, .int 0, .int 0, .int 0, .int 0, .int 0, .int 0, .int 0, .int 0, .null, .null, .null, .null, .null, .null, .null, .null, .null, .null, .null, .null, .null, .null, .null, .null, .null, .null, .null, .null, .null, .null, .null, .null, .null, .null, .null, .null, .null, .null, .null, .int 0, .null, .null, .null, .null, .null, .null, .int 0, .int 0, .null, .null, .null, .int 0, .int 0, .int 0, .int 0, .null, .null, .int 0, .int 0, .null, .null, .null, .null, .null, .null, .null, .null, .null, .null, .int 0, .int 0, .int 0, .int 0, .int 0, .int 0, .null, .null, .int 0, .int 0, .int 0, .null, .int 0, .int 0, .long 0, .null, .null, .null, .null, .null, .null, .null, .null, .null, .null, .null, .null, .null, .null, .null, .null, .null, .null, .null, .null, .null, .null, .null, .null, .null, .null, .int 0, .null, .int 0, .int 0, .int 0, .null, .int 0, .long 0, .int 0, .null, .int 0] j := by decide +kernel
theorem n_L_10 : k_nw RL 10 10 122 [.null, .int 0, .int 0, .int 0, .int 0, .int 0, .int 0, .int 0, .int 0, .null, .null, .null, .null, .null, .null, .null, .null, .null, .null, .null, .null, .null, .null, .null, .null, .null, .null, .null, .null, .null, .null, .null, .null, .null, .null, .null, .null, .null, .null, .null, .int 0, .null, .null, .null, .null, .null, .null, .int 0, .int 0, .null, .null, .null, .int 0, .int 0, .int 0, .int 0, .null, .null, .int 0, .int 0, .null, .null, .null, .null, .null, .null, .null, .null, .null, .null, .int 0, .int 0, .int 0, .int 0, .int 0, .int 0, .null, .null, .int 0, .int 0, .int 0, .null, .int 0, .int 0, .long 0, .null, .null, .null, .null, .null, .null, .null, .null, .null, .null, .null, .null, .null, .null, .null, .null, .null, .null, .null, .null, .null, .null, .null, .null, .null, .null, .int 0, .null, .int 0, .int 0, .int 0, .null, .int 0, .long 0, .int 0, .null, .int 0] := ⟨RX10, TX10, tyX10, cl_X10, wd3, wd4, wd5, z_X10⟩
theorem mI_L_12 : k_mi RL 12 yX10_init cX10_init 1 0 := ⟨wd154, wd155, wd5, wd156, rfl, by decide +kernel⟩
end
section
theorem dJ7_fill_53178_0 : decode cJ7_fill_53178 0 = .ok (.iconst 0, 1) := by decide +kernel
theorem dJ7_fill_53178_1 : decode cJ7_fill_53178 1 = .ok (.istore_n 2, 1) := by decide +kernel
theorem dJ7_fill_53178_2 : decode cJ7_fill_53178 2 = .ok (.aload_n 0, 1) := by decide +kernel
theorem dJ7_fill_53178_3 : decode cJ7_fill_53178 3 = .ok (.arraylength, 1) := by decide +kernel
theorem dJ7_fill_53178_4 : decode cJ7_fill_53178 4 = .ok (.istore_n 3, 1) := by decide +kernel
theorem dJ7_fill_53178_5 : decode cJ7_fill_53178 5 = .ok (.iload_n 2, 1) := by decide +kernel
theorem dJ7_fill_53178_6 : decode cJ7_fill_53178 6 = .ok (.iload_n 3, 1) := by decide +kernel
theorem dJ7_fill_53178_7 : decode cJ7_fill_53178 7 = .ok (.if_icmp .ge 13, 3) := by decide +kernel
theorem dJ7_fill_53178_10 : decode cJ7_fill_53178 10 = .ok (.aload_n 0, 1) := by decide +kernel
theorem dJ7_fill_53178_11 : decode cJ7_fill_53178 11 = .ok (.iload_n 2, 1) := by decide +kernel
theorem dJ7_fill_53178_12 : decode cJ7_fill_53178 12 = .ok (.iload_n 1, 1) := by decide +kernel
theorem dJ7_fill_53178_13 : decode cJ7_fill_53178 13 = .ok (.iastore, 1) := by decide +kernel
theorem dJ7_fill_53178_14 : decode cJ7_fill_53178 14 = .ok (.iinc 2 1, 3) := by decide +kernel
theorem dJ7_fill_53178_17 : decode cJ7_fill_53178 17 = .ok (.goto (-12), 3) := by decide +kernel
theorem dJ7_fill_53178_20 : decode cJ7_fill_53178 20 = .ok (.return_, 1) := by decide +kernel
theorem dX0_init_0 : decode cX0_init 0 = .ok (.aload_n 0, 1) := by decide +kernel
theorem dX0_init_1 : decode cX0_init 1 = .ok (.invokespecial 3, 3) := by decide +kernel
theorem dX0_init_4 : decode cX0_init 4 = .ok (.aload_n 0, 1) := by decide +kernel
theorem dX0_init_5 : decode cX0_init 5 = .ok (.new 9, 3) := by decide +kernel
theorem dX0_init_8 : decode cX0_init 8 = .ok (.dup, 1) := by decide +kernel
theorem dX0_init_9 : decode cX0_init 9 = .ok (.invokespecial 11, 3) := by decide +kernel
theorem dX0_init_12 : decode cX0_init 12 = .ok (.putfield 12, 3) := by decide +kernel
theorem dX0_init_15 : decode cX0_init 15 = .ok (.aload_n 0, 1) := by decide +kernel
theorem dX0_init_16 : decode cX0_init 16 = .ok (.sipush 180, 3) := by decide +kernel
theorem dX0_init_19 : decode cX0_init 19 = .ok (.newarray .int, 2) := by decide +kernel
theorem dX0_init_21 : decode cX0_init 21 = .ok (.putfield 18, 3) := by decide +kernel
theorem dX0_init_24 : decode cX0_init 24 = .ok (.aload_n 0, 1) := by decide +kernel
theorem dX0_init_25 : decode cX0_init 25 = .ok (.sipush 180, 3) := by decide +kernel
theorem dX0_init_28 : decode cX0_init 28 = .ok (.newarray .int, 2) := by decide +kernel
theorem dX0_init_30 : decode cX0_init 30 = .ok (.putfield 22, 3) := by decide +kernel
theorem dX0_init_33 : decode cX0_init 33 = .ok (.aload_n 0, 1) := by decide +kernel
theorem dX0_init_34 : decode cX0_init 34 = .ok (.iconst 0, 1) := by decide +kernel
theorem dX0_init_35 : decode cX0_init 35 = .ok (.putfield 25, 3) := by decide +kernel
theorem dX0_init_38 : decode cX0_init 38 = .ok (.aload_n 0, 1) := by decide +kernel
theorem dX0_init_39 : decode cX0_init 39 = .ok (.aload_n 1, 1) := by decide +kernel
theorem dX0_init_40 : decode cX0_init 40 = .ok (.putfield 29, 3) := by decide +kernel
theorem dX0_init_43 : decode cX0_init 43 = .ok (.return_, 1) := by decide +kernel
theorem dX10_ask_0 : decode cX10_ask 0 = .ok (.aload_n 0, 1) := by decide +kernel
theorem dX10_ask_1 : decode cX10_ask 1 = .ok (.getfield 417, 3) := by decide +kernel
theorem dX10_ask_4 : decode cX10_ask 4 = .ok (.ifCond .ne 12, 3) := by decide +kernel
theorem dX10_ask_7 : decode cX10_ask 7 = .ok (.aload_n 0, 1) := by decide +kernel
theorem dX10_ask_8 : decode cX10_ask 8 = .ok (.iconst 0, 1) := by decide +kernel
theorem dX10_ask_9 : decode cX10_ask 9 = .ok (.putfield 276, 3) := by decide +kernel
theorem dX10_ask_12 : decode cX10_ask 12 = .ok (.ldc2_w 686, 3) := by decide +kernel
theorem dX10_ask_15 : decode cX10_ask 15 = .ok (.lreturn, 1) := by decide +kernel
theorem dX10_asks_0 : decode cX10_asks 0 = .ok (.aload_n 0, 1) := by decide +kernel
theorem dX10_asks_1 : decode cX10_asks 1 = .ok (.getfield 279, 3) := by decide +kernel
theorem dX10_asks_4 : decode cX10_asks 4 = .ok (.ifCond .ne 20, 3) := by decide +kernel
theorem dX10_asks_7 : decode cX10_asks 7 = .ok (.aload_n 0, 1) := by decide +kernel
theorem dX10_asks_8 : decode cX10_asks 8 = .ok (.aload_n 1, 1) := by decide +kernel
theorem dX10_asks_9 : decode cX10_asks 9 = .ok (.invokevirtual 305, 3) := by decide +kernel
theorem dX10_asks_12 : decode cX10_asks 12 = .ok (.ifCond .ne 12, 3) := by decide +kernel
theorem dX10_asks_15 : decode cX10_asks 15 = .ok (.aload_n 0, 1) := by decide +kernel
theorem dX10_asks_16 : decode cX10_asks 16 = .ok (.iconst 1, 1) := by decide +kernel
theorem dX10_asks_17 : decode cX10_asks 17 = .ok (.aload_n 0, 1) := by decide +kernel
theorem dX10_asks_18 : decode cX10_asks 18 = .ok (.getfield 285, 3) := by decide +kernel
theorem dX10_asks_21 : decode cX10_asks 21 = .ok (.invokevirtual 308, 3) := by decide +kernel
theorem dX10_asks_24 : decode cX10_asks 24 = .ok (.return_, 1) := by decide +kernel
theorem dX10_asksSign_0 : decode cX10_asksSign 0 = .ok (.aload_n 0, 1) := by decide +kernel
theorem dX10_asksSign_1 : decode cX10_asksSign 1 = .ok (.getfield 279, 3) := by decide +kernel
theorem dX10_asksSign_4 : decode cX10_asksSign 4 = .ok (.ifCond .ne 20, 3) := by decide +kernel
theorem dX10_asksSign_24 : decode cX10_asksSign 24 = .ok (.return_, 1) := by decide +kernel
theorem dX10_barTold_0 : decode cX10_barTold 0 = .ok (.aload_n 0, 1) := by decide +kernel
theorem dX10_barTold_1 : decode cX10_barTold 1 = .ok (.aload_n 0, 1) := by decide +kernel
theorem dX10_barTold_2 : decode cX10_barTold 2 = .ok (.getfield 20, 3) := by decide +kernel
theorem dX10_barTold_5 : decode cX10_barTold 5 = .ok (.invokevirtual 350, 3) := by decide +kernel
theorem dX10_barTold_8 : decode cX10_barTold 8 = .ok (.aload_n 0, 1) := by decide +kernel
theorem dX10_barTold_9 : decode cX10_barTold 9 = .ok (.getfield 118, 3) := by decide +kernel
theorem dX10_barTold_12 : decode cX10_barTold 12 = .ok (.iconst 0, 1) := by decide +kernel
theorem dX10_barTold_13 : decode cX10_barTold 13 = .ok (.aload_n 0, 1) := by decide +kernel
theorem dX10_barTold_14 : decode cX10_barTold 14 = .ok (.bipush 10, 2) := by decide +kernel
theorem dX10_barTold_16 : decode cX10_barTold 16 = .ok (.bipush 120, 2) := by decide +kernel
theorem dX10_barTold_18 : decode cX10_barTold 18 = .ok (.invokevirtual 354, 3) := by decide +kernel
theorem dX10_barTold_21 : decode cX10_barTold 21 = .ok (.iastore, 1) := by decide +kernel
theorem dX10_barTold_22 : decode cX10_barTold 22 = .ok (.aload_n 0, 1) := by decide +kernel
theorem dX10_barTold_23 : decode cX10_barTold 23 = .ok (.aload_n 0, 1) := by decide +kernel
theorem dX10_barTold_24 : decode cX10_barTold 24 = .ok (.getfield 24, 3) := by decide +kernel
theorem dX10_barTold_27 : decode cX10_barTold 27 = .ok (.invokevirtual 350, 3) := by decide +kernel
theorem dX10_barTold_30 : decode cX10_barTold 30 = .ok (.aload_n 0, 1) := by decide +kernel
theorem dX10_barTold_31 : decode cX10_barTold 31 = .ok (.getfield 118, 3) := by decide +kernel
theorem dX10_barTold_34 : decode cX10_barTold 34 = .ok (.iconst 1, 1) := by decide +kernel
theorem dX10_barTold_35 : decode cX10_barTold 35 = .ok (.aload_n 0, 1) := by decide +kernel
theorem dX10_barTold_36 : decode cX10_barTold 36 = .ok (.iconst 1, 1) := by decide +kernel
theorem dX10_barTold_37 : decode cX10_barTold 37 = .ok (.aload_n 0, 1) := by decide +kernel
theorem dX10_barTold_38 : decode cX10_barTold 38 = .ok (.getfield 118, 3) := by decide +kernel
theorem dX10_barTold_41 : decode cX10_barTold 41 = .ok (.iconst 0, 1) := by decide +kernel
theorem dX10_barTold_42 : decode cX10_barTold 42 = .ok (.iaload, 1) := by decide +kernel
theorem dX10_barTold_43 : decode cX10_barTold 43 = .ok (.bipush 60, 2) := by decide +kernel
theorem dX10_barTold_45 : decode cX10_barTold 45 = .ok (.if_icmp .le 8, 3) := by decide +kernel
theorem dX10_barTold_53 : decode cX10_barTold 53 = .ok (.aload_n 0, 1) := by decide +kernel
theorem dX10_barTold_54 : decode cX10_barTold 54 = .ok (.getfield 118, 3) := by decide +kernel
theorem dX10_barTold_57 : decode cX10_barTold 57 = .ok (.iconst 0, 1) := by decide +kernel
theorem dX10_barTold_58 : decode cX10_barTold 58 = .ok (.iaload, 1) := by decide +kernel
theorem dX10_barTold_59 : decode cX10_barTold 59 = .ok (.iconst 1, 1) := by decide +kernel
theorem dX10_barTold_60 : decode cX10_barTold 60 = .ok (.isub, 1) := by decide +kernel
theorem dX10_barTold_61 : decode cX10_barTold 61 = .ok (.invokevirtual 354, 3) := by decide +kernel
theorem dX10_barTold_64 : decode cX10_barTold 64 = .ok (.iastore, 1) := by decide +kernel
theorem dX10_barTold_65 : decode cX10_barTold 65 = .ok (.aload_n 0, 1) := by decide +kernel
theorem dX10_barTold_66 : decode cX10_barTold 66 = .ok (.aload_n 0, 1) := by decide +kernel
theorem dX10_barTold_67 : decode cX10_barTold 67 = .ok (.getfield 27, 3) := by decide +kernel
theorem dX10_barTold_70 : decode cX10_barTold 70 = .ok (.invokevirtual 350, 3) := by decide +kernel
theorem dX10_barTold_73 : decode cX10_barTold 73 = .ok (.aload_n 0, 1) := by decide +kernel
theorem dX10_barTold_74 : decode cX10_barTold 74 = .ok (.getfield 118, 3) := by decide +kernel
theorem dX10_barTold_77 : decode cX10_barTold 77 = .ok (.iconst 2, 1) := by decide +kernel
theorem dX10_barTold_78 : decode cX10_barTold 78 = .ok (.aload_n 0, 1) := by decide +kernel
theorem dX10_barTold_79 : decode cX10_barTold 79 = .ok (.iconst 0, 1) := by decide +kernel
theorem dX10_barTold_80 : decode cX10_barTold 80 = .ok (.iconst 2, 1) := by decide +kernel
theorem dX10_barTold_81 : decode cX10_barTold 81 = .ok (.invokevirtual 354, 3) := by decide +kernel
theorem dX10_barTold_84 : decode cX10_barTold 84 = .ok (.iastore, 1) := by decide +kernel
theorem dX10_barTold_85 : decode cX10_barTold 85 = .ok (.aload_n 0, 1) := by decide +kernel
theorem dX10_barTold_86 : decode cX10_barTold 86 = .ok (.aload_n 0, 1) := by decide +kernel
theorem dX10_barTold_87 : decode cX10_barTold 87 = .ok (.getfield 30, 3) := by decide +kernel
theorem dX10_barTold_90 : decode cX10_barTold 90 = .ok (.invokevirtual 350, 3) := by decide +kernel
theorem dX10_barTold_93 : decode cX10_barTold 93 = .ok (.aload_n 0, 1) := by decide +kernel
theorem dX10_barTold_94 : decode cX10_barTold 94 = .ok (.getfield 118, 3) := by decide +kernel
theorem dX10_barTold_97 : decode cX10_barTold 97 = .ok (.iconst 3, 1) := by decide +kernel
theorem dX10_barTold_98 : decode cX10_barTold 98 = .ok (.aload_n 0, 1) := by decide +kernel
theorem dX10_barTold_99 : decode cX10_barTold 99 = .ok (.iconst 0, 1) := by decide +kernel
theorem dX10_barTold_100 : decode cX10_barTold 100 = .ok (.bipush 99, 2) := by decide +kernel
theorem dX10_barTold_102 : decode cX10_barTold 102 = .ok (.invokevirtual 354, 3) := by decide +kernel
theorem dX10_barTold_105 : decode cX10_barTold 105 = .ok (.iastore, 1) := by decide +kernel
theorem dX10_barTold_106 : decode cX10_barTold 106 = .ok (.aload_n 0, 1) := by decide +kernel
theorem dX10_barTold_107 : decode cX10_barTold 107 = .ok (.bipush 59, 2) := by decide +kernel
theorem dX10_barTold_109 : decode cX10_barTold 109 = .ok (.invokevirtual 358, 3) := by decide +kernel
theorem dX10_barTold_112 : decode cX10_barTold 112 = .ok (.return_, 1) := by decide +kernel
theorem dX10_best_0 : decode cX10_best 0 = .ok (.aload_n 0, 1) := by decide +kernel
theorem dX10_best_1 : decode cX10_best 1 = .ok (.getfield 417, 3) := by decide +kernel
theorem dX10_best_4 : decode cX10_best 4 = .ok (.ifCond .eq 27, 3) := by decide +kernel
theorem dX10_best_31 : decode cX10_best 31 = .ok (.iconst (-1), 1) := by decide +kernel
theorem dX10_best_32 : decode cX10_best 32 = .ok (.ireturn, 1) := by decide +kernel
theorem dX10_car_0 : decode cX10_car 0 = .ok (.aload_n 0, 1) := by decide +kernel
theorem dX10_car_1 : decode cX10_car 1 = .ok (.getfield 417, 3) := by decide +kernel
theorem dX10_car_4 : decode cX10_car 4 = .ok (.ifCond .eq 15, 3) := by decide +kernel
theorem dX10_car_19 : decode cX10_car 19 = .ok (.iconst (-1), 1) := by decide +kernel
theorem dX10_car_20 : decode cX10_car 20 = .ok (.ireturn, 1) := by decide +kernel
theorem dX10_chance_0 : decode cX10_chance 0 = .ok (.aload_n 0, 1) := by decide +kernel
theorem dX10_chance_1 : decode cX10_chance 1 = .ok (.iload_n 1, 1) := by decide +kernel
theorem dX10_chance_2 : decode cX10_chance 2 = .ok (.iconst 1, 1) := by decide +kernel
theorem dX10_chance_3 : decode cX10_chance 3 = .ok (.bipush 30, 2) := by decide +kernel
theorem dX10_chance_5 : decode cX10_chance 5 = .ok (.invokevirtual 554, 3) := by decide +kernel
theorem dX10_chance_8 : decode cX10_chance 8 = .ok (.ifCond .ne 9, 3) := by decide +kernel
theorem dX10_chance_11 : decode cX10_chance 11 = .ok (.aload_n 0, 1) := by decide +kernel
theorem dX10_chance_12 : decode cX10_chance 12 = .ok (.iconst 3, 1) := by decide +kernel
theorem dX10_chance_13 : decode cX10_chance 13 = .ok (.invokevirtual 567, 3) := by decide +kernel
theorem dX10_chance_16 : decode cX10_chance 16 = .ok (.ireturn, 1) := by decide +kernel
theorem dX10_checked_0 : decode cX10_checked 0 = .ok (.bipush 101, 2) := by decide +kernel
theorem dX10_checked_2 : decode cX10_checked 2 = .ok (.istore_n 2, 1) := by decide +kernel
theorem dX10_checked_3 : decode cX10_checked 3 = .ok (.iconst 0, 1) := by decide +kernel
theorem dX10_checked_4 : decode cX10_checked 4 = .ok (.istore_n 3, 1) := by decide +kernel
theorem dX10_checked_5 : decode cX10_checked 5 = .ok (.iload_n 3, 1) := by decide +kernel
theorem dX10_checked_6 : decode cX10_checked 6 = .ok (.iload_n 1, 1) := by decide +kernel
theorem dX10_checked_7 : decode cX10_checked 7 = .ok (.if_icmp .ge 21, 3) := by decide +kernel
theorem dX10_checked_10 : decode cX10_checked 10 = .ok (.iconst 3, 1) := by decide +kernel
theorem dX10_checked_11 : decode cX10_checked 11 = .ok (.iload_n 2, 1) := by decide +kernel
theorem dX10_checked_12 : decode cX10_checked 12 = .ok (.imul, 1) := by decide +kernel
theorem dX10_checked_13 : decode cX10_checked 13 = .ok (.aload_n 0, 1) := by decide +kernel
theorem dX10_checked_14 : decode cX10_checked 14 = .ok (.iload_n 3, 1) := by decide +kernel
theorem dX10_checked_15 : decode cX10_checked 15 = .ok (.iaload, 1) := by decide +kernel
theorem dX10_checked_16 : decode cX10_checked 16 = .ok (.iadd, 1) := by decide +kernel
theorem dX10_checked_17 : decode cX10_checked 17 = .ok (.sipush 251, 3) := by decide +kernel
theorem dX10_checked_20 : decode cX10_checked 20 = .ok (.irem, 1) := by decide +kernel
theorem dX10_checked_21 : decode cX10_checked 21 = .ok (.istore_n 2, 1) := by decide +kernel
theorem dX10_checked_22 : decode cX10_checked 22 = .ok (.iinc 3 1, 3) := by decide +kernel
theorem dX10_checked_25 : decode cX10_checked 25 = .ok (.goto (-20), 3) := by decide +kernel
theorem dX10_checked_28 : decode cX10_checked 28 = .ok (.iload_n 2, 1) := by decide +kernel
theorem dX10_checked_29 : decode cX10_checked 29 = .ok (.ireturn, 1) := by decide +kernel
theorem dX10_crossing_0 : decode cX10_crossing 0 = .ok (.aload_n 0, 1) := by decide +kernel
theorem dX10_crossing_1 : decode cX10_crossing 1 = .ok (.aload_n 0, 1) := by decide +kernel
theorem dX10_crossing_2 : decode cX10_crossing 2 = .ok (.getfield 276, 3) := by decide +kernel
theorem dX10_crossing_5 : decode cX10_crossing 5 = .ok (.putfield 288, 3) := by decide +kernel
theorem dX10_crossing_8 : decode cX10_crossing 8 = .ok (.aload_n 0, 1) := by decide +kernel
theorem dX10_crossing_9 : decode cX10_crossing 9 = .ok (.iconst 0, 1) := by decide +kernel
theorem dX10_crossing_10 : decode cX10_crossing 10 = .ok (.putfield 276, 3) := by decide +kernel
theorem dX10_crossing_13 : decode cX10_crossing 13 = .ok (.aload_n 0, 1) := by decide +kernel
theorem dX10_crossing_14 : decode cX10_crossing 14 = .ok (.iconst 0, 1) := by decide +kernel
theorem dX10_crossing_15 : decode cX10_crossing 15 = .ok (.putfield 285, 3) := by decide +kernel
theorem dX10_crossing_18 : decode cX10_crossing 18 = .ok (.aload_n 0, 1) := by decide +kernel
theorem dX10_crossing_19 : decode cX10_crossing 19 = .ok (.iconst (-1), 1) := by decide +kernel
theorem dX10_crossing_20 : decode cX10_crossing 20 = .ok (.putfield 299, 3) := by decide +kernel
theorem dX10_crossing_23 : decode cX10_crossing 23 = .ok (.aload_n 0, 1) := by decide +kernel
theorem dX10_crossing_24 : decode cX10_crossing 24 = .ok (.iconst 0, 1) := by decide +kernel
theorem dX10_crossing_25 : decode cX10_crossing 25 = .ok (.putfield 279, 3) := by decide +kernel
theorem dX10_crossing_28 : decode cX10_crossing 28 = .ok (.aload_n 0, 1) := by decide +kernel
theorem dX10_crossing_29 : decode cX10_crossing 29 = .ok (.iconst (-1), 1) := by decide +kernel
theorem dX10_crossing_30 : decode cX10_crossing 30 = .ok (.putfield 282, 3) := by decide +kernel
theorem dX10_crossing_33 : decode cX10_crossing 33 = .ok (.aload_n 0, 1) := by decide +kernel
theorem dX10_crossing_34 : decode cX10_crossing 34 = .ok (.iconst 0, 1) := by decide +kernel
theorem dX10_crossing_35 : decode cX10_crossing 35 = .ok (.putfield 387, 3) := by decide +kernel
theorem dX10_crossing_38 : decode cX10_crossing 38 = .ok (.aload_n 0, 1) := by decide +kernel
theorem dX10_crossing_39 : decode cX10_crossing 39 = .ok (.getfield 111, 3) := by decide +kernel
theorem dX10_crossing_42 : decode cX10_crossing 42 = .ok (.iconst 0, 1) := by decide +kernel
theorem dX10_crossing_43 : decode cX10_crossing 43 = .ok (.iconst 0, 1) := by decide +kernel
theorem dX10_crossing_44 : decode cX10_crossing 44 = .ok (.iastore, 1) := by decide +kernel
theorem dX10_crossing_45 : decode cX10_crossing 45 = .ok (.aload_n 0, 1) := by decide +kernel
theorem dX10_crossing_46 : decode cX10_crossing 46 = .ok (.getfield 111, 3) := by decide +kernel
theorem dX10_crossing_49 : decode cX10_crossing 49 = .ok (.iconst 1, 1) := by decide +kernel
theorem dX10_crossing_50 : decode cX10_crossing 50 = .ok (.iconst 0, 1) := by decide +kernel
theorem dX10_crossing_51 : decode cX10_crossing 51 = .ok (.iastore, 1) := by decide +kernel
theorem dX10_crossing_52 : decode cX10_crossing 52 = .ok (.iconst 0, 1) := by decide +kernel
theorem dX10_crossing_53 : decode cX10_crossing 53 = .ok (.istore_n 1, 1) := by decide +kernel
theorem dX10_crossing_54 : decode cX10_crossing 54 = .ok (.iload_n 1, 1) := by decide +kernel
theorem dX10_crossing_55 : decode cX10_crossing 55 = .ok (.iconst 3, 1) := by decide +kernel
theorem dX10_crossing_56 : decode cX10_crossing 56 = .ok (.if_icmp .ge 16, 3) := by decide +kernel
theorem dX10_crossing_59 : decode cX10_crossing 59 = .ok (.aload_n 0, 1) := by decide +kernel
theorem dX10_crossing_60 : decode cX10_crossing 60 = .ok (.getfield 130, 3) := by decide +kernel
theorem dX10_crossing_63 : decode cX10_crossing 63 = .ok (.iload_n 1, 1) := by decide +kernel
theorem dX10_crossing_64 : decode cX10_crossing 64 = .ok (.iconst (-1), 1) := by decide +kernel
theorem dX10_crossing_65 : decode cX10_crossing 65 = .ok (.iastore, 1) := by decide +kernel
theorem dX10_crossing_66 : decode cX10_crossing 66 = .ok (.iinc 1 1, 3) := by decide +kernel
theorem dX10_crossing_69 : decode cX10_crossing 69 = .ok (.goto (-15), 3) := by decide +kernel
theorem dX10_crossing_72 : decode cX10_crossing 72 = .ok (.aload_n 0, 1) := by decide +kernel
theorem dX10_crossing_73 : decode cX10_crossing 73 = .ok (.iconst 0, 1) := by decide +kernel
theorem dX10_crossing_74 : decode cX10_crossing 74 = .ok (.putfield 402, 3) := by decide +kernel
theorem dX10_crossing_77 : decode cX10_crossing 77 = .ok (.aload_n 0, 1) := by decide +kernel
theorem dX10_crossing_78 : decode cX10_crossing 78 = .ok (.invokevirtual 405, 3) := by decide +kernel
theorem dX10_crossing_81 : decode cX10_crossing 81 = .ok (.aload_n 0, 1) := by decide +kernel
theorem dX10_crossing_82 : decode cX10_crossing 82 = .ok (.iconst 1, 1) := by decide +kernel
theorem dX10_crossing_83 : decode cX10_crossing 83 = .ok (.putfield 390, 3) := by decide +kernel
theorem dX10_crossing_86 : decode cX10_crossing 86 = .ok (.aload_n 0, 1) := by decide +kernel
theorem dX10_crossing_87 : decode cX10_crossing 87 = .ok (.getfield 279, 3) := by decide +kernel
theorem dX10_crossing_90 : decode cX10_crossing 90 = .ok (.ifCond .ne 18, 3) := by decide +kernel
theorem dX10_crossing_108 : decode cX10_crossing 108 = .ok (.aload_n 0, 1) := by decide +kernel
theorem dX10_crossing_109 : decode cX10_crossing 109 = .ok (.aload_n 0, 1) := by decide +kernel
theorem dX10_crossing_110 : decode cX10_crossing 110 = .ok (.getfield 279, 3) := by decide +kernel
theorem dX10_crossing_113 : decode cX10_crossing 113 = .ok (.putfield 411, 3) := by decide +kernel
theorem dX10_crossing_116 : decode cX10_crossing 116 = .ok (.aload_n 0, 1) := by decide +kernel
theorem dX10_crossing_117 : decode cX10_crossing 117 = .ok (.aload_n 0, 1) := by decide +kernel
theorem dX10_crossing_118 : decode cX10_crossing 118 = .ok (.getfield 282, 3) := by decide +kernel
theorem dX10_crossing_121 : decode cX10_crossing 121 = .ok (.putfield 13, 3) := by decide +kernel
theorem dX10_crossing_124 : decode cX10_crossing 124 = .ok (.aload_n 0, 1) := by decide +kernel
theorem dX10_crossing_125 : decode cX10_crossing 125 = .ok (.getfield 279, 3) := by decide +kernel
theorem dX10_crossing_128 : decode cX10_crossing 128 = .ok (.ifCond .eq 15, 3) := by decide +kernel
theorem dX10_crossing_131 : decode cX10_crossing 131 = .ok (.aload_n 0, 1) := by decide +kernel
theorem dX10_crossing_132 : decode cX10_crossing 132 = .ok (.getfield 17, 3) := by decide +kernel
theorem dX10_crossing_135 : decode cX10_crossing 135 = .ok (.iconst 1, 1) := by decide +kernel
theorem dX10_crossing_136 : decode cX10_crossing 136 = .ok (.dup2, 1) := by decide +kernel
theorem dX10_crossing_137 : decode cX10_crossing 137 = .ok (.iaload, 1) := by decide +kernel
theorem dX10_crossing_138 : decode cX10_crossing 138 = .ok (.iconst 1, 1) := by decide +kernel
theorem dX10_crossing_139 : decode cX10_crossing 139 = .ok (.iadd, 1) := by decide +kernel
theorem dX10_crossing_140 : decode cX10_crossing 140 = .ok (.iastore, 1) := by decide +kernel
theorem dX10_crossing_141 : decode cX10_crossing 141 = .ok (.iconst (-1), 1) := by decide +kernel
theorem dX10_crossing_142 : decode cX10_crossing 142 = .ok (.ireturn, 1) := by decide +kernel
theorem dX10_day_0 : decode cX10_day 0 = .ok (.aload_n 0, 1) := by decide +kernel
theorem dX10_day_1 : decode cX10_day 1 = .ok (.getfield 417, 3) := by decide +kernel
theorem dX10_day_4 : decode cX10_day 4 = .ok (.ifCond .eq 15, 3) := by decide +kernel
theorem dX10_day_19 : decode cX10_day 19 = .ok (.iconst (-1), 1) := by decide +kernel
theorem dX10_day_20 : decode cX10_day 20 = .ok (.ireturn, 1) := by decide +kernel
theorem dX10_days_0 : decode cX10_days 0 = .ok (.aload_n 0, 1) := by decide +kernel
theorem dX10_days_1 : decode cX10_days 1 = .ok (.iload_n 1, 1) := by decide +kernel
theorem dX10_days_2 : decode cX10_days 2 = .ok (.iconst 1, 1) := by decide +kernel
theorem dX10_days_3 : decode cX10_days 3 = .ok (.bipush 30, 2) := by decide +kernel
theorem dX10_days_5 : decode cX10_days 5 = .ok (.invokevirtual 554, 3) := by decide +kernel
theorem dX10_days_8 : decode cX10_days 8 = .ok (.ifCond .ne 9, 3) := by decide +kernel
theorem dX10_days_11 : decode cX10_days 11 = .ok (.aload_n 0, 1) := by decide +kernel
theorem dX10_days_12 : decode cX10_days 12 = .ok (.iconst 3, 1) := by decide +kernel
theorem dX10_days_13 : decode cX10_days 13 = .ok (.invokevirtual 567, 3) := by decide +kernel
theorem dX10_days_16 : decode cX10_days 16 = .ok (.ireturn, 1) := by decide +kernel
theorem dX10_doubts_0 : decode cX10_doubts 0 = .ok (.aload_n 0, 1) := by decide +kernel
theorem dX10_doubts_1 : decode cX10_doubts 1 = .ok (.iload_n 1, 1) := by decide +kernel
theorem dX10_doubts_2 : decode cX10_doubts 2 = .ok (.invokevirtual 528, 3) := by decide +kernel
theorem dX10_doubts_5 : decode cX10_doubts 5 = .ok (.ifCond .ne 5, 3) := by decide +kernel
theorem dX10_doubts_8 : decode cX10_doubts 8 = .ok (.iconst (-1), 1) := by decide +kernel
theorem dX10_doubts_9 : decode cX10_doubts 9 = .ok (.ireturn, 1) := by decide +kernel
theorem dX10_end_0 : decode cX10_end 0 = .ok (.iload_n 1, 1) := by decide +kernel
theorem dX10_end_1 : decode cX10_end 1 = .ok (.ifCond .lt 11, 3) := by decide +kernel
theorem dX10_end_4 : decode cX10_end 4 = .ok (.iload_n 1, 1) := by decide +kernel
theorem dX10_end_5 : decode cX10_end 5 = .ok (.aload_n 0, 1) := by decide +kernel
theorem dX10_end_6 : decode cX10_end 6 = .ok (.getfield 276, 3) := by decide +kernel
theorem dX10_end_9 : decode cX10_end 9 = .ok (.if_icmp .le 15, 3) := by decide +kernel
theorem dX10_end_12 : decode cX10_end 12 = .ok (.aload_n 0, 1) := by decide +kernel
theorem dX10_end_13 : decode cX10_end 13 = .ok (.getfield 17, 3) := by decide +kernel
theorem dX10_end_16 : decode cX10_end 16 = .ok (.iconst 0, 1) := by decide +kernel
theorem dX10_end_17 : decode cX10_end 17 = .ok (.dup2, 1) := by decide +kernel
theorem dX10_end_18 : decode cX10_end 18 = .ok (.iaload, 1) := by decide +kernel
theorem dX10_end_19 : decode cX10_end 19 = .ok (.iconst 1, 1) := by decide +kernel
theorem dX10_end_20 : decode cX10_end 20 = .ok (.iadd, 1) := by decide +kernel
theorem dX10_end_21 : decode cX10_end 21 = .ok (.iastore, 1) := by decide +kernel
theorem dX10_end_22 : decode cX10_end 22 = .ok (.iconst 0, 1) := by decide +kernel
theorem dX10_end_23 : decode cX10_end 23 = .ok (.ireturn, 1) := by decide +kernel
theorem dX10_end_24 : decode cX10_end 24 = .ok (.aload_n 0, 1) := by decide +kernel
theorem dX10_end_25 : decode cX10_end 25 = .ok (.iload_n 1, 1) := by decide +kernel
theorem dX10_end_26 : decode cX10_end 26 = .ok (.putfield 276, 3) := by decide +kernel
theorem dX10_end_29 : decode cX10_end 29 = .ok (.iconst 1, 1) := by decide +kernel
theorem dX10_end_30 : decode cX10_end 30 = .ok (.ireturn, 1) := by decide +kernel
theorem dX10_fail_0 : decode cX10_fail 0 = .ok (.aload_n 0, 1) := by decide +kernel
theorem dX10_fail_1 : decode cX10_fail 1 = .ok (.getfield 279, 3) := by decide +kernel
theorem dX10_fail_4 : decode cX10_fail 4 = .ok (.ifCond .eq 4, 3) := by decide +kernel
theorem dX10_fail_8 : decode cX10_fail 8 = .ok (.aload_n 0, 1) := by decide +kernel
theorem dX10_fail_9 : decode cX10_fail 9 = .ok (.iload_n 1, 1) := by decide +kernel
theorem dX10_fail_10 : decode cX10_fail 10 = .ok (.putfield 279, 3) := by decide +kernel
theorem dX10_fail_13 : decode cX10_fail 13 = .ok (.aload_n 0, 1) := by decide +kernel
theorem dX10_fail_14 : decode cX10_fail 14 = .ok (.iload_n 2, 1) := by decide +kernel
theorem dX10_fail_15 : decode cX10_fail 15 = .ok (.putfield 282, 3) := by decide +kernel
theorem dX10_fail_18 : decode cX10_fail 18 = .ok (.return_, 1) := by decide +kernel
theorem dX10_fault_0 : decode cX10_fault 0 = .ok (.iload_n 1, 1) := by decide +kernel
theorem dX10_fault_1 : decode cX10_fault 1 = .ok (.ifCond .ne 10, 3) := by decide +kernel
theorem dX10_fault_4 : decode cX10_fault 4 = .ok (.aload_n 0, 1) := by decide +kernel
theorem dX10_fault_5 : decode cX10_fault 5 = .ok (.getfield 411, 3) := by decide +kernel
theorem dX10_fault_8 : decode cX10_fault 8 = .ok (.goto 16, 3) := by decide +kernel
theorem dX10_fault_11 : decode cX10_fault 11 = .ok (.iload_n 1, 1) := by decide +kernel
theorem dX10_fault_12 : decode cX10_fault 12 = .ok (.iconst 1, 1) := by decide +kernel
theorem dX10_fault_13 : decode cX10_fault 13 = .ok (.if_icmp .ne 10, 3) := by decide +kernel
theorem dX10_fault_16 : decode cX10_fault 16 = .ok (.aload_n 0, 1) := by decide +kernel
theorem dX10_fault_17 : decode cX10_fault 17 = .ok (.getfield 13, 3) := by decide +kernel
theorem dX10_fault_20 : decode cX10_fault 20 = .ok (.goto 4, 3) := by decide +kernel
theorem dX10_fault_23 : decode cX10_fault 23 = .ok (.iconst (-1), 1) := by decide +kernel
theorem dX10_fault_24 : decode cX10_fault 24 = .ok (.ireturn, 1) := by decide +kernel
theorem dX10_feed_0 : decode cX10_feed 0 = .ok (.aload_n 0, 1) := by decide +kernel
theorem dX10_feed_1 : decode cX10_feed 1 = .ok (.getfield 276, 3) := by decide +kernel
theorem dX10_feed_4 : decode cX10_feed 4 = .ok (.bipush 20, 2) := by decide +kernel
theorem dX10_feed_6 : decode cX10_feed 6 = .ok (.iadd, 1) := by decide +kernel
theorem dX10_feed_7 : decode cX10_feed 7 = .ok (.sipush 1600, 3) := by decide +kernel
theorem dX10_feed_10 : decode cX10_feed 10 = .ok (.if_icmp .le 15, 3) := by decide +kernel
theorem dX10_feed_25 : decode cX10_feed 25 = .ok (.iconst 0, 1) := by decide +kernel
theorem dX10_feed_26 : decode cX10_feed 26 = .ok (.istore 6, 2) := by decide +kernel
theorem dX10_feed_28 : decode cX10_feed 28 = .ok (.iload 6, 2) := by decide +kernel
theorem dX10_feed_30 : decode cX10_feed 30 = .ok (.bipush 20, 2) := by decide +kernel
theorem dX10_feed_32 : decode cX10_feed 32 = .ok (.if_icmp .ge 92, 3) := by decide +kernel
theorem dX10_feed_35 : decode cX10_feed 35 = .ok (.iload 6, 2) := by decide +kernel
theorem dX10_feed_37 : decode cX10_feed 37 = .ok (.iconst 4, 1) := by decide +kernel
theorem dX10_feed_38 : decode cX10_feed 38 = .ok (.if_icmp .ge 7, 3) := by decide +kernel
theorem dX10_feed_41 : decode cX10_feed 41 = .ok (.iload_n 1, 1) := by decide +kernel
theorem dX10_feed_42 : decode cX10_feed 42 = .ok (.goto 39, 3) := by decide +kernel
theorem dX10_feed_45 : decode cX10_feed 45 = .ok (.iload 6, 2) := by decide +kernel
theorem dX10_feed_47 : decode cX10_feed 47 = .ok (.bipush 8, 2) := by decide +kernel
theorem dX10_feed_49 : decode cX10_feed 49 = .ok (.if_icmp .ge 7, 3) := by decide +kernel
theorem dX10_feed_52 : decode cX10_feed 52 = .ok (.iload_n 2, 1) := by decide +kernel
theorem dX10_feed_53 : decode cX10_feed 53 = .ok (.goto 28, 3) := by decide +kernel
theorem dX10_feed_56 : decode cX10_feed 56 = .ok (.iload 6, 2) := by decide +kernel
theorem dX10_feed_58 : decode cX10_feed 58 = .ok (.bipush 12, 2) := by decide +kernel
theorem dX10_feed_60 : decode cX10_feed 60 = .ok (.if_icmp .ge 7, 3) := by decide +kernel
theorem dX10_feed_63 : decode cX10_feed 63 = .ok (.iload_n 3, 1) := by decide +kernel
theorem dX10_feed_64 : decode cX10_feed 64 = .ok (.goto 17, 3) := by decide +kernel
theorem dX10_feed_67 : decode cX10_feed 67 = .ok (.iload 6, 2) := by decide +kernel
theorem dX10_feed_69 : decode cX10_feed 69 = .ok (.bipush 16, 2) := by decide +kernel
theorem dX10_feed_71 : decode cX10_feed 71 = .ok (.if_icmp .ge 8, 3) := by decide +kernel
theorem dX10_feed_74 : decode cX10_feed 74 = .ok (.iload 4, 2) := by decide +kernel
theorem dX10_feed_76 : decode cX10_feed 76 = .ok (.goto 5, 3) := by decide +kernel
theorem dX10_feed_79 : decode cX10_feed 79 = .ok (.iload 5, 2) := by decide +kernel
theorem dX10_feed_81 : decode cX10_feed 81 = .ok (.istore 7, 2) := by decide +kernel
theorem dX10_feed_83 : decode cX10_feed 83 = .ok (.aload_n 0, 1) := by decide +kernel
theorem dX10_feed_84 : decode cX10_feed 84 = .ok (.getfield 7, 3) := by decide +kernel
theorem dX10_feed_87 : decode cX10_feed 87 = .ok (.aload_n 0, 1) := by decide +kernel
theorem dX10_feed_88 : decode cX10_feed 88 = .ok (.getfield 276, 3) := by decide +kernel
theorem dX10_feed_91 : decode cX10_feed 91 = .ok (.iload 7, 2) := by decide +kernel
theorem dX10_feed_93 : decode cX10_feed 93 = .ok (.bipush 8, 2) := by decide +kernel
theorem dX10_feed_95 : decode cX10_feed 95 = .ok (.iconst 3, 1) := by decide +kernel
theorem dX10_feed_96 : decode cX10_feed 96 = .ok (.iload 6, 2) := by decide +kernel
theorem dX10_feed_98 : decode cX10_feed 98 = .ok (.iconst 4, 1) := by decide +kernel
theorem dX10_feed_99 : decode cX10_feed 99 = .ok (.irem, 1) := by decide +kernel
theorem dX10_feed_100 : decode cX10_feed 100 = .ok (.isub, 1) := by decide +kernel
theorem dX10_feed_101 : decode cX10_feed 101 = .ok (.imul, 1) := by decide +kernel
theorem dX10_feed_102 : decode cX10_feed 102 = .ok (.ishr, 1) := by decide +kernel
theorem dX10_feed_103 : decode cX10_feed 103 = .ok (.sipush 255, 3) := by decide +kernel
theorem dX10_feed_106 : decode cX10_feed 106 = .ok (.iand, 1) := by decide +kernel
theorem dX10_feed_107 : decode cX10_feed 107 = .ok (.iastore, 1) := by decide +kernel
theorem dX10_feed_108 : decode cX10_feed 108 = .ok (.aload_n 0, 1) := by decide +kernel
theorem dX10_feed_109 : decode cX10_feed 109 = .ok (.dup, 1) := by decide +kernel
theorem dX10_feed_110 : decode cX10_feed 110 = .ok (.getfield 276, 3) := by decide +kernel
theorem dX10_feed_113 : decode cX10_feed 113 = .ok (.iconst 1, 1) := by decide +kernel
theorem dX10_feed_114 : decode cX10_feed 114 = .ok (.iadd, 1) := by decide +kernel
theorem dX10_feed_115 : decode cX10_feed 115 = .ok (.putfield 276, 3) := by decide +kernel
theorem dX10_feed_118 : decode cX10_feed 118 = .ok (.iinc 6 1, 3) := by decide +kernel
theorem dX10_feed_121 : decode cX10_feed 121 = .ok (.goto (-93), 3) := by decide +kernel
theorem dX10_feed_124 : decode cX10_feed 124 = .ok (.aload_n 0, 1) := by decide +kernel
theorem dX10_feed_125 : decode cX10_feed 125 = .ok (.getfield 276, 3) := by decide +kernel
theorem dX10_feed_128 : decode cX10_feed 128 = .ok (.ireturn, 1) := by decide +kernel
theorem dX10_fits_0 : decode cX10_fits 0 = .ok (.aload_n 0, 1) := by decide +kernel
theorem dX10_fits_1 : decode cX10_fits 1 = .ok (.getfield 417, 3) := by decide +kernel
theorem dX10_fits_4 : decode cX10_fits 4 = .ok (.ifCond .eq 15, 3) := by decide +kernel
theorem dX10_fits_19 : decode cX10_fits 19 = .ok (.iconst (-1), 1) := by decide +kernel
theorem dX10_fits_20 : decode cX10_fits 20 = .ok (.ireturn, 1) := by decide +kernel
theorem dX10_green_0 : decode cX10_green 0 = .ok (.aload_n 0, 1) := by decide +kernel
theorem dX10_green_1 : decode cX10_green 1 = .ok (.getfield 417, 3) := by decide +kernel
theorem dX10_green_4 : decode cX10_green 4 = .ok (.ifCond .eq 23, 3) := by decide +kernel
theorem dX10_green_27 : decode cX10_green 27 = .ok (.aload_n 0, 1) := by decide +kernel
theorem dX10_green_28 : decode cX10_green 28 = .ok (.invokevirtual 591, 3) := by decide +kernel
theorem dX10_green_31 : decode cX10_green 31 = .ok (.ireturn, 1) := by decide +kernel
theorem dX10_has_0 : decode cX10_has 0 = .ok (.iload_n 1, 1) := by decide +kernel
theorem dX10_has_1 : decode cX10_has 1 = .ok (.tableswitch 83 0 7 #[47, 54, 59, 64, 64, 64, 73, 78], 47) := by decide +kernel
theorem dX10_has_48 : decode cX10_has 48 = .ok (.aload_n 0, 1) := by decide +kernel
theorem dX10_has_49 : decode cX10_has 49 = .ok (.getfield 118, 3) := by decide +kernel
theorem dX10_has_52 : decode cX10_has 52 = .ok (.iconst 4, 1) := by decide +kernel
theorem dX10_has_53 : decode cX10_has 53 = .ok (.iaload, 1) := by decide +kernel
theorem dX10_has_54 : decode cX10_has 54 = .ok (.ireturn, 1) := by decide +kernel
theorem dX10_has_55 : decode cX10_has 55 = .ok (.aload_n 0, 1) := by decide +kernel
theorem dX10_has_56 : decode cX10_has 56 = .ok (.invokevirtual 430, 3) := by decide +kernel
theorem dX10_has_59 : decode cX10_has 59 = .ok (.ireturn, 1) := by decide +kernel
theorem dX10_has_60 : decode cX10_has 60 = .ok (.aload_n 0, 1) := by decide +kernel
theorem dX10_has_61 : decode cX10_has 61 = .ok (.invokevirtual 433, 3) := by decide +kernel
theorem dX10_has_64 : decode cX10_has 64 = .ok (.ireturn, 1) := by decide +kernel
theorem dX10_has_65 : decode cX10_has 65 = .ok (.aload_n 0, 1) := by decide +kernel
theorem dX10_has_66 : decode cX10_has 66 = .ok (.getfield 139, 3) := by decide +kernel
theorem dX10_has_69 : decode cX10_has 69 = .ok (.iload_n 1, 1) := by decide +kernel
theorem dX10_has_70 : decode cX10_has 70 = .ok (.iconst 3, 1) := by decide +kernel
theorem dX10_has_71 : decode cX10_has 71 = .ok (.isub, 1) := by decide +kernel
theorem dX10_has_72 : decode cX10_has 72 = .ok (.iaload, 1) := by decide +kernel
theorem dX10_has_73 : decode cX10_has 73 = .ok (.ireturn, 1) := by decide +kernel
theorem dX10_has_74 : decode cX10_has 74 = .ok (.aload_n 0, 1) := by decide +kernel
theorem dX10_has_75 : decode cX10_has 75 = .ok (.getfield 427, 3) := by decide +kernel
theorem dX10_has_78 : decode cX10_has 78 = .ok (.ireturn, 1) := by decide +kernel
theorem dX10_has_79 : decode cX10_has 79 = .ok (.aload_n 0, 1) := by decide +kernel
theorem dX10_has_80 : decode cX10_has 80 = .ok (.getfield 424, 3) := by decide +kernel
theorem dX10_has_83 : decode cX10_has 83 = .ok (.ireturn, 1) := by decide +kernel
theorem dX10_has_84 : decode cX10_has 84 = .ok (.iconst (-1), 1) := by decide +kernel
theorem dX10_has_85 : decode cX10_has 85 = .ok (.ireturn, 1) := by decide +kernel
theorem dX10_hold_0 : decode cX10_hold 0 = .ok (.aload_n 0, 1) := by decide +kernel
theorem dX10_hold_1 : decode cX10_hold 1 = .ok (.getfield 417, 3) := by decide +kernel
theorem dX10_hold_4 : decode cX10_hold 4 = .ok (.ifCond .ne 5, 3) := by decide +kernel
theorem dX10_hold_7 : decode cX10_hold 7 = .ok (.iconst (-1), 1) := by decide +kernel
theorem dX10_hold_8 : decode cX10_hold 8 = .ok (.ireturn, 1) := by decide +kernel
theorem dX10_image_0 : decode cX10_image 0 = .ok (.aload_n 0, 1) := by decide +kernel
theorem dX10_image_1 : decode cX10_image 1 = .ok (.iconst 0, 1) := by decide +kernel
theorem dX10_image_2 : decode cX10_image 2 = .ok (.putfield 699, 3) := by decide +kernel
theorem dX10_image_5 : decode cX10_image 5 = .ok (.aload_n 0, 1) := by decide +kernel
theorem dX10_image_6 : decode cX10_image 6 = .ok (.aload_n 0, 1) := by decide +kernel
theorem dX10_image_7 : decode cX10_image 7 = .ok (.getfield 139, 3) := by decide +kernel
theorem dX10_image_10 : decode cX10_image 10 = .ok (.iconst 0, 1) := by decide +kernel
theorem dX10_image_11 : decode cX10_image 11 = .ok (.iaload, 1) := by decide +kernel
theorem dX10_image_12 : decode cX10_image 12 = .ok (.sipush 256, 3) := by decide +kernel
theorem dX10_image_15 : decode cX10_image 15 = .ok (.idiv, 1) := by decide +kernel
theorem dX10_image_16 : decode cX10_image 16 = .ok (.invokevirtual 702, 3) := by decide +kernel
theorem dX10_image_19 : decode cX10_image 19 = .ok (.aload_n 0, 1) := by decide +kernel
theorem dX10_image_20 : decode cX10_image 20 = .ok (.aload_n 0, 1) := by decide +kernel
theorem dX10_image_21 : decode cX10_image 21 = .ok (.getfield 139, 3) := by decide +kernel
theorem dX10_image_24 : decode cX10_image 24 = .ok (.iconst 0, 1) := by decide +kernel
theorem dX10_image_25 : decode cX10_image 25 = .ok (.iaload, 1) := by decide +kernel
theorem dX10_image_26 : decode cX10_image 26 = .ok (.sipush 256, 3) := by decide +kernel
theorem dX10_image_29 : decode cX10_image 29 = .ok (.irem, 1) := by decide +kernel
theorem dX10_image_30 : decode cX10_image 30 = .ok (.invokevirtual 702, 3) := by decide +kernel
theorem dX10_image_33 : decode cX10_image 33 = .ok (.aload_n 0, 1) := by decide +kernel
theorem dX10_image_34 : decode cX10_image 34 = .ok (.aload_n 0, 1) := by decide +kernel
theorem dX10_image_35 : decode cX10_image 35 = .ok (.getfield 139, 3) := by decide +kernel
theorem dX10_image_38 : decode cX10_image 38 = .ok (.iconst 1, 1) := by decide +kernel
theorem dX10_image_39 : decode cX10_image 39 = .ok (.iaload, 1) := by decide +kernel
theorem dX10_image_40 : decode cX10_image 40 = .ok (.invokevirtual 702, 3) := by decide +kernel
theorem dX10_image_43 : decode cX10_image 43 = .ok (.aload_n 0, 1) := by decide +kernel
theorem dX10_image_44 : decode cX10_image 44 = .ok (.aload_n 0, 1) := by decide +kernel
theorem dX10_image_45 : decode cX10_image 45 = .ok (.getfield 139, 3) := by decide +kernel
theorem dX10_image_48 : decode cX10_image 48 = .ok (.iconst 2, 1) := by decide +kernel
theorem dX10_image_49 : decode cX10_image 49 = .ok (.iaload, 1) := by decide +kernel
theorem dX10_image_50 : decode cX10_image 50 = .ok (.invokevirtual 702, 3) := by decide +kernel
theorem dX10_image_53 : decode cX10_image 53 = .ok (.iconst 0, 1) := by decide +kernel
theorem dX10_image_54 : decode cX10_image 54 = .ok (.istore_n 1, 1) := by decide +kernel
theorem dX10_image_55 : decode cX10_image 55 = .ok (.iload_n 1, 1) := by decide +kernel
theorem dX10_image_56 : decode cX10_image 56 = .ok (.aload_n 0, 1) := by decide +kernel
theorem dX10_image_57 : decode cX10_image 57 = .ok (.invokevirtual 430, 3) := by decide +kernel
theorem dX10_image_60 : decode cX10_image 60 = .ok (.if_icmp .ge 18, 3) := by decide +kernel
theorem dX10_image_78 : decode cX10_image 78 = .ok (.aload_n 0, 1) := by decide +kernel
theorem dX10_image_79 : decode cX10_image 79 = .ok (.aload_n 0, 1) := by decide +kernel
theorem dX10_image_80 : decode cX10_image 80 = .ok (.getfield 273, 3) := by decide +kernel
theorem dX10_image_83 : decode cX10_image 83 = .ok (.aload_n 0, 1) := by decide +kernel
theorem dX10_image_84 : decode cX10_image 84 = .ok (.getfield 699, 3) := by decide +kernel
theorem dX10_image_87 : decode cX10_image 87 = .ok (.invokestatic 705, 3) := by decide +kernel
theorem dX10_image_90 : decode cX10_image 90 = .ok (.invokevirtual 702, 3) := by decide +kernel
theorem dX10_image_93 : decode cX10_image 93 = .ok (.aload_n 0, 1) := by decide +kernel
theorem dX10_image_94 : decode cX10_image 94 = .ok (.getfield 699, 3) := by decide +kernel
theorem dX10_image_97 : decode cX10_image 97 = .ok (.ireturn, 1) := by decide +kernel
theorem dX10_isAhead_0 : decode cX10_isAhead 0 = .ok (.aload_n 0, 1) := by decide +kernel
theorem dX10_isAhead_1 : decode cX10_isAhead 1 = .ok (.getfield 417, 3) := by decide +kernel
theorem dX10_isAhead_4 : decode cX10_isAhead 4 = .ok (.ifCond .eq 33, 3) := by decide +kernel
theorem dX10_isAhead_37 : decode cX10_isAhead 37 = .ok (.iconst 0, 1) := by decide +kernel
theorem dX10_isAhead_38 : decode cX10_isAhead 38 = .ok (.ireturn, 1) := by decide +kernel
theorem dX10_isHere_0 : decode cX10_isHere 0 = .ok (.aload_n 0, 1) := by decide +kernel
theorem dX10_isHere_1 : decode cX10_isHere 1 = .ok (.getfield 279, 3) := by decide +kernel
theorem dX10_isHere_4 : decode cX10_isHere 4 = .ok (.ifCond .ne 24, 3) := by decide +kernel
theorem dX10_isHere_7 : decode cX10_isHere 7 = .ok (.aload_n 0, 1) := by decide +kernel
theorem dX10_isHere_8 : decode cX10_isHere 8 = .ok (.invokevirtual 291, 3) := by decide +kernel
theorem dX10_isHere_11 : decode cX10_isHere 11 = .ok (.invokestatic 295, 3) := by decide +kernel
theorem dX10_isHere_14 : decode cX10_isHere 14 = .ok (.ifCond .eq 14, 3) := by decide +kernel
theorem dX10_isHere_28 : decode cX10_isHere 28 = .ok (.iconst 0, 1) := by decide +kernel
theorem dX10_isHere_29 : decode cX10_isHere 29 = .ok (.ireturn, 1) := by decide +kernel
theorem dX10_isImage_0 : decode cX10_isImage 0 = .ok (.aload_n 0, 1) := by decide +kernel
theorem dX10_isImage_1 : decode cX10_isImage 1 = .ok (.getfield 417, 3) := by decide +kernel
theorem dX10_isImage_4 : decode cX10_isImage 4 = .ok (.ifCond .eq 82, 3) := by decide +kernel
theorem dX10_isImage_86 : decode cX10_isImage 86 = .ok (.iconst 0, 1) := by decide +kernel
theorem dX10_isImage_87 : decode cX10_isImage 87 = .ok (.ireturn, 1) := by decide +kernel
theorem dX10_isIn_0 : decode cX10_isIn 0 = .ok (.lload_n 0, 1) := by decide +kernel
theorem dX10_isIn_1 : decode cX10_isIn 1 = .ok (.lload_n 2, 1) := by decide +kernel
theorem dX10_isIn_2 : decode cX10_isIn 2 = .ok (.lcmp, 1) := by decide +kernel
theorem dX10_isIn_3 : decode cX10_isIn 3 = .ok (.ifCond .lt 14, 3) := by decide +kernel
theorem dX10_isIn_6 : decode cX10_isIn 6 = .ok (.lload_n 0, 1) := by decide +kernel
theorem dX10_isIn_7 : decode cX10_isIn 7 = .ok (.lload 4, 2) := by decide +kernel
theorem dX10_isIn_9 : decode cX10_isIn 9 = .ok (.lcmp, 1) := by decide +kernel
theorem dX10_isIn_10 : decode cX10_isIn 10 = .ok (.ifCond .gt 7, 3) := by decide +kernel
theorem dX10_isIn_13 : decode cX10_isIn 13 = .ok (.iconst 1, 1) := by decide +kernel
theorem dX10_isIn_14 : decode cX10_isIn 14 = .ok (.goto 4, 3) := by decide +kernel
theorem dX10_isIn_17 : decode cX10_isIn 17 = .ok (.iconst 0, 1) := by decide +kernel
theorem dX10_isIn_18 : decode cX10_isIn 18 = .ok (.ireturn, 1) := by decide +kernel
theorem dX10_isKind_0 : decode cX10_isKind 0 = .ok (.iload_n 1, 1) := by decide +kernel
theorem dX10_isKind_1 : decode cX10_isKind 1 = .ok (.i2l, 1) := by decide +kernel
theorem dX10_isKind_2 : decode cX10_isKind 2 = .ok (.lconst 0, 1) := by decide +kernel
theorem dX10_isKind_3 : decode cX10_isKind 3 = .ok (.aload_n 0, 1) := by decide +kernel
theorem dX10_isKind_4 : decode cX10_isKind 4 = .ok (.invokevirtual 430, 3) := by decide +kernel
theorem dX10_isKind_7 : decode cX10_isKind 7 = .ok (.iconst 1, 1) := by decide +kernel
theorem dX10_isKind_8 : decode cX10_isKind 8 = .ok (.isub, 1) := by decide +kernel
theorem dX10_isKind_9 : decode cX10_isKind 9 = .ok (.i2l, 1) := by decide +kernel
theorem dX10_isKind_10 : decode cX10_isKind 10 = .ok (.invokestatic 318, 3) := by decide +kernel
theorem dX10_isKind_13 : decode cX10_isKind 13 = .ok (.ireturn, 1) := by decide +kernel
theorem dX10_isLetter_0 : decode cX10_isLetter 0 = .ok (.iload_n 0, 1) := by decide +kernel
theorem dX10_isLetter_1 : decode cX10_isLetter 1 = .ok (.bipush 97, 2) := by decide +kernel
theorem dX10_isLetter_3 : decode cX10_isLetter 3 = .ok (.if_icmp .lt 13, 3) := by decide +kernel
theorem dX10_isLetter_16 : decode cX10_isLetter 16 = .ok (.iconst 0, 1) := by decide +kernel
theorem dX10_isLetter_17 : decode cX10_isLetter 17 = .ok (.ireturn, 1) := by decide +kernel
theorem dX10_isRefused_0 : decode cX10_isRefused 0 = .ok (.aload_n 0, 1) := by decide +kernel
theorem dX10_isRefused_1 : decode cX10_isRefused 1 = .ok (.getfield 17, 3) := by decide +kernel
theorem dX10_isRefused_4 : decode cX10_isRefused 4 = .ok (.iconst 2, 1) := by decide +kernel
theorem dX10_isRefused_5 : decode cX10_isRefused 5 = .ok (.dup2, 1) := by decide +kernel
theorem dX10_isRefused_6 : decode cX10_isRefused 6 = .ok (.iaload, 1) := by decide +kernel
theorem dX10_isRefused_7 : decode cX10_isRefused 7 = .ok (.iconst 1, 1) := by decide +kernel
theorem dX10_isRefused_8 : decode cX10_isRefused 8 = .ok (.iadd, 1) := by decide +kernel
theorem dX10_isRefused_9 : decode cX10_isRefused 9 = .ok (.iastore, 1) := by decide +kernel
theorem dX10_isRefused_10 : decode cX10_isRefused 10 = .ok (.iconst 0, 1) := by decide +kernel
theorem dX10_isRefused_11 : decode cX10_isRefused 11 = .ok (.ireturn, 1) := by decide +kernel
theorem dX10_isWalker_0 : decode cX10_isWalker 0 = .ok (.iload_n 1, 1) := by decide +kernel
theorem dX10_isWalker_1 : decode cX10_isWalker 1 = .ok (.i2l, 1) := by decide +kernel
theorem dX10_isWalker_2 : decode cX10_isWalker 2 = .ok (.lconst 0, 1) := by decide +kernel
theorem dX10_isWalker_3 : decode cX10_isWalker 3 = .ok (.aload_n 0, 1) := by decide +kernel
theorem dX10_isWalker_4 : decode cX10_isWalker 4 = .ok (.invokevirtual 433, 3) := by decide +kernel
theorem dX10_isWalker_7 : decode cX10_isWalker 7 = .ok (.iconst 1, 1) := by decide +kernel
theorem dX10_isWalker_8 : decode cX10_isWalker 8 = .ok (.isub, 1) := by decide +kernel
theorem dX10_isWalker_9 : decode cX10_isWalker 9 = .ok (.i2l, 1) := by decide +kernel
theorem dX10_isWalker_10 : decode cX10_isWalker 10 = .ok (.invokestatic 318, 3) := by decide +kernel
theorem dX10_isWalker_13 : decode cX10_isWalker 13 = .ok (.ireturn, 1) := by decide +kernel
theorem dX10_kind_0 : decode cX10_kind 0 = .ok (.aload_n 0, 1) := by decide +kernel
theorem dX10_kind_1 : decode cX10_kind 1 = .ok (.iload_n 1, 1) := by decide +kernel
theorem dX10_kind_2 : decode cX10_kind 2 = .ok (.invokevirtual 528, 3) := by decide +kernel
theorem dX10_kind_5 : decode cX10_kind 5 = .ok (.ifCond .ne 5, 3) := by decide +kernel
theorem dX10_kind_8 : decode cX10_kind 8 = .ok (.iconst (-1), 1) := by decide +kernel
theorem dX10_kind_9 : decode cX10_kind 9 = .ok (.ireturn, 1) := by decide +kernel
theorem dX10_kindMany_0 : decode cX10_kindMany 0 = .ok (.aload_n 0, 1) := by decide +kernel
theorem dX10_kindMany_1 : decode cX10_kindMany 1 = .ok (.getfield 111, 3) := by decide +kernel
theorem dX10_kindMany_4 : decode cX10_kindMany 4 = .ok (.iconst 2, 1) := by decide +kernel
theorem dX10_kindMany_5 : decode cX10_kindMany 5 = .ok (.iaload, 1) := by decide +kernel
theorem dX10_kindMany_6 : decode cX10_kindMany 6 = .ok (.ireturn, 1) := by decide +kernel
theorem dX10_later_0 : decode cX10_later 0 = .ok (.aload_n 0, 1) := by decide +kernel
theorem dX10_later_1 : decode cX10_later 1 = .ok (.iload_n 1, 1) := by decide +kernel
theorem dX10_later_2 : decode cX10_later 2 = .ok (.iconst 0, 1) := by decide +kernel
theorem dX10_later_3 : decode cX10_later 3 = .ok (.bipush 29, 2) := by decide +kernel
theorem dX10_later_5 : decode cX10_later 5 = .ok (.invokevirtual 554, 3) := by decide +kernel
theorem dX10_later_8 : decode cX10_later 8 = .ok (.ifCond .eq 15, 3) := by decide +kernel
theorem dX10_later_23 : decode cX10_later 23 = .ok (.iconst (-1), 1) := by decide +kernel
theorem dX10_later_24 : decode cX10_later 24 = .ok (.ireturn, 1) := by decide +kernel
theorem dX10_least_0 : decode cX10_least 0 = .ok (.aload_n 0, 1) := by decide +kernel
theorem dX10_least_1 : decode cX10_least 1 = .ok (.getfield 417, 3) := by decide +kernel
theorem dX10_least_4 : decode cX10_least 4 = .ok (.ifCond .ne 5, 3) := by decide +kernel
theorem dX10_least_7 : decode cX10_least 7 = .ok (.iconst (-1), 1) := by decide +kernel
theorem dX10_least_8 : decode cX10_least 8 = .ok (.ireturn, 1) := by decide +kernel
theorem dX10_letter_0 : decode cX10_letter 0 = .ok (.iload_n 1, 1) := by decide +kernel
theorem dX10_letter_1 : decode cX10_letter 1 = .ok (.i2l, 1) := by decide +kernel
theorem dX10_letter_2 : decode cX10_letter 2 = .ok (.lconst 0, 1) := by decide +kernel
theorem dX10_letter_3 : decode cX10_letter 3 = .ok (.lconst 1, 1) := by decide +kernel
theorem dX10_letter_4 : decode cX10_letter 4 = .ok (.invokestatic 318, 3) := by decide +kernel
theorem dX10_letter_7 : decode cX10_letter 7 = .ok (.ifCond .eq 35, 3) := by decide +kernel
theorem dX10_letter_10 : decode cX10_letter 10 = .ok (.iload_n 2, 1) := by decide +kernel
theorem dX10_letter_11 : decode cX10_letter 11 = .ok (.i2l, 1) := by decide +kernel
theorem dX10_letter_12 : decode cX10_letter 12 = .ok (.lconst 0, 1) := by decide +kernel
theorem dX10_letter_13 : decode cX10_letter 13 = .ok (.aload_n 0, 1) := by decide +kernel
theorem dX10_letter_14 : decode cX10_letter 14 = .ok (.getfield 111, 3) := by decide +kernel
theorem dX10_letter_17 : decode cX10_letter 17 = .ok (.iconst 2, 1) := by decide +kernel
theorem dX10_letter_18 : decode cX10_letter 18 = .ok (.iload_n 1, 1) := by decide +kernel
theorem dX10_letter_19 : decode cX10_letter 19 = .ok (.iadd, 1) := by decide +kernel
theorem dX10_letter_20 : decode cX10_letter 20 = .ok (.iaload, 1) := by decide +kernel
theorem dX10_letter_21 : decode cX10_letter 21 = .ok (.iconst 1, 1) := by decide +kernel
theorem dX10_letter_22 : decode cX10_letter 22 = .ok (.isub, 1) := by decide +kernel
theorem dX10_letter_23 : decode cX10_letter 23 = .ok (.i2l, 1) := by decide +kernel
theorem dX10_letter_24 : decode cX10_letter 24 = .ok (.invokestatic 318, 3) := by decide +kernel
theorem dX10_letter_27 : decode cX10_letter 27 = .ok (.ifCond .eq 15, 3) := by decide +kernel
theorem dX10_letter_42 : decode cX10_letter 42 = .ok (.iconst (-1), 1) := by decide +kernel
theorem dX10_letter_43 : decode cX10_letter 43 = .ok (.ireturn, 1) := by decide +kernel
theorem dX10_light_0 : decode cX10_light 0 = .ok (.aload_n 0, 1) := by decide +kernel
theorem dX10_light_1 : decode cX10_light 1 = .ok (.getfield 417, 3) := by decide +kernel
theorem dX10_light_4 : decode cX10_light 4 = .ok (.ifCond .eq 15, 3) := by decide +kernel
theorem dX10_light_19 : decode cX10_light 19 = .ok (.iconst (-1), 1) := by decide +kernel
theorem dX10_light_20 : decode cX10_light 20 = .ok (.ireturn, 1) := by decide +kernel
theorem dX10_look_0 : decode cX10_look 0 = .ok (.aload_n 0, 1) := by decide +kernel
theorem dX10_look_1 : decode cX10_look 1 = .ok (.getfield 285, 3) := by decide +kernel
theorem dX10_look_4 : decode cX10_look 4 = .ok (.aload_n 0, 1) := by decide +kernel
theorem dX10_look_5 : decode cX10_look 5 = .ok (.getfield 288, 3) := by decide +kernel
theorem dX10_look_8 : decode cX10_look 8 = .ok (.if_icmp .ge 44, 3) := by decide +kernel
theorem dX10_look_52 : decode cX10_look 52 = .ok (.aload_n 0, 1) := by decide +kernel
theorem dX10_look_53 : decode cX10_look 53 = .ok (.getfield 285, 3) := by decide +kernel
theorem dX10_look_56 : decode cX10_look 56 = .ok (.aload_n 0, 1) := by decide +kernel
theorem dX10_look_57 : decode cX10_look 57 = .ok (.getfield 288, 3) := by decide +kernel
theorem dX10_look_60 : decode cX10_look 60 = .ok (.if_icmp .ge 15, 3) := by decide +kernel
theorem dX10_look_75 : decode cX10_look 75 = .ok (.iconst (-1), 1) := by decide +kernel
theorem dX10_look_76 : decode cX10_look 76 = .ok (.ireturn, 1) := by decide +kernel
theorem dX10_number_0 : decode cX10_number 0 = .ok (.aload_n 0, 1) := by decide +kernel
theorem dX10_number_1 : decode cX10_number 1 = .ok (.getfield 279, 3) := by decide +kernel
theorem dX10_number_4 : decode cX10_number 4 = .ok (.ifCond .eq 5, 3) := by decide +kernel
theorem dX10_number_7 : decode cX10_number 7 = .ok (.iconst 0, 1) := by decide +kernel
theorem dX10_number_8 : decode cX10_number 8 = .ok (.ireturn, 1) := by decide +kernel
theorem dX10_octet_0 : decode cX10_octet 0 = .ok (.iload_n 1, 1) := by decide +kernel
theorem dX10_octet_1 : decode cX10_octet 1 = .ok (.ifCond .lt 20, 3) := by decide +kernel
theorem dX10_octet_4 : decode cX10_octet 4 = .ok (.iload_n 1, 1) := by decide +kernel
theorem dX10_octet_5 : decode cX10_octet 5 = .ok (.aload_n 0, 1) := by decide +kernel
theorem dX10_octet_6 : decode cX10_octet 6 = .ok (.getfield 699, 3) := by decide +kernel
theorem dX10_octet_9 : decode cX10_octet 9 = .ok (.if_icmp .ge 12, 3) := by decide +kernel
theorem dX10_octet_21 : decode cX10_octet 21 = .ok (.iconst (-1), 1) := by decide +kernel
theorem dX10_octet_22 : decode cX10_octet 22 = .ok (.ireturn, 1) := by decide +kernel
theorem dX10_on_0 : decode cX10_on 0 = .ok (.aload_n 0, 1) := by decide +kernel
theorem dX10_on_1 : decode cX10_on 1 = .ok (.getfield 276, 3) := by decide +kernel
theorem dX10_on_4 : decode cX10_on 4 = .ok (.istore_n 1, 1) := by decide +kernel
theorem dX10_on_5 : decode cX10_on 5 = .ok (.aload_n 0, 1) := by decide +kernel
theorem dX10_on_6 : decode cX10_on 6 = .ok (.iconst 0, 1) := by decide +kernel
theorem dX10_on_7 : decode cX10_on 7 = .ok (.putfield 276, 3) := by decide +kernel
theorem dX10_on_10 : decode cX10_on 10 = .ok (.aload_n 0, 1) := by decide +kernel
theorem dX10_on_11 : decode cX10_on 11 = .ok (.iload_n 1, 1) := by decide +kernel
theorem dX10_on_12 : decode cX10_on 12 = .ok (.invokevirtual 709, 3) := by decide +kernel
theorem dX10_on_15 : decode cX10_on 15 = .ok (.ifCond .ne 15, 3) := by decide +kernel
theorem dX10_on_18 : decode cX10_on 18 = .ok (.aload_n 0, 1) := by decide +kernel
theorem dX10_on_19 : decode cX10_on 19 = .ok (.getfield 17, 3) := by decide +kernel
theorem dX10_on_22 : decode cX10_on 22 = .ok (.iconst 5, 1) := by decide +kernel
theorem dX10_on_23 : decode cX10_on 23 = .ok (.dup2, 1) := by decide +kernel
theorem dX10_on_24 : decode cX10_on 24 = .ok (.iaload, 1) := by decide +kernel
theorem dX10_on_25 : decode cX10_on 25 = .ok (.iconst 1, 1) := by decide +kernel
theorem dX10_on_26 : decode cX10_on 26 = .ok (.iadd, 1) := by decide +kernel
theorem dX10_on_27 : decode cX10_on 27 = .ok (.iastore, 1) := by decide +kernel
theorem dX10_on_28 : decode cX10_on 28 = .ok (.iconst 0, 1) := by decide +kernel
theorem dX10_on_29 : decode cX10_on 29 = .ok (.ireturn, 1) := by decide +kernel
theorem dX10_refuses_0 : decode cX10_refuses 0 = .ok (.aload_n 0, 1) := by decide +kernel
theorem dX10_refuses_1 : decode cX10_refuses 1 = .ok (.getfield 17, 3) := by decide +kernel
theorem dX10_refuses_4 : decode cX10_refuses 4 = .ok (.iload_n 1, 1) := by decide +kernel
theorem dX10_refuses_5 : decode cX10_refuses 5 = .ok (.dup2, 1) := by decide +kernel
theorem dX10_refuses_6 : decode cX10_refuses 6 = .ok (.iaload, 1) := by decide +kernel
theorem dX10_refuses_7 : decode cX10_refuses 7 = .ok (.iconst 1, 1) := by decide +kernel
theorem dX10_refuses_8 : decode cX10_refuses 8 = .ok (.iadd, 1) := by decide +kernel
theorem dX10_refuses_9 : decode cX10_refuses 9 = .ok (.iastore, 1) := by decide +kernel
theorem dX10_refuses_10 : decode cX10_refuses 10 = .ok (.iconst (-1), 1) := by decide +kernel
theorem dX10_refuses_11 : decode cX10_refuses 11 = .ok (.ireturn, 1) := by decide +kernel
theorem dX10_rule_0 : decode cX10_rule 0 = .ok (.aload_n 0, 1) := by decide +kernel
theorem dX10_rule_1 : decode cX10_rule 1 = .ok (.getfield 417, 3) := by decide +kernel
theorem dX10_rule_4 : decode cX10_rule 4 = .ok (.ifCond .eq 25, 3) := by decide +kernel
theorem dX10_rule_29 : decode cX10_rule 29 = .ok (.aload_n 0, 1) := by decide +kernel
theorem dX10_rule_30 : decode cX10_rule 30 = .ok (.invokevirtual 591, 3) := by decide +kernel
theorem dX10_rule_33 : decode cX10_rule 33 = .ok (.ireturn, 1) := by decide +kernel
theorem dX10_see_0 : decode cX10_see 0 = .ok (.aload_n 0, 1) := by decide +kernel
theorem dX10_see_1 : decode cX10_see 1 = .ok (.getfield 276, 3) := by decide +kernel
theorem dX10_see_4 : decode cX10_see 4 = .ok (.istore_n 1, 1) := by decide +kernel
theorem dX10_see_5 : decode cX10_see 5 = .ok (.aload_n 0, 1) := by decide +kernel
theorem dX10_see_6 : decode cX10_see 6 = .ok (.iconst 0, 1) := by decide +kernel
theorem dX10_see_7 : decode cX10_see 7 = .ok (.putfield 276, 3) := by decide +kernel
theorem dX10_see_10 : decode cX10_see 10 = .ok (.iload_n 1, 1) := by decide +kernel
theorem dX10_see_11 : decode cX10_see 11 = .ok (.ifCond .le 21, 3) := by decide +kernel
theorem dX10_see_32 : decode cX10_see 32 = .ok (.iconst 0, 1) := by decide +kernel
theorem dX10_see_33 : decode cX10_see 33 = .ok (.istore_n 2, 1) := by decide +kernel
theorem dX10_see_34 : decode cX10_see 34 = .ok (.iconst 0, 1) := by decide +kernel
theorem dX10_see_35 : decode cX10_see 35 = .ok (.istore_n 3, 1) := by decide +kernel
theorem dX10_see_36 : decode cX10_see 36 = .ok (.iload_n 3, 1) := by decide +kernel
theorem dX10_see_37 : decode cX10_see 37 = .ok (.iload_n 1, 1) := by decide +kernel
theorem dX10_see_38 : decode cX10_see 38 = .ok (.if_icmp .ge 71, 3) := by decide +kernel
theorem dX10_see_109 : decode cX10_see 109 = .ok (.iload_n 2, 1) := by decide +kernel
theorem dX10_see_110 : decode cX10_see 110 = .ok (.ifCond .ne 9, 3) := by decide +kernel
theorem dX10_see_113 : decode cX10_see 113 = .ok (.aload_n 0, 1) := by decide +kernel
theorem dX10_see_114 : decode cX10_see 114 = .ok (.iconst 1, 1) := by decide +kernel
theorem dX10_see_115 : decode cX10_see 115 = .ok (.invokevirtual 567, 3) := by decide +kernel
theorem dX10_see_118 : decode cX10_see 118 = .ok (.ireturn, 1) := by decide +kernel
theorem dX10_seed_0 : decode cX10_seed 0 = .ok (.iload_n 1, 1) := by decide +kernel
theorem dX10_seed_1 : decode cX10_seed 1 = .ok (.ifCond .ge 15, 3) := by decide +kernel
theorem dX10_seed_4 : decode cX10_seed 4 = .ok (.aload_n 0, 1) := by decide +kernel
theorem dX10_seed_5 : decode cX10_seed 5 = .ok (.getfield 17, 3) := by decide +kernel
theorem dX10_seed_8 : decode cX10_seed 8 = .ok (.iconst 5, 1) := by decide +kernel
theorem dX10_seed_9 : decode cX10_seed 9 = .ok (.dup2, 1) := by decide +kernel
theorem dX10_seed_10 : decode cX10_seed 10 = .ok (.iaload, 1) := by decide +kernel
theorem dX10_seed_11 : decode cX10_seed 11 = .ok (.iconst 1, 1) := by decide +kernel
theorem dX10_seed_12 : decode cX10_seed 12 = .ok (.iadd, 1) := by decide +kernel
theorem dX10_seed_13 : decode cX10_seed 13 = .ok (.iastore, 1) := by decide +kernel
theorem dX10_seed_14 : decode cX10_seed 14 = .ok (.iconst 0, 1) := by decide +kernel
theorem dX10_seed_15 : decode cX10_seed 15 = .ok (.ireturn, 1) := by decide +kernel
theorem dX10_seed_16 : decode cX10_seed 16 = .ok (.aload_n 0, 1) := by decide +kernel
theorem dX10_seed_17 : decode cX10_seed 17 = .ok (.iload_n 1, 1) := by decide +kernel
theorem dX10_seed_18 : decode cX10_seed 18 = .ok (.i2l, 1) := by decide +kernel
theorem dX10_seed_19 : decode cX10_seed 19 = .ok (.putfield 185, 3) := by decide +kernel
theorem dX10_seed_22 : decode cX10_seed 22 = .ok (.iconst 1, 1) := by decide +kernel
theorem dX10_seed_23 : decode cX10_seed 23 = .ok (.ireturn, 1) := by decide +kernel
theorem dX10_status_0 : decode cX10_status 0 = .ok (.iload_n 1, 1) := by decide +kernel
theorem dX10_status_1 : decode cX10_status 1 = .ok (.i2l, 1) := by decide +kernel
theorem dX10_status_2 : decode cX10_status 2 = .ok (.lconst 0, 1) := by decide +kernel
theorem dX10_status_3 : decode cX10_status 3 = .ok (.ldc2_w 526, 3) := by decide +kernel
theorem dX10_status_6 : decode cX10_status 6 = .ok (.invokestatic 318, 3) := by decide +kernel
theorem dX10_status_9 : decode cX10_status 9 = .ok (.ifCond .eq 12, 3) := by decide +kernel
theorem dX10_status_12 : decode cX10_status 12 = .ok (.aload_n 0, 1) := by decide +kernel
theorem dX10_status_13 : decode cX10_status 13 = .ok (.getfield 17, 3) := by decide +kernel
theorem dX10_status_16 : decode cX10_status 16 = .ok (.iload_n 1, 1) := by decide +kernel
theorem dX10_status_17 : decode cX10_status 17 = .ok (.iaload, 1) := by decide +kernel
theorem dX10_status_18 : decode cX10_status 18 = .ok (.goto 4, 3) := by decide +kernel
theorem dX10_status_21 : decode cX10_status 21 = .ok (.iconst (-1), 1) := by decide +kernel
theorem dX10_status_22 : decode cX10_status 22 = .ok (.ireturn, 1) := by decide +kernel
theorem dX10_takes_0 : decode cX10_takes 0 = .ok (.aload_n 0, 1) := by decide +kernel
theorem dX10_takes_1 : decode cX10_takes 1 = .ok (.aload_n 1, 1) := by decide +kernel
theorem dX10_takes_2 : decode cX10_takes 2 = .ok (.invokevirtual 302, 3) := by decide +kernel
theorem dX10_takes_5 : decode cX10_takes 5 = .ok (.ifCond .ne 5, 3) := by decide +kernel
theorem dX10_takes_8 : decode cX10_takes 8 = .ok (.iconst 0, 1) := by decide +kernel
theorem dX10_takes_9 : decode cX10_takes 9 = .ok (.ireturn, 1) := by decide +kernel
theorem dX10_trust_0 : decode cX10_trust 0 = .ok (.aload_n 0, 1) := by decide +kernel
theorem dX10_trust_1 : decode cX10_trust 1 = .ok (.iload_n 1, 1) := by decide +kernel
theorem dX10_trust_2 : decode cX10_trust 2 = .ok (.invokevirtual 528, 3) := by decide +kernel
theorem dX10_trust_5 : decode cX10_trust 5 = .ok (.ifCond .eq 24, 3) := by decide +kernel
theorem dX10_trust_29 : decode cX10_trust 29 = .ok (.aload_n 0, 1) := by decide +kernel
theorem dX10_trust_30 : decode cX10_trust 30 = .ok (.invokevirtual 591, 3) := by decide +kernel
theorem dX10_trust_33 : decode cX10_trust 33 = .ok (.ireturn, 1) := by decide +kernel
theorem dX10_undo_0 : decode cX10_undo 0 = .ok (.aload_n 0, 1) := by decide +kernel
theorem dX10_undo_1 : decode cX10_undo 1 = .ok (.getfield 424, 3) := by decide +kernel
theorem dX10_undo_4 : decode cX10_undo 4 = .ok (.ifCond .ne 15, 3) := by decide +kernel
theorem dX10_undo_7 : decode cX10_undo 7 = .ok (.aload_n 0, 1) := by decide +kernel
theorem dX10_undo_8 : decode cX10_undo 8 = .ok (.getfield 17, 3) := by decide +kernel
theorem dX10_undo_11 : decode cX10_undo 11 = .ok (.iconst 4, 1) := by decide +kernel
theorem dX10_undo_12 : decode cX10_undo 12 = .ok (.dup2, 1) := by decide +kernel
theorem dX10_undo_13 : decode cX10_undo 13 = .ok (.iaload, 1) := by decide +kernel
theorem dX10_undo_14 : decode cX10_undo 14 = .ok (.iconst 1, 1) := by decide +kernel
theorem dX10_undo_15 : decode cX10_undo 15 = .ok (.iadd, 1) := by decide +kernel
theorem dX10_undo_16 : decode cX10_undo 16 = .ok (.iastore, 1) := by decide +kernel
theorem dX10_undo_17 : decode cX10_undo 17 = .ok (.iconst 0, 1) := by decide +kernel
theorem dX10_undo_18 : decode cX10_undo 18 = .ok (.ireturn, 1) := by decide +kernel
theorem dX10_walker_0 : decode cX10_walker 0 = .ok (.aload_n 0, 1) := by decide +kernel
theorem dX10_walker_1 : decode cX10_walker 1 = .ok (.iload_n 1, 1) := by decide +kernel
theorem dX10_walker_2 : decode cX10_walker 2 = .ok (.invokevirtual 531, 3) := by decide +kernel
theorem dX10_walker_5 : decode cX10_walker 5 = .ok (.ifCond .ne 5, 3) := by decide +kernel
theorem dX10_walker_8 : decode cX10_walker 8 = .ok (.iconst (-1), 1) := by decide +kernel
theorem dX10_walker_9 : decode cX10_walker 9 = .ok (.ireturn, 1) := by decide +kernel
theorem dX10_walkerMany_0 : decode cX10_walkerMany 0 = .ok (.aload_n 0, 1) := by decide +kernel
theorem dX10_walkerMany_1 : decode cX10_walkerMany 1 = .ok (.getfield 111, 3) := by decide +kernel
theorem dX10_walkerMany_4 : decode cX10_walkerMany 4 = .ok (.iconst 3, 1) := by decide +kernel
theorem dX10_walkerMany_5 : decode cX10_walkerMany 5 = .ok (.iaload, 1) := by decide +kernel
theorem dX10_walkerMany_6 : decode cX10_walkerMany 6 = .ok (.ireturn, 1) := by decide +kernel
theorem dX10_watched_0 : decode cX10_watched 0 = .ok (.aload_n 0, 1) := by decide +kernel
theorem dX10_watched_1 : decode cX10_watched 1 = .ok (.getfield 417, 3) := by decide +kernel
theorem dX10_watched_4 : decode cX10_watched 4 = .ok (.ifCond .eq 13, 3) := by decide +kernel
theorem dX10_watched_17 : decode cX10_watched 17 = .ok (.iconst (-1), 1) := by decide +kernel
theorem dX10_watched_18 : decode cX10_watched 18 = .ok (.ireturn, 1) := by decide +kernel
theorem dX10_writes_0 : decode cX10_writes 0 = .ok (.aload_n 0, 1) := by decide +kernel
theorem dX10_writes_1 : decode cX10_writes 1 = .ok (.getfield 273, 3) := by decide +kernel
theorem dX10_writes_4 : decode cX10_writes 4 = .ok (.aload_n 0, 1) := by decide +kernel
theorem dX10_writes_5 : decode cX10_writes 5 = .ok (.getfield 699, 3) := by decide +kernel
theorem dX10_writes_8 : decode cX10_writes 8 = .ok (.iload_n 1, 1) := by decide +kernel
theorem dX10_writes_9 : decode cX10_writes 9 = .ok (.iastore, 1) := by decide +kernel
theorem dX10_writes_10 : decode cX10_writes 10 = .ok (.aload_n 0, 1) := by decide +kernel
theorem dX10_writes_11 : decode cX10_writes 11 = .ok (.dup, 1) := by decide +kernel
theorem dX10_writes_12 : decode cX10_writes 12 = .ok (.getfield 699, 3) := by decide +kernel
theorem dX10_writes_15 : decode cX10_writes 15 = .ok (.iconst 1, 1) := by decide +kernel
theorem dX10_writes_16 : decode cX10_writes 16 = .ok (.iadd, 1) := by decide +kernel
theorem dX10_writes_17 : decode cX10_writes 17 = .ok (.putfield 699, 3) := by decide +kernel
theorem dX10_writes_20 : decode cX10_writes 20 = .ok (.return_, 1) := by decide +kernel
theorem dX1_init_0 : decode cX1_init 0 = .ok (.aload_n 0, 1) := by decide +kernel
theorem dX1_init_1 : decode cX1_init 1 = .ok (.invokespecial 3, 3) := by decide +kernel
theorem dX1_init_4 : decode cX1_init 4 = .ok (.aload_n 0, 1) := by decide +kernel
theorem dX1_init_5 : decode cX1_init 5 = .ok (.bipush 39, 2) := by decide +kernel
theorem dX1_init_7 : decode cX1_init 7 = .ok (.newarray .int, 2) := by decide +kernel
theorem dX1_init_9 : decode cX1_init 9 = .ok (.putfield 11, 3) := by decide +kernel
theorem dX1_init_12 : decode cX1_init 12 = .ok (.aload_n 0, 1) := by decide +kernel
theorem dX1_init_13 : decode cX1_init 13 = .ok (.iconst 0, 1) := by decide +kernel
theorem dX1_init_14 : decode cX1_init 14 = .ok (.putfield 15, 3) := by decide +kernel
theorem dX1_init_17 : decode cX1_init 17 = .ok (.aload_n 0, 1) := by decide +kernel
theorem dX1_init_18 : decode cX1_init 18 = .ok (.aload_n 1, 1) := by decide +kernel
theorem dX1_init_19 : decode cX1_init 19 = .ok (.putfield 19, 3) := by decide +kernel
theorem dX1_init_22 : decode cX1_init 22 = .ok (.return_, 1) := by decide +kernel
theorem dX2_giveBack_0 : decode cX2_giveBack 0 = .ok (.aload_n 0, 1) := by decide +kernel
theorem dX2_giveBack_1 : decode cX2_giveBack 1 = .ok (.getfield 21, 3) := by decide +kernel
theorem dX2_giveBack_4 : decode cX2_giveBack 4 = .ok (.ifCond .ne 5, 3) := by decide +kernel
theorem dX2_giveBack_7 : decode cX2_giveBack 7 = .ok (.iconst 0, 1) := by decide +kernel
theorem dX2_giveBack_8 : decode cX2_giveBack 8 = .ok (.ireturn, 1) := by decide +kernel
theorem dX2_init_0 : decode cX2_init 0 = .ok (.aload_n 0, 1) := by decide +kernel
theorem dX2_init_1 : decode cX2_init 1 = .ok (.invokespecial 3, 3) := by decide +kernel
theorem dX2_init_4 : decode cX2_init 4 = .ok (.aload_n 0, 1) := by decide +kernel
theorem dX2_init_5 : decode cX2_init 5 = .ok (.bipush 20, 2) := by decide +kernel
theorem dX2_init_7 : decode cX2_init 7 = .ok (.anewarray 9, 3) := by decide +kernel
theorem dX2_init_10 : decode cX2_init 10 = .ok (.putfield 11, 3) := by decide +kernel
theorem dX2_init_13 : decode cX2_init 13 = .ok (.aload_n 0, 1) := by decide +kernel
theorem dX2_init_14 : decode cX2_init 14 = .ok (.iconst 0, 1) := by decide +kernel
theorem dX2_init_15 : decode cX2_init 15 = .ok (.putfield 17, 3) := by decide +kernel
theorem dX2_init_18 : decode cX2_init 18 = .ok (.aload_n 0, 1) := by decide +kernel
theorem dX2_init_19 : decode cX2_init 19 = .ok (.iconst 0, 1) := by decide +kernel
theorem dX2_init_20 : decode cX2_init 20 = .ok (.putfield 21, 3) := by decide +kernel
theorem dX2_init_23 : decode cX2_init 23 = .ok (.iconst 0, 1) := by decide +kernel
theorem dX2_init_24 : decode cX2_init 24 = .ok (.istore_n 1, 1) := by decide +kernel
theorem dX2_init_25 : decode cX2_init 25 = .ok (.iload_n 1, 1) := by decide +kernel
theorem dX2_init_26 : decode cX2_init 26 = .ok (.bipush 20, 2) := by decide +kernel
theorem dX2_init_28 : decode cX2_init 28 = .ok (.if_icmp .ge 22, 3) := by decide +kernel
theorem dX2_init_31 : decode cX2_init 31 = .ok (.aload_n 0, 1) := by decide +kernel
theorem dX2_init_32 : decode cX2_init 32 = .ok (.getfield 11, 3) := by decide +kernel
theorem dX2_init_35 : decode cX2_init 35 = .ok (.iload_n 1, 1) := by decide +kernel
theorem dX2_init_36 : decode cX2_init 36 = .ok (.new 9, 3) := by decide +kernel
theorem dX2_init_39 : decode cX2_init 39 = .ok (.dup, 1) := by decide +kernel
theorem dX2_init_40 : decode cX2_init 40 = .ok (.invokespecial 24, 3) := by decide +kernel
theorem dX2_init_43 : decode cX2_init 43 = .ok (.aastore, 1) := by decide +kernel
theorem dX2_init_44 : decode cX2_init 44 = .ok (.iinc 1 1, 3) := by decide +kernel
theorem dX2_init_47 : decode cX2_init 47 = .ok (.goto (-22), 3) := by decide +kernel
theorem dX2_init_50 : decode cX2_init 50 = .ok (.return_, 1) := by decide +kernel
theorem dX3_init_0 : decode cX3_init 0 = .ok (.aload_n 0, 1) := by decide +kernel
theorem dX3_init_1 : decode cX3_init 1 = .ok (.invokespecial 3, 3) := by decide +kernel
theorem dX3_init_4 : decode cX3_init 4 = .ok (.aload_n 0, 1) := by decide +kernel
theorem dX3_init_5 : decode cX3_init 5 = .ok (.bipush 13, 2) := by decide +kernel
theorem dX3_init_7 : decode cX3_init 7 = .ok (.newarray .int, 2) := by decide +kernel
theorem dX3_init_9 : decode cX3_init 9 = .ok (.putfield 9, 3) := by decide +kernel
theorem dX3_init_12 : decode cX3_init 12 = .ok (.aload_n 0, 1) := by decide +kernel
theorem dX3_init_13 : decode cX3_init 13 = .ok (.bipush 64, 2) := by decide +kernel
theorem dX3_init_15 : decode cX3_init 15 = .ok (.newarray .int, 2) := by decide +kernel
theorem dX3_init_17 : decode cX3_init 17 = .ok (.putfield 15, 3) := by decide +kernel
theorem dX3_init_20 : decode cX3_init 20 = .ok (.return_, 1) := by decide +kernel
theorem dX4_allowsGreen_0 : decode cX4_allowsGreen 0 = .ok (.iload_n 1, 1) := by decide +kernel
theorem dX4_allowsGreen_1 : decode cX4_allowsGreen 1 = .ok (.iconst 1, 1) := by decide +kernel
theorem dX4_allowsGreen_2 : decode cX4_allowsGreen 2 = .ok (.if_icmp .lt 21, 3) := by decide +kernel
theorem dX4_allowsGreen_5 : decode cX4_allowsGreen 5 = .ok (.iload_n 1, 1) := by decide +kernel
theorem dX4_allowsGreen_6 : decode cX4_allowsGreen 6 = .ok (.bipush 60, 2) := by decide +kernel
theorem dX4_allowsGreen_8 : decode cX4_allowsGreen 8 = .ok (.if_icmp .gt 15, 3) := by decide +kernel
theorem dX4_allowsGreen_11 : decode cX4_allowsGreen 11 = .ok (.iload_n 1, 1) := by decide +kernel
theorem dX4_allowsGreen_12 : decode cX4_allowsGreen 12 = .ok (.aload_n 0, 1) := by decide +kernel
theorem dX4_allowsGreen_13 : decode cX4_allowsGreen 13 = .ok (.getfield 39, 3) := by decide +kernel
theorem dX4_allowsGreen_16 : decode cX4_allowsGreen 16 = .ok (.if_icmp .ge 7, 3) := by decide +kernel
theorem dX4_allowsGreen_23 : decode cX4_allowsGreen 23 = .ok (.iconst 0, 1) := by decide +kernel
theorem dX4_allowsGreen_24 : decode cX4_allowsGreen 24 = .ok (.ireturn, 1) := by decide +kernel
theorem dX4_clear_0 : decode cX4_clear 0 = .ok (.aload_n 0, 1) := by decide +kernel
theorem dX4_clear_1 : decode cX4_clear 1 = .ok (.iconst 0, 1) := by decide +kernel
theorem dX4_clear_2 : decode cX4_clear 2 = .ok (.putfield 39, 3) := by decide +kernel
theorem dX4_clear_5 : decode cX4_clear 5 = .ok (.aload_n 0, 1) := by decide +kernel
theorem dX4_clear_6 : decode cX4_clear 6 = .ok (.iconst 0, 1) := by decide +kernel
theorem dX4_clear_7 : decode cX4_clear 7 = .ok (.putfield 43, 3) := by decide +kernel
theorem dX4_clear_10 : decode cX4_clear 10 = .ok (.aload_n 0, 1) := by decide +kernel
theorem dX4_clear_11 : decode cX4_clear 11 = .ok (.iconst 0, 1) := by decide +kernel
theorem dX4_clear_12 : decode cX4_clear 12 = .ok (.putfield 46, 3) := by decide +kernel
theorem dX4_clear_15 : decode cX4_clear 15 = .ok (.aload_n 0, 1) := by decide +kernel
theorem dX4_clear_16 : decode cX4_clear 16 = .ok (.iconst 0, 1) := by decide +kernel
theorem dX4_clear_17 : decode cX4_clear 17 = .ok (.putfield 49, 3) := by decide +kernel
theorem dX4_clear_20 : decode cX4_clear 20 = .ok (.aload_n 0, 1) := by decide +kernel
theorem dX4_clear_21 : decode cX4_clear 21 = .ok (.iconst 0, 1) := by decide +kernel
theorem dX4_clear_22 : decode cX4_clear 22 = .ok (.putfield 52, 3) := by decide +kernel
theorem dX4_clear_25 : decode cX4_clear 25 = .ok (.aload_n 0, 1) := by decide +kernel
theorem dX4_clear_26 : decode cX4_clear 26 = .ok (.iconst 0, 1) := by decide +kernel
theorem dX4_clear_27 : decode cX4_clear 27 = .ok (.putfield 55, 3) := by decide +kernel
theorem dX4_clear_30 : decode cX4_clear 30 = .ok (.aload_n 0, 1) := by decide +kernel
theorem dX4_clear_31 : decode cX4_clear 31 = .ok (.getfield 27, 3) := by decide +kernel
theorem dX4_clear_34 : decode cX4_clear 34 = .ok (.iconst 0, 1) := by decide +kernel
theorem dX4_clear_35 : decode cX4_clear 35 = .ok (.invokestatic 58, 3) := by decide +kernel
theorem dX4_clear_38 : decode cX4_clear 38 = .ok (.aload_n 0, 1) := by decide +kernel
theorem dX4_clear_39 : decode cX4_clear 39 = .ok (.getfield 36, 3) := by decide +kernel
theorem dX4_clear_42 : decode cX4_clear 42 = .ok (.iconst 0, 1) := by decide +kernel
theorem dX4_clear_43 : decode cX4_clear 43 = .ok (.invokestatic 58, 3) := by decide +kernel
theorem dX4_clear_46 : decode cX4_clear 46 = .ok (.return_, 1) := by decide +kernel
theorem dX4_init_0 : decode cX4_init 0 = .ok (.aload_n 0, 1) := by decide +kernel
theorem dX4_init_1 : decode cX4_init 1 = .ok (.invokespecial 3, 3) := by decide +kernel
theorem dX4_init_4 : decode cX4_init 4 = .ok (.aload_n 0, 1) := by decide +kernel
theorem dX4_init_5 : decode cX4_init 5 = .ok (.bipush 6, 2) := by decide +kernel
theorem dX4_init_7 : decode cX4_init 7 = .ok (.newarray .int, 2) := by decide +kernel
theorem dX4_init_9 : decode cX4_init 9 = .ok (.putfield 9, 3) := by decide +kernel
theorem dX4_init_12 : decode cX4_init 12 = .ok (.aload_n 0, 1) := by decide +kernel
theorem dX4_init_13 : decode cX4_init 13 = .ok (.bipush 6, 2) := by decide +kernel
theorem dX4_init_15 : decode cX4_init 15 = .ok (.newarray .int, 2) := by decide +kernel
theorem dX4_init_17 : decode cX4_init 17 = .ok (.putfield 15, 3) := by decide +kernel
theorem dX4_init_20 : decode cX4_init 20 = .ok (.aload_n 0, 1) := by decide +kernel
theorem dX4_init_21 : decode cX4_init 21 = .ok (.bipush 6, 2) := by decide +kernel
theorem dX4_init_23 : decode cX4_init 23 = .ok (.newarray .int, 2) := by decide +kernel
theorem dX4_init_25 : decode cX4_init 25 = .ok (.putfield 18, 3) := by decide +kernel
theorem dX4_init_28 : decode cX4_init 28 = .ok (.aload_n 0, 1) := by decide +kernel
theorem dX4_init_29 : decode cX4_init 29 = .ok (.bipush 12, 2) := by decide +kernel
theorem dX4_init_31 : decode cX4_init 31 = .ok (.newarray .int, 2) := by decide +kernel
theorem dX4_init_33 : decode cX4_init 33 = .ok (.putfield 21, 3) := by decide +kernel
theorem dX4_init_36 : decode cX4_init 36 = .ok (.aload_n 0, 1) := by decide +kernel
theorem dX4_init_37 : decode cX4_init 37 = .ok (.bipush 12, 2) := by decide +kernel
theorem dX4_init_39 : decode cX4_init 39 = .ok (.newarray .int, 2) := by decide +kernel
theorem dX4_init_41 : decode cX4_init 41 = .ok (.putfield 24, 3) := by decide +kernel
theorem dX4_init_44 : decode cX4_init 44 = .ok (.aload_n 0, 1) := by decide +kernel
theorem dX4_init_45 : decode cX4_init 45 = .ok (.sipush 200, 3) := by decide +kernel
theorem dX4_init_48 : decode cX4_init 48 = .ok (.newarray .int, 2) := by decide +kernel
theorem dX4_init_50 : decode cX4_init 50 = .ok (.putfield 27, 3) := by decide +kernel
theorem dX4_init_53 : decode cX4_init 53 = .ok (.aload_n 0, 1) := by decide +kernel
theorem dX4_init_54 : decode cX4_init 54 = .ok (.bipush 108, 2) := by decide +kernel
theorem dX4_init_56 : decode cX4_init 56 = .ok (.newarray .int, 2) := by decide +kernel
theorem dX4_init_58 : decode cX4_init 58 = .ok (.putfield 30, 3) := by decide +kernel
theorem dX4_init_61 : decode cX4_init 61 = .ok (.aload_n 0, 1) := by decide +kernel
theorem dX4_init_62 : decode cX4_init 62 = .ok (.sipush 1600, 3) := by decide +kernel
theorem dX4_init_65 : decode cX4_init 65 = .ok (.newarray .int, 2) := by decide +kernel
theorem dX4_init_67 : decode cX4_init 67 = .ok (.putfield 33, 3) := by decide +kernel
theorem dX4_init_70 : decode cX4_init 70 = .ok (.aload_n 0, 1) := by decide +kernel
theorem dX4_init_71 : decode cX4_init 71 = .ok (.bipush 6, 2) := by decide +kernel
theorem dX4_init_73 : decode cX4_init 73 = .ok (.newarray .int, 2) := by decide +kernel
theorem dX4_init_75 : decode cX4_init 75 = .ok (.putfield 36, 3) := by decide +kernel
theorem dX4_init_78 : decode cX4_init 78 = .ok (.return_, 1) := by decide +kernel
theorem dX5_begin_0 : decode cX5_begin 0 = .ok (.aload_n 1, 1) := by decide +kernel
theorem dX5_begin_1 : decode cX5_begin 1 = .ok (.invokevirtual 96, 3) := by decide +kernel
theorem dX5_begin_4 : decode cX5_begin 4 = .ok (.aload_n 0, 1) := by decide +kernel
theorem dX5_begin_5 : decode cX5_begin 5 = .ok (.aload_n 1, 1) := by decide +kernel
theorem dX5_begin_6 : decode cX5_begin 6 = .ok (.putfield 37, 3) := by decide +kernel
theorem dX5_begin_9 : decode cX5_begin 9 = .ok (.aload_n 0, 1) := by decide +kernel
theorem dX5_begin_10 : decode cX5_begin 10 = .ok (.iload_n 2, 1) := by decide +kernel
theorem dX5_begin_11 : decode cX5_begin 11 = .ok (.aload_n 0, 1) := by decide +kernel
theorem dX5_begin_12 : decode cX5_begin 12 = .ok (.getfield 33, 3) := by decide +kernel
theorem dX5_begin_15 : decode cX5_begin 15 = .ok (.arraylength, 1) := by decide +kernel
theorem dX5_begin_16 : decode cX5_begin 16 = .ok (.invokestatic 99, 3) := by decide +kernel
theorem dX5_begin_19 : decode cX5_begin 19 = .ok (.putfield 11, 3) := by decide +kernel
theorem dX5_begin_22 : decode cX5_begin 22 = .ok (.aload_n 0, 1) := by decide +kernel
theorem dX5_begin_23 : decode cX5_begin 23 = .ok (.iconst 0, 1) := by decide +kernel
theorem dX5_begin_24 : decode cX5_begin 24 = .ok (.putfield 27, 3) := by decide +kernel
theorem dX5_begin_27 : decode cX5_begin 27 = .ok (.aload_n 0, 1) := by decide +kernel
theorem dX5_begin_28 : decode cX5_begin 28 = .ok (.iconst (-1), 1) := by decide +kernel
theorem dX5_begin_29 : decode cX5_begin 29 = .ok (.putfield 30, 3) := by decide +kernel
theorem dX5_begin_32 : decode cX5_begin 32 = .ok (.aload_n 0, 1) := by decide +kernel
theorem dX5_begin_33 : decode cX5_begin 33 = .ok (.iconst 0, 1) := by decide +kernel
theorem dX5_begin_34 : decode cX5_begin 34 = .ok (.invokevirtual 86, 3) := by decide +kernel
theorem dX5_begin_37 : decode cX5_begin 37 = .ok (.return_, 1) := by decide +kernel
theorem dX5_fail_0 : decode cX5_fail 0 = .ok (.aload_n 0, 1) := by decide +kernel
theorem dX5_fail_1 : decode cX5_fail 1 = .ok (.getfield 27, 3) := by decide +kernel
theorem dX5_fail_4 : decode cX5_fail 4 = .ok (.ifCond .ne 13, 3) := by decide +kernel
theorem dX5_fail_7 : decode cX5_fail 7 = .ok (.aload_n 0, 1) := by decide +kernel
theorem dX5_fail_8 : decode cX5_fail 8 = .ok (.iload_n 1, 1) := by decide +kernel
theorem dX5_fail_9 : decode cX5_fail 9 = .ok (.putfield 27, 3) := by decide +kernel
theorem dX5_fail_12 : decode cX5_fail 12 = .ok (.aload_n 0, 1) := by decide +kernel
theorem dX5_fail_13 : decode cX5_fail 13 = .ok (.iload_n 2, 1) := by decide +kernel
theorem dX5_fail_14 : decode cX5_fail 14 = .ok (.putfield 30, 3) := by decide +kernel
theorem dX5_fail_17 : decode cX5_fail 17 = .ok (.aload_n 0, 1) := by decide +kernel
theorem dX5_fail_18 : decode cX5_fail 18 = .ok (.aload_n 0, 1) := by decide +kernel
theorem dX5_fail_19 : decode cX5_fail 19 = .ok (.getfield 11, 3) := by decide +kernel
theorem dX5_fail_22 : decode cX5_fail 22 = .ok (.putfield 15, 3) := by decide +kernel
theorem dX5_fail_25 : decode cX5_fail 25 = .ok (.aload_n 0, 1) := by decide +kernel
theorem dX5_fail_26 : decode cX5_fail 26 = .ok (.aload_n 0, 1) := by decide +kernel
theorem dX5_fail_27 : decode cX5_fail 27 = .ok (.getfield 11, 3) := by decide +kernel
theorem dX5_fail_30 : decode cX5_fail 30 = .ok (.putfield 18, 3) := by decide +kernel
theorem dX5_fail_33 : decode cX5_fail 33 = .ok (.aload_n 0, 1) := by decide +kernel
theorem dX5_fail_34 : decode cX5_fail 34 = .ok (.iconst 0, 1) := by decide +kernel
theorem dX5_fail_35 : decode cX5_fail 35 = .ok (.putfield 21, 3) := by decide +kernel
theorem dX5_fail_38 : decode cX5_fail 38 = .ok (.return_, 1) := by decide +kernel
theorem dX5_firstStatement_0 : decode cX5_firstStatement 0 = .ok (.aload_n 0, 1) := by decide +kernel
theorem dX5_firstStatement_1 : decode cX5_firstStatement 1 = .ok (.getfield 37, 3) := by decide +kernel
theorem dX5_firstStatement_4 : decode cX5_firstStatement 4 = .ok (.aload_n 0, 1) := by decide +kernel
theorem dX5_firstStatement_5 : decode cX5_firstStatement 5 = .ok (.ldc 105, 2) := by decide +kernel
theorem dX5_firstStatement_7 : decode cX5_firstStatement 7 = .ok (.bipush 10, 2) := by decide +kernel
theorem dX5_firstStatement_9 : decode cX5_firstStatement 9 = .ok (.bipush 120, 2) := by decide +kernel
theorem dX5_firstStatement_11 : decode cX5_firstStatement 11 = .ok (.invokevirtual 70, 3) := by decide +kernel
theorem dX5_firstStatement_14 : decode cX5_firstStatement 14 = .ok (.putfield 107, 3) := by decide +kernel
theorem dX5_firstStatement_17 : decode cX5_firstStatement 17 = .ok (.aload_n 0, 1) := by decide +kernel
theorem dX5_firstStatement_18 : decode cX5_firstStatement 18 = .ok (.getfield 37, 3) := by decide +kernel
theorem dX5_firstStatement_21 : decode cX5_firstStatement 21 = .ok (.aload_n 0, 1) := by decide +kernel
theorem dX5_firstStatement_22 : decode cX5_firstStatement 22 = .ok (.ldc 109, 2) := by decide +kernel
theorem dX5_firstStatement_24 : decode cX5_firstStatement 24 = .ok (.iconst 1, 1) := by decide +kernel
theorem dX5_firstStatement_25 : decode cX5_firstStatement 25 = .ok (.bipush 60, 2) := by decide +kernel
theorem dX5_firstStatement_27 : decode cX5_firstStatement 27 = .ok (.aload_n 0, 1) := by decide +kernel
theorem dX5_firstStatement_28 : decode cX5_firstStatement 28 = .ok (.getfield 37, 3) := by decide +kernel
theorem dX5_firstStatement_31 : decode cX5_firstStatement 31 = .ok (.getfield 107, 3) := by decide +kernel
theorem dX5_firstStatement_34 : decode cX5_firstStatement 34 = .ok (.iconst 1, 1) := by decide +kernel
theorem dX5_firstStatement_35 : decode cX5_firstStatement 35 = .ok (.isub, 1) := by decide +kernel
theorem dX5_firstStatement_36 : decode cX5_firstStatement 36 = .ok (.invokestatic 99, 3) := by decide +kernel
theorem dX5_firstStatement_39 : decode cX5_firstStatement 39 = .ok (.invokevirtual 70, 3) := by decide +kernel
theorem dX5_firstStatement_42 : decode cX5_firstStatement 42 = .ok (.putfield 111, 3) := by decide +kernel
theorem dX5_firstStatement_45 : decode cX5_firstStatement 45 = .ok (.aload_n 0, 1) := by decide +kernel
theorem dX5_firstStatement_46 : decode cX5_firstStatement 46 = .ok (.getfield 37, 3) := by decide +kernel
theorem dX5_firstStatement_49 : decode cX5_firstStatement 49 = .ok (.aload_n 0, 1) := by decide +kernel
theorem dX5_firstStatement_50 : decode cX5_firstStatement 50 = .ok (.ldc 113, 2) := by decide +kernel
theorem dX5_firstStatement_52 : decode cX5_firstStatement 52 = .ok (.iconst 0, 1) := by decide +kernel
theorem dX5_firstStatement_53 : decode cX5_firstStatement 53 = .ok (.iconst 2, 1) := by decide +kernel
theorem dX5_firstStatement_54 : decode cX5_firstStatement 54 = .ok (.invokevirtual 70, 3) := by decide +kernel
theorem dX5_firstStatement_57 : decode cX5_firstStatement 57 = .ok (.putfield 115, 3) := by decide +kernel
theorem dX5_firstStatement_60 : decode cX5_firstStatement 60 = .ok (.aload_n 0, 1) := by decide +kernel
theorem dX5_firstStatement_61 : decode cX5_firstStatement 61 = .ok (.getfield 37, 3) := by decide +kernel
theorem dX5_firstStatement_64 : decode cX5_firstStatement 64 = .ok (.aload_n 0, 1) := by decide +kernel
theorem dX5_firstStatement_65 : decode cX5_firstStatement 65 = .ok (.ldc 117, 2) := by decide +kernel
theorem dX5_firstStatement_67 : decode cX5_firstStatement 67 = .ok (.iconst 0, 1) := by decide +kernel
theorem dX5_firstStatement_68 : decode cX5_firstStatement 68 = .ok (.bipush 99, 2) := by decide +kernel
theorem dX5_firstStatement_70 : decode cX5_firstStatement 70 = .ok (.invokevirtual 70, 3) := by decide +kernel
theorem dX5_firstStatement_73 : decode cX5_firstStatement 73 = .ok (.putfield 119, 3) := by decide +kernel
theorem dX5_firstStatement_76 : decode cX5_firstStatement 76 = .ok (.return_, 1) := by decide +kernel
theorem dX5_init_0 : decode cX5_init 0 = .ok (.aload_n 0, 1) := by decide +kernel
theorem dX5_init_1 : decode cX5_init 1 = .ok (.invokespecial 5, 3) := by decide +kernel
theorem dX5_init_4 : decode cX5_init 4 = .ok (.aload_n 0, 1) := by decide +kernel
theorem dX5_init_5 : decode cX5_init 5 = .ok (.iconst 0, 1) := by decide +kernel
theorem dX5_init_6 : decode cX5_init 6 = .ok (.putfield 11, 3) := by decide +kernel
theorem dX5_init_9 : decode cX5_init 9 = .ok (.aload_n 0, 1) := by decide +kernel
theorem dX5_init_10 : decode cX5_init 10 = .ok (.iconst 0, 1) := by decide +kernel
theorem dX5_init_11 : decode cX5_init 11 = .ok (.putfield 15, 3) := by decide +kernel
theorem dX5_init_14 : decode cX5_init 14 = .ok (.aload_n 0, 1) := by decide +kernel
theorem dX5_init_15 : decode cX5_init 15 = .ok (.iconst 0, 1) := by decide +kernel
theorem dX5_init_16 : decode cX5_init 16 = .ok (.putfield 18, 3) := by decide +kernel
theorem dX5_init_19 : decode cX5_init 19 = .ok (.aload_n 0, 1) := by decide +kernel
theorem dX5_init_20 : decode cX5_init 20 = .ok (.iconst 0, 1) := by decide +kernel
theorem dX5_init_21 : decode cX5_init 21 = .ok (.putfield 21, 3) := by decide +kernel
theorem dX5_init_24 : decode cX5_init 24 = .ok (.aload_n 0, 1) := by decide +kernel
theorem dX5_init_25 : decode cX5_init 25 = .ok (.iconst 0, 1) := by decide +kernel
theorem dX5_init_26 : decode cX5_init 26 = .ok (.putfield 24, 3) := by decide +kernel
theorem dX5_init_29 : decode cX5_init 29 = .ok (.aload_n 0, 1) := by decide +kernel
theorem dX5_init_30 : decode cX5_init 30 = .ok (.iconst 0, 1) := by decide +kernel
theorem dX5_init_31 : decode cX5_init 31 = .ok (.putfield 27, 3) := by decide +kernel
theorem dX5_init_34 : decode cX5_init 34 = .ok (.aload_n 0, 1) := by decide +kernel
theorem dX5_init_35 : decode cX5_init 35 = .ok (.iconst (-1), 1) := by decide +kernel
theorem dX5_init_36 : decode cX5_init 36 = .ok (.putfield 30, 3) := by decide +kernel
theorem dX5_init_39 : decode cX5_init 39 = .ok (.aload_n 0, 1) := by decide +kernel
theorem dX5_init_40 : decode cX5_init 40 = .ok (.aload_n 1, 1) := by decide +kernel
theorem dX5_init_41 : decode cX5_init 41 = .ok (.putfield 33, 3) := by decide +kernel
theorem dX5_init_44 : decode cX5_init 44 = .ok (.aload_n 0, 1) := by decide +kernel
theorem dX5_init_45 : decode cX5_init 45 = .ok (.aload_n 2, 1) := by decide +kernel
theorem dX5_init_46 : decode cX5_init 46 = .ok (.putfield 37, 3) := by decide +kernel
theorem dX5_init_49 : decode cX5_init 49 = .ok (.return_, 1) := by decide +kernel
theorem dX5_moveTo_0 : decode cX5_moveTo 0 = .ok (.aload_n 0, 1) := by decide +kernel
theorem dX5_moveTo_1 : decode cX5_moveTo 1 = .ok (.iload_n 1, 1) := by decide +kernel
theorem dX5_moveTo_2 : decode cX5_moveTo 2 = .ok (.putfield 15, 3) := by decide +kernel
theorem dX5_moveTo_5 : decode cX5_moveTo 5 = .ok (.aload_n 0, 1) := by decide +kernel
theorem dX5_moveTo_6 : decode cX5_moveTo 6 = .ok (.getfield 15, 3) := by decide +kernel
theorem dX5_moveTo_9 : decode cX5_moveTo 9 = .ok (.aload_n 0, 1) := by decide +kernel
theorem dX5_moveTo_10 : decode cX5_moveTo 10 = .ok (.getfield 11, 3) := by decide +kernel
theorem dX5_moveTo_13 : decode cX5_moveTo 13 = .ok (.if_icmp .ge 44, 3) := by decide +kernel
theorem dX5_moveTo_57 : decode cX5_moveTo 57 = .ok (.aload_n 0, 1) := by decide +kernel
theorem dX5_moveTo_58 : decode cX5_moveTo 58 = .ok (.aload_n 0, 1) := by decide +kernel
theorem dX5_moveTo_59 : decode cX5_moveTo 59 = .ok (.aload_n 0, 1) := by decide +kernel
theorem dX5_moveTo_60 : decode cX5_moveTo 60 = .ok (.getfield 15, 3) := by decide +kernel
theorem dX5_moveTo_63 : decode cX5_moveTo 63 = .ok (.invokevirtual 252, 3) := by decide +kernel
theorem dX5_moveTo_66 : decode cX5_moveTo 66 = .ok (.putfield 21, 3) := by decide +kernel
theorem dX5_moveTo_69 : decode cX5_moveTo 69 = .ok (.aload_n 0, 1) := by decide +kernel
theorem dX5_moveTo_70 : decode cX5_moveTo 70 = .ok (.aload_n 0, 1) := by decide +kernel
theorem dX5_moveTo_71 : decode cX5_moveTo 71 = .ok (.getfield 15, 3) := by decide +kernel
theorem dX5_moveTo_74 : decode cX5_moveTo 74 = .ok (.iconst 1, 1) := by decide +kernel
theorem dX5_moveTo_75 : decode cX5_moveTo 75 = .ok (.iadd, 1) := by decide +kernel
theorem dX5_moveTo_76 : decode cX5_moveTo 76 = .ok (.aload_n 0, 1) := by decide +kernel
theorem dX5_moveTo_77 : decode cX5_moveTo 77 = .ok (.getfield 11, 3) := by decide +kernel
theorem dX5_moveTo_80 : decode cX5_moveTo 80 = .ok (.invokestatic 99, 3) := by decide +kernel
theorem dX5_moveTo_83 : decode cX5_moveTo 83 = .ok (.putfield 18, 3) := by decide +kernel
theorem dX5_moveTo_86 : decode cX5_moveTo 86 = .ok (.aload_n 0, 1) := by decide +kernel
theorem dX5_moveTo_87 : decode cX5_moveTo 87 = .ok (.getfield 18, 3) := by decide +kernel
theorem dX5_moveTo_90 : decode cX5_moveTo 90 = .ok (.aload_n 0, 1) := by decide +kernel
theorem dX5_moveTo_91 : decode cX5_moveTo 91 = .ok (.getfield 11, 3) := by decide +kernel
theorem dX5_moveTo_94 : decode cX5_moveTo 94 = .ok (.if_icmp .ge 39, 3) := by decide +kernel
theorem dX5_moveTo_133 : decode cX5_moveTo 133 = .ok (.aload_n 0, 1) := by decide +kernel
theorem dX5_moveTo_134 : decode cX5_moveTo 134 = .ok (.getfield 15, 3) := by decide +kernel
theorem dX5_moveTo_137 : decode cX5_moveTo 137 = .ok (.iload_n 1, 1) := by decide +kernel
theorem dX5_moveTo_138 : decode cX5_moveTo 138 = .ok (.if_icmp .gt 24, 3) := by decide +kernel
theorem dX5_moveTo_141 : decode cX5_moveTo 141 = .ok (.aload_n 0, 1) := by decide +kernel
theorem dX5_moveTo_142 : decode cX5_moveTo 142 = .ok (.getfield 15, 3) := by decide +kernel
theorem dX5_moveTo_145 : decode cX5_moveTo 145 = .ok (.ifCond .eq 17, 3) := by decide +kernel
theorem dX5_moveTo_162 : decode cX5_moveTo 162 = .ok (.iconst 1, 1) := by decide +kernel
theorem dX5_moveTo_163 : decode cX5_moveTo 163 = .ok (.goto 4, 3) := by decide +kernel
theorem dX5_moveTo_167 : decode cX5_moveTo 167 = .ok (.istore_n 2, 1) := by decide +kernel
theorem dX5_moveTo_168 : decode cX5_moveTo 168 = .ok (.iload_n 2, 1) := by decide +kernel
theorem dX5_moveTo_169 : decode cX5_moveTo 169 = .ok (.ifCond .ne 24, 3) := by decide +kernel
theorem dX5_moveTo_193 : decode cX5_moveTo 193 = .ok (.return_, 1) := by decide +kernel
theorem dX5_need_0 : decode cX5_need 0 = .ok (.aload_n 0, 1) := by decide +kernel
theorem dX5_need_1 : decode cX5_need 1 = .ok (.iload_n 1, 1) := by decide +kernel
theorem dX5_need_2 : decode cX5_need 2 = .ok (.invokevirtual 213, 3) := by decide +kernel
theorem dX5_need_5 : decode cX5_need 5 = .ok (.ifCond .eq 14, 3) := by decide +kernel
theorem dX5_need_19 : decode cX5_need 19 = .ok (.aload_n 0, 1) := by decide +kernel
theorem dX5_need_20 : decode cX5_need 20 = .ok (.iconst 1, 1) := by decide +kernel
theorem dX5_need_21 : decode cX5_need 21 = .ok (.aload_n 0, 1) := by decide +kernel
theorem dX5_need_22 : decode cX5_need 22 = .ok (.getfield 15, 3) := by decide +kernel
theorem dX5_need_25 : decode cX5_need 25 = .ok (.invokevirtual 78, 3) := by decide +kernel
theorem dX5_need_28 : decode cX5_need 28 = .ok (.return_, 1) := by decide +kernel
theorem dX5_needWord_0 : decode cX5_needWord 0 = .ok (.aload_n 0, 1) := by decide +kernel
theorem dX5_needWord_1 : decode cX5_needWord 1 = .ok (.aload_n 1, 1) := by decide +kernel
theorem dX5_needWord_2 : decode cX5_needWord 2 = .ok (.invokevirtual 54, 3) := by decide +kernel
theorem dX5_needWord_5 : decode cX5_needWord 5 = .ok (.iconst (-1), 1) := by decide +kernel
theorem dX5_needWord_6 : decode cX5_needWord 6 = .ok (.if_icmp .ne 15, 3) := by decide +kernel
theorem dX5_needWord_9 : decode cX5_needWord 9 = .ok (.aload_n 0, 1) := by decide +kernel
theorem dX5_needWord_10 : decode cX5_needWord 10 = .ok (.iconst 1, 1) := by decide +kernel
theorem dX5_needWord_11 : decode cX5_needWord 11 = .ok (.aload_n 0, 1) := by decide +kernel
theorem dX5_needWord_12 : decode cX5_needWord 12 = .ok (.getfield 15, 3) := by decide +kernel
theorem dX5_needWord_15 : decode cX5_needWord 15 = .ok (.invokevirtual 78, 3) := by decide +kernel
theorem dX5_needWord_18 : decode cX5_needWord 18 = .ok (.goto 11, 3) := by decide +kernel
theorem dX5_needWord_29 : decode cX5_needWord 29 = .ok (.return_, 1) := by decide +kernel
theorem dX5_number_0 : decode cX5_number 0 = .ok (.aload_n 0, 1) := by decide +kernel
theorem dX5_number_1 : decode cX5_number 1 = .ok (.getfield 21, 3) := by decide +kernel
theorem dX5_number_4 : decode cX5_number 4 = .ok (.iconst 2, 1) := by decide +kernel
theorem dX5_number_5 : decode cX5_number 5 = .ok (.if_icmp .eq 14, 3) := by decide +kernel
theorem dX5_number_8 : decode cX5_number 8 = .ok (.aload_n 0, 1) := by decide +kernel
theorem dX5_number_9 : decode cX5_number 9 = .ok (.iconst 1, 1) := by decide +kernel
theorem dX5_number_10 : decode cX5_number 10 = .ok (.aload_n 0, 1) := by decide +kernel
theorem dX5_number_11 : decode cX5_number 11 = .ok (.getfield 15, 3) := by decide +kernel
theorem dX5_number_14 : decode cX5_number 14 = .ok (.invokevirtual 78, 3) := by decide +kernel
theorem dX5_number_17 : decode cX5_number 17 = .ok (.iload_n 1, 1) := by decide +kernel
theorem dX5_number_18 : decode cX5_number 18 = .ok (.ireturn, 1) := by decide +kernel
theorem dX5_numberBehind_0 : decode cX5_numberBehind 0 = .ok (.aload_n 0, 1) := by decide +kernel
theorem dX5_numberBehind_1 : decode cX5_numberBehind 1 = .ok (.aload_n 1, 1) := by decide +kernel
theorem dX5_numberBehind_2 : decode cX5_numberBehind 2 = .ok (.invokevirtual 144, 3) := by decide +kernel
theorem dX5_numberBehind_5 : decode cX5_numberBehind 5 = .ok (.aload_n 0, 1) := by decide +kernel
theorem dX5_numberBehind_6 : decode cX5_numberBehind 6 = .ok (.iload_n 2, 1) := by decide +kernel
theorem dX5_numberBehind_7 : decode cX5_numberBehind 7 = .ok (.iload_n 3, 1) := by decide +kernel
theorem dX5_numberBehind_8 : decode cX5_numberBehind 8 = .ok (.invokevirtual 168, 3) := by decide +kernel
theorem dX5_numberBehind_11 : decode cX5_numberBehind 11 = .ok (.ireturn, 1) := by decide +kernel
theorem dX5_readCrossing_0 : decode cX5_readCrossing 0 = .ok (.aload_n 0, 1) := by decide +kernel
theorem dX5_readCrossing_1 : decode cX5_readCrossing 1 = .ok (.aload_n 1, 1) := by decide +kernel
theorem dX5_readCrossing_2 : decode cX5_readCrossing 2 = .ok (.iload_n 2, 1) := by decide +kernel
theorem dX5_readCrossing_3 : decode cX5_readCrossing 3 = .ok (.invokevirtual 41, 3) := by decide +kernel
theorem dX5_readCrossing_6 : decode cX5_readCrossing 6 = .ok (.aload_n 0, 1) := by decide +kernel
theorem dX5_readCrossing_7 : decode cX5_readCrossing 7 = .ok (.invokevirtual 45, 3) := by decide +kernel
theorem dX5_readCrossing_10 : decode cX5_readCrossing 10 = .ok (.aload_n 0, 1) := by decide +kernel
theorem dX5_readCrossing_11 : decode cX5_readCrossing 11 = .ok (.bipush 59, 2) := by decide +kernel
theorem dX5_readCrossing_13 : decode cX5_readCrossing 13 = .ok (.invokevirtual 48, 3) := by decide +kernel
theorem dX5_readCrossing_16 : decode cX5_readCrossing 16 = .ok (.iconst 1, 1) := by decide +kernel
theorem dX5_readCrossing_17 : decode cX5_readCrossing 17 = .ok (.istore_n 3, 1) := by decide +kernel
theorem dX5_readCrossing_18 : decode cX5_readCrossing 18 = .ok (.aload_n 0, 1) := by decide +kernel
theorem dX5_readCrossing_19 : decode cX5_readCrossing 19 = .ok (.getfield 21, 3) := by decide +kernel
theorem dX5_readCrossing_22 : decode cX5_readCrossing 22 = .ok (.ifCond .eq 136, 3) := by decide +kernel
theorem dX5_readCrossing_158 : decode cX5_readCrossing 158 = .ok (.aload_n 0, 1) := by decide +kernel
theorem dX5_readCrossing_159 : decode cX5_readCrossing 159 = .ok (.getfield 21, 3) := by decide +kernel
theorem dX5_readCrossing_162 : decode cX5_readCrossing 162 = .ok (.ifCond .eq 12, 3) := by decide +kernel
theorem dX5_readCrossing_174 : decode cX5_readCrossing 174 = .ok (.aload_n 1, 1) := by decide +kernel
theorem dX5_readCrossing_175 : decode cX5_readCrossing 175 = .ok (.iload_n 3, 1) := by decide +kernel
theorem dX5_readCrossing_176 : decode cX5_readCrossing 176 = .ok (.putfield 81, 3) := by decide +kernel
theorem dX5_readCrossing_179 : decode cX5_readCrossing 179 = .ok (.return_, 1) := by decide +kernel
theorem dX5_sees_0 : decode cX5_sees 0 = .ok (.aload_n 0, 1) := by decide +kernel
theorem dX5_sees_1 : decode cX5_sees 1 = .ok (.getfield 21, 3) := by decide +kernel
theorem dX5_sees_4 : decode cX5_sees 4 = .ok (.iconst 3, 1) := by decide +kernel
theorem dX5_sees_5 : decode cX5_sees 5 = .ok (.if_icmp .ne 20, 3) := by decide +kernel
theorem dX5_sees_25 : decode cX5_sees 25 = .ok (.iconst 0, 1) := by decide +kernel
theorem dX5_sees_26 : decode cX5_sees 26 = .ok (.ireturn, 1) := by decide +kernel
theorem dX5_sortOf_0 : decode cX5_sortOf 0 = .ok (.iload_n 1, 1) := by decide +kernel
theorem dX5_sortOf_1 : decode cX5_sortOf 1 = .ok (.ifCond .lt 11, 3) := by decide +kernel
theorem dX5_sortOf_4 : decode cX5_sortOf 4 = .ok (.iload_n 1, 1) := by decide +kernel
theorem dX5_sortOf_5 : decode cX5_sortOf 5 = .ok (.aload_n 0, 1) := by decide +kernel
theorem dX5_sortOf_6 : decode cX5_sortOf 6 = .ok (.getfield 11, 3) := by decide +kernel
theorem dX5_sortOf_9 : decode cX5_sortOf 9 = .ok (.if_icmp .lt 5, 3) := by decide +kernel
theorem dX5_sortOf_12 : decode cX5_sortOf 12 = .ok (.iconst 0, 1) := by decide +kernel
theorem dX5_sortOf_13 : decode cX5_sortOf 13 = .ok (.ireturn, 1) := by decide +kernel
theorem dX5_wordIn_0 : decode cX5_wordIn 0 = .ok (.aload_n 0, 1) := by decide +kernel
theorem dX5_wordIn_1 : decode cX5_wordIn 1 = .ok (.getfield 21, 3) := by decide +kernel
theorem dX5_wordIn_4 : decode cX5_wordIn 4 = .ok (.iconst 1, 1) := by decide +kernel
theorem dX5_wordIn_5 : decode cX5_wordIn 5 = .ok (.if_icmp .eq 5, 3) := by decide +kernel
theorem dX5_wordIn_8 : decode cX5_wordIn 8 = .ok (.iconst (-1), 1) := by decide +kernel
theorem dX5_wordIn_9 : decode cX5_wordIn 9 = .ok (.ireturn, 1) := by decide +kernel
theorem dX6_init_0 : decode cX6_init 0 = .ok (.aload_n 0, 1) := by decide +kernel
theorem dX6_init_1 : decode cX6_init 1 = .ok (.invokespecial 3, 3) := by decide +kernel
theorem dX6_init_4 : decode cX6_init 4 = .ok (.aload_n 0, 1) := by decide +kernel
theorem dX6_init_5 : decode cX6_init 5 = .ok (.iconst 0, 1) := by decide +kernel
theorem dX6_init_6 : decode cX6_init 6 = .ok (.putfield 9, 3) := by decide +kernel
theorem dX6_init_9 : decode cX6_init 9 = .ok (.aload_n 0, 1) := by decide +kernel
theorem dX6_init_10 : decode cX6_init 10 = .ok (.iconst 0, 1) := by decide +kernel
theorem dX6_init_11 : decode cX6_init 11 = .ok (.putfield 15, 3) := by decide +kernel
theorem dX6_init_14 : decode cX6_init 14 = .ok (.aload_n 0, 1) := by decide +kernel
theorem dX6_init_15 : decode cX6_init 15 = .ok (.iconst 0, 1) := by decide +kernel
theorem dX6_init_16 : decode cX6_init 16 = .ok (.putfield 18, 3) := by decide +kernel
theorem dX6_init_19 : decode cX6_init 19 = .ok (.aload_n 0, 1) := by decide +kernel
theorem dX6_init_20 : decode cX6_init 20 = .ok (.bipush 6, 2) := by decide +kernel
theorem dX6_init_22 : decode cX6_init 22 = .ok (.newarray .int, 2) := by decide +kernel
theorem dX6_init_24 : decode cX6_init 24 = .ok (.putfield 21, 3) := by decide +kernel
theorem dX6_init_27 : decode cX6_init 27 = .ok (.return_, 1) := by decide +kernel
theorem dX7_init_0 : decode cX7_init 0 = .ok (.aload_n 0, 1) := by decide +kernel
theorem dX7_init_1 : decode cX7_init 1 = .ok (.invokespecial 3, 3) := by decide +kernel
theorem dX7_init_4 : decode cX7_init 4 = .ok (.aload_n 0, 1) := by decide +kernel
theorem dX7_init_5 : decode cX7_init 5 = .ok (.iconst (-1), 1) := by decide +kernel
theorem dX7_init_6 : decode cX7_init 6 = .ok (.putfield 9, 3) := by decide +kernel
theorem dX7_init_9 : decode cX7_init 9 = .ok (.aload_n 0, 1) := by decide +kernel
theorem dX7_init_10 : decode cX7_init 10 = .ok (.bipush 6, 2) := by decide +kernel
theorem dX7_init_12 : decode cX7_init 12 = .ok (.newarray .int, 2) := by decide +kernel
theorem dX7_init_14 : decode cX7_init 14 = .ok (.putfield 15, 3) := by decide +kernel
theorem dX7_init_17 : decode cX7_init 17 = .ok (.aload_n 0, 1) := by decide +kernel
theorem dX7_init_18 : decode cX7_init 18 = .ok (.iconst (-1), 1) := by decide +kernel
theorem dX7_init_19 : decode cX7_init 19 = .ok (.putfield 19, 3) := by decide +kernel
theorem dX7_init_22 : decode cX7_init 22 = .ok (.aload_n 0, 1) := by decide +kernel
theorem dX7_init_23 : decode cX7_init 23 = .ok (.iconst 0, 1) := by decide +kernel
theorem dX7_init_24 : decode cX7_init 24 = .ok (.putfield 22, 3) := by decide +kernel
theorem dX7_init_27 : decode cX7_init 27 = .ok (.aload_n 0, 1) := by decide +kernel
theorem dX7_init_28 : decode cX7_init 28 = .ok (.iconst 0, 1) := by decide +kernel
theorem dX7_init_29 : decode cX7_init 29 = .ok (.putfield 25, 3) := by decide +kernel
theorem dX7_init_32 : decode cX7_init 32 = .ok (.aload_n 0, 1) := by decide +kernel
theorem dX7_init_33 : decode cX7_init 33 = .ok (.iconst 0, 1) := by decide +kernel
theorem dX7_init_34 : decode cX7_init 34 = .ok (.putfield 28, 3) := by decide +kernel
theorem dX7_init_37 : decode cX7_init 37 = .ok (.aload_n 0, 1) := by decide +kernel
theorem dX7_init_38 : decode cX7_init 38 = .ok (.sipush 320, 3) := by decide +kernel
theorem dX7_init_41 : decode cX7_init 41 = .ok (.newarray .int, 2) := by decide +kernel
theorem dX7_init_43 : decode cX7_init 43 = .ok (.putfield 32, 3) := by decide +kernel
theorem dX7_init_46 : decode cX7_init 46 = .ok (.aload_n 0, 1) := by decide +kernel
theorem dX7_init_47 : decode cX7_init 47 = .ok (.sipush 320, 3) := by decide +kernel
theorem dX7_init_50 : decode cX7_init 50 = .ok (.newarray .int, 2) := by decide +kernel
theorem dX7_init_52 : decode cX7_init 52 = .ok (.putfield 35, 3) := by decide +kernel
theorem dX7_init_55 : decode cX7_init 55 = .ok (.aload_n 0, 1) := by decide +kernel
theorem dX7_init_56 : decode cX7_init 56 = .ok (.sipush 3600, 3) := by decide +kernel
theorem dX7_init_59 : decode cX7_init 59 = .ok (.newarray .int, 2) := by decide +kernel
theorem dX7_init_61 : decode cX7_init 61 = .ok (.putfield 38, 3) := by decide +kernel
theorem dX7_init_64 : decode cX7_init 64 = .ok (.aload_n 0, 1) := by decide +kernel
theorem dX7_init_65 : decode cX7_init 65 = .ok (.sipush 300, 3) := by decide +kernel
theorem dX7_init_68 : decode cX7_init 68 = .ok (.newarray .int, 2) := by decide +kernel
theorem dX7_init_70 : decode cX7_init 70 = .ok (.putfield 41, 3) := by decide +kernel
theorem dX7_init_73 : decode cX7_init 73 = .ok (.aload_n 0, 1) := by decide +kernel
theorem dX7_init_74 : decode cX7_init 74 = .ok (.bipush 12, 2) := by decide +kernel
theorem dX7_init_76 : decode cX7_init 76 = .ok (.newarray .int, 2) := by decide +kernel
theorem dX7_init_78 : decode cX7_init 78 = .ok (.putfield 44, 3) := by decide +kernel
theorem dX7_init_81 : decode cX7_init 81 = .ok (.aload_n 0, 1) := by decide +kernel
theorem dX7_init_82 : decode cX7_init 82 = .ok (.iconst 0, 1) := by decide +kernel
theorem dX7_init_83 : decode cX7_init 83 = .ok (.putfield 47, 3) := by decide +kernel
theorem dX7_init_86 : decode cX7_init 86 = .ok (.aload_n 0, 1) := by decide +kernel
theorem dX7_init_87 : decode cX7_init 87 = .ok (.iconst 0, 1) := by decide +kernel
theorem dX7_init_88 : decode cX7_init 88 = .ok (.putfield 50, 3) := by decide +kernel
theorem dX7_init_91 : decode cX7_init 91 = .ok (.aload_n 0, 1) := by decide +kernel
theorem dX7_init_92 : decode cX7_init 92 = .ok (.iconst 0, 1) := by decide +kernel
theorem dX7_init_93 : decode cX7_init 93 = .ok (.putfield 53, 3) := by decide +kernel
theorem dX7_init_96 : decode cX7_init 96 = .ok (.aload_n 0, 1) := by decide +kernel
theorem dX7_init_97 : decode cX7_init 97 = .ok (.iconst 0, 1) := by decide +kernel
theorem dX7_init_98 : decode cX7_init 98 = .ok (.putfield 56, 3) := by decide +kernel
theorem dX7_init_101 : decode cX7_init 101 = .ok (.aload_n 0, 1) := by decide +kernel
theorem dX7_init_102 : decode cX7_init 102 = .ok (.aload_n 1, 1) := by decide +kernel
theorem dX7_init_103 : decode cX7_init 103 = .ok (.putfield 59, 3) := by decide +kernel
theorem dX7_init_106 : decode cX7_init 106 = .ok (.aload_n 0, 1) := by decide +kernel
theorem dX7_init_107 : decode cX7_init 107 = .ok (.aload_n 2, 1) := by decide +kernel
theorem dX7_init_108 : decode cX7_init 108 = .ok (.putfield 63, 3) := by decide +kernel
theorem dX7_init_111 : decode cX7_init 111 = .ok (.return_, 1) := by decide +kernel
theorem dX8_accepts_0 : decode cX8_accepts 0 = .ok (.iload_n 2, 1) := by decide +kernel
theorem dX8_accepts_1 : decode cX8_accepts 1 = .ok (.iconst 3, 1) := by decide +kernel
theorem dX8_accepts_2 : decode cX8_accepts 2 = .ok (.if_icmp .lt 15, 3) := by decide +kernel
theorem dX8_accepts_17 : decode cX8_accepts 17 = .ok (.iconst 0, 1) := by decide +kernel
theorem dX8_accepts_18 : decode cX8_accepts 18 = .ok (.ireturn, 1) := by decide +kernel
theorem dX8_init_0 : decode cX8_init 0 = .ok (.aload_n 0, 1) := by decide +kernel
theorem dX8_init_1 : decode cX8_init 1 = .ok (.invokespecial 3, 3) := by decide +kernel
theorem dX8_init_4 : decode cX8_init 4 = .ok (.aload_n 0, 1) := by decide +kernel
theorem dX8_init_5 : decode cX8_init 5 = .ok (.bipush 16, 2) := by decide +kernel
theorem dX8_init_7 : decode cX8_init 7 = .ok (.newarray .int, 2) := by decide +kernel
theorem dX8_init_9 : decode cX8_init 9 = .ok (.putfield 9, 3) := by decide +kernel
theorem dX8_init_12 : decode cX8_init 12 = .ok (.aload_n 0, 1) := by decide +kernel
theorem dX8_init_13 : decode cX8_init 13 = .ok (.bipush 16, 2) := by decide +kernel
theorem dX8_init_15 : decode cX8_init 15 = .ok (.newarray .int, 2) := by decide +kernel
theorem dX8_init_17 : decode cX8_init 17 = .ok (.putfield 15, 3) := by decide +kernel
theorem dX8_init_20 : decode cX8_init 20 = .ok (.aload_n 0, 1) := by decide +kernel
theorem dX8_init_21 : decode cX8_init 21 = .ok (.iconst 0, 1) := by decide +kernel
theorem dX8_init_22 : decode cX8_init 22 = .ok (.putfield 18, 3) := by decide +kernel
theorem dX8_init_25 : decode cX8_init 25 = .ok (.aload_n 0, 1) := by decide +kernel
theorem dX8_init_26 : decode cX8_init 26 = .ok (.iconst 0, 1) := by decide +kernel
theorem dX8_init_27 : decode cX8_init 27 = .ok (.putfield 22, 3) := by decide +kernel
theorem dX8_init_30 : decode cX8_init 30 = .ok (.aload_n 0, 1) := by decide +kernel
theorem dX8_init_31 : decode cX8_init 31 = .ok (.sipush 720, 3) := by decide +kernel
theorem dX8_init_34 : decode cX8_init 34 = .ok (.newarray .int, 2) := by decide +kernel
theorem dX8_init_36 : decode cX8_init 36 = .ok (.putfield 26, 3) := by decide +kernel
theorem dX8_init_39 : decode cX8_init 39 = .ok (.aload_n 0, 1) := by decide +kernel
theorem dX8_init_40 : decode cX8_init 40 = .ok (.iconst 0, 1) := by decide +kernel
theorem dX8_init_41 : decode cX8_init 41 = .ok (.putfield 29, 3) := by decide +kernel
theorem dX8_init_44 : decode cX8_init 44 = .ok (.aload_n 0, 1) := by decide +kernel
theorem dX8_init_45 : decode cX8_init 45 = .ok (.iconst 0, 1) := by decide +kernel
theorem dX8_init_46 : decode cX8_init 46 = .ok (.putfield 32, 3) := by decide +kernel
theorem dX8_init_49 : decode cX8_init 49 = .ok (.aload_n 0, 1) := by decide +kernel
theorem dX8_init_50 : decode cX8_init 50 = .ok (.iconst (-1), 1) := by decide +kernel
theorem dX8_init_51 : decode cX8_init 51 = .ok (.putfield 35, 3) := by decide +kernel
theorem dX8_init_54 : decode cX8_init 54 = .ok (.aload_n 0, 1) := by decide +kernel
theorem dX8_init_55 : decode cX8_init 55 = .ok (.iconst (-1), 1) := by decide +kernel
theorem dX8_init_56 : decode cX8_init 56 = .ok (.putfield 38, 3) := by decide +kernel
theorem dX8_init_59 : decode cX8_init 59 = .ok (.aload_n 0, 1) := by decide +kernel
theorem dX8_init_60 : decode cX8_init 60 = .ok (.iconst (-1), 1) := by decide +kernel
theorem dX8_init_61 : decode cX8_init 61 = .ok (.putfield 41, 3) := by decide +kernel
theorem dX8_init_64 : decode cX8_init 64 = .ok (.aload_n 0, 1) := by decide +kernel
theorem dX8_init_65 : decode cX8_init 65 = .ok (.aload_n 1, 1) := by decide +kernel
theorem dX8_init_66 : decode cX8_init 66 = .ok (.putfield 44, 3) := by decide +kernel
theorem dX8_init_69 : decode cX8_init 69 = .ok (.return_, 1) := by decide +kernel
theorem dX9_ask_0 : decode cX9_ask 0 = .ok (.aload_n 0, 1) := by decide +kernel
theorem dX9_ask_1 : decode cX9_ask 1 = .ok (.invokevirtual 114, 3) := by decide +kernel
theorem dX9_ask_4 : decode cX9_ask 4 = .ok (.istore_n 1, 1) := by decide +kernel
theorem dX9_ask_5 : decode cX9_ask 5 = .ok (.aload_n 0, 1) := by decide +kernel
theorem dX9_ask_6 : decode cX9_ask 6 = .ok (.invokevirtual 218, 3) := by decide +kernel
theorem dX9_ask_9 : decode cX9_ask 9 = .ok (.ifCond .ne 7, 3) := by decide +kernel
theorem dX9_ask_12 : decode cX9_ask 12 = .ok (.ldc2_w 309, 3) := by decide +kernel
theorem dX9_ask_15 : decode cX9_ask 15 = .ok (.lreturn, 1) := by decide +kernel
theorem dX9_best_0 : decode cX9_best 0 = .ok (.aload_n 0, 1) := by decide +kernel
theorem dX9_best_1 : decode cX9_best 1 = .ok (.invokevirtual 218, 3) := by decide +kernel
theorem dX9_best_4 : decode cX9_best 4 = .ok (.ifCond .eq 22, 3) := by decide +kernel
theorem dX9_best_26 : decode cX9_best 26 = .ok (.iconst (-1), 1) := by decide +kernel
theorem dX9_best_27 : decode cX9_best 27 = .ok (.ireturn, 1) := by decide +kernel
theorem dX9_canLive_0 : decode cX9_canLive 0 = .ok (.aload_n 0, 1) := by decide +kernel
theorem dX9_canLive_1 : decode cX9_canLive 1 = .ok (.invokevirtual 218, 3) := by decide +kernel
theorem dX9_canLive_4 : decode cX9_canLive 4 = .ok (.ifCond .eq 33, 3) := by decide +kernel
theorem dX9_canLive_37 : decode cX9_canLive 37 = .ok (.iconst 0, 1) := by decide +kernel
theorem dX9_canLive_38 : decode cX9_canLive 38 = .ok (.ireturn, 1) := by decide +kernel
theorem dX9_car_0 : decode cX9_car 0 = .ok (.aload_n 0, 1) := by decide +kernel
theorem dX9_car_1 : decode cX9_car 1 = .ok (.invokevirtual 218, 3) := by decide +kernel
theorem dX9_car_4 : decode cX9_car 4 = .ok (.ifCond .eq 14, 3) := by decide +kernel
theorem dX9_car_18 : decode cX9_car 18 = .ok (.iconst (-1), 1) := by decide +kernel
theorem dX9_car_19 : decode cX9_car 19 = .ok (.ireturn, 1) := by decide +kernel
theorem dX9_chance_0 : decode cX9_chance 0 = .ok (.aload_n 0, 1) := by decide +kernel
theorem dX9_chance_1 : decode cX9_chance 1 = .ok (.iload_n 1, 1) := by decide +kernel
theorem dX9_chance_2 : decode cX9_chance 2 = .ok (.invokevirtual 287, 3) := by decide +kernel
theorem dX9_chance_5 : decode cX9_chance 5 = .ok (.ifCond .ne 9, 3) := by decide +kernel
theorem dX9_chance_8 : decode cX9_chance 8 = .ok (.aload_n 0, 1) := by decide +kernel
theorem dX9_chance_9 : decode cX9_chance 9 = .ok (.iconst 3, 1) := by decide +kernel
theorem dX9_chance_10 : decode cX9_chance 10 = .ok (.invokevirtual 102, 3) := by decide +kernel
theorem dX9_chance_13 : decode cX9_chance 13 = .ok (.ireturn, 1) := by decide +kernel
theorem dX9_check_0 : decode cX9_check 0 = .ok (.bipush 101, 2) := by decide +kernel
theorem dX9_check_2 : decode cX9_check 2 = .ok (.istore_n 2, 1) := by decide +kernel
theorem dX9_check_3 : decode cX9_check 3 = .ok (.iconst 0, 1) := by decide +kernel
theorem dX9_check_4 : decode cX9_check 4 = .ok (.istore_n 3, 1) := by decide +kernel
theorem dX9_check_5 : decode cX9_check 5 = .ok (.iload_n 3, 1) := by decide +kernel
theorem dX9_check_6 : decode cX9_check 6 = .ok (.iload_n 1, 1) := by decide +kernel
theorem dX9_check_7 : decode cX9_check 7 = .ok (.if_icmp .ge 21, 3) := by decide +kernel
theorem dX9_check_10 : decode cX9_check 10 = .ok (.iconst 3, 1) := by decide +kernel
theorem dX9_check_11 : decode cX9_check 11 = .ok (.iload_n 2, 1) := by decide +kernel
theorem dX9_check_12 : decode cX9_check 12 = .ok (.imul, 1) := by decide +kernel
theorem dX9_check_13 : decode cX9_check 13 = .ok (.aload_n 0, 1) := by decide +kernel
theorem dX9_check_14 : decode cX9_check 14 = .ok (.iload_n 3, 1) := by decide +kernel
theorem dX9_check_15 : decode cX9_check 15 = .ok (.iaload, 1) := by decide +kernel
theorem dX9_check_16 : decode cX9_check 16 = .ok (.iadd, 1) := by decide +kernel
theorem dX9_check_17 : decode cX9_check 17 = .ok (.sipush 251, 3) := by decide +kernel
theorem dX9_check_20 : decode cX9_check 20 = .ok (.irem, 1) := by decide +kernel
theorem dX9_check_21 : decode cX9_check 21 = .ok (.istore_n 2, 1) := by decide +kernel
theorem dX9_check_22 : decode cX9_check 22 = .ok (.iinc 3 1, 3) := by decide +kernel
theorem dX9_check_25 : decode cX9_check 25 = .ok (.goto (-20), 3) := by decide +kernel
theorem dX9_check_28 : decode cX9_check 28 = .ok (.iload_n 2, 1) := by decide +kernel
theorem dX9_check_29 : decode cX9_check 29 = .ok (.ireturn, 1) := by decide +kernel
theorem dX9_crossing_0 : decode cX9_crossing 0 = .ok (.aload_n 0, 1) := by decide +kernel
theorem dX9_crossing_1 : decode cX9_crossing 1 = .ok (.getfield 24, 3) := by decide +kernel
theorem dX9_crossing_4 : decode cX9_crossing 4 = .ok (.astore_n 1, 1) := by decide +kernel
theorem dX9_crossing_5 : decode cX9_crossing 5 = .ok (.aload_n 0, 1) := by decide +kernel
theorem dX9_crossing_6 : decode cX9_crossing 6 = .ok (.getfield 53, 3) := by decide +kernel
theorem dX9_crossing_9 : decode cX9_crossing 9 = .ok (.aload_n 1, 1) := by decide +kernel
theorem dX9_crossing_10 : decode cX9_crossing 10 = .ok (.aload_n 0, 1) := by decide +kernel
theorem dX9_crossing_11 : decode cX9_crossing 11 = .ok (.invokevirtual 114, 3) := by decide +kernel
theorem dX9_crossing_14 : decode cX9_crossing 14 = .ok (.invokevirtual 118, 3) := by decide +kernel
theorem dX9_crossing_17 : decode cX9_crossing 17 = .ok (.aload_n 0, 1) := by decide +kernel
theorem dX9_crossing_18 : decode cX9_crossing 18 = .ok (.getfield 53, 3) := by decide +kernel
theorem dX9_crossing_21 : decode cX9_crossing 21 = .ok (.getfield 122, 3) := by decide +kernel
theorem dX9_crossing_24 : decode cX9_crossing 24 = .ok (.ifCond .eq 9, 3) := by decide +kernel
theorem dX9_crossing_27 : decode cX9_crossing 27 = .ok (.aload_n 0, 1) := by decide +kernel
theorem dX9_crossing_28 : decode cX9_crossing 28 = .ok (.iconst 1, 1) := by decide +kernel
theorem dX9_crossing_29 : decode cX9_crossing 29 = .ok (.invokevirtual 102, 3) := by decide +kernel
theorem dX9_crossing_32 : decode cX9_crossing 32 = .ok (.ireturn, 1) := by decide +kernel
theorem dX9_day_0 : decode cX9_day 0 = .ok (.aload_n 0, 1) := by decide +kernel
theorem dX9_day_1 : decode cX9_day 1 = .ok (.invokevirtual 218, 3) := by decide +kernel
theorem dX9_day_4 : decode cX9_day 4 = .ok (.ifCond .ne 5, 3) := by decide +kernel
theorem dX9_day_7 : decode cX9_day 7 = .ok (.iconst (-1), 1) := by decide +kernel
theorem dX9_day_8 : decode cX9_day 8 = .ok (.ireturn, 1) := by decide +kernel
theorem dX9_days_0 : decode cX9_days 0 = .ok (.aload_n 0, 1) := by decide +kernel
theorem dX9_days_1 : decode cX9_days 1 = .ok (.iload_n 1, 1) := by decide +kernel
theorem dX9_days_2 : decode cX9_days 2 = .ok (.invokevirtual 287, 3) := by decide +kernel
theorem dX9_days_5 : decode cX9_days 5 = .ok (.ifCond .ne 9, 3) := by decide +kernel
theorem dX9_days_8 : decode cX9_days 8 = .ok (.aload_n 0, 1) := by decide +kernel
theorem dX9_days_9 : decode cX9_days 9 = .ok (.iconst 3, 1) := by decide +kernel
theorem dX9_days_10 : decode cX9_days 10 = .ok (.invokevirtual 102, 3) := by decide +kernel
theorem dX9_days_13 : decode cX9_days 13 = .ok (.ireturn, 1) := by decide +kernel
theorem dX9_deny_0 : decode cX9_deny 0 = .ok (.aload_n 0, 1) := by decide +kernel
theorem dX9_deny_1 : decode cX9_deny 1 = .ok (.getfield 95, 3) := by decide +kernel
theorem dX9_deny_4 : decode cX9_deny 4 = .ok (.iload_n 1, 1) := by decide +kernel
theorem dX9_deny_5 : decode cX9_deny 5 = .ok (.dup2, 1) := by decide +kernel
theorem dX9_deny_6 : decode cX9_deny 6 = .ok (.iaload, 1) := by decide +kernel
theorem dX9_deny_7 : decode cX9_deny 7 = .ok (.iconst 1, 1) := by decide +kernel
theorem dX9_deny_8 : decode cX9_deny 8 = .ok (.iadd, 1) := by decide +kernel
theorem dX9_deny_9 : decode cX9_deny 9 = .ok (.iastore, 1) := by decide +kernel
theorem dX9_deny_10 : decode cX9_deny 10 = .ok (.iconst 0, 1) := by decide +kernel
theorem dX9_deny_11 : decode cX9_deny 11 = .ok (.ireturn, 1) := by decide +kernel
theorem dX9_doubts_0 : decode cX9_doubts 0 = .ok (.aload_n 0, 1) := by decide +kernel
theorem dX9_doubts_1 : decode cX9_doubts 1 = .ok (.iload_n 1, 1) := by decide +kernel
theorem dX9_doubts_2 : decode cX9_doubts 2 = .ok (.invokevirtual 169, 3) := by decide +kernel
theorem dX9_doubts_5 : decode cX9_doubts 5 = .ok (.ifCond .ne 5, 3) := by decide +kernel
theorem dX9_doubts_8 : decode cX9_doubts 8 = .ok (.iconst (-1), 1) := by decide +kernel
theorem dX9_doubts_9 : decode cX9_doubts 9 = .ok (.ireturn, 1) := by decide +kernel
theorem dX9_end_0 : decode cX9_end 0 = .ok (.iload_n 1, 1) := by decide +kernel
theorem dX9_end_1 : decode cX9_end 1 = .ok (.ifCond .lt 11, 3) := by decide +kernel
theorem dX9_end_4 : decode cX9_end 4 = .ok (.iload_n 1, 1) := by decide +kernel
theorem dX9_end_5 : decode cX9_end 5 = .ok (.aload_n 0, 1) := by decide +kernel
theorem dX9_end_6 : decode cX9_end 6 = .ok (.getfield 13, 3) := by decide +kernel
theorem dX9_end_9 : decode cX9_end 9 = .ok (.if_icmp .le 9, 3) := by decide +kernel
theorem dX9_end_12 : decode cX9_end 12 = .ok (.aload_n 0, 1) := by decide +kernel
theorem dX9_end_13 : decode cX9_end 13 = .ok (.iconst 0, 1) := by decide +kernel
theorem dX9_end_14 : decode cX9_end 14 = .ok (.invokevirtual 110, 3) := by decide +kernel
theorem dX9_end_17 : decode cX9_end 17 = .ok (.ireturn, 1) := by decide +kernel
theorem dX9_end_18 : decode cX9_end 18 = .ok (.aload_n 0, 1) := by decide +kernel
theorem dX9_end_19 : decode cX9_end 19 = .ok (.iload_n 1, 1) := by decide +kernel
theorem dX9_end_20 : decode cX9_end 20 = .ok (.putfield 13, 3) := by decide +kernel
theorem dX9_end_23 : decode cX9_end 23 = .ok (.iconst 1, 1) := by decide +kernel
theorem dX9_end_24 : decode cX9_end 24 = .ok (.ireturn, 1) := by decide +kernel
theorem dX9_fault_0 : decode cX9_fault 0 = .ok (.iload_n 1, 1) := by decide +kernel
theorem dX9_fault_1 : decode cX9_fault 1 = .ok (.lookupswitch 43 #[(0, 27), (1, 35)], 27) := by decide +kernel
theorem dX9_fault_28 : decode cX9_fault 28 = .ok (.aload_n 0, 1) := by decide +kernel
theorem dX9_fault_29 : decode cX9_fault 29 = .ok (.getfield 53, 3) := by decide +kernel
theorem dX9_fault_32 : decode cX9_fault 32 = .ok (.getfield 122, 3) := by decide +kernel
theorem dX9_fault_35 : decode cX9_fault 35 = .ok (.ireturn, 1) := by decide +kernel
theorem dX9_fault_36 : decode cX9_fault 36 = .ok (.aload_n 0, 1) := by decide +kernel
theorem dX9_fault_37 : decode cX9_fault 37 = .ok (.getfield 53, 3) := by decide +kernel
theorem dX9_fault_40 : decode cX9_fault 40 = .ok (.getfield 142, 3) := by decide +kernel
theorem dX9_fault_43 : decode cX9_fault 43 = .ok (.ireturn, 1) := by decide +kernel
theorem dX9_fault_44 : decode cX9_fault 44 = .ok (.iconst (-1), 1) := by decide +kernel
theorem dX9_fault_45 : decode cX9_fault 45 = .ok (.ireturn, 1) := by decide +kernel
theorem dX9_feed_0 : decode cX9_feed 0 = .ok (.aload_n 0, 1) := by decide +kernel
theorem dX9_feed_1 : decode cX9_feed 1 = .ok (.getfield 13, 3) := by decide +kernel
theorem dX9_feed_4 : decode cX9_feed 4 = .ok (.bipush 20, 2) := by decide +kernel
theorem dX9_feed_6 : decode cX9_feed 6 = .ok (.iadd, 1) := by decide +kernel
theorem dX9_feed_7 : decode cX9_feed 7 = .ok (.sipush 1600, 3) := by decide +kernel
theorem dX9_feed_10 : decode cX9_feed 10 = .ok (.if_icmp .le 9, 3) := by decide +kernel
theorem dX9_feed_19 : decode cX9_feed 19 = .ok (.aload_n 0, 1) := by decide +kernel
theorem dX9_feed_20 : decode cX9_feed 20 = .ok (.iload_n 1, 1) := by decide +kernel
theorem dX9_feed_21 : decode cX9_feed 21 = .ok (.invokevirtual 106, 3) := by decide +kernel
theorem dX9_feed_24 : decode cX9_feed 24 = .ok (.aload_n 0, 1) := by decide +kernel
theorem dX9_feed_25 : decode cX9_feed 25 = .ok (.iload_n 2, 1) := by decide +kernel
theorem dX9_feed_26 : decode cX9_feed 26 = .ok (.invokevirtual 106, 3) := by decide +kernel
theorem dX9_feed_29 : decode cX9_feed 29 = .ok (.aload_n 0, 1) := by decide +kernel
theorem dX9_feed_30 : decode cX9_feed 30 = .ok (.iload_n 3, 1) := by decide +kernel
theorem dX9_feed_31 : decode cX9_feed 31 = .ok (.invokevirtual 106, 3) := by decide +kernel
theorem dX9_feed_34 : decode cX9_feed 34 = .ok (.aload_n 0, 1) := by decide +kernel
theorem dX9_feed_35 : decode cX9_feed 35 = .ok (.iload 4, 2) := by decide +kernel
theorem dX9_feed_37 : decode cX9_feed 37 = .ok (.invokevirtual 106, 3) := by decide +kernel
theorem dX9_feed_40 : decode cX9_feed 40 = .ok (.aload_n 0, 1) := by decide +kernel
theorem dX9_feed_41 : decode cX9_feed 41 = .ok (.iload 5, 2) := by decide +kernel
theorem dX9_feed_43 : decode cX9_feed 43 = .ok (.invokevirtual 106, 3) := by decide +kernel
theorem dX9_feed_46 : decode cX9_feed 46 = .ok (.aload_n 0, 1) := by decide +kernel
theorem dX9_feed_47 : decode cX9_feed 47 = .ok (.getfield 13, 3) := by decide +kernel
theorem dX9_feed_50 : decode cX9_feed 50 = .ok (.ireturn, 1) := by decide +kernel
theorem dX9_fits_0 : decode cX9_fits 0 = .ok (.aload_n 0, 1) := by decide +kernel
theorem dX9_fits_1 : decode cX9_fits 1 = .ok (.invokevirtual 218, 3) := by decide +kernel
theorem dX9_fits_4 : decode cX9_fits 4 = .ok (.ifCond .ne 5, 3) := by decide +kernel
theorem dX9_fits_7 : decode cX9_fits 7 = .ok (.iconst (-1), 1) := by decide +kernel
theorem dX9_fits_8 : decode cX9_fits 8 = .ok (.ireturn, 1) := by decide +kernel
theorem dX9_green_0 : decode cX9_green 0 = .ok (.aload_n 0, 1) := by decide +kernel
theorem dX9_green_1 : decode cX9_green 1 = .ok (.getfield 20, 3) := by decide +kernel
theorem dX9_green_4 : decode cX9_green 4 = .ok (.iload_n 1, 1) := by decide +kernel
theorem dX9_green_5 : decode cX9_green 5 = .ok (.invokevirtual 284, 3) := by decide +kernel
theorem dX9_green_8 : decode cX9_green 8 = .ok (.ifCond .eq 14, 3) := by decide +kernel
theorem dX9_green_22 : decode cX9_green 22 = .ok (.aload_n 0, 1) := by decide +kernel
theorem dX9_green_23 : decode cX9_green 23 = .ok (.iconst 2, 1) := by decide +kernel
theorem dX9_green_24 : decode cX9_green 24 = .ok (.invokevirtual 110, 3) := by decide +kernel
theorem dX9_green_27 : decode cX9_green 27 = .ok (.ireturn, 1) := by decide +kernel
theorem dX9_has_0 : decode cX9_has 0 = .ok (.iload_n 1, 1) := by decide +kernel
theorem dX9_has_1 : decode cX9_has 1 = .ok (.tableswitch 111 0 7 #[47, 55, 63, 71, 79, 87, 95, 103], 47) := by decide +kernel
theorem dX9_has_48 : decode cX9_has 48 = .ok (.aload_n 0, 1) := by decide +kernel
theorem dX9_has_49 : decode cX9_has 49 = .ok (.getfield 20, 3) := by decide +kernel
theorem dX9_has_52 : decode cX9_has 52 = .ok (.getfield 145, 3) := by decide +kernel
theorem dX9_has_55 : decode cX9_has 55 = .ok (.ireturn, 1) := by decide +kernel
theorem dX9_has_56 : decode cX9_has 56 = .ok (.aload_n 0, 1) := by decide +kernel
theorem dX9_has_57 : decode cX9_has 57 = .ok (.getfield 20, 3) := by decide +kernel
theorem dX9_has_60 : decode cX9_has 60 = .ok (.getfield 148, 3) := by decide +kernel
theorem dX9_has_63 : decode cX9_has 63 = .ok (.ireturn, 1) := by decide +kernel
theorem dX9_has_64 : decode cX9_has 64 = .ok (.aload_n 0, 1) := by decide +kernel
theorem dX9_has_65 : decode cX9_has 65 = .ok (.getfield 20, 3) := by decide +kernel
theorem dX9_has_68 : decode cX9_has 68 = .ok (.getfield 151, 3) := by decide +kernel
theorem dX9_has_71 : decode cX9_has 71 = .ok (.ireturn, 1) := by decide +kernel
theorem dX9_has_72 : decode cX9_has 72 = .ok (.aload_n 0, 1) := by decide +kernel
theorem dX9_has_73 : decode cX9_has 73 = .ok (.getfield 30, 3) := by decide +kernel
theorem dX9_has_76 : decode cX9_has 76 = .ok (.getfield 154, 3) := by decide +kernel
theorem dX9_has_79 : decode cX9_has 79 = .ok (.ireturn, 1) := by decide +kernel
theorem dX9_has_80 : decode cX9_has 80 = .ok (.aload_n 0, 1) := by decide +kernel
theorem dX9_has_81 : decode cX9_has 81 = .ok (.getfield 30, 3) := by decide +kernel
theorem dX9_has_84 : decode cX9_has 84 = .ok (.getfield 157, 3) := by decide +kernel
theorem dX9_has_87 : decode cX9_has 87 = .ok (.ireturn, 1) := by decide +kernel
theorem dX9_has_88 : decode cX9_has 88 = .ok (.aload_n 0, 1) := by decide +kernel
theorem dX9_has_89 : decode cX9_has 89 = .ok (.getfield 30, 3) := by decide +kernel
theorem dX9_has_92 : decode cX9_has 92 = .ok (.getfield 160, 3) := by decide +kernel
theorem dX9_has_95 : decode cX9_has 95 = .ok (.ireturn, 1) := by decide +kernel
theorem dX9_has_96 : decode cX9_has 96 = .ok (.aload_n 0, 1) := by decide +kernel
theorem dX9_has_97 : decode cX9_has 97 = .ok (.getfield 85, 3) := by decide +kernel
theorem dX9_has_100 : decode cX9_has 100 = .ok (.getfield 163, 3) := by decide +kernel
theorem dX9_has_103 : decode cX9_has 103 = .ok (.ireturn, 1) := by decide +kernel
theorem dX9_has_104 : decode cX9_has 104 = .ok (.aload_n 0, 1) := by decide +kernel
theorem dX9_has_105 : decode cX9_has 105 = .ok (.getfield 37, 3) := by decide +kernel
theorem dX9_has_108 : decode cX9_has 108 = .ok (.getfield 166, 3) := by decide +kernel
theorem dX9_has_111 : decode cX9_has 111 = .ok (.ireturn, 1) := by decide +kernel
theorem dX9_has_112 : decode cX9_has 112 = .ok (.iconst (-1), 1) := by decide +kernel
theorem dX9_has_113 : decode cX9_has 113 = .ok (.ireturn, 1) := by decide +kernel
theorem dX9_hold_0 : decode cX9_hold 0 = .ok (.aload_n 0, 1) := by decide +kernel
theorem dX9_hold_1 : decode cX9_hold 1 = .ok (.invokevirtual 218, 3) := by decide +kernel
theorem dX9_hold_4 : decode cX9_hold 4 = .ok (.ifCond .ne 5, 3) := by decide +kernel
theorem dX9_hold_7 : decode cX9_hold 7 = .ok (.iconst (-1), 1) := by decide +kernel
theorem dX9_hold_8 : decode cX9_hold 8 = .ok (.ireturn, 1) := by decide +kernel
theorem dX9_image_0 : decode cX9_image 0 = .ok (.aload_n 0, 1) := by decide +kernel
theorem dX9_image_1 : decode cX9_image 1 = .ok (.getfield 89, 3) := by decide +kernel
theorem dX9_image_4 : decode cX9_image 4 = .ok (.iconst 0, 1) := by decide +kernel
theorem dX9_image_5 : decode cX9_image 5 = .ok (.aload_n 0, 1) := by decide +kernel
theorem dX9_image_6 : decode cX9_image 6 = .ok (.getfield 30, 3) := by decide +kernel
theorem dX9_image_9 : decode cX9_image 9 = .ok (.getfield 154, 3) := by decide +kernel
theorem dX9_image_12 : decode cX9_image 12 = .ok (.bipush 8, 2) := by decide +kernel
theorem dX9_image_14 : decode cX9_image 14 = .ok (.ishr, 1) := by decide +kernel
theorem dX9_image_15 : decode cX9_image 15 = .ok (.iastore, 1) := by decide +kernel
theorem dX9_image_16 : decode cX9_image 16 = .ok (.aload_n 0, 1) := by decide +kernel
theorem dX9_image_17 : decode cX9_image 17 = .ok (.getfield 89, 3) := by decide +kernel
theorem dX9_image_20 : decode cX9_image 20 = .ok (.iconst 1, 1) := by decide +kernel
theorem dX9_image_21 : decode cX9_image 21 = .ok (.aload_n 0, 1) := by decide +kernel
theorem dX9_image_22 : decode cX9_image 22 = .ok (.getfield 30, 3) := by decide +kernel
theorem dX9_image_25 : decode cX9_image 25 = .ok (.getfield 154, 3) := by decide +kernel
theorem dX9_image_28 : decode cX9_image 28 = .ok (.sipush 255, 3) := by decide +kernel
theorem dX9_image_31 : decode cX9_image 31 = .ok (.iand, 1) := by decide +kernel
theorem dX9_image_32 : decode cX9_image 32 = .ok (.iastore, 1) := by decide +kernel
theorem dX9_image_33 : decode cX9_image 33 = .ok (.aload_n 0, 1) := by decide +kernel
theorem dX9_image_34 : decode cX9_image 34 = .ok (.getfield 89, 3) := by decide +kernel
theorem dX9_image_37 : decode cX9_image 37 = .ok (.iconst 2, 1) := by decide +kernel
theorem dX9_image_38 : decode cX9_image 38 = .ok (.aload_n 0, 1) := by decide +kernel
theorem dX9_image_39 : decode cX9_image 39 = .ok (.getfield 30, 3) := by decide +kernel
theorem dX9_image_42 : decode cX9_image 42 = .ok (.getfield 157, 3) := by decide +kernel
theorem dX9_image_45 : decode cX9_image 45 = .ok (.iastore, 1) := by decide +kernel
theorem dX9_image_46 : decode cX9_image 46 = .ok (.aload_n 0, 1) := by decide +kernel
theorem dX9_image_47 : decode cX9_image 47 = .ok (.getfield 89, 3) := by decide +kernel
theorem dX9_image_50 : decode cX9_image 50 = .ok (.iconst 3, 1) := by decide +kernel
theorem dX9_image_51 : decode cX9_image 51 = .ok (.aload_n 0, 1) := by decide +kernel
theorem dX9_image_52 : decode cX9_image 52 = .ok (.getfield 30, 3) := by decide +kernel
theorem dX9_image_55 : decode cX9_image 55 = .ok (.getfield 160, 3) := by decide +kernel
theorem dX9_image_58 : decode cX9_image 58 = .ok (.iastore, 1) := by decide +kernel
theorem dX9_image_59 : decode cX9_image 59 = .ok (.iconst 0, 1) := by decide +kernel
theorem dX9_image_60 : decode cX9_image 60 = .ok (.istore_n 1, 1) := by decide +kernel
theorem dX9_image_61 : decode cX9_image 61 = .ok (.iload_n 1, 1) := by decide +kernel
theorem dX9_image_62 : decode cX9_image 62 = .ok (.aload_n 0, 1) := by decide +kernel
theorem dX9_image_63 : decode cX9_image 63 = .ok (.getfield 20, 3) := by decide +kernel
theorem dX9_image_66 : decode cX9_image 66 = .ok (.getfield 148, 3) := by decide +kernel
theorem dX9_image_69 : decode cX9_image 69 = .ok (.if_icmp .ge 26, 3) := by decide +kernel
theorem dX9_image_95 : decode cX9_image 95 = .ok (.iconst 4, 1) := by decide +kernel
theorem dX9_image_96 : decode cX9_image 96 = .ok (.aload_n 0, 1) := by decide +kernel
theorem dX9_image_97 : decode cX9_image 97 = .ok (.getfield 20, 3) := by decide +kernel
theorem dX9_image_100 : decode cX9_image 100 = .ok (.getfield 148, 3) := by decide +kernel
theorem dX9_image_103 : decode cX9_image 103 = .ok (.iadd, 1) := by decide +kernel
theorem dX9_image_104 : decode cX9_image 104 = .ok (.istore_n 1, 1) := by decide +kernel
theorem dX9_image_105 : decode cX9_image 105 = .ok (.aload_n 0, 1) := by decide +kernel
theorem dX9_image_106 : decode cX9_image 106 = .ok (.getfield 89, 3) := by decide +kernel
theorem dX9_image_109 : decode cX9_image 109 = .ok (.iload_n 1, 1) := by decide +kernel
theorem dX9_image_110 : decode cX9_image 110 = .ok (.aload_n 0, 1) := by decide +kernel
theorem dX9_image_111 : decode cX9_image 111 = .ok (.getfield 89, 3) := by decide +kernel
theorem dX9_image_114 : decode cX9_image 114 = .ok (.iload_n 1, 1) := by decide +kernel
theorem dX9_image_115 : decode cX9_image 115 = .ok (.invokestatic 319, 3) := by decide +kernel
theorem dX9_image_118 : decode cX9_image 118 = .ok (.iastore, 1) := by decide +kernel
theorem dX9_image_119 : decode cX9_image 119 = .ok (.aload_n 0, 1) := by decide +kernel
theorem dX9_image_120 : decode cX9_image 120 = .ok (.iload_n 1, 1) := by decide +kernel
theorem dX9_image_121 : decode cX9_image 121 = .ok (.iconst 1, 1) := by decide +kernel
theorem dX9_image_122 : decode cX9_image 122 = .ok (.iadd, 1) := by decide +kernel
theorem dX9_image_123 : decode cX9_image 123 = .ok (.putfield 92, 3) := by decide +kernel
theorem dX9_image_126 : decode cX9_image 126 = .ok (.aload_n 0, 1) := by decide +kernel
theorem dX9_image_127 : decode cX9_image 127 = .ok (.getfield 92, 3) := by decide +kernel
theorem dX9_image_130 : decode cX9_image 130 = .ok (.ireturn, 1) := by decide +kernel
theorem dX9_init_0 : decode cX9_init 0 = .ok (.aload_n 0, 1) := by decide +kernel
theorem dX9_init_1 : decode cX9_init 1 = .ok (.invokespecial 1, 3) := by decide +kernel
theorem dX9_init_4 : decode cX9_init 4 = .ok (.aload_n 0, 1) := by decide +kernel
theorem dX9_init_5 : decode cX9_init 5 = .ok (.sipush 1600, 3) := by decide +kernel
theorem dX9_init_8 : decode cX9_init 8 = .ok (.newarray .int, 2) := by decide +kernel
theorem dX9_init_10 : decode cX9_init 10 = .ok (.putfield 9, 3) := by decide +kernel
theorem dX9_init_13 : decode cX9_init 13 = .ok (.aload_n 0, 1) := by decide +kernel
theorem dX9_init_14 : decode cX9_init 14 = .ok (.iconst 0, 1) := by decide +kernel
theorem dX9_init_15 : decode cX9_init 15 = .ok (.putfield 13, 3) := by decide +kernel
theorem dX9_init_18 : decode cX9_init 18 = .ok (.aload_n 0, 1) := by decide +kernel
theorem dX9_init_19 : decode cX9_init 19 = .ok (.new 17, 3) := by decide +kernel
theorem dX9_init_22 : decode cX9_init 22 = .ok (.dup, 1) := by decide +kernel
theorem dX9_init_23 : decode cX9_init 23 = .ok (.invokespecial 19, 3) := by decide +kernel
theorem dX9_init_26 : decode cX9_init 26 = .ok (.putfield 20, 3) := by decide +kernel
theorem dX9_init_29 : decode cX9_init 29 = .ok (.aload_n 0, 1) := by decide +kernel
theorem dX9_init_30 : decode cX9_init 30 = .ok (.new 17, 3) := by decide +kernel
theorem dX9_init_33 : decode cX9_init 33 = .ok (.dup, 1) := by decide +kernel
theorem dX9_init_34 : decode cX9_init 34 = .ok (.invokespecial 19, 3) := by decide +kernel
theorem dX9_init_37 : decode cX9_init 37 = .ok (.putfield 24, 3) := by decide +kernel
theorem dX9_init_40 : decode cX9_init 40 = .ok (.aload_n 0, 1) := by decide +kernel
theorem dX9_init_41 : decode cX9_init 41 = .ok (.new 27, 3) := by decide +kernel
theorem dX9_init_44 : decode cX9_init 44 = .ok (.dup, 1) := by decide +kernel
theorem dX9_init_45 : decode cX9_init 45 = .ok (.invokespecial 29, 3) := by decide +kernel
theorem dX9_init_48 : decode cX9_init 48 = .ok (.putfield 30, 3) := by decide +kernel
theorem dX9_init_51 : decode cX9_init 51 = .ok (.aload_n 0, 1) := by decide +kernel
theorem dX9_init_52 : decode cX9_init 52 = .ok (.new 34, 3) := by decide +kernel
theorem dX9_init_55 : decode cX9_init 55 = .ok (.dup, 1) := by decide +kernel
theorem dX9_init_56 : decode cX9_init 56 = .ok (.invokespecial 36, 3) := by decide +kernel
theorem dX9_init_59 : decode cX9_init 59 = .ok (.putfield 37, 3) := by decide +kernel
theorem dX9_init_62 : decode cX9_init 62 = .ok (.aload_n 0, 1) := by decide +kernel
theorem dX9_init_63 : decode cX9_init 63 = .ok (.new 41, 3) := by decide +kernel
theorem dX9_init_66 : decode cX9_init 66 = .ok (.dup, 1) := by decide +kernel
theorem dX9_init_67 : decode cX9_init 67 = .ok (.invokespecial 43, 3) := by decide +kernel
theorem dX9_init_70 : decode cX9_init 70 = .ok (.putfield 44, 3) := by decide +kernel
theorem dX9_init_73 : decode cX9_init 73 = .ok (.aload_n 0, 1) := by decide +kernel
theorem dX9_init_74 : decode cX9_init 74 = .ok (.new 48, 3) := by decide +kernel
theorem dX9_init_77 : decode cX9_init 77 = .ok (.dup, 1) := by decide +kernel
theorem dX9_init_78 : decode cX9_init 78 = .ok (.aload_n 0, 1) := by decide +kernel
theorem dX9_init_79 : decode cX9_init 79 = .ok (.getfield 9, 3) := by decide +kernel
theorem dX9_init_82 : decode cX9_init 82 = .ok (.aload_n 0, 1) := by decide +kernel
theorem dX9_init_83 : decode cX9_init 83 = .ok (.getfield 24, 3) := by decide +kernel
theorem dX9_init_86 : decode cX9_init 86 = .ok (.invokespecial 50, 3) := by decide +kernel
theorem dX9_init_89 : decode cX9_init 89 = .ok (.putfield 53, 3) := by decide +kernel
theorem dX9_init_92 : decode cX9_init 92 = .ok (.aload_n 0, 1) := by decide +kernel
theorem dX9_init_93 : decode cX9_init 93 = .ok (.new 57, 3) := by decide +kernel
theorem dX9_init_96 : decode cX9_init 96 = .ok (.dup, 1) := by decide +kernel
theorem dX9_init_97 : decode cX9_init 97 = .ok (.aload_n 0, 1) := by decide +kernel
theorem dX9_init_98 : decode cX9_init 98 = .ok (.getfield 44, 3) := by decide +kernel
theorem dX9_init_101 : decode cX9_init 101 = .ok (.aload_n 0, 1) := by decide +kernel
theorem dX9_init_102 : decode cX9_init 102 = .ok (.getfield 20, 3) := by decide +kernel
theorem dX9_init_105 : decode cX9_init 105 = .ok (.invokespecial 59, 3) := by decide +kernel
theorem dX9_init_108 : decode cX9_init 108 = .ok (.putfield 62, 3) := by decide +kernel
theorem dX9_init_111 : decode cX9_init 111 = .ok (.aload_n 0, 1) := by decide +kernel
theorem dX9_init_112 : decode cX9_init 112 = .ok (.new 66, 3) := by decide +kernel
theorem dX9_init_115 : decode cX9_init 115 = .ok (.dup, 1) := by decide +kernel
theorem dX9_init_116 : decode cX9_init 116 = .ok (.aload_n 0, 1) := by decide +kernel
theorem dX9_init_117 : decode cX9_init 117 = .ok (.getfield 62, 3) := by decide +kernel
theorem dX9_init_120 : decode cX9_init 120 = .ok (.invokespecial 68, 3) := by decide +kernel
theorem dX9_init_123 : decode cX9_init 123 = .ok (.putfield 71, 3) := by decide +kernel
theorem dX9_init_126 : decode cX9_init 126 = .ok (.aload_n 0, 1) := by decide +kernel
theorem dX9_init_127 : decode cX9_init 127 = .ok (.new 75, 3) := by decide +kernel
theorem dX9_init_130 : decode cX9_init 130 = .ok (.dup, 1) := by decide +kernel
theorem dX9_init_131 : decode cX9_init 131 = .ok (.aload_n 0, 1) := by decide +kernel
theorem dX9_init_132 : decode cX9_init 132 = .ok (.getfield 62, 3) := by decide +kernel
theorem dX9_init_135 : decode cX9_init 135 = .ok (.invokespecial 77, 3) := by decide +kernel
theorem dX9_init_138 : decode cX9_init 138 = .ok (.putfield 78, 3) := by decide +kernel
theorem dX9_init_141 : decode cX9_init 141 = .ok (.aload_n 0, 1) := by decide +kernel
theorem dX9_init_142 : decode cX9_init 142 = .ok (.new 82, 3) := by decide +kernel
theorem dX9_init_145 : decode cX9_init 145 = .ok (.dup, 1) := by decide +kernel
theorem dX9_init_146 : decode cX9_init 146 = .ok (.aload_n 0, 1) := by decide +kernel
theorem dX9_init_147 : decode cX9_init 147 = .ok (.getfield 62, 3) := by decide +kernel
theorem dX9_init_150 : decode cX9_init 150 = .ok (.invokespecial 84, 3) := by decide +kernel
theorem dX9_init_153 : decode cX9_init 153 = .ok (.putfield 85, 3) := by decide +kernel
theorem dX9_init_156 : decode cX9_init 156 = .ok (.aload_n 0, 1) := by decide +kernel
theorem dX9_init_157 : decode cX9_init 157 = .ok (.bipush 11, 2) := by decide +kernel
theorem dX9_init_159 : decode cX9_init 159 = .ok (.newarray .int, 2) := by decide +kernel
theorem dX9_init_161 : decode cX9_init 161 = .ok (.putfield 89, 3) := by decide +kernel
theorem dX9_init_164 : decode cX9_init 164 = .ok (.aload_n 0, 1) := by decide +kernel
theorem dX9_init_165 : decode cX9_init 165 = .ok (.iconst 0, 1) := by decide +kernel
theorem dX9_init_166 : decode cX9_init 166 = .ok (.putfield 92, 3) := by decide +kernel
theorem dX9_init_169 : decode cX9_init 169 = .ok (.aload_n 0, 1) := by decide +kernel
theorem dX9_init_170 : decode cX9_init 170 = .ok (.bipush 6, 2) := by decide +kernel
theorem dX9_init_172 : decode cX9_init 172 = .ok (.newarray .int, 2) := by decide +kernel
theorem dX9_init_174 : decode cX9_init 174 = .ok (.putfield 95, 3) := by decide +kernel
theorem dX9_init_177 : decode cX9_init 177 = .ok (.aload_n 0, 1) := by decide +kernel
theorem dX9_init_178 : decode cX9_init 178 = .ok (.lconst 1, 1) := by decide +kernel
theorem dX9_init_179 : decode cX9_init 179 = .ok (.putfield 98, 3) := by decide +kernel
theorem dX9_init_182 : decode cX9_init 182 = .ok (.return_, 1) := by decide +kernel
theorem dX9_isImage_0 : decode cX9_isImage 0 = .ok (.aload_n 0, 1) := by decide +kernel
theorem dX9_isImage_1 : decode cX9_isImage 1 = .ok (.invokevirtual 218, 3) := by decide +kernel
theorem dX9_isImage_4 : decode cX9_isImage 4 = .ok (.ifCond .eq 16, 3) := by decide +kernel
theorem dX9_isImage_20 : decode cX9_isImage 20 = .ok (.iconst 0, 1) := by decide +kernel
theorem dX9_isImage_21 : decode cX9_isImage 21 = .ok (.ireturn, 1) := by decide +kernel
theorem dX9_isKind_0 : decode cX9_isKind 0 = .ok (.iload_n 1, 1) := by decide +kernel
theorem dX9_isKind_1 : decode cX9_isKind 1 = .ok (.ifCond .lt 18, 3) := by decide +kernel
theorem dX9_isKind_4 : decode cX9_isKind 4 = .ok (.iload_n 1, 1) := by decide +kernel
theorem dX9_isKind_5 : decode cX9_isKind 5 = .ok (.aload_n 0, 1) := by decide +kernel
theorem dX9_isKind_6 : decode cX9_isKind 6 = .ok (.getfield 20, 3) := by decide +kernel
theorem dX9_isKind_9 : decode cX9_isKind 9 = .ok (.getfield 148, 3) := by decide +kernel
theorem dX9_isKind_12 : decode cX9_isKind 12 = .ok (.if_icmp .ge 7, 3) := by decide +kernel
theorem dX9_isKind_19 : decode cX9_isKind 19 = .ok (.iconst 0, 1) := by decide +kernel
theorem dX9_isKind_20 : decode cX9_isKind 20 = .ok (.ireturn, 1) := by decide +kernel
theorem dX9_isWalker_0 : decode cX9_isWalker 0 = .ok (.iload_n 1, 1) := by decide +kernel
theorem dX9_isWalker_1 : decode cX9_isWalker 1 = .ok (.ifCond .lt 18, 3) := by decide +kernel
theorem dX9_isWalker_4 : decode cX9_isWalker 4 = .ok (.iload_n 1, 1) := by decide +kernel
theorem dX9_isWalker_5 : decode cX9_isWalker 5 = .ok (.aload_n 0, 1) := by decide +kernel
theorem dX9_isWalker_6 : decode cX9_isWalker 6 = .ok (.getfield 20, 3) := by decide +kernel
theorem dX9_isWalker_9 : decode cX9_isWalker 9 = .ok (.getfield 151, 3) := by decide +kernel
theorem dX9_isWalker_12 : decode cX9_isWalker 12 = .ok (.if_icmp .ge 7, 3) := by decide +kernel
theorem dX9_isWalker_19 : decode cX9_isWalker 19 = .ok (.iconst 0, 1) := by decide +kernel
theorem dX9_isWalker_20 : decode cX9_isWalker 20 = .ok (.ireturn, 1) := by decide +kernel
theorem dX9_kind_0 : decode cX9_kind 0 = .ok (.aload_n 0, 1) := by decide +kernel
theorem dX9_kind_1 : decode cX9_kind 1 = .ok (.iload_n 1, 1) := by decide +kernel
theorem dX9_kind_2 : decode cX9_kind 2 = .ok (.invokevirtual 169, 3) := by decide +kernel
theorem dX9_kind_5 : decode cX9_kind 5 = .ok (.ifCond .ne 5, 3) := by decide +kernel
theorem dX9_kind_8 : decode cX9_kind 8 = .ok (.iconst (-1), 1) := by decide +kernel
theorem dX9_kind_9 : decode cX9_kind 9 = .ok (.ireturn, 1) := by decide +kernel
theorem dX9_later_0 : decode cX9_later 0 = .ok (.aload_n 0, 1) := by decide +kernel
theorem dX9_later_1 : decode cX9_later 1 = .ok (.invokevirtual 218, 3) := by decide +kernel
theorem dX9_later_4 : decode cX9_later 4 = .ok (.ifCond .eq 28, 3) := by decide +kernel
theorem dX9_later_32 : decode cX9_later 32 = .ok (.iconst (-1), 1) := by decide +kernel
theorem dX9_later_33 : decode cX9_later 33 = .ok (.ireturn, 1) := by decide +kernel
theorem dX9_least_0 : decode cX9_least 0 = .ok (.aload_n 0, 1) := by decide +kernel
theorem dX9_least_1 : decode cX9_least 1 = .ok (.invokevirtual 218, 3) := by decide +kernel
theorem dX9_least_4 : decode cX9_least 4 = .ok (.ifCond .eq 17, 3) := by decide +kernel
theorem dX9_least_21 : decode cX9_least 21 = .ok (.iconst (-1), 1) := by decide +kernel
theorem dX9_least_22 : decode cX9_least 22 = .ok (.ireturn, 1) := by decide +kernel
theorem dX9_letter_0 : decode cX9_letter 0 = .ok (.iload_n 1, 1) := by decide +kernel
theorem dX9_letter_1 : decode cX9_letter 1 = .ok (.ifCond .ne 11, 3) := by decide +kernel
theorem dX9_letter_4 : decode cX9_letter 4 = .ok (.aload_n 0, 1) := by decide +kernel
theorem dX9_letter_5 : decode cX9_letter 5 = .ok (.iload_n 2, 1) := by decide +kernel
theorem dX9_letter_6 : decode cX9_letter 6 = .ok (.invokevirtual 169, 3) := by decide +kernel
theorem dX9_letter_9 : decode cX9_letter 9 = .ok (.ifCond .ne 16, 3) := by decide +kernel
theorem dX9_letter_12 : decode cX9_letter 12 = .ok (.iload_n 1, 1) := by decide +kernel
theorem dX9_letter_13 : decode cX9_letter 13 = .ok (.iconst 1, 1) := by decide +kernel
theorem dX9_letter_14 : decode cX9_letter 14 = .ok (.if_icmp .ne 15, 3) := by decide +kernel
theorem dX9_letter_17 : decode cX9_letter 17 = .ok (.aload_n 0, 1) := by decide +kernel
theorem dX9_letter_18 : decode cX9_letter 18 = .ok (.iload_n 2, 1) := by decide +kernel
theorem dX9_letter_19 : decode cX9_letter 19 = .ok (.invokevirtual 172, 3) := by decide +kernel
theorem dX9_letter_22 : decode cX9_letter 22 = .ok (.ifCond .eq 7, 3) := by decide +kernel
theorem dX9_letter_29 : decode cX9_letter 29 = .ok (.iconst 0, 1) := by decide +kernel
theorem dX9_letter_30 : decode cX9_letter 30 = .ok (.istore 4, 2) := by decide +kernel
theorem dX9_letter_32 : decode cX9_letter 32 = .ok (.iload 4, 2) := by decide +kernel
theorem dX9_letter_34 : decode cX9_letter 34 = .ok (.ifCond .eq 13, 3) := by decide +kernel
theorem dX9_letter_47 : decode cX9_letter 47 = .ok (.iconst (-1), 1) := by decide +kernel
theorem dX9_letter_48 : decode cX9_letter 48 = .ok (.ireturn, 1) := by decide +kernel
theorem dX9_light_0 : decode cX9_light 0 = .ok (.aload_n 0, 1) := by decide +kernel
theorem dX9_light_1 : decode cX9_light 1 = .ok (.invokevirtual 218, 3) := by decide +kernel
theorem dX9_light_4 : decode cX9_light 4 = .ok (.ifCond .eq 14, 3) := by decide +kernel
theorem dX9_light_18 : decode cX9_light 18 = .ok (.iconst (-1), 1) := by decide +kernel
theorem dX9_light_19 : decode cX9_light 19 = .ok (.ireturn, 1) := by decide +kernel
theorem dX9_octet_0 : decode cX9_octet 0 = .ok (.iload_n 1, 1) := by decide +kernel
theorem dX9_octet_1 : decode cX9_octet 1 = .ok (.ifCond .lt 20, 3) := by decide +kernel
theorem dX9_octet_4 : decode cX9_octet 4 = .ok (.iload_n 1, 1) := by decide +kernel
theorem dX9_octet_5 : decode cX9_octet 5 = .ok (.aload_n 0, 1) := by decide +kernel
theorem dX9_octet_6 : decode cX9_octet 6 = .ok (.getfield 92, 3) := by decide +kernel
theorem dX9_octet_9 : decode cX9_octet 9 = .ok (.if_icmp .ge 12, 3) := by decide +kernel
theorem dX9_octet_21 : decode cX9_octet 21 = .ok (.iconst (-1), 1) := by decide +kernel
theorem dX9_octet_22 : decode cX9_octet 22 = .ok (.ireturn, 1) := by decide +kernel
theorem dX9_on_0 : decode cX9_on 0 = .ok (.aload_n 0, 1) := by decide +kernel
theorem dX9_on_1 : decode cX9_on 1 = .ok (.invokevirtual 114, 3) := by decide +kernel
theorem dX9_on_4 : decode cX9_on 4 = .ok (.istore_n 1, 1) := by decide +kernel
theorem dX9_on_5 : decode cX9_on 5 = .ok (.aload_n 0, 1) := by decide +kernel
theorem dX9_on_6 : decode cX9_on 6 = .ok (.iload_n 1, 1) := by decide +kernel
theorem dX9_on_7 : decode cX9_on 7 = .ok (.invokevirtual 322, 3) := by decide +kernel
theorem dX9_on_10 : decode cX9_on 10 = .ok (.ifCond .ne 9, 3) := by decide +kernel
theorem dX9_on_13 : decode cX9_on 13 = .ok (.aload_n 0, 1) := by decide +kernel
theorem dX9_on_14 : decode cX9_on 14 = .ok (.iconst 5, 1) := by decide +kernel
theorem dX9_on_15 : decode cX9_on 15 = .ok (.invokevirtual 110, 3) := by decide +kernel
theorem dX9_on_18 : decode cX9_on 18 = .ok (.ireturn, 1) := by decide +kernel
theorem dX9_putBytes_0 : decode cX9_putBytes 0 = .ok (.bipush 24, 2) := by decide +kernel
theorem dX9_putBytes_2 : decode cX9_putBytes 2 = .ok (.istore_n 2, 1) := by decide +kernel
theorem dX9_putBytes_3 : decode cX9_putBytes 3 = .ok (.iload_n 2, 1) := by decide +kernel
theorem dX9_putBytes_4 : decode cX9_putBytes 4 = .ok (.ifCond .lt 35, 3) := by decide +kernel
theorem dX9_putBytes_7 : decode cX9_putBytes 7 = .ok (.aload_n 0, 1) := by decide +kernel
theorem dX9_putBytes_8 : decode cX9_putBytes 8 = .ok (.getfield 9, 3) := by decide +kernel
theorem dX9_putBytes_11 : decode cX9_putBytes 11 = .ok (.aload_n 0, 1) := by decide +kernel
theorem dX9_putBytes_12 : decode cX9_putBytes 12 = .ok (.getfield 13, 3) := by decide +kernel
theorem dX9_putBytes_15 : decode cX9_putBytes 15 = .ok (.iload_n 1, 1) := by decide +kernel
theorem dX9_putBytes_16 : decode cX9_putBytes 16 = .ok (.iload_n 2, 1) := by decide +kernel
theorem dX9_putBytes_17 : decode cX9_putBytes 17 = .ok (.ishr, 1) := by decide +kernel
theorem dX9_putBytes_18 : decode cX9_putBytes 18 = .ok (.sipush 255, 3) := by decide +kernel
theorem dX9_putBytes_21 : decode cX9_putBytes 21 = .ok (.iand, 1) := by decide +kernel
theorem dX9_putBytes_22 : decode cX9_putBytes 22 = .ok (.iastore, 1) := by decide +kernel
theorem dX9_putBytes_23 : decode cX9_putBytes 23 = .ok (.aload_n 0, 1) := by decide +kernel
theorem dX9_putBytes_24 : decode cX9_putBytes 24 = .ok (.dup, 1) := by decide +kernel
theorem dX9_putBytes_25 : decode cX9_putBytes 25 = .ok (.getfield 13, 3) := by decide +kernel
theorem dX9_putBytes_28 : decode cX9_putBytes 28 = .ok (.iconst 1, 1) := by decide +kernel
theorem dX9_putBytes_29 : decode cX9_putBytes 29 = .ok (.iadd, 1) := by decide +kernel
theorem dX9_putBytes_30 : decode cX9_putBytes 30 = .ok (.putfield 13, 3) := by decide +kernel
theorem dX9_putBytes_33 : decode cX9_putBytes 33 = .ok (.iinc 2 (-8), 3) := by decide +kernel
theorem dX9_putBytes_36 : decode cX9_putBytes 36 = .ok (.goto (-33), 3) := by decide +kernel
theorem dX9_putBytes_39 : decode cX9_putBytes 39 = .ok (.return_, 1) := by decide +kernel
theorem dX9_refuse_0 : decode cX9_refuse 0 = .ok (.aload_n 0, 1) := by decide +kernel
theorem dX9_refuse_1 : decode cX9_refuse 1 = .ok (.getfield 95, 3) := by decide +kernel
theorem dX9_refuse_4 : decode cX9_refuse 4 = .ok (.iload_n 1, 1) := by decide +kernel
theorem dX9_refuse_5 : decode cX9_refuse 5 = .ok (.dup2, 1) := by decide +kernel
theorem dX9_refuse_6 : decode cX9_refuse 6 = .ok (.iaload, 1) := by decide +kernel
theorem dX9_refuse_7 : decode cX9_refuse 7 = .ok (.iconst 1, 1) := by decide +kernel
theorem dX9_refuse_8 : decode cX9_refuse 8 = .ok (.iadd, 1) := by decide +kernel
theorem dX9_refuse_9 : decode cX9_refuse 9 = .ok (.iastore, 1) := by decide +kernel
theorem dX9_refuse_10 : decode cX9_refuse 10 = .ok (.iconst (-1), 1) := by decide +kernel
theorem dX9_refuse_11 : decode cX9_refuse 11 = .ok (.ireturn, 1) := by decide +kernel
theorem dX9_rule_0 : decode cX9_rule 0 = .ok (.aload_n 0, 1) := by decide +kernel
theorem dX9_rule_1 : decode cX9_rule 1 = .ok (.invokevirtual 218, 3) := by decide +kernel
theorem dX9_rule_4 : decode cX9_rule 4 = .ok (.ifCond .eq 23, 3) := by decide +kernel
theorem dX9_rule_27 : decode cX9_rule 27 = .ok (.aload_n 0, 1) := by decide +kernel
theorem dX9_rule_28 : decode cX9_rule 28 = .ok (.iconst 2, 1) := by decide +kernel
theorem dX9_rule_29 : decode cX9_rule 29 = .ok (.invokevirtual 110, 3) := by decide +kernel
theorem dX9_rule_32 : decode cX9_rule 32 = .ok (.ireturn, 1) := by decide +kernel
theorem dX9_see_0 : decode cX9_see 0 = .ok (.aload_n 0, 1) := by decide +kernel
theorem dX9_see_1 : decode cX9_see 1 = .ok (.invokevirtual 114, 3) := by decide +kernel
theorem dX9_see_4 : decode cX9_see 4 = .ok (.istore_n 1, 1) := by decide +kernel
theorem dX9_see_5 : decode cX9_see 5 = .ok (.aload_n 0, 1) := by decide +kernel
theorem dX9_see_6 : decode cX9_see 6 = .ok (.getfield 85, 3) := by decide +kernel
theorem dX9_see_9 : decode cX9_see 9 = .ok (.aload_n 0, 1) := by decide +kernel
theorem dX9_see_10 : decode cX9_see 10 = .ok (.getfield 9, 3) := by decide +kernel
theorem dX9_see_13 : decode cX9_see 13 = .ok (.iload_n 1, 1) := by decide +kernel
theorem dX9_see_14 : decode cX9_see 14 = .ok (.aload_n 0, 1) := by decide +kernel
theorem dX9_see_15 : decode cX9_see 15 = .ok (.getfield 20, 3) := by decide +kernel
theorem dX9_see_18 : decode cX9_see 18 = .ok (.getfield 151, 3) := by decide +kernel
theorem dX9_see_21 : decode cX9_see 21 = .ok (.invokevirtual 254, 3) := by decide +kernel
theorem dX9_see_24 : decode cX9_see 24 = .ok (.ifCond .ne 9, 3) := by decide +kernel
theorem dX9_see_27 : decode cX9_see 27 = .ok (.aload_n 0, 1) := by decide +kernel
theorem dX9_see_28 : decode cX9_see 28 = .ok (.iconst 1, 1) := by decide +kernel
theorem dX9_see_29 : decode cX9_see 29 = .ok (.invokevirtual 102, 3) := by decide +kernel
theorem dX9_see_32 : decode cX9_see 32 = .ok (.ireturn, 1) := by decide +kernel
theorem dX9_seed_0 : decode cX9_seed 0 = .ok (.iload_n 1, 1) := by decide +kernel
theorem dX9_seed_1 : decode cX9_seed 1 = .ok (.ifCond .ge 9, 3) := by decide +kernel
theorem dX9_seed_4 : decode cX9_seed 4 = .ok (.aload_n 0, 1) := by decide +kernel
theorem dX9_seed_5 : decode cX9_seed 5 = .ok (.iconst 5, 1) := by decide +kernel
theorem dX9_seed_6 : decode cX9_seed 6 = .ok (.invokevirtual 110, 3) := by decide +kernel
theorem dX9_seed_9 : decode cX9_seed 9 = .ok (.ireturn, 1) := by decide +kernel
theorem dX9_seed_10 : decode cX9_seed 10 = .ok (.aload_n 0, 1) := by decide +kernel
theorem dX9_seed_11 : decode cX9_seed 11 = .ok (.iload_n 1, 1) := by decide +kernel
theorem dX9_seed_12 : decode cX9_seed 12 = .ok (.i2l, 1) := by decide +kernel
theorem dX9_seed_13 : decode cX9_seed 13 = .ok (.putfield 98, 3) := by decide +kernel
theorem dX9_seed_16 : decode cX9_seed 16 = .ok (.iconst 1, 1) := by decide +kernel
theorem dX9_seed_17 : decode cX9_seed 17 = .ok (.ireturn, 1) := by decide +kernel
theorem dX9_stands_0 : decode cX9_stands 0 = .ok (.aload_n 0, 1) := by decide +kernel
theorem dX9_stands_1 : decode cX9_stands 1 = .ok (.getfield 20, 3) := by decide +kernel
theorem dX9_stands_4 : decode cX9_stands 4 = .ok (.getfield 145, 3) := by decide +kernel
theorem dX9_stands_7 : decode cX9_stands 7 = .ok (.ifCond .le 7, 3) := by decide +kernel
theorem dX9_stands_14 : decode cX9_stands 14 = .ok (.iconst 0, 1) := by decide +kernel
theorem dX9_stands_15 : decode cX9_stands 15 = .ok (.ireturn, 1) := by decide +kernel
theorem dX9_status_0 : decode cX9_status 0 = .ok (.iload_n 1, 1) := by decide +kernel
theorem dX9_status_1 : decode cX9_status 1 = .ok (.ifCond .lt 18, 3) := by decide +kernel
theorem dX9_status_4 : decode cX9_status 4 = .ok (.iload_n 1, 1) := by decide +kernel
theorem dX9_status_5 : decode cX9_status 5 = .ok (.bipush 6, 2) := by decide +kernel
theorem dX9_status_7 : decode cX9_status 7 = .ok (.if_icmp .ge 12, 3) := by decide +kernel
theorem dX9_status_10 : decode cX9_status 10 = .ok (.aload_n 0, 1) := by decide +kernel
theorem dX9_status_11 : decode cX9_status 11 = .ok (.getfield 95, 3) := by decide +kernel
theorem dX9_status_14 : decode cX9_status 14 = .ok (.iload_n 1, 1) := by decide +kernel
theorem dX9_status_15 : decode cX9_status 15 = .ok (.iaload, 1) := by decide +kernel
theorem dX9_status_16 : decode cX9_status 16 = .ok (.goto 4, 3) := by decide +kernel
theorem dX9_status_19 : decode cX9_status 19 = .ok (.iconst (-1), 1) := by decide +kernel
theorem dX9_status_20 : decode cX9_status 20 = .ok (.ireturn, 1) := by decide +kernel
theorem dX9_takeTape_0 : decode cX9_takeTape 0 = .ok (.aload_n 0, 1) := by decide +kernel
theorem dX9_takeTape_1 : decode cX9_takeTape 1 = .ok (.getfield 13, 3) := by decide +kernel
theorem dX9_takeTape_4 : decode cX9_takeTape 4 = .ok (.istore_n 1, 1) := by decide +kernel
theorem dX9_takeTape_5 : decode cX9_takeTape 5 = .ok (.aload_n 0, 1) := by decide +kernel
theorem dX9_takeTape_6 : decode cX9_takeTape 6 = .ok (.iconst 0, 1) := by decide +kernel
theorem dX9_takeTape_7 : decode cX9_takeTape 7 = .ok (.putfield 13, 3) := by decide +kernel
theorem dX9_takeTape_10 : decode cX9_takeTape 10 = .ok (.iload_n 1, 1) := by decide +kernel
theorem dX9_takeTape_11 : decode cX9_takeTape 11 = .ok (.ireturn, 1) := by decide +kernel
theorem dX9_trust_0 : decode cX9_trust 0 = .ok (.aload_n 0, 1) := by decide +kernel
theorem dX9_trust_1 : decode cX9_trust 1 = .ok (.iload_n 1, 1) := by decide +kernel
theorem dX9_trust_2 : decode cX9_trust 2 = .ok (.invokevirtual 169, 3) := by decide +kernel
theorem dX9_trust_5 : decode cX9_trust 5 = .ok (.ifCond .eq 26, 3) := by decide +kernel
theorem dX9_trust_31 : decode cX9_trust 31 = .ok (.aload_n 0, 1) := by decide +kernel
theorem dX9_trust_32 : decode cX9_trust 32 = .ok (.iconst 2, 1) := by decide +kernel
theorem dX9_trust_33 : decode cX9_trust 33 = .ok (.invokevirtual 110, 3) := by decide +kernel
theorem dX9_trust_36 : decode cX9_trust 36 = .ok (.ireturn, 1) := by decide +kernel
theorem dX9_undo_0 : decode cX9_undo 0 = .ok (.aload_n 0, 1) := by decide +kernel
theorem dX9_undo_1 : decode cX9_undo 1 = .ok (.getfield 37, 3) := by decide +kernel
theorem dX9_undo_4 : decode cX9_undo 4 = .ok (.aload_n 0, 1) := by decide +kernel
theorem dX9_undo_5 : decode cX9_undo 5 = .ok (.getfield 30, 3) := by decide +kernel
theorem dX9_undo_8 : decode cX9_undo 8 = .ok (.invokevirtual 305, 3) := by decide +kernel
theorem dX9_undo_11 : decode cX9_undo 11 = .ok (.ifCond .ne 9, 3) := by decide +kernel
theorem dX9_undo_14 : decode cX9_undo 14 = .ok (.aload_n 0, 1) := by decide +kernel
theorem dX9_undo_15 : decode cX9_undo 15 = .ok (.iconst 4, 1) := by decide +kernel
theorem dX9_undo_16 : decode cX9_undo 16 = .ok (.invokevirtual 110, 3) := by decide +kernel
theorem dX9_undo_19 : decode cX9_undo 19 = .ok (.ireturn, 1) := by decide +kernel
theorem dX9_walker_0 : decode cX9_walker 0 = .ok (.aload_n 0, 1) := by decide +kernel
theorem dX9_walker_1 : decode cX9_walker 1 = .ok (.iload_n 1, 1) := by decide +kernel
theorem dX9_walker_2 : decode cX9_walker 2 = .ok (.invokevirtual 172, 3) := by decide +kernel
theorem dX9_walker_5 : decode cX9_walker 5 = .ok (.ifCond .ne 5, 3) := by decide +kernel
theorem dX9_walker_8 : decode cX9_walker 8 = .ok (.iconst (-1), 1) := by decide +kernel
theorem dX9_walker_9 : decode cX9_walker 9 = .ok (.ireturn, 1) := by decide +kernel
theorem dX9_watched_0 : decode cX9_watched 0 = .ok (.aload_n 0, 1) := by decide +kernel
theorem dX9_watched_1 : decode cX9_watched 1 = .ok (.invokevirtual 218, 3) := by decide +kernel
theorem dX9_watched_4 : decode cX9_watched 4 = .ok (.ifCond .ne 5, 3) := by decide +kernel
theorem dX9_watched_7 : decode cX9_watched 7 = .ok (.iconst (-1), 1) := by decide +kernel
theorem dX9_watched_8 : decode cX9_watched 8 = .ok (.ireturn, 1) := by decide +kernel
end
section
theorem dX10_init_0 : decode cX10_init 0 = .ok (.aload_n 0, 1) := by decide +kernel
theorem dX10_init_1 : decode cX10_init 1 = .ok (.invokespecial 1, 3) := by decide +kernel
theorem dX10_init_4 : decode cX10_init 4 = .ok (.aload_n 0, 1) := by decide +kernel
theorem dX10_init_5 : decode cX10_init 5 = .ok (.sipush 1600, 3) := by decide +kernel
theorem dX10_init_8 : decode cX10_init 8 = .ok (.newarray .int, 2) := by decide +kernel
theorem dX10_init_10 : decode cX10_init 10 = .ok (.putfield 7, 3) := by decide +kernel
theorem dX10_init_13 : decode cX10_init 13 = .ok (.aload_n 0, 1) := by decide +kernel
theorem dX10_init_14 : decode cX10_init 14 = .ok (.iconst (-1), 1) := by decide +kernel
theorem dX10_init_15 : decode cX10_init 15 = .ok (.putfield 13, 3) := by decide +kernel
theorem dX10_init_18 : decode cX10_init 18 = .ok (.aload_n 0, 1) := by decide +kernel
theorem dX10_init_19 : decode cX10_init 19 = .ok (.bipush 6, 2) := by decide +kernel
theorem dX10_init_21 : decode cX10_init 21 = .ok (.newarray .int, 2) := by decide +kernel
theorem dX10_init_23 : decode cX10_init 23 = .ok (.putfield 17, 3) := by decide +kernel
theorem dX10_init_26 : decode cX10_init 26 = .ok (.aload_n 0, 1) := by decide +kernel
theorem dX10_init_27 : decode cX10_init 27 = .ok (.iconst 5, 1) := by decide +kernel
theorem dX10_init_28 : decode cX10_init 28 = .ok (.newarray .char, 2) := by decide +kernel
theorem dX10_init_30 : decode cX10_init 30 = .ok (.dup, 1) := by decide +kernel
theorem dX10_init_31 : decode cX10_init 31 = .ok (.iconst 0, 1) := by decide +kernel
theorem dX10_init_32 : decode cX10_init 32 = .ok (.bipush 99, 2) := by decide +kernel
theorem dX10_init_34 : decode cX10_init 34 = .ok (.castore, 1) := by decide +kernel
theorem dX10_init_35 : decode cX10_init 35 = .ok (.dup, 1) := by decide +kernel
theorem dX10_init_36 : decode cX10_init 36 = .ok (.iconst 1, 1) := by decide +kernel
theorem dX10_init_37 : decode cX10_init 37 = .ok (.bipush 121, 2) := by decide +kernel
theorem dX10_init_39 : decode cX10_init 39 = .ok (.castore, 1) := by decide +kernel
theorem dX10_init_40 : decode cX10_init 40 = .ok (.dup, 1) := by decide +kernel
theorem dX10_init_41 : decode cX10_init 41 = .ok (.iconst 2, 1) := by decide +kernel
theorem dX10_init_42 : decode cX10_init 42 = .ok (.bipush 99, 2) := by decide +kernel
theorem dX10_init_44 : decode cX10_init 44 = .ok (.castore, 1) := by decide +kernel
theorem dX10_init_45 : decode cX10_init 45 = .ok (.dup, 1) := by decide +kernel
theorem dX10_init_46 : decode cX10_init 46 = .ok (.iconst 3, 1) := by decide +kernel
theorem dX10_init_47 : decode cX10_init 47 = .ok (.bipush 108, 2) := by decide +kernel
theorem dX10_init_49 : decode cX10_init 49 = .ok (.castore, 1) := by decide +kernel
theorem dX10_init_50 : decode cX10_init 50 = .ok (.dup, 1) := by decide +kernel
theorem dX10_init_51 : decode cX10_init 51 = .ok (.iconst 4, 1) := by decide +kernel
theorem dX10_init_52 : decode cX10_init 52 = .ok (.bipush 101, 2) := by decide +kernel
theorem dX10_init_54 : decode cX10_init 54 = .ok (.castore, 1) := by decide +kernel
theorem dX10_init_55 : decode cX10_init 55 = .ok (.putfield 20, 3) := by decide +kernel
theorem dX10_init_58 : decode cX10_init 58 = .ok (.aload_n 0, 1) := by decide +kernel
theorem dX10_init_59 : decode cX10_init 59 = .ok (.iconst 5, 1) := by decide +kernel
theorem dX10_init_60 : decode cX10_init 60 = .ok (.newarray .char, 2) := by decide +kernel
theorem dX10_init_62 : decode cX10_init 62 = .ok (.dup, 1) := by decide +kernel
theorem dX10_init_63 : decode cX10_init 63 = .ok (.iconst 0, 1) := by decide +kernel
theorem dX10_init_64 : decode cX10_init 64 = .ok (.bipush 103, 2) := by decide +kernel
theorem dX10_init_66 : decode cX10_init 66 = .ok (.castore, 1) := by decide +kernel
theorem dX10_init_67 : decode cX10_init 67 = .ok (.dup, 1) := by decide +kernel
theorem dX10_init_68 : decode cX10_init 68 = .ok (.iconst 1, 1) := by decide +kernel
theorem dX10_init_69 : decode cX10_init 69 = .ok (.bipush 114, 2) := by decide +kernel
theorem dX10_init_71 : decode cX10_init 71 = .ok (.castore, 1) := by decide +kernel
theorem dX10_init_72 : decode cX10_init 72 = .ok (.dup, 1) := by decide +kernel
theorem dX10_init_73 : decode cX10_init 73 = .ok (.iconst 2, 1) := by decide +kernel
theorem dX10_init_74 : decode cX10_init 74 = .ok (.bipush 101, 2) := by decide +kernel
theorem dX10_init_76 : decode cX10_init 76 = .ok (.castore, 1) := by decide +kernel
theorem dX10_init_77 : decode cX10_init 77 = .ok (.dup, 1) := by decide +kernel
theorem dX10_init_78 : decode cX10_init 78 = .ok (.iconst 3, 1) := by decide +kernel
theorem dX10_init_79 : decode cX10_init 79 = .ok (.bipush 101, 2) := by decide +kernel
theorem dX10_init_81 : decode cX10_init 81 = .ok (.castore, 1) := by decide +kernel
theorem dX10_init_82 : decode cX10_init 82 = .ok (.dup, 1) := by decide +kernel
theorem dX10_init_83 : decode cX10_init 83 = .ok (.iconst 4, 1) := by decide +kernel
theorem dX10_init_84 : decode cX10_init 84 = .ok (.bipush 110, 2) := by decide +kernel
theorem dX10_init_86 : decode cX10_init 86 = .ok (.castore, 1) := by decide +kernel
theorem dX10_init_87 : decode cX10_init 87 = .ok (.putfield 24, 3) := by decide +kernel
theorem dX10_init_90 : decode cX10_init 90 = .ok (.aload_n 0, 1) := by decide +kernel
theorem dX10_init_91 : decode cX10_init 91 = .ok (.iconst 4, 1) := by decide +kernel
theorem dX10_init_92 : decode cX10_init 92 = .ok (.newarray .char, 2) := by decide +kernel
theorem dX10_init_94 : decode cX10_init 94 = .ok (.dup, 1) := by decide +kernel
theorem dX10_init_95 : decode cX10_init 95 = .ok (.iconst 0, 1) := by decide +kernel
theorem dX10_init_96 : decode cX10_init 96 = .ok (.bipush 114, 2) := by decide +kernel
theorem dX10_init_98 : decode cX10_init 98 = .ok (.castore, 1) := by decide +kernel
theorem dX10_init_99 : decode cX10_init 99 = .ok (.dup, 1) := by decide +kernel
theorem dX10_init_100 : decode cX10_init 100 = .ok (.iconst 1, 1) := by decide +kernel
theorem dX10_init_101 : decode cX10_init 101 = .ok (.bipush 117, 2) := by decide +kernel
theorem dX10_init_103 : decode cX10_init 103 = .ok (.castore, 1) := by decide +kernel
theorem dX10_init_104 : decode cX10_init 104 = .ok (.dup, 1) := by decide +kernel
theorem dX10_init_105 : decode cX10_init 105 = .ok (.iconst 2, 1) := by decide +kernel
theorem dX10_init_106 : decode cX10_init 106 = .ok (.bipush 108, 2) := by decide +kernel
theorem dX10_init_108 : decode cX10_init 108 = .ok (.castore, 1) := by decide +kernel
theorem dX10_init_109 : decode cX10_init 109 = .ok (.dup, 1) := by decide +kernel
theorem dX10_init_110 : decode cX10_init 110 = .ok (.iconst 3, 1) := by decide +kernel
theorem dX10_init_111 : decode cX10_init 111 = .ok (.bipush 101, 2) := by decide +kernel
theorem dX10_init_113 : decode cX10_init 113 = .ok (.castore, 1) := by decide +kernel
theorem dX10_init_114 : decode cX10_init 114 = .ok (.putfield 27, 3) := by decide +kernel
theorem dX10_init_117 : decode cX10_init 117 = .ok (.aload_n 0, 1) := by decide +kernel
theorem dX10_init_118 : decode cX10_init 118 = .ok (.iconst 5, 1) := by decide +kernel
theorem dX10_init_119 : decode cX10_init 119 = .ok (.newarray .char, 2) := by decide +kernel
theorem dX10_init_121 : decode cX10_init 121 = .ok (.dup, 1) := by decide +kernel
theorem dX10_init_122 : decode cX10_init 122 = .ok (.iconst 0, 1) := by decide +kernel
theorem dX10_init_123 : decode cX10_init 123 = .ok (.bipush 108, 2) := by decide +kernel
theorem dX10_init_125 : decode cX10_init 125 = .ok (.castore, 1) := by decide +kernel
theorem dX10_init_126 : decode cX10_init 126 = .ok (.dup, 1) := by decide +kernel
theorem dX10_init_127 : decode cX10_init 127 = .ok (.iconst 1, 1) := by decide +kernel
theorem dX10_init_128 : decode cX10_init 128 = .ok (.bipush 101, 2) := by decide +kernel
theorem dX10_init_130 : decode cX10_init 130 = .ok (.castore, 1) := by decide +kernel
theorem dX10_init_131 : decode cX10_init 131 = .ok (.dup, 1) := by decide +kernel
theorem dX10_init_132 : decode cX10_init 132 = .ok (.iconst 2, 1) := by decide +kernel
theorem dX10_init_133 : decode cX10_init 133 = .ok (.bipush 97, 2) := by decide +kernel
theorem dX10_init_135 : decode cX10_init 135 = .ok (.castore, 1) := by decide +kernel
theorem dX10_init_136 : decode cX10_init 136 = .ok (.dup, 1) := by decide +kernel
theorem dX10_init_137 : decode cX10_init 137 = .ok (.iconst 3, 1) := by decide +kernel
theorem dX10_init_138 : decode cX10_init 138 = .ok (.bipush 115, 2) := by decide +kernel
theorem dX10_init_140 : decode cX10_init 140 = .ok (.castore, 1) := by decide +kernel
theorem dX10_init_141 : decode cX10_init 141 = .ok (.dup, 1) := by decide +kernel
theorem dX10_init_142 : decode cX10_init 142 = .ok (.iconst 4, 1) := by decide +kernel
theorem dX10_init_143 : decode cX10_init 143 = .ok (.bipush 116, 2) := by decide +kernel
theorem dX10_init_145 : decode cX10_init 145 = .ok (.castore, 1) := by decide +kernel
theorem dX10_init_146 : decode cX10_init 146 = .ok (.putfield 30, 3) := by decide +kernel
theorem dX10_init_149 : decode cX10_init 149 = .ok (.aload_n 0, 1) := by decide +kernel
theorem dX10_init_150 : decode cX10_init 150 = .ok (.iconst 4, 1) := by decide +kernel
theorem dX10_init_151 : decode cX10_init 151 = .ok (.newarray .char, 2) := by decide +kernel
theorem dX10_init_153 : decode cX10_init 153 = .ok (.dup, 1) := by decide +kernel
theorem dX10_init_154 : decode cX10_init 154 = .ok (.iconst 0, 1) := by decide +kernel
theorem dX10_init_155 : decode cX10_init 155 = .ok (.bipush 107, 2) := by decide +kernel
theorem dX10_init_157 : decode cX10_init 157 = .ok (.castore, 1) := by decide +kernel
theorem dX10_init_158 : decode cX10_init 158 = .ok (.dup, 1) := by decide +kernel
theorem dX10_init_159 : decode cX10_init 159 = .ok (.iconst 1, 1) := by decide +kernel
theorem dX10_init_160 : decode cX10_init 160 = .ok (.bipush 105, 2) := by decide +kernel
theorem dX10_init_162 : decode cX10_init 162 = .ok (.castore, 1) := by decide +kernel
theorem dX10_init_163 : decode cX10_init 163 = .ok (.dup, 1) := by decide +kernel
theorem dX10_init_164 : decode cX10_init 164 = .ok (.iconst 2, 1) := by decide +kernel
theorem dX10_init_165 : decode cX10_init 165 = .ok (.bipush 110, 2) := by decide +kernel
theorem dX10_init_167 : decode cX10_init 167 = .ok (.castore, 1) := by decide +kernel
theorem dX10_init_168 : decode cX10_init 168 = .ok (.dup, 1) := by decide +kernel
theorem dX10_init_169 : decode cX10_init 169 = .ok (.iconst 3, 1) := by decide +kernel
theorem dX10_init_170 : decode cX10_init 170 = .ok (.bipush 100, 2) := by decide +kernel
theorem dX10_init_172 : decode cX10_init 172 = .ok (.castore, 1) := by decide +kernel
theorem dX10_init_173 : decode cX10_init 173 = .ok (.putfield 33, 3) := by decide +kernel
theorem dX10_init_176 : decode cX10_init 176 = .ok (.aload_n 0, 1) := by decide +kernel
theorem dX10_init_177 : decode cX10_init 177 = .ok (.iconst 4, 1) := by decide +kernel
theorem dX10_init_178 : decode cX10_init 178 = .ok (.newarray .char, 2) := by decide +kernel
theorem dX10_init_180 : decode cX10_init 180 = .ok (.dup, 1) := by decide +kernel
theorem dX10_init_181 : decode cX10_init 181 = .ok (.iconst 0, 1) := by decide +kernel
theorem dX10_init_182 : decode cX10_init 182 = .ok (.bipush 99, 2) := by decide +kernel
theorem dX10_init_184 : decode cX10_init 184 = .ok (.castore, 1) := by decide +kernel
theorem dX10_init_185 : decode cX10_init 185 = .ok (.dup, 1) := by decide +kernel
theorem dX10_init_186 : decode cX10_init 186 = .ok (.iconst 1, 1) := by decide +kernel
theorem dX10_init_187 : decode cX10_init 187 = .ok (.bipush 97, 2) := by decide +kernel
theorem dX10_init_189 : decode cX10_init 189 = .ok (.castore, 1) := by decide +kernel
theorem dX10_init_190 : decode cX10_init 190 = .ok (.dup, 1) := by decide +kernel
theorem dX10_init_191 : decode cX10_init 191 = .ok (.iconst 2, 1) := by decide +kernel
theorem dX10_init_192 : decode cX10_init 192 = .ok (.bipush 108, 2) := by decide +kernel
theorem dX10_init_194 : decode cX10_init 194 = .ok (.castore, 1) := by decide +kernel
theorem dX10_init_195 : decode cX10_init 195 = .ok (.dup, 1) := by decide +kernel
theorem dX10_init_196 : decode cX10_init 196 = .ok (.iconst 3, 1) := by decide +kernel
theorem dX10_init_197 : decode cX10_init 197 = .ok (.bipush 109, 2) := by decide +kernel
theorem dX10_init_199 : decode cX10_init 199 = .ok (.castore, 1) := by decide +kernel
theorem dX10_init_200 : decode cX10_init 200 = .ok (.putfield 36, 3) := by decide +kernel
theorem dX10_init_203 : decode cX10_init 203 = .ok (.aload_n 0, 1) := by decide +kernel
theorem dX10_init_204 : decode cX10_init 204 = .ok (.iconst 4, 1) := by decide +kernel
theorem dX10_init_205 : decode cX10_init 205 = .ok (.newarray .char, 2) := by decide +kernel
theorem dX10_init_207 : decode cX10_init 207 = .ok (.dup, 1) := by decide +kernel
theorem dX10_init_208 : decode cX10_init 208 = .ok (.iconst 0, 1) := by decide +kernel
theorem dX10_init_209 : decode cX10_init 209 = .ok (.bipush 112, 2) := by decide +kernel
theorem dX10_init_211 : decode cX10_init 211 = .ok (.castore, 1) := by decide +kernel
theorem dX10_init_212 : decode cX10_init 212 = .ok (.dup, 1) := by decide +kernel
theorem dX10_init_213 : decode cX10_init 213 = .ok (.iconst 1, 1) := by decide +kernel
theorem dX10_init_214 : decode cX10_init 214 = .ok (.bipush 97, 2) := by decide +kernel
theorem dX10_init_216 : decode cX10_init 216 = .ok (.castore, 1) := by decide +kernel
theorem dX10_init_217 : decode cX10_init 217 = .ok (.dup, 1) := by decide +kernel
theorem dX10_init_218 : decode cX10_init 218 = .ok (.iconst 2, 1) := by decide +kernel
theorem dX10_init_219 : decode cX10_init 219 = .ok (.bipush 99, 2) := by decide +kernel
theorem dX10_init_221 : decode cX10_init 221 = .ok (.castore, 1) := by decide +kernel
theorem dX10_init_222 : decode cX10_init 222 = .ok (.dup, 1) := by decide +kernel
theorem dX10_init_223 : decode cX10_init 223 = .ok (.iconst 3, 1) := by decide +kernel
theorem dX10_init_224 : decode cX10_init 224 = .ok (.bipush 101, 2) := by decide +kernel
theorem dX10_init_226 : decode cX10_init 226 = .ok (.castore, 1) := by decide +kernel
theorem dX10_init_227 : decode cX10_init 227 = .ok (.putfield 39, 3) := by decide +kernel
theorem dX10_init_230 : decode cX10_init 230 = .ok (.aload_n 0, 1) := by decide +kernel
theorem dX10_init_231 : decode cX10_init 231 = .ok (.bipush 6, 2) := by decide +kernel
theorem dX10_init_233 : decode cX10_init 233 = .ok (.newarray .char, 2) := by decide +kernel
theorem dX10_init_235 : decode cX10_init 235 = .ok (.dup, 1) := by decide +kernel
theorem dX10_init_236 : decode cX10_init 236 = .ok (.iconst 0, 1) := by decide +kernel
theorem dX10_init_237 : decode cX10_init 237 = .ok (.bipush 116, 2) := by decide +kernel
theorem dX10_init_239 : decode cX10_init 239 = .ok (.castore, 1) := by decide +kernel
theorem dX10_init_240 : decode cX10_init 240 = .ok (.dup, 1) := by decide +kernel
theorem dX10_init_241 : decode cX10_init 241 = .ok (.iconst 1, 1) := by decide +kernel
theorem dX10_init_242 : decode cX10_init 242 = .ok (.bipush 114, 2) := by decide +kernel
theorem dX10_init_244 : decode cX10_init 244 = .ok (.castore, 1) := by decide +kernel
theorem dX10_init_245 : decode cX10_init 245 = .ok (.dup, 1) := by decide +kernel
theorem dX10_init_246 : decode cX10_init 246 = .ok (.iconst 2, 1) := by decide +kernel
theorem dX10_init_247 : decode cX10_init 247 = .ok (.bipush 117, 2) := by decide +kernel
theorem dX10_init_249 : decode cX10_init 249 = .ok (.castore, 1) := by decide +kernel
theorem dX10_init_250 : decode cX10_init 250 = .ok (.dup, 1) := by decide +kernel
theorem dX10_init_251 : decode cX10_init 251 = .ok (.iconst 3, 1) := by decide +kernel
theorem dX10_init_252 : decode cX10_init 252 = .ok (.bipush 115, 2) := by decide +kernel
theorem dX10_init_254 : decode cX10_init 254 = .ok (.castore, 1) := by decide +kernel
theorem dX10_init_255 : decode cX10_init 255 = .ok (.dup, 1) := by decide +kernel
theorem dX10_init_256 : decode cX10_init 256 = .ok (.iconst 4, 1) := by decide +kernel
theorem dX10_init_257 : decode cX10_init 257 = .ok (.bipush 116, 2) := by decide +kernel
theorem dX10_init_259 : decode cX10_init 259 = .ok (.castore, 1) := by decide +kernel
theorem dX10_init_260 : decode cX10_init 260 = .ok (.dup, 1) := by decide +kernel
theorem dX10_init_261 : decode cX10_init 261 = .ok (.iconst 5, 1) := by decide +kernel
theorem dX10_init_262 : decode cX10_init 262 = .ok (.bipush 115, 2) := by decide +kernel
theorem dX10_init_264 : decode cX10_init 264 = .ok (.castore, 1) := by decide +kernel
theorem dX10_init_265 : decode cX10_init 265 = .ok (.putfield 42, 3) := by decide +kernel
theorem dX10_init_268 : decode cX10_init 268 = .ok (.aload_n 0, 1) := by decide +kernel
theorem dX10_init_269 : decode cX10_init 269 = .ok (.iconst 5, 1) := by decide +kernel
theorem dX10_init_270 : decode cX10_init 270 = .ok (.newarray .char, 2) := by decide +kernel
theorem dX10_init_272 : decode cX10_init 272 = .ok (.dup, 1) := by decide +kernel
theorem dX10_init_273 : decode cX10_init 273 = .ok (.iconst 0, 1) := by decide +kernel
theorem dX10_init_274 : decode cX10_init 274 = .ok (.bipush 99, 2) := by decide +kernel
theorem dX10_init_276 : decode cX10_init 276 = .ok (.castore, 1) := by decide +kernel
theorem dX10_init_277 : decode cX10_init 277 = .ok (.dup, 1) := by decide +kernel
theorem dX10_init_278 : decode cX10_init 278 = .ok (.iconst 1, 1) := by decide +kernel
theorem dX10_init_279 : decode cX10_init 279 = .ok (.bipush 111, 2) := by decide +kernel
theorem dX10_init_281 : decode cX10_init 281 = .ok (.castore, 1) := by decide +kernel
theorem dX10_init_282 : decode cX10_init 282 = .ok (.dup, 1) := by decide +kernel
theorem dX10_init_283 : decode cX10_init 283 = .ok (.iconst 2, 1) := by decide +kernel
theorem dX10_init_284 : decode cX10_init 284 = .ok (.bipush 109, 2) := by decide +kernel
theorem dX10_init_286 : decode cX10_init 286 = .ok (.castore, 1) := by decide +kernel
theorem dX10_init_287 : decode cX10_init 287 = .ok (.dup, 1) := by decide +kernel
theorem dX10_init_288 : decode cX10_init 288 = .ok (.iconst 3, 1) := by decide +kernel
theorem dX10_init_289 : decode cX10_init 289 = .ok (.bipush 101, 2) := by decide +kernel
theorem dX10_init_291 : decode cX10_init 291 = .ok (.castore, 1) := by decide +kernel
theorem dX10_init_292 : decode cX10_init 292 = .ok (.dup, 1) := by decide +kernel
theorem dX10_init_293 : decode cX10_init 293 = .ok (.iconst 4, 1) := by decide +kernel
theorem dX10_init_294 : decode cX10_init 294 = .ok (.bipush 115, 2) := by decide +kernel
theorem dX10_init_296 : decode cX10_init 296 = .ok (.castore, 1) := by decide +kernel
theorem dX10_init_297 : decode cX10_init 297 = .ok (.putfield 45, 3) := by decide +kernel
theorem dX10_init_300 : decode cX10_init 300 = .ok (.aload_n 0, 1) := by decide +kernel
theorem dX10_init_301 : decode cX10_init 301 = .ok (.iconst 2, 1) := by decide +kernel
theorem dX10_init_302 : decode cX10_init 302 = .ok (.newarray .char, 2) := by decide +kernel
theorem dX10_init_304 : decode cX10_init 304 = .ok (.dup, 1) := by decide +kernel
theorem dX10_init_305 : decode cX10_init 305 = .ok (.iconst 0, 1) := by decide +kernel
theorem dX10_init_306 : decode cX10_init 306 = .ok (.bipush 105, 2) := by decide +kernel
theorem dX10_init_308 : decode cX10_init 308 = .ok (.castore, 1) := by decide +kernel
theorem dX10_init_309 : decode cX10_init 309 = .ok (.dup, 1) := by decide +kernel
theorem dX10_init_310 : decode cX10_init 310 = .ok (.iconst 1, 1) := by decide +kernel
theorem dX10_init_311 : decode cX10_init 311 = .ok (.bipush 115, 2) := by decide +kernel
theorem dX10_init_313 : decode cX10_init 313 = .ok (.castore, 1) := by decide +kernel
theorem dX10_init_314 : decode cX10_init 314 = .ok (.putfield 48, 3) := by decide +kernel
theorem dX10_init_317 : decode cX10_init 317 = .ok (.aload_n 0, 1) := by decide +kernel
theorem dX10_init_318 : decode cX10_init 318 = .ok (.iconst 2, 1) := by decide +kernel
theorem dX10_init_319 : decode cX10_init 319 = .ok (.newarray .char, 2) := by decide +kernel
theorem dX10_init_321 : decode cX10_init 321 = .ok (.dup, 1) := by decide +kernel
theorem dX10_init_322 : decode cX10_init 322 = .ok (.iconst 0, 1) := by decide +kernel
theorem dX10_init_323 : decode cX10_init 323 = .ok (.bipush 97, 2) := by decide +kernel
theorem dX10_init_325 : decode cX10_init 325 = .ok (.castore, 1) := by decide +kernel
theorem dX10_init_326 : decode cX10_init 326 = .ok (.dup, 1) := by decide +kernel
theorem dX10_init_327 : decode cX10_init 327 = .ok (.iconst 1, 1) := by decide +kernel
theorem dX10_init_328 : decode cX10_init 328 = .ok (.bipush 116, 2) := by decide +kernel
theorem dX10_init_330 : decode cX10_init 330 = .ok (.castore, 1) := by decide +kernel
theorem dX10_init_331 : decode cX10_init 331 = .ok (.putfield 51, 3) := by decide +kernel
theorem dX10_init_334 : decode cX10_init 334 = .ok (.aload_n 0, 1) := by decide +kernel
theorem dX10_init_335 : decode cX10_init 335 = .ok (.iconst 3, 1) := by decide +kernel
theorem dX10_init_336 : decode cX10_init 336 = .ok (.newarray .char, 2) := by decide +kernel
theorem dX10_init_338 : decode cX10_init 338 = .ok (.dup, 1) := by decide +kernel
theorem dX10_init_339 : decode cX10_init 339 = .ok (.iconst 0, 1) := by decide +kernel
theorem dX10_init_340 : decode cX10_init 340 = .ok (.bipush 99, 2) := by decide +kernel
theorem dX10_init_342 : decode cX10_init 342 = .ok (.castore, 1) := by decide +kernel
theorem dX10_init_343 : decode cX10_init 343 = .ok (.dup, 1) := by decide +kernel
theorem dX10_init_344 : decode cX10_init 344 = .ok (.iconst 1, 1) := by decide +kernel
theorem dX10_init_345 : decode cX10_init 345 = .ok (.bipush 97, 2) := by decide +kernel
theorem dX10_init_347 : decode cX10_init 347 = .ok (.castore, 1) := by decide +kernel
theorem dX10_init_348 : decode cX10_init 348 = .ok (.dup, 1) := by decide +kernel
theorem dX10_init_349 : decode cX10_init 349 = .ok (.iconst 2, 1) := by decide +kernel
theorem dX10_init_350 : decode cX10_init 350 = .ok (.bipush 114, 2) := by decide +kernel
theorem dX10_init_352 : decode cX10_init 352 = .ok (.castore, 1) := by decide +kernel
theorem dX10_init_353 : decode cX10_init 353 = .ok (.putfield 54, 3) := by decide +kernel
theorem dX10_init_356 : decode cX10_init 356 = .ok (.aload_n 0, 1) := by decide +kernel
theorem dX10_init_357 : decode cX10_init 357 = .ok (.iconst 3, 1) := by decide +kernel
theorem dX10_init_358 : decode cX10_init 358 = .ok (.newarray .char, 2) := by decide +kernel
theorem dX10_init_360 : decode cX10_init 360 = .ok (.dup, 1) := by decide +kernel
theorem dX10_init_361 : decode cX10_init 361 = .ok (.iconst 0, 1) := by decide +kernel
theorem dX10_init_362 : decode cX10_init 362 = .ok (.bipush 114, 2) := by decide +kernel
theorem dX10_init_364 : decode cX10_init 364 = .ok (.castore, 1) := by decide +kernel
theorem dX10_init_365 : decode cX10_init 365 = .ok (.dup, 1) := by decide +kernel
theorem dX10_init_366 : decode cX10_init 366 = .ok (.iconst 1, 1) := by decide +kernel
theorem dX10_init_367 : decode cX10_init 367 = .ok (.bipush 101, 2) := by decide +kernel
theorem dX10_init_369 : decode cX10_init 369 = .ok (.castore, 1) := by decide +kernel
theorem dX10_init_370 : decode cX10_init 370 = .ok (.dup, 1) := by decide +kernel
theorem dX10_init_371 : decode cX10_init 371 = .ok (.iconst 2, 1) := by decide +kernel
theorem dX10_init_372 : decode cX10_init 372 = .ok (.bipush 100, 2) := by decide +kernel
theorem dX10_init_374 : decode cX10_init 374 = .ok (.castore, 1) := by decide +kernel
theorem dX10_init_375 : decode cX10_init 375 = .ok (.putfield 57, 3) := by decide +kernel
theorem dX10_init_378 : decode cX10_init 378 = .ok (.aload_n 0, 1) := by decide +kernel
theorem dX10_init_379 : decode cX10_init 379 = .ok (.bipush 6, 2) := by decide +kernel
theorem dX10_init_381 : decode cX10_init 381 = .ok (.newarray .char, 2) := by decide +kernel
theorem dX10_init_383 : decode cX10_init 383 = .ok (.dup, 1) := by decide +kernel
theorem dX10_init_384 : decode cX10_init 384 = .ok (.iconst 0, 1) := by decide +kernel
theorem dX10_init_385 : decode cX10_init 385 = .ok (.bipush 108, 2) := by decide +kernel
theorem dX10_init_387 : decode cX10_init 387 = .ok (.castore, 1) := by decide +kernel
theorem dX10_init_388 : decode cX10_init 388 = .ok (.dup, 1) := by decide +kernel
theorem dX10_init_389 : decode cX10_init 389 = .ok (.iconst 1, 1) := by decide +kernel
theorem dX10_init_390 : decode cX10_init 390 = .ok (.bipush 101, 2) := by decide +kernel
theorem dX10_init_392 : decode cX10_init 392 = .ok (.castore, 1) := by decide +kernel
theorem dX10_init_393 : decode cX10_init 393 = .ok (.dup, 1) := by decide +kernel
theorem dX10_init_394 : decode cX10_init 394 = .ok (.iconst 2, 1) := by decide +kernel
theorem dX10_init_395 : decode cX10_init 395 = .ok (.bipush 97, 2) := by decide +kernel
theorem dX10_init_397 : decode cX10_init 397 = .ok (.castore, 1) := by decide +kernel
theorem dX10_init_398 : decode cX10_init 398 = .ok (.dup, 1) := by decide +kernel
theorem dX10_init_399 : decode cX10_init 399 = .ok (.iconst 3, 1) := by decide +kernel
theorem dX10_init_400 : decode cX10_init 400 = .ok (.bipush 114, 2) := by decide +kernel
theorem dX10_init_402 : decode cX10_init 402 = .ok (.castore, 1) := by decide +kernel
theorem dX10_init_403 : decode cX10_init 403 = .ok (.dup, 1) := by decide +kernel
theorem dX10_init_404 : decode cX10_init 404 = .ok (.iconst 4, 1) := by decide +kernel
theorem dX10_init_405 : decode cX10_init 405 = .ok (.bipush 110, 2) := by decide +kernel
theorem dX10_init_407 : decode cX10_init 407 = .ok (.castore, 1) := by decide +kernel
theorem dX10_init_408 : decode cX10_init 408 = .ok (.dup, 1) := by decide +kernel
theorem dX10_init_409 : decode cX10_init 409 = .ok (.iconst 5, 1) := by decide +kernel
theorem dX10_init_410 : decode cX10_init 410 = .ok (.bipush 115, 2) := by decide +kernel
theorem dX10_init_412 : decode cX10_init 412 = .ok (.castore, 1) := by decide +kernel
theorem dX10_init_413 : decode cX10_init 413 = .ok (.putfield 60, 3) := by decide +kernel
theorem dX10_init_416 : decode cX10_init 416 = .ok (.aload_n 0, 1) := by decide +kernel
theorem dX10_init_417 : decode cX10_init 417 = .ok (.iconst 4, 1) := by decide +kernel
theorem dX10_init_418 : decode cX10_init 418 = .ok (.newarray .char, 2) := by decide +kernel
theorem dX10_init_420 : decode cX10_init 420 = .ok (.dup, 1) := by decide +kernel
theorem dX10_init_421 : decode cX10_init 421 = .ok (.iconst 0, 1) := by decide +kernel
theorem dX10_init_422 : decode cX10_init 422 = .ok (.bipush 97, 2) := by decide +kernel
theorem dX10_init_424 : decode cX10_init 424 = .ok (.castore, 1) := by decide +kernel
theorem dX10_init_425 : decode cX10_init 425 = .ok (.dup, 1) := by decide +kernel
theorem dX10_init_426 : decode cX10_init 426 = .ok (.iconst 1, 1) := by decide +kernel
theorem dX10_init_427 : decode cX10_init 427 = .ok (.bipush 119, 2) := by decide +kernel
theorem dX10_init_429 : decode cX10_init 429 = .ok (.castore, 1) := by decide +kernel
theorem dX10_init_430 : decode cX10_init 430 = .ok (.dup, 1) := by decide +kernel
theorem dX10_init_431 : decode cX10_init 431 = .ok (.iconst 2, 1) := by decide +kernel
theorem dX10_init_432 : decode cX10_init 432 = .ok (.bipush 97, 2) := by decide +kernel
theorem dX10_init_434 : decode cX10_init 434 = .ok (.castore, 1) := by decide +kernel
theorem dX10_init_435 : decode cX10_init 435 = .ok (.dup, 1) := by decide +kernel
theorem dX10_init_436 : decode cX10_init 436 = .ok (.iconst 3, 1) := by decide +kernel
theorem dX10_init_437 : decode cX10_init 437 = .ok (.bipush 121, 2) := by decide +kernel
theorem dX10_init_439 : decode cX10_init 439 = .ok (.castore, 1) := by decide +kernel
theorem dX10_init_440 : decode cX10_init 440 = .ok (.putfield 63, 3) := by decide +kernel
theorem dX10_init_443 : decode cX10_init 443 = .ok (.aload_n 0, 1) := by decide +kernel
theorem dX10_init_444 : decode cX10_init 444 = .ok (.bipush 6, 2) := by decide +kernel
theorem dX10_init_446 : decode cX10_init 446 = .ok (.newarray .char, 2) := by decide +kernel
theorem dX10_init_448 : decode cX10_init 448 = .ok (.dup, 1) := by decide +kernel
theorem dX10_init_449 : decode cX10_init 449 = .ok (.iconst 0, 1) := by decide +kernel
theorem dX10_init_450 : decode cX10_init 450 = .ok (.bipush 115, 2) := by decide +kernel
theorem dX10_init_452 : decode cX10_init 452 = .ok (.castore, 1) := by decide +kernel
theorem dX10_init_453 : decode cX10_init 453 = .ok (.dup, 1) := by decide +kernel
theorem dX10_init_454 : decode cX10_init 454 = .ok (.iconst 1, 1) := by decide +kernel
theorem dX10_init_455 : decode cX10_init 455 = .ok (.bipush 101, 2) := by decide +kernel
theorem dX10_init_457 : decode cX10_init 457 = .ok (.castore, 1) := by decide +kernel
theorem dX10_init_458 : decode cX10_init 458 = .ok (.dup, 1) := by decide +kernel
theorem dX10_init_459 : decode cX10_init 459 = .ok (.iconst 2, 1) := by decide +kernel
theorem dX10_init_460 : decode cX10_init 460 = .ok (.bipush 99, 2) := by decide +kernel
theorem dX10_init_462 : decode cX10_init 462 = .ok (.castore, 1) := by decide +kernel
theorem dX10_init_463 : decode cX10_init 463 = .ok (.dup, 1) := by decide +kernel
theorem dX10_init_464 : decode cX10_init 464 = .ok (.iconst 3, 1) := by decide +kernel
theorem dX10_init_465 : decode cX10_init 465 = .ok (.bipush 111, 2) := by decide +kernel
theorem dX10_init_467 : decode cX10_init 467 = .ok (.castore, 1) := by decide +kernel
theorem dX10_init_468 : decode cX10_init 468 = .ok (.dup, 1) := by decide +kernel
theorem dX10_init_469 : decode cX10_init 469 = .ok (.iconst 4, 1) := by decide +kernel
theorem dX10_init_470 : decode cX10_init 470 = .ok (.bipush 110, 2) := by decide +kernel
theorem dX10_init_472 : decode cX10_init 472 = .ok (.castore, 1) := by decide +kernel
theorem dX10_init_473 : decode cX10_init 473 = .ok (.dup, 1) := by decide +kernel
theorem dX10_init_474 : decode cX10_init 474 = .ok (.iconst 5, 1) := by decide +kernel
theorem dX10_init_475 : decode cX10_init 475 = .ok (.bipush 100, 2) := by decide +kernel
theorem dX10_init_477 : decode cX10_init 477 = .ok (.castore, 1) := by decide +kernel
theorem dX10_init_478 : decode cX10_init 478 = .ok (.putfield 66, 3) := by decide +kernel
theorem dX10_init_481 : decode cX10_init 481 = .ok (.aload_n 0, 1) := by decide +kernel
theorem dX10_init_482 : decode cX10_init 482 = .ok (.iconst 3, 1) := by decide +kernel
theorem dX10_init_483 : decode cX10_init 483 = .ok (.newarray .char, 2) := by decide +kernel
theorem dX10_init_485 : decode cX10_init 485 = .ok (.dup, 1) := by decide +kernel
theorem dX10_init_486 : decode cX10_init 486 = .ok (.iconst 0, 1) := by decide +kernel
theorem dX10_init_487 : decode cX10_init 487 = .ok (.bipush 100, 2) := by decide +kernel
theorem dX10_init_489 : decode cX10_init 489 = .ok (.castore, 1) := by decide +kernel
theorem dX10_init_490 : decode cX10_init 490 = .ok (.dup, 1) := by decide +kernel
theorem dX10_init_491 : decode cX10_init 491 = .ok (.iconst 1, 1) := by decide +kernel
theorem dX10_init_492 : decode cX10_init 492 = .ok (.bipush 97, 2) := by decide +kernel
theorem dX10_init_494 : decode cX10_init 494 = .ok (.castore, 1) := by decide +kernel
theorem dX10_init_495 : decode cX10_init 495 = .ok (.dup, 1) := by decide +kernel
theorem dX10_init_496 : decode cX10_init 496 = .ok (.iconst 2, 1) := by decide +kernel
theorem dX10_init_497 : decode cX10_init 497 = .ok (.bipush 121, 2) := by decide +kernel
theorem dX10_init_499 : decode cX10_init 499 = .ok (.castore, 1) := by decide +kernel
theorem dX10_init_500 : decode cX10_init 500 = .ok (.putfield 69, 3) := by decide +kernel
theorem dX10_init_503 : decode cX10_init 503 = .ok (.aload_n 0, 1) := by decide +kernel
theorem dX10_init_504 : decode cX10_init 504 = .ok (.iconst 5, 1) := by decide +kernel
theorem dX10_init_505 : decode cX10_init 505 = .ok (.newarray .char, 2) := by decide +kernel
theorem dX10_init_507 : decode cX10_init 507 = .ok (.dup, 1) := by decide +kernel
theorem dX10_init_508 : decode cX10_init 508 = .ok (.iconst 0, 1) := by decide +kernel
theorem dX10_init_509 : decode cX10_init 509 = .ok (.bipush 112, 2) := by decide +kernel
theorem dX10_init_511 : decode cX10_init 511 = .ok (.castore, 1) := by decide +kernel
theorem dX10_init_512 : decode cX10_init 512 = .ok (.dup, 1) := by decide +kernel
theorem dX10_init_513 : decode cX10_init 513 = .ok (.iconst 1, 1) := by decide +kernel
theorem dX10_init_514 : decode cX10_init 514 = .ok (.bipush 104, 2) := by decide +kernel
theorem dX10_init_516 : decode cX10_init 516 = .ok (.castore, 1) := by decide +kernel
theorem dX10_init_517 : decode cX10_init 517 = .ok (.dup, 1) := by decide +kernel
theorem dX10_init_518 : decode cX10_init 518 = .ok (.iconst 2, 1) := by decide +kernel
theorem dX10_init_519 : decode cX10_init 519 = .ok (.bipush 97, 2) := by decide +kernel
theorem dX10_init_521 : decode cX10_init 521 = .ok (.castore, 1) := by decide +kernel
theorem dX10_init_522 : decode cX10_init 522 = .ok (.dup, 1) := by decide +kernel
theorem dX10_init_523 : decode cX10_init 523 = .ok (.iconst 3, 1) := by decide +kernel
theorem dX10_init_524 : decode cX10_init 524 = .ok (.bipush 115, 2) := by decide +kernel
theorem dX10_init_526 : decode cX10_init 526 = .ok (.castore, 1) := by decide +kernel
theorem dX10_init_527 : decode cX10_init 527 = .ok (.dup, 1) := by decide +kernel
theorem dX10_init_528 : decode cX10_init 528 = .ok (.iconst 4, 1) := by decide +kernel
theorem dX10_init_529 : decode cX10_init 529 = .ok (.bipush 101, 2) := by decide +kernel
theorem dX10_init_531 : decode cX10_init 531 = .ok (.castore, 1) := by decide +kernel
theorem dX10_init_532 : decode cX10_init 532 = .ok (.putfield 72, 3) := by decide +kernel
theorem dX10_init_535 : decode cX10_init 535 = .ok (.aload_n 0, 1) := by decide +kernel
theorem dX10_init_536 : decode cX10_init 536 = .ok (.bipush 6, 2) := by decide +kernel
theorem dX10_init_538 : decode cX10_init 538 = .ok (.newarray .char, 2) := by decide +kernel
theorem dX10_init_540 : decode cX10_init 540 = .ok (.dup, 1) := by decide +kernel
theorem dX10_init_541 : decode cX10_init 541 = .ok (.iconst 0, 1) := by decide +kernel
theorem dX10_init_542 : decode cX10_init 542 = .ok (.bipush 119, 2) := by decide +kernel
theorem dX10_init_544 : decode cX10_init 544 = .ok (.castore, 1) := by decide +kernel
theorem dX10_init_545 : decode cX10_init 545 = .ok (.dup, 1) := by decide +kernel
theorem dX10_init_546 : decode cX10_init 546 = .ok (.iconst 1, 1) := by decide +kernel
theorem dX10_init_547 : decode cX10_init 547 = .ok (.bipush 97, 2) := by decide +kernel
theorem dX10_init_549 : decode cX10_init 549 = .ok (.castore, 1) := by decide +kernel
theorem dX10_init_550 : decode cX10_init 550 = .ok (.dup, 1) := by decide +kernel
theorem dX10_init_551 : decode cX10_init 551 = .ok (.iconst 2, 1) := by decide +kernel
theorem dX10_init_552 : decode cX10_init 552 = .ok (.bipush 105, 2) := by decide +kernel
theorem dX10_init_554 : decode cX10_init 554 = .ok (.castore, 1) := by decide +kernel
theorem dX10_init_555 : decode cX10_init 555 = .ok (.dup, 1) := by decide +kernel
theorem dX10_init_556 : decode cX10_init 556 = .ok (.iconst 3, 1) := by decide +kernel
theorem dX10_init_557 : decode cX10_init 557 = .ok (.bipush 116, 2) := by decide +kernel
theorem dX10_init_559 : decode cX10_init 559 = .ok (.castore, 1) := by decide +kernel
theorem dX10_init_560 : decode cX10_init 560 = .ok (.dup, 1) := by decide +kernel
theorem dX10_init_561 : decode cX10_init 561 = .ok (.iconst 4, 1) := by decide +kernel
theorem dX10_init_562 : decode cX10_init 562 = .ok (.bipush 101, 2) := by decide +kernel
theorem dX10_init_564 : decode cX10_init 564 = .ok (.castore, 1) := by decide +kernel
theorem dX10_init_565 : decode cX10_init 565 = .ok (.dup, 1) := by decide +kernel
theorem dX10_init_566 : decode cX10_init 566 = .ok (.iconst 5, 1) := by decide +kernel
theorem dX10_init_567 : decode cX10_init 567 = .ok (.bipush 100, 2) := by decide +kernel
theorem dX10_init_569 : decode cX10_init 569 = .ok (.castore, 1) := by decide +kernel
theorem dX10_init_570 : decode cX10_init 570 = .ok (.putfield 75, 3) := by decide +kernel
theorem dX10_init_573 : decode cX10_init 573 = .ok (.aload_n 0, 1) := by decide +kernel
theorem dX10_init_574 : decode cX10_init 574 = .ok (.iconst 3, 1) := by decide +kernel
theorem dX10_init_575 : decode cX10_init 575 = .ok (.newarray .char, 2) := by decide +kernel
theorem dX10_init_577 : decode cX10_init 577 = .ok (.dup, 1) := by decide +kernel
theorem dX10_init_578 : decode cX10_init 578 = .ok (.iconst 0, 1) := by decide +kernel
theorem dX10_init_579 : decode cX10_init 579 = .ok (.bipush 103, 2) := by decide +kernel
theorem dX10_init_581 : decode cX10_init 581 = .ok (.castore, 1) := by decide +kernel
theorem dX10_init_582 : decode cX10_init 582 = .ok (.dup, 1) := by decide +kernel
theorem dX10_init_583 : decode cX10_init 583 = .ok (.iconst 1, 1) := by decide +kernel
theorem dX10_init_584 : decode cX10_init 584 = .ok (.bipush 97, 2) := by decide +kernel
theorem dX10_init_586 : decode cX10_init 586 = .ok (.castore, 1) := by decide +kernel
theorem dX10_init_587 : decode cX10_init 587 = .ok (.dup, 1) := by decide +kernel
theorem dX10_init_588 : decode cX10_init 588 = .ok (.iconst 2, 1) := by decide +kernel
theorem dX10_init_589 : decode cX10_init 589 = .ok (.bipush 112, 2) := by decide +kernel
theorem dX10_init_591 : decode cX10_init 591 = .ok (.castore, 1) := by decide +kernel
theorem dX10_init_592 : decode cX10_init 592 = .ok (.putfield 78, 3) := by decide +kernel
theorem dX10_init_595 : decode cX10_init 595 = .ok (.aload_n 0, 1) := by decide +kernel
theorem dX10_init_596 : decode cX10_init 596 = .ok (.iconst 4, 1) := by decide +kernel
theorem dX10_init_597 : decode cX10_init 597 = .ok (.newarray .char, 2) := by decide +kernel
theorem dX10_init_599 : decode cX10_init 599 = .ok (.dup, 1) := by decide +kernel
theorem dX10_init_600 : decode cX10_init 600 = .ok (.iconst 0, 1) := by decide +kernel
theorem dX10_init_601 : decode cX10_init 601 = .ok (.bipush 114, 2) := by decide +kernel
theorem dX10_init_603 : decode cX10_init 603 = .ok (.castore, 1) := by decide +kernel
theorem dX10_init_604 : decode cX10_init 604 = .ok (.dup, 1) := by decide +kernel
theorem dX10_init_605 : decode cX10_init 605 = .ok (.iconst 1, 1) := by decide +kernel
theorem dX10_init_606 : decode cX10_init 606 = .ok (.bipush 101, 2) := by decide +kernel
theorem dX10_init_608 : decode cX10_init 608 = .ok (.castore, 1) := by decide +kernel
theorem dX10_init_609 : decode cX10_init 609 = .ok (.dup, 1) := by decide +kernel
theorem dX10_init_610 : decode cX10_init 610 = .ok (.iconst 2, 1) := by decide +kernel
theorem dX10_init_611 : decode cX10_init 611 = .ok (.bipush 100, 2) := by decide +kernel
theorem dX10_init_613 : decode cX10_init 613 = .ok (.castore, 1) := by decide +kernel
theorem dX10_init_614 : decode cX10_init 614 = .ok (.dup, 1) := by decide +kernel
theorem dX10_init_615 : decode cX10_init 615 = .ok (.iconst 3, 1) := by decide +kernel
theorem dX10_init_616 : decode cX10_init 616 = .ok (.bipush 115, 2) := by decide +kernel
theorem dX10_init_618 : decode cX10_init 618 = .ok (.castore, 1) := by decide +kernel
theorem dX10_init_619 : decode cX10_init 619 = .ok (.putfield 81, 3) := by decide +kernel
theorem dX10_init_622 : decode cX10_init 622 = .ok (.aload_n 0, 1) := by decide +kernel
theorem dX10_init_623 : decode cX10_init 623 = .ok (.bipush 6, 2) := by decide +kernel
theorem dX10_init_625 : decode cX10_init 625 = .ok (.newarray .char, 2) := by decide +kernel
theorem dX10_init_627 : decode cX10_init 627 = .ok (.dup, 1) := by decide +kernel
theorem dX10_init_628 : decode cX10_init 628 = .ok (.iconst 0, 1) := by decide +kernel
theorem dX10_init_629 : decode cX10_init 629 = .ok (.bipush 110, 2) := by decide +kernel
theorem dX10_init_631 : decode cX10_init 631 = .ok (.castore, 1) := by decide +kernel
theorem dX10_init_632 : decode cX10_init 632 = .ok (.dup, 1) := by decide +kernel
theorem dX10_init_633 : decode cX10_init 633 = .ok (.iconst 1, 1) := by decide +kernel
theorem dX10_init_634 : decode cX10_init 634 = .ok (.bipush 117, 2) := by decide +kernel
theorem dX10_init_636 : decode cX10_init 636 = .ok (.castore, 1) := by decide +kernel
theorem dX10_init_637 : decode cX10_init 637 = .ok (.dup, 1) := by decide +kernel
theorem dX10_init_638 : decode cX10_init 638 = .ok (.iconst 2, 1) := by decide +kernel
theorem dX10_init_639 : decode cX10_init 639 = .ok (.bipush 109, 2) := by decide +kernel
theorem dX10_init_641 : decode cX10_init 641 = .ok (.castore, 1) := by decide +kernel
theorem dX10_init_642 : decode cX10_init 642 = .ok (.dup, 1) := by decide +kernel
theorem dX10_init_643 : decode cX10_init 643 = .ok (.iconst 3, 1) := by decide +kernel
theorem dX10_init_644 : decode cX10_init 644 = .ok (.bipush 98, 2) := by decide +kernel
theorem dX10_init_646 : decode cX10_init 646 = .ok (.castore, 1) := by decide +kernel
theorem dX10_init_647 : decode cX10_init 647 = .ok (.dup, 1) := by decide +kernel
theorem dX10_init_648 : decode cX10_init 648 = .ok (.iconst 4, 1) := by decide +kernel
theorem dX10_init_649 : decode cX10_init 649 = .ok (.bipush 101, 2) := by decide +kernel
theorem dX10_init_651 : decode cX10_init 651 = .ok (.castore, 1) := by decide +kernel
theorem dX10_init_652 : decode cX10_init 652 = .ok (.dup, 1) := by decide +kernel
theorem dX10_init_653 : decode cX10_init 653 = .ok (.iconst 5, 1) := by decide +kernel
theorem dX10_init_654 : decode cX10_init 654 = .ok (.bipush 114, 2) := by decide +kernel
theorem dX10_init_656 : decode cX10_init 656 = .ok (.castore, 1) := by decide +kernel
theorem dX10_init_657 : decode cX10_init 657 = .ok (.putfield 84, 3) := by decide +kernel
theorem dX10_init_660 : decode cX10_init 660 = .ok (.aload_n 0, 1) := by decide +kernel
theorem dX10_init_661 : decode cX10_init 661 = .ok (.iconst 4, 1) := by decide +kernel
theorem dX10_init_662 : decode cX10_init 662 = .ok (.newarray .char, 2) := by decide +kernel
theorem dX10_init_664 : decode cX10_init 664 = .ok (.dup, 1) := by decide +kernel
theorem dX10_init_665 : decode cX10_init 665 = .ok (.iconst 0, 1) := by decide +kernel
theorem dX10_init_666 : decode cX10_init 666 = .ok (.bipush 119, 2) := by decide +kernel
theorem dX10_init_668 : decode cX10_init 668 = .ok (.castore, 1) := by decide +kernel
theorem dX10_init_669 : decode cX10_init 669 = .ok (.dup, 1) := by decide +kernel
theorem dX10_init_670 : decode cX10_init 670 = .ok (.iconst 1, 1) := by decide +kernel
theorem dX10_init_671 : decode cX10_init 671 = .ok (.bipush 101, 2) := by decide +kernel
theorem dX10_init_673 : decode cX10_init 673 = .ok (.castore, 1) := by decide +kernel
theorem dX10_init_674 : decode cX10_init 674 = .ok (.dup, 1) := by decide +kernel
theorem dX10_init_675 : decode cX10_init 675 = .ok (.iconst 2, 1) := by decide +kernel
theorem dX10_init_676 : decode cX10_init 676 = .ok (.bipush 110, 2) := by decide +kernel
theorem dX10_init_678 : decode cX10_init 678 = .ok (.castore, 1) := by decide +kernel
theorem dX10_init_679 : decode cX10_init 679 = .ok (.dup, 1) := by decide +kernel
theorem dX10_init_680 : decode cX10_init 680 = .ok (.iconst 3, 1) := by decide +kernel
theorem dX10_init_681 : decode cX10_init 681 = .ok (.bipush 116, 2) := by decide +kernel
theorem dX10_init_683 : decode cX10_init 683 = .ok (.castore, 1) := by decide +kernel
theorem dX10_init_684 : decode cX10_init 684 = .ok (.putfield 87, 3) := by decide +kernel
theorem dX10_init_687 : decode cX10_init 687 = .ok (.aload_n 0, 1) := by decide +kernel
theorem dX10_init_688 : decode cX10_init 688 = .ok (.iconst 4, 1) := by decide +kernel
theorem dX10_init_689 : decode cX10_init 689 = .ok (.newarray .char, 2) := by decide +kernel
theorem dX10_init_691 : decode cX10_init 691 = .ok (.dup, 1) := by decide +kernel
theorem dX10_init_692 : decode cX10_init 692 = .ok (.iconst 0, 1) := by decide +kernel
theorem dX10_init_693 : decode cX10_init 693 = .ok (.bipush 104, 2) := by decide +kernel
theorem dX10_init_695 : decode cX10_init 695 = .ok (.castore, 1) := by decide +kernel
theorem dX10_init_696 : decode cX10_init 696 = .ok (.dup, 1) := by decide +kernel
theorem dX10_init_697 : decode cX10_init 697 = .ok (.iconst 1, 1) := by decide +kernel
theorem dX10_init_698 : decode cX10_init 698 = .ok (.bipush 97, 2) := by decide +kernel
theorem dX10_init_700 : decode cX10_init 700 = .ok (.castore, 1) := by decide +kernel
theorem dX10_init_701 : decode cX10_init 701 = .ok (.dup, 1) := by decide +kernel
theorem dX10_init_702 : decode cX10_init 702 = .ok (.iconst 2, 1) := by decide +kernel
theorem dX10_init_703 : decode cX10_init 703 = .ok (.bipush 114, 2) := by decide +kernel
theorem dX10_init_705 : decode cX10_init 705 = .ok (.castore, 1) := by decide +kernel
theorem dX10_init_706 : decode cX10_init 706 = .ok (.dup, 1) := by decide +kernel
theorem dX10_init_707 : decode cX10_init 707 = .ok (.iconst 3, 1) := by decide +kernel
theorem dX10_init_708 : decode cX10_init 708 = .ok (.bipush 109, 2) := by decide +kernel
theorem dX10_init_710 : decode cX10_init 710 = .ok (.castore, 1) := by decide +kernel
theorem dX10_init_711 : decode cX10_init 711 = .ok (.putfield 90, 3) := by decide +kernel
theorem dX10_init_714 : decode cX10_init 714 = .ok (.aload_n 0, 1) := by decide +kernel
theorem dX10_init_715 : decode cX10_init 715 = .ok (.iconst 2, 1) := by decide +kernel
theorem dX10_init_716 : decode cX10_init 716 = .ok (.newarray .char, 2) := by decide +kernel
theorem dX10_init_718 : decode cX10_init 718 = .ok (.dup, 1) := by decide +kernel
theorem dX10_init_719 : decode cX10_init 719 = .ok (.iconst 0, 1) := by decide +kernel
theorem dX10_init_720 : decode cX10_init 720 = .ok (.bipush 111, 2) := by decide +kernel
theorem dX10_init_722 : decode cX10_init 722 = .ok (.castore, 1) := by decide +kernel
theorem dX10_init_723 : decode cX10_init 723 = .ok (.dup, 1) := by decide +kernel
theorem dX10_init_724 : decode cX10_init 724 = .ok (.iconst 1, 1) := by decide +kernel
theorem dX10_init_725 : decode cX10_init 725 = .ok (.bipush 114, 2) := by decide +kernel
theorem dX10_init_727 : decode cX10_init 727 = .ok (.castore, 1) := by decide +kernel
theorem dX10_init_728 : decode cX10_init 728 = .ok (.putfield 93, 3) := by decide +kernel
theorem dX10_init_731 : decode cX10_init 731 = .ok (.aload_n 0, 1) := by decide +kernel
theorem dX10_init_732 : decode cX10_init 732 = .ok (.iconst 3, 1) := by decide +kernel
theorem dX10_init_733 : decode cX10_init 733 = .ok (.newarray .char, 2) := by decide +kernel
theorem dX10_init_735 : decode cX10_init 735 = .ok (.dup, 1) := by decide +kernel
theorem dX10_init_736 : decode cX10_init 736 = .ok (.iconst 0, 1) := by decide +kernel
theorem dX10_init_737 : decode cX10_init 737 = .ok (.bipush 97, 2) := by decide +kernel
theorem dX10_init_739 : decode cX10_init 739 = .ok (.castore, 1) := by decide +kernel
theorem dX10_init_740 : decode cX10_init 740 = .ok (.dup, 1) := by decide +kernel
theorem dX10_init_741 : decode cX10_init 741 = .ok (.iconst 1, 1) := by decide +kernel
theorem dX10_init_742 : decode cX10_init 742 = .ok (.bipush 110, 2) := by decide +kernel
theorem dX10_init_744 : decode cX10_init 744 = .ok (.castore, 1) := by decide +kernel
theorem dX10_init_745 : decode cX10_init 745 = .ok (.dup, 1) := by decide +kernel
theorem dX10_init_746 : decode cX10_init 746 = .ok (.iconst 2, 1) := by decide +kernel
theorem dX10_init_747 : decode cX10_init 747 = .ok (.bipush 100, 2) := by decide +kernel
theorem dX10_init_749 : decode cX10_init 749 = .ok (.castore, 1) := by decide +kernel
theorem dX10_init_750 : decode cX10_init 750 = .ok (.putfield 96, 3) := by decide +kernel
theorem dX10_init_753 : decode cX10_init 753 = .ok (.aload_n 0, 1) := by decide +kernel
theorem dX10_init_754 : decode cX10_init 754 = .ok (.iconst 3, 1) := by decide +kernel
theorem dX10_init_755 : decode cX10_init 755 = .ok (.newarray .char, 2) := by decide +kernel
theorem dX10_init_757 : decode cX10_init 757 = .ok (.dup, 1) := by decide +kernel
theorem dX10_init_758 : decode cX10_init 758 = .ok (.iconst 0, 1) := by decide +kernel
theorem dX10_init_759 : decode cX10_init 759 = .ok (.bipush 110, 2) := by decide +kernel
theorem dX10_init_761 : decode cX10_init 761 = .ok (.castore, 1) := by decide +kernel
theorem dX10_init_762 : decode cX10_init 762 = .ok (.dup, 1) := by decide +kernel
theorem dX10_init_763 : decode cX10_init 763 = .ok (.iconst 1, 1) := by decide +kernel
theorem dX10_init_764 : decode cX10_init 764 = .ok (.bipush 111, 2) := by decide +kernel
theorem dX10_init_766 : decode cX10_init 766 = .ok (.castore, 1) := by decide +kernel
theorem dX10_init_767 : decode cX10_init 767 = .ok (.dup, 1) := by decide +kernel
theorem dX10_init_768 : decode cX10_init 768 = .ok (.iconst 2, 1) := by decide +kernel
theorem dX10_init_769 : decode cX10_init 769 = .ok (.bipush 116, 2) := by decide +kernel
theorem dX10_init_771 : decode cX10_init 771 = .ok (.castore, 1) := by decide +kernel
theorem dX10_init_772 : decode cX10_init 772 = .ok (.putfield 99, 3) := by decide +kernel
theorem dX10_init_775 : decode cX10_init 775 = .ok (.aload_n 0, 1) := by decide +kernel
theorem dX10_init_776 : decode cX10_init 776 = .ok (.iconst 3, 1) := by decide +kernel
theorem dX10_init_777 : decode cX10_init 777 = .ok (.newarray .char, 2) := by decide +kernel
theorem dX10_init_779 : decode cX10_init 779 = .ok (.dup, 1) := by decide +kernel
theorem dX10_init_780 : decode cX10_init 780 = .ok (.iconst 0, 1) := by decide +kernel
theorem dX10_init_781 : decode cX10_init 781 = .ok (.bipush 97, 2) := by decide +kernel
theorem dX10_init_783 : decode cX10_init 783 = .ok (.castore, 1) := by decide +kernel
theorem dX10_init_784 : decode cX10_init 784 = .ok (.dup, 1) := by decide +kernel
theorem dX10_init_785 : decode cX10_init 785 = .ok (.iconst 1, 1) := by decide +kernel
theorem dX10_init_786 : decode cX10_init 786 = .ok (.bipush 108, 2) := by decide +kernel
theorem dX10_init_788 : decode cX10_init 788 = .ok (.castore, 1) := by decide +kernel
theorem dX10_init_789 : decode cX10_init 789 = .ok (.dup, 1) := by decide +kernel
theorem dX10_init_790 : decode cX10_init 790 = .ok (.iconst 2, 1) := by decide +kernel
theorem dX10_init_791 : decode cX10_init 791 = .ok (.bipush 108, 2) := by decide +kernel
theorem dX10_init_793 : decode cX10_init 793 = .ok (.castore, 1) := by decide +kernel
theorem dX10_init_794 : decode cX10_init 794 = .ok (.putfield 102, 3) := by decide +kernel
theorem dX10_init_797 : decode cX10_init 797 = .ok (.aload_n 0, 1) := by decide +kernel
theorem dX10_init_798 : decode cX10_init 798 = .ok (.iconst 3, 1) := by decide +kernel
theorem dX10_init_799 : decode cX10_init 799 = .ok (.newarray .char, 2) := by decide +kernel
theorem dX10_init_801 : decode cX10_init 801 = .ok (.dup, 1) := by decide +kernel
theorem dX10_init_802 : decode cX10_init 802 = .ok (.iconst 0, 1) := by decide +kernel
theorem dX10_init_803 : decode cX10_init 803 = .ok (.bipush 109, 2) := by decide +kernel
theorem dX10_init_805 : decode cX10_init 805 = .ok (.castore, 1) := by decide +kernel
theorem dX10_init_806 : decode cX10_init 806 = .ok (.dup, 1) := by decide +kernel
theorem dX10_init_807 : decode cX10_init 807 = .ok (.iconst 1, 1) := by decide +kernel
theorem dX10_init_808 : decode cX10_init 808 = .ok (.bipush 105, 2) := by decide +kernel
theorem dX10_init_810 : decode cX10_init 810 = .ok (.castore, 1) := by decide +kernel
theorem dX10_init_811 : decode cX10_init 811 = .ok (.dup, 1) := by decide +kernel
theorem dX10_init_812 : decode cX10_init 812 = .ok (.iconst 2, 1) := by decide +kernel
theorem dX10_init_813 : decode cX10_init 813 = .ok (.bipush 110, 2) := by decide +kernel
theorem dX10_init_815 : decode cX10_init 815 = .ok (.castore, 1) := by decide +kernel
theorem dX10_init_816 : decode cX10_init 816 = .ok (.putfield 105, 3) := by decide +kernel
theorem dX10_init_819 : decode cX10_init 819 = .ok (.aload_n 0, 1) := by decide +kernel
theorem dX10_init_820 : decode cX10_init 820 = .ok (.iconst 3, 1) := by decide +kernel
theorem dX10_init_821 : decode cX10_init 821 = .ok (.newarray .char, 2) := by decide +kernel
theorem dX10_init_823 : decode cX10_init 823 = .ok (.dup, 1) := by decide +kernel
theorem dX10_init_824 : decode cX10_init 824 = .ok (.iconst 0, 1) := by decide +kernel
theorem dX10_init_825 : decode cX10_init 825 = .ok (.bipush 109, 2) := by decide +kernel
theorem dX10_init_827 : decode cX10_init 827 = .ok (.castore, 1) := by decide +kernel
theorem dX10_init_828 : decode cX10_init 828 = .ok (.dup, 1) := by decide +kernel
theorem dX10_init_829 : decode cX10_init 829 = .ok (.iconst 1, 1) := by decide +kernel
theorem dX10_init_830 : decode cX10_init 830 = .ok (.bipush 97, 2) := by decide +kernel
theorem dX10_init_832 : decode cX10_init 832 = .ok (.castore, 1) := by decide +kernel
theorem dX10_init_833 : decode cX10_init 833 = .ok (.dup, 1) := by decide +kernel
theorem dX10_init_834 : decode cX10_init 834 = .ok (.iconst 2, 1) := by decide +kernel
theorem dX10_init_835 : decode cX10_init 835 = .ok (.bipush 120, 2) := by decide +kernel
theorem dX10_init_837 : decode cX10_init 837 = .ok (.castore, 1) := by decide +kernel
theorem dX10_init_838 : decode cX10_init 838 = .ok (.putfield 108, 3) := by decide +kernel
theorem dX10_init_841 : decode cX10_init 841 = .ok (.aload_n 0, 1) := by decide +kernel
theorem dX10_init_842 : decode cX10_init 842 = .ok (.iconst 4, 1) := by decide +kernel
theorem dX10_init_843 : decode cX10_init 843 = .ok (.newarray .int, 2) := by decide +kernel
theorem dX10_init_845 : decode cX10_init 845 = .ok (.putfield 111, 3) := by decide +kernel
theorem dX10_init_848 : decode cX10_init 848 = .ok (.aload_n 0, 1) := by decide +kernel
theorem dX10_init_849 : decode cX10_init 849 = .ok (.bipush 48, 2) := by decide +kernel
theorem dX10_init_851 : decode cX10_init 851 = .ok (.newarray .long, 2) := by decide +kernel
theorem dX10_init_853 : decode cX10_init 853 = .ok (.putfield 114, 3) := by decide +kernel
theorem dX10_init_856 : decode cX10_init 856 = .ok (.aload_n 0, 1) := by decide +kernel
theorem dX10_init_857 : decode cX10_init 857 = .ok (.bipush 8, 2) := by decide +kernel
theorem dX10_init_859 : decode cX10_init 859 = .ok (.newarray .int, 2) := by decide +kernel
theorem dX10_init_861 : decode cX10_init 861 = .ok (.putfield 118, 3) := by decide +kernel
theorem dX10_init_864 : decode cX10_init 864 = .ok (.aload_n 0, 1) := by decide +kernel
theorem dX10_init_865 : decode cX10_init 865 = .ok (.bipush 24, 2) := by decide +kernel
theorem dX10_init_867 : decode cX10_init 867 = .ok (.newarray .int, 2) := by decide +kernel
theorem dX10_init_869 : decode cX10_init 869 = .ok (.putfield 121, 3) := by decide +kernel
theorem dX10_init_872 : decode cX10_init 872 = .ok (.aload_n 0, 1) := by decide +kernel
theorem dX10_init_873 : decode cX10_init 873 = .ok (.bipush 6, 2) := by decide +kernel
theorem dX10_init_875 : decode cX10_init 875 = .ok (.newarray .int, 2) := by decide +kernel
theorem dX10_init_877 : decode cX10_init 877 = .ok (.putfield 124, 3) := by decide +kernel
theorem dX10_init_880 : decode cX10_init 880 = .ok (.aload_n 0, 1) := by decide +kernel
theorem dX10_init_881 : decode cX10_init 881 = .ok (.bipush 48, 2) := by decide +kernel
theorem dX10_init_883 : decode cX10_init 883 = .ok (.newarray .int, 2) := by decide +kernel
theorem dX10_init_885 : decode cX10_init 885 = .ok (.putfield 127, 3) := by decide +kernel
theorem dX10_init_888 : decode cX10_init 888 = .ok (.aload_n 0, 1) := by decide +kernel
theorem dX10_init_889 : decode cX10_init 889 = .ok (.bipush 6, 2) := by decide +kernel
theorem dX10_init_891 : decode cX10_init 891 = .ok (.newarray .int, 2) := by decide +kernel
theorem dX10_init_893 : decode cX10_init 893 = .ok (.dup, 1) := by decide +kernel
theorem dX10_init_894 : decode cX10_init 894 = .ok (.iconst 0, 1) := by decide +kernel
theorem dX10_init_895 : decode cX10_init 895 = .ok (.iconst (-1), 1) := by decide +kernel
theorem dX10_init_896 : decode cX10_init 896 = .ok (.iastore, 1) := by decide +kernel
theorem dX10_init_897 : decode cX10_init 897 = .ok (.dup, 1) := by decide +kernel
theorem dX10_init_898 : decode cX10_init 898 = .ok (.iconst 1, 1) := by decide +kernel
theorem dX10_init_899 : decode cX10_init 899 = .ok (.iconst (-1), 1) := by decide +kernel
theorem dX10_init_900 : decode cX10_init 900 = .ok (.iastore, 1) := by decide +kernel
theorem dX10_init_901 : decode cX10_init 901 = .ok (.dup, 1) := by decide +kernel
theorem dX10_init_902 : decode cX10_init 902 = .ok (.iconst 2, 1) := by decide +kernel
theorem dX10_init_903 : decode cX10_init 903 = .ok (.iconst (-1), 1) := by decide +kernel
theorem dX10_init_904 : decode cX10_init 904 = .ok (.iastore, 1) := by decide +kernel
theorem dX10_init_905 : decode cX10_init 905 = .ok (.dup, 1) := by decide +kernel
theorem dX10_init_906 : decode cX10_init 906 = .ok (.iconst 3, 1) := by decide +kernel
theorem dX10_init_907 : decode cX10_init 907 = .ok (.iconst (-1), 1) := by decide +kernel
theorem dX10_init_908 : decode cX10_init 908 = .ok (.iastore, 1) := by decide +kernel
theorem dX10_init_909 : decode cX10_init 909 = .ok (.dup, 1) := by decide +kernel
theorem dX10_init_910 : decode cX10_init 910 = .ok (.iconst 4, 1) := by decide +kernel
theorem dX10_init_911 : decode cX10_init 911 = .ok (.iconst (-1), 1) := by decide +kernel
theorem dX10_init_912 : decode cX10_init 912 = .ok (.iastore, 1) := by decide +kernel
theorem dX10_init_913 : decode cX10_init 913 = .ok (.dup, 1) := by decide +kernel
theorem dX10_init_914 : decode cX10_init 914 = .ok (.iconst 5, 1) := by decide +kernel
theorem dX10_init_915 : decode cX10_init 915 = .ok (.iconst (-1), 1) := by decide +kernel
theorem dX10_init_916 : decode cX10_init 916 = .ok (.iastore, 1) := by decide +kernel
theorem dX10_init_917 : decode cX10_init 917 = .ok (.putfield 130, 3) := by decide +kernel
theorem dX10_init_920 : decode cX10_init 920 = .ok (.aload_n 0, 1) := by decide +kernel
theorem dX10_init_921 : decode cX10_init 921 = .ok (.bipush 6, 2) := by decide +kernel
theorem dX10_init_923 : decode cX10_init 923 = .ok (.newarray .int, 2) := by decide +kernel
theorem dX10_init_925 : decode cX10_init 925 = .ok (.putfield 133, 3) := by decide +kernel
theorem dX10_init_928 : decode cX10_init 928 = .ok (.aload_n 0, 1) := by decide +kernel
theorem dX10_init_929 : decode cX10_init 929 = .ok (.sipush 3200, 3) := by decide +kernel
theorem dX10_init_932 : decode cX10_init 932 = .ok (.newarray .int, 2) := by decide +kernel
theorem dX10_init_934 : decode cX10_init 934 = .ok (.putfield 136, 3) := by decide +kernel
theorem dX10_init_937 : decode cX10_init 937 = .ok (.aload_n 0, 1) := by decide +kernel
theorem dX10_init_938 : decode cX10_init 938 = .ok (.bipush 9, 2) := by decide +kernel
theorem dX10_init_940 : decode cX10_init 940 = .ok (.newarray .int, 2) := by decide +kernel
theorem dX10_init_942 : decode cX10_init 942 = .ok (.putfield 139, 3) := by decide +kernel
theorem dX10_init_945 : decode cX10_init 945 = .ok (.aload_n 0, 1) := by decide +kernel
theorem dX10_init_946 : decode cX10_init 946 = .ok (.bipush 9, 2) := by decide +kernel
theorem dX10_init_948 : decode cX10_init 948 = .ok (.newarray .int, 2) := by decide +kernel
theorem dX10_init_950 : decode cX10_init 950 = .ok (.putfield 142, 3) := by decide +kernel
theorem dX10_init_953 : decode cX10_init 953 = .ok (.aload_n 0, 1) := by decide +kernel
theorem dX10_init_954 : decode cX10_init 954 = .ok (.sipush 320, 3) := by decide +kernel
theorem dX10_init_957 : decode cX10_init 957 = .ok (.newarray .boolean, 2) := by decide +kernel
theorem dX10_init_959 : decode cX10_init 959 = .ok (.putfield 145, 3) := by decide +kernel
theorem dX10_init_962 : decode cX10_init 962 = .ok (.aload_n 0, 1) := by decide +kernel
theorem dX10_init_963 : decode cX10_init 963 = .ok (.sipush 300, 3) := by decide +kernel
theorem dX10_init_966 : decode cX10_init 966 = .ok (.newarray .int, 2) := by decide +kernel
theorem dX10_init_968 : decode cX10_init 968 = .ok (.putfield 149, 3) := by decide +kernel
theorem dX10_init_971 : decode cX10_init 971 = .ok (.aload_n 0, 1) := by decide +kernel
theorem dX10_init_972 : decode cX10_init 972 = .ok (.sipush 300, 3) := by decide +kernel
theorem dX10_init_975 : decode cX10_init 975 = .ok (.newarray .boolean, 2) := by decide +kernel
theorem dX10_init_977 : decode cX10_init 977 = .ok (.putfield 152, 3) := by decide +kernel
theorem dX10_init_980 : decode cX10_init 980 = .ok (.aload_n 0, 1) := by decide +kernel
theorem dX10_init_981 : decode cX10_init 981 = .ok (.bipush 12, 2) := by decide +kernel
theorem dX10_init_983 : decode cX10_init 983 = .ok (.newarray .boolean, 2) := by decide +kernel
theorem dX10_init_985 : decode cX10_init 985 = .ok (.putfield 155, 3) := by decide +kernel
theorem dX10_init_988 : decode cX10_init 988 = .ok (.aload_n 0, 1) := by decide +kernel
theorem dX10_init_989 : decode cX10_init 989 = .ok (.bipush 12, 2) := by decide +kernel
theorem dX10_init_991 : decode cX10_init 991 = .ok (.newarray .int, 2) := by decide +kernel
theorem dX10_init_993 : decode cX10_init 993 = .ok (.putfield 158, 3) := by decide +kernel
theorem dX10_init_996 : decode cX10_init 996 = .ok (.aload_n 0, 1) := by decide +kernel
theorem dX10_init_997 : decode cX10_init 997 = .ok (.bipush 12, 2) := by decide +kernel
theorem dX10_init_999 : decode cX10_init 999 = .ok (.newarray .int, 2) := by decide +kernel
theorem dX10_init_1001 : decode cX10_init 1001 = .ok (.putfield 161, 3) := by decide +kernel
theorem dX10_init_1004 : decode cX10_init 1004 = .ok (.aload_n 0, 1) := by decide +kernel
theorem dX10_init_1005 : decode cX10_init 1005 = .ok (.bipush 12, 2) := by decide +kernel
theorem dX10_init_1007 : decode cX10_init 1007 = .ok (.newarray .boolean, 2) := by decide +kernel
theorem dX10_init_1009 : decode cX10_init 1009 = .ok (.putfield 164, 3) := by decide +kernel
theorem dX10_init_1012 : decode cX10_init 1012 = .ok (.aload_n 0, 1) := by decide +kernel
theorem dX10_init_1013 : decode cX10_init 1013 = .ok (.bipush 12, 2) := by decide +kernel
theorem dX10_init_1015 : decode cX10_init 1015 = .ok (.newarray .boolean, 2) := by decide +kernel
theorem dX10_init_1017 : decode cX10_init 1017 = .ok (.putfield 167, 3) := by decide +kernel
theorem dX10_init_1020 : decode cX10_init 1020 = .ok (.aload_n 0, 1) := by decide +kernel
theorem dX10_init_1021 : decode cX10_init 1021 = .ok (.bipush 12, 2) := by decide +kernel
theorem dX10_init_1023 : decode cX10_init 1023 = .ok (.newarray .boolean, 2) := by decide +kernel
theorem dX10_init_1025 : decode cX10_init 1025 = .ok (.putfield 170, 3) := by decide +kernel
theorem dX10_init_1028 : decode cX10_init 1028 = .ok (.aload_n 0, 1) := by decide +kernel
theorem dX10_init_1029 : decode cX10_init 1029 = .ok (.sipush 300, 3) := by decide +kernel
theorem dX10_init_1032 : decode cX10_init 1032 = .ok (.newarray .boolean, 2) := by decide +kernel
theorem dX10_init_1034 : decode cX10_init 1034 = .ok (.putfield 173, 3) := by decide +kernel
theorem dX10_init_1037 : decode cX10_init 1037 = .ok (.aload_n 0, 1) := by decide +kernel
theorem dX10_init_1038 : decode cX10_init 1038 = .ok (.bipush 32, 2) := by decide +kernel
theorem dX10_init_1040 : decode cX10_init 1040 = .ok (.newarray .int, 2) := by decide +kernel
theorem dX10_init_1042 : decode cX10_init 1042 = .ok (.putfield 176, 3) := by decide +kernel
theorem dX10_init_1045 : decode cX10_init 1045 = .ok (.aload_n 0, 1) := by decide +kernel
theorem dX10_init_1046 : decode cX10_init 1046 = .ok (.sipush 720, 3) := by decide +kernel
theorem dX10_init_1049 : decode cX10_init 1049 = .ok (.newarray .int, 2) := by decide +kernel
theorem dX10_init_1051 : decode cX10_init 1051 = .ok (.putfield 179, 3) := by decide +kernel
theorem dX10_init_1054 : decode cX10_init 1054 = .ok (.aload_n 0, 1) := by decide +kernel
theorem dX10_init_1055 : decode cX10_init 1055 = .ok (.sipush 180, 3) := by decide +kernel
theorem dX10_init_1058 : decode cX10_init 1058 = .ok (.newarray .int, 2) := by decide +kernel
theorem dX10_init_1060 : decode cX10_init 1060 = .ok (.putfield 182, 3) := by decide +kernel
theorem dX10_init_1063 : decode cX10_init 1063 = .ok (.aload_n 0, 1) := by decide +kernel
theorem dX10_init_1064 : decode cX10_init 1064 = .ok (.lconst 1, 1) := by decide +kernel
theorem dX10_init_1065 : decode cX10_init 1065 = .ok (.putfield 185, 3) := by decide +kernel
theorem dX10_init_1068 : decode cX10_init 1068 = .ok (.aload_n 0, 1) := by decide +kernel
theorem dX10_init_1069 : decode cX10_init 1069 = .ok (.iconst 5, 1) := by decide +kernel
theorem dX10_init_1070 : decode cX10_init 1070 = .ok (.newarray .char, 2) := by decide +kernel
theorem dX10_init_1072 : decode cX10_init 1072 = .ok (.dup, 1) := by decide +kernel
theorem dX10_init_1073 : decode cX10_init 1073 = .ok (.iconst 0, 1) := by decide +kernel
theorem dX10_init_1074 : decode cX10_init 1074 = .ok (.bipush 102, 2) := by decide +kernel
theorem dX10_init_1076 : decode cX10_init 1076 = .ok (.castore, 1) := by decide +kernel
theorem dX10_init_1077 : decode cX10_init 1077 = .ok (.dup, 1) := by decide +kernel
theorem dX10_init_1078 : decode cX10_init 1078 = .ok (.iconst 1, 1) := by decide +kernel
theorem dX10_init_1079 : decode cX10_init 1079 = .ok (.bipush 105, 2) := by decide +kernel
theorem dX10_init_1081 : decode cX10_init 1081 = .ok (.castore, 1) := by decide +kernel
theorem dX10_init_1082 : decode cX10_init 1082 = .ok (.dup, 1) := by decide +kernel
theorem dX10_init_1083 : decode cX10_init 1083 = .ok (.iconst 2, 1) := by decide +kernel
theorem dX10_init_1084 : decode cX10_init 1084 = .ok (.bipush 114, 2) := by decide +kernel
theorem dX10_init_1086 : decode cX10_init 1086 = .ok (.castore, 1) := by decide +kernel
theorem dX10_init_1087 : decode cX10_init 1087 = .ok (.dup, 1) := by decide +kernel
theorem dX10_init_1088 : decode cX10_init 1088 = .ok (.iconst 3, 1) := by decide +kernel
theorem dX10_init_1089 : decode cX10_init 1089 = .ok (.bipush 115, 2) := by decide +kernel
theorem dX10_init_1091 : decode cX10_init 1091 = .ok (.castore, 1) := by decide +kernel
theorem dX10_init_1092 : decode cX10_init 1092 = .ok (.dup, 1) := by decide +kernel
theorem dX10_init_1093 : decode cX10_init 1093 = .ok (.iconst 4, 1) := by decide +kernel
theorem dX10_init_1094 : decode cX10_init 1094 = .ok (.bipush 116, 2) := by decide +kernel
theorem dX10_init_1096 : decode cX10_init 1096 = .ok (.castore, 1) := by decide +kernel
theorem dX10_init_1097 : decode cX10_init 1097 = .ok (.putfield 189, 3) := by decide +kernel
theorem dX10_init_1100 : decode cX10_init 1100 = .ok (.aload_n 0, 1) := by decide +kernel
theorem dX10_init_1101 : decode cX10_init 1101 = .ok (.iconst 4, 1) := by decide +kernel
theorem dX10_init_1102 : decode cX10_init 1102 = .ok (.newarray .char, 2) := by decide +kernel
theorem dX10_init_1104 : decode cX10_init 1104 = .ok (.dup, 1) := by decide +kernel
theorem dX10_init_1105 : decode cX10_init 1105 = .ok (.iconst 0, 1) := by decide +kernel
theorem dX10_init_1106 : decode cX10_init 1106 = .ok (.bipush 108, 2) := by decide +kernel
theorem dX10_init_1108 : decode cX10_init 1108 = .ok (.castore, 1) := by decide +kernel
theorem dX10_init_1109 : decode cX10_init 1109 = .ok (.dup, 1) := by decide +kernel
theorem dX10_init_1110 : decode cX10_init 1110 = .ok (.iconst 1, 1) := by decide +kernel
theorem dX10_init_1111 : decode cX10_init 1111 = .ok (.bipush 97, 2) := by decide +kernel
theorem dX10_init_1113 : decode cX10_init 1113 = .ok (.castore, 1) := by decide +kernel
theorem dX10_init_1114 : decode cX10_init 1114 = .ok (.dup, 1) := by decide +kernel
theorem dX10_init_1115 : decode cX10_init 1115 = .ok (.iconst 2, 1) := by decide +kernel
theorem dX10_init_1116 : decode cX10_init 1116 = .ok (.bipush 115, 2) := by decide +kernel
theorem dX10_init_1118 : decode cX10_init 1118 = .ok (.castore, 1) := by decide +kernel
theorem dX10_init_1119 : decode cX10_init 1119 = .ok (.dup, 1) := by decide +kernel
theorem dX10_init_1120 : decode cX10_init 1120 = .ok (.iconst 3, 1) := by decide +kernel
theorem dX10_init_1121 : decode cX10_init 1121 = .ok (.bipush 116, 2) := by decide +kernel
theorem dX10_init_1123 : decode cX10_init 1123 = .ok (.castore, 1) := by decide +kernel
theorem dX10_init_1124 : decode cX10_init 1124 = .ok (.putfield 192, 3) := by decide +kernel
theorem dX10_init_1127 : decode cX10_init 1127 = .ok (.aload_n 0, 1) := by decide +kernel
theorem dX10_init_1128 : decode cX10_init 1128 = .ok (.iconst 5, 1) := by decide +kernel
theorem dX10_init_1129 : decode cX10_init 1129 = .ok (.newarray .char, 2) := by decide +kernel
theorem dX10_init_1131 : decode cX10_init 1131 = .ok (.dup, 1) := by decide +kernel
theorem dX10_init_1132 : decode cX10_init 1132 = .ok (.iconst 0, 1) := by decide +kernel
theorem dX10_init_1133 : decode cX10_init 1133 = .ok (.bipush 111, 2) := by decide +kernel
theorem dX10_init_1135 : decode cX10_init 1135 = .ok (.castore, 1) := by decide +kernel
theorem dX10_init_1136 : decode cX10_init 1136 = .ok (.dup, 1) := by decide +kernel
theorem dX10_init_1137 : decode cX10_init 1137 = .ok (.iconst 1, 1) := by decide +kernel
theorem dX10_init_1138 : decode cX10_init 1138 = .ok (.bipush 102, 2) := by decide +kernel
theorem dX10_init_1140 : decode cX10_init 1140 = .ok (.castore, 1) := by decide +kernel
theorem dX10_init_1141 : decode cX10_init 1141 = .ok (.dup, 1) := by decide +kernel
theorem dX10_init_1142 : decode cX10_init 1142 = .ok (.iconst 2, 1) := by decide +kernel
theorem dX10_init_1143 : decode cX10_init 1143 = .ok (.bipush 116, 2) := by decide +kernel
theorem dX10_init_1145 : decode cX10_init 1145 = .ok (.castore, 1) := by decide +kernel
theorem dX10_init_1146 : decode cX10_init 1146 = .ok (.dup, 1) := by decide +kernel
theorem dX10_init_1147 : decode cX10_init 1147 = .ok (.iconst 3, 1) := by decide +kernel
theorem dX10_init_1148 : decode cX10_init 1148 = .ok (.bipush 101, 2) := by decide +kernel
theorem dX10_init_1150 : decode cX10_init 1150 = .ok (.castore, 1) := by decide +kernel
theorem dX10_init_1151 : decode cX10_init 1151 = .ok (.dup, 1) := by decide +kernel
theorem dX10_init_1152 : decode cX10_init 1152 = .ok (.iconst 4, 1) := by decide +kernel
theorem dX10_init_1153 : decode cX10_init 1153 = .ok (.bipush 110, 2) := by decide +kernel
theorem dX10_init_1155 : decode cX10_init 1155 = .ok (.castore, 1) := by decide +kernel
theorem dX10_init_1156 : decode cX10_init 1156 = .ok (.putfield 195, 3) := by decide +kernel
theorem dX10_init_1159 : decode cX10_init 1159 = .ok (.aload_n 0, 1) := by decide +kernel
theorem dX10_init_1160 : decode cX10_init 1160 = .ok (.iconst 5, 1) := by decide +kernel
theorem dX10_init_1161 : decode cX10_init 1161 = .ok (.newarray .char, 2) := by decide +kernel
theorem dX10_init_1163 : decode cX10_init 1163 = .ok (.dup, 1) := by decide +kernel
theorem dX10_init_1164 : decode cX10_init 1164 = .ok (.iconst 0, 1) := by decide +kernel
theorem dX10_init_1165 : decode cX10_init 1165 = .ok (.bipush 116, 2) := by decide +kernel
theorem dX10_init_1167 : decode cX10_init 1167 = .ok (.castore, 1) := by decide +kernel
theorem dX10_init_1168 : decode cX10_init 1168 = .ok (.dup, 1) := by decide +kernel
theorem dX10_init_1169 : decode cX10_init 1169 = .ok (.iconst 1, 1) := by decide +kernel
theorem dX10_init_1170 : decode cX10_init 1170 = .ok (.bipush 111, 2) := by decide +kernel
theorem dX10_init_1172 : decode cX10_init 1172 = .ok (.castore, 1) := by decide +kernel
theorem dX10_init_1173 : decode cX10_init 1173 = .ok (.dup, 1) := by decide +kernel
theorem dX10_init_1174 : decode cX10_init 1174 = .ok (.iconst 2, 1) := by decide +kernel
theorem dX10_init_1175 : decode cX10_init 1175 = .ok (.bipush 116, 2) := by decide +kernel
theorem dX10_init_1177 : decode cX10_init 1177 = .ok (.castore, 1) := by decide +kernel
theorem dX10_init_1178 : decode cX10_init 1178 = .ok (.dup, 1) := by decide +kernel
theorem dX10_init_1179 : decode cX10_init 1179 = .ok (.iconst 3, 1) := by decide +kernel
theorem dX10_init_1180 : decode cX10_init 1180 = .ok (.bipush 97, 2) := by decide +kernel
theorem dX10_init_1182 : decode cX10_init 1182 = .ok (.castore, 1) := by decide +kernel
theorem dX10_init_1183 : decode cX10_init 1183 = .ok (.dup, 1) := by decide +kernel
theorem dX10_init_1184 : decode cX10_init 1184 = .ok (.iconst 4, 1) := by decide +kernel
theorem dX10_init_1185 : decode cX10_init 1185 = .ok (.bipush 108, 2) := by decide +kernel
theorem dX10_init_1187 : decode cX10_init 1187 = .ok (.castore, 1) := by decide +kernel
theorem dX10_init_1188 : decode cX10_init 1188 = .ok (.putfield 198, 3) := by decide +kernel
theorem dX10_init_1191 : decode cX10_init 1191 = .ok (.aload_n 0, 1) := by decide +kernel
theorem dX10_init_1192 : decode cX10_init 1192 = .ok (.iconst 4, 1) := by decide +kernel
theorem dX10_init_1193 : decode cX10_init 1193 = .ok (.newarray .char, 2) := by decide +kernel
theorem dX10_init_1195 : decode cX10_init 1195 = .ok (.dup, 1) := by decide +kernel
theorem dX10_init_1196 : decode cX10_init 1196 = .ok (.iconst 0, 1) := by decide +kernel
theorem dX10_init_1197 : decode cX10_init 1197 = .ok (.bipush 109, 2) := by decide +kernel
theorem dX10_init_1199 : decode cX10_init 1199 = .ok (.castore, 1) := by decide +kernel
theorem dX10_init_1200 : decode cX10_init 1200 = .ok (.dup, 1) := by decide +kernel
theorem dX10_init_1201 : decode cX10_init 1201 = .ok (.iconst 1, 1) := by decide +kernel
theorem dX10_init_1202 : decode cX10_init 1202 = .ok (.bipush 111, 2) := by decide +kernel
theorem dX10_init_1204 : decode cX10_init 1204 = .ok (.castore, 1) := by decide +kernel
theorem dX10_init_1205 : decode cX10_init 1205 = .ok (.dup, 1) := by decide +kernel
theorem dX10_init_1206 : decode cX10_init 1206 = .ok (.iconst 2, 1) := by decide +kernel
theorem dX10_init_1207 : decode cX10_init 1207 = .ok (.bipush 115, 2) := by decide +kernel
theorem dX10_init_1209 : decode cX10_init 1209 = .ok (.castore, 1) := by decide +kernel
theorem dX10_init_1210 : decode cX10_init 1210 = .ok (.dup, 1) := by decide +kernel
theorem dX10_init_1211 : decode cX10_init 1211 = .ok (.iconst 3, 1) := by decide +kernel
theorem dX10_init_1212 : decode cX10_init 1212 = .ok (.bipush 116, 2) := by decide +kernel
theorem dX10_init_1214 : decode cX10_init 1214 = .ok (.castore, 1) := by decide +kernel
theorem dX10_init_1215 : decode cX10_init 1215 = .ok (.putfield 201, 3) := by decide +kernel
theorem dX10_init_1218 : decode cX10_init 1218 = .ok (.aload_n 0, 1) := by decide +kernel
theorem dX10_init_1219 : decode cX10_init 1219 = .ok (.iconst 5, 1) := by decide +kernel
theorem dX10_init_1220 : decode cX10_init 1220 = .ok (.newarray .char, 2) := by decide +kernel
theorem dX10_init_1222 : decode cX10_init 1222 = .ok (.dup, 1) := by decide +kernel
theorem dX10_init_1223 : decode cX10_init 1223 = .ok (.iconst 0, 1) := by decide +kernel
theorem dX10_init_1224 : decode cX10_init 1224 = .ok (.bipush 108, 2) := by decide +kernel
theorem dX10_init_1226 : decode cX10_init 1226 = .ok (.castore, 1) := by decide +kernel
theorem dX10_init_1227 : decode cX10_init 1227 = .ok (.dup, 1) := by decide +kernel
theorem dX10_init_1228 : decode cX10_init 1228 = .ok (.iconst 1, 1) := by decide +kernel
theorem dX10_init_1229 : decode cX10_init 1229 = .ok (.bipush 101, 2) := by decide +kernel
theorem dX10_init_1231 : decode cX10_init 1231 = .ok (.castore, 1) := by decide +kernel
theorem dX10_init_1232 : decode cX10_init 1232 = .ok (.dup, 1) := by decide +kernel
theorem dX10_init_1233 : decode cX10_init 1233 = .ok (.iconst 2, 1) := by decide +kernel
theorem dX10_init_1234 : decode cX10_init 1234 = .ok (.bipush 97, 2) := by decide +kernel
theorem dX10_init_1236 : decode cX10_init 1236 = .ok (.castore, 1) := by decide +kernel
theorem dX10_init_1237 : decode cX10_init 1237 = .ok (.dup, 1) := by decide +kernel
theorem dX10_init_1238 : decode cX10_init 1238 = .ok (.iconst 3, 1) := by decide +kernel
theorem dX10_init_1239 : decode cX10_init 1239 = .ok (.bipush 115, 2) := by decide +kernel
theorem dX10_init_1241 : decode cX10_init 1241 = .ok (.castore, 1) := by decide +kernel
theorem dX10_init_1242 : decode cX10_init 1242 = .ok (.dup, 1) := by decide +kernel
theorem dX10_init_1243 : decode cX10_init 1243 = .ok (.iconst 4, 1) := by decide +kernel
theorem dX10_init_1244 : decode cX10_init 1244 = .ok (.bipush 116, 2) := by decide +kernel
theorem dX10_init_1246 : decode cX10_init 1246 = .ok (.castore, 1) := by decide +kernel
theorem dX10_init_1247 : decode cX10_init 1247 = .ok (.putfield 204, 3) := by decide +kernel
theorem dX10_init_1250 : decode cX10_init 1250 = .ok (.aload_n 0, 1) := by decide +kernel
theorem dX10_init_1251 : decode cX10_init 1251 = .ok (.iconst 3, 1) := by decide +kernel
theorem dX10_init_1252 : decode cX10_init 1252 = .ok (.newarray .char, 2) := by decide +kernel
theorem dX10_init_1254 : decode cX10_init 1254 = .ok (.dup, 1) := by decide +kernel
theorem dX10_init_1255 : decode cX10_init 1255 = .ok (.iconst 0, 1) := by decide +kernel
theorem dX10_init_1256 : decode cX10_init 1256 = .ok (.bipush 110, 2) := by decide +kernel
theorem dX10_init_1258 : decode cX10_init 1258 = .ok (.castore, 1) := by decide +kernel
theorem dX10_init_1259 : decode cX10_init 1259 = .ok (.dup, 1) := by decide +kernel
theorem dX10_init_1260 : decode cX10_init 1260 = .ok (.iconst 1, 1) := by decide +kernel
theorem dX10_init_1261 : decode cX10_init 1261 = .ok (.bipush 111, 2) := by decide +kernel
theorem dX10_init_1263 : decode cX10_init 1263 = .ok (.castore, 1) := by decide +kernel
theorem dX10_init_1264 : decode cX10_init 1264 = .ok (.dup, 1) := by decide +kernel
theorem dX10_init_1265 : decode cX10_init 1265 = .ok (.iconst 2, 1) := by decide +kernel
theorem dX10_init_1266 : decode cX10_init 1266 = .ok (.bipush 116, 2) := by decide +kernel
theorem dX10_init_1268 : decode cX10_init 1268 = .ok (.castore, 1) := by decide +kernel
theorem dX10_init_1269 : decode cX10_init 1269 = .ok (.putfield 207, 3) := by decide +kernel
theorem dX10_init_1272 : decode cX10_init 1272 = .ok (.aload_n 0, 1) := by decide +kernel
theorem dX10_init_1273 : decode cX10_init 1273 = .ok (.iconst 3, 1) := by decide +kernel
theorem dX10_init_1274 : decode cX10_init 1274 = .ok (.newarray .char, 2) := by decide +kernel
theorem dX10_init_1276 : decode cX10_init 1276 = .ok (.dup, 1) := by decide +kernel
theorem dX10_init_1277 : decode cX10_init 1277 = .ok (.iconst 0, 1) := by decide +kernel
theorem dX10_init_1278 : decode cX10_init 1278 = .ok (.bipush 97, 2) := by decide +kernel
theorem dX10_init_1280 : decode cX10_init 1280 = .ok (.castore, 1) := by decide +kernel
theorem dX10_init_1281 : decode cX10_init 1281 = .ok (.dup, 1) := by decide +kernel
theorem dX10_init_1282 : decode cX10_init 1282 = .ok (.iconst 1, 1) := by decide +kernel
theorem dX10_init_1283 : decode cX10_init 1283 = .ok (.bipush 110, 2) := by decide +kernel
theorem dX10_init_1285 : decode cX10_init 1285 = .ok (.castore, 1) := by decide +kernel
theorem dX10_init_1286 : decode cX10_init 1286 = .ok (.dup, 1) := by decide +kernel
theorem dX10_init_1287 : decode cX10_init 1287 = .ok (.iconst 2, 1) := by decide +kernel
theorem dX10_init_1288 : decode cX10_init 1288 = .ok (.bipush 100, 2) := by decide +kernel
theorem dX10_init_1290 : decode cX10_init 1290 = .ok (.castore, 1) := by decide +kernel
theorem dX10_init_1291 : decode cX10_init 1291 = .ok (.putfield 210, 3) := by decide +kernel
theorem dX10_init_1294 : decode cX10_init 1294 = .ok (.aload_n 0, 1) := by decide +kernel
theorem dX10_init_1295 : decode cX10_init 1295 = .ok (.iconst 2, 1) := by decide +kernel
theorem dX10_init_1296 : decode cX10_init 1296 = .ok (.newarray .char, 2) := by decide +kernel
theorem dX10_init_1298 : decode cX10_init 1298 = .ok (.dup, 1) := by decide +kernel
theorem dX10_init_1299 : decode cX10_init 1299 = .ok (.iconst 0, 1) := by decide +kernel
theorem dX10_init_1300 : decode cX10_init 1300 = .ok (.bipush 111, 2) := by decide +kernel
theorem dX10_init_1302 : decode cX10_init 1302 = .ok (.castore, 1) := by decide +kernel
theorem dX10_init_1303 : decode cX10_init 1303 = .ok (.dup, 1) := by decide +kernel
theorem dX10_init_1304 : decode cX10_init 1304 = .ok (.iconst 1, 1) := by decide +kernel
theorem dX10_init_1305 : decode cX10_init 1305 = .ok (.bipush 114, 2) := by decide +kernel
theorem dX10_init_1307 : decode cX10_init 1307 = .ok (.castore, 1) := by decide +kernel
theorem dX10_init_1308 : decode cX10_init 1308 = .ok (.putfield 213, 3) := by decide +kernel
theorem dX10_init_1311 : decode cX10_init 1311 = .ok (.aload_n 0, 1) := by decide +kernel
theorem dX10_init_1312 : decode cX10_init 1312 = .ok (.iconst 3, 1) := by decide +kernel
theorem dX10_init_1313 : decode cX10_init 1313 = .ok (.newarray .char, 2) := by decide +kernel
theorem dX10_init_1315 : decode cX10_init 1315 = .ok (.dup, 1) := by decide +kernel
theorem dX10_init_1316 : decode cX10_init 1316 = .ok (.iconst 0, 1) := by decide +kernel
theorem dX10_init_1317 : decode cX10_init 1317 = .ok (.bipush 97, 2) := by decide +kernel
theorem dX10_init_1319 : decode cX10_init 1319 = .ok (.castore, 1) := by decide +kernel
theorem dX10_init_1320 : decode cX10_init 1320 = .ok (.dup, 1) := by decide +kernel
theorem dX10_init_1321 : decode cX10_init 1321 = .ok (.iconst 1, 1) := by decide +kernel
theorem dX10_init_1322 : decode cX10_init 1322 = .ok (.bipush 108, 2) := by decide +kernel
theorem dX10_init_1324 : decode cX10_init 1324 = .ok (.castore, 1) := by decide +kernel
theorem dX10_init_1325 : decode cX10_init 1325 = .ok (.dup, 1) := by decide +kernel
theorem dX10_init_1326 : decode cX10_init 1326 = .ok (.iconst 2, 1) := by decide +kernel
theorem dX10_init_1327 : decode cX10_init 1327 = .ok (.bipush 108, 2) := by decide +kernel
theorem dX10_init_1329 : decode cX10_init 1329 = .ok (.castore, 1) := by decide +kernel
theorem dX10_init_1330 : decode cX10_init 1330 = .ok (.putfield 216, 3) := by decide +kernel
theorem dX10_init_1333 : decode cX10_init 1333 = .ok (.aload_n 0, 1) := by decide +kernel
theorem dX10_init_1334 : decode cX10_init 1334 = .ok (.iconst 3, 1) := by decide +kernel
theorem dX10_init_1335 : decode cX10_init 1335 = .ok (.newarray .char, 2) := by decide +kernel
theorem dX10_init_1337 : decode cX10_init 1337 = .ok (.dup, 1) := by decide +kernel
theorem dX10_init_1338 : decode cX10_init 1338 = .ok (.iconst 0, 1) := by decide +kernel
theorem dX10_init_1339 : decode cX10_init 1339 = .ok (.bipush 109, 2) := by decide +kernel
theorem dX10_init_1341 : decode cX10_init 1341 = .ok (.castore, 1) := by decide +kernel
theorem dX10_init_1342 : decode cX10_init 1342 = .ok (.dup, 1) := by decide +kernel
theorem dX10_init_1343 : decode cX10_init 1343 = .ok (.iconst 1, 1) := by decide +kernel
theorem dX10_init_1344 : decode cX10_init 1344 = .ok (.bipush 105, 2) := by decide +kernel
theorem dX10_init_1346 : decode cX10_init 1346 = .ok (.castore, 1) := by decide +kernel
theorem dX10_init_1347 : decode cX10_init 1347 = .ok (.dup, 1) := by decide +kernel
theorem dX10_init_1348 : decode cX10_init 1348 = .ok (.iconst 2, 1) := by decide +kernel
theorem dX10_init_1349 : decode cX10_init 1349 = .ok (.bipush 110, 2) := by decide +kernel
theorem dX10_init_1351 : decode cX10_init 1351 = .ok (.castore, 1) := by decide +kernel
theorem dX10_init_1352 : decode cX10_init 1352 = .ok (.putfield 219, 3) := by decide +kernel
theorem dX10_init_1355 : decode cX10_init 1355 = .ok (.aload_n 0, 1) := by decide +kernel
theorem dX10_init_1356 : decode cX10_init 1356 = .ok (.iconst 3, 1) := by decide +kernel
theorem dX10_init_1357 : decode cX10_init 1357 = .ok (.newarray .char, 2) := by decide +kernel
theorem dX10_init_1359 : decode cX10_init 1359 = .ok (.dup, 1) := by decide +kernel
theorem dX10_init_1360 : decode cX10_init 1360 = .ok (.iconst 0, 1) := by decide +kernel
theorem dX10_init_1361 : decode cX10_init 1361 = .ok (.bipush 109, 2) := by decide +kernel
theorem dX10_init_1363 : decode cX10_init 1363 = .ok (.castore, 1) := by decide +kernel
theorem dX10_init_1364 : decode cX10_init 1364 = .ok (.dup, 1) := by decide +kernel
theorem dX10_init_1365 : decode cX10_init 1365 = .ok (.iconst 1, 1) := by decide +kernel
theorem dX10_init_1366 : decode cX10_init 1366 = .ok (.bipush 97, 2) := by decide +kernel
theorem dX10_init_1368 : decode cX10_init 1368 = .ok (.castore, 1) := by decide +kernel
theorem dX10_init_1369 : decode cX10_init 1369 = .ok (.dup, 1) := by decide +kernel
theorem dX10_init_1370 : decode cX10_init 1370 = .ok (.iconst 2, 1) := by decide +kernel
theorem dX10_init_1371 : decode cX10_init 1371 = .ok (.bipush 120, 2) := by decide +kernel
theorem dX10_init_1373 : decode cX10_init 1373 = .ok (.castore, 1) := by decide +kernel
theorem dX10_init_1374 : decode cX10_init 1374 = .ok (.putfield 222, 3) := by decide +kernel
theorem dX10_init_1377 : decode cX10_init 1377 = .ok (.aload_n 0, 1) := by decide +kernel
theorem dX10_init_1378 : decode cX10_init 1378 = .ok (.bipush 6, 2) := by decide +kernel
theorem dX10_init_1380 : decode cX10_init 1380 = .ok (.newarray .char, 2) := by decide +kernel
theorem dX10_init_1382 : decode cX10_init 1382 = .ok (.dup, 1) := by decide +kernel
theorem dX10_init_1383 : decode cX10_init 1383 = .ok (.iconst 0, 1) := by decide +kernel
theorem dX10_init_1384 : decode cX10_init 1384 = .ok (.bipush 115, 2) := by decide +kernel
theorem dX10_init_1386 : decode cX10_init 1386 = .ok (.castore, 1) := by decide +kernel
theorem dX10_init_1387 : decode cX10_init 1387 = .ok (.dup, 1) := by decide +kernel
theorem dX10_init_1388 : decode cX10_init 1388 = .ok (.iconst 1, 1) := by decide +kernel
theorem dX10_init_1389 : decode cX10_init 1389 = .ok (.bipush 101, 2) := by decide +kernel
theorem dX10_init_1391 : decode cX10_init 1391 = .ok (.castore, 1) := by decide +kernel
theorem dX10_init_1392 : decode cX10_init 1392 = .ok (.dup, 1) := by decide +kernel
theorem dX10_init_1393 : decode cX10_init 1393 = .ok (.iconst 2, 1) := by decide +kernel
theorem dX10_init_1394 : decode cX10_init 1394 = .ok (.bipush 99, 2) := by decide +kernel
theorem dX10_init_1396 : decode cX10_init 1396 = .ok (.castore, 1) := by decide +kernel
theorem dX10_init_1397 : decode cX10_init 1397 = .ok (.dup, 1) := by decide +kernel
theorem dX10_init_1398 : decode cX10_init 1398 = .ok (.iconst 3, 1) := by decide +kernel
theorem dX10_init_1399 : decode cX10_init 1399 = .ok (.bipush 111, 2) := by decide +kernel
theorem dX10_init_1401 : decode cX10_init 1401 = .ok (.castore, 1) := by decide +kernel
theorem dX10_init_1402 : decode cX10_init 1402 = .ok (.dup, 1) := by decide +kernel
theorem dX10_init_1403 : decode cX10_init 1403 = .ok (.iconst 4, 1) := by decide +kernel
theorem dX10_init_1404 : decode cX10_init 1404 = .ok (.bipush 110, 2) := by decide +kernel
theorem dX10_init_1406 : decode cX10_init 1406 = .ok (.castore, 1) := by decide +kernel
theorem dX10_init_1407 : decode cX10_init 1407 = .ok (.dup, 1) := by decide +kernel
theorem dX10_init_1408 : decode cX10_init 1408 = .ok (.iconst 5, 1) := by decide +kernel
theorem dX10_init_1409 : decode cX10_init 1409 = .ok (.bipush 100, 2) := by decide +kernel
theorem dX10_init_1411 : decode cX10_init 1411 = .ok (.castore, 1) := by decide +kernel
theorem dX10_init_1412 : decode cX10_init 1412 = .ok (.putfield 225, 3) := by decide +kernel
theorem dX10_init_1415 : decode cX10_init 1415 = .ok (.aload_n 0, 1) := by decide +kernel
theorem dX10_init_1416 : decode cX10_init 1416 = .ok (.iconst 3, 1) := by decide +kernel
theorem dX10_init_1417 : decode cX10_init 1417 = .ok (.newarray .char, 2) := by decide +kernel
theorem dX10_init_1419 : decode cX10_init 1419 = .ok (.dup, 1) := by decide +kernel
theorem dX10_init_1420 : decode cX10_init 1420 = .ok (.iconst 0, 1) := by decide +kernel
theorem dX10_init_1421 : decode cX10_init 1421 = .ok (.bipush 100, 2) := by decide +kernel
theorem dX10_init_1423 : decode cX10_init 1423 = .ok (.castore, 1) := by decide +kernel
theorem dX10_init_1424 : decode cX10_init 1424 = .ok (.dup, 1) := by decide +kernel
theorem dX10_init_1425 : decode cX10_init 1425 = .ok (.iconst 1, 1) := by decide +kernel
theorem dX10_init_1426 : decode cX10_init 1426 = .ok (.bipush 97, 2) := by decide +kernel
theorem dX10_init_1428 : decode cX10_init 1428 = .ok (.castore, 1) := by decide +kernel
theorem dX10_init_1429 : decode cX10_init 1429 = .ok (.dup, 1) := by decide +kernel
theorem dX10_init_1430 : decode cX10_init 1430 = .ok (.iconst 2, 1) := by decide +kernel
theorem dX10_init_1431 : decode cX10_init 1431 = .ok (.bipush 121, 2) := by decide +kernel
theorem dX10_init_1433 : decode cX10_init 1433 = .ok (.castore, 1) := by decide +kernel
theorem dX10_init_1434 : decode cX10_init 1434 = .ok (.putfield 228, 3) := by decide +kernel
theorem dX10_init_1437 : decode cX10_init 1437 = .ok (.aload_n 0, 1) := by decide +kernel
theorem dX10_init_1438 : decode cX10_init 1438 = .ok (.iconst 5, 1) := by decide +kernel
theorem dX10_init_1439 : decode cX10_init 1439 = .ok (.newarray .char, 2) := by decide +kernel
theorem dX10_init_1441 : decode cX10_init 1441 = .ok (.dup, 1) := by decide +kernel
theorem dX10_init_1442 : decode cX10_init 1442 = .ok (.iconst 0, 1) := by decide +kernel
theorem dX10_init_1443 : decode cX10_init 1443 = .ok (.bipush 112, 2) := by decide +kernel
theorem dX10_init_1445 : decode cX10_init 1445 = .ok (.castore, 1) := by decide +kernel
theorem dX10_init_1446 : decode cX10_init 1446 = .ok (.dup, 1) := by decide +kernel
theorem dX10_init_1447 : decode cX10_init 1447 = .ok (.iconst 1, 1) := by decide +kernel
theorem dX10_init_1448 : decode cX10_init 1448 = .ok (.bipush 104, 2) := by decide +kernel
theorem dX10_init_1450 : decode cX10_init 1450 = .ok (.castore, 1) := by decide +kernel
theorem dX10_init_1451 : decode cX10_init 1451 = .ok (.dup, 1) := by decide +kernel
theorem dX10_init_1452 : decode cX10_init 1452 = .ok (.iconst 2, 1) := by decide +kernel
theorem dX10_init_1453 : decode cX10_init 1453 = .ok (.bipush 97, 2) := by decide +kernel
theorem dX10_init_1455 : decode cX10_init 1455 = .ok (.castore, 1) := by decide +kernel
theorem dX10_init_1456 : decode cX10_init 1456 = .ok (.dup, 1) := by decide +kernel
theorem dX10_init_1457 : decode cX10_init 1457 = .ok (.iconst 3, 1) := by decide +kernel
theorem dX10_init_1458 : decode cX10_init 1458 = .ok (.bipush 115, 2) := by decide +kernel
theorem dX10_init_1460 : decode cX10_init 1460 = .ok (.castore, 1) := by decide +kernel
theorem dX10_init_1461 : decode cX10_init 1461 = .ok (.dup, 1) := by decide +kernel
theorem dX10_init_1462 : decode cX10_init 1462 = .ok (.iconst 4, 1) := by decide +kernel
theorem dX10_init_1463 : decode cX10_init 1463 = .ok (.bipush 101, 2) := by decide +kernel
theorem dX10_init_1465 : decode cX10_init 1465 = .ok (.castore, 1) := by decide +kernel
theorem dX10_init_1466 : decode cX10_init 1466 = .ok (.putfield 231, 3) := by decide +kernel
theorem dX10_init_1469 : decode cX10_init 1469 = .ok (.aload_n 0, 1) := by decide +kernel
theorem dX10_init_1470 : decode cX10_init 1470 = .ok (.bipush 6, 2) := by decide +kernel
theorem dX10_init_1472 : decode cX10_init 1472 = .ok (.newarray .char, 2) := by decide +kernel
theorem dX10_init_1474 : decode cX10_init 1474 = .ok (.dup, 1) := by decide +kernel
theorem dX10_init_1475 : decode cX10_init 1475 = .ok (.iconst 0, 1) := by decide +kernel
theorem dX10_init_1476 : decode cX10_init 1476 = .ok (.bipush 119, 2) := by decide +kernel
theorem dX10_init_1478 : decode cX10_init 1478 = .ok (.castore, 1) := by decide +kernel
theorem dX10_init_1479 : decode cX10_init 1479 = .ok (.dup, 1) := by decide +kernel
theorem dX10_init_1480 : decode cX10_init 1480 = .ok (.iconst 1, 1) := by decide +kernel
theorem dX10_init_1481 : decode cX10_init 1481 = .ok (.bipush 97, 2) := by decide +kernel
theorem dX10_init_1483 : decode cX10_init 1483 = .ok (.castore, 1) := by decide +kernel
theorem dX10_init_1484 : decode cX10_init 1484 = .ok (.dup, 1) := by decide +kernel
theorem dX10_init_1485 : decode cX10_init 1485 = .ok (.iconst 2, 1) := by decide +kernel
theorem dX10_init_1486 : decode cX10_init 1486 = .ok (.bipush 105, 2) := by decide +kernel
theorem dX10_init_1488 : decode cX10_init 1488 = .ok (.castore, 1) := by decide +kernel
theorem dX10_init_1489 : decode cX10_init 1489 = .ok (.dup, 1) := by decide +kernel
theorem dX10_init_1490 : decode cX10_init 1490 = .ok (.iconst 3, 1) := by decide +kernel
theorem dX10_init_1491 : decode cX10_init 1491 = .ok (.bipush 116, 2) := by decide +kernel
theorem dX10_init_1493 : decode cX10_init 1493 = .ok (.castore, 1) := by decide +kernel
theorem dX10_init_1494 : decode cX10_init 1494 = .ok (.dup, 1) := by decide +kernel
theorem dX10_init_1495 : decode cX10_init 1495 = .ok (.iconst 4, 1) := by decide +kernel
theorem dX10_init_1496 : decode cX10_init 1496 = .ok (.bipush 101, 2) := by decide +kernel
theorem dX10_init_1498 : decode cX10_init 1498 = .ok (.castore, 1) := by decide +kernel
theorem dX10_init_1499 : decode cX10_init 1499 = .ok (.dup, 1) := by decide +kernel
theorem dX10_init_1500 : decode cX10_init 1500 = .ok (.iconst 5, 1) := by decide +kernel
theorem dX10_init_1501 : decode cX10_init 1501 = .ok (.bipush 100, 2) := by decide +kernel
theorem dX10_init_1503 : decode cX10_init 1503 = .ok (.castore, 1) := by decide +kernel
theorem dX10_init_1504 : decode cX10_init 1504 = .ok (.putfield 234, 3) := by decide +kernel
theorem dX10_init_1507 : decode cX10_init 1507 = .ok (.aload_n 0, 1) := by decide +kernel
theorem dX10_init_1508 : decode cX10_init 1508 = .ok (.iconst 4, 1) := by decide +kernel
theorem dX10_init_1509 : decode cX10_init 1509 = .ok (.newarray .char, 2) := by decide +kernel
theorem dX10_init_1511 : decode cX10_init 1511 = .ok (.dup, 1) := by decide +kernel
theorem dX10_init_1512 : decode cX10_init 1512 = .ok (.iconst 0, 1) := by decide +kernel
theorem dX10_init_1513 : decode cX10_init 1513 = .ok (.bipush 99, 2) := by decide +kernel
theorem dX10_init_1515 : decode cX10_init 1515 = .ok (.castore, 1) := by decide +kernel
theorem dX10_init_1516 : decode cX10_init 1516 = .ok (.dup, 1) := by decide +kernel
theorem dX10_init_1517 : decode cX10_init 1517 = .ok (.iconst 1, 1) := by decide +kernel
theorem dX10_init_1518 : decode cX10_init 1518 = .ok (.bipush 97, 2) := by decide +kernel
theorem dX10_init_1520 : decode cX10_init 1520 = .ok (.castore, 1) := by decide +kernel
theorem dX10_init_1521 : decode cX10_init 1521 = .ok (.dup, 1) := by decide +kernel
theorem dX10_init_1522 : decode cX10_init 1522 = .ok (.iconst 2, 1) := by decide +kernel
theorem dX10_init_1523 : decode cX10_init 1523 = .ok (.bipush 108, 2) := by decide +kernel
theorem dX10_init_1525 : decode cX10_init 1525 = .ok (.castore, 1) := by decide +kernel
theorem dX10_init_1526 : decode cX10_init 1526 = .ok (.dup, 1) := by decide +kernel
theorem dX10_init_1527 : decode cX10_init 1527 = .ok (.iconst 3, 1) := by decide +kernel
theorem dX10_init_1528 : decode cX10_init 1528 = .ok (.bipush 109, 2) := by decide +kernel
theorem dX10_init_1530 : decode cX10_init 1530 = .ok (.castore, 1) := by decide +kernel
theorem dX10_init_1531 : decode cX10_init 1531 = .ok (.putfield 237, 3) := by decide +kernel
theorem dX10_init_1534 : decode cX10_init 1534 = .ok (.aload_n 0, 1) := by decide +kernel
theorem dX10_init_1535 : decode cX10_init 1535 = .ok (.iconst 4, 1) := by decide +kernel
theorem dX10_init_1536 : decode cX10_init 1536 = .ok (.newarray .char, 2) := by decide +kernel
theorem dX10_init_1538 : decode cX10_init 1538 = .ok (.dup, 1) := by decide +kernel
theorem dX10_init_1539 : decode cX10_init 1539 = .ok (.iconst 0, 1) := by decide +kernel
theorem dX10_init_1540 : decode cX10_init 1540 = .ok (.bipush 112, 2) := by decide +kernel
theorem dX10_init_1542 : decode cX10_init 1542 = .ok (.castore, 1) := by decide +kernel
theorem dX10_init_1543 : decode cX10_init 1543 = .ok (.dup, 1) := by decide +kernel
theorem dX10_init_1544 : decode cX10_init 1544 = .ok (.iconst 1, 1) := by decide +kernel
theorem dX10_init_1545 : decode cX10_init 1545 = .ok (.bipush 97, 2) := by decide +kernel
theorem dX10_init_1547 : decode cX10_init 1547 = .ok (.castore, 1) := by decide +kernel
theorem dX10_init_1548 : decode cX10_init 1548 = .ok (.dup, 1) := by decide +kernel
theorem dX10_init_1549 : decode cX10_init 1549 = .ok (.iconst 2, 1) := by decide +kernel
theorem dX10_init_1550 : decode cX10_init 1550 = .ok (.bipush 99, 2) := by decide +kernel
theorem dX10_init_1552 : decode cX10_init 1552 = .ok (.castore, 1) := by decide +kernel
theorem dX10_init_1553 : decode cX10_init 1553 = .ok (.dup, 1) := by decide +kernel
theorem dX10_init_1554 : decode cX10_init 1554 = .ok (.iconst 3, 1) := by decide +kernel
theorem dX10_init_1555 : decode cX10_init 1555 = .ok (.bipush 101, 2) := by decide +kernel
theorem dX10_init_1557 : decode cX10_init 1557 = .ok (.castore, 1) := by decide +kernel
theorem dX10_init_1558 : decode cX10_init 1558 = .ok (.putfield 240, 3) := by decide +kernel
theorem dX10_init_1561 : decode cX10_init 1561 = .ok (.aload_n 0, 1) := by decide +kernel
theorem dX10_init_1562 : decode cX10_init 1562 = .ok (.bipush 6, 2) := by decide +kernel
theorem dX10_init_1564 : decode cX10_init 1564 = .ok (.newarray .char, 2) := by decide +kernel
theorem dX10_init_1566 : decode cX10_init 1566 = .ok (.dup, 1) := by decide +kernel
theorem dX10_init_1567 : decode cX10_init 1567 = .ok (.iconst 0, 1) := by decide +kernel
theorem dX10_init_1568 : decode cX10_init 1568 = .ok (.bipush 116, 2) := by decide +kernel
theorem dX10_init_1570 : decode cX10_init 1570 = .ok (.castore, 1) := by decide +kernel
theorem dX10_init_1571 : decode cX10_init 1571 = .ok (.dup, 1) := by decide +kernel
theorem dX10_init_1572 : decode cX10_init 1572 = .ok (.iconst 1, 1) := by decide +kernel
theorem dX10_init_1573 : decode cX10_init 1573 = .ok (.bipush 114, 2) := by decide +kernel
theorem dX10_init_1575 : decode cX10_init 1575 = .ok (.castore, 1) := by decide +kernel
theorem dX10_init_1576 : decode cX10_init 1576 = .ok (.dup, 1) := by decide +kernel
theorem dX10_init_1577 : decode cX10_init 1577 = .ok (.iconst 2, 1) := by decide +kernel
theorem dX10_init_1578 : decode cX10_init 1578 = .ok (.bipush 117, 2) := by decide +kernel
theorem dX10_init_1580 : decode cX10_init 1580 = .ok (.castore, 1) := by decide +kernel
theorem dX10_init_1581 : decode cX10_init 1581 = .ok (.dup, 1) := by decide +kernel
theorem dX10_init_1582 : decode cX10_init 1582 = .ok (.iconst 3, 1) := by decide +kernel
theorem dX10_init_1583 : decode cX10_init 1583 = .ok (.bipush 115, 2) := by decide +kernel
theorem dX10_init_1585 : decode cX10_init 1585 = .ok (.castore, 1) := by decide +kernel
theorem dX10_init_1586 : decode cX10_init 1586 = .ok (.dup, 1) := by decide +kernel
theorem dX10_init_1587 : decode cX10_init 1587 = .ok (.iconst 4, 1) := by decide +kernel
theorem dX10_init_1588 : decode cX10_init 1588 = .ok (.bipush 116, 2) := by decide +kernel
theorem dX10_init_1590 : decode cX10_init 1590 = .ok (.castore, 1) := by decide +kernel
theorem dX10_init_1591 : decode cX10_init 1591 = .ok (.dup, 1) := by decide +kernel
theorem dX10_init_1592 : decode cX10_init 1592 = .ok (.iconst 5, 1) := by decide +kernel
theorem dX10_init_1593 : decode cX10_init 1593 = .ok (.bipush 115, 2) := by decide +kernel
theorem dX10_init_1595 : decode cX10_init 1595 = .ok (.castore, 1) := by decide +kernel
theorem dX10_init_1596 : decode cX10_init 1596 = .ok (.putfield 243, 3) := by decide +kernel
theorem dX10_init_1599 : decode cX10_init 1599 = .ok (.aload_n 0, 1) := by decide +kernel
theorem dX10_init_1600 : decode cX10_init 1600 = .ok (.iconst 3, 1) := by decide +kernel
theorem dX10_init_1601 : decode cX10_init 1601 = .ok (.newarray .char, 2) := by decide +kernel
theorem dX10_init_1603 : decode cX10_init 1603 = .ok (.dup, 1) := by decide +kernel
theorem dX10_init_1604 : decode cX10_init 1604 = .ok (.iconst 0, 1) := by decide +kernel
theorem dX10_init_1605 : decode cX10_init 1605 = .ok (.bipush 103, 2) := by decide +kernel
theorem dX10_init_1607 : decode cX10_init 1607 = .ok (.castore, 1) := by decide +kernel
theorem dX10_init_1608 : decode cX10_init 1608 = .ok (.dup, 1) := by decide +kernel
theorem dX10_init_1609 : decode cX10_init 1609 = .ok (.iconst 1, 1) := by decide +kernel
theorem dX10_init_1610 : decode cX10_init 1610 = .ok (.bipush 97, 2) := by decide +kernel
theorem dX10_init_1612 : decode cX10_init 1612 = .ok (.castore, 1) := by decide +kernel
theorem dX10_init_1613 : decode cX10_init 1613 = .ok (.dup, 1) := by decide +kernel
theorem dX10_init_1614 : decode cX10_init 1614 = .ok (.iconst 2, 1) := by decide +kernel
theorem dX10_init_1615 : decode cX10_init 1615 = .ok (.bipush 112, 2) := by decide +kernel
theorem dX10_init_1617 : decode cX10_init 1617 = .ok (.castore, 1) := by decide +kernel
theorem dX10_init_1618 : decode cX10_init 1618 = .ok (.putfield 246, 3) := by decide +kernel
theorem dX10_init_1621 : decode cX10_init 1621 = .ok (.aload_n 0, 1) := by decide +kernel
theorem dX10_init_1622 : decode cX10_init 1622 = .ok (.iconst 4, 1) := by decide +kernel
theorem dX10_init_1623 : decode cX10_init 1623 = .ok (.newarray .char, 2) := by decide +kernel
theorem dX10_init_1625 : decode cX10_init 1625 = .ok (.dup, 1) := by decide +kernel
theorem dX10_init_1626 : decode cX10_init 1626 = .ok (.iconst 0, 1) := by decide +kernel
theorem dX10_init_1627 : decode cX10_init 1627 = .ok (.bipush 114, 2) := by decide +kernel
theorem dX10_init_1629 : decode cX10_init 1629 = .ok (.castore, 1) := by decide +kernel
theorem dX10_init_1630 : decode cX10_init 1630 = .ok (.dup, 1) := by decide +kernel
theorem dX10_init_1631 : decode cX10_init 1631 = .ok (.iconst 1, 1) := by decide +kernel
theorem dX10_init_1632 : decode cX10_init 1632 = .ok (.bipush 101, 2) := by decide +kernel
theorem dX10_init_1634 : decode cX10_init 1634 = .ok (.castore, 1) := by decide +kernel
theorem dX10_init_1635 : decode cX10_init 1635 = .ok (.dup, 1) := by decide +kernel
theorem dX10_init_1636 : decode cX10_init 1636 = .ok (.iconst 2, 1) := by decide +kernel
theorem dX10_init_1637 : decode cX10_init 1637 = .ok (.bipush 100, 2) := by decide +kernel
theorem dX10_init_1639 : decode cX10_init 1639 = .ok (.castore, 1) := by decide +kernel
theorem dX10_init_1640 : decode cX10_init 1640 = .ok (.dup, 1) := by decide +kernel
theorem dX10_init_1641 : decode cX10_init 1641 = .ok (.iconst 3, 1) := by decide +kernel
theorem dX10_init_1642 : decode cX10_init 1642 = .ok (.bipush 115, 2) := by decide +kernel
theorem dX10_init_1644 : decode cX10_init 1644 = .ok (.castore, 1) := by decide +kernel
theorem dX10_init_1645 : decode cX10_init 1645 = .ok (.putfield 249, 3) := by decide +kernel
theorem dX10_init_1648 : decode cX10_init 1648 = .ok (.aload_n 0, 1) := by decide +kernel
theorem dX10_init_1649 : decode cX10_init 1649 = .ok (.bipush 6, 2) := by decide +kernel
theorem dX10_init_1651 : decode cX10_init 1651 = .ok (.newarray .char, 2) := by decide +kernel
theorem dX10_init_1653 : decode cX10_init 1653 = .ok (.dup, 1) := by decide +kernel
theorem dX10_init_1654 : decode cX10_init 1654 = .ok (.iconst 0, 1) := by decide +kernel
theorem dX10_init_1655 : decode cX10_init 1655 = .ok (.bipush 110, 2) := by decide +kernel
theorem dX10_init_1657 : decode cX10_init 1657 = .ok (.castore, 1) := by decide +kernel
theorem dX10_init_1658 : decode cX10_init 1658 = .ok (.dup, 1) := by decide +kernel
theorem dX10_init_1659 : decode cX10_init 1659 = .ok (.iconst 1, 1) := by decide +kernel
theorem dX10_init_1660 : decode cX10_init 1660 = .ok (.bipush 117, 2) := by decide +kernel
theorem dX10_init_1662 : decode cX10_init 1662 = .ok (.castore, 1) := by decide +kernel
theorem dX10_init_1663 : decode cX10_init 1663 = .ok (.dup, 1) := by decide +kernel
theorem dX10_init_1664 : decode cX10_init 1664 = .ok (.iconst 2, 1) := by decide +kernel
theorem dX10_init_1665 : decode cX10_init 1665 = .ok (.bipush 109, 2) := by decide +kernel
theorem dX10_init_1667 : decode cX10_init 1667 = .ok (.castore, 1) := by decide +kernel
theorem dX10_init_1668 : decode cX10_init 1668 = .ok (.dup, 1) := by decide +kernel
theorem dX10_init_1669 : decode cX10_init 1669 = .ok (.iconst 3, 1) := by decide +kernel
theorem dX10_init_1670 : decode cX10_init 1670 = .ok (.bipush 98, 2) := by decide +kernel
theorem dX10_init_1672 : decode cX10_init 1672 = .ok (.castore, 1) := by decide +kernel
theorem dX10_init_1673 : decode cX10_init 1673 = .ok (.dup, 1) := by decide +kernel
theorem dX10_init_1674 : decode cX10_init 1674 = .ok (.iconst 4, 1) := by decide +kernel
theorem dX10_init_1675 : decode cX10_init 1675 = .ok (.bipush 101, 2) := by decide +kernel
theorem dX10_init_1677 : decode cX10_init 1677 = .ok (.castore, 1) := by decide +kernel
theorem dX10_init_1678 : decode cX10_init 1678 = .ok (.dup, 1) := by decide +kernel
theorem dX10_init_1679 : decode cX10_init 1679 = .ok (.iconst 5, 1) := by decide +kernel
theorem dX10_init_1680 : decode cX10_init 1680 = .ok (.bipush 114, 2) := by decide +kernel
theorem dX10_init_1682 : decode cX10_init 1682 = .ok (.castore, 1) := by decide +kernel
theorem dX10_init_1683 : decode cX10_init 1683 = .ok (.putfield 252, 3) := by decide +kernel
theorem dX10_init_1686 : decode cX10_init 1686 = .ok (.aload_n 0, 1) := by decide +kernel
theorem dX10_init_1687 : decode cX10_init 1687 = .ok (.iconst 4, 1) := by decide +kernel
theorem dX10_init_1688 : decode cX10_init 1688 = .ok (.newarray .char, 2) := by decide +kernel
theorem dX10_init_1690 : decode cX10_init 1690 = .ok (.dup, 1) := by decide +kernel
theorem dX10_init_1691 : decode cX10_init 1691 = .ok (.iconst 0, 1) := by decide +kernel
theorem dX10_init_1692 : decode cX10_init 1692 = .ok (.bipush 119, 2) := by decide +kernel
theorem dX10_init_1694 : decode cX10_init 1694 = .ok (.castore, 1) := by decide +kernel
theorem dX10_init_1695 : decode cX10_init 1695 = .ok (.dup, 1) := by decide +kernel
theorem dX10_init_1696 : decode cX10_init 1696 = .ok (.iconst 1, 1) := by decide +kernel
theorem dX10_init_1697 : decode cX10_init 1697 = .ok (.bipush 101, 2) := by decide +kernel
theorem dX10_init_1699 : decode cX10_init 1699 = .ok (.castore, 1) := by decide +kernel
theorem dX10_init_1700 : decode cX10_init 1700 = .ok (.dup, 1) := by decide +kernel
theorem dX10_init_1701 : decode cX10_init 1701 = .ok (.iconst 2, 1) := by decide +kernel
theorem dX10_init_1702 : decode cX10_init 1702 = .ok (.bipush 110, 2) := by decide +kernel
theorem dX10_init_1704 : decode cX10_init 1704 = .ok (.castore, 1) := by decide +kernel
theorem dX10_init_1705 : decode cX10_init 1705 = .ok (.dup, 1) := by decide +kernel
theorem dX10_init_1706 : decode cX10_init 1706 = .ok (.iconst 3, 1) := by decide +kernel
theorem dX10_init_1707 : decode cX10_init 1707 = .ok (.bipush 116, 2) := by decide +kernel
theorem dX10_init_1709 : decode cX10_init 1709 = .ok (.castore, 1) := by decide +kernel
theorem dX10_init_1710 : decode cX10_init 1710 = .ok (.putfield 255, 3) := by decide +kernel
theorem dX10_init_1713 : decode cX10_init 1713 = .ok (.aload_n 0, 1) := by decide +kernel
theorem dX10_init_1714 : decode cX10_init 1714 = .ok (.iconst 4, 1) := by decide +kernel
theorem dX10_init_1715 : decode cX10_init 1715 = .ok (.newarray .char, 2) := by decide +kernel
theorem dX10_init_1717 : decode cX10_init 1717 = .ok (.dup, 1) := by decide +kernel
theorem dX10_init_1718 : decode cX10_init 1718 = .ok (.iconst 0, 1) := by decide +kernel
theorem dX10_init_1719 : decode cX10_init 1719 = .ok (.bipush 104, 2) := by decide +kernel
theorem dX10_init_1721 : decode cX10_init 1721 = .ok (.castore, 1) := by decide +kernel
theorem dX10_init_1722 : decode cX10_init 1722 = .ok (.dup, 1) := by decide +kernel
theorem dX10_init_1723 : decode cX10_init 1723 = .ok (.iconst 1, 1) := by decide +kernel
theorem dX10_init_1724 : decode cX10_init 1724 = .ok (.bipush 97, 2) := by decide +kernel
theorem dX10_init_1726 : decode cX10_init 1726 = .ok (.castore, 1) := by decide +kernel
theorem dX10_init_1727 : decode cX10_init 1727 = .ok (.dup, 1) := by decide +kernel
theorem dX10_init_1728 : decode cX10_init 1728 = .ok (.iconst 2, 1) := by decide +kernel
theorem dX10_init_1729 : decode cX10_init 1729 = .ok (.bipush 114, 2) := by decide +kernel
theorem dX10_init_1731 : decode cX10_init 1731 = .ok (.castore, 1) := by decide +kernel
theorem dX10_init_1732 : decode cX10_init 1732 = .ok (.dup, 1) := by decide +kernel
theorem dX10_init_1733 : decode cX10_init 1733 = .ok (.iconst 3, 1) := by decide +kernel
theorem dX10_init_1734 : decode cX10_init 1734 = .ok (.bipush 109, 2) := by decide +kernel
theorem dX10_init_1736 : decode cX10_init 1736 = .ok (.castore, 1) := by decide +kernel
theorem dX10_init_1737 : decode cX10_init 1737 = .ok (.putfield 258, 3) := by decide +kernel
theorem dX10_init_1740 : decode cX10_init 1740 = .ok (.aload_n 0, 1) := by decide +kernel
theorem dX10_init_1741 : decode cX10_init 1741 = .ok (.iconst 4, 1) := by decide +kernel
theorem dX10_init_1742 : decode cX10_init 1742 = .ok (.newarray .char, 2) := by decide +kernel
theorem dX10_init_1744 : decode cX10_init 1744 = .ok (.dup, 1) := by decide +kernel
theorem dX10_init_1745 : decode cX10_init 1745 = .ok (.iconst 0, 1) := by decide +kernel
theorem dX10_init_1746 : decode cX10_init 1746 = .ok (.bipush 107, 2) := by decide +kernel
theorem dX10_init_1748 : decode cX10_init 1748 = .ok (.castore, 1) := by decide +kernel
theorem dX10_init_1749 : decode cX10_init 1749 = .ok (.dup, 1) := by decide +kernel
theorem dX10_init_1750 : decode cX10_init 1750 = .ok (.iconst 1, 1) := by decide +kernel
theorem dX10_init_1751 : decode cX10_init 1751 = .ok (.bipush 105, 2) := by decide +kernel
theorem dX10_init_1753 : decode cX10_init 1753 = .ok (.castore, 1) := by decide +kernel
theorem dX10_init_1754 : decode cX10_init 1754 = .ok (.dup, 1) := by decide +kernel
theorem dX10_init_1755 : decode cX10_init 1755 = .ok (.iconst 2, 1) := by decide +kernel
theorem dX10_init_1756 : decode cX10_init 1756 = .ok (.bipush 110, 2) := by decide +kernel
theorem dX10_init_1758 : decode cX10_init 1758 = .ok (.castore, 1) := by decide +kernel
theorem dX10_init_1759 : decode cX10_init 1759 = .ok (.dup, 1) := by decide +kernel
theorem dX10_init_1760 : decode cX10_init 1760 = .ok (.iconst 3, 1) := by decide +kernel
theorem dX10_init_1761 : decode cX10_init 1761 = .ok (.bipush 100, 2) := by decide +kernel
theorem dX10_init_1763 : decode cX10_init 1763 = .ok (.castore, 1) := by decide +kernel
theorem dX10_init_1764 : decode cX10_init 1764 = .ok (.putfield 261, 3) := by decide +kernel
theorem dX10_init_1767 : decode cX10_init 1767 = .ok (.aload_n 0, 1) := by decide +kernel
theorem dX10_init_1768 : decode cX10_init 1768 = .ok (.sipush 1700, 3) := by decide +kernel
theorem dX10_init_1771 : decode cX10_init 1771 = .ok (.newarray .int, 2) := by decide +kernel
theorem dX10_init_1773 : decode cX10_init 1773 = .ok (.putfield 264, 3) := by decide +kernel
theorem dX10_init_1776 : decode cX10_init 1776 = .ok (.aload_n 0, 1) := by decide +kernel
theorem dX10_init_1777 : decode cX10_init 1777 = .ok (.sipush 1700, 3) := by decide +kernel
theorem dX10_init_1780 : decode cX10_init 1780 = .ok (.newarray .int, 2) := by decide +kernel
theorem dX10_init_1782 : decode cX10_init 1782 = .ok (.putfield 267, 3) := by decide +kernel
theorem dX10_init_1785 : decode cX10_init 1785 = .ok (.aload_n 0, 1) := by decide +kernel
theorem dX10_init_1786 : decode cX10_init 1786 = .ok (.sipush 1700, 3) := by decide +kernel
theorem dX10_init_1789 : decode cX10_init 1789 = .ok (.newarray .long, 2) := by decide +kernel
theorem dX10_init_1791 : decode cX10_init 1791 = .ok (.putfield 270, 3) := by decide +kernel
theorem dX10_init_1794 : decode cX10_init 1794 = .ok (.aload_n 0, 1) := by decide +kernel
theorem dX10_init_1795 : decode cX10_init 1795 = .ok (.bipush 11, 2) := by decide +kernel
theorem dX10_init_1797 : decode cX10_init 1797 = .ok (.newarray .int, 2) := by decide +kernel
theorem dX10_init_1799 : decode cX10_init 1799 = .ok (.putfield 273, 3) := by decide +kernel
theorem dX10_init_1802 : decode cX10_init 1802 = .ok (.return_, 1) := by decide +kernel
end
section
/-! numbers, the answers of a fresh object, two methods by hand -/
theorem kl0 : (0 : Int32).toInt = 0 := by decide
theorem kl1 : (1 : Int32).toInt = 1 := by decide
theorem kl5 : (5 : Int32).toInt = 5 := by decide
theorem kl6 : (6 : Int32).toInt = 6 := by decide
theorem kl7 : (7 : Int32).toInt = 7 := by decide
theorem kl2 : (2 : Int32).toInt = 2 := by decide
theorem kl3 : (3 : Int32).toInt = 3 := by decide
theorem kl4 : (4 : Int32).toInt = 4 := by decide
theorem kl5L : (5 : Int64).toInt = 5 := by decide
theorem kl60 : (60 : Int32).toInt = 60 := by decide
theorem klm1 : (-1 : Int32).toInt = -1 := by decide
def s_end (n : Int32) : Int32 := if n = 0 then 1 else 0
def s_fault (n : Int32) : Int32 := if n = 0 then 0 else -1
def s_has (n : Int32) : Int32 := if 0 ≤ n ∧ n ≤ 7 then 0 else -1
def s_seed (n : Int32) : Int32 := if n < 0 then 0 else 1
def s_status (n : Int32) : Int32 := if 0 ≤ n ∧ n ≤ 5 then 0 else -1
theorem k_look (x : Int32) (h0 : ¬ x = 0) (h1 : ¬ x = 1) : Op.lookupswitch.offset (#[(0, 27), (1, 35)] : Array (Int × Int)).toList 43 x.toInt = 43 := by
  have e0 : ¬ x.toInt = 0 := fun h => h0 (Int32.toInt_inj.mp (h.trans kl0.symm))
  have e1 : ¬ x.toInt = 1 := fun h => h1 (Int32.toInt_inj.mp (h.trans kl1.symm))
  simp [Op.lookupswitch.offset, e0, e1, Ne.symm e0, Ne.symm e1, eq_comm]
/-- isIn -/
def k_isf (v a b : Int64) : Int32 := if a ≤ v ∧ v ≤ b then 1 else 0
theorem k_isf_a {v a b : Int64} (h : lg_cmp v a < 0) : 0 = k_isf v a b := by
  have h1 := (lg_cmp_lt v a).mp h
  refine (if_neg (fun h2 => ?_)).symm
  rw [Int64.lt_iff_toInt_lt] at h1
  have h3 := h2.1
  rw [Int64.le_iff_toInt_le] at h3
  omega
theorem k_isf_b {v a b : Int64} (h : 0 < lg_cmp v b) : 0 = k_isf v a b := by
  have h1 := (lg_cmp_gt v b).mp h
  refine (if_neg (fun h2 => ?_)).symm
  rw [Int64.lt_iff_toInt_lt] at h1
  have h3 := h2.2
  rw [Int64.le_iff_toInt_le] at h3
  omega
theorem k_isf_c {v a b : Int64} (h : ¬ lg_cmp v a < 0) (h2 : ¬ 0 < lg_cmp v b) : 1 = k_isf v a b := by
  rw [lg_cmp_lt, Int64.lt_iff_toInt_lt] at h
  rw [lg_cmp_gt, Int64.lt_iff_toInt_lt] at h2
  refine (if_pos ⟨?_, ?_⟩).symm
  · rw [Int64.le_iff_toInt_le]; omega
  · rw [Int64.le_iff_toInt_le]; omega
theorem k_isf_m1 {r : Int32} {v : Int64} (h : r = k_isf v 0 (-1)) : r = 0 := by
  rw [h]
  refine if_neg (fun h2 => ?_)
  have h3 := h2.1
  have h4 := h2.2
  rw [Int64.le_iff_toInt_le] at h3 h4
  have e1 : (0 : Int64).toInt = 0 := by decide
  have e2 : (-1 : Int64).toInt = -1 := by decide
  omega
theorem k_isf_in {r v : Int32} {b : Int64} (h : r = k_isf v.toInt64 0 b) (h0 : ¬ r = 0) : 0 ≤ v.toInt ∧ v.toInt ≤ b.toInt := by
  rw [h] at h0
  unfold k_isf at h0
  split at h0
  · rename_i h2
    have h3 := h2.1
    have h4 := h2.2
    rw [Int64.le_iff_toInt_le] at h3 h4
    have e1 : (0 : Int64).toInt = 0 := by decide
    have e2 : v.toInt64.toInt = v.toInt := Int32.toInt_toInt64 v
    omega
  · exact absurd rfl h0
theorem k_isf_no {r v : Int32} {b : Int64} (h : r = k_isf v.toInt64 0 b) (h0 : r = 0) : ¬ (0 ≤ v.toInt ∧ v.toInt ≤ b.toInt) := by
  intro h9
  rw [h] at h0
  unfold k_isf at h0
  have e1 : (0 : Int64).toInt = 0 := by decide
  have e2 : v.toInt64.toInt = v.toInt := Int32.toInt_toInt64 v
  rw [if_pos ⟨by rw [Int64.le_iff_toInt_le]; omega, by rw [Int64.le_iff_toInt_le]; omega⟩] at h0
  exact absurd h0 (by decide)
theorem k_isf_1 {r v : Int32} (h : r = k_isf v.toInt64 0 1) (h0 : ¬ r = 0) : v = 0 ∨ v = 1 := by
  have h1 := k_isf_in h h0
  have e1 : (1 : Int64).toInt = 1 := by decide
  simp only [← Int32.toInt_inj, kl0, kl1]
  omega
theorem k_isf_5 {r v : Int32} (h : r = k_isf v.toInt64 0 5) (h0 : ¬ r = 0) : v = 0 ∨ v = 1 ∨ v = 2 ∨ v = 3 ∨ v = 4 ∨ v = 5 := by
  have h1 := k_isf_in h h0
  have e1 : (5 : Int64).toInt = 5 := by decide
  simp only [← Int32.toInt_inj, kl0, kl1, kl2, kl3, kl4, kl5]
  omega
theorem k_in6 {v : Int32} (h : ¬ v < 0) (h2 : ¬ 6 ≤ v) : vp_in v 6 := by
  rw [vp_in_iff]
  rw [Int32.lt_iff_toInt_lt, kl0] at h
  rw [Int32.le_iff_toInt_le, kl6] at h2
  omega
set_option maxHeartbeats 4000000 in
set_option maxRecDepth 100000 in
theorem c_isIn (l : Launch) (dC : Nat → ClassId) (dI : Nat → Nat → Nat) (cy : Nat → ClassId) (sq : Nat → Nat) (v a b : Int64) : k_Met l yX10_isIn cX10_isIn 6 (some .boolean) { frames := 0, cells := 0, slots := 0, locals := 0 } dC dI cy sq [.long v, .long a, .long b] [] (k_Qi dC dI (fun (r : Int32) (_ : Unit) => r = k_isf v a b) (fun _ => [])) := by
  refine k_ofW (by decide +kernel) (Nat.le_of_ble_eq_true rfl) ?_
  intro p e s m below meth c A ls H locs C0 hr hlk hin hP hD hA hS hl
  have C0 : k_cx p s m _ c cX10_isIn 6 RX10 dC dI cy sq := C0
  have hx := C0.1
  have hb := C0.2.1
  have hl : lv_has ls 6 [(0, .long v), (2, .long a), (4, .long b)] := hl
  refine lv_lload_n hx hb dX10_isIn_0 rfl (lv_at hl 0 rfl) ?_
  refine lv_lload_n hx hb dX10_isIn_1 rfl (lv_at hl 1 rfl) ?_
  refine W.lcmp hx hb dX10_isIn_2 ?_
  refine lv_if_lt (tgt := 17) hx hb dX10_isIn_3 (by decide) (fun h1 => ?_) (fun h1 => ?_)
  · refine lv_iconst (v := 0) hx hb dX10_isIn_17 (by decide) ?_
    exact k_iret hx hb hr hlk (k_nb 0 (by decide)) () hS (k_isf_a h1) hP hD (Nat.le_of_ble_eq_true rfl) (Nat.le_of_ble_eq_true rfl) dX10_isIn_18
  · refine lv_lload_n hx hb dX10_isIn_6 rfl (lv_at hl 0 rfl) ?_
    refine lv_lload hx hb dX10_isIn_7 (lv_at hl 2 rfl) ?_
    refine W.lcmp hx hb dX10_isIn_9 ?_
    refine lv_if_gt (tgt := 17) hx hb dX10_isIn_10 (by decide) (fun h2 => ?_) (fun h2 => ?_)
    · refine lv_iconst (v := 0) hx hb dX10_isIn_17 (by decide) ?_
      exact k_iret hx hb hr hlk (k_nb 0 (by decide)) () hS (k_isf_b h2) hP hD (Nat.le_of_ble_eq_true rfl) (Nat.le_of_ble_eq_true rfl) dX10_isIn_18
    · refine lv_iconst (v := 1) hx hb dX10_isIn_13 (by decide) ?_
      refine lv_goto (tgt := 18) hx hb dX10_isIn_14 (by decide) ?_
      exact k_iret hx hb hr hlk (k_nb 1 (by decide)) () hS (k_isf_c h1 h2) hP hD (Nat.le_of_ble_eq_true rfl) (Nat.le_of_ble_eq_true rfl) dX10_isIn_18
/-- Arrays.fill: the row holds something else, no more is said -/
theorem k_fill_loop {p : Program} {l : Launch} {e : Env} {R : Room} {s : State} {m : MethodId} {args : Array Value} {below : List Frame} {meth : Method} {c : Code} {Q : State → Prop} {cells slots : Nat} {A : Nat → Prop} {H0 : Heap} {dC : Nat → ClassId} {dI : Nat → Nat → Nat} {cy : Nat → ClassId} {sq : Nat → Nat} {a N : Nat} {x : Int32} (hN : N < 2 ^ 31)
    (C0 : k_cx p s m args c cJ7_fill_53178 4 RJ7 dC dI cy sq)
    (kk : ∀ (f : Nat → Int32) (H : Heap) (locs : List Loc) (ls : Array Slot), va_P (dC, dI) vwCl [(a, .inl (cy 0, N, .inl f))] H → va_D A [(a, .inl (cy 0, N, .inl f))] → va_S A H0 H locs → W p l e R s m args below meth c H locs cells slots Q (F0 m 20 ls [])) :
    ∀ (n i : Nat) (f : Nat → Int32) (H : Heap) (locs : List Loc) (ls : Array Slot), i ≤ N → N + 1 ≤ i + n → va_P (dC, dI) vwCl [(a, .inl (cy 0, N, .inl f))] H → va_D A [(a, .inl (cy 0, N, .inl f))] → va_S A H0 H locs → lv_has ls 4 [(0, .ref a), (1, .int x), (2, .int (nI i)), (3, .int (nI N))] → W p l e R s m args below meth c H locs cells slots Q (F0 m 5 ls []) := by
  have hx := C0.1
  have hb := C0.2.1
  intro n
  induction n with
  | zero => intro i f H locs ls h1 h2; exact absurd h2 (by omega)
  | succ n ih =>
    intro i f H locs ls hi hin hP hD hS hl
    refine lv_iload_n hx hb dJ7_fill_53178_5 rfl (lv_at hl 2 rfl) ?_
    refine lv_iload_n hx hb dJ7_fill_53178_6 rfl (lv_at hl 3 rfl) ?_
    refine lv_icmp_ge (tgt := 20) hx hb dJ7_fill_53178_7 (by decide) (fun _ => kk f H locs ls hP hD hS) (fun h9 => ?_)
    have hlt : i < N := by
      rcases Nat.lt_or_ge i N with q | q
      · exact q
      · exact absurd (nI_le q (by omega)) h9
    refine lv_aload_n hx hb dJ7_fill_53178_10 rfl (lv_at hl 0 rfl) ?_
    refine lv_iload_n hx hb dJ7_fill_53178_11 rfl (lv_at hl 2 rfl) ?_
    refine lv_iload_n hx hb dJ7_fill_53178_12 rfl (lv_at hl 1 rfl) ?_
    refine va_iast hx hb C0.2.2.2.2.2.1 hP hD hS 0 0 rfl rfl (vp_in_nI hlt hN) dJ7_fill_53178_13 (fun H locs hP hD hS => ?_)
    refine lv_iinc (v := nI (i + 1)) (lv' := [(2, .int (nI (i + 1))), (0, .ref a), (1, .int x), (3, .int (nI N))]) hx hb dJ7_fill_53178_14 hl (k := 2) rfl (nI_1 i) (by decide) rfl (fun ls hl => ?_)
    refine lv_goto (tgt := 5) hx hb dJ7_fill_53178_17 (by decide) ?_
    exact ih (i + 1) _ H locs ls hlt (by omega) hP hD hS (lv_sub hl [1, 2, 0, 3] rfl)
set_option maxHeartbeats 4000000 in
set_option maxRecDepth 100000 in
theorem c_fill (l : Launch) (dC : Nat → ClassId) (dI : Nat → Nat → Nat) (cy : Nat → ClassId) (sq : Nat → Nat) (a N : Nat) (f : Nat → Int32) (x : Int32) (hN : N + 1 ≤ 2147483648) : k_Met l yJ7_fill_53178 cJ7_fill_53178 4 none { frames := 0, cells := 0, slots := 0, locals := 0 } dC dI cy sq [.ref a, .int x] [(a, .inl (cy 0, N, .inl f))] (k_Qv dC dI (fun _ : Nat → Int32 => True) (fun g : Nat → Int32 => [(a, .inl (cy 0, N, .inl g))])) := by
  refine k_ofW (by decide +kernel) (Nat.le_of_ble_eq_true rfl) ?_
  intro p e s m below meth c A ls H locs C0 hr hlk hin hP hD hA hS hl
  have C0 : k_cx p s m _ c cJ7_fill_53178 4 RJ7 dC dI cy sq := C0
  have hx := C0.1
  have hb := C0.2.1
  have hl : lv_has ls 4 [(0, .ref a), (1, .int x)] := hl
  refine lv_iconst (v := 0) hx hb dJ7_fill_53178_0 (by decide) ?_
  refine lv_istore_n (lv' := [(2, .int 0), (0, .ref a), (1, .int x)]) hx hb dJ7_fill_53178_1 rfl hl (by decide) rfl (fun ls hl => ?_)
  refine lv_aload_n hx hb dJ7_fill_53178_2 rfl (lv_at hl 1 rfl) ?_
  refine va_alen hx hb C0.2.2.2.2.2.1 hP 0 0 rfl rfl (v := nI N) rfl dJ7_fill_53178_3 ?_
  refine lv_istore_n (lv' := [(3, .int (nI N)), (2, .int 0), (0, .ref a), (1, .int x)]) hx hb dJ7_fill_53178_4 rfl hl (by decide) rfl (fun ls hl => ?_)
  refine k_fill_loop (by omega) C0 (fun g H locs ls hP hD hS => ?_) (N + 1) 0 f H locs ls (Nat.zero_le N) (by omega) hP hD hS (lv_sub hl [2, 3, 1, 0] rfl)
  exact k_vret hx hb hr hlk g hS True.intro hP hD (Nat.le_of_ble_eq_true rfl) (Nat.le_of_ble_eq_true rfl) dJ7_fill_53178_20
end
